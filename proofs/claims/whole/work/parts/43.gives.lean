/-! answering debts, both at once -/
def EQ (a b : AS) : Prop := b.1 = a.1 ∧ ∀ r, r ≠ 0 → r ≠ 14 → b.2 r = a.2 r
theorem EQ_rf (a : AS) : EQ a a := ⟨rfl, fun _ _ _ => rfl⟩
theorem EQ_A {a b : AS} {r j v : Nat} (h : EQ a b) : EQ (aA a r j v) (aA b r j v) := ⟨h.1, fun c c0 c1 => by
  funext i
  rw [aA_2, aA_2, h.2 c c0 c1]⟩
theorem EQ_I {a b : AS} {k v : Nat} (h : EQ a b) : EQ (aI a k v) (aI b k v) := ⟨by
  funext j
  rw [aI_1, aI_1, h.1], h.2⟩
theorem EQ_addD {a b : AS} {x y v q : Nat} (h : EQ a b) : EQ (addD a x y v q) (addD b x y v q) := by
  unfold addD
  rw [h.1]
  exact EQ_I (EQ_A (EQ_A (EQ_A (EQ_A h))))
theorem EQ_pk {a b : AS} {x y : Nat} (h : EQ a b) : pkA b x y = pkA a x y := by
  unfold pkA
  rw [h.1, h.2 10 (by omega) (by omega), h.2 11 (by omega) (by omega), h.2 12 (by omega) (by omega), h.2 13 (by omega) (by omega)]
theorem EQ_ow {a b : AS} {x y : Nat} (h : EQ a b) : owA b x y = owA a x y := by
  unfold owA
  rw [h.1, h.2 10 (by omega) (by omega), h.2 11 (by omega) (by omega), h.2 12 (by omega) (by omega)]
theorem EQ_ct {a b : AS} {k : Nat} (h : EQ a b) (hk : k < 6) : ctm b k = ctm a k := by
  unfold ctm
  rw [h.1, h.2 2 (by omega) (by omega), h.2 (3 + k) (by omega) (by omega)]
def RG (σ τ : SS) (a b : AS) : Prop := RX σ a ∧ RM τ b ∧ RC σ τ ∧ Inv a ∧ InvB a ∧ Inv b ∧ EQ a b
/-- what answering leaves as it was -/
def AE (a a' : AS) (x y : Nat) : Prop := a'.1 = a.1 ∧ (∀ r, r ≠ 12 → a'.2 r = a.2 r) ∧ ∀ i, ¬ (a.2 10 i = x ∧ a.2 11 i = y) → a'.2 12 i = a.2 12 i
theorem AE_rf (a : AS) (x y : Nat) : AE a a x y := ⟨rfl, fun _ _ => rfl, fun _ _ => rfl⟩
theorem AE_one {a : AS} {x y j v : Nat} (hj : a.2 10 j = x ∧ a.2 11 j = y) : AE a (aA a 12 j v) x y := by
  refine ⟨rfl, fun r hr => ?_, fun i hi => ?_⟩
  · funext i
    rw [aA_2, if_neg (fun z => hr z.1)]
  · rw [aA_2, if_neg (fun z => hi (by rw [z.2]; exact hj))]
theorem AE_tr {a b c : AS} {x y : Nat} (h : AE a b x y) (g : AE b c x y) : AE a c x y := by
  refine ⟨g.1.trans h.1, fun r hr => (g.2.1 r hr).trans (h.2.1 r hr), fun i hi => ?_⟩
  rw [g.2.2 i (by rw [h.2.1 10 (by omega), h.2.1 11 (by omega)]; exact hi), h.2.2 i hi]
def cnS (dx dw dl : Nat → Nat) (x y : Nat) : Nat → Nat
  | 0 => 0
  | k + 1 => cnS dx dw dl x y k + (if dl k ≠ 0 ∧ dx k = x ∧ dw k = y then 1 else 0)
def cnA (a : AS) (x y : Nat) : Nat := cnS (a.2 10) (a.2 11) (a.2 12) x y (a.1 4)
theorem cnS_le (dx dw dl : Nat → Nat) (x y k : Nat) : cnS dx dw dl x y k ≤ k := by
  induction k with
  | zero => exact Nat.le_refl _
  | succ k ih =>
    show cnS dx dw dl x y k + (if dl k ≠ 0 ∧ dx k = x ∧ dw k = y then 1 else 0) ≤ k + 1
    split <;> omega
theorem cnS_congr {dx dw dl dl' : Nat → Nat} {x y k : Nat} (h : ∀ i, i < k → dl' i = dl i) : cnS dx dw dl' x y k = cnS dx dw dl x y k := by
  induction k with
  | zero => rfl
  | succ k ih =>
    show cnS dx dw dl' x y k + (if dl' k ≠ 0 ∧ dx k = x ∧ dw k = y then 1 else 0) = cnS dx dw dl x y k + (if dl k ≠ 0 ∧ dx k = x ∧ dw k = y then 1 else 0)
    rw [ih (fun i hi => h i (by omega)), h k (by omega)]
theorem cnS_set {dx dw dl dl' : Nat → Nat} {x y j k : Nat} (hd : ∀ i, i ≠ j → dl' i = dl i) (hv : dl' j = 0) (hj : j < k) (ho : dl j ≠ 0 ∧ dx j = x ∧ dw j = y) : cnS dx dw dl' x y k + 1 = cnS dx dw dl x y k := by
  induction k with
  | zero => omega
  | succ k ih =>
    show cnS dx dw dl' x y k + (if dl' k ≠ 0 ∧ dx k = x ∧ dw k = y then 1 else 0) + 1 = cnS dx dw dl x y k + (if dl k ≠ 0 ∧ dx k = x ∧ dw k = y then 1 else 0)
    by_cases e : j = k
    · subst e
      rw [cnS_congr (fun i hi => hd i (by omega)), if_neg (fun z => z.1 hv), if_pos ho]
    · rw [hd k (fun z => e z.symm)]
      have := ih (by omega)
      omega
theorem owS_congr {dx dw dl dl' : Nat → Nat} {x y k : Nat} (h : ∀ i, i < k → dl' i = dl i) : owS dx dw dl' x y k = owS dx dw dl x y k := by
  induction k with
  | zero => rfl
  | succ k ih =>
    show owS dx dw dl' x y k + (if dx k = x ∧ dw k = y then dl' k else 0) = owS dx dw dl x y k + (if dx k = x ∧ dw k = y then dl k else 0)
    rw [ih (fun i hi => h i (by omega)), h k (by omega)]
theorem owS_set {dx dw dl dl' : Nat → Nat} {x y j k : Nat} (hd : ∀ i, i ≠ j → dl' i = dl i) (hj : j < k) (ho : dx j = x ∧ dw j = y) : owS dx dw dl' x y k + dl j = owS dx dw dl x y k + dl' j := by
  induction k with
  | zero => omega
  | succ k ih =>
    show owS dx dw dl' x y k + (if dx k = x ∧ dw k = y then dl' k else 0) + dl j = owS dx dw dl x y k + (if dx k = x ∧ dw k = y then dl k else 0) + dl' j
    by_cases e : j = k
    · subst e
      rw [owS_congr (fun i hi => hd i (by omega)), if_pos ho, if_pos ho]
      omega
    · rw [hd k (fun z => e z.symm)]
      have := ih (by omega)
      omega
theorem owS_zero {dx dw dl : Nat → Nat} {x y k : Nat} (h : ∀ i, i < k → ¬ (dl i ≠ 0 ∧ dx i = x ∧ dw i = y)) : owS dx dw dl x y k = 0 := by
  induction k with
  | zero => rfl
  | succ k ih =>
    show owS dx dw dl x y k + (if dx k = x ∧ dw k = y then dl k else 0) = 0
    rw [ih (fun i hi => h i (by omega))]
    by_cases o : dx k = x ∧ dw k = y
    · rw [if_pos o]
      have := h k (by omega)
      by_cases z : dl k = 0
      · omega
      · exact absurd ⟨z, o⟩ this
    · rw [if_neg o]
theorem owS_other {dx dw dl dl' : Nat → Nat} {x y k : Nat} (h : ∀ i, i < k → dx i = x ∧ dw i = y → dl' i = dl i) : owS dx dw dl' x y k = owS dx dw dl x y k := by
  induction k with
  | zero => rfl
  | succ k ih =>
    show owS dx dw dl' x y k + (if dx k = x ∧ dw k = y then dl' k else 0) = owS dx dw dl x y k + (if dx k = x ∧ dw k = y then dl k else 0)
    rw [ih (fun i hi => h i (by omega))]
    by_cases o : dx k = x ∧ dw k = y
    · rw [if_pos o, if_pos o, h k (by omega) o]
    · rw [if_neg o, if_neg o]
theorem aA12 (a : AS) (j v : Nat) : (aA a 12 j v).2 12 j = v := by rw [aA_2, if_pos ⟨rfl, rfl⟩]
theorem aA12n (a : AS) (j v i : Nat) (h : i ≠ j) : (aA a 12 j v).2 12 i = a.2 12 i := by rw [aA_2, if_neg (fun z => h z.2)]
theorem owA_set {a : AS} {x y j v : Nat} (hj : j < a.1 4) (ho : a.2 10 j = x ∧ a.2 11 j = y) : owA (aA a 12 j v) x y + a.2 12 j = owA a x y + v := by
  have h := owS_set (dx := a.2 10) (dw := a.2 11) (dl := a.2 12) (dl' := (aA a 12 j v).2 12) (k := a.1 4) (fun i hi => aA12n a j v i hi) hj ho
  rw [aA12] at h
  exact h
theorem cnA_set {a : AS} {x y j : Nat} (hj : j < a.1 4) (ho : a.2 12 j ≠ 0 ∧ a.2 10 j = x ∧ a.2 11 j = y) : cnA (aA a 12 j 0) x y + 1 = cnA a x y :=
  cnS_set (dx := a.2 10) (dw := a.2 11) (dl := a.2 12) (dl' := (aA a 12 j 0).2 12) (k := a.1 4) (fun i hi => aA12n a j 0 i hi) (aA12 a j 0) hj ho
theorem ans_r0 {fu : Nat} {σ τ : SS} (fuel : Nat) (hf : 1 ≤ fuel) (x y n k z : Int32) (made : Int64) : loopN (fun k6 σ x => f_X3_answer_6 fu k6 σ x.1 x.2.1 x.2.2.1 x.2.2.2.1 x.2.2.2.2) fuel σ (x, y, n, nI 0, k) = some (n - nI 0, σ) ∧ loopN (fun k22 σ x => f_X8_gives_22 fu k22 σ x.1 x.2.1 x.2.2.1 x.2.2.2.1 x.2.2.2.2.1 x.2.2.2.2.2) fuel τ (x, y, n, made, lN 0, z) = f_X8_gives_91 fu τ x y n made (lN 0) := by
  obtain ⟨f, rfl⟩ : ∃ f, fuel = f + 1 := ⟨fuel - 1, by omega⟩
  constructor
  · show f_X3_answer_6 fu _ σ x y n (nI 0) k = _
    rw [f_X3_answer_6]
    split
    · rfl
    · rw [if_pos (by decide)]
  · show f_X8_gives_22 fu _ τ x y n made (lN 0) z = _
    rw [f_X8_gives_22, if_pos (by decide)]
theorem ans_both {fu x y n : Nat} (hfu : 1000 ≤ fu) (made : Int64) : ∀ (c fuel k r : Nat) (σ τ : SS) (a b : AS), RG σ τ a b → x < a.1 0 → y < a.1 0 → cnA a x y < c → (r ≠ 0 → k + cnA a x y ≤ a.1 4) → k ≤ 400 → c + 1 ≤ fuel → r < 2147483648 → ∃ (r' : Nat) (σ' τ' : SS) (a' b' : AS), loopN (fun k6 σ x => f_X3_answer_6 fu k6 σ x.1 x.2.1 x.2.2.1 x.2.2.2.1 x.2.2.2.2) fuel σ (nI x, nI y, nI n, nI r, nI k) = some (nI n - nI r', σ') ∧ loopN (fun k22 σ x => f_X8_gives_22 fu k22 σ x.1 x.2.1 x.2.2.1 x.2.2.2.1 x.2.2.2.2.1 x.2.2.2.2.2) fuel τ (nI x, nI y, nI n, made, lN r, pkA a x y) = f_X8_gives_91 fu τ' (nI x) (nI y) (nI n) made (lN r') ∧ RG σ' τ' a' b' ∧ AE a a' x y ∧ AE b b' x y ∧ r' = r - owA a x y ∧ τ'.1 = τ.1 := by
  intro c
  induction c with
  | zero =>
    intro fuel k r σ τ a b hR hx hy hc
    omega
  | succ c ih =>
    intro fuel k r σ τ a b hR hx hy hc hk hk4 hf hr
    by_cases r0 : r = 0
    · subst r0
      obtain ⟨e1, e2⟩ := ans_r0 (fu := fu) (σ := σ) (τ := τ) fuel (by omega) (nI x) (nI y) (nI n) (nI k) (pkA a x y) made
      exact ⟨0, σ, τ, a, b, e1, e2, hR, AE_rf a x y, AE_rf b x y, by omega, rfl⟩
    obtain ⟨f, rfl⟩ : ∃ f, fuel = f + 1 := ⟨fuel - 1, by omega⟩
    obtain ⟨h1, hM, h3, h4, h5, h6, hE⟩ := hR
    have hd : a.1 4 ≤ 400 := h4.2.2.2.2.1
    have hn : a.1 0 ≤ 12 := h4.1
    have hb4 : b.1 4 = a.1 4 := by rw [hE.1]
    have hb0 : b.1 0 = a.1 0 := by rw [hE.1]
    show ∃ (r' : Nat) (σ' τ' : SS) (a' b' : AS), f_X3_answer_6 fu (loopN (fun k6 σ x => f_X3_answer_6 fu k6 σ x.1 x.2.1 x.2.2.1 x.2.2.2.1 x.2.2.2.2) f) σ (nI x) (nI y) (nI n) (nI r) (nI k) = some (nI n - nI r', σ') ∧ f_X8_gives_22 fu (loopN (fun k22 σ x => f_X8_gives_22 fu k22 σ x.1 x.2.1 x.2.2.1 x.2.2.2.1 x.2.2.2.2.1 x.2.2.2.2.2) f) τ (nI x) (nI y) (nI n) made (lN r) (pkA a x y) = f_X8_gives_91 fu τ' (nI x) (nI y) (nI n) made (lN r') ∧ RG σ' τ' a' b' ∧ AE a a' x y ∧ AE b b' x y ∧ r' = r - owA a x y ∧ τ'.1 = τ.1
    have hrM : ¬ lg_cmp (lN r) 0 ≤ 0 := fun z => by have := (lc_le (b := 0) (by omega) (by omega)).mp z; omega
    have hrX : ¬ nI r ≤ 0 := fun z => by have := (nI_leI (b := 0) (by omega) (by omega)).mp z; omega
    rcases pickS_cases (a.2 10) (a.2 11) (a.2 12) (a.2 13) x y (a.1 4) with ⟨e, hz⟩ | ⟨j, hj, e, oj⟩
    · have ep : pkA a x y = -1 := e
      have ow0 : owA a x y = 0 := owS_zero hz
      refine ⟨r, σ, τ, a, b, ?_, ?_, ⟨h1, hM, h3, h4, h5, h6, hE⟩, AE_rf a x y, AE_rf b x y, by omega, rfl⟩
      · rw [f_X3_answer_6, X_first hfu h1 h4 hx hy, bnd1_some, if_neg hrX, if_pos ep]
        split <;> rfl
      · rw [f_X8_gives_22, if_neg hrM, ep, if_pos (by decide)]
    · have ep : pkA a x y = nI j := e
      obtain ⟨s1, s2, s3, s4⟩ := h1.2.2.2.1 j hj
      obtain ⟨t1, t2, t3, t4, t5⟩ := hM.2.2.2.1 j (by omega)
      obtain ⟨g1, g2, g3, g4⟩ := h4.2.2.2.2.2.2.2.1 j hj
      have t3' : τ.2.2 17 j = lN (a.2 12 j) := by rw [t3, hE.2 12 (by omega) (by omega)]
      have hin : inB (nI j) 400 := (q_in (by omega)).mpr (by omega)
      have hcn := cnA_set hj oj
      have hks := hk r0
      have key : ∀ p : Nat, p = (if a.2 12 j < r then a.2 12 j else r) → p ≤ a.2 12 j → p ≤ r → f_X3_answer_6 fu (loopN (fun k6 σ x => f_X3_answer_6 fu k6 σ x.1 x.2.1 x.2.2.1 x.2.2.2.1 x.2.2.2.2) f) σ (nI x) (nI y) (nI n) (nI r) (nI k) = loopN (fun k6 σ x => f_X3_answer_6 fu k6 σ x.1 x.2.1 x.2.2.1 x.2.2.2.1 x.2.2.2.2) f (sA σ 24 j (nI (a.2 12 j - p))) (nI x, nI y, nI n, nI (r - p), nI (k + 1)) ∧ f_X8_gives_22 fu (loopN (fun k22 σ x => f_X8_gives_22 fu k22 σ x.1 x.2.1 x.2.2.1 x.2.2.2.1 x.2.2.2.2.1 x.2.2.2.2.2) f) τ (nI x) (nI y) (nI n) made (lN r) (pkA a x y) = loopN (fun k22 σ x => f_X8_gives_22 fu k22 σ x.1 x.2.1 x.2.2.1 x.2.2.2.1 x.2.2.2.2.1 x.2.2.2.2.2) f (sL τ 17 j (lN (a.2 12 j - p))) (nI x, nI y, nI n, made, lN (r - p), pkA (aA a 12 j (a.2 12 j - p)) x y) ∧ RG (sA σ 24 j (nI (a.2 12 j - p))) (sL τ 17 j (lN (a.2 12 j - p))) (aA a 12 j (a.2 12 j - p)) (aA b 12 j (a.2 12 j - p)) := by
        intro p hp hp1 hp2
        have hM' : RM (sL τ 17 j (lN (a.2 12 j - p))) (aA b 12 j (a.2 12 j - p)) := RM_dl hM
        have h6' : Inv (aA b 12 j (a.2 12 j - p)) := Inv_dl h6 (by omega)
        have hE' : EQ (aA a 12 j (a.2 12 j - p)) (aA b 12 j (a.2 12 j - p)) := EQ_A hE
        refine ⟨?_, ?_, RX_dl h1, hM', RC_eq h3 rfl rfl rfl rfl rfl rfl, Inv_dl h4 (by omega), InvB_ne h5 (by omega), h6', hE'⟩
        · have epX : (if nI (a.2 12 j) < nI r then nI (a.2 12 j) else nI r) = nI p := by
            rw [hp]
            by_cases q : a.2 12 j < r
            · rw [if_pos ((nI_ltI (by omega) (by omega)).mpr q), if_pos q]
            · rw [if_neg (fun z => q ((nI_ltI (by omega) (by omega)).mp z)), if_neg q]
          rw [f_X3_answer_6, h1.1.2.2.2.2.1, if_neg (fun z => by have := (q_le (by omega) (by omega)).mp z; omega), if_neg hrX, X_first hfu h1 h4 hx hy, bnd1_some, ep, if_neg (q_m1 (by omega)), if_pos hin, q_cl (by omega), s3, epX, q_sub hp1, q_sub hp2, q_inc]
        · have e59 : ∀ w : Int64, w = lN p → f_X8_gives_59 fu (loopN (fun k22 σ x => f_X8_gives_22 fu k22 σ x.1 x.2.1 x.2.2.1 x.2.2.2.1 x.2.2.2.2.1 x.2.2.2.2.2) f) τ (nI x) (nI y) (nI n) made (lN r) (nI j) w = loopN (fun k22 σ x => f_X8_gives_22 fu k22 σ x.1 x.2.1 x.2.2.1 x.2.2.2.1 x.2.2.2.2.1 x.2.2.2.2.2) f (sL τ 17 j (lN (a.2 12 j - p))) (nI x, nI y, nI n, made, lN (r - p), pkA (aA a 12 j (a.2 12 j - p)) x y) := by
            rintro w rfl
            rw [f_X8_gives_59, if_pos hin, q_cl (by omega), t3', lN_sub hp1, lN_sub hp2, M_next hfu hM' h6' (by show x < b.1 0; omega) (by show y < b.1 0; omega), bnd1_some, EQ_pk hE']
          rw [f_X8_gives_22, if_neg hrM, ep, if_neg (q_neg (by omega)), if_pos hin, q_cl (by omega), t3']
          by_cases q : a.2 12 j < r
          · rw [if_neg (fun z => by have := (lc_ge (by omega) (by omega)).mp z; omega), e59 _ (by rw [hp, if_pos q])]
          · rw [if_pos ((lc_ge (by omega) (by omega)).mpr (by omega)), e59 _ (by rw [hp, if_neg q])]
      have hbo : b.2 10 j = x ∧ b.2 11 j = y := by
        rw [hE.2 10 (by omega) (by omega), hE.2 11 (by omega) (by omega)]
        exact oj.2
      by_cases q : r < a.2 12 j
      · obtain ⟨k1, k2, k3⟩ := key r (by rw [if_neg (by omega)]) (by omega) (by omega)
        rw [k1, k2, Nat.sub_self]
        obtain ⟨e1, e2⟩ := ans_r0 (fu := fu) (σ := sA σ 24 j (nI (a.2 12 j - r))) (τ := sL τ 17 j (lN (a.2 12 j - r))) f (by omega) (nI x) (nI y) (nI n) (nI (k + 1)) (pkA (aA a 12 j (a.2 12 j - r)) x y) made
        have ow := owA_set (v := 0) hj oj.2
        exact ⟨0, _, _, _, _, e1, e2, k3, AE_one oj.2, AE_one hbo, by omega, rfl⟩
      · obtain ⟨k1, k2, k3⟩ := key (a.2 12 j) (by by_cases w : a.2 12 j < r; rw [if_pos w]; rw [if_neg w]; omega) (by omega) (by omega)
        rw [k1, k2]
        rw [Nat.sub_self] at k3 ⊢
        have ow := owA_set (v := 0) hj oj.2
        obtain ⟨r', σ', τ', a', b', r1, r2, r3, r4, r5, r6, r7⟩ := ih f (k + 1) (r - a.2 12 j) _ _ _ _ k3 hx hy (by omega) (fun _ => by show k + 1 + cnA (aA a 12 j 0) x y ≤ a.1 4; omega) (by omega) (by omega) (by omega)
        exact ⟨r', σ', τ', a', b', r1, r2, r3, AE_tr (AE_one oj.2) r4, AE_tr (AE_one hbo) r5, by omega, r7⟩
/-- what giving leaves as it was, for the giver x and the taker y -/
def GE (a a' : AS) (x y n : Nat) : Prop := (∀ k, k ≠ 4 → a'.1 k = a.1 k) ∧ a'.1 4 = a.1 4 + (if ask (ctm a 0) (ctm a 1) (n - owA a x y) = 0 then 0 else 1) ∧ (∀ r, r < 10 ∨ 14 ≤ r → a'.2 r = a.2 r) ∧ ∀ z, z ≠ y → owA a' x z = owA a x z
theorem GE_ct {a a' : AS} {x y n k : Nat} (h : GE a a' x y n) (hk : k < 6) : ctm a' k = ctm a k := by
  unfold ctm
  rw [h.1 1 (by omega), h.1 3 (by omega), h.2.2.1 2 (by omega), h.2.2.1 (3 + k) (by omega)]
theorem AE_ct {a a' : AS} {x y k : Nat} (h : AE a a' x y) (hk : k < 6) : ctm a' k = ctm a k := by
  unfold ctm
  rw [h.1, h.2.1 2 (by omega), h.2.1 (3 + k) (by omega)]
theorem AE_ow {a a' : AS} {x y z : Nat} (h : AE a a' x y) (hz : z ≠ y) : owA a' x z = owA a x z := by
  unfold owA
  rw [h.1, h.2.1 10 (by omega), h.2.1 11 (by omega)]
  exact owS_other (fun i _ o => h.2.2 i (fun w => hz (o.2.symm.trans w.2)))
theorem addD_ow {a : AS} {u v w q x z : Nat} (hu : u ≠ x) : owA (addD a u v w q) x z = owA a x z := by
  have e1 : ∀ i, i < a.1 4 → (addD a u v w q).2 10 i = a.2 10 i ∧ (addD a u v w q).2 11 i = a.2 11 i ∧ (addD a u v w q).2 12 i = a.2 12 i := by
    intro i hi
    have hne : i ≠ a.1 4 := by omega
    refine ⟨?_, ?_, ?_⟩ <;> simp [addD, aI_2, aA_2, aA_1, hne]
  have e2 : (addD a u v w q).2 10 (a.1 4) = u := by simp [addD, aI_2, aA_2, aA_1]
  have key : ∀ k, k ≤ a.1 4 → owS ((addD a u v w q).2 10) ((addD a u v w q).2 11) ((addD a u v w q).2 12) x z k = owS (a.2 10) (a.2 11) (a.2 12) x z k := by
    intro k
    induction k with
    | zero => intro _; rfl
    | succ k ih =>
      intro hk
      obtain ⟨f1, f2, f3⟩ := e1 k (by omega)
      show owS _ _ _ x z k + (if (addD a u v w q).2 10 k = x ∧ (addD a u v w q).2 11 k = z then (addD a u v w q).2 12 k else 0) = owS (a.2 10) (a.2 11) (a.2 12) x z k + (if a.2 10 k = x ∧ a.2 11 k = z then a.2 12 k else 0)
      rw [ih (by omega), f1, f2, f3]
  show owS ((addD a u v w q).2 10) ((addD a u v w q).2 11) ((addD a u v w q).2 12) x z (a.1 4 + 1) = owS (a.2 10) (a.2 11) (a.2 12) x z (a.1 4)
  show owS ((addD a u v w q).2 10) ((addD a u v w q).2 11) ((addD a u v w q).2 12) x z (a.1 4) + (if (addD a u v w q).2 10 (a.1 4) = x ∧ (addD a u v w q).2 11 (a.1 4) = z then (addD a u v w q).2 12 (a.1 4) else 0) = owS (a.2 10) (a.2 11) (a.2 12) x z (a.1 4)
  rw [key _ (Nat.le_refl _), e2, if_neg (fun y => hu y.1)]
  rfl
theorem addD_1 {a : AS} {u v w q k : Nat} (hk : k ≠ 4) : (addD a u v w q).1 k = a.1 k := by
  show (if k = 4 then a.1 4 + 1 else a.1 k) = a.1 k
  rw [if_neg hk]
theorem addD_2 {a : AS} {u v w q r : Nat} (hr : r < 10 ∨ 14 ≤ r) : (addD a u v w q).2 r = a.2 r := by
  funext i
  have n0 : ¬ r = 10 := by omega
  have n1 : ¬ r = 11 := by omega
  have n2 : ¬ r = 12 := by omega
  have n3 : ¬ r = 13 := by omega
  simp [addD, aI_2, aA_2, n0, n1, n2, n3]
theorem gives_both {fu x y n : Nat} (hfu : 1000 ≤ fu) {σ τ : SS} {a b : AS} (hR : RG σ τ a b) (hx : x < a.1 0) (hy : y < a.1 0) (hxy : x ≠ y) (hn : n < 2147483648) (hroom : ask (ctm a 0) (ctm a 1) (n - owA a x y) ≠ 0 → a.1 4 < 400) : ∃ (v : Int32) (σ' τ' : SS) (a' b' : AS), f_X7_recordGiven fu σ (nI x) (nI y) (nI n) = some (v, σ') ∧ f_X8_gives fu τ (nI x) (nI y) (nI n) = some (v, τ') ∧ RG σ' τ' a' b' ∧ GE a a' x y n ∧ (∀ r, r < 10 ∨ 14 ≤ r → b'.2 r = b.2 r) ∧ τ'.1 0 = τ.1 0 := by
  have hd : a.1 4 ≤ 400 := hR.2.2.2.1.2.2.2.2.1
  have hn0 : a.1 0 ≤ 12 := hR.2.2.2.1.1
  have hE := hR.2.2.2.2.2.2
  have hb0 : b.1 0 = a.1 0 := by rw [hE.1]
  have hcn : cnA a x y ≤ a.1 4 := cnS_le _ _ _ _ _ _
  obtain ⟨r', σ1, τ1, a1, b1, x1, m1, R1, AE1, BE1, hr', ht⟩ := ans_both (n := n) hfu (lN (ask (ctm a 0) (ctm a 1) (n - owA a x y))) (cnA a x y + 1) fu 0 n σ τ a b hR hx hy (by omega) (fun _ => by omega) (by omega) (by omega) hn
  obtain ⟨h1, hM, h3, h4, h5, h6, hE1⟩ := R1
  have x1' : f_X3_answer fu σ (nI x) (nI y) (nI n) = some (nI (n - r'), σ1) := by
    unfold f_X3_answer f_X3_answer_L6
    rw [← q_sub (show r' ≤ n by omega)]
    exact x1
  have m1' : f_X8_gives fu τ (nI x) (nI y) (nI n) = f_X8_gives_91 fu τ1 (nI x) (nI y) (nI n) (lN (ask (ctm a 0) (ctm a 1) (n - owA a x y))) (lN r') := by
    unfold f_X8_gives f_X8_gives_L22
    rw [nI_l (by omega), M_made hfu hR.2.1 hR.2.2.2.2.2.1 (by omega) (by omega) hn, bnd1_some, EQ_ct hE (by omega), EQ_ct hE (by omega), EQ_ow hE, M_next hfu hR.2.1 hR.2.2.2.2.2.1 (by omega) (by omega), bnd1_some, EQ_pk hE]
    exact m1
  have hA := ask_le (ctm a 0) (ctm a 1) (n - owA a x y)
  have c0 := AE_ct AE1 (k := 0) (by omega)
  have c1 := AE_ct AE1 (k := 1) (by omega)
  have c2 := AE_ct AE1 (k := 2) (by omega)
  have d0 : b1.1 = a1.1 := hE1.1
  have d1 : a1.1 = a.1 := AE1.1
  have hinx : inB (nI x) 12 := (q_in (by omega)).mpr (by omega)
  have hX2 : RX (sL σ1 20 x (σ1.2.2 20 x + (nI n).toInt64)) a1 := RX_fame h1
  have eF : f_X2_inForce fu (sL σ1 20 x (σ1.2.2 20 x + (nI n).toInt64)) (σ1.1 0) = some (frc a1) := X_force hfu hX2 h4
  have e9 : nI n - nI (n - r') = nI r' := by rw [q_sub (by omega), show n - (n - r') = r' by omega]
  have e7 : nI n - (lN r').toInt32 = nI (n - r') := by rw [lN_i, q_sub (by omega)]
  have eAsk : f_X2_askedFor fu (sL σ1 20 x (σ1.2.2 20 x + (nI n).toInt64)) (frc a1) ((nI n - nI (n - r')).toInt64) = some (nI (ask (ctm a 0) (ctm a 1) (n - owA a x y))) := by
    rw [e9, nI_l (show r' < 2 ^ 31 by omega), X_asked hX2 h4 (by omega), c0, c1, hr']
  have eFa : σ1.2.2 20 x = τ1.2.2 2 x := h3.1 x (by omega)
  by_cases hz : ask (ctm a 0) (ctm a 1) (n - owA a x y) = 0
  · refine ⟨nI (n - r'), sL σ1 20 x (σ1.2.2 20 x + (nI n).toInt64), sL τ1 2 x (τ1.2.2 2 x + (nI n).toInt64), a1, b1, ?_, ?_, ⟨hX2, RM_fame hM, ?_, h4, h5, h6, hE1⟩, ⟨fun k _ => by rw [d1], by rw [d1, if_pos hz]; rfl, fun r hr => AE1.2.1 r (by omega), fun z hz => AE_ow AE1 hz⟩, fun r hr => BE1.2.1 r (by omega), ?_⟩
    · rw [f_X7_recordGiven, x1', bnd_some, if_pos hinx, q_cl (by omega), eF, bnd1_some, eAsk, bnd1_some, hz, if_pos (by decide)]
    · rw [m1', f_X8_gives_91, hz, if_pos (by decide), f_X8_gives_117, if_pos hinx, q_cl (by omega), e7]
    · rw [eFa]
      exact RC_fame h3
    · show τ1.1 0 = τ.1 0
      rw [ht]
  · have hq : ctm a 1 ≠ 0 := fun z => hz (by rw [z, ask, if_pos rfl])
    have hw : ctm a 2 ≤ 1000 := ctm_le hR.2.2.2.1 (by omega)
    have hnow : a1.1 1 ≤ 1000 := h4.2.1
    have hroom' := hroom hz
    have t2 : f_X8_term fu τ1 (2 : Int32) = some (nI (ctm a 2)) := by
      have := M_term (k := 2) hfu hM h6 (by omega)
      rw [EQ_ct hE1 (by omega), c2] at this
      exact this
    have e1w : σ1.1 0 + nI (ctm a 2) = nI (a1.1 1 + ctm a 2 + 1) - 1 := by
      rw [h1.1.2.1, q_add, q_dec (by omega)]
      rfl
    have e2w : τ1.1 5 + nI (ctm a 2) = nI (a1.1 1 + ctm a 2 + 1) - 1 := by
      rw [hM.1.2.1, q_add, q_dec (by omega), d0]
      rfl
    have hX3 := RX_addD (x := y) (y := x) (v := ask (ctm a 0) (ctm a 1) (n - owA a x y)) (q := a1.1 1 + ctm a 2 + 1) hX2
    have hM3 := RM_addD (x := y) (y := x) (v := ask (ctm a 0) (ctm a 1) (n - owA a x y)) (q := a1.1 1 + ctm a 2 + 1) (z := 0) (by rw [if_neg (by omega)]) hM
    refine ⟨nI (n - r'), _, _, _, _, ?_, ?_, ⟨hX3, RM_fame (j := x) (v := τ1.2.2 2 x + (nI n).toInt64) hM3, ?_, Inv_addD h4 (by rw [d1]; exact hroom') (by rw [d1]; exact hy) (by rw [d1]; exact hx) hA (by omega), InvB_addD h5, Inv_addD h6 (by rw [d0, d1]; exact hroom') (by rw [d0, d1]; exact hy) (by rw [d0, d1]; exact hx) hA (by omega), EQ_addD hE1⟩, ⟨fun k hk => by rw [addD_1 hk, d1], ?_, fun r hr => by rw [addD_2 hr]; exact AE1.2.1 r (by omega), fun z hz => by rw [addD_ow (fun w => hxy w.symm)]; exact AE_ow AE1 hz⟩, fun r hr => by rw [addD_2 hr]; exact BE1.2.1 r (by omega), ?_⟩
    · have e15 : (sL σ1 20 x (σ1.2.2 20 x + (nI n).toInt64)).1 15 = nI (a1.1 4) := hX2.1.2.2.2.2.1
      rw [f_X7_recordGiven, x1', bnd_some, if_pos hinx, q_cl (by omega), eF, bnd1_some, eAsk, bnd1_some, if_neg (fun z => hz ((q_le0 (by omega)).mp z)), X_years hX2 h4 (by rw [c1]; exact hq), bnd1_some, c2, f_X3_add, e15, if_pos ((q_in (by rw [d1]; omega)).mpr (by rw [d1]; omega)), bnd_some, q_cl (by rw [d1]; omega), q_inc, e1w]
    · have e20 : τ1.1 20 = nI (a1.1 4) := by rw [← d0]; exact hM.1.2.2.2.2.1
      rw [m1', f_X8_gives_91, if_neg (fun z => by have := (lc_le (b := 0) (by omega) (by omega)).mp z; omega), t2, bnd1_some, f_X8_owe, e20, if_pos ((q_in (by rw [d1]; omega)).mpr (by rw [d1]; omega)), q_cl (by rw [d1]; omega), if_pos rfl, f_X8_owe_60, if_pos ((q_in (by rw [d1]; omega)).mpr (by rw [d1]; omega)), q_cl (by rw [d1]; omega), bnd_some, f_X8_gives_117, if_pos hinx, q_cl (by omega), e7, e2w, vz0]
      have e21 : (sA (sL (sA (sA τ1 15 (a1.1 4) (nI y)) 16 (a1.1 4) (nI x)) 17 (a1.1 4) (lN (ask (ctm a 0) (ctm a 1) (n - owA a x y)))) 18 (a1.1 4) 0).1 20 = nI (a1.1 4) := e20
      rw [e21, q_inc, d0]
      rfl
    · have c := RC_fame (j := x) (v := τ1.2.2 2 x + (nI n).toInt64) h3
      rw [eFa]
      exact RC_eq c rfl rfl rfl rfl rfl rfl
    · rw [if_neg hz]
      show a1.1 4 + 1 = a.1 4 + 1
      rw [d1]
    · show τ1.1 0 = τ.1 0
      rw [ht]

/-! calling in; gather and hold -/
theorem RX_XF {σ σ' : SS} {a : AS} (h : RX σ a) (q : XF σ σ') : RX σ' a := RX_eq h (fun k _ => by rw [q.1]) (fun r _ h2 _ => q.2.1 r (by omega))
theorem RM_MF {τ τ' : SS} {a : AS} (h : RM τ a) (q : MF τ τ') : RM τ' a := RM_eq h (fun k hk => q.1 k (by omega)) (fun r hr _ => q.2.1 r (by omega)) (q.2.2 17 (by omega))
theorem RC_XM {σ τ σ' τ' : SS} (h : RC σ τ) (q : XF σ σ') (p : MF τ τ') : RC σ' τ' := RC_eq h (by rw [q.1]) (q.2.1 10 (by omega)) (q.2.2 20 (by omega)) (p.1 11 (by omega)) (p.2.1 6 (by omega)) (p.2.2 2 (by omega))
def inD (a : AS) (y : Int32) (k : Nat) : Prop := a.2 13 k = 0 ∨ ¬ y < nI (a.2 13 k) - 1
noncomputable def cpS (a : AS) (y : Int32) : Nat → Nat → Nat → Nat
  | 0 => fun _ _ => 0
  | k + 1 => fun i j => cpS a y k i j + (if i = a.2 10 k ∧ j = a.2 11 k ∧ (a.2 13 k = 0 ∨ ¬ y < nI (a.2 13 k) - 1) then a.2 12 k else 0)
theorem cpS_s (a : AS) (y : Int32) (k i j : Nat) : cpS a y (k + 1) i j = cpS a y k i j + (if i = a.2 10 k ∧ j = a.2 11 k ∧ (a.2 13 k = 0 ∨ ¬ y < nI (a.2 13 k) - 1) then a.2 12 k else 0) := rfl
theorem cpS_le {a : AS} (h4 : Inv a) (y : Int32) (i j : Nat) : ∀ k, k ≤ a.1 4 → cpS a y k i j ≤ 1000000000 * k := by
  intro k
  induction k with
  | zero => intro _; exact Nat.le_refl _
  | succ k ih =>
    intro hk
    have h1 := ih (by omega)
    have h2 := (h4.2.2.2.2.2.2.2.1 k (by omega)).2.2.1
    rw [cpS_s]
    split <;> omega
theorem cpS_z {a : AS} (h4 : Inv a) (y : Int32) (i j : Nat) (h : a.1 0 ≤ i ∨ a.1 0 ≤ j) : ∀ k, k ≤ a.1 4 → cpS a y k i j = 0 := by
  intro k
  induction k with
  | zero => intro _; rfl
  | succ k ih =>
    intro hk
    obtain ⟨g1, g2, g3, g4⟩ := h4.2.2.2.2.2.2.2.1 k (by omega)
    rw [cpS_s, ih (by omega), if_neg (fun z => by have := z.1; have := z.2.1; omega)]
theorem cx_in {fu i : Nat} (hi : i < 12) (k3 : SS → (Int32 × Int32) → Option (Unit × SS)) (y : Int32) : ∀ (m j fuel : Nat) (σ : SS), j + m = 12 → m < fuel → (∀ k, k < j → σ.2.2 (40 + i) k = lN 0) → ∃ σ' : SS, loopN (fun k28 σ x => f_X4_callIn_28 fu k3 k28 σ x.1 x.2.1 x.2.2) fuel σ (y, nI i, nI j) = k3 σ' (y, nI (i + 1)) ∧ (∀ k, k < 12 → σ'.2.2 (40 + i) k = lN 0) ∧ (∀ r, r ≠ 40 + i → σ'.2.2 r = σ.2.2 r) ∧ σ'.1 = σ.1 ∧ σ'.2.1 = σ.2.1 := by
  intro m
  induction m with
  | zero =>
    intro j fuel σ hj hf h
    obtain ⟨f, rfl⟩ : ∃ f, fuel = f + 1 := ⟨fuel - 1, by omega⟩
    have hj12 : j = 12 := by omega
    subst hj12
    refine ⟨σ, ?_, h, fun _ _ => rfl, rfl, rfl⟩
    show f_X4_callIn_28 fu k3 _ σ y (nI i) (nI 12) = _
    rw [f_X4_callIn_28, if_pos (by decide), q_inc]
  | succ m ih =>
    intro j fuel σ hj hf h
    obtain ⟨f, rfl⟩ : ∃ f, fuel = f + 1 := ⟨fuel - 1, by omega⟩
    obtain ⟨σ', r1, r2, r3, r4, r5⟩ := ih (j + 1) f (sL σ (40 + i) j 0) (by omega) (by omega) (fun k hk => by
      rw [sL_3]
      by_cases e : k = j
      · rw [if_pos ⟨rfl, e⟩]
        rfl
      · rw [if_neg (fun z => e z.2)]
        exact h k (by omega))
    refine ⟨σ', ?_, r2, fun r hr => ?_, r4, r5⟩
    · show f_X4_callIn_28 fu k3 (loopN _ f) σ y (nI i) (nI j) = _
      rw [f_X4_callIn_28, if_neg (show ¬ (12 : Int32) ≤ nI j from fun z => by have := (q_le (a := 12) (by omega) (by omega)).mp z; omega), if_pos ((q_in (by omega)).mpr hi), if_pos ((q_in (by omega)).mpr (by omega)), q_cl (by omega), q_cl (by omega), q_inc]
      exact r1
    · rw [r3 r hr]
      funext k
      rw [sL_3, if_neg (fun z => hr z.1)]
theorem cx_out {fu : Nat} (hfu : 1000 ≤ fu) {st : Nat → Nat} (hst : ∀ v, st v ≤ 12000000) (y : Int32) : ∀ (m i fuel : Nat) (σ : SS), i + m = 12 → m < fuel → (∀ v, v < 12 → σ.2.1 19 v = nI (st v)) → (∀ v, v < i → σ.2.2 29 v = lN (st v)) → (∀ u j, u < i → j < 12 → σ.2.2 (40 + u) j = lN 0) → ∃ σ' : SS, loopN (fun k3 σ x => f_X4_callIn_3 fu k3 σ x.1 x.2) fuel σ (y, nI i) = f_X4_callIn_L61 fu σ' (y, 0) ∧ FX σ' st (fun _ _ => 0) ∧ XF σ σ' := by
  intro m
  induction m with
  | zero =>
    intro i fuel σ hi hf h1 h2 h3
    obtain ⟨f, rfl⟩ : ∃ f, fuel = f + 1 := ⟨fuel - 1, by omega⟩
    have hi12 : i = 12 := by omega
    subst hi12
    refine ⟨σ, ?_, ⟨h2, fun u j hu hj => h3 u j hu hj⟩, XF_rf σ⟩
    show f_X4_callIn_3 fu _ σ y (nI 12) = _
    rw [f_X4_callIn_3, if_pos (by decide)]
  | succ m ih =>
    intro i fuel σ hi hf h1 h2 h3
    obtain ⟨f, rfl⟩ : ∃ f, fuel = f + 1 := ⟨fuel - 1, by omega⟩
    have hs := hst i
    obtain ⟨σ1, a1, a2, a3, a4, a5⟩ := cx_in (fu := fu) (i := i) (by omega) (loopN (fun k3 σ x => f_X4_callIn_3 fu k3 σ x.1 x.2) f) y 12 0 fu (sL σ 29 i (lN (st i))) (by omega) (by omega) (fun k hk => by omega)
    have xf1 : XF σ σ1 := ⟨a4, fun r _ => by rw [a5]; rfl, fun r hr => by
      rw [a3 r (by omega)]
      funext k
      rw [sL_3, if_neg (fun z => by have := z.1; omega)]⟩
    obtain ⟨σ', r1, r2, r3⟩ := ih (i + 1) f σ1 (by omega) (by omega) (fun v hv => by rw [a5]; exact h1 v hv) (fun v hv => by
      rw [a3 29 (by omega), sL_3]
      by_cases e : v = i
      · rw [if_pos ⟨rfl, e⟩, e]
      · rw [if_neg (fun z => e z.2)]
        exact h2 v (by omega)) (fun u j hu hj => by
      by_cases e : u = i
      · rw [e]; exact a2 j hj
      · rw [a3 (40 + u) (by omega), sL_3, if_neg (fun z => by have := z.1; omega)]
        exact h3 u j (by omega) hj)
    refine ⟨σ', ?_, r2, XF_tr xf1 r3⟩
    show f_X4_callIn_3 fu (loopN _ f) σ y (nI i) = _
    rw [f_X4_callIn_3, if_neg (show ¬ (12 : Int32) ≤ nI i from fun z => by have := (q_le (a := 12) (by omega) (by omega)).mp z; omega), if_pos ((q_in (by omega)).mpr (by omega)), q_cl (by omega), h1 i (by omega), nI_l (by omega), f_X4_callIn_L28]
    exact a1.trans r1
theorem cx_d {fu : Nat} {st : Nat → Nat} {a : AS} (h4 : Inv a) (y : Int32) : ∀ (m k fuel : Nat) (σ : SS), k + m = a.1 4 → m < fuel → RX σ a → FX σ st (cpS a y k) → ∃ σ' : SS, loopN (fun k61 σ x => f_X4_callIn_61 fu k61 σ x.1 x.2) fuel σ (y, nI k) = some ((), σ') ∧ FX σ' st (cpS a y (a.1 4)) ∧ XF σ σ' := by
  have hd : a.1 4 ≤ 400 := h4.2.2.2.2.1
  have hn : a.1 0 ≤ 12 := h4.1
  intro m
  induction m with
  | zero =>
    intro k fuel σ hk hf h1 hF
    obtain ⟨f, rfl⟩ : ∃ f, fuel = f + 1 := ⟨fuel - 1, by omega⟩
    have hkk : k = a.1 4 := by omega
    subst hkk
    refine ⟨σ, ?_, hF, XF_rf σ⟩
    show f_X4_callIn_61 fu _ σ y (nI (a.1 4)) = _
    rw [f_X4_callIn_61, h1.1.2.2.2.2.1, if_pos ((q_le (by omega) (by omega)).mpr (Nat.le_refl _))]
  | succ m ih =>
    intro k fuel σ hk hf h1 hF
    obtain ⟨f, rfl⟩ : ∃ f, fuel = f + 1 := ⟨fuel - 1, by omega⟩
    obtain ⟨s1, s2, s3, s4⟩ := h1.2.2.2.1 k (by omega)
    obtain ⟨g1, g2, g3, g4⟩ := h4.2.2.2.2.2.2.2.1 k (by omega)
    have hin : inB (nI k) 400 := (q_in (by omega)).mpr (by omega)
    have e90 : ∀ kk : SS → (Int32 × Int32) → Option (Unit × SS), f_X4_callIn_90 fu kk σ y (nI k) = kk (sL σ (40 + a.2 10 k) (a.2 11 k) (lN (cpS a y k (a.2 10 k) (a.2 11 k) + a.2 12 k))) (y, nI (k + 1)) := by
      intro kk
      rw [f_X4_callIn_90, if_pos hin, q_cl (show k < 2000000000 by omega), s1, s2, s3, if_pos ((q_in (by omega)).mpr (by omega)), if_pos ((q_in (by omega)).mpr (by omega)), q_cl (show a.2 10 k < 2000000000 by omega), q_cl (show a.2 11 k < 2000000000 by omega), hF.2 _ _ (by omega) (by omega), nI_l (by omega), lN_add, f_X4_callIn_121, q_inc]
    have hyes : (a.2 13 k = 0 ∨ ¬ y < nI (a.2 13 k) - 1) → FX (sL σ (40 + a.2 10 k) (a.2 11 k) (lN (cpS a y k (a.2 10 k) (a.2 11 k) + a.2 12 k))) st (cpS a y (k + 1)) := by
      intro hy
      refine ⟨fun i hi => ?_, fun i j hi hj => ?_⟩
      · rw [sL_3, if_neg (fun z => by have := z.1; omega)]
        exact hF.1 i hi
      · rw [sL_3, cpS_s]
        by_cases q : i = a.2 10 k ∧ j = a.2 11 k
        · have q1 : 40 + i = 40 + a.2 10 k ∧ j = a.2 11 k := ⟨by omega, q.2⟩
          rw [if_pos q1, if_pos ⟨q.1, q.2, hy⟩, q.1, q.2]
        · have q1 : ¬ (40 + i = 40 + a.2 10 k ∧ j = a.2 11 k) := fun z => q ⟨by have := z.1; omega, z.2⟩
          rw [if_neg q1, if_neg (fun z => q ⟨z.1, z.2.1⟩)]
          exact hF.2 i j hi hj
    have hno : ¬ (a.2 13 k = 0 ∨ ¬ y < nI (a.2 13 k) - 1) → FX σ st (cpS a y (k + 1)) := by
      intro hy
      refine ⟨hF.1, fun i j hi hj => ?_⟩
      rw [cpS_s, if_neg (fun z => hy z.2.2)]
      exact hF.2 i j hi hj
    have xf : ∀ v, XF σ (sL σ (40 + a.2 10 k) (a.2 11 k) v) := fun v => XF_L (by omega)
    show ∃ σ' : SS, f_X4_callIn_61 fu (loopN _ f) σ y (nI k) = some ((), σ') ∧ FX σ' st (cpS a y (a.1 4)) ∧ XF σ σ'
    rw [f_X4_callIn_61, h1.1.2.2.2.2.1, if_neg (fun z => by have := (q_le (by omega) (by omega)).mp z; omega), X_isLoan (by omega) s4 g4, bnd1_some, e90, if_pos hin, q_cl (show k < 2000000000 by omega), s4, f_X4_callIn_121, q_inc]
    by_cases z : a.2 13 k = 0
    · have e0 : (if a.2 13 k = 0 then (1 : Int32) else 0) = 1 := if_pos z
      rw [e0, if_neg i10]
      obtain ⟨σ', r1, r2, r3⟩ := ih (k + 1) f _ (by omega) (by omega) (RX_XF h1 (xf _)) (hyes (Or.inl z))
      exact ⟨σ', r1, r2, XF_tr (xf _) r3⟩
    · have e0 : (if a.2 13 k = 0 then (1 : Int32) else 0) = 0 := if_neg z
      rw [e0, if_pos rfl]
      by_cases q : y < nI (a.2 13 k) - 1
      · rw [if_pos q]
        exact ih (k + 1) f σ (by omega) (by omega) h1 (hno (fun w => w.elim z (fun w => w q)))
      · rw [if_neg q]
        obtain ⟨σ', r1, r2, r3⟩ := ih (k + 1) f _ (by omega) (by omega) (RX_XF h1 (xf _)) (hyes (Or.inr q))
        exact ⟨σ', r1, r2, XF_tr (xf _) r3⟩
theorem cm_2 {fu : Nat} (c y : Int32) : ∀ (m k fuel : Nat) (τ : SS), k + m = 144 → m < fuel → (∀ j, j < k → τ.2.2 25 j = lN 0) → ∃ τ' : SS, loopN (fun k2 σ x => f_X8_gathers_2 fu k2 σ x.1 x.2.1 x.2.2) fuel τ (c, y, nI k) = f_X8_gathers_L24 fu τ' (c, y, 0) ∧ (∀ j, j < 144 → τ'.2.2 25 j = lN 0) ∧ MF τ τ' := by
  intro m
  induction m with
  | zero =>
    intro k fuel τ hk hf h
    obtain ⟨f, rfl⟩ : ∃ f, fuel = f + 1 := ⟨fuel - 1, by omega⟩
    have hkk : k = 144 := by omega
    subst hkk
    refine ⟨τ, ?_, h, MF_rf τ⟩
    show f_X8_gathers_2 fu _ τ c y (nI 144) = _
    rw [f_X8_gathers_2, if_pos (by decide)]
  | succ m ih =>
    intro k fuel τ hk hf h
    obtain ⟨f, rfl⟩ : ∃ f, fuel = f + 1 := ⟨fuel - 1, by omega⟩
    obtain ⟨τ', r1, r2, r3⟩ := ih (k + 1) f (sL τ 25 k 0) (by omega) (by omega) (fun j hj => by
      rw [sL_3]
      by_cases e : j = k
      · rw [if_pos ⟨rfl, e⟩]
        rfl
      · rw [if_neg (fun z => e z.2)]
        exact h j (by omega))
    refine ⟨τ', ?_, r2, MF_tr (MF_L (by omega)) r3⟩
    show f_X8_gathers_2 fu (loopN _ f) τ c y (nI k) = _
    rw [f_X8_gathers_2, if_neg (show ¬ (144 : Int32) ≤ nI k from fun z => by have := (q_le (a := 144) (by omega) (by omega)).mp z; omega), if_pos ((q_in (by omega)).mpr (by omega)), q_cl (by omega), q_inc]
    exact r1
theorem cm_24 {fu n : Nat} (hn : n ≤ 12) {st : Nat → Nat} (hst : ∀ v, st v ≤ 12000000) (c y : Int32) : ∀ (m i fuel : Nat) (τ : SS), i + m = n → m < fuel → τ.1 4 = nI n → (∀ v, v < n → τ.2.1 1 v = nI (st v)) → (∀ v, v < i → τ.2.2 26 v = lN (st v)) → (∀ j, j < 144 → τ.2.2 25 j = lN 0) → ∃ τ' : SS, loopN (fun k24 σ x => f_X8_gathers_24 fu k24 σ x.1 x.2.1 x.2.2) fuel τ (c, y, nI i) = f_X8_gathers_L53 fu τ' (c, y, 0) ∧ FM τ' n st (fun _ _ => 0) ∧ MF τ τ' := by
  intro m
  induction m with
  | zero =>
    intro i fuel τ hi hf h4 h1 h2 h3
    obtain ⟨f, rfl⟩ : ∃ f, fuel = f + 1 := ⟨fuel - 1, by omega⟩
    have hin : i = n := by omega
    subst hin
    refine ⟨τ, ?_, ⟨h2, fun u j hu hj => h3 _ (by omega)⟩, MF_rf τ⟩
    show f_X8_gathers_24 fu _ τ c y (nI i) = _
    rw [f_X8_gathers_24, h4, if_pos ((q_le (by omega) (by omega)).mpr (Nat.le_refl _))]
  | succ m ih =>
    intro i fuel τ hi hf h4 h1 h2 h3
    obtain ⟨f, rfl⟩ : ∃ f, fuel = f + 1 := ⟨fuel - 1, by omega⟩
    have hs := hst i
    obtain ⟨τ', r1, r2, r3⟩ := ih (i + 1) f (sL τ 26 i (lN (st i))) (by omega) (by omega) h4 h1 (fun v hv => by
      rw [sL_3]
      by_cases e : v = i
      · rw [if_pos ⟨rfl, e⟩, e]
      · rw [if_neg (fun z => e z.2)]
        exact h2 v (by omega)) (fun j hj => by
      rw [sL_3, if_neg (fun z => by have := z.1; omega)]
      exact h3 j hj)
    refine ⟨τ', ?_, r2, MF_tr (MF_L (by omega)) r3⟩
    show f_X8_gathers_24 fu (loopN _ f) τ c y (nI i) = _
    rw [f_X8_gathers_24, h4, if_neg (fun z => by have := (q_le (by omega) (by omega)).mp z; omega), if_pos ((q_in (by omega)).mpr (by omega)), q_cl (by omega), h1 i (by omega), nI_l (by omega), q_inc]
    exact r1
theorem cm_d {fu c : Nat} {st : Nat → Nat} {a : AS} (h4 : Inv a) (hc : c < a.1 0) (y : Int32) : ∀ (m k fuel : Nat) (τ : SS), k + m = a.1 4 → m < fuel → RM τ a → FM τ (a.1 0) st (cpS a y k) → ∃ τ' : SS, loopN (fun k53 σ x => f_X8_gathers_53 fu k53 σ x.1 x.2.1 x.2.2) fuel τ (nI c, y, nI k) = f_X8_gathers_L133 fu (sL τ' 26 c 0) (nI c, lN (st c), 1) ∧ FM τ' (a.1 0) st (cpS a y (a.1 4)) ∧ MF τ τ' := by
  have hd : a.1 4 ≤ 400 := h4.2.2.2.2.1
  have hn : a.1 0 ≤ 12 := h4.1
  intro m
  induction m with
  | zero =>
    intro k fuel τ hk hf hM hF
    obtain ⟨f, rfl⟩ : ∃ f, fuel = f + 1 := ⟨fuel - 1, by omega⟩
    have hkk : k = a.1 4 := by omega
    subst hkk
    refine ⟨τ, ?_, hF, MF_rf τ⟩
    show f_X8_gathers_53 fu _ τ (nI c) y (nI (a.1 4)) = _
    rw [f_X8_gathers_53, hM.1.2.2.2.2.1, if_pos ((q_le (by omega) (by omega)).mpr (Nat.le_refl _)), if_pos ((q_in (by omega)).mpr (by omega)), q_cl (by omega), hF.1 c hc]
  | succ m ih =>
    intro k fuel τ hk hf hM hF
    obtain ⟨f, rfl⟩ : ∃ f, fuel = f + 1 := ⟨fuel - 1, by omega⟩
    obtain ⟨t1, t2, t3, t4, t5⟩ := hM.2.2.2.1 k (by omega)
    obtain ⟨g1, g2, g3, g4⟩ := h4.2.2.2.2.2.2.2.1 k (by omega)
    have hin : inB (nI k) 400 := (q_in (by omega)).mpr (by omega)
    have eix : (12 : Int32) * nI (a.2 10 k) + nI (a.2 11 k) = nI (12 * a.2 10 k + a.2 11 k) := by
      rw [show (12 : Int32) = nI 12 from rfl, q_mul, q_add]
    have e80 : ∀ kk : SS → (Int32 × Int32 × Int32) → Option (Int64 × SS), f_X8_gathers_80 fu kk τ (nI c) y (nI k) = kk (sL τ 25 (12 * a.2 10 k + a.2 11 k) (lN (cpS a y k (a.2 10 k) (a.2 11 k) + a.2 12 k))) (nI c, y, nI (k + 1)) := by
      intro kk
      rw [f_X8_gathers_80, if_pos hin, q_cl (show k < 2000000000 by omega), t1, t2, t3, eix, if_pos ((q_in (by omega)).mpr (by omega)), q_cl (show 12 * a.2 10 k + a.2 11 k < 2000000000 by omega), hF.2 _ _ (by omega) (by omega), lN_add, f_X8_gathers_110, q_inc]
    have hyes : (a.2 13 k = 0 ∨ ¬ y < nI (a.2 13 k) - 1) → FM (sL τ 25 (12 * a.2 10 k + a.2 11 k) (lN (cpS a y k (a.2 10 k) (a.2 11 k) + a.2 12 k))) (a.1 0) st (cpS a y (k + 1)) := by
      intro hy
      refine ⟨fun i hi => ?_, fun i j hi hj => ?_⟩
      · rw [sL_3, if_neg (fun z => by have := z.1; omega)]
        exact hF.1 i hi
      · rw [sL_3, cpS_s]
        by_cases q : i = a.2 10 k ∧ j = a.2 11 k
        · have q1 : 25 = 25 ∧ 12 * i + j = 12 * a.2 10 k + a.2 11 k := ⟨rfl, by rw [q.1, q.2]⟩
          rw [if_pos q1, if_pos ⟨q.1, q.2, hy⟩, q.1, q.2]
        · have q1 : ¬ (25 = 25 ∧ 12 * i + j = 12 * a.2 10 k + a.2 11 k) := fun z => q (by have := z.2; omega)
          rw [if_neg q1, if_neg (fun z => q ⟨z.1, z.2.1⟩)]
          exact hF.2 i j hi hj
    have hno : ¬ (a.2 13 k = 0 ∨ ¬ y < nI (a.2 13 k) - 1) → FM τ (a.1 0) st (cpS a y (k + 1)) := by
      intro hy
      refine ⟨hF.1, fun i j hi hj => ?_⟩
      rw [cpS_s, if_neg (fun z => hy z.2.2)]
      exact hF.2 i j hi hj
    have mf : ∀ v, MF τ (sL τ 25 (12 * a.2 10 k + a.2 11 k) v) := fun v => MF_L (by omega)
    show ∃ τ' : SS, f_X8_gathers_53 fu (loopN _ f) τ (nI c) y (nI k) = f_X8_gathers_L133 fu (sL τ' 26 c 0) (nI c, lN (st c), 1) ∧ FM τ' (a.1 0) st (cpS a y (a.1 4)) ∧ MF τ τ'
    rw [f_X8_gathers_53, hM.1.2.2.2.2.1, if_neg (fun z => by have := (q_le (by omega) (by omega)).mp z; omega), if_pos hin, q_cl (show k < 2000000000 by omega), t4, t5, e80, f_X8_gathers_110, q_inc]
    by_cases z : a.2 13 k = 0
    · have e0 : (if a.2 13 k = 0 then (1 : Int32) else 0) = 1 := if_pos z
      rw [e0, if_neg i10]
      obtain ⟨τ', r1, r2, r3⟩ := ih (k + 1) f _ (by omega) (by omega) (RM_MF hM (mf _)) (hyes (Or.inl z))
      exact ⟨τ', r1, r2, MF_tr (mf _) r3⟩
    · have e0 : (if a.2 13 k = 0 then (1 : Int32) else 0) = 0 := if_neg z
      rw [e0, if_pos rfl]
      by_cases q : y < nI (a.2 13 k) - 1
      · rw [if_pos q]
        exact ih (k + 1) f τ (by omega) (by omega) hM (hno (fun w => w.elim z (fun w => w q)))
      · rw [if_neg q]
        obtain ⟨τ', r1, r2, r3⟩ := ih (k + 1) f _ (by omega) (by omega) (RM_MF hM (mf _)) (hyes (Or.inr q))
        exact ⟨τ', r1, r2, MF_tr (mf _) r3⟩
theorem gath_both {fu c : Nat} {σ τ : SS} {a : AS} (hfu : 12000 ≤ fu) (hR : RR σ τ a) (hc : c < a.1 0) (y : Int32) : ∃ (s' : Nat) (σ1 σ' τ' : SS) (B : Nat → Nat), f_X4_callIn fu σ y = some ((), σ1) ∧ f_X4_most fu σ1 (nI c) = some (lN s', σ') ∧ f_X8_gathers fu τ (nI c) y = some (lN s', τ') ∧ s' ≤ 12000000 ∧ (∀ v, v < 12 → σ'.2.1 31 v = nI (B v)) ∧ (∀ v, v < a.1 0 → τ'.2.1 28 v = nI (B v)) ∧ (∀ v, a.1 0 ≤ v → B v = 0) ∧ (∀ v, B v ≤ 1) ∧ XF σ σ' ∧ MF τ τ' := by
  obtain ⟨h1, hM, h3, h4, h5⟩ := hR
  have hd : a.1 4 ≤ 400 := h4.2.2.2.2.1
  have hn : a.1 0 ≤ 12 := h4.1
  have hz0 : ∀ v, a.1 0 ≤ v → a.2 0 v = 0 := fun v hv => (h4.2.2.2.2.2.2.2.2.2.1 v hv).1
  have hst : ∀ v, a.2 0 v ≤ 12000000 := by
    intro v
    by_cases e : v < 12
    · exact InvB_one h5 h4 e
    · rw [hz0 v (by omega)]; omega
  obtain ⟨σ1, a1, a2, a3⟩ := cx_out (fu := fu) (by omega) hst y 12 0 fu σ (by omega) (by omega) (fun v hv => (h1.2.1 v hv).1) (fun v hv => by omega) (fun u j hu hj => by omega)
  obtain ⟨σ2, b1, b2, b3⟩ := cx_d (fu := fu) (st := a.2 0) h4 y (a.1 4) 0 fu σ1 (by omega) (by omega) (RX_XF h1 a3) a2
  obtain ⟨τ1, c1, c2, c3⟩ := cm_2 (fu := fu) (nI c) y 144 0 fu τ (by omega) (by omega) (fun j hj => by omega)
  have hM1 := RM_MF hM c3
  obtain ⟨τ2, d1, d2, d3⟩ := cm_24 (fu := fu) hn hst (nI c) y (a.1 0) 0 fu τ1 (by omega) (by omega) hM1.1.1 (fun v hv => (hM1.2.1 v (by omega)).1) (fun v hv => by omega) c2
  have hM2 := RM_MF hM1 d3
  obtain ⟨τ3, e1, e2, e3⟩ := cm_d (fu := fu) (st := a.2 0) h4 hc y (a.1 4) 0 fu τ2 (by omega) (by omega) hM2 d2
  have hM3 := RM_MF hM2 e3
  have hB : FB (a.1 0) (fun i => if i = c then 0 else a.2 0 i) (cpS a y (a.1 4)) := by
    refine ⟨fun i hi => ?_, fun u v h => cpS_z h4 y u v h _ (Nat.le_refl _), fun u v => ?_, fun i => ?_⟩
    · show (if i = c then 0 else a.2 0 i) = 0
      rw [if_neg (by omega)]
      exact hz0 i hi
    · have q1 := cpS_le h4 y u v (a.1 4) (Nat.le_refl _)
      have q2 := cpS_le h4 y v u (a.1 4) (Nat.le_refl _)
      omega
    · show (if i = c then 0 else a.2 0 i) ≤ 12000000
      have := hst i
      split <;> omega
  have hX : FX (sL σ2 29 c 0) (fun i => if i = c then 0 else a.2 0 i) (cpS a y (a.1 4)) := by
    refine ⟨fun i hi => ?_, fun i j hi hj => ?_⟩
    · show _ = lN (if i = c then 0 else a.2 0 i)
      rw [sL_3]
      by_cases e : i = c
      · rw [if_pos ⟨rfl, e⟩, if_pos e]
        rfl
      · rw [if_neg (fun z => e z.2), if_neg e]
        exact b2.1 i hi
    · rw [sL_3, if_neg (fun z => by have := z.1; omega)]
      exact b2.2 i j hi hj
  have hMx : FM (sL τ3 26 c 0) (a.1 0) (fun i => if i = c then 0 else a.2 0 i) (cpS a y (a.1 4)) := by
    refine ⟨fun i hi => ?_, fun i j hi hj => ?_⟩
    · show _ = lN (if i = c then 0 else a.2 0 i)
      rw [sL_3]
      by_cases e : i = c
      · rw [if_pos ⟨rfl, e⟩, if_pos e]
        rfl
      · rw [if_neg (fun z => e z.2), if_neg e]
        exact e2.1 i hi
    · rw [sL_3, if_neg (fun z => by have := z.1; omega)]
      exact e2.2 i j hi hj
  have hsum := sumTo_set (f := a.2 0) (n := 12) (j := c) (v := 0) (by omega)
  have h5' : sumTo (a.2 0) 12 ≤ 1000000 * a.1 0 := h5
  have hPhi := Phi_le hn hc hB.2.1 (fun i => if i = c then 0 else a.2 0 i)
  obtain ⟨s', σ', τ', B, r1, r2, r3, r4, r5, r6, r7, r8, r9⟩ := flow_both hfu hn hc 9638 fu 0 (a.2 0 c) _ _ _ _ (by omega) (by omega) (by omega) hX hMx hM3.1.1 hB (by omega)
  refine ⟨s', σ2, σ', τ', B, ?_, ?_, ?_, r3, r4, r5, r6, r7, ?_, ?_⟩
  · unfold f_X4_callIn f_X4_callIn_L3
    exact a1.trans b1
  · rw [f_X4_most, if_pos ((q_in (by omega)).mpr (by omega)), q_cl (by omega), b2.1 c (by omega), f_X4_most_L17]
    exact r1
  · unfold f_X8_gathers f_X8_gathers_L2
    exact c1.trans (d1.trans (e1.trans r2))
  · exact XF_tr a3 (XF_tr b3 (XF_tr (XF_L (by omega)) r8))
  · exact MF_tr c3 (MF_tr d3 (MF_tr e3 (MF_tr (MF_L (by omega)) r9)))
theorem sim_gather {fu : Nat} (hfu : 12000 ≤ fu) : Sim_gather fu Rel := by
  intro σ τ h x1 x2
  have h0 := h
  obtain ⟨a, hR⟩ := h
  have hR' := RR_thrown (v := 0) hR
  have hn : a.1 0 ≤ 12 := hR.2.2.2.1.1
  rcases ix3 x1 (n := a.1 0) (by omega) with hx | ⟨c, hc, rfl⟩
  · refine Or.inr ⟨0, σ, sI (sI τ 0 0) 0 1, ?_, ?_, rfl, Rel_thrown (Rel_thrown h0)⟩
    · rw [f_X7_gather, cc_no (by omega) hR.1.1.1 hx, bndX_no]
    · rw [f_X8_gather, mc_no (by omega) hR'.2.1.1.1 hx, bnd1_some, if_pos rfl, f_X8_gather_19, b_no, bnd_some, if_neg i10]
  · left
    have hin : inB (nI c) 12 := (q_in (by omega)).mpr (by omega)
    have al := hR.2.2.2.1.2.2.2.2.2.2.2.2.2.2 c
    rw [f_X7_gather, cc_ok (by omega) hR.1.1.1 hc, bndX_ok, if_pos hin, q_cl (by omega), (hR.1.2.1 c (by omega)).2, f_X8_gather, mc_ok (by omega) hR'.2.1.1.1 hc, bnd1_some, if_neg i10, f_X8_gather_19, b_ok, bnd_some, if_pos rfl, if_pos hin, q_cl (by omega), (hR'.2.1.2.1 c (by omega)).2]
    by_cases z : a.2 1 c = 0
    · rw [if_pos ((q_eq0 (by omega)).mpr z), show (if c < a.1 0 ∧ a.2 1 c = 0 then (1 : Int32) else 0) = 1 from if_pos ⟨hc, z⟩, if_neg i10]
      exact ⟨-1, σ, _, rfl, rfl, rfl, Rel_thrown h0⟩
    · obtain ⟨s', σ1, σ', τ', B, g1, g2, g3, g4, g5, g6, g7, g8, g9, g10⟩ := gath_both hfu hR' hc x2
      rw [if_neg (fun y => z ((q_eq0 (by omega)).mp y)), show (if c < a.1 0 ∧ a.2 1 c = 0 then (1 : Int32) else 0) = 0 from if_neg (fun y => z y.2), if_pos rfl, g1, bnd_some, g2, bnd_some, g3, bnd_some]
      refine ⟨lN s', σ', τ', rfl, rfl, ?_, a, RX_XF hR.1 g9, RM_MF hR'.2.1 g10, RC_XM hR'.2.2.1 g9 g10, hR.2.2.2⟩
      rw [g10.1 0 (by omega)]
      rfl
def bitsS (B : Nat → Nat) : Nat → Int32
  | 0 => 0
  | k + 1 => bitsS B k ||| (if B k = 0 then 0 else (1 : Int32) <<< (nI k &&& 31))
theorem bitsS_s (B : Nat → Nat) (k : Nat) : bitsS B (k + 1) = bitsS B k ||| (if B k = 0 then 0 else (1 : Int32) <<< (nI k &&& 31)) := rfl
theorem bitsS_n {B : Nat → Nat} {n : Nat} (h : ∀ v, n ≤ v → B v = 0) : ∀ m, bitsS B (n + m) = bitsS B n := by
  intro m
  induction m with
  | zero => rfl
  | succ m ih =>
    show bitsS B (n + m + 1) = _
    rw [bitsS_s, if_pos (h _ (by omega)), ih]
    simp
theorem X_side {fu : Nat} {σ : SS} {B : Nat → Nat} (hfu : 1000 ≤ fu) (h : ∀ v, v < 12 → σ.2.1 31 v = nI (B v)) (h1 : ∀ v, B v ≤ 1) : f_X4_side fu σ = some (bitsS B 12) := by
  unfold f_X4_side f_X4_side_L4
  refine up_loop (X := Int32 × Int32) 12 (fun _ => σ) (fun i => (bitsS B i, nI i)) _ (fun i k hi => ?_) (fun k => ?_) fu (by omega)
  · show f_X4_side_4 fu k σ (bitsS B i) (nI i) = k σ (bitsS B (i + 1), nI (i + 1))
    have hb := h1 i
    rw [f_X4_side_4, if_neg (show ¬ (12 : Int32) ≤ nI i from fun z => by have := (q_le (a := 12) (by omega) (by omega)).mp z; omega), if_pos ((q_in (by omega)).mpr hi), q_cl (by omega), h i hi, f_X4_side_27, f_X4_side_27, q_inc, bitsS_s]
    by_cases z : B i = 0
    · rw [if_pos ((q_eq0 (by omega)).mpr z), if_pos z]
    · rw [if_neg (fun y => z ((q_eq0 (by omega)).mp y)), if_neg z]
  · show f_X4_side_4 fu k σ (bitsS B 12) (nI 12) = _
    rw [f_X4_side_4, if_pos (by decide)]
theorem M_side {fu n s : Nat} {τ : SS} {B : Nat → Nat} (hfu : 1000 ≤ fu) (hn : n ≤ 12) (h4 : τ.1 4 = nI n) (h : ∀ v, v < n → τ.2.1 28 v = nI (B v)) (h1 : ∀ v, B v ≤ 1) (hs : s ≤ 12000000) : f_X8_hold_L52 fu τ (lN s, 0, 0) = some (bitsS B n, τ) := by
  unfold f_X8_hold_L52
  refine up_loop (X := Int64 × Int32 × Int32) n (fun _ => τ) (fun i => (lN s, bitsS B i, nI i)) _ (fun i k hi => ?_) (fun k => ?_) fu (by omega)
  · show f_X8_hold_52 fu k τ (lN s) (bitsS B i) (nI i) = k τ (lN s, bitsS B (i + 1), nI (i + 1))
    have hb := h1 i
    have hl : ¬ lg_cmp (lN s) 0 < 0 := Int32.not_lt.mpr ((lc_ge (b := 0) (by omega) (by omega)).mpr (by omega))
    rw [f_X8_hold_52, h4, if_neg (fun z => by have := (q_le (by omega) (by omega)).mp z; omega), if_pos ((q_in (by omega)).mpr (by omega)), q_cl (by omega), h i hi, if_neg hl, f_X8_hold_86, f_X8_hold_87, f_X8_hold_87, q_inc, bitsS_s]
    by_cases z : B i = 0
    · rw [if_pos ((q_eq0 (by omega)).mpr z), if_pos z]
    · rw [if_neg (fun y => z ((q_eq0 (by omega)).mp y)), if_neg z]
  · show f_X8_hold_52 fu k τ (lN s) (bitsS B n) (nI n) = _
    rw [f_X8_hold_52, h4, if_pos ((q_le (by omega) (by omega)).mpr (Nat.le_refl _))]
theorem sim_hold {fu : Nat} (hfu : 12000 ≤ fu) : Sim_hold fu Rel := by
  intro σ τ h x1 x2
  have h0 := h
  obtain ⟨a, hR⟩ := h
  have hR' := RR_thrown (v := 0) hR
  have hn : a.1 0 ≤ 12 := hR.2.2.2.1.1
  rcases ix3 x1 (n := a.1 0) (by omega) with hx | ⟨c, hc, rfl⟩
  · refine Or.inr ⟨0, σ, sI (sI τ 0 0) 0 1, ?_, ?_, rfl, Rel_thrown (Rel_thrown h0)⟩
    · rw [f_X7_hold, cc_no (by omega) hR.1.1.1 hx, bndX_no]
    · rw [f_X8_hold, mc_no (by omega) hR'.2.1.1.1 hx, bnd1_some, if_pos rfl, f_X8_hold_19, b_no, bnd_some, if_neg i10]
  · left
    have hin : inB (nI c) 12 := (q_in (by omega)).mpr (by omega)
    have al := hR.2.2.2.1.2.2.2.2.2.2.2.2.2.2 c
    rw [f_X7_hold, cc_ok (by omega) hR.1.1.1 hc, bndX_ok, if_pos hin, q_cl (by omega), (hR.1.2.1 c (by omega)).2, f_X8_hold, mc_ok (by omega) hR'.2.1.1.1 hc, bnd1_some, if_neg i10, f_X8_hold_19, b_ok, bnd_some, if_pos rfl, if_pos hin, q_cl (by omega), (hR'.2.1.2.1 c (by omega)).2]
    by_cases z : a.2 1 c = 0
    · rw [if_pos ((q_eq0 (by omega)).mpr z), show (if c < a.1 0 ∧ a.2 1 c = 0 then (1 : Int32) else 0) = 1 from if_pos ⟨hc, z⟩, if_neg i10]
      exact ⟨-1, σ, _, rfl, rfl, rfl, Rel_thrown h0⟩
    · obtain ⟨s', σ1, σ', τ', B, g1, g2, g3, g4, g5, g6, g7, g8, g9, g10⟩ := gath_both hfu hR' hc x2
      have eM : f_X8_hold_L52 fu τ' (lN s', 0, 0) = some (bitsS B (a.1 0), τ') := M_side (by omega) hn (RM_MF hR'.2.1 g10).1.1 g6 g8 g4
      have eB := bitsS_n g7 (12 - a.1 0)
      rw [show a.1 0 + (12 - a.1 0) = 12 by omega] at eB
      rw [if_neg (fun y => z ((q_eq0 (by omega)).mp y)), show (if c < a.1 0 ∧ a.2 1 c = 0 then (1 : Int32) else 0) = 0 from if_neg (fun y => z y.2), if_pos rfl, g1, bnd_some, g2, bnd_some, X_side (by omega) g5 g8, bnd1_some, g3, bnd_some, eM, eB]
      refine ⟨bitsS B (a.1 0), σ', τ', rfl, rfl, ?_, a, RX_XF hR.1 g9, RM_MF hR'.2.1 g10, RC_XM hR'.2.2.1 g9 g10, hR.2.2.2⟩
      rw [g10.1 0 (by omega)]
      rfl

/-! died -/
theorem X_iob {σ : SS} {a : AS} {fu i x y : Nat} (h1 : RX σ a) (h4 : Inv a) (hi : i < a.1 4) (hx : x < a.1 0) (hy : y < a.1 0) : f_X3_isOpenBetween fu σ (nI i) (nI x) (nI y) = some (if a.2 12 i ≠ 0 ∧ a.2 10 i = x ∧ a.2 11 i = y then 1 else 0) := by
  have hn : a.1 0 ≤ 12 := h4.1
  have hd : a.1 4 ≤ 400 := h4.2.2.2.2.1
  obtain ⟨s1, s2, s3, s4⟩ := h1.2.2.2.1 i hi
  obtain ⟨g1, g2, g3, g4⟩ := h4.2.2.2.2.2.2.2.1 i hi
  rw [f_X3_isOpenBetween, if_pos ((q_in (by omega)).mpr (by omega)), q_cl (by omega), s1, s2, s3]
  by_cases c0 : a.2 12 i = 0
  · rw [if_pos ((q_le0 (by omega)).mpr c0), if_neg (fun z => z.1 c0)]
  rw [if_neg (fun z => c0 ((q_le0 (by omega)).mp z))]
  by_cases c1 : a.2 10 i = x
  · rw [if_pos ((q_eq (by omega) (by omega)).mpr c1)]
    by_cases c2 : a.2 11 i = y
    · rw [if_pos ((q_eq (by omega) (by omega)).mpr c2), if_pos ⟨c0, c1, c2⟩]
    · rw [if_neg (fun z => c2 ((q_eq (by omega) (by omega)).mp z)), if_neg (fun z => c2 z.2.2)]
  · rw [if_neg (fun z => c1 ((q_eq (by omega) (by omega)).mp z)), if_neg (fun z => c1 z.2.1)]
theorem cop_both {fu c h : Nat} : ∀ (m i fuel : Nat) (σ τ : SS) (a : AS), RR σ τ a → h < a.1 0 → c < a.1 0 → i + m = a.1 5 → m < fuel → ∃ (σ' τ' : SS) (a' : AS), loopN (fun k2 σ x => f_X1_inherit_2 fu k2 σ x.1 x.2.1 x.2.2) fuel σ (nI c, nI h, nI i) = some ((), σ') ∧ loopN (fun k116 σ x => f_X8_died_116 fu k116 σ x.1 x.2.1 x.2.2) fuel τ (nI c, nI h, nI i) = f_X8_died_L152 fu τ' (nI c, nI h, 0, 0) ∧ RR σ' τ' a' ∧ a'.1 = a.1 ∧ τ'.1 = τ.1 := by
  intro m
  induction m with
  | zero =>
    intro i fuel σ τ a hR hh hc hi hf
    obtain ⟨f, rfl⟩ : ∃ f, fuel = f + 1 := ⟨fuel - 1, by omega⟩
    have hp : a.1 5 ≤ 30 := hR.2.2.2.1.2.2.2.2.2.1
    have hii : i = a.1 5 := by omega
    refine ⟨σ, τ, a, ?_, ?_, hR, rfl, rfl⟩
    · show f_X1_inherit_2 fu _ σ (nI c) (nI h) (nI i) = _
      rw [f_X1_inherit_2, hR.1.1.2.2.2.2.2, hii, if_pos ((q_le (by omega) (by omega)).mpr (Nat.le_refl _))]
    · show f_X8_died_116 fu _ τ (nI c) (nI h) (nI i) = _
      rw [f_X8_died_116, hR.2.1.1.2.2.2.2.2, hii, if_pos ((q_le (by omega) (by omega)).mpr (Nat.le_refl _))]
  | succ m ih =>
    intro i fuel σ τ a hR hh hc hi hf
    obtain ⟨f, rfl⟩ : ∃ f, fuel = f + 1 := ⟨fuel - 1, by omega⟩
    have hp : a.1 5 ≤ 30 := hR.2.2.2.1.2.2.2.2.2.1
    have hn : a.1 0 ≤ 12 := hR.2.2.2.1.1
    have hlt : i < a.1 5 := by omega
    have p1 := (hR.1.2.2.2.2 i hlt).1
    have m1 := (hR.2.1.2.2.2.2 i hlt).1
    have g1 := (hR.2.2.2.1.2.2.2.2.2.2.2.2.1 i hlt).1
    show ∃ (σ' τ' : SS) (a' : AS), f_X1_inherit_2 fu (loopN _ f) σ (nI c) (nI h) (nI i) = some ((), σ') ∧ f_X8_died_116 fu (loopN _ f) τ (nI c) (nI h) (nI i) = f_X8_died_L152 fu τ' (nI c, nI h, 0, 0) ∧ RR σ' τ' a' ∧ a'.1 = a.1 ∧ τ'.1 = τ.1
    have hle : ¬ nI (a.1 5) ≤ nI i := fun z => by have := (q_le (by omega) (by omega)).mp z; omega
    have hin : inB (nI i) 30 := (q_in (by omega)).mpr (by omega)
    rw [f_X1_inherit_2, hR.1.1.2.2.2.2.2, if_neg hle, if_pos hin, f_X8_died_116, hR.2.1.1.2.2.2.2.2, if_neg hle, if_pos hin, q_cl (by omega), p1, m1]
    simp only [f_X1_inherit_27, f_X8_died_141, if_pos hin, q_cl (show i < 2000000000 by omega), q_inc]
    by_cases e : a.2 14 i = c
    · have e' : nI (a.2 14 i) = nI c := by rw [e]
      rw [if_pos e', if_pos e']
      have hR2 := RR_ow (j := i) hR hh
      obtain ⟨σ', τ', a', r1, r2, r3, r4, r5⟩ := ih (i + 1) f _ _ _ hR2 hh hc (show i + 1 + m = a.1 5 by omega) (by omega)
      exact ⟨σ', τ', a', r1, r2, r3, r4, r5⟩
    · have e' : ¬ nI (a.2 14 i) = nI c := fun z => e ((q_eq (by omega) (by omega)).mp z)
      rw [if_neg e', if_neg e']
      exact ih (i + 1) f _ _ _ hR hh hc (by omega) (by omega)
theorem deb_both {fu c h : Nat} (hch : c ≠ h) : ∀ (m i b fuel : Nat) (σ τ : SS) (a : AS), RR σ τ a → h < a.1 0 → c < a.1 0 → i + m = a.1 4 → b ≤ i → m < fuel → ∃ (r : Int32) (σ' τ' : SS) (a' : AS), loopN (fun k5 σ x => f_X3_inherit_5 fu k5 σ x.1 x.2.1 x.2.2.1 x.2.2.2) fuel σ (nI c, nI h, nI b, nI i) = some (r, σ') ∧ loopN (fun k152 σ x => f_X8_died_152 fu k152 σ x.1 x.2.1 x.2.2.1 x.2.2.2) fuel τ (nI c, nI h, nI b, nI i) = some (r, τ') ∧ RR σ' τ' a' ∧ τ'.1 = τ.1 := by
  intro m
  induction m with
  | zero =>
    intro i b fuel σ τ a hR hh hc hi hb hf
    obtain ⟨f, rfl⟩ : ∃ f, fuel = f + 1 := ⟨fuel - 1, by omega⟩
    have hp : a.1 4 ≤ 400 := hR.2.2.2.1.2.2.2.2.1
    have hii : i = a.1 4 := by omega
    refine ⟨nI b, σ, τ, a, ?_, ?_, hR, rfl⟩
    · show f_X3_inherit_5 fu _ σ (nI c) (nI h) (nI b) (nI i) = _
      rw [f_X3_inherit_5, hR.1.1.2.2.2.2.1, hii, if_pos ((q_le (by omega) (by omega)).mpr (Nat.le_refl _))]
    · show f_X8_died_152 fu _ τ (nI c) (nI h) (nI b) (nI i) = _
      rw [f_X8_died_152, hR.2.1.1.2.2.2.2.1, hii, if_pos ((q_le (by omega) (by omega)).mpr (Nat.le_refl _))]
  | succ m ih =>
    intro i b fuel σ τ a hR hh hc hi hb hf
    obtain ⟨f, rfl⟩ : ∃ f, fuel = f + 1 := ⟨fuel - 1, by omega⟩
    have hp : a.1 4 ≤ 400 := hR.2.2.2.1.2.2.2.2.1
    have hn : a.1 0 ≤ 12 := hR.2.2.2.1.1
    have hlt : i < a.1 4 := by omega
    obtain ⟨s1, s2, s3, s4⟩ := hR.1.2.2.2.1 i hlt
    obtain ⟨t1, t2, t3, t4, t5⟩ := hR.2.1.2.2.2.1 i hlt
    obtain ⟨g1, g2, g3, g4⟩ := hR.2.2.2.1.2.2.2.2.2.2.2.1 i hlt
    have hin : inB (nI i) 400 := (q_in (by omega)).mpr (by omega)
    have eX : ∀ k : SS → (Int32 × Int32 × Int32 × Int32) → Option (Int32 × SS), f_X3_inherit_5 fu k σ (nI c) (nI h) (nI b) (nI i) = if a.2 12 i = 0 then k σ (nI c, nI h, nI b, nI (i + 1)) else if (a.2 10 i = c ∧ a.2 11 i = h) ∨ (a.2 10 i = h ∧ a.2 11 i = c) then k (sA σ 24 i 0) (nI c, nI h, nI b, nI (i + 1)) else if a.2 10 i = c then k (sA σ 22 i (nI h)) (nI c, nI h, nI (b + 1), nI (i + 1)) else if a.2 11 i = c then k (sA σ 23 i (nI h)) (nI c, nI h, nI (b + 1), nI (i + 1)) else k σ (nI c, nI h, nI b, nI (i + 1)) := by
      intro k
      rw [f_X3_inherit_5, hR.1.1.2.2.2.2.1, if_neg (fun z => by have := (q_le (by omega) (by omega)).mp z; omega), X_iob hR.1 hR.2.2.2.1 hlt hc hh, bnd1_some, X_iob hR.1 hR.2.2.2.1 hlt hh hc, bnd1_some]
      simp only [f_X3_inherit_82, f_X3_inherit_36, f_X3_inherit_114, if_pos hin, q_cl (show i < 2000000000 by omega), s1, s2, s3, q_inc, q_le0 (show a.2 12 i < 2000000000 by omega), q_eq (show a.2 10 i < 2000000000 by omega) (show c < 2000000000 by omega), q_eq (show a.2 11 i < 2000000000 by omega) (show c < 2000000000 by omega)]
      by_cases c0 : a.2 12 i = 0
      · simp [c0]
      · by_cases c1 : a.2 10 i = c ∧ a.2 11 i = h
        · rw [if_neg c0, if_pos (Or.inl c1)]
          simp [c0, c1]
        · by_cases c2 : a.2 10 i = h ∧ a.2 11 i = c
          · rw [if_neg c0, if_pos (Or.inr c2)]
            have : ¬ (h = c ∧ c = h) := fun z => hch z.2
            simp [c0, c2, this]
          · have z1 : ¬ (a.2 12 i ≠ 0 ∧ a.2 10 i = c ∧ a.2 11 i = h) := fun z => c1 z.2
            have z2 : ¬ (a.2 12 i ≠ 0 ∧ a.2 10 i = h ∧ a.2 11 i = c) := fun z => c2 z.2
            have z3 : ¬ ((a.2 10 i = c ∧ a.2 11 i = h) ∨ (a.2 10 i = h ∧ a.2 11 i = c)) := fun z => z.elim c1 c2
            rw [if_neg z1, if_neg z2, if_neg c0, if_neg c0, if_neg c0, if_neg z3, if_pos rfl, if_pos rfl]
    have eM : ∀ k : SS → (Int32 × Int32 × Int32 × Int32) → Option (Int32 × SS), f_X8_died_152 fu k τ (nI c) (nI h) (nI b) (nI i) = if a.2 12 i = 0 then k τ (nI c, nI h, nI b, nI (i + 1)) else if (a.2 10 i = c ∧ a.2 11 i = h) ∨ (a.2 10 i = h ∧ a.2 11 i = c) then k (sL τ 17 i 0) (nI c, nI h, nI b, nI (i + 1)) else if a.2 10 i = c then k (sA τ 15 i (nI h)) (nI c, nI h, nI (b + 1), nI (i + 1)) else if a.2 11 i = c then k (sA τ 16 i (nI h)) (nI c, nI h, nI (b + 1), nI (i + 1)) else k τ (nI c, nI h, nI b, nI (i + 1)) := by
      intro k
      rw [f_X8_died_152, hR.2.1.1.2.2.2.2.1, if_neg (fun z => by have := (q_le (by omega) (by omega)).mp z; omega)]
      simp only [f_X8_died_198, f_X8_died_220, f_X8_died_261, f_X8_died_264, if_pos hin, q_cl (show i < 2000000000 by omega), t1, t2, t3, q_inc, lcz (show a.2 12 i ≤ 1000000000000 by omega), q_eq (show a.2 10 i < 2000000000 by omega) (show c < 2000000000 by omega), q_eq (show a.2 11 i < 2000000000 by omega) (show c < 2000000000 by omega), q_eq (show a.2 10 i < 2000000000 by omega) (show h < 2000000000 by omega), q_eq (show a.2 11 i < 2000000000 by omega) (show h < 2000000000 by omega)]
      by_cases c0 : a.2 12 i = 0
      · rw [if_pos c0, if_pos c0, if_pos rfl]
      · rw [if_neg c0, if_neg c0, if_neg i10]
        by_cases c1 : a.2 10 i = c
        · have d1 : ¬ a.2 10 i = h := fun z => hch (c1.symm.trans z)
          rw [if_pos c1, if_neg d1]
          by_cases c2 : a.2 11 i = h
          · rw [if_pos c2, if_pos (Or.inl ⟨c1, c2⟩)]
          · rw [if_neg c2, if_pos c1, if_neg (fun z => z.elim (fun w => c2 w.2) (fun w => d1 w.1)), if_pos c1]
        · rw [if_neg c1]
          by_cases c2 : a.2 11 i = c
          · have d2 : ¬ a.2 11 i = h := fun z => hch (c2.symm.trans z)
            rw [if_pos c2, if_neg d2]
            by_cases c3 : a.2 10 i = h
            · rw [if_pos c3, if_pos (Or.inr ⟨c3, c2⟩)]
            · rw [if_neg c3, if_neg c1, if_neg (fun z => z.elim (fun w => c1 w.1) (fun w => c3 w.1)), if_neg c1, if_pos c2]
          · rw [if_neg c2, if_neg (fun z => z.elim (fun w => c1 w.1) (fun w => c2 w.2)), if_neg c1, if_neg c2]
    show ∃ (r : Int32) (σ' τ' : SS) (a' : AS), f_X3_inherit_5 fu (loopN _ f) σ (nI c) (nI h) (nI b) (nI i) = some (r, σ') ∧ f_X8_died_152 fu (loopN _ f) τ (nI c) (nI h) (nI b) (nI i) = some (r, τ') ∧ RR σ' τ' a' ∧ τ'.1 = τ.1
    rw [eX, eM]
    by_cases c0 : a.2 12 i = 0
    · rw [if_pos c0, if_pos c0]
      exact ih (i + 1) b f _ _ _ hR hh hc (by omega) (by omega) (by omega)
    rw [if_neg c0, if_neg c0]
    by_cases c1 : (a.2 10 i = c ∧ a.2 11 i = h) ∨ (a.2 10 i = h ∧ a.2 11 i = c)
    · rw [if_pos c1, if_pos c1]
      exact ih (i + 1) b f _ _ _ (RR_dl (j := i) (v := 0) hR (by omega)) hh hc (show i + 1 + m = a.1 4 by omega) (by omega) (by omega)
    rw [if_neg c1, if_neg c1]
    by_cases c2 : a.2 10 i = c
    · rw [if_pos c2, if_pos c2]
      exact ih (i + 1) (b + 1) f _ _ _ (RR_dx (j := i) hR hh) hh hc (show i + 1 + m = a.1 4 by omega) (by omega) (by omega)
    rw [if_neg c2, if_neg c2]
    by_cases c3 : a.2 11 i = c
    · rw [if_pos c3, if_pos c3]
      exact ih (i + 1) (b + 1) f _ _ _ (RR_dw (j := i) hR hh) hh hc (show i + 1 + m = a.1 4 by omega) (by omega) (by omega)
    rw [if_neg c3, if_neg c3]
    exact ih (i + 1) b f _ _ _ hR hh hc (by omega) (by omega) (by omega)
theorem sim_died {fu : Nat} (hfu : 1000 ≤ fu) : Sim_died fu Rel := by
  intro σ τ h x1 x2
  have h0 := h
  obtain ⟨a, h1, h2, h3, h4, h5⟩ := h
  have hM := RM_thrown (v := 0) h2
  have hn : a.1 0 ≤ 12 := h4.1
  have hb1 : ∀ y1 y2, f_X8_died_22 fu (sI τ 0 0) y1 y2 = some (0, sI (sI τ 0 0) 0 1) := fun y1 y2 => by
    rw [f_X8_died_22, f_X8_died_27, b_no, bnd_some, if_neg i10]
  have hb3 : ∀ y1 y2, f_X8_died_71 fu (sI τ 0 0) y1 y2 = some (0, sI (sI τ 0 0) 0 3) := fun y1 y2 => by
    rw [f_X8_died_71, f_X8_died_76, b_no, bnd_some, if_neg i10]
  rcases ix3 x1 (n := a.1 0) (by omega) with hx | ⟨i, hi, rfl⟩
  · refine Or.inr (Or.inl ⟨0, σ, sI (sI τ 0 0) 0 1, ?_, ?_, rfl, Rel_thrown (Rel_thrown h0)⟩)
    · rw [f_X7_died, cc_no (by omega) h1.1.1 hx, bndX_no]
    · rw [f_X8_died, mc_no (by omega) hM.1.1 hx, bnd1_some, if_pos rfl, hb1]
  rcases ix3 x2 (n := a.1 0) (by omega) with hx | ⟨j, hj, rfl⟩
  · refine Or.inr (Or.inl ⟨0, σ, sI (sI τ 0 0) 0 1, ?_, ?_, rfl, Rel_thrown (Rel_thrown h0)⟩)
    · rw [f_X7_died, cc_ok (by omega) h1.1.1 hi, bndX_ok, cc_no (by omega) h1.1.1 hx, bndX_no]
    · rw [f_X8_died, mc_ok (by omega) hM.1.1 hi, bnd1_some, if_neg i10, mc_no (by omega) hM.1.1 hx, bnd1_some, if_pos rfl, hb1]
  rw [f_X7_died, cc_ok (by omega) h1.1.1 hi, bndX_ok, cc_ok (by omega) h1.1.1 hj, bndX_ok, f_X8_died, mc_ok (by omega) hM.1.1 hi, bnd1_some, if_neg i10, mc_ok (by omega) hM.1.1 hj, bnd1_some, if_neg i10, f_X8_died_27, b_ok, bnd_some, if_pos rfl]
  by_cases e : i = j
  · subst e
    refine Or.inr (Or.inr (Or.inl ⟨0, σ, sI (sI τ 0 0) 0 2, ?_, ?_, rfl, Rel_thrown (Rel_thrown h0)⟩))
    · rw [if_pos rfl]
    · rw [if_pos rfl, f_X8_died_45, b_no, bnd_some, if_neg i10]
  have e' : ¬ nI i = nI j := fun z => e ((q_eq (by omega) (by omega)).mp z)
  have hii : inB (nI i) 12 := (q_in (by omega)).mpr (by omega)
  have hjj : inB (nI j) 12 := (q_in (by omega)).mpr (by omega)
  have ai := h4.2.2.2.2.2.2.2.2.2.2 i
  have aj := h4.2.2.2.2.2.2.2.2.2.2 j
  have ei : (sI τ 0 0).2.1 3 (nI i).toNatClampNeg = (if i < a.1 0 ∧ a.2 1 i = 0 then 1 else 0) := by
    rw [q_cl (by omega)]
    exact (hM.2.1 i (by omega)).2
  have ej : (sI τ 0 0).2.1 3 (nI j).toNatClampNeg = (if j < a.1 0 ∧ a.2 1 j = 0 then 1 else 0) := by
    rw [q_cl (by omega)]
    exact (hM.2.1 j (by omega)).2
  rw [if_neg e', if_neg e', f_X8_died_45, b_ok, bnd_some, if_pos rfl, if_pos hii, if_pos hii, if_pos hjj, ei, ej, hb3]
  by_cases c1 : a.2 1 i = 0
  · refine Or.inr (Or.inr (Or.inr ⟨0, σ, sI (sI τ 0 0) 0 3, ?_, ?_, rfl, Rel_thrown (Rel_thrown h0)⟩))
    · rw [lv_no (by omega) (by rw [(h1.2.1 i (by omega)).2, c1]), bndX_no]
    · rw [show (if i < a.1 0 ∧ a.2 1 i = 0 then (1 : Int32) else 0) = 1 from if_pos ⟨hi, c1⟩, if_neg i10]
  rw [lv_ok (by omega) (h1.2.1 i (by omega)).2 ai c1, bndX_ok, show (if i < a.1 0 ∧ a.2 1 i = 0 then (1 : Int32) else 0) = 0 from if_neg (fun z => c1 z.2), if_pos rfl]
  by_cases c2 : a.2 1 j = 0
  · refine Or.inr (Or.inr (Or.inr ⟨0, σ, sI (sI τ 0 0) 0 3, ?_, ?_, rfl, Rel_thrown (Rel_thrown h0)⟩))
    · rw [lv_no (by omega) (by rw [(h1.2.1 j (by omega)).2, c2]), bndX_no]
    · rw [show (if j < a.1 0 ∧ a.2 1 j = 0 then (1 : Int32) else 0) = 1 from if_pos ⟨hj, c2⟩, if_neg i10]
  rw [lv_ok (by omega) (h1.2.1 j (by omega)).2 aj c2, bndX_ok, show (if j < a.1 0 ∧ a.2 1 j = 0 then (1 : Int32) else 0) = 0 from if_neg (fun z => c2 z.2), if_pos rfl, f_X8_died_76, b_ok, bnd_some, if_pos rfl, if_pos hii, if_pos hjj, f_X0_moveBlankets, if_pos hii, if_pos hjj, bnd_some, if_pos hii, q_cl (show i < 2000000000 by omega), q_cl (show j < 2000000000 by omega), vz0, vz1]
  left
  have rX : RX (sA (sA (sA σ 19 i (σ.2.1 19 i - σ.2.1 19 i)) 19 j ((sA σ 19 i (σ.2.1 19 i - σ.2.1 19 i)).2.1 19 j + σ.2.1 19 i)) 21 i 0) (aA (mvB a i j (a.2 0 i)) 1 i 0) := by
    have q := RX_mv (n := a.2 0 i) h1 (show i < 12 by omega) (show j < 12 by omega) e (Nat.le_refl _)
    rw [← (h1.2.1 i (by omega)).1] at q
    exact RX_l (v := 0) q
  have rM : RM (sA (sA (sA (sI τ 0 0) 3 i 1) 1 j ((sI τ 0 0).2.1 1 j + (sI τ 0 0).2.1 1 i)) 1 i 0) (aA (mvB a i j (a.2 0 i)) 1 i 0) := by
    have q := RM_b (j := i) (v := 0) (RM_b (j := j) (v := a.2 0 j + a.2 0 i) (RM_die hM hi))
    have ej : (sI τ 0 0).2.1 1 j + (sI τ 0 0).2.1 1 i = nI (a.2 0 j + a.2 0 i) := by
      rw [(hM.2.1 i (by omega)).1, (hM.2.1 j (by omega)).1, q_add]
    rw [ej]
    have ea : aA (mvB a i j (a.2 0 i)) 1 i 0 = aA (aA (aA a 1 i 0) 0 j (a.2 0 j + a.2 0 i)) 0 i 0 := by
      unfold mvB
      rw [Nat.sub_self, aA_comm (r := 0) (j := i) (r' := 0) (j' := j) (fun z => e z.2), aA_comm (r := 0) (j := i) (r' := 1) (fun z => by have := z.1; omega), aA_comm (r := 0) (j := j) (r' := 1) (fun z => by have := z.1; omega)]
    rw [ea]
    exact q
  have R0 : RR _ _ (aA (mvB a i j (a.2 0 i)) 1 i 0) := ⟨rX, rM, RC_eq h3 rfl rfl rfl rfl rfl rfl, Inv_l (Inv_mv h4 hi hj) hi (by omega), InvB_ne (InvB_mv h5 (by omega) (by omega) e (Nat.le_refl _)) (by omega)⟩
  have hp : a.1 5 ≤ 30 := h4.2.2.2.2.2.1
  have hd : a.1 4 ≤ 400 := h4.2.2.2.2.1
  obtain ⟨σ1, τ1, a1, p1, p2, R1, p4, p5⟩ := cop_both (fu := fu) (c := i) (h := j) (a.1 5) 0 fu _ _ _ R0 hj hi (Nat.zero_add _) (by omega)
  have e0 : a1.1 0 = a.1 0 := by rw [p4]; rfl
  have e4 : a1.1 4 = a.1 4 := by rw [p4]; rfl
  obtain ⟨r, σ2, τ2, a2, d1, d2, R2, d4⟩ := deb_both (fu := fu) (c := i) (h := j) e (a.1 4) 0 0 fu _ _ _ R1 (by omega) (by omega) (by omega) (by omega) (by omega)
  refine ⟨r, σ2, τ2, ?_, ?_, ?_, RR_rel R2⟩
  · rw [f_X1_inherit, f_X1_inherit_L2]
    have p1' : loopN (fun k2 σ x => f_X1_inherit_2 fu k2 σ x.1 x.2.1 x.2.2) fu (sA (sA (sA σ 19 i (σ.2.1 19 i - σ.2.1 19 i)) 19 j ((sA σ 19 i (σ.2.1 19 i - σ.2.1 19 i)).2.1 19 j + σ.2.1 19 i)) 21 i 0) (nI i, nI j, 0) = some ((), σ1) := p1
    have d1' : loopN (fun k5 σ x => f_X3_inherit_5 fu k5 σ x.1 x.2.1 x.2.2.1 x.2.2.2) fu σ1 (nI i, nI j, 0, 0) = some (r, σ2) := d1
    rw [p1', bnd_some, f_X3_inherit, f_X3_inherit_L5, d1', bnd_some]
  · refine Eq.trans p2 ?_
    exact d2
  · rw [d4, p5]
    rfl

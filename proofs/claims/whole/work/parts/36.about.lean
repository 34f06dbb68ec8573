/-- how many of the first k stand ahead of c -/
def rankS (fa : Nat → Int64) (al : Nat → Nat) (c : Nat) : Nat → Nat
  | 0 => 0
  | k + 1 => rankS fa al c k + (if al k ≠ 0 ∧ (0 < lg_cmp (fa k) (fa c) ∨ (lg_cmp (fa k) (fa c) = 0 ∧ k < c)) then 1 else 0)
theorem rankS_s (fa : Nat → Int64) (al : Nat → Nat) (c k : Nat) : rankS fa al c (k + 1) = rankS fa al c k + (if al k ≠ 0 ∧ (0 < lg_cmp (fa k) (fa c) ∨ (lg_cmp (fa k) (fa c) = 0 ∧ k < c)) then 1 else 0) := rfl
theorem q_eq0 {a : Nat} (ha : a < 2000000000) : nI a = 0 ↔ a = 0 := q_eq (b := 0) ha (by omega)
theorem nI00 : nI 0 = (0 : Int32) := by decide
theorem nI0a (a : Nat) : nI a + 0 = nI a := by simp
theorem X_rank {σ : SS} {fu n c : Nat} {al : Nat → Nat} (hfu : 1000 ≤ fu) (hn : n ≤ 12) (hc : c < n) (h14 : σ.1 14 = nI n) (ha : ∀ i, i < 12 → σ.2.1 21 i = nI (al i)) (hb : ∀ i, al i ≤ 1) : f_X0_placeInRank fu σ (nI c) = some (if al c = 0 then -1 else nI (rankS (σ.2.2 20) al c n)) := by
  have hbc := hb c
  unfold f_X0_placeInRank
  rw [if_pos ((q_in (by omega)).mpr (by omega)), q_cl (by omega), ha c (by omega)]
  by_cases q : al c = 0
  · rw [if_pos ((q_eq0 (by omega)).mpr q), if_pos q]
  rw [if_neg (fun z => q ((q_eq0 (by omega)).mp z)), if_neg q]
  unfold f_X0_placeInRank_L15
  refine up_loop (X := Int32 × Int32 × Int32) n (fun _ => σ) (fun i => (nI c, nI (rankS (σ.2.2 20) al c i), nI i)) _ (fun i k hi => ?_) (fun k => ?_) fu (by omega)
  · have hbi := hb i
    have hA : ∀ (z y : Int32), f_X0_placeInRank_65 fu k σ (nI c) z (nI i) y = if al i = 0 then k σ (nI c, z, nI (i + 1)) else if y = 0 then k σ (nI c, z, nI (i + 1)) else k σ (nI c, z + 1, nI (i + 1)) := by
      intro z y
      rw [f_X0_placeInRank_65, if_pos ((q_in (by omega)).mpr (by omega)), q_cl (by omega), ha i (by omega), f_X0_placeInRank_84, f_X0_placeInRank_84, q_inc]
      by_cases e : al i = 0
      · rw [if_pos e, if_pos ((q_eq0 (by omega)).mpr e)]
      · rw [if_neg e, if_neg (fun z => e ((q_eq0 (by omega)).mp z))]
    show f_X0_placeInRank_15 fu k σ (nI c) (nI (rankS (σ.2.2 20) al c i)) (nI i) = k σ (nI c, nI (rankS (σ.2.2 20) al c (i + 1)), nI (i + 1))
    rw [f_X0_placeInRank_15, h14, if_neg (fun z => by have := (q_le (by omega) (by omega)).mp z; omega), if_pos ((q_in (by omega)).mpr (by omega)), if_pos ((q_in (by omega)).mpr (by omega)), q_cl (by omega), q_cl (by omega), rankS_s, f_X0_placeInRank_60, f_X0_placeInRank_64, hA, hA, if_neg i10, if_pos rfl, q_inc]
    by_cases e : al i = 0
    · have e9 : ¬ (al i ≠ 0 ∧ (0 < lg_cmp (σ.2.2 20 i) (σ.2.2 20 c) ∨ (lg_cmp (σ.2.2 20 i) (σ.2.2 20 c) = 0 ∧ i < c))) := fun z => z.1 e
      rw [if_pos e, if_pos e, if_neg e9]
      simp only [ite_self]
      rfl
    · rw [if_neg e, if_neg e]
      by_cases e1 : 0 < lg_cmp (σ.2.2 20 i) (σ.2.2 20 c)
      · rw [if_pos e1, if_pos ⟨e, Or.inl e1⟩]
      · rw [if_neg e1]
        by_cases e2 : lg_cmp (σ.2.2 20 i) (σ.2.2 20 c) = 0
        · rw [if_pos e2]
          by_cases e3 : c ≤ i
          · rw [if_pos ((q_le (by omega) (by omega)).mpr e3), if_neg (fun z => z.2.elim e1 (fun w => absurd w.2 (by omega)))]
            rfl
          · rw [if_neg (fun z => e3 ((q_le (by omega) (by omega)).mp z)), if_pos ⟨e, Or.inr ⟨e2, by omega⟩⟩]
        · rw [if_neg e2, if_neg (fun z => z.2.elim e1 (fun w => e2 w.1))]
          rfl
  · simp (disch := omega) only [f_X0_placeInRank_15, h14, q_le]
    rw [if_pos (Nat.le_refl _)]
theorem M_rank {τ : SS} {fu n c : Nat} {al : Nat → Nat} (hfu : 1000 ≤ fu) (hn : n ≤ 12) (hc : c < n) (h4 : τ.1 4 = nI n) (ha : ∀ i, i < 12 → τ.2.1 3 i = if i < n ∧ al i = 0 then 1 else 0) : f_X8_about_L99 fu τ (nI c, 0, 0) = some (nI (rankS (τ.2.2 2) al c n), τ) := by
  unfold f_X8_about_L99
  refine up_loop (X := Int32 × Int32 × Int32) n (fun _ => τ) (fun i => (nI c, nI (rankS (τ.2.2 2) al c i), nI i)) _ (fun i k hi => ?_) (fun k => ?_) fu (by omega)
  · simp (disch := omega) only [f_X8_about_99, f_X8_about_159, f_X8_about_163, f_X8_about_164, h4, q_le, q_in, q_cl, ha i (show i < 12 by omega), q_inc, nI0a]
    rw [if_neg (by omega), if_pos (show i < 12 by omega), if_pos (show c < 12 by omega), rankS_s]
    by_cases e : al i = 0
    · simp [e, hi, i10]
    · by_cases e1 : 0 < lg_cmp (τ.2.2 2 i) (τ.2.2 2 c)
      · simp [e, e1]
      · by_cases e2 : lg_cmp (τ.2.2 2 i) (τ.2.2 2 c) = 0
        · by_cases e3 : c ≤ i
          · have : ¬ i < c := by omega
            simp [e, e2, e3, this]
          · have : i < c := by omega
            simp [e, e2, e3, this]
        · simp [e, e1, e2]
  · simp (disch := omega) only [f_X8_about_99, h4, q_le]
    rw [if_pos (Nat.le_refl _)]
theorem rankS_congr {fa fb : Nat → Int64} {al : Nat → Nat} {c n : Nat} (h : ∀ i, i < 12 → fa i = fb i) (hn : n ≤ 12) (hc : c < 12) : rankS fa al c n = rankS fb al c n := by
  induction n with
  | zero => rfl
  | succ n ih => rw [rankS_s, rankS_s, ih (by omega), h n (by omega), h c hc]
theorem sim_about {fu : Nat} (hfu : 1000 ≤ fu) : Sim_about fu Rel := by
  intro σ τ h x1 x2
  have h0 := h
  obtain ⟨a, h1, h2, h3, h4, h5⟩ := h
  have hM := RM_thrown (v := 0) h2
  have hn : a.1 0 ≤ 12 := h4.1
  rcases ix3 x1 (n := a.1 0) (by omega) with hx | ⟨j, hj, rfl⟩
  · refine Or.inr (Or.inl ⟨0, sI (sI τ 0 0) 0 1, ?_, ?_, rfl, Rel_thrown (Rel_thrown h0)⟩)
    · unfold f_X7_about
      rw [cc_no (by omega) h1.1.1 hx, bndX0_no]
    · unfold f_X8_about f_X8_about_19
      rw [mc_no (by omega) hM.1.1 hx, bnd1_some, if_pos rfl, b_no, bnd_some, if_neg i10]
  · have hin : inB (nI j) 12 := (q_in (by omega)).mpr (by omega)
    have hb1 := h4.2.2.2.2.2.2.2.2.2.2
    have hbj := hb1 j
    have eX := X_rank (σ := σ) (fu := fu) hfu hn hj h1.1.1 (fun i hi => (h1.2.1 i hi).2) hb1
    have eM := M_rank (τ := sI τ 0 0) (fu := fu) hfu hn hj hM.1.1 (fun i hi => (hM.2.1 i hi).2)
    have hX : f_X7_about fu σ (nI j) x2 = if x2 = 0 then some (.inl (nI (a.2 0 j))) else if x2 = 1 then some (.inl (if a.2 1 j = 0 then 0 else 1)) else if x2 = 2 then some (.inl (if a.2 1 j = 0 then -1 else nI (rankS (σ.2.2 20) (a.2 1) j (a.1 0)))) else some (.inr 0) := by
      unfold f_X7_about
      obtain ⟨d1, d2⟩ := h1.2.1 j (by omega)
      rw [cc_ok (by omega) h1.1.1 hj, bndX0_ok, eX, bnd1_some]
      simp only [if_pos hin, q_cl (show j < 2000000000 by omega), d1, d2, q_eq0 (show a.2 1 j < 2000000000 by omega)]
      by_cases e : a.2 1 j = 0
      · simp only [if_pos e]
      · simp only [if_neg e]
    have hY : f_X8_about fu τ (nI j) x2 = f_X8_about_19 fu (sI τ 0 0) (nI j) x2 0 := by
      unfold f_X8_about
      rw [mc_ok (by omega) hM.1.1 hj, bnd1_some, if_neg i10]
    by_cases q : x2 < 0 ∨ nI 3 ≤ x2
    · have e0 : ¬ x2 = 0 := by rintro rfl; exact absurd q (by decide)
      have e1 : ¬ x2 = 1 := by rintro rfl; exact absurd q (by decide)
      have e2 : ¬ x2 = 2 := by rintro rfl; exact absurd q (by decide)
      refine Or.inr (Or.inr ⟨0, sI (sI τ 0 0) 0 2, by rw [hX, if_neg e0, if_neg e1, if_neg e2], ?_, rfl, Rel_thrown (Rel_thrown h0)⟩)
      have hbad : f_X8_about_36 fu (sI τ 0 0) (nI j) x2 = some (0, sI (sI τ 0 0) 0 2) := by
        rw [f_X8_about_36, f_X8_about_41, b_no, bnd_some, if_neg i10]
      rw [hY, f_X8_about_19, b_ok, bnd_some, if_pos rfl, hbad]
      by_cases z : x2 < 0
      · rw [if_pos z]
      · rw [if_neg z, if_neg (fun r => ?_)]
        rcases nI_of2 (M := 2) (n := 2) rfl z r with ⟨k, hk, rfl⟩
        rcases q with q | q
        · exact z q
        · have := (q_le (a := 3) (b := k) (by omega) (by omega)).mp q
          omega
    · rcases ix3 x2 (n := 3) (by omega) with z | ⟨k, hk, rfl⟩
      · exact absurd z q
      · refine Or.inl ⟨(if nI k = 0 then nI (a.2 0 j) else if nI k = 1 then (if a.2 1 j = 0 then 0 else 1) else (if a.2 1 j = 0 then -1 else nI (rankS (σ.2.2 20) (a.2 1) j (a.1 0)))), sI τ 0 0, ?_, ?_, rfl, Rel_thrown h0⟩
        · rw [hX]
          have hk5 : k = 0 ∨ k = 1 ∨ k = 2 := by omega
          rcases hk5 with rfl | rfl | rfl <;> rfl
        · obtain ⟨d1, d2⟩ := hM.2.1 j (by omega)
          have e9 : rankS ((sI τ 0 0).2.2 2) (a.2 1) j (a.1 0) = rankS (σ.2.2 20) (a.2 1) j (a.1 0) := rankS_congr (fun i hi => (h3.1 i hi).symm) hn (by omega)
          rw [hY, f_X8_about_19, b_ok, bnd_some, if_pos rfl, if_neg (q_neg (by omega)), if_pos (show nI k ≤ 2 from (q_le (b := 2) (by omega) (by omega)).mpr (by omega)), f_X8_about_41, b_ok, bnd_some, if_pos rfl, eM, e9]
          simp only [if_pos hin, q_cl (show j < 2000000000 by omega), d1, d2]
          have hk5 : k = 0 ∨ k = 1 ∨ k = 2 := by omega
          by_cases e : a.2 1 j = 0
          · rcases hk5 with rfl | rfl | rfl <;> simp only [e, hj, and_self, if_true] <;> rfl
          · rcases hk5 with rfl | rfl | rfl <;> simp only [e, and_false, if_false] <;> rfl

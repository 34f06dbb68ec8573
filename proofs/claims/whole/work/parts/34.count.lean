theorem lcz {v : Nat} (h : v ≤ 1000000000000) : lg_cmp (lN v) 0 = if v = 0 then 0 else 1 := by
  have e0 : (0 : Int64) = lN 0 := rfl
  rw [e0]
  unfold lg_cmp
  have h1 : lN v < lN 0 ↔ v < 0 := pk_lLT (by omega) (by omega)
  have h2 : lN v = lN 0 ↔ v = 0 := pk_lEQ (by omega) (by omega)
  have h3 : lN 0 < lN v ↔ 0 < v := pk_lLT (by omega) (by omega)
  have h4 : lN 0 = lN v ↔ 0 = v := pk_lEQ (by omega) (by omega)
  by_cases q : v = 0
  · subst q
    simp
  · simp [h1, h2, h3, h4, q]
    try omega
/-- how many of the first k have something left -/
def openS (dl : Nat → Nat) : Nat → Nat
  | 0 => 0
  | k + 1 => openS dl k + (if dl k = 0 then 0 else 1)
theorem openS_le (dl : Nat → Nat) (k : Nat) : openS dl k ≤ k := by
  induction k with
  | zero => exact Nat.le_refl _
  | succ k ih =>
    show openS dl k + (if dl k = 0 then 0 else 1) ≤ k + 1
    split <;> omega
theorem q_le0 {a : Nat} (ha : a < 2000000000) : nI a ≤ 0 ↔ a = 0 := by
  have := q_le (a := a) (b := 0) ha (by omega)
  constructor
  · intro h
    have := this.mp h
    omega
  · rintro rfl
    exact this.mpr (Nat.le_refl _)
theorem X_open {σ : SS} {fu d : Nat} {dl : Nat → Nat} (hfu : 1000 ≤ fu) (hd : d ≤ 400) (h15 : σ.1 15 = nI d) (hl : ∀ i, i < d → σ.2.1 24 i = nI (dl i)) (hb : ∀ i, i < d → dl i ≤ 1000000000) : f_X3_open fu σ = some (nI (openS dl d)) := by
  unfold f_X3_open f_X3_open_L4
  refine up_loop (X := Int32 × Int32) d (fun _ => σ) (fun i => (nI (openS dl i), nI i)) _ (fun i k hi => ?_) (fun k => ?_) fu (by omega)
  · have hbi := hb i hi
    simp (disch := omega) only [f_X3_open_4, f_X3_open_24, h15, q_le, q_in, q_cl, hl i hi, q_inc, q_le0]
    rw [if_neg (by omega), if_pos (by omega)]
    show _ = k σ (nI (openS dl i + (if dl i = 0 then 0 else 1)), nI (i + 1))
    by_cases q : dl i = 0
    · rw [if_pos q, if_pos q]
      rfl
    · rw [if_neg q, if_neg q]
  · simp (disch := omega) only [f_X3_open_4, h15, q_le]
    rw [if_pos (Nat.le_refl _)]
theorem M_open {τ : SS} {fu d : Nat} {dl : Nat → Nat} (hfu : 1000 ≤ fu) (hd : d ≤ 400) (h20 : τ.1 20 = nI d) (hl : ∀ i, i < d → τ.2.2 17 i = lN (dl i)) (hb : ∀ i, i < d → dl i ≤ 1000000000) : f_X8_count_L67 fu τ (0, 0) = some (nI (openS dl d), τ) := by
  unfold f_X8_count_L67
  refine up_loop (X := Int32 × Int32) d (fun _ => τ) (fun i => (nI (openS dl i), nI i)) _ (fun i k hi => ?_) (fun k => ?_) fu (by omega)
  · have hbi := hb i hi
    simp (disch := omega) only [f_X8_count_67, f_X8_count_92, h20, q_le, q_in, q_cl, hl i hi, q_inc, lcz]
    rw [if_neg (by omega), if_pos (by omega)]
    show _ = k τ (nI (openS dl i + (if dl i = 0 then 0 else 1)), nI (i + 1))
    by_cases q : dl i = 0
    · rw [if_pos q, if_pos q, if_pos (by decide)]
      rw [show (0 : Int32) = nI 0 from rfl, q_add]
    · rw [if_neg q, if_neg q, if_neg (by decide)]
  · simp (disch := omega) only [f_X8_count_67, h20, q_le]
    rw [if_pos (Nat.le_refl _)]
theorem sim_count {fu : Nat} (hfu : 1000 ≤ fu) : Sim_count fu Rel := by
  intro σ τ h x1
  have h0 := h
  obtain ⟨a, h1, h2, h3, h4, h5⟩ := h
  have hM := RM_thrown (v := 0) h2
  have eX := X_open (σ := σ) hfu h4.2.2.2.2.1 h1.1.2.2.2.2.1 (fun i hi => (h1.2.2.2.1 i hi).2.2.1) (fun i hi => (h4.2.2.2.2.2.2.2.1 i hi).2.2.1)
  have eM := M_open (τ := sI τ 0 0) hfu h4.2.2.2.2.1 hM.1.2.2.2.2.1 (fun i hi => (hM.2.2.2.1 i hi).2.2.1) (fun i hi => (h4.2.2.2.2.2.2.2.1 i hi).2.2.1)
  obtain ⟨⟨e1, e2, e3, e4, e5, e6⟩, -⟩ := h1
  obtain ⟨⟨m1, m2, m3, m4, m5, m6⟩, -⟩ := h2
  refine ⟨(if x1 = 0 then nI (a.1 0) else if x1 = 1 then nI (a.1 3) else if x1 = 2 then nI (a.1 4) else if x1 = 3 then nI (openS (a.2 12) (a.1 4)) else if x1 = 4 then nI (a.1 5) else if x1 = 5 then nI (a.1 1) else if x1 = 6 then nI (a.1 2) else -1), sI τ 0 0, ?_, ?_, Rel_thrown h0⟩
  · unfold f_X7_count
    rw [eX, bnd1_some, e1, e2, e3, e4, e5, e6]
    repeat (split; rfl)
    rfl
  · unfold f_X8_count
    rw [eM, m1, m2, m3, m4, m5, m6]
    repeat (split; rfl)
    rfl

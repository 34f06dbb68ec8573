def aI (a : AS) (k v : Nat) : AS := (fun j => if j = k then v else a.1 j, a.2)
def aA (a : AS) (r j v : Nat) : AS := (a.1, fun b i => if b = r ∧ i = j then v else a.2 b i)
theorem aI_1 (a : AS) (k v j : Nat) : (aI a k v).1 j = if j = k then v else a.1 j := rfl
theorem aI_2 (a : AS) (k v : Nat) : (aI a k v).2 = a.2 := rfl
theorem aA_1 (a : AS) (r j v : Nat) : (aA a r j v).1 = a.1 := rfl
theorem aA_2 (a : AS) (r j v b i : Nat) : (aA a r j v).2 b i = if b = r ∧ i = j then v else a.2 b i := rfl
theorem sumTo_congr {f g : Nat → Nat} {n : Nat} (h : ∀ i, i < n → f i = g i) : sumTo f n = sumTo g n := by
  induction n with
  | zero => rfl
  | succ n ih =>
    show sumTo f n + f n = sumTo g n + g n
    rw [ih (fun i hi => h i (by omega)), h n (by omega)]
theorem sumTo_set {f : Nat → Nat} {n j v : Nat} (hj : j < n) : sumTo (fun i => if i = j then v else f i) n + f j = sumTo f n + v := by
  induction n with
  | zero => omega
  | succ n ih =>
    show sumTo _ n + (if n = j then v else f n) + f j = sumTo f n + f n + v
    by_cases e : n = j
    · subst e
      rw [if_pos rfl, sumTo_congr (g := f) (fun i hi => by rw [if_neg (by omega)])]
      omega
    · rw [if_neg e]
      have := ih (by omega)
      omega
theorem sim_chief (fu : Nat) : Sim_chief fu Rel := by
  intro σ τ h x1
  have h0 := h
  obtain ⟨a, h1, h2, h3, h4, h5⟩ := h
  have hM := RM_thrown (v := 0) h2
  have hn : a.1 0 ≤ 12 := h4.1
  have hbad : f_X8_chief_16 fu (sI τ 0 0) x1 = some (0, sI (sI τ 0 0) 0 1) := by
    rw [f_X8_chief_16, f_X8_chief_21, b_no, bnd_some, if_neg i10]
  by_cases q1 : x1 < 0
  · refine Or.inr (Or.inl ⟨0, σ, sI (sI τ 0 0) 0 1, ?_, ?_, rfl, Rel_thrown (Rel_thrown h0)⟩)
    · rw [f_X7_chief, if_pos q1, f_X7_chief_10]
    · rw [f_X8_chief, if_pos q1, hbad]
  by_cases q2 : x1 ≤ 1000000
  · obtain ⟨b, hb, rfl⟩ := nI_of2 (M := 1000000) (n := 1000000) rfl q1 q2
    by_cases q3 : a.1 0 = 12
    · refine Or.inr (Or.inr ⟨0, σ, sI (sI τ 0 0) 0 2, ?_, ?_, rfl, Rel_thrown (Rel_thrown h0)⟩)
      · rw [f_X7_chief, if_neg q1, if_pos q2, h1.1.1, q3, if_neg (by decide)]
      · rw [f_X8_chief, if_neg q1, if_pos q2, f_X8_chief_21, b_ok, bnd_some, if_pos rfl, hM.1.1, q3, if_pos (show nI 12 = 12 from rfl), f_X8_chief_43, b_no, bnd_some, if_neg i10]
    · have hlt : a.1 0 < 12 := by omega
      have hz := h4.2.2.2.2.2.2.2.2.2.1 (a.1 0) (Nat.le_refl _)
      refine Or.inl ⟨nI (a.1 0), sI (sA (sA σ 19 (a.1 0) (nI b)) 21 (a.1 0) 1) 14 (nI (a.1 0 + 1)), sI (sA (sI τ 0 0) 1 (a.1 0) (nI b)) 4 (nI (a.1 0 + 1)), ?_, ?_, rfl, aI (aA (aA a 0 (a.1 0) b) 1 (a.1 0) 1) 0 (a.1 0 + 1), ?_, ?_, ?_, ?_, ?_⟩
      · rw [f_X7_chief, if_neg q1, if_pos q2, h1.1.1, if_pos (show nI (a.1 0) < 12 from (q_lt (b := 12) (by omega) (by omega)).mpr hlt), f_X0_add, h1.1.1, if_pos ((q_in (by omega)).mpr hlt), bnd_some, q_cl (by omega), q_inc, q_dec (by omega), vz1]
        rfl
      · rw [f_X8_chief, if_neg q1, if_pos q2, f_X8_chief_21, b_ok, bnd_some, if_pos rfl, hM.1.1, if_neg (show ¬ nI (a.1 0) = 12 from fun e => by have := (q_eq (b := 12) (by omega) (by omega)).mp e; omega), f_X8_chief_43, b_ok, bnd_some, if_pos rfl, hM.1.1, if_pos ((q_in (by omega)).mpr hlt), q_cl (by omega), q_inc, q_dec (by omega)]
        rfl
      · obtain ⟨⟨e1, e2, e3, e4, e5, e6⟩, hb2, hc, hd, hp⟩ := h1
        refine ⟨⟨?_, ?_, ?_, ?_, ?_, ?_⟩, fun i hi => ?_, ?_, ?_, ?_⟩
        all_goals first | (simp [sI_1, sA_1, aI_1, aA_1, *]; done) | skip
        · have := hb2 i hi
          by_cases e : i = a.1 0 <;> simp [sI_2, sA_2, aI_2, aA_2, e, this]
          · exact rfl
        · intro i hi
          have := hc i (by simpa [aI_1, aA_1] using hi)
          simpa [sI_2, sA_2, aI_2, aA_2] using this
        · intro i hi
          have := hd i (by simpa [aI_1, aA_1] using hi)
          simpa [sI_2, sA_2, aI_2, aA_2] using this
        · intro i hi
          have := hp i (by simpa [aI_1, aA_1] using hi)
          simpa [sI_2, sA_2, aI_2, aA_2] using this
      · obtain ⟨⟨e1, e2, e3, e4, e5, e6⟩, hb2, hc, hd, hp⟩ := hM
        refine ⟨⟨by simp [sI_1, aI_1], by simpa [sI_1, sA_1, aI_1, aA_1] using e2, by simpa [sI_1, sA_1, aI_1, aA_1] using e3, by simpa [sI_1, sA_1, aI_1, aA_1] using e4, by simpa [sI_1, sA_1, aI_1, aA_1] using e5, by simpa [sI_1, sA_1, aI_1, aA_1] using e6⟩, fun i hi => ?_, ?_, ?_, ?_⟩
        · have := hb2 i hi
          by_cases e : i = a.1 0
          · subst e
            simp [sI_2, sA_2, aI_2, aA_2, aI_1, aA_1] at this ⊢
            exact this.2
          · have e2 : i < a.1 0 + 1 ↔ i < a.1 0 := by omega
            simpa [sI_2, sA_2, aI_2, aA_2, aI_1, aA_1, e, e2] using this
        · intro i hi
          have := hc i (by simpa [aI_1, aA_1] using hi)
          have z : ∀ k, ¬ 3 + k = 1 := fun k => by omega
          have z0 : ∀ k, ¬ 3 + k = 0 := fun k => by omega
          simpa [sI_2, sA_2, aI_2, aA_2, z, z0] using this
        · intro i hi
          have := hd i (by simpa [aI_1, aA_1] using hi)
          simpa [sI_2, sA_2, sA_3, aI_2, aA_2] using this
        · intro i hi
          have := hp i (by simpa [aI_1, aA_1] using hi)
          simpa [sI_2, sA_2, aI_2, aA_2] using this
      · obtain ⟨c1, c2, c3⟩ := h3
        refine ⟨c1, fun j hj => ?_, ?_⟩
        · have := c2 j hj
          simpa [sI_2, sA_2] using this
        · simpa [sI_1, sA_1] using c3
      · obtain ⟨i1, i2, i3, i4, i5, i6, i7, i8, i9, i10, i11⟩ := h4
        refine ⟨?_, i2, i3, i4, i5, i6, ?_, ?_, ?_, ?_, ?_⟩
        · simp [aI_1]; omega
        · intro i hi
          have := i7 i (by simpa [aI_1, aA_1] using hi)
          refine ⟨by simpa [aI_2, aA_2] using this.1, fun k hk => ?_⟩
          have q := this.2 k hk
          have z0 : ¬ 3 + k = 0 := by omega
          have z1 : ¬ 3 + k = 1 := by omega
          simpa [aI_2, aA_2, z0, z1] using q
        · intro i hi
          have := i8 i (by simpa [aI_1, aA_1] using hi)
          simp [aI_1, aI_2, aA_2] at this ⊢
          omega
        · intro i hi
          have := i9 i (by simpa [aI_1, aA_1] using hi)
          simp [aI_1, aI_2, aA_2] at this ⊢
          omega
        · intro i hi
          simp [aI_1] at hi
          have := i10 i (by omega)
          have e : ¬ i = a.1 0 := by omega
          simpa [aI_2, aA_2, e] using this
        · intro i
          have := i11 i
          by_cases e : i = a.1 0 <;> simp [aI_2, aA_2, e, this]
      · have e : sumTo (fun i => if i = a.1 0 then b else a.2 0 i) 12 + a.2 0 (a.1 0) = sumTo (a.2 0) 12 + b := sumTo_set hlt
        have e2 : sumTo (a.2 0) 12 ≤ 1000000 * a.1 0 := h5
        have e3 : sumTo ((aI (aA (aA a 0 (a.1 0) b) 1 (a.1 0) 1) 0 (a.1 0 + 1)).2 0) 12 = sumTo (fun i => if i = a.1 0 then b else a.2 0 i) 12 := sumTo_congr (fun i _ => by simp [aI_2, aA_2])
        show sumTo ((aI (aA (aA a 0 (a.1 0) b) 1 (a.1 0) 1) 0 (a.1 0 + 1)).2 0) 12 ≤ 1000000 * (a.1 0 + 1)
        rw [e3]
        omega
  · refine Or.inr (Or.inl ⟨0, σ, sI (sI τ 0 0) 0 1, ?_, ?_, rfl, Rel_thrown (Rel_thrown h0)⟩)
    · rw [f_X7_chief, if_neg q1, if_neg q2, f_X7_chief_10]
    · rw [f_X8_chief, if_neg q1, if_neg q2, hbad]

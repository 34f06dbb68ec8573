/-! custom -/
def addC (a : AS) (yr : Nat) (x : Nat → Nat) : AS := (fun k => if k = 3 then a.1 3 + 1 else a.1 k, fun r i => if i = a.1 3 ∧ 2 ≤ r ∧ r ≤ 8 then (if r = 2 then yr else x (r - 3)) else a.2 r i)
theorem addC_1 {a : AS} {yr : Nat} {x : Nat → Nat} {k : Nat} (h : k ≠ 3) : (addC a yr x).1 k = a.1 k := if_neg h
theorem addC_3 {a : AS} {yr : Nat} {x : Nat → Nat} : (addC a yr x).1 3 = a.1 3 + 1 := rfl
theorem addC_o {a : AS} {yr : Nat} {x : Nat → Nat} {r i : Nat} (h : i ≠ a.1 3 ∨ r < 2 ∨ 8 < r) : (addC a yr x).2 r i = a.2 r i := if_neg (fun z => by omega)
theorem addC_n {a : AS} {yr : Nat} {x : Nat → Nat} {k : Nat} (h : k < 6) : (addC a yr x).2 (3 + k) (a.1 3) = x k := by
  show (if a.1 3 = a.1 3 ∧ 2 ≤ 3 + k ∧ 3 + k ≤ 8 then (if 3 + k = 2 then yr else x (3 + k - 3)) else a.2 (3 + k) (a.1 3)) = x k
  rw [if_pos ⟨rfl, by omega, by omega⟩, if_neg (by omega), show 3 + k - 3 = k by omega]
theorem addC_y {a : AS} {yr : Nat} {x : Nat → Nat} : (addC a yr x).2 2 (a.1 3) = yr := by
  show (if a.1 3 = a.1 3 ∧ 2 ≤ 2 ∧ 2 ≤ 8 then (if 2 = 2 then yr else x (2 - 3)) else a.2 2 (a.1 3)) = yr
  rw [if_pos ⟨rfl, by omega, by omega⟩, if_pos rfl]
theorem RX_addC {σ : SS} {a : AS} {yr : Nat} {x : Nat → Nat} {v7 v8 v9 v10 v11 v12 : Int32} (h : RX σ a) (e8 : v8 = nI (x 1)) (e11 : v11 = nI (x 4)) (e12 : v12 = nI (x 5)) (e7 : x 1 ≠ 0 → v7 = nI (x 0) ∧ v9 = nI (x 2)) (e10 : x 4 ≠ 0 → v10 = nI (x 3)) : RX (sI (sA (sA (sA (sA (sA (sA (sA σ 12 (a.1 3) (nI yr)) 13 (a.1 3) v7) 14 (a.1 3) v8) 15 (a.1 3) v9) 16 (a.1 3) v10) 17 (a.1 3) v11) 18 (a.1 3) v12) 13 (nI (a.1 3 + 1))) (addC a yr x) := by
  obtain ⟨⟨f1, f2, f3, f4, f5, f6⟩, hb, hc, hd, hp⟩ := h
  refine ⟨⟨f1, f2, f3, rfl, f5, f6⟩, fun i hi => ?_, fun i hi => ?_, fun i hi => ?_, fun i hi => ?_⟩
  · have q := hb i hi
    rw [addC_o (by omega), addC_o (by omega)]
    simpa [sI_2, sA_2] using q
  · have hi2 : i < a.1 3 + 1 := hi
    by_cases e : i = a.1 3
    · subst e
      have n0 : (addC a yr x).2 3 (a.1 3) = x 0 := addC_n (k := 0) (by omega)
      have n1 : (addC a yr x).2 4 (a.1 3) = x 1 := addC_n (k := 1) (by omega)
      have n2 : (addC a yr x).2 5 (a.1 3) = x 2 := addC_n (k := 2) (by omega)
      have n3 : (addC a yr x).2 6 (a.1 3) = x 3 := addC_n (k := 3) (by omega)
      have n4 : (addC a yr x).2 7 (a.1 3) = x 4 := addC_n (k := 4) (by omega)
      have n5 : (addC a yr x).2 8 (a.1 3) = x 5 := addC_n (k := 5) (by omega)
      rw [n0, n1, n2, n3, n4, n5, addC_y]
      refine ⟨?_, ?_, ?_, ?_, fun hz => ⟨?_, ?_⟩, fun hz => ?_⟩
      · simp [sI_2, sA_2]
      · simp [sI_2, sA_2, e8]
      · simp [sI_2, sA_2, e11]
      · simp [sI_2, sA_2, e12]
      · simp [sI_2, sA_2, (e7 hz).1]
      · simp [sI_2, sA_2, (e7 hz).2]
      · simp [sI_2, sA_2, e10 hz]
    · have q := hc i (by omega)
      rw [addC_o (Or.inl e), addC_o (Or.inl e), addC_o (Or.inl e), addC_o (Or.inl e), addC_o (Or.inl e), addC_o (Or.inl e), addC_o (Or.inl e)]
      simpa [sI_2, sA_2, e] using q
  · have q := hd i hi
    rw [addC_o (by omega), addC_o (by omega), addC_o (by omega), addC_o (by omega)]
    simpa [sI_2, sA_2] using q
  · have q := hp i hi
    rw [addC_o (by omega), addC_o (by omega), addC_o (by omega)]
    simpa [sI_2, sA_2] using q
theorem RM_addC {τ : SS} {a : AS} {yr : Nat} {x : Nat → Nat} (h : RM τ a) (hx : ∀ k, k < 6 → τ.2.1 13 (6 * a.1 3 + k) = nI (x k)) : RM (sI (sA τ 12 (a.1 3) (nI yr)) 14 (nI (a.1 3 + 1))) (addC a yr x) := by
  obtain ⟨⟨f1, f2, f3, f4, f5, f6⟩, hb, hc, hd, hp⟩ := h
  refine ⟨⟨f1, f2, f3, rfl, f5, f6⟩, fun i hi => ?_, fun i hi => ?_, fun i hi => ?_, fun i hi => ?_⟩
  · have q := hb i hi
    rw [addC_o (by omega), addC_o (by omega), addC_1 (k := 0) (by omega)]
    simpa [sI_2, sA_2] using q
  · have hi2 : i < a.1 3 + 1 := hi
    by_cases e : i = a.1 3
    · subst e
      refine ⟨?_, fun k hk => ?_⟩
      · rw [addC_y]
        simp [sI_2, sA_2]
      · rw [addC_n hk, ← hx k hk]
        simp [sI_2, sA_2]
    · have q := hc i (by omega)
      refine ⟨?_, fun k hk => ?_⟩
      · rw [addC_o (Or.inl e), ← q.1]
        simp [sI_2, sA_2, e]
      · rw [addC_o (Or.inl e), ← q.2 k hk]
        simp [sI_2, sA_2]
  · have q := hd i hi
    rw [addC_o (by omega), addC_o (by omega), addC_o (by omega), addC_o (by omega)]
    simpa [sI_2, sA_2, sA_3] using q
  · have q := hp i hi
    rw [addC_o (by omega), addC_o (by omega), addC_o (by omega)]
    simpa [sI_2, sA_2] using q
theorem Inv_addC {a : AS} {yr : Nat} {x : Nat → Nat} (h : Inv a) (hc : a.1 3 < 20) (hy : yr ≤ 1000) (hx : ∀ k, k < 6 → x k ≤ 1000) : Inv (addC a yr x) := by
  obtain ⟨i1, i2, i3, i4, i5, i6, i7, i8, i9, i10, i11⟩ := h
  refine ⟨i1, i2, i3, by rw [addC_3]; omega, i5, i6, fun i hi => ?_, fun i hi => ?_, fun i hi => ?_, fun i hi => ?_, fun i => ?_⟩
  · have hi2 : i < a.1 3 + 1 := hi
    by_cases e : i = a.1 3
    · subst e
      refine ⟨by rw [addC_y]; exact hy, fun k hk => by rw [addC_n hk]; exact hx k hk⟩
    · obtain ⟨q1, q2⟩ := i7 i (by omega)
      refine ⟨by rw [addC_o (Or.inl e)]; exact q1, fun k hk => by rw [addC_o (Or.inl e)]; exact q2 k hk⟩
  · have q := i8 i hi
    rw [addC_o (by omega), addC_o (by omega), addC_o (by omega), addC_o (by omega)]
    exact q
  · have q := i9 i hi
    rw [addC_o (by omega), addC_o (by omega), addC_o (by omega)]
    exact q
  · have q := i10 i hi
    rw [addC_o (by omega), addC_o (by omega)]
    exact q
  · have q := i11 i
    rw [addC_o (by omega)]
    exact q
theorem InvB_addC {a : AS} {yr : Nat} {x : Nat → Nat} (h : InvB a) : InvB (addC a yr x) := by
  have e : sumTo ((addC a yr x).2 0) 12 = sumTo (a.2 0) 12 := sumTo_congr (fun i _ => addC_o (by omega))
  show sumTo ((addC a yr x).2 0) 12 ≤ 1000000 * a.1 0
  rw [e]
  exact h
theorem c101 {fu c : Nat} (hc : c < 20) (y : Int32) : ∀ (m k fuel : Nat) (τ : SS), k + m = 6 → m < fuel → (∀ j, j < k → τ.2.1 13 (6 * c + j) = nI 0) → ∃ τ' : SS, loopN (fun k101 σ x => f_X8_custom_101 fu k101 σ x.1 x.2.1 x.2.2) fuel τ (y, nI (6 * c), nI k) = bnd (f_X8_blanks fu τ') (fun _ t4 => f_X8_custom_L131 fu t4 (y, nI (6 * c), 0)) ∧ (∀ j, j < 6 → τ'.2.1 13 (6 * c + j) = nI 0) ∧ τ'.1 = τ.1 ∧ KM c τ τ' := by
  intro m
  induction m with
  | zero =>
    intro k fuel τ hk hf h
    obtain ⟨f, rfl⟩ : ∃ f, fuel = f + 1 := ⟨fuel - 1, by omega⟩
    have hk6 : k = 6 := by omega
    subst hk6
    refine ⟨τ, ?_, h, rfl, KM_rf c τ⟩
    show f_X8_custom_101 fu _ τ y (nI (6 * c)) (nI 6) = _
    rw [f_X8_custom_101, if_pos (by decide)]
  | succ m ih =>
    intro k fuel τ hk hf h
    obtain ⟨f, rfl⟩ : ∃ f, fuel = f + 1 := ⟨fuel - 1, by omega⟩
    obtain ⟨τ', r1, r2, r3, r4⟩ := ih (k + 1) f (sA τ 13 (6 * c + k) 0) (by omega) (by omega) (fun j hj => by
      rw [sA_2]
      by_cases e : j = k
      · rw [if_pos ⟨rfl, by omega⟩]
        rfl
      · rw [if_neg (fun z => e (by have := z.2; omega))]
        exact h j (by omega))
    refine ⟨τ', ?_, r2, r3, KM_tr (KM_A (by omega)) r4⟩
    show f_X8_custom_101 fu (loopN _ f) τ y (nI (6 * c)) (nI k) = _
    rw [f_X8_custom_101, if_neg (show ¬ (6 : Int32) ≤ nI k from fun z => by have := (q_le (a := 6) (by omega) (by omega)).mp z; omega), q_add, if_pos ((q_in (by omega)).mpr (by omega)), q_cl (by omega), q_inc]
    exact r1
theorem sW_2 (σ : SS) (a : Nat) (f : Nat → Int32) (b : Nat) : (sW σ a f).2.1 b = if b = a then f else σ.2.1 b := by
  show (bif Nat.beq b a then f else σ.2.1 b) = _
  by_cases h : b = a
  · subst h; simp
  · have : Nat.beq b a = false := by
      cases hb : Nat.beq b a with
      | false => rfl
      | true => exact absurd (Nat.eq_of_beq_eq_true hb) h
    simp [h, this]
theorem sim_custom {fu : Nat} (hfu : 1000 ≤ fu) : Sim_custom fu Rel := by
  intro σ τ h x1 x2
  have h0 := h
  obtain ⟨a, h1, h2, h3, h4, h5⟩ := h
  have hM := RM_thrown (v := 0) h2
  have hL : a.1 2 ≤ 200 := h4.2.2.1
  have hc : a.1 3 ≤ 20 := h4.2.2.2.1
  have hbad : f_X8_custom_29 fu (sI τ 0 0) x1 x2 = some (0, sI (sI τ 0 0) 0 1) := by
    rw [f_X8_custom_29, f_X8_custom_34, b_no, bnd_some, if_neg i10]
  have no : f_X7_custom fu σ x1 x2 = some (.inr 0, σ) → f_X8_custom fu τ x1 x2 = some (0, sI (sI τ 0 0) 0 1) → (∃ (v : Int32) (σ' : SS) (τ' : SS), f_X7_custom fu σ x1 x2 = some (.inl v, σ') ∧ f_X8_custom fu τ x1 x2 = some (v, τ') ∧ τ'.1 0 = 0 ∧ Rel σ' τ') ∨ (∃ (v : Int32) (σ' : SS) (τ' : SS), f_X7_custom fu σ x1 x2 = some (.inr 0, σ') ∧ f_X8_custom fu τ x1 x2 = some (v, τ') ∧ τ'.1 0 = 1 ∧ Rel σ' τ') ∨ (∃ (v : Int32) (σ' : SS) (τ' : SS), f_X7_custom fu σ x1 x2 = some (.inr 1, σ') ∧ f_X8_custom fu τ x1 x2 = some (v, τ') ∧ τ'.1 0 = 2 ∧ Rel σ' τ') :=
    fun e1 e2 => Or.inr (Or.inl ⟨0, σ, _, e1, e2, rfl, Rel_thrown (Rel_thrown h0)⟩)
  by_cases q1 : x1 < 0
  · exact no (by rw [f_X7_custom, if_pos q1, f_X7_custom_26]) (by rw [f_X8_custom, if_pos q1, hbad])
  by_cases q2 : nI (a.1 2) < x1
  · exact no (by rw [f_X7_custom, if_neg q1, h1.1.2.2.1, if_pos q2, f_X7_custom_26]) (by rw [f_X8_custom, if_neg q1, h2.1.2.2.1, if_pos q2, hbad])
  by_cases q3 : x2 < 0
  · exact no (by rw [f_X7_custom, if_neg q1, h1.1.2.2.1, if_neg q2, if_pos q3, f_X7_custom_26]) (by rw [f_X8_custom, if_neg q1, h2.1.2.2.1, if_neg q2, if_pos q3, hbad])
  by_cases q4 : x2 ≤ 1000
  rotate_left
  · exact no (by rw [f_X7_custom, if_neg q1, h1.1.2.2.1, if_neg q2, if_neg q3, if_neg q4, f_X7_custom_26]) (by rw [f_X8_custom, if_neg q1, h2.1.2.2.1, if_neg q2, if_neg q3, if_neg q4, hbad])
  obtain ⟨yr, hyr, rfl⟩ := nI_of2 (M := 1000) (n := 1000) rfl q3 q4
  obtain ⟨n, hn0, rfl⟩ := nI_of q1
  have hn : n ≤ a.1 2 := by
    by_cases z : n ≤ a.1 2
    · exact z
    · exact absurd ((nI_ltI (by omega) (by omega)).mpr (by omega)) q2
  rw [f_X7_custom, if_neg q1, h1.1.2.2.1, if_neg q2, if_neg q3, if_pos q4, h1.1.2.2.2.1, f_X8_custom, if_neg q1, h2.1.2.2.1, if_neg q2, if_neg q3, if_pos q4, f_X8_custom_34, b_ok, bnd_some, if_pos rfl, hM.1.2.2.2.1]
  by_cases q5 : a.1 3 = 20
  · refine Or.inr (Or.inr ⟨0, σ, sI (sI τ 0 0) 0 2, ?_, ?_, rfl, Rel_thrown (Rel_thrown h0)⟩)
    · rw [q5, if_neg (by decide)]
    · rw [q5, if_pos (show nI 20 = (20 : Int32) from rfl), f_X8_custom_56, b_no, bnd_some, if_neg i10]
  have hc20 : a.1 3 < 20 := by omega
  left
  -- the bytes
  have hby : ∀ j, ∃ v, j < 200 → v < 256 ∧ bX (σ.2.1 10 j) v ∧ σ.2.1 10 j &&& 255 = nI v := by
    intro j
    by_cases hj : j < 200
    · obtain ⟨v, hv⟩ := byte_ok (h3.2.1 j hj).2
      exact ⟨v, fun _ => hv⟩
    · exact ⟨0, fun z => absurd z hj⟩
  obtain ⟨u, hu⟩ := Classical.axiomOfChoice hby
  have c0 : ((0 : Int32)).toNatClampNeg = 0 := by decide
  have hcond : ¬ nI n < 0 ∧ ((0 : Int32)).toNatClampNeg + (nI n).toNatClampNeg ≤ 200 ∧ ((0 : Int32)).toNatClampNeg + (nI n).toNatClampNeg ≤ 200 ∧ (∀ i, i < (nI n).toNatClampNeg → fits .byte (.int ((σ.2.1 10) (((0 : Int32)).toNatClampNeg + i))) = true) := by
    rw [q_cl (show n < 2000000000 by omega), c0]
    refine ⟨q1, by omega, by omega, fun i hi => ?_⟩
    rw [Nat.zero_add]
    exact (h3.2.1 i (by omega)).2
  rw [f_X6_read, if_pos hcond, q_cl (show n < 2000000000 by omega), c0, if_pos (show nI (a.1 3) < (20 : Int32) from (q_lt (b := 20) (by omega) (by omega)).mpr hc20), if_neg (show ¬ nI (a.1 3) = (20 : Int32) from fun z => q5 ((q_eq (b := 20) (by omega) (by omega)).mp z)), f_X8_custom_56, b_ok, bnd_some, if_pos rfl, hM.1.2.2.2.1, f_X8_custom_L101]
  -- both starts
  generalize hS : sI (sI (sI (sI (sI (sI (sI (sW σ 11 (va_cpy (σ.2.1 10) (σ.2.1 11) 0 0 n)) 3 (nI n)) 4 (0 : Int32)) 5 (0 : Int32)) 6 (-1)) 8 (0 : Int32)) 11 (0 : Int32)) 12 (0 : Int32) = S
  generalize hT : sI (sI (sI (sI (sI (sI τ 0 0) 8 (nI n)) 7 (0 : Int32)) 9 (0 : Int32)) 10 (0 : Int32)) 11 (-1) = T
  have SX : TX n u S 0 := by
    rw [← hS]
    refine ⟨rfl, rfl, by omega, by omega, fun j hj => ?_⟩
    have e : (sI (sI (sI (sI (sI (sI (sI (sW σ 11 (va_cpy (σ.2.1 10) (σ.2.1 11) 0 0 n)) 3 (nI n)) 4 (0 : Int32)) 5 (0 : Int32)) 6 (-1)) 8 (0 : Int32)) 11 (0 : Int32)) 12 (0 : Int32)).2.1 11 j = σ.2.1 10 j := by
      show (sW σ 11 (va_cpy (σ.2.1 10) (σ.2.1 11) 0 0 n)).2.1 11 j = σ.2.1 10 j
      rw [sW_2, if_pos rfl, pk_cpy_in (by omega) (by omega)]
      simp
    rw [e]
    exact (hu j (by omega)).2.1
  have SM : TM n u T 0 := by
    rw [← hT]
    refine ⟨rfl, rfl, by omega, by omega, fun j hj => ?_⟩
    have e := (h3.2.1 j (by omega)).1
    obtain ⟨v1, v2, v3⟩ := hu j (by omega)
    refine ⟨v1, ?_⟩
    show τ.2.1 6 j &&& 255 = nI (u j)
    rw [← e]
    exact v3
  obtain ⟨T1, t1, t2, t3, t4⟩ := c101 (fu := fu) hc20 (nI yr) 6 0 fu T (by omega) (by omega) (fun j hj => by omega)
  have e6 : (6 : Int32) * nI (a.1 3) = nI (6 * a.1 3) := by rw [show (6 : Int32) = nI 6 from rfl, q_mul]
  have t1' : loopN (fun k101 σ x => f_X8_custom_101 fu k101 σ x.1 x.2.1 x.2.2) fu T (nI yr, (6 : Int32) * nI (a.1 3), 0) = bnd (f_X8_blanks fu T1) (fun _ t4 => f_X8_custom_L131 fu t4 (nI yr, nI (6 * a.1 3), 0)) := by
    rw [e6]
    exact t1
  have SM1 : TM n u T1 0 := ⟨by rw [t3]; exact SM.1, by rw [t3]; exact SM.2.1, SM.2.2.1, SM.2.2.2.1, fun j hj => by rw [t4.2.2.1 6 (by omega)]; exact SM.2.2.2.2 j hj⟩
  obtain ⟨b1, b2, b3, b4⟩ := sk_ok (P := isB) (u := u) (Nat.zero_le n)
  have X2 := TX_at SX b2
  have M2 := TM_at SM1 b2
  rw [X_blanks hfu SX, bnd_some, f_X6_read_L52, t1', M_blanks hfu SM1, bnd_some, f_X8_custom_L131]
  have T10 : T1.1 10 = 0 := by rw [t3, ← hT]; rfl
  have S5 : S.1 5 = 0 := by rw [← hS]; rfl
  have key := read_both (fu := fu) (n := n) (u := u) hfu hc20 (nI yr) 8 0 fu (sk isB u n 0) (sI S 4 (nI (sk isB u n 0))) (sI T1 9 (nI (sk isB u n 0))) (fun _ => 0) (by omega) (by omega) X2 M2 (sk_idem (Nat.zero_le n)) S5 T10 (by
    rw [← hS]
    exact ⟨rfl, rfl, rfl, fun z => absurd rfl z, fun z => absurd rfl z⟩) ⟨t2, fun _ _ => by show 0 ≤ 1000; omega⟩
  -- what both starts keep
  have rx0 : ∀ σ' : SS, KX (sI S 4 (nI (sk isB u n 0))) σ' → RX σ' a := by
    intro σ' hK
    refine RX_eq h1 (fun k hk => ?_) (fun r r1 r2 r3 => ?_)
    · rw [hK.2 k (by omega), sI_ne (by omega), ← hS, sI_ne (by omega), sI_ne (by omega), sI_ne (by omega), sI_ne (by omega), sI_ne (by omega), sI_ne (by omega), sI_ne (by omega)]
      rfl
    · rw [hK.1, ← hS]
      show (sW σ 11 (va_cpy (σ.2.1 10) (σ.2.1 11) 0 0 n)).2.1 r = σ.2.1 r
      rw [sW_2, if_neg (by omega)]
  have xrow : ∀ σ' : SS, KX (sI S 4 (nI (sk isB u n 0))) σ' → σ'.2.1 10 = σ.2.1 10 ∧ σ'.2.2 = σ.2.2 := by
    intro σ' hK
    rw [hK.1, ← hS]
    refine ⟨?_, rfl⟩
    show (sW σ 11 (va_cpy (σ.2.1 10) (σ.2.1 11) 0 0 n)).2.1 10 = σ.2.1 10
    rw [sW_2, if_neg (by omega)]
  have kmT : ∀ τ' : SS, KM (a.1 3) (sI T1 9 (nI (sk isB u n 0))) τ' → KM (a.1 3) T τ' := fun τ' hK => KM_tr t4 (KM_tr (KM_I (by omega)) hK)
  have mfld : ∀ τ' : SS, KM (a.1 3) T τ' → ∀ k, k ≠ 7 → k ≠ 8 → k ≠ 9 → k ≠ 10 → k ≠ 11 → τ'.1 k = (sI τ 0 0).1 k := by
    intro τ' hK k k7 k8 k9 k10 k11
    rw [hK.1 k k9 k10 k11, ← hT, sI_ne k11, sI_ne k10, sI_ne k9, sI_ne k7, sI_ne k8]
  have m7 : ∀ τ' : SS, KM (a.1 3) T τ' → τ'.1 7 = 0 := by
    intro τ' hK
    rw [hK.1 7 (by omega) (by omega) (by omega), ← hT]
    rfl
  have mrow : ∀ τ' : SS, KM (a.1 3) T τ' → (∀ r, r ≠ 13 → τ'.2.1 r = τ.2.1 r) ∧ (∀ i, i < 6 * a.1 3 → τ'.2.1 13 i = τ.2.1 13 i) ∧ τ'.2.2 = τ.2.2 := by
    intro τ' hK
    refine ⟨fun r hr => ?_, fun i hi => ?_, ?_⟩
    · rw [hK.2.2.1 r hr, ← hT]
      rfl
    · rw [hK.2.2.2 i hi, ← hT]
      rfl
    · rw [hK.2.1, ← hT]
      rfl
  have rm0 : ∀ τ' : SS, KM (a.1 3) T τ' → RM τ' (aI a 2 0) := by
    intro τ' hK
    have mf := mfld τ' hK
    obtain ⟨r1, r2, r3⟩ := mrow τ' hK
    obtain ⟨⟨f1, f2, f3, f4, f5, f6⟩, hb, hcc, hd, hp⟩ := hM
    refine ⟨⟨?_, ?_, ?_, ?_, ?_, ?_⟩, ?_, ?_, ?_, ?_⟩
    · rw [mf 4 (by omega) (by omega) (by omega) (by omega) (by omega)]; exact f1
    · rw [mf 5 (by omega) (by omega) (by omega) (by omega) (by omega)]; exact f2
    · exact m7 τ' hK
    · rw [mf 14 (by omega) (by omega) (by omega) (by omega) (by omega)]; exact f4
    · rw [mf 20 (by omega) (by omega) (by omega) (by omega) (by omega)]; exact f5
    · rw [mf 24 (by omega) (by omega) (by omega) (by omega) (by omega)]; exact f6
    · rw [r1 1 (by omega), r1 3 (by omega)]; exact hb
    · intro i hi
      have hi2 : i < a.1 3 := hi
      have q := hcc i hi2
      refine ⟨by rw [r1 12 (by omega)]; exact q.1, fun k hk => ?_⟩
      rw [r2 (6 * i + k) (by omega)]
      exact q.2 k hk
    · unfold RMd
      rw [r1 15 (by omega), r1 16 (by omega), r3, r1 18 (by omega), r1 19 (by omega)]
      exact hd
    · unfold RMp
      rw [r1 21 (by omega), r1 22 (by omega), r1 23 (by omega)]
      exact hp
  have S6 : S.1 6 = -1 := by rw [← hS]; rfl
  have T11 : T1.1 11 = -1 := by rw [t3, ← hT]; rfl
  rcases key with ⟨σ', τ', x, r1, r2, r3, r4, r5, r6, r7, r8, r9, r10⟩ | ⟨k, pl, σ', τ', r1, r2, r3, r4, r5, r6, r7, r8, r9⟩
  · have e1 : loopN (fun k52 σ x => f_X6_read_52 fu k52 σ x) fu (sI S 4 (nI (sk isB u n 0))) 0 = some ((), σ') := r1
    have e2 : loopN (fun k131 σ x => f_X8_custom_131 fu k131 σ x.1 x.2.1 x.2.2) fu (sI T1 9 (nI (sk isB u n 0))) (nI yr, nI (6 * a.1 3), 0) = f_X8_custom_226 fu τ' (nI yr) := r2
    have kT := kmT τ' r8
    have p6 : σ'.1 6 = -1 := r5.trans S6
    have p11 : τ'.1 11 = -1 := r6.trans T11
    have X0 : RX (sI (sI σ' 2 0) 1 (σ'.1 6)) (aI a 2 0) := by
      have := RX_len (v := 0) (rx0 σ' r7)
      refine RX_eq this (fun k hk => ?_) (fun _ _ _ _ => rfl)
      rw [sI_ne (by omega)]
      rfl
    have M0 := rm0 τ' kT
    have i0 : Inv (aI a 2 0) := Inv_len h4 (by omega)
    have ib0 : InvB (aI a 2 0) := InvB_I h5 (by omega)
    obtain ⟨w1, w2, w3, w4, w5⟩ := r9
    have XF := RX_addC (yr := yr) (x := x) (v7 := σ'.1 7) (v8 := σ'.1 8) (v9 := σ'.1 9) (v10 := σ'.1 10) (v11 := σ'.1 11) (v12 := σ'.1 12) X0 w1 w2 w3 w4 w5
    have MF := RM_addC (yr := yr) (x := x) M0 r10.1
    have e13 : (sI (sI σ' 2 0) 1 (σ'.1 6)).1 13 = nI (a.1 3) := X0.1.2.2.2.1
    have e14 : τ'.1 14 = nI (a.1 3) := M0.1.2.2.2.1
    refine ⟨nI (a.1 3), _, _, ?_, ?_, ?_, addC (aI a 2 0) yr x, XF, MF, ?_, Inv_addC i0 hc20 hyr r10.2, InvB_addC ib0⟩
    · rw [e1, bnd_some, r3, if_pos rfl, f_X2_add, e13, if_pos ((q_in (by omega)).mpr hc20), bnd_some, q_cl (by omega), q_inc, q_dec (by omega)]
      rfl
    · rw [e2, f_X8_custom_226, r4, if_pos (show (0 : Int32) ≤ 0 by decide), e14, if_pos ((q_in (by omega)).mpr hc20), q_cl (by omega), q_inc, q_dec (by omega)]
      rfl
    · show τ'.1 0 = 0
      rw [mfld τ' kT 0 (by omega) (by omega) (by omega) (by omega) (by omega)]
      rfl
    · obtain ⟨x1, x2⟩ := xrow σ' r7
      obtain ⟨y1, y2, y3⟩ := mrow τ' kT
      have h3' : RC (sI (sI σ' 2 0) 1 (σ'.1 6)) τ' := by
        refine ⟨fun i hi => ?_, fun j hj => ?_, ?_⟩
        · show σ'.2.2 20 i = τ'.2.2 2 i
          rw [x2, y3]
          exact h3.1 i hi
        · show σ'.2.1 10 j = τ'.2.1 6 j ∧ fits .byte (.int (σ'.2.1 10 j)) = true
          rw [x1, y1 6 (by omega)]
          exact h3.2.1 j hj
        · show σ'.1 6 = τ'.1 11
          rw [p6, p11]
      exact RC_eq h3' rfl rfl rfl rfl rfl rfl
  · have e1 : loopN (fun k52 σ x => f_X6_read_52 fu k52 σ x) fu (sI S 4 (nI (sk isB u n 0))) 0 = some ((), σ') := r3
    have e2 : loopN (fun k131 σ x => f_X8_custom_131 fu k131 σ x.1 x.2.1 x.2.2) fu (sI T1 9 (nI (sk isB u n 0))) (nI yr, nI (6 * a.1 3), 0) = some (nI k - 10, τ') := r4
    have kT := kmT τ' r9
    have hnz : ¬ σ'.1 5 = 0 := fun z => by
      rw [r5] at z
      have := (q_eq0 (by omega)).mp z
      omega
    have X0 : RX (sI (sI σ' 2 0) 1 (σ'.1 6)) (aI a 2 0) := by
      have := RX_len (v := 0) (rx0 σ' r8)
      refine RX_eq this (fun k hk => ?_) (fun _ _ _ _ => rfl)
      rw [sI_ne (by omega)]
      rfl
    refine ⟨nI k - 10, sI (sI σ' 2 0) 1 (σ'.1 6), τ', ?_, e2, ?_, aI a 2 0, X0, rm0 τ' kT, ?_, Inv_len h4 (by omega), InvB_I h5 (by omega)⟩
    · rw [e1, bnd_some, if_neg hnz, r5]
    · rw [mfld τ' kT 0 (by omega) (by omega) (by omega) (by omega) (by omega)]
      rfl
    · obtain ⟨x1, x2⟩ := xrow σ' r8
      obtain ⟨y1, y2, y3⟩ := mrow τ' kT
      refine ⟨fun i hi => ?_, fun j hj => ?_, ?_⟩
      · show σ'.2.2 20 i = τ'.2.2 2 i
        rw [x2, y3]
        exact h3.1 i hi
      · show σ'.2.1 10 j = τ'.2.1 6 j ∧ fits .byte (.int (σ'.2.1 10 j)) = true
        rw [x1, y1 6 (by omega)]
        exact h3.2.1 j hj
      · show σ'.1 6 = τ'.1 11
        rw [r6, r7]
theorem sim_all : Sim 12000 Rel := ⟨sim_chief _, sim_feed (by omega), sim_custom (by omega), sim_fault _, sim_force (by omega), sim_give (by omega), sim_lend _, sim_copper _, sim_pass (by omega), sim_breaks _, sim_copperTold _, sim_feast (by omega), sim_died (by omega), sim_wait (by omega), sim_debt _, sim_late (by omega), sim_about (by omega), sim_fame _, sim_gather (by omega), sim_hold (by omega), sim_count (by omega)⟩

/-! a clause, all clauses -/
def anyW (n : Nat) (u : Nat → Nat) (s : Nat) : Prop := wordAt n u 0 s ∨ wordAt n u 1 s ∨ wordAt n u 2 s
theorem sk_idem {u : Nat → Nat} {n p : Nat} (hp : p ≤ n) : sk isB u n (sk isB u n p) = sk isB u n p := by
  obtain ⟨b1, b2, b3, b4⟩ := sk_ok (P := isB) (u := u) hp
  obtain ⟨c1, c2, c3, c4⟩ := sk_ok (P := isB) (u := u) b2
  by_cases e : sk isB u n (sk isB u n p) = sk isB u n p
  · exact e
  · exact absurd (c3 (sk isB u n p) (Nat.le_refl _) (by omega)) (b4 (by omega))
section
variable {n : Nat} {u : Nat → Nat} {fu c : Nat}
theorem sp_ex {σ : SS} {s w : Nat} (hfu : 1000 ≤ fu) (hw : w < 4) (hs : s ≤ n) (h : TX n u σ (sk isL u n s)) : ∃ v, f_X6_spells fu σ (nI s) w = some v := by
  rcases X_spells hfu hw hs h with ⟨_, e⟩ | ⟨_, e⟩
  · exact ⟨_, e⟩
  · exact ⟨_, e⟩
theorem mw_at {τ : SS} {s w : Nat} (hfu : 1000 ≤ fu) (hw : w < 4) (hM : TM n u τ s) (hnb : sk isB u n s = s) : (wordAt n u w s ∧ f_X8_isWord fu τ w = some (1, τ)) ∨ (¬ wordAt n u w s ∧ f_X8_isWord fu τ w = some (0, τ)) := by
  have := M_word hfu hw hM
  rw [hnb, sI_self hM.2.1] at this
  exact this
theorem clause_X {σ : SS} {s : Nat} (hfu : 1000 ≤ fu) (hX : TX n u σ s) (f1 : σ.1 5 = 0) (b : Int32) : (wordAt n u 0 s ∧ f_X6_readClause fu σ b = if b = 8 then some ((), badX σ (sk isL u n s) 3 s) else XR1 fu (sI σ 4 (nI (sk isL u n s)))) ∨ (¬ wordAt n u 0 s ∧ wordAt n u 1 s ∧ f_X6_readClause fu σ b = if b = 8 then some ((), badX σ (sk isL u n s) 3 s) else XL1 fu (sI σ 4 (nI (sk isL u n s)))) ∨ (¬ wordAt n u 0 s ∧ ¬ wordAt n u 1 s ∧ wordAt n u 2 s ∧ f_X6_readClause fu σ b = if b = 8 then some ((), badX σ (sk isL u n s) 3 s) else XW1 fu (sI σ 4 (nI (sk isL u n s)))) ∨ (¬ wordAt n u 0 s ∧ ¬ wordAt n u 1 s ∧ ¬ wordAt n u 2 s ∧ f_X6_readClause fu σ b = some ((), badX σ (sk isL u n s) 1 s)) := by
  have hs := hX.2.2.1
  obtain ⟨d1, d2, d3, d4⟩ := sk_ok (P := isL) (u := u) hs
  have hT := TX_at hX d2
  have f1' : (sI σ 4 (nI (sk isL u n s))).1 5 = 0 := f1
  obtain ⟨v1, hv1⟩ := sp_ex (w := 1) hfu (by omega) hs hT
  obtain ⟨v2, hv2⟩ := sp_ex (w := 2) hfu (by omega) hs hT
  have e56 : ∀ x3 x4, f_X6_readClause_56 fu (sI σ 4 (nI (sk isL u n s))) b (nI s) x3 x4 = if b = 8 then some ((), badX σ (sk isL u n s) 3 s) else (if x3 = 0 then (if x4 = 0 then XW1 fu (sI σ 4 (nI (sk isL u n s))) else XL1 fu (sI σ 4 (nI (sk isL u n s)))) else XR1 fu (sI σ 4 (nI (sk isL u n s)))) := by
    intro x3 x4
    rw [f_X6_readClause_56, X_mark0 f1', bnd_some, XR1_eq, XL1_eq]
    rfl
  rw [f_X6_readClause, X_letters hfu hX, bnd_some, hX.2.1]
  rcases X_spells (w := 0) hfu (by omega) hs hT with ⟨h0, e0⟩ | ⟨h0, e0⟩
  · left
    refine ⟨h0, ?_⟩
    rw [e0, bnd1_some, hv1, bnd1_some, hv2, bnd1_some, if_neg i10, e56, if_neg i10]
  · right
    rcases X_spells (w := 1) hfu (by omega) hs hT with ⟨h1, e1⟩ | ⟨h1, e1⟩
    · left
      refine ⟨h0, h1, ?_⟩
      rw [e0, bnd1_some, e1, bnd1_some, hv2, bnd1_some, if_pos rfl, if_neg i10, e56, if_pos rfl, if_neg i10]
    · right
      rcases X_spells (w := 2) hfu (by omega) hs hT with ⟨h2, e2⟩ | ⟨h2, e2⟩
      · left
        refine ⟨h0, h1, h2, ?_⟩
        rw [e0, bnd1_some, e1, bnd1_some, e2, bnd1_some, if_pos rfl, if_pos rfl, if_neg i10, e56, if_pos rfl, if_pos rfl]
      · right
        refine ⟨h0, h1, h2, ?_⟩
        rw [e0, bnd1_some, e1, bnd1_some, e2, bnd1_some, if_pos rfl, if_pos rfl, if_pos rfl, X_mark0 f1', bnd_some]
        rfl
theorem clause_both {σ τ : SS} {s : Nat} {b : Int32} {x : Nat → Nat} (hfu : 1000 ≤ fu) (hc : c < 20) (hX : TX n u σ s) (hM : TM n u τ s) (hnb : sk isB u n s = s) (f1 : σ.1 5 = 0) (f2 : τ.1 10 = 0) (vx : VX x σ) (vm : VM c x τ) (hb : ¬ b = 8) : OutA n u c σ τ (f_X6_readClause fu σ b) (f_X8_clause fu τ (nI (6 * c))) ∨ OutB n u c σ τ (f_X6_readClause fu σ b) (f_X8_clause fu τ (nI (6 * c))) := by
  have hs := hX.2.2.1
  obtain ⟨d1, d2, d3, d4⟩ := sk_ok (P := isL) (u := u) hs
  have hT := TX_at hX d2
  have hTM := TM_at hM d2
  have kx : KX σ (sI σ 4 (nI (sk isL u n s))) := KX_I (by omega) (by omega)
  have km : KM c τ (sI τ 9 (nI (sk isL u n s))) := KM_I (by omega)
  have nd : ∀ w, w < 4 → (wordAt n u w s ∧ f_X8_need fu τ w = some ((), sI τ 9 (nI (sk isL u n s)))) ∨ (¬ wordAt n u w s ∧ f_X8_need fu τ w = some ((), badM τ s 1 s)) := by
    intro w hw
    have := M_need hfu hw hM f2
    rw [hnb] at this
    rcases this with ⟨h1, h2⟩ | h
    · exact Or.inl ⟨h1, by rw [h1.1]; exact h2⟩
    · exact Or.inr h
  rw [clause_eq]
  rcases clause_X hfu hX f1 b with ⟨h0, e⟩ | ⟨h0, h1, e⟩ | ⟨h0, h1, h2, e⟩ | ⟨h0, h1, h2, e⟩
  · rcases mw_at (w := 0) hfu (by omega) hM hnb with ⟨g0, m0⟩ | ⟨g0, m0⟩
    · rcases nd 0 (by omega) with ⟨_, m1⟩ | ⟨g1, _⟩
      · rw [e, if_neg hb, m0, bnd_some, if_neg i10, m1, bnd_some]
        exact ret_both hfu hc hT hTM f1 f2 rfl rfl kx km vx vm
      · exact absurd h0 g1
    · exact absurd h0 g0
  · rcases mw_at (w := 0) hfu (by omega) hM hnb with ⟨g0, m0⟩ | ⟨g0, m0⟩
    · exact absurd g0 h0
    · rcases mw_at (w := 1) hfu (by omega) hM hnb with ⟨g1, m1⟩ | ⟨g1, m1⟩
      · rcases nd 1 (by omega) with ⟨_, m2⟩ | ⟨g2, _⟩
        · rw [e, if_neg hb, m0, bnd_some, if_pos rfl, m1, bnd_some, if_neg i10, m2, bnd_some]
          exact loan_both hfu hc hT hTM f1 f2 rfl rfl kx km vx vm
        · exact absurd h1 g2
      · exact absurd h1 g1
  · rcases mw_at (w := 0) hfu (by omega) hM hnb with ⟨g0, m0⟩ | ⟨g0, m0⟩
    · exact absurd g0 h0
    · rcases mw_at (w := 1) hfu (by omega) hM hnb with ⟨g1, m1⟩ | ⟨g1, m1⟩
      · exact absurd g1 h1
      · rcases nd 2 (by omega) with ⟨_, m2⟩ | ⟨g2, _⟩
        · rw [e, if_neg hb, m0, bnd_some, if_pos rfl, m1, bnd_some, if_pos rfl, m2, bnd_some]
          exact wit_both hfu hc hT hTM f1 f2 rfl rfl kx km vx vm
        · exact absurd h2 g2
  · rcases mw_at (w := 0) hfu (by omega) hM hnb with ⟨g0, m0⟩ | ⟨g0, m0⟩
    · exact absurd g0 h0
    · rcases mw_at (w := 1) hfu (by omega) hM hnb with ⟨g1, m1⟩ | ⟨g1, m1⟩
      · exact absurd g1 h1
      · rcases nd 2 (by omega) with ⟨g2, _⟩ | ⟨_, m2⟩
        · exact absurd g2 h2
        · right
          rw [e, m0, bnd_some, if_pos rfl, m1, bnd_some, if_pos rfl, m2, bnd_some]
          exact OutB_of (by omega) (by omega) ⟨_, rfl, BX_new hX (KX_rf σ) d2⟩ (mw1 hc (by omega) (by omega) (BM_new hM (KM_rf c τ) hs))
theorem m131 {τ : SS} {s : Nat} (hfu : 1000 ≤ fu) (hM : TM n u τ s) (hnb : sk isB u n s = s) (hs : s < n) (f2 : τ.1 10 = 0) (k : SS → (Int32 × Int32 × Int32) → Option (Int32 × SS)) (x2 x3 x4 : Int32) : (anyW n u s ∧ f_X8_custom_131 fu k τ x2 x3 x4 = f_X8_custom_181 fu k τ x2 x3 x4 1) ∨ (¬ anyW n u s ∧ f_X8_custom_131 fu k τ x2 x3 x4 = f_X8_custom_181 fu k τ x2 x3 x4 0) := by
  have hn := hM.2.2.2.1
  rw [f_X8_custom_131, f2, if_pos rfl, hM.1, hM.2.1, if_neg (fun z => by have := (q_le (by omega) (by omega)).mp z; omega)]
  rcases mw_at (w := 0) hfu (by omega) hM hnb with ⟨g0, m0⟩ | ⟨g0, m0⟩
  · left
    refine ⟨Or.inl g0, ?_⟩
    rw [m0, bnd_some, if_neg i10, f_X8_custom_176]
  · rcases mw_at (w := 1) hfu (by omega) hM hnb with ⟨g1, m1⟩ | ⟨g1, m1⟩
    · left
      refine ⟨Or.inr (Or.inl g1), ?_⟩
      rw [m0, bnd_some, if_pos rfl, m1, bnd_some, if_neg i10, f_X8_custom_176]
    · rcases mw_at (w := 2) hfu (by omega) hM hnb with ⟨g2, m2⟩ | ⟨g2, m2⟩
      · left
        refine ⟨Or.inr (Or.inr g2), ?_⟩
        rw [m0, bnd_some, if_pos rfl, m1, bnd_some, if_pos rfl, m2, bnd_some, if_neg i10, f_X8_custom_176]
      · right
        refine ⟨fun z => z.elim g0 (fun z => z.elim g1 g2), ?_⟩
        rw [m0, bnd_some, if_pos rfl, m1, bnd_some, if_pos rfl, m2, bnd_some, if_pos rfl]
def RdA (c : Nat) (σ0 τ0 : SS) (y : Int32) (fu : Nat) (X : Option (Unit × SS)) (M : Option (Int32 × SS)) : Prop := ∃ (σ' τ' : SS) (x : Nat → Nat), X = some ((), σ') ∧ M = f_X8_custom_226 fu τ' y ∧ σ'.1 5 = 0 ∧ τ'.1 10 = 0 ∧ σ'.1 6 = σ0.1 6 ∧ τ'.1 11 = τ0.1 11 ∧ KX σ0 σ' ∧ KM c τ0 τ' ∧ VX x σ' ∧ VM c x τ'
def RdB (c : Nat) (σ0 τ0 : SS) (X : Option (Unit × SS)) (M : Option (Int32 × SS)) : Prop := ∃ (k pl : Nat) (σ' τ' : SS), 1 ≤ k ∧ k ≤ 3 ∧ X = some ((), σ') ∧ M = some (nI k - 10, τ') ∧ σ'.1 5 = nI k ∧ σ'.1 6 = nI pl ∧ τ'.1 11 = nI pl ∧ KX σ0 σ' ∧ KM c τ0 τ'
theorem m_bad {τ : SS} {k : Nat} (hk : 1 ≤ k) (hk3 : k ≤ 3) (h : τ.1 10 = nI k) (y : Int32) (x3 x4 : Int32) {fuel : Nat} (hf : 1 ≤ fuel) : loopN (fun k131 σ x => f_X8_custom_131 fu k131 σ x.1 x.2.1 x.2.2) fuel τ (y, x3, x4) = some (nI k - 10, τ) := by
  obtain ⟨f, rfl⟩ : ∃ f, fuel = f + 1 := ⟨fuel - 1, by omega⟩
  show f_X8_custom_131 fu _ τ y x3 x4 = _
  rw [f_X8_custom_131, h, if_neg (fun z => by have := (q_eq0 (by omega)).mp z; omega), f_X8_custom_226, h, if_neg (fun z => by have := (q_le0 (by omega)).mp z; omega)]
theorem read_both (hfu : 1000 ≤ fu) (hc : c < 20) (y : Int32) : ∀ (m b fuel s : Nat) (σ τ : SS) (x : Nat → Nat), b + m = 8 → m + 2 ≤ fuel → TX n u σ s → TM n u τ s → sk isB u n s = s → σ.1 5 = 0 → τ.1 10 = 0 → VX x σ → VM c x τ → RdA c σ τ y fu (loopN (fun k52 σ x => f_X6_read_52 fu k52 σ x) fuel σ (nI b)) (loopN (fun k131 σ x => f_X8_custom_131 fu k131 σ x.1 x.2.1 x.2.2) fuel τ (y, nI (6 * c), nI b)) ∨ RdB c σ τ (loopN (fun k52 σ x => f_X6_read_52 fu k52 σ x) fuel σ (nI b)) (loopN (fun k131 σ x => f_X8_custom_131 fu k131 σ x.1 x.2.1 x.2.2) fuel τ (y, nI (6 * c), nI b)) := by
  intro m
  induction m with
  | zero =>
    intro b fuel s σ τ x hb hf hX hM hnb f1 f2 vx vm
    obtain ⟨f, rfl⟩ : ∃ f, fuel = f + 1 := ⟨fuel - 1, by omega⟩
    have hb8 : b = 8 := by omega
    subst hb8
    have hn := hX.2.2.2.1
    have hs := hX.2.2.1
    obtain ⟨d1, d2, d3, d4⟩ := sk_ok (P := isL) (u := u) hs
    show RdA c σ τ y fu (f_X6_read_52 fu (loopN (fun k52 σ x => f_X6_read_52 fu k52 σ x) f) σ (nI 8)) (f_X8_custom_131 fu (loopN (fun k131 σ x => f_X8_custom_131 fu k131 σ x.1 x.2.1 x.2.2) f) τ y (nI (6 * c)) (nI 8)) ∨ RdB c σ τ (f_X6_read_52 fu (loopN (fun k52 σ x => f_X6_read_52 fu k52 σ x) f) σ (nI 8)) (f_X8_custom_131 fu (loopN (fun k131 σ x => f_X8_custom_131 fu k131 σ x.1 x.2.1 x.2.2) f) τ y (nI (6 * c)) (nI 8))
    rw [f_X6_read_52, if_neg (show ¬ (8 : Int32) < nI 8 by decide), hX.1, hX.2.1]
    by_cases e : s = n
    · left
      have hle : nI n ≤ nI s := (q_le (by omega) (by omega)).mpr (by omega)
      refine ⟨σ, τ, x, by rw [if_pos hle], ?_, f1, f2, rfl, rfl, KX_rf σ, KM_rf c τ, vx, vm⟩
      rw [f_X8_custom_131, f2, if_pos rfl, hM.1, hM.2.1, if_pos hle]
    · right
      have hle : ¬ nI n ≤ nI s := fun z => by have := (q_le (by omega) (by omega)).mp z; omega
      rw [if_neg hle]
      have e8 : nI 8 = (8 : Int32) := rfl
      have kxb : ∀ k pl, KX σ (badX σ (sk isL u n s) k pl) := fun k pl => KX_tr (KX_tr (KX_I (by omega) (by omega)) (KX_I (by omega) (by omega))) (KX_I (by omega) (by omega))
      have kmb : ∀ v w : Int32, KM c τ (sI (sI τ 10 v) 11 w) := fun v w => KM_tr (KM_I (by omega)) (KM_I (by omega))
      have bad3 : ∀ k pl : Nat, 1 ≤ k → k ≤ 3 → ¬ (badX σ (sk isL u n s) k pl).1 5 = 0 := fun k pl h1 h3 z => by
        have z2 : nI k = 0 := z
        have := (q_eq0 (by omega)).mp z2
        omega
      rcases m131 hfu hM hnb (by omega) f2 (loopN (fun k131 σ x => f_X8_custom_131 fu k131 σ x.1 x.2.1 x.2.2) f) y (nI (6 * c)) (nI 8) with ⟨ha, em⟩ | ⟨ha, em⟩
      · have ex : f_X6_readClause fu σ (nI 8) = some ((), badX σ (sk isL u n s) 3 s) := by
          rcases clause_X hfu hX f1 (nI 8) with ⟨h0, e⟩ | ⟨h0, h1, e⟩ | ⟨h0, h1, h2, e⟩ | ⟨h0, h1, h2, e⟩
          · rw [e, if_pos e8]
          · rw [e, if_pos e8]
          · rw [e, if_pos e8]
          · exact absurd ha (fun z => z.elim h0 (fun z => z.elim h1 h2))
        refine ⟨3, s, badX σ (sk isL u n s) 3 s, sI (sI τ 10 3) 11 (nI s), by omega, by omega, ?_, ?_, rfl, rfl, rfl, kxb 3 s, kmb _ _⟩
        · rw [ex, bnd_some, if_neg (bad3 3 s (by omega) (by omega))]
        · rw [em, f_X8_custom_181, if_pos e8, if_neg i10, f_X8_custom_201, hM.2.1, M_wrong0 f2, bnd_some, f_X8_custom_223]
          exact m_bad (k := 3) (by omega) (by omega) rfl y _ _ (by omega)
      · have ex : f_X6_readClause fu σ (nI 8) = some ((), badX σ (sk isL u n s) 1 s) := by
          rcases clause_X hfu hX f1 (nI 8) with ⟨h0, e⟩ | ⟨h0, h1, e⟩ | ⟨h0, h1, h2, e⟩ | ⟨h0, h1, h2, e⟩
          · exact absurd (Or.inl h0) ha
          · exact absurd (Or.inr (Or.inl h1)) ha
          · exact absurd (Or.inr (Or.inr h2)) ha
          · exact e
        refine ⟨1, s, badX σ (sk isL u n s) 1 s, sI (sI τ 10 1) 11 (nI s), by omega, by omega, ?_, ?_, rfl, rfl, rfl, kxb 1 s, kmb _ _⟩
        · rw [ex, bnd_some, if_neg (bad3 1 s (by omega) (by omega))]
        · rw [em, f_X8_custom_181, if_pos e8, if_pos rfl, f_X8_custom_201, hM.2.1, M_wrong0 f2, bnd_some, f_X8_custom_223]
          exact m_bad (k := 1) (by omega) (by omega) rfl y _ _ (by omega)
  | succ m ih =>
    intro b fuel s σ τ x hb hf hX hM hnb f1 f2 vx vm
    obtain ⟨f, rfl⟩ : ∃ f, fuel = f + 1 := ⟨fuel - 1, by omega⟩
    have hn := hX.2.2.2.1
    have hs := hX.2.2.1
    have hb8 : ¬ nI b = (8 : Int32) := fun z => by have := (q_eq (b := 8) (by omega) (by omega)).mp z; omega
    show RdA c σ τ y fu (f_X6_read_52 fu (loopN (fun k52 σ x => f_X6_read_52 fu k52 σ x) f) σ (nI b)) (f_X8_custom_131 fu (loopN (fun k131 σ x => f_X8_custom_131 fu k131 σ x.1 x.2.1 x.2.2) f) τ y (nI (6 * c)) (nI b)) ∨ RdB c σ τ (f_X6_read_52 fu (loopN (fun k52 σ x => f_X6_read_52 fu k52 σ x) f) σ (nI b)) (f_X8_custom_131 fu (loopN (fun k131 σ x => f_X8_custom_131 fu k131 σ x.1 x.2.1 x.2.2) f) τ y (nI (6 * c)) (nI b))
    rw [f_X6_read_52, if_neg (show ¬ (8 : Int32) < nI b from fun z => by have := (q_lt (a := 8) (by omega) (by omega)).mp z; omega), hX.1, hX.2.1]
    by_cases e : s = n
    · left
      have hle : nI n ≤ nI s := (q_le (by omega) (by omega)).mpr (by omega)
      refine ⟨σ, τ, x, by rw [if_pos hle], ?_, f1, f2, rfl, rfl, KX_rf σ, KM_rf c τ, vx, vm⟩
      rw [f_X8_custom_131, f2, if_pos rfl, hM.1, hM.2.1, if_pos hle]
    · have hle : ¬ nI n ≤ nI s := fun z => by have := (q_le (by omega) (by omega)).mp z; omega
      rw [if_neg hle]
      have em : f_X8_custom_131 fu (loopN (fun k131 σ x => f_X8_custom_131 fu k131 σ x.1 x.2.1 x.2.2) f) τ y (nI (6 * c)) (nI b) = bnd (f_X8_clause fu τ (nI (6 * c))) (fun _ t4 => bnd (f_X8_blanks fu t4) (fun _ t7 => loopN (fun k131 σ x => f_X8_custom_131 fu k131 σ x.1 x.2.1 x.2.2) f t7 (y, nI (6 * c), nI (b + 1)))) := by
        rcases m131 hfu hM hnb (by omega) f2 (loopN (fun k131 σ x => f_X8_custom_131 fu k131 σ x.1 x.2.1 x.2.2) f) y (nI (6 * c)) (nI b) with ⟨_, em⟩ | ⟨_, em⟩
        · rw [em, f_X8_custom_181, if_neg hb8, q_inc]
          rfl
        · rw [em, f_X8_custom_181, if_neg hb8, q_inc]
          rfl
      rw [em]
      rcases clause_both (b := nI b) hfu hc hX hM hnb f1 f2 vx vm hb8 with ⟨σ1, τ1, q, x1, e1, e2, X1, M1, a1, a2, a3, a4, a5, a6, a7, a8⟩ | ⟨k, pl, σ1, τ1, hk, hk3, e1, e2, b1, b2⟩
      · have hq := X1.2.2.1
        obtain ⟨c1, c2, c3, c4⟩ := sk_ok (P := isB) (u := u) hq
        rw [e1, bnd_some, a1, if_pos rfl, X_blanks hfu X1, bnd_some, q_inc, e2, bnd_some, M_blanks hfu M1, bnd_some]
        rcases ih (b + 1) f (sk isB u n q) (sI σ1 4 (nI (sk isB u n q))) (sI τ1 9 (nI (sk isB u n q))) x1 (by omega) (by omega) (TX_at X1 c2) (TM_at M1 c2) (sk_idem hq) a1 a2 a7 a8 with ⟨σ', τ', x', r1, r2, r3, r4, r5, r6, r7, r8, r9, r10⟩ | ⟨k, pl, σ', τ', r1, r2, r3, r4, r5, r6, r7, r8, r9⟩
        · exact Or.inl ⟨σ', τ', x', r1, r2, r3, r4, r5.trans a3, r6.trans a4, KX_tr a5 (KX_tr (KX_I (by omega) (by omega)) r7), KM_tr a6 (KM_tr (KM_I (by omega)) r8), r9, r10⟩
        · exact Or.inr ⟨k, pl, σ', τ', r1, r2, r3, r4, r5, r6, r7, KX_tr a5 (KX_tr (KX_I (by omega) (by omega)) r8), KM_tr a6 (KM_tr (KM_I (by omega)) r9)⟩
      · right
        obtain ⟨⟨q, M1⟩, b3, b4, b5⟩ := b2
        have hnz : ¬ σ1.1 5 = 0 := fun z => by
          rw [b1.2.1] at z
          have := (q_eq0 (by omega)).mp z
          omega
        rw [e1, bnd_some, if_neg hnz, e2, bnd_some, M_blanks hfu M1, bnd_some]
        exact ⟨k, pl, σ1, sI τ1 9 (nI (sk isB u n q)), hk, hk3, rfl, m_bad (fuel := f) hk hk3 (show (sI τ1 9 (nI (sk isB u n q))).1 10 = nI k from b3) y _ _ (by omega), b1.2.1, b1.2.2.1, b4, b1.2.2.2, KM_tr b5 (KM_I (by omega))⟩
end

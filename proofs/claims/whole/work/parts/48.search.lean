/-! the search in both programs -/
def QF (σ σ' : SS) : Prop := σ'.1 = σ.1 ∧ σ'.2.2 = σ.2.2 ∧ ∀ r, r < 30 → σ'.2.1 r = σ.2.1 r
def NF (τ τ' : SS) : Prop := (∀ k, k ≠ 30 → τ'.1 k = τ.1 k) ∧ τ'.2.2 = τ.2.2 ∧ ∀ r, r < 25 → τ'.2.1 r = τ.2.1 r
theorem QF_rf (σ : SS) : QF σ σ := ⟨rfl, rfl, fun _ _ => rfl⟩
theorem NF_rf (σ : SS) : NF σ σ := ⟨fun _ _ => rfl, rfl, fun _ _ => rfl⟩
theorem QF_tr {a b c : SS} (h : QF a b) (g : QF b c) : QF a c := ⟨g.1.trans h.1, g.2.1.trans h.2.1, fun r hr => (g.2.2 r hr).trans (h.2.2 r hr)⟩
theorem NF_tr {a b c : SS} (h : NF a b) (g : NF b c) : NF a c := ⟨fun k hk => (g.1 k hk).trans (h.1 k hk), g.2.1.trans h.2.1, fun r hr => (g.2.2 r hr).trans (h.2.2 r hr)⟩
theorem QF_A {σ : SS} {r j : Nat} {v : Int32} (hr : 30 ≤ r) : QF σ (sA σ r j v) := ⟨rfl, rfl, fun b hb => by
  funext i
  rw [sA_2, if_neg (fun z => by have := z.1; omega)]⟩
theorem NF_A {σ : SS} {r j : Nat} {v : Int32} (hr : 25 ≤ r) : NF σ (sA σ r j v) := ⟨fun _ _ => rfl, rfl, fun b hb => by
  funext i
  rw [sA_2, if_neg (fun z => by have := z.1; omega)]⟩
theorem NF_I {σ : SS} {v : Int32} : NF σ (sI σ 30 v) := ⟨fun k hk => by rw [sI_1, if_neg hk], rfl, fun _ _ => rfl⟩
def FX (σ : SS) (st : Nat → Nat) (cp : Nat → Nat → Nat) : Prop := (∀ i, i < 12 → σ.2.2 29 i = lN (st i)) ∧ ∀ i j, i < 12 → j < 12 → σ.2.2 (40 + i) j = lN (cp i j)
def FM (τ : SS) (n : Nat) (st : Nat → Nat) (cp : Nat → Nat → Nat) : Prop := (∀ i, i < n → τ.2.2 26 i = lN (st i)) ∧ ∀ i j, i < 12 → j < 12 → τ.2.2 25 (12 * i + j) = lN (cp i j)
theorem FX_QF {σ σ' : SS} {st : Nat → Nat} {cp : Nat → Nat → Nat} (h : FX σ st cp) (q : QF σ σ') : FX σ' st cp := by
  unfold FX
  rw [q.2.1]
  exact h
theorem FM_NF {σ σ' : SS} {n : Nat} {st : Nat → Nat} {cp : Nat → Nat → Nat} (h : FM σ n st cp) (q : NF σ σ') : FM σ' n st cp := by
  unfold FM
  rw [q.2.1]
  exact h
def FB (n : Nat) (st : Nat → Nat) (cp : Nat → Nat → Nat) : Prop := (∀ i, n ≤ i → st i = 0) ∧ (∀ a b, n ≤ a ∨ n ≤ b → cp a b = 0) ∧ (∀ a b, cp a b + cp b a ≤ 1000000000000) ∧ ∀ i, st i ≤ 12000000
def QX (σ : SS) (c : Nat) (B : AS) : Prop := (∀ v, v < 12 → σ.2.1 31 v = nI (B.2 0 v)) ∧ (∀ v, v < 12 → B.2 0 v ≠ 0 → v ≠ c → σ.2.1 32 v = nI (B.2 1 v)) ∧ ∀ j, j < B.1 0 → σ.2.1 33 j = nI (B.2 2 j)
def QM (τ : SS) (n c : Nat) (B : AS) : Prop := (∀ v, v < n → τ.2.1 28 v = nI (B.2 0 v)) ∧ (∀ v, v < n → B.2 0 v ≠ 0 → v ≠ c → τ.2.1 27 v = nI (B.2 1 v)) ∧ (∀ j, j < B.1 0 → τ.2.1 29 j = nI (B.2 2 j)) ∧ τ.1 30 = nI (B.1 0)
theorem QX_mk {σ : SS} {c k u : Nat} {B : AS} (h : QX σ c B) : QX (sA (sA (sA σ 31 k 1) 32 k (nI u)) 33 (B.1 0) (nI k)) c (mkB B k u) := by
  obtain ⟨h1, h2, h3⟩ := h
  refine ⟨fun v hv => ?_, fun v hv hf hc => ?_, fun j hj => ?_⟩
  · have := h1 v hv
    by_cases e : v = k
    · simp [sA_2, mkB_0, e]
      rfl
    · simp [sA_2, mkB_0, e, this]
  · rw [mkB_0] at hf
    by_cases e : v = k
    · simp [sA_2, mkB_1, e]
    · rw [if_neg e] at hf
      have := h2 v hv hf hc
      simp [sA_2, mkB_1, e, this]
  · rw [mkB_n] at hj
    by_cases e : j = B.1 0
    · simp [sA_2, mkB_2, e]
    · have := h3 j (by omega)
      simp [sA_2, mkB_2, e, this]
theorem QM_mk {τ : SS} {n c k u : Nat} {B : AS} (h : QM τ n c B) : QM (sI (sA (sA (sA τ 28 k 1) 27 k (nI u)) 29 (B.1 0) (nI k)) 30 (nI (B.1 0 + 1))) n c (mkB B k u) := by
  obtain ⟨h1, h2, h3, h4⟩ := h
  refine ⟨fun v hv => ?_, fun v hv hf hc => ?_, fun j hj => ?_, ?_⟩
  · have := h1 v hv
    by_cases e : v = k
    · simp [sI_2, sA_2, mkB_0, e]
      rfl
    · simp [sI_2, sA_2, mkB_0, e, this]
  · rw [mkB_0] at hf
    by_cases e : v = k
    · simp [sI_2, sA_2, mkB_1, e]
    · rw [if_neg e] at hf
      have := h2 v hv hf hc
      simp [sI_2, sA_2, mkB_1, e, this]
  · rw [mkB_n] at hj
    by_cases e : j = B.1 0
    · simp [sI_2, sA_2, mkB_2, e]
    · have := h3 j (by omega)
      simp [sI_2, sA_2, mkB_2, e, this]
  · rw [sI_1, if_pos rfl, mkB_n]
theorem BJ_lt {cp : Nat → Nat → Nat} {n c k : Nat} {B : AS} (hJ : BJ cp n c B) (hk : k < 12) (h0 : B.2 0 k = 0) : B.1 0 < 12 := by
  rw [hJ.2.1]
  have h := sumTo_lt (f := B.2 0) (g := fun _ => 1) (n := 12) (fun i _ => hJ.2.2.1 i) hk (by show B.2 0 k < 1; omega)
  rw [sumTo_const] at h
  omega
theorem bfI_n {cp : Nat → Nat → Nat} {n u : Nat} {B : AS} (hz : ∀ v u, n ≤ v ∨ n ≤ u → cp v u = 0) : ∀ m, bfI cp u (n + m) B = bfI cp u n B := by
  intro m
  induction m with
  | zero => rfl
  | succ m ih =>
    show bfI cp u (n + m + 1) B = _
    rw [bfI_s, if_neg (fun z => z.2 (hz _ _ (Or.inl (by omega)))), ih]
section
variable {cp : Nat → Nat → Nat} {st : Nat → Nat} {n c fu : Nat}
theorem near_in (hn : n ≤ 12) (hB : FB n st cp) (k41 : SS → (Int32 × Int32) → Option (Int32 × SS)) {i : Nat} {B : AS} (hJ : BJ cp n c B) (hC : BC B i) (hP : BP cp B i) (hi : i < B.1 0) : ∀ (m k fuel : Nat) (σ : SS), k + m = 12 → m < fuel → FX σ st cp → QX σ c (bfI cp (B.2 2 i) k B) → ∃ σ' : SS, loopN (fun k78 σ x => f_X4_nearestGiver_78 fu k41 k78 σ x.1 x.2.1 x.2.2.1 x.2.2.2) fuel σ (nI ((bfI cp (B.2 2 i) k B).1 0), nI i, nI (B.2 2 i), nI k) = k41 σ' (nI ((bfI cp (B.2 2 i) 12 B).1 0), nI (i + 1)) ∧ QX σ' c (bfI cp (B.2 2 i) 12 B) ∧ QF σ σ' := by
  have hu : B.2 2 i < n := (hJ.2.2.2.2.2.2.1 i hi).1
  intro m
  induction m with
  | zero =>
    intro k fuel σ hk hf hF hQ
    obtain ⟨f, rfl⟩ : ∃ f, fuel = f + 1 := ⟨fuel - 1, by omega⟩
    have hk12 : k = 12 := by omega
    subst hk12
    refine ⟨σ, ?_, hQ, QF_rf σ⟩
    show f_X4_nearestGiver_78 fu k41 _ σ _ (nI i) (nI (B.2 2 i)) (nI 12) = _
    rw [f_X4_nearestGiver_78, if_pos (by decide), q_inc]
  | succ m ih =>
    intro k fuel σ hk hf hF hQ
    obtain ⟨f, rfl⟩ : ∃ f, fuel = f + 1 := ⟨fuel - 1, by omega⟩
    obtain ⟨b1, b2, b3, b4, b5⟩ := bfI_ok hn hB.2.1 hJ hC hP hi k (by omega)
    have hle := b1.2.2.1 k
    have hcp := hB.2.2.1 k (B.2 2 i)
    show ∃ σ' : SS, f_X4_nearestGiver_78 fu k41 (loopN _ f) σ (nI ((bfI cp (B.2 2 i) k B).1 0)) (nI i) (nI (B.2 2 i)) (nI k) = _ ∧ _ ∧ _
    rw [f_X4_nearestGiver_78, if_neg (show ¬ (12 : Int32) ≤ nI k from fun z => by have := (q_le (a := 12) (by omega) (by omega)).mp z; omega), if_pos ((q_in (by omega)).mpr (by omega)), q_cl (show k < 2000000000 by omega), hQ.1 k (by omega), if_pos ((q_in (by omega)).mpr (by omega)), q_cl (show B.2 2 i < 2000000000 by omega), hF.2 k (B.2 2 i) (by omega) (by omega)]
    simp only [f_X4_nearestGiver_138, q_inc]
    have ih' := fun σ1 h1 h2 => ih (k + 1) f σ1 (by omega) (by omega) h1 h2
    rw [bfI_s] at ih'
    by_cases c1 : (bfI cp (B.2 2 i) k B).2 0 k = 0
    · rw [if_pos ((q_eq0 (by omega)).mpr c1)]
      by_cases c2 : cp k (B.2 2 i) = 0
      · rw [if_neg (fun z => z.2 c2)] at ih'
        rw [if_pos ((lc0 (by omega)).mpr (by omega))]
        exact ih' σ hF hQ
      · rw [if_pos ⟨c1, c2⟩] at ih'
        have hlt := BJ_lt b1 (show k < 12 by omega) c1
        rw [if_neg (fun z => by have := (lc_le (b := 0) (by omega) (by omega)).mp z; omega), if_pos ((q_in (by omega)).mpr hlt), q_cl (by omega), vz1]
        have qf : QF σ (sA (sA (sA σ 31 k 1) 32 k (nI (B.2 2 i))) 33 ((bfI cp (B.2 2 i) k B).1 0) (nI k)) := QF_tr (QF_tr (QF_A (by omega)) (QF_A (by omega))) (QF_A (by omega))
        obtain ⟨σ', r1, r2, r3⟩ := ih' _ (FX_QF hF qf) (QX_mk hQ)
        exact ⟨σ', r1, r2, QF_tr qf r3⟩
    · rw [if_neg (fun z => c1 ((q_eq0 (by omega)).mp z))]
      rw [if_neg (fun z => c1 z.1)] at ih'
      exact ih' σ hF hQ
theorem ways_in (hn : n ≤ 12) (hB : FB n st cp) (k51 : SS → Int32 → Option (Unit × SS)) {i : Nat} {B : AS} (hJ : BJ cp n c B) (hC : BC B i) (hP : BP cp B i) (hi : i < B.1 0) : ∀ (m k fuel : Nat) (τ : SS), k + m = n → m < fuel → FM τ n st cp → τ.1 4 = nI n → QM τ n c (bfI cp (B.2 2 i) k B) → ∃ τ' : SS, loopN (fun k61 σ x => f_X8_ways_61 fu k51 k61 σ x.1 x.2) fuel τ (nI i, nI k) = k51 τ' (nI (i + 1)) ∧ QM τ' n c (bfI cp (B.2 2 i) n B) ∧ NF τ τ' := by
  have hu : B.2 2 i < n := (hJ.2.2.2.2.2.2.1 i hi).1
  have hi12 : i < 12 := Nat.lt_of_lt_of_le hi (BJ_12 hJ)
  intro m
  induction m with
  | zero =>
    intro k fuel τ hk hf hF h4 hQ
    obtain ⟨f, rfl⟩ : ∃ f, fuel = f + 1 := ⟨fuel - 1, by omega⟩
    have hkn : k = n := by omega
    subst hkn
    refine ⟨τ, ?_, hQ, NF_rf τ⟩
    show f_X8_ways_61 fu k51 _ τ (nI i) (nI k) = _
    rw [f_X8_ways_61, h4, if_pos ((q_le (by omega) (by omega)).mpr (Nat.le_refl _)), q_inc]
  | succ m ih =>
    intro k fuel τ hk hf hF h4 hQ
    obtain ⟨f, rfl⟩ : ∃ f, fuel = f + 1 := ⟨fuel - 1, by omega⟩
    obtain ⟨b1, b2, b3, b4, b5⟩ := bfI_ok hn hB.2.1 hJ hC hP hi k (by omega)
    have hle := b1.2.2.1 k
    have hcp := hB.2.2.1 k (B.2 2 i)
    have eq : τ.2.1 29 i = nI (B.2 2 i) := by rw [hQ.2.2.1 i (Nat.lt_of_lt_of_le hi b4.1), b4.2.1 i hi]
    have eix : (12 : Int32) * nI k + nI (B.2 2 i) = nI (12 * k + B.2 2 i) := by
      rw [show (12 : Int32) = nI 12 from rfl, q_mul, q_add]
    show ∃ τ' : SS, f_X8_ways_61 fu k51 (loopN _ f) τ (nI i) (nI k) = _ ∧ _ ∧ _
    rw [f_X8_ways_61, h4, if_neg (fun z => by have := (q_le (by omega) (by omega)).mp z; omega), if_pos ((q_in (by omega)).mpr (by omega)), q_cl (show k < 2000000000 by omega), hQ.1 k (by omega), if_pos ((q_in (by omega)).mpr hi12), q_cl (show i < 2000000000 by omega), eq, eix, if_pos ((q_in (by omega)).mpr (by omega)), q_cl (show 12 * k + B.2 2 i < 2000000000 by omega), hF.2 k (B.2 2 i) (by omega) (by omega), lcz (by omega), hQ.2.2.2]
    simp only [f_X8_ways_141, q_inc]
    have ih' := fun τ1 h1 h2 h3 => ih (k + 1) f τ1 (by omega) (by omega) h1 h2 h3
    rw [bfI_s] at ih'
    by_cases c1 : (bfI cp (B.2 2 i) k B).2 0 k = 0
    · rw [if_pos ((q_eq0 (by omega)).mpr c1)]
      by_cases c2 : cp k (B.2 2 i) = 0
      · rw [if_neg (fun z => z.2 c2)] at ih'
        have e0 : (if cp k (B.2 2 i) = 0 then (0 : Int32) else 1) = 0 := if_pos c2
        rw [e0, if_pos rfl]
        exact ih' τ hF h4 hQ
      · rw [if_pos ⟨c1, c2⟩] at ih'
        have hlt := BJ_lt b1 (show k < 12 by omega) c1
        have e0 : (if cp k (B.2 2 i) = 0 then (0 : Int32) else 1) = 1 := if_neg c2
        rw [e0, if_neg i10, if_pos ((q_in (by omega)).mpr hlt), q_cl (show (bfI cp (B.2 2 i) k B).1 0 < 2000000000 by omega), vz1]
        have qf : NF τ (sI (sA (sA (sA τ 28 k 1) 27 k (nI (B.2 2 i))) 29 ((bfI cp (B.2 2 i) k B).1 0) (nI k)) 30 (nI ((bfI cp (B.2 2 i) k B).1 0 + 1))) := NF_tr (NF_tr (NF_tr (NF_A (by omega)) (NF_A (by omega))) (NF_A (by omega))) NF_I
        obtain ⟨τ', r1, r2, r3⟩ := ih' _ (FM_NF hF qf) (by rw [qf.1 4 (by omega)]; exact h4) (QM_mk hQ)
        exact ⟨τ', r1, r2, NF_tr qf r3⟩
    · rw [if_neg (fun z => c1 ((q_eq0 (by omega)).mp z))]
      rw [if_neg (fun z => c1 z.1)] at ih'
      exact ih' τ hF h4 hQ
theorem near_out {N : Nat} (hN : N = 12) (hfu : 1000 ≤ fu) (hn : n ≤ 12) (hc : c < n) (hB : FB n st cp) : ∀ (m i fuel : Nat) (σ : SS), i + m = N → m < fuel → FX σ st cp → QX σ c (bfO cp c i) → (∃ σ' : SS, loopN (fun k41 σ x => f_X4_nearestGiver_41 fu k41 σ x.1 x.2) fuel σ (nI ((bfO cp c i).1 0), nI i) = some (-1, σ') ∧ QX σ' c (bfO cp c N) ∧ QF σ σ' ∧ ∀ j, i ≤ j → j < (bfO cp c N).1 0 → st ((bfO cp c N).2 2 j) = 0) ∨ (∃ (j : Nat) (σ' : SS), i ≤ j ∧ j < (bfO cp c j).1 0 ∧ j < 12 ∧ loopN (fun k41 σ x => f_X4_nearestGiver_41 fu k41 σ x.1 x.2) fuel σ (nI ((bfO cp c i).1 0), nI i) = some (nI ((bfO cp c j).2 2 j), σ') ∧ QX σ' c (bfO cp c j) ∧ QF σ σ' ∧ st ((bfO cp c j).2 2 j) ≠ 0 ∧ ∀ p, i ≤ p → p < j → st ((bfO cp c N).2 2 p) = 0) := by
  intro m
  induction m with
  | zero =>
    intro i fuel σ hi hf hF hQ
    obtain ⟨f, rfl⟩ : ∃ f, fuel = f + 1 := ⟨fuel - 1, by omega⟩
    have hi12 : i = N := by omega
    subst hi12
    have hq := BJ_12 (bfO_ok hn hc hB.2.1 i).1
    refine Or.inl ⟨σ, ?_, hQ, QF_rf σ, fun j h1 h2 => by omega⟩
    show f_X4_nearestGiver_41 fu _ σ (nI ((bfO cp c i).1 0)) (nI i) = _
    have t12 : (12 : Int32) ≤ nI i := (q_le (a := 12) (by omega) (by omega)).mpr (by omega)
    rw [f_X4_nearestGiver_41, if_pos t12]
  | succ m ih =>
    intro i fuel σ hi hf hF hQ
    obtain ⟨f, rfl⟩ : ∃ f, fuel = f + 1 := ⟨fuel - 1, by omega⟩
    obtain ⟨hJ, hP, hC⟩ := bfO_ok hn hc hB.2.1 i
    have hq := BJ_12 hJ
    have t12 : ¬ (12 : Int32) ≤ nI i := fun z => by have := (q_le (a := 12) (by omega) (by omega)).mp z; omega
    by_cases h : i < (bfO cp c i).1 0
    · have hu := (hJ.2.2.2.2.2.2.1 i h).1
      have hst := hB.2.2.2 ((bfO cp c i).2 2 i)
      have e1 : ∀ k, f_X4_nearestGiver_41 fu k σ (nI ((bfO cp c i).1 0)) (nI i) = if st ((bfO cp c i).2 2 i) = 0 then f_X4_nearestGiver_L78 fu k σ (nI ((bfO cp c i).1 0), nI i, nI ((bfO cp c i).2 2 i), 0) else some (nI ((bfO cp c i).2 2 i), σ) := by
        intro k
        have tq : ¬ nI ((bfO cp c i).1 0) ≤ nI i := fun z => by have := (q_le (by omega) (by omega)).mp z; omega
        rw [f_X4_nearestGiver_41, if_neg t12, if_neg tq, if_pos ((q_in (by omega)).mpr (by omega)), q_cl (show i < 2000000000 by omega), hQ.2.2 i h, if_pos ((q_in (by omega)).mpr (by omega)), q_cl (show (bfO cp c i).2 2 i < 2000000000 by omega), hF.1 _ (by omega)]
        by_cases z : st ((bfO cp c i).2 2 i) = 0
        · rw [if_pos z, if_pos ((lc0 (by omega)).mpr (by omega))]
        · rw [if_neg z, if_neg (fun y => by have := (lc_le (b := 0) (by omega) (by omega)).mp y; omega)]
      by_cases z : st ((bfO cp c i).2 2 i) = 0
      · obtain ⟨σ1, r1, r2, r3⟩ := near_in (fu := fu) hn hB (loopN (fun k41 σ x => f_X4_nearestGiver_41 fu k41 σ x.1 x.2) f) hJ (hC h) hP h 12 0 fu σ (by omega) (by omega) hF hQ
        have eO : bfO cp c (i + 1) = bfI cp ((bfO cp c i).2 2 i) 12 (bfO cp c i) := by rw [bfO_s, if_pos h]
        have eL : loopN (fun k41 σ x => f_X4_nearestGiver_41 fu k41 σ x.1 x.2) (f + 1) σ (nI ((bfO cp c i).1 0), nI i) = loopN (fun k41 σ x => f_X4_nearestGiver_41 fu k41 σ x.1 x.2) f σ1 (nI ((bfO cp c (i + 1)).1 0), nI (i + 1)) := by
          show f_X4_nearestGiver_41 fu _ σ (nI ((bfO cp c i).1 0)) (nI i) = _
          rw [e1, if_pos z, eO]
          exact r1
        have hz12 : st ((bfO cp c N).2 2 i) = 0 := by
          have := (bfO_SB hn hc hB.2.1 i (N - i)).2.1 i h
          rw [show i + (N - i) = N by omega] at this
          rw [this]
          exact z
        rw [eL]
        rcases ih (i + 1) f σ1 (by omega) (by omega) (FX_QF hF r3) (by rw [eO]; exact r2) with ⟨σ', a1, a2, a3, a4⟩ | ⟨j, σ', a1, a2, a3, a4, a5, a6, a7, a8⟩
        · refine Or.inl ⟨σ', a1, a2, QF_tr r3 a3, fun j h1 h2 => ?_⟩
          by_cases e : j = i
          · rw [e]; exact hz12
          · exact a4 j (by omega) h2
        · refine Or.inr ⟨j, σ', by omega, a2, a3, a4, a5, QF_tr r3 a6, a7, fun p h1 h2 => ?_⟩
          by_cases e : p = i
          · rw [e]; exact hz12
          · exact a8 p (by omega) h2
      · refine Or.inr ⟨i, σ, Nat.le_refl _, h, by omega, ?_, hQ, QF_rf σ, z, fun p h1 h2 => by omega⟩
        show f_X4_nearestGiver_41 fu _ σ (nI ((bfO cp c i).1 0)) (nI i) = _
        rw [e1, if_neg z]
    · have e12 := bfO_st h (N - i)
      rw [show i + (N - i) = N by omega] at e12
      refine Or.inl ⟨σ, ?_, by rw [e12]; exact hQ, QF_rf σ, fun j h1 h2 => by rw [e12] at h2; omega⟩
      show f_X4_nearestGiver_41 fu _ σ (nI ((bfO cp c i).1 0)) (nI i) = _
      have tq : nI ((bfO cp c i).1 0) ≤ nI i := (q_le (by omega) (by omega)).mpr (by omega)
      rw [f_X4_nearestGiver_41, if_neg t12, if_pos tq]
theorem ways_out (hfu : 1000 ≤ fu) (hn : n ≤ 12) (hc : c < n) (hB : FB n st cp) : ∀ (m i fuel : Nat) (τ : SS), i + m = 12 → m < fuel → FM τ n st cp → τ.1 4 = nI n → QM τ n c (bfO cp c i) → ∃ τ' : SS, loopN (fun k51 σ x => f_X8_ways_51 fu k51 σ x) fuel τ (nI i) = some ((), τ') ∧ QM τ' n c (bfO cp c 12) ∧ NF τ τ' := by
  intro m
  induction m with
  | zero =>
    intro i fuel τ hi hf hF h4 hQ
    obtain ⟨f, rfl⟩ : ∃ f, fuel = f + 1 := ⟨fuel - 1, by omega⟩
    have hi12 : i = 12 := by omega
    subst hi12
    have hq := BJ_12 (bfO_ok hn hc hB.2.1 12).1
    refine ⟨τ, ?_, hQ, NF_rf τ⟩
    show f_X8_ways_51 fu _ τ (nI 12) = _
    rw [f_X8_ways_51, hQ.2.2.2, if_pos ((q_le (by omega) (by omega)).mpr hq)]
  | succ m ih =>
    intro i fuel τ hi hf hF h4 hQ
    obtain ⟨f, rfl⟩ : ∃ f, fuel = f + 1 := ⟨fuel - 1, by omega⟩
    obtain ⟨hJ, hP, hC⟩ := bfO_ok hn hc hB.2.1 i
    have hq := BJ_12 hJ
    show ∃ τ' : SS, f_X8_ways_51 fu (loopN (fun k51 σ x => f_X8_ways_51 fu k51 σ x) f) τ (nI i) = some ((), τ') ∧ QM τ' n c (bfO cp c 12) ∧ NF τ τ'
    rw [f_X8_ways_51, hQ.2.2.2]
    by_cases h : i < (bfO cp c i).1 0
    · rw [if_neg (fun z => by have := (q_le (by omega) (by omega)).mp z; omega), f_X8_ways_L61]
      obtain ⟨τ1, r1, r2, r3⟩ := ways_in (fu := fu) hn hB (loopN (fun k51 σ x => f_X8_ways_51 fu k51 σ x) f) hJ (hC h) hP h n 0 fu τ (by omega) (by omega) hF h4 hQ
      have eO : bfO cp c (i + 1) = bfI cp ((bfO cp c i).2 2 i) n (bfO cp c i) := by
        rw [bfO_s, if_pos h]
        have := bfI_n (u := (bfO cp c i).2 2 i) (B := bfO cp c i) hB.2.1 (12 - n)
        rw [show n + (12 - n) = 12 by omega] at this
        exact this
      obtain ⟨τ', a1, a2, a3⟩ := ih (i + 1) f τ1 (by omega) (by omega) (FM_NF hF r3) (by rw [r3.1 4 (by omega)]; exact h4) (by rw [eO]; exact r2)
      exact ⟨τ', r1.trans a1, a2, NF_tr r3 a3⟩
    · have e12 := bfO_st h (12 - i)
      rw [show i + (12 - i) = 12 by omega] at e12
      rw [if_pos ((q_le (by omega) (by omega)).mpr (by omega))]
      exact ⟨τ, rfl, by rw [e12]; exact hQ, NF_rf τ⟩
theorem near_all (hfu : 1000 ≤ fu) (hn : n ≤ 12) (hc : c < n) (hB : FB n st cp) (σ : SS) (hF : FX σ st cp) : (∃ σ' : SS, f_X4_nearestGiver fu σ (nI c) = some (-1, σ') ∧ QX σ' c (bfO cp c 12) ∧ QF σ σ' ∧ ∀ j, j < (bfO cp c 12).1 0 → st ((bfO cp c 12).2 2 j) = 0) ∨ (∃ (j : Nat) (σ' : SS), j < (bfO cp c j).1 0 ∧ j < 12 ∧ f_X4_nearestGiver fu σ (nI c) = some (nI ((bfO cp c j).2 2 j), σ') ∧ QX σ' c (bfO cp c j) ∧ QF σ σ' ∧ st ((bfO cp c j).2 2 j) ≠ 0 ∧ ∀ p, p < j → st ((bfO cp c 12).2 2 p) = 0) := by
  have init : ∀ (m i fuel : Nat) (σ : SS), i + m = 12 → m < fuel → (∀ v, v < i → σ.2.1 31 v = nI (if v = c then 1 else 0)) → ∃ σ' : SS, loopN (fun k2 σ x => f_X4_nearestGiver_2 fu k2 σ x.1 x.2) fuel σ (nI c, nI i) = f_X4_nearestGiver_L41 fu (sA σ' 33 0 (nI c)) (1, 0) ∧ (∀ v, v < 12 → σ'.2.1 31 v = nI (if v = c then 1 else 0)) ∧ QF σ σ' := by
    intro m
    induction m with
    | zero =>
      intro i fuel σ hi hf h
      obtain ⟨f, rfl⟩ : ∃ f, fuel = f + 1 := ⟨fuel - 1, by omega⟩
      have hi12 : i = 12 := by omega
      subst hi12
      refine ⟨σ, ?_, h, QF_rf σ⟩
      show f_X4_nearestGiver_2 fu _ σ (nI c) (nI 12) = _
      rw [f_X4_nearestGiver_2, if_pos (by decide), if_pos (show inB (0 : Int32) 12 from (q_in (a := 0) (by omega)).mpr (by omega))]
      rfl
    | succ m ih =>
      intro i fuel σ hi hf h
      obtain ⟨f, rfl⟩ : ∃ f, fuel = f + 1 := ⟨fuel - 1, by omega⟩
      have st1 : ∀ k, f_X4_nearestGiver_2 fu k σ (nI c) (nI i) = k (sA σ 31 i (nI (if i = c then 1 else 0))) (nI c, nI (i + 1)) := by
        intro k
        rw [f_X4_nearestGiver_2, if_neg (show ¬ (12 : Int32) ≤ nI i from fun z => by have := (q_le (a := 12) (by omega) (by omega)).mp z; omega), f_X4_nearestGiver_23, f_X4_nearestGiver_23, if_pos ((q_in (by omega)).mpr (by omega)), if_pos ((q_in (by omega)).mpr (by omega)), q_cl (by omega), q_inc, vz0, vz1]
        by_cases e : i = c
        · rw [if_pos ((q_eq (by omega) (by omega)).mpr e), if_pos e]
          rfl
        · rw [if_neg (fun z => e ((q_eq (by omega) (by omega)).mp z)), if_neg e]
          rfl
      obtain ⟨σ', r1, r2, r3⟩ := ih (i + 1) f (sA σ 31 i (nI (if i = c then 1 else 0))) (by omega) (by omega) (fun v hv => by
        rw [sA_2]
        by_cases e : v = i
        · rw [if_pos ⟨rfl, e⟩, e]
        · rw [if_neg (fun z => e z.2)]
          exact h v (by omega))
      refine ⟨σ', ?_, r2, QF_tr (QF_A (by omega)) r3⟩
      show f_X4_nearestGiver_2 fu (loopN _ f) σ (nI c) (nI i) = _
      rw [st1]
      exact r1
  obtain ⟨σ1, r1, r2, r3⟩ := init 12 0 fu σ (by omega) (by omega) (fun v hv => by omega)
  have qf : QF σ (sA σ1 33 0 (nI c)) := QF_tr r3 (QF_A (by omega))
  have hQ : QX (sA σ1 33 0 (nI c)) c (bfO cp c 0) := by
    refine ⟨fun v hv => ?_, fun v hv hf hvc => ?_, fun j hj => ?_⟩
    · rw [sA_2, if_neg (fun z => by have := z.1; omega)]
      exact r2 v hv
    · exact absurd (by show (if v = c then 1 else 0) = 0; rw [if_neg hvc]) hf
    · have hj0 : j = 0 := by
        have : j < 1 := hj
        omega
      rw [hj0, sA_2, if_pos ⟨rfl, rfl⟩]
      rfl
  have eN : f_X4_nearestGiver fu σ (nI c) = loopN (fun k41 σ x => f_X4_nearestGiver_41 fu k41 σ x.1 x.2) fu (sA σ1 33 0 (nI c)) (nI ((bfO cp c 0).1 0), nI 0) := r1
  rw [eN]
  rcases near_out (N := 12) rfl hfu hn hc hB 12 0 fu _ (by omega) (by omega) (FX_QF hF qf) hQ with ⟨σ', a1, a2, a3, a4⟩ | ⟨j, σ', a1, a2, a3, a4, a5, a6, a7, a8⟩
  · exact Or.inl ⟨σ', a1, a2, QF_tr qf a3, fun j hj => a4 j (by omega) hj⟩
  · exact Or.inr ⟨j, σ', a2, a3, a4, a5, QF_tr qf a6, a7, fun p hp => a8 p (by omega) hp⟩
theorem ways_all (hfu : 1000 ≤ fu) (hn : n ≤ 12) (hc : c < n) (hB : FB n st cp) (τ : SS) (hF : FM τ n st cp) (h4 : τ.1 4 = nI n) : ∃ τ' : SS, f_X8_ways fu τ (nI c) = some ((), τ') ∧ QM τ' n c (bfO cp c 12) ∧ NF τ τ' := by
  have init : ∀ (m i fuel : Nat) (τ : SS), i + m = n → m < fuel → τ.1 4 = nI n → (∀ v, v < i → τ.2.1 28 v = nI 0) → ∃ τ' : SS, loopN (fun k2 σ x => f_X8_ways_2 fu k2 σ x.1 x.2) fuel τ (nI c, nI i) = f_X8_ways_L51 fu (sI (sA (sA (sA τ' 28 c 1) 27 c (-1)) 29 0 (nI c)) 30 1) 0 ∧ (∀ v, v < n → τ'.2.1 28 v = nI 0) ∧ NF τ τ' := by
    intro m
    induction m with
    | zero =>
      intro i fuel τ hi hf h4 h
      obtain ⟨f, rfl⟩ : ∃ f, fuel = f + 1 := ⟨fuel - 1, by omega⟩
      have hin : i = n := by omega
      subst hin
      refine ⟨τ, ?_, h, NF_rf τ⟩
      show f_X8_ways_2 fu _ τ (nI c) (nI i) = _
      rw [f_X8_ways_2, h4, if_pos ((q_le (by omega) (by omega)).mpr (Nat.le_refl _)), if_pos ((q_in (by omega)).mpr (by omega)), if_pos (show inB (0 : Int32) 12 from (q_in (a := 0) (by omega)).mpr (by omega)), q_cl (by omega), vz1]
      rfl
    | succ m ih =>
      intro i fuel τ hi hf h4 h
      obtain ⟨f, rfl⟩ : ∃ f, fuel = f + 1 := ⟨fuel - 1, by omega⟩
      have st1 : ∀ k, f_X8_ways_2 fu k τ (nI c) (nI i) = k (sA τ 28 i 0) (nI c, nI (i + 1)) := by
        intro k
        rw [f_X8_ways_2, h4, if_neg (fun z => by have := (q_le (by omega) (by omega)).mp z; omega), if_pos ((q_in (by omega)).mpr (by omega)), q_cl (by omega), q_inc, vz0]
      obtain ⟨τ', r1, r2, r3⟩ := ih (i + 1) f (sA τ 28 i 0) (by omega) (by omega) h4 (fun v hv => by
        rw [sA_2]
        by_cases e : v = i
        · rw [if_pos ⟨rfl, e⟩]
          rfl
        · rw [if_neg (fun z => e z.2)]
          exact h v (by omega))
      refine ⟨τ', ?_, r2, NF_tr (NF_A (by omega)) r3⟩
      show f_X8_ways_2 fu (loopN _ f) τ (nI c) (nI i) = _
      rw [st1]
      exact r1
  obtain ⟨τ1, r1, r2, r3⟩ := init n 0 fu τ (by omega) (by omega) h4 (fun v hv => by omega)
  have qf : NF τ (sI (sA (sA (sA τ1 28 c 1) 27 c (-1)) 29 0 (nI c)) 30 1) := NF_tr r3 (NF_tr (NF_tr (NF_tr (NF_A (by omega)) (NF_A (by omega))) (NF_A (by omega))) NF_I)
  have hQ : QM (sI (sA (sA (sA τ1 28 c 1) 27 c (-1)) 29 0 (nI c)) 30 1) n c (bfO cp c 0) := by
    refine ⟨fun v hv => ?_, fun v hv hf hvc => ?_, fun j hj => ?_, rfl⟩
    · have := r2 v hv
      by_cases e : v = c
      · simp [sI_2, sA_2, e, bfO, B0]
        rfl
      · simp [sI_2, sA_2, e, bfO, B0, this]
    · exact absurd (by show (if v = c then 1 else 0) = 0; rw [if_neg hvc]) hf
    · have hj0 : j = 0 := by
        have : j < 1 := hj
        omega
      rw [hj0, sI_2, sA_2, if_pos ⟨rfl, rfl⟩]
      rfl
  obtain ⟨τ', a1, a2, a3⟩ := ways_out hfu hn hc hB 12 0 fu _ (by omega) (by omega) (FM_NF hF qf) (by rw [qf.1 4 (by omega)]; exact h4) hQ
  exact ⟨τ', r1.trans a1, a2, NF_tr qf a3⟩
end

/-! clauses -/
def KX (σ σ' : SS) : Prop := σ'.2 = σ.2 ∧ ∀ j, j < 4 ∨ 13 ≤ j → σ'.1 j = σ.1 j
def KM (c : Nat) (τ τ' : SS) : Prop := (∀ k, k ≠ 9 → k ≠ 10 → k ≠ 11 → τ'.1 k = τ.1 k) ∧ τ'.2.2 = τ.2.2 ∧ (∀ r, r ≠ 13 → τ'.2.1 r = τ.2.1 r) ∧ ∀ i, i < 6 * c → τ'.2.1 13 i = τ.2.1 13 i
theorem KX_rf (σ : SS) : KX σ σ := ⟨rfl, fun _ _ => rfl⟩
theorem KM_rf (c : Nat) (τ : SS) : KM c τ τ := ⟨fun _ _ _ _ => rfl, rfl, fun _ _ => rfl, fun _ _ => rfl⟩
theorem KX_tr {a b d : SS} (h : KX a b) (g : KX b d) : KX a d := ⟨g.1.trans h.1, fun j hj => (g.2 j hj).trans (h.2 j hj)⟩
theorem KM_tr {c : Nat} {a b d : SS} (h : KM c a b) (g : KM c b d) : KM c a d := ⟨fun k k1 k2 k3 => (g.1 k k1 k2 k3).trans (h.1 k k1 k2 k3), g.2.1.trans h.2.1, fun r hr => (g.2.2.1 r hr).trans (h.2.2.1 r hr), fun i hi => (g.2.2.2 i hi).trans (h.2.2.2 i hi)⟩
theorem KX_I {σ : SS} {k : Nat} {v : Int32} (h1 : 4 ≤ k) (h2 : k < 13) : KX σ (sI σ k v) := ⟨rfl, fun j hj => sI_ne (by omega)⟩
theorem KM_I {c : Nat} {τ : SS} {k : Nat} {v : Int32} (h : k = 9 ∨ k = 10 ∨ k = 11) : KM c τ (sI τ k v) := ⟨fun j h1 h2 h3 => sI_ne (by omega), rfl, fun _ _ => rfl, fun _ _ => rfl⟩
theorem KM_A {c : Nat} {τ : SS} {j : Nat} {v : Int32} (h : 6 * c ≤ j) : KM c τ (sA τ 13 j v) := ⟨fun _ _ _ _ => rfl, rfl, fun r hr => by
  funext i
  rw [sA_2, if_neg (fun z => hr z.1)], fun i hi => by rw [sA_2, if_neg (fun z => by have := z.2; omega)]⟩
def BDX (n : Nat) (u : Nat → Nat) (σ0 : SS) (k pl : Nat) (σ : SS) : Prop := (∃ q, TX n u σ q) ∧ σ.1 5 = nI k ∧ σ.1 6 = nI pl ∧ KX σ0 σ
def BDM (n : Nat) (u : Nat → Nat) (c : Nat) (τ0 : SS) (k pl : Nat) (τ : SS) : Prop := (∃ q, TM n u τ q) ∧ τ.1 10 = nI k ∧ τ.1 11 = nI pl ∧ KM c τ0 τ
section
variable {n : Nat} {u : Nat → Nat} {fu c k pl : Nat} {σ0 τ0 : SS}
theorem BX_at {σ : SS} {q : Nat} (h : BDX n u σ0 k pl σ) (hq : q ≤ n) : BDX n u σ0 k pl (sI σ 4 (nI q)) := by
  obtain ⟨⟨p, hT⟩, h2, h3, h4⟩ := h
  exact ⟨⟨q, TX_at hT hq⟩, h2, h3, KX_tr h4 (KX_I (by omega) (by omega))⟩
theorem BX_I {σ : SS} {j : Nat} {v : Int32} (h : BDX n u σ0 k pl σ) (h1 : 7 ≤ j) (h2 : j ≤ 12) : BDX n u σ0 k pl (sI σ j v) := by
  obtain ⟨⟨p, hT⟩, h3, h4, h5⟩ := h
  exact ⟨⟨p, TX_I hT (by omega) (by omega)⟩, by rw [sI_ne (by omega)]; exact h3, by rw [sI_ne (by omega)]; exact h4, KX_tr h5 (KX_I (by omega) (by omega))⟩
theorem BX_new {σ : SS} {p q : Nat} (hT : TX n u σ p) (hK : KX σ0 σ) (hq : q ≤ n) : BDX n u σ0 k pl (badX σ q k pl) := ⟨⟨q, TX_I (TX_I (TX_at hT hq) (by omega) (by omega)) (by omega) (by omega)⟩, rfl, rfl, KX_tr hK (KX_tr (KX_tr (KX_I (by omega) (by omega)) (KX_I (by omega) (by omega))) (KX_I (by omega) (by omega)))⟩
theorem BM_new {τ : SS} {p q : Nat} (hT : TM n u τ p) (hK : KM c τ0 τ) (hq : q ≤ n) : BDM n u c τ0 k pl (badM τ q k pl) := ⟨⟨q, TM_I (TM_I (TM_at hT hq) (by omega) (by omega)) (by omega) (by omega)⟩, rfl, rfl, KM_tr hK (KM_tr (KM_tr (KM_I (by omega)) (KM_I (by omega))) (KM_I (by omega)))⟩
theorem BX_mark {σ : SS} {x y : Int32} (hk : 1 ≤ k) (hk3 : k ≤ 3) (h : BDX n u σ0 k pl σ) : f_X6_mark fu σ x y = some ((), σ) := by
  rw [f_X6_mark, h.2.1, if_neg (fun z => by have := (q_eq0 (by omega)).mp z; omega)]
theorem BX_sign {σ : SS} {ch : Int32} (hfu : 1000 ≤ fu) (hk : 1 ≤ k) (hk3 : k ≤ 3) (h : BDX n u σ0 k pl σ) : ∃ σ' : SS, f_X6_readSign fu σ ch = some ((), σ') ∧ BDX n u σ0 k pl σ' := by
  have h0 := h
  obtain ⟨⟨p, hT⟩, _⟩ := h
  obtain ⟨b1, b2, b3, b4⟩ := sk_ok (P := isB) (u := u) hT.2.2.1
  have hn := hT.2.2.2.1
  have hT2 := TX_at hT b2
  have h1 := BX_at h0 b2
  have e41 : f_X6_readSign_41 fu (sI σ 4 (nI (sk isB u n p))) = some ((), sI σ 4 (nI (sk isB u n p))) := by
    rw [f_X6_readSign_41, BX_mark hk hk3 h1, bnd_some]
  rw [f_X6_readSign, X_blanks hfu hT, bnd_some, hT2.1, hT2.2.1, e41]
  by_cases y : sk isB u n p = n
  · rw [if_pos ((q_le (by omega) (by omega)).mpr (by omega))]
    exact ⟨_, rfl, h1⟩
  · rw [if_neg (fun z => by have := (q_le (by omega) (by omega)).mp z; omega), if_pos ((q_in (by omega)).mpr (by omega)), q_inc, sI_idem]
    split
    · exact ⟨_, rfl, BX_at h0 (by omega)⟩
    · exact ⟨_, rfl, h1⟩
theorem BX_num {σ : SS} {l : Int32} (hfu : 1000 ≤ fu) (hk : 1 ≤ k) (hk3 : k ≤ 3) (h : BDX n u σ0 k pl σ) : ∃ (v : Int32) (σ' : SS), f_X6_readNumber fu σ l = some (v, σ') ∧ BDX n u σ0 k pl σ' := by
  have h0 := h
  obtain ⟨⟨p, hT⟩, _⟩ := h
  obtain ⟨b1, b2, b3, b4⟩ := sk_ok (P := isB) (u := u) hT.2.2.1
  obtain ⟨d1, d2, d3, d4⟩ := sk_ok (P := isD) (u := u) b2
  have h1 := BX_at h0 d2
  refine ⟨nI (vX u (n - sk isB u n p) (sk isB u n p) 0), _, ?_, h1⟩
  · rw [X_num hfu hT l, f_X6_readNumber_87, f_X6_readNumber_116, BX_mark hk hk3 h1, BX_mark hk hk3 h1, bnd_some]
    simp only [ite_self]
theorem BX_within {σ : SS} (hfu : 1000 ≤ fu) (hk : 1 ≤ k) (hk3 : k ≤ 3) (h : BDX n u σ0 k pl σ) : ∃ σ' : SS, f_X6_readWithin fu σ = some ((), σ') ∧ BDX n u σ0 k pl σ' := by
  have h0 := h
  obtain ⟨⟨p, hT⟩, _⟩ := h
  obtain ⟨b1, b2, b3, b4⟩ := sk_ok (P := isB) (u := u) hT.2.2.1
  obtain ⟨d1, d2, d3, d4⟩ := sk_ok (P := isL) (u := u) b2
  have hTX := TX_at hT b2
  have hTX2 := TX_at hT d2
  have e := X_letters hfu hTX
  rw [sI_idem] at e
  have h1 := BX_at h0 d2
  rw [f_X6_readWithin, X_blanks hfu hT, bnd_some, e, bnd_some, hTX.2.1]
  rcases X_spells (w := 3) hfu (by omega) b2 hTX2 with ⟨g1, g2⟩ | ⟨g1, g2⟩
  · rw [g2, bnd1_some, if_neg i10]
    exact ⟨_, rfl, h1⟩
  · rw [g2, bnd1_some, if_pos rfl, BX_mark hk hk3 h1, bnd_some]
    exact ⟨_, rfl, h1⟩
theorem BM_no {τ : SS} (hk : 1 ≤ k) (hk3 : k ≤ 3) (h : BDM n u c τ0 k pl τ) : ¬ τ.1 10 ≤ 0 := by
  rw [h.2.1]
  exact fun z => by have := (q_le0 (by omega)).mp z; omega
theorem BM_num {τ : SS} {l : Int32} (hk : 1 ≤ k) (hk3 : k ≤ 3) (h : BDM n u c τ0 k pl τ) : f_X8_number fu τ l = some (0, τ) := by rw [f_X8_number, if_neg (BM_no hk hk3 h)]
theorem BM_sign {τ : SS} {l : Int32} (hk : 1 ≤ k) (hk3 : k ≤ 3) (h : BDM n u c τ0 k pl τ) : f_X8_sign fu τ l = some ((), τ) := by rw [f_X8_sign, if_neg (BM_no hk hk3 h)]
theorem BM_need {τ : SS} {w : Nat} (hk : 1 ≤ k) (hk3 : k ≤ 3) (h : BDM n u c τ0 k pl τ) : f_X8_need fu τ w = some ((), τ) := by rw [f_X8_need, if_neg (BM_no hk hk3 h)]
theorem BM_A {τ : SS} {j : Nat} {v : Int32} (h : BDM n u c τ0 k pl τ) (hj : 6 * c ≤ j) : BDM n u c τ0 k pl (sA τ 13 j v) := by
  obtain ⟨⟨p, hT⟩, h2, h3, h4⟩ := h
  exact ⟨⟨p, TM_A hT (by omega)⟩, h2, h3, KM_tr h4 (KM_A hj)⟩
theorem BM_tail {τ : SS} (hk : 1 ≤ k) (hk3 : k ≤ 3) (h : BDM n u c τ0 k pl τ) : f_X8_clause_148 fu τ = some ((), τ) := by rw [f_X8_clause_148, BM_sign hk hk3 h, bnd_some]
end
/-! the chains of the three kinds of clauses -/
def XR6 (fu : Nat) (σ : SS) : Option (Unit × SS) := f_X6_readClause_101 fu σ
def XR5 (fu : Nat) (σ : SS) : Option (Unit × SS) := bnd (f_X6_readNumber fu σ 0) (fun r t => XR6 fu (sI t 9 r))
def XR4 (fu : Nat) (σ : SS) : Option (Unit × SS) := bnd (f_X6_readWithin fu σ) (fun _ t => XR5 fu t)
def XR3 (fu : Nat) (σ : SS) : Option (Unit × SS) := bnd (f_X6_readNumber fu σ 1) (fun r t => XR4 fu (sI t 8 r))
def XR2 (fu : Nat) (σ : SS) : Option (Unit × SS) := bnd (f_X6_readSign fu σ 47) (fun _ t => XR3 fu t)
def XR1 (fu : Nat) (σ : SS) : Option (Unit × SS) := bnd (f_X6_readNumber fu σ 0) (fun r t => XR2 fu (sI t 7 r))
def XL3 (fu : Nat) (σ : SS) : Option (Unit × SS) := bnd (f_X6_readNumber fu σ 1) (fun r t => XR6 fu (sI t 11 r))
def XL2 (fu : Nat) (σ : SS) : Option (Unit × SS) := bnd (f_X6_readSign fu σ 47) (fun _ t => XL3 fu t)
def XL1 (fu : Nat) (σ : SS) : Option (Unit × SS) := bnd (f_X6_readNumber fu σ 0) (fun r t => XL2 fu (sI t 10 r))
def XW1 (fu : Nat) (σ : SS) : Option (Unit × SS) := bnd (f_X6_readNumber fu σ 0) (fun r t => XR6 fu (sI t 12 r))
theorem bnd_assoc {α β γ : Type} (o : Option (α × SS)) (f : α → SS → Option (β × SS)) (g : β → SS → Option γ) : bnd (bnd o f) g = bnd o (fun r t => bnd (f r t) g) := by
  cases o with
  | none => rfl
  | some x => rfl
theorem XR1_eq (fu : Nat) (σ : SS) : bnd (f_X6_readReturn fu σ) (fun _ t => f_X6_readClause_101 fu t) = XR1 fu σ := by
  unfold f_X6_readReturn XR1 XR2 XR3 XR4 XR5 XR6
  simp only [bnd_assoc, bnd_some]
theorem XL1_eq (fu : Nat) (σ : SS) : bnd (f_X6_readLoan fu σ) (fun _ t => f_X6_readClause_101 fu t) = XL1 fu σ := by
  unfold f_X6_readLoan XL1 XL2 XL3 XR6
  simp only [bnd_assoc, bnd_some]
def MR6 (fu : Nat) (x1 : Int32) (τ : SS) (p q w : Int32) : Option (Unit × SS) := if inB x1 126 then if inB (x1 + (1 : Int32)) 126 then if inB (x1 + (2 : Int32)) 126 then f_X8_clause_148 fu (sA (sA (sA τ 13 (x1).toNatClampNeg p) 13 ((x1 + (1 : Int32))).toNatClampNeg q) 13 ((x1 + (2 : Int32))).toNatClampNeg w) else none else none else none
def MR5 (fu : Nat) (x1 : Int32) (τ : SS) (p q : Int32) : Option (Unit × SS) := bnd (f_X8_number fu τ 0) (fun w t => MR6 fu x1 t p q w)
def MR4 (fu : Nat) (x1 : Int32) (τ : SS) (p q : Int32) : Option (Unit × SS) := bnd (f_X8_need fu τ 3) (fun _ t => MR5 fu x1 t p q)
def MR3 (fu : Nat) (x1 : Int32) (τ : SS) (p : Int32) : Option (Unit × SS) := bnd (f_X8_number fu τ 1) (fun q t => MR4 fu x1 t p q)
def MR2 (fu : Nat) (x1 : Int32) (τ : SS) (p : Int32) : Option (Unit × SS) := bnd (f_X8_sign fu τ 47) (fun _ t => MR3 fu x1 t p)
def MR1 (fu : Nat) (x1 : Int32) (τ : SS) : Option (Unit × SS) := bnd (f_X8_number fu τ 0) (fun p t => MR2 fu x1 t p)
def ML4 (fu : Nat) (x1 : Int32) (τ : SS) (p q : Int32) : Option (Unit × SS) := if inB (x1 + (3 : Int32)) 126 then if inB (x1 + (4 : Int32)) 126 then f_X8_clause_148 fu (sA (sA τ 13 ((x1 + (3 : Int32))).toNatClampNeg p) 13 ((x1 + (4 : Int32))).toNatClampNeg q) else none else none
def ML3 (fu : Nat) (x1 : Int32) (τ : SS) (p : Int32) : Option (Unit × SS) := bnd (f_X8_number fu τ 1) (fun q t => ML4 fu x1 t p q)
def ML2 (fu : Nat) (x1 : Int32) (τ : SS) (p : Int32) : Option (Unit × SS) := bnd (f_X8_sign fu τ 47) (fun _ t => ML3 fu x1 t p)
def ML1 (fu : Nat) (x1 : Int32) (τ : SS) : Option (Unit × SS) := bnd (f_X8_number fu τ 0) (fun p t => ML2 fu x1 t p)
def MW2 (fu : Nat) (x1 : Int32) (τ : SS) (p : Int32) : Option (Unit × SS) := if inB (x1 + (5 : Int32)) 126 then f_X8_clause_148 fu (sA τ 13 ((x1 + (5 : Int32))).toNatClampNeg p) else none
def MW1 (fu : Nat) (x1 : Int32) (τ : SS) : Option (Unit × SS) := bnd (f_X8_number fu τ 0) (fun p t => MW2 fu x1 t p)
theorem clause_eq (fu : Nat) (τ : SS) (x1 : Int32) : f_X8_clause fu τ x1 = bnd (f_X8_isWord fu τ 0) (fun r1 t3 => (if r1 = 0 then bnd (f_X8_isWord fu t3 1) (fun r5 t7 => (if r5 = 0 then bnd (f_X8_need fu t7 2) (fun _ t11 => MW1 fu x1 t11) else bnd (f_X8_need fu t7 1) (fun _ t18 => ML1 fu x1 t18))) else bnd (f_X8_need fu t3 0) (fun _ t32 => MR1 fu x1 t32))) := rfl
section
variable {n : Nat} {u : Nat → Nat} {fu c k pl : Nat} {σ0 τ0 : SS}
theorem ixs {c j : Nat} (hc : c < 20) (hj : j < 6) : nI (6 * c) + nI j = nI (6 * c + j) ∧ inB (nI (6 * c + j)) 126 ∧ (nI (6 * c + j)).toNatClampNeg = 6 * c + j := ⟨q_add _ _, (q_in (by omega)).mpr (by omega), q_cl (by omega)⟩
theorem MR6_e {τ : SS} {p q w : Int32} (hc : c < 20) : MR6 fu (nI (6 * c)) τ p q w = f_X8_clause_148 fu (sA (sA (sA τ 13 (6 * c) p) 13 (6 * c + 1) q) 13 (6 * c + 2) w) := by
  obtain ⟨a1, a2, a3⟩ := ixs (j := 0) hc (by omega)
  obtain ⟨b1, b2, b3⟩ := ixs (j := 1) hc (by omega)
  obtain ⟨d1, d2, d3⟩ := ixs (j := 2) hc (by omega)
  have b1' : nI (6 * c) + (1 : Int32) = nI (6 * c + 1) := b1
  have d1' : nI (6 * c) + (2 : Int32) = nI (6 * c + 2) := d1
  have a2' : inB (nI (6 * c)) 126 := a2
  have a3' : (nI (6 * c)).toNatClampNeg = 6 * c := a3
  rw [MR6, if_pos a2', b1', d1', if_pos b2, if_pos d2, a3', b3, d3]
theorem ML4_e {τ : SS} {p q : Int32} (hc : c < 20) : ML4 fu (nI (6 * c)) τ p q = f_X8_clause_148 fu (sA (sA τ 13 (6 * c + 3) p) 13 (6 * c + 4) q) := by
  obtain ⟨b1, b2, b3⟩ := ixs (j := 3) hc (by omega)
  obtain ⟨d1, d2, d3⟩ := ixs (j := 4) hc (by omega)
  have b1' : nI (6 * c) + (3 : Int32) = nI (6 * c + 3) := b1
  have d1' : nI (6 * c) + (4 : Int32) = nI (6 * c + 4) := d1
  rw [ML4, b1', d1', if_pos b2, if_pos d2, b3, d3]
theorem MW2_e {τ : SS} {p : Int32} (hc : c < 20) : MW2 fu (nI (6 * c)) τ p = f_X8_clause_148 fu (sA τ 13 (6 * c + 5) p) := by
  obtain ⟨b1, b2, b3⟩ := ixs (j := 5) hc (by omega)
  have b1' : nI (6 * c) + (5 : Int32) = nI (6 * c + 5) := b1
  rw [MW2, b1', if_pos b2, b3]
/-! behind a fault -/
theorem xf6 {σ : SS} (hfu : 1000 ≤ fu) (hk : 1 ≤ k) (hk3 : k ≤ 3) (h : BDX n u σ0 k pl σ) : ∃ σ' : SS, XR6 fu σ = some ((), σ') ∧ BDX n u σ0 k pl σ' := by
  obtain ⟨σ', e, h'⟩ := BX_sign (ch := 59) hfu hk hk3 h
  exact ⟨σ', by rw [XR6, f_X6_readClause_101, e, bnd_some], h'⟩
theorem xf5 {σ : SS} (hfu : 1000 ≤ fu) (hk : 1 ≤ k) (hk3 : k ≤ 3) (h : BDX n u σ0 k pl σ) : ∃ σ' : SS, XR5 fu σ = some ((), σ') ∧ BDX n u σ0 k pl σ' := by
  obtain ⟨v, σ', e, h'⟩ := BX_num (l := 0) hfu hk hk3 h
  rw [XR5, e, bnd_some]
  exact xf6 hfu hk hk3 (BX_I h' (by omega) (by omega))
theorem xf4 {σ : SS} (hfu : 1000 ≤ fu) (hk : 1 ≤ k) (hk3 : k ≤ 3) (h : BDX n u σ0 k pl σ) : ∃ σ' : SS, XR4 fu σ = some ((), σ') ∧ BDX n u σ0 k pl σ' := by
  obtain ⟨σ', e, h'⟩ := BX_within hfu hk hk3 h
  rw [XR4, e, bnd_some]
  exact xf5 hfu hk hk3 h'
theorem xf3 {σ : SS} (hfu : 1000 ≤ fu) (hk : 1 ≤ k) (hk3 : k ≤ 3) (h : BDX n u σ0 k pl σ) : ∃ σ' : SS, XR3 fu σ = some ((), σ') ∧ BDX n u σ0 k pl σ' := by
  obtain ⟨v, σ', e, h'⟩ := BX_num (l := 1) hfu hk hk3 h
  rw [XR3, e, bnd_some]
  exact xf4 hfu hk hk3 (BX_I h' (by omega) (by omega))
theorem xf2 {σ : SS} (hfu : 1000 ≤ fu) (hk : 1 ≤ k) (hk3 : k ≤ 3) (h : BDX n u σ0 k pl σ) : ∃ σ' : SS, XR2 fu σ = some ((), σ') ∧ BDX n u σ0 k pl σ' := by
  obtain ⟨σ', e, h'⟩ := BX_sign (ch := 47) hfu hk hk3 h
  rw [XR2, e, bnd_some]
  exact xf3 hfu hk hk3 h'
theorem xl3 {σ : SS} (hfu : 1000 ≤ fu) (hk : 1 ≤ k) (hk3 : k ≤ 3) (h : BDX n u σ0 k pl σ) : ∃ σ' : SS, XL3 fu σ = some ((), σ') ∧ BDX n u σ0 k pl σ' := by
  obtain ⟨v, σ', e, h'⟩ := BX_num (l := 1) hfu hk hk3 h
  rw [XL3, e, bnd_some]
  exact xf6 hfu hk hk3 (BX_I h' (by omega) (by omega))
theorem xl2 {σ : SS} (hfu : 1000 ≤ fu) (hk : 1 ≤ k) (hk3 : k ≤ 3) (h : BDX n u σ0 k pl σ) : ∃ σ' : SS, XL2 fu σ = some ((), σ') ∧ BDX n u σ0 k pl σ' := by
  obtain ⟨σ', e, h'⟩ := BX_sign (ch := 47) hfu hk hk3 h
  rw [XL2, e, bnd_some]
  exact xl3 hfu hk hk3 h'
theorem mf6 {τ : SS} {p q w : Int32} (hc : c < 20) (hk : 1 ≤ k) (hk3 : k ≤ 3) (h : BDM n u c τ0 k pl τ) : ∃ τ' : SS, MR6 fu (nI (6 * c)) τ p q w = some ((), τ') ∧ BDM n u c τ0 k pl τ' := by
  have h' := BM_A (v := w) (BM_A (v := q) (BM_A (v := p) h (Nat.le_refl _)) (show 6 * c ≤ 6 * c + 1 by omega)) (show 6 * c ≤ 6 * c + 2 by omega)
  exact ⟨_, by rw [MR6_e hc, BM_tail hk hk3 h'], h'⟩
theorem mf5 {τ : SS} {p q : Int32} (hc : c < 20) (hk : 1 ≤ k) (hk3 : k ≤ 3) (h : BDM n u c τ0 k pl τ) : ∃ τ' : SS, MR5 fu (nI (6 * c)) τ p q = some ((), τ') ∧ BDM n u c τ0 k pl τ' := by
  rw [MR5, BM_num hk hk3 h, bnd_some]
  exact mf6 hc hk hk3 h
theorem mf4 {τ : SS} {p q : Int32} (hc : c < 20) (hk : 1 ≤ k) (hk3 : k ≤ 3) (h : BDM n u c τ0 k pl τ) : ∃ τ' : SS, MR4 fu (nI (6 * c)) τ p q = some ((), τ') ∧ BDM n u c τ0 k pl τ' := by
  rw [MR4, BM_need hk hk3 h, bnd_some]
  exact mf5 hc hk hk3 h
theorem mf3 {τ : SS} {p : Int32} (hc : c < 20) (hk : 1 ≤ k) (hk3 : k ≤ 3) (h : BDM n u c τ0 k pl τ) : ∃ τ' : SS, MR3 fu (nI (6 * c)) τ p = some ((), τ') ∧ BDM n u c τ0 k pl τ' := by
  rw [MR3, BM_num hk hk3 h, bnd_some]
  exact mf4 hc hk hk3 h
theorem mf2 {τ : SS} {p : Int32} (hc : c < 20) (hk : 1 ≤ k) (hk3 : k ≤ 3) (h : BDM n u c τ0 k pl τ) : ∃ τ' : SS, MR2 fu (nI (6 * c)) τ p = some ((), τ') ∧ BDM n u c τ0 k pl τ' := by
  rw [MR2, BM_sign hk hk3 h, bnd_some]
  exact mf3 hc hk hk3 h
theorem ml4 {τ : SS} {p q : Int32} (hc : c < 20) (hk : 1 ≤ k) (hk3 : k ≤ 3) (h : BDM n u c τ0 k pl τ) : ∃ τ' : SS, ML4 fu (nI (6 * c)) τ p q = some ((), τ') ∧ BDM n u c τ0 k pl τ' := by
  have h' := BM_A (v := q) (BM_A (v := p) h (show 6 * c ≤ 6 * c + 3 by omega)) (show 6 * c ≤ 6 * c + 4 by omega)
  exact ⟨_, by rw [ML4_e hc, BM_tail hk hk3 h'], h'⟩
theorem ml3 {τ : SS} {p : Int32} (hc : c < 20) (hk : 1 ≤ k) (hk3 : k ≤ 3) (h : BDM n u c τ0 k pl τ) : ∃ τ' : SS, ML3 fu (nI (6 * c)) τ p = some ((), τ') ∧ BDM n u c τ0 k pl τ' := by
  rw [ML3, BM_num hk hk3 h, bnd_some]
  exact ml4 hc hk hk3 h
theorem ml2 {τ : SS} {p : Int32} (hc : c < 20) (hk : 1 ≤ k) (hk3 : k ≤ 3) (h : BDM n u c τ0 k pl τ) : ∃ τ' : SS, ML2 fu (nI (6 * c)) τ p = some ((), τ') ∧ BDM n u c τ0 k pl τ' := by
  rw [ML2, BM_sign hk hk3 h, bnd_some]
  exact ml3 hc hk hk3 h
theorem mw2 {τ : SS} {p : Int32} (hc : c < 20) (hk : 1 ≤ k) (hk3 : k ≤ 3) (h : BDM n u c τ0 k pl τ) : ∃ τ' : SS, MW2 fu (nI (6 * c)) τ p = some ((), τ') ∧ BDM n u c τ0 k pl τ' := by
  have h' := BM_A (v := p) h (show 6 * c ≤ 6 * c + 5 by omega)
  exact ⟨_, by rw [MW2_e hc, BM_tail hk hk3 h'], h'⟩
theorem mw1 {τ : SS} (hc : c < 20) (hk : 1 ≤ k) (hk3 : k ≤ 3) (h : BDM n u c τ0 k pl τ) : ∃ τ' : SS, MW1 fu (nI (6 * c)) τ = some ((), τ') ∧ BDM n u c τ0 k pl τ' := by
  rw [MW1, BM_num hk hk3 h, bnd_some]
  exact mw2 hc hk hk3 h
end
/-! what a clause leaves -/
def VX (x : Nat → Nat) (σ : SS) : Prop := σ.1 8 = nI (x 1) ∧ σ.1 11 = nI (x 4) ∧ σ.1 12 = nI (x 5) ∧ (x 1 ≠ 0 → σ.1 7 = nI (x 0) ∧ σ.1 9 = nI (x 2)) ∧ (x 4 ≠ 0 → σ.1 10 = nI (x 3))
def VM (c : Nat) (x : Nat → Nat) (τ : SS) : Prop := (∀ k, k < 6 → τ.2.1 13 (6 * c + k) = nI (x k)) ∧ ∀ k, k < 6 → x k ≤ 1000
def OutA (n : Nat) (u : Nat → Nat) (c : Nat) (σ0 τ0 : SS) (X M : Option (Unit × SS)) : Prop := ∃ (σ' τ' : SS) (q : Nat) (x : Nat → Nat), X = some ((), σ') ∧ M = some ((), τ') ∧ TX n u σ' q ∧ TM n u τ' q ∧ σ'.1 5 = 0 ∧ τ'.1 10 = 0 ∧ σ'.1 6 = σ0.1 6 ∧ τ'.1 11 = τ0.1 11 ∧ KX σ0 σ' ∧ KM c τ0 τ' ∧ VX x σ' ∧ VM c x τ'
def OutB (n : Nat) (u : Nat → Nat) (c : Nat) (σ0 τ0 : SS) (X M : Option (Unit × SS)) : Prop := ∃ (k pl : Nat) (σ' τ' : SS), 1 ≤ k ∧ k ≤ 3 ∧ X = some ((), σ') ∧ M = some ((), τ') ∧ BDX n u σ0 k pl σ' ∧ BDM n u c τ0 k pl τ'
theorem OutB_of {n : Nat} {u : Nat → Nat} {c k pl : Nat} {σ0 τ0 : SS} {X M : Option (Unit × SS)} (h1 : 1 ≤ k) (h3 : k ≤ 3) (hX : ∃ σ' : SS, X = some ((), σ') ∧ BDX n u σ0 k pl σ') (hM : ∃ τ' : SS, M = some ((), τ') ∧ BDM n u c τ0 k pl τ') : OutB n u c σ0 τ0 X M := by
  obtain ⟨σ', e1, b1⟩ := hX
  obtain ⟨τ', e2, b2⟩ := hM
  exact ⟨k, pl, σ', τ', h1, h3, e1, e2, b1, b2⟩
theorem tail_both {n : Nat} {u : Nat → Nat} {fu c p : Nat} {σ0 τ0 σ τ : SS} {x : Nat → Nat} (hfu : 1000 ≤ fu) (hX : TX n u σ p) (hM : TM n u τ p) (f1 : σ.1 5 = 0) (f2 : τ.1 10 = 0) (g1 : σ.1 6 = σ0.1 6) (g2 : τ.1 11 = τ0.1 11) (kx : KX σ0 σ) (km : KM c τ0 τ) (vx : VX x σ) (vm : VM c x τ) : OutA n u c σ0 τ0 (XR6 fu σ) (f_X8_clause_148 fu τ) ∨ OutB n u c σ0 τ0 (XR6 fu σ) (f_X8_clause_148 fu τ) := by
  have ex : XR6 fu σ = bnd (f_X6_readSign fu σ (nI 59)) (fun _ t => some ((), t)) := rfl
  have em : f_X8_clause_148 fu τ = bnd (f_X8_sign fu τ (nI 59)) (fun _ t => some ((), t)) := rfl
  rw [ex, em]
  rcases sign_both (ch := 59) hfu hX hM f1 f2 (by omega) with ⟨q, hq, e1, e2⟩ | ⟨q, hq, e1, e2⟩
  · left
    rw [e1, e2, bnd_some, bnd_some]
    exact ⟨_, _, q, x, rfl, rfl, TX_at hX hq, TM_at hM hq, f1, f2, g1, g2, KX_tr kx (KX_I (by omega) (by omega)), KM_tr km (KM_I (by omega)), vx, vm⟩
  · right
    rw [e1, e2, bnd_some, bnd_some]
    exact ⟨1, q, _, _, by omega, by omega, rfl, rfl, BX_new hX kx hq, BM_new hM km hq⟩
theorem ret_both {n : Nat} {u : Nat → Nat} {fu c p : Nat} {σ0 τ0 σ τ : SS} {x : Nat → Nat} (hfu : 1000 ≤ fu) (hc : c < 20) (hX : TX n u σ p) (hM : TM n u τ p) (f1 : σ.1 5 = 0) (f2 : τ.1 10 = 0) (g1 : σ.1 6 = σ0.1 6) (g2 : τ.1 11 = τ0.1 11) (kx : KX σ0 σ) (km : KM c τ0 τ) (vx : VX x σ) (vm : VM c x τ) : OutA n u c σ0 τ0 (XR1 fu σ) (MR1 fu (nI (6 * c)) τ) ∨ OutB n u c σ0 τ0 (XR1 fu σ) (MR1 fu (nI (6 * c)) τ) := by
  have ex1 : ∀ s, XR1 fu s = bnd (f_X6_readNumber fu s (nI 0)) (fun r t => XR2 fu (sI t 7 r)) := fun _ => rfl
  have em1 : ∀ t, MR1 fu (nI (6 * c)) t = bnd (f_X8_number fu t (nI 0)) (fun p t => MR2 fu (nI (6 * c)) t p) := fun _ => rfl
  rw [ex1, em1]
  rcases num_both (least := 0) hfu hX hM f1 f2 (by omega) with ⟨q1, V1, hq1, hV1, _, e1, e2⟩ | ⟨q, k, pl, v, w, hq, hk, hk3, e1, e2⟩
  rotate_left
  · right
    rw [e1, e2, bnd_some, bnd_some]
    exact OutB_of hk hk3 (xf2 hfu hk hk3 (BX_I (BX_new hX kx hq) (by omega) (by omega))) (mf2 hc hk hk3 (BM_new hM km hq))
  rw [e1, e2, bnd_some, bnd_some]
  have X1 : TX n u (sI (sI σ 4 (nI q1)) 7 (nI V1)) q1 := TX_I (TX_at hX hq1) (by omega) (by omega)
  have M1 : TM n u (sI τ 9 (nI q1)) q1 := TM_at hM hq1
  have kx1 : KX σ0 (sI (sI σ 4 (nI q1)) 7 (nI V1)) := KX_tr kx (KX_tr (KX_I (by omega) (by omega)) (KX_I (by omega) (by omega)))
  have km1 : KM c τ0 (sI τ 9 (nI q1)) := KM_tr km (KM_I (by omega))
  have ex2 : ∀ s, XR2 fu s = bnd (f_X6_readSign fu s (nI 47)) (fun _ t => XR3 fu t) := fun _ => rfl
  have em2 : ∀ t p, MR2 fu (nI (6 * c)) t p = bnd (f_X8_sign fu t (nI 47)) (fun _ t => MR3 fu (nI (6 * c)) t p) := fun _ _ => rfl
  rw [ex2, em2]
  rcases sign_both (ch := 47) hfu X1 M1 f1 f2 (by omega) with ⟨q2, hq2, e1, e2⟩ | ⟨q, hq, e1, e2⟩
  rotate_left
  · right
    rw [e1, e2, bnd_some, bnd_some]
    exact OutB_of (by omega) (by omega) (xf3 hfu (by omega) (by omega) (BX_new X1 kx1 hq)) (mf3 hc (by omega) (by omega) (BM_new M1 km1 hq))
  rw [e1, e2, bnd_some, bnd_some]
  have X2 := TX_at X1 hq2
  have M2 := TM_at M1 hq2
  have kx2 : KX σ0 (sI (sI (sI σ 4 (nI q1)) 7 (nI V1)) 4 (nI q2)) := KX_tr kx1 (KX_I (by omega) (by omega))
  have km2 : KM c τ0 (sI (sI τ 9 (nI q1)) 9 (nI q2)) := KM_tr km1 (KM_I (by omega))
  have ex3 : ∀ s, XR3 fu s = bnd (f_X6_readNumber fu s (nI 1)) (fun r t => XR4 fu (sI t 8 r)) := fun _ => rfl
  have em3 : ∀ t p, MR3 fu (nI (6 * c)) t p = bnd (f_X8_number fu t (nI 1)) (fun q t => MR4 fu (nI (6 * c)) t p q) := fun _ _ => rfl
  rw [ex3, em3]
  rcases num_both (least := 1) hfu X2 M2 f1 f2 (by omega) with ⟨q3, V2, hq3, hV2, _, e1, e2⟩ | ⟨q, k, pl, v, w, hq, hk, hk3, e1, e2⟩
  rotate_left
  · right
    rw [e1, e2, bnd_some, bnd_some]
    exact OutB_of hk hk3 (xf4 hfu hk hk3 (BX_I (BX_new X2 kx2 hq) (by omega) (by omega))) (mf4 hc hk hk3 (BM_new M2 km2 hq))
  rw [e1, e2, bnd_some, bnd_some]
  have X3 : TX n u (sI (sI (sI (sI (sI σ 4 (nI q1)) 7 (nI V1)) 4 (nI q2)) 4 (nI q3)) 8 (nI V2)) q3 := TX_I (TX_at X2 hq3) (by omega) (by omega)
  have M3 := TM_at M2 hq3
  have kx3 : KX σ0 (sI (sI (sI (sI (sI σ 4 (nI q1)) 7 (nI V1)) 4 (nI q2)) 4 (nI q3)) 8 (nI V2)) := KX_tr kx2 (KX_tr (KX_I (by omega) (by omega)) (KX_I (by omega) (by omega)))
  have km3 : KM c τ0 (sI (sI (sI τ 9 (nI q1)) 9 (nI q2)) 9 (nI q3)) := KM_tr km2 (KM_I (by omega))
  rw [XR4, MR4]
  rcases within_both hfu X3 M3 f1 f2 with ⟨q4, hq4, e1, e2⟩ | ⟨q, q', pl, hq, hq', e1, e2⟩
  rotate_left
  · right
    rw [e1, e2, bnd_some, bnd_some]
    exact OutB_of (by omega) (by omega) (xf5 hfu (by omega) (by omega) (BX_new X3 kx3 hq)) (mf5 hc (by omega) (by omega) (BM_new M3 km3 hq'))
  rw [e1, e2, bnd_some, bnd_some]
  have X4 := TX_at X3 hq4
  have M4 := TM_at M3 hq4
  have kx4 : KX σ0 (sI (sI (sI (sI (sI (sI σ 4 (nI q1)) 7 (nI V1)) 4 (nI q2)) 4 (nI q3)) 8 (nI V2)) 4 (nI q4)) := KX_tr kx3 (KX_I (by omega) (by omega))
  have km4 : KM c τ0 (sI (sI (sI (sI τ 9 (nI q1)) 9 (nI q2)) 9 (nI q3)) 9 (nI q4)) := KM_tr km3 (KM_I (by omega))
  have ex5 : ∀ s, XR5 fu s = bnd (f_X6_readNumber fu s (nI 0)) (fun r t => XR6 fu (sI t 9 r)) := fun _ => rfl
  have em5 : ∀ t p q, MR5 fu (nI (6 * c)) t p q = bnd (f_X8_number fu t (nI 0)) (fun w t => MR6 fu (nI (6 * c)) t p q w) := fun _ _ _ => rfl
  rw [ex5, em5]
  rcases num_both (least := 0) hfu X4 M4 f1 f2 (by omega) with ⟨q5, V3, hq5, hV3, _, e1, e2⟩ | ⟨q, k, pl, v, w, hq, hk, hk3, e1, e2⟩
  rotate_left
  · right
    rw [e1, e2, bnd_some, bnd_some]
    exact OutB_of hk hk3 (xf6 hfu hk hk3 (BX_I (BX_new X4 kx4 hq) (by omega) (by omega))) (mf6 hc hk hk3 (BM_new M4 km4 hq))
  rw [e1, e2, bnd_some, bnd_some, MR6_e hc]
  have X5 := TX_I (k := 9) (v := nI V3) (TX_at X4 hq5) (by omega) (by omega)
  have M5 := TM_A (r := 13) (j := 6 * c + 2) (v := nI V3) (TM_A (r := 13) (j := 6 * c + 1) (v := nI V2) (TM_A (r := 13) (j := 6 * c) (v := nI V1) (TM_at M4 hq5) (by omega)) (by omega)) (by omega)
  refine tail_both (x := fun k => if k = 0 then V1 else if k = 1 then V2 else if k = 2 then V3 else x k) hfu X5 M5 f1 f2 g1 g2 (KX_tr kx4 (KX_tr (KX_I (by omega) (by omega)) (KX_I (by omega) (by omega)))) (KM_tr km4 (KM_tr (KM_I (by omega)) (KM_tr (KM_tr (KM_A (by omega)) (KM_A (by omega))) (KM_A (by omega))))) ?_ ?_
  · exact ⟨rfl, vx.2.1, vx.2.2.1, fun _ => ⟨rfl, rfl⟩, fun h => vx.2.2.2.2 h⟩
  · refine ⟨fun k hk => ?_, fun k hk => ?_⟩
    · have h0 := vm.1 k hk
      have hk6 : k = 0 ∨ k = 1 ∨ k = 2 ∨ (3 ≤ k ∧ k < 6) := by omega
      rcases hk6 with rfl | rfl | rfl | hk6
      · rw [sA_2, if_neg (fun z => by have := z.2; omega), sA_2, if_neg (fun z => by have := z.2; omega), sA_2, if_pos ⟨rfl, by omega⟩]
        rfl
      · rw [sA_2, if_neg (fun z => by have := z.2; omega), sA_2, if_pos ⟨rfl, by omega⟩]
        rfl
      · rw [sA_2, if_pos ⟨rfl, by omega⟩]
        rfl
      · show _ = nI (if k = 0 then V1 else if k = 1 then V2 else if k = 2 then V3 else x k)
        rw [sA_2, if_neg (fun z => by have := z.2; omega), sA_2, if_neg (fun z => by have := z.2; omega), sA_2, if_neg (fun z => by have := z.2; omega), if_neg (by omega), if_neg (by omega), if_neg (by omega)]
        exact h0
    · have h0 := vm.2 k hk
      show (if k = 0 then V1 else if k = 1 then V2 else if k = 2 then V3 else x k) ≤ 1000
      split
      · exact hV1
      · split
        · exact hV2
        · split
          · exact hV3
          · exact h0
theorem loan_both {n : Nat} {u : Nat → Nat} {fu c p : Nat} {σ0 τ0 σ τ : SS} {x : Nat → Nat} (hfu : 1000 ≤ fu) (hc : c < 20) (hX : TX n u σ p) (hM : TM n u τ p) (f1 : σ.1 5 = 0) (f2 : τ.1 10 = 0) (g1 : σ.1 6 = σ0.1 6) (g2 : τ.1 11 = τ0.1 11) (kx : KX σ0 σ) (km : KM c τ0 τ) (vx : VX x σ) (vm : VM c x τ) : OutA n u c σ0 τ0 (XL1 fu σ) (ML1 fu (nI (6 * c)) τ) ∨ OutB n u c σ0 τ0 (XL1 fu σ) (ML1 fu (nI (6 * c)) τ) := by
  have ex1 : ∀ s, XL1 fu s = bnd (f_X6_readNumber fu s (nI 0)) (fun r t => XL2 fu (sI t 10 r)) := fun _ => rfl
  have em1 : ∀ t, ML1 fu (nI (6 * c)) t = bnd (f_X8_number fu t (nI 0)) (fun p t => ML2 fu (nI (6 * c)) t p) := fun _ => rfl
  rw [ex1, em1]
  rcases num_both (least := 0) hfu hX hM f1 f2 (by omega) with ⟨q1, V1, hq1, hV1, _, e1, e2⟩ | ⟨q, k, pl, v, w, hq, hk, hk3, e1, e2⟩
  rotate_left
  · right
    rw [e1, e2, bnd_some, bnd_some]
    exact OutB_of hk hk3 (xl2 hfu hk hk3 (BX_I (BX_new hX kx hq) (by omega) (by omega))) (ml2 hc hk hk3 (BM_new hM km hq))
  rw [e1, e2, bnd_some, bnd_some]
  have X1 : TX n u (sI (sI σ 4 (nI q1)) 10 (nI V1)) q1 := TX_I (TX_at hX hq1) (by omega) (by omega)
  have M1 : TM n u (sI τ 9 (nI q1)) q1 := TM_at hM hq1
  have kx1 : KX σ0 (sI (sI σ 4 (nI q1)) 10 (nI V1)) := KX_tr kx (KX_tr (KX_I (by omega) (by omega)) (KX_I (by omega) (by omega)))
  have km1 : KM c τ0 (sI τ 9 (nI q1)) := KM_tr km (KM_I (by omega))
  have ex2 : ∀ s, XL2 fu s = bnd (f_X6_readSign fu s (nI 47)) (fun _ t => XL3 fu t) := fun _ => rfl
  have em2 : ∀ t p, ML2 fu (nI (6 * c)) t p = bnd (f_X8_sign fu t (nI 47)) (fun _ t => ML3 fu (nI (6 * c)) t p) := fun _ _ => rfl
  rw [ex2, em2]
  rcases sign_both (ch := 47) hfu X1 M1 f1 f2 (by omega) with ⟨q2, hq2, e1, e2⟩ | ⟨q, hq, e1, e2⟩
  rotate_left
  · right
    rw [e1, e2, bnd_some, bnd_some]
    exact OutB_of (by omega) (by omega) (xl3 hfu (by omega) (by omega) (BX_new X1 kx1 hq)) (ml3 hc (by omega) (by omega) (BM_new M1 km1 hq))
  rw [e1, e2, bnd_some, bnd_some]
  have X2 := TX_at X1 hq2
  have M2 := TM_at M1 hq2
  have kx2 : KX σ0 (sI (sI (sI σ 4 (nI q1)) 10 (nI V1)) 4 (nI q2)) := KX_tr kx1 (KX_I (by omega) (by omega))
  have km2 : KM c τ0 (sI (sI τ 9 (nI q1)) 9 (nI q2)) := KM_tr km1 (KM_I (by omega))
  have ex3 : ∀ s, XL3 fu s = bnd (f_X6_readNumber fu s (nI 1)) (fun r t => XR6 fu (sI t 11 r)) := fun _ => rfl
  have em3 : ∀ t p, ML3 fu (nI (6 * c)) t p = bnd (f_X8_number fu t (nI 1)) (fun q t => ML4 fu (nI (6 * c)) t p q) := fun _ _ => rfl
  rw [ex3, em3]
  rcases num_both (least := 1) hfu X2 M2 f1 f2 (by omega) with ⟨q3, V2, hq3, hV2, _, e1, e2⟩ | ⟨q, k, pl, v, w, hq, hk, hk3, e1, e2⟩
  rotate_left
  · right
    rw [e1, e2, bnd_some, bnd_some]
    exact OutB_of hk hk3 (xf6 hfu hk hk3 (BX_I (BX_new X2 kx2 hq) (by omega) (by omega))) (ml4 hc hk hk3 (BM_new M2 km2 hq))
  rw [e1, e2, bnd_some, bnd_some, ML4_e hc]
  have X3 := TX_I (k := 11) (v := nI V2) (TX_at X2 hq3) (by omega) (by omega)
  have M3 := TM_A (r := 13) (j := 6 * c + 4) (v := nI V2) (TM_A (r := 13) (j := 6 * c + 3) (v := nI V1) (TM_at M2 hq3) (by omega)) (by omega)
  refine tail_both (x := fun k => if k = 3 then V1 else if k = 4 then V2 else x k) hfu X3 M3 f1 f2 g1 g2 (KX_tr kx2 (KX_tr (KX_I (by omega) (by omega)) (KX_I (by omega) (by omega)))) (KM_tr km2 (KM_tr (KM_I (by omega)) (KM_tr (KM_A (by omega)) (KM_A (by omega))))) ?_ ?_
  · exact ⟨vx.1, rfl, vx.2.2.1, fun h => vx.2.2.2.1 h, fun _ => rfl⟩
  · refine ⟨fun k hk => ?_, fun k hk => ?_⟩
    · have h0 := vm.1 k hk
      have hk6 : k = 3 ∨ k = 4 ∨ (k ≠ 3 ∧ k ≠ 4) := by omega
      rcases hk6 with rfl | rfl | hk6
      · rw [sA_2, if_neg (fun z => by have := z.2; omega), sA_2, if_pos ⟨rfl, by omega⟩]
        rfl
      · rw [sA_2, if_pos ⟨rfl, by omega⟩]
        rfl
      · show _ = nI (if k = 3 then V1 else if k = 4 then V2 else x k)
        rw [sA_2, if_neg (fun z => by have := z.2; omega), sA_2, if_neg (fun z => by have := z.2; omega), if_neg hk6.1, if_neg hk6.2]
        exact h0
    · have h0 := vm.2 k hk
      show (if k = 3 then V1 else if k = 4 then V2 else x k) ≤ 1000
      split
      · exact hV1
      · split
        · exact hV2
        · exact h0
theorem wit_both {n : Nat} {u : Nat → Nat} {fu c p : Nat} {σ0 τ0 σ τ : SS} {x : Nat → Nat} (hfu : 1000 ≤ fu) (hc : c < 20) (hX : TX n u σ p) (hM : TM n u τ p) (f1 : σ.1 5 = 0) (f2 : τ.1 10 = 0) (g1 : σ.1 6 = σ0.1 6) (g2 : τ.1 11 = τ0.1 11) (kx : KX σ0 σ) (km : KM c τ0 τ) (vx : VX x σ) (vm : VM c x τ) : OutA n u c σ0 τ0 (XW1 fu σ) (MW1 fu (nI (6 * c)) τ) ∨ OutB n u c σ0 τ0 (XW1 fu σ) (MW1 fu (nI (6 * c)) τ) := by
  have ex1 : ∀ s, XW1 fu s = bnd (f_X6_readNumber fu s (nI 0)) (fun r t => XR6 fu (sI t 12 r)) := fun _ => rfl
  have em1 : ∀ t, MW1 fu (nI (6 * c)) t = bnd (f_X8_number fu t (nI 0)) (fun p t => MW2 fu (nI (6 * c)) t p) := fun _ => rfl
  rw [ex1, em1]
  rcases num_both (least := 0) hfu hX hM f1 f2 (by omega) with ⟨q1, V1, hq1, hV1, _, e1, e2⟩ | ⟨q, k, pl, v, w, hq, hk, hk3, e1, e2⟩
  rotate_left
  · right
    rw [e1, e2, bnd_some, bnd_some]
    exact OutB_of hk hk3 (xf6 hfu hk hk3 (BX_I (BX_new hX kx hq) (by omega) (by omega))) (mw2 hc hk hk3 (BM_new hM km hq))
  rw [e1, e2, bnd_some, bnd_some, MW2_e hc]
  have X3 := TX_I (k := 12) (v := nI V1) (TX_at hX hq1) (by omega) (by omega)
  have M3 := TM_A (r := 13) (j := 6 * c + 5) (v := nI V1) (TM_at hM hq1) (by omega)
  refine tail_both (x := fun k => if k = 5 then V1 else x k) hfu X3 M3 f1 f2 g1 g2 (KX_tr kx (KX_tr (KX_I (by omega) (by omega)) (KX_I (by omega) (by omega)))) (KM_tr km (KM_tr (KM_I (by omega)) (KM_A (by omega)))) ?_ ?_
  · exact ⟨vx.1, vx.2.1, rfl, fun h => vx.2.2.2.1 h, fun h => vx.2.2.2.2 h⟩
  · refine ⟨fun k hk => ?_, fun k hk => ?_⟩
    · have h0 := vm.1 k hk
      by_cases e : k = 5
      · subst e
        rw [sA_2, if_pos ⟨rfl, by omega⟩]
        rfl
      · show _ = nI (if k = 5 then V1 else x k)
        rw [sA_2, if_neg (fun z => by have := z.2; omega), if_neg e]
        exact h0
    · have h0 := vm.2 k hk
      show (if k = 5 then V1 else x k) ≤ 1000
      split
      · exact hV1
      · exact h0

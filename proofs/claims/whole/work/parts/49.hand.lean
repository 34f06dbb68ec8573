/-! handing on in both programs; gather and hold -/
def XF (σ σ' : SS) : Prop := σ'.1 = σ.1 ∧ (∀ r, r < 30 → σ'.2.1 r = σ.2.1 r) ∧ ∀ r, r < 29 → σ'.2.2 r = σ.2.2 r
def MF (τ τ' : SS) : Prop := (∀ k, k ≠ 30 → τ'.1 k = τ.1 k) ∧ (∀ r, r < 25 → τ'.2.1 r = τ.2.1 r) ∧ ∀ r, r < 25 → τ'.2.2 r = τ.2.2 r
theorem XF_rf (σ : SS) : XF σ σ := ⟨rfl, fun _ _ => rfl, fun _ _ => rfl⟩
theorem MF_rf (σ : SS) : MF σ σ := ⟨fun _ _ => rfl, fun _ _ => rfl, fun _ _ => rfl⟩
theorem XF_tr {a b c : SS} (h : XF a b) (g : XF b c) : XF a c := ⟨g.1.trans h.1, fun r hr => (g.2.1 r hr).trans (h.2.1 r hr), fun r hr => (g.2.2 r hr).trans (h.2.2 r hr)⟩
theorem MF_tr {a b c : SS} (h : MF a b) (g : MF b c) : MF a c := ⟨fun k hk => (g.1 k hk).trans (h.1 k hk), fun r hr => (g.2.1 r hr).trans (h.2.1 r hr), fun r hr => (g.2.2 r hr).trans (h.2.2 r hr)⟩
theorem XF_Q {a b : SS} (h : QF a b) : XF a b := ⟨h.1, h.2.2, fun _ _ => by rw [h.2.1]⟩
theorem MF_N {a b : SS} (h : NF a b) : MF a b := ⟨h.1, h.2.2, fun _ _ => by rw [h.2.1]⟩
theorem XF_L {σ : SS} {r j : Nat} {v : Int64} (hr : 29 ≤ r) : XF σ (sL σ r j v) := ⟨rfl, fun _ _ => rfl, fun b hb => by
  funext i
  rw [sL_3, if_neg (fun z => by have := z.1; omega)]⟩
theorem MF_L {σ : SS} {r j : Nat} {v : Int64} (hr : 25 ≤ r) : MF σ (sL σ r j v) := ⟨fun _ _ => rfl, fun _ _ => rfl, fun b hb => by
  funext i
  rw [sL_3, if_neg (fun z => by have := z.1; omega)]⟩
section
variable {nx d : Nat → Nat} {n c fu : Nat}
theorem d_zero {v : Nat} (hd : ∀ v, v ≠ c → d v < 12 → d (nx v) + 1 = d v ∧ nx v < n) (h : d v = 0) : v = c := by
  by_cases e : v = c
  · exact e
  · have := (hd v e (by omega)).1
    omega
theorem X_min {σ : SS} {st : Nat → Nat} {cp : Nat → Nat → Nat} {S : Nat → Prop} (hn : n ≤ 12) (hd0 : d c = 0) (hd : ∀ v, v ≠ c → d v < 12 → d (nx v) + 1 = d v ∧ nx v < n) (hB : FB n st cp) (hF : FX σ st cp) (hS : ∀ v, S v → v ≠ c → σ.2.1 32 v = nI (nx v) ∧ S (nx v)) (hc : c < n) (g : Int32) : ∀ L v m0 s fuel, S v → v < n → d v = L → L + s < 12 → L < fuel → m0 ≤ 12000000 → loopN (fun k13 σ x => f_X4_handOn_13 fu k13 σ x.1 x.2.1 x.2.2.1 x.2.2.2.1 x.2.2.2.2) fuel σ (g, nI c, lN m0, nI v, nI s) = f_X4_handOn_61 fu σ g (nI c) (lN (mnP nx cp L v m0)) := by
  intro L
  induction L with
  | zero =>
    intro v m0 s fuel hSv hvn hv hs hf hm
    obtain ⟨f, rfl⟩ : ∃ f, fuel = f + 1 := ⟨fuel - 1, by omega⟩
    have e := d_zero hd hv
    subst e
    show f_X4_handOn_13 fu _ σ g (nI v) (lN m0) (nI v) (nI s) = _
    rw [f_X4_handOn_13, if_neg (show ¬ (12 : Int32) ≤ nI s from fun z => by have := (q_le (a := 12) (by omega) (by omega)).mp z; omega), if_pos rfl]
    rfl
  | succ L ih =>
    intro v m0 s fuel hSv hvn hv hs hf hm
    obtain ⟨f, rfl⟩ : ∃ f, fuel = f + 1 := ⟨fuel - 1, by omega⟩
    obtain ⟨p1, p2, p3, p4⟩ := pth hd0 hd hv (by omega)
    obtain ⟨s1, s2⟩ := hS v hSv p1
    have hcp := hB.2.2.1 v (nx v)
    have emin : (if lN (cp v (nx v)) < lN m0 then lN (cp v (nx v)) else lN m0) = lN (if cp v (nx v) < m0 then cp v (nx v) else m0) := by
      by_cases q : cp v (nx v) < m0
      · rw [if_pos ((pk_lLT (by omega) (by omega)).mpr q), if_pos q]
      · rw [if_neg (fun z => q ((pk_lLT (by omega) (by omega)).mp z)), if_neg q]
    show f_X4_handOn_13 fu (loopN _ f) σ g (nI c) (lN m0) (nI v) (nI s) = _
    rw [f_X4_handOn_13, if_neg (show ¬ (12 : Int32) ≤ nI s from fun z => by have := (q_le (a := 12) (by omega) (by omega)).mp z; omega), if_neg (fun z => p1 ((q_eq (by omega) (by omega)).mp z)), if_pos ((q_in (by omega)).mpr (by omega)), q_cl (show v < 2000000000 by omega), s1, if_pos ((q_in (by omega)).mpr (by omega)), q_cl (show nx v < 2000000000 by omega), hF.2 v (nx v) (by omega) (by omega), emin, q_inc]
    exact ih (nx v) _ (s + 1) f s2 p3 p2 (by omega) (by omega) (by split <;> omega)
theorem X_upd {st : Nat → Nat} {S : Nat → Prop} {m : Nat} (hn : n ≤ 12) (hd0 : d c = 0) (hd : ∀ v, v ≠ c → d v < 12 → d (nx v) + 1 = d v ∧ nx v < n) (hc : c < n) : ∀ L v s fuel σ cp, S v → v < n → d v = L → L + s < 12 → L < fuel → FX σ st cp → (∀ v, S v → v ≠ c → σ.2.1 32 v = nI (nx v) ∧ S (nx v)) → alP nx (fun x => m ≤ x) cp L v → ∃ σ' : SS, loopN (fun k77 σ x => f_X4_handOn_77 fu k77 σ x.1 x.2.1 x.2.2.1 x.2.2.2) fuel σ (nI c, lN m, nI v, nI s) = some (lN m, σ') ∧ FX σ' st (upP nx m L v cp) ∧ XF σ σ' := by
  intro L
  induction L with
  | zero =>
    intro v s fuel σ cp hSv hvn hv hs hf hF hS hA
    obtain ⟨f, rfl⟩ : ∃ f, fuel = f + 1 := ⟨fuel - 1, by omega⟩
    have e := d_zero hd hv
    subst e
    refine ⟨σ, ?_, hF, XF_rf σ⟩
    show f_X4_handOn_77 fu _ σ (nI v) (lN m) (nI v) (nI s) = _
    rw [f_X4_handOn_77, if_neg (show ¬ (12 : Int32) ≤ nI s from fun z => by have := (q_le (a := 12) (by omega) (by omega)).mp z; omega), if_pos rfl]
  | succ L ih =>
    intro v s fuel σ cp hSv hvn hv hs hf hF hS hA
    obtain ⟨f, rfl⟩ : ∃ f, fuel = f + 1 := ⟨fuel - 1, by omega⟩
    obtain ⟨p1, p2, p3, p4⟩ := pth hd0 hd hv (by omega)
    obtain ⟨s1, s2⟩ := hS v hSv p1
    have hm : m ≤ cp v (nx v) := hA.1
    have e2 : (sL σ (40 + v) (nx v) (lN (cp v (nx v) - m))).2.2 (40 + nx v) v = lN (cp (nx v) v) := by
      rw [sL_3, if_neg (fun z => p4 z.2), hF.2 (nx v) v (by omega) (by omega)]
    have hF2 : FX (sL (sL σ (40 + v) (nx v) (lN (cp v (nx v) - m))) (40 + nx v) v (lN (cp (nx v) v + m))) st (stp nx m cp v) := by
      refine ⟨fun i hi => ?_, fun i j hi hj => ?_⟩
      · rw [sL_3, if_neg (fun z => by have := z.1; omega), sL_3, if_neg (fun z => by have := z.1; omega)]
        exact hF.1 i hi
      · unfold stp
        rw [sL_3, sL_3]
        by_cases q1 : i = v ∧ j = nx v
        · have n1 : ¬ (40 + i = 40 + nx v ∧ j = v) := fun z => p4 (z.2.symm.trans q1.2)
          have y1 : 40 + i = 40 + v ∧ j = nx v := ⟨by omega, q1.2⟩
          rw [if_neg n1, if_pos y1, if_pos q1, q1.1, q1.2]
        · have n2 : ¬ (40 + i = 40 + v ∧ j = nx v) := fun z => q1 ⟨by have := z.1; omega, z.2⟩
          rw [if_neg q1]
          by_cases q2 : i = nx v ∧ j = v
          · have y2 : 40 + i = 40 + nx v ∧ j = v := ⟨by omega, q2.2⟩
            rw [if_pos y2, if_pos q2, q2.1, q2.2]
          · have n1 : ¬ (40 + i = 40 + nx v ∧ j = v) := fun z => q2 ⟨by have := z.1; omega, z.2⟩
            rw [if_neg n1, if_neg n2, if_neg q2]
            exact hF.2 i j hi hj
    show ∃ σ' : SS, f_X4_handOn_77 fu (loopN _ f) σ (nI c) (lN m) (nI v) (nI s) = some (lN m, σ') ∧ FX σ' st (upP nx m L (nx v) (stp nx m cp v)) ∧ XF σ σ'
    rw [f_X4_handOn_77, if_neg (show ¬ (12 : Int32) ≤ nI s from fun z => by have := (q_le (a := 12) (by omega) (by omega)).mp z; omega), if_neg (fun z => p1 ((q_eq (by omega) (by omega)).mp z)), if_pos ((q_in (by omega)).mpr (by omega)), q_cl (show v < 2000000000 by omega), s1, if_pos ((q_in (by omega)).mpr (by omega)), q_cl (show nx v < 2000000000 by omega), hF.2 v (nx v) (by omega) (by omega), lN_sub hm, e2, lN_add, q_inc]
    obtain ⟨σ', r1, r2, r3⟩ := ih (nx v) (s + 1) f _ _ s2 p3 p2 (by omega) (by omega) hF2 hS (alP_congr hd0 hd L (nx v) p2 (by omega) (stp_low hv) hA.2)
    exact ⟨σ', r1, r2, XF_tr (XF_tr (XF_L (by omega)) (XF_L (by omega))) r3⟩
theorem M_min {τ : SS} {st : Nat → Nat} {cp : Nat → Nat → Nat} (hn : n ≤ 12) (hd0 : d c = 0) (hd : ∀ v, v ≠ c → d v < 12 → d (nx v) + 1 = d v ∧ nx v < n) (hB : FB n st cp) (hF : FM τ n st cp) (hS : ∀ v, v < n → v ≠ c → d v < 12 → τ.2.1 27 v = nI (nx v)) (hc : c < n) (k133 : SS → (Int32 × Int64 × Int32) → Option (Int64 × SS)) (sum : Int64) (fl g : Int32) : ∀ L v m0 fuel, v < n → d v = L → L < 12 → L < fuel → m0 ≤ 12000000 → loopN (fun k224 σ x => f_X8_gathers_224 fu k133 k224 σ x.1 x.2.1 x.2.2.1 x.2.2.2.1 x.2.2.2.2.1 x.2.2.2.2.2) fuel τ (nI c, sum, fl, g, lN m0, nI v) = f_X8_gathers_L295 fu k133 τ (nI c, sum, fl, g, lN (mnP nx cp L v m0), g) := by
  intro L
  induction L with
  | zero =>
    intro v m0 fuel hvn hv hs hf hm
    obtain ⟨f, rfl⟩ : ∃ f, fuel = f + 1 := ⟨fuel - 1, by omega⟩
    have e := d_zero hd hv
    subst e
    show f_X8_gathers_224 fu k133 _ τ (nI v) sum fl g (lN m0) (nI v) = _
    rw [f_X8_gathers_224, if_pos rfl]
    rfl
  | succ L ih =>
    intro v m0 fuel hvn hv hs hf hm
    obtain ⟨f, rfl⟩ : ∃ f, fuel = f + 1 := ⟨fuel - 1, by omega⟩
    obtain ⟨p1, p2, p3, p4⟩ := pth hd0 hd hv (by omega)
    have s1 := hS v hvn p1 (by omega)
    have hcp := hB.2.2.1 v (nx v)
    have eix : (12 : Int32) * nI v + nI (nx v) = nI (12 * v + nx v) := by
      rw [show (12 : Int32) = nI 12 from rfl, q_mul, q_add]
    show f_X8_gathers_224 fu k133 (loopN _ f) τ (nI c) sum fl g (lN m0) (nI v) = _
    rw [f_X8_gathers_224, if_neg (fun z => p1 ((q_eq (by omega) (by omega)).mp z)), if_pos ((q_in (by omega)).mpr (by omega)), q_cl (show v < 2000000000 by omega), s1, eix, if_pos ((q_in (by omega)).mpr (by omega)), q_cl (show 12 * v + nx v < 2000000000 by omega), hF.2 v (nx v) (by omega) (by omega), f_X8_gathers_277, f_X8_gathers_277, if_pos ((q_in (by omega)).mpr (by omega)), if_pos ((q_in (by omega)).mpr (by omega)), q_cl (show v < 2000000000 by omega), s1]
    show _ = f_X8_gathers_L295 fu k133 τ (nI c, sum, fl, g, lN (mnP nx cp L (nx v) (if cp v (nx v) < m0 then cp v (nx v) else m0)), g)
    by_cases q : cp v (nx v) < m0
    · rw [if_neg (fun z => by have := (lc_ge (by omega) (by omega)).mp z; omega), if_pos q]
      exact ih (nx v) _ f p3 p2 (by omega) (by omega) (by omega)
    · rw [if_pos ((lc_ge (by omega) (by omega)).mpr (by omega)), if_neg q]
      exact ih (nx v) _ f p3 p2 (by omega) (by omega) (by omega)
theorem M_upd {st : Nat → Nat} {m : Nat} (hn : n ≤ 12) (hd0 : d c = 0) (hd : ∀ v, v ≠ c → d v < 12 → d (nx v) + 1 = d v ∧ nx v < n) (hc : c < n) (k133 : SS → (Int32 × Int64 × Int32) → Option (Int64 × SS)) (sum : Int64) (fl : Int32) {g : Nat} (hg : g < n) : ∀ L v fuel τ cp, v < n → d v = L → L < 12 → L < fuel → FM τ n st cp → (∀ v, v < n → v ≠ c → d v < 12 → τ.2.1 27 v = nI (nx v)) → alP nx (fun x => m ≤ x) cp L v → m ≤ st g → ∃ τ' : SS, loopN (fun k295 σ x => f_X8_gathers_295 fu k133 k295 σ x.1 x.2.1 x.2.2.1 x.2.2.2.1 x.2.2.2.2.1 x.2.2.2.2.2) fuel τ (nI c, sum, fl, nI g, lN m, nI v) = k133 (sL τ' 26 g (lN (st g - m))) (nI c, sum + lN m, fl) ∧ FM τ' n st (upP nx m L v cp) ∧ MF τ τ' := by
  intro L
  induction L with
  | zero =>
    intro v fuel τ cp hvn hv hs hf hF hS hA hmg
    obtain ⟨f, rfl⟩ : ∃ f, fuel = f + 1 := ⟨fuel - 1, by omega⟩
    have e := d_zero hd hv
    subst e
    refine ⟨τ, ?_, hF, MF_rf τ⟩
    show f_X8_gathers_295 fu k133 _ τ (nI v) sum fl (nI g) (lN m) (nI v) = _
    rw [f_X8_gathers_295, if_pos rfl, if_pos ((q_in (by omega)).mpr (by omega)), q_cl (by omega), hF.1 g hg, lN_sub hmg]
  | succ L ih =>
    intro v fuel τ cp hvn hv hs hf hF hS hA hmg
    obtain ⟨f, rfl⟩ : ∃ f, fuel = f + 1 := ⟨fuel - 1, by omega⟩
    obtain ⟨p1, p2, p3, p4⟩ := pth hd0 hd hv (by omega)
    have s1 := hS v hvn p1 (by omega)
    have hm : m ≤ cp v (nx v) := hA.1
    have eix : (12 : Int32) * nI v + nI (nx v) = nI (12 * v + nx v) := by
      rw [show (12 : Int32) = nI 12 from rfl, q_mul, q_add]
    have eiy : (12 : Int32) * nI (nx v) + nI v = nI (12 * nx v + v) := by
      rw [show (12 : Int32) = nI 12 from rfl, q_mul, q_add]
    have e2 : (sL τ 25 (12 * v + nx v) (lN (cp v (nx v) - m))).2.2 25 (12 * nx v + v) = lN (cp (nx v) v) := by
      rw [sL_3, if_neg (fun z => by have := z.2; omega), hF.2 (nx v) v (by omega) (by omega)]
    have hF2 : FM (sL (sL τ 25 (12 * v + nx v) (lN (cp v (nx v) - m))) 25 (12 * nx v + v) (lN (cp (nx v) v + m))) n st (stp nx m cp v) := by
      refine ⟨fun i hi => ?_, fun i j hi hj => ?_⟩
      · rw [sL_3, if_neg (fun z => by have := z.1; omega), sL_3, if_neg (fun z => by have := z.1; omega)]
        exact hF.1 i hi
      · unfold stp
        rw [sL_3, sL_3]
        by_cases q1 : i = v ∧ j = nx v
        · have n1 : ¬ (25 = 25 ∧ 12 * i + j = 12 * nx v + v) := fun z => by have := z.2; have := q1.1; have := q1.2; omega
          have y1 : 25 = 25 ∧ 12 * i + j = 12 * v + nx v := ⟨rfl, by rw [q1.1, q1.2]⟩
          rw [if_neg n1, if_pos y1, if_pos q1, q1.1, q1.2]
        · have n2 : ¬ (25 = 25 ∧ 12 * i + j = 12 * v + nx v) := fun z => q1 (by have := z.2; omega)
          rw [if_neg q1]
          by_cases q2 : i = nx v ∧ j = v
          · have y2 : 25 = 25 ∧ 12 * i + j = 12 * nx v + v := ⟨rfl, by rw [q2.1, q2.2]⟩
            rw [if_pos y2, if_pos q2, q2.1, q2.2]
          · have n1 : ¬ (25 = 25 ∧ 12 * i + j = 12 * nx v + v) := fun z => q2 (by have := z.2; omega)
            rw [if_neg n1, if_neg n2, if_neg q2]
            exact hF.2 i j hi hj
    show ∃ τ' : SS, f_X8_gathers_295 fu k133 (loopN _ f) τ (nI c) sum fl (nI g) (lN m) (nI v) = k133 (sL τ' 26 g (lN (st g - m))) (nI c, sum + lN m, fl) ∧ FM τ' n st (upP nx m L (nx v) (stp nx m cp v)) ∧ MF τ τ'
    rw [f_X8_gathers_295, if_neg (fun z => p1 ((q_eq (by omega) (by omega)).mp z)), if_pos ((q_in (by omega)).mpr (by omega)), q_cl (show v < 2000000000 by omega), s1, eix, eiy, if_pos ((q_in (by omega)).mpr (by omega)), if_pos ((q_in (by omega)).mpr (by omega)), q_cl (show 12 * v + nx v < 2000000000 by omega), q_cl (show 12 * nx v + v < 2000000000 by omega), hF.2 v (nx v) (by omega) (by omega), lN_sub hm, e2, lN_add]
    obtain ⟨τ', r1, r2, r3⟩ := ih (nx v) f _ _ p3 p2 (by omega) (by omega) hF2 hS (alP_congr hd0 hd L (nx v) p2 (by omega) (stp_low hv) hA.2) hmg
    exact ⟨τ', r1, r2, MF_tr (MF_tr (MF_L (by omega)) (MF_L (by omega))) r3⟩
end
theorem scan_no {cp : Nat → Nat → Nat} {st : Nat → Nat} {n c fu : Nat} {τ : SS} (hn : n ≤ 12) (hc : c < n) (hB : FB n st cp) (hF : FM τ n st cp) (hQ : QM τ n c (bfO cp c 12)) (k133 : SS → (Int32 × Int64 × Int32) → Option (Int64 × SS)) (sum : Int64) (h0 : ∀ j, j < (bfO cp c 12).1 0 → st ((bfO cp c 12).2 2 j) = 0) : ∀ m i fuel, i + m = (bfO cp c 12).1 0 → m < fuel → loopN (fun k146 σ x => f_X8_gathers_146 fu k133 k146 σ x.1 x.2.1 x.2.2) fuel τ (nI c, sum, nI i) = k133 τ (nI c, sum, 0) := by
  have hJ := (bfO_ok hn hc hB.2.1 12).1
  have hq := BJ_12 hJ
  intro m
  induction m with
  | zero =>
    intro i fuel hi hf
    obtain ⟨f, rfl⟩ : ∃ f, fuel = f + 1 := ⟨fuel - 1, by omega⟩
    have hle : nI ((bfO cp c 12).1 0) ≤ nI i := (q_le (by omega) (by omega)).mpr (by omega)
    show f_X8_gathers_146 fu k133 _ τ (nI c) sum (nI i) = _
    rw [f_X8_gathers_146, hQ.2.2.2, if_pos hle, f_X8_gathers_178, hQ.2.2.2, if_pos hle, f_X8_gathers_192, if_pos rfl]
  | succ m ih =>
    intro i fuel hi hf
    obtain ⟨f, rfl⟩ : ∃ f, fuel = f + 1 := ⟨fuel - 1, by omega⟩
    have hu := (hJ.2.2.2.2.2.2.1 i (by omega)).1
    show f_X8_gathers_146 fu k133 (loopN _ f) τ (nI c) sum (nI i) = _
    rw [f_X8_gathers_146, hQ.2.2.2, if_neg (fun z => by have := (q_le (by omega) (by omega)).mp z; omega), if_pos ((q_in (by omega)).mpr (by omega)), q_cl (by omega), hQ.2.2.1 i (by omega), if_pos ((q_in (by omega)).mpr (by omega)), q_cl (by omega), hF.1 _ hu, h0 i (by omega), if_pos (by decide), q_inc]
    exact ih (i + 1) f (by omega) (by omega)
theorem scan_hit {cp : Nat → Nat → Nat} {st : Nat → Nat} {n c fu : Nat} {τ : SS} (hn : n ≤ 12) (hc : c < n) (hB : FB n st cp) (hF : FM τ n st cp) (hQ : QM τ n c (bfO cp c 12)) (k133 : SS → (Int32 × Int64 × Int32) → Option (Int64 × SS)) (sum : Int64) {j : Nat} (hj : j < (bfO cp c 12).1 0) (h0 : ∀ p, p < j → st ((bfO cp c 12).2 2 p) = 0) (h1 : st ((bfO cp c 12).2 2 j) ≠ 0) : ∀ m i fuel, i + m = j → m < fuel → loopN (fun k146 σ x => f_X8_gathers_146 fu k133 k146 σ x.1 x.2.1 x.2.2) fuel τ (nI c, sum, nI i) = f_X8_gathers_L224 fu k133 τ (nI c, sum, 1, nI ((bfO cp c 12).2 2 j), lN (st ((bfO cp c 12).2 2 j)), nI ((bfO cp c 12).2 2 j)) := by
  have hJ := (bfO_ok hn hc hB.2.1 12).1
  have hq := BJ_12 hJ
  intro m
  induction m with
  | zero =>
    intro i fuel hi hf
    obtain ⟨f, rfl⟩ : ∃ f, fuel = f + 1 := ⟨fuel - 1, by omega⟩
    have hij : i = j := by omega
    subst hij
    have hu := (hJ.2.2.2.2.2.2.1 i hj).1
    have hst := hB.2.2.2 ((bfO cp c 12).2 2 i)
    have hle : ¬ nI ((bfO cp c 12).1 0) ≤ nI i := fun z => by have := (q_le (by omega) (by omega)).mp z; omega
    have i12 : inB (nI i) 12 := (q_in (by omega)).mpr (by omega)
    have u12 : inB (nI ((bfO cp c 12).2 2 i)) 12 := (q_in (by omega)).mpr (by omega)
    show f_X8_gathers_146 fu k133 _ τ (nI c) sum (nI i) = _
    rw [f_X8_gathers_146, hQ.2.2.2, if_neg hle, if_pos i12, q_cl (show i < 2000000000 by omega), hQ.2.2.1 i hj, if_pos u12, q_cl (show (bfO cp c 12).2 2 i < 2000000000 by omega), hF.1 _ hu, lcz (by omega), if_neg h1, if_neg i10, f_X8_gathers_178, hQ.2.2.2, if_neg hle, f_X8_gathers_192, if_neg i10, if_pos i12, q_cl (show i < 2000000000 by omega), hQ.2.2.1 i hj, if_pos u12, q_cl (show (bfO cp c 12).2 2 i < 2000000000 by omega), hF.1 _ hu]
  | succ m ih =>
    intro i fuel hi hf
    obtain ⟨f, rfl⟩ : ∃ f, fuel = f + 1 := ⟨fuel - 1, by omega⟩
    have hu := (hJ.2.2.2.2.2.2.1 i (by omega)).1
    show f_X8_gathers_146 fu k133 (loopN _ f) τ (nI c) sum (nI i) = _
    rw [f_X8_gathers_146, hQ.2.2.2, if_neg (fun z => by have := (q_le (by omega) (by omega)).mp z; omega), if_pos ((q_in (by omega)).mpr (by omega)), q_cl (by omega), hQ.2.2.1 i (by omega), if_pos ((q_in (by omega)).mpr (by omega)), q_cl (by omega), hF.1 _ hu, h0 i (by omega), if_pos (by decide), q_inc]
    exact ih (i + 1) f (by omega) (by omega)

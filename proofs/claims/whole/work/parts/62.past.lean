/-! the two pasts: a ring of seven memories, and six places that are shifted -/
def MEM (σ τ : RS) (q i B : Nat) : Prop := (∀ k, k < 36 → rg_B τ 3 (36 * i + k) = rg_B σ (9 + q) k) ∧ (∀ v, v < 12 → rg_A τ 9 (12 * i + v) = rg_A σ (15 + q) v ∧ bit (rg_A σ (15 + q) v)) ∧ rg_B τ 4 i = rg_L σ (2 + q) ∧ ∃ r, r ≤ B ∧ rg_A τ 10 i = nI r ∧ rg_I σ (21 + q) = nI r
def PM (σ τ : RS) (K P B : Nat) : Prop := K ≤ 6 ∧ P < 7 ∧ rg_I σ 12 = nI K ∧ rg_I τ 7 = nI K ∧ rg_I σ 11 = nI P ∧ ∀ i, i < K → MEM σ τ ((P + 7 - K + i) % 7) i B
theorem MEM_B {σ τ : RS} {q i B B' : Nat} (h : MEM σ τ q i B) (hB : B ≤ B') : MEM σ τ q i B' := by
  obtain ⟨a, b, c, r, h1, h2, h3⟩ := h
  exact ⟨a, b, c, r, by omega, h2, h3⟩
theorem PM_B {σ τ : RS} {K P B B' : Nat} (h : PM σ τ K P B) (hB : B ≤ B') : PM σ τ K P B' := ⟨h.1, h.2.1, h.2.2.1, h.2.2.2.1, h.2.2.2.2.1, fun i hi => MEM_B (h.2.2.2.2.2 i hi) hB⟩
def okPc (LI LL LA LB : List Nat) : Bool := decide (11 ∉ LI) && decide (12 ∉ LI) && LI.all (fun i => decide (i < 21 ∨ 28 ≤ i)) && LL.all (fun i => decide (i < 2 ∨ 9 ≤ i)) && LA.all (fun i => decide (i < 15 ∨ 22 ≤ i)) && LB.all (fun i => decide (i < 9 ∨ 16 ≤ i))
def okPr (LI LL LA LB : List Nat) : Bool := decide (7 ∉ LI) && decide (9 ∉ LA) && decide (10 ∉ LA) && decide (3 ∉ LB) && decide (4 ∉ LB)
theorem MEM_F {σ τ σ' τ' : RS} {q i B : Nat} {LI LL LA LB MI ML MA MB : List Nat} (h : MEM σ τ q i B) (hq : q < 7) (c : cF LI LL LA LB σ σ') (r : cF MI ML MA MB τ τ') (hc : (LI.all (fun i => decide (i < 21 ∨ 28 ≤ i)) && LL.all (fun i => decide (i < 2 ∨ 9 ≤ i)) && LA.all (fun i => decide (i < 15 ∨ 22 ≤ i)) && LB.all (fun i => decide (i < 9 ∨ 16 ≤ i))) = true) (hr : (decide (9 ∉ MA) && decide (10 ∉ MA) && decide (3 ∉ MB) && decide (4 ∉ MB)) = true) : MEM σ' τ' q i B := by
  simp only [Bool.and_eq_true, List.all_eq_true, decide_eq_true_eq] at hc hr
  obtain ⟨⟨⟨c1, c2⟩, c3⟩, c4⟩ := hc
  obtain ⟨⟨⟨r1, r2⟩, r3⟩, r4⟩ := hr
  unfold MEM at h ⊢
  rw [c.2.2.2 (9 + q) (fun z => by have := c4 _ z; omega), c.2.2.1 (15 + q) (fun z => by have := c3 _ z; omega), c.2.1 (2 + q) (fun z => by have := c2 _ z; omega), c.1 (21 + q) (fun z => by have := c1 _ z; omega), r.2.2.2 3 r3, r.2.2.1 9 r1, r.2.2.2 4 r4, r.2.2.1 10 r2]
  exact h
theorem PM_F {σ τ σ' τ' : RS} {K P B : Nat} {LI LL LA LB MI ML MA MB : List Nat} (h : PM σ τ K P B) (c : cF LI LL LA LB σ σ') (r : cF MI ML MA MB τ τ') (hc : okPc LI LL LA LB = true) (hr : okPr MI ML MA MB = true) : PM σ' τ' K P B := by
  unfold okPc okPr at *
  simp only [Bool.and_eq_true] at hc hr
  obtain ⟨⟨⟨⟨⟨c1, c2⟩, c3⟩, c4⟩, c5⟩, c6⟩ := hc
  obtain ⟨⟨⟨⟨r1, r2⟩, r3⟩, r4⟩, r5⟩ := hr
  obtain ⟨h1, h2, h3, h4, h5, h6⟩ := h
  refine ⟨h1, h2, (c.1 12 (of_decide_eq_true c2)).trans h3, (r.1 7 (of_decide_eq_true r1)).trans h4, (c.1 11 (of_decide_eq_true c1)).trans h5, fun i hi => MEM_F (h6 i hi) (Nat.mod_lt _ (by decide)) c r ?_ ?_⟩
  · simp only [Bool.and_eq_true]; exact ⟨⟨⟨c3, c4⟩, c5⟩, c6⟩
  · simp only [Bool.and_eq_true]; exact ⟨⟨⟨r2, r3⟩, r4⟩, r5⟩
/-- what the class has marked is what the reference remembers -/
def MK (σ τ : RS) (P ro : Nat) : Prop := (∀ k, k < 36 → rg_B τ 9 k = rg_B σ (9 + P) k) ∧ (∀ v, v < 12 → rg_A τ 17 v = rg_A σ (15 + P) v ∧ bit (rg_A σ (15 + P) v)) ∧ rg_I σ (21 + P) = nI ro
theorem pm_keep {σ τ : RS} {K P B ro : Nat} (h : PM σ τ K P B) (hm : MK σ τ P ro) (hro : ro ≤ B) : ∃ σ' τ' K', s_cX5_keepMark σ = some σ' ∧ s_rX12_keep τ (rg_L σ (2 + P)) (nI ro) = some τ' ∧ cF [11, 12] [] [] [] σ σ' ∧ cF [7] [] [9, 10] [3, 4] τ τ' ∧ PM σ' τ' K' ((P + 1) % 7) B := by
  obtain ⟨h1, h2, h3, h4, h5, h6⟩ := h
  obtain ⟨m1, m2, m3⟩ := hm
  obtain ⟨σ', s1, s2, s3, s4⟩ := c_keepM h1 h2 h3 h5
  have memF : ∀ (q i : Nat) (t : RS), q < 7 → MEM σ t q i B → MEM σ' t q i B := fun q i t hq hh => MEM_F hh hq s2 (cF_rf [] [] [] [] t) (by decide) (by decide)
  have newM : ∀ (t : RS) (i : Nat), (∀ k, k < 36 → rg_B t 3 (36 * i + k) = rg_B τ 9 k) → (∀ v, v < 12 → rg_A t 9 (12 * i + v) = rg_A τ 17 v) → rg_B t 4 i = rg_L σ (2 + P) → rg_A t 10 i = nI ro → MEM σ t P i B := by
    intro t i e1 e2 e3 e4
    refine ⟨fun k hk => (e1 k hk).trans (m1 k hk), fun v hv => ⟨(e2 v hv).trans (m2 v hv).1, (m2 v hv).2⟩, e3, ro, hro, e4, m3⟩
  unfold s_rX12_keep
  rw [h4]
  by_cases c : K < 6
  · rw [if_neg (fun z => by have := (nI_eq (by omega) (by decide)).mp (show nI K = nI 6 from z); omega)]
    obtain ⟨τ', t1, t2, t3, t4, t5, t6, t7, t8, t9, t10, t11⟩ := r_kwrite (x1 := rg_L σ (2 + P)) (x3 := nI ro) c h4 (fun v hv => by rw [(m2 v hv).1]; exact (m2 v hv).2)
    rw [if_pos c] at s4
    refine ⟨σ', τ', K + 1, s1, t1, s2, t2, by omega, Nat.mod_lt _ (by decide), s4, t3, s3, fun i hi => ?_⟩
    by_cases z : i = K
    · subst z
      rw [show ((P + 1) % 7 + 7 - (i + 1) + i) % 7 = P by omega]
      exact memF _ _ _ h2 (newM τ' i t4 t6 t8 t10)
    · rw [show ((P + 1) % 7 + 7 - (K + 1) + i) % 7 = (P + 7 - K + i) % 7 by omega]
      obtain ⟨p1, p2, p3, r, p4, p5, p6⟩ := h6 i (by omega)
      refine memF _ _ _ (Nat.mod_lt _ (by decide)) ⟨fun k hk => ?_, fun v hv => ?_, ?_, r, p4, ?_, p6⟩
      · rw [t5 _ (by omega)]; exact p1 k hk
      · rw [t7 _ (by omega)]; exact p2 v hv
      · rw [t9 _ z]; exact p3
      · rw [t11 _ z]; exact p5
  · have hK6 : K = 6 := by omega
    subst hK6
    rw [if_pos (by decide)]
    have hbits : ∀ v, v < 72 → bit (rg_A τ 9 v) := by
      intro v hv
      have := (h6 (v / 12) (by omega)).2.1 (v % 12) (by omega)
      rw [show 12 * (v / 12) + v % 12 = v by omega] at this
      rw [this.1]; exact this.2
    obtain ⟨τ1, a1, a2, a3, a4⟩ := r_shift (τ := τ) (x1 := rg_L σ (2 + P)) (x3 := nI ro) hbits
    rw [a1, s_rX12_keep_b149, kn_v, a2.1 7 (by decide), h4, show nI 6 - 1 = nI 5 from rfl]
    have d1 : cF [7] [] [] [] τ1 (rs_I τ1 7 (nI 5)) := cF_I _ _ _ (by decide)
    obtain ⟨τ', t1, t2, t3, t4, t5, t6, t7, t8, t9, t10, t11⟩ := r_kwrite (τ := rs_I τ1 7 (nI 5)) (x1 := rg_L σ (2 + P)) (x3 := nI ro) (K := 5) (by decide) rfl (fun v hv => by rw [d1.2.2.1 17 (by decide), a2.2.2.1 17 (by decide), (m2 v hv).1]; exact (m2 v hv).2)
    rw [if_neg c] at s4
    refine ⟨σ', τ', 6, s1, t1, s2, cF_tr (cF_mono a2 (by decide) (by decide) (by decide) (by decide)) (cF_tr (cF_mono d1 (by decide) (by decide) (by decide) (by decide)) t2), by omega, Nat.mod_lt _ (by decide), s4, t3, s3, fun i hi => ?_⟩
    by_cases z : i = 5
    · subst z
      rw [show ((P + 1) % 7 + 7 - 6 + 5) % 7 = P by omega]
      refine memF _ _ _ h2 (newM τ' 5 (fun k hk => ?_) (fun v hv => ?_) t8 t10)
      · rw [t4 k hk, d1.2.2.2 9 (by decide), a2.2.2.2 9 (by decide)]
      · rw [t6 v hv, d1.2.2.1 17 (by decide), a2.2.2.1 17 (by decide)]
    · rw [show ((P + 1) % 7 + 7 - 6 + i) % 7 = (P + 7 - 6 + (i + 1)) % 7 by omega]
      obtain ⟨p1, p2, p3, r, p4, p5, p6⟩ := h6 (i + 1) (by omega)
      obtain ⟨b1, b2, b3, b4⟩ := a3 i (by omega)
      refine memF _ _ _ (Nat.mod_lt _ (by decide)) ⟨fun k hk => ?_, fun v hv => ?_, ?_, r, p4, ?_, p6⟩
      · rw [t5 _ (by omega), d1.2.2.2 3 (by decide), b1 k hk]; exact p1 k hk
      · rw [t7 _ (by omega), d1.2.2.1 9 (by decide), b2 v hv]; exact p2 v hv
      · rw [t9 _ z, d1.2.2.2 4 (by decide), b3]; exact p3
      · rw [t11 _ z, d1.2.2.1 10 (by decide), b4]; exact p5

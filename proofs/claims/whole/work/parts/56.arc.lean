/-! frames by lists of the registers that may change; asking of an arc -/
def cF (LI LL LA LB : List Nat) (σ σ' : RS) : Prop := (∀ i, i ∉ LI → rg_I σ' i = rg_I σ i) ∧ (∀ i, i ∉ LL → rg_L σ' i = rg_L σ i) ∧ (∀ i, i ∉ LA → rg_A σ' i = rg_A σ i) ∧ (∀ i, i ∉ LB → rg_B σ' i = rg_B σ i)
theorem cF_rf (LI LL LA LB : List Nat) (σ : RS) : cF LI LL LA LB σ σ := ⟨fun _ _ => rfl, fun _ _ => rfl, fun _ _ => rfl, fun _ _ => rfl⟩
theorem cF_tr {LI LL LA LB : List Nat} {a b c : RS} (h : cF LI LL LA LB a b) (g : cF LI LL LA LB b c) : cF LI LL LA LB a c := ⟨fun i hi => (g.1 i hi).trans (h.1 i hi), fun i hi => (g.2.1 i hi).trans (h.2.1 i hi), fun i hi => (g.2.2.1 i hi).trans (h.2.2.1 i hi), fun i hi => (g.2.2.2 i hi).trans (h.2.2.2 i hi)⟩
theorem cF_mono {LI LL LA LB LI' LL' LA' LB' : List Nat} {a b : RS} (h : cF LI LL LA LB a b) (h1 : ∀ i ∈ LI, i ∈ LI') (h2 : ∀ i ∈ LL, i ∈ LL') (h3 : ∀ i ∈ LA, i ∈ LA') (h4 : ∀ i ∈ LB, i ∈ LB') : cF LI' LL' LA' LB' a b := ⟨fun i hi => h.1 i (fun q => hi (h1 i q)), fun i hi => h.2.1 i (fun q => hi (h2 i q)), fun i hi => h.2.2.1 i (fun q => hi (h3 i q)), fun i hi => h.2.2.2 i (fun q => hi (h4 i q))⟩
theorem cF_I {LI LL LA LB : List Nat} (σ : RS) (k : Nat) (v : Int32) (h : k ∈ LI) : cF LI LL LA LB σ (rs_I σ k v) := ⟨fun i hi => by rw [rg_II, if_neg (fun q : i = k => hi (by rw [q]; exact h))], fun _ _ => rfl, fun _ _ => rfl, fun _ _ => rfl⟩
theorem cF_L {LI LL LA LB : List Nat} (σ : RS) (k : Nat) (v : Int64) (h : k ∈ LL) : cF LI LL LA LB σ (rs_L σ k v) := ⟨fun _ _ => rfl, fun i hi => by rw [rg_LL, if_neg (fun q : i = k => hi (by rw [q]; exact h))], fun _ _ => rfl, fun _ _ => rfl⟩
theorem cF_A {LI LL LA LB : List Nat} (σ : RS) (k : Nat) (v : Nat → Int32) (h : k ∈ LA) : cF LI LL LA LB σ (rs_A σ k v) := ⟨fun _ _ => rfl, fun _ _ => rfl, fun i hi => by rw [rg_AA, if_neg (fun q : i = k => hi (by rw [q]; exact h))], fun _ _ => rfl⟩
theorem cF_B {LI LL LA LB : List Nat} (σ : RS) (k : Nat) (v : Nat → Int64) (h : k ∈ LB) : cF LI LL LA LB σ (rs_B σ k v) := ⟨fun _ _ => rfl, fun _ _ => rfl, fun _ _ => rfl, fun i hi => by rw [rg_BB, if_neg (fun q : i = k => hi (by rw [q]; exact h))]⟩
theorem cfr_F {σ σ' : RS} (h : cfr σ σ') : cF [6, 7, 8, 9, 10, 15, 16, 17] [] [] [] σ σ' := by
  refine ⟨fun i hi => ?_, fun i _ => h.2.1 i, fun i _ => h.2.2.1 i, fun i _ => h.2.2.2 i⟩
  simp only [List.mem_cons, List.not_mem_nil, or_false, not_or] at hi
  exact h.1 i hi.1 hi.2.1 hi.2.2.1 hi.2.2.2.1 hi.2.2.2.2.1 hi.2.2.2.2.2.1 hi.2.2.2.2.2.2.1 hi.2.2.2.2.2.2.2
theorem rfr_F {τ τ' : RS} (h : rfr τ τ') : cF [5, 9, 10, 11, 12, 13] [1] [8, 12, 13] [6] τ τ' := by
  refine ⟨fun i hi => ?_, fun i hi => ?_, fun i hi => ?_, fun i hi => ?_⟩
  · simp only [List.mem_cons, List.not_mem_nil, or_false, not_or] at hi
    exact h.1 i hi.1 hi.2.1 hi.2.2.1 hi.2.2.2.1 hi.2.2.2.2.1 hi.2.2.2.2.2
  · exact h.2.1 i (by simpa using hi)
  · simp only [List.mem_cons, List.not_mem_nil, or_false, not_or] at hi
    exact h.2.2.1 i hi.1 hi.2.1 hi.2.2
  · exact h.2.2.2 i (by simpa using hi)
def okC (LI LL LA LB : List Nat) : Bool := [0, 1, 2, 3, 4, 5].all (fun i => decide (i ∉ LI)) && [0].all (fun i => decide (i ∉ LL)) && [0, 1, 2, 3, 4, 5, 6, 7, 8].all (fun i => decide (i ∉ LA)) && [0, 1, 2].all (fun i => decide (i ∉ LB))
def okR (LI LL LA LB : List Nat) : Bool := [0, 1, 2, 3, 4, 6].all (fun i => decide (i ∉ LI)) && [0].all (fun i => decide (i ∉ LL)) && [0, 1, 2, 3, 4, 5, 6, 7].all (fun i => decide (i ∉ LA)) && [0, 1, 2].all (fun i => decide (i ∉ LB))
theorem RC_F {σ τ σ' τ' : RS} {T N E ro : Nat} {LI LL LA LB MI ML MA MB : List Nat} (h : RC σ τ T N E ro) (c : cF LI LL LA LB σ σ') (r : cF MI ML MA MB τ τ') (hc : okC LI LL LA LB = true) (hr : okR MI ML MA MB = true) (e : rg_I τ' 5 = rg_I σ' 17) : RC σ' τ' T N E ro := by
  simp only [okC, okR, Bool.and_eq_true, List.all_eq_true, decide_eq_true_eq] at hc hr
  obtain ⟨⟨⟨c1, c2⟩, c3⟩, c4⟩ := hc
  obtain ⟨⟨⟨r1, r2⟩, r3⟩, r4⟩ := hr
  unfold RC WT at h ⊢
  rw [c.2.2.1 0 (c3 0 (by decide)), c.2.2.1 1 (c3 1 (by decide)), c.2.2.1 2 (c3 2 (by decide)), c.2.2.1 3 (c3 3 (by decide)), c.2.2.1 4 (c3 4 (by decide)), c.2.2.1 5 (c3 5 (by decide)), c.2.2.1 6 (c3 6 (by decide)), c.2.2.1 7 (c3 7 (by decide)), c.2.2.1 8 (c3 8 (by decide)),
    c.2.2.2 0 (c4 0 (by decide)), c.2.2.2 1 (c4 1 (by decide)), c.2.2.2 2 (c4 2 (by decide)), c.2.1 0 (c2 0 (by decide)), c.1 0 (c1 0 (by decide)), c.1 1 (c1 1 (by decide)), c.1 2 (c1 2 (by decide)), c.1 3 (c1 3 (by decide)), c.1 4 (c1 4 (by decide)), c.1 5 (c1 5 (by decide)),
    r.1 0 (r1 0 (by decide)), r.1 1 (r1 1 (by decide)), r.1 2 (r1 2 (by decide)), r.1 3 (r1 3 (by decide)), r.1 4 (r1 4 (by decide)), r.1 6 (r1 6 (by decide)), r.2.2.1 0 (r3 0 (by decide)), r.2.2.1 1 (r3 1 (by decide)), r.2.2.1 2 (r3 2 (by decide)), r.2.2.1 3 (r3 3 (by decide)), r.2.2.1 4 (r3 4 (by decide)), r.2.2.1 5 (r3 5 (by decide)), r.2.2.1 6 (r3 6 (by decide)), r.2.2.1 7 (r3 7 (by decide)),
    r.2.2.2 0 (r4 0 (by decide)), r.2.2.2 1 (r4 1 (by decide)), r.2.2.2 2 (r4 2 (by decide)), r.2.1 0 (r2 0 (by decide))]
  exact ⟨h.1, h.2.1, h.2.2.1, h.2.2.2.1, h.2.2.2.2.1, ⟨e, h.2.2.2.2.2.1.2⟩, h.2.2.2.2.2.2⟩
theorem EC_F {σ τ σ' τ' : RS} {sp : Nat} {LI LL LA LB MI ML MA MB : List Nat} (h : EC σ τ sp) (c : cF LI LL LA LB σ σ') (r : cF MI ML MA MB τ τ') (h1 : (decide (14 ∉ LI ∧ 15 ∉ LI ∧ 16 ∉ LI ∧ 1 ∉ LL)) = true) (h2 : (decide (11 ∉ MI ∧ 14 ∉ MI ∧ 2 ∉ ML)) = true) : EC σ' τ' sp := by
  have q1 := of_decide_eq_true h1
  have q2 := of_decide_eq_true h2
  obtain ⟨a1, a2, a3, a4, a5, a6⟩ := h
  exact ⟨a1, (c.1 15 q1.2.1).trans a2, (r.1 11 q2.1).trans a3, (c.1 16 q1.2.2.1).trans a4, by rw [r.2.1 2 q2.2.2, c.2.1 1 q1.2.2.2]; exact a5, by rw [r.1 14 q2.2.1, c.1 14 q1.1]; exact a6⟩
theorem FL0_F {σ τ σ' τ' : RS} {LI LL LA LB MI ML MA MB : List Nat} (h : FL0 σ τ) (c : cF LI LL LA LB σ σ') (r : cF MI ML MA MB τ τ') (h1 : (decide (6 ∉ LI)) = true) (h2 : (decide (8 ∉ MA)) = true) : FL0 σ' τ' := by
  have q1 := of_decide_eq_true h1
  have q2 := of_decide_eq_true h2
  unfold FL0 at h ⊢
  rw [c.1 6 q1, r.2.2.1 8 q2]; exact h
theorem FL1_F {σ τ σ' τ' : RS} {LI LL LA LB MI ML MA MB : List Nat} (h : FL1 σ τ) (c : cF LI LL LA LB σ σ') (r : cF MI ML MA MB τ τ') (h1 : (decide (6 ∉ LI ∧ 7 ∉ LI ∧ 8 ∉ LI ∧ 9 ∉ LI ∧ 10 ∉ LI)) = true) (h2 : (decide (8 ∉ MA)) = true) : FL1 σ' τ' := by
  have q1 := of_decide_eq_true h1
  have q2 := of_decide_eq_true h2
  unfold FL1 at h ⊢
  rw [c.1 6 q1.1, c.1 7 q1.2.1, c.1 8 q1.2.2.1, c.1 9 q1.2.2.2.1, c.1 10 q1.2.2.2.2, r.2.2.1 8 q2]; exact h
abbrev cE : RS → RS → Prop := cF [6, 7, 8, 9, 10, 15, 16, 17] [] [] []
abbrev rE : RS → RS → Prop := cF [5, 9, 10, 11, 12, 13, 16] [1, 3] [8, 12, 13] [6]
theorem rfr_E {τ τ' : RS} (h : rfr τ τ') : rE τ τ' := cF_mono (rfr_F h) (by decide) (by decide) (by decide) (by decide)
theorem nI_ne1 {t : Nat} (h : t < 2 ^ 31) : ¬ nI t = -1 := fun z => by
  have := nI_toInt h
  rw [z] at this
  have e1 : (-1 : Int32).toInt = -1 := rfl
  omega
/-- SEND and MESSAGE of an arc, by both -/
theorem arc_sim {σ τ : RS} {T N E ro nd sp e : Nat} (h : RC σ τ T N E ro) (hc : EC σ τ sp) (hf : FL0 σ τ) (he : e < E) (hnd : nd < N) (hfr : rg_A σ 6 e = nI nd) :
    ∃ (v : Int64) (σ1 τ' : RS), s_cX0_comesTo σ 0 (nI nd) (nI e) 1 = some (v, σ1) ∧ s_rX12_askArc τ (nI e) = some τ' ∧ cE σ σ1 ∧ rE τ τ' ∧
      ((v = 0 ∧ RC σ1 τ' T N E ro ∧ rg_I τ' 16 = 0 ∧ ((∃ sp', EC σ1 τ' sp' ∧ FL0 σ1 τ') ∨ FL1 σ1 τ')) ∨
       (v ≠ 0 ∧ ∃ (m : Int64) (σ2 : RS), s_cX0_comesTo σ1 1 (nI nd) (nI e) 1 = some (m, σ2) ∧ cE σ σ2 ∧ RC σ2 τ' T N E ro ∧ ((rg_I τ' 16 = 1 ∧ rg_L τ' 3 = m ∧ ∃ sp', EC σ2 τ' sp' ∧ FL0 σ2 τ') ∨ (rg_I τ' 16 = 0 ∧ FL1 σ2 τ')))) := by
  have hE : E ≤ 40 := h.1.2.2.1
  -- MESSAGE, from registers where SEND has been asked
  have msg : ∀ (σ1 τ1 : RS) (sp1 : Nat), RC σ1 τ1 T N E ro → EC σ1 τ1 sp1 → FL0 σ1 τ1 → cE σ σ1 → rE τ τ1 → rg_I τ1 16 = 0 →
      ∃ (m : Int64) (σ2 τ' : RS), s_rX12_askArc_b40 τ1 (nI e) = some τ' ∧ rE τ τ' ∧ s_cX0_comesTo σ1 1 (nI nd) (nI e) 1 = some (m, σ2) ∧ cE σ σ2 ∧ RC σ2 τ' T N E ro ∧ ((rg_I τ' 16 = 1 ∧ rg_L τ' 3 = m ∧ ∃ sp', EC σ2 τ' sp' ∧ FL0 σ2 τ') ∨ (rg_I τ' 16 = 0 ∧ FL1 σ2 τ')) := by
    intro σ1 τ1 sp1 h1 c1 f1 k1 r1 s16
    have w1 := h1.2.2.2.2.2.2.2.2.1 1 (by decide)
    have a7 : rg_A τ1 7 = rg_A σ1 8 := h1.2.2.2.2.1.2.2.2.2.2.1
    have a5 : rg_A τ1 5 = rg_A σ1 6 := h1.2.2.2.2.1.2.2.1
    have fr1 : rg_A σ1 6 e = nI nd := by rw [k1.2.2.1 6 (by decide)]; exact hfr
    unfold s_rX12_askArc_b40 s_rX12_askArc_b79
    simp only [kn_v]
    rw [show rg_A (rs_L τ1 3 1) 7 = rg_A τ1 7 from rfl, show rg_A (rs_L τ1 3 1) 5 = rg_A τ1 5 from rfl, ld_x 1 1 rfl (by decide) (by decide), ld_n (show e < 40 by omega) (by decide), a7, a5, fr1]
    have rl : rE τ1 (rs_L τ1 3 1) := cF_L _ _ _ (by decide)
    rcases w1 with w1 | ⟨t, ht, w1⟩
    · rw [if_pos w1]
      have hcm : s_cX0_comesTo σ1 1 (nI nd) (nI e) 1 = some (1, σ1) := by
        unfold s_cX0_comesTo
        rw [ld_x 1 1 rfl (by decide) (by decide), if_pos w1]
      have r2 : rE τ1 (rs_I (rs_L τ1 3 1) 16 1) := cF_tr rl (cF_I _ _ _ (by decide))
      refine ⟨1, σ1, _, rfl, cF_tr r1 r2, hcm, k1, RC_F h1 (cF_rf [] [] [] [] σ1) r2 (by decide) (by decide) h1.2.2.2.2.2.1.1, Or.inl ⟨rfl, rfl, sp1, ?_, ?_⟩⟩
      · exact EC_F c1 (cF_rf [] [] [] [] σ1) (cF_tr (cF_L (LI := [16]) (LL := [3]) (LA := []) (LB := []) τ1 3 1 (by decide)) (cF_I _ 16 1 (by decide))) (by decide) (by decide)
      · exact FL0_F f1 (cF_rf [] [] [] [] σ1) (cF_tr (cF_L (LI := [16]) (LL := [3]) (LA := []) (LB := []) τ1 3 1 (by decide)) (cF_I _ 16 1 (by decide))) (by decide) (by decide)
    · have ht40 : t < 2 ^ 31 := by have := h1.1.1; omega
      rw [if_neg (by rw [w1]; exact nI_ne1 ht40)]
      have rl' : cF [] [3] [] [] τ1 (rs_L τ1 3 1) := cF_L _ _ _ (by decide)
      have h1' : RC σ1 (rs_L τ1 3 1) T N E ro := RC_F h1 (cF_rf [] [] [] [] σ1) rl' (by decide) (by decide) h1.2.2.2.2.2.1.1
      obtain ⟨m, b, σ2, τ2, sp2, g1, g2, g3, g4, g5, g6, g7⟩ := do_sim (a := 1) (ar := nI e) 1 h1' (EC_F c1 (cF_rf [] [] [] [] σ1) rl' (by decide) (by decide)) (FL0_F f1 (cF_rf [] [] [] [] σ1) rl' (by decide) (by decide)) hnd (Or.inr ⟨e, he, rfl⟩) (by decide) ht w1
      rw [show (1 : Int32) = nI 1 from rfl, g2, kn_i_some]
      have re2 : rE τ τ2 := cF_tr r1 (cF_tr rl (rfr_E g4))
      rcases g7 with ⟨rfl, gc, gf, gv⟩ | ⟨rfl, gv, gf⟩
      · rw [if_neg (by decide)]
        have r3 : cF [16] [3] [] [] τ2 (rs_I (rs_L τ2 3 (rg_L τ2 1)) 16 (nI 1)) := cF_tr (cF_L _ _ _ (by decide)) (cF_I _ _ _ (by decide))
        refine ⟨m, σ2, _, rfl, cF_tr re2 (cF_mono r3 (by decide) (by decide) (by decide) (by decide)), g1, cF_tr k1 (cfr_F g3), RC_F g5 (cF_rf [] [] [] [] σ2) r3 (by decide) (by decide) g5.2.2.2.2.2.1.1, Or.inl ⟨rfl, ?_, sp2, EC_F gc (cF_rf [] [] [] [] σ2) r3 (by decide) (by decide), FL0_F gf (cF_rf [] [] [] [] σ2) r3 (by decide) (by decide)⟩⟩
        exact gv
      · rw [if_pos rfl]
        refine ⟨m, σ2, τ2, rfl, re2, g1, cF_tr k1 (cfr_F g3), g5, Or.inr ⟨?_, gf⟩⟩
        rw [g4.1 16 (by decide) (by decide) (by decide) (by decide) (by decide) (by decide)]
        exact s16
  have w0 := h.2.2.2.2.2.2.2.2.1 0 (by decide)
  have a7 : rg_A τ 7 = rg_A σ 8 := h.2.2.2.2.1.2.2.2.2.2.1
  have a5 : rg_A τ 5 = rg_A σ 6 := h.2.2.2.2.1.2.2.1
  have r0 : cF [16] [] [] [] τ (rs_I τ 16 0) := cF_I _ _ _ (by decide)
  have h0 : RC σ (rs_I τ 16 0) T N E ro := RC_F h (cF_rf [] [] [] [] σ) r0 (by decide) (by decide) h.2.2.2.2.2.1.1
  have c0 := EC_F hc (cF_rf [] [] [] [] σ) r0 (by decide) (by decide)
  have f0 := FL0_F hf (cF_rf [] [] [] [] σ) r0 (by decide) (by decide)
  have re0 : rE τ (rs_I τ 16 0) := cF_mono r0 (by decide) (by decide) (by decide) (by decide)
  unfold s_rX12_askArc
  simp only [kn_v]
  rw [show rg_A (rs_I τ 16 0) 7 = rg_A τ 7 from rfl, show rg_A (rs_I τ 16 0) 5 = rg_A τ 5 from rfl, ld_x 0 0 rfl (by decide) (by decide), ld_n (show e < 40 by omega) (by decide), a7, a5, hfr]
  rcases w0 with w0 | ⟨t, ht, w0⟩
  · rw [if_pos w0]
    have hcm : s_cX0_comesTo σ 0 (nI nd) (nI e) 1 = some (1, σ) := by
      unfold s_cX0_comesTo
      rw [ld_x 0 0 rfl (by decide) (by decide), if_pos w0]
    obtain ⟨m, σ2, τ', m1, m2, m3, m4, m5, m6⟩ := msg σ (rs_I τ 16 0) sp h0 c0 f0 (cF_rf _ _ _ _ σ) re0 rfl
    exact ⟨1, σ, τ', hcm, m1, cF_rf _ _ _ _ σ, m2, Or.inr ⟨by decide, m, σ2, m3, m4, m5, m6⟩⟩
  · have ht40 : t < 2 ^ 31 := by have := h.1.1; omega
    rw [if_neg (by rw [w0]; exact nI_ne1 ht40)]
    obtain ⟨v, b, σ1, τ1, sp1, g1, g2, g3, g4, g5, g6, g7⟩ := do_sim (a := 0) (ar := nI e) 1 h0 c0 f0 hnd (Or.inr ⟨e, he, rfl⟩) (by decide) ht w0
    have s16 : rg_I τ1 16 = 0 := g4.1 16 (by decide) (by decide) (by decide) (by decide) (by decide) (by decide)
    have re1 : rE τ τ1 := cF_tr re0 (rfr_E g4)
    rw [show nI 0 = (0 : Int32) from rfl] at g1 g2
    rw [g2, kn_i_some]
    rcases g7 with ⟨rfl, gc, gf, gv⟩ | ⟨rfl, gv, gf⟩
    · rw [if_neg (by decide), gv]
      by_cases cv : v = 0
      · rw [if_pos cv]
        exact ⟨v, σ1, τ1, g1, rfl, cfr_F g3, re1, Or.inl ⟨cv, g5, s16, Or.inl ⟨sp1, gc, gf⟩⟩⟩
      · rw [if_neg cv]
        obtain ⟨m, σ2, τ', m1, m2, m3, m4, m5, m6⟩ := msg σ1 τ1 sp1 g5 gc gf (cfr_F g3) re1 s16
        exact ⟨v, σ1, τ', g1, m1, cfr_F g3, m2, Or.inr ⟨cv, m, σ2, m3, m4, m5, m6⟩⟩
    · rw [if_pos rfl]
      exact ⟨v, σ1, τ1, g1, rfl, cfr_F g3, re1, Or.inl ⟨gv, g5, s16, Or.inr gf⟩⟩

/-! the relation between the class's registers and the reference's, and an act that both ask -/
def WFw (N E : Nat) (fr to : Nat → Int32) : Prop := ∀ e, e < E → (∃ a, a < N ∧ fr e = nI a) ∧ (∃ b, b < N ∧ to e = nI b)
def RC (σ τ : RS) (T N E ro : Nat) : Prop := (T ≤ 40 ∧ N ≤ 12 ∧ E ≤ 40 ∧ ro < 1000000) ∧ WT σ T ∧ (rg_I σ 1 = nI T ∧ rg_I τ 0 = nI T ∧ rg_I σ 2 = nI N ∧ rg_I τ 1 = nI N ∧ rg_I σ 3 = nI E ∧ rg_I τ 2 = nI E ∧ rg_I σ 4 = nI ro ∧ rg_I τ 4 = nI ro) ∧ (rg_A τ 0 = rg_A σ 0 ∧ rg_A τ 1 = rg_A σ 1 ∧ rg_A τ 2 = rg_A σ 2 ∧ rg_A τ 3 = rg_A σ 3 ∧ rg_B τ 0 = rg_B σ 0) ∧ (rg_B τ 1 = rg_B σ 1 ∧ rg_A τ 4 = rg_A σ 4 ∧ rg_A τ 5 = rg_A σ 6 ∧ rg_A τ 6 = rg_A σ 7 ∧ rg_B τ 2 = rg_B σ 2 ∧ rg_A τ 7 = rg_A σ 8 ∧ rg_I τ 3 = rg_I σ 5 ∧ rg_L τ 0 = rg_L σ 0) ∧ (rg_I τ 5 = rg_I σ 17 ∧ rg_I τ 6 = rg_I σ 0) ∧ (∀ v, v < 12 → rg_A σ 5 v = nI (cnt (rg_A σ 6) (nI v) E)) ∧ WFw N E (rg_A σ 6) (rg_A σ 7) ∧ (∀ a, a < 7 → rg_A σ 8 a = -1 ∨ ∃ t, t < T ∧ rg_A σ 8 a = nI t) ∧ (∃ f, f ≤ 3 ∧ rg_I σ 5 = nI f) ∧ (∀ v, v < 12 → rg_A σ 4 v = 0 ∨ rg_A σ 4 v = 1)
/-- what an asking leaves as it was: of the class, of the reference -/
def cfr (σ σ' : RS) : Prop := (∀ i, i ≠ 6 → i ≠ 7 → i ≠ 8 → i ≠ 9 → i ≠ 10 → i ≠ 15 → i ≠ 16 → i ≠ 17 → rg_I σ' i = rg_I σ i) ∧ (∀ i, rg_L σ' i = rg_L σ i) ∧ (∀ i, rg_A σ' i = rg_A σ i) ∧ (∀ i, rg_B σ' i = rg_B σ i)
def rfr (τ τ' : RS) : Prop := (∀ i, i ≠ 5 → i ≠ 9 → i ≠ 10 → i ≠ 11 → i ≠ 12 → i ≠ 13 → rg_I τ' i = rg_I τ i) ∧ (∀ i, i ≠ 1 → rg_L τ' i = rg_L τ i) ∧ (∀ i, i ≠ 8 → i ≠ 12 → i ≠ 13 → rg_A τ' i = rg_A τ i) ∧ (∀ i, i ≠ 6 → rg_B τ' i = rg_B τ i)
theorem cfr_rf (σ : RS) : cfr σ σ := ⟨fun _ _ _ _ _ _ _ _ _ => rfl, fun _ => rfl, fun _ => rfl, fun _ => rfl⟩
theorem rfr_rf (τ : RS) : rfr τ τ := ⟨fun _ _ _ _ _ _ _ => rfl, fun _ _ => rfl, fun _ _ _ _ => rfl, fun _ _ => rfl⟩
theorem cfr_tr {a b c : RS} (h : cfr a b) (g : cfr b c) : cfr a c := ⟨fun i h1 h2 h3 h4 h5 h6 h7 h8 => (g.1 i h1 h2 h3 h4 h5 h6 h7 h8).trans (h.1 i h1 h2 h3 h4 h5 h6 h7 h8), fun i => (g.2.1 i).trans (h.2.1 i), fun i => (g.2.2.1 i).trans (h.2.2.1 i), fun i => (g.2.2.2 i).trans (h.2.2.2 i)⟩
theorem rfr_tr {a b c : RS} (h : rfr a b) (g : rfr b c) : rfr a c := ⟨fun i h1 h2 h3 h4 h5 h6 => (g.1 i h1 h2 h3 h4 h5 h6).trans (h.1 i h1 h2 h3 h4 h5 h6), fun i h1 => (g.2.1 i h1).trans (h.2.1 i h1), fun i h1 h2 h3 => (g.2.2.1 i h1 h2 h3).trans (h.2.2.1 i h1 h2 h3), fun i h1 => (g.2.2.2 i h1).trans (h.2.2.2 i h1)⟩
theorem cfr_I {σ σ' : RS} (h : cfr σ σ') (i : Nat) (hi : (decide (i ≠ 6 ∧ i ≠ 7 ∧ i ≠ 8 ∧ i ≠ 9 ∧ i ≠ 10 ∧ i ≠ 15 ∧ i ≠ 16 ∧ i ≠ 17)) = true) : rg_I σ' i = rg_I σ i := by
  have q := of_decide_eq_true hi
  exact h.1 i q.1 q.2.1 q.2.2.1 q.2.2.2.1 q.2.2.2.2.1 q.2.2.2.2.2.1 q.2.2.2.2.2.2.1 q.2.2.2.2.2.2.2
theorem rfr_I {τ τ' : RS} (h : rfr τ τ') (i : Nat) (hi : (decide (i ≠ 5 ∧ i ≠ 9 ∧ i ≠ 10 ∧ i ≠ 11 ∧ i ≠ 12 ∧ i ≠ 13)) = true) : rg_I τ' i = rg_I τ i := by
  have q := of_decide_eq_true hi
  exact h.1 i q.1 q.2.1 q.2.2.1 q.2.2.2.1 q.2.2.2.2.1 q.2.2.2.2.2
theorem rfr_A {τ τ' : RS} (h : rfr τ τ') (i : Nat) (hi : (decide (i ≠ 8 ∧ i ≠ 12 ∧ i ≠ 13)) = true) : rg_A τ' i = rg_A τ i := by
  have q := of_decide_eq_true hi
  exact h.2.2.1 i q.1 q.2.1 q.2.2
theorem RC_mv {σ τ σ' τ' : RS} {T N E ro : Nat} (h : RC σ τ T N E ro) (c : cfr σ σ') (r : rfr τ τ') (e : rg_I τ' 5 = rg_I σ' 17) : RC σ' τ' T N E ro := by
  unfold RC WT at h ⊢
  rw [c.2.2.1 0, c.2.2.1 1, c.2.2.1 2, c.2.2.1 3, c.2.2.1 4, c.2.2.1 5, c.2.2.1 6, c.2.2.1 7, c.2.2.1 8, c.2.2.2 0, c.2.2.2 1, c.2.2.2 2, c.2.1 0, cfr_I c 0 rfl, cfr_I c 1 rfl, cfr_I c 2 rfl, cfr_I c 3 rfl, cfr_I c 4 rfl, cfr_I c 5 rfl,
    rfr_I r 0 rfl, rfr_I r 1 rfl, rfr_I r 2 rfl, rfr_I r 3 rfl, rfr_I r 4 rfl, rfr_I r 6 rfl, rfr_A r 0 rfl, rfr_A r 1 rfl, rfr_A r 2 rfl, rfr_A r 3 rfl, rfr_A r 4 rfl, rfr_A r 5 rfl, rfr_A r 6 rfl, rfr_A r 7 rfl, r.2.2.2 0 (by decide), r.2.2.2 1 (by decide), r.2.2.2 2 (by decide), r.2.1 0 (by decide)]
  exact ⟨h.1, h.2.1, h.2.2.1, h.2.2.2.1, h.2.2.2.2.1, ⟨e, h.2.2.2.2.2.1.2⟩, h.2.2.2.2.2.2⟩
/-- what both see while they ask: steps spent, what is folded -/
def EC (σ τ : RS) (sp : Nat) : Prop := sp ≤ 3000 ∧ rg_I σ 15 = nI sp ∧ rg_I τ 11 = nI sp ∧ rg_I σ 16 = 0 ∧ rg_L τ 2 = rg_L σ 1 ∧ rg_I τ 14 = rg_I σ 14
def FL0 (σ τ : RS) : Prop := rg_I σ 6 = 0 ∧ rg_A τ 8 0 = 0 ∧ rg_A τ 8 1 = -1 ∧ rg_A τ 8 2 = -1 ∧ rg_A τ 8 3 = -1 ∧ rg_A τ 8 4 = -1
def FL1 (σ τ : RS) : Prop := rg_I σ 6 ≠ 0 ∧ rg_A τ 8 0 = rg_I σ 6 ∧ rg_A τ 8 1 = rg_I σ 7 ∧ rg_A τ 8 2 = rg_I σ 8 ∧ rg_A τ 8 3 = rg_I σ 9 ∧ rg_A τ 8 4 = rg_I σ 10
theorem c_keep (σ : RS) (a b c d e : Int32) : s_cX2_keep σ a b c d e = some (rs_I (rs_I (rs_I (rs_I (rs_I σ 6 a) 7 b) 8 c) 9 d) 10 e) := rfl
theorem st_0 {β : Type} {σ : RS} {n : Nat} {k : RS → Option β} (h : 0 < n) (hn : n < 2 ^ 31) : kn_st σ n 0 k = k σ := st_n (j := 0) h hn
theorem r_note (τ : RS) (f a n e : Int32) : ∃ τ', s_rX12_note τ f a n e = some τ' ∧ (∀ i, rg_I τ' i = rg_I τ i) ∧ (∀ i, rg_L τ' i = rg_L τ i) ∧ (∀ i, i ≠ 8 → rg_A τ' i = rg_A τ i) ∧ (∀ i, rg_B τ' i = rg_B τ i) ∧ rg_A τ' 8 0 = f ∧ rg_A τ' 8 1 = a ∧ rg_A τ' 8 2 = n ∧ rg_A τ' 8 3 = e ∧ rg_A τ' 8 4 = rg_I τ 4 + 1 := by
  unfold s_rX12_note
  refine ⟨_, (st_n (j := 0) (by decide) (by decide)).trans ((st_n (j := 1) (by decide) (by decide)).trans ((st_n (j := 2) (by decide) (by decide)).trans ((st_n (j := 3) (by decide) (by decide)).trans (st_n (j := 4) (by decide) (by decide))))), fun _ => rfl, fun _ => rfl, fun i hi => ?_, fun _ => rfl, rfl, rfl, rfl, rfl, rfl⟩
  simp [rg_AA, hi]
theorem ld_x {α β : Type} {f : Nat → α} {n : Nat} {k : α → Option β} (x : Int32) (j : Nat) (hx : x = nI j) (h : j < n) (hn : n < 2 ^ 31) : kn_ld f n x k = k (f j) := by rw [hx]; exact ld_n h hn
theorem st_x {β : Type} {σ : RS} {n : Nat} {k : RS → Option β} (x : Int32) (j : Nat) (hx : x = nI j) (h : j < n) (hn : n < 2 ^ 31) : kn_st σ n x k = k σ := by rw [hx]; exact st_n h hn
/-- what fails in a term, told of the class: the number of the failure is none of 0 -/
theorem e_ar_of {E : Nat} {ar : Int32} (hE : E ≤ 40) (h : ar = -1 ∨ ∃ e, e < E ∧ ar = nI e) : e_ar ar := by
  rcases h with h | ⟨e, he, h⟩
  · exact Or.inl h
  · exact Or.inr ⟨e, by omega, h⟩
theorem RC_EE {σ τ : RS} {T N E ro nd sp : Nat} {ar : Int32} (h : RC σ τ T N E ro) (hc : EC σ τ sp) (hnd : nd < N) : EE σ (rs_I (rs_I τ 12 (nI nd)) 13 ar) nd E ro ar := by
  obtain ⟨⟨hT, hN, hE, hro⟩, hW, ⟨s1, t0, s2, t1, s3, t2, s4, t4⟩, ⟨a0, a1, a2, a3, b0⟩, ⟨b1, a4, a5, a6, b2, a7, i3, l0⟩, ⟨i5, i6⟩, dg, wf, wa, wo, wb⟩ := h
  obtain ⟨hsp, c15, r11, c16, lf, im⟩ := hc
  refine ⟨a0, a1, a2, a3, b0, b1, b2, lf, im, t4, s4, hro, l0, rfl, rfl, t2, ?_⟩
  show rg_A σ 5 nd = nI (cnt (rg_A τ 5) (nI nd) E)
  rw [a5]; exact dg nd (by omega)
theorem cst_cfr (σ : RS) (sp : Nat) (al f : Int32) : cfr σ (cst σ sp al f) := ⟨fun i _ _ _ _ _ h15 h16 h17 => cst_I σ sp al f h15 h16 h17, fun _ => rfl, fun _ => rfl, fun _ => rfl⟩
theorem mfr_rfr {τ τ' : RS} {k : Nat} {a b : Int32} (m : mfr k (rs_I (rs_I τ 12 a) 13 b) τ') : rfr τ τ' := by
  obtain ⟨m1, m2, m3, m4, -⟩ := m
  refine ⟨fun i h5 h9 h10 h11 h12 h13 => ?_, m2, fun i h8 h12 h13 => m3 i h12 h13, m4⟩
  rw [m1 i h5 h9 h10 h11, rg_II, rg_II, if_neg h13, if_neg h12]
/-- an act that there is: asked by both -/
theorem do_sim {σ τ : RS} {T N E ro nd sp a t : Nat} {ar : Int32} (w : Int64) (h : RC σ τ T N E ro) (hc : EC σ τ sp) (hf : FL0 σ τ) (hnd : nd < N) (har : ar = -1 ∨ ∃ e, e < E ∧ ar = nI e) (ha : a < 7) (ht : t < T) (hat : rg_A σ 8 a = nI t) :
    ∃ (v : Int64) (b : Int32) (σ' τ' : RS) (sp' : Nat), s_cX0_comesTo σ (nI a) (nI nd) ar w = some (v, σ') ∧ s_rX12_does τ (nI a) (nI nd) ar = some (b, τ') ∧ cfr σ σ' ∧ rfr τ τ' ∧ RC σ' τ' T N E ro ∧ sp' ≤ 3000 ∧
      ((b = 1 ∧ EC σ' τ' sp' ∧ FL0 σ' τ' ∧ rg_L τ' 1 = v) ∨ (b = 0 ∧ v = 0 ∧ FL1 σ' τ')) := by
  have h' := h
  obtain ⟨⟨hT, hN, hE, hro⟩, hW, ⟨s1, t0, s2, t1, s3, t2, s4, t4⟩, ⟨a0, a1, a2, a3, b0⟩, ⟨b1, a4, a5, a6, b2, a7, i3, l0⟩, ⟨i5, i6⟩, dg, wf, wa, wo, wb⟩ := h'
  have hc' := hc
  obtain ⟨hsp, c15, r11, c16, lf, im⟩ := hc'
  have hva := cv_ev hT hW (show nd < 12 by omega) (e_ar_of hE har) 41 t 0 sp (rg_I σ 17) ht (by omega) (by omega) hsp
  rw [cst_self c15 rfl c16, show nI 0 = (0 : Int32) from rfl] at hva
  obtain ⟨τ1, q1, q2, q3, q4, q5⟩ := r_asked hT hW (show nd < 12 by omega) (e_ar_of hE har) hE ht hsp r11 (RC_EE h hc hnd)
  have hs := ev_sp 41 t sp (σ := σ) (nd := nd) (ar := ar) hsp
  have hv := ev_v 41 t sp (σ := σ) (nd := nd) (ar := ar)
  generalize ev σ nd ar 41 t sp = V at hva q1 q3 q4 q5 hs hv
  obtain ⟨v, f, s'⟩ := V
  dsimp only at hva q1 q3 q4 q5 hs hv
  have hr1 : rfr τ τ1 := mfr_rfr q2
  have h8 : rg_A τ1 8 = rg_A τ 8 := q2.2.2.1 8 (by decide) (by decide)
  unfold s_cX0_comesTo s_rX12_does
  rw [ld_n ha (by decide), a7, ld_n ha (by decide), hat, if_neg (show ¬ nI t = -1 from fun z => by have := nI_toInt (show t < 2 ^ 31 by omega); rw [z] at this; exact absurd this (by have e1 : (-1 : Int32).toInt = -1 := rfl; omega)), hva, kn_l_some, q1, kn_i_some, cst_I16]
  have hc1 : cfr σ (cst σ s' (rg_I σ 17 + nI (s' - sp)) f) := cst_cfr _ _ _ _
  have e17 : rg_I τ1 5 = rg_I (cst σ s' (rg_I σ 17 + nI (s' - sp)) f) 17 := by rw [q4, i5, cst_I17]
  by_cases c : f = 0
  · rw [if_pos c, if_pos c]
    unfold s_rX12_does_b28
    rw [if_pos c]
    refine ⟨v, 1, _, τ1, s', rfl, rfl, hc1, hr1, RC_mv h hc1 hr1 e17, hs.2, Or.inl ⟨rfl, ⟨hs.2, rfl, q3, c, ?_, ?_⟩, ⟨?_, ?_⟩, q5 c⟩⟩
    · rw [hr1.2.1 2 (by decide), cst_L]; exact lf
    · rw [rfr_I hr1 14 rfl, cst_I _ _ _ _ (by decide) (by decide) (by decide)]; exact im
    · rw [cst_I _ _ _ _ (by decide) (by decide) (by decide)]; exact hf.1
    · rw [h8]; exact hf.2
  · rw [if_neg c, if_neg c]
    obtain ⟨τ2, n1, n2, n3, n4, n5, m0, m1, m2, m3, m4⟩ := r_note τ1 f (nI a) (nI nd) ar
    rw [c_keep, kn_u_some, n1, kn_u_some]
    unfold s_rX12_does_b28
    rw [if_neg c]
    generalize hσ1 : cst σ s' (rg_I σ 17 + nI (s' - sp)) f = σ1 at hc1 e17
    have hr2 : rfr τ τ2 := rfr_tr hr1 ⟨fun i _ _ _ _ _ _ => n2 i, fun i _ => n3 i, fun i h8 _ _ => n4 i h8, fun i _ => n5 i⟩
    have hc2 : cfr σ (rs_I (rs_I (rs_I (rs_I (rs_I σ1 6 f) 7 (nI a)) 8 (nI nd)) 9 ar) 10 (rg_I σ1 4 + 1)) := cfr_tr hc1 ⟨fun i h6 h7 h8 h9 h10 _ _ _ => by simp [rg_II, h6, h7, h8, h9, h10], fun _ => rfl, fun _ => rfl, fun _ => rfl⟩
    refine ⟨v, 0, _, τ2, s', rfl, rfl, hc2, hr2, RC_mv h hc2 hr2 (by rw [n2 5, e17]; rfl), hs.2, Or.inr ⟨rfl, hv c, c, m0, m1, m2, m3, ?_⟩⟩
    rw [m4, rfr_I hr1 4 rfl, t4, ← s4, ← cfr_I hc1 4 rfl]
    rfl

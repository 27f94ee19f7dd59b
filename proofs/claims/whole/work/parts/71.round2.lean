def RD (T N E ro B : Nat) (oc or : Option (Int32 × RS)) : Prop := ∃ (b : Int32) (σ' τ' : RS), oc = some (b, σ') ∧ or = some (b, τ') ∧ TD σ' τ' ∧ (∃ K' P', PM σ' τ' K' P' B) ∧ ((b = 1 ∧ RC σ' τ' T N E (ro + 1) ∧ FL0 σ' τ') ∨ (b = 0 ∧ RC σ' τ' T N E ro ∧ FL1 σ' τ'))
theorem c_out34 {σ : RS} (h : rg_I σ 6 ≠ 0) : s_cX7_isDone_b62 σ = kn_u (s_cX5_backToMark σ) (fun σ9 => some (0, σ9)) ∧ s_cX7_isDone_b48 σ = kn_u (s_cX5_backToMark σ) (fun σ9 => some (0, σ9)) ∧ s_cX7_isDone_b34 σ = kn_u (s_cX5_backToMark σ) (fun σ9 => some (0, σ9)) := by
  have e1 : s_cX7_isDone_b62 σ = kn_u (s_cX5_backToMark σ) (fun σ9 => some (0, σ9)) := by
    unfold s_cX7_isDone_b62
    rw [c_is1 h, kn_i_some, if_neg (by decide)]
  have e2 : s_cX7_isDone_b48 σ = kn_u (s_cX5_backToMark σ) (fun σ9 => some (0, σ9)) := by
    unfold s_cX7_isDone_b48
    rw [c_is1 h, kn_i_some, if_neg (by decide), e1]
  refine ⟨e1, e2, ?_⟩
  unfold s_cX7_isDone_b34
  rw [c_is1 h, kn_i_some, if_neg (by decide), e2]
/-- behind the mark: what both hold for a way back -/
def MB (σ τ : RS) (T N E ro K P B : Nat) : Prop := RC σ τ T N E ro ∧ FL0 σ τ ∧ MK σ τ P ro ∧ PM σ τ K P B ∧ TD σ τ ∧ (∀ k, k < 36 → rg_B σ (9 + P) k = rg_B σ 1 k) ∧ (∀ v, v < 12 → rg_A σ (15 + P) v = rg_A σ 4 v) ∧ rg_L σ (2 + P) = rg_L σ 0
theorem fin_f {σ1 τ1 σ τ : RS} {T N E ro K P B : Nat} (h : MB σ1 τ1 T N E ro K P B) (c : cQ σ1 σ) (r : rQ τ1 τ) (f : FL1 σ τ) (e5 : rg_I τ 5 = rg_I σ 17) (hx : ∀ k, 36 ≤ k → rg_B σ 1 k = rg_B σ1 1 k) (hy : ∀ v, 12 ≤ v → rg_A σ 4 v = rg_A σ1 4 v) (hB : rg_B τ 1 = rg_B τ1 1) (hA : rg_A τ 4 = rg_A τ1 4) :
    ∃ σ', s_cX5_backToMark σ = some σ' ∧ TD σ' τ ∧ PM σ' τ K P B ∧ RC σ' τ T N E ro ∧ FL1 σ' τ := by
  obtain ⟨hR, hF, hm, hP, hT, q1, q2, q3⟩ := h
  obtain ⟨σ', g1, g2, g3, g4, g5, g6⟩ := c_back hP.2.1 hm hP.2.2.2.2.1 q1 q2 q3 c hx hy
  have c' : cQ σ1 σ' := cF_tr c (cF_mono g2 (by decide) (by decide) (by decide) (by decide))
  refine ⟨σ', g1, TD_F hT c' r (by decide) (by decide), PM_F hP c' r (by decide) (by decide), RC_dyn hR c' r (by decide) (by decide) ?_ ?_ ?_ ?_ g5 ?_ hR.1.2.2.2 ?_, FL1_F f g2 (cF_rf [] [] [] [] τ) (by decide) (by decide)⟩
  · rw [e5, g2.1 17 (by decide)]
  · rw [hB, g3]; exact hR.2.2.2.2.1.1
  · rw [hA, g4]; exact hR.2.2.2.2.1.2.1
  · rw [r.2.1 0 (by decide), g6]; exact hR.2.2.2.2.1.2.2.2.2.2.2.2
  · rw [r.1 4 (by decide)]; exact hR.2.2.1.2.2.2.2.2.2.2
  · rw [g4]; exact hR.2.2.2.2.2.2.2.2.2.2
/-- the mark, and what the reference remembers -/
theorem mark_sim {σ τ : RS} {T N E ro K P B : Nat} (hR : RC σ τ T N E ro) (hF : FL0 σ τ) (hP : PM σ τ K P B) (hT : TD σ τ) : ∃ σ1, s_cX5_mark σ = some σ1 ∧ ∀ (τa : RS) (LI LL : List Nat), cF LI LL [] [] τ τa → okR LI LL [] [] = true → okPr LI LL [] [] = true → (decide (8 ∉ LI)) = true → (decide (5 ∉ LI)) = true → ∃ τ1, s_rX12_remember τa = some τ1 ∧ cF [] [] [17] [9] τa τ1 ∧ MB σ1 τ1 T N E ro K P B := by
  have hb : ∀ v, v < 12 → bit (rg_A σ 4 v) := hR.2.2.2.2.2.2.2.2.2.2
  have hP7 : P < 7 := hP.2.1
  obtain ⟨σ1, g1, g2, g3, g4, g5, g6⟩ := c_take (σ := σ) (j := P) hb
  refine ⟨σ1, ?_, fun τa LI LL ra ok1 ok2 ok3 ok4 => ?_⟩
  · unfold s_cX5_mark
    rw [hP.2.2.2.2.1, ld_j hP7, g1, kn_u_some]
  have a4 : rg_A τa 4 = rg_A σ 4 := by rw [ra.2.2.1 4 (by decide)]; exact hR.2.2.2.2.1.2.1
  have b1 : rg_B τa 1 = rg_B σ 1 := by rw [ra.2.2.2 1 (by decide)]; exact hR.2.2.2.2.1.1
  obtain ⟨τ1, t1, t2, t3, t4⟩ := r_remember (τ := τa) (fun v hv => by rw [a4]; exact hb v hv)
  have o1 : rg_B σ1 1 = rg_B σ 1 := g2.2.2.2 1 (by simp; omega)
  have o4 : rg_A σ1 4 = rg_A σ 4 := g2.2.2.1 4 (by simp; omega)
  have o0 : rg_L σ1 0 = rg_L σ 0 := g2.2.1 0 (by simp; omega)
  have oI4 : rg_I σ1 4 = rg_I σ 4 := g2.1 4 (by simp; omega)
  have okc : okC [21 + P] [2 + P] [15 + P] [9 + P] = true := by simp [okC]; omega
  have r5 : rg_I τ1 5 = rg_I σ1 17 := by
    rw [t2.1 5 (by decide), ra.1 5 (of_decide_eq_true ok4), g2.1 17 (by simp; omega)]; exact hR.2.2.2.2.2.1.1
  have hRa : RC σ τa T N E ro := RC_F hR (cF_rf [] [] [] [] σ) ra (by decide) ok1 (by rw [ra.1 5 (of_decide_eq_true ok4)]; exact hR.2.2.2.2.2.1.1)
  refine ⟨τ1, t1, t2, RC_F hRa g2 t2 okc (by decide) r5, ?_, ⟨?_, ?_, ?_⟩, ?_, ?_, ?_, ?_, ?_⟩
  · have f1 := FL0_F hF (cF_rf [] [] [] [] σ) ra (by decide) (by decide)
    unfold FL0 at f1 ⊢
    rw [g2.1 6 (by simp; omega), t2.2.2.1 8 (by decide)]; exact f1
  · intro k hk; rw [t3 k hk, b1, g3 k hk]
  · intro v hv; rw [t4 v hv, a4, g4 v hv]; exact ⟨rfl, hb v hv⟩
  · rw [g5]; exact hR.2.2.1.2.2.2.2.2.2.1
  · obtain ⟨p1, p2, p3, p4, p5, p6⟩ := hP
    refine ⟨p1, p2, by rw [g2.1 12 (by simp; omega)]; exact p3, ?_, by rw [g2.1 11 (by simp; omega)]; exact p5, fun i hi => ?_⟩
    · rw [t2.1 7 (by decide), ra.1 7 (by simp only [okPr, Bool.and_eq_true, decide_eq_true_eq] at ok2; exact ok2.1.1.1.1)]; exact p4
    · have hq : (P + 7 - K + i) % 7 ≠ P ∧ (P + 7 - K + i) % 7 < 7 := by omega
      obtain ⟨m1, m2, m3, r, m4, m5, m6⟩ := p6 i hi
      have u9 : rg_B σ1 (9 + (P + 7 - K + i) % 7) = rg_B σ (9 + (P + 7 - K + i) % 7) := g2.2.2.2 _ (by simp; omega)
      have u15 : rg_A σ1 (15 + (P + 7 - K + i) % 7) = rg_A σ (15 + (P + 7 - K + i) % 7) := g2.2.2.1 _ (by simp; omega)
      have u2 : rg_L σ1 (2 + (P + 7 - K + i) % 7) = rg_L σ (2 + (P + 7 - K + i) % 7) := g2.2.1 _ (by simp; omega)
      have u21 : rg_I σ1 (21 + (P + 7 - K + i) % 7) = rg_I σ (21 + (P + 7 - K + i) % 7) := g2.1 _ (by simp; omega)
      unfold MEM
      rw [u9, u15, u2, u21, t2.2.2.2 3 (by decide), t2.2.2.1 9 (by decide), t2.2.2.2 4 (by decide), t2.2.2.1 10 (by decide), ra.2.2.2 3 (by decide), ra.2.2.1 9 (by decide), ra.2.2.2 4 (by decide), ra.2.2.1 10 (by decide)]
      exact ⟨m1, m2, m3, r, m4, m5, m6⟩
  · have h1 := TD_F hT (cF_rf [] [] [] [] σ) ra (by decide) (by simpa using ok3)
    unfold TD at h1 ⊢
    rw [g2.1 13 (by simp; omega), g2.2.2.1 9 (by simp; omega), g2.2.2.2 3 (by simp; omega), t2.1 8 (by decide), t2.2.2.1 11 (by decide), t2.2.2.2 5 (by decide)]
    exact h1
  · intro k hk; rw [g3 k hk, o1]
  · intro v hv; rw [g4 v hv, o4]
  · rw [g6, o0]

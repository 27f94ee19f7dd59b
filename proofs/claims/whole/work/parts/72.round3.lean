/-- messages are sent, by both, from the mark -/
theorem sendAll_sim {σ1 τ1 : RS} {T N E ro : Nat} {x : Int32} (hx : x = 0 ∨ x = 1) (hR : RC σ1 τ1 T N E ro) (hF : FL0 σ1 τ1) (h11 : rg_I τ1 11 = 0) (h14 : rg_I τ1 14 = 0) (hl2 : rg_L τ1 2 = 0) : ∃ σ2 σ3 τ2 τ3, s_cX7_begin σ1 = some σ2 ∧ s_cX7_sendAll σ2 x = some σ3 ∧ s_rX12_sendAll τ1 x = some τ3 ∧ cF [14, 15, 16, 18] [1] [11] [] σ1 σ2 ∧ cF [15] [] [14] [] τ1 τ2 ∧ ((∃ K' sp', K' ≤ 40 ∧ SA σ2 τ2 σ3 τ3 T N E ro K' sp') ∨ SF σ2 τ2 σ3 τ3 T N E ro) := by
  have hE : E ≤ 40 := hR.1.2.2.1
  have hN : N ≤ 12 := hR.1.2.1
  obtain ⟨σ2, b1, b2, b3, b4, b5, b6, b7, b8⟩ := c_begin7 σ1
  have ra : cF [15] [] [] [] τ1 (rs_I τ1 15 0) := cF_I _ _ _ (by decide)
  obtain ⟨τ2, d1, d2, d3⟩ := r_clear (τ := rs_I τ1 15 0) (x := x) hE (show rg_I (rs_I τ1 15 0) 2 = nI E from hR.2.2.1.2.2.2.2.2.1)
  have rb : cF [15] [] [14] [] τ1 τ2 := cF_tr (cF_mono ra (by decide) (by decide) (by decide) (by decide)) (cF_mono d2 (by decide) (by decide) (by decide) (by decide))
  have e15 : rg_I τ2 15 = 0 := d2.1 15 (by decide)
  have hS : SA σ2 τ2 σ2 τ2 T N E ro 0 0 := ⟨RC_F hR b2 rb (by decide) (by decide) (by rw [rb.1 5 (by decide), b2.1 17 (by decide)]; exact hR.2.2.2.2.2.1.1), ⟨by decide, b4, by rw [rb.1 11 (by decide), h11]; rfl, b5, by rw [rb.2.1 2 (by decide), hl2, b7], by rw [rb.1 14 (by decide), h14, b3]⟩, FL0_F hF b2 rb (by decide) (by decide), cF_rf _ _ _ _ _, cF_rf _ _ _ _ _, b6, e15, fun i hi => absurd hi (Nat.not_lt_zero _), fun y hy => by rw [d3 y hy, b8 y (by omega)], fun y hy hz => absurd (b8 y (by omega)) hz⟩
  have key : ∃ σ3 τ3, s_cX7_sendAll σ2 x = some σ3 ∧ s_rX12_sendAll_b28 τ2 x = some τ3 ∧ ((∃ K' sp', K' ≤ 40 ∧ SA σ2 τ2 σ3 τ3 T N E ro K' sp') ∨ SF σ2 τ2 σ3 τ3 T N E ro) := by
    rcases hx with rfl | rfl
    · obtain ⟨σ3, τ3, g1, g2, g3⟩ := out_sim FU FU 0 σ2 τ2 0 0 (Nat.zero_le _) (by unfold FU; omega) (by unfold FU; omega) hS (Nat.zero_le _)
      rw [nI_0] at g1 g2
      refine ⟨σ3, τ3, ?_, g2, g3⟩
      unfold s_cX7_sendAll
      rw [if_pos rfl]
      exact g1
    · obtain ⟨σ3, τ3, g1, g2, g3⟩ := out_sima FU FU 0 σ2 τ2 0 0 (Nat.zero_le _) (by unfold FU; omega) (by unfold FU; omega) hS (Nat.zero_le _)
      rw [nI_0] at g1 g2
      refine ⟨σ3, τ3, ?_, g2, g3⟩
      unfold s_cX7_sendAll
      rw [if_neg (by decide)]
      exact g1
  obtain ⟨σ3, τ3, g1, g2, g3⟩ := key
  refine ⟨σ2, σ3, τ2, τ3, b1, g1, ?_, b2, rb, g3⟩
  unfold s_rX12_sendAll
  rw [kn_v, d1, g2]
/-- the round is done: the past is kept, the messages are told -/
theorem done_sim {σ1 τ1 σ τ : RS} {T N E ro K P B Kx : Nat} {y : Int64} (h : MB σ1 τ1 T N E ro K P B) (hB : ro ≤ B) (hB2 : B < 900000) (hR : RC σ τ T N E ro) (hF : FL0 σ τ) (c : cQ σ1 σ) (r : rQ τ1 τ) (hl : rg_L σ 0 = rg_L σ1 0) (hKx : Kx ≤ 40) (h18 : rg_I σ 18 = nI Kx) (h15 : rg_I τ 15 = nI Kx) (hs : ∀ i, i < Kx → ∃ x, x < 40 ∧ rg_A σ 10 i = nI x ∧ rg_A τ 15 i = nI x ∧ rg_B τ 7 x = rg_B σ 4 x) :
    RD T N E ro B (s_cX7_isDone_b62 (rs_L σ 0 y)) (s_rX12_round_b244 τ y) := by
  obtain ⟨-, -, hm, hP, hT, q1, q2, q3⟩ := h
  have hP7 : P < 7 := hP.2.1
  have i4 : rg_I σ 4 = nI ro := hR.2.2.1.2.2.2.2.2.2.1
  have t4 : rg_I τ 4 = nI ro := hR.2.2.1.2.2.2.2.2.2.2
  have l0 : rg_L τ 0 = rg_L σ 0 := hR.2.2.2.2.1.2.2.2.2.2.2.2
  unfold s_cX7_isDone_b62 s_rX12_round_b244
  rw [c_is0 (show rg_I (rs_L σ 0 y) 6 = 0 from hF.1), kn_i_some, if_pos rfl, r_isF0 hF.2.1, kn_i_some, if_pos rfl]
  simp only [kn_v]
  rw [show rg_I (rs_L σ 0 y) 4 = nI ro from i4, nI_1, t4]
  have ca : cF [4] [0] [] [] σ (rs_I (rs_L σ 0 y) 4 (nI (ro + 1))) := cF_tr (cF_L _ _ _ (by decide)) (cF_I _ _ _ (by decide))
  have cA : cQ σ1 (rs_I (rs_L σ 0 y) 4 (nI (ro + 1))) := cF_tr c (cF_mono ca (by decide) (by decide) (by decide) (by decide))
  have eL : rg_L (rs_I (rs_L σ 0 y) 4 (nI (ro + 1))) (2 + P) = rg_L τ 0 := by
    rw [cA.2.1 (2 + P) (by simp; omega), q3, l0, hl]
  have ea4 : rg_I (rs_I (rs_L σ 0 y) 4 (nI (ro + 1))) 4 = nI (ro + 1) := rfl
  have ea0 : rg_L (rs_I (rs_L σ 0 y) 4 (nI (ro + 1))) 0 = y := rfl
  generalize rs_I (rs_L σ 0 y) 4 (nI (ro + 1)) = σa at *
  obtain ⟨σb, τb, K', k1, k2, k3, k4, k5⟩ := pm_keep (PM_F hP cA r (by decide) (by decide)) (MK_F hm hP7 cA r (by decide) (by decide)) hB
  rw [eL] at k2
  rw [k1, kn_u_some, k2, kn_u_some]
  have cb : cF [4, 11, 12] [0] [] [] σ σb := cF_tr (cF_mono ca (by decide) (by decide) (by decide) (by decide)) (cF_mono k3 (by decide) (by decide) (by decide) (by decide))
  obtain ⟨σc, m1, m2, m3, m4⟩ := c_tell (σ := σb) hKx (by rw [cb.1 18 (by decide)]; exact h18) (fun i hi => by
    obtain ⟨x, a1, a2, -⟩ := hs i hi
    exact ⟨x, a1, by rw [cb.2.2.1 10 (by decide)]; exact a2⟩)
  rw [m1, kn_u_some, show rg_I (rs_L τb 0 y) 4 = nI ro from by rw [show rg_I (rs_L τb 0 y) 4 = rg_I τb 4 from rfl, k4.1 4 (by decide)]; exact t4, nI_1]
  have e15 : rg_I (rs_I (rs_L τb 0 y) 4 (nI (ro + 1))) 15 = nI Kx := by
    rw [show rg_I (rs_I (rs_L τb 0 y) 4 (nI (ro + 1))) 15 = rg_I τb 15 from rfl, k4.1 15 (by decide)]; exact h15
  rw [e15]
  have rc : cF [4, 8] [0] [] [] τb (rs_I (rs_I (rs_L τb 0 y) 4 (nI (ro + 1))) 8 (nI Kx)) := cF_tr (cF_L _ _ _ (by decide)) (cF_tr (cF_I _ _ _ (by decide)) (cF_I _ _ _ (by decide)))
  have f4 : rg_I (rs_I (rs_I (rs_L τb 0 y) 4 (nI (ro + 1))) 8 (nI Kx)) 4 = nI (ro + 1) := rfl
  have f8 : rg_I (rs_I (rs_I (rs_L τb 0 y) 4 (nI (ro + 1))) 8 (nI Kx)) 8 = nI Kx := rfl
  have f0 : rg_L (rs_I (rs_I (rs_L τb 0 y) 4 (nI (ro + 1))) 8 (nI Kx)) 0 = y := rfl
  generalize rs_I (rs_I (rs_L τb 0 y) 4 (nI (ro + 1))) 8 (nI Kx) = τc at *
  have rd : cF [4, 7, 8] [0] [9, 10] [3, 4] τ τc := cF_tr (cF_mono k4 (by decide) (by decide) (by decide) (by decide)) (cF_mono rc (by decide) (by decide) (by decide) (by decide))
  obtain ⟨τd, n1, n2, n3⟩ := r_tell (τ := τc) hKx (by rw [rd.1 15 (by decide)]; exact h15) (fun i hi => by
    obtain ⟨x, a1, a2, a3, -⟩ := hs i hi
    exact ⟨x, a1, by rw [rd.2.2.1 15 (by decide)]; exact a3⟩)
  rw [n1]
  have cc : cF [4, 11, 12, 13] [0] [9] [3] σ σc := cF_tr (cF_mono cb (by decide) (by decide) (by decide) (by decide)) (cF_mono m2 (by decide) (by decide) (by decide) (by decide))
  have re : cF [4, 7, 8] [0] [9, 10, 11] [3, 4, 5] τ τd := cF_tr (cF_mono rd (by decide) (by decide) (by decide) (by decide)) (cF_mono n2 (by decide) (by decide) (by decide) (by decide))
  refine ⟨1, σc, τd, rfl, rfl, ⟨Kx, by omega, m3, ?_, fun i hi => ?_⟩, ⟨K', _, PM_F k5 m2 (cF_tr (LI := [4, 8]) (LL := [0]) (LA := [11]) (LB := [5]) (cF_mono rc (by decide) (by decide) (by decide) (by decide)) (cF_mono n2 (by decide) (by decide) (by decide) (by decide))) (by decide) (by decide)⟩, Or.inl ⟨rfl, ?_, ?_⟩⟩
  · rw [n2.1 8 (by decide), f8]
  · obtain ⟨x, a1, a2, a3, a4⟩ := hs i hi
    rw [(m4 i hi).1, (m4 i hi).2, (n3 i hi).1, (n3 i hi).2, cb.2.2.1 10 (by decide), rd.2.2.1 15 (by decide), a2, a3, nI_clamp (show x < 2 ^ 31 by omega), cb.2.2.2 4 (by decide), rd.2.2.2 7 (by decide)]
    exact ⟨rfl, a4⟩
  · refine RC_dyn hR cc re (by decide) (by decide) ?_ ?_ ?_ ?_ ?_ ?_ (by omega) ?_
    · rw [re.1 5 (by decide), cc.1 17 (by decide)]; exact hR.2.2.2.2.2.1.1
    · rw [re.2.2.2 1 (by decide), cc.2.2.2 1 (by decide)]; exact hR.2.2.2.2.1.1
    · rw [re.2.2.1 4 (by decide), cc.2.2.1 4 (by decide)]; exact hR.2.2.2.2.1.2.1
    · rw [n2.2.1 0 (by decide), f0, m2.2.1 0 (by decide), k3.2.1 0 (by decide), ea0]
    · rw [m2.1 4 (by decide), k3.1 4 (by decide), ea4]
    · rw [n2.1 4 (by decide), f4]
    · rw [cc.2.2.1 4 (by decide)]; exact hR.2.2.2.2.2.2.2.2.2.2
  · exact FL0_F hF cc re (by decide) (by decide)

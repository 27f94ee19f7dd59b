/-- behind the nodes: all at once, the whole, the end -/
theorem after_sim {σ1 τ1 σ2 τ2 σ τ : RS} {T N E ro K P B Kx sp : Nat} (h : MB σ1 τ1 T N E ro K P B) (hB : ro ≤ B) (hB2 : B < 900000) (hn : NL σ2 τ2 σ τ T N E ro N sp) (c : cQ σ1 σ) (r : rQ τ1 τ) (hc1 : rg_B σ 1 = rg_B σ1 1) (hc4 : rg_A σ 4 = rg_A σ1 4) (hl : rg_L σ 0 = rg_L σ1 0) (hKx : Kx ≤ 40) (h18 : rg_I σ 18 = nI Kx) (h15 : rg_I τ 15 = nI Kx) (hs : ∀ i, i < Kx → ∃ x, x < 40 ∧ rg_A σ 10 i = nI x ∧ rg_A τ 15 i = nI x ∧ rg_B τ 7 x = rg_B σ 4 x) :
    RD T N E ro B (s_cX7_isDone_b34 σ) (s_rX12_round_b114 τ) := by
  obtain ⟨hR, hC, hF, hD, hcL, hrN, hu, hb8, hb16⟩ := hn
  have hN : N ≤ 12 := hR.1.2.1
  have wb : ∀ v, v < 12 → bit (rg_A σ 4 v) := hR.2.2.2.2.2.2.2.2.2.2
  unfold s_cX7_isDone_b34 s_rX12_round_b114
  rw [c_is0 hF.1, kn_i_some, if_pos rfl, r_isF0 hF.2.1, kn_i_some, if_pos rfl]
  obtain ⟨σa, a1, a2, a3, a4, a5⟩ := c_change (σ := σ) hN hR.2.2.1.2.2.1 (fun u hu' => by
    rcases hu u hu' with ⟨q, -⟩ | ⟨q, -⟩
    · exact Or.inr q
    · exact Or.inl q)
  rw [a1, kn_u_some]
  obtain ⟨τa, b1, b2, b3, b4⟩ := r_rd125 (τ0 := τ)
  have tA16 : ∀ v, v < N → bit (rg_A τ 16 v) := fun v hv => by
    rcases hu v hv with ⟨-, -, ⟨-, q⟩ | ⟨-, q⟩⟩ | ⟨-, -, q⟩
    · exact Or.inr q
    · exact Or.inl q
    · rw [q]; exact wb v (by omega)
  obtain ⟨τb, d1, d2, d3, d4⟩ := r_rd151 (τ0 := τa) hN (by rw [b2.1 1 (by decide)]; exact hR.2.2.1.2.2.2.1) (fun v hv => by rw [b2.2.2.1 16 (by decide)]; exact tA16 v hv)
  rw [b1, s_rX12_round_b149, d1]
  have rb : cF [] [] [4] [1] τ τb := cF_tr (cF_mono b2 (by decide) (by decide) (by decide) (by decide)) (cF_mono d2 (by decide) (by decide) (by decide) (by decide))
  have es : rg_B τb 1 = rg_B σa 1 := by
    funext k
    rw [d2.2.2.2 1 (by decide)]
    by_cases z : k < 36
    · rw [b3 k z]
      have ek : k / 3 * 3 + k % 3 = k := by omega
      by_cases w : k / 3 < N
      · rcases hu (k / 3) w with ⟨q1, q2, q3⟩ | ⟨q1, q2, q3⟩
        · have e1 := ((a3 _ w).1 q1).1 (k % 3) (by omega)
          have e2 := q2 (k % 3) (by omega)
          rw [ek] at e1 e2
          rw [e1, e2]
        · have e1 := ((a3 _ w).2 q1).1 (k % 3) (by omega)
          have e2 := q2 (k % 3) (by omega)
          rw [ek] at e1 e2
          rw [e1, e2]
      · have e2 := hb8 (k / 3) (by omega) (by omega) (k % 3) (by omega)
        rw [ek] at e2
        rw [e2, a4 k (by omega)]
    · rw [b4 k (by omega), a4 k (by omega)]
      exact congrFun hR.2.2.2.2.1.1 k
  have ew : rg_A τb 4 = rg_A σa 4 := by
    funext v
    by_cases w : v < N
    · rw [d3 v w, b2.2.2.1 16 (by decide)]
      rcases hu v w with ⟨q1, q2, ⟨q3, q4⟩ | ⟨q3, q4⟩⟩ | ⟨q1, q2, q3⟩
      · rw [((a3 v w).1 q1).2, q4, if_pos q3]
      · rw [((a3 v w).1 q1).2, q4, if_neg (by rw [q3]; decide)]
      · rw [((a3 v w).2 q1).2, q3]
    · rw [d4 v (by omega), a5 v (by omega), b2.2.2.1 4 (by decide)]
      exact congrFun hR.2.2.2.2.1.2.1 v
  have wb' : ∀ v, v < 12 → rg_A σa 4 v = 0 ∨ rg_A σa 4 v = 1 := by
    intro v hv
    by_cases w : v < N
    · rw [← ew, d3 v w, b2.2.2.1 16 (by decide)]; exact tA16 v w
    · rw [a5 v (by omega)]; exact wb v hv
  have hRa : RC σa τb T N E ro := RC_dyn hR a2 rb (by decide) (by decide) (by rw [rb.1 5 (by decide), a2.1 17 (by decide)]; exact hR.2.2.2.2.2.1.1) es ew (by rw [rb.2.1 0 (by decide), a2.2.1 0 (by decide)]; exact hR.2.2.2.2.1.2.2.2.2.2.2.2) (by rw [a2.1 4 (by decide)]; exact hR.2.2.1.2.2.2.2.2.2.1) (by rw [rb.1 4 (by decide)]; exact hR.2.2.1.2.2.2.2.2.2.2) hR.1.2.2.2 wb'
  have hCa := EC_F hC a2 rb (by decide) (by decide)
  have hFa := FL0_F hF a2 rb (by decide) (by decide)
  obtain ⟨σb, τc, y, s1, s2, s3, s4, s5⟩ := sum_sim hRa hCa hFa
  have cB : cQ σ1 σb := cF_tr c (cF_tr (cF_mono a2 (by decide) (by decide) (by decide) (by decide)) (cF_mono s3 (by decide) (by decide) (by decide) (by decide)))
  have rC : rQ τ1 τc := cF_tr r (cF_tr (cF_mono rb (by decide) (by decide) (by decide) (by decide)) (cF_mono s4 (by decide) (by decide) (by decide) (by decide)))
  unfold s_cX7_isDone_b48
  rw [c_is0 hFa.1, kn_i_some, if_pos rfl, s1]
  rcases s5 with ⟨s5, s6⟩ | ⟨s5, s6⟩
  · rw [s5, kn_u_some]
    refine done_sim h hB hB2 s2 s6 cB rC ?_ hKx ?_ ?_ ?_
    · rw [s3.2.1 0 (by decide), a2.2.1 0 (by decide)]; exact hl
    · rw [s3.1 18 (by decide), a2.1 18 (by decide)]; exact h18
    · rw [s4.1 15 (by decide), rb.1 15 (by decide)]; exact h15
    · intro i hi
      rw [s3.2.2.1 10 (by decide), a2.2.2.1 10 (by decide), s4.2.2.1 15 (by decide), rb.2.2.1 15 (by decide), s4.2.2.2 7 (by decide), rb.2.2.2 7 (by decide), s3.2.2.2 4 (by decide), a2.2.2.2 4 (by decide)]
      exact hs i hi
  · rw [s5, kn_u_some, (c_out34 s6.1).1]
    unfold s_rX12_round_b244
    rw [r_isF1 (FL1_r s6), kn_i_some, if_neg (by decide)]
    have hm := h.2.2.1
    obtain ⟨τd, e1, e2, e3, e4, e5, e6⟩ := r_asBefore (τ := τc) (fun v hv => by rw [rC.2.2.1 17 (by decide), (hm.2.1 v hv).1]; exact (hm.2.1 v hv).2)
    rw [e1, kn_u_some]
    have hR1 := h.1
    have x1 : ∀ k, 36 ≤ k → rg_B σb 1 k = rg_B σ1 1 k := fun k hk => by rw [s3.2.2.2 1 (by decide), a4 k (by omega), hc1]
    have x2 : ∀ v, 12 ≤ v → rg_A σb 4 v = rg_A σ1 4 v := fun v hv => by rw [s3.2.2.1 4 (by decide), a5 v (by omega), hc4]
    have x3 : rg_B τd 1 = rg_B τ1 1 := by
      funext k
      rw [show rg_B τ1 1 k = rg_B σ1 1 k from congrFun hR1.2.2.2.2.1.1 k]
      by_cases z : k < 36
      · rw [e3 k z, rC.2.2.2 9 (by decide), hm.1 k z]; exact h.2.2.2.2.2.1 k z
      · rw [e4 k (by omega), ← x1 k (by omega)]; exact congrFun s2.2.2.2.2.1.1 k
    have x4 : rg_A τd 4 = rg_A τ1 4 := by
      funext v
      rw [show rg_A τ1 4 v = rg_A σ1 4 v from congrFun hR1.2.2.2.2.1.2.1 v]
      by_cases z : v < 12
      · rw [e5 v z, rC.2.2.1 17 (by decide), (hm.2.1 v z).1]; exact h.2.2.2.2.2.2.1 v z
      · rw [e6 v (by omega), ← x2 v (by omega)]; exact congrFun s2.2.2.2.2.1.2.1 v
    obtain ⟨σe, f1, f2, f3, f4, f5⟩ := fin_f h cB (cF_tr rC (cF_mono e2 (by decide) (by decide) (by decide) (by decide))) (FL1_F s6 (cF_rf [] [] [] [] σb) e2 (by decide) (by decide)) (by rw [e2.1 5 (by decide)]; exact s2.2.2.2.2.2.1.1) x1 x2 x3 x4
    rw [f1, kn_u_some]
    exact ⟨0, σe, τd, rfl, rfl, f2, ⟨K, P, f3⟩, Or.inr ⟨rfl, f4, f5⟩⟩
/-- A ROUND, by both -/
theorem round_sim {σ τ : RS} {T N E ro K P B : Nat} {x : Int32} (hx : x = 0 ∨ x = 1) (hR : RC σ τ T N E ro) (hF : FL0 σ τ) (hP : PM σ τ K P B) (hT : TD σ τ) (hB : ro ≤ B) (hB2 : B < 900000) : RD T N E ro B (s_cX7_isDone σ x) (s_rX12_round τ x) := by
  unfold s_cX7_isDone s_rX12_round
  simp only [kn_v]
  obtain ⟨σ1, m1, mm⟩ := mark_sim hR hF hP hT
  have ra : cF [11, 14] [2] [] [] τ (rs_I (rs_L (rs_I τ 11 0) 2 0) 14 0) := cF_tr (cF_I _ _ _ (by decide)) (cF_tr (cF_L _ _ _ (by decide)) (cF_I _ _ _ (by decide)))
  obtain ⟨τ1, r1, r2, hMB⟩ := mm _ [11, 14] [2] ra (by decide) (by decide) (by decide) (by decide)
  rw [m1, kn_u_some, r1, kn_u_some]
  have hMB' := hMB
  obtain ⟨hR1, hF1, hm1, hP1, hT1, q1, q2, q3⟩ := hMB'
  have hN : N ≤ 12 := hR1.1.2.1
  obtain ⟨σ2, σ3, τ2, τ3, e1, e2, e3, e4, e5, e6⟩ := sendAll_sim hx hR1 hF1 (by rw [r2.1 11 (by decide)]; rfl) (by rw [r2.1 14 (by decide)]; rfl) (by rw [r2.2.1 2 (by decide)]; rfl)
  rw [e1, kn_u_some, e2, kn_u_some, e3, kn_u_some]
  -- the reference copies states and who is awake
  have cp : ∀ (t : RS), rg_I t 1 = nI N → (∀ v, v < 12 → bit (rg_A t 4 v)) → ∃ t2, f_rX12_round_b26 t 0 = f_rX12_round_b80 t2 0 ∧ cF [] [] [16] [8] t t2 ∧ (∀ k, k < 36 → rg_B t2 8 k = rg_B t 1 k) ∧ (∀ v, v < N → rg_A t2 16 v = rg_A t 4 v) := by
    intro t ht hb
    obtain ⟨ta, a1, a2, a3, -⟩ := r_rd26 (τ0 := t)
    obtain ⟨tb, b1, b2, b3, -⟩ := r_rd52 (τ0 := ta) hN (by rw [a2.1 1 (by decide)]; exact ht) (fun v hv => by rw [a2.2.2.1 4 (by decide)]; exact hb v (by omega))
    refine ⟨tb, ?_, cF_tr (cF_mono a2 (by decide) (by decide) (by decide) (by decide)) (cF_mono b2 (by decide) (by decide) (by decide) (by decide)), fun k hk => ?_, fun v hv => ?_⟩
    · rw [a1, s_rX12_round_b50, b1, s_rX12_round_b78]
    · rw [b2.2.2.2 8 (by decide)]; exact a3 k hk
    · rw [b3 v hv, a2.2.2.1 4 (by decide)]
  rcases e6 with ⟨Kx, sp, hKx, hSA⟩ | hSF
  · obtain ⟨hRa, hCa, hFa, hca, hra, h18, h15, hs, hg, hm⟩ := hSA
    have a4 : rg_A τ3 4 = rg_A σ3 4 := hRa.2.2.2.2.1.2.1
    obtain ⟨τ4, c1, c2, c3, c4⟩ := cp τ3 hRa.2.2.1.2.2.2.1 (fun v hv => by rw [a4]; exact hRa.2.2.2.2.2.2.2.2.2.2 v hv)
    rw [c_is0 hFa.1, kn_i_some, if_pos rfl, c1]
    have cS1 : cQ σ1 σ3 := cF_tr (cF_mono e4 (by decide) (by decide) (by decide) (by decide)) (cF_mono hca (by decide) (by decide) (by decide) (by decide))
    have rS1 : rQ τ1 τ4 := cF_tr (cF_mono e5 (by decide) (by decide) (by decide) (by decide)) (cF_tr (cF_mono hra (by decide) (by decide) (by decide) (by decide)) (cF_mono c2 (by decide) (by decide) (by decide) (by decide)))
    have hR4 : RC σ3 τ4 T N E ro := RC_F hRa (cF_rf [] [] [] [] σ3) c2 (by decide) (by decide) (by rw [c2.1 5 (by decide)]; exact hRa.2.2.2.2.2.1.1)
    have hNL : NL σ3 τ4 σ3 τ4 T N E ro 0 sp := by
      refine ⟨hR4, EC_F hCa (cF_rf [] [] [] [] σ3) c2 (by decide) (by decide), FL0_F hFa (cF_rf [] [] [] [] σ3) c2 (by decide) (by decide), ⟨hR4.1.2.2.1, hR4.2.2.1.2.2.2.2.1, hR4.2.2.1.2.2.2.2.2.1, fun y hy => by rw [c2.2.2.1 14 (by decide)]; exact hg y hy, hR4.2.2.2.2.1.2.2.2.1, fun y hy hz => by rw [c2.2.2.2 7 (by decide)]; exact hm y hy hz, hR4.2.2.2.2.1.2.2.2.2.2.2.1, hR4.2.2.2.2.2.2.2.2.2.1, hR4.2.2.1.2.2.2.2.2.2.1, hR4.2.2.1.2.2.2.2.2.2.2⟩, cF_rf _ _ _ _ _, cF_rf _ _ _ _ _, fun u hu => absurd hu (Nat.not_lt_zero _), fun u _ hu j hj => ?_, fun u _ hu => ?_⟩
      · rw [c3 _ (by omega)]; exact congrFun hRa.2.2.2.2.1.1 _
      · rw [c4 u hu, a4]
    unfold s_cX7_askNodes f_cX7_askNodes_b2 f_rX12_round_b80
    have hnd := nodes_l (σ0 := σ3) (τ0 := τ4) FU FU 0 sp σ3 τ4 (Nat.zero_le _) (by unfold FU; omega) (by unfold FU; omega) hNL
    rw [nI_0] at hnd
    rcases hnd with ⟨σ5, τ5, sp5, d1, d2, d3⟩ | ⟨σ5, τ5, d1, d2, d3⟩
    · rw [d1, kn_u_some, d2]
      have cL5 : cL σ3 σ5 := d3.2.2.2.2.1
      have rN5 : rN τ4 τ5 := d3.2.2.2.2.2.1
      refine after_sim (Kx := Kx) hMB hB hB2 d3 (cF_tr cS1 (cF_mono cL5 (by decide) (by decide) (by decide) (by decide))) (cF_tr rS1 (cF_mono rN5 (by decide) (by decide) (by decide) (by decide))) ?_ ?_ ?_ hKx ?_ ?_ ?_
      · rw [cL5.2.2.2 1 (by decide), hca.2.2.2 1 (by decide), e4.2.2.2 1 (by decide)]
      · rw [cL5.2.2.1 4 (by decide), hca.2.2.1 4 (by decide), e4.2.2.1 4 (by decide)]
      · rw [cL5.2.1 0 (by decide), hca.2.1 0 (by decide), e4.2.1 0 (by decide)]
      · rw [cL5.1 18 (by decide)]; exact h18
      · rw [rN5.1 15 (by decide), c2.1 15 (by decide)]; exact h15
      · intro i hi
        obtain ⟨y, y1, y2, y3, y4⟩ := hs i hi
        have hE : E ≤ 40 := hR1.1.2.2.1
        refine ⟨y, by omega, ?_, ?_, ?_⟩
        · rw [cL5.2.2.1 10 (by decide)]; exact y2
        · rw [rN5.2.2.1 15 (by decide), c2.2.2.1 15 (by decide)]; exact y3
        · rw [rN5.2.2.2 7 (by decide), c2.2.2.2 7 (by decide), cL5.2.2.2 4 (by decide)]; exact hm y y1 y4
    · rw [d1, kn_u_some, d2]
      obtain ⟨f1, f2, f3, f4⟩ := d3
      rw [(c_out34 f2.1).2.2]
      obtain ⟨σe, g1, g2, g3, g4, g5⟩ := fin_f hMB (cF_tr cS1 (cF_mono f3 (by decide) (by decide) (by decide) (by decide))) (cF_tr rS1 (cF_mono f4 (by decide) (by decide) (by decide) (by decide))) f2 f1.2.2.2.2.2.1.1
        (fun k _ => by rw [f3.2.2.2 1 (by decide), hca.2.2.2 1 (by decide), e4.2.2.2 1 (by decide)]) (fun v _ => by rw [f3.2.2.1 4 (by decide), hca.2.2.1 4 (by decide), e4.2.2.1 4 (by decide)])
        (by rw [f4.2.2.2 1 (by decide), c2.2.2.2 1 (by decide), hra.2.2.2 1 (by decide), e5.2.2.2 1 (by decide)]) (by rw [f4.2.2.1 4 (by decide), c2.2.2.1 4 (by decide), hra.2.2.1 4 (by decide), e5.2.2.1 4 (by decide)])
      rw [g1, kn_u_some]
      exact ⟨0, σe, τ5, rfl, rfl, g2, ⟨K, P, g3⟩, Or.inr ⟨rfl, g4, g5⟩⟩
  · obtain ⟨f1, f2, f3, f4⟩ := hSF
    have a4 : rg_A τ3 4 = rg_A σ3 4 := f1.2.2.2.2.1.2.1
    obtain ⟨τ4, c1, c2, c3, c4⟩ := cp τ3 f1.2.2.1.2.2.2.1 (fun v hv => by rw [a4]; exact f1.2.2.2.2.2.2.2.2.2.2 v hv)
    rw [c_is1 f2.1, kn_i_some, if_neg (by decide), (c_out34 f2.1).2.2, c1]
    have f2' : FL1 σ3 τ4 := FL1_F f2 (cF_rf [] [] [] [] σ3) c2 (by decide) (by decide)
    unfold f_rX12_round_b80
    rw [r_nodes_f (FL1_r f2') (by decide)]
    obtain ⟨σe, g1, g2, g3, g4, g5⟩ := fin_f hMB (cF_tr (cF_mono e4 (by decide) (by decide) (by decide) (by decide)) (cF_mono f3 (by decide) (by decide) (by decide) (by decide))) (cF_tr (cF_mono e5 (by decide) (by decide) (by decide) (by decide)) (cF_tr (cF_mono f4 (by decide) (by decide) (by decide) (by decide)) (cF_mono c2 (by decide) (by decide) (by decide) (by decide)))) f2' (by rw [c2.1 5 (by decide)]; exact f1.2.2.2.2.2.1.1)
      (fun k _ => by rw [f3.2.2.2 1 (by decide), e4.2.2.2 1 (by decide)]) (fun v _ => by rw [f3.2.2.1 4 (by decide), e4.2.2.1 4 (by decide)])
      (by rw [c2.2.2.2 1 (by decide), f4.2.2.2 1 (by decide), e5.2.2.2 1 (by decide)]) (by rw [c2.2.2.1 4 (by decide), f4.2.2.1 4 (by decide), e5.2.2.1 4 (by decide)])
    rw [g1, kn_u_some]
    exact ⟨0, σe, τ4, rfl, rfl, g2, ⟨K, P, g3⟩, Or.inr ⟨rfl, g4, g5⟩⟩

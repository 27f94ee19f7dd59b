/-! every call, by both: what writes -/
theorem fl_F {σ τ σ' τ' : RS} {LI LL LA LB MI ML MA MB : List Nat} (h : FL0 σ τ ∨ FL1 σ τ) (c : cF LI LL LA LB σ σ') (r : cF MI ML MA MB τ τ') (h1 : (decide (6 ∉ LI ∧ 7 ∉ LI ∧ 8 ∉ LI ∧ 9 ∉ LI ∧ 10 ∉ LI)) = true) (h2 : (decide (8 ∉ MA)) = true) : FL0 σ' τ' ∨ FL1 σ' τ' := by
  rcases h with f | f
  · exact Or.inl (FL0_F f c r (by have := of_decide_eq_true h1; exact decide_eq_true this.1) h2)
  · exact Or.inr (FL1_F f c r h1 h2)
theorem pm_0 {σ τ σ' τ' : RS} {K P B : Nat} (h : PM σ τ K P B) (h12 : rg_I σ' 12 = 0) (h7 : rg_I τ' 7 = 0) (h11 : rg_I σ' 11 = rg_I σ 11) : PM σ' τ' 0 P B := ⟨by omega, h.2.1, h12, h7, by rw [h11]; exact h.2.2.2.2.1, fun i hi => absurd hi (Nat.not_lt_zero _)⟩
theorem nlt_m1 {k : Nat} (h : k < 2 ^ 31) : ¬ nI k < -1 := fun q => by
  rw [Int32.lt_iff_toInt_lt, nI_toInt h, show (-1 : Int32).toInt = -1 from rfl] at q
  omega
theorem c_chg {σ : RS} {x : Int32} (h : ¬ x < -1) : s_cX11_changed σ x = some (x, rs_I σ 12 0) := by
  unfold s_cX11_changed
  rw [if_neg h]
  rfl
theorem c_chg0 {σ : RS} {x : Int32} (h : x < -1) : s_cX11_changed σ x = some (x, σ) := by
  unfold s_cX11_changed
  rw [if_pos h]
theorem q_node {B : Nat} {σ τ : RS} (h : RR B σ τ) : RI B (s_cX11_node σ) (s_rX12_node τ) := by
  have h' := h
  obtain ⟨T, N, E, ro, K, P, hR, hro, hF, hP, hT⟩ := h'
  have hR' := hR
  obtain ⟨⟨hT40, hN, hE, hroM⟩, hW, ⟨s1, t0, s2, t1, s3, t2, s4, t4⟩, ⟨a0, a1, a2, a3, b0⟩, ⟨b1, a4, a5, a6, b2, a7, i3, l0⟩, ⟨i5, i6⟩, dg, wf, wa, wo, wb⟩ := hR'
  unfold s_cX11_node s_cX10_addNode s_rX12_node
  rw [s2, t1]
  by_cases c : N < 12
  · rw [if_pos (show nI N < 12 from (nI_ltI (b := 12) (by omega) (by decide)).mpr c), if_neg (show ¬ nI N = 12 from fun q => by have := (nI_eq (b := 12) (by omega) (by decide)).mp q; omega), st_n c (by decide), st_n c (by decide), nI_clamp (show N < 2 ^ 31 by omega), kn_v, kn_v, kn_v, kn_i_some]
    rw [show rg_I (rs_A σ 4 (upd (rg_A σ 4) N 1)) 2 = nI N from s2, nI_1, show rg_I (rs_I (rs_A σ 4 (upd (rg_A σ 4) N 1)) 2 (nI (N + 1))) 2 = nI (N + 1) from rfl, show rg_I (rs_A τ 4 (upd (rg_A τ 4) N 1)) 1 = nI N from t1, nI_1, show rg_I (rs_I (rs_I (rs_A τ 4 (upd (rg_A τ 4) N 1)) 1 (nI (N + 1))) 7 0) 1 = nI (N + 1) from rfl, nI_pred, c_chg (nlt_m1 (by omega)), kn_i_some]
    have cs : cF [2, 12] [] [4] [] σ (rs_I (rs_I (rs_A σ 4 (upd (rg_A σ 4) N 1)) 2 (nI (N + 1))) 12 0) := cF_tr (cF_A _ _ _ (by decide)) (cF_tr (cF_I _ _ _ (by decide)) (cF_I _ _ _ (by decide)))
    have rs : cF [1, 7] [] [4] [] τ (rs_I (rs_I (rs_A τ 4 (upd (rg_A τ 4) N 1)) 1 (nI (N + 1))) 7 0) := cF_tr (cF_A _ _ _ (by decide)) (cF_tr (cF_I _ _ _ (by decide)) (cF_I _ _ _ (by decide)))
    refine ⟨nI N, _, _, rfl, rfl, T, N + 1, E, ro, 0, P, ⟨⟨hT40, by omega, hE, hroM⟩, hW, ⟨s1, t0, rfl, rfl, s3, t2, s4, t4⟩, ⟨a0, a1, a2, a3, b0⟩, ⟨b1, ?_, a5, a6, b2, a7, i3, l0⟩, ⟨i5, i6⟩, dg, ?_, wa, wo, ?_⟩, hro, fl_F hF cs rs (by decide) (by decide), pm_0 hP rfl rfl rfl, TD_F hT cs rs (by decide) (by decide)⟩
    · show upd (rg_A τ 4) N 1 = upd (rg_A σ 4) N 1
      rw [a4]
    · intro e he
      obtain ⟨⟨a, ha, ea⟩, ⟨b, hb, eb⟩⟩ := wf e he
      exact ⟨⟨a, by omega, ea⟩, ⟨b, by omega, eb⟩⟩
    · intro v hv
      show upd (rg_A σ 4) N 1 v = 0 ∨ upd (rg_A σ 4) N 1 v = 1
      by_cases z : v = N
      · subst z; exact Or.inr pk_us
      · rw [pk_un z]; exact wb v hv
  · rw [if_neg (show ¬ nI N < 12 from fun q => c ((nI_ltI (b := 12) (by omega) (by decide)).mp q)), if_pos (show nI N = 12 by rw [show N = 12 by omega]; rfl), kn_i_some, c_chg0 (by decide), kn_i_some]
    exact q_same h _
theorem cnt_upd (f : Nat → Int32) (x y : Int32) (E : Nat) : ∀ n, n ≤ E → cnt (upd f E x) y n = cnt f y n
  | 0, _ => rfl
  | n + 1, h => by
    unfold cnt
    rw [cnt_upd f x y E n (by omega), pk_un (show n ≠ E by omega)]
theorem cnt_new (f : Nat → Int32) (x y : Int32) (E : Nat) : cnt (upd f E x) y (E + 1) = cnt f y E + (if x = y then 1 else 0) := by
  show cnt (upd f E x) y E + (if upd f E x E = y then 1 else 0) = _
  rw [cnt_upd f x y E E (Nat.le_refl _), pk_us]
theorem q_arc {B : Nat} {σ τ : RS} (h : RR B σ τ) (x1 x2 : Int32) (x3 : Int64) : RI B (s_cX11_arc σ x1 x2 x3) (s_rX12_arc τ x1 x2 x3) := by
  have h' := h
  obtain ⟨T, N, E, ro, K, P, hR, hro, hF, hP, hT⟩ := h'
  have hR' := hR
  obtain ⟨⟨hT40, hN, hE, hroM⟩, hW, ⟨s1, t0, s2, t1, s3, t2, s4, t4⟩, ⟨a0, a1, a2, a3, b0⟩, ⟨b1, a4, a5, a6, b2, a7, i3, l0⟩, ⟨i5, i6⟩, dg, wf, wa, wo, wb⟩ := hR'
  unfold s_cX11_arc s_cX10_addArc s_rX12_arc
  rcases n_d (σ := σ) (τ := τ) x1 (show N < 1000 by omega) s2 t1 with ⟨a, ha, rfl, e1, e2⟩ | ⟨e1, e2⟩
  · rw [e1, kn_i_some, if_neg ne10, e2, kn_i_some, if_neg ne10]
    rcases n_d (σ := σ) (τ := τ) x2 (show N < 1000 by omega) s2 t1 with ⟨b, hb, rfl, e1, e2⟩ | ⟨e1, e2⟩
    · rw [e1, kn_i_some, if_neg ne10, e2, kn_i_some, if_neg ne10, s3, t2]
      by_cases c : E < 40
      · rw [if_pos (show nI E < 40 from (nI_ltI (b := 40) (by omega) (by decide)).mpr c), if_neg (show ¬ nI E = 40 from fun q => by have := (nI_eq (b := 40) (by omega) (by decide)).mp q; omega)]
        simp only [kn_v]
        rw [st_n c (by decide), nI_clamp (show E < 2 ^ 31 by omega), show rg_I (rs_A σ 6 (upd (rg_A σ 6) E (nI a))) 3 = nI E from s3, st_n c (by decide), nI_clamp (show E < 2 ^ 31 by omega), show rg_I (rs_A (rs_A σ 6 (upd (rg_A σ 6) E (nI a))) 7 (upd (rg_A (rs_A σ 6 (upd (rg_A σ 6) E (nI a))) 7) E (nI b))) 3 = nI E from s3, st_n c (by decide), nI_clamp (show E < 2 ^ 31 by omega), ld_n (show a < 12 by omega) (by decide), st_n (show a < 12 by omega) (by decide), nI_clamp (show a < 2 ^ 31 by omega)]
        rw [st_n c (by decide), show rg_I (rs_A τ 5 (upd (rg_A τ 5) E (nI a))) 2 = nI E from t2, st_n c (by decide), nI_clamp (show E < 2 ^ 31 by omega), show rg_I (rs_A (rs_A τ 5 (upd (rg_A τ 5) E (nI a))) 6 (upd (rg_A (rs_A τ 5 (upd (rg_A τ 5) E (nI a))) 6) E (nI b))) 2 = nI E from t2, st_n c (by decide), nI_clamp (show E < 2 ^ 31 by omega)]
        rw [show rg_A (rs_B (rs_A (rs_A σ 6 (upd (rg_A σ 6) E (nI a))) 7 (upd (rg_A (rs_A σ 6 (upd (rg_A σ 6) E (nI a))) 7) E (nI b))) 2 (vp_updL (rg_B (rs_A (rs_A σ 6 (upd (rg_A σ 6) E (nI a))) 7 (upd (rg_A (rs_A σ 6 (upd (rg_A σ 6) E (nI a))) 7) E (nI b))) 2) E x3)) 5 = rg_A σ 5 from rfl, dg a (by omega), nI_1]
        have cs0 : cF [3] [] [5, 6, 7] [2] σ (rs_I (rs_A (rs_B (rs_A (rs_A σ 6 (upd (rg_A σ 6) E (nI a))) 7 (upd (rg_A σ 7) E (nI b))) 2 (vp_updL (rg_B σ 2) E x3)) 5 (upd (rg_A σ 5) a (nI (cnt (rg_A σ 6) (nI a) E + 1)))) 3 (nI (E + 1))) := cF_tr (cF_A _ _ _ (by decide)) (cF_tr (cF_A _ _ _ (by decide)) (cF_tr (cF_B _ _ _ (by decide)) (cF_tr (cF_A _ _ _ (by decide)) (cF_I _ _ _ (by decide)))))
        have rs : cF [2, 7] [] [5, 6] [2] τ (rs_I (rs_I (rs_B (rs_A (rs_A τ 5 (upd (rg_A τ 5) E (nI a))) 6 (upd (rg_A τ 6) E (nI b))) 2 (vp_updL (rg_B τ 2) E x3)) 2 (nI (E + 1))) 7 0) := cF_tr (cF_A _ _ _ (by decide)) (cF_tr (cF_A _ _ _ (by decide)) (cF_tr (cF_B _ _ _ (by decide)) (cF_tr (cF_I _ _ _ (by decide)) (cF_I _ _ _ (by decide)))))
        have E1 : ∀ (s : RS), rg_I s 3 = nI E → some (rg_I (rs_I s 3 (rg_I s 3 + 1)) 3 - 1, rs_I s 3 (rg_I s 3 + 1)) = some (nI E, rs_I s 3 (nI (E + 1))) := by
          intro s hs
          rw [hs, nI_1, show rg_I (rs_I s 3 (nI (E + 1))) 3 = nI (E + 1) from rfl, nI_pred]
        have E2 : ∀ (s : RS), rg_I s 2 = nI E → some (rg_I (rs_I (rs_I s 2 (rg_I s 2 + 1)) 7 0) 2 - 1, rs_I (rs_I s 2 (rg_I s 2 + 1)) 7 0) = some (nI E, rs_I (rs_I s 2 (nI (E + 1))) 7 0) := by
          intro s hs
          rw [hs, nI_1, show rg_I (rs_I (rs_I s 2 (nI (E + 1))) 7 0) 2 = nI (E + 1) from rfl, nI_pred]
        rw [E1 _ (by exact s3), E2 _ (by exact t2), kn_i_some, c_chg (nlt_m1 (by omega)), kn_i_some]
        have cs : cF [3, 12] [] [5, 6, 7] [2] σ (rs_I (rs_I (rs_A (rs_B (rs_A (rs_A σ 6 (upd (rg_A σ 6) E (nI a))) 7 (upd (rg_A σ 7) E (nI b))) 2 (vp_updL (rg_B σ 2) E x3)) 5 (upd (rg_A σ 5) a (nI (cnt (rg_A σ 6) (nI a) E + 1)))) 3 (nI (E + 1))) 12 0) := cF_tr (cF_mono cs0 (by decide) (by decide) (by decide) (by decide)) (cF_I _ _ _ (by decide))
        refine ⟨nI E, (rs_I (rs_I (rs_A (rs_B (rs_A (rs_A σ 6 (upd (rg_A σ 6) E (nI a))) 7 (upd (rg_A σ 7) E (nI b))) 2 (vp_updL (rg_B σ 2) E x3)) 5 (upd (rg_A σ 5) a (nI (cnt (rg_A σ 6) (nI a) E + 1)))) 3 (nI (E + 1))) 12 0), (rs_I (rs_I (rs_B (rs_A (rs_A τ 5 (upd (rg_A τ 5) E (nI a))) 6 (upd (rg_A τ 6) E (nI b))) 2 (vp_updL (rg_B τ 2) E x3)) 2 (nI (E + 1))) 7 0), rfl, rfl, T, N, E + 1, ro, 0, P, ⟨⟨hT40, hN, by omega, hroM⟩, hW, ⟨s1, t0, s2, t1, rfl, rfl, s4, t4⟩, ⟨a0, a1, a2, a3, b0⟩, ⟨b1, a4, ?_, ?_, ?_, a7, i3, l0⟩, ⟨i5, i6⟩, ?_, ?_, wa, wo, wb⟩, hro, fl_F hF cs rs (by decide) (by decide), pm_0 hP rfl rfl rfl, TD_F hT cs rs (by decide) (by decide)⟩
        · show upd (rg_A τ 5) E (nI a) = upd (rg_A σ 6) E (nI a)
          rw [a5]
        · show upd (rg_A τ 6) E (nI b) = upd (rg_A σ 7) E (nI b)
          rw [a6]
        · show vp_updL (rg_B τ 2) E x3 = vp_updL (rg_B σ 2) E x3
          rw [b2]
        · intro v hv
          show upd (rg_A σ 5) a (nI (cnt (rg_A σ 6) (nI a) E + 1)) v = nI (cnt (upd (rg_A σ 6) E (nI a)) (nI v) (E + 1))
          rw [cnt_new]
          by_cases z : v = a
          · subst z; rw [pk_us, if_pos rfl]
          · rw [pk_un z, if_neg (fun q => z ((nI_eq (by omega) (by omega)).mp q).symm), Nat.add_zero]; exact dg v hv
        · intro e he
          show (∃ q, q < N ∧ upd (rg_A σ 6) E (nI a) e = nI q) ∧ (∃ q, q < N ∧ upd (rg_A σ 7) E (nI b) e = nI q)
          by_cases z : e = E
          · subst z; rw [pk_us, pk_us]; exact ⟨⟨a, ha, rfl⟩, ⟨b, hb, rfl⟩⟩
          · rw [pk_un z, pk_un z]; exact wf e (by omega)
      · rw [if_neg (show ¬ nI E < 40 from fun q => c ((nI_ltI (b := 40) (by omega) (by decide)).mp q)), if_pos (show nI E = 40 by rw [show E = 40 by omega]; rfl), kn_i_some, c_chg0 (by decide), kn_i_some]
        exact q_same h _
    · rw [e1, kn_i_some, if_pos rfl, kn_i_some, c_chg0 (by decide), kn_i_some, e2, kn_i_some, if_pos rfl]
      exact q_same h _
  · rw [e1, kn_i_some, if_pos rfl, kn_i_some, c_chg0 (by decide), kn_i_some, e2, kn_i_some, if_pos rfl]
    exact q_same h _
theorem q_put {B : Nat} {σ τ : RS} (h : RR B σ τ) (x1 x2 : Int32) (x3 : Int64) : RI B (s_cX11_put σ x1 x2 x3) (s_rX12_put τ x1 x2 x3) := by
  have h' := h
  obtain ⟨T, N, E, ro, K, P, hR, hro, hF, hP, hT⟩ := h'
  have hN : N ≤ 12 := hR.1.2.1
  unfold s_cX11_put s_rX12_put
  rcases n_d (σ := σ) (τ := τ) x1 (show N < 1000 by omega) hR.2.2.1.2.2.1 hR.2.2.1.2.2.2.1 with ⟨k, hk, rfl, e1, e2⟩ | ⟨e1, e2⟩
  · rw [e1, kn_i_some, if_neg ne10, e2, kn_i_some, if_neg ne10]
    rcases is_d x2 with ⟨j, hj, rfl, e3, e4⟩ | ⟨e3, e4⟩
    · rw [e3, kn_i_some, if_neg ne10, e4, kn_i_some, if_neg ne10, ix3', n3, nI_add, st_n (show k * 3 + j < 36 by omega) (by decide), st_n (show k * 3 + j < 36 by omega) (by decide), nI_clamp (show k * 3 + j < 2 ^ 31 by omega), c_chg (by decide), kn_i_some, kn_v]
      have cs : cF [12] [] [] [1] σ (rs_I (rs_B σ 1 (vp_updL (rg_B σ 1) (k * 3 + j) x3)) 12 0) := cF_tr (cF_B _ _ _ (by decide)) (cF_I _ _ _ (by decide))
      have rs : cF [7] [] [] [1] τ (rs_I (rs_B τ 1 (vp_updL (rg_B τ 1) (k * 3 + j) x3)) 7 0) := cF_tr (cF_B _ _ _ (by decide)) (cF_I _ _ _ (by decide))
      refine ⟨1, _, _, rfl, rfl, T, N, E, ro, 0, P, RC_dyn hR cs rs (by decide) (by decide) hR.2.2.2.2.2.1.1 ?_ hR.2.2.2.2.1.2.1 hR.2.2.2.2.1.2.2.2.2.2.2.2 hR.2.2.1.2.2.2.2.2.2.1 hR.2.2.1.2.2.2.2.2.2.2 hR.1.2.2.2 hR.2.2.2.2.2.2.2.2.2.2, hro, fl_F hF cs rs (by decide) (by decide), pm_0 hP rfl rfl rfl, TD_F hT cs rs (by decide) (by decide)⟩
      show vp_updL (rg_B τ 1) (k * 3 + j) x3 = vp_updL (rg_B σ 1) (k * 3 + j) x3
      rw [hR.2.2.2.2.1.1]
    · rw [e3, kn_i_some, if_pos rfl, e4, kn_i_some, if_pos rfl]
      exact q_same h _
  · rw [e1, kn_i_some, if_pos rfl, e2, kn_i_some, if_pos rfl]
    exact q_same h _
theorem q_wake {B : Nat} {σ τ : RS} (h : RR B σ τ) (x1 x2 : Int32) : RI B (s_cX11_wake σ x1 x2) (s_rX12_wake τ x1 x2) := by
  have h' := h
  obtain ⟨T, N, E, ro, K, P, hR, hro, hF, hP, hT⟩ := h'
  have hN : N ≤ 12 := hR.1.2.1
  have wb : ∀ v, v < 12 → rg_A σ 4 v = 0 ∨ rg_A σ 4 v = 1 := hR.2.2.2.2.2.2.2.2.2.2
  unfold s_cX11_wake s_rX12_wake
  rcases n_d (σ := σ) (τ := τ) x1 (show N < 1000 by omega) hR.2.2.1.2.2.1 hR.2.2.1.2.2.2.1 with ⟨k, hk, rfl, e1, e2⟩ | ⟨e1, e2⟩
  · rw [e1, kn_i_some, if_neg ne10, e2, kn_i_some, if_neg ne10, kn_v, ld_n (show k < 12 by omega) (by decide), ld_n (show k < 12 by omega) (by decide), show rg_A (rs_I τ 7 0) 4 k = rg_A σ 4 k from congrFun hR.2.2.2.2.1.2.1 k]
    have go : ∀ s0 : Int32, ¬ s0 < -1 → RI B (s_cX11_wake_b32 σ (nI k) x2 s0) (s_rX12_wake_b31 (rs_I τ 7 0) (nI k) x2 s0) := by
      intro s0 hs0
      unfold s_cX11_wake_b32 s_rX12_wake_b31
      rw [st_n (show k < 12 by omega) (by decide), st_n (show k < 12 by omega) (by decide), nI_clamp (show k < 2 ^ 31 by omega), c_chg hs0, kn_i_some]
      have cs : cF [12] [] [4] [] σ (rs_I (rs_A σ 4 (upd (rg_A σ 4) k (vp_nar .boolean x2))) 12 0) := cF_tr (cF_A _ _ _ (by decide)) (cF_I _ _ _ (by decide))
      have rs : cF [7] [] [4] [] τ (rs_A (rs_I τ 7 0) 4 (upd (rg_A (rs_I τ 7 0) 4) k (vp_nar .boolean x2))) := cF_tr (cF_I _ _ _ (by decide)) (cF_A _ _ _ (by decide))
      refine ⟨s0, _, _, rfl, rfl, T, N, E, ro, 0, P, RC_dyn hR cs rs (by decide) (by decide) hR.2.2.2.2.2.1.1 hR.2.2.2.2.1.1 ?_ hR.2.2.2.2.1.2.2.2.2.2.2.2 hR.2.2.1.2.2.2.2.2.2.1 hR.2.2.1.2.2.2.2.2.2.2 hR.1.2.2.2 ?_, hro, fl_F hF cs rs (by decide) (by decide), pm_0 hP rfl rfl rfl, TD_F hT cs rs (by decide) (by decide)⟩
      · show upd (rg_A τ 4) k (vp_nar .boolean x2) = upd (rg_A σ 4) k (vp_nar .boolean x2)
        rw [hR.2.2.2.2.1.2.1]
      · intro v hv
        show upd (rg_A σ 4) k (vp_nar .boolean x2) v = 0 ∨ upd (rg_A σ 4) k (vp_nar .boolean x2) v = 1
        by_cases z : v = k
        · subst z; rw [pk_us]; exact bit_nar x2
        · rw [pk_un z]; exact wb v hv
    by_cases c : rg_A σ 4 k = x2
    · rw [if_pos c, if_pos c]; exact go 0 (by decide)
    · rw [if_neg c, if_neg c]; exact go 1 (by decide)
  · rw [e1, kn_i_some, if_pos rfl, e2, kn_i_some, if_pos rfl]
    exact q_same h _
theorem q_act {B : Nat} {σ τ : RS} (h : RR B σ τ) (x1 x2 : Int32) : RI B (s_cX11_act σ x1 x2) (s_rX12_act τ x1 x2) := by
  have h' := h
  obtain ⟨T, N, E, ro, K, P, hR, hro, hF, hP, hT⟩ := h'
  have hR' := hR
  obtain ⟨⟨hT40, hN, hE, hroM⟩, hW, ⟨s1, t0, s2, t1, s3, t2, s4, t4⟩, ⟨a0, a1, a2, a3, b0⟩, ⟨b1, a4, a5, a6, b2, a7, i3, l0⟩, ⟨i5, i6⟩, dg, wf, wa, wo, wb⟩ := hR'
  have go : (x2 = -1 ∨ ∃ t, t < T ∧ x2 = nI t) → RI B (s_cX11_act_b19 σ x1 x2) (s_rX12_act_b16 τ x1 x2) := by
    intro hx
    unfold s_cX11_act_b19 s_rX12_act_b16
    rcases lim_d (x := x1) (M := 6) (m := 6) (by decide) rfl with ⟨k, hk, e1, h1, h2, h3⟩ | ⟨h1, h3⟩
    · rw [if_neg h1, h3, kn_i_some, if_neg ne10, e1, if_pos (show nI k < 7 from (nI_ltI (b := 7) (by omega) (by decide)).mpr (by omega)), ld_n (show k < 7 by omega) (by decide), ld_n (show k < 7 by omega) (by decide), st_n (show k < 7 by omega) (by decide), st_n (show k < 7 by omega) (by decide), nI_clamp (show k < 2 ^ 31 by omega), kn_v, c_chg (by
        rcases wa k (by omega) with q | ⟨t, ht, q⟩
        · rw [q]; decide
        · rw [q]; exact nlt_m1 (by omega)), kn_i_some, show rg_A τ 7 k = rg_A σ 8 k from congrFun a7 k]
      have cs : cF [12] [] [8] [] σ (rs_I (rs_A σ 8 (upd (rg_A σ 8) k x2)) 12 0) := cF_tr (cF_A _ _ _ (by decide)) (cF_I _ _ _ (by decide))
      have rs : cF [7] [] [7] [] τ (rs_I (rs_A τ 7 (upd (rg_A τ 7) k x2)) 7 0) := cF_tr (cF_A _ _ _ (by decide)) (cF_I _ _ _ (by decide))
      refine ⟨rg_A σ 8 k, _, _, rfl, rfl, T, N, E, ro, 0, P, ⟨⟨hT40, hN, hE, hroM⟩, hW, ⟨s1, t0, s2, t1, s3, t2, s4, t4⟩, ⟨a0, a1, a2, a3, b0⟩, ⟨b1, a4, a5, a6, b2, ?_, i3, l0⟩, ⟨i5, i6⟩, dg, wf, ?_, wo, wb⟩, hro, fl_F hF cs rs (by decide) (by decide), pm_0 hP rfl rfl rfl, TD_F hT cs rs (by decide) (by decide)⟩
      · show upd (rg_A τ 7) k x2 = upd (rg_A σ 8) k x2
        rw [a7]
      · intro a ha
        show upd (rg_A σ 8) k x2 a = -1 ∨ ∃ t, t < T ∧ upd (rg_A σ 8) k x2 a = nI t
        by_cases z : a = k
        · subst z; rw [pk_us]; exact hx
        · rw [pk_un z]; exact wa a ha
    · rw [h3, kn_i_some, if_pos rfl]
      rcases h1 with h1 | ⟨h1, h2⟩
      · rw [if_pos h1]; exact q_same h _
      · rw [if_neg h1, if_neg (fun q => h2 (by
          rw [Int32.lt_iff_toInt_lt] at q
          rw [Int32.le_iff_toInt_le]
          have e6 : (6 : Int32).toInt = 6 := rfl
          have e7 : (7 : Int32).toInt = 7 := rfl
          omega))]
        exact q_same h _
  unfold s_cX11_act s_rX12_act
  by_cases c : x2 = -1
  · rw [if_pos c, if_pos c]; exact go (Or.inl c)
  · rw [if_neg c, if_neg c]
    rcases t_d (σ := σ) (τ := τ) x2 (show T < 1000 by omega) s1 t0 with ⟨t, ht, e, e1, e2⟩ | ⟨e1, e2⟩
    · rw [e1, kn_i_some, if_neg ne10, e2, kn_i_some, if_neg ne10]; exact go (Or.inr ⟨t, ht, e⟩)
    · rw [e1, kn_i_some, if_pos rfl, e2, kn_i_some, if_pos rfl]; exact q_same h _
theorem q_fold {B : Nat} {σ τ : RS} (h : RR B σ τ) (x1 : Int32) : RI B (s_cX11_fold σ x1) (s_rX12_fold τ x1) := by
  have h' := h
  obtain ⟨T, N, E, ro, K, P, hR, hro, hF, hP, hT⟩ := h'
  have hR' := hR
  obtain ⟨⟨hT40, hN, hE, hroM⟩, hW, ⟨s1, t0, s2, t1, s3, t2, s4, t4⟩, ⟨a0, a1, a2, a3, b0⟩, ⟨b1, a4, a5, a6, b2, a7, i3, l0⟩, ⟨i5, i6⟩, dg, wf, wa, wo, wb⟩ := hR'
  unfold s_cX11_fold s_rX12_fold
  rcases lim_d (x := x1) (M := 3) (m := 3) (by decide) rfl with ⟨k, hk, e1, h1, h2, h3⟩ | ⟨h1, h3⟩
  · rw [if_neg h1, if_pos h2, h3, kn_i_some, if_neg ne10]
    simp only [kn_v]
    obtain ⟨f, hf, ef⟩ := wo
    rw [c_chg (by rw [ef]; exact nlt_m1 (by omega)), kn_i_some, i3]
    have cs : cF [5, 12] [] [] [] σ (rs_I (rs_I σ 5 x1) 12 0) := cF_tr (cF_I _ _ _ (by decide)) (cF_I _ _ _ (by decide))
    have rs : cF [3, 7] [] [] [] τ (rs_I (rs_I τ 3 x1) 7 0) := cF_tr (cF_I _ _ _ (by decide)) (cF_I _ _ _ (by decide))
    exact ⟨rg_I σ 5, _, _, rfl, rfl, T, N, E, ro, 0, P, ⟨⟨hT40, hN, hE, hroM⟩, hW, ⟨s1, t0, s2, t1, s3, t2, s4, t4⟩, ⟨a0, a1, a2, a3, b0⟩, ⟨b1, a4, a5, a6, b2, a7, rfl, l0⟩, ⟨i5, i6⟩, dg, wf, wa, ⟨k, hk, e1⟩, wb⟩, hro, fl_F hF cs rs (by decide) (by decide), pm_0 hP rfl rfl rfl, TD_F hT cs rs (by decide) (by decide)⟩
  · rw [h3, kn_i_some, if_pos rfl]
    rcases h1 with h1 | ⟨h1, h2⟩
    · rw [if_pos h1]; exact q_same h _
    · rw [if_neg h1, if_neg h2]; exact q_same h _

/-! term, ask and undo, by both -/
theorem c_parts (σ : RS) (k : Nat) (hk : k ≤ 17) : s_cX8_partsOf σ (nI k) = some (if k < 8 then 0 else if k = 16 then 3 else if k = 17 then 1 else 2, σ) := by
  unfold s_cX8_partsOf
  rcases (show k < 8 ∨ 8 ≤ k by omega) with h | h
  · rw [if_neg (show ¬ 8 ≤ nI k from fun q => by have := (nI_leI (a := 8) (by decide) (by omega)).mp q; omega), if_pos h]
  · rw [if_pos (show 8 ≤ nI k from (nI_leI (a := 8) (by decide) (by omega)).mpr h), if_neg (show ¬ k < 8 by omega)]
    by_cases c : k = 16
    · rw [if_pos c, if_pos (show nI k = 16 by rw [c]; rfl)]
    · rw [if_neg c, if_neg (show ¬ nI k = 16 from fun q => c ((nI_eq (b := 16) (by omega) (by decide)).mp q))]
      by_cases d : k = 17
      · rw [if_pos d, if_pos (show nI k = 17 by rw [d]; rfl)]
      · rw [if_neg d, if_neg (show ¬ nI k = 17 from fun q => d ((nI_eq (b := 17) (by omega) (by decide)).mp q))]
theorem q_term {B : Nat} {σ τ : RS} (h : RR B σ τ) (x1 x2 x3 x4 : Int32) (x5 : Int64) : RI B (s_cX11_term σ x1 x2 x3 x4 x5) (s_rX12_term τ x1 x2 x3 x4 x5) := by
  have h' := h
  obtain ⟨T, N, E, ro, K, P, hR, hro, hF, hP, hT⟩ := h'
  have hR' := hR
  obtain ⟨⟨hT40, hN, hE, hroM⟩, hW, ⟨s1, t0, s2, t1, s3, t2, s4, t4⟩, ⟨a0, a1, a2, a3, b0⟩, ⟨b1, a4, a5, a6, b2, a7, i3, l0⟩, ⟨i5, i6⟩, dg, wf, wa, wo, wb⟩ := hR'
  unfold s_cX11_term
  refine RI_l ?_
  unfold s_cX8_add s_rX12_term
  rcases lim_d (x := x1) (M := 17) (m := 17) (by decide) rfl with ⟨k, hk, e1, h1, h2, h3⟩ | ⟨h1, h3⟩
  · rw [if_neg h1, if_pos h2, h3, kn_i_some, if_neg ne10]
    subst e1
    rw [c_parts σ k hk, kn_i_some]
    -- the end: the row is written
    have fin : (k = 1 → ∃ n, n < 3 ∧ x5 = lN n) → (8 ≤ k → ∃ a, a < T ∧ x2 = nI a) → (8 ≤ k → k ≠ 17 → ∃ b, b < T ∧ x3 = nI b) → (k = 16 → ∃ c, c < T ∧ x4 = nI c) → RI B (s_cX8_add_b86 σ (nI k) x2 x3 x4 x5) (s_rX12_term_b89 τ (nI k) x2 x3 x4 x5) := by
      intro p1 p2 p3 p4
      unfold s_cX8_add_b86 s_rX12_term_b89
      rw [s1, t0]
      by_cases c : T < 40
      · rw [if_pos (show nI T < 40 from (nI_ltI (b := 40) (by omega) (by decide)).mpr c), if_neg (show ¬ nI T = 40 from fun q => by have := (nI_eq (b := 40) (by omega) (by decide)).mp q; omega)]
        simp only [kn_v]
        have w1 : ∀ (s : RS) (g : RS → Option (Int32 × RS)), rg_I s 1 = nI T → kn_st s 40 (rg_I s 1) g = g s := fun s g hs => by rw [hs]; exact st_n c (by decide)
        have w2 : ∀ (s : RS) (g : RS → Option (Int32 × RS)), rg_I s 0 = nI T → kn_st s 40 (rg_I s 0) g = g s := fun s g hs => by rw [hs]; exact st_n c (by decide)
        have ec : kn_st (rs_A σ 0 (upd (rg_A σ 0) (nI T).toNatClampNeg (nI k))) 40 (nI T) (fun σ1 => kn_st (rs_A σ1 1 (upd (rg_A σ1 1) (rg_I σ1 1).toNatClampNeg x2)) 40 (rg_I σ1 1) (fun σ2 => kn_st (rs_A σ2 2 (upd (rg_A σ2 2) (rg_I σ2 1).toNatClampNeg x3)) 40 (rg_I σ2 1) (fun σ3 => kn_st (rs_A σ3 3 (upd (rg_A σ3 3) (rg_I σ3 1).toNatClampNeg x4)) 40 (rg_I σ3 1) (fun σ4 => kn_st (rs_B σ4 0 (vp_updL (rg_B σ4 0) (rg_I σ4 1).toNatClampNeg x5)) 40 (rg_I σ4 1) (fun σ5 => some (rg_I (rs_I σ5 1 (rg_I σ5 1 + 1)) 1 - 1, rs_I σ5 1 (rg_I σ5 1 + 1))))))) = some (nI T, rs_I (rs_B (rs_A (rs_A (rs_A (rs_A σ 0 (upd (rg_A σ 0) T (nI k))) 1 (upd (rg_A σ 1) T x2)) 2 (upd (rg_A σ 2) T x3)) 3 (upd (rg_A σ 3) T x4)) 0 (vp_updL (rg_B σ 0) T x5)) 1 (nI (T + 1))) := by
          rw [st_n c (by decide), nI_clamp (show T < 2 ^ 31 by omega), show rg_I (rs_A σ 0 (upd (rg_A σ 0) T (nI k))) 1 = nI T from s1, st_n c (by decide), nI_clamp (show T < 2 ^ 31 by omega)]
          rw [show ∀ f g, rg_I (rs_A (rs_A σ 0 f) 1 g) 1 = nI T from fun _ _ => s1, st_n c (by decide), nI_clamp (show T < 2 ^ 31 by omega)]
          rw [show ∀ f g g2, rg_I (rs_A (rs_A (rs_A σ 0 f) 1 g) 2 g2) 1 = nI T from fun _ _ _ => s1, st_n c (by decide), nI_clamp (show T < 2 ^ 31 by omega)]
          rw [show ∀ f g g2 g3, rg_I (rs_A (rs_A (rs_A (rs_A σ 0 f) 1 g) 2 g2) 3 g3) 1 = nI T from fun _ _ _ _ => s1, st_n c (by decide), nI_clamp (show T < 2 ^ 31 by omega)]
          rw [show ∀ f g g2 g3 g4, rg_I (rs_B (rs_A (rs_A (rs_A (rs_A σ 0 f) 1 g) 2 g2) 3 g3) 0 g4) 1 = nI T from fun _ _ _ _ _ => s1, nI_1, show ∀ s, rg_I (rs_I s 1 (nI (T + 1))) 1 = nI (T + 1) from fun _ => rfl, nI_pred]
          rfl
        have er : kn_st (rs_A τ 0 (upd (rg_A τ 0) (nI T).toNatClampNeg (nI k))) 40 (nI T) (fun σ1 => kn_st (rs_A σ1 1 (upd (rg_A σ1 1) (rg_I σ1 0).toNatClampNeg x2)) 40 (rg_I σ1 0) (fun σ2 => kn_st (rs_A σ2 2 (upd (rg_A σ2 2) (rg_I σ2 0).toNatClampNeg x3)) 40 (rg_I σ2 0) (fun σ3 => kn_st (rs_A σ3 3 (upd (rg_A σ3 3) (rg_I σ3 0).toNatClampNeg x4)) 40 (rg_I σ3 0) (fun σ4 => kn_st (rs_B σ4 0 (vp_updL (rg_B σ4 0) (rg_I σ4 0).toNatClampNeg x5)) 40 (rg_I σ4 0) (fun σ5 => some (rg_I (rs_I σ5 0 (rg_I σ5 0 + 1)) 0 - 1, rs_I σ5 0 (rg_I σ5 0 + 1))))))) = some (nI T, rs_I (rs_B (rs_A (rs_A (rs_A (rs_A τ 0 (upd (rg_A τ 0) T (nI k))) 1 (upd (rg_A τ 1) T x2)) 2 (upd (rg_A τ 2) T x3)) 3 (upd (rg_A τ 3) T x4)) 0 (vp_updL (rg_B τ 0) T x5)) 0 (nI (T + 1))) := by
          rw [st_n c (by decide), nI_clamp (show T < 2 ^ 31 by omega), show rg_I (rs_A τ 0 (upd (rg_A τ 0) T (nI k))) 0 = nI T from t0, st_n c (by decide), nI_clamp (show T < 2 ^ 31 by omega)]
          rw [show ∀ f g, rg_I (rs_A (rs_A τ 0 f) 1 g) 0 = nI T from fun _ _ => t0, st_n c (by decide), nI_clamp (show T < 2 ^ 31 by omega)]
          rw [show ∀ f g g2, rg_I (rs_A (rs_A (rs_A τ 0 f) 1 g) 2 g2) 0 = nI T from fun _ _ _ => t0, st_n c (by decide), nI_clamp (show T < 2 ^ 31 by omega)]
          rw [show ∀ f g g2 g3, rg_I (rs_A (rs_A (rs_A (rs_A τ 0 f) 1 g) 2 g2) 3 g3) 0 = nI T from fun _ _ _ _ => t0, st_n c (by decide), nI_clamp (show T < 2 ^ 31 by omega)]
          rw [show ∀ f g g2 g3 g4, rg_I (rs_B (rs_A (rs_A (rs_A (rs_A τ 0 f) 1 g) 2 g2) 3 g3) 0 g4) 0 = nI T from fun _ _ _ _ _ => t0, nI_1, show ∀ s, rg_I (rs_I s 0 (nI (T + 1))) 0 = nI (T + 1) from fun _ => rfl, nI_pred]
          rfl
        rw [ec, er]
        have cs : cF [1] [] [0, 1, 2, 3] [0] σ (rs_I (rs_B (rs_A (rs_A (rs_A (rs_A σ 0 (upd (rg_A σ 0) T (nI k))) 1 (upd (rg_A σ 1) T x2)) 2 (upd (rg_A σ 2) T x3)) 3 (upd (rg_A σ 3) T x4)) 0 (vp_updL (rg_B σ 0) T x5)) 1 (nI (T + 1))) := cF_tr (cF_A _ _ _ (by decide)) (cF_tr (cF_A _ _ _ (by decide)) (cF_tr (cF_A _ _ _ (by decide)) (cF_tr (cF_A _ _ _ (by decide)) (cF_tr (cF_B _ _ _ (by decide)) (cF_I _ _ _ (by decide))))))
        have rs : cF [0] [] [0, 1, 2, 3] [0] τ (rs_I (rs_B (rs_A (rs_A (rs_A (rs_A τ 0 (upd (rg_A τ 0) T (nI k))) 1 (upd (rg_A τ 1) T x2)) 2 (upd (rg_A τ 2) T x3)) 3 (upd (rg_A τ 3) T x4)) 0 (vp_updL (rg_B τ 0) T x5)) 0 (nI (T + 1))) := cF_tr (cF_A _ _ _ (by decide)) (cF_tr (cF_A _ _ _ (by decide)) (cF_tr (cF_A _ _ _ (by decide)) (cF_tr (cF_A _ _ _ (by decide)) (cF_tr (cF_B _ _ _ (by decide)) (cF_I _ _ _ (by decide))))))
        refine ⟨nI T, _, _, rfl, rfl, T + 1, N, E, ro, K, P, ⟨⟨by omega, hN, hE, hroM⟩, ?_, ⟨rfl, rfl, s2, t1, s3, t2, s4, t4⟩, ⟨?_, ?_, ?_, ?_, ?_⟩, ⟨b1, a4, a5, a6, b2, a7, i3, l0⟩, ⟨i5, i6⟩, dg, wf, fun a ha => ?_, wo, wb⟩, hro, fl_F hF cs rs (by decide) (by decide), PM_F hP cs rs (by decide) (by decide), TD_F hT cs rs (by decide) (by decide)⟩
        · intro t ht
          show ∃ q, q ≤ 17 ∧ upd (rg_A σ 0) T (nI k) t = nI q ∧ (q = 1 → ∃ n, n < 3 ∧ vp_updL (rg_B σ 0) T x5 t = lN n) ∧ (8 ≤ q → ∃ a, a < t ∧ upd (rg_A σ 1) T x2 t = nI a) ∧ (8 ≤ q → q ≠ 17 → ∃ b, b < t ∧ upd (rg_A σ 2) T x3 t = nI b) ∧ (q = 16 → ∃ c, c < t ∧ upd (rg_A σ 3) T x4 t = nI c)
          by_cases z : t = T
          · subst z
            rw [pk_us, pk_us, pk_us, pk_us, pk_uLs]
            exact ⟨k, hk, rfl, p1, p2, p3, p4⟩
          · rw [pk_un z, pk_un z, pk_un z, pk_un z, pk_uLn z]
            exact hW t (by omega)
        · show upd (rg_A τ 0) T (nI k) = upd (rg_A σ 0) T (nI k)
          rw [a0]
        · show upd (rg_A τ 1) T x2 = upd (rg_A σ 1) T x2
          rw [a1]
        · show upd (rg_A τ 2) T x3 = upd (rg_A σ 2) T x3
          rw [a2]
        · show upd (rg_A τ 3) T x4 = upd (rg_A σ 3) T x4
          rw [a3]
        · show vp_updL (rg_B τ 0) T x5 = vp_updL (rg_B σ 0) T x5
          rw [b0]
        · rcases wa a ha with q | ⟨t, ht, q⟩
          · exact Or.inl q
          · exact Or.inr ⟨t, by omega, q⟩
      · rw [if_neg (show ¬ nI T < 40 from fun q => c ((nI_ltI (b := 40) (by omega) (by decide)).mp q)), if_pos (show nI T = 40 by rw [show T = 40 by omega]; rfl)]
        exact q_same h _
    -- no part, no number
    have fin0 : k ≠ 1 → (8 ≤ k → ∃ a, a < T ∧ x2 = nI a) → (8 ≤ k → k ≠ 17 → ∃ b, b < T ∧ x3 = nI b) → (k = 16 → ∃ c, c < T ∧ x4 = nI c) → RI B (s_cX8_add_b70 σ (nI k) x2 x3 x4 x5) (s_rX12_term_b65 τ (nI k) x2 x3 x4 x5) := by
      intro p1 p2 p3 p4
      unfold s_cX8_add_b70 s_rX12_term_b65
      have z : ¬ nI k = 1 := fun q => p1 ((nI_eq (b := 1) (by omega) (by decide)).mp q)
      rw [if_neg z, if_neg z]
      exact fin (fun q => absurd q p1) p2 p3 p4
    have le7 : ∀ j, j ≤ 17 → (nI j ≤ 7 ↔ j ≤ 7) := fun j hj => nI_leI (b := 7) (by omega) (by decide)
    rcases (show k < 8 ∨ 8 ≤ k by omega) with c8 | c8
    · rw [if_pos c8, if_pos (show (0 : Int32) ≤ 0 by decide), if_pos ((le7 k hk).mpr (by omega))]
      unfold s_cX8_add_b35 s_cX8_add_b52 s_rX12_term_b27 s_rX12_term_b47
      rw [if_pos (show (0 : Int32) ≤ 1 by decide), if_pos (show (0 : Int32) ≤ 2 by decide), if_pos ((le7 k hk).mpr (by omega)), if_neg (show ¬ nI k = 16 from fun q => by have := (nI_eq (b := 16) (by omega) (by decide)).mp q; omega)]
      by_cases c1 : k = 1
      · unfold s_cX8_add_b70 s_rX12_term_b65
        have z : nI k = 1 := by rw [c1]; rfl
        rw [if_pos z, if_pos z]
        rcases ls_d x5 with ⟨n, hn, e, g1, g2, g3⟩ | ⟨g1, g3⟩
        · rw [g3, kn_i_some, if_neg ne10, if_neg g1, if_pos g2]
          exact fin (fun _ => ⟨n, hn, e⟩) (fun q => absurd q (by omega)) (fun q => absurd q (by omega)) (fun q => absurd q (by omega))
        · rw [g3, kn_i_some, if_pos rfl]
          rcases g1 with g1 | ⟨g1, g2⟩
          · rw [if_pos g1]; exact q_same h _
          · rw [if_neg g1, if_neg g2]; exact q_same h _
      · exact fin0 c1 (fun q => absurd q (by omega)) (fun q => absurd q (by omega)) (fun q => absurd q (by omega))
    · have pn : ¬ (if k < 8 then (0 : Int32) else if k = 16 then 3 else if k = 17 then 1 else 2) ≤ 0 := by
        rw [if_neg (by omega)]
        split
        · decide
        · split <;> decide
      rw [if_neg pn, if_neg (show ¬ nI k ≤ 7 from fun q => by have := (le7 k hk).mp q; omega)]
      rcases t_d (σ := σ) (τ := τ) x2 (show T < 1000 by omega) s1 t0 with ⟨a, ha, ea, e1, e2⟩ | ⟨e1, e2⟩
      · rw [e1, kn_i_some, if_neg ne10, e2, kn_i_some, if_neg ne10, if_neg (show ¬ k < 8 by omega)]
        unfold s_cX8_add_b35 s_rX12_term_b27
        rw [if_neg (show ¬ nI k ≤ 7 from fun q => by have := (le7 k hk).mp q; omega)]
        by_cases c17 : k = 17
        · rw [if_neg (show ¬ k = 16 by omega), if_pos c17, if_pos (show (1 : Int32) ≤ 1 by decide), if_pos (show 17 ≤ nI k by rw [c17]; decide)]
          unfold s_cX8_add_b52 s_rX12_term_b47
          rw [if_pos (show (1 : Int32) ≤ 2 by decide), if_neg (show ¬ nI k = 16 by rw [c17]; decide)]
          exact fin0 (by omega) (fun _ => ⟨a, ha, ea⟩) (fun _ q => absurd c17 q) (fun q => absurd q (by omega))
        · rw [if_neg (show ¬ (if k = 16 then (3 : Int32) else if k = 17 then 1 else 2) ≤ 1 by
            rw [if_neg c17]; split <;> decide), if_neg (show ¬ 17 ≤ nI k from fun q => by have := (nI_leI (a := 17) (by decide) (by omega)).mp q; omega)]
          rcases t_d (σ := σ) (τ := τ) x3 (show T < 1000 by omega) s1 t0 with ⟨b, hb, eb, e3, e4⟩ | ⟨e3, e4⟩
          · rw [e3, kn_i_some, if_neg ne10, e4, kn_i_some, if_neg ne10]
            unfold s_cX8_add_b52 s_rX12_term_b47
            by_cases c16 : k = 16
            · rw [if_pos c16, if_neg (show ¬ (3 : Int32) ≤ 2 by decide), if_pos (show nI k = 16 by rw [c16]; rfl)]
              rcases t_d (σ := σ) (τ := τ) x4 (show T < 1000 by omega) s1 t0 with ⟨d, hd, ed, e5, e6⟩ | ⟨e5, e6⟩
              · rw [e5, kn_i_some, if_neg ne10, e6, kn_i_some, if_neg ne10]
                exact fin0 (by omega) (fun _ => ⟨a, ha, ea⟩) (fun _ _ => ⟨b, hb, eb⟩) (fun _ => ⟨d, hd, ed⟩)
              · rw [e5, kn_i_some, if_pos rfl, e6, kn_i_some, if_pos rfl]; exact q_same h _
            · rw [if_neg c16, if_neg c17, if_pos (show (2 : Int32) ≤ 2 by decide), if_neg (show ¬ nI k = 16 from fun q => c16 ((nI_eq (b := 16) (by omega) (by decide)).mp q))]
              exact fin0 (by omega) (fun _ => ⟨a, ha, ea⟩) (fun _ _ => ⟨b, hb, eb⟩) (fun q => absurd q c16)
          · rw [e3, kn_i_some, if_pos rfl, e4, kn_i_some, if_pos rfl]; exact q_same h _
      · rw [e1, kn_i_some, if_pos rfl, e2, kn_i_some, if_pos rfl]; exact q_same h _
  · rw [h3, kn_i_some, if_pos rfl]
    rcases h1 with h1 | ⟨h1, h2⟩
    · rw [if_pos h1]; exact q_same h _
    · rw [if_neg h1, if_neg h2]; exact q_same h _
/-- what was asked last: its failing is written -/
theorem RC_why {σ τ : RS} {T N E ro : Nat} (h : RC σ τ T N E ro) (w : Int32) : RC (rs_I σ 0 w) (rs_I τ 6 w) T N E ro := by
  obtain ⟨⟨hT40, hN, hE, hroM⟩, hW, ⟨s1, t0, s2, t1, s3, t2, s4, t4⟩, ⟨a0, a1, a2, a3, b0⟩, ⟨b1, a4, a5, a6, b2, a7, i3, l0⟩, ⟨i5, i6⟩, dg, wf, wa, wo, wb⟩ := h
  exact ⟨⟨hT40, hN, hE, hroM⟩, hW, ⟨s1, t0, s2, t1, s3, t2, s4, t4⟩, ⟨a0, a1, a2, a3, b0⟩, ⟨b1, a4, a5, a6, b2, a7, i3, l0⟩, ⟨i5, rfl⟩, dg, wf, wa, wo, wb⟩
theorem RR_why {B : Nat} {σ τ : RS} (h : RR B σ τ) (w : Int32) : RR B (rs_I σ 0 w) (rs_I τ 6 w) := by
  obtain ⟨T, N, E, ro, K, P, hR, hro, hF, hP, hT⟩ := h
  have cs : cF [0] [] [] [] σ (rs_I σ 0 w) := cF_I _ _ _ (by decide)
  have rs : cF [6] [] [] [] τ (rs_I τ 6 w) := cF_I _ _ _ (by decide)
  exact ⟨T, N, E, ro, K, P, RC_why hR w, hro, fl_F hF cs rs (by decide) (by decide), PM_F hP cs rs (by decide) (by decide), TD_F hT cs rs (by decide) (by decide)⟩
theorem q_ask {B : Nat} {σ τ : RS} (h : RR B σ τ) (x1 x2 x3 : Int32) : RJ B (s_cX11_ask σ x1 x2 x3) (s_rX12_ask τ x1 x2 x3) := by
  unfold s_cX11_ask s_rX12_ask
  rw [kn_v, kn_v]
  have h0 := RR_why h 0
  generalize rs_I σ 0 0 = σ1 at h0
  generalize rs_I τ 6 0 = τ1 at h0
  clear h σ τ
  have h' := h0
  obtain ⟨T, N, E, ro, K, P, hR, hro, hF, hP, hT⟩ := h'
  have hN : N ≤ 12 := hR.1.2.1
  have hE : E ≤ 40 := hR.1.2.2.1
  have hT40 : T ≤ 40 := hR.1.1
  obtain ⟨s1, t0, s2, t1, s3, t2, s4, t4⟩ := hR.2.2.1
  rcases t_d (σ := σ1) (τ := τ1) x1 (show T < 1000 by omega) s1 t0 with ⟨t, ht, rfl, e1, e2⟩ | ⟨e1, e2⟩
  · rw [e1, kn_i_some, if_neg ne10, e2, kn_i_some, if_neg ne10]
    rcases n_d (σ := σ1) (τ := τ1) x2 (show N < 1000 by omega) s2 t1 with ⟨nd, hnd, rfl, e3, e4⟩ | ⟨e3, e4⟩
    · rw [e3, kn_i_some, if_neg ne10, e4, kn_i_some, if_neg ne10]
      have go : (x3 = -1 ∨ ∃ e, e < E ∧ x3 = nI e) → RJ B (s_cX11_ask_b51 σ1 (nI t) (nI nd) x3) (s_rX12_ask_b38 τ1 (nI t) (nI nd) x3) := by
        intro har
        unfold s_cX11_ask_b51 s_rX12_ask_b38
        rw [c_begin1, kn_u_some]
        simp only [kn_v]
        have cs : cF [14, 15, 16] [1] [] [] σ1 (rs_I (rs_L (rs_I (rs_I σ1 15 0) 16 0) 1 0) 14 0) := cF_tr (cF_I _ _ _ (by decide)) (cF_tr (cF_I _ _ _ (by decide)) (cF_tr (cF_L _ _ _ (by decide)) (cF_I _ _ _ (by decide))))
        have rs : cF [11, 14] [2] [] [] τ1 (rs_I (rs_L (rs_I τ1 11 0) 2 0) 14 0) := cF_tr (cF_I _ _ _ (by decide)) (cF_tr (cF_L _ _ _ (by decide)) (cF_I _ _ _ (by decide)))
        have hR2 := RC_F hR cs rs (by decide) (by decide) hR.2.2.2.2.2.1.1
        have hC2 : EC (rs_I (rs_L (rs_I (rs_I σ1 15 0) 16 0) 1 0) 14 0) (rs_I (rs_L (rs_I τ1 11 0) 2 0) 14 0) 0 := ⟨by decide, rfl, rfl, rfl, rfl, rfl⟩
        have hF2 := fl_F hF cs rs (by decide) (by decide)
        have hP2 := PM_F hP cs rs (by decide) (by decide)
        have hT2 := TD_F hT cs rs (by decide) (by decide)
        generalize rs_I (rs_L (rs_I (rs_I σ1 15 0) 16 0) 1 0) 14 0 = σ2 at *
        generalize rs_I (rs_L (rs_I τ1 11 0) 2 0) 14 0 = τ2 at *
        have hC2' := hC2
        obtain ⟨hsp, c15, r11, c16, lf, im⟩ := hC2'
        have hva := cv_ev hT40 hR2.2.1 (show nd < 12 by omega) (e_ar_of hE har) 41 t 0 0 (rg_I σ2 17) ht (by omega) (by omega) hsp
        rw [cst_self c15 rfl c16, show nI 0 = (0 : Int32) from rfl] at hva
        obtain ⟨τ3, q1, q2, q3, q4, q5⟩ := r_asked hT40 hR2.2.1 (show nd < 12 by omega) (e_ar_of hE har) hE ht hsp r11 (RC_EE hR2 hC2 hnd)
        have hv := ev_v 41 t 0 (σ := σ2) (nd := nd) (ar := x3)
        generalize ev σ2 nd x3 41 t 0 = V at hva q1 q3 q4 q5 hv
        obtain ⟨v, f, s'⟩ := V
        dsimp only at hva q1 q3 q4 q5 hv
        have hr1 : rfr τ2 τ3 := mfr_rfr q2
        have r3 := rfr_F hr1
        have h8 : rg_A τ3 8 = rg_A τ2 8 := q2.2.2.1 8 (by decide) (by decide)
        have hc1 : cfr σ2 (cst σ2 s' (rg_I σ2 17 + nI (s' - 0)) f) := cst_cfr _ _ _ _
        have e17 : rg_I τ3 5 = rg_I (cst σ2 s' (rg_I σ2 17 + nI (s' - 0)) f) 17 := by rw [q4, hR2.2.2.2.2.2.1.1, cst_I17]
        have hR3 := RC_mv hR2 hc1 hr1 e17
        have c3 : cF [15, 16, 17] [] [] [] σ2 (cst σ2 s' (rg_I σ2 17 + nI (s' - 0)) f) := cF_tr (cF_I _ _ _ (by decide)) (cF_tr (cF_I _ _ _ (by decide)) (cF_I _ _ _ (by decide)))
        have hF3 : FL0 (cst σ2 s' (rg_I σ2 17 + nI (s' - 0)) f) τ3 ∨ FL1 (cst σ2 s' (rg_I σ2 17 + nI (s' - 0)) f) τ3 := by
          have r3' : cF [5, 9, 10, 11, 12, 13] [1] [12, 13] [6] τ2 τ3 := ⟨r3.1, r3.2.1, fun i hi => by
            by_cases z : i = 8
            · rw [z]; exact h8
            · exact r3.2.2.1 i (by simp at hi ⊢; omega), r3.2.2.2⟩
          exact fl_F hF2 c3 r3' (by decide) (by decide)
        rw [hva, kn_l_some, q1, kn_i_some, cst_I16]
        have hRR : RR B (cst σ2 s' (rg_I σ2 17 + nI (s' - 0)) f) τ3 := ⟨T, N, E, ro, K, P, hR3, hro, hF3, PM_F hP2 c3 r3 (by decide) (by decide), TD_F hT2 c3 r3 (by decide) (by decide)⟩
        have hRR2 := RR_why hRR f
        rw [show rg_I (rs_I τ3 6 f) 6 = f from rfl, show rg_L (rs_I τ3 6 f) 1 = rg_L τ3 1 from rfl]
        by_cases c : f = 0
        · rw [if_pos c, q5 c]; exact q_sameL hRR2 _
        · rw [if_neg c, hv c]; exact q_sameL hRR2 _
      by_cases c : x3 = -1
      · rw [if_pos c, if_pos c]; exact go (Or.inl c)
      · rw [if_neg c, if_neg c]
        rcases a_d (σ := σ1) (τ := τ1) x3 (show E < 1000 by omega) s3 t2 with ⟨e, he, ee, e5, e6⟩ | ⟨e5, e6⟩
        · rw [e5, kn_i_some, if_neg ne10, e6, kn_i_some, if_neg ne10]; exact go (Or.inr ⟨e, he, ee⟩)
        · rw [e5, kn_i_some, if_pos rfl, e6, kn_i_some, if_pos rfl]; exact q_sameL h0 _
    · rw [e3, kn_i_some, if_pos rfl, e4, kn_i_some, if_pos rfl]; exact q_sameL h0 _
  · rw [e1, kn_i_some, if_pos rfl, e2, kn_i_some, if_pos rfl]; exact q_sameL h0 _
theorem q_undo {B : Nat} {σ τ : RS} (h : RR B σ τ) (hB : B < 800000) : RI B (s_cX11_undo σ) (s_rX12_undo τ) := by
  have h' := h
  obtain ⟨T, N, E, ro, K, P, hR, hro, hF, hP, hT⟩ := h'
  unfold s_cX11_undo
  refine RI_l ?_
  unfold s_cX5_undoLatest s_rX12_undo
  simp only [kn_v]
  have hP' := hP
  obtain ⟨hK6, hP7, p12, p7, p11, hM⟩ := hP'
  rw [p12, p7]
  by_cases c : K = 0
  · rw [if_pos (show nI K = 0 by rw [c]; rfl), if_pos (show nI K = 0 by rw [c]; rfl)]
    exact q_same h _
  obtain ⟨K, rfl⟩ : ∃ q, K = q + 1 := ⟨K - 1, by omega⟩
  have z : ¬ nI (K + 1) = 0 := nI_ne0 (by omega) (by omega)
  rw [if_neg z, if_neg z, p11, nI_pred, show nI P + 7 - 1 = nI (P + 6) from by rw [show (7 : Int32) = nI 7 from rfl, nI_add, show P + 7 = (P + 6) + 1 from rfl, nI_pred], mod7 (by omega)]
  rw [show rg_I (rs_I σ 11 (nI ((P + 6) % 7))) 12 = nI (K + 1) from p12, nI_pred, show rg_I (rs_I (rs_I σ 11 (nI ((P + 6) % 7))) 12 (nI K)) 11 = nI ((P + 6) % 7) from rfl, ld_j (show (P + 6) % 7 < 7 by omega)]
  have mK := hM K (by omega)
  rw [show (P + 7 - (K + 1) + K) % 7 = (P + 6) % 7 by omega] at mK
  generalize hq : (P + 6) % 7 = q at *
  have hq7 : q < 7 := by omega
  have cs : cF [11, 12] [] [] [] σ (rs_I (rs_I σ 11 (nI q)) 12 (nI K)) := cF_tr (cF_I _ _ _ (by decide)) (cF_I _ _ _ (by decide))
  have rs : cF [7] [] [] [] τ (rs_I τ 7 (nI K)) := cF_I _ _ _ (by decide)
  have j12 : rg_I (rs_I (rs_I σ 11 (nI q)) 12 (nI K)) 12 = nI K := rfl
  have j11 : rg_I (rs_I (rs_I σ 11 (nI q)) 12 (nI K)) 11 = nI q := rfl
  have j7 : rg_I (rs_I τ 7 (nI K)) 7 = nI K := rfl
  have mem1 : ∀ i, i < K + 1 → MEM (rs_I (rs_I σ 11 (nI q)) 12 (nI K)) (rs_I τ 7 (nI K)) ((P + 7 - (K + 1) + i) % 7) i B := fun i hi => MEM_F (hM i hi) (by omega) cs rs (by decide) (by decide)
  have mK1 : MEM (rs_I (rs_I σ 11 (nI q)) 12 (nI K)) (rs_I τ 7 (nI K)) q K B := MEM_F mK hq7 cs rs (by decide) (by decide)
  have hR1 : RC (rs_I (rs_I σ 11 (nI q)) 12 (nI K)) (rs_I τ 7 (nI K)) T N E ro := RC_F hR cs rs (by decide) (by decide) hR.2.2.2.2.2.1.1
  have hF1 := fl_F hF cs rs (by decide) (by decide)
  have hT1 := TD_F hT cs rs (by decide) (by decide)
  generalize rs_I (rs_I σ 11 (nI q)) 12 (nI K) = σ1 at *
  generalize rs_I τ 7 (nI K) = τ1 at *
  obtain ⟨n1, n2, n3, r, hr, n4, n5⟩ := mK1
  obtain ⟨σ2, g1, g2, g3, g4, g5, g6, g7, g8⟩ := c_give (σ := σ1) (j := q) (fun v hv => (n2 v hv).2)
  obtain ⟨τ2, k1, k2, k3, k4⟩ := r_un21 (τ0 := τ1) (K := K) (by omega) j7
  obtain ⟨τ3, m1, m2, m3, m4⟩ := r_un55 (τ0 := τ2) (K := K) (by omega) (by rw [k2.1 7 (by decide)]; exact j7) (fun v hv => by rw [k2.2.2.1 9 (by decide), (n2 v hv).1]; exact (n2 v hv).2)
  have r3 : cF [] [] [4] [1] τ1 τ3 := cF_tr (cF_mono k2 (by decide) (by decide) (by decide) (by decide)) (cF_mono m2 (by decide) (by decide) (by decide) (by decide))
  have x7 : rg_I τ3 7 = nI K := by rw [r3.1 7 (by decide)]; exact j7
  rw [g1, kn_u_some, k1, s_rX12_undo_b53, m1, s_rX12_undo_b87]
  simp only [kn_v]
  rw [x7, ld_n (show K < 6 by omega) (by decide), show rg_I (rs_L τ3 0 (rg_B τ3 4 K)) 7 = nI K from x7, ld_n (show K < 6 by omega) (by decide), r3.2.2.2 4 (by decide), n3, show rg_A (rs_L τ3 0 (rg_L σ1 (2 + q))) 10 = rg_A τ3 10 from rfl, r3.2.2.1 10 (by decide), n4, show rg_I (rs_I (rs_L τ3 0 (rg_L σ1 (2 + q))) 4 (nI r)) 7 = nI K from x7, g2.1 12 (by decide), j12]
  have r4 : cF [4] [0] [4] [1] τ1 (rs_I (rs_L τ3 0 (rg_L σ1 (2 + q))) 4 (nI r)) := cF_tr (cF_mono r3 (by decide) (by decide) (by decide) (by decide)) (cF_tr (cF_L _ _ _ (by decide)) (cF_I _ _ _ (by decide)))
  refine ⟨nI K, σ2, _, rfl, rfl, T, N, E, r, K, q, RC_dyn hR1 g2 r4 (by decide) (by decide) ?_ ?_ ?_ ?_ ?_ rfl (by omega) ?_, hr, fl_F hF1 g2 r4 (by decide) (by decide), ⟨by omega, hq7, ?_, ?_, ?_, fun i hi => ?_⟩, TD_F hT1 g2 r4 (by decide) (by decide)⟩
  · rw [r4.1 5 (by decide), g2.1 17 (by decide)]; exact hR1.2.2.2.2.2.1.1
  · funext y
    show rg_B τ3 1 y = _
    rw [m2.2.2.2 1 (by decide)]
    by_cases w : y < 36
    · rw [k3 y w, g3 y w, n1 y w]
    · rw [k4 y (by omega), g4 y (by omega)]; exact congrFun hR1.2.2.2.2.1.1 y
  · funext y
    show rg_A τ3 4 y = _
    by_cases w : y < 12
    · rw [m3 y w, g5 y w, k2.2.2.1 9 (by decide), (n2 y w).1]
    · rw [m4 y (by omega), g6 y (by omega), k2.2.2.1 4 (by decide)]; exact congrFun hR1.2.2.2.2.1.2.1 y
  · rw [g8]; rfl
  · rw [g7, n5]
  · intro v hv
    rw [g5 v hv]; exact (n2 v hv).2
  · rw [g2.1 12 (by decide)]; exact j12
  · exact x7
  · rw [g2.1 11 (by decide)]; exact j11
  · have := mem1 i (by omega)
    rw [show (P + 7 - (K + 1) + i) % 7 = (q + 7 - K + i) % 7 by omega] at this
    exact MEM_F this (by omega) g2 r4 (by decide) (by decide)

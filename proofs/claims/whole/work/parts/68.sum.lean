/-! PART is asked of all nodes -/
abbrev rE0 : RS → RS → Prop := cF [5, 9, 10, 11, 12, 13] [1] [8, 12, 13] [6]
theorem c_sum_n {σ : RS} {N : Nat} (hN : N ≤ 12) (s2 : rg_I σ 2 = nI N) (w : rg_A σ 8 6 = -1) (hf : rg_I σ 6 = 0) : ∀ (n v : Nat), v ≤ N → N - v < n → kn_fix (fun _ _ _ => none) s_cX7_sumParts_b16 n σ 0 (nI v) = some (rs_L σ 0 0)
  | 0, v, h1, h2 => absurd h2 (Nat.not_lt_zero _)
  | n + 1, v, h1, h2 => by
    rw [kn_fix_s, s_cX7_sumParts_b16, s2]
    by_cases c : N ≤ v
    · rw [if_pos ((nI_leI (by omega) (by omega)).mpr c)]
      rfl
    rw [if_neg (fun q => c ((nI_leI (by omega) (by omega)).mp q)), show (6 : Int32) = nI 6 from rfl, c_none (by decide) w, kn_l_some, kn_v, c_is0 hf, kn_i_some, if_pos rfl, kn_v, nI_1, show (0 : Int64) + 0 = 0 from rfl]
    exact c_sum_n hN s2 w hf n (v + 1) (by omega) (by omega)
theorem r_sum_f {τ : RS} {x : Int64} {y : Int32} (hF : rg_A τ 8 0 ≠ 0) {m : Nat} (hm : 0 < m) : kn_fix (fun _ _ _ => none) s_rX12_round_b192 m τ x y = s_rX12_round_b244 τ x := by
  obtain ⟨m, rfl⟩ : ∃ q, m = q + 1 := ⟨m - 1, by omega⟩
  rw [kn_fix_s, s_rX12_round_b192]
  by_cases c : rg_I τ 1 ≤ y
  · rw [if_pos c]
  · rw [if_neg c, ld_x 6 6 rfl (by decide) (by decide), r_isF1 hF, kn_i_some, if_neg (show ¬ (1 : Int32) = 0 by decide)]
    by_cases c2 : rg_A τ 7 6 = -1
    · rw [if_pos c2]
    · rw [if_neg c2]
theorem sum_l {σ0 τ0 : RS} {T N E ro t : Nat} (ht : t < T) (w0 : rg_A σ0 8 6 = nI t) : ∀ (n m v sp : Nat) (x : Int64) (σ τ : RS), v ≤ N → N - v < n → N - v < m → RC σ τ T N E ro → EC σ τ sp → FL0 σ τ → cE σ0 σ → rE0 τ0 τ →
    ∃ (σ' τ' : RS) (y : Int64), kn_fix (fun _ _ _ => none) s_rX12_round_b192 m τ x (nI v) = s_rX12_round_b244 τ' y ∧ RC σ' τ' T N E ro ∧ cE σ0 σ' ∧ rE0 τ0 τ' ∧ ((kn_fix (fun _ _ _ => none) s_cX7_sumParts_b16 n σ x (nI v) = some (rs_L σ' 0 y) ∧ FL0 σ' τ') ∨ (kn_fix (fun _ _ _ => none) s_cX7_sumParts_b16 n σ x (nI v) = some σ' ∧ FL1 σ' τ'))
  | 0, m, v, sp, x, σ, τ, h1, h2, h3, hR, hC, hF, hc, hr => absurd h2 (Nat.not_lt_zero _)
  | n + 1, 0, v, sp, x, σ, τ, h1, h2, h3, hR, hC, hF, hc, hr => absurd h3 (Nat.not_lt_zero _)
  | n + 1, m + 1, v, sp, x, σ, τ, h1, h2, h3, hR, hC, hF, hc, hr => by
    have hN : N ≤ 12 := hR.1.2.1
    have s2 : rg_I σ 2 = nI N := hR.2.2.1.2.2.1
    have t1 : rg_I τ 1 = nI N := hR.2.2.1.2.2.2.1
    have a7 : rg_A τ 7 = rg_A σ 8 := hR.2.2.2.2.1.2.2.2.2.2.1
    have w1 : rg_A σ 8 6 = nI t := by rw [hc.2.2.1 8 (by decide)]; exact w0
    have ht40 : t < 2 ^ 31 := by have := hR.1.1; omega
    rw [kn_fix_s, kn_fix_s, s_cX7_sumParts_b16, s_rX12_round_b192, s2, t1]
    by_cases c : N ≤ v
    · rw [if_pos ((nI_leI (by omega) (by omega)).mpr c), if_pos ((nI_leI (by omega) (by omega)).mpr c)]
      exact ⟨σ, τ, x, rfl, hR, hc, hr, Or.inl ⟨rfl, hF⟩⟩
    have hv : v < N := by omega
    rw [if_neg (fun q => c ((nI_leI (by omega) (by omega)).mp q)), if_neg (fun q => c ((nI_leI (by omega) (by omega)).mp q)), ld_x 6 6 rfl (by decide) (by decide), a7, if_neg (show ¬ rg_A σ 8 6 = -1 by rw [w1]; exact nI_ne1 ht40), r_isF0 hF.2.1, kn_i_some, if_pos rfl]
    obtain ⟨y, b, σ1, τ1, sp1, g1, g2, g3, g4, g5, g6, g7⟩ := do_sim (a := 6) (ar := -1) 0 hR hC hF hv (Or.inl rfl) (by decide) ht w1
    rw [show (6 : Int32) = nI 6 from rfl, g1, kn_l_some, g2, kn_i_some]
    simp only [kn_v]
    have hc1 : cE σ0 σ1 := cF_tr hc (cfr_F g3)
    have hr1 : rE0 τ0 τ1 := cF_tr hr (rfr_F g4)
    rcases g7 with ⟨rfl, gc, gf, gv⟩ | ⟨rfl, gv, gf⟩
    · rw [if_neg (show ¬ (1 : Int32) = 0 by decide), c_is0 gf.1, kn_i_some, if_pos rfl, nI_1, s_rX12_round_b238, kn_v, nI_1, gv]
      exact sum_l ht w0 n m (v + 1) sp1 (x + y) σ1 τ1 (by omega) (by omega) (by omega) g5 gc gf hc1 hr1
    · rw [if_pos rfl, c_is1 gf.1, kn_i_some, if_neg (show ¬ (1 : Int32) = 0 by decide), s_rX12_round_b238, kn_v, nI_1]
      exact ⟨σ1, τ1, x, r_sum_f (FL1_r gf) (by omega), g5, hc1, hr1, Or.inr ⟨rfl, gf⟩⟩
/-- the whole is summed; cs, rs: what changed of each -/
theorem sum_sim {σ τ : RS} {T N E ro sp : Nat} (hR : RC σ τ T N E ro) (hC : EC σ τ sp) (hF : FL0 σ τ) :
    ∃ (σ' τ' : RS) (y : Int64), s_rX12_round_b177 τ = s_rX12_round_b244 τ' y ∧ RC σ' τ' T N E ro ∧ cF [6, 7, 8, 9, 10, 14, 15, 16, 17] [1] [] [] σ σ' ∧ cF [5, 9, 10, 11, 12, 13, 14] [1, 2] [8, 12, 13] [6] τ τ' ∧ ((s_cX7_sumParts σ = some (rs_L σ' 0 y) ∧ FL0 σ' τ') ∨ (s_cX7_sumParts σ = some σ' ∧ FL1 σ' τ')) := by
  unfold s_rX12_round_b177 s_cX7_sumParts
  rw [c_setF, kn_u_some]
  simp only [kn_v]
  have cs : cF [14] [1] [] [] σ (rs_I (rs_L σ 1 0) 14 0) := cF_tr (cF_L _ _ _ (by decide)) (cF_I _ _ _ (by decide))
  have rs : cF [14] [2] [] [] τ (rs_I (rs_L τ 2 0) 14 0) := cF_tr (cF_L _ _ _ (by decide)) (cF_I _ _ _ (by decide))
  have hR1 : RC (rs_I (rs_L σ 1 0) 14 0) (rs_I (rs_L τ 2 0) 14 0) T N E ro := RC_F hR cs rs (by decide) (by decide) hR.2.2.2.2.2.1.1
  have hC1 : EC (rs_I (rs_L σ 1 0) 14 0) (rs_I (rs_L τ 2 0) 14 0) sp := ⟨hC.1, hC.2.1, hC.2.2.1, hC.2.2.2.1, rfl, rfl⟩
  have hF1 : FL0 (rs_I (rs_L σ 1 0) 14 0) (rs_I (rs_L τ 2 0) 14 0) := FL0_F hF cs rs (by decide) (by decide)
  generalize rs_I (rs_L σ 1 0) 14 0 = σ1 at *
  generalize rs_I (rs_L τ 2 0) 14 0 = τ1 at *
  have hN : N ≤ 12 := hR1.1.2.1
  unfold f_rX12_round_b192 f_cX7_sumParts_b16
  rcases hR1.2.2.2.2.2.2.2.2.1 6 (by decide) with w | ⟨t, ht, w⟩
  · have a7 : rg_A τ1 7 = rg_A σ1 8 := hR1.2.2.2.2.1.2.2.2.2.2.1
    refine ⟨σ1, τ1, 0, ?_, hR1, cF_mono cs (by decide) (by decide) (by decide) (by decide), cF_mono rs (by decide) (by decide) (by decide) (by decide), Or.inl ⟨?_, hF1⟩⟩
    · rw [FU_s, kn_fix_s, s_rX12_round_b192, ld_x 6 6 rfl (by decide) (by decide), a7, if_pos w]
      split <;> rfl
    · have h := c_sum_n hN hR1.2.2.1.2.2.1 w hF1.1 FU 0 (Nat.zero_le _) (by unfold FU; omega)
      rw [nI_0] at h
      exact h
  · obtain ⟨σ', τ', y, h1, h2, h3, h4, h5⟩ := sum_l (σ0 := σ1) (τ0 := τ1) ht w FU FU 0 sp 0 σ1 τ1 (Nat.zero_le _) (by unfold FU; omega) (by unfold FU; omega) hR1 hC1 hF1 (cF_rf _ _ _ _ _) (cF_rf _ _ _ _ _)
    rw [nI_0] at h1 h5
    exact ⟨σ', τ', y, h1, h2, cF_tr (cF_mono cs (by decide) (by decide) (by decide) (by decide)) (cF_mono h3 (by decide) (by decide) (by decide) (by decide)), cF_tr (cF_mono rs (by decide) (by decide) (by decide) (by decide)) (cF_mono h4 (by decide) (by decide) (by decide) (by decide)), h5⟩

/-! as they come: the walk, by both -/
abbrev cV : RS → RS → Prop := cF [6, 7, 8, 9, 10, 13, 14, 15, 16, 17, 19, 20] [1] [9, 14] [1, 3, 6, 7, 8]
abbrev rV : RS → RS → Prop := cF [5, 9, 10, 11, 12, 13, 14, 16, 17] [1, 2, 3] [8, 11, 12, 13, 18] [1, 5, 6, 8, 10, 11]
def RE (T N E ro B : Nat) (oc or : Option (Int32 × RS)) : Prop := ∃ (v : Int32) (σ' τ' : RS), oc = some (v, σ') ∧ or = some (v, τ') ∧ RC σ' τ' T N E ro ∧ (FL0 σ' τ' ∨ FL1 σ' τ') ∧ TD σ' τ' ∧ ∃ K P, PM σ' τ' K P B
def TL (k : Nat) (σ τ : RS) : Prop := (k = 0 ∧ TD σ τ) ∨ (0 < k ∧ rg_I σ 13 = nI k ∧ ∀ i, i < k → rg_A τ 11 i = rg_A σ 9 i ∧ rg_B τ 5 i = rg_B σ 3 i)
theorem wk_end {σ1 τ1 σ τ : RS} {T N E ro K P B k : Nat} (h : MB σ1 τ1 T N E ro K P B) (hB : ro ≤ B) (hk : k ≤ 200) (c : cV σ1 σ) (r : rV τ1 τ) (hR : RC σ τ T N E ro) (hF : FL0 σ τ ∨ FL1 σ τ) (ht : TL k σ τ) : RE T N E ro B (s_cX3_walk_b120 σ (nI k)) (s_rX12_walk_b91 τ (nI k)) := by
  obtain ⟨-, -, hm, hP, hT, q1, q2, q3⟩ := h
  have hP7 : P < 7 := hP.2.1
  unfold s_cX3_walk_b120 s_rX12_walk_b91
  simp only [kn_v]
  rcases ht with ⟨rfl, ht⟩ | ⟨hk0, ht, hd⟩
  · rw [if_pos (show nI 0 ≤ 0 by decide), if_pos (show nI 0 ≤ 0 by decide)]
    exact ⟨nI 0, σ, τ, rfl, rfl, hR, hF, ht, K, P, PM_F hP c r (by decide) (by decide)⟩
  · have z : ¬ nI k ≤ 0 := fun q => by have := (nI_leI (b := 0) (by omega) (by decide)).mp q; omega
    rw [if_neg z, if_neg z]
    have rs : cF [8] [] [] [] τ (rs_I τ 8 (nI k)) := cF_I _ _ _ (by decide)
    have r' : cF [5, 8, 9, 10, 11, 12, 13, 14, 16, 17] [1, 2, 3] [8, 11, 12, 13, 18] [1, 5, 6, 8, 10, 11] τ1 (rs_I τ 8 (nI k)) := cF_tr (cF_mono r (by decide) (by decide) (by decide) (by decide)) (cF_mono rs (by decide) (by decide) (by decide) (by decide))
    obtain ⟨σ2, τ2, K', g1, g2, g3, g4, g5⟩ := pm_keep (PM_F hP c r' (by decide) (by decide)) (MK_F hm hP7 c r' (by decide) (by decide)) hB
    have el : rg_L (rs_I τ 8 (nI k)) 0 = rg_L σ (2 + P) := by
      rw [show rg_L (rs_I τ 8 (nI k)) 0 = rg_L σ 0 from hR.2.2.2.2.1.2.2.2.2.2.2.2, c.2.1 0 (by decide), c.2.1 (2 + P) (by simp; omega), q3]
    rw [el, show rg_I (rs_I τ 8 (nI k)) 4 = nI ro from hR.2.2.1.2.2.2.2.2.2.2, g1, kn_u_some, g2, kn_u_some]
    have r2 : cF [7, 8] [] [9, 10] [3, 4] τ τ2 := cF_tr (cF_mono rs (by decide) (by decide) (by decide) (by decide)) (cF_mono g4 (by decide) (by decide) (by decide) (by decide))
    refine ⟨nI k, σ2, τ2, rfl, rfl, RC_F hR g3 r2 (by decide) (by decide) (by rw [r2.1 5 (by decide), g3.1 17 (by decide)]; exact hR.2.2.2.2.2.1.1), ?_, ⟨k, hk, ?_, ?_, fun i hi => ?_⟩, K', (P + 1) % 7, g5⟩
    · rcases hF with f | f
      · exact Or.inl (FL0_F f g3 r2 (by decide) (by decide))
      · exact Or.inr (FL1_F f g3 r2 (by decide) (by decide))
    · rw [g3.1 13 (by decide)]; exact ht
    · rw [g4.1 8 (by decide)]; rfl
    · rw [r2.2.2.1 11 (by decide), r2.2.2.2 5 (by decide), g3.2.2.1 9 (by decide), g3.2.2.2 3 (by decide)]; exact hd i hi
theorem c_wk_f {k37 : RS → Int32 → Int32 → Option (Int32 × RS)} {σ : RS} {x1 x2 : Int32} (h : rg_I σ 6 ≠ 0) : s_cX3_walk_b37 k37 σ x1 x2 = s_cX3_walk_b120 σ x2 := by
  unfold s_cX3_walk_b37
  rw [c_is1 h, kn_i_some, if_neg (show ¬ (1 : Int32) = 0 by decide)]
  by_cases a : x1 ≤ x2
  · rw [if_pos a]
  · rw [if_neg a]
    by_cases b : rg_I σ 20 ≤ 0
    · rw [if_pos b]
    · rw [if_neg b]
theorem r_wk_f {k53 : RS → Int32 → Int32 → Option (Int32 × RS)} {τ : RS} {x1 x2 : Int32} (h : rg_A τ 8 0 ≠ 0) : s_rX12_walk_b53 k53 τ x1 x2 = s_rX12_walk_b91 τ x2 := by
  rw [s_rX12_walk_b53, r_isF1 h, kn_i_some, if_neg (show ¬ (1 : Int32) = 0 by decide)]
theorem wk_l {σ1 τ1 : RS} {T N E ro K P B M : Nat} (h : MB σ1 τ1 T N E ro K P B) (hB : ro ≤ B) (hM : M ≤ 200) : ∀ (n m k sp F W : Nat) (σ τ : RS), k ≤ M → M - k < n → M - k + 1 < m → RC σ τ T N E ro → FL0 σ τ → ES σ τ sp → QL σ τ E F W → TL k σ τ → cV σ1 σ → rV τ1 τ →
    RE T N E ro B (kn_fix (fun _ _ _ => none) s_cX3_walk_b37 n σ (nI M) (nI k)) (kn_fix (fun _ _ _ => none) s_rX12_walk_b53 m τ (nI M) (nI k))
  | 0, m, k, sp, F, W, σ, τ, h1, h2, h3, hR, hF, hS, hq, ht, c, r => absurd h2 (Nat.not_lt_zero _)
  | n + 1, 0, k, sp, F, W, σ, τ, h1, h2, h3, hR, hF, hS, hq, ht, c, r => absurd h3 (Nat.not_lt_zero _)
  | n + 1, m + 1, k, sp, F, W, σ, τ, h1, h2, h3, hR, hF, hS, hq, ht, c, r => by
    rw [kn_fix_s, kn_fix_s, s_cX3_walk_b37, s_rX12_walk_b53, r_isF0 hF.2.1, kn_i_some, if_pos rfl, c_is0 hF.1, kn_i_some, if_pos rfl]
    by_cases a : M ≤ k
    · rw [if_pos ((nI_leI (by omega) (by omega)).mpr a), if_pos ((nI_leI (by omega) (by omega)).mpr a)]
      exact wk_end h hB (by omega) c r hR (Or.inl hF) ht
    rw [if_neg (fun q => a ((nI_leI (by omega) (by omega)).mp q)), if_neg (fun q => a ((nI_leI (by omega) (by omega)).mp q))]
    have hq' := hq
    obtain ⟨l1, l2, l3, l4, l5, l6⟩ := hq'
    rw [l3, l5]
    by_cases b : W = 0
    · rw [if_pos (show nI W ≤ 0 by rw [b]; decide), if_pos (show nI W ≤ 0 by rw [b]; decide)]
      exact wk_end h hB (by omega) c r hR (Or.inl hF) ht
    have zW : ¬ nI W ≤ 0 := fun q => by have := (nI_leI (b := 0) (by omega) (by decide)).mp q; omega
    obtain ⟨e, he, e1, hT⟩ := take_sim (tk := k) (by omega) hR hS hF hq (by omega)
    rw [if_neg zW, if_neg zW, l4, ld_n (f := rg_A σ 14) (show F < 60 by omega) (by decide), ld_n (f := rg_B σ 6) (show F < 60 by omega) (by decide), e1]
    obtain ⟨σ2, τ2, g1, g2, g3, g4⟩ := hT
    have c2 : cV σ1 σ2 := cF_tr c (cF_mono g1 (by decide) (by decide) (by decide) (by decide))
    have r2 : rV τ1 τ2 := cF_tr r (cF_mono g2 (by decide) (by decide) (by decide) (by decide))
    rcases g4 with ⟨o1, o2, f, sp', F', W', s', q'⟩ | ⟨o1, o2, f⟩
    · rw [o1, kn_i_some, if_neg (show ¬ (1 : Int32) = 0 by decide), o2, kn_i_some, if_neg (show ¬ (1 : Int32) = 0 by decide), s_rX12_walk_b86, kn_v, nI_1]
      have add : ∀ (s : RS), rg_I s 13 = nI k → s_cX9_add s (nI e) (rg_B σ 6 F) = some (rs_I (rs_B (rs_A s 9 (upd (rg_A s 9) k (nI e))) 3 (vp_updL (rg_B s 3) k (rg_B σ 6 F))) 13 (nI (k + 1))) := by
        intro s hs
        unfold s_cX9_add
        rw [hs, if_pos (show nI k < 200 from (nI_ltI (b := 200) (by omega) (by decide)).mpr (by omega)), st_n (show k < 200 by omega) (by decide), nI_clamp (show k < 2 ^ 31 by omega), show rg_I (rs_A s 9 (upd (rg_A s 9) k (nI e))) 13 = nI k from hs, st_n (show k < 200 by omega) (by decide), nI_clamp (show k < 2 ^ 31 by omega), kn_v, show rg_I (rs_B (rs_A s 9 (upd (rg_A s 9) k (nI e))) 3 (vp_updL (rg_B (rs_A s 9 (upd (rg_A s 9) k (nI e))) 3) k (rg_B σ 6 F))) 13 = nI k from hs, nI_1]
        rfl
      have rs : cF [] [] [11] [5] τ2 (rs_B (rs_A τ2 11 (upd (rg_A τ2 11) k (nI e))) 5 (vp_updL (rg_B τ2 5) k (rg_B σ 6 F))) := cF_tr (cF_A _ _ _ (by decide)) (cF_B _ _ _ (by decide))
      have go : ∀ (s : RS), cF [13] [] [] [] σ2 s → rg_I s 13 = nI k → (∀ i, i < k → rg_A τ2 11 i = rg_A s 9 i ∧ rg_B τ2 5 i = rg_B s 3 i) → RE T N E ro B (s_cX3_walk_b104 (kn_fix (fun _ _ _ => none) s_cX3_walk_b37 n) s (nI M) (nI k) (nI e) (rg_B σ 6 F)) (kn_fix (fun _ _ _ => none) s_rX12_walk_b53 m (rs_B (rs_A τ2 11 (upd (rg_A τ2 11) k (nI e))) 5 (vp_updL (rg_B τ2 5) k (rg_B σ 6 F))) (nI M) (nI (k + 1))) := by
        intro s hs h13 hd
        rw [s_cX3_walk_b104, add s h13, kn_u_some, kn_v, nI_1]
        have cs : cF [13] [] [9] [3] σ2 (rs_I (rs_B (rs_A s 9 (upd (rg_A s 9) k (nI e))) 3 (vp_updL (rg_B s 3) k (rg_B σ 6 F))) 13 (nI (k + 1))) := cF_tr (cF_mono hs (by decide) (by decide) (by decide) (by decide)) (cF_tr (cF_A _ _ _ (by decide)) (cF_tr (cF_B _ _ _ (by decide)) (cF_I _ _ _ (by decide))))
        refine wk_l h hB hM n m (k + 1) sp' F' W' _ _ (by omega) (by omega) (by omega) (RC_F g3 cs rs (by decide) (by decide) (by rw [rs.1 5 (by decide), cs.1 17 (by decide)]; exact g3.2.2.2.2.2.1.1)) (FL0_F f cs rs (by decide) (by decide)) (ES_F s' cs rs (by decide) (by decide)) (QL_F q' cs rs (by decide) (by decide)) (Or.inr ⟨by omega, rfl, fun i hi => ?_⟩) (cF_tr c2 (cF_mono cs (by decide) (by decide) (by decide) (by decide))) (cF_tr r2 (cF_mono rs (by decide) (by decide) (by decide) (by decide)))
        show upd (rg_A τ2 11) k (nI e) i = upd (rg_A s 9) k (nI e) i ∧ vp_updL (rg_B τ2 5) k (rg_B σ 6 F) i = vp_updL (rg_B s 3) k (rg_B σ 6 F) i
        by_cases w : i = k
        · subst w; exact ⟨pk_us.trans pk_us.symm, pk_uLs.trans pk_uLs.symm⟩
        · rw [pk_un w, pk_un w, pk_uLn w, pk_uLn w]; exact hd i (by omega)
      rcases ht with ⟨rfl, ht⟩ | ⟨hk0, ht, hd⟩
      · rw [if_pos (show nI 0 = 0 from rfl), s_cX9_clear, kn_v, kn_u_some]
        exact go _ (cF_I _ _ _ (by decide)) rfl (fun i hi => absurd hi (Nat.not_lt_zero _))
      · rw [if_neg (show ¬ nI k = 0 from fun q => by have := (nI_eq (b := 0) (by omega) (by decide)).mp q; omega)]
        refine go σ2 (cF_rf _ _ _ _ _) (by rw [g1.1 13 (by decide)]; exact ht) (fun i hi => ?_)
        rw [g2.2.2.1 11 (by decide), g2.2.2.2 5 (by decide), g1.2.2.1 9 (by decide), g1.2.2.2 3 (by decide)]; exact hd i hi
    · rw [o1, kn_i_some, if_pos rfl, o2, kn_i_some, if_pos rfl, s_cX3_walk_b90, s_rX12_walk_b86, kn_v, show nI k + 0 = nI k from Int32.add_zero _]
      obtain ⟨m, rfl⟩ : ∃ q, m = q + 1 := ⟨m - 1, by omega⟩
      rw [kn_fix_s, r_wk_f (FL1_r f)]
      refine wk_end h hB (by omega) c2 r2 g3 (Or.inr f) ?_
      rcases ht with ⟨rfl, ht⟩ | ⟨hk0, ht, hd⟩
      · exact Or.inl ⟨rfl, TD_F ht g1 g2 (by decide) (by decide)⟩
      · refine Or.inr ⟨hk0, by rw [g1.1 13 (by decide)]; exact ht, fun i hi => ?_⟩
        rw [g2.2.2.1 11 (by decide), g2.2.2.2 5 (by decide), g1.2.2.1 9 (by decide), g1.2.2.2 3 (by decide)]; exact hd i hi
abbrev cW0 : RS → RS → Prop := cF [6, 7, 8, 9, 10, 15, 16, 17, 20] [] [14] [6]
abbrev rW0 : RS → RS → Prop := cF [5, 9, 10, 11, 12, 13, 14, 16, 17] [1, 2, 3] [8, 12, 13, 18] [6, 10]
theorem r_st_f {k16 : RS → Int32 → Int32 → Option (Int32 × RS)} {τ : RS} {x1 x2 : Int32} (h : rg_A τ 8 0 ≠ 0) : s_rX12_walk_b16 k16 τ x1 x2 = s_rX12_walk_b51 τ x1 := by
  rw [s_rX12_walk_b16, r_isF1 h, kn_i_some, if_neg (show ¬ (1 : Int32) = 0 by decide)]
  by_cases a : rg_I τ 1 ≤ x2
  · rw [if_pos a]
  · rw [if_neg a]
theorem st_l {σ0 τ0 : RS} {T N E ro F : Nat} {x1 : Int32} : ∀ (n m i sp W : Nat) (σ τ : RS), i ≤ N → N - i < n → N - i + 1 < m → RC σ τ T N E ro → FL0 σ τ → ES σ τ sp → QL σ τ E F W → rg_L σ 1 = 0 → rg_I σ 14 = 0 → cW0 σ0 σ → rW0 τ0 τ →
    ∃ σ' τ', kn_fix (fun _ _ => none) s_cX3_startLine_b2 n σ (nI i) = some σ' ∧ kn_fix (fun _ _ _ => none) s_rX12_walk_b16 m τ x1 (nI i) = s_rX12_walk_b51 τ' x1 ∧ RC σ' τ' T N E ro ∧ cW0 σ0 σ' ∧ rW0 τ0 τ' ∧ ((FL0 σ' τ' ∧ ∃ sp' W', ES σ' τ' sp' ∧ QL σ' τ' E F W') ∨ FL1 σ' τ')
  | 0, m, i, sp, W, σ, τ, h1, h2, h3, hR, hF, hS, hq, hl, hm, c, r => absurd h2 (Nat.not_lt_zero _)
  | n + 1, 0, i, sp, W, σ, τ, h1, h2, h3, hR, hF, hS, hq, hl, hm, c, r => absurd h3 (Nat.not_lt_zero _)
  | n + 1, m + 1, i, sp, W, σ, τ, h1, h2, h3, hR, hF, hS, hq, hl, hm, c, r => by
    have hN : N ≤ 12 := hR.1.2.1
    have a4 : rg_A τ 4 = rg_A σ 4 := hR.2.2.2.2.1.2.1
    rw [kn_fix_s, kn_fix_s, s_cX3_startLine_b2, s_rX12_walk_b16, hR.2.2.1.2.2.1, hR.2.2.1.2.2.2.1]
    by_cases a : N ≤ i
    · rw [if_pos ((nI_leI (by omega) (by omega)).mpr a), if_pos ((nI_leI (by omega) (by omega)).mpr a)]
      exact ⟨σ, τ, rfl, rfl, hR, c, r, Or.inl ⟨hF, sp, W, hS, hq⟩⟩
    rw [if_neg (fun q => a ((nI_leI (by omega) (by omega)).mp q)), if_neg (fun q => a ((nI_leI (by omega) (by omega)).mp q)), r_isF0 hF.2.1, kn_i_some, if_pos rfl, ld_n (f := rg_A σ 4) (show i < 12 by omega) (by decide), ld_n (f := rg_A τ 4) (show i < 12 by omega) (by decide), a4]
    by_cases b : rg_A σ 4 i = 0
    · rw [if_pos b, if_pos b, s_cX3_startLine_b30, c_is0 hF.1, kn_i_some, if_pos rfl, kn_v, s_rX12_walk_b45, kn_v, nI_1]
      exact st_l n m (i + 1) sp W σ τ (by omega) (by omega) (by omega) hR hF hS hq hl hm c r
    · obtain ⟨σ2, τ2, g1, g2, g3, g4, g5, g6⟩ := on_sim (nd := i) (by omega) hR hS.1 hS.2.1 hS.2.2.1 hS.2.2.2 hl hm hF hq
      rw [if_neg b, if_neg b, g1, kn_u_some, g2, kn_u_some, s_cX3_startLine_b30, s_rX12_walk_b45, kn_v]
      have c2 : cW0 σ0 σ2 := cF_tr c g3
      have r2 : rW0 τ0 τ2 := cF_tr r g4
      rcases g6 with ⟨W', sp', k1, k2, k3⟩ | k1
      · rw [c_is0 k2.1, kn_i_some, if_pos rfl, kn_v, nI_1]
        exact st_l n m (i + 1) sp' W' σ2 τ2 (by omega) (by omega) (by omega) g5 k2 (EC_ES k1) k3 (by rw [g3.2.1 1 (by decide)]; exact hl) (by rw [g3.1 14 (by decide)]; exact hm) c2 r2
      · rw [c_is1 k1.1, kn_i_some, if_neg (show ¬ (1 : Int32) = 0 by decide)]
        obtain ⟨m, rfl⟩ : ∃ q, m = q + 1 := ⟨m - 1, by omega⟩
        rw [kn_fix_s, r_st_f (FL1_r k1)]
        exact ⟨σ2, τ2, rfl, rfl, g5, c2, r2, Or.inr k1⟩
theorem walk_sim {σ τ : RS} {T N E ro K P B M : Nat} (hM : M ≤ 200) (hR : RC σ τ T N E ro) (hF : FL0 σ τ) (hP : PM σ τ K P B) (hT : TD σ τ) (hB : ro ≤ B) : RE T N E ro B (s_cX3_walk σ (nI M)) (s_rX12_walk τ (nI M)) := by
  have hN : N ≤ 12 := hR.1.2.1
  unfold s_cX3_walk s_rX12_walk
  simp only [kn_v]
  obtain ⟨σ1, m1, mm⟩ := mark_sim hR hF hP hT
  have ra : cF [11, 17] [] [] [] τ (rs_I (rs_I τ 11 0) 17 0) := cF_tr (cF_I _ _ _ (by decide)) (cF_I _ _ _ (by decide))
  obtain ⟨τ1, r1, r2, hMB⟩ := mm _ [11, 17] [] ra (by decide) (by decide) (by decide) (by decide)
  rw [m1, kn_u_some, r1, kn_u_some, c_begin1, kn_u_some]
  have hMB' := hMB
  obtain ⟨hR1, hF1, hm1, hP1, hT1, q1, q2, q3⟩ := hMB'
  have cs : cF [14, 15, 16, 19, 20] [1] [] [] σ1 (rs_I (rs_I (rs_I (rs_L (rs_I (rs_I σ1 15 0) 16 0) 1 0) 14 0) 19 0) 20 0) := cF_tr (cF_I _ _ _ (by decide)) (cF_tr (cF_I _ _ _ (by decide)) (cF_tr (cF_L _ _ _ (by decide)) (cF_tr (cF_I _ _ _ (by decide)) (cF_tr (cF_I _ _ _ (by decide)) (cF_I _ _ _ (by decide))))))
  have hR2 := RC_F hR1 cs (cF_rf [] [] [] [] τ1) (by decide) (by decide) hR1.2.2.2.2.2.1.1
  have hF2 := FL0_F hF1 cs (cF_rf [] [] [] [] τ1) (by decide) (by decide)
  have hT2 := TD_F hT1 cs (cF_rf [] [] [] [] τ1) (by decide) (by decide)
  have hS2 : ES (rs_I (rs_I (rs_I (rs_L (rs_I (rs_I σ1 15 0) 16 0) 1 0) 14 0) 19 0) 20 0) τ1 0 := ⟨by decide, rfl, by rw [r2.1 11 (by decide)]; rfl, rfl⟩
  have hq2 : QL (rs_I (rs_I (rs_I (rs_L (rs_I (rs_I σ1 15 0) 16 0) 1 0) 14 0) 19 0) 20 0) τ1 E 0 0 := ⟨by decide, by decide, rfl, rfl, by rw [r2.1 17 (by decide)]; rfl, fun i hi => absurd hi (Nat.not_lt_zero _)⟩
  have hl2 : rg_L (rs_I (rs_I (rs_I (rs_L (rs_I (rs_I σ1 15 0) 16 0) 1 0) 14 0) 19 0) 20 0) 1 = 0 := rfl
  have hm2 : rg_I (rs_I (rs_I (rs_I (rs_L (rs_I (rs_I σ1 15 0) 16 0) 1 0) 14 0) 19 0) 20 0) 14 = 0 := rfl
  generalize rs_I (rs_I (rs_I (rs_L (rs_I (rs_I σ1 15 0) 16 0) 1 0) 14 0) 19 0) 20 0 = σ2 at *
  unfold s_cX3_startLine f_cX3_startLine_b2 f_rX12_walk_b16
  obtain ⟨σ3, τ3, g1, g2, g3, g4, g5, g6⟩ := st_l (σ0 := σ2) (τ0 := τ1) (x1 := nI M) FU FU 0 0 0 σ2 τ1 (Nat.zero_le _) (by unfold FU; omega) (by unfold FU; omega) hR2 hF2 hS2 hq2 hl2 hm2 (cF_rf _ _ _ _ _) (cF_rf _ _ _ _ _)
  rw [nI_0] at g1 g2
  rw [g1, kn_u_some, g2, s_rX12_walk_b51]
  have c3 : cV σ1 σ3 := cF_tr (cF_mono cs (by decide) (by decide) (by decide) (by decide)) (cF_mono g4 (by decide) (by decide) (by decide) (by decide))
  have r3 : rV τ1 τ3 := cF_mono g5 (by decide) (by decide) (by decide) (by decide)
  have t3 : TL 0 σ3 τ3 := Or.inl ⟨rfl, TD_F hT2 g4 g5 (by decide) (by decide)⟩
  unfold f_cX3_walk_b37 f_rX12_walk_b53
  rcases g6 with ⟨f, sp, W, s, q⟩ | f
  · have := wk_l hMB hB hM FU FU 0 sp 0 W σ3 τ3 (Nat.zero_le _) (by unfold FU; omega) (by unfold FU; omega) g3 f s q t3 c3 r3
    rw [nI_0] at this
    exact this
  · rw [show FU = 19999 + 1 from rfl, kn_fix_s, c_wk_f f.1, kn_fix_s, r_wk_f (FL1_r f)]
    have := wk_end hMB hB (Nat.zero_le _) c3 r3 g3 (Or.inr f) t3
    rw [nI_0] at this
    exact this

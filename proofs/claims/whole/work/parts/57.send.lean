/-! sending along the arcs, in a round -/
theorem r_isF0 {τ : RS} (h : rg_A τ 8 0 = 0) : s_rX12_isFailed τ = some (0, τ) := by
  unfold s_rX12_isFailed
  rw [ld_x 0 0 rfl (by decide) (by decide), if_pos h]
theorem r_isF1 {τ : RS} (h : rg_A τ 8 0 ≠ 0) : s_rX12_isFailed τ = some (1, τ) := by
  unfold s_rX12_isFailed
  rw [ld_x 0 0 rfl (by decide) (by decide), if_neg h]
theorem c_is0 {σ : RS} (h : rg_I σ 6 = 0) : s_cX2_is σ = some (0, σ) := by
  unfold s_cX2_is
  rw [if_pos h]
theorem c_is1 {σ : RS} (h : rg_I σ 6 ≠ 0) : s_cX2_is σ = some (1, σ) := by
  unfold s_cX2_is
  rw [if_neg h]
theorem FL1_r {σ τ : RS} (h : FL1 σ τ) : rg_A τ 8 0 ≠ 0 := by rw [h.2.1]; exact h.1
/-- all arcs of the nodes below v -/
def S_n (f : Nat → Int32) : Nat → Nat → Nat
  | 0, _ => 0
  | v + 1, E => S_n f v E + cnt f (nI v) E
theorem S_n_z (f : Nat → Int32) : ∀ v, S_n f v 0 = 0
  | 0 => rfl
  | v + 1 => by unfold S_n; rw [S_n_z f v]; rfl
theorem S_n_s (f : Nat → Int32) (E : Nat) : ∀ v, v < 1000 → (S_n f v (E + 1) = S_n f v E ∧ ∀ u, u < v → f E ≠ nI u) ∨ (S_n f v (E + 1) = S_n f v E + 1 ∧ ∃ u, u < v ∧ f E = nI u)
  | 0, _ => Or.inl ⟨rfl, fun u hu => absurd hu (Nat.not_lt_zero _)⟩
  | v + 1, hv => by
    have ih := S_n_s f E v (by omega)
    have e1 : S_n f (v + 1) (E + 1) = S_n f v (E + 1) + (cnt f (nI v) E + (if f E = nI v then 1 else 0)) := rfl
    have e2 : S_n f (v + 1) E = S_n f v E + cnt f (nI v) E := rfl
    by_cases c : f E = nI v
    · rw [if_pos c] at e1
      rcases ih with ⟨h1, h2⟩ | ⟨h1, u, hu, h2⟩
      · exact Or.inr ⟨by omega, v, by omega, c⟩
      · exfalso
        have := (nI_eq (by omega) (by omega)).mp (h2.symm.trans c)
        omega
    · rw [if_neg c] at e1
      rcases ih with ⟨h1, h2⟩ | ⟨h1, u, hu, h2⟩
      · refine Or.inl ⟨by omega, fun u hu => ?_⟩
        rcases Nat.lt_succ_iff_lt_or_eq.mp hu with q | q
        · exact h2 u q
        · rw [q]; exact c
      · exact Or.inr ⟨by omega, u, by omega, h2⟩
theorem S_n_le (f : Nat → Int32) (v : Nat) (hv : v < 1000) : ∀ E, S_n f v E ≤ E
  | 0 => by rw [S_n_z]; exact Nat.le_refl _
  | E + 1 => by
    have ih := S_n_le f v hv E
    rcases S_n_s f E v hv with ⟨h, -⟩ | ⟨h, -⟩ <;> omega
theorem cnt_lt (f : Nat → Int32) (x : Int32) : ∀ (E e : Nat), e < E → f e = x → cnt f x e + 1 ≤ cnt f x E
  | 0, e, h, _ => absurd h (Nat.not_lt_zero _)
  | E + 1, e, h, hx => by
    have e1 : cnt f x (E + 1) = cnt f x E + (if f E = x then 1 else 0) := rfl
    rcases Nat.lt_succ_iff_lt_or_eq.mp h with q | q
    · have := cnt_lt f x E e q hx
      omega
    · subst q
      rw [if_pos hx] at e1
      omega
theorem cnt_mono (f : Nat → Int32) (x : Int32) (e : Nat) : cnt f x e ≤ cnt f x (e + 1) := by
  show cnt f x e ≤ cnt f x e + (if f e = x then 1 else 0)
  omega
abbrev cS : RS → RS → Prop := cF [6, 7, 8, 9, 10, 15, 16, 17, 18] [] [10, 11] [4]
abbrev rS : RS → RS → Prop := cF [5, 9, 10, 11, 12, 13, 15, 16] [1, 3] [8, 12, 13, 14, 15] [6, 7]
/-- while messages are sent: K of them went -/
def SA (σ0 τ0 σ τ : RS) (T N E ro K sp : Nat) : Prop := RC σ τ T N E ro ∧ EC σ τ sp ∧ FL0 σ τ ∧ cS σ0 σ ∧ rS τ0 τ ∧ rg_I σ 18 = nI K ∧ rg_I τ 15 = nI K ∧ (∀ i, i < K → ∃ x, x < E ∧ rg_A σ 10 i = nI x ∧ rg_A τ 15 i = nI x ∧ rg_A σ 11 x ≠ 0) ∧ (∀ x, x < E → rg_A τ 14 x = rg_A σ 11 x) ∧ (∀ x, x < E → rg_A σ 11 x ≠ 0 → rg_B τ 7 x = rg_B σ 4 x)
def SF (σ0 τ0 σ τ : RS) (T N E ro : Nat) : Prop := RC σ τ T N E ro ∧ FL1 σ τ ∧ cS σ0 σ ∧ rS τ0 τ
theorem send_sim {σ0 τ0 σ τ : RS} {T N E ro K sp e nd : Nat} (h : SA σ0 τ0 σ τ T N E ro K sp) (he : e < E) (hnd : nd < N) (hfr : rg_A σ 6 e = nI nd) (hK : K < 40) :
    ∃ σ' τ', s_cX7_sendAlong σ (nI e) = some σ' ∧ s_rX12_sendAlong τ (nI e) = some τ' ∧ ((∃ K' sp', K' ≤ K + 1 ∧ SA σ0 τ0 σ' τ' T N E ro K' sp') ∨ SF σ0 τ0 σ' τ' T N E ro) := by
  obtain ⟨hR, hC, hF, hc, hr, h18, h15, hs, hg, hm⟩ := h
  have hE : E ≤ 40 := hR.1.2.2.1
  obtain ⟨v, σ1, τ1, q1, q2, q3, q4, q5⟩ := arc_sim hR hC hF he hnd hfr
  unfold s_cX7_sendAlong s_rX12_sendAlong
  rw [ld_n (show e < 40 by omega) (by decide), hfr, if_neg (show ¬ (40 : Int32) ≤ rg_I σ 18 by rw [h18]; exact fun z => by have := (nI_leI (a := 40) (by decide) (by omega)).mp z; omega), q1, kn_l_some, q2, kn_u_some]
  have c1 : cS σ σ1 := cF_mono q3 (by decide) (by decide) (by decide) (by decide)
  have r1 : rS τ τ1 := cF_mono q4 (by decide) (by decide) (by decide) (by decide)
  rcases q5 with ⟨rfl, g1, g2, g3⟩ | ⟨hv, m, σ2, g1, g2, g3, g4⟩
  · rw [if_pos rfl, if_pos g2]
    refine ⟨σ1, τ1, rfl, rfl, ?_⟩
    rcases g3 with ⟨sp', gc, gf⟩ | gf
    · refine Or.inl ⟨K, sp', by omega, g1, gc, gf, cF_tr hc c1, cF_tr hr r1, ?_, ?_, ?_, ?_, ?_⟩
      · rw [q3.1 18 (by decide)]; exact h18
      · rw [q4.1 15 (by decide)]; exact h15
      · rw [q3.2.2.1 10 (by decide), q3.2.2.1 11 (by decide), q4.2.2.1 15 (by decide)]; exact hs
      · rw [q3.2.2.1 11 (by decide), q4.2.2.1 14 (by decide)]; exact hg
      · rw [q3.2.2.1 11 (by decide), q3.2.2.2 4 (by decide), q4.2.2.2 7 (by decide)]; exact hm
    · exact Or.inr ⟨g1, gf, cF_tr hc c1, cF_tr hr r1⟩
  · rw [if_neg hv, g1, kn_l_some]
    have c2 : cS σ σ2 := cF_mono g2 (by decide) (by decide) (by decide) (by decide)
    simp only [kn_v]
    rw [st_n (show e < 40 by omega) (by decide), st_n (show e < 40 by omega) (by decide), nI_clamp (show e < 2 ^ 31 by omega)]
    have e18 : rg_I σ2 18 = nI K := by rw [g2.1 18 (by decide)]; exact h18
    rw [show rg_I (rs_A (rs_B σ2 4 (vp_updL (rg_B σ2 4) e m)) 11 (upd (rg_A (rs_B σ2 4 (vp_updL (rg_B σ2 4) e m)) 11) e 1)) 18 = nI K from e18, st_n hK (by decide), nI_clamp (show K < 2 ^ 31 by omega)]
    rw [show rg_I (rs_A (rs_A (rs_B σ2 4 (vp_updL (rg_B σ2 4) e m)) 11 (upd (rg_A (rs_B σ2 4 (vp_updL (rg_B σ2 4) e m)) 11) e 1)) 10 (upd (rg_A (rs_A (rs_B σ2 4 (vp_updL (rg_B σ2 4) e m)) 11 (upd (rg_A (rs_B σ2 4 (vp_updL (rg_B σ2 4) e m)) 11) e 1)) 10) K (nI e))) 18 = nI K from e18, nI_1]
    have cw : cF [18] [] [10, 11] [4] σ2 (rs_I (rs_A (rs_A (rs_B σ2 4 (vp_updL (rg_B σ2 4) e m)) 11 (upd (rg_A (rs_B σ2 4 (vp_updL (rg_B σ2 4) e m)) 11) e 1)) 10 (upd (rg_A (rs_A (rs_B σ2 4 (vp_updL (rg_B σ2 4) e m)) 11 (upd (rg_A (rs_B σ2 4 (vp_updL (rg_B σ2 4) e m)) 11) e 1)) 10) K (nI e))) 18 (nI (K + 1))) := cF_tr (cF_B _ _ _ (by decide)) (cF_tr (cF_A _ _ _ (by decide)) (cF_tr (cF_A _ _ _ (by decide)) (cF_I _ _ _ (by decide))))
    have cw' := cF_mono cw (LI' := [6, 7, 8, 9, 10, 15, 16, 17, 18]) (LL' := []) (LA' := [10, 11]) (LB' := [4]) (by decide) (by decide) (by decide) (by decide)
    rcases g4 with ⟨u1, u2, sp', gc, gf⟩ | ⟨u1, gf⟩
    · rw [if_neg (by rw [u1]; decide), r_isF0 gf.2.1, kn_i_some, if_pos rfl, st_n (show e < 40 by omega) (by decide), st_n (show e < 40 by omega) (by decide)]
      have e15 : rg_I τ1 15 = nI K := by rw [q4.1 15 (by decide)]; exact h15
      rw [show rg_L (rs_A τ1 14 (upd (rg_A τ1 14) e 1)) 3 = m from u2, show rg_I (rs_B (rs_A τ1 14 (upd (rg_A τ1 14) e 1)) 7 (vp_updL (rg_B (rs_A τ1 14 (upd (rg_A τ1 14) e 1)) 7) e m)) 15 = nI K from e15, st_n hK (by decide), nI_clamp (show K < 2 ^ 31 by omega)]
      rw [show rg_I (rs_A (rs_B (rs_A τ1 14 (upd (rg_A τ1 14) e 1)) 7 (vp_updL (rg_B (rs_A τ1 14 (upd (rg_A τ1 14) e 1)) 7) e m)) 15 (upd (rg_A (rs_B (rs_A τ1 14 (upd (rg_A τ1 14) e 1)) 7 (vp_updL (rg_B (rs_A τ1 14 (upd (rg_A τ1 14) e 1)) 7) e m)) 15) K (nI e))) 15 = nI K from e15, nI_1]
      have rw' : cF [15] [] [14, 15] [7] τ1 (rs_I (rs_A (rs_B (rs_A τ1 14 (upd (rg_A τ1 14) e 1)) 7 (vp_updL (rg_B (rs_A τ1 14 (upd (rg_A τ1 14) e 1)) 7) e m)) 15 (upd (rg_A (rs_B (rs_A τ1 14 (upd (rg_A τ1 14) e 1)) 7 (vp_updL (rg_B (rs_A τ1 14 (upd (rg_A τ1 14) e 1)) 7) e m)) 15) K (nI e))) 15 (nI (K + 1))) := cF_tr (cF_A _ _ _ (by decide)) (cF_tr (cF_B _ _ _ (by decide)) (cF_tr (cF_A _ _ _ (by decide)) (cF_I _ _ _ (by decide))))
      refine ⟨_, _, rfl, rfl, Or.inl ⟨K + 1, sp', Nat.le_refl _, RC_F g3 cw rw' (by decide) (by decide) g3.2.2.2.2.2.1.1, EC_F gc cw rw' (by decide) (by decide), FL0_F gf cw rw' (by decide) (by decide), cF_tr hc (cF_tr c2 cw'), cF_tr hr (cF_tr r1 (cF_mono rw' (by decide) (by decide) (by decide) (by decide))), rfl, rfl, ?_, ?_, ?_⟩⟩
      · intro i hi
        have a10 : rg_A σ2 10 = rg_A σ 10 := g2.2.2.1 10 (by decide)
        have a11 : rg_A σ2 11 = rg_A σ 11 := g2.2.2.1 11 (by decide)
        have t15 : rg_A τ1 15 = rg_A τ 15 := q4.2.2.1 15 (by decide)
        rcases Nat.lt_succ_iff_lt_or_eq.mp hi with q | q
        · obtain ⟨x, hx, x1, x2, x3⟩ := hs i q
          refine ⟨x, hx, ?_, ?_, ?_⟩
          · show upd (rg_A σ2 10) K (nI e) i = nI x
            rw [pk_un (by omega), a10]; exact x1
          · show upd (rg_A τ1 15) K (nI e) i = nI x
            rw [pk_un (by omega), t15]; exact x2
          · show upd (rg_A σ2 11) e 1 x ≠ 0
            by_cases z : x = e
            · rw [z, pk_us]; decide
            · rw [pk_un z, a11]; exact x3
        · subst q
          refine ⟨e, he, ?_, ?_, ?_⟩
          · exact pk_us
          · exact pk_us
          · show upd (rg_A σ2 11) e 1 e ≠ 0
            rw [pk_us]; decide
      · intro x hx
        show upd (rg_A τ1 14) e 1 x = upd (rg_A σ2 11) e 1 x
        by_cases z : x = e
        · rw [z, pk_us, pk_us]
        · rw [pk_un z, pk_un z, q4.2.2.1 14 (by decide), g2.2.2.1 11 (by decide)]; exact hg x hx
      · intro x hx
        show upd (rg_A σ2 11) e 1 x ≠ 0 → vp_updL (rg_B τ1 7) e m x = vp_updL (rg_B σ2 4) e m x
        by_cases z : x = e
        · rw [z, pk_uLs, pk_uLs]; exact fun _ => rfl
        · rw [pk_un z, pk_uLn z, pk_uLn z, q4.2.2.2 7 (by decide), g2.2.2.2 4 (by decide), g2.2.2.1 11 (by decide)]; exact hm x hx
    · rw [if_pos u1]
      exact ⟨_, _, rfl, rfl, Or.inr ⟨RC_F g3 cw (cF_rf [] [] [] [] τ1) (by decide) (by decide) g3.2.2.2.2.2.1.1, FL1_F gf cw (cF_rf [] [] [] [] τ1) (by decide) (by decide), cF_tr hc (cF_tr c2 cw'), cF_tr hr r1⟩⟩

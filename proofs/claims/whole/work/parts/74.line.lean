/-! as they come: the line -/
def QL (σ τ : RS) (E F W : Nat) : Prop := W ≤ 60 ∧ F < 60 ∧ rg_I σ 20 = nI W ∧ rg_I σ 19 = nI F ∧ rg_I τ 17 = nI W ∧ ∀ i, i < W → ∃ x, x < E ∧ rg_A σ 14 ((F + i) % 60) = nI x ∧ rg_A τ 18 i = nI x ∧ rg_B σ 6 ((F + i) % 60) = rg_B τ 10 i
theorem QL_F {σ τ σ' τ' : RS} {E F W : Nat} {LI LL LA LB MI ML MA MB : List Nat} (h : QL σ τ E F W) (c : cF LI LL LA LB σ σ') (r : cF MI ML MA MB τ τ') (hc : (decide (19 ∉ LI ∧ 20 ∉ LI ∧ 14 ∉ LA ∧ 6 ∉ LB)) = true) (hr : (decide (17 ∉ MI ∧ 18 ∉ MA ∧ 10 ∉ MB)) = true) : QL σ' τ' E F W := by
  have q1 := of_decide_eq_true hc
  have q2 := of_decide_eq_true hr
  unfold QL at h ⊢
  rw [c.1 19 q1.1, c.1 20 q1.2.1, c.2.2.1 14 q1.2.2.1, c.2.2.2 6 q1.2.2.2, r.1 17 q2.1, r.2.2.1 18 q2.2.1, r.2.2.2 10 q2.2.2]
  exact h
theorem mod60 {a : Nat} (h : a < 1000) : nI a - nI a / 60 * 60 = nI (a % 60) := pk_rem (d := 60) (by omega) (by decide) (by decide)
abbrev cW : RS → RS → Prop := cF [6, 7, 8, 9, 10, 15, 16, 17, 20] [] [14] [6]
abbrev rW : RS → RS → Prop := cF [5, 9, 10, 11, 12, 13, 16, 17] [1, 3] [8, 12, 13, 18] [6, 10]
def OL (σ0 τ0 σ τ : RS) (T N E ro F W sp : Nat) : Prop := RC σ τ T N E ro ∧ EC σ τ sp ∧ FL0 σ τ ∧ cW σ0 σ ∧ rW τ0 τ ∧ QL σ τ E F W
def OF (σ0 τ0 σ τ : RS) (T N E ro : Nat) : Prop := RC σ τ T N E ro ∧ FL1 σ τ ∧ cW σ0 σ ∧ rW τ0 τ
theorem r_on_f {τ : RS} (hF : rg_A τ 8 0 ≠ 0) {m : Nat} (hm : 0 < m) {x y : Int32} : kn_fix (fun _ _ _ => none) s_rX12_sendsOn_b12 m τ x y = some τ := by
  obtain ⟨m, rfl⟩ : ∃ q, m = q + 1 := ⟨m - 1, by omega⟩
  rw [kn_fix_s, s_rX12_sendsOn_b12, r_isF1 hF, kn_i_some, if_neg (show ¬ (1 : Int32) = 0 by decide)]
  by_cases c : rg_I τ 2 ≤ y
  · rw [if_pos c]
  · rw [if_neg c]
theorem on_l {σ0 τ0 : RS} {T N E ro F nd : Nat} (hnd : nd < N) : ∀ (n m i W sp : Nat) (σ τ : RS), i ≤ E → E - i < n → E - i < m → OL σ0 τ0 σ τ T N E ro F W sp →
    ∃ σ' τ', kn_fix (fun _ _ _ => none) s_cX3_sendOn_b2 n σ (nI nd) (nI i) = some σ' ∧ kn_fix (fun _ _ _ => none) s_rX12_sendsOn_b12 m τ (nI nd) (nI i) = some τ' ∧ ((∃ W' sp', OL σ0 τ0 σ' τ' T N E ro F W' sp') ∨ OF σ0 τ0 σ' τ' T N E ro)
  | 0, m, i, W, sp, σ, τ, h1, h2, h3, h => absurd h2 (Nat.not_lt_zero _)
  | n + 1, 0, i, W, sp, σ, τ, h1, h2, h3, h => absurd h3 (Nat.not_lt_zero _)
  | n + 1, m + 1, i, W, sp, σ, τ, h1, h2, h3, h => by
    have h' := h
    obtain ⟨hR, hC, hF, hc, hr, hq⟩ := h'
    have hE : E ≤ 40 := hR.1.2.2.1
    have a5 : rg_A τ 5 = rg_A σ 6 := hR.2.2.2.2.1.2.2.1
    rw [kn_fix_s, kn_fix_s, s_cX3_sendOn_b2, s_rX12_sendsOn_b12, hR.2.2.1.2.2.2.2.1, hR.2.2.1.2.2.2.2.2.1]
    by_cases c : E ≤ i
    · rw [if_pos ((nI_leI (by omega) (by omega)).mpr c), if_pos ((nI_leI (by omega) (by omega)).mpr c)]
      exact ⟨σ, τ, rfl, rfl, Or.inl ⟨W, sp, h⟩⟩
    have hiE : i < E := by omega
    rw [if_neg (fun q => c ((nI_leI (by omega) (by omega)).mp q)), if_neg (fun q => c ((nI_leI (by omega) (by omega)).mp q)), r_isF0 hF.2.1, kn_i_some, if_pos rfl, ld_n (f := rg_A σ 6) (show i < 40 by omega) (by decide), ld_n (f := rg_A τ 5) (show i < 40 by omega) (by decide), a5]
    have next : ∀ (σ2 τ2 : RS) (W2 sp2 : Nat), OL σ0 τ0 σ2 τ2 T N E ro F W2 sp2 → ∃ σ' τ', s_cX3_sendOn_b32 (kn_fix (fun _ _ _ => none) s_cX3_sendOn_b2 n) σ2 (nI nd) (nI i) = some σ' ∧ s_rX12_sendsOn_b109 (kn_fix (fun _ _ _ => none) s_rX12_sendsOn_b12 m) τ2 (nI nd) (nI i) = some τ' ∧ ((∃ W' sp', OL σ0 τ0 σ' τ' T N E ro F W' sp') ∨ OF σ0 τ0 σ' τ' T N E ro) := by
      intro σ2 τ2 W2 sp2 g
      rw [s_cX3_sendOn_b32, c_is0 g.2.2.1.1, kn_i_some, if_pos rfl, kn_v, s_rX12_sendsOn_b109, kn_v, nI_1]
      exact on_l hnd n m (i + 1) W2 sp2 σ2 τ2 (by omega) (by omega) (by omega) g
    have fail_ : ∀ (σ2 τ2 : RS), OF σ0 τ0 σ2 τ2 T N E ro → ∃ σ' τ', s_cX3_sendOn_b32 (kn_fix (fun _ _ _ => none) s_cX3_sendOn_b2 n) σ2 (nI nd) (nI i) = some σ' ∧ s_rX12_sendsOn_b109 (kn_fix (fun _ _ _ => none) s_rX12_sendsOn_b12 m) τ2 (nI nd) (nI i) = some τ' ∧ ((∃ W' sp', OL σ0 τ0 σ' τ' T N E ro F W' sp') ∨ OF σ0 τ0 σ' τ' T N E ro) := by
      intro σ2 τ2 g
      rw [s_cX3_sendOn_b32, c_is1 g.2.1.1, kn_i_some, if_neg (by decide), s_rX12_sendsOn_b109, kn_v, r_on_f (FL1_r g.2.1) (by omega)]
      exact ⟨σ2, τ2, rfl, rfl, Or.inr g⟩
    by_cases q : rg_A σ 6 i = nI nd
    · rw [if_pos q, if_pos q]
      obtain ⟨v, σ1, τ1, g1, g2, g3, g4, g5⟩ := arc_sim hR hC hF hiE hnd q
      rw [s_cX3_sendAlong, g1, kn_l_some, g2, kn_u_some]
      have c1 : cW σ σ1 := cF_mono g3 (by decide) (by decide) (by decide) (by decide)
      have r1 : rW τ τ1 := cF_mono g4 (by decide) (by decide) (by decide) (by decide)
      rcases g5 with ⟨rfl, u1, u2, u3⟩ | ⟨hv, mm, σ2, u1, u2, u3, u4⟩
      · rw [if_pos rfl, kn_u_some, if_pos u2]
        rcases u3 with ⟨sp', gc, gf⟩ | gf
        · exact next σ1 τ1 W sp' ⟨u1, gc, gf, cF_tr hc c1, cF_tr hr r1, QL_F hq g3 g4 (by decide) (by decide)⟩
        · exact fail_ σ1 τ1 ⟨u1, gf, cF_tr hc c1, cF_tr hr r1⟩
      · rw [if_neg hv, u1, kn_l_some]
        have c2 : cW σ σ2 := cF_mono u2 (by decide) (by decide) (by decide) (by decide)
        rcases u4 with ⟨w1, w2, sp', gc, gf⟩ | ⟨w1, gf⟩
        · have hq2 := QL_F hq u2 g4 (by decide) (by decide)
          obtain ⟨l1, l2, l3, l4, l5, l6⟩ := hq2
          rw [c_is0 gf.1, kn_i_some, if_pos rfl, if_neg (show ¬ rg_I τ1 16 = 0 by rw [w1]; decide), r_isF0 gf.2.1, kn_i_some, if_pos rfl, l3, l4, l5]
          by_cases z : W < 60
          · rw [if_pos (show nI W < 60 from (nI_ltI (b := 60) (by omega) (by decide)).mpr z), if_neg (show ¬ nI W = 60 from fun y => by have := (nI_eq (by omega) (by decide)).mp (show nI W = nI 60 from y); omega), nI_add, mod60 (by omega)]
            simp only [kn_v]
            rw [st_n (show (F + W) % 60 < 60 by omega) (by decide), st_n (show (F + W) % 60 < 60 by omega) (by decide), nI_clamp (show (F + W) % 60 < 2 ^ 31 by omega), st_n (show W < 64 by omega) (by decide), nI_clamp (show W < 2 ^ 31 by omega)]
            rw [show rg_I (rs_B (rs_A σ2 14 (upd (rg_A σ2 14) ((F + W) % 60) (nI i))) 6 (vp_updL (rg_B (rs_A σ2 14 (upd (rg_A σ2 14) ((F + W) % 60) (nI i))) 6) ((F + W) % 60) mm)) 20 = nI W from l3, nI_1, kn_u_some, show rg_I (rs_A τ1 18 (upd (rg_A τ1 18) W (nI i))) 17 = nI W from l5, show rg_L (rs_A τ1 18 (upd (rg_A τ1 18) W (nI i))) 3 = mm from w2, st_n (show W < 64 by omega) (by decide), nI_clamp (show W < 2 ^ 31 by omega), show rg_I (rs_B (rs_A τ1 18 (upd (rg_A τ1 18) W (nI i))) 10 (vp_updL (rg_B (rs_A τ1 18 (upd (rg_A τ1 18) W (nI i))) 10) W mm)) 17 = nI W from l5, nI_1]
            have cw : cF [20] [] [14] [6] σ2 (rs_I (rs_B (rs_A σ2 14 (upd (rg_A σ2 14) ((F + W) % 60) (nI i))) 6 (vp_updL (rg_B (rs_A σ2 14 (upd (rg_A σ2 14) ((F + W) % 60) (nI i))) 6) ((F + W) % 60) mm)) 20 (nI (W + 1))) := cF_tr (cF_A _ _ _ (by decide)) (cF_tr (cF_B _ _ _ (by decide)) (cF_I _ _ _ (by decide)))
            have rw' : cF [17] [] [18] [10] τ1 (rs_I (rs_B (rs_A τ1 18 (upd (rg_A τ1 18) W (nI i))) 10 (vp_updL (rg_B (rs_A τ1 18 (upd (rg_A τ1 18) W (nI i))) 10) W mm)) 17 (nI (W + 1))) := cF_tr (cF_A _ _ _ (by decide)) (cF_tr (cF_B _ _ _ (by decide)) (cF_I _ _ _ (by decide)))
            refine next _ _ (W + 1) sp' ⟨RC_F u3 cw rw' (by decide) (by decide) u3.2.2.2.2.2.1.1, EC_F gc cw rw' (by decide) (by decide), FL0_F gf cw rw' (by decide) (by decide), cF_tr hc (cF_tr c2 (cF_mono cw (by decide) (by decide) (by decide) (by decide))), cF_tr hr (cF_tr r1 (cF_mono rw' (by decide) (by decide) (by decide) (by decide))), by omega, l2, rfl, l4, rfl, fun j hj => ?_⟩
            by_cases y : j = W
            · subst y
              exact ⟨i, hiE, pk_us, pk_us, by
                show vp_updL (rg_B σ2 6) ((F + j) % 60) mm ((F + j) % 60) = vp_updL (rg_B τ1 10) j mm j
                rw [pk_uLs, pk_uLs]⟩
            · obtain ⟨x, x1, x2, x3, x4⟩ := l6 j (by omega)
              refine ⟨x, x1, ?_, ?_, ?_⟩
              · show upd (rg_A σ2 14) ((F + W) % 60) (nI i) ((F + j) % 60) = _
                rw [pk_un (by omega)]; exact x2
              · show upd (rg_A τ1 18) W (nI i) j = _
                rw [pk_un y]; exact x3
              · show vp_updL (rg_B σ2 6) ((F + W) % 60) mm ((F + j) % 60) = vp_updL (rg_B τ1 10) W mm j
                rw [pk_uLn (by omega), pk_uLn y]; exact x4
          · rw [if_neg (show ¬ nI W < 60 from fun y => z ((nI_ltI (b := 60) (by omega) (by decide)).mp y)), if_pos (show nI W = 60 by rw [show W = 60 by omega]; rfl), c_keep, kn_u_some, kn_u_some]
            obtain ⟨τ2, n1, n2, n3, n4, n5, m0, m1, m2, m3, m4⟩ := r_note τ1 5 1 (nI nd) (nI i)
            rw [n1, kn_u_some]
            have cw : cF [6, 7, 8, 9, 10] [] [] [] σ2 (rs_I (rs_I (rs_I (rs_I (rs_I σ2 6 5) 7 1) 8 (nI nd)) 9 (nI i)) 10 (rg_I σ2 4 + 1)) := cF_tr (cF_I _ _ _ (by decide)) (cF_tr (cF_I _ _ _ (by decide)) (cF_tr (cF_I _ _ _ (by decide)) (cF_tr (cF_I _ _ _ (by decide)) (cF_I _ _ _ (by decide)))))
            have rw' : cF [] [] [8] [] τ1 τ2 := ⟨fun i _ => n2 i, fun i _ => n3 i, fun i hi => n4 i (by simpa using hi), fun i _ => n5 i⟩
            refine fail_ _ τ2 ⟨RC_F u3 cw rw' (by decide) (by decide) (by rw [n2 5]; exact u3.2.2.2.2.2.1.1), ⟨show ¬ (5 : Int32) = 0 by decide, m0, m1, m2, m3, ?_⟩, cF_tr hc (cF_tr c2 (cF_mono cw (by decide) (by decide) (by decide) (by decide))), cF_tr hr (cF_tr r1 (cF_mono rw' (by decide) (by decide) (by decide) (by decide)))⟩
            show rg_A τ2 8 4 = rg_I σ2 4 + 1
            rw [m4, u3.2.2.1.2.2.2.2.2.2.2, u3.2.2.1.2.2.2.2.2.2.1]
        · rw [c_is1 gf.1, kn_i_some, if_neg (show ¬ (1 : Int32) = 0 by decide), kn_u_some, if_pos w1]
          exact fail_ σ2 τ1 ⟨u3, gf, cF_tr hc c2, cF_tr hr r1⟩
    · rw [if_neg q, if_neg q]
      exact next σ τ W sp h
/-- a node sends on, by both; nothing is folded -/
theorem on_sim {σ τ : RS} {T N E ro F W sp nd : Nat} (hnd : nd < N) (hR : RC σ τ T N E ro) (h1 : sp ≤ 3000) (h2 : rg_I σ 15 = nI sp) (h3 : rg_I τ 11 = nI sp) (h4 : rg_I σ 16 = 0) (h5 : rg_L σ 1 = 0) (h6 : rg_I σ 14 = 0) (hF : FL0 σ τ) (hq : QL σ τ E F W) :
    ∃ σ' τ', s_cX3_sendOn σ (nI nd) = some σ' ∧ s_rX12_sendsOn τ (nI nd) = some τ' ∧ cW σ σ' ∧ cF [5, 9, 10, 11, 12, 13, 14, 16, 17] [1, 2, 3] [8, 12, 13, 18] [6, 10] τ τ' ∧ RC σ' τ' T N E ro ∧ ((∃ W' sp', EC σ' τ' sp' ∧ FL0 σ' τ' ∧ QL σ' τ' E F W') ∨ FL1 σ' τ') := by
  have hE : E ≤ 40 := hR.1.2.2.1
  unfold s_cX3_sendOn f_cX3_sendOn_b2 s_rX12_sendsOn f_rX12_sendsOn_b12
  simp only [kn_v]
  have rs : cF [14] [2] [] [] τ (rs_I (rs_L τ 2 0) 14 0) := cF_tr (cF_L _ _ _ (by decide)) (cF_I _ _ _ (by decide))
  obtain ⟨σ', τ', g1, g2, g3⟩ := on_l (σ0 := σ) (τ0 := rs_I (rs_L τ 2 0) 14 0) hnd FU FU 0 W sp σ (rs_I (rs_L τ 2 0) 14 0) (Nat.zero_le _) (by unfold FU; omega) (by unfold FU; omega)
    ⟨RC_F hR (cF_rf [] [] [] [] σ) rs (by decide) (by decide) hR.2.2.2.2.2.1.1, ⟨h1, h2, h3, h4, h5.symm, h6.symm⟩, FL0_F hF (cF_rf [] [] [] [] σ) rs (by decide) (by decide), cF_rf _ _ _ _ _, cF_rf _ _ _ _ _, QL_F hq (cF_rf [] [] [] [] σ) rs (by decide) (by decide)⟩
  rw [nI_0] at g1 g2
  rcases g3 with ⟨W', sp', k1, k2, k3, k4, k5, k6⟩ | ⟨k1, k2, k3, k4⟩
  · exact ⟨σ', τ', g1, g2, k4, cF_tr (cF_mono rs (by decide) (by decide) (by decide) (by decide)) (cF_mono k5 (by decide) (by decide) (by decide) (by decide)), k1, Or.inl ⟨W', sp', k2, k3, k6⟩⟩
  · exact ⟨σ', τ', g1, g2, k3, cF_tr (cF_mono rs (by decide) (by decide) (by decide) (by decide)) (cF_mono k4 (by decide) (by decide) (by decide) (by decide)), k1, Or.inr k2⟩

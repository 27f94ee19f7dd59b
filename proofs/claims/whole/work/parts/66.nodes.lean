/-! all nodes are asked -/
theorem c_setF (σ : RS) (x : Int64) (y : Int32) : s_cX1_setFolded σ x y = some (rs_I (rs_L σ 1 x) 14 y) := rfl
theorem node_sim {σ τ : RS} {T N E ro v sp : Nat} (hv : v < N) (hR : RC σ τ T N E ro) (hC : EC σ τ sp) (hF : FL0 σ τ) (hD : FD σ τ E ro) (h8 : ∀ j, j < 3 → rg_B τ 8 (v * 3 + j) = rg_B σ 1 (v * 3 + j)) :
    NP σ τ T N E ro v (s_cX7_askNode σ (nI v) (nI (mcnt (rg_A σ 11) (rg_A σ 7) (nI v) E))) (s_rX12_renew τ (nI v)) := by
  have hN : N ≤ 12 := hR.1.2.1
  unfold s_cX7_askNode s_rX12_renew
  rcases fold_sim (v := v) hD hF with ⟨fv, τ1, e1, e2, e3, e4, e5⟩ | ⟨σ1, τ1, e1, e2, e3, e4, e5⟩
  · rw [e1, kn_l_some, c_setF, kn_u_some, kn_v, e2, kn_u_some, show nI v * 3 = nI (v * 3 + 0) by rw [show (3 : Int32) = nI 3 from rfl, pk_mul, Nat.add_zero]]
    have cs : cF [14] [1] [] [] σ (rs_I (rs_L σ 1 fv) 14 (nI (mcnt (rg_A σ 11) (rg_A σ 7) (nI v) E))) := cF_tr (cF_L _ _ _ (by decide)) (cF_I _ _ _ (by decide))
    have h := new_l (σ0 := σ) (τ0 := τ) hv FU FU 0 sp (rs_I (rs_L σ 1 fv) 14 (nI (mcnt (rg_A σ 11) (rg_A σ 7) (nI v) E))) τ1 (by decide) (by decide) (by decide)
      ⟨RC_F hR cs e3 (by decide) (by decide) (by rw [e3.1 5 (by decide)]; exact hR.2.2.2.2.2.1.1), ⟨hC.1, hC.2.1, by rw [e3.1 11 (by decide)]; exact hC.2.2.1, hC.2.2.2.1, e4, e5⟩, FL0_F hF cs e3 (by decide) (by decide), cF_mono cs (by decide) (by decide) (by decide) (by decide), cF_mono e3 (by decide) (by decide) (by decide) (by decide), fun j hj => absurd hj (Nat.not_lt_zero _), fun j _ hj => by rw [e3.2.2.2 8 (by decide)]; exact h8 j hj, fun x _ => ⟨rfl, by rw [e3.2.2.2 8 (by decide)]⟩, rfl, by rw [e3.2.2.1 16 (by decide)]⟩
    rw [nI_0] at h
    exact h
  · rw [e1, kn_l_some, c_setF, kn_u_some, kn_v, e2, kn_u_some]
    have cs : cF [6, 7, 8, 9, 10, 14] [1] [] [] σ (rs_I (rs_L σ1 1 0) 14 (nI (mcnt (rg_A σ 11) (rg_A σ 7) (nI v) E))) := cF_tr (cF_mono e4 (by decide) (by decide) (by decide) (by decide)) (cF_tr (cF_L _ _ _ (by decide)) (cF_I _ _ _ (by decide)))
    have f1 : FL1 (rs_I (rs_L σ1 1 0) 14 (nI (mcnt (rg_A σ 11) (rg_A σ 7) (nI v) E))) τ1 := FL1_F e3 (cF_tr (cF_L (LI := [14]) (LL := [1]) (LA := []) (LB := []) σ1 1 0 (by decide)) (cF_I _ 14 _ (by decide))) (cF_rf [] [] [] [] τ1) (by decide) (by decide)
    have rw1 : cF [] [] [16] [] τ1 (rs_A τ1 16 (upd (rg_A τ1 16) v 1)) := cF_A _ _ _ (by decide)
    have rr : cF [14] [2] [8, 16] [] τ (rs_A τ1 16 (upd (rg_A τ1 16) v 1)) := cF_tr (cF_mono e5 (by decide) (by decide) (by decide) (by decide)) (cF_mono rw1 (by decide) (by decide) (by decide) (by decide))
    refine ⟨_, _, ?_, r_new_f (by omega) (FL1_r f1) (by decide), Or.inr ⟨RC_F hR cs rr (by decide) (by decide) (by rw [rr.1 5 (by decide), cs.1 17 (by decide)]; exact hR.2.2.2.2.2.1.1), FL1_F f1 (cF_rf [] [] [] [] _) rw1 (by decide) (by decide), cF_mono cs (by decide) (by decide) (by decide) (by decide), cF_mono rr (by decide) (by decide) (by decide) (by decide)⟩⟩
    rw [f_cX7_askNode_b20, FU_s, kn_fix_s, s_cX7_askNode_b20, c_is1 f1.1, kn_i_some, if_neg (show ¬ (1 : Int32) = 0 by decide), s_cX7_askNode_b75, c_is1 f1.1, kn_i_some, if_neg (show ¬ (1 : Int32) = 0 by decide)]
    split <;> rfl
abbrev cL : RS → RS → Prop := cF [6, 7, 8, 9, 10, 14, 15, 16, 17] [1] [12, 13] [5]
/-- nodes below v were asked -/
def NL (σ0 τ0 σ τ : RS) (T N E ro v sp : Nat) : Prop := RC σ τ T N E ro ∧ EC σ τ sp ∧ FL0 σ τ ∧ FD σ τ E ro ∧ cL σ0 σ ∧ rN τ0 τ ∧
  (∀ u, u < v → (rg_A σ 12 u = 1 ∧ (∀ j, j < 3 → rg_B σ 5 (u * 3 + j) = rg_B τ 8 (u * 3 + j)) ∧ ((rg_A σ 13 u = 0 ∧ rg_A τ 16 u = 1) ∨ (rg_A σ 13 u = 1 ∧ rg_A τ 16 u = 0))) ∨ (rg_A σ 12 u = 0 ∧ (∀ j, j < 3 → rg_B τ 8 (u * 3 + j) = rg_B σ 1 (u * 3 + j)) ∧ rg_A τ 16 u = rg_A σ 4 u)) ∧
  (∀ u, v ≤ u → u < 12 → ∀ j, j < 3 → rg_B τ 8 (u * 3 + j) = rg_B σ 1 (u * 3 + j)) ∧ (∀ u, v ≤ u → u < N → rg_A τ 16 u = rg_A σ 4 u)
def NLF (σ0 τ0 σ τ : RS) (T N E ro : Nat) : Prop := RC σ τ T N E ro ∧ FL1 σ τ ∧ cL σ0 σ ∧ rN τ0 τ
theorem r_nodes_f {τ : RS} (hF : rg_A τ 8 0 ≠ 0) {m : Nat} (hm : 0 < m) {y : Int32} : kn_fix (fun _ _ => none) s_rX12_round_b80 m τ y = some (0, τ) := by
  obtain ⟨m, rfl⟩ : ∃ q, m = q + 1 := ⟨m - 1, by omega⟩
  have e : s_rX12_round_b114 τ = some (0, τ) := by
    unfold s_rX12_round_b114
    rw [r_isF1 hF, kn_i_some, if_neg (by decide)]
  rw [kn_fix_s, s_rX12_round_b80, r_isF1 hF, kn_i_some, if_neg (show ¬ (1 : Int32) = 0 by decide), e]
  by_cases c : rg_I τ 1 ≤ y
  · rw [if_pos c]
  · rw [if_neg c]
theorem FD_c {σ τ σ' τ' : RS} {E ro : Nat} {LI LL LA LB MI ML MA MB : List Nat} (h : FD σ τ E ro) (c : cF LI LL LA LB σ σ') (r : cF MI ML MA MB τ τ') (hc : (decide (3 ∉ LI ∧ 4 ∉ LI ∧ 5 ∉ LI ∧ 11 ∉ LA ∧ 7 ∉ LA ∧ 4 ∉ LB)) = true) (hr : (decide (2 ∉ MI ∧ 3 ∉ MI ∧ 4 ∉ MI ∧ 14 ∉ MA ∧ 6 ∉ MA ∧ 7 ∉ MB)) = true) : FD σ' τ' E ro := by
  have q1 := of_decide_eq_true hc
  have q2 := of_decide_eq_true hr
  unfold FD at h ⊢
  rw [c.1 3 q1.1, c.1 4 q1.2.1, c.1 5 q1.2.2.1, c.2.2.1 11 q1.2.2.2.1, c.2.2.1 7 q1.2.2.2.2.1, c.2.2.2 4 q1.2.2.2.2.2, r.1 2 q2.1, r.1 3 q2.2.1, r.1 4 q2.2.2.1, r.2.2.1 14 q2.2.2.2.1, r.2.2.1 6 q2.2.2.2.2.1, r.2.2.2 7 q2.2.2.2.2.2]
  exact h
theorem nodes_l {σ0 τ0 : RS} {T N E ro : Nat} : ∀ (n m v sp : Nat) (σ τ : RS), v ≤ N → N - v < n → N - v < m → NL σ0 τ0 σ τ T N E ro v sp →
    (∃ (σ' τ' : RS) (sp' : Nat), kn_fix (fun _ _ => none) s_cX7_askNodes_b2 n σ (nI v) = some σ' ∧ kn_fix (fun _ _ => none) s_rX12_round_b80 m τ (nI v) = s_rX12_round_b114 τ' ∧ NL σ0 τ0 σ' τ' T N E ro N sp') ∨
    (∃ σ' τ' : RS, kn_fix (fun _ _ => none) s_cX7_askNodes_b2 n σ (nI v) = some σ' ∧ kn_fix (fun _ _ => none) s_rX12_round_b80 m τ (nI v) = some (0, τ') ∧ NLF σ0 τ0 σ' τ' T N E ro)
  | 0, m, v, sp, σ, τ, h1, h2, h3, h => absurd h2 (Nat.not_lt_zero _)
  | n + 1, 0, v, sp, σ, τ, h1, h2, h3, h => absurd h3 (Nat.not_lt_zero _)
  | n + 1, m + 1, v, sp, σ, τ, h1, h2, h3, h => by
    have h' := h
    obtain ⟨hR, hC, hF, hD, hc, hr, hu, hb8, hb16⟩ := h'
    have hN : N ≤ 12 := hR.1.2.1
    have s2 : rg_I σ 2 = nI N := hR.2.2.1.2.2.1
    have t1 : rg_I τ 1 = nI N := hR.2.2.1.2.2.2.1
    have a4 : rg_A τ 4 = rg_A σ 4 := hR.2.2.2.2.1.2.1
    rw [kn_fix_s, kn_fix_s, s_cX7_askNodes_b2, s_rX12_round_b80, s2, t1]
    by_cases c : N ≤ v
    · rw [if_pos ((nI_leI (by omega) (by omega)).mpr c), if_pos ((nI_leI (by omega) (by omega)).mpr c)]
      have ev : v = N := by omega
      subst ev
      exact Or.inl ⟨σ, τ, sp, rfl, rfl, h⟩
    have hvN : v < N := by omega
    have hbit : bit (rg_A σ 4 v) := hR.2.2.2.2.2.2.2.2.2.2 v (by omega)
    have hmc : mcnt (rg_A τ 14) (rg_A τ 6) (nI v) E = mcnt (rg_A σ 11) (rg_A σ 7) (nI v) E := mcnt_cg E hD.2.2.2.1 (fun i _ => by rw [hD.2.2.2.2.1])
    have hml := mcnt_le (rg_A σ 11) (rg_A σ 7) (nI v) E
    have hE : E ≤ 40 := hD.1
    rw [if_neg (fun q => c ((nI_leI (by omega) (by omega)).mp q)), if_neg (fun q => c ((nI_leI (by omega) (by omega)).mp q)), c_msgs hD.1 hD.2.1, kn_i_some, r_isF0 hF.2.1, kn_i_some, if_pos rfl, r_reach hD.1 (by omega) hD.2.2.1 (by rw [a4]; exact hbit), kn_i_some, a4, hmc, ld_n (show v < 12 by omega) (by decide)]
    -- the class writes whether it is reached
    have cls : (if rg_A σ 4 v = 0 then (if nI (mcnt (rg_A σ 11) (rg_A σ 7) (nI v) E) ≤ 0 then s_cX7_askNodes_b45 (kn_fix (fun _ _ => none) s_cX7_askNodes_b2 n) σ (nI v) (nI (mcnt (rg_A σ 11) (rg_A σ 7) (nI v) E)) 0 (nI v) else s_cX7_askNodes_b40 (kn_fix (fun _ _ => none) s_cX7_askNodes_b2 n) σ (nI v) (nI (mcnt (rg_A σ 11) (rg_A σ 7) (nI v) E)) (nI v)) else s_cX7_askNodes_b40 (kn_fix (fun _ _ => none) s_cX7_askNodes_b2 n) σ (nI v) (nI (mcnt (rg_A σ 11) (rg_A σ 7) (nI v) E)) (nI v)) =
        s_cX7_askNodes_b45 (kn_fix (fun _ _ => none) s_cX7_askNodes_b2 n) σ (nI v) (nI (mcnt (rg_A σ 11) (rg_A σ 7) (nI v) E)) (if rg_A σ 4 v ≠ 0 ∨ 0 < mcnt (rg_A σ 11) (rg_A σ 7) (nI v) E then 1 else 0) (nI v) := by
      by_cases z : rg_A σ 4 v = 0
      · rw [if_pos z]
        by_cases y : 0 < mcnt (rg_A σ 11) (rg_A σ 7) (nI v) E
        · rw [if_neg (nI_nle y (by omega)), if_pos (Or.inr y), s_cX7_askNodes_b40]
        · rw [if_pos (show nI (mcnt (rg_A σ 11) (rg_A σ 7) (nI v) E) ≤ 0 by rw [show mcnt (rg_A σ 11) (rg_A σ 7) (nI v) E = 0 by omega]; decide), if_neg (fun q => q.elim (fun p => p z) y)]
      · rw [if_neg z, if_pos (Or.inl z), s_cX7_askNodes_b40]
    rw [cls]
    by_cases rch : rg_A σ 4 v ≠ 0 ∨ 0 < mcnt (rg_A σ 11) (rg_A σ 7) (nI v) E
    · rw [if_pos rch, if_neg (show ¬ (1 : Int32) = 0 by decide), s_cX7_askNodes_b45, st_n (show v < 12 by omega) (by decide), ld_n (show v < 12 by omega) (by decide), nI_clamp (show v < 2 ^ 31 by omega), show rg_A (rs_A σ 12 (upd (rg_A σ 12) v (vp_nar .boolean 1))) 12 v = 1 from pk_us, if_neg (show ¬ (1 : Int32) = 0 by decide)]
      have cs : cF [] [] [12] [] σ (rs_A σ 12 (upd (rg_A σ 12) v (vp_nar .boolean 1))) := cF_A _ _ _ (by decide)
      have e12 : ∀ u, u ≠ v → rg_A (rs_A σ 12 (upd (rg_A σ 12) v (vp_nar .boolean 1))) 12 u = rg_A σ 12 u := fun u hu => pk_un hu
      have e12v : rg_A (rs_A σ 12 (upd (rg_A σ 12) v (vp_nar .boolean 1))) 12 v = 1 := pk_us
      have hR1 := RC_F hR cs (cF_rf [] [] [] [] τ) (by decide) (by decide) hR.2.2.2.2.2.1.1
      have hC1 := EC_F hC cs (cF_rf [] [] [] [] τ) (by decide) (by decide)
      have hF1 := FL0_F hF cs (cF_rf [] [] [] [] τ) (by decide) (by decide)
      have hD1 := FD_c hD cs (cF_rf [] [] [] [] τ) (by decide) (by decide)
      obtain ⟨σ2, τ2, g1, g2, g3⟩ := node_sim hvN hR1 hC1 hF1 hD1 (hb8 v (Nat.le_refl _) (by omega))
      rw [show mcnt (rg_A σ 11) (rg_A σ 7) (nI v) E = mcnt (rg_A (rs_A σ 12 (upd (rg_A σ 12) v (vp_nar .boolean 1))) 11) (rg_A (rs_A σ 12 (upd (rg_A σ 12) v (vp_nar .boolean 1))) 7) (nI v) E from rfl, g1, kn_u_some, g2, kn_u_some, s_cX7_askNodes_b61, s_rX12_round_b108, kn_v]
      have cA : cL σ (rs_A σ 12 (upd (rg_A σ 12) v (vp_nar .boolean 1))) := cF_mono cs (by decide) (by decide) (by decide) (by decide)
      generalize rs_A σ 12 (upd (rg_A σ 12) v (vp_nar .boolean 1)) = σ1 at *
      rcases g3 with ⟨n1, ⟨sp2, n2⟩, n3, n4, n5, n6, n7, n8, n9⟩ | ⟨n1, n2, n3, n4⟩
      · rw [c_is0 n3.1, kn_i_some, if_pos rfl, kn_v, nI_1]
        have e1 : rg_B σ2 1 = rg_B σ 1 := by rw [n4.2.2.2 1 (by decide), cs.2.2.2 1 (by decide)]
        have e4 : rg_A σ2 4 = rg_A σ 4 := by rw [n4.2.2.1 4 (by decide), cs.2.2.1 4 (by decide)]
        have e5 : rg_B σ1 5 = rg_B σ 5 := cs.2.2.2 5 (by decide)
        have e13 : rg_A σ1 13 = rg_A σ 13 := cs.2.2.1 13 (by decide)
        have e12' : rg_A σ2 12 = rg_A σ1 12 := n4.2.2.1 12 (by decide)
        refine nodes_l n m (v + 1) sp2 σ2 τ2 (by omega) (by omega) (by omega) ⟨n1, n2, n3, FD_c hD1 n4 n5 (by decide) (by decide), cF_tr hc (cF_tr cA (cF_mono n4 (by decide) (by decide) (by decide) (by decide))), cF_tr hr n5, ?_, ?_, ?_⟩
        · intro u hu'
          by_cases z : u = v
          · subst z
            exact Or.inl ⟨by rw [e12']; exact e12v, n6, n8⟩
          · obtain ⟨p1, p2⟩ := n9 u z
            have o := fun j (hj : j < 3) => n7 (u * 3 + j) (by omega)
            rcases hu u (by omega) with ⟨q1, q2, q3⟩ | ⟨q1, q2, q3⟩
            · refine Or.inl ⟨by rw [e12', e12 u z]; exact q1, fun j hj => ?_, ?_⟩
              · rw [(o j hj).1, (o j hj).2, e5]; exact q2 j hj
              · rw [p1, p2, e13]; exact q3
            · refine Or.inr ⟨by rw [e12', e12 u z]; exact q1, fun j hj => ?_, ?_⟩
              · rw [(o j hj).2, e1]; exact q2 j hj
              · rw [p2, e4]; exact q3
        · intro u hu1 hu2 j hj
          rw [(n7 (u * 3 + j) (by omega)).2, e1]; exact hb8 u (by omega) hu2 j hj
        · intro u hu1 hu2
          rw [(n9 u (by omega)).2, e4]; exact hb16 u (by omega) hu2
      · rw [c_is1 n2.1, kn_i_some, if_neg (show ¬ (1 : Int32) = 0 by decide), r_nodes_f (FL1_r n2) (by omega)]
        exact Or.inr ⟨σ2, τ2, rfl, rfl, n1, n2, cF_tr hc (cF_tr cA (cF_mono n3 (by decide) (by decide) (by decide) (by decide))), cF_tr hr n4⟩
    · rw [if_neg rch, if_pos rfl, s_cX7_askNodes_b45, st_n (show v < 12 by omega) (by decide), ld_n (show v < 12 by omega) (by decide), nI_clamp (show v < 2 ^ 31 by omega), show rg_A (rs_A σ 12 (upd (rg_A σ 12) v (vp_nar .boolean 0))) 12 v = 0 from pk_us, if_pos rfl, s_cX7_askNodes_b61, s_rX12_round_b108, kn_v, nI_1]
      have cs : cF [] [] [12] [] σ (rs_A σ 12 (upd (rg_A σ 12) v (vp_nar .boolean 0))) := cF_A _ _ _ (by decide)
      have e12 : ∀ u, u ≠ v → rg_A (rs_A σ 12 (upd (rg_A σ 12) v (vp_nar .boolean 0))) 12 u = rg_A σ 12 u := fun u hu => pk_un hu
      have hF1 := FL0_F hF cs (cF_rf [] [] [] [] τ) (by decide) (by decide)
      rw [c_is0 hF1.1, kn_i_some, if_pos rfl, kn_v]
      refine nodes_l n m (v + 1) sp _ τ (by omega) (by omega) (by omega) ⟨RC_F hR cs (cF_rf [] [] [] [] τ) (by decide) (by decide) hR.2.2.2.2.2.1.1, EC_F hC cs (cF_rf [] [] [] [] τ) (by decide) (by decide), hF1, FD_c hD cs (cF_rf [] [] [] [] τ) (by decide) (by decide), cF_tr hc (cF_mono cs (by decide) (by decide) (by decide) (by decide)), hr, ?_, ?_, ?_⟩
      · intro u hu'
        by_cases z : u = v
        · subst z
          exact Or.inr ⟨pk_us, hb8 u (Nat.le_refl _) (by omega), hb16 u (Nat.le_refl _) hvN⟩
        · rcases hu u (by omega) with ⟨q1, q2, q3⟩ | ⟨q1, q2, q3⟩
          · exact Or.inl ⟨by rw [e12 u z]; exact q1, q2, q3⟩
          · exact Or.inr ⟨by rw [e12 u z]; exact q1, q2, q3⟩
      · intro u hu1 hu2 j hj
        exact hb8 u (by omega) hu2 j hj
      · intro u hu1 hu2
        exact hb16 u (by omega) hu2

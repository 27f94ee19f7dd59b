/-! a message is taken: by both -/
def ES (σ τ : RS) (sp : Nat) : Prop := sp ≤ 3000 ∧ rg_I σ 15 = nI sp ∧ rg_I τ 11 = nI sp ∧ rg_I σ 16 = 0
theorem EC_ES {σ τ : RS} {sp : Nat} (h : EC σ τ sp) : ES σ τ sp := ⟨h.1, h.2.1, h.2.2.1, h.2.2.2.1⟩
theorem ES_F {σ τ σ' τ' : RS} {sp : Nat} {LI LL LA LB MI ML MA MB : List Nat} (h : ES σ τ sp) (c : cF LI LL LA LB σ σ') (r : cF MI ML MA MB τ τ') (h1 : (decide (15 ∉ LI ∧ 16 ∉ LI)) = true) (h2 : (decide (11 ∉ MI)) = true) : ES σ' τ' sp := by
  have q1 := of_decide_eq_true h1
  have q2 := of_decide_eq_true h2
  unfold ES at h ⊢
  rw [c.1 15 q1.1, c.1 16 q1.2, r.1 11 q2]
  exact h
abbrev cT : RS → RS → Prop := cF [6, 7, 8, 9, 10, 14, 15, 16, 17, 19, 20] [1] [14] [1, 6, 7, 8]
abbrev rT : RS → RS → Prop := cF [5, 9, 10, 11, 12, 13, 14, 16, 17] [1, 2, 3] [8, 12, 13, 18] [1, 6, 8, 10, 11]
def TK (σ0 τ0 : RS) (T N E ro tk : Nat) (x2 : Int32) (val : Int64) (oc or : Option (Int32 × RS)) : Prop := ∃ (σ' τ' : RS), cT σ0 σ' ∧ rT τ0 τ' ∧ RC σ' τ' T N E ro ∧ ((oc = some (1, σ') ∧ or = some (1, rs_B (rs_A τ' 11 (upd (rg_A τ' 11) tk x2)) 5 (vp_updL (rg_B τ' 5) tk val)) ∧ FL0 σ' τ' ∧ ∃ sp F W, ES σ' τ' sp ∧ QL σ' τ' E F W) ∨ (oc = some (0, σ') ∧ or = some (0, τ') ∧ FL1 σ' τ'))
theorem TK_tr {σ0 τ0 σ τ : RS} {T N E ro tk : Nat} {x2 : Int32} {val : Int64} {oc or : Option (Int32 × RS)} (c : cT σ0 σ) (r : rT τ0 τ) (h : TK σ τ T N E ro tk x2 val oc or) : TK σ0 τ0 T N E ro tk x2 val oc or := by
  obtain ⟨σ', τ', h1, h2, h3⟩ := h
  exact ⟨σ', τ', cF_tr c h1, cF_tr r h2, h3⟩
/-- states of one node written anew on both sides -/
theorem RC_b1 {σ τ σ' τ' : RS} {T N E ro : Nat} (h : RC σ τ T N E ro) (c : cF [] [] [] [1] σ σ') (r : cF [] [] [] [1] τ τ') (e : rg_B τ' 1 = rg_B σ' 1) : RC σ' τ' T N E ro :=
  RC_dyn h c r (by decide) (by decide) (by rw [r.1 5 (by decide), c.1 17 (by decide)]; exact h.2.2.2.2.2.1.1) e (by rw [r.2.2.1 4 (by decide), c.2.2.1 4 (by decide)]; exact h.2.2.2.2.1.2.1) (by rw [r.2.1 0 (by decide), c.2.1 0 (by decide)]; exact h.2.2.2.2.1.2.2.2.2.2.2.2) (by rw [c.1 4 (by decide)]; exact h.2.2.1.2.2.2.2.2.2.1) (by rw [r.1 4 (by decide)]; exact h.2.2.1.2.2.2.2.2.2.2) h.1.2.2.2 (fun v hv => by rw [c.2.2.1 4 (by decide)]; exact h.2.2.2.2.2.2.2.2.2.2 v hv)
theorem cp3_in {f g : Nat → Int64} {a b j : Nat} (h : j < 3) : va_cpy f g a b 3 (b + j) = f (a + j) := by rw [pk_cpy_in (by omega) (by omega), show b + j - b = j by omega]
theorem cp_0b {β : Type} {σ : RS} {k : RS → Option β} {n0 n1 b : Nat} (h1 : 3 ≤ n0) (h2 : b + 3 ≤ n1) (h3 : n0 < 1000) (h4 : n1 < 1000) : kn_cp n0 n1 0 (nI b) 3 σ k = k σ := cp_n (a := 0) (c := 3) (by omega) h2 h3 h4
theorem cp_a0 {β : Type} {σ : RS} {k : RS → Option β} {n0 n1 a : Nat} (h1 : a + 3 ≤ n0) (h2 : 3 ≤ n1) (h3 : n0 < 1000) (h4 : n1 < 1000) : kn_cp n0 n1 (nI a) 0 3 σ k = k σ := cp_n (b := 0) (c := 3) h1 (by omega) h3 h4
theorem cl_0 : (0 : Int32).toNatClampNeg = 0 := rfl
theorem cl_3 : (3 : Int32).toNatClampNeg = 3 := rfl
theorem c_rest {σ : RS} {nt : Nat} (hnt : nt < 12) (h : rg_I σ 6 ≠ 0) : s_cX3_isDone_b139 σ (nI nt) = some (0, rs_B σ 1 (va_cpy (rg_B σ 8) (rg_B σ 1) 0 (nt * 3) 3)) := by
  unfold s_cX3_isDone_b139
  rw [c_is1 h, kn_i_some, if_neg (show ¬ (1 : Int32) = 0 by decide), n3, cp_0b (by omega) (by omega) (by decide) (by decide), cl_0, cl_3, nI_clamp (show nt * 3 < 2 ^ 31 by omega)]
theorem tk_303 {σ τ : RS} {T N E ro nt tk : Nat} {x2 : Int32} {val : Int64} (hnt : nt < N) (ht : tk < 200) (hR : RC σ τ T N E ro) (hb : ∀ j, j < 3 → rg_B σ 8 j = rg_B τ 11 j) (h : (FL0 σ τ ∧ ∃ sp F W, ES σ τ sp ∧ QL σ τ E F W) ∨ FL1 σ τ) : TK σ τ T N E ro tk x2 val (s_cX3_isDone_b139 σ (nI nt)) (s_rX12_takes_b303 τ (nI tk) x2 val (nI nt)) := by
  have hN : N ≤ 12 := hR.1.2.1
  rcases h with ⟨hF, hS⟩ | hF
  · refine ⟨σ, τ, cF_rf _ _ _ _ _, cF_rf _ _ _ _ _, hR, Or.inl ⟨?_, ?_, hF, hS⟩⟩
    · unfold s_cX3_isDone_b139
      rw [c_is0 hF.1, kn_i_some, if_pos rfl]
    · unfold s_rX12_takes_b303
      rw [r_isF0 hF.2.1, kn_i_some, if_pos rfl, st_n (show tk < 200 by omega) (by decide), st_n (show tk < 200 by omega) (by decide), nI_clamp (show tk < 2 ^ 31 by omega)]
      rfl
  · obtain ⟨τ', g1, g2, g3, g4⟩ := r_tk313 (τ0 := τ) (nt := nt) (by omega)
    have cs : cF [] [] [] [1] σ (rs_B σ 1 (va_cpy (rg_B σ 8) (rg_B σ 1) 0 (nt * 3) 3)) := cF_B _ _ _ (by decide)
    refine ⟨_, τ', cF_mono cs (by decide) (by decide) (by decide) (by decide), cF_mono g2 (by decide) (by decide) (by decide) (by decide), RC_b1 hR cs g2 ?_, Or.inr ⟨c_rest (by omega) hF.1, ?_, FL1_F hF cs g2 (by decide) (by decide)⟩⟩
    · funext k
      show _ = va_cpy (rg_B σ 8) (rg_B σ 1) 0 (nt * 3) 3 k
      by_cases z : k < nt * 3 ∨ nt * 3 + 3 ≤ k
      · rw [g4 k z, pk_cpy_out (by omega)]; exact congrFun hR.2.2.2.2.1.1 k
      · obtain ⟨j, hj, rfl⟩ : ∃ j, j < 3 ∧ k = nt * 3 + j := ⟨k - nt * 3, by omega, by omega⟩
        rw [g3 j hj, cp3_in hj, Nat.zero_add, hb j hj]
    · unfold s_rX12_takes_b303
      rw [r_isF1 (FL1_r hF), kn_i_some, if_neg (by decide), g1]
theorem tk_end {σ τ : RS} {T N E ro nt tk : Nat} {x2 s0 : Int32} {val : Int64} (hnt : nt < N) (ht : tk < 200) (hR : RC σ τ T N E ro) (hb : ∀ j, j < 3 → rg_B σ 8 j = rg_B τ 11 j) (h : (FL0 σ τ ∧ ∃ sp F W, ES σ τ sp ∧ QL σ τ E F W) ∨ FL1 σ τ) : TK σ τ T N E ro tk x2 val (s_cX3_isDone_b104 σ (nI nt) s0) (s_rX12_takes_b283 τ (nI tk) x2 val (nI nt) s0) := by
  unfold s_cX3_isDone_b104 s_rX12_takes_b283 s_cX1_setFolded
  simp only [kn_v]
  rw [kn_u_some]
  have cs : cF [14] [1] [] [] σ (rs_I (rs_L σ 1 0) 14 0) := cF_tr (cF_L _ _ _ (by decide)) (cF_I _ _ _ (by decide))
  have hR1 : RC (rs_I (rs_L σ 1 0) 14 0) τ T N E ro := RC_F hR cs (cF_rf [] [] [] [] τ) (by decide) (by decide) hR.2.2.2.2.2.1.1
  refine TK_tr (cF_mono cs (by decide) (by decide) (by decide) (by decide)) (cF_rf _ _ _ _ τ) ?_
  rcases h with ⟨hF, sp, F, W, hS, hq⟩ | hF
  · have hF1 : FL0 (rs_I (rs_L σ 1 0) 14 0) τ := FL0_F hF cs (cF_rf [] [] [] [] τ) (by decide) (by decide)
    have hS1 : ES (rs_I (rs_L σ 1 0) 14 0) τ sp := ES_F hS cs (cF_rf [] [] [] [] τ) (by decide) (by decide)
    have hq1 : QL (rs_I (rs_L σ 1 0) 14 0) τ E F W := QL_F hq cs (cF_rf [] [] [] [] τ) (by decide) (by decide)
    rw [c_is0 hF1.1, kn_i_some, if_pos rfl, r_isF0 hF1.2.1, kn_i_some, if_pos rfl]
    by_cases z : s0 = 0
    · rw [if_pos z, if_pos z]
      obtain ⟨σ2, τ2, g1, g2, g3, g4, g5, g6⟩ := on_sim (nd := nt) hnt hR1 hS1.1 hS1.2.1 hS1.2.2.1 hS1.2.2.2 rfl rfl hF1 hq1
      rw [g1, kn_u_some, g2, kn_u_some]
      refine TK_tr (cF_mono g3 (by decide) (by decide) (by decide) (by decide)) (cF_mono g4 (by decide) (by decide) (by decide) (by decide)) (tk_303 hnt ht g5 (fun j hj => ?_) ?_)
      · rw [g3.2.2.2 8 (by decide), g4.2.2.2 11 (by decide)]; exact hb j hj
      · rcases g6 with ⟨W', sp', k1, k2, k3⟩ | k1
        · exact Or.inl ⟨k2, sp', F, W', EC_ES k1, k3⟩
        · exact Or.inr k1
    · rw [if_neg z, if_neg z]
      exact tk_303 hnt ht hR1 hb (Or.inl ⟨hF1, sp, F, W, hS1, hq1⟩)
  · have hF1 : FL1 (rs_I (rs_L σ 1 0) 14 0) τ := FL1_F hF cs (cF_rf [] [] [] [] τ) (by decide) (by decide)
    rw [c_is1 hF1.1, kn_i_some, if_neg (show ¬ (1 : Int32) = 0 by decide), r_isF1 (FL1_r hF1), kn_i_some, if_neg (show ¬ (1 : Int32) = 0 by decide)]
    exact tk_303 hnt ht hR1 hb (Or.inr hF1)
/-- behind NEW: states, HALT, sending on -/
theorem tk_new {σ τ : RS} {T N E ro nt tk sp F W : Nat} {x2 : Int32} {val : Int64} (hnt : nt < N) (ht : tk < 200) (hR : RC σ τ T N E ro) (hC : EC σ τ sp) (hF : FL0 σ τ) (hq : QL σ τ E F W) (h7 : ∀ j, j < 3 → rg_B σ 7 j = rg_B τ 8 j) (hb : ∀ j, j < 3 → rg_B σ 8 j = rg_B τ 11 j) : TK σ τ T N E ro tk x2 val (kn_u (s_cX3_takeStates_b48 σ (nI nt)) (fun σ8 => kn_i (s_cX2_is σ8) (fun v9 σ10 => if v9 = 0 then (kn_l (s_cX0_comesTo σ10 5 (nI nt) (-1) 0) (fun v11 σ12 => if v11 = 0 then (s_cX3_isDone_b103 σ12 (nI nt)) else (s_cX3_isDone_b104 σ12 (nI nt) 1))) else (s_cX3_isDone_b103 σ10 (nI nt))))) (s_rX12_takes_b205 τ (nI tk) x2 val (nI nt)) := by
  have hN : N ≤ 12 := hR.1.2.1
  obtain ⟨τ', g1, g2, g3, g4⟩ := r_tk217 (τ0 := τ) (x1 := nI tk) (x2 := x2) (x3 := val) (nt := nt) (by omega)
  have cs : cF [] [] [] [1] σ (rs_B σ 1 (va_cpy (rg_B σ 7) (rg_B σ 1) 0 (nt * 3) 3)) := cF_B _ _ _ (by decide)
  have e1 : s_cX3_takeStates_b48 σ (nI nt) = some (rs_B σ 1 (va_cpy (rg_B σ 7) (rg_B σ 1) 0 (nt * 3) 3)) := by
    unfold s_cX3_takeStates_b48
    rw [n3, cp_0b (by omega) (by omega) (by decide) (by decide), cl_0, cl_3, nI_clamp (show nt * 3 < 2 ^ 31 by omega)]
  unfold s_rX12_takes_b205
  rw [e1, kn_u_some, r_isF0 hF.2.1, kn_i_some, if_pos rfl, g1]
  refine TK_tr (cF_mono cs (by decide) (by decide) (by decide) (by decide)) (cF_mono g2 (by decide) (by decide) (by decide) (by decide)) ?_
  have hR1 : RC (rs_B σ 1 (va_cpy (rg_B σ 7) (rg_B σ 1) 0 (nt * 3) 3)) τ' T N E ro := RC_b1 hR cs g2 (by
    funext k
    show _ = va_cpy (rg_B σ 7) (rg_B σ 1) 0 (nt * 3) 3 k
    by_cases z : k < nt * 3 ∨ nt * 3 + 3 ≤ k
    · rw [g4 k z, pk_cpy_out (by omega)]; exact congrFun hR.2.2.2.2.1.1 k
    · obtain ⟨j, hj, rfl⟩ : ∃ j, j < 3 ∧ k = nt * 3 + j := ⟨k - nt * 3, by omega, by omega⟩
      rw [g3 j hj, cp3_in hj, Nat.zero_add, h7 j hj])
  have hC1 := EC_F hC cs g2 (by decide) (by decide)
  have hF1 := FL0_F hF cs g2 (by decide) (by decide)
  have hq1 := QL_F hq cs g2 (by decide) (by decide)
  have hb1 : ∀ j, j < 3 → rg_B (rs_B σ 1 (va_cpy (rg_B σ 7) (rg_B σ 1) 0 (nt * 3) 3)) 8 j = rg_B τ' 11 j := fun j hj => by rw [cs.2.2.2 8 (by decide), g2.2.2.2 11 (by decide)]; exact hb j hj
  generalize rs_B σ 1 (va_cpy (rg_B σ 7) (rg_B σ 1) 0 (nt * 3) 3) = σ1 at *
  have a7 : rg_A τ' 7 = rg_A σ1 8 := hR1.2.2.2.2.1.2.2.2.2.2.1
  rw [c_is0 hF1.1, kn_i_some, if_pos rfl]
  unfold s_rX12_takes_b248 s_cX3_isDone_b103 s_rX12_takes_b282
  rw [show (5 : Int32) = nI 5 from rfl, ld_n (f := rg_A τ' 7) (show 5 < 7 by omega) (by decide), a7]
  rcases hR1.2.2.2.2.2.2.2.2.1 5 (by omega) with w0 | ⟨t, htt, w0⟩
  · rw [if_pos w0, c_none (by omega) w0, kn_l_some, if_pos rfl]
    exact tk_end hnt ht hR1 hb1 (Or.inl ⟨hF1, sp, F, W, EC_ES hC1, hq1⟩)
  · have ht40 : t < 2 ^ 31 := by have := hR1.1.1; omega
    rw [if_neg (by rw [w0]; exact nI_ne1 ht40)]
    obtain ⟨x, b, σ2, τ2, sp1, k1, k2, k3, k4, k5, k6, k7⟩ := do_sim (a := 5) (ar := -1) 0 hR1 hC1 hF1 hnt (Or.inl rfl) (by omega) htt w0
    rw [k1, kn_l_some, k2, kn_i_some]
    have c1 := cfr_F k3
    have r1 := rfr_F k4
    refine TK_tr (cF_mono c1 (by decide) (by decide) (by decide) (by decide)) (cF_mono r1 (by decide) (by decide) (by decide) (by decide)) ?_
    have hb2 : ∀ j, j < 3 → rg_B σ2 8 j = rg_B τ2 11 j := fun j hj => by rw [c1.2.2.2 8 (by decide), r1.2.2.2 11 (by decide)]; exact hb1 j hj
    rcases k7 with ⟨rfl, gc, gf, gv⟩ | ⟨rfl, rfl, gf⟩
    · have hq2 := QL_F hq1 c1 r1 (by decide) (by decide)
      rw [if_neg (show ¬ (1 : Int32) = 0 by decide), gv]
      by_cases z : x = 0
      · rw [if_pos z, if_pos z]
        exact tk_end hnt ht k5 hb2 (Or.inl ⟨gf, sp1, F, W, EC_ES gc, hq2⟩)
      · rw [if_neg z, if_neg z]
        exact tk_end hnt ht k5 hb2 (Or.inl ⟨gf, sp1, F, W, EC_ES gc, hq2⟩)
    · rw [if_pos rfl, if_pos rfl]
      exact tk_end hnt ht k5 hb2 (Or.inr gf)
theorem take_sim {σ τ : RS} {T N E ro tk sp F W : Nat} (ht : tk < 200) (hR : RC σ τ T N E ro) (hS : ES σ τ sp) (hF : FL0 σ τ) (hq : QL σ τ E F W) (hW : 0 < W) : ∃ e, e < E ∧ rg_A σ 14 F = nI e ∧ TK σ τ T N E ro tk (nI e) (rg_B σ 6 F) (s_cX3_isDone σ (nI e) (rg_B σ 6 F)) (s_rX12_takes τ (nI tk)) := by
  have hN : N ≤ 12 := hR.1.2.1
  have hE : E ≤ 40 := hR.1.2.2.1
  obtain ⟨W, rfl⟩ : ∃ q, W = q + 1 := ⟨W - 1, by omega⟩
  have hq' := hq
  obtain ⟨l1, l2, l3, l4, l5, l6⟩ := hq'
  obtain ⟨e, he, e1, e2, e3⟩ := l6 0 (by omega)
  rw [Nat.add_zero, Nat.mod_eq_of_lt l2] at e1 e3
  obtain ⟨nt, hnt, ent⟩ := (hR.2.2.2.2.2.2.2.1 e he).2
  have a6 : rg_A τ 6 = rg_A σ 7 := hR.2.2.2.2.1.2.2.2.1
  refine ⟨e, he, e1, ?_⟩
  generalize hv : rg_B σ 6 F = val at *
  unfold s_cX3_isDone s_rX12_takes s_cX1_setFolded
  simp only [kn_v]
  rw [l4, l5, nI_1, mod60 (by omega), show rg_I (rs_I σ 19 (nI ((F + 1) % 60))) 20 = nI (W + 1) from l3, show nI (W + 1) - 1 = nI W from by rw [← nI_1]; exact Int32.add_sub_cancel _ _, ld_x (f := rg_A τ 18) 0 0 rfl (by decide) (by decide), ld_x (f := rg_B τ 10) 0 0 rfl (by decide) (by decide), e2, ← e3]
  have cs1 : cF [19, 20] [] [] [] σ (rs_I (rs_I σ 19 (nI ((F + 1) % 60))) 20 (nI W)) := cF_tr (cF_I _ _ _ (by decide)) (cF_I _ _ _ (by decide))
  have rs1 : cF [17] [] [] [] τ (rs_I τ 17 (nI W)) := cF_I _ _ _ (by decide)
  obtain ⟨τ2, p1, p2, p3⟩ := r_tk27 (τ0 := rs_I τ 17 (nI W)) (x1 := nI tk) (x2 := nI e) (x3 := val) (W := W) (by omega) rfl
  have hq2 : QL (rs_I (rs_I σ 19 (nI ((F + 1) % 60))) 20 (nI W)) τ2 E ((F + 1) % 60) W := by
    refine ⟨by omega, by omega, rfl, rfl, ?_, fun i hi => ?_⟩
    · rw [p2.1 17 (by decide)]; rfl
    · obtain ⟨x, x1, x2, x3, x4⟩ := l6 (i + 1) (by omega)
      refine ⟨x, x1, ?_, ?_, ?_⟩
      · show rg_A σ 14 (((F + 1) % 60 + i) % 60) = _
        rw [show ((F + 1) % 60 + i) % 60 = (F + (i + 1)) % 60 by omega]; exact x2
      · rw [(p3 i hi).1]; exact x3
      · rw [(p3 i hi).2]
        show rg_B σ 6 (((F + 1) % 60 + i) % 60) = _
        rw [show ((F + 1) % 60 + i) % 60 = (F + (i + 1)) % 60 by omega]; exact x4
  rw [p1, s_rX12_takes_b74]
  simp only [kn_v]
  rw [ld_n (f := rg_A τ2 6) (show e < 40 by omega) (by decide), show rg_A τ2 6 = rg_A σ 7 by rw [p2.2.2.1 6 (by decide)]; exact a6, ent, ld_n (f := rg_A (rs_I (rs_I σ 19 (nI ((F + 1) % 60))) 20 (nI W)) 7) (show e < 40 by omega) (by decide), show rg_A (rs_I (rs_I σ 19 (nI ((F + 1) % 60))) 20 (nI W)) 7 e = nI nt from ent]
  generalize rs_I (rs_I σ 19 (nI ((F + 1) % 60))) 20 (nI W) = σ1 at *
  have hR2 : RC σ1 τ2 T N E ro := RC_F hR cs1 (cF_tr (cF_mono (LI' := [17]) (LL' := []) (LA' := [18]) (LB' := [10]) rs1 (by decide) (by decide) (by decide) (by decide)) (cF_mono p2 (by decide) (by decide) (by decide) (by decide))) (by decide) (by decide) (by rw [p2.1 5 (by decide), cs1.1 17 (by decide)]; exact hR.2.2.2.2.2.1.1)
  have r2 : cF [17] [] [18] [10] τ τ2 := cF_tr (cF_mono rs1 (by decide) (by decide) (by decide) (by decide)) (cF_mono p2 (by decide) (by decide) (by decide) (by decide))
  have hF2 := FL0_F hF cs1 r2 (by decide) (by decide)
  have hS2 := ES_F hS cs1 r2 (by decide) (by decide)
  refine TK_tr (cF_mono cs1 (by decide) (by decide) (by decide) (by decide)) (cF_mono r2 (by decide) (by decide) (by decide) (by decide)) ?_
  clear cs1 rs1 r2 p1 p2 p3 hq l1 l2 l3 l4 l5 l6 e1 e2 e3 hR hS hF ent a6 hv
  obtain ⟨τ3, u1, u2, u3⟩ := r_tk95 (τ0 := rs_I (rs_L τ2 2 val) 14 1) (x1 := nI tk) (x2 := nI e) (x3 := val) (nt := nt) (by omega)
  rw [u1, s_rX12_takes_b145, n3, cp_a0 (by omega) (by omega) (by decide) (by decide), cl_0, cl_3, nI_clamp (show nt * 3 < 2 ^ 31 by omega), kn_u_some]
  have cs : cF [14] [1] [] [8] σ1 (rs_I (rs_L (rs_B σ1 8 (va_cpy (rg_B σ1 1) (rg_B σ1 8) (nt * 3) 0 3)) 1 val) 14 1) := cF_tr (cF_B _ _ _ (by decide)) (cF_tr (cF_L _ _ _ (by decide)) (cF_I _ _ _ (by decide)))
  have rs : cF [14] [2] [] [8, 11] τ2 τ3 := cF_tr (cF_L _ _ _ (by decide)) (cF_tr (cF_I _ _ _ (by decide)) (cF_mono u2 (by decide) (by decide) (by decide) (by decide)))
  have h8 : ∀ j, j < 3 → rg_B (rs_I (rs_L (rs_B σ1 8 (va_cpy (rg_B σ1 1) (rg_B σ1 8) (nt * 3) 0 3)) 1 val) 14 1) 8 j = rg_B σ1 1 (nt * 3 + j) := by
    intro j hj
    show va_cpy (rg_B σ1 1) (rg_B σ1 8) (nt * 3) 0 3 j = _
    have := cp3_in (f := rg_B σ1 1) (g := rg_B σ1 8) (a := nt * 3) (b := 0) hj
    rwa [Nat.zero_add] at this
  have t1 : ∀ k, rg_B τ2 1 k = rg_B σ1 1 k := fun k => congrFun hR2.2.2.2.2.1.1 k
  have u3' : ∀ k, k < 3 → rg_B τ3 11 k = rg_B σ1 1 (nt * 3 + k) ∧ rg_B τ3 8 k = rg_B σ1 1 (nt * 3 + k) := fun k hk => ⟨(u3 k hk).1.trans (t1 _), (u3 k hk).2.trans (t1 _)⟩
  have i14 : rg_I τ3 14 = 1 := by rw [u2.1 14 (by decide)]; rfl
  have l2 : rg_L τ3 2 = val := by rw [u2.2.1 2 (by decide)]; rfl
  have hR3 := RC_F hR2 cs rs (by decide) (by decide) (by rw [rs.1 5 (by decide), cs.1 17 (by decide)]; exact hR2.2.2.2.2.2.1.1)
  have hF3 := FL0_F hF2 cs rs (by decide) (by decide)
  have hS3 := ES_F hS2 cs rs (by decide) (by decide)
  have hq3 := QL_F hq2 cs rs (by decide) (by decide)
  have hC3 : EC (rs_I (rs_L (rs_B σ1 8 (va_cpy (rg_B σ1 1) (rg_B σ1 8) (nt * 3) 0 3)) 1 val) 14 1) τ3 sp := ⟨hS3.1, hS3.2.1, hS3.2.2.1, hS3.2.2.2, l2, i14⟩
  refine TK_tr (cF_mono cs (by decide) (by decide) (by decide) (by decide)) (cF_mono rs (by decide) (by decide) (by decide) (by decide)) ?_
  generalize rs_I (rs_L (rs_B σ1 8 (va_cpy (rg_B σ1 1) (rg_B σ1 8) (nt * 3) 0 3)) 1 val) 14 1 = σ2 at *
  unfold s_cX3_takeStates f_cX3_takeStates_b2 f_rX12_takes_b148
  have hn := nt_l (σ0 := σ2) (τ0 := τ3) (x1 := nI tk) (x2 := nI e) (x3 := val) hnt FU FU 0 sp σ2 τ3 (by decide) (by decide) (by decide) hR3 hC3 hF3 (cF_rf _ _ _ _ _) (cF_rf _ _ _ _ _) (fun j hj => absurd hj (Nat.not_lt_zero _)) (fun j _ hj => by rw [(u3' j hj).2, h8 j hj])
  rw [nI_0] at hn
  rcases hn with ⟨σ4, τ4, sp4, d1, d2, d3, d4, d5, d6, d7, d8⟩ | ⟨σ4, τ4, d1, d2, d3, d4, d5, d6⟩
  · rw [d1, d2]
    refine TK_tr (cF_mono d6 (by decide) (by decide) (by decide) (by decide)) (cF_mono d7 (by decide) (by decide) (by decide) (by decide)) ?_
    exact tk_new hnt ht d3 d4 d5 (QL_F hq3 d6 d7 (by decide) (by decide)) d8 (fun j hj => by rw [d6.2.2.2 8 (by decide), d7.2.2.2 11 (by decide), (u3' j hj).1, h8 j hj])
  · rw [d1, d2, kn_u_some, c_is1 d4.1, kn_i_some, if_neg (show ¬ (1 : Int32) = 0 by decide), s_cX3_isDone_b103, s_cX3_isDone_b104, s_cX1_setFolded]
    simp only [kn_v]
    have cs4 : cF [14] [1] [] [] σ4 (rs_I (rs_L σ4 1 0) 14 0) := cF_tr (cF_L _ _ _ (by decide)) (cF_I _ _ _ (by decide))
    have hF4 : FL1 (rs_I (rs_L σ4 1 0) 14 0) τ4 := FL1_F d4 cs4 (cF_rf [] [] [] [] τ4) (by decide) (by decide)
    have hR4 : RC (rs_I (rs_L σ4 1 0) 14 0) τ4 T N E ro := RC_F d3 cs4 (cF_rf [] [] [] [] τ4) (by decide) (by decide) d3.2.2.2.2.2.1.1
    have c8 : rg_B (rs_I (rs_L σ4 1 0) 14 0) 8 = rg_B σ2 8 := by rw [cs4.2.2.2 8 (by decide), d5.2.2.2 8 (by decide)]
    have c1 : rg_B (rs_I (rs_L σ4 1 0) 14 0) 1 = rg_B σ1 1 := by rw [cs4.2.2.2 1 (by decide), d5.2.2.2 1 (by decide), cs.2.2.2 1 (by decide)]
    rw [kn_u_some, c_is1 hF4.1, kn_i_some, if_neg (show ¬ (1 : Int32) = 0 by decide), c_rest (by omega) hF4.1]
    have cs5 : cF [] [] [] [1] (rs_I (rs_L σ4 1 0) 14 0) (rs_B (rs_I (rs_L σ4 1 0) 14 0) 1 (va_cpy (rg_B (rs_I (rs_L σ4 1 0) 14 0) 8) (rg_B (rs_I (rs_L σ4 1 0) 14 0) 1) 0 (nt * 3) 3)) := cF_B _ _ _ (by decide)
    refine ⟨_, τ4, cF_tr (cF_mono d5 (by decide) (by decide) (by decide) (by decide)) (cF_tr (cF_mono cs4 (by decide) (by decide) (by decide) (by decide)) (cF_mono cs5 (by decide) (by decide) (by decide) (by decide))), cF_mono d6 (by decide) (by decide) (by decide) (by decide), RC_b1 hR4 cs5 (cF_rf _ _ _ _ τ4) ?_, Or.inr ⟨rfl, rfl, FL1_F hF4 cs5 (cF_rf [] [] [] [] τ4) (by decide) (by decide)⟩⟩
    funext k
    show _ = va_cpy (rg_B (rs_I (rs_L σ4 1 0) 14 0) 8) (rg_B (rs_I (rs_L σ4 1 0) 14 0) 1) 0 (nt * 3) 3 k
    rw [show rg_B τ4 1 k = rg_B (rs_I (rs_L σ4 1 0) 14 0) 1 k from congrFun hR4.2.2.2.2.1.1 k]
    by_cases z : k < nt * 3 ∨ nt * 3 + 3 ≤ k
    · rw [pk_cpy_out (by omega)]
    · obtain ⟨j, hj, rfl⟩ : ∃ j, j < 3 ∧ k = nt * 3 + j := ⟨k - nt * 3, by omega, by omega⟩
      rw [cp3_in hj, Nat.zero_add, c8, h8 j hj, c1]

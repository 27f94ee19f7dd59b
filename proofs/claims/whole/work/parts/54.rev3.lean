/-- what a walk of the pile gives: as many rounds of its loop, and behind them the reference's registers -/
def RV (σ τ : RS) (nd d t k sp : Nat) (ar : Int32) : Prop := ∃ (c : Nat) (τ' : RS), c ≤ 3 * ((ev σ nd ar d t sp).2.2 - sp) + (if (ev σ nd ar d t sp).2.1 = 0 then 0 else 1) ∧ mfr k τ τ' ∧ rg_I τ' 11 = nI (ev σ nd ar d t sp).2.2 ∧ rg_I τ' 5 = rg_I τ 5 + nI ((ev σ nd ar d t sp).2.2 - sp) ∧ rg_I τ' 10 = (ev σ nd ar d t sp).2.1 ∧
  ((ev σ nd ar d t sp).2.1 = 0 → rg_L τ' 1 = (ev σ nd ar d t sp).1 ∧ rg_I τ' 9 = nI k) ∧ ∀ n, mL (n + c) τ = if (ev σ nd ar d t sp).2.1 = 0 then mL n τ' else some ((ev σ nd ar d t sp).2.1, τ')
theorem r_ev {σ : RS} {T nd E ro : Nat} {ar : Int32} (hT : T ≤ 40) (hW : WT σ T) (hnd : nd < 12) (har : e_ar ar) (hE : E ≤ 40) : ∀ (d t k sp : Nat) (τ : RS), t < T → t < d → k + t < 40 → sp ≤ 3000 → MS τ k t sp → EE σ τ nd E ro ar → RV σ τ nd d t k sp ar
  | 0, t, k, sp, τ, h1, h2, h3, h4, hM, hEE => absurd h2 (Nat.not_lt_zero _)
  | d + 1, t, k, sp, τ, h1, h2, h3, h4, hM, hEE => by
    have hM' := hM
    obtain ⟨h9, hp, hst, h10, h11⟩ := hM'
    unfold RV
    rw [ev_s]
    by_cases c1 : 3000 ≤ sp
    · rw [if_pos c1]
      refine ⟨1, rs_I τ 10 4, by simp, i10_fr τ k 4, h11, ?_, rfl, fun h => absurd (show (4 : Int32) = 0 from h) (by decide), fun n => ?_⟩
      · show rg_I τ 5 = rg_I τ 5 + nI (sp - sp)
        rw [Nat.sub_self, al_0]
      · rw [mL_go n (by omega) h9, if_pos hst, r_begins_spent (by rw [h11, show sp = 3000 by omega]), kn_i_some, b65_f (f := 4) rfl (by decide)]
        rw [if_neg (show ¬ ((0, 4, sp) : EVR).2.1 = 0 from (by decide : ¬ (4 : Int32) = 0))]
    rw [if_neg c1]
    by_cases c2 : 8 ≤ rg_A σ 0 t
    · rw [if_pos c2]
      obtain ⟨q, hq, eq, w1, w2, w3, w4⟩ := hW t h1
      have hq8 : 8 ≤ q := (nI_leI (a := 8) (by decide) (by omega)).mp (by rw [← eq]; exact c2)
      obtain ⟨a, ha, ea⟩ := w2 hq8
      have epa : e_p σ 1 t = a := by unfold e_p; rw [ea, nI_clamp (by omega)]
      have hb := r_begins_node hT hW h1 (by omega) (by omega) hM hEE c2
      rw [ea] at hb
      have m1 : mfr k τ (m_pu (m_b τ k) (k + 1) (nI a)) := mfr_tr (m_b_fr τ k) (m_pu_fr _ (k + 1) _) (by omega)
      have s1 : ∀ n, mL (n + 1) τ = mL n (m_pu (m_b τ k) (k + 1) (nI a)) := fun n => by
        rw [mL_go n (by omega) h9, if_pos hst, hb, kn_i_some, b65_0 (v := 0) (show rg_I (m_pu (m_b τ k) (k + 1) (nI a)) 10 = 0 from h10)]
      have M1 : MS (m_pu (m_b τ k) (k + 1) (nI a)) (k + 1) a (sp + 1) := ⟨rfl, pk_us, pk_us, h10, by show rg_I τ 11 + 1 = _; rw [h11, nI_1]⟩
      have i5 : rg_I (m_pu (m_b τ k) (k + 1) (nI a)) 5 = rg_I τ 5 + nI 1 := rfl
      have sg1 : rg_A (m_pu (m_b τ k) (k + 1) (nI a)) 13 k = 1 := by
        show upd (upd (rg_A τ 13) k 1) (k + 1) 0 k = 1
        rw [pk_un (by omega), pk_us]
      have pl1 : rg_A (m_pu (m_b τ k) (k + 1) (nI a)) 12 k = nI t := by
        show upd (rg_A τ 12) (k + 1) (nI a) k = nI t
        rw [pk_un (by omega), hp]
      generalize m_pu (m_b τ k) (k + 1) (nI a) = τ1 at m1 s1 M1 i5 sg1 pl1
      obtain ⟨ca, τ2, A1, A2, A3, A4, A5, A6, A7⟩ := r_ev hT hW hnd har hE d a (k + 1) (sp + 1) τ1 (by omega) (by omega) (by omega) (by omega) M1 (EE_mv hEE m1)
      rw [epa]
      have hs := ev_sp d a (sp + 1) (σ := σ) (nd := nd) (ar := ar) (by omega)
      generalize ev σ nd ar d a (sp + 1) = Av at hs A1 A3 A4 A5 A6 A7 ⊢
      obtain ⟨va, fa, sa⟩ := Av
      dsimp only at hs A1 A3 A4 A5 A6 A7
      unfold e_k
      dsimp only
      have m2 : mfr k τ τ2 := mfr_tr m1 A2 (by omega)
      by_cases c3 : fa = 0
      · subst c3
        rw [if_pos rfl] at A1 ⊢
        obtain ⟨l1, t9⟩ := A6 rfl
        have s2 : ∀ n, mL (n + ca + 1) τ = mL n τ2 := fun n => by rw [s1, A7, if_pos rfl]
        have hEE2 := EE_mv hEE m2
        have st2 : rg_A τ2 13 k = 1 := by rw [(A2.2.2.2.2 k (by omega)).2.1, sg1]
        have pl2 : rg_A τ2 12 k = nI t := by rw [(A2.2.2.2.2 k (by omega)).1, pl1]
        have i52 : rg_I τ2 5 = rg_I τ 5 + nI (sa - sp) := by rw [A4, i5, al_add, show 1 + (sa - (sp + 1)) = sa - sp by omega]
        by_cases c4 : rg_A σ 0 t = 17
        · rw [if_pos c4]
          have hg := r_on17 hnd (by omega) (by omega) pl2 st2 A5 hEE2 c4
          rw [l1] at hg
          by_cases c5 : va.toInt32 < 0 ∨ 3 ≤ va.toInt32
          · rw [if_pos c5] at hg ⊢
            refine ⟨ca + 2, rs_L (rs_I τ2 10 2) 1 0, ?_, mfr_tr m2 (mfr_tr (i10_fr τ2 k 2) (l1_fr _ k 0) (Nat.le_refl _)) (Nat.le_refl _), A3, i52, rfl, fun h => absurd (show (2 : Int32) = 0 from h) (by decide), fun n => ?_⟩
            · show ca + 2 ≤ 3 * (sa - sp) + (if (2 : Int32) = 0 then 0 else 1)
              rw [if_neg (by decide)]; omega
            · rw [show n + (ca + 2) = (n + 1) + ca + 1 by omega, s2, mL_go n (by omega) t9, if_neg (by rw [st2]; decide), hg, kn_i_some, b65_f (f := 2) rfl (by decide), if_neg (show ¬ ((0, 2, sa) : EVR).2.1 = 0 from (by decide : ¬ (2 : Int32) = 0))]
          · rw [if_neg c5] at hg ⊢
            refine ⟨ca + 2, m_pop (rs_I τ2 10 0) k (rg_B σ 1 (nd * 3 + va.toInt32.toNatClampNeg)), ?_, mfr_tr m2 (mfr_tr (i10_fr τ2 k 0) (m_pop_fr _ k k _) (Nat.le_refl _)) (Nat.le_refl _), A3, i52, rfl, fun _ => ⟨rfl, rfl⟩, fun n => ?_⟩
            · show ca + 2 ≤ 3 * (sa - sp) + (if (0 : Int32) = 0 then 0 else 1)
              rw [if_pos rfl]; omega
            · rw [show n + (ca + 2) = (n + 1) + ca + 1 by omega, s2, mL_go n (by omega) t9, if_neg (by rw [st2]; decide), hg, kn_i_some, b65_1 (k := k) (show rg_I (rs_L (rs_I τ2 10 0) 1 (rg_B σ 1 (nd * 3 + va.toInt32.toNatClampNeg))) 10 = 0 from rfl) (show rg_I (rs_L (rs_I τ2 10 0) 1 (rg_B σ 1 (nd * 3 + va.toInt32.toNatClampNeg))) 9 = nI (k + 1) from t9), if_pos rfl]
              rfl
        · rw [if_neg c4]
          have hq17 : q ≠ 17 := fun z => c4 (by rw [eq, z]; rfl)
          obtain ⟨b, hbt, eb⟩ := w3 hq8 hq17
          have epb : e_p σ 2 t = b := by unfold e_p; rw [eb, nI_clamp (by omega)]
          have hg := r_on1 (by omega) (by omega) t9 pl2 st2 hEE2 c4
          rw [l1] at hg
          -- the second part: x
          obtain ⟨x, hx, ex, hxe⟩ : ∃ x, x < t ∧ (if rg_A σ 0 t = 16 ∧ va = 0 then rg_A σ 3 t else rg_A σ 2 t) = nI x ∧ (if rg_A σ 0 t = 16 then (if va = 0 then e_p σ 3 t else e_p σ 2 t) = x else e_p σ 2 t = x) := by
            by_cases c5 : rg_A σ 0 t = 16
            · have hq16 : q = 16 := (nI_eq (by omega) (by decide)).mp (eq.symm.trans c5)
              obtain ⟨cc, hc, ec⟩ := w4 hq16
              by_cases c6 : va = 0
              · exact ⟨cc, hc, by rw [if_pos ⟨c5, c6⟩, ec], by rw [if_pos c5, if_pos c6]; unfold e_p; rw [ec, nI_clamp (by omega)]⟩
              · exact ⟨b, hbt, by rw [if_neg (fun h => c6 h.2), eb], by rw [if_pos c5, if_neg c6, epb]⟩
            · exact ⟨b, hbt, by rw [if_neg (fun h => c5 h.1), eb], by rw [if_neg c5, epb]⟩
          rw [ex] at hg
          have m3 : mfr k τ2 (m_pu (m_g τ2 k) (k + 1) (nI x)) := mfr_tr (m_g_fr τ2 k) (m_pu_fr _ (k + 1) _) (by omega)
          have s3 : ∀ n, mL (n + 1) τ2 = mL n (m_pu (m_g τ2 k) (k + 1) (nI x)) := fun n => by
            rw [mL_go n (by omega) t9, if_neg (by rw [st2]; decide), hg, kn_i_some, b65_0 (v := 0) (show rg_I (m_pu (m_g τ2 k) (k + 1) (nI x)) 10 = 0 from A5)]
          have M3 : MS (m_pu (m_g τ2 k) (k + 1) (nI x)) (k + 1) x sa := ⟨rfl, pk_us, pk_us, A5, A3⟩
          have sg3 : rg_A (m_pu (m_g τ2 k) (k + 1) (nI x)) 13 k = 2 := by
            show upd (upd (rg_A τ2 13) k 2) (k + 1) 0 k = 2
            rw [pk_un (by omega), pk_us]
          have pl3 : rg_A (m_pu (m_g τ2 k) (k + 1) (nI x)) 12 k = nI t := by
            show upd (rg_A τ2 12) (k + 1) (nI x) k = nI t
            rw [pk_un (by omega), pl2]
          have fi3 : rg_B (m_pu (m_g τ2 k) (k + 1) (nI x)) 6 k = va := by
            show vp_updL (rg_B τ2 6) k (rg_L τ2 1) k = va
            rw [pk_uLs, l1]
          have i53 : rg_I (m_pu (m_g τ2 k) (k + 1) (nI x)) 5 = rg_I τ2 5 := rfl
          generalize m_pu (m_g τ2 k) (k + 1) (nI x) = τ3 at m3 s3 M3 sg3 pl3 fi3 i53
          have m3' : mfr k τ τ3 := mfr_tr m2 m3 (Nat.le_refl _)
          obtain ⟨cb, τ4, B1, B2, B3, B4, B5, B6, B7⟩ := r_ev hT hW hnd har hE d x (k + 1) sa τ3 (by omega) (by omega) (by omega) hs.2 M3 (EE_mv hEE m3')
          have hs2 := ev_sp d x sa (σ := σ) (nd := nd) (ar := ar) hs.2
          have m4 : mfr k τ τ4 := mfr_tr m3' B2 (by omega)
          have hEE4 := EE_mv hEE m4
          have st4 : rg_A τ4 13 k = 2 := by rw [(B2.2.2.2.2 k (by omega)).2.1, sg3]
          have pl4 : rg_A τ4 12 k = nI t := by rw [(B2.2.2.2.2 k (by omega)).1, pl3]
          have fi4 : rg_B τ4 6 k = va := by rw [(B2.2.2.2.2 k (by omega)).2.2, fi3]
          have hR : (if rg_A σ 0 t = 16 then ev σ nd ar d (if va = 0 then e_p σ 3 t else e_p σ 2 t) sa else e_k2 (rg_A σ 0 t) va (ev σ nd ar d (e_p σ 2 t) sa)) = (if rg_A σ 0 t = 16 then ev σ nd ar d x sa else e_k2 (rg_A σ 0 t) va (ev σ nd ar d x sa)) := by
            by_cases c5 : rg_A σ 0 t = 16
            · rw [if_pos c5] at hxe ⊢; rw [if_pos c5, hxe]
            · rw [if_neg c5] at hxe ⊢; rw [if_neg c5, hxe]
          rw [hR]
          generalize ev σ nd ar d x sa = Bv at hs2 B1 B3 B4 B5 B6 B7 ⊢
          obtain ⟨vb, fb, sb⟩ := Bv
          dsimp only at hs2 B1 B3 B4 B5 B6 B7
          have i54 : rg_I τ4 5 = rg_I τ 5 + nI (sb - sp) := by rw [B4, i53, i52, al_add, show sa - sp + (sb - sa) = sb - sp by omega]
          have s4 : ∀ n, mL (n + (cb + ca + 2)) τ = if fb = 0 then mL n τ4 else some (fb, τ4) := fun n => by
            rw [show n + (cb + ca + 2) = (n + cb + 1) + ca + 1 by omega, s2, s3, B7]
          by_cases c6 : fb = 0
          · subst c6
            rw [if_pos rfl] at B1
            obtain ⟨l4, t94⟩ := B6 rfl
            obtain ⟨τ5, g1, g2, g3, g4, g5, g6, g7⟩ := r_on2 (by omega) (by omega) pl4 st4 B5 hEE4 c4 c2 (by rw [eq]; exact (nI_leI (b := 17) (by omega) (by decide)).mpr hq)
            rw [fi4, l4] at g2 g3
            have hZ : (if rg_A σ 0 t = 16 then ((vb, 0, sb) : EVR) else e_k2 (rg_A σ 0 t) va (vb, 0, sb)) = ((if rg_A σ 0 t = 16 then vb else (e_jn (rg_A σ 0 t) va vb).1), (if rg_A σ 0 t = 16 then 0 else (e_jn (rg_A σ 0 t) va vb).2), sb) := by
              by_cases c5 : rg_A σ 0 t = 16
              · rw [if_pos c5, if_pos c5, if_pos c5]
              · rw [if_neg c5, if_neg c5, if_neg c5]; rfl
            rw [hZ, ← g2, ← g3]
            dsimp only
            by_cases c7 : rg_I τ5 10 = 0
            · refine ⟨cb + ca + 3, rs_I τ5 9 (nI k), ?_, mfr_tr m4 (mfr_tr g4 (i9_fr τ5 k _) (Nat.le_refl _)) (Nat.le_refl _), g6.trans B3, g7.trans i54, rfl, fun _ => ⟨rfl, rfl⟩, fun n => ?_⟩
              · rw [if_pos c7]; omega
              · rw [show n + (cb + ca + 3) = (n + 1) + (cb + ca + 2) by omega, s4, if_pos rfl, mL_go n (by omega) t94, if_neg (by rw [st4]; decide), g1, kn_i_some, b65_1 (k := k) c7 (g5.trans t94), if_pos c7]
            · refine ⟨cb + ca + 3, τ5, ?_, mfr_tr m4 g4 (Nat.le_refl _), g6.trans B3, g7.trans i54, rfl, fun h => absurd h c7, fun n => ?_⟩
              · rw [if_neg c7]; omega
              · rw [show n + (cb + ca + 3) = (n + 1) + (cb + ca + 2) by omega, s4, if_pos rfl, mL_go n (by omega) t94, if_neg (by rw [st4]; decide), g1, kn_i_some, b65_f rfl c7, if_neg c7]
          · rw [if_neg c6] at B1
            have hZ : (if rg_A σ 0 t = 16 then ((vb, fb, sb) : EVR) else e_k2 (rg_A σ 0 t) va (vb, fb, sb)).2 = (fb, sb) := by
              by_cases c5 : rg_A σ 0 t = 16
              · rw [if_pos c5]
              · rw [if_neg c5]; unfold e_k2; rw [if_neg c6]
            have hZ1 := congrArg Prod.fst hZ
            have hZ2 := congrArg Prod.snd hZ
            dsimp only at hZ1 hZ2
            rw [hZ1, hZ2]
            refine ⟨cb + ca + 2, τ4, ?_, m4, B3, i54, B5, fun h => absurd h c6, fun n => ?_⟩
            · rw [if_neg c6]; omega
            · rw [s4]
      · rw [if_neg c3] at A1 ⊢
        dsimp only
        refine ⟨ca + 1, τ2, ?_, m2, A3, ?_, A5, fun h => absurd h c3, fun n => ?_⟩
        · rw [if_neg c3]; omega
        · rw [A4, i5, al_add, show 1 + (sa - (sp + 1)) = sa - sp by omega]
        · rw [show n + (ca + 1) = (n + ca) + 1 by omega, s1, A7]
    · rw [if_neg c2]
      have hb := r_begins_leaf hT hW hnd har hE h1 (by omega) (by omega) hM hEE c2
      refine ⟨1, m_pop (m_b τ k) k (e_pl σ nd ar t), ?_, mfr_tr (m_b_fr τ k) (m_pop_fr _ k k _) (Nat.le_refl _), ?_, ?_, h10, fun _ => ⟨rfl, rfl⟩, fun n => ?_⟩
      · show 1 ≤ 3 * (sp + 1 - sp) + (if (0 : Int32) = 0 then 0 else 1)
        omega
      · show rg_I τ 11 + 1 = nI (sp + 1)
        rw [h11, nI_1]
      · show rg_I τ 5 + 1 = rg_I τ 5 + nI (sp + 1 - sp)
        rw [show sp + 1 - sp = 1 by omega]; rfl
      · rw [mL_go n (by omega) h9, if_pos hst, hb, kn_i_some, b65_1 (k := k) (show rg_I (rs_L (m_b τ k) 1 (e_pl σ nd ar t)) 10 = 0 from h10) (show rg_I (rs_L (m_b τ k) 1 (e_pl σ nd ar t)) 9 = nI (k + 1) from h9)]
        rfl
/-- asked, whole: from any registers -/
theorem r_asked {σ τ : RS} {T nd E ro sp t : Nat} {ar : Int32} (hT : T ≤ 40) (hW : WT σ T) (hnd : nd < 12) (har : e_ar ar) (hE : E ≤ 40) (ht : t < T) (hsp : sp ≤ 3000) (h11 : rg_I τ 11 = nI sp) (hEE : EE σ (rs_I (rs_I τ 12 (nI nd)) 13 ar) nd E ro ar) :
    ∃ τ', s_rX12_asked τ (nI t) (nI nd) ar = some ((ev σ nd ar 41 t sp).2.1, τ') ∧ mfr 0 (rs_I (rs_I τ 12 (nI nd)) 13 ar) τ' ∧ rg_I τ' 11 = nI (ev σ nd ar 41 t sp).2.2 ∧ rg_I τ' 5 = rg_I τ 5 + nI ((ev σ nd ar 41 t sp).2.2 - sp) ∧ ((ev σ nd ar 41 t sp).2.1 = 0 → rg_L τ' 1 = (ev σ nd ar 41 t sp).1) := by
  unfold s_rX12_asked
  simp only [kn_v]
  rw [r_push (k := 0) (by decide) rfl, kn_u_some]
  have m0 : mfr 0 (rs_I (rs_I τ 12 (nI nd)) 13 ar) (m_pu (rs_I (rs_I (rs_I (rs_I τ 12 (nI nd)) 13 ar) 9 0) 10 0) 0 (nI t)) := mfr_tr (i9_fr _ 0 _) (mfr_tr (i10_fr _ 0 _) (m_pu_fr _ 0 _) (Nat.le_refl _)) (Nat.le_refl _)
  have M0 : MS (m_pu (rs_I (rs_I (rs_I (rs_I τ 12 (nI nd)) 13 ar) 9 0) 10 0) 0 (nI t)) 0 t sp := ⟨rfl, rfl, rfl, rfl, h11⟩
  have i5 : rg_I (m_pu (rs_I (rs_I (rs_I (rs_I τ 12 (nI nd)) 13 ar) 9 0) 10 0) 0 (nI t)) 5 = rg_I τ 5 := rfl
  generalize m_pu (rs_I (rs_I (rs_I (rs_I τ 12 (nI nd)) 13 ar) 9 0) 10 0) 0 (nI t) = τ1 at m0 M0 i5
  obtain ⟨c, τ2, A1, A2, A3, A4, A5, A6, A7⟩ := r_ev hT hW hnd har hE 41 t 0 sp τ1 ht (by omega) (by omega) hsp M0 (EE_mv hEE m0)
  have hs := ev_sp 41 t sp (σ := σ) (nd := nd) (ar := ar) hsp
  refine ⟨τ2, ?_, mfr_tr m0 A2 (Nat.le_refl _), A3, by rw [A4, i5], fun h => (A6 h).1⟩
  unfold f_rX12_asked_b25
  have hc : c ≤ 9001 := by split at A1 <;> omega
  have h1 := A7 (FU - c)
  rw [show FU - c + c = FU by unfold FU; omega] at h1
  show mL FU τ1 = _
  rw [h1]
  by_cases q : (ev σ nd ar 41 t sp).2.1 = 0
  · rw [if_pos q, show FU - c = (FU - c - 1) + 1 by unfold FU; omega, mL_stop _ (A6 q).2, q]
  · rw [if_neg q]

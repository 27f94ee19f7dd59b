theorem r_fold_f {τ : RS} {E : Nat} {x : Int32} (hE : E ≤ 40) (he : rg_I τ 2 = nI E) (hF : rg_A τ 8 0 ≠ 0) : ∀ (m i : Nat), i ≤ E → E - i < m → kn_fix (fun _ _ _ => none) s_rX12_foldFor_b12 m τ x (nI i) = some τ
  | 0, i, h1, h2 => absurd h2 (Nat.not_lt_zero _)
  | m + 1, i, h1, h2 => by
    rw [kn_fix_s, s_rX12_foldFor_b12, he]
    by_cases c : E ≤ i
    · rw [if_pos ((nI_leI (by omega) (by omega)).mpr c)]
    rw [if_neg (fun q => c ((nI_leI (by omega) (by omega)).mp q)), ld_n (show i < 40 by omega) (by decide)]
    have ih := r_fold_f (x := x) hE he hF m (i + 1) (by omega) (by omega)
    by_cases q : rg_A τ 14 i = 0
    · rw [if_pos q, s_rX12_foldFor_b180, kn_v, nI_1]; exact ih
    · rw [if_neg q, ld_n (show i < 40 by omega) (by decide)]
      by_cases w : rg_A τ 6 i = x
      · rw [if_pos w, r_isF1 hF, kn_i_some, if_neg (by decide), s_rX12_foldFor_b180, kn_v, nI_1]; exact ih
      · rw [if_neg w, s_rX12_foldFor_b180, kn_v, nI_1]; exact ih
/-- what the two see of the messages -/
def FD (σ τ : RS) (E ro : Nat) : Prop := E ≤ 40 ∧ rg_I σ 3 = nI E ∧ rg_I τ 2 = nI E ∧ (∀ x, x < E → rg_A τ 14 x = rg_A σ 11 x) ∧ rg_A τ 6 = rg_A σ 7 ∧ (∀ x, x < E → rg_A σ 11 x ≠ 0 → rg_B τ 7 x = rg_B σ 4 x) ∧ rg_I τ 3 = rg_I σ 5 ∧ (∃ f, f ≤ 3 ∧ rg_I σ 5 = nI f) ∧ rg_I σ 4 = nI ro ∧ rg_I τ 4 = nI ro
theorem FD_F {σ τ τ' : RS} {E ro : Nat} (h : FD σ τ E ro) (r : cF [14] [2] [] [] τ τ') : FD σ τ' E ro := by
  unfold FD at h ⊢
  rw [r.1 2 (by decide), r.1 3 (by decide), r.1 4 (by decide), r.2.2.1 14 (by decide), r.2.2.1 6 (by decide), r.2.2.2 7 (by decide)]
  exact h
def FP (σ τ0 : RS) (E : Nat) (x : Int32) (oc : Option (Int64 × RS)) (or : Option RS) : Prop :=
  (∃ (fv : Int64) (τ' : RS), oc = some (fv, σ) ∧ or = some τ' ∧ cF [14] [2] [] [] τ0 τ' ∧ rg_L τ' 2 = fv ∧ rg_I τ' 14 = nI (mcnt (rg_A σ 11) (rg_A σ 7) x E)) ∨
  (∃ σ' τ' : RS, oc = some (0, σ') ∧ or = some τ' ∧ FL1 σ' τ' ∧ cF [6, 7, 8, 9, 10] [] [] [] σ σ' ∧ cF [14] [2] [8] [] τ0 τ')
theorem fold_l {σ τ0 : RS} {E ro v : Nat} (hD : FD σ τ0 E ro) (hF : FL0 σ τ0) : ∀ (n m i : Nat) (x2 : Int64) (τ : RS), i ≤ E → E - i < n → E - i < m → cF [14] [2] [] [] τ0 τ → rg_I τ 14 = nI (mcnt (rg_A σ 11) (rg_A σ 7) (nI v) i) → rg_L τ 2 = x2 →
    FP σ τ0 E (nI v) (kn_fix (fun _ _ _ _ _ => none) s_cX7_foldFor_b8 n σ (nI v) x2 (if mcnt (rg_A σ 11) (rg_A σ 7) (nI v) i = 0 then 1 else 0) (nI i)) (kn_fix (fun _ _ _ => none) s_rX12_foldFor_b12 m τ (nI v) (nI i))
  | 0, m, i, x2, τ, h1, h2, h3, hr, h14, hl => absurd h2 (Nat.not_lt_zero _)
  | n + 1, 0, i, x2, τ, h1, h2, h3, hr, h14, hl => absurd h3 (Nat.not_lt_zero _)
  | n + 1, m + 1, i, x2, τ, h1, h2, h3, hr, h14, hl => by
    have hD' := FD_F hD hr
    obtain ⟨hE, s3, t2, hg, a6, hm, i3, ⟨f, hf3, hf⟩, s4, t4⟩ := hD'
    have hF' : FL0 σ τ := FL0_F hF (cF_rf [] [] [] [] σ) hr (by decide) (by decide)
    rw [kn_fix_s, kn_fix_s, s_cX7_foldFor_b8, s_rX12_foldFor_b12, s3, t2]
    by_cases c : E ≤ i
    · rw [if_pos ((nI_leI (by omega) (by omega)).mpr c), if_pos ((nI_leI (by omega) (by omega)).mpr c)]
      have ei : i = E := by omega
      subst ei
      exact Or.inl ⟨x2, τ, rfl, rfl, hr, hl, h14⟩
    have hiE : i < E := by omega
    rw [if_neg (fun q => c ((nI_leI (by omega) (by omega)).mp q)), if_neg (fun q => c ((nI_leI (by omega) (by omega)).mp q)), ld_n (f := rg_A σ 11) (show i < 40 by omega) (by decide), ld_n (f := rg_A τ 14) (show i < 40 by omega) (by decide), hg i hiE]
    by_cases q : rg_A σ 11 i = 0
    · rw [if_pos q, if_pos q, s_cX7_foldFor_b91, s_rX12_foldFor_b180, kn_v, kn_v, nI_1]
      have e1 := mcnt_f (g := rg_A σ 11) (t := rg_A σ 7) (x := nI v) (n := i) (fun z => z.1 q)
      have ih := fold_l hD hF n m (i + 1) x2 τ (v := v) (by omega) (by omega) (by omega) hr (by rw [e1]; exact h14) hl
      rw [e1] at ih
      exact ih
    rw [if_neg q, if_neg q, ld_n (f := rg_A σ 7) (show i < 40 by omega) (by decide), ld_n (f := rg_A τ 6) (show i < 40 by omega) (by decide), a6]
    by_cases w : rg_A σ 7 i = nI v
    · rw [if_pos w, if_pos w, r_isF0 hF'.2.1, kn_i_some, if_pos rfl, ld_n (f := rg_B τ 7) (show i < 40 by omega) (by decide), hm i hiE q, h14]
      have e1 := mcnt_t (g := rg_A σ 11) (t := rg_A σ 7) (x := nI v) (n := i) q w
      have hml := mcnt_le (rg_A σ 11) (rg_A σ 7) (nI v) i
      -- one more message, folded to y
      have next : ∀ (y : Int64) (τ2 : RS), cF [14] [2] [] [] τ0 τ2 → rg_I τ2 14 = nI (mcnt (rg_A σ 11) (rg_A σ 7) (nI v) i) → rg_L τ2 2 = y →
          FP σ τ0 E (nI v) (s_cX7_foldFor_b75 (kn_fix (fun _ _ _ _ _ => none) s_cX7_foldFor_b8 n) σ (nI v) (nI i) y) (s_rX12_foldFor_b170 (kn_fix (fun _ _ _ => none) s_rX12_foldFor_b12 m) τ2 (nI v) (nI i)) := by
        intro y τ2 g1 g2 g3
        rw [s_cX7_foldFor_b75, c_is0 hF.1, kn_i_some, if_pos rfl, s_cX7_foldFor_b91, kn_v, s_rX12_foldFor_b170, kn_v, s_rX12_foldFor_b180, kn_v, nI_1, g2, nI_1]
        have ih := fold_l hD hF n m (i + 1) y (rs_I τ2 14 (nI (mcnt (rg_A σ 11) (rg_A σ 7) (nI v) i + 1))) (v := v) (by omega) (by omega) (by omega) (cF_tr g1 (cF_I _ _ _ (by decide))) (by rw [e1]; rfl) g3
        rw [e1, if_neg (by omega)] at ih
        exact ih
      have wr2 : ∀ (y : Int64), cF [14] [2] [] [] τ0 (rs_L τ 2 y) := fun y => cF_tr hr (cF_L _ _ _ (by decide))
      by_cases z : mcnt (rg_A σ 11) (rg_A σ 7) (nI v) i = 0
      · rw [if_pos z, if_neg (by decide), ld_n (show i < 40 by omega) (by decide), if_pos (by rw [z]; rfl), s_rX12_foldFor_b68, kn_v]
        exact next (rg_B σ 4 i) (rs_L τ 2 (rg_B σ 4 i)) (wr2 _) h14 rfl
      · rw [if_neg z, if_pos rfl, ld_n (show i < 40 by omega) (by decide), if_neg (show ¬ nI (mcnt (rg_A σ 11) (rg_A σ 7) (nI v) i) = 0 from fun y => z ((nI_eq (by omega) (by decide)).mp (show nI _ = nI 0 from y))), s_cX7_foldTwo, i3, hf, hl, s4]
        rcases (show f = 0 ∨ f = 1 ∨ f = 2 ∨ f = 3 by omega) with rfl | rfl | rfl | rfl
        · rw [if_neg (show ¬ nI 0 = 1 by decide), if_neg (show ¬ nI 0 = 2 by decide), if_neg (show ¬ nI 0 = 3 by decide), if_neg (show ¬ nI 0 = 3 by decide), if_pos (show nI 0 = 0 by decide), r_over, kn_i_some, kn_v]
          by_cases o : 0 ≤ ((x2 ^^^ (x2 + rg_B σ 4 i)) &&& (rg_B σ 4 i ^^^ (x2 + rg_B σ 4 i)))
          · rw [if_pos o, if_pos o, if_pos rfl, kn_l_some, s_rX12_foldFor_b104, kn_v, hl]
            exact next (x2 + rg_B σ 4 i) (rs_L τ 2 (x2 + rg_B σ 4 i)) (wr2 _) h14 rfl
          · rw [if_neg o, if_neg o, if_neg (by decide)]
            obtain ⟨τ2, n1, n2, n3, n4, n5, m0, m1, m2, m3, m4⟩ := r_note τ 3 7 (nI v) (-1)
            rw [c_keep, kn_u_some, kn_l_some, n1, kn_u_some, s_cX7_foldFor_b75]
            generalize hσ2 : rs_I (rs_I (rs_I (rs_I (rs_I σ 6 3) 7 7) 8 (nI v)) 9 (-1)) 10 (nI ro + 1) = σ2
            have f6 : rg_I σ2 6 = 3 := by rw [← hσ2]; rfl
            rw [c_is1 (by rw [f6]; decide), kn_i_some, if_neg (by decide), s_rX12_foldFor_b104, kn_v, s_rX12_foldFor_b170, kn_v, s_rX12_foldFor_b180, kn_v, nI_1]
            have hr2 : cF [14] [2] [8] [] τ0 τ2 := cF_tr (cF_mono hr (by decide) (by decide) (by decide) (by decide)) ⟨fun i _ => n2 i, fun i _ => n3 i, fun i hi => n4 i (by simpa using hi), fun i _ => n5 i⟩
            have hr3 : cF [14] [2] [8] [] τ0 (rs_I (rs_L τ2 2 (rg_L τ2 2 + rg_B σ 4 i)) 14 (rg_I (rs_L τ2 2 (rg_L τ2 2 + rg_B σ 4 i)) 14 + 1)) := cF_tr hr2 (cF_tr (cF_L _ _ _ (by decide)) (cF_I _ _ _ (by decide)))
            have hf1 : FL1 σ2 (rs_I (rs_L τ2 2 (rg_L τ2 2 + rg_B σ 4 i)) 14 (rg_I (rs_L τ2 2 (rg_L τ2 2 + rg_B σ 4 i)) 14 + 1)) := by
              refine ⟨by rw [f6]; decide, m0.trans f6.symm, ?_, ?_, ?_, ?_⟩
              · rw [← hσ2]; exact m1
              · rw [← hσ2]; exact m2
              · rw [← hσ2]; exact m3
              · rw [← hσ2]
                show rg_A τ2 8 4 = nI ro + 1
                rw [m4, t4]
            rw [r_fold_f (E := E) hE (by rw [hr3.1 2 (by decide)]; exact hD.2.2.1) (FL1_r hf1) m (i + 1) (by omega) (by omega)]
            exact Or.inr ⟨σ2, _, rfl, rfl, hf1, by rw [← hσ2]; exact cF_tr (cF_I _ _ _ (by decide)) (cF_tr (cF_I _ _ _ (by decide)) (cF_tr (cF_I _ _ _ (by decide)) (cF_tr (cF_I _ _ _ (by decide)) (cF_I _ _ _ (by decide))))), hr3⟩
        · rw [if_pos (show nI 1 = 1 from rfl), if_neg (show ¬ nI 1 = 3 by decide), if_neg (show ¬ nI 1 = 0 by decide), if_pos (show nI 1 = 1 from rfl), kn_l_some]
          by_cases o : rg_B σ 4 i < x2
          · rw [if_pos o, if_neg (show ¬ x2 ≤ rg_B σ 4 i from Int64.not_le.mpr o), s_rX12_foldFor_b143, kn_v]
            exact next _ _ (wr2 _) h14 rfl
          · rw [if_neg o, if_pos (Int64.not_lt.mp o), s_rX12_foldFor_b143, kn_v]
            exact next _ _ (wr2 _) h14 rfl
        · rw [if_neg (show ¬ nI 2 = 1 by decide), if_pos (show nI 2 = 2 from rfl), if_neg (show ¬ nI 2 = 3 by decide), if_neg (show ¬ nI 2 = 0 by decide), if_neg (show ¬ nI 2 = 1 by decide), kn_l_some]
          by_cases o : rg_B σ 4 i < x2
          · rw [if_pos o, if_pos (Int64.le_of_lt o), s_rX12_foldFor_b167, kn_v]
            exact next _ _ (wr2 _) h14 rfl
          · rw [if_neg o]
            by_cases o2 : rg_B σ 4 i ≤ x2
            · rw [if_pos o2, s_rX12_foldFor_b167, kn_v]
              have eq : x2 = rg_B σ 4 i := Int64.le_antisymm (Int64.not_lt.mp o) o2
              rw [← eq]
              exact next _ _ (wr2 _) h14 rfl
            · rw [if_neg o2, s_rX12_foldFor_b167, kn_v]
              exact next _ _ (wr2 _) h14 rfl
        · rw [if_neg (show ¬ nI 3 = 1 by decide), if_neg (show ¬ nI 3 = 2 by decide), if_pos (show nI 3 = 3 from rfl), if_pos (show nI 3 = 3 from rfl), kn_l_some, s_rX12_foldFor_b68, kn_v]
          exact next (rg_B σ 4 i) (rs_L τ 2 (rg_B σ 4 i)) (wr2 _) h14 rfl
    · rw [if_neg w, if_neg w, s_cX7_foldFor_b91, s_rX12_foldFor_b180, kn_v, kn_v, nI_1]
      have e1 := mcnt_f (g := rg_A σ 11) (t := rg_A σ 7) (x := nI v) (n := i) (fun z => w z.2)
      have ih := fold_l hD hF n m (i + 1) x2 τ (v := v) (by omega) (by omega) (by omega) hr (by rw [e1]; exact h14) hl
      rw [e1] at ih
      exact ih
theorem fold_sim {σ τ : RS} {E ro v : Nat} (hD : FD σ τ E ro) (hF : FL0 σ τ) : FP σ τ E (nI v) (s_cX7_foldFor σ (nI v)) (s_rX12_foldFor τ (nI v)) := by
  unfold s_cX7_foldFor f_cX7_foldFor_b8 s_rX12_foldFor f_rX12_foldFor_b12
  simp only [kn_v]
  have hr : cF [14] [2] [] [] τ (rs_I (rs_L τ 2 0) 14 0) := cF_tr (cF_L _ _ _ (by decide)) (cF_I _ _ _ (by decide))
  have h := fold_l (v := v) hD hF FU FU 0 0 (rs_I (rs_L τ 2 0) 14 0) (Nat.zero_le _) (by have := hD.1; unfold FU; omega) (by have := hD.1; unfold FU; omega) hr rfl rfl
  rw [nI_0] at h
  exact h

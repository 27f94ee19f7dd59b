/-! a node is asked: NEW 0 .. 2, HALT -/
abbrev cN : RS → RS → Prop := cF [6, 7, 8, 9, 10, 14, 15, 16, 17] [1] [13] [5]
abbrev rN : RS → RS → Prop := cF [5, 9, 10, 11, 12, 13, 14] [1, 2] [8, 12, 13, 16] [6, 8]
/-- what both are behind NEW k and below -/
def NA (σ0 τ0 σ τ : RS) (T N E ro v k sp : Nat) : Prop := RC σ τ T N E ro ∧ EC σ τ sp ∧ FL0 σ τ ∧ cN σ0 σ ∧ rN τ0 τ ∧ (∀ j, j < k → rg_B σ 5 (v * 3 + j) = rg_B τ 8 (v * 3 + j)) ∧ (∀ j, k ≤ j → j < 3 → rg_B τ 8 (v * 3 + j) = rg_B σ 1 (v * 3 + j)) ∧ (∀ x, (x < v * 3 ∨ v * 3 + 3 ≤ x) → rg_B σ 5 x = rg_B σ0 5 x ∧ rg_B τ 8 x = rg_B τ0 8 x) ∧ rg_A σ 13 = rg_A σ0 13 ∧ rg_A τ 16 = rg_A τ0 16
def NE (σ0 τ0 σ τ : RS) (T N E ro v : Nat) : Prop := RC σ τ T N E ro ∧ (∃ sp, EC σ τ sp) ∧ FL0 σ τ ∧ cN σ0 σ ∧ rN τ0 τ ∧ (∀ j, j < 3 → rg_B σ 5 (v * 3 + j) = rg_B τ 8 (v * 3 + j)) ∧ (∀ x, (x < v * 3 ∨ v * 3 + 3 ≤ x) → rg_B σ 5 x = rg_B σ0 5 x ∧ rg_B τ 8 x = rg_B τ0 8 x) ∧ ((rg_A σ 13 v = 0 ∧ rg_A τ 16 v = 1) ∨ (rg_A σ 13 v = 1 ∧ rg_A τ 16 v = 0)) ∧ (∀ u, u ≠ v → rg_A σ 13 u = rg_A σ0 13 u ∧ rg_A τ 16 u = rg_A τ0 16 u)
def NF (σ0 τ0 σ τ : RS) (T N E ro : Nat) : Prop := RC σ τ T N E ro ∧ FL1 σ τ ∧ cN σ0 σ ∧ rN τ0 τ
def NP (σ0 τ0 : RS) (T N E ro v : Nat) (oc or : Option RS) : Prop := ∃ σ' τ', oc = some σ' ∧ or = some τ' ∧ (NE σ0 τ0 σ' τ' T N E ro v ∨ NF σ0 τ0 σ' τ' T N E ro)
theorem c_none {σ : RS} {a : Nat} {nd ar : Int32} {w : Int64} (ha : a < 7) (h : rg_A σ 8 a = -1) : s_cX0_comesTo σ (nI a) nd ar w = some (w, σ) := by
  unfold s_cX0_comesTo
  rw [ld_n ha (by decide), if_pos h]
/-- HALT -/
theorem halt_sim {σ0 τ0 σ τ : RS} {T N E ro v sp : Nat} (hv : v < N) (h : NA σ0 τ0 σ τ T N E ro v 3 sp) : NP σ0 τ0 T N E ro v (s_cX7_askNode_b75 σ (nI v)) (s_rX12_renew_b63 τ (nI v)) := by
  obtain ⟨hR, hC, hF, hc, hr, h5, h8, ho, h13, h16⟩ := h
  have hN : N ≤ 12 := hR.1.2.1
  have a7 : rg_A τ 7 = rg_A σ 8 := hR.2.2.2.2.1.2.2.2.2.2.1
  unfold s_cX7_askNode_b75 s_rX12_renew_b63
  rw [c_is0 hF.1, kn_i_some, if_pos rfl, st_n (show v < 12 by omega) (by decide), nI_clamp (show v < 2 ^ 31 by omega)]
  have rs : cF [] [] [16] [] τ (rs_A τ 16 (upd (rg_A τ 16) v 1)) := cF_A _ _ _ (by decide)
  have hR1 : RC σ (rs_A τ 16 (upd (rg_A τ 16) v 1)) T N E ro := RC_F hR (cF_rf [] [] [] [] σ) rs (by decide) (by decide) hR.2.2.2.2.2.1.1
  have hC1 := EC_F hC (cF_rf [] [] [] [] σ) rs (by decide) (by decide)
  have hF1 := FL0_F hF (cF_rf [] [] [] [] σ) rs (by decide) (by decide)
  rw [r_isF0 hF1.2.1, kn_i_some, if_pos rfl, show rg_A (rs_A τ 16 (upd (rg_A τ 16) v 1)) 7 = rg_A τ 7 from rfl, ld_x 5 5 rfl (by decide) (by decide), a7]
  have rs' : rN τ (rs_A τ 16 (upd (rg_A τ 16) v 1)) := cF_mono rs (by decide) (by decide) (by decide) (by decide)
  -- what the class writes of HALT
  have wr : ∀ (σ2 : RS) (b : Int32), bit b → s_cX7_askNode_b112 σ2 b (nI v) = some (rs_A σ2 13 (upd (rg_A σ2 13) v b)) := by
    intro σ2 b hb
    unfold s_cX7_askNode_b112
    rw [st_n (show v < 12 by omega) (by decide), nI_clamp (show v < 2 ^ 31 by omega), nar_bit hb]
  rcases hR.2.2.2.2.2.2.2.2.1 5 (by decide) with w0 | ⟨t, ht, w0⟩
  · rw [if_pos w0, show (5 : Int32) = nI 5 from rfl, c_none (by decide) w0, kn_l_some, if_pos rfl, wr σ 0 (Or.inl rfl)]
    have cs : cF [] [] [13] [] σ (rs_A σ 13 (upd (rg_A σ 13) v 0)) := cF_A _ _ _ (by decide)
    refine ⟨_, _, rfl, rfl, Or.inl ⟨RC_F hR cs rs (by decide) (by decide) hR.2.2.2.2.2.1.1, ⟨sp, EC_F hC cs rs (by decide) (by decide)⟩, FL0_F hF cs rs (by decide) (by decide), cF_tr hc (cF_mono cs (by decide) (by decide) (by decide) (by decide)), cF_tr hr rs', h5, ho, Or.inl ⟨pk_us, pk_us⟩, fun u hu => ⟨?_, ?_⟩⟩⟩
    · show upd (rg_A σ 13) v 0 u = _
      rw [pk_un hu, h13]
    · show upd (rg_A τ 16) v 1 u = _
      rw [pk_un hu, h16]
  · have ht40 : t < 2 ^ 31 := by have := hR.1.1; omega
    rw [if_neg (by rw [w0]; exact nI_ne1 ht40)]
    obtain ⟨x, b, σ1, τ1, sp1, g1, g2, g3, g4, g5, g6, g7⟩ := do_sim (a := 5) (ar := -1) 0 hR1 hC1 hF1 hv (Or.inl rfl) (by decide) ht w0
    rw [show (5 : Int32) = nI 5 from rfl, g1, kn_l_some, g2, kn_i_some]
    have c1 := cfr_F g3
    have r1 := rfr_F g4
    have e5 : rg_B σ1 5 = rg_B σ 5 := g3.2.2.2 5
    have e13 : rg_A σ1 13 = rg_A σ 13 := g3.2.2.1 13
    have e8 : rg_B τ1 8 = rg_B τ 8 := r1.2.2.2 8 (by decide)
    have e16 : rg_A τ1 16 = upd (rg_A τ 16) v 1 := r1.2.2.1 16 (by decide)
    have hcA : cN σ0 σ1 := cF_tr hc (cF_mono c1 (by decide) (by decide) (by decide) (by decide))
    have hrA : rN τ0 τ1 := cF_tr hr (cF_tr rs' (cF_mono r1 (by decide) (by decide) (by decide) (by decide)))
    have cw : ∀ b, cF [] [] [13] [] σ1 (rs_A σ1 13 (upd (rg_A σ1 13) v b)) := fun b => cF_A _ _ _ (by decide)
    have cw' : ∀ b, cN σ0 (rs_A σ1 13 (upd (rg_A σ1 13) v b)) := fun b => cF_tr hcA (cF_mono (cw b) (by decide) (by decide) (by decide) (by decide))
    rcases g7 with ⟨rfl, gc, gf, gv⟩ | ⟨rfl, gv, gf⟩
    · rw [if_neg (show ¬ (1 : Int32) = 0 by decide), gv]
      unfold s_rX12_renew_b116
      by_cases z : x = 0
      · rw [if_pos z, if_pos z, wr σ1 0 (Or.inl rfl), st_n (show v < 12 by omega) (by decide), nI_clamp (show v < 2 ^ 31 by omega)]
        have rw1 : cF [] [] [16] [] τ1 (rs_A τ1 16 (upd (rg_A τ1 16) v (vp_nar .boolean 1))) := cF_A _ _ _ (by decide)
        refine ⟨_, _, rfl, rfl, Or.inl ⟨RC_F g5 (cw 0) rw1 (by decide) (by decide) g5.2.2.2.2.2.1.1, ⟨sp1, EC_F gc (cw 0) rw1 (by decide) (by decide)⟩, FL0_F gf (cw 0) rw1 (by decide) (by decide), cw' 0, cF_tr hrA (cF_mono rw1 (by decide) (by decide) (by decide) (by decide)), ?_, ?_, Or.inl ⟨pk_us, pk_us⟩, fun u hu => ⟨?_, ?_⟩⟩⟩
        · intro j hj
          show rg_B σ1 5 _ = rg_B τ1 8 _
          rw [e5, e8]; exact h5 j hj
        · intro y hy
          show rg_B σ1 5 _ = _ ∧ rg_B τ1 8 _ = _
          rw [e5, e8]; exact ho y hy
        · show upd (rg_A σ1 13) v 0 u = _
          rw [pk_un hu, e13, h13]
        · show upd (rg_A τ1 16) v _ u = _
          rw [pk_un hu, e16, pk_un hu, h16]
      · rw [if_neg z, if_neg z, wr σ1 1 (Or.inr rfl), st_n (show v < 12 by omega) (by decide), nI_clamp (show v < 2 ^ 31 by omega)]
        have rw1 : cF [] [] [16] [] τ1 (rs_A τ1 16 (upd (rg_A τ1 16) v (vp_nar .boolean 0))) := cF_A _ _ _ (by decide)
        refine ⟨_, _, rfl, rfl, Or.inl ⟨RC_F g5 (cw 1) rw1 (by decide) (by decide) g5.2.2.2.2.2.1.1, ⟨sp1, EC_F gc (cw 1) rw1 (by decide) (by decide)⟩, FL0_F gf (cw 1) rw1 (by decide) (by decide), cw' 1, cF_tr hrA (cF_mono rw1 (by decide) (by decide) (by decide) (by decide)), ?_, ?_, Or.inr ⟨pk_us, pk_us⟩, fun u hu => ⟨?_, ?_⟩⟩⟩
        · intro j hj
          show rg_B σ1 5 _ = rg_B τ1 8 _
          rw [e5, e8]; exact h5 j hj
        · intro y hy
          show rg_B σ1 5 _ = _ ∧ rg_B τ1 8 _ = _
          rw [e5, e8]; exact ho y hy
        · show upd (rg_A σ1 13) v 1 u = _
          rw [pk_un hu, e13, h13]
        · show upd (rg_A τ1 16) v _ u = _
          rw [pk_un hu, e16, pk_un hu, h16]
    · rw [if_pos rfl, gv, if_pos rfl, wr σ1 0 (Or.inl rfl)]
      exact ⟨_, _, rfl, rfl, Or.inr ⟨RC_F g5 (cw 0) (cF_rf [] [] [] [] τ1) (by decide) (by decide) g5.2.2.2.2.2.1.1, FL1_F gf (cw 0) (cF_rf [] [] [] [] τ1) (by decide) (by decide), cw' 0, hrA⟩⟩
/-- the reference, once something failed, goes out -/
theorem r_new_f {τ : RS} {v : Nat} (hv : v < 12) (hF : rg_A τ 8 0 ≠ 0) {m : Nat} (hm : 0 < m) {y : Int32} : kn_fix (fun _ _ _ => none) s_rX12_renew_b7 m τ (nI v) y = some (rs_A τ 16 (upd (rg_A τ 16) v 1)) := by
  obtain ⟨m, rfl⟩ : ∃ q, m = q + 1 := ⟨m - 1, by omega⟩
  have e : s_rX12_renew_b63 τ (nI v) = some (rs_A τ 16 (upd (rg_A τ 16) v 1)) := by
    unfold s_rX12_renew_b63
    rw [st_n hv (by decide), nI_clamp (show v < 2 ^ 31 by omega), r_isF1 (show rg_A (rs_A τ 16 (upd (rg_A τ 16) v 1)) 8 0 ≠ 0 from hF), kn_i_some, if_neg (by decide)]
  rw [kn_fix_s, s_rX12_renew_b7, r_isF1 hF, kn_i_some, if_neg (show ¬ (1 : Int32) = 0 by decide), e]
  by_cases c : 3 ≤ y
  · rw [if_pos c]
  · rw [if_neg c]
theorem mod3 {v k : Nat} (hv : v < 12) (hk : k < 3) : nI (v * 3 + k) - nI (v * 3 + k) / 3 * 3 = nI k := by
  have h := pk_rem (a := v * 3 + k) (d := 3) (by omega) (by decide) (by decide)
  rw [show (v * 3 + k) % 3 = k by omega] at h
  exact h
theorem new_l {σ0 τ0 : RS} {T N E ro v : Nat} (hv : v < N) : ∀ (n m k sp : Nat) (σ τ : RS), k ≤ 3 → 3 - k < n → 3 - k < m → NA σ0 τ0 σ τ T N E ro v k sp →
    NP σ0 τ0 T N E ro v (kn_fix (fun _ _ _ => none) s_cX7_askNode_b20 n σ (nI v) (nI (v * 3 + k))) (kn_fix (fun _ _ _ => none) s_rX12_renew_b7 m τ (nI v) (nI k))
  | 0, m, k, sp, σ, τ, h1, h2, h3, h => absurd h2 (Nat.not_lt_zero _)
  | n + 1, 0, k, sp, σ, τ, h1, h2, h3, h => absurd h3 (Nat.not_lt_zero _)
  | n + 1, m + 1, k, sp, σ, τ, h1, h2, h3, h => by
    have h' := h
    obtain ⟨hR, hC, hF, hc, hr, h5, h8, ho, h13, h16⟩ := h'
    have hN : N ≤ 12 := hR.1.2.1
    have a7 : rg_A τ 7 = rg_A σ 8 := hR.2.2.2.2.1.2.2.2.2.2.1
    rw [kn_fix_s, kn_fix_s, s_cX7_askNode_b20, s_rX12_renew_b7, show nI v * 3 + 3 = nI (v * 3 + 3) from ix3 v 3]
    by_cases c : 3 ≤ k
    · have ek : k = 3 := by omega
      subst ek
      rw [if_pos (nI_le (Nat.le_refl _) (by omega)), if_pos (show (3 : Int32) ≤ nI 3 by decide)]
      exact halt_sim hv h
    rw [if_neg (fun q => by have := (nI_leI (by omega) (by omega)).mp q; omega), if_neg (show ¬ (3 : Int32) ≤ nI k from fun q => by have := (nI_leI (a := 3) (by decide) (by omega)).mp q; omega), c_is0 hF.1, kn_i_some, if_pos rfl, r_isF0 hF.2.1, kn_i_some, if_pos rfl, ld_n (f := rg_B σ 1) (show v * 3 + k < 36 by omega) (by decide), mod3 (by omega) (by omega), show (2 : Int32) + nI k = nI (2 + k) from nI_add 2 k, ld_n (f := rg_A τ 7) (show 2 + k < 7 by omega) (by decide), a7]
    rcases hR.2.2.2.2.2.2.2.2.1 (2 + k) (by omega) with w0 | ⟨t, ht, w0⟩
    · rw [if_pos w0, c_none (by omega) w0, kn_l_some, st_n (show v * 3 + k < 36 by omega) (by decide), kn_v, nI_1, nI_clamp (show v * 3 + k < 2 ^ 31 by omega), s_rX12_renew_b57, kn_v, nI_1]
      have cs : cF [] [] [] [5] σ (rs_B σ 5 (vp_updL (rg_B σ 5) (v * 3 + k) (rg_B σ 1 (v * 3 + k)))) := cF_B _ _ _ (by decide)
      refine new_l hv n m (k + 1) sp _ τ (by omega) (by omega) (by omega) ⟨RC_F hR cs (cF_rf [] [] [] [] τ) (by decide) (by decide) hR.2.2.2.2.2.1.1, EC_F hC cs (cF_rf [] [] [] [] τ) (by decide) (by decide), FL0_F hF cs (cF_rf [] [] [] [] τ) (by decide) (by decide), cF_tr hc (cF_mono cs (by decide) (by decide) (by decide) (by decide)), hr, ?_, ?_, ?_, h13, h16⟩
      · intro j hj
        show vp_updL (rg_B σ 5) (v * 3 + k) _ (v * 3 + j) = _
        by_cases z : j = k
        · rw [z, pk_uLs, h8 k (Nat.le_refl _) (by omega)]
        · rw [pk_uLn (by omega)]; exact h5 j (by omega)
      · intro j hj hj3
        exact h8 j (by omega) hj3
      · intro x hx
        show vp_updL (rg_B σ 5) (v * 3 + k) _ x = _ ∧ _
        rw [pk_uLn (by omega)]; exact ho x hx
    · have ht40 : t < 2 ^ 31 := by have := hR.1.1; omega
      rw [if_neg (by rw [w0]; exact nI_ne1 ht40)]
      obtain ⟨x, b, σ1, τ1, sp1, g1, g2, g3, g4, g5, g6, g7⟩ := do_sim (a := 2 + k) (ar := -1) (rg_B σ 1 (v * 3 + k)) hR hC hF hv (Or.inl rfl) (by omega) ht w0
      rw [g1, kn_l_some, g2, kn_i_some, st_n (show v * 3 + k < 36 by omega) (by decide), kn_v, nI_1, nI_clamp (show v * 3 + k < 2 ^ 31 by omega)]
      have c1 := cfr_F g3
      have r1 := rfr_F g4
      have e5 : rg_B σ1 5 = rg_B σ 5 := g3.2.2.2 5
      have e13 : rg_A σ1 13 = rg_A σ 13 := g3.2.2.1 13
      have eb1 : rg_B σ1 1 = rg_B σ 1 := g3.2.2.2 1
      have e8 : rg_B τ1 8 = rg_B τ 8 := r1.2.2.2 8 (by decide)
      have e16 : rg_A τ1 16 = rg_A τ 16 := r1.2.2.1 16 (by decide)
      have hcA : cN σ0 σ1 := cF_tr hc (cF_mono c1 (by decide) (by decide) (by decide) (by decide))
      have hrA : rN τ0 τ1 := cF_tr hr (cF_mono r1 (by decide) (by decide) (by decide) (by decide))
      have cs : cF [] [] [] [5] σ1 (rs_B σ1 5 (vp_updL (rg_B σ1 5) (v * 3 + k) x)) := cF_B _ _ _ (by decide)
      have hcB : cN σ0 (rs_B σ1 5 (vp_updL (rg_B σ1 5) (v * 3 + k) x)) := cF_tr hcA (cF_mono cs (by decide) (by decide) (by decide) (by decide))
      rcases g7 with ⟨rfl, gc, gf, gv⟩ | ⟨rfl, gv, gf⟩
      · rw [if_neg (by decide), ix3', st_n (show v * 3 + k < 36 by omega) (by decide), s_rX12_renew_b57, kn_v, nI_1, nI_clamp (show v * 3 + k < 2 ^ 31 by omega), gv]
        have rs : cF [] [] [] [8] τ1 (rs_B τ1 8 (vp_updL (rg_B τ1 8) (v * 3 + k) x)) := cF_B _ _ _ (by decide)
        refine new_l hv n m (k + 1) sp1 _ _ (by omega) (by omega) (by omega) ⟨RC_F g5 cs rs (by decide) (by decide) g5.2.2.2.2.2.1.1, EC_F gc cs rs (by decide) (by decide), FL0_F gf cs rs (by decide) (by decide), hcB, cF_tr hrA (cF_mono rs (by decide) (by decide) (by decide) (by decide)), ?_, ?_, ?_, e13.trans h13, e16.trans h16⟩
        · intro j hj
          show vp_updL (rg_B σ1 5) (v * 3 + k) x (v * 3 + j) = vp_updL (rg_B τ1 8) (v * 3 + k) x (v * 3 + j)
          by_cases z : j = k
          · rw [z, pk_uLs, pk_uLs]
          · rw [pk_uLn (by omega), pk_uLn (by omega), e5, e8]; exact h5 j (by omega)
        · intro j hj hj3
          show vp_updL (rg_B τ1 8) (v * 3 + k) x (v * 3 + j) = rg_B σ1 1 _
          rw [pk_uLn (by omega), e8, eb1]; exact h8 j (by omega) hj3
        · intro y hy
          show vp_updL (rg_B σ1 5) (v * 3 + k) x y = _ ∧ vp_updL (rg_B τ1 8) (v * 3 + k) x y = _
          rw [pk_uLn (by omega), pk_uLn (by omega), e5, e8]; exact ho y hy
      · rw [if_pos rfl, s_rX12_renew_b57, kn_v, nI_1, r_new_f (by omega) (FL1_r gf) (by omega)]
        have rw1 : cF [] [] [16] [] τ1 (rs_A τ1 16 (upd (rg_A τ1 16) v 1)) := cF_A _ _ _ (by decide)
        have gf' : FL1 (rs_B σ1 5 (vp_updL (rg_B σ1 5) (v * 3 + k) x)) (rs_A τ1 16 (upd (rg_A τ1 16) v 1)) := FL1_F gf cs rw1 (by decide) (by decide)
        have gR : RC (rs_B σ1 5 (vp_updL (rg_B σ1 5) (v * 3 + k) x)) (rs_A τ1 16 (upd (rg_A τ1 16) v 1)) T N E ro := RC_F g5 cs rw1 (by decide) (by decide) g5.2.2.2.2.2.1.1
        -- the class goes out too
        obtain ⟨n, rfl⟩ : ∃ q, n = q + 1 := ⟨n - 1, by omega⟩
        refine ⟨_, _, ?_, rfl, Or.inr ⟨gR, gf', hcB, cF_tr hrA (cF_mono rw1 (by decide) (by decide) (by decide) (by decide))⟩⟩
        rw [kn_fix_s, s_cX7_askNode_b20, c_is1 gf'.1, kn_i_some, if_neg (show ¬ (1 : Int32) = 0 by decide), s_cX7_askNode_b75, c_is1 gf'.1, kn_i_some, if_neg (show ¬ (1 : Int32) = 0 by decide)]
        split <;> rfl

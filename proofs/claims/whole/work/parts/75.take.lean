/-! a message is taken -/
theorem r_tk217 {τ0 : RS} {x1 x2 : Int32} {x3 : Int64} {nt : Nat} (hnt : nt < 12) : ∃ τ', f_rX12_takes_b217 τ0 x1 x2 x3 (nI nt) 0 = s_rX12_takes_b248 τ' x1 x2 x3 (nI nt) ∧ cF [] [] [] [1] τ0 τ' ∧ (∀ k, k < 3 → rg_B τ' 1 (nt * 3 + k) = rg_B τ0 8 (k)) ∧ (∀ k, (k < nt * 3 ∨ nt * 3 + 3 ≤ k) → rg_B τ' 1 k = rg_B τ0 1 k) := by
  obtain ⟨τ', ⟨g1, g2, g3⟩, g4⟩ := lp_1 (z := fun _ _ _ _ _ _ => none) (F := s_rX12_takes_b217) (N := 3) (I := fun i τ => cF [] [] [] [1] τ0 τ ∧ (∀ k, k < i → rg_B τ 1 (nt * 3 + k) = rg_B τ0 8 (k)) ∧ (∀ k, (k < nt * 3 ∨ nt * 3 + i ≤ k) → rg_B τ 1 k = rg_B τ0 1 k)) (ex := fun τ => s_rX12_takes_b248 τ x1 x2 x3 (nI nt)) (fun f τ i => f τ x1 x2 x3 (nI nt) i)
    (fun k i τ hi hI => by
      obtain ⟨h1, h2, h3⟩ := hI
      refine ⟨rs_B τ 1 (vp_updL (rg_B τ 1) (nt * 3 + i) (rg_B τ0 8 (i))), ?_, cF_tr h1 (cF_B _ _ _ (by decide)), fun q hq => ?_, fun q hq => ?_⟩
      · show s_rX12_takes_b217 k τ x1 x2 x3 (nI nt) (nI i) = _
        rw [s_rX12_takes_b217, if_neg (fun q => by have := (nI_leI (a := 3) (by decide) (by omega)).mp q; omega), ix3', ld_n (show i < 36 by omega) (by decide), st_n (show nt * 3 + i < 36 by omega) (by decide), kn_v, nI_1, nI_clamp (show nt * 3 + i < 2 ^ 31 by omega), h1.2.2.2 8 (by decide)]
      · rw [rg_BB, if_pos rfl]
        by_cases z : q = i
        · subst z; exact pk_uLs
        · rw [pk_uLn (by omega)]; exact h2 q (by omega)
      · rw [rg_BB, if_pos rfl, pk_uLn (by omega)]; exact h3 q (by omega))
    (fun k τ hI => by
      show s_rX12_takes_b217 k τ x1 x2 x3 (nI nt) (nI 3) = _
      rw [s_rX12_takes_b217, if_pos (show (3 : Int32) ≤ nI 3 from (nI_leI (a := 3) (by decide) (by decide)).mpr (Nat.le_refl _))])
    FU 0 τ0 (Nat.zero_le _) (by unfold FU; omega) ⟨cF_rf _ _ _ _ _, fun k hk => absurd hk (Nat.not_lt_zero _), fun _ _ => rfl⟩
  rw [nI_0] at g4
  exact ⟨τ', g4, g1, g2, g3⟩
theorem r_tk313 {τ0 : RS} {nt : Nat} (hnt : nt < 12) : ∃ τ', f_rX12_takes_b313 τ0 (nI nt) 0 = some (0, τ') ∧ cF [] [] [] [1] τ0 τ' ∧ (∀ k, k < 3 → rg_B τ' 1 (nt * 3 + k) = rg_B τ0 11 (k)) ∧ (∀ k, (k < nt * 3 ∨ nt * 3 + 3 ≤ k) → rg_B τ' 1 k = rg_B τ0 1 k) := by
  obtain ⟨τ', ⟨g1, g2, g3⟩, g4⟩ := lp_1 (z := fun _ _ _ => none) (F := s_rX12_takes_b313) (N := 3) (I := fun i τ => cF [] [] [] [1] τ0 τ ∧ (∀ k, k < i → rg_B τ 1 (nt * 3 + k) = rg_B τ0 11 (k)) ∧ (∀ k, (k < nt * 3 ∨ nt * 3 + i ≤ k) → rg_B τ 1 k = rg_B τ0 1 k)) (ex := fun τ => some (0, τ)) (fun f τ i => f τ (nI nt) i)
    (fun k i τ hi hI => by
      obtain ⟨h1, h2, h3⟩ := hI
      refine ⟨rs_B τ 1 (vp_updL (rg_B τ 1) (nt * 3 + i) (rg_B τ0 11 (i))), ?_, cF_tr h1 (cF_B _ _ _ (by decide)), fun q hq => ?_, fun q hq => ?_⟩
      · show s_rX12_takes_b313 k τ (nI nt) (nI i) = _
        rw [s_rX12_takes_b313, if_neg (fun q => by have := (nI_leI (a := 3) (by decide) (by omega)).mp q; omega), ix3', ld_n (show i < 3 by omega) (by decide), st_n (show nt * 3 + i < 36 by omega) (by decide), kn_v, nI_1, nI_clamp (show nt * 3 + i < 2 ^ 31 by omega), h1.2.2.2 11 (by decide)]
      · rw [rg_BB, if_pos rfl]
        by_cases z : q = i
        · subst z; exact pk_uLs
        · rw [pk_uLn (by omega)]; exact h2 q (by omega)
      · rw [rg_BB, if_pos rfl, pk_uLn (by omega)]; exact h3 q (by omega))
    (fun k τ hI => by
      show s_rX12_takes_b313 k τ (nI nt) (nI 3) = _
      rw [s_rX12_takes_b313, if_pos (show (3 : Int32) ≤ nI 3 from (nI_leI (a := 3) (by decide) (by decide)).mpr (Nat.le_refl _))])
    FU 0 τ0 (Nat.zero_le _) (by unfold FU; omega) ⟨cF_rf _ _ _ _ _, fun k hk => absurd hk (Nat.not_lt_zero _), fun _ _ => rfl⟩
  rw [nI_0] at g4
  exact ⟨τ', g4, g1, g2, g3⟩
theorem r_tk95 {τ0 : RS} {x1 x2 : Int32} {x3 : Int64} {nt : Nat} (hnt : nt < 12) : ∃ τ', f_rX12_takes_b95 τ0 x1 x2 x3 (nI nt) 0 = s_rX12_takes_b145 τ' x1 x2 x3 (nI nt) ∧ cF [] [] [] [8, 11] τ0 τ' ∧ (∀ k, k < 3 → rg_B τ' 11 k = rg_B τ0 1 (nt * 3 + k) ∧ rg_B τ' 8 k = rg_B τ0 1 (nt * 3 + k)) := by
  obtain ⟨τ', ⟨g1, g2⟩, g4⟩ := lp_1 (z := fun _ _ _ _ _ _ => none) (F := s_rX12_takes_b95) (N := 3) (I := fun i s => cF [] [] [] [8, 11] τ0 s ∧ (∀ k, k < i → rg_B s 11 k = rg_B τ0 1 (nt * 3 + k) ∧ rg_B s 8 k = rg_B τ0 1 (nt * 3 + k))) (ex := fun s => s_rX12_takes_b145 s x1 x2 x3 (nI nt)) (fun f s i => f s x1 x2 x3 (nI nt) i)
    (fun k i s hi hI => by
      obtain ⟨h1, h2⟩ := hI
      have e1 : rg_B s 1 = rg_B τ0 1 := h1.2.2.2 1 (by decide)
      refine ⟨rs_B (rs_B s 11 (vp_updL (rg_B s 11) i (rg_B τ0 1 (nt * 3 + i)))) 8 (vp_updL (rg_B s 8) i (rg_B τ0 1 (nt * 3 + i))), ?_, cF_tr h1 (cF_tr (cF_B _ _ _ (by decide)) (cF_B _ _ _ (by decide))), fun q hq => ?_⟩
      · show s_rX12_takes_b95 k s x1 x2 x3 (nI nt) (nI i) = _
        rw [s_rX12_takes_b95, if_neg (fun q => by have := (nI_leI (a := 3) (by decide) (by omega)).mp q; omega), ix3', ld_n (show nt * 3 + i < 36 by omega) (by decide), e1, st_n hi (by decide), ld_n (show nt * 3 + i < 36 by omega) (by decide), show rg_B (rs_B s 11 (vp_updL (rg_B s 11) (nI i).toNatClampNeg (rg_B τ0 1 (nt * 3 + i)))) 1 = rg_B s 1 from rfl, e1, st_n (show i < 36 by omega) (by decide), kn_v, nI_1, nI_clamp (show i < 2 ^ 31 by omega)]
        rfl
      · by_cases z : q = i
        · subst z; exact ⟨pk_uLs, pk_uLs⟩
        · obtain ⟨p1, p2⟩ := h2 q (by omega)
          exact ⟨(pk_uLn z).trans p1, (pk_uLn z).trans p2⟩)
    (fun k s hI => by
      show s_rX12_takes_b95 k s x1 x2 x3 (nI nt) (nI 3) = _
      rw [s_rX12_takes_b95, if_pos (by decide)])
    FU 0 τ0 (Nat.zero_le _) (by decide) ⟨cF_rf _ _ _ _ _, fun k hk => absurd hk (Nat.not_lt_zero _)⟩
  rw [nI_0] at g4
  exact ⟨τ', g4, g1, g2⟩
theorem r_tk27 {τ0 : RS} {x1 x2 : Int32} {x3 : Int64} {W : Nat} (hW : W < 60) (h17 : rg_I τ0 17 = nI W) : ∃ τ', f_rX12_takes_b27 τ0 x1 x2 x3 0 = s_rX12_takes_b74 τ' x1 x2 x3 ∧ cF [] [] [18] [10] τ0 τ' ∧ (∀ k, k < W → rg_A τ' 18 k = rg_A τ0 18 (k + 1) ∧ rg_B τ' 10 k = rg_B τ0 10 (k + 1)) := by
  obtain ⟨τ', ⟨g1, g2, -⟩, g4⟩ := lp_1 (z := fun _ _ _ _ _ => none) (F := s_rX12_takes_b27) (N := W) (I := fun i s => cF [] [] [18] [10] τ0 s ∧ (∀ k, k < i → rg_A s 18 k = rg_A τ0 18 (k + 1) ∧ rg_B s 10 k = rg_B τ0 10 (k + 1)) ∧ (∀ k, i ≤ k → rg_A s 18 k = rg_A τ0 18 k ∧ rg_B s 10 k = rg_B τ0 10 k)) (ex := fun s => s_rX12_takes_b74 s x1 x2 x3) (fun f s i => f s x1 x2 x3 i)
    (fun k i s hi hI => by
      obtain ⟨h1, h2, h3⟩ := hI
      refine ⟨rs_B (rs_A s 18 (upd (rg_A s 18) i (rg_A τ0 18 (i + 1)))) 10 (vp_updL (rg_B s 10) i (rg_B τ0 10 (i + 1))), ?_, cF_tr h1 (cF_tr (cF_A _ _ _ (by decide)) (cF_B _ _ _ (by decide))), fun q hq => ?_, fun q hq => ?_⟩
      · show s_rX12_takes_b27 k s x1 x2 x3 (nI i) = _
        rw [s_rX12_takes_b27, h1.1 17 (by decide), h17, if_neg (fun q => by have := (nI_leI (by omega) (by omega)).mp q; omega), nI_1, ld_n (show i + 1 < 64 by omega) (by decide), (h3 (i + 1) (by omega)).1, st_n (show i < 64 by omega) (by decide), ld_n (show i + 1 < 64 by omega) (by decide), show rg_B (rs_A s 18 (upd (rg_A s 18) (nI i).toNatClampNeg (rg_A τ0 18 (i + 1)))) 10 = rg_B s 10 from rfl, (h3 (i + 1) (by omega)).2, st_n (show i < 64 by omega) (by decide), kn_v, nI_clamp (show i < 2 ^ 31 by omega)]
      · by_cases z : q = i
        · subst z; exact ⟨pk_us, pk_uLs⟩
        · obtain ⟨p1, p2⟩ := h2 q (by omega)
          exact ⟨(pk_un z).trans p1, (pk_uLn z).trans p2⟩
      · obtain ⟨p1, p2⟩ := h3 q (by omega)
        exact ⟨(pk_un (by omega)).trans p1, (pk_uLn (by omega)).trans p2⟩)
    (fun k s hI => by
      show s_rX12_takes_b27 k s x1 x2 x3 (nI W) = _
      rw [s_rX12_takes_b27, hI.1.1 17 (by decide), h17, if_pos ((nI_leI (by omega) (by omega)).mpr (Nat.le_refl _))])
    FU 0 τ0 (Nat.zero_le _) (by unfold FU; omega) ⟨cF_rf _ _ _ _ _, fun k hk => absurd hk (Nat.not_lt_zero _), fun _ _ => ⟨rfl, rfl⟩⟩
  rw [nI_0] at g4
  exact ⟨τ', g4, g1, g2⟩
abbrev cK : RS → RS → Prop := cF [6, 7, 8, 9, 10, 15, 16, 17] [] [] [7]
abbrev rK : RS → RS → Prop := cF [5, 9, 10, 11, 12, 13] [1] [8, 12, 13] [6, 8]
theorem r_nt_f {τ : RS} (hF : rg_A τ 8 0 ≠ 0) {m : Nat} (hm : 0 < m) {x1 x2 x5 y : Int32} {x3 : Int64} : kn_fix (fun _ _ _ _ _ _ => none) s_rX12_takes_b148 m τ x1 x2 x3 x5 y = some (0, τ) := by
  obtain ⟨m, rfl⟩ : ∃ q, m = q + 1 := ⟨m - 1, by omega⟩
  have e : s_rX12_takes_b205 τ x1 x2 x3 x5 = some (0, τ) := by
    unfold s_rX12_takes_b205
    rw [r_isF1 hF, kn_i_some, if_neg (by decide)]
  rw [kn_fix_s, s_rX12_takes_b148, r_isF1 hF, kn_i_some, if_neg (show ¬ (1 : Int32) = 0 by decide), e]
  by_cases c : 3 ≤ y
  · rw [if_pos c]
  · rw [if_neg c]
/-- NEW 0 .. 2 of the node to which the message goes -/
theorem nt_l {σ0 τ0 : RS} {T N E ro nt : Nat} {x1 x2 : Int32} {x3 : Int64} (hnt : nt < N) : ∀ (n m k sp : Nat) (σ τ : RS), k ≤ 3 → 3 - k < n → 3 - k < m → RC σ τ T N E ro → EC σ τ sp → FL0 σ τ → cK σ0 σ → rK τ0 τ → (∀ j, j < k → rg_B σ 7 j = rg_B τ 8 j) → (∀ j, k ≤ j → j < 3 → rg_B τ 8 j = rg_B σ 8 j) →
    (∃ σ' τ' sp', kn_fix (fun _ _ _ => none) s_cX3_takeStates_b2 n σ (nI nt) (nI k) = s_cX3_takeStates_b48 σ' (nI nt) ∧ kn_fix (fun _ _ _ _ _ _ => none) s_rX12_takes_b148 m τ x1 x2 x3 (nI nt) (nI k) = s_rX12_takes_b205 τ' x1 x2 x3 (nI nt) ∧ RC σ' τ' T N E ro ∧ EC σ' τ' sp' ∧ FL0 σ' τ' ∧ cK σ0 σ' ∧ rK τ0 τ' ∧ (∀ j, j < 3 → rg_B σ' 7 j = rg_B τ' 8 j)) ∨
    (∃ σ' τ', kn_fix (fun _ _ _ => none) s_cX3_takeStates_b2 n σ (nI nt) (nI k) = some σ' ∧ kn_fix (fun _ _ _ _ _ _ => none) s_rX12_takes_b148 m τ x1 x2 x3 (nI nt) (nI k) = some (0, τ') ∧ RC σ' τ' T N E ro ∧ FL1 σ' τ' ∧ cK σ0 σ' ∧ rK τ0 τ')
  | 0, m, k, sp, σ, τ, h1, h2, h3, hR, hC, hF, hc, hr, h7, h8 => absurd h2 (Nat.not_lt_zero _)
  | n + 1, 0, k, sp, σ, τ, h1, h2, h3, hR, hC, hF, hc, hr, h7, h8 => absurd h3 (Nat.not_lt_zero _)
  | n + 1, m + 1, k, sp, σ, τ, h1, h2, h3, hR, hC, hF, hc, hr, h7, h8 => by
    have hN : N ≤ 12 := hR.1.2.1
    have a7 : rg_A τ 7 = rg_A σ 8 := hR.2.2.2.2.1.2.2.2.2.2.1
    rw [kn_fix_s, kn_fix_s, s_cX3_takeStates_b2, s_rX12_takes_b148]
    by_cases c : 3 ≤ k
    · have ek : k = 3 := by omega
      subst ek
      rw [if_pos (show (3 : Int32) ≤ nI 3 by decide), if_pos (show (3 : Int32) ≤ nI 3 by decide)]
      exact Or.inl ⟨σ, τ, sp, rfl, rfl, hR, hC, hF, hc, hr, h7⟩
    rw [if_neg (show ¬ (3 : Int32) ≤ nI k from fun q => by have := (nI_leI (a := 3) (by decide) (by omega)).mp q; omega), if_neg (show ¬ (3 : Int32) ≤ nI k from fun q => by have := (nI_leI (a := 3) (by decide) (by omega)).mp q; omega), r_isF0 hF.2.1, kn_i_some, if_pos rfl, ld_n (f := rg_B σ 8) (show k < 3 by omega) (by decide), show (2 : Int32) + nI k = nI (2 + k) from nI_add 2 k, ld_n (f := rg_A τ 7) (show 2 + k < 7 by omega) (by decide), a7]
    rcases hR.2.2.2.2.2.2.2.2.1 (2 + k) (by omega) with w0 | ⟨t, ht, w0⟩
    · rw [if_pos w0, c_none (by omega) w0, kn_l_some, st_n (show k < 3 by omega) (by decide), nI_clamp (show k < 2 ^ 31 by omega), s_rX12_takes_b199]
      simp only [kn_v]
      have cs : cF [] [] [] [7] σ (rs_B σ 7 (vp_updL (rg_B σ 7) k (rg_B σ 8 k))) := cF_B _ _ _ (by decide)
      have hF1 := FL0_F hF cs (cF_rf [] [] [] [] τ) (by decide) (by decide)
      rw [c_is0 hF1.1, kn_i_some, if_pos rfl, nI_1]
      refine nt_l hnt n m (k + 1) sp _ τ (by omega) (by omega) (by omega) (RC_F hR cs (cF_rf [] [] [] [] τ) (by decide) (by decide) hR.2.2.2.2.2.1.1) (EC_F hC cs (cF_rf [] [] [] [] τ) (by decide) (by decide)) hF1 (cF_tr hc (cF_mono cs (by decide) (by decide) (by decide) (by decide))) hr ?_ ?_
      · intro j hj
        show vp_updL (rg_B σ 7) k (rg_B σ 8 k) j = _
        by_cases z : j = k
        · rw [z, pk_uLs, h8 k (Nat.le_refl _) (by omega)]
        · rw [pk_uLn z]; exact h7 j (by omega)
      · intro j hj hj3
        exact h8 j (by omega) hj3
    · have ht40 : t < 2 ^ 31 := by have := hR.1.1; omega
      rw [if_neg (by rw [w0]; exact nI_ne1 ht40)]
      obtain ⟨x, b, σ1, τ1, sp1, g1, g2, g3, g4, g5, g6, g7⟩ := do_sim (a := 2 + k) (ar := -1) (rg_B σ 8 k) hR hC hF hnt (Or.inl rfl) (by omega) ht w0
      rw [g1, kn_l_some, g2, kn_i_some, st_n (show k < 3 by omega) (by decide), nI_clamp (show k < 2 ^ 31 by omega)]
      have c1 := cfr_F g3
      have r1 := rfr_F g4
      have e7 : rg_B σ1 7 = rg_B σ 7 := g3.2.2.2 7
      have e8 : rg_B σ1 8 = rg_B σ 8 := g3.2.2.2 8
      have t8 : rg_B τ1 8 = rg_B τ 8 := r1.2.2.2 8 (by decide)
      have cs : cF [] [] [] [7] σ1 (rs_B σ1 7 (vp_updL (rg_B σ1 7) k x)) := cF_B _ _ _ (by decide)
      have hcA : cK σ0 (rs_B σ1 7 (vp_updL (rg_B σ1 7) k x)) := cF_tr hc (cF_tr (cF_mono c1 (by decide) (by decide) (by decide) (by decide)) (cF_mono cs (by decide) (by decide) (by decide) (by decide)))
      have hrA : rK τ0 τ1 := cF_tr hr (cF_mono r1 (by decide) (by decide) (by decide) (by decide))
      rcases g7 with ⟨rfl, gc, gf, gv⟩ | ⟨rfl, gv, gf⟩
      · have rs : cF [] [] [] [8] τ1 (rs_B τ1 8 (vp_updL (rg_B τ1 8) k x)) := cF_B _ _ _ (by decide)
        have gf1 := FL0_F gf cs rs (by decide) (by decide)
        rw [if_neg (show ¬ (1 : Int32) = 0 by decide), st_n (show k < 36 by omega) (by decide), gv, c_is0 gf1.1, kn_i_some, if_pos rfl, s_rX12_takes_b199]
        simp only [kn_v]
        rw [nI_1]
        refine nt_l hnt n m (k + 1) sp1 _ _ (by omega) (by omega) (by omega) (RC_F g5 cs rs (by decide) (by decide) g5.2.2.2.2.2.1.1) (EC_F gc cs rs (by decide) (by decide)) gf1 hcA (cF_tr hrA (cF_mono rs (by decide) (by decide) (by decide) (by decide))) ?_ ?_
        · intro j hj
          show vp_updL (rg_B σ1 7) k x j = vp_updL (rg_B τ1 8) k x j
          by_cases z : j = k
          · rw [z, pk_uLs, pk_uLs]
          · rw [pk_uLn z, pk_uLn z, e7, t8]; exact h7 j (by omega)
        · intro j hj hj3
          show vp_updL (rg_B τ1 8) k x j = rg_B σ1 8 j
          rw [pk_uLn (by omega), t8, e8]; exact h8 j (by omega) hj3
      · have gf1 : FL1 (rs_B σ1 7 (vp_updL (rg_B σ1 7) k x)) τ1 := FL1_F gf cs (cF_rf [] [] [] [] τ1) (by decide) (by decide)
        rw [if_pos rfl, c_is1 gf1.1, kn_i_some, if_neg (show ¬ (1 : Int32) = 0 by decide), s_rX12_takes_b199, kn_v, r_nt_f (FL1_r gf) (by omega)]
        exact Or.inr ⟨_, τ1, rfl, rfl, RC_F g5 cs (cF_rf [] [] [] [] τ1) (by decide) (by decide) g5.2.2.2.2.2.1.1, gf1, hcA, hrA⟩

/-! the reference's loops that copy -/
theorem r_rem1 {τ0 : RS} : ∃ τ', f_rX12_remember_b2 τ0 0 = s_rX12_remember_b26 τ' ∧ cF [] [] [] [9] τ0 τ' ∧ (∀ k, k < 36 → rg_B τ' 9 k = rg_B τ0 1 k) ∧ (∀ k, 36 ≤ k → rg_B τ' 9 k = rg_B τ0 9 k) := by
  obtain ⟨τ', ⟨g1, g2, g3⟩, g4⟩ := lp_1 (z := fun _ _ => none) (F := s_rX12_remember_b2) (N := 36) (I := fun i τ => cF [] [] [] [9] τ0 τ ∧ (∀ k, k < i → rg_B τ 9 k = rg_B τ0 1 k) ∧ (∀ k, i ≤ k → rg_B τ 9 k = rg_B τ0 9 k)) (ex := fun τ => s_rX12_remember_b26 τ) (fun f τ i => f τ i)
    (fun k i τ hi hI => by
      obtain ⟨h1, h2, h3⟩ := hI
      refine ⟨rs_B τ 9 (vp_updL (rg_B τ 9) i (rg_B τ0 1 i)), ?_, cF_tr h1 (cF_B _ _ _ (by decide)), fun q hq => ?_, fun q hq => ?_⟩
      · show s_rX12_remember_b2 k τ (nI i) = _
        rw [s_rX12_remember_b2, if_neg (fun q => by have := (nI_leI (a := 36) (by decide) (by omega)).mp q; omega), ld_n (show i < 36 by omega) (by decide), st_n (show i < 36 by omega) (by decide), kn_v, nI_1, nI_clamp (show i < 2 ^ 31 by omega), h1.2.2.2 1 (by decide)]
      · rw [rg_BB, if_pos rfl]
        by_cases z : q = i
        · subst z; exact pk_uLs
        · rw [pk_uLn (by omega)]; exact h2 q (by omega)
      · rw [rg_BB, if_pos rfl, pk_uLn (by omega)]; exact h3 q (by omega))
    (fun k τ hI => by
      obtain ⟨h1, h2, h3⟩ := hI
      show s_rX12_remember_b2 k τ (nI 36) = _
      rw [s_rX12_remember_b2, if_pos (show (36 : Int32) ≤ nI 36 from (nI_leI (a := 36) (by decide) (by decide)).mpr (Nat.le_refl _))])
    FU 0 τ0 (Nat.zero_le _) (by unfold FU; omega) ⟨cF_rf _ _ _ _ _, fun k hk => absurd hk (Nat.not_lt_zero _), fun _ _ => rfl⟩
  rw [nI_0] at g4
  exact ⟨τ', g4, g1, g2, g3⟩
theorem r_rem2 {τ0 : RS} (hb : ∀ v, v < 12 → bit (rg_A τ0 4 v)) : ∃ τ', f_rX12_remember_b28 τ0 0 = some τ' ∧ cF [] [] [17] [] τ0 τ' ∧ (∀ k, k < 12 → rg_A τ' 17 k = rg_A τ0 4 k) ∧ (∀ k, 12 ≤ k → rg_A τ' 17 k = rg_A τ0 17 k) := by
  obtain ⟨τ', ⟨g1, g2, g3⟩, g4⟩ := lp_1 (z := fun _ _ => none) (F := s_rX12_remember_b28) (N := 12) (I := fun i τ => cF [] [] [17] [] τ0 τ ∧ (∀ k, k < i → rg_A τ 17 k = rg_A τ0 4 k) ∧ (∀ k, i ≤ k → rg_A τ 17 k = rg_A τ0 17 k)) (ex := fun τ => some τ) (fun f τ i => f τ i)
    (fun k i τ hi hI => by
      obtain ⟨h1, h2, h3⟩ := hI
      refine ⟨rs_A τ 17 (upd (rg_A τ 17) i (rg_A τ0 4 i)), ?_, cF_tr h1 (cF_A _ _ _ (by decide)), fun q hq => ?_, fun q hq => ?_⟩
      · show s_rX12_remember_b28 k τ (nI i) = _
        rw [s_rX12_remember_b28, if_neg (fun q => by have := (nI_leI (a := 12) (by decide) (by omega)).mp q; omega), ld_n (show i < 12 by omega) (by decide), st_n (show i < 12 by omega) (by decide), kn_v, nI_1, nI_clamp (show i < 2 ^ 31 by omega), h1.2.2.1 4 (by decide), nar_bit (hb i hi)]
      · rw [rg_AA, if_pos rfl]
        by_cases z : q = i
        · subst z; exact pk_us
        · rw [pk_un (by omega)]; exact h2 q (by omega)
      · rw [rg_AA, if_pos rfl, pk_un (by omega)]; exact h3 q (by omega))
    (fun k τ hI => by
      obtain ⟨h1, h2, h3⟩ := hI
      show s_rX12_remember_b28 k τ (nI 12) = _
      rw [s_rX12_remember_b28, if_pos (show (12 : Int32) ≤ nI 12 from (nI_leI (a := 12) (by decide) (by decide)).mpr (Nat.le_refl _))])
    FU 0 τ0 (Nat.zero_le _) (by unfold FU; omega) ⟨cF_rf _ _ _ _ _, fun k hk => absurd hk (Nat.not_lt_zero _), fun _ _ => rfl⟩
  rw [nI_0] at g4
  exact ⟨τ', g4, g1, g2, g3⟩
theorem r_asb1 {τ0 : RS} : ∃ τ', f_rX12_asBefore_b2 τ0 0 = s_rX12_asBefore_b26 τ' ∧ cF [] [] [] [1] τ0 τ' ∧ (∀ k, k < 36 → rg_B τ' 1 k = rg_B τ0 9 k) ∧ (∀ k, 36 ≤ k → rg_B τ' 1 k = rg_B τ0 1 k) := by
  obtain ⟨τ', ⟨g1, g2, g3⟩, g4⟩ := lp_1 (z := fun _ _ => none) (F := s_rX12_asBefore_b2) (N := 36) (I := fun i τ => cF [] [] [] [1] τ0 τ ∧ (∀ k, k < i → rg_B τ 1 k = rg_B τ0 9 k) ∧ (∀ k, i ≤ k → rg_B τ 1 k = rg_B τ0 1 k)) (ex := fun τ => s_rX12_asBefore_b26 τ) (fun f τ i => f τ i)
    (fun k i τ hi hI => by
      obtain ⟨h1, h2, h3⟩ := hI
      refine ⟨rs_B τ 1 (vp_updL (rg_B τ 1) i (rg_B τ0 9 i)), ?_, cF_tr h1 (cF_B _ _ _ (by decide)), fun q hq => ?_, fun q hq => ?_⟩
      · show s_rX12_asBefore_b2 k τ (nI i) = _
        rw [s_rX12_asBefore_b2, if_neg (fun q => by have := (nI_leI (a := 36) (by decide) (by omega)).mp q; omega), ld_n (show i < 36 by omega) (by decide), st_n (show i < 36 by omega) (by decide), kn_v, nI_1, nI_clamp (show i < 2 ^ 31 by omega), h1.2.2.2 9 (by decide)]
      · rw [rg_BB, if_pos rfl]
        by_cases z : q = i
        · subst z; exact pk_uLs
        · rw [pk_uLn (by omega)]; exact h2 q (by omega)
      · rw [rg_BB, if_pos rfl, pk_uLn (by omega)]; exact h3 q (by omega))
    (fun k τ hI => by
      obtain ⟨h1, h2, h3⟩ := hI
      show s_rX12_asBefore_b2 k τ (nI 36) = _
      rw [s_rX12_asBefore_b2, if_pos (show (36 : Int32) ≤ nI 36 from (nI_leI (a := 36) (by decide) (by decide)).mpr (Nat.le_refl _))])
    FU 0 τ0 (Nat.zero_le _) (by unfold FU; omega) ⟨cF_rf _ _ _ _ _, fun k hk => absurd hk (Nat.not_lt_zero _), fun _ _ => rfl⟩
  rw [nI_0] at g4
  exact ⟨τ', g4, g1, g2, g3⟩
theorem r_asb2 {τ0 : RS} (hb : ∀ v, v < 12 → bit (rg_A τ0 17 v)) : ∃ τ', f_rX12_asBefore_b28 τ0 0 = some τ' ∧ cF [] [] [4] [] τ0 τ' ∧ (∀ k, k < 12 → rg_A τ' 4 k = rg_A τ0 17 k) ∧ (∀ k, 12 ≤ k → rg_A τ' 4 k = rg_A τ0 4 k) := by
  obtain ⟨τ', ⟨g1, g2, g3⟩, g4⟩ := lp_1 (z := fun _ _ => none) (F := s_rX12_asBefore_b28) (N := 12) (I := fun i τ => cF [] [] [4] [] τ0 τ ∧ (∀ k, k < i → rg_A τ 4 k = rg_A τ0 17 k) ∧ (∀ k, i ≤ k → rg_A τ 4 k = rg_A τ0 4 k)) (ex := fun τ => some τ) (fun f τ i => f τ i)
    (fun k i τ hi hI => by
      obtain ⟨h1, h2, h3⟩ := hI
      refine ⟨rs_A τ 4 (upd (rg_A τ 4) i (rg_A τ0 17 i)), ?_, cF_tr h1 (cF_A _ _ _ (by decide)), fun q hq => ?_, fun q hq => ?_⟩
      · show s_rX12_asBefore_b28 k τ (nI i) = _
        rw [s_rX12_asBefore_b28, if_neg (fun q => by have := (nI_leI (a := 12) (by decide) (by omega)).mp q; omega), ld_n (show i < 12 by omega) (by decide), st_n (show i < 12 by omega) (by decide), kn_v, nI_1, nI_clamp (show i < 2 ^ 31 by omega), h1.2.2.1 17 (by decide), nar_bit (hb i hi)]
      · rw [rg_AA, if_pos rfl]
        by_cases z : q = i
        · subst z; exact pk_us
        · rw [pk_un (by omega)]; exact h2 q (by omega)
      · rw [rg_AA, if_pos rfl, pk_un (by omega)]; exact h3 q (by omega))
    (fun k τ hI => by
      obtain ⟨h1, h2, h3⟩ := hI
      show s_rX12_asBefore_b28 k τ (nI 12) = _
      rw [s_rX12_asBefore_b28, if_pos (show (12 : Int32) ≤ nI 12 from (nI_leI (a := 12) (by decide) (by decide)).mpr (Nat.le_refl _))])
    FU 0 τ0 (Nat.zero_le _) (by unfold FU; omega) ⟨cF_rf _ _ _ _ _, fun k hk => absurd hk (Nat.not_lt_zero _), fun _ _ => rfl⟩
  rw [nI_0] at g4
  exact ⟨τ', g4, g1, g2, g3⟩
theorem r_rd26 {τ0 : RS} : ∃ τ', f_rX12_round_b26 τ0 0 = s_rX12_round_b50 τ' ∧ cF [] [] [] [8] τ0 τ' ∧ (∀ k, k < 36 → rg_B τ' 8 k = rg_B τ0 1 k) ∧ (∀ k, 36 ≤ k → rg_B τ' 8 k = rg_B τ0 8 k) := by
  obtain ⟨τ', ⟨g1, g2, g3⟩, g4⟩ := lp_1 (z := fun _ _ => none) (F := s_rX12_round_b26) (N := 36) (I := fun i τ => cF [] [] [] [8] τ0 τ ∧ (∀ k, k < i → rg_B τ 8 k = rg_B τ0 1 k) ∧ (∀ k, i ≤ k → rg_B τ 8 k = rg_B τ0 8 k)) (ex := fun τ => s_rX12_round_b50 τ) (fun f τ i => f τ i)
    (fun k i τ hi hI => by
      obtain ⟨h1, h2, h3⟩ := hI
      refine ⟨rs_B τ 8 (vp_updL (rg_B τ 8) i (rg_B τ0 1 i)), ?_, cF_tr h1 (cF_B _ _ _ (by decide)), fun q hq => ?_, fun q hq => ?_⟩
      · show s_rX12_round_b26 k τ (nI i) = _
        rw [s_rX12_round_b26, if_neg (fun q => by have := (nI_leI (a := 36) (by decide) (by omega)).mp q; omega), ld_n (show i < 36 by omega) (by decide), st_n (show i < 36 by omega) (by decide), kn_v, nI_1, nI_clamp (show i < 2 ^ 31 by omega), h1.2.2.2 1 (by decide)]
      · rw [rg_BB, if_pos rfl]
        by_cases z : q = i
        · subst z; exact pk_uLs
        · rw [pk_uLn (by omega)]; exact h2 q (by omega)
      · rw [rg_BB, if_pos rfl, pk_uLn (by omega)]; exact h3 q (by omega))
    (fun k τ hI => by
      obtain ⟨h1, h2, h3⟩ := hI
      show s_rX12_round_b26 k τ (nI 36) = _
      rw [s_rX12_round_b26, if_pos (show (36 : Int32) ≤ nI 36 from (nI_leI (a := 36) (by decide) (by decide)).mpr (Nat.le_refl _))])
    FU 0 τ0 (Nat.zero_le _) (by unfold FU; omega) ⟨cF_rf _ _ _ _ _, fun k hk => absurd hk (Nat.not_lt_zero _), fun _ _ => rfl⟩
  rw [nI_0] at g4
  exact ⟨τ', g4, g1, g2, g3⟩
theorem r_rd125 {τ0 : RS} : ∃ τ', f_rX12_round_b125 τ0 0 = s_rX12_round_b149 τ' ∧ cF [] [] [] [1] τ0 τ' ∧ (∀ k, k < 36 → rg_B τ' 1 k = rg_B τ0 8 k) ∧ (∀ k, 36 ≤ k → rg_B τ' 1 k = rg_B τ0 1 k) := by
  obtain ⟨τ', ⟨g1, g2, g3⟩, g4⟩ := lp_1 (z := fun _ _ => none) (F := s_rX12_round_b125) (N := 36) (I := fun i τ => cF [] [] [] [1] τ0 τ ∧ (∀ k, k < i → rg_B τ 1 k = rg_B τ0 8 k) ∧ (∀ k, i ≤ k → rg_B τ 1 k = rg_B τ0 1 k)) (ex := fun τ => s_rX12_round_b149 τ) (fun f τ i => f τ i)
    (fun k i τ hi hI => by
      obtain ⟨h1, h2, h3⟩ := hI
      refine ⟨rs_B τ 1 (vp_updL (rg_B τ 1) i (rg_B τ0 8 i)), ?_, cF_tr h1 (cF_B _ _ _ (by decide)), fun q hq => ?_, fun q hq => ?_⟩
      · show s_rX12_round_b125 k τ (nI i) = _
        rw [s_rX12_round_b125, if_neg (fun q => by have := (nI_leI (a := 36) (by decide) (by omega)).mp q; omega), ld_n (show i < 36 by omega) (by decide), st_n (show i < 36 by omega) (by decide), kn_v, nI_1, nI_clamp (show i < 2 ^ 31 by omega), h1.2.2.2 8 (by decide)]
      · rw [rg_BB, if_pos rfl]
        by_cases z : q = i
        · subst z; exact pk_uLs
        · rw [pk_uLn (by omega)]; exact h2 q (by omega)
      · rw [rg_BB, if_pos rfl, pk_uLn (by omega)]; exact h3 q (by omega))
    (fun k τ hI => by
      obtain ⟨h1, h2, h3⟩ := hI
      show s_rX12_round_b125 k τ (nI 36) = _
      rw [s_rX12_round_b125, if_pos (show (36 : Int32) ≤ nI 36 from (nI_leI (a := 36) (by decide) (by decide)).mpr (Nat.le_refl _))])
    FU 0 τ0 (Nat.zero_le _) (by unfold FU; omega) ⟨cF_rf _ _ _ _ _, fun k hk => absurd hk (Nat.not_lt_zero _), fun _ _ => rfl⟩
  rw [nI_0] at g4
  exact ⟨τ', g4, g1, g2, g3⟩
theorem r_rd52 {τ0 : RS} {N : Nat} (hN12 : N ≤ 12) (hN : rg_I τ0 1 = nI N) (hb : ∀ v, v < N → bit (rg_A τ0 4 v)) : ∃ τ', f_rX12_round_b52 τ0 0 = s_rX12_round_b78 τ' ∧ cF [] [] [16] [] τ0 τ' ∧ (∀ k, k < N → rg_A τ' 16 k = rg_A τ0 4 k) ∧ (∀ k, N ≤ k → rg_A τ' 16 k = rg_A τ0 16 k) := by
  obtain ⟨τ', ⟨g1, g2, g3⟩, g4⟩ := lp_1 (z := fun _ _ => none) (F := s_rX12_round_b52) (N := N) (I := fun i τ => cF [] [] [16] [] τ0 τ ∧ (∀ k, k < i → rg_A τ 16 k = rg_A τ0 4 k) ∧ (∀ k, i ≤ k → rg_A τ 16 k = rg_A τ0 16 k)) (ex := fun τ => s_rX12_round_b78 τ) (fun f τ i => f τ i)
    (fun k i τ hi hI => by
      obtain ⟨h1, h2, h3⟩ := hI
      refine ⟨rs_A τ 16 (upd (rg_A τ 16) i (rg_A τ0 4 i)), ?_, cF_tr h1 (cF_A _ _ _ (by decide)), fun q hq => ?_, fun q hq => ?_⟩
      · show s_rX12_round_b52 k τ (nI i) = _
        rw [s_rX12_round_b52, h1.1 1 (by decide), hN, if_neg (fun q => by have := (nI_leI (by omega) (by omega)).mp q; omega), ld_n (show i < 12 by omega) (by decide), st_n (show i < 12 by omega) (by decide), kn_v, nI_1, nI_clamp (show i < 2 ^ 31 by omega), h1.2.2.1 4 (by decide), nar_bit (hb i hi)]
      · rw [rg_AA, if_pos rfl]
        by_cases z : q = i
        · subst z; exact pk_us
        · rw [pk_un (by omega)]; exact h2 q (by omega)
      · rw [rg_AA, if_pos rfl, pk_un (by omega)]; exact h3 q (by omega))
    (fun k τ hI => by
      obtain ⟨h1, h2, h3⟩ := hI
      show s_rX12_round_b52 k τ (nI N) = _
      rw [s_rX12_round_b52, h1.1 1 (by decide), hN, if_pos ((nI_leI (by omega) (by omega)).mpr (Nat.le_refl _))])
    FU 0 τ0 (Nat.zero_le _) (by unfold FU; omega) ⟨cF_rf _ _ _ _ _, fun k hk => absurd hk (Nat.not_lt_zero _), fun _ _ => rfl⟩
  rw [nI_0] at g4
  exact ⟨τ', g4, g1, g2, g3⟩
theorem r_rd151 {τ0 : RS} {N : Nat} (hN12 : N ≤ 12) (hN : rg_I τ0 1 = nI N) (hb : ∀ v, v < N → bit (rg_A τ0 16 v)) : ∃ τ', f_rX12_round_b151 τ0 0 = s_rX12_round_b177 τ' ∧ cF [] [] [4] [] τ0 τ' ∧ (∀ k, k < N → rg_A τ' 4 k = rg_A τ0 16 k) ∧ (∀ k, N ≤ k → rg_A τ' 4 k = rg_A τ0 4 k) := by
  obtain ⟨τ', ⟨g1, g2, g3⟩, g4⟩ := lp_1 (z := fun _ _ => none) (F := s_rX12_round_b151) (N := N) (I := fun i τ => cF [] [] [4] [] τ0 τ ∧ (∀ k, k < i → rg_A τ 4 k = rg_A τ0 16 k) ∧ (∀ k, i ≤ k → rg_A τ 4 k = rg_A τ0 4 k)) (ex := fun τ => s_rX12_round_b177 τ) (fun f τ i => f τ i)
    (fun k i τ hi hI => by
      obtain ⟨h1, h2, h3⟩ := hI
      refine ⟨rs_A τ 4 (upd (rg_A τ 4) i (rg_A τ0 16 i)), ?_, cF_tr h1 (cF_A _ _ _ (by decide)), fun q hq => ?_, fun q hq => ?_⟩
      · show s_rX12_round_b151 k τ (nI i) = _
        rw [s_rX12_round_b151, h1.1 1 (by decide), hN, if_neg (fun q => by have := (nI_leI (by omega) (by omega)).mp q; omega), ld_n (show i < 12 by omega) (by decide), st_n (show i < 12 by omega) (by decide), kn_v, nI_1, nI_clamp (show i < 2 ^ 31 by omega), h1.2.2.1 16 (by decide), nar_bit (hb i hi)]
      · rw [rg_AA, if_pos rfl]
        by_cases z : q = i
        · subst z; exact pk_us
        · rw [pk_un (by omega)]; exact h2 q (by omega)
      · rw [rg_AA, if_pos rfl, pk_un (by omega)]; exact h3 q (by omega))
    (fun k τ hI => by
      obtain ⟨h1, h2, h3⟩ := hI
      show s_rX12_round_b151 k τ (nI N) = _
      rw [s_rX12_round_b151, h1.1 1 (by decide), hN, if_pos ((nI_leI (by omega) (by omega)).mpr (Nat.le_refl _))])
    FU 0 τ0 (Nat.zero_le _) (by unfold FU; omega) ⟨cF_rf _ _ _ _ _, fun k hk => absurd hk (Nat.not_lt_zero _), fun _ _ => rfl⟩
  rw [nI_0] at g4
  exact ⟨τ', g4, g1, g2, g3⟩
theorem r_remember {τ : RS} (hb : ∀ v, v < 12 → bit (rg_A τ 4 v)) : ∃ τ', s_rX12_remember τ = some τ' ∧ cF [] [] [17] [9] τ τ' ∧ (∀ k, k < 36 → rg_B τ' 9 k = rg_B τ 1 k) ∧ (∀ v, v < 12 → rg_A τ' 17 v = rg_A τ 4 v) := by
  obtain ⟨τ1, a1, a2, a3, -⟩ := r_rem1 (τ0 := τ)
  obtain ⟨τ2, b1, b2, b3, -⟩ := r_rem2 (τ0 := τ1) (fun v hv => by rw [a2.2.2.1 4 (by decide)]; exact hb v hv)
  refine ⟨τ2, ?_, cF_tr (cF_mono a2 (by decide) (by decide) (by decide) (by decide)) (cF_mono b2 (by decide) (by decide) (by decide) (by decide)), fun k hk => ?_, fun v hv => ?_⟩
  · rw [s_rX12_remember, a1, s_rX12_remember_b26, b1]
  · rw [b2.2.2.2 9 (by decide)]; exact a3 k hk
  · rw [b3 v hv, a2.2.2.1 4 (by decide)]
theorem r_asBefore {τ : RS} (hb : ∀ v, v < 12 → bit (rg_A τ 17 v)) : ∃ τ', s_rX12_asBefore τ = some τ' ∧ cF [] [] [4] [1] τ τ' ∧ (∀ k, k < 36 → rg_B τ' 1 k = rg_B τ 9 k) ∧ (∀ k, 36 ≤ k → rg_B τ' 1 k = rg_B τ 1 k) ∧ (∀ v, v < 12 → rg_A τ' 4 v = rg_A τ 17 v) ∧ (∀ v, 12 ≤ v → rg_A τ' 4 v = rg_A τ 4 v) := by
  obtain ⟨τ1, a1, a2, a3, a4⟩ := r_asb1 (τ0 := τ)
  obtain ⟨τ2, b1, b2, b3, b4⟩ := r_asb2 (τ0 := τ1) (fun v hv => by rw [a2.2.2.1 17 (by decide)]; exact hb v hv)
  refine ⟨τ2, ?_, cF_tr (cF_mono a2 (by decide) (by decide) (by decide) (by decide)) (cF_mono b2 (by decide) (by decide) (by decide) (by decide)), fun k hk => ?_, fun k hk => ?_, fun v hv => ?_, fun v hv => ?_⟩
  · rw [s_rX12_asBefore, a1, s_rX12_asBefore_b26, b1]
  · rw [b2.2.2.2 1 (by decide)]; exact a3 k hk
  · rw [b2.2.2.2 1 (by decide)]; exact a4 k hk
  · rw [b3 v hv, a2.2.2.1 17 (by decide)]
  · rw [b4 v hv, a2.2.2.1 4 (by decide)]

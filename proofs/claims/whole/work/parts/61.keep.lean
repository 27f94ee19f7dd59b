/-! keep and undo of the reference, its shifts; the two pasts -/
theorem ix36 (a b : Nat) : 36 * nI a + nI b = nI (36 * a + b) := by rw [show (36 : Int32) = nI 36 from rfl, pk_mul, nI_add]
theorem ix12 (a b : Nat) : 12 * nI a + nI b = nI (12 * a + b) := by rw [show (12 : Int32) = nI 12 from rfl, pk_mul, nI_add]
theorem ix36s (a b : Nat) : 36 * nI a + 36 + nI b = nI (36 * a + 36 + b) := by rw [show (36 : Int32) = nI 36 from rfl, pk_mul, nI_add, nI_add]
theorem ix12s (a b : Nat) : 12 * nI a + 12 + nI b = nI (12 * a + 12 + b) := by rw [show (12 : Int32) = nI 12 from rfl, pk_mul, nI_add, nI_add]
theorem r_kp162 {τ0 : RS} {x1 : Int64} {x3 : Int32} {K : Nat} (hK : K < 6) (hK7 : rg_I τ0 7 = nI K) : ∃ τ', f_rX12_keep_b162 τ0 x1 x3 0 = s_rX12_keep_b197 τ' x1 x3 ∧ cF [] [] [] [3] τ0 τ' ∧ (∀ k, k < 36 → rg_B τ' 3 (36 * K + k) = rg_B τ0 9 (k)) ∧ (∀ k, (k < 36 * K ∨ 36 * K + 36 ≤ k) → rg_B τ' 3 k = rg_B τ0 3 k) := by
  obtain ⟨τ', ⟨g1, g2, g3⟩, g4⟩ := lp_1 (z := fun _ _ _ _ => none) (F := s_rX12_keep_b162) (N := 36) (I := fun i τ => cF [] [] [] [3] τ0 τ ∧ (∀ k, k < i → rg_B τ 3 (36 * K + k) = rg_B τ0 9 (k)) ∧ (∀ k, (k < 36 * K ∨ 36 * K + i ≤ k) → rg_B τ 3 k = rg_B τ0 3 k)) (ex := fun τ => s_rX12_keep_b197 τ x1 x3) (fun f τ i => f τ x1 x3 i)
    (fun k i τ hi hI => by
      obtain ⟨h1, h2, h3⟩ := hI
      refine ⟨rs_B τ 3 (vp_updL (rg_B τ 3) (36 * K + i) (rg_B τ0 9 (i))), ?_, cF_tr h1 (cF_B _ _ _ (by decide)), fun q hq => ?_, fun q hq => ?_⟩
      · show s_rX12_keep_b162 k τ x1 x3 (nI i) = _
        rw [s_rX12_keep_b162, if_neg (fun q => by have := (nI_leI (a := 36) (by decide) (by omega)).mp q; omega), h1.1 7 (by decide), hK7, ix36, ld_n (show i < 36 by omega) (by decide), st_n (show 36 * K + i < 216 by omega) (by decide), kn_v, nI_1, nI_clamp (show 36 * K + i < 2 ^ 31 by omega), h1.2.2.2 9 (by decide)]
      · rw [rg_BB, if_pos rfl]
        by_cases z : q = i
        · subst z; exact pk_uLs
        · rw [pk_uLn (by omega)]; exact h2 q (by omega)
      · rw [rg_BB, if_pos rfl, pk_uLn (by omega)]; exact h3 q (by omega))
    (fun k τ hI => by
      show s_rX12_keep_b162 k τ x1 x3 (nI 36) = _
      rw [s_rX12_keep_b162, if_pos (show (36 : Int32) ≤ nI 36 from (nI_leI (a := 36) (by decide) (by decide)).mpr (Nat.le_refl _))])
    FU 0 τ0 (Nat.zero_le _) (by unfold FU; omega) ⟨cF_rf _ _ _ _ _, fun k hk => absurd hk (Nat.not_lt_zero _), fun _ _ => rfl⟩
  rw [nI_0] at g4
  exact ⟨τ', g4, g1, g2, g3⟩
theorem r_kp200 {τ0 : RS} {x1 : Int64} {x3 : Int32} {K : Nat} (hK : K < 6) (hK7 : rg_I τ0 7 = nI K) (hb : ∀ v, v < 12 → bit (rg_A τ0 17 (v))) : ∃ τ', f_rX12_keep_b200 τ0 x1 x3 0 = s_rX12_keep_b235 τ' x1 x3 ∧ cF [] [] [9] [] τ0 τ' ∧ (∀ k, k < 12 → rg_A τ' 9 (12 * K + k) = rg_A τ0 17 (k)) ∧ (∀ k, (k < 12 * K ∨ 12 * K + 12 ≤ k) → rg_A τ' 9 k = rg_A τ0 9 k) := by
  obtain ⟨τ', ⟨g1, g2, g3⟩, g4⟩ := lp_1 (z := fun _ _ _ _ => none) (F := s_rX12_keep_b200) (N := 12) (I := fun i τ => cF [] [] [9] [] τ0 τ ∧ (∀ k, k < i → rg_A τ 9 (12 * K + k) = rg_A τ0 17 (k)) ∧ (∀ k, (k < 12 * K ∨ 12 * K + i ≤ k) → rg_A τ 9 k = rg_A τ0 9 k)) (ex := fun τ => s_rX12_keep_b235 τ x1 x3) (fun f τ i => f τ x1 x3 i)
    (fun k i τ hi hI => by
      obtain ⟨h1, h2, h3⟩ := hI
      refine ⟨rs_A τ 9 (upd (rg_A τ 9) (12 * K + i) (rg_A τ0 17 (i))), ?_, cF_tr h1 (cF_A _ _ _ (by decide)), fun q hq => ?_, fun q hq => ?_⟩
      · show s_rX12_keep_b200 k τ x1 x3 (nI i) = _
        rw [s_rX12_keep_b200, if_neg (fun q => by have := (nI_leI (a := 12) (by decide) (by omega)).mp q; omega), h1.1 7 (by decide), hK7, ix12, ld_n (show i < 12 by omega) (by decide), st_n (show 12 * K + i < 72 by omega) (by decide), kn_v, nI_1, nI_clamp (show 12 * K + i < 2 ^ 31 by omega), h1.2.2.1 17 (by decide), nar_bit (hb i hi)]
      · rw [rg_AA, if_pos rfl]
        by_cases z : q = i
        · subst z; exact pk_us
        · rw [pk_un (by omega)]; exact h2 q (by omega)
      · rw [rg_AA, if_pos rfl, pk_un (by omega)]; exact h3 q (by omega))
    (fun k τ hI => by
      show s_rX12_keep_b200 k τ x1 x3 (nI 12) = _
      rw [s_rX12_keep_b200, if_pos (show (12 : Int32) ≤ nI 12 from (nI_leI (a := 12) (by decide) (by decide)).mpr (Nat.le_refl _))])
    FU 0 τ0 (Nat.zero_le _) (by unfold FU; omega) ⟨cF_rf _ _ _ _ _, fun k hk => absurd hk (Nat.not_lt_zero _), fun _ _ => rfl⟩
  rw [nI_0] at g4
  exact ⟨τ', g4, g1, g2, g3⟩
theorem r_un21 {τ0 : RS} {K : Nat} (hK : K < 6) (hK7 : rg_I τ0 7 = nI K) : ∃ τ', f_rX12_undo_b21 τ0 0 = s_rX12_undo_b53 τ' ∧ cF [] [] [] [1] τ0 τ' ∧ (∀ k, k < 36 → rg_B τ' 1 (k) = rg_B τ0 3 (36 * K + k)) ∧ (∀ k, 36 ≤ k → rg_B τ' 1 k = rg_B τ0 1 k) := by
  obtain ⟨τ', ⟨g1, g2, g3⟩, g4⟩ := lp_1 (z := fun _ _ => none) (F := s_rX12_undo_b21) (N := 36) (I := fun i τ => cF [] [] [] [1] τ0 τ ∧ (∀ k, k < i → rg_B τ 1 (k) = rg_B τ0 3 (36 * K + k)) ∧ (∀ k, i ≤ k → rg_B τ 1 k = rg_B τ0 1 k)) (ex := fun τ => s_rX12_undo_b53 τ) (fun f τ i => f τ i)
    (fun k i τ hi hI => by
      obtain ⟨h1, h2, h3⟩ := hI
      refine ⟨rs_B τ 1 (vp_updL (rg_B τ 1) (i) (rg_B τ0 3 (36 * K + i))), ?_, cF_tr h1 (cF_B _ _ _ (by decide)), fun q hq => ?_, fun q hq => ?_⟩
      · show s_rX12_undo_b21 k τ (nI i) = _
        rw [s_rX12_undo_b21, if_neg (fun q => by have := (nI_leI (a := 36) (by decide) (by omega)).mp q; omega), h1.1 7 (by decide), hK7, ix36, ld_n (show 36 * K + i < 216 by omega) (by decide), st_n (show i < 36 by omega) (by decide), kn_v, nI_1, nI_clamp (show i < 2 ^ 31 by omega), h1.2.2.2 3 (by decide)]
      · rw [rg_BB, if_pos rfl]
        by_cases z : q = i
        · subst z; exact pk_uLs
        · rw [pk_uLn (by omega)]; exact h2 q (by omega)
      · rw [rg_BB, if_pos rfl, pk_uLn (by omega)]; exact h3 q (by omega))
    (fun k τ hI => by
      show s_rX12_undo_b21 k τ (nI 36) = _
      rw [s_rX12_undo_b21, if_pos (show (36 : Int32) ≤ nI 36 from (nI_leI (a := 36) (by decide) (by decide)).mpr (Nat.le_refl _))])
    FU 0 τ0 (Nat.zero_le _) (by unfold FU; omega) ⟨cF_rf _ _ _ _ _, fun k hk => absurd hk (Nat.not_lt_zero _), fun _ _ => rfl⟩
  rw [nI_0] at g4
  exact ⟨τ', g4, g1, g2, g3⟩
theorem r_un55 {τ0 : RS} {K : Nat} (hK : K < 6) (hK7 : rg_I τ0 7 = nI K) (hb : ∀ v, v < 12 → bit (rg_A τ0 9 (12 * K + v))) : ∃ τ', f_rX12_undo_b55 τ0 0 = s_rX12_undo_b87 τ' ∧ cF [] [] [4] [] τ0 τ' ∧ (∀ k, k < 12 → rg_A τ' 4 (k) = rg_A τ0 9 (12 * K + k)) ∧ (∀ k, 12 ≤ k → rg_A τ' 4 k = rg_A τ0 4 k) := by
  obtain ⟨τ', ⟨g1, g2, g3⟩, g4⟩ := lp_1 (z := fun _ _ => none) (F := s_rX12_undo_b55) (N := 12) (I := fun i τ => cF [] [] [4] [] τ0 τ ∧ (∀ k, k < i → rg_A τ 4 (k) = rg_A τ0 9 (12 * K + k)) ∧ (∀ k, i ≤ k → rg_A τ 4 k = rg_A τ0 4 k)) (ex := fun τ => s_rX12_undo_b87 τ) (fun f τ i => f τ i)
    (fun k i τ hi hI => by
      obtain ⟨h1, h2, h3⟩ := hI
      refine ⟨rs_A τ 4 (upd (rg_A τ 4) (i) (rg_A τ0 9 (12 * K + i))), ?_, cF_tr h1 (cF_A _ _ _ (by decide)), fun q hq => ?_, fun q hq => ?_⟩
      · show s_rX12_undo_b55 k τ (nI i) = _
        rw [s_rX12_undo_b55, if_neg (fun q => by have := (nI_leI (a := 12) (by decide) (by omega)).mp q; omega), h1.1 7 (by decide), hK7, ix12, ld_n (show 12 * K + i < 72 by omega) (by decide), st_n (show i < 12 by omega) (by decide), kn_v, nI_1, nI_clamp (show i < 2 ^ 31 by omega), h1.2.2.1 9 (by decide), nar_bit (hb i hi)]
      · rw [rg_AA, if_pos rfl]
        by_cases z : q = i
        · subst z; exact pk_us
        · rw [pk_un (by omega)]; exact h2 q (by omega)
      · rw [rg_AA, if_pos rfl, pk_un (by omega)]; exact h3 q (by omega))
    (fun k τ hI => by
      show s_rX12_undo_b55 k τ (nI 12) = _
      rw [s_rX12_undo_b55, if_pos (show (12 : Int32) ≤ nI 12 from (nI_leI (a := 12) (by decide) (by decide)).mpr (Nat.le_refl _))])
    FU 0 τ0 (Nat.zero_le _) (by unfold FU; omega) ⟨cF_rf _ _ _ _ _, fun k hk => absurd hk (Nat.not_lt_zero _), fun _ _ => rfl⟩
  rw [nI_0] at g4
  exact ⟨τ', g4, g1, g2, g3⟩
theorem r_sh24 {τ0 : RS} {k12 : RS → Int64 → Int32 → Int32 → Option (RS)} {x1 : Int64} {x3 : Int32} {b : Nat} (hb5 : b < 5) : ∃ τ', f_rX12_keep_b24 k12 τ0 x1 x3 (nI b) 0 = s_rX12_keep_b66 k12 τ' x1 x3 (nI b) ∧ cF [] [] [] [3] τ0 τ' ∧ (∀ k, k < 36 → rg_B τ' 3 (36 * b + k) = rg_B τ0 3 (36 * b + 36 + k)) ∧ (∀ k, (k < 36 * b ∨ 36 * b + 36 ≤ k) → rg_B τ' 3 k = rg_B τ0 3 k) := by
  obtain ⟨τ', ⟨g1, g2, g3⟩, g4⟩ := lp_1 (z := fun _ _ _ _ _ => none) (F := s_rX12_keep_b24 k12) (N := 36) (I := fun i τ => cF [] [] [] [3] τ0 τ ∧ (∀ k, k < i → rg_B τ 3 (36 * b + k) = rg_B τ0 3 (36 * b + 36 + k)) ∧ (∀ k, (k < 36 * b ∨ 36 * b + i ≤ k) → rg_B τ 3 k = rg_B τ0 3 k)) (ex := fun τ => s_rX12_keep_b66 k12 τ x1 x3 (nI b)) (fun f τ i => f τ x1 x3 (nI b) i)
    (fun k i τ hi hI => by
      obtain ⟨h1, h2, h3⟩ := hI
      refine ⟨rs_B τ 3 (vp_updL (rg_B τ 3) (36 * b + i) (rg_B τ0 3 (36 * b + 36 + i))), ?_, cF_tr h1 (cF_B _ _ _ (by decide)), fun q hq => ?_, fun q hq => ?_⟩
      · show s_rX12_keep_b24 k12 k τ x1 x3 (nI b) (nI i) = _
        rw [s_rX12_keep_b24, if_neg (fun q => by have := (nI_leI (a := 36) (by decide) (by omega)).mp q; omega), ix36s, ix36, ld_n (show 36 * b + 36 + i < 216 by omega) (by decide), st_n (show 36 * b + i < 216 by omega) (by decide), kn_v, nI_1, nI_clamp (show 36 * b + i < 2 ^ 31 by omega), h3 (36 * b + 36 + i) (Or.inr (by omega))]
      · rw [rg_BB, if_pos rfl]
        by_cases z : q = i
        · subst z; exact pk_uLs
        · rw [pk_uLn (by omega)]; exact h2 q (by omega)
      · rw [rg_BB, if_pos rfl, pk_uLn (by omega)]; exact h3 q (by omega))
    (fun k τ hI => by
      show s_rX12_keep_b24 k12 k τ x1 x3 (nI b) (nI 36) = _
      rw [s_rX12_keep_b24, if_pos (show (36 : Int32) ≤ nI 36 from (nI_leI (a := 36) (by decide) (by decide)).mpr (Nat.le_refl _))])
    FU 0 τ0 (Nat.zero_le _) (by unfold FU; omega) ⟨cF_rf _ _ _ _ _, fun k hk => absurd hk (Nat.not_lt_zero _), fun _ _ => rfl⟩
  rw [nI_0] at g4
  exact ⟨τ', g4, g1, g2, g3⟩
theorem r_sh69 {τ0 : RS} {k12 : RS → Int64 → Int32 → Int32 → Option (RS)} {x1 : Int64} {x3 : Int32} {b : Nat} (hb5 : b < 5) (hb : ∀ v, v < 12 → bit (rg_A τ0 9 (12 * b + 12 + v))) : ∃ τ', f_rX12_keep_b69 k12 τ0 x1 x3 (nI b) 0 = s_rX12_keep_b111 k12 τ' x1 x3 (nI b) ∧ cF [] [] [9] [] τ0 τ' ∧ (∀ k, k < 12 → rg_A τ' 9 (12 * b + k) = rg_A τ0 9 (12 * b + 12 + k)) ∧ (∀ k, (k < 12 * b ∨ 12 * b + 12 ≤ k) → rg_A τ' 9 k = rg_A τ0 9 k) := by
  obtain ⟨τ', ⟨g1, g2, g3⟩, g4⟩ := lp_1 (z := fun _ _ _ _ _ => none) (F := s_rX12_keep_b69 k12) (N := 12) (I := fun i τ => cF [] [] [9] [] τ0 τ ∧ (∀ k, k < i → rg_A τ 9 (12 * b + k) = rg_A τ0 9 (12 * b + 12 + k)) ∧ (∀ k, (k < 12 * b ∨ 12 * b + i ≤ k) → rg_A τ 9 k = rg_A τ0 9 k)) (ex := fun τ => s_rX12_keep_b111 k12 τ x1 x3 (nI b)) (fun f τ i => f τ x1 x3 (nI b) i)
    (fun k i τ hi hI => by
      obtain ⟨h1, h2, h3⟩ := hI
      refine ⟨rs_A τ 9 (upd (rg_A τ 9) (12 * b + i) (rg_A τ0 9 (12 * b + 12 + i))), ?_, cF_tr h1 (cF_A _ _ _ (by decide)), fun q hq => ?_, fun q hq => ?_⟩
      · show s_rX12_keep_b69 k12 k τ x1 x3 (nI b) (nI i) = _
        rw [s_rX12_keep_b69, if_neg (fun q => by have := (nI_leI (a := 12) (by decide) (by omega)).mp q; omega), ix12s, ix12, ld_n (show 12 * b + 12 + i < 72 by omega) (by decide), st_n (show 12 * b + i < 72 by omega) (by decide), kn_v, nI_1, nI_clamp (show 12 * b + i < 2 ^ 31 by omega), h3 (12 * b + 12 + i) (Or.inr (by omega)), nar_bit (hb i hi)]
      · rw [rg_AA, if_pos rfl]
        by_cases z : q = i
        · subst z; exact pk_us
        · rw [pk_un (by omega)]; exact h2 q (by omega)
      · rw [rg_AA, if_pos rfl, pk_un (by omega)]; exact h3 q (by omega))
    (fun k τ hI => by
      show s_rX12_keep_b69 k12 k τ x1 x3 (nI b) (nI 12) = _
      rw [s_rX12_keep_b69, if_pos (show (12 : Int32) ≤ nI 12 from (nI_leI (a := 12) (by decide) (by decide)).mpr (Nat.le_refl _))])
    FU 0 τ0 (Nat.zero_le _) (by unfold FU; omega) ⟨cF_rf _ _ _ _ _, fun k hk => absurd hk (Nat.not_lt_zero _), fun _ _ => rfl⟩
  rw [nI_0] at g4
  exact ⟨τ', g4, g1, g2, g3⟩
/-- one place of the reference's past goes down -/
theorem r_sh1 {τ : RS} {k12 : RS → Int64 → Int32 → Int32 → Option RS} {x1 : Int64} {x3 : Int32} {b : Nat} (hb5 : b < 5) (hb : ∀ v, v < 12 → bit (rg_A τ 9 (12 * b + 12 + v))) : ∃ τ', s_rX12_keep_b12 k12 τ x1 x3 (nI b) = k12 τ' x1 x3 (nI (b + 1)) ∧ cF [] [] [9, 10] [3, 4] τ τ' ∧ (∀ k, k < 36 → rg_B τ' 3 (36 * b + k) = rg_B τ 3 (36 * b + 36 + k)) ∧ (∀ k, (k < 36 * b ∨ 36 * b + 36 ≤ k) → rg_B τ' 3 k = rg_B τ 3 k) ∧ (∀ k, k < 12 → rg_A τ' 9 (12 * b + k) = rg_A τ 9 (12 * b + 12 + k)) ∧ (∀ k, (k < 12 * b ∨ 12 * b + 12 ≤ k) → rg_A τ' 9 k = rg_A τ 9 k) ∧ rg_B τ' 4 b = rg_B τ 4 (b + 1) ∧ (∀ k, k ≠ b → rg_B τ' 4 k = rg_B τ 4 k) ∧ rg_A τ' 10 b = rg_A τ 10 (b + 1) ∧ (∀ k, k ≠ b → rg_A τ' 10 k = rg_A τ 10 k) := by
  rw [s_rX12_keep_b12, nI_1, if_neg (show ¬ (6 : Int32) ≤ nI (b + 1) from fun q => by have := (nI_leI (a := 6) (by decide) (by omega)).mp q; omega)]
  obtain ⟨τ1, a1, a2, a3, a4⟩ := r_sh24 (τ0 := τ) (k12 := k12) (x1 := x1) (x3 := x3) hb5
  rw [a1, s_rX12_keep_b66]
  obtain ⟨τ2, b1, b2, b3, b4⟩ := r_sh69 (τ0 := τ1) (k12 := k12) (x1 := x1) (x3 := x3) hb5 (fun v hv => by rw [a2.2.2.1 9 (by decide)]; exact hb v hv)
  rw [b1, s_rX12_keep_b111, nI_1, ld_n (show b + 1 < 6 by omega) (by decide), st_n (show b < 6 by omega) (by decide), ld_n (show b + 1 < 6 by omega) (by decide), st_n (show b < 6 by omega) (by decide), kn_v, nI_clamp (show b < 2 ^ 31 by omega)]
  refine ⟨_, rfl, cF_tr (cF_mono a2 (by decide) (by decide) (by decide) (by decide)) (cF_tr (cF_mono b2 (by decide) (by decide) (by decide) (by decide)) (cF_tr (cF_B _ _ _ (by decide)) (cF_A _ _ _ (by decide)))), ?_, ?_, ?_, ?_, ?_, ?_, ?_, ?_⟩
  · intro k hk
    show rg_B τ2 3 _ = _
    rw [b2.2.2.2 3 (by decide)]; exact a3 k hk
  · intro k hk
    show rg_B τ2 3 _ = _
    rw [b2.2.2.2 3 (by decide)]; exact a4 k hk
  · intro k hk
    show rg_A τ2 9 _ = _
    rw [b3 k hk, a2.2.2.1 9 (by decide)]
  · intro k hk
    show rg_A τ2 9 _ = _
    rw [b4 k hk, a2.2.2.1 9 (by decide)]
  · show vp_updL (rg_B τ2 4) b (rg_B τ2 4 (b + 1)) b = _
    rw [pk_uLs, b2.2.2.2 4 (by decide), a2.2.2.2 4 (by decide)]
  · intro k hk
    show vp_updL (rg_B τ2 4) b (rg_B τ2 4 (b + 1)) k = _
    rw [pk_uLn hk, b2.2.2.2 4 (by decide), a2.2.2.2 4 (by decide)]
  · show upd (rg_A τ2 10) b (rg_A τ2 10 (b + 1)) b = _
    rw [pk_us, b2.2.2.1 10 (by decide), a2.2.2.1 10 (by decide)]
  · intro k hk
    show upd (rg_A τ2 10) b (rg_A τ2 10 (b + 1)) k = _
    rw [pk_un hk, b2.2.2.1 10 (by decide), a2.2.2.1 10 (by decide)]
/-- all five go down -/
theorem r_shift {τ : RS} {x1 : Int64} {x3 : Int32} (hb : ∀ v, v < 72 → bit (rg_A τ 9 v)) : ∃ τ', f_rX12_keep_b12 τ x1 x3 0 = s_rX12_keep_b149 τ' x1 x3 ∧ cF [] [] [9, 10] [3, 4] τ τ' ∧ (∀ b, b < 5 → (∀ k, k < 36 → rg_B τ' 3 (36 * b + k) = rg_B τ 3 (36 * (b + 1) + k)) ∧ (∀ v, v < 12 → rg_A τ' 9 (12 * b + v) = rg_A τ 9 (12 * (b + 1) + v)) ∧ rg_B τ' 4 b = rg_B τ 4 (b + 1) ∧ rg_A τ' 10 b = rg_A τ 10 (b + 1)) ∧ (∀ v, v < 72 → bit (rg_A τ' 9 v)) := by
  obtain ⟨τ', ⟨g1, g2, g3, g5⟩, g4⟩ := lp_1 (z := fun _ _ _ _ => none) (F := s_rX12_keep_b12) (N := 5) (I := fun i t => cF [] [] [9, 10] [3, 4] τ t ∧ (∀ b, b < i → (∀ k, k < 36 → rg_B t 3 (36 * b + k) = rg_B τ 3 (36 * (b + 1) + k)) ∧ (∀ v, v < 12 → rg_A t 9 (12 * b + v) = rg_A τ 9 (12 * (b + 1) + v)) ∧ rg_B t 4 b = rg_B τ 4 (b + 1) ∧ rg_A t 10 b = rg_A τ 10 (b + 1)) ∧ ((∀ k, 36 * i ≤ k → rg_B t 3 k = rg_B τ 3 k) ∧ (∀ k, 12 * i ≤ k → rg_A t 9 k = rg_A τ 9 k) ∧ (∀ k, i ≤ k → rg_B t 4 k = rg_B τ 4 k) ∧ (∀ k, i ≤ k → rg_A t 10 k = rg_A τ 10 k)) ∧ (∀ v, v < 72 → bit (rg_A t 9 v))) (ex := fun t => s_rX12_keep_b149 t x1 x3) (fun f t i => f t x1 x3 i)
    (fun k i t hi hI => by
      obtain ⟨h1, h2, ⟨h3, h4, h5, h6⟩, h7⟩ := hI
      obtain ⟨t', q1, q2, q3, q4, q5, q6, q7, q8, q9, q10⟩ := r_sh1 (τ := t) (k12 := k) (x1 := x1) (x3 := x3) hi (fun v hv => h7 _ (by omega))
      refine ⟨t', q1, cF_tr h1 q2, fun b hbi => ?_, ⟨fun x hx => ?_, fun x hx => ?_, fun x hx => ?_, fun x hx => ?_⟩, fun v hv => ?_⟩
      · by_cases z : b = i
        · subst z
          refine ⟨fun x hx => ?_, fun v hv => ?_, ?_, ?_⟩
          · rw [q3 x hx, h3 _ (by omega), show 36 * b + 36 + x = 36 * (b + 1) + x by omega]
          · rw [q5 v hv, h4 _ (by omega), show 12 * b + 12 + v = 12 * (b + 1) + v by omega]
          · rw [q7, h5 _ (by omega)]
          · rw [q9, h6 _ (by omega)]
        · obtain ⟨p1, p2, p3, p4⟩ := h2 b (by omega)
          refine ⟨fun x hx => ?_, fun v hv => ?_, ?_, ?_⟩
          · rw [q4 _ (by omega)]; exact p1 x hx
          · rw [q6 _ (by omega)]; exact p2 v hv
          · rw [q8 _ z]; exact p3
          · rw [q10 _ z]; exact p4
      · rw [q4 _ (by omega)]; exact h3 x (by omega)
      · rw [q6 _ (by omega)]; exact h4 x (by omega)
      · rw [q8 _ (by omega)]; exact h5 x (by omega)
      · rw [q10 _ (by omega)]; exact h6 x (by omega)
      · by_cases z : v < 12 * i ∨ 12 * i + 12 ≤ v
        · rw [q6 v z]; exact h7 v hv
        · have e1 := q5 (v - 12 * i) (by omega)
          rw [show 12 * i + (v - 12 * i) = v by omega] at e1
          rw [e1]; exact h7 _ (by omega))
    (fun k t hI => by
      show s_rX12_keep_b12 k t x1 x3 (nI 5) = _
      rw [s_rX12_keep_b12, if_pos (by decide)])
    FU 0 τ (Nat.zero_le _) (by unfold FU; omega) ⟨cF_rf _ _ _ _ _, fun b h => absurd h (Nat.not_lt_zero _), ⟨fun _ _ => rfl, fun _ _ => rfl, fun _ _ => rfl, fun _ _ => rfl⟩, hb⟩
  rw [nI_0] at g4
  exact ⟨τ', g4, g1, g2, g5⟩
/-- a place of the past is written -/
theorem r_kwrite {τ : RS} {x1 : Int64} {x3 : Int32} {K : Nat} (hK : K < 6) (hK7 : rg_I τ 7 = nI K) (hb : ∀ v, v < 12 → bit (rg_A τ 17 v)) : ∃ τ', s_rX12_keep_b159 τ x1 x3 = some τ' ∧ cF [7] [] [9, 10] [3, 4] τ τ' ∧ rg_I τ' 7 = nI (K + 1) ∧ (∀ k, k < 36 → rg_B τ' 3 (36 * K + k) = rg_B τ 9 k) ∧ (∀ k, (k < 36 * K ∨ 36 * K + 36 ≤ k) → rg_B τ' 3 k = rg_B τ 3 k) ∧ (∀ v, v < 12 → rg_A τ' 9 (12 * K + v) = rg_A τ 17 v) ∧ (∀ k, (k < 12 * K ∨ 12 * K + 12 ≤ k) → rg_A τ' 9 k = rg_A τ 9 k) ∧ rg_B τ' 4 K = x1 ∧ (∀ k, k ≠ K → rg_B τ' 4 k = rg_B τ 4 k) ∧ rg_A τ' 10 K = x3 ∧ (∀ k, k ≠ K → rg_A τ' 10 k = rg_A τ 10 k) := by
  obtain ⟨τ1, a1, a2, a3, a4⟩ := r_kp162 (τ0 := τ) (x1 := x1) (x3 := x3) hK hK7
  obtain ⟨τ2, b1, b2, b3, b4⟩ := r_kp200 (τ0 := τ1) (x1 := x1) (x3 := x3) hK (by rw [a2.1 7 (by decide)]; exact hK7) (fun v hv => by rw [a2.2.2.1 17 (by decide)]; exact hb v hv)
  have e7 : rg_I τ2 7 = nI K := by rw [b2.1 7 (by decide), a2.1 7 (by decide)]; exact hK7
  rw [s_rX12_keep_b159, a1, s_rX12_keep_b197, b1, s_rX12_keep_b235, e7, st_n (show K < 6 by omega) (by decide), nI_clamp (show K < 2 ^ 31 by omega), show rg_I (rs_B τ2 4 (vp_updL (rg_B τ2 4) K x1)) 7 = nI K from e7, st_n (show K < 6 by omega) (by decide), kn_v, nI_clamp (show K < 2 ^ 31 by omega), show rg_I (rs_A (rs_B τ2 4 (vp_updL (rg_B τ2 4) K x1)) 10 (upd (rg_A (rs_B τ2 4 (vp_updL (rg_B τ2 4) K x1)) 10) K x3)) 7 = nI K from e7, nI_1]
  refine ⟨_, rfl, cF_tr (cF_mono a2 (by decide) (by decide) (by decide) (by decide)) (cF_tr (cF_mono b2 (by decide) (by decide) (by decide) (by decide)) (cF_tr (cF_B _ _ _ (by decide)) (cF_tr (cF_A _ _ _ (by decide)) (cF_I _ _ _ (by decide))))), rfl, ?_, ?_, ?_, ?_, ?_, ?_, ?_, ?_⟩
  · intro k hk
    show rg_B τ2 3 _ = _
    rw [b2.2.2.2 3 (by decide)]; exact a3 k hk
  · intro k hk
    show rg_B τ2 3 _ = _
    rw [b2.2.2.2 3 (by decide)]; exact a4 k hk
  · intro v hv
    show rg_A τ2 9 _ = _
    rw [b3 v hv, a2.2.2.1 17 (by decide)]
  · intro k hk
    show rg_A τ2 9 _ = _
    rw [b4 k hk, a2.2.2.1 9 (by decide)]
  · exact pk_uLs
  · intro k hk
    show vp_updL (rg_B τ2 4) K x1 k = _
    rw [pk_uLn hk, b2.2.2.2 4 (by decide), a2.2.2.2 4 (by decide)]
  · exact pk_us
  · intro k hk
    show upd (rg_A τ2 10) K x3 k = _
    rw [pk_un hk, b2.2.2.1 10 (by decide), a2.2.2.1 10 (by decide)]

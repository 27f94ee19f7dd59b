/-! loops that only go on; the class's memories -/
theorem lp_1 {α β : Type} {z : α} {F : α → α} {N : Nat} {I : Nat → RS → Prop} {ex : RS → Option β} (ap : α → RS → Int32 → Option β) (hs : ∀ (k : α) (i : Nat) (σ : RS), i < N → I i σ → ∃ σ', ap (F k) σ (nI i) = ap k σ' (nI (i + 1)) ∧ I (i + 1) σ') (he : ∀ (k : α) (σ : RS), I N σ → ap (F k) σ (nI N) = ex σ) :
    ∀ (n i : Nat) (σ : RS), i ≤ N → N - i < n → I i σ → ∃ σ', I N σ' ∧ ap (kn_fix z F n) σ (nI i) = ex σ'
  | 0, i, σ, h1, h2, h => absurd h2 (Nat.not_lt_zero _)
  | n + 1, i, σ, h1, h2, h => by
    rw [kn_fix_s]
    by_cases c : i = N
    · subst c
      exact ⟨σ, h, he _ _ h⟩
    · obtain ⟨σ', g1, g2⟩ := hs (kn_fix z F n) i σ (by omega) h
      rw [g1]
      exact lp_1 ap hs he n (i + 1) σ' (by omega) (by omega) g2
def bit (x : Int32) : Prop := x = 0 ∨ x = 1
theorem nar_bit {x : Int32} (h : bit x) : vp_nar .boolean x = x := by rcases h with rfl | rfl <;> rfl
theorem bit_nar (x : Int32) : bit (vp_nar .boolean x) := by
  have h : ∀ y : Int32, (y &&& 1 = 0 ∨ y &&& 1 = 1) := by
    intro y
    obtain ⟨j, hj, ej⟩ := pk_andE y (m := 1) 1 rfl
    rw [ej]
    rcases (show j = 0 ∨ j = 1 by omega) with rfl | rfl
    · exact Or.inl rfl
    · exact Or.inr rfl
  exact h x
theorem bz_of {f : Nat → Int32} {n : Nat} (h : ∀ v, v < n → bit (f v)) : kn_bz f 0 n = true := by
  unfold kn_bz
  rw [List.all_eq_true]
  intro i hi
  rw [List.mem_range] at hi
  rcases h i hi with q | q
  · rw [Nat.zero_add, q]; rfl
  · rw [Nat.zero_add, q]; rfl
theorem cp_ok {β : Type} {σ : RS} {k : RS → Option β} : kn_cp 36 36 0 0 36 σ k = k σ := by
  unfold kn_cp
  rw [if_neg (by decide)]
theorem cp_ok2 {β : Type} {σ : RS} {k : RS → Option β} : kn_cp 12 12 0 0 12 σ k = k σ := by
  unfold kn_cp
  rw [if_neg (by decide)]
theorem cz_ok {β : Type} {f : Nat → Int32} {σ : RS} {k : RS → Option β} (h : ∀ v, v < 12 → bit (f v)) : kn_cz f 12 12 0 0 12 σ k = k σ := by
  unfold kn_cz
  rw [show (0 : Int32).toNatClampNeg = 0 from rfl, show (12 : Int32).toNatClampNeg = 12 from rfl, if_pos (bz_of h), cp_ok2]
theorem cpy_in {α : Type} {f g : Nat → α} {n j : Nat} (h : j < n) : va_cpy f g 0 0 n j = f j := by rw [pk_cpy_in (Nat.zero_le _) (by omega), Nat.zero_add, Nat.sub_zero]
theorem c_take1 {σ0 : RS} {j : Nat} (hb : ∀ v, v < 12 → bit (rg_A σ0 4 v)) : ∃ σ', f_cX4_take_b20 j σ0 0 = s_cX4_take_b44 j σ' ∧ cF [] [] [15 + j] [] σ0 σ' ∧ (∀ k, k < 12 → rg_A σ' (15 + j) k = rg_A σ0 4 k) ∧ (∀ k, 12 ≤ k → rg_A σ' (15 + j) k = rg_A σ0 (15 + j) k) := by
  have hne : 4 ∉ [15 + j] := by
    intro q
    have := List.mem_singleton.mp q
    omega
  obtain ⟨σ', ⟨g1, g2, g3⟩, g4⟩ := lp_1 (z := fun _ _ => none) (F := s_cX4_take_b20 j) (N := 12) (I := fun i σ => cF [] [] [15 + j] [] σ0 σ ∧ (∀ k, k < i → rg_A σ (15 + j) k = rg_A σ0 4 k) ∧ (∀ k, i ≤ k → rg_A σ (15 + j) k = rg_A σ0 (15 + j) k)) (ex := fun σ => s_cX4_take_b44 j σ) (fun f σ i => f σ i)
    (fun k i σ hi hI => by
      obtain ⟨h1, h2, h3⟩ := hI
      refine ⟨rs_A σ (15 + j) (upd (rg_A σ (15 + j)) i (rg_A σ0 4 i)), ?_, cF_tr h1 (cF_A _ _ _ (List.mem_singleton.mpr rfl)), fun q hq => ?_, fun q hq => ?_⟩
      · show s_cX4_take_b20 j k σ (nI i) = _
        rw [s_cX4_take_b20, if_neg (fun q => by have := (nI_leI (a := 12) (by decide) (by omega)).mp q; omega), ld_n (show i < 12 by omega) (by decide), st_n (show i < 12 by omega) (by decide), kn_v, nI_1, nI_clamp (show i < 2 ^ 31 by omega), h1.2.2.1 4 hne, nar_bit (hb i hi)]
      · rw [rg_AA, if_pos rfl]
        by_cases z : q = i
        · subst z; exact pk_us
        · rw [pk_un (by omega)]; exact h2 q (by omega)
      · rw [rg_AA, if_pos rfl, pk_un (by omega)]; exact h3 q (by omega))
    (fun k σ hI => by
      obtain ⟨h1, h2, h3⟩ := hI
      show s_cX4_take_b20 j k σ (nI 12) = _
      rw [s_cX4_take_b20, if_pos (show (12 : Int32) ≤ nI 12 from (nI_leI (a := 12) (by decide) (by decide)).mpr (Nat.le_refl _))])
    FU 0 σ0 (Nat.zero_le _) (by unfold FU; omega) ⟨cF_rf _ _ _ _ _, fun k hk => absurd hk (Nat.not_lt_zero _), fun _ _ => rfl⟩
  rw [nI_0] at g4
  exact ⟨σ', g4, g1, g2, g3⟩
/-- a memory takes what the web is -/
theorem c_take {σ : RS} {j : Nat} (hb : ∀ v, v < 12 → bit (rg_A σ 4 v)) : ∃ σ', s_cX4_take j σ = some σ' ∧ cF [21 + j] [2 + j] [15 + j] [9 + j] σ σ' ∧ (∀ k, k < 36 → rg_B σ' (9 + j) k = rg_B σ 1 k) ∧ (∀ v, v < 12 → rg_A σ' (15 + j) v = rg_A σ 4 v) ∧ rg_I σ' (21 + j) = rg_I σ 4 ∧ rg_L σ' (2 + j) = rg_L σ 0 := by
  unfold s_cX4_take
  rw [cp_ok]
  obtain ⟨σ', g1, g2, g3, -⟩ := c_take1 (σ0 := rs_B σ (9 + j) (va_cpy (rg_B σ 1) (rg_B σ (9 + j)) (0 : Int32).toNatClampNeg (0 : Int32).toNatClampNeg (36 : Int32).toNatClampNeg)) (j := j) hb
  rw [g1]
  unfold s_cX4_take_b44
  simp only [kn_v]
  refine ⟨_, rfl, cF_tr (cF_B _ _ _ (by simp)) (cF_tr (cF_mono g2 (by simp) (by simp) (by simp) (by simp)) (cF_tr (cF_I _ _ _ (by simp)) (cF_L _ _ _ (by simp)))), ?_, ?_, ?_, ?_⟩
  · intro k hk
    rw [rg_BL, rg_BI, g2.2.2.2 (9 + j) (by simp), rg_BB, if_pos rfl]
    exact cpy_in hk
  · intro v hv
    rw [rg_AL, rg_AI, g3 v hv]
    rfl
  · rw [rg_IL, rg_II, if_pos rfl, g2.1 4 (by simp)]; rfl
  · rw [rg_LL, if_pos rfl]
    show rg_L σ' 0 = _
    rw [g2.2.1 0 (by simp)]; rfl
theorem c_give1 {σ0 : RS} {j : Nat} (hb : ∀ v, v < 12 → bit (rg_A σ0 (15 + j) v)) : ∃ σ', f_cX4_giveBack_b20 j σ0 0 = s_cX4_giveBack_b44 j σ' ∧ cF [] [] [4] [] σ0 σ' ∧ (∀ k, k < 12 → rg_A σ' 4 k = rg_A σ0 (15 + j) k) ∧ (∀ k, 12 ≤ k → rg_A σ' 4 k = rg_A σ0 4 k) := by
  have hne : 15 + j ∉ [4] := by
    intro q
    have := List.mem_singleton.mp q
    omega
  obtain ⟨σ', ⟨g1, g2, g3⟩, g4⟩ := lp_1 (z := fun _ _ => none) (F := s_cX4_giveBack_b20 j) (N := 12) (I := fun i σ => cF [] [] [4] [] σ0 σ ∧ (∀ k, k < i → rg_A σ 4 k = rg_A σ0 (15 + j) k) ∧ (∀ k, i ≤ k → rg_A σ 4 k = rg_A σ0 4 k)) (ex := fun σ => s_cX4_giveBack_b44 j σ) (fun f σ i => f σ i)
    (fun k i σ hi hI => by
      obtain ⟨h1, h2, h3⟩ := hI
      refine ⟨rs_A σ 4 (upd (rg_A σ 4) i (rg_A σ0 (15 + j) i)), ?_, cF_tr h1 (cF_A _ _ _ (List.mem_singleton.mpr rfl)), fun q hq => ?_, fun q hq => ?_⟩
      · show s_cX4_giveBack_b20 j k σ (nI i) = _
        rw [s_cX4_giveBack_b20, if_neg (fun q => by have := (nI_leI (a := 12) (by decide) (by omega)).mp q; omega), ld_n (show i < 12 by omega) (by decide), st_n (show i < 12 by omega) (by decide), kn_v, nI_1, nI_clamp (show i < 2 ^ 31 by omega), h1.2.2.1 (15 + j) hne, nar_bit (hb i hi)]
      · rw [rg_AA, if_pos rfl]
        by_cases z : q = i
        · subst z; exact pk_us
        · rw [pk_un (by omega)]; exact h2 q (by omega)
      · rw [rg_AA, if_pos rfl, pk_un (by omega)]; exact h3 q (by omega))
    (fun k σ hI => by
      obtain ⟨h1, h2, h3⟩ := hI
      show s_cX4_giveBack_b20 j k σ (nI 12) = _
      rw [s_cX4_giveBack_b20, if_pos (show (12 : Int32) ≤ nI 12 from (nI_leI (a := 12) (by decide) (by decide)).mpr (Nat.le_refl _))])
    FU 0 σ0 (Nat.zero_le _) (by unfold FU; omega) ⟨cF_rf _ _ _ _ _, fun k hk => absurd hk (Nat.not_lt_zero _), fun _ _ => rfl⟩
  rw [nI_0] at g4
  exact ⟨σ', g4, g1, g2, g3⟩
/-- and gives it back -/
theorem c_give {σ : RS} {j : Nat} (hb : ∀ v, v < 12 → bit (rg_A σ (15 + j) v)) : ∃ σ', s_cX4_giveBack j σ = some σ' ∧ cF [4] [0] [4] [1] σ σ' ∧ (∀ k, k < 36 → rg_B σ' 1 k = rg_B σ (9 + j) k) ∧ (∀ k, 36 ≤ k → rg_B σ' 1 k = rg_B σ 1 k) ∧ (∀ v, v < 12 → rg_A σ' 4 v = rg_A σ (15 + j) v) ∧ (∀ v, 12 ≤ v → rg_A σ' 4 v = rg_A σ 4 v) ∧ rg_I σ' 4 = rg_I σ (21 + j) ∧ rg_L σ' 0 = rg_L σ (2 + j) := by
  unfold s_cX4_giveBack
  rw [cp_ok]
  obtain ⟨σ', g1, g2, g3, g4⟩ := c_give1 (σ0 := rs_B σ 1 (va_cpy (rg_B σ (9 + j)) (rg_B σ 1) (0 : Int32).toNatClampNeg (0 : Int32).toNatClampNeg (36 : Int32).toNatClampNeg)) (j := j) hb
  rw [g1]
  unfold s_cX4_giveBack_b44
  simp only [kn_v]
  refine ⟨_, rfl, cF_tr (cF_B _ _ _ (by simp)) (cF_tr (cF_mono g2 (by simp) (by simp) (by simp) (by simp)) (cF_tr (cF_I _ _ _ (by simp)) (cF_L _ _ _ (by simp)))), ?_, ?_, ?_, ?_, ?_, ?_⟩
  · intro k hk
    rw [rg_BL, rg_BI, g2.2.2.2 1 (by simp), rg_BB, if_pos rfl]
    exact cpy_in hk
  · intro k hk
    rw [rg_BL, rg_BI, g2.2.2.2 1 (by simp), rg_BB, if_pos rfl]
    exact pk_cpy_out (Or.inr (show 0 + 36 ≤ k by omega))
  · intro v hv
    rw [rg_AL, rg_AI, g3 v hv]
    rfl
  · intro v hv
    rw [rg_AL, rg_AI, g4 v hv]
    rfl
  · rw [rg_IL, rg_II, if_pos rfl, g2.1 (21 + j) (by simp)]; rfl
  · rw [rg_LL, if_pos rfl]
    show rg_L σ' (2 + j) = _
    rw [g2.2.1 (2 + j) (by simp)]; rfl
theorem ld_j {β : Type} {P : Nat} {k : Nat → Option β} (h : P < 7) : kn_ld (fun j => j) 7 (nI P) k = k P := ld_n h (by decide)
theorem mod7 {a : Nat} (h : a < 100) : nI a - nI a / 7 * 7 = nI (a % 7) := pk_rem (d := 7) (by omega) (by decide) (by decide)
theorem c_keepM {σ : RS} {K P : Nat} (hK : K ≤ 6) (hP : P < 7) (h12 : rg_I σ 12 = nI K) (h11 : rg_I σ 11 = nI P) : ∃ σ', s_cX5_keepMark σ = some σ' ∧ cF [11, 12] [] [] [] σ σ' ∧ rg_I σ' 11 = nI ((P + 1) % 7) ∧ rg_I σ' 12 = nI (if K < 6 then K + 1 else 6) := by
  unfold s_cX5_keepMark
  simp only [kn_v]
  rw [h11, nI_1, mod7 (by omega), show rg_I (rs_I σ 11 (nI ((P + 1) % 7))) 12 = nI K from h12]
  by_cases c : K < 6
  · rw [if_neg (fun q => by have := (nI_leI (a := 6) (by decide) (by omega)).mp q; omega), nI_1, if_pos c]
    exact ⟨_, rfl, cF_tr (cF_I _ _ _ (by decide)) (cF_I _ _ _ (by decide)), rfl, rfl⟩
  · rw [if_pos (show (6 : Int32) ≤ nI K from (nI_leI (a := 6) (by decide) (by omega)).mpr (by omega)), if_neg c]
    exact ⟨_, rfl, cF_I _ _ _ (by decide), rfl, by rw [show rg_I (rs_I σ 11 (nI ((P + 1) % 7))) 12 = nI K from h12, show K = 6 by omega]⟩

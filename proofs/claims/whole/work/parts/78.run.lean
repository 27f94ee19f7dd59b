/-! a run, by both -/
def RR (B : Nat) (σ τ : RS) : Prop := ∃ T N E ro K P, RC σ τ T N E ro ∧ ro ≤ B ∧ (FL0 σ τ ∨ FL1 σ τ) ∧ PM σ τ K P B ∧ TD σ τ
def RI (B : Nat) (oc or : Option (Int32 × RS)) : Prop := ∃ (v : Int32) (σ' τ' : RS), oc = some (v, σ') ∧ or = some (v, τ') ∧ RR B σ' τ'
def RJ (B : Nat) (oc or : Option (Int64 × RS)) : Prop := ∃ (v : Int64) (σ' τ' : RS), oc = some (v, σ') ∧ or = some (v, τ') ∧ RR B σ' τ'
theorem RR_B {B B' : Nat} {σ τ : RS} (h : RR B σ τ) (hB : B ≤ B') : RR B' σ τ := by
  obtain ⟨T, N, E, ro, K, P, h1, h2, h3, h4, h5⟩ := h
  exact ⟨T, N, E, ro, K, P, h1, by omega, h3, PM_B h4 hB, h5⟩
def awk (f : Nat → Int32) : Nat → Nat
  | 0 => 0
  | n + 1 => if f n = 0 then awk f n else awk f n + 1
theorem awk_le (f : Nat → Int32) : ∀ n, awk f n ≤ n
  | 0 => Nat.le_refl _
  | n + 1 => by
    have := awk_le f n
    unfold awk
    by_cases c : f n = 0
    · rw [if_pos c]; omega
    · rw [if_neg c]; omega
theorem c_awk_l {σ : RS} {N : Nat} (hN : N ≤ 12) (h2 : rg_I σ 2 = nI N) : ∀ (n i : Nat), i ≤ N → N - i < n → kn_fix (fun _ _ _ => none) s_cX10_awakeNodes_b4 n σ (nI (awk (rg_A σ 4) i)) (nI i) = some (nI (awk (rg_A σ 4) N), σ)
  | 0, i, h, g => absurd g (Nat.not_lt_zero _)
  | n + 1, i, h, g => by
    rw [kn_fix_s, s_cX10_awakeNodes_b4, h2]
    by_cases c : N ≤ i
    · have e : i = N := by omega
      subst e
      rw [if_pos ((nI_leI (by omega) (by omega)).mpr c)]
    · have ih := c_awk_l hN h2 n (i + 1) (by omega) (by omega)
      rw [if_neg (fun q => c ((nI_leI (by omega) (by omega)).mp q)), ld_n (show i < 12 by omega) (by decide)]
      unfold s_cX10_awakeNodes_b24
      simp only [kn_v]
      rw [awk] at ih
      by_cases b : rg_A σ 4 i = 0
      · rw [if_pos b] at ih ⊢; rw [nI_1]; exact ih
      · rw [if_neg b] at ih ⊢; rw [nI_1, nI_1]; exact ih
theorem c_awk {σ : RS} {N : Nat} (hN : N ≤ 12) (h2 : rg_I σ 2 = nI N) : s_cX10_awakeNodes σ = some (nI (awk (rg_A σ 4) N), σ) := c_awk_l hN h2 FU 0 (Nat.zero_le _) (by unfold FU; omega)
theorem r_awk_l {τ : RS} {N : Nat} (hN : N ≤ 12) (h1 : rg_I τ 1 = nI N) : ∀ (n i : Nat), i ≤ N → N - i < n → kn_fix (fun _ _ _ => none) s_rX12_isAnyAwake_b4 n τ (if awk (rg_A τ 4) i = 0 then 0 else 1) (nI i) = some (if awk (rg_A τ 4) N = 0 then 0 else 1, τ)
  | 0, i, h, g => absurd g (Nat.not_lt_zero _)
  | n + 1, i, h, g => by
    rw [kn_fix_s, s_rX12_isAnyAwake_b4, h1]
    by_cases c : N ≤ i
    · have e : i = N := by omega
      subst e
      rw [if_pos ((nI_leI (by omega) (by omega)).mpr c)]
      unfold kn_z
      rw [if_pos]
      by_cases b : awk (rg_A τ 4) i = 0
      · rw [if_pos b]; exact Or.inl rfl
      · rw [if_neg b]; exact Or.inr rfl
    · have ih := r_awk_l hN h1 n (i + 1) (by omega) (by omega)
      rw [if_neg (fun q => c ((nI_leI (by omega) (by omega)).mp q)), ld_n (show i < 12 by omega) (by decide)]
      unfold s_rX12_isAnyAwake_b25 s_rX12_isAnyAwake_b30
      simp only [kn_v]
      rw [awk] at ih
      rw [nI_1]
      by_cases b : rg_A τ 4 i = 0
      · rw [if_pos b] at ih
        rw [if_pos b]
        by_cases d : awk (rg_A τ 4) i = 0
        · rw [if_pos d] at ih ⊢; rw [if_pos rfl]; exact ih
        · rw [if_neg d] at ih ⊢; rw [if_neg (by decide)]; exact ih
      · rw [if_neg b, if_neg (by omega)] at ih
        rw [if_neg b]
        by_cases d : awk (rg_A τ 4) i = 0
        · rw [if_pos d, if_pos rfl]; exact ih
        · rw [if_neg d, if_neg (by decide)]; exact ih
theorem r_awk {τ : RS} {N : Nat} (hN : N ≤ 12) (h1 : rg_I τ 1 = nI N) : s_rX12_isAnyAwake τ = some (if awk (rg_A τ 4) N = 0 then 0 else 1, τ) := r_awk_l hN h1 FU 0 (Nat.zero_le _) (by unfold FU; omega)
theorem r_cnt_l {τ : RS} {N : Nat} {x : Int32} (hN : N ≤ 12) (h1 : rg_I τ 1 = nI N) : ∀ (n i : Nat), i ≤ N → N - i < n → kn_fix (fun _ _ _ _ => none) s_rX12_count_b4 n τ x (nI (awk (rg_A τ 4) i)) (nI i) = s_rX12_count_b35 τ x (nI (awk (rg_A τ 4) N))
  | 0, i, h, g => absurd g (Nat.not_lt_zero _)
  | n + 1, i, h, g => by
    rw [kn_fix_s, s_rX12_count_b4, h1]
    by_cases c : N ≤ i
    · have e : i = N := by omega
      subst e
      rw [if_pos ((nI_leI (by omega) (by omega)).mpr c)]
    · have ih := r_cnt_l (x := x) hN h1 n (i + 1) (by omega) (by omega)
      rw [if_neg (fun q => c ((nI_leI (by omega) (by omega)).mp q)), ld_n (show i < 12 by omega) (by decide)]
      unfold s_rX12_count_b27
      simp only [kn_v]
      rw [awk] at ih
      by_cases b : rg_A τ 4 i = 0
      · rw [if_pos b] at ih ⊢; rw [nI_1, show nI (awk (rg_A τ 4) i) + 0 = nI (awk (rg_A τ 4) i) from Int32.add_zero _]; exact ih
      · rw [if_neg b] at ih ⊢; rw [nI_1, nI_1]; exact ih
theorem r_cnt {τ : RS} {N : Nat} {x : Int32} (hN : N ≤ 12) (h1 : rg_I τ 1 = nI N) : s_rX12_count τ x = s_rX12_count_b35 τ x (nI (awk (rg_A τ 4) N)) := r_cnt_l hN h1 FU 0 (Nat.zero_le _) (by unfold FU; omega)
theorem rd_l {T N E B M : Nat} {x : Int32} (hx : x = 0 ∨ x = 1) (hM : M ≤ 50) (hB2 : B < 900000) : ∀ (n m j ro : Nat) (σ τ : RS), j ≤ M → M - j < n → M - j < m → RC σ τ T N E ro → FL0 σ τ → (∃ K P, PM σ τ K P B) → TD σ τ → ro + (M - j) ≤ B →
    RI B (kn_fix (fun _ _ _ _ => none) s_cX7_walk_b2 n σ x (nI M) (nI j)) (kn_fix (fun _ _ _ _ => none) s_rX12_run_b50 m τ x (nI M) (nI j))
  | 0, m, j, ro, σ, τ, h1, h2, h3, hR, hF, hP, hT, hro => absurd h2 (Nat.not_lt_zero _)
  | n + 1, 0, j, ro, σ, τ, h1, h2, h3, hR, hF, hP, hT, hro => absurd h3 (Nat.not_lt_zero _)
  | n + 1, m + 1, j, ro, σ, τ, h1, h2, h3, hR, hF, hP, hT, hro => by
    have hN : N ≤ 12 := hR.1.2.1
    have a4 : rg_A τ 4 = rg_A σ 4 := hR.2.2.2.2.1.2.1
    have hs : RI B (some (nI j, σ)) (some (nI j, τ)) := by
      obtain ⟨K, P, hP⟩ := hP
      exact ⟨nI j, σ, τ, rfl, rfl, T, N, E, ro, K, P, hR, by omega, Or.inl hF, hP, hT⟩
    rw [kn_fix_s, kn_fix_s, s_cX7_walk_b2, s_rX12_run_b50]
    by_cases a : M ≤ j
    · rw [if_pos ((nI_leI (by omega) (by omega)).mpr a), if_pos ((nI_leI (by omega) (by omega)).mpr a)]
      exact hs
    rw [if_neg (fun q => a ((nI_leI (by omega) (by omega)).mp q)), if_neg (fun q => a ((nI_leI (by omega) (by omega)).mp q)), c_awk hN hR.2.2.1.2.2.1, kn_i_some, r_awk hN hR.2.2.1.2.2.2.1, kn_i_some, a4]
    have hle := awk_le (rg_A σ 4) N
    by_cases b : awk (rg_A σ 4) N = 0
    · rw [if_pos (show nI (awk (rg_A σ 4) N) ≤ 0 by rw [b]; decide), if_pos b, if_pos rfl]
      exact hs
    rw [if_neg (nI_nle (by omega) (by omega)), if_neg b, if_neg (show ¬ (1 : Int32) = 0 by decide)]
    obtain ⟨K, P, hP⟩ := hP
    obtain ⟨v, σ', τ', g1, g2, g3, g4, g5⟩ := round_sim hx hR hF hP hT (by omega) hB2
    rw [g1, kn_i_some, g2, kn_i_some]
    rcases g5 with ⟨rfl, g5, g6⟩ | ⟨rfl, g5, g6⟩
    · rw [if_neg (show ¬ (1 : Int32) = 0 by decide), if_neg (show ¬ (1 : Int32) = 0 by decide), kn_v, kn_v, nI_1]
      exact rd_l hx hM hB2 n m (j + 1) (ro + 1) σ' τ' (by omega) (by omega) (by omega) g5 g6 g4 g3 (by omega)
    · rw [if_pos rfl, if_pos rfl]
      obtain ⟨K', P', g4⟩ := g4
      exact ⟨nI j, σ', τ', rfl, rfl, T, N, E, ro, K', P', g5, by omega, Or.inr g6, g4, g3⟩
theorem clr_sim {σ τ : RS} : ∃ τ', s_rX12_clearFailed τ = some τ' ∧ cF [] [] [8] [] τ τ' ∧ FL0 (rs_I σ 6 0) τ' := by
  refine ⟨_, rfl, ⟨fun _ _ => rfl, fun _ _ => rfl, fun i hi => ?_, fun _ _ => rfl⟩, rfl, rfl, rfl, rfl, rfl, rfl⟩
  have h8 : i ≠ 8 := by simpa using hi
  show rg_A (rs_A (rs_A (rs_A (rs_A (rs_A τ 8 _) 8 _) 8 _) 8 _) 8 _) i = _
  rw [rg_AA, if_neg h8, rg_AA, if_neg h8, rg_AA, if_neg h8, rg_AA, if_neg h8, rg_AA, if_neg h8]
theorem RI_id {B : Nat} {o o' : Option (Int32 × RS)} (h : RI B o o') : RI B (kn_i o (fun v s => some (v, s))) (kn_i o' (fun v s => some (v, s))) := by
  obtain ⟨v, σ, τ, rfl, rfl, h⟩ := h
  exact ⟨v, σ, τ, rfl, rfl, h⟩
theorem RI_l {B : Nat} {o o' : Option (Int32 × RS)} (h : RI B o o') : RI B (kn_i o (fun v s => some (v, s))) o' := by
  obtain ⟨v, σ, τ, rfl, rfl, h⟩ := h
  exact ⟨v, σ, τ, rfl, rfl, h⟩
theorem q_run {B : Nat} {σ τ : RS} (h : RR B σ τ) (hB : B < 800000) (x1 x2 : Int32) : RI (B + 50) (s_cX11_run σ x1 x2) (s_rX12_run τ x1 x2) := by
  have h0 : ∀ v, RI (B + 50) (some (v, σ)) (some (v, τ)) := fun v => ⟨v, σ, τ, rfl, rfl, RR_B h (by omega)⟩
  obtain ⟨T, N, E, ro, K, P, hR, hro, -, hP, hT⟩ := h
  have fin : ∀ (M : Nat), x1 = 0 ∨ x1 = 1 ∨ x1 = 2 → 0 < M → M ≤ 200 → (x1 ≠ 2 → M ≤ 50) → RI (B + 50) (kn_u (s_cX2_clear σ) (fun σ2 => if x1 = 2 then (kn_i (s_cX3_walk σ2 (nI M)) (fun v3 σ4 => some (v3, σ4))) else (if x1 = 1 then (s_cX11_run_b74 σ2 (nI M) 1) else (s_cX11_run_b74 σ2 (nI M) 0)))) (kn_u (s_rX12_clearFailed τ) (fun σ4 => if x1 = 2 then (kn_i (s_rX12_walk σ4 (nI M)) (fun v5 σ6 => some (v5, σ6))) else (f_rX12_run_b50 σ4 x1 (nI M) 0))) := by
    intro M hx hM0 hM hM2
    obtain ⟨τ', g1, g2, g3⟩ := clr_sim (σ := σ) (τ := τ)
    rw [s_cX2_clear, kn_v, kn_u_some, g1, kn_u_some]
    have cs : cF [6] [] [] [] σ (rs_I σ 6 0) := cF_I _ _ _ (by decide)
    have hR' : RC (rs_I σ 6 0) τ' T N E ro := RC_F hR cs g2 (by decide) (by decide) (by rw [g2.1 5 (by decide), cs.1 17 (by decide)]; exact hR.2.2.2.2.2.1.1)
    have hP' := PM_B (PM_F hP cs g2 (by decide) (by decide)) (show B ≤ B + 50 by omega)
    have hT' := TD_F hT cs g2 (by decide) (by decide)
    by_cases c : x1 = 2
    · rw [if_pos c, if_pos c]
      obtain ⟨v, σ2, τ2, k1, k2, k3, k4, k5, K', P', k6⟩ := walk_sim hM hR' g3 hP' hT' (show ro ≤ B + 50 by omega)
      rw [k1, k2]
      exact ⟨v, σ2, τ2, rfl, rfl, T, N, E, ro, K', P', k3, by omega, k4, k6, k5⟩
    · rw [if_neg c, if_neg c]
      have hM3 := hM2 c
      have rd : ∀ x : Int32, x = 0 ∨ x = 1 → RI (B + 50) (s_cX11_run_b74 (rs_I σ 6 0) (nI M) x) (f_rX12_run_b50 τ' x (nI M) 0) := by
        intro x hx
        unfold s_cX11_run_b74 s_cX7_walk f_cX7_walk_b2 f_rX12_run_b50
        have := rd_l hx hM3 (show B + 50 < 900000 by omega) FU FU 0 ro (rs_I σ 6 0) τ' (Nat.zero_le _) (by unfold FU; omega) (by unfold FU; omega) hR' g3 ⟨K, P, hP'⟩ hT' (by omega)
        rw [nI_0] at this
        exact RI_l this
      rcases hx with rfl | rfl | rfl
      · rw [if_neg (by decide)]; exact rd 0 (Or.inl rfl)
      · rw [if_pos rfl]; exact rd 1 (Or.inr rfl)
      · exact absurd rfl c
  unfold s_cX11_run s_rX12_run
  by_cases a : x1 < 0
  · rw [if_pos a, s_rX12_in, if_pos a, kn_i_some, if_pos rfl]; exact h0 _
  rw [if_neg a, s_rX12_in, if_neg a]
  by_cases b : x1 ≤ 2
  · obtain ⟨j, hj, ej⟩ := nI_of2 (n := 2) rfl a b
    have hx : x1 = 0 ∨ x1 = 1 ∨ x1 = 2 := by
      subst ej
      rcases (show j = 0 ∨ j = 1 ∨ j = 2 by omega) with rfl | rfl | rfl
      · exact Or.inl rfl
      · exact Or.inr (Or.inl rfl)
      · exact Or.inr (Or.inr rfl)
    rw [if_pos b, if_neg (show ¬ 2 < x1 from fun q => by rcases hx with rfl | rfl | rfl <;> exact absurd q (by decide)), kn_i_some, if_neg (show ¬ (1 : Int32) = 0 by decide)]
    unfold s_cX11_run_b31 s_rX12_run_b24 s_rX12_in
    by_cases d : x2 < 1
    · rw [if_pos d]
      simp only [if_pos d, kn_i_some, if_true]
      rw [show (if x1 = 2 then some ((-102 : Int32), τ) else some (-102, τ)) = some (-102, τ) by split <;> rfl]
      exact h0 _
    · rw [if_neg d]
      simp only [if_neg d]
      obtain ⟨M, hM, rfl⟩ := nI_of (x := x2) (fun q => d (by
        rw [Int32.lt_iff_toInt_lt] at q ⊢
        have : (0 : Int32).toInt = 0 := rfl
        have : (1 : Int32).toInt = 1 := rfl
        omega))
      have hM0 : 0 < M := by
        rcases Nat.eq_zero_or_pos M with rfl | q
        · exact absurd (show nI 0 < 1 by decide) d
        · exact q
      by_cases c : x1 = 2
      · rw [if_pos c, if_pos c]
        by_cases e : M ≤ 200
        · rw [if_pos (show nI M ≤ 200 from (nI_leI (b := 200) (by omega) (by decide)).mpr e), if_neg (show ¬ 200 < nI M from fun q => by have := (nI_ltI (a := 200) (by decide) (by omega)).mp q; omega), kn_i_some, if_neg (show ¬ (1 : Int32) = 0 by decide)]
          exact fin M hx hM0 e (fun q => absurd c q)
        · rw [if_neg (show ¬ nI M ≤ 200 from fun q => e ((nI_leI (b := 200) (by omega) (by decide)).mp q)), if_pos (show 200 < nI M from (nI_ltI (a := 200) (by decide) (by omega)).mpr (by omega)), kn_i_some, if_pos rfl]
          exact h0 _
      · rw [if_neg c, if_neg c]
        by_cases e : M ≤ 50
        · rw [if_pos (show nI M ≤ 50 from (nI_leI (b := 50) (by omega) (by decide)).mpr e), if_neg (show ¬ 50 < nI M from fun q => by have := (nI_ltI (a := 50) (by decide) (by omega)).mp q; omega), kn_i_some, if_neg (show ¬ (1 : Int32) = 0 by decide)]
          exact fin M hx hM0 (by omega) (fun _ => e)
        · rw [if_neg (show ¬ nI M ≤ 50 from fun q => e ((nI_leI (b := 50) (by omega) (by decide)).mp q)), if_pos (show 50 < nI M from (nI_ltI (a := 50) (by decide) (by omega)).mpr (by omega)), kn_i_some, if_pos rfl]
          exact h0 _
  · rw [if_neg b, if_pos (show 2 < x1 from Int32.not_le.mp b), kn_i_some, if_pos rfl]; exact h0 _

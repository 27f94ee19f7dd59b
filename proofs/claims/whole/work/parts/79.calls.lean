/-! every call, by both: what only reads -/
theorem pred_lt {n : Nat} {x : Int32} (hn : n < 2 ^ 30) : nI n - 1 < x ↔ nI n ≤ x := by
  rw [Int32.lt_iff_toInt_lt, Int32.le_iff_toInt_le, nI_toInt (show n < 2 ^ 31 by omega), show (1 : Int32) = nI 1 from rfl, pk_sub_toInt hn (by decide)]
  omega
def hs (n x : Int32) (σ : RS) : Option (Int32 × RS) := if x < 0 then some (0, σ) else (if n ≤ x then some (0, σ) else some (1, σ))
theorem hs_d {n : Nat} (x : Int32) (hn : n < 1000) : (∃ k, k < n ∧ x = nI k ∧ (∀ σ, hs (nI n) x σ = some (1, σ)) ∧ ∀ σ, s_rX12_in σ x 0 (nI n - 1) = some (1, σ)) ∨ ((∀ σ, hs (nI n) x σ = some (0, σ)) ∧ ∀ σ, s_rX12_in σ x 0 (nI n - 1) = some (0, σ)) := by
  unfold hs s_rX12_in
  rcases pk_ix x (show n < 2 ^ 31 by omega) with h | h | ⟨k, hk, rfl⟩
  · exact Or.inr ⟨fun σ => by rw [if_pos h], fun σ => by rw [if_pos h]⟩
  · have h0 : ¬ x < 0 := fun q => by
      rw [Int32.lt_iff_toInt_lt] at q
      rw [Int32.le_iff_toInt_le, nI_toInt (show n < 2 ^ 31 by omega)] at h
      have e : (0 : Int32).toInt = 0 := rfl
      omega
    exact Or.inr ⟨fun σ => by rw [if_neg h0, if_pos h], fun σ => by rw [if_neg h0, if_pos ((pred_lt (by omega)).mpr h)]⟩
  · have h1 : ¬ nI n ≤ nI k := nI_ge hk (by omega)
    exact Or.inl ⟨k, hk, rfl, fun σ => by rw [if_neg (nI_pos (by omega)), if_neg h1], fun σ => by rw [if_neg (nI_pos (by omega)), if_neg (fun q => h1 ((pred_lt (by omega)).mp q))]⟩
/-- a small bound that stands in the code -/
theorem lim_d {x M : Int32} {m : Nat} (hm : m < 1000) (hM : M = nI m) : (∃ k, k ≤ m ∧ x = nI k ∧ ¬ x < 0 ∧ x ≤ M ∧ ∀ σ, s_rX12_in σ x 0 M = some (1, σ)) ∨ ((x < 0 ∨ ¬ x < 0 ∧ ¬ x ≤ M) ∧ ∀ σ, s_rX12_in σ x 0 M = some (0, σ)) := by
  subst hM
  unfold s_rX12_in
  by_cases a : x < 0
  · exact Or.inr ⟨Or.inl a, fun σ => by rw [if_pos a]⟩
  · by_cases b : x ≤ nI m
    · obtain ⟨k, hk, e⟩ := nI_of2 (nI_toInt (show m < 2 ^ 31 by omega)) a b
      exact Or.inl ⟨k, hk, e, a, b, fun σ => by rw [if_neg a, if_neg (Int32.not_lt.mpr b)]⟩
    · exact Or.inr ⟨Or.inr ⟨a, b⟩, fun σ => by rw [if_neg a, if_pos (Int32.not_le.mp b)]⟩
theorem c_hasT (σ : RS) (x : Int32) : s_cX8_has σ x = hs (rg_I σ 1) x σ := rfl
theorem c_hasN (σ : RS) (x : Int32) : s_cX10_hasNode σ x = hs (rg_I σ 2) x σ := rfl
theorem c_hasE (σ : RS) (x : Int32) : s_cX10_hasArc σ x = hs (rg_I σ 3) x σ := rfl
theorem c_hasD (σ : RS) (x : Int32) : s_cX9_has σ x = hs (rg_I σ 13) x σ := rfl
theorem kn_z1 {β : Type} {k : Option β} : kn_z 1 k = k := rfl
theorem kn_z0 {β : Type} {k : Option β} : kn_z 0 k = k := rfl
theorem ne10 : ¬ (1 : Int32) = 0 := by decide
/-- is it a term, a node, an arc: both say the same -/
theorem t_d {σ τ : RS} {n : Nat} (x : Int32) (hn : n < 1000) (h1 : rg_I σ 1 = nI n) (h2 : rg_I τ 0 = nI n) : (∃ k, k < n ∧ x = nI k ∧ s_cX8_has σ x = some (1, σ) ∧ s_rX12_isTerm τ x = some (1, τ)) ∨ (s_cX8_has σ x = some (0, σ) ∧ s_rX12_isTerm τ x = some (0, τ)) := by
  unfold s_rX12_isTerm
  rw [c_hasT, h1, h2]
  rcases hs_d x hn with ⟨k, hk, e, h3, h4⟩ | ⟨h3, h4⟩
  · exact Or.inl ⟨k, hk, e, h3 σ, by rw [h4 τ, kn_i_some, kn_z1]⟩
  · exact Or.inr ⟨h3 σ, by rw [h4 τ, kn_i_some, kn_z0]⟩
theorem n_d {σ τ : RS} {n : Nat} (x : Int32) (hn : n < 1000) (h1 : rg_I σ 2 = nI n) (h2 : rg_I τ 1 = nI n) : (∃ k, k < n ∧ x = nI k ∧ s_cX10_hasNode σ x = some (1, σ) ∧ s_rX12_isNode τ x = some (1, τ)) ∨ (s_cX10_hasNode σ x = some (0, σ) ∧ s_rX12_isNode τ x = some (0, τ)) := by
  unfold s_rX12_isNode
  rw [c_hasN, h1, h2]
  rcases hs_d x hn with ⟨k, hk, e, h3, h4⟩ | ⟨h3, h4⟩
  · exact Or.inl ⟨k, hk, e, h3 σ, by rw [h4 τ, kn_i_some, kn_z1]⟩
  · exact Or.inr ⟨h3 σ, by rw [h4 τ, kn_i_some, kn_z0]⟩
theorem a_d {σ τ : RS} {n : Nat} (x : Int32) (hn : n < 1000) (h1 : rg_I σ 3 = nI n) (h2 : rg_I τ 2 = nI n) : (∃ k, k < n ∧ x = nI k ∧ s_cX10_hasArc σ x = some (1, σ) ∧ s_rX12_isArc τ x = some (1, τ)) ∨ (s_cX10_hasArc σ x = some (0, σ) ∧ s_rX12_isArc τ x = some (0, τ)) := by
  unfold s_rX12_isArc
  rw [c_hasE, h1, h2]
  rcases hs_d x hn with ⟨k, hk, e, h3, h4⟩ | ⟨h3, h4⟩
  · exact Or.inl ⟨k, hk, e, h3 σ, by rw [h4 τ, kn_i_some, kn_z1]⟩
  · exact Or.inr ⟨h3 σ, by rw [h4 τ, kn_i_some, kn_z0]⟩
theorem l0_toInt : (0 : Int64).toInt = 0 := rfl
theorem l3_toInt : (3 : Int64).toInt = 3 := rfl
/-- a state's number, given as a long -/
theorem ls_d (x : Int64) : (∃ k, k < 3 ∧ x = lN k ∧ ¬ x < 0 ∧ x ≤ 2 ∧ ∀ σ, s_cX11_isState σ x = some (1, σ)) ∨ ((x < 0 ∨ ¬ x < 0 ∧ ¬ x ≤ 2) ∧ ∀ σ, s_cX11_isState σ x = some (0, σ)) := by
  unfold s_cX11_isState
  by_cases a : x < 0
  · exact Or.inr ⟨Or.inl a, fun σ => by rw [if_pos a]⟩
  · have a' := a
    rw [Int64.lt_iff_toInt_lt, l0_toInt] at a'
    have e2 : (2 : Int64).toInt = 2 := rfl
    by_cases b : x ≤ 2
    · have b' := b
      rw [Int64.le_iff_toInt_le, e2] at b'
      have hk : x = lN x.toInt.toNat := by
        apply Int64.toInt_inj.mp
        rw [lN_toInt (by omega)]
        omega
      refine Or.inl ⟨x.toInt.toNat, by omega, hk, a, b, fun σ => ?_⟩
      rw [if_neg a, if_neg (fun q => by rw [Int64.le_iff_toInt_le, l3_toInt] at q; omega)]
    · refine Or.inr ⟨Or.inr ⟨a, b⟩, fun σ => ?_⟩
      rw [Int64.le_iff_toInt_le, e2] at b
      rw [if_neg a, if_pos (by rw [Int64.le_iff_toInt_le, l3_toInt]; omega)]
/-- the same, given as an int -/
theorem is_d (x : Int32) : (∃ k, k < 3 ∧ x = nI k ∧ (∀ σ, s_cX11_isState σ x.toInt64 = some (1, σ)) ∧ ∀ σ, s_rX12_in σ x 0 2 = some (1, σ)) ∨ ((∀ σ, s_cX11_isState σ x.toInt64 = some (0, σ)) ∧ ∀ σ, s_rX12_in σ x 0 2 = some (0, σ)) := by
  have e : x.toInt64.toInt = x.toInt := by simp
  have e2 : (2 : Int64).toInt = 2 := rfl
  have i0 : (0 : Int32).toInt = 0 := rfl
  have i2 : (2 : Int32).toInt = 2 := rfl
  rcases ls_d x.toInt64 with ⟨k, hk, e1, h0, h3, h4⟩ | ⟨h3, h4⟩
  · rcases lim_d (x := x) (M := 2) (m := 2) (by decide) rfl with ⟨j, hj, e3, h5, h6, h7⟩ | ⟨h5, h7⟩
    · exact Or.inl ⟨j, by omega, e3, h4, h7⟩
    · rw [Int64.lt_iff_toInt_lt, l0_toInt, e] at h0
      rw [Int64.le_iff_toInt_le, e, e2] at h3
      rw [Int32.lt_iff_toInt_lt, Int32.le_iff_toInt_le, i0, i2] at h5
      omega
  · rcases lim_d (x := x) (M := 2) (m := 2) (by decide) rfl with ⟨j, hj, e3, h5, h6, h7⟩ | ⟨h5, h7⟩
    · rw [Int64.lt_iff_toInt_lt, l0_toInt, Int64.le_iff_toInt_le, e, e2] at h3
      rw [Int32.lt_iff_toInt_lt, i0] at h5
      rw [Int32.le_iff_toInt_le, i2] at h6
      omega
    · exact Or.inr ⟨h4, h7⟩
theorem q_same {B : Nat} {σ τ : RS} (h : RR B σ τ) (v : Int32) : RI B (some (v, σ)) (some (v, τ)) := ⟨v, σ, τ, rfl, rfl, h⟩
theorem q_sameL {B : Nat} {σ τ : RS} (h : RR B σ τ) (v : Int64) : RJ B (some (v, σ)) (some (v, τ)) := ⟨v, σ, τ, rfl, rfl, h⟩
theorem q_why {B : Nat} {σ τ : RS} (h : RR B σ τ) : RI B (s_cX11_why σ) (s_rX12_why τ) := by
  have h' := h
  obtain ⟨T, N, E, ro, K, P, hR, -⟩ := h'
  unfold s_cX11_why s_rX12_why
  rw [hR.2.2.2.2.2.1.2]
  exact q_same h _
theorem q_whole {B : Nat} {σ τ : RS} (h : RR B σ τ) : RJ B (s_cX11_whole σ) (s_rX12_whole τ) := by
  have h' := h
  obtain ⟨T, N, E, ro, K, P, hR, -⟩ := h'
  unfold s_cX11_whole s_rX12_whole
  rw [hR.2.2.2.2.1.2.2.2.2.2.2.2]
  exact q_sameL h _
theorem q_state {B : Nat} {σ τ : RS} (h : RR B σ τ) (x1 x2 : Int32) : RJ B (s_cX11_state σ x1 x2) (s_rX12_state τ x1 x2) := by
  have h' := h
  obtain ⟨T, N, E, ro, K, P, hR, -⟩ := h'
  have hN : N ≤ 12 := hR.1.2.1
  unfold s_cX11_state s_rX12_state
  rcases n_d (σ := σ) (τ := τ) x1 (show N < 1000 by omega) hR.2.2.1.2.2.1 hR.2.2.1.2.2.2.1 with ⟨k, hk, rfl, e1, e2⟩ | ⟨e1, e2⟩
  · rw [e1, kn_i_some, if_neg ne10, e2, kn_i_some, if_neg ne10]
    rcases is_d x2 with ⟨j, hj, rfl, e3, e4⟩ | ⟨e3, e4⟩
    · rw [e3, kn_i_some, if_neg ne10, e4, kn_i_some, if_neg ne10, ix3', n3, nI_add, ld_n (show k * 3 + j < 36 by omega) (by decide), ld_n (show k * 3 + j < 36 by omega) (by decide), hR.2.2.2.2.1.1]
      exact q_sameL h _
    · rw [e3, kn_i_some, if_pos rfl, e4, kn_i_some, if_pos rfl]
      exact q_sameL h _
  · rw [e1, kn_i_some, if_pos rfl, e2, kn_i_some, if_pos rfl]
    exact q_sameL h _
theorem q_awake {B : Nat} {σ τ : RS} (h : RR B σ τ) (x1 : Int32) : RI B (s_cX11_awake σ x1) (s_rX12_awake τ x1) := by
  have h' := h
  obtain ⟨T, N, E, ro, K, P, hR, -⟩ := h'
  have hN : N ≤ 12 := hR.1.2.1
  unfold s_cX11_awake s_rX12_awake
  rcases n_d (σ := σ) (τ := τ) x1 (show N < 1000 by omega) hR.2.2.1.2.2.1 hR.2.2.1.2.2.2.1 with ⟨k, hk, rfl, e1, e2⟩ | ⟨e1, e2⟩
  · rw [e1, kn_i_some, if_neg ne10, e2, kn_i_some, if_neg ne10, ld_n (show k < 12 by omega) (by decide), ld_n (show k < 12 by omega) (by decide), hR.2.2.2.2.1.2.1]
    by_cases c : rg_A σ 4 k = 0
    · rw [if_pos c, if_pos c]; exact q_same h _
    · rw [if_neg c, if_neg c]; exact q_same h _
  · rw [e1, kn_i_some, if_pos rfl, e2, kn_i_some, if_pos rfl]
    exact q_same h _
theorem q_along {B : Nat} {σ τ : RS} (h : RR B σ τ) (x1 : Int32) : RI B (s_cX11_along σ x1) (s_rX12_along τ x1) := by
  have h' := h
  obtain ⟨T, N, E, ro, K, P, -, -, -, -, D, hD, d1, d2, d3⟩ := h'
  unfold s_cX11_along s_rX12_along
  rw [c_hasD, d1, d2]
  rcases hs_d x1 (show D < 1000 by omega) with ⟨k, hk, rfl, e1, e2⟩ | ⟨e1, e2⟩
  · rw [e1, kn_i_some, if_neg ne10, e2, kn_i_some, if_neg ne10, ld_n (show k < 200 by omega) (by decide), ld_n (show k < 200 by omega) (by decide), (d3 k hk).1]
    exact q_same h _
  · rw [e1, kn_i_some, if_pos rfl, e2, kn_i_some, if_pos rfl]
    exact q_same h _
theorem q_message {B : Nat} {σ τ : RS} (h : RR B σ τ) (x1 : Int32) : RJ B (s_cX11_message σ x1) (s_rX12_message τ x1) := by
  have h' := h
  obtain ⟨T, N, E, ro, K, P, -, -, -, -, D, hD, d1, d2, d3⟩ := h'
  unfold s_cX11_message s_rX12_message
  rw [c_hasD, d1, d2]
  rcases hs_d x1 (show D < 1000 by omega) with ⟨k, hk, rfl, e1, e2⟩ | ⟨e1, e2⟩
  · rw [e1, kn_i_some, if_neg ne10, e2, kn_i_some, if_neg ne10, ld_n (show k < 200 by omega) (by decide), ld_n (show k < 200 by omega) (by decide), (d3 k hk).2]
    exact q_sameL h _
  · rw [e1, kn_i_some, if_pos rfl, e2, kn_i_some, if_pos rfl]
    exact q_sameL h _
theorem q_failed {B : Nat} {σ τ : RS} (h : RR B σ τ) (x1 : Int32) : RI B (s_cX11_failed σ x1) (s_rX12_failed τ x1) := by
  have h' := h
  obtain ⟨T, N, E, ro, K, P, -, -, hF, -⟩ := h'
  unfold s_cX11_failed s_rX12_failed
  refine RI_l ?_
  unfold s_cX2_tell
  rcases lim_d (x := x1) (M := 4) (m := 4) (by decide) rfl with ⟨k, hk, e1, h1, h2, h3⟩ | ⟨h1, h3⟩
  · rw [if_neg h1, if_pos h2, h3, kn_i_some, if_neg ne10, e1, ld_n (show k < 5 by omega) (by decide)]
    rcases (show k = 0 ∨ k = 1 ∨ k = 2 ∨ k = 3 ∨ k = 4 by omega) with rfl | rfl | rfl | rfl | rfl
    · rw [if_pos (show nI 0 = 0 from rfl)]
      rcases hF with f | f
      · rw [f.1, f.2.1]; exact q_same h _
      · rw [f.2.1]; exact q_same h _
    · rw [if_neg (by decide)]
      rcases hF with f | f
      · rw [if_pos f.1, f.2.2.1]; exact q_same h _
      · rw [if_neg f.1, if_pos (show nI 1 = 1 from rfl), f.2.2.1]; exact q_same h _
    · rw [if_neg (by decide)]
      rcases hF with f | f
      · rw [if_pos f.1, f.2.2.2.1]; exact q_same h _
      · rw [if_neg f.1, if_neg (by decide), if_pos (show nI 2 = 2 from rfl), f.2.2.2.1]; exact q_same h _
    · rw [if_neg (by decide)]
      rcases hF with f | f
      · rw [if_pos f.1, f.2.2.2.2.1]; exact q_same h _
      · rw [if_neg f.1, if_neg (by decide), if_neg (by decide), if_pos (show nI 3 = 3 from rfl), f.2.2.2.2.1]; exact q_same h _
    · rw [if_neg (by decide)]
      rcases hF with f | f
      · rw [if_pos f.1, f.2.2.2.2.2]; exact q_same h _
      · rw [if_neg f.1, if_neg (by decide), if_neg (by decide), if_neg (by decide), f.2.2.2.2.2]; exact q_same h _
  · rw [h3, kn_i_some, if_pos rfl]
    rcases h1 with h1 | ⟨h1, h2⟩
    · rw [if_pos h1]; exact q_same h _
    · rw [if_neg h1, if_neg h2]; exact q_same h _
theorem q_count {B : Nat} {σ τ : RS} (h : RR B σ τ) (x1 : Int32) : RI B (s_cX11_count σ x1) (s_rX12_count τ x1) := by
  have h' := h
  obtain ⟨T, N, E, ro, K, P, hR, -, -, hP, D, hD, d1, d2, d3⟩ := h'
  have hN : N ≤ 12 := hR.1.2.1
  obtain ⟨s1, t0, s2, t1, s3, t2, s4, t4⟩ := hR.2.2.1
  rw [r_cnt hN t1]
  unfold s_cX11_count s_rX12_count_b35
  rw [c_awk hN s2, kn_i_some, s1, t0, s2, t1, s3, t2, s4, t4, d1, d2, hR.2.2.2.2.2.1.1, hP.2.2.1, hP.2.2.2.1, hR.2.2.2.2.1.2.1]
  by_cases c0 : x1 = 0
  · rw [if_pos c0, if_pos c0]; exact q_same h _
  rw [if_neg c0, if_neg c0]
  by_cases c1 : x1 = 1
  · rw [if_pos c1, if_pos c1]; exact q_same h _
  rw [if_neg c1, if_neg c1]
  by_cases c2 : x1 = 2
  · rw [if_pos c2, if_pos c2]; exact q_same h _
  rw [if_neg c2, if_neg c2]
  by_cases c3 : x1 = 3
  · rw [if_pos c3, if_pos c3]; exact q_same h _
  rw [if_neg c3, if_neg c3]
  by_cases c4 : x1 = 4
  · rw [if_pos c4, if_pos c4]; exact q_same h _
  rw [if_neg c4, if_neg c4]
  by_cases c5 : x1 = 5
  · rw [if_pos c5, if_pos c5]; exact q_same h _
  rw [if_neg c5, if_neg c5]
  by_cases c6 : x1 = 6
  · rw [if_pos c6, if_pos c6]; exact q_same h _
  rw [if_neg c6, if_neg c6]
  by_cases c7 : x1 = 7
  · rw [if_pos c7, if_pos c7]; exact q_same h _
  rw [if_neg c7, if_neg c7]
  exact q_same h _

theorem r_in (τ : RS) (v lo hi : Int32) : s_rX12_in τ v lo hi = some (if v < lo ∨ hi < v then 0 else 1, τ) := by
  unfold s_rX12_in
  by_cases c1 : v < lo
  · rw [if_pos c1, if_pos (Or.inl c1)]
  · rw [if_neg c1]
    by_cases c2 : hi < v
    · rw [if_pos c2, if_pos (Or.inr c2)]
    · rw [if_neg c2, if_neg (fun h => h.elim c1 c2)]
theorem in02 (x : Int32) : (x < 0 ∨ 2 < x) ↔ (x < 0 ∨ 3 ≤ x) := by
  rw [Int32.le_iff_toInt_le, Int32.lt_iff_toInt_lt (x := 2)]
  have h3 : (3 : Int32).toInt = 3 := rfl
  have h2 : (2 : Int32).toInt = 2 := rfl
  rw [h3, h2]
  constructor
  · rintro (h | h)
    · exact Or.inl h
    · exact Or.inr (by omega)
  · rintro (h | h)
    · exact Or.inl h
    · exact Or.inr (by omega)
/-- a part came; the term on top goes on -/
theorem r_on17 {σ τ : RS} {nd E ro k t : Nat} {ar : Int32} (hnd : nd < 12) (ht : t < 40) (hk : k < 44) (hp : rg_A τ 12 k = nI t) (hst : rg_A τ 13 k = 1) (h10 : rg_I τ 10 = 0) (hEE : EE σ τ nd E ro ar) (hkd : rg_A σ 0 t = 17) :
    s_rX12_goesOn τ (nI k) = some (1, if (rg_L τ 1).toInt32 < 0 ∨ 3 ≤ (rg_L τ 1).toInt32 then rs_L (rs_I τ 10 2) 1 0 else rs_L (rs_I τ 10 0) 1 (rg_B σ 1 (nd * 3 + (rg_L τ 1).toInt32.toNatClampNeg))) := by
  obtain ⟨e0, e1, e2, e3, b0, b1, b2, l2, i14, i4, j4, hro, l0, i12, i13, i2, dg⟩ := hEE
  unfold s_rX12_goesOn
  simp only [kn_v]
  rw [ld_n hk (by decide), hp, e0, ld_n ht (by decide), ld_n hk (by decide), hst, if_neg (by decide), hkd, if_pos rfl]
  rw [r_in]
  unfold s_rX12_goesOn_b87 s_rX12_goesOn_b116
  simp only [kn_v]
  rw [kn_i_some]
  by_cases c : (rg_L τ 1).toInt32 < 0 ∨ 3 ≤ (rg_L τ 1).toInt32
  · rw [if_pos c, if_pos ((in02 _).mpr c), if_pos rfl, if_neg (show ¬ rg_I (rs_I τ 10 2) 10 = 0 from (by decide : ¬ (2 : Int32) = 0))]
  · rw [if_neg c, if_neg (fun q => c ((in02 _).mp q)), if_neg (by decide), if_pos (show rg_I (rs_I τ 10 0) 10 = 0 from rfl)]
    obtain ⟨j, hj, ej⟩ := i3_of c
    rw [ej, show rg_I (rs_I τ 10 0) 12 = rg_I τ 12 from rfl, show rg_B (rs_I τ 10 0) 1 = rg_B τ 1 from rfl, i12, b1, ix3', ld_n (by omega) (by decide), nI_clamp (by omega)]
def m_g (τ : RS) (k : Nat) : RS := rs_A (rs_B τ 6 (vp_updL (rg_B τ 6) k (rg_L τ 1))) 13 (upd (rg_A τ 13) k 2)
theorem m_g_fr (τ : RS) (k : Nat) : mfr k τ (m_g τ k) := by
  refine ⟨fun i h5 h9 h10 h11 => rfl, fun i _ => rfl, fun i h12 h13 => ?_, fun i h6 => ?_, fun j hj => ⟨rfl, ?_, ?_⟩⟩
  · simp [m_g, rg_AA, rg_AB, h13]
  · simp [m_g, rg_BA, rg_BB, h6]
  · exact pk_un (by omega)
  · exact pk_uLn (by omega)
theorem r_on1 {σ τ : RS} {nd E ro k t : Nat} {ar : Int32} (ht : t < 40) (hk : k + 1 < 44) (h9 : rg_I τ 9 = nI (k + 1)) (hp : rg_A τ 12 k = nI t) (hst : rg_A τ 13 k = 1) (hEE : EE σ τ nd E ro ar) (hkd : ¬ rg_A σ 0 t = 17) :
    s_rX12_goesOn τ (nI k) = some (0, m_pu (m_g τ k) (k + 1) (if rg_A σ 0 t = 16 ∧ rg_L τ 1 = 0 then rg_A σ 3 t else rg_A σ 2 t)) := by
  obtain ⟨e0, e1, e2, e3, b0, b1, b2, l2, i14, i4, j4, hro, l0, i12, i13, i2, dg⟩ := hEE
  unfold s_rX12_goesOn
  rw [ld_n (by omega) (by decide), hp, e0, ld_n ht (by decide), ld_n (by omega) (by decide), hst, if_neg (by decide), if_neg hkd, st_n (by omega) (by decide), st_n (by omega) (by decide), nI_clamp (by omega)]
  rw [show rs_A (rs_B τ 6 (vp_updL (rg_B τ 6) k (rg_L τ 1))) 13 (upd (rg_A (rs_B τ 6 (vp_updL (rg_B τ 6) k (rg_L τ 1))) 13) k 2) = m_g τ k from rfl, show rg_L (m_g τ k) 1 = rg_L τ 1 from rfl]
  have h9' : rg_I (m_g τ k) 9 = nI (k + 1) := h9
  unfold s_rX12_goesOn_b163 s_rX12_goesOn_b169
  rw [show rg_A (m_g τ k) 3 = rg_A τ 3 from rfl, show rg_A (m_g τ k) 2 = rg_A τ 2 from rfl, e3, e2, ld_n ht (by decide), ld_n ht (by decide), r_push hk h9', r_push hk h9', kn_u_some, kn_u_some]
  by_cases c1 : rg_A σ 0 t = 16
  · rw [if_pos c1]
    by_cases c2 : rg_L τ 1 = 0
    · rw [if_pos c2, if_pos ⟨c1, c2⟩]
    · rw [if_neg c2, if_neg (fun h => c2 h.2)]
  · rw [if_neg c1, if_neg (fun h => c1 h.1)]
theorem r_joined {τ : RS} {k : Int32} {a b : Int64} (h10 : rg_I τ 10 = 0) (hk : k ≤ 15) (hk8 : 8 ≤ k) : ∃ τ', s_rX12_joined τ k a b = some ((e_jn k a b).1, τ') ∧ rg_I τ' 10 = (e_jn k a b).2 ∧ (τ' = τ ∨ ∃ f, τ' = rs_I τ 10 f) := by
  have rg0 : ∀ f, rg_I (rs_I τ 10 f) 10 = f := fun _ => rfl
  by_cases c8 : k = 8
  · subst c8; exact ⟨τ, by simp [s_rX12_joined, e_jn], by simp [e_jn, h10], Or.inl rfl⟩
  by_cases c9 : k = 9
  · subst c9; exact ⟨τ, by simp [s_rX12_joined, e_jn], by simp [e_jn, h10], Or.inl rfl⟩
  by_cases c10 : k = 10
  · subst c10; exact ⟨τ, by simp [s_rX12_joined, e_jn], by simp [e_jn, h10], Or.inl rfl⟩
  by_cases c11 : k = 11
  · subst c11
    by_cases cb : b = 0
    · exact ⟨rs_I τ 10 1, by simp [s_rX12_joined, s_rX12_joined_b59, s_rX12_joined_b72, kn_v, e_jn, cb], by simp [e_jn, cb, rg0], Or.inr ⟨_, rfl⟩⟩
    · exact ⟨rs_I τ 10 0, by simp [s_rX12_joined, s_rX12_joined_b59, s_rX12_joined_b72, kn_v, kn_nz64, e_jn, cb], by simp [e_jn, cb, rg0], Or.inr ⟨_, rfl⟩⟩
  by_cases c12 : k = 12
  · subst c12
    by_cases cb : b = 0
    · exact ⟨rs_I τ 10 1, by simp [s_rX12_joined, s_rX12_joined_b59, s_rX12_joined_b72, kn_v, e_jn, cb], by simp [e_jn, cb, rg0], Or.inr ⟨_, rfl⟩⟩
    · exact ⟨rs_I τ 10 0, by simp [s_rX12_joined, s_rX12_joined_b59, s_rX12_joined_b72, kn_v, kn_nz64, e_jn, cb], by simp [e_jn, cb, rg0], Or.inr ⟨_, rfl⟩⟩
  by_cases c13 : k = 13
  · subst c13; exact ⟨τ, by by_cases q : b ≤ a <;> simp [s_rX12_joined, e_jn, q], by simp [e_jn, h10], Or.inl rfl⟩
  by_cases c14 : k = 14
  · subst c14; exact ⟨τ, by by_cases q : a ≤ b <;> simp [s_rX12_joined, e_jn, q], by simp [e_jn, h10], Or.inl rfl⟩
  by_cases c15 : k = 15
  · subst c15; exact ⟨τ, by by_cases q : b ≤ a <;> simp [s_rX12_joined, e_jn, q], by simp [e_jn, h10], Or.inl rfl⟩
  exfalso
  rw [Int32.le_iff_toInt_le] at hk hk8
  have hv : ∀ j : Nat, j < 100 → ¬ k = nI j → ¬ k.toInt = (j : Int) := fun j hj h z => h (Int32.toInt_inj.mp (z.trans (nI_toInt (by omega)).symm))
  have q8 := hv 8 (by decide) c8
  have q9 := hv 9 (by decide) c9
  have q10 := hv 10 (by decide) c10
  have q11 := hv 11 (by decide) c11
  have q12 := hv 12 (by decide) c12
  have q13 := hv 13 (by decide) c13
  have q14 := hv 14 (by decide) c14
  have q15 := hv 15 (by decide) c15
  have e15 : (15 : Int32).toInt = 15 := rfl
  have e8 : (8 : Int32).toInt = 8 := rfl
  omega
theorem i10_fr (τ : RS) (k : Nat) (f : Int32) : mfr k τ (rs_I τ 10 f) := ⟨fun i _ _ h10 _ => by rw [rg_II, if_neg h10], fun _ _ => rfl, fun _ _ _ => rfl, fun _ _ => rfl, fun _ _ => ⟨rfl, rfl, rfl⟩⟩
theorem l1_fr (τ : RS) (k : Nat) (v : Int64) : mfr k τ (rs_L τ 1 v) := ⟨fun i _ _ h10 _ => rfl, fun i h => by rw [rg_LL, if_neg h], fun _ _ _ => rfl, fun _ _ => rfl, fun _ _ => ⟨rfl, rfl, rfl⟩⟩
theorem i9_fr (τ : RS) (k : Nat) (v : Int32) : mfr k τ (rs_I τ 9 v) := ⟨fun i _ h9 _ _ => by rw [rg_II, if_neg h9], fun _ _ => rfl, fun _ _ _ => rfl, fun _ _ => rfl, fun _ _ => ⟨rfl, rfl, rfl⟩⟩
/-- stage 2: both parts came -/
theorem r_on2 {σ τ : RS} {nd E ro k t : Nat} {ar : Int32} (ht : t < 40) (hk : k < 44) (hp : rg_A τ 12 k = nI t) (hst : rg_A τ 13 k = 2) (h10 : rg_I τ 10 = 0) (hEE : EE σ τ nd E ro ar) (hkd : ¬ rg_A σ 0 t = 17) (hk8 : 8 ≤ rg_A σ 0 t) (hkl : rg_A σ 0 t ≤ 17) :
    ∃ τ', s_rX12_goesOn τ (nI k) = some (1, τ') ∧ rg_L τ' 1 = (if rg_A σ 0 t = 16 then rg_L τ 1 else (e_jn (rg_A σ 0 t) (rg_B τ 6 k) (rg_L τ 1)).1) ∧ rg_I τ' 10 = (if rg_A σ 0 t = 16 then 0 else (e_jn (rg_A σ 0 t) (rg_B τ 6 k) (rg_L τ 1)).2) ∧ mfr k τ τ' ∧ rg_I τ' 9 = rg_I τ 9 ∧ rg_I τ' 11 = rg_I τ 11 ∧ rg_I τ' 5 = rg_I τ 5 := by
  obtain ⟨e0, e1, e2, e3, b0, b1, b2, l2, i14, i4, j4, hro, l0, i12, i13, i2, dg⟩ := hEE
  unfold s_rX12_goesOn
  rw [ld_n hk (by decide), hp, e0, ld_n ht (by decide), ld_n hk (by decide), hst, if_pos rfl]
  unfold s_rX12_goesOn_b53
  simp only [kn_v]
  by_cases c1 : rg_A σ 0 t = 16
  · rw [if_pos c1, if_pos c1, if_pos c1]
    exact ⟨_, rfl, rfl, h10, l1_fr τ k _, rfl, rfl, rfl⟩
  · rw [if_neg c1, if_neg c1, if_neg c1, ld_n hk (by decide)]
    have hk15 : rg_A σ 0 t ≤ 15 := by
      rw [Int32.le_iff_toInt_le] at hkl ⊢
      have a1 : (17 : Int32).toInt = 17 := rfl
      have a2 : (15 : Int32).toInt = 15 := rfl
      have a3 : ¬ (rg_A σ 0 t).toInt = 17 := fun z => hkd (Int32.toInt_inj.mp (z.trans a1.symm))
      have a4 : ¬ (rg_A σ 0 t).toInt = 16 := fun z => c1 (Int32.toInt_inj.mp (z.trans (show (16 : Int32).toInt = 16 from rfl).symm))
      omega
    obtain ⟨τ1, h1, h2, h3⟩ := r_joined (τ := τ) (a := rg_B τ 6 k) (b := rg_L τ 1) h10 hk15 hk8
    rw [h1, kn_l_some]
    have m1 : mfr k τ τ1 := by
      rcases h3 with rfl | ⟨f, rfl⟩
      · exact mfr_rf k _
      · exact i10_fr τ k f
    have m2 : rg_I τ1 9 = rg_I τ 9 ∧ rg_I τ1 11 = rg_I τ 11 ∧ rg_I τ1 5 = rg_I τ 5 := by
      rcases h3 with rfl | ⟨f, rfl⟩
      · exact ⟨rfl, rfl, rfl⟩
      · exact ⟨rfl, rfl, rfl⟩
    exact ⟨_, rfl, rfl, h2, mfr_tr m1 (l1_fr τ1 k _) (Nat.le_refl _), m2.1, m2.2.1, m2.2.2⟩

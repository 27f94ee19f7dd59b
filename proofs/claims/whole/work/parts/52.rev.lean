/-! the reference's pile: it comes to what 'ev' says -/
def cnt (f : Nat → Int32) (x : Int32) : Nat → Nat
  | 0 => 0
  | n + 1 => cnt f x n + (if f n = x then 1 else 0)
theorem cnt_le (f : Nat → Int32) (x : Int32) : ∀ n, cnt f x n ≤ n
  | 0 => Nat.le_refl _
  | n + 1 => by
    have h := cnt_le f x n
    unfold cnt
    split <;> omega
theorem kn_fix_s {α : Type} (z : α) (F : α → α) (n : Nat) : kn_fix z F (n + 1) = F (kn_fix z F n) := rfl
theorem FU_s : FU = 19999 + 1 := rfl
theorem r_arcs_l {τ : RS} {E : Nat} {x : Int32} (hE : E ≤ 40) (he : rg_I τ 2 = nI E) : ∀ (n i : Nat), i ≤ E → E - i < n → kn_fix (fun _ _ _ _ => none) s_rX12_arcsFrom_b4 n τ x (nI (cnt (rg_A τ 5) x i)) (nI i) = some (nI (cnt (rg_A τ 5) x E), τ)
  | 0, i, h1, h2 => absurd h2 (Nat.not_lt_zero _)
  | n + 1, i, h1, h2 => by
    rw [kn_fix_s]
    unfold s_rX12_arcsFrom_b4
    rw [he]
    by_cases c : E ≤ i
    · rw [if_pos ((nI_leI (by omega) (by omega)).mpr c), show i = E by omega]
    · rw [if_neg (fun q => c ((nI_leI (by omega) (by omega)).mp q)), ld_n (by omega) (by decide)]
      unfold s_rX12_arcsFrom_b28 kn_v
      have ih := r_arcs_l hE he n (i + 1) (x := x) (by omega) (by omega)
      rw [← nI_1] at ih
      by_cases q : rg_A τ 5 i = x
      · rw [if_pos q]
        have e1 : cnt (rg_A τ 5) x (i + 1) = cnt (rg_A τ 5) x i + 1 := by show _ + (if rg_A τ 5 i = x then 1 else 0) = _; rw [if_pos q]
        rw [e1, ← nI_1] at ih
        exact ih
      · rw [if_neg q]
        have e1 : cnt (rg_A τ 5) x (i + 1) = cnt (rg_A τ 5) x i := by show _ + (if rg_A τ 5 i = x then 1 else 0) = _; rw [if_neg q]; rfl
        rw [e1] at ih
        rw [show nI (cnt (rg_A τ 5) x i) + 0 = nI (cnt (rg_A τ 5) x i) from Int32.add_zero _]
        exact ih
theorem r_arcs {τ : RS} {E : Nat} {x : Int32} (hE : E ≤ 40) (he : rg_I τ 2 = nI E) : s_rX12_arcsFrom τ x = some (nI (cnt (rg_A τ 5) x E), τ) := by
  unfold s_rX12_arcsFrom f_rX12_arcsFrom_b4
  exact r_arcs_l hE he FU 0 (Nat.zero_le _) (by unfold FU; omega)
/-- what the reference's evaluation leaves as it was -/
def mfr (k : Nat) (τ τ' : RS) : Prop := (∀ i, i ≠ 5 → i ≠ 9 → i ≠ 10 → i ≠ 11 → rg_I τ' i = rg_I τ i) ∧ (∀ i, i ≠ 1 → rg_L τ' i = rg_L τ i) ∧ (∀ i, i ≠ 12 → i ≠ 13 → rg_A τ' i = rg_A τ i) ∧ (∀ i, i ≠ 6 → rg_B τ' i = rg_B τ i) ∧ (∀ j, j < k → rg_A τ' 12 j = rg_A τ 12 j ∧ rg_A τ' 13 j = rg_A τ 13 j ∧ rg_B τ' 6 j = rg_B τ 6 j)
theorem mfr_rf (k : Nat) (τ : RS) : mfr k τ τ := ⟨fun _ _ _ _ _ => rfl, fun _ _ => rfl, fun _ _ _ => rfl, fun _ _ => rfl, fun _ _ => ⟨rfl, rfl, rfl⟩⟩
theorem mfr_tr {k k' : Nat} {a b c : RS} (h1 : mfr k a b) (h2 : mfr k' b c) (hk : k ≤ k') : mfr k a c :=
  ⟨fun i p q r s => (h2.1 i p q r s).trans (h1.1 i p q r s), fun i p => (h2.2.1 i p).trans (h1.2.1 i p), fun i p q => (h2.2.2.1 i p q).trans (h1.2.2.1 i p q), fun i p => (h2.2.2.2.1 i p).trans (h1.2.2.2.1 i p),
   fun j hj => ⟨(h2.2.2.2.2 j (by omega)).1.trans (h1.2.2.2.2 j hj).1, (h2.2.2.2.2 j (by omega)).2.1.trans (h1.2.2.2.2 j hj).2.1, (h2.2.2.2.2 j (by omega)).2.2.trans (h1.2.2.2.2 j hj).2.2⟩⟩
/-- class and reference see the same, at a node and an arc -/
def EE (σ τ : RS) (nd E ro : Nat) (ar : Int32) : Prop := rg_A τ 0 = rg_A σ 0 ∧ rg_A τ 1 = rg_A σ 1 ∧ rg_A τ 2 = rg_A σ 2 ∧ rg_A τ 3 = rg_A σ 3 ∧ rg_B τ 0 = rg_B σ 0 ∧ rg_B τ 1 = rg_B σ 1 ∧ rg_B τ 2 = rg_B σ 2 ∧ rg_L τ 2 = rg_L σ 1 ∧ rg_I τ 14 = rg_I σ 14 ∧ rg_I τ 4 = nI ro ∧ rg_I σ 4 = nI ro ∧ ro < 1000000 ∧ rg_L τ 0 = rg_L σ 0 ∧ rg_I τ 12 = nI nd ∧ rg_I τ 13 = ar ∧ rg_I τ 2 = nI E ∧ rg_A σ 5 nd = nI (cnt (rg_A τ 5) (nI nd) E)
theorem EE_mv {σ τ τ' : RS} {nd E ro k : Nat} {ar : Int32} (h : EE σ τ nd E ro ar) (m : mfr k τ τ') : EE σ τ' nd E ro ar := by
  obtain ⟨m1, m2, m3, m4, -⟩ := m
  unfold EE at h ⊢
  rw [m3 0 (by decide) (by decide), m3 1 (by decide) (by decide), m3 2 (by decide) (by decide), m3 3 (by decide) (by decide), m3 5 (by decide) (by decide), m4 0 (by decide), m4 1 (by decide), m4 2 (by decide), m2 2 (by decide), m2 0 (by decide), m1 14 (by decide) (by decide) (by decide) (by decide), m1 4 (by decide) (by decide) (by decide) (by decide), m1 12 (by decide) (by decide) (by decide) (by decide), m1 13 (by decide) (by decide) (by decide) (by decide), m1 2 (by decide) (by decide) (by decide) (by decide)]
  exact h
/-- a step is counted, and the term on top is begun -/
def m_b (τ : RS) (k : Nat) : RS := rs_A (rs_I (rs_I τ 11 (rg_I τ 11 + 1)) 5 (rg_I τ 5 + 1)) 13 (upd (rg_A τ 13) k 1)
def m_pu (τ : RS) (k : Nat) (t : Int32) : RS := rs_I (rs_A (rs_A τ 12 (upd (rg_A τ 12) k t)) 13 (upd (rg_A τ 13) k 0)) 9 (nI (k + 1))
def m_pop (τ : RS) (k : Nat) (v : Int64) : RS := rs_I (rs_L τ 1 v) 9 (nI k)
theorem r_push {τ : RS} {k : Nat} {t : Int32} (hk : k < 44) (h9 : rg_I τ 9 = nI k) : s_rX12_push τ t = some (m_pu τ k t) := by
  unfold s_rX12_push kn_v
  rw [h9, st_n hk (by decide), show rg_I (rs_A τ 12 (upd (rg_A τ 12) (nI k).toNatClampNeg t)) 9 = nI k from h9, st_n hk (by decide), nI_clamp (by omega)]
  rw [show rg_I (rs_A (rs_A τ 12 (upd (rg_A τ 12) k t)) 13 (upd (rg_A (rs_A τ 12 (upd (rg_A τ 12) k t)) 13) k 0)) 9 = nI k from h9, nI_1]
  rfl
theorem m_b_fr (τ : RS) (k : Nat) : mfr k τ (m_b τ k) := by
  refine ⟨fun i h5 h9 h10 h11 => ?_, fun i _ => rfl, fun i h12 h13 => ?_, fun i _ => rfl, fun j hj => ⟨rfl, ?_, rfl⟩⟩
  · simp [m_b, rg_IA, rg_II, h5, h11]
  · simp [m_b, rg_AA, rg_AI, h13]
  · simp only [m_b, rg_AA, rg_AI, if_true]
    exact pk_un (by omega)
theorem m_pu_fr (τ : RS) (k : Nat) (t : Int32) : mfr k τ (m_pu τ k t) := by
  refine ⟨fun i h5 h9 h10 h11 => ?_, fun i _ => rfl, fun i h12 h13 => ?_, fun i _ => rfl, fun j hj => ⟨?_, ?_, rfl⟩⟩
  · simp [m_pu, rg_IA, rg_II, h9]
  · simp [m_pu, rg_AA, rg_AI, h13, h12]
  · exact pk_un (by omega)
  · exact pk_un (by omega)
theorem m_pop_fr (τ : RS) (k k' : Nat) (v : Int64) : mfr k' τ (m_pop τ k v) := by
  refine ⟨fun i h5 h9 h10 h11 => ?_, fun i h1 => ?_, fun i h12 h13 => rfl, fun i _ => rfl, fun j hj => ⟨rfl, rfl, rfl⟩⟩
  · simp [m_pop, rg_IL, rg_II, h9]
  · simp [m_pop, rg_LL, rg_LI, h1]
/-- what the pile does with the term on top of it -/
def MS (τ : RS) (k t sp : Nat) : Prop := rg_I τ 9 = nI (k + 1) ∧ rg_A τ 12 k = nI t ∧ rg_A τ 13 k = 0 ∧ rg_I τ 10 = 0 ∧ rg_I τ 11 = nI sp
abbrev mL (n : Nat) : RS → Option (Int32 × RS) := kn_fix (fun _ => none) s_rX12_asked_b25 n
theorem rs_self9 {τ : RS} {v : Int32} (h : rg_I τ 9 = v) : rs_I τ 9 (v - 0) = τ := by
  refine rs_ext (fun i => ?_) (fun _ => rfl) (fun _ => rfl) (fun _ => rfl)
  rw [rg_II, show v - 0 = v from Int32.sub_zero v]
  split
  · rename_i e; rw [e]; exact h.symm
  · rfl
theorem mL_s (n : Nat) (τ : RS) : mL (n + 1) τ = s_rX12_asked_b25 (mL n) τ := rfl
theorem mL_stop (n : Nat) {τ : RS} (h : rg_I τ 9 = nI 0) : mL (n + 1) τ = some (0, τ) := by
  rw [mL_s]
  unfold s_rX12_asked_b25
  rw [h, if_pos (by decide)]
theorem mL_go (n : Nat) {τ : RS} {k : Nat} (hk : k < 44) (h9 : rg_I τ 9 = nI (k + 1)) : mL (n + 1) τ = if rg_A τ 13 k = 0 then kn_i (s_rX12_begins τ (nI k)) (fun v5 σ6 => s_rX12_asked_b65 (mL n) σ6 v5) else kn_i (s_rX12_goesOn τ (nI k)) (fun v3 σ4 => s_rX12_asked_b65 (mL n) σ4 v3) := by
  rw [mL_s]
  unfold s_rX12_asked_b25
  simp only [kn_v]
  rw [h9, if_neg (fun q => nI_nle (by omega) (by omega) q), nI_pred, ld_n hk (by decide)]
/-- one round of the loop, told to go on with the pile as it is, or to take the term off */ -/
theorem b65_0 {τ : RS} {v : Int32} {K : RS → Option (Int32 × RS)} (h10 : rg_I τ 10 = 0) : s_rX12_asked_b65 K τ 0 = K τ := by
  unfold s_rX12_asked_b65 s_rX12_asked_b94 kn_v
  rw [if_pos h10, if_pos rfl, rs_self9 rfl]
theorem b65_1 {τ : RS} {k : Nat} {K : RS → Option (Int32 × RS)} (h10 : rg_I τ 10 = 0) (h9 : rg_I τ 9 = nI (k + 1)) : s_rX12_asked_b65 K τ 1 = K (rs_I τ 9 (nI k)) := by
  unfold s_rX12_asked_b65 s_rX12_asked_b94 kn_v
  rw [if_pos h10, if_neg (by decide), h9, nI_pred]
theorem b65_f {τ : RS} {v f : Int32} {K : RS → Option (Int32 × RS)} (h10 : rg_I τ 10 = f) (hf : f ≠ 0) : s_rX12_asked_b65 K τ v = some (f, τ) := by
  unfold s_rX12_asked_b65
  rw [if_neg (by rw [h10]; exact hf), h10]
theorem r_begins_spent {τ : RS} {k : Int32} (h : rg_I τ 11 = nI 3000) : s_rX12_begins τ k = some (1, rs_I τ 10 4) := by
  unfold s_rX12_begins kn_v
  rw [if_pos (by rw [h]; rfl)]
theorem rounds_l {ro : Nat} (h : ro < 1000000) : (nI ro).toInt64 + 1 = (nI ro + 1).toInt64 := by
  rw [nI_1, nI_l (by omega), nI_l (by omega), lN_1]
theorem r_begins_leaf {σ τ : RS} {T nd E ro k t sp : Nat} {ar : Int32} (hT : T ≤ 40) (hW : WT σ T) (hnd : nd < 12) (har : e_ar ar) (hE : E ≤ 40) (ht : t < T) (hk : k < 44) (hsp : sp < 3000) (hM : MS τ k t sp) (hEE : EE σ τ nd E ro ar) (hkd : ¬ 8 ≤ rg_A σ 0 t) :
    s_rX12_begins τ (nI k) = some (1, rs_L (m_b τ k) 1 (e_pl σ nd ar t)) := by
  obtain ⟨h9, hp, hst, h10, h11⟩ := hM
  obtain ⟨e0, e1, e2, e3, b0, b1, b2, l2, i14, i4, j4, hro, l0, i12, i13, i2, dg⟩ := hEE
  obtain ⟨q, hq, eq, w1, -⟩ := hW t ht
  unfold s_rX12_begins
  simp only [kn_v]
  rw [if_neg (by rw [h11]; exact fun z => by have := (nI_eq (by omega) (by decide)).mp (show nI sp = nI 3000 from z); omega)]
  rw [show rg_A (rs_I (rs_I τ 11 (rg_I τ 11 + 1)) 5 (rg_I (rs_I τ 11 (rg_I τ 11 + 1)) 5 + 1)) 12 = rg_A τ 12 from rfl, ld_n hk (by decide), st_n hk (by decide), nI_clamp (by omega), hp]
  rw [show rs_A (rs_I (rs_I τ 11 (rg_I τ 11 + 1)) 5 (rg_I (rs_I τ 11 (rg_I τ 11 + 1)) 5 + 1)) 13 (upd (rg_A (rs_I (rs_I τ 11 (rg_I τ 11 + 1)) 5 (rg_I (rs_I τ 11 (rg_I τ 11 + 1)) 5 + 1)) 13) k 1) = m_b τ k from rfl]
  rw [show rg_A (m_b τ k) 0 = rg_A τ 0 from rfl, show rg_B (m_b τ k) 0 = rg_B τ 0 from rfl, show rg_B (m_b τ k) 1 = rg_B τ 1 from rfl, show rg_B (m_b τ k) 2 = rg_B τ 2 from rfl, show rg_I (m_b τ k) 12 = rg_I τ 12 from rfl, show rg_I (m_b τ k) 13 = rg_I τ 13 from rfl, show rg_L (m_b τ k) 2 = rg_L τ 2 from rfl, show rg_I (m_b τ k) 14 = rg_I τ 14 from rfl, show rg_I (m_b τ k) 4 = rg_I τ 4 from rfl, show rg_L (m_b τ k) 0 = rg_L τ 0 from rfl, e0, b0, b1, b2, i12, i13, l2, i14, i4, l0, ld_n (by omega) (by decide)]
  unfold e_pl
  by_cases c0 : rg_A σ 0 t = 0
  · rw [if_pos c0, ld_n (by omega) (by decide), c0]
    rfl
  rw [if_neg c0]
  by_cases c1 : rg_A σ 0 t = 1
  · rw [if_pos c1, if_pos c1, ld_n (by omega) (by decide)]
    have hk1 : q = 1 := (nI_eq (by omega) (by decide)).mp (eq.symm.trans c1)
    obtain ⟨n, hn, en⟩ := w1 hk1
    rw [en, lN_i, ix3', ld_n (by omega) (by decide), nI_clamp (by omega)]
  rw [if_neg c1, if_neg c1]
  by_cases c2 : rg_A σ 0 t = 2
  · rw [if_pos c2, if_pos c2]
    unfold s_rX12_begins_b163 kn_v
    rcases har with rfl | ⟨e, he, rfl⟩
    · rfl
    · by_cases c3 : nI e = -1
      · rw [if_pos c3, if_pos c3]
      · rw [if_neg c3, if_neg c3, ld_n he (by decide), nI_clamp (by omega)]
  rw [if_neg c2, if_neg c2]
  by_cases c3 : rg_A σ 0 t = 3
  · rw [if_pos c3, if_pos c3]
  rw [if_neg c3, if_neg c3]
  by_cases c4 : rg_A σ 0 t = 4
  · rw [if_pos c4, if_pos c4]
  rw [if_neg c4, if_neg c4]
  by_cases c5 : rg_A σ 0 t = 5
  · rw [if_pos c5, if_pos c5, rounds_l hro, j4]
  rw [if_neg c5, if_neg c5]
  by_cases c6 : rg_A σ 0 t = 6
  · rw [if_pos c6, if_pos c6, r_arcs hE (show rg_I (m_b τ k) 2 = nI E from i2), kn_i_some, dg]
    rfl
  rw [if_neg c6, if_neg c6]
  by_cases c7 : rg_A σ 0 t = 7
  · rw [if_pos c7, if_pos c7]
  exfalso
  rw [eq] at c0 c1 c2 c3 c4 c5 c6 c7 hkd
  have h8 : ¬ 8 ≤ q := fun z => hkd ((nI_leI (a := 8) (by decide) (by omega)).mpr z)
  rcases (show q = 0 ∨ q = 1 ∨ q = 2 ∨ q = 3 ∨ q = 4 ∨ q = 5 ∨ q = 6 ∨ q = 7 by omega) with rfl | rfl | rfl | rfl | rfl | rfl | rfl | rfl
  · exact c0 rfl
  · exact c1 rfl
  · exact c2 rfl
  · exact c3 rfl
  · exact c4 rfl
  · exact c5 rfl
  · exact c6 rfl
  · exact c7 rfl
theorem r_begins_node {σ τ : RS} {T nd E ro k t sp : Nat} {ar : Int32} (hT : T ≤ 40) (hW : WT σ T) (ht : t < T) (hk : k + 1 < 44) (hsp : sp < 3000) (hM : MS τ k t sp) (hEE : EE σ τ nd E ro ar) (hkd : 8 ≤ rg_A σ 0 t) :
    s_rX12_begins τ (nI k) = some (0, m_pu (m_b τ k) (k + 1) (rg_A σ 1 t)) := by
  obtain ⟨h9, hp, hst, h10, h11⟩ := hM
  obtain ⟨e0, e1, e2, e3, b0, b1, b2, l2, i14, i4, j4, hro, l0, i12, i13, i2, dg⟩ := hEE
  obtain ⟨q, hq, eq, -⟩ := hW t ht
  have h8 : 8 ≤ q := (nI_leI (a := 8) (by decide) (by omega)).mp (by rw [← eq]; exact hkd)
  have hne : ∀ j : Nat, j < 8 → ¬ rg_A σ 0 t = nI j := fun j hj z => by
    have := (nI_eq (by omega) (by omega)).mp (eq.symm.trans z)
    omega
  unfold s_rX12_begins
  simp only [kn_v]
  rw [if_neg (by rw [h11]; exact fun z => by have := (nI_eq (by omega) (by decide)).mp (show nI sp = nI 3000 from z); omega)]
  rw [show rg_A (rs_I (rs_I τ 11 (rg_I τ 11 + 1)) 5 (rg_I (rs_I τ 11 (rg_I τ 11 + 1)) 5 + 1)) 12 = rg_A τ 12 from rfl, ld_n (by omega) (by decide), st_n (by omega) (by decide), nI_clamp (by omega), hp]
  rw [show rs_A (rs_I (rs_I τ 11 (rg_I τ 11 + 1)) 5 (rg_I (rs_I τ 11 (rg_I τ 11 + 1)) 5 + 1)) 13 (upd (rg_A (rs_I (rs_I τ 11 (rg_I τ 11 + 1)) 5 (rg_I (rs_I τ 11 (rg_I τ 11 + 1)) 5 + 1)) 13) k 1) = m_b τ k from rfl]
  rw [show rg_A (m_b τ k) 0 = rg_A τ 0 from rfl, e0, ld_n (by omega) (by decide)]
  rw [if_neg (show ¬ rg_A σ 0 t = 0 from hne 0 (by decide)), if_neg (show ¬ rg_A σ 0 t = 1 from hne 1 (by decide)), if_neg (show ¬ rg_A σ 0 t = 2 from hne 2 (by decide)), if_neg (show ¬ rg_A σ 0 t = 3 from hne 3 (by decide)), if_neg (show ¬ rg_A σ 0 t = 4 from hne 4 (by decide)), if_neg (show ¬ rg_A σ 0 t = 5 from hne 5 (by decide)), if_neg (show ¬ rg_A σ 0 t = 6 from hne 6 (by decide)), if_neg (show ¬ rg_A σ 0 t = 7 from hne 7 (by decide))]
  rw [show rg_A (m_b τ k) 1 = rg_A τ 1 from rfl, e1, ld_n (by omega) (by decide), r_push (k := k + 1) hk (show rg_I (m_b τ k) 9 = nI (k + 1) from h9), kn_u_some]

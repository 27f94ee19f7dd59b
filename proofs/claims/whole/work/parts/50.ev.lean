/-! PURE ROWS: no machine from here on. What a term comes to, as a function of the class's registers -/
theorem ld_n {α β : Type} {f : Nat → α} {n j : Nat} {k : α → Option β} (h : j < n) (hn : n < 2 ^ 31) : kn_ld f n (nI j) k = k (f j) := by
  unfold kn_ld
  rw [if_neg (nI_in h hn), nI_clamp (Nat.lt_trans h hn)]
theorem st_n {β : Type} {σ : RS} {n j : Nat} {k : RS → Option β} (h : j < n) (hn : n < 2 ^ 31) : kn_st σ n (nI j) k = k σ := by
  unfold kn_st
  rw [if_neg (nI_in h hn)]
theorem rs_ext {σ τ : RS} (h1 : ∀ k, rg_I σ k = rg_I τ k) (h2 : ∀ k, rg_L σ k = rg_L τ k) (h3 : ∀ k, rg_A σ k = rg_A τ k) (h4 : ∀ k, rg_B σ k = rg_B τ k) : σ = τ :=
  Prod.ext (funext h1) (Prod.ext (funext h2) (Prod.ext (funext h3) (funext h4)))
def e_p (σ : RS) (r t : Nat) : Nat := (rg_A σ r t).toNatClampNeg
def e_pl (σ : RS) (nd : Nat) (ar : Int32) (t : Nat) : Int64 :=
  if rg_A σ 0 t = 1 then rg_B σ 1 (nd * 3 + (rg_B σ 0 t).toInt32.toNatClampNeg)
  else if rg_A σ 0 t = 2 then (if ar = -1 then 0 else rg_B σ 2 ar.toNatClampNeg)
  else if rg_A σ 0 t = 3 then rg_L σ 1
  else if rg_A σ 0 t = 4 then (rg_I σ 14).toInt64
  else if rg_A σ 0 t = 5 then (rg_I σ 4 + 1).toInt64
  else if rg_A σ 0 t = 6 then (rg_A σ 5 nd).toInt64
  else if rg_A σ 0 t = 7 then rg_L σ 0
  else rg_B σ 0 t
def e_jn (k : Int32) (a b : Int64) : Int64 × Int32 :=
  if k = 8 then (a + b, 0) else if k = 9 then (a - b, 0) else if k = 10 then (a * b, 0)
  else if k = 13 then (if b ≤ a then b else a, 0) else if k = 14 then (if a ≤ b then b else a, 0) else if k = 15 then (if b ≤ a then 0 else 1, 0)
  else if b = 0 then (0, 1) else if k = 11 then (a / b, 0) else (a - a / b * b, 0)
abbrev EVR : Type := Int64 × Int32 × Nat
def e_k2 (k : Int32) (a : Int64) (b : EVR) : EVR := if b.2.1 = 0 then ((e_jn k a b.1).1, (e_jn k a b.1).2, b.2.2) else (0, b.2.1, b.2.2)
def e_k (σ : RS) (nd t : Nat) (rec : Nat → Nat → EVR) (a : EVR) : EVR :=
  if a.2.1 = 0 then
    if rg_A σ 0 t = 17 then (if a.1.toInt32 < 0 ∨ 3 ≤ a.1.toInt32 then (0, 2, a.2.2) else (rg_B σ 1 (nd * 3 + a.1.toInt32.toNatClampNeg), 0, a.2.2))
    else if rg_A σ 0 t = 16 then rec (if a.1 = 0 then e_p σ 3 t else e_p σ 2 t) a.2.2
    else e_k2 (rg_A σ 0 t) a.1 (rec (e_p σ 2 t) a.2.2)
  else (0, a.2.1, a.2.2)
/-- value, failure, steps spent behind it -/
def ev (σ : RS) (nd : Nat) (ar : Int32) : Nat → Nat → Nat → EVR
  | 0, _, sp => (0, 4, sp)
  | d + 1, t, sp => if 3000 ≤ sp then (0, 4, sp) else if 8 ≤ rg_A σ 0 t then e_k σ nd t (ev σ nd ar d) (ev σ nd ar d (e_p σ 1 t) (sp + 1)) else (e_pl σ nd ar t, 0, sp + 1)
theorem ev_s (σ : RS) (nd : Nat) (ar : Int32) (d t sp : Nat) : ev σ nd ar (d + 1) t sp = if 3000 ≤ sp then (0, 4, sp) else if 8 ≤ rg_A σ 0 t then e_k σ nd t (ev σ nd ar d) (ev σ nd ar d (e_p σ 1 t) (sp + 1)) else (e_pl σ nd ar t, 0, sp + 1) := rfl
/-- steps only grow, and stay in 3000 -/
theorem ev_sp {σ : RS} {nd : Nat} {ar : Int32} : ∀ (d t sp : Nat), sp ≤ 3000 → sp ≤ (ev σ nd ar d t sp).2.2 ∧ (ev σ nd ar d t sp).2.2 ≤ 3000
  | 0, t, sp, h => ⟨Nat.le_refl _, h⟩
  | d + 1, t, sp, h => by
    rw [ev_s]
    by_cases h1 : 3000 ≤ sp
    · rw [if_pos h1]; exact ⟨Nat.le_refl _, h⟩
    · rw [if_neg h1]
      by_cases h2 : 8 ≤ rg_A σ 0 t
      · rw [if_pos h2]
        have ha := ev_sp d (e_p σ 1 t) (sp + 1) (σ := σ) (nd := nd) (ar := ar) (by omega)
        generalize ev σ nd ar d (e_p σ 1 t) (sp + 1) = a at ha ⊢
        unfold e_k
        by_cases h3 : a.2.1 = 0
        · rw [if_pos h3]
          by_cases h4 : rg_A σ 0 t = 17
          · rw [if_pos h4]
            by_cases h5 : a.1.toInt32 < 0 ∨ 3 ≤ a.1.toInt32
            · rw [if_pos h5]; exact ⟨by show sp ≤ a.2.2; omega, ha.2⟩
            · rw [if_neg h5]; exact ⟨by show sp ≤ a.2.2; omega, ha.2⟩
          · rw [if_neg h4]
            by_cases h5 : rg_A σ 0 t = 16
            · rw [if_pos h5]
              have hb := ev_sp d (if a.1 = 0 then e_p σ 3 t else e_p σ 2 t) a.2.2 (σ := σ) (nd := nd) (ar := ar) ha.2
              exact ⟨by omega, hb.2⟩
            · rw [if_neg h5]
              have hb := ev_sp d (e_p σ 2 t) a.2.2 (σ := σ) (nd := nd) (ar := ar) ha.2
              generalize ev σ nd ar d (e_p σ 2 t) a.2.2 = b at hb ⊢
              unfold e_k2
              by_cases h6 : b.2.1 = 0
              · rw [if_pos h6]; exact ⟨by show sp ≤ b.2.2; omega, hb.2⟩
              · rw [if_neg h6]; exact ⟨by show sp ≤ b.2.2; omega, hb.2⟩
        · rw [if_neg h3]; exact ⟨by show sp ≤ a.2.2; omega, ha.2⟩
      · rw [if_neg h2]; exact ⟨by show sp ≤ sp + 1; omega, by show sp + 1 ≤ 3000; omega⟩
theorem e_jn_v (k : Int32) (a b : Int64) (h : (e_jn k a b).2 ≠ 0) : (e_jn k a b).1 = 0 := by
  revert h
  unfold e_jn
  repeat' split
  all_goals intro h
  all_goals first | rfl | exact absurd rfl h
/-- what fails comes to 0 -/
theorem ev_v {σ : RS} {nd : Nat} {ar : Int32} : ∀ (d t sp : Nat), (ev σ nd ar d t sp).2.1 ≠ 0 → (ev σ nd ar d t sp).1 = 0
  | 0, t, sp, h => rfl
  | d + 1, t, sp, h => by
    rw [ev_s] at h ⊢
    by_cases h1 : 3000 ≤ sp
    · rw [if_pos h1]
    · rw [if_neg h1] at h ⊢
      by_cases h2 : 8 ≤ rg_A σ 0 t
      · rw [if_pos h2] at h ⊢
        generalize ev σ nd ar d (e_p σ 1 t) (sp + 1) = a at h ⊢
        unfold e_k at h ⊢
        by_cases h3 : a.2.1 = 0
        · rw [if_pos h3] at h ⊢
          by_cases h4 : rg_A σ 0 t = 17
          · rw [if_pos h4] at h ⊢
            by_cases h5 : a.1.toInt32 < 0 ∨ 3 ≤ a.1.toInt32
            · rw [if_pos h5]
            · rw [if_neg h5] at h; exact absurd rfl h
          · rw [if_neg h4] at h ⊢
            by_cases h5 : rg_A σ 0 t = 16
            · rw [if_pos h5] at h ⊢
              exact ev_v d _ _ h
            · rw [if_neg h5] at h ⊢
              generalize ev σ nd ar d (e_p σ 2 t) a.2.2 = b at h ⊢
              unfold e_k2 at h ⊢
              by_cases h6 : b.2.1 = 0
              · rw [if_pos h6] at h ⊢; exact e_jn_v _ _ _ h
              · rw [if_neg h6]
        · rw [if_neg h3]
      · rw [if_neg h2] at h; exact absurd rfl h
/-- the terms of the class are well made -/
def WT (σ : RS) (T : Nat) : Prop := ∀ t, t < T → ∃ k, k ≤ 17 ∧ rg_A σ 0 t = nI k ∧ (k = 1 → ∃ n, n < 3 ∧ rg_B σ 0 t = lN n) ∧ (8 ≤ k → ∃ a, a < t ∧ rg_A σ 1 t = nI a) ∧ (8 ≤ k → k ≠ 17 → ∃ b, b < t ∧ rg_A σ 2 t = nI b) ∧ (k = 16 → ∃ c, c < t ∧ rg_A σ 3 t = nI c)
/-- the class's registers with steps, all steps and failure written -/
def cst (σ : RS) (sp : Nat) (al f : Int32) : RS := rs_I (rs_I (rs_I σ 15 (nI sp)) 17 al) 16 f
theorem cst_self {σ : RS} {sp : Nat} {al f : Int32} (h1 : rg_I σ 15 = nI sp) (h2 : rg_I σ 17 = al) (h3 : rg_I σ 16 = f) : cst σ sp al f = σ := by
  refine rs_ext (fun k => ?_) (fun _ => rfl) (fun _ => rfl) (fun _ => rfl)
  simp only [cst, rg_II]
  split
  · subst h3; simp_all
  · split
    · simp_all
    · split
      · simp_all
      · rfl
theorem cst_15 (σ : RS) (sp sp' : Nat) (al f : Int32) : rs_I (cst σ sp al f) 15 (nI sp') = cst σ sp' al f := by
  refine rs_ext (fun k => ?_) (fun _ => rfl) (fun _ => rfl) (fun _ => rfl)
  simp only [cst, rg_II]
  by_cases h1 : k = 15
  · subst h1; simp
  · simp [h1]
theorem cst_17 (σ : RS) (sp : Nat) (al al' f : Int32) : rs_I (cst σ sp al f) 17 al' = cst σ sp al' f := by
  refine rs_ext (fun k => ?_) (fun _ => rfl) (fun _ => rfl) (fun _ => rfl)
  simp only [cst, rg_II]
  by_cases h1 : k = 17
  · subst h1; simp
  · simp [h1]
theorem cst_16 (σ : RS) (sp : Nat) (al f f' : Int32) : rs_I (cst σ sp al f) 16 f' = cst σ sp al f' := by
  refine rs_ext (fun k => ?_) (fun _ => rfl) (fun _ => rfl) (fun _ => rfl)
  simp only [cst, rg_II]
  by_cases h1 : k = 16
  · subst h1; simp
  · simp [h1]
theorem cst_A (σ : RS) (sp : Nat) (al f : Int32) (k : Nat) : rg_A (cst σ sp al f) k = rg_A σ k := rfl
theorem cst_B (σ : RS) (sp : Nat) (al f : Int32) (k : Nat) : rg_B (cst σ sp al f) k = rg_B σ k := rfl
theorem cst_L (σ : RS) (sp : Nat) (al f : Int32) (k : Nat) : rg_L (cst σ sp al f) k = rg_L σ k := rfl
theorem cst_I15 (σ : RS) (sp : Nat) (al f : Int32) : rg_I (cst σ sp al f) 15 = nI sp := rfl
theorem cst_I16 (σ : RS) (sp : Nat) (al f : Int32) : rg_I (cst σ sp al f) 16 = f := rfl
theorem cst_I17 (σ : RS) (sp : Nat) (al f : Int32) : rg_I (cst σ sp al f) 17 = al := rfl
theorem cst_I (σ : RS) (sp : Nat) (al f : Int32) {k : Nat} (h1 : k ≠ 15) (h2 : k ≠ 16) (h3 : k ≠ 17) : rg_I (cst σ sp al f) k = rg_I σ k := by simp [cst, rg_II, h1, h2, h3]

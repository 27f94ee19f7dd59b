/-! messages of a node: how many, whether one, folded -/
def mcnt (g t : Nat → Int32) (x : Int32) : Nat → Nat
  | 0 => 0
  | n + 1 => mcnt g t x n + (if g n ≠ 0 ∧ t n = x then 1 else 0)
theorem mcnt_le (g t : Nat → Int32) (x : Int32) : ∀ n, mcnt g t x n ≤ n
  | 0 => Nat.le_refl _
  | n + 1 => by
    have h := mcnt_le g t x n
    unfold mcnt
    split <;> omega
theorem mcnt_t {g t : Nat → Int32} {x : Int32} {n : Nat} (h1 : g n ≠ 0) (h2 : t n = x) : mcnt g t x (n + 1) = mcnt g t x n + 1 := by
  show mcnt g t x n + (if g n ≠ 0 ∧ t n = x then 1 else 0) = _
  rw [if_pos ⟨h1, h2⟩]
theorem mcnt_f {g t : Nat → Int32} {x : Int32} {n : Nat} (h : ¬ (g n ≠ 0 ∧ t n = x)) : mcnt g t x (n + 1) = mcnt g t x n := by
  show mcnt g t x n + (if g n ≠ 0 ∧ t n = x then 1 else 0) = _
  rw [if_neg h]; rfl
theorem mcnt_cg {g t g' t' : Nat → Int32} {x : Int32} : ∀ n, (∀ i, i < n → g i = g' i) → (∀ i, i < n → t i = t' i) → mcnt g t x n = mcnt g' t' x n
  | 0, _, _ => rfl
  | n + 1, h1, h2 => by
    have ih := mcnt_cg (x := x) n (fun i hi => h1 i (by omega)) (fun i hi => h2 i (by omega))
    unfold mcnt
    rw [ih, h1 n (by omega), h2 n (by omega)]
theorem c_msgs_l {σ : RS} {E : Nat} {x : Int32} (hE : E ≤ 40) (he : rg_I σ 3 = nI E) : ∀ (n i : Nat), i ≤ E → E - i < n → kn_fix (fun _ _ _ _ => none) s_cX7_messagesTo_b4 n σ x (nI (mcnt (rg_A σ 11) (rg_A σ 7) x i)) (nI i) = some (nI (mcnt (rg_A σ 11) (rg_A σ 7) x E), σ)
  | 0, i, h1, h2 => absurd h2 (Nat.not_lt_zero _)
  | n + 1, i, h1, h2 => by
    rw [kn_fix_s, s_cX7_messagesTo_b4, he]
    by_cases c : E ≤ i
    · rw [if_pos ((nI_leI (by omega) (by omega)).mpr c), show i = E by omega]
    rw [if_neg (fun q => c ((nI_leI (by omega) (by omega)).mp q)), ld_n (show i < 40 by omega) (by decide)]
    have ih := c_msgs_l hE he n (i + 1) (x := x) (by omega) (by omega)
    by_cases q : rg_A σ 11 i = 0
    · rw [if_pos q, s_cX7_messagesTo_b40, kn_v, nI_1]
      rw [mcnt_f (fun z => z.1 q)] at ih
      exact ih
    · rw [if_neg q, ld_n (show i < 40 by omega) (by decide)]
      by_cases w : rg_A σ 7 i = x
      · rw [if_pos w, kn_v, s_cX7_messagesTo_b40, kn_v, nI_1, nI_1]
        rw [mcnt_t q w] at ih
        exact ih
      · rw [if_neg w, s_cX7_messagesTo_b40, kn_v, nI_1]
        rw [mcnt_f (fun z => w z.2)] at ih
        exact ih
theorem c_msgs {σ : RS} {E : Nat} {x : Int32} (hE : E ≤ 40) (he : rg_I σ 3 = nI E) : s_cX7_messagesTo σ x = some (nI (mcnt (rg_A σ 11) (rg_A σ 7) x E), σ) := by
  unfold s_cX7_messagesTo f_cX7_messagesTo_b4
  exact c_msgs_l hE he FU 0 (Nat.zero_le _) (by unfold FU; omega)
theorem r_reach_l {τ : RS} {E : Nat} {x a : Int32} (hE : E ≤ 40) (he : rg_I τ 2 = nI E) : ∀ (n i : Nat), i ≤ E → E - i < n → kn_fix (fun _ _ _ _ => none) s_rX12_isReached_b9 n τ x (if a ≠ 0 ∨ 0 < mcnt (rg_A τ 14) (rg_A τ 6) x i then 1 else 0) (nI i) = some (if a ≠ 0 ∨ 0 < mcnt (rg_A τ 14) (rg_A τ 6) x E then 1 else 0, τ)
  | 0, i, h1, h2 => absurd h2 (Nat.not_lt_zero _)
  | n + 1, i, h1, h2 => by
    rw [kn_fix_s, s_rX12_isReached_b9, he]
    by_cases c : E ≤ i
    · rw [if_pos ((nI_leI (by omega) (by omega)).mpr c), show i = E by omega]
      by_cases z : a ≠ 0 ∨ 0 < mcnt (rg_A τ 14) (rg_A τ 6) x E
      · rw [if_pos z]; rfl
      · rw [if_neg z]; rfl
    rw [if_neg (fun q => c ((nI_leI (by omega) (by omega)).mp q))]
    have ih := r_reach_l hE he n (i + 1) (x := x) (a := a) (by omega) (by omega)
    by_cases z : a ≠ 0 ∨ 0 < mcnt (rg_A τ 14) (rg_A τ 6) x i
    · rw [if_pos z, if_neg (by decide), s_rX12_isReached_b40, s_rX12_isReached_b45, kn_v, nI_1]
      have z' : a ≠ 0 ∨ 0 < mcnt (rg_A τ 14) (rg_A τ 6) x (i + 1) := by
        rcases z with z | z
        · exact Or.inl z
        · right
          show 0 < mcnt (rg_A τ 14) (rg_A τ 6) x i + _
          omega
      rw [if_pos z'] at ih
      exact ih
    · rw [if_neg z, if_pos rfl, ld_n (show i < 40 by omega) (by decide)]
      have z0 : ¬ a ≠ 0 ∧ mcnt (rg_A τ 14) (rg_A τ 6) x i = 0 := ⟨fun q => z (Or.inl q), by have : ¬ 0 < mcnt (rg_A τ 14) (rg_A τ 6) x i := fun q => z (Or.inr q); omega⟩
      by_cases q : rg_A τ 14 i = 0
      · rw [if_pos q, s_rX12_isReached_b44, s_rX12_isReached_b45, kn_v, nI_1]
        rw [mcnt_f (fun y => y.1 q), if_neg z] at ih
        exact ih
      · rw [if_neg q, ld_n (show i < 40 by omega) (by decide)]
        by_cases w : rg_A τ 6 i = x
        · rw [if_pos w, s_rX12_isReached_b40, s_rX12_isReached_b45, kn_v, nI_1]
          rw [mcnt_t q w, if_pos (Or.inr (by omega))] at ih
          exact ih
        · rw [if_neg w, s_rX12_isReached_b44, s_rX12_isReached_b45, kn_v, nI_1]
          rw [mcnt_f (fun y => w y.2), if_neg z] at ih
          exact ih
theorem r_reach {τ : RS} {E v : Nat} (hE : E ≤ 40) (hv : v < 12) (he : rg_I τ 2 = nI E) (hb : bit (rg_A τ 4 v)) : s_rX12_isReached τ (nI v) = some (if rg_A τ 4 v ≠ 0 ∨ 0 < mcnt (rg_A τ 14) (rg_A τ 6) (nI v) E then 1 else 0, τ) := by
  unfold s_rX12_isReached f_rX12_isReached_b9
  rw [ld_n hv (by decide)]
  have h := r_reach_l (x := nI v) (a := rg_A τ 4 v) hE he FU 0 (Nat.zero_le _) (by unfold FU; omega)
  rw [nI_0] at h
  have e : (if rg_A τ 4 v ≠ 0 ∨ 0 < mcnt (rg_A τ 14) (rg_A τ 6) (nI v) 0 then (1 : Int32) else 0) = rg_A τ 4 v := by
    rcases hb with q | q
    · rw [if_neg (fun z => z.elim (fun y => y q) (Nat.not_lt_zero _)), q]
    · rw [if_pos (Or.inl (by rw [q]; decide)), q]
  rw [e] at h
  exact h
/-! the fold -/
theorem ge0_msb (x : Int64) : 0 ≤ x ↔ x.toBitVec.msb = false := by
  rw [Int64.le_iff_toInt_le, show (0 : Int64).toInt = 0 from rfl, show x.toInt = x.toBitVec.toInt from rfl, BitVec.msb_eq_toInt]
  simp
theorem ge0_and (a b : Int64) : 0 ≤ (a &&& b) ↔ (0 ≤ a ∨ 0 ≤ b) := by
  rw [ge0_msb, ge0_msb, ge0_msb, Int64.toBitVec_and, BitVec.msb_and]
  cases a.toBitVec.msb <;> cases b.toBitVec.msb <;> simp
theorem r_over (τ : RS) (a b : Int64) : s_rX12_isOver τ a b = some (if 0 ≤ ((a ^^^ (a + b)) &&& (b ^^^ (a + b))) then 0 else 1, τ) := by
  unfold s_rX12_isOver
  simp only [kn_v]
  by_cases c1 : 0 ≤ (a ^^^ (a + b))
  · rw [if_pos c1, if_pos ((ge0_and _ _).mpr (Or.inl c1))]
  · rw [if_neg c1]
    by_cases c2 : 0 ≤ (b ^^^ (a + b))
    · rw [if_pos c2, if_pos ((ge0_and _ _).mpr (Or.inr c2))]
    · rw [if_neg c2, if_neg (fun z => ((ge0_and _ _).mp z).elim c1 c2)]

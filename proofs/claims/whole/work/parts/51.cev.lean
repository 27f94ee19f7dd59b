theorem ix3 (nd n : Nat) : nI nd * 3 + nI n = nI (nd * 3 + n) := by rw [show (3 : Int32) = nI 3 from rfl, pk_mul, nI_add]
theorem ix3' (nd n : Nat) : 3 * nI nd + nI n = nI (nd * 3 + n) := by rw [show (3 : Int32) = nI 3 from rfl, pk_mul, nI_add, Nat.mul_comm]
def e_ar (ar : Int32) : Prop := ar = -1 ∨ ∃ e, e < 40 ∧ ar = nI e
theorem c_plain {σ : RS} {T nd t : Nat} {ar : Int32} (hT : T ≤ 40) (hW : WT σ T) (ht : t < T) (hnd : nd < 12) (har : e_ar ar) : s_cX1_plainValue σ (nI t) (nI nd) ar = some (e_pl σ nd ar t, σ) := by
  obtain ⟨k, hk, ek, h1, -⟩ := hW t ht
  unfold s_cX1_plainValue e_pl
  rw [ld_n (by omega) (by decide)]
  by_cases c1 : rg_A σ 0 t = 1
  · rw [if_pos c1, if_pos c1]
    have hk1 : k = 1 := (nI_eq (by omega) (by decide)).mp (ek.symm.trans c1)
    obtain ⟨n, hn, en⟩ := h1 hk1
    rw [ld_n (by omega) (by decide), en, lN_i, ix3, ld_n (by omega) (by decide), nI_clamp (by omega)]
  · rw [if_neg c1, if_neg c1]
    by_cases c2 : rg_A σ 0 t = 2
    · rw [if_pos c2, if_pos c2]
      rcases har with rfl | ⟨e, he, rfl⟩
      · rfl
      · by_cases c3 : nI e = -1
        · rw [if_pos c3, if_pos c3]
        · rw [if_neg c3, if_neg c3, ld_n he (by decide), nI_clamp (by omega)]
    · rw [if_neg c2, if_neg c2]
      by_cases c3 : rg_A σ 0 t = 3
      · rw [if_pos c3, if_pos c3]
      · rw [if_neg c3, if_neg c3]
        by_cases c4 : rg_A σ 0 t = 4
        · rw [if_pos c4, if_pos c4]
        · rw [if_neg c4, if_neg c4]
          by_cases c5 : rg_A σ 0 t = 5
          · rw [if_pos c5, if_pos c5]
          · rw [if_neg c5, if_neg c5]
            by_cases c6 : rg_A σ 0 t = 6
            · rw [if_pos c6, if_pos c6, ld_n hnd (by decide)]
            · rw [if_neg c6, if_neg c6]
              by_cases c7 : rg_A σ 0 t = 7
              · rw [if_pos c7, if_pos c7]
              · rw [if_neg c7, if_neg c7, ld_n (by omega) (by decide)]
theorem i3_of {x : Int32} (h : ¬ (x < 0 ∨ 3 ≤ x)) : ∃ j, j < 3 ∧ x = nI j := by
  rcases pk_ix x (n := 3) (by decide) with q | q | q
  · exact absurd (Or.inl q) h
  · exact absurd (Or.inr q) h
  · exact q
theorem c_stateAt {σ : RS} {nd sp : Nat} {al : Int32} {x : Int32} (hnd : nd < 12) : s_cX1_stateAt (cst σ sp al 0) (nI nd) x = some (if x < 0 ∨ 3 ≤ x then (0, cst σ sp al 2) else (rg_B σ 1 (nd * 3 + x.toNatClampNeg), cst σ sp al 0)) := by
  unfold s_cX1_stateAt s_cX1_stateAt_b23 kn_v
  rw [cst_16]
  by_cases c1 : x < 0
  · rw [if_pos c1, if_pos (Or.inl c1)]
  · rw [if_neg c1]
    by_cases c2 : 3 ≤ x
    · rw [if_pos c2, if_pos (Or.inr c2)]
    · rw [if_neg c2, if_neg (fun h => h.elim c1 c2)]
      obtain ⟨j, hj, rfl⟩ := i3_of (fun h => h.elim c1 c2)
      rw [ix3, ld_n (by omega) (by decide), nI_clamp (by omega)]
      rfl
theorem c_joined {σ : RS} {sp : Nat} {al : Int32} {k : Int32} {a b : Int64} : s_cX1_joined (cst σ sp al 0) k a b = some ((e_jn k a b).1, cst σ sp al (e_jn k a b).2) := by
  unfold s_cX1_joined s_cX1_joined_b104 e_jn kn_v kn_nz64
  rw [cst_16]
  by_cases c8 : k = 8
  · rw [if_pos c8, if_pos c8]
  rw [if_neg c8, if_neg c8]
  by_cases c9 : k = 9
  · rw [if_pos c9, if_pos c9]
  rw [if_neg c9, if_neg c9]
  by_cases c10 : k = 10
  · rw [if_pos c10, if_pos c10]
  rw [if_neg c10, if_neg c10]
  by_cases c11 : k = 11
  · subst c11
    by_cases cb : b = 0 <;> simp [cb]
  rw [if_neg c11]
  by_cases c12 : k = 12
  · subst c12
    by_cases cb : b = 0 <;> simp [cb]
  rw [if_neg c12]
  by_cases c13 : k = 13
  · rw [if_pos c13, if_pos c13]
    by_cases q : b ≤ a
    · rw [if_pos q, if_pos q]
    · rw [if_neg q, if_neg q]
  rw [if_neg c13, if_neg c13]
  by_cases c14 : k = 14
  · rw [if_pos c14, if_pos c14]
    by_cases q : a ≤ b
    · rw [if_pos q, if_pos q]
    · rw [if_neg q, if_neg q]
  rw [if_neg c14, if_neg c14]
  by_cases c15 : k = 15
  · rw [if_pos c15, if_pos c15]
    by_cases q : b ≤ a
    · rw [if_pos q, if_pos q]
    · rw [if_neg q, if_neg q]
  rw [if_neg c15, if_neg c15]
  by_cases cb : b = 0
  · rw [if_pos cb, if_pos cb]
  · simp [cb, c11]
theorem e_pl_cst (σ : RS) (nd sp : Nat) (ar al f : Int32) (t : Nat) : e_pl (cst σ sp al f) nd ar t = e_pl σ nd ar t := rfl
theorem WT_cst {σ : RS} {T sp : Nat} {al f : Int32} (h : WT σ T) : WT (cst σ sp al f) T := h
theorem kn_l_some {β : Type} (v : Int64) (σ : RS) (k : Int64 → RS → Option β) : kn_l (some (v, σ)) k = k v σ := rfl
theorem kn_i_some {β : Type} (v : Int32) (σ : RS) (k : Int32 → RS → Option β) : kn_i (some (v, σ)) k = k v σ := rfl
theorem kn_u_some {β : Type} (σ : RS) (k : RS → Option β) : kn_u (some σ) k = k σ := rfl
theorem al_add (al : Int32) (a b : Nat) : al + nI a + nI b = al + nI (a + b) := by rw [Int32.add_assoc, nI_add]
theorem al_0 (al : Int32) : al + nI 0 = al := by rw [nI_0]; exact Int32.add_zero al
theorem r_cX1_s (d : Nat) (σ : RS) (x1 x2 x3 x4 : Int32) : r_cX1_valueOf (d + 1) σ x1 x2 x3 x4 = s_cX1_valueOf (r_cX1_valueOf d) σ x1 x2 x3 x4 := rfl
/-- valueOf comes to what 'ev' says -/
theorem cv_ev {σ : RS} {T nd : Nat} {ar : Int32} (hT : T ≤ 40) (hW : WT σ T) (hnd : nd < 12) (har : e_ar ar) : ∀ (d t lv sp : Nat) (al : Int32), t < T → t < d → lv + t < 40 → sp ≤ 3000 →
    r_cX1_valueOf d (cst σ sp al 0) (nI t) (nI nd) ar (nI lv) = some ((ev σ nd ar d t sp).1, cst σ (ev σ nd ar d t sp).2.2 (al + nI ((ev σ nd ar d t sp).2.2 - sp)) (ev σ nd ar d t sp).2.1)
  | 0, t, lv, sp, al, h1, h2, h3, h4 => absurd h2 (Nat.not_lt_zero _)
  | d + 1, t, lv, sp, al, h1, h2, h3, h4 => by
    rw [r_cX1_s, ev_s]
    unfold s_cX1_valueOf
    rw [cst_I15]
    by_cases c1 : 3000 ≤ sp
    · rw [if_pos (show (3000 : Int32) ≤ nI sp from (nI_leI (a := 3000) (by decide) (by omega)).mpr c1), if_pos c1]
      unfold s_cX1_valueOf_b17 s_cX1_fails kn_v
      rw [cst_16, kn_l_some]
      show some ((0 : Int64), cst σ sp al 4) = some (0, cst σ sp (al + nI (sp - sp)) 4)
      rw [Nat.sub_self, al_0]
    rw [if_neg (show ¬ (3000 : Int32) ≤ nI sp from fun q => c1 ((nI_leI (a := 3000) (by decide) (by omega)).mp q)), if_neg c1, if_pos (show nI lv < 40 from (nI_ltI (b := 40) (by omega) (by decide)).mpr (by omega))]
    simp only [kn_v]
    rw [nI_1 sp, cst_15, cst_I17, cst_17, show al + 1 = al + nI 1 from rfl, cst_A, ld_n (by omega) (by decide)]
    obtain ⟨k, hk, ek, w1, w2, w3, w4⟩ := hW t h1
    by_cases c2 : 8 ≤ rg_A σ 0 t
    · rw [if_pos c2, if_pos c2]
      have hk8 : 8 ≤ k := (nI_leI (a := 8) (by decide) (by omega)).mp (by rw [← ek]; exact c2)
      obtain ⟨a, ha, ea⟩ := w2 hk8
      have epa : e_p σ 1 t = a := by unfold e_p; rw [ea, nI_clamp (by omega)]
      rw [cst_A, ld_n (by omega) (by decide), ea, nI_1, cv_ev hT hW hnd har d a (lv + 1) (sp + 1) (al + nI 1) (by omega) (by omega) (by omega) (by omega), kn_l_some, cst_I16, epa]
      have hs := ev_sp d a (sp + 1) (σ := σ) (nd := nd) (ar := ar) (by omega)
      have hv := ev_v d a (sp + 1) (σ := σ) (nd := nd) (ar := ar)
      generalize ev σ nd ar d a (sp + 1) = A at hs hv ⊢
      obtain ⟨va, fa, sa⟩ := A
      dsimp only at hs hv ⊢
      unfold e_k
      dsimp only
      rw [al_add]
      by_cases c3 : fa = 0
      · rw [if_pos c3, if_pos c3]
        subst c3
        by_cases c4 : rg_A σ 0 t = 17
        · rw [if_pos c4, if_pos c4, c_stateAt hnd]
          by_cases c5 : va.toInt32 < 0 ∨ 3 ≤ va.toInt32
          · rw [if_pos c5, if_pos c5, kn_l_some]
            show some ((0 : Int64), cst σ sa (al + nI (1 + (sa - (sp + 1)))) 2) = some (0, cst σ sa (al + nI (sa - sp)) 2)
            rw [show 1 + (sa - (sp + 1)) = sa - sp by omega]
          · rw [if_neg c5, if_neg c5, kn_l_some]
            show some (rg_B σ 1 (nd * 3 + va.toInt32.toNatClampNeg), cst σ sa (al + nI (1 + (sa - (sp + 1)))) 0) = some (rg_B σ 1 (nd * 3 + va.toInt32.toNatClampNeg), cst σ sa (al + nI (sa - sp)) 0)
            rw [show 1 + (sa - (sp + 1)) = sa - sp by omega]
        · rw [if_neg c4, if_neg c4]
          have hk17 : k ≠ 17 := fun q => c4 (by rw [ek, q]; rfl)
          obtain ⟨b, hb, eb⟩ := w3 hk8 hk17
          have epb : e_p σ 2 t = b := by unfold e_p; rw [eb, nI_clamp (by omega)]
          by_cases c5 : rg_A σ 0 t = 16
          · rw [if_pos c5, if_pos c5]
            have hk16 : k = 16 := (nI_eq (by omega) (by decide)).mp (ek.symm.trans c5)
            obtain ⟨c, hc, ec⟩ := w4 hk16
            have epc : e_p σ 3 t = c := by unfold e_p; rw [ec, nI_clamp (by omega)]
            unfold s_cX1_valueOf_b151
            by_cases c6 : va = 0
            · rw [if_pos c6, if_pos c6, cst_A, ld_n (by omega) (by decide), ec, epc, nI_1, cv_ev hT hW hnd har d c (lv + 1) sa _ (by omega) (by omega) (by omega) hs.2, kn_l_some]
              have hs2 := ev_sp d c sa (σ := σ) (nd := nd) (ar := ar) hs.2
              rw [al_add, show 1 + (sa - (sp + 1)) + ((ev σ nd ar d c sa).2.2 - sa) = (ev σ nd ar d c sa).2.2 - sp by omega]
            · rw [if_neg c6, if_neg c6, cst_A, ld_n (by omega) (by decide), eb, epb, nI_1, cv_ev hT hW hnd har d b (lv + 1) sa _ (by omega) (by omega) (by omega) hs.2, kn_l_some]
              have hs2 := ev_sp d b sa (σ := σ) (nd := nd) (ar := ar) hs.2
              rw [al_add, show 1 + (sa - (sp + 1)) + ((ev σ nd ar d b sa).2.2 - sa) = (ev σ nd ar d b sa).2.2 - sp by omega]
          · rw [if_neg c5, if_neg c5, cst_A, ld_n (by omega) (by decide), eb, epb, cv_ev hT hW hnd har d b (lv + 1) sa _ (by omega) (by omega) (by omega) hs.2, kn_l_some, cst_I16]
            have hs2 := ev_sp d b sa (σ := σ) (nd := nd) (ar := ar) hs.2
            generalize ev σ nd ar d b sa = Bv at hs2 ⊢
            obtain ⟨vb, fb, sb⟩ := Bv
            dsimp only at hs2 ⊢
            unfold e_k2
            dsimp only
            rw [al_add]
            by_cases c6 : fb = 0
            · rw [if_pos c6, if_pos c6]
              subst c6
              rw [c_joined, kn_l_some]
              dsimp only
              rw [show 1 + (sa - (sp + 1)) + (sb - sa) = sb - sp by omega]
            · rw [if_neg c6, if_neg c6]
              dsimp only
              rw [show 1 + (sa - (sp + 1)) + (sb - sa) = sb - sp by omega]
      · rw [if_neg c3, if_neg c3]
        dsimp only
        rw [show 1 + (sa - (sp + 1)) = sa - sp by omega]
    · rw [if_neg c2, if_neg c2, c_plain hT (WT_cst hW) h1 hnd har, kn_l_some, e_pl_cst]
      dsimp only
      rw [show sp + 1 - sp = 1 by omega]

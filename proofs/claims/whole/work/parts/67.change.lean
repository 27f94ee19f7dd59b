/-! all at once: states and who is awake -/
theorem cp_n {β : Type} {σ : RS} {k : RS → Option β} {n0 n1 a b c : Nat} (h1 : a + c ≤ n0) (h2 : b + c ≤ n1) (h3 : n0 < 1000) (h4 : n1 < 1000) : kn_cp n0 n1 (nI a) (nI b) (nI c) σ k = k σ := by
  unfold kn_cp
  rw [nI_clamp (show a < 2 ^ 31 by omega), nI_clamp (show b < 2 ^ 31 by omega), nI_clamp (show c < 2 ^ 31 by omega), if_neg]
  rintro (q | q | q | q | q)
  · exact nI_pos (by omega) q
  · exact nI_pos (by omega) q
  · exact nI_pos (by omega) q
  · omega
  · omega
theorem n3 (v : Nat) : nI v * 3 = nI (v * 3) := by rw [show (3 : Int32) = nI 3 from rfl, pk_mul]
theorem c_change {σ : RS} {N : Nat} (hN : N ≤ 12) (s2 : rg_I σ 2 = nI N) (hb : ∀ u, u < N → bit (rg_A σ 12 u)) : ∃ σ', s_cX7_changeNodes σ = some σ' ∧ cF [] [] [4] [1] σ σ' ∧ (∀ u, u < N → (rg_A σ 12 u = 1 → (∀ j, j < 3 → rg_B σ' 1 (u * 3 + j) = rg_B σ 5 (u * 3 + j)) ∧ rg_A σ' 4 u = (if rg_A σ 13 u = 0 then 1 else 0)) ∧ (rg_A σ 12 u = 0 → (∀ j, j < 3 → rg_B σ' 1 (u * 3 + j) = rg_B σ 1 (u * 3 + j)) ∧ rg_A σ' 4 u = rg_A σ 4 u)) ∧ (∀ x, N * 3 ≤ x → rg_B σ' 1 x = rg_B σ 1 x) ∧ (∀ u, N ≤ u → rg_A σ' 4 u = rg_A σ 4 u) := by
  obtain ⟨σ', ⟨g1, g2, g3, g5⟩, g4⟩ := lp_1 (z := fun _ _ => none) (F := s_cX7_changeNodes_b2) (N := N) (I := fun i s => cF [] [] [4] [1] σ s ∧ (∀ u, u < i → (rg_A σ 12 u = 1 → (∀ j, j < 3 → rg_B s 1 (u * 3 + j) = rg_B σ 5 (u * 3 + j)) ∧ rg_A s 4 u = (if rg_A σ 13 u = 0 then 1 else 0)) ∧ (rg_A σ 12 u = 0 → (∀ j, j < 3 → rg_B s 1 (u * 3 + j) = rg_B σ 1 (u * 3 + j)) ∧ rg_A s 4 u = rg_A σ 4 u)) ∧ (∀ x, i * 3 ≤ x → rg_B s 1 x = rg_B σ 1 x) ∧ (∀ u, i ≤ u → rg_A s 4 u = rg_A σ 4 u)) (ex := fun s => some s) (fun f s i => f s i)
    (fun k i s hi hI => by
      obtain ⟨h1, h2, h3, h4⟩ := hI
      have e12 : rg_A s 12 = rg_A σ 12 := h1.2.2.1 12 (by decide)
      have e13 : rg_A s 13 = rg_A σ 13 := h1.2.2.1 13 (by decide)
      have e5 : rg_B s 5 = rg_B σ 5 := h1.2.2.2 5 (by decide)
      rcases hb i hi with z | z
      · refine ⟨s, ?_, h1, fun u hu => ?_, fun x hx => h3 x (by omega), fun u hu => h4 u (by omega)⟩
        · show s_cX7_changeNodes_b2 k s (nI i) = _
          rw [s_cX7_changeNodes_b2, h1.1 2 (by decide), s2, if_neg (fun q => by have := (nI_leI (by omega) (by omega)).mp q; omega), ld_n (show i < 12 by omega) (by decide), e12, if_pos z, s_cX7_changeNodes_b69, kn_v, nI_1]
        · by_cases w : u = i
          · subst w
            exact ⟨fun q => absurd (z.symm.trans q) (by decide), fun _ => ⟨fun j hj => h3 _ (by omega), h4 _ (Nat.le_refl _)⟩⟩
          · exact h2 u (by omega)
      · have cp1 : ∀ x, (x < i * 3 ∨ i * 3 + 3 ≤ x) → va_cpy (rg_B s 5) (rg_B s 1) (i * 3) (i * 3) 3 x = rg_B s 1 x := fun x hx => pk_cpy_out hx
        have cp2 : ∀ j, j < 3 → va_cpy (rg_B s 5) (rg_B s 1) (i * 3) (i * 3) 3 (i * 3 + j) = rg_B s 5 (i * 3 + j) := fun j hj => by rw [pk_cpy_in (by omega) (by omega), show i * 3 + (i * 3 + j - i * 3) = i * 3 + j by omega]
        refine ⟨rs_A (rs_B s 1 (va_cpy (rg_B s 5) (rg_B s 1) (i * 3) (i * 3) 3)) 4 (upd (rg_A s 4) i (if rg_A σ 13 i = 0 then 1 else 0)), ?_, cF_tr h1 (cF_tr (cF_B _ _ _ (by decide)) (cF_A _ _ _ (by decide))), fun u hu => ?_, fun x hx => ?_, fun u hu => ?_⟩
        · show s_cX7_changeNodes_b2 k s (nI i) = _
          rw [s_cX7_changeNodes_b2, h1.1 2 (by decide), s2, if_neg (fun q => by have := (nI_leI (by omega) (by omega)).mp q; omega), ld_n (show i < 12 by omega) (by decide), e12, if_neg (by rw [z]; decide), n3, show (3 : Int32) = nI 3 from rfl, cp_n (by omega) (by omega) (by decide) (by decide), ld_n (show i < 12 by omega) (by decide), nI_clamp (show i * 3 < 2 ^ 31 by omega), nI_clamp (show 3 < 2 ^ 31 by decide), show rg_A (rs_B s 1 (va_cpy (rg_B s 5) (rg_B s 1) (i * 3) (i * 3) 3)) 13 = rg_A s 13 from rfl, e13]
          by_cases w : rg_A σ 13 i = 0
          · rw [if_pos w, if_pos w, s_cX7_changeNodes_b68, st_n (show i < 12 by omega) (by decide), s_cX7_changeNodes_b69, kn_v, nI_1, nI_clamp (show i < 2 ^ 31 by omega)]; rfl
          · rw [if_neg w, if_neg w, s_cX7_changeNodes_b68, st_n (show i < 12 by omega) (by decide), s_cX7_changeNodes_b69, kn_v, nI_1, nI_clamp (show i < 2 ^ 31 by omega)]; rfl
        · by_cases w : u = i
          · subst w
            refine ⟨fun _ => ⟨fun j hj => ?_, pk_us⟩, fun q => absurd (z.symm.trans q) (by decide)⟩
            show va_cpy (rg_B s 5) (rg_B s 1) (u * 3) (u * 3) 3 (u * 3 + j) = _
            rw [cp2 j hj, e5]
          · obtain ⟨p1, p2⟩ := h2 u (by omega)
            refine ⟨fun q => ⟨fun j hj => ?_, ?_⟩, fun q => ⟨fun j hj => ?_, ?_⟩⟩
            · show va_cpy (rg_B s 5) (rg_B s 1) (i * 3) (i * 3) 3 (u * 3 + j) = _
              rw [cp1 _ (by omega)]; exact (p1 q).1 j hj
            · show upd (rg_A s 4) i _ u = _
              rw [pk_un w]; exact (p1 q).2
            · show va_cpy (rg_B s 5) (rg_B s 1) (i * 3) (i * 3) 3 (u * 3 + j) = _
              rw [cp1 _ (by omega)]; exact (p2 q).1 j hj
            · show upd (rg_A s 4) i _ u = _
              rw [pk_un w]; exact (p2 q).2
        · show va_cpy (rg_B s 5) (rg_B s 1) (i * 3) (i * 3) 3 x = _
          rw [cp1 _ (by omega)]; exact h3 x (by omega)
        · show upd (rg_A s 4) i _ u = _
          rw [pk_un (by omega)]; exact h4 u (by omega))
    (fun k s hI => by
      show s_cX7_changeNodes_b2 k s (nI N) = _
      rw [s_cX7_changeNodes_b2, hI.1.1 2 (by decide), s2, if_pos ((nI_leI (by omega) (by omega)).mpr (Nat.le_refl _))])
    FU 0 σ (Nat.zero_le _) (by unfold FU; omega) ⟨cF_rf _ _ _ _ _, fun u h => absurd h (Nat.not_lt_zero _), fun _ _ => rfl, fun _ _ => rfl⟩
  rw [nI_0] at g4
  refine ⟨σ', ?_, g1, g2, g3, g5⟩
  unfold s_cX7_changeNodes f_cX7_changeNodes_b2
  exact g4
/-- the registers that RC has, with states, awake, rounds and the whole written anew on both sides -/
theorem RC_dyn {σ τ σ' τ' : RS} {T N E ro ro' : Nat} {LI LL LA LB MI ML MA MB : List Nat} (h : RC σ τ T N E ro) (c : cF LI LL LA LB σ σ') (r : cF MI ML MA MB τ τ') (hc : ([0, 1, 2, 3, 5].all (fun i => decide (i ∉ LI)) && [0, 1, 2, 3, 5, 6, 7, 8].all (fun i => decide (i ∉ LA)) && [0, 2].all (fun i => decide (i ∉ LB))) = true) (hr : ([0, 1, 2, 3, 6].all (fun i => decide (i ∉ MI)) && [0, 1, 2, 3, 5, 6, 7].all (fun i => decide (i ∉ MA)) && [0, 2].all (fun i => decide (i ∉ MB))) = true)
    (e5 : rg_I τ' 5 = rg_I σ' 17) (e1 : rg_B τ' 1 = rg_B σ' 1) (e4 : rg_A τ' 4 = rg_A σ' 4) (el : rg_L τ' 0 = rg_L σ' 0) (er : rg_I σ' 4 = nI ro') (er' : rg_I τ' 4 = nI ro') (hro : ro' < 1000000) (hb : ∀ v, v < 12 → rg_A σ' 4 v = 0 ∨ rg_A σ' 4 v = 1) : RC σ' τ' T N E ro' := by
  simp only [Bool.and_eq_true, List.all_eq_true, decide_eq_true_eq] at hc hr
  obtain ⟨⟨c1, c3⟩, c4⟩ := hc
  obtain ⟨⟨r1, r3⟩, r4⟩ := hr
  obtain ⟨⟨hT, hN, hE, _⟩, hW, ⟨s1, t0, s2, t1, s3, t2, s4, t4⟩, ⟨a0, a1, a2, a3, b0⟩, ⟨b1, a4, a5, a6, b2, a7, i3, l0⟩, ⟨i5, i6⟩, dg, wf, wa, wo, wb⟩ := h
  unfold WT at hW
  unfold RC WT
  rw [c.2.2.1 0 (c3 0 (by decide)), c.2.2.1 1 (c3 1 (by decide)), c.2.2.1 2 (c3 2 (by decide)), c.2.2.1 3 (c3 3 (by decide)), c.2.2.1 5 (c3 5 (by decide)), c.2.2.1 6 (c3 6 (by decide)), c.2.2.1 7 (c3 7 (by decide)), c.2.2.1 8 (c3 8 (by decide)),
    c.2.2.2 0 (c4 0 (by decide)), c.2.2.2 2 (c4 2 (by decide)), c.1 0 (c1 0 (by decide)), c.1 1 (c1 1 (by decide)), c.1 2 (c1 2 (by decide)), c.1 3 (c1 3 (by decide)), c.1 5 (c1 5 (by decide)),
    r.1 0 (r1 0 (by decide)), r.1 1 (r1 1 (by decide)), r.1 2 (r1 2 (by decide)), r.1 3 (r1 3 (by decide)), r.1 6 (r1 6 (by decide)), r.2.2.1 0 (r3 0 (by decide)), r.2.2.1 1 (r3 1 (by decide)), r.2.2.1 2 (r3 2 (by decide)), r.2.2.1 3 (r3 3 (by decide)), r.2.2.1 5 (r3 5 (by decide)), r.2.2.1 6 (r3 6 (by decide)), r.2.2.1 7 (r3 7 (by decide)),
    r.2.2.2 0 (r4 0 (by decide)), r.2.2.2 2 (r4 2 (by decide))]
  exact ⟨⟨hT, hN, hE, hro⟩, hW, ⟨s1, t0, s2, t1, s3, t2, er, er'⟩, ⟨a0, a1, a2, a3, b0⟩, ⟨e1, e4, a5, a6, b2, a7, i3, el⟩, ⟨e5, i6⟩, dg, wf, wa, wo, hb⟩

/-! the loops of sendAll, pushed and pulled -/
theorem r_in_f {kr : RS → Int32 → Int32 → Option RS} {m v : Nat} {τ : RS} {x y : Int32} (hm : 0 < m) (hF : rg_A τ 8 0 ≠ 0) : kn_fix (fun _ _ _ _ => none) (s_rX12_sendAll_b40 kr) m τ x (nI v) y = kr τ x (nI (v + 1)) := by
  obtain ⟨m, rfl⟩ : ∃ q, m = q + 1 := ⟨m - 1, by omega⟩
  rw [kn_fix_s]
  rw [s_rX12_sendAll_b40, r_isF1 hF, kn_i_some, if_neg (show ¬ (1 : Int32) = 0 by decide), s_rX12_sendAll_b133, kn_v, nI_1]
  by_cases c : rg_I τ 2 ≤ y
  · rw [if_pos c]
  · rw [if_neg c]
theorem r_out_f {N : Nat} {τ : RS} {x : Int32} : ∀ (m v : Nat), v ≤ N → N - v < m → N ≤ 12 → rg_A τ 8 0 ≠ 0 → rg_I τ 1 = nI N → kn_fix (fun _ _ _ => none) s_rX12_sendAll_b30 m τ x (nI v) = some τ
  | 0, v, h1, h2, hN, hF, ht => absurd h2 (Nat.not_lt_zero _)
  | m + 1, v, h1, h2, hN, hF, ht => by
    rw [kn_fix_s]
    rw [s_rX12_sendAll_b30, ht]
    by_cases c : N ≤ v
    · rw [if_pos ((nI_leI (by omega) (by omega)).mpr c)]
    rw [if_neg (fun q => c ((nI_leI (by omega) (by omega)).mp q))]
    rw [f_rX12_sendAll_b40, r_in_f (by decide) hF]
    exact r_out_f m (v + 1) (by omega) (by omega) hN hF ht

theorem in_sim {kc : RS → Int32 → Option RS} {kr : RS → Int32 → Int32 → Option RS} {σ0 τ0 : RS} {T N E ro v : Nat} (hv : v < N) : ∀ (n m i : Nat) (σ τ : RS) (K sp : Nat), i ≤ E → E - i < n → E - i < m → SA σ0 τ0 σ τ T N E ro K sp → K ≤ S_n (rg_A σ0 6) v E + cnt (rg_A σ0 6) (nI v) i →
    (∃ (σ' τ' : RS) (K' sp' : Nat), kn_fix (fun _ _ _ => none) (s_cX7_sendAll_b38 kc) n σ (nI v) (nI i) = kc σ' (nI (v + 1)) ∧ kn_fix (fun _ _ _ _ => none) (s_rX12_sendAll_b40 kr) m τ 0 (nI v) (nI i) = kr τ' 0 (nI (v + 1)) ∧ SA σ0 τ0 σ' τ' T N E ro K' sp' ∧ K' ≤ S_n (rg_A σ0 6) (v + 1) E) ∨
    (∃ σ' τ' : RS, kn_fix (fun _ _ _ => none) (s_cX7_sendAll_b38 kc) n σ (nI v) (nI i) = some σ' ∧ kn_fix (fun _ _ _ _ => none) (s_rX12_sendAll_b40 kr) m τ 0 (nI v) (nI i) = kr τ' 0 (nI (v + 1)) ∧ SF σ0 τ0 σ' τ' T N E ro)
  | 0, m, i, σ, τ, K, sp, h1, h2, h3, h, hK => absurd h2 (Nat.not_lt_zero _)
  | n + 1, 0, i, σ, τ, K, sp, h1, h2, h3, h, hK => absurd h3 (Nat.not_lt_zero _)
  | n + 1, m + 1, i, σ, τ, K, sp, h1, h2, h3, h, hK => by
    have h' := h
    obtain ⟨hR, hC, hF, hc, hr, h18, h15, hs, hg, hm⟩ := h'
    have hR' := hR
    obtain ⟨⟨hT, hN, hE, hro⟩, hW, ⟨s1, t0, s2, t1, s3, t2, s4, t4⟩, ⟨a0, a1, a2, a3, b0⟩, ⟨b1, a4, a5, a6, b2, a7, i3, l0⟩, ⟨i5, i6⟩, dg, wf, wa, wo, wb⟩ := hR'
    have eR : rg_A σ 6 = rg_A σ0 6 := hc.2.2.1 6 (by decide)
    rw [kn_fix_s, kn_fix_s]
    rw [s_cX7_sendAll_b38, s_rX12_sendAll_b40, s3, t2]
    by_cases c : E ≤ i
    · rw [if_pos ((nI_leI (by omega) (by omega)).mpr c), if_pos ((nI_leI (by omega) (by omega)).mpr c)]
      have ei : i = E := by omega
      subst ei
      left
      refine ⟨σ, τ, K, sp, ?_, ?_, h, hK⟩
      · rw [s_cX7_sendAll_b102, kn_v, nI_1]
      · rw [s_rX12_sendAll_b133, kn_v, nI_1]
    rw [if_neg (fun q => c ((nI_leI (by omega) (by omega)).mp q)), if_neg (fun q => c ((nI_leI (by omega) (by omega)).mp q)), r_isF0 hF.2.1, kn_i_some, if_pos rfl, if_pos rfl, ld_n (f := rg_A σ 6) (show i < 40 by omega) (by decide), ld_n (f := rg_A τ 5) (show i < 40 by omega) (by decide), a5]
    have hiE : i < E := by omega
    obtain ⟨⟨nd, hnd, efr⟩, ⟨nt, hnt, eto⟩⟩ := wf i hiE
    -- the next arc, nothing sent
    have next : ∀ (σ2 τ2 : RS) (K2 sp2 : Nat), SA σ0 τ0 σ2 τ2 T N E ro K2 sp2 → K2 ≤ S_n (rg_A σ0 6) v E + cnt (rg_A σ0 6) (nI v) (i + 1) →
        (∃ (σ' τ' : RS) (K' sp' : Nat), s_cX7_sendAll_b85 kc (kn_fix (fun _ _ _ => none) (s_cX7_sendAll_b38 kc) n) σ2 (nI v) (nI i) = kc σ' (nI (v + 1)) ∧ s_rX12_sendAll_b127 kr (kn_fix (fun _ _ _ _ => none) (s_rX12_sendAll_b40 kr) m) τ2 0 (nI v) (nI i) = kr τ' 0 (nI (v + 1)) ∧ SA σ0 τ0 σ' τ' T N E ro K' sp' ∧ K' ≤ S_n (rg_A σ0 6) (v + 1) E) ∨
        (∃ σ' τ' : RS, s_cX7_sendAll_b85 kc (kn_fix (fun _ _ _ => none) (s_cX7_sendAll_b38 kc) n) σ2 (nI v) (nI i) = some σ' ∧ s_rX12_sendAll_b127 kr (kn_fix (fun _ _ _ _ => none) (s_rX12_sendAll_b40 kr) m) τ2 0 (nI v) (nI i) = kr τ' 0 (nI (v + 1)) ∧ SF σ0 τ0 σ' τ' T N E ro) := by
      intro σ2 τ2 K2 sp2 g1 g2
      have ih := in_sim (kc := kc) (kr := kr) hv n m (i + 1) σ2 τ2 K2 sp2 (by omega) (by omega) (by omega) g1 g2
      rw [s_cX7_sendAll_b85, s_rX12_sendAll_b127, c_is0 g1.2.2.1.1, kn_i_some, if_pos rfl, kn_v, kn_v, nI_1]
      exact ih
    have none_ : (∃ (σ' τ' : RS) (K' sp' : Nat), s_cX7_sendAll_b85 kc (kn_fix (fun _ _ _ => none) (s_cX7_sendAll_b38 kc) n) σ (nI v) (nI i) = kc σ' (nI (v + 1)) ∧ s_rX12_sendAll_b127 kr (kn_fix (fun _ _ _ _ => none) (s_rX12_sendAll_b40 kr) m) τ 0 (nI v) (nI i) = kr τ' 0 (nI (v + 1)) ∧ SA σ0 τ0 σ' τ' T N E ro K' sp' ∧ K' ≤ S_n (rg_A σ0 6) (v + 1) E) ∨
        (∃ σ' τ' : RS, s_cX7_sendAll_b85 kc (kn_fix (fun _ _ _ => none) (s_cX7_sendAll_b38 kc) n) σ (nI v) (nI i) = some σ' ∧ s_rX12_sendAll_b127 kr (kn_fix (fun _ _ _ _ => none) (s_rX12_sendAll_b40 kr) m) τ 0 (nI v) (nI i) = kr τ' 0 (nI (v + 1)) ∧ SF σ0 τ0 σ' τ' T N E ro) :=
      next σ τ K sp h (by have := cnt_mono (rg_A σ0 6) (nI v) i; omega)
    by_cases q : rg_A σ 6 i = nI v
    · rw [if_pos q, if_pos q]
      have ev : nd = v := (nI_eq (by omega) (by omega)).mp (efr.symm.trans q)
      rw [ld_n (f := rg_A σ 6) (show i < 40 by omega) (by decide), efr, ld_n (f := rg_A σ 4) (show nd < 12 by omega) (by decide), ld_n (f := rg_A τ 4) (show v < 12 by omega) (by decide), a4, show rg_A σ 4 v = rg_A σ 4 nd by rw [ev]]
      by_cases w : rg_A σ 4 nd = 0
      · rw [if_pos w, if_pos w]
        rw [s_rX12_sendAll_b82, s_rX12_sendAll_b115, if_pos rfl]
        exact none_
      · rw [if_neg w, if_neg w]
        rw [s_rX12_sendAll_b115, if_neg (by decide)]
        have k1 := cnt_lt (rg_A σ0 6) (nI v) E i hiE (by rw [← eR]; exact q)
        have k2 : S_n (rg_A σ0 6) (v + 1) E = S_n (rg_A σ0 6) v E + cnt (rg_A σ0 6) (nI v) E := rfl
        have k3 := S_n_le (rg_A σ0 6) (v + 1) (by omega) E
        obtain ⟨σ2, τ2, g1, g2, g3⟩ := send_sim h hiE hnd efr (by omega)
        rw [g1, kn_u_some, g2, kn_u_some]
        rcases g3 with ⟨K2, sp2, g4, g5⟩ | g5
        · exact next σ2 τ2 K2 sp2 g5 (by
            have e1 : cnt (rg_A σ0 6) (nI v) (i + 1) = cnt (rg_A σ0 6) (nI v) i + (if rg_A σ0 6 i = nI v then 1 else 0) := rfl
            rw [if_pos (by rw [← eR]; exact q)] at e1
            omega)
        · right
          refine ⟨σ2, τ2, ?_, ?_, g5⟩
          · rw [s_cX7_sendAll_b85, c_is1 g5.2.1.1, kn_i_some, if_neg (by decide)]
          · rw [s_rX12_sendAll_b127, kn_v]
            exact r_in_f (by omega) (FL1_r g5.2.1)
    · rw [if_neg q, if_neg q]
      rw [s_rX12_sendAll_b82, s_rX12_sendAll_b115, if_pos rfl]
      exact none_
theorem out_sim {σ0 τ0 : RS} {T N E ro : Nat} : ∀ (n m v : Nat) (σ τ : RS) (K sp : Nat), v ≤ N → N - v < n → N - v < m → SA σ0 τ0 σ τ T N E ro K sp → K ≤ S_n (rg_A σ0 6) v E →
    ∃ σ' τ' : RS, kn_fix (fun _ _ => none) s_cX7_sendAll_b24 n σ (nI v) = some σ' ∧ kn_fix (fun _ _ _ => none) s_rX12_sendAll_b30 m τ 0 (nI v) = some τ' ∧ ((∃ K' sp', K' ≤ 40 ∧ SA σ0 τ0 σ' τ' T N E ro K' sp') ∨ SF σ0 τ0 σ' τ' T N E ro)
  | 0, m, v, σ, τ, K, sp, h1, h2, h3, h, hK => absurd h2 (Nat.not_lt_zero _)
  | n + 1, 0, v, σ, τ, K, sp, h1, h2, h3, h, hK => absurd h3 (Nat.not_lt_zero _)
  | n + 1, m + 1, v, σ, τ, K, sp, h1, h2, h3, h, hK => by
    have hN : N ≤ 12 := h.1.1.2.1
    have hE : E ≤ 40 := h.1.1.2.2.1
    have s2 : rg_I σ 2 = nI N := h.1.2.2.1.2.2.1
    have t1 : rg_I τ 1 = nI N := h.1.2.2.1.2.2.2.1
    rw [kn_fix_s, kn_fix_s]
    rw [s_cX7_sendAll_b24, s_rX12_sendAll_b30, s2, t1]
    have k3 := S_n_le (rg_A σ0 6) v (by omega) E
    by_cases c : N ≤ v
    · rw [if_pos ((nI_leI (by omega) (by omega)).mpr c), if_pos ((nI_leI (by omega) (by omega)).mpr c)]
      exact ⟨σ, τ, rfl, rfl, Or.inl ⟨K, sp, by omega, h⟩⟩
    rw [if_neg (fun q => c ((nI_leI (by omega) (by omega)).mp q)), if_neg (fun q => c ((nI_leI (by omega) (by omega)).mp q))]
    rw [f_cX7_sendAll_b38, f_rX12_sendAll_b40]
    have hin := in_sim (kc := kn_fix (fun _ _ => none) s_cX7_sendAll_b24 n) (kr := kn_fix (fun _ _ _ => none) s_rX12_sendAll_b30 m) (show v < N by omega) FU FU 0 σ τ K sp (Nat.zero_le _) (by unfold FU; omega) (by unfold FU; omega) h hK
    rw [nI_0] at hin
    rcases hin with ⟨σ', τ', K', sp', g1, g2, g3, g4⟩ | ⟨σ', τ', g1, g2, g3⟩
    · rw [g1, g2]
      exact out_sim n m (v + 1) σ' τ' K' sp' (by omega) (by omega) (by omega) g3 g4
    · rw [g1, g2]
      exact ⟨σ', τ', rfl, r_out_f m (v + 1) (by omega) (by omega) hN (FL1_r g3.2.1) g3.1.2.2.1.2.2.2.1, Or.inr g3⟩

theorem in_sima {kc : RS → Int32 → Option RS} {kr : RS → Int32 → Int32 → Option RS} {σ0 τ0 : RS} {T N E ro v : Nat} (hv : v < N) : ∀ (n m i : Nat) (σ τ : RS) (K sp : Nat), i ≤ E → E - i < n → E - i < m → SA σ0 τ0 σ τ T N E ro K sp → K ≤ S_n (rg_A σ0 7) v E + cnt (rg_A σ0 7) (nI v) i →
    (∃ (σ' τ' : RS) (K' sp' : Nat), kn_fix (fun _ _ _ => none) (s_cX7_sendAll_b38a kc) n σ (nI v) (nI i) = kc σ' (nI (v + 1)) ∧ kn_fix (fun _ _ _ _ => none) (s_rX12_sendAll_b40 kr) m τ 1 (nI v) (nI i) = kr τ' 1 (nI (v + 1)) ∧ SA σ0 τ0 σ' τ' T N E ro K' sp' ∧ K' ≤ S_n (rg_A σ0 7) (v + 1) E) ∨
    (∃ σ' τ' : RS, kn_fix (fun _ _ _ => none) (s_cX7_sendAll_b38a kc) n σ (nI v) (nI i) = some σ' ∧ kn_fix (fun _ _ _ _ => none) (s_rX12_sendAll_b40 kr) m τ 1 (nI v) (nI i) = kr τ' 1 (nI (v + 1)) ∧ SF σ0 τ0 σ' τ' T N E ro)
  | 0, m, i, σ, τ, K, sp, h1, h2, h3, h, hK => absurd h2 (Nat.not_lt_zero _)
  | n + 1, 0, i, σ, τ, K, sp, h1, h2, h3, h, hK => absurd h3 (Nat.not_lt_zero _)
  | n + 1, m + 1, i, σ, τ, K, sp, h1, h2, h3, h, hK => by
    have h' := h
    obtain ⟨hR, hC, hF, hc, hr, h18, h15, hs, hg, hm⟩ := h'
    have hR' := hR
    obtain ⟨⟨hT, hN, hE, hro⟩, hW, ⟨s1, t0, s2, t1, s3, t2, s4, t4⟩, ⟨a0, a1, a2, a3, b0⟩, ⟨b1, a4, a5, a6, b2, a7, i3, l0⟩, ⟨i5, i6⟩, dg, wf, wa, wo, wb⟩ := hR'
    have eR : rg_A σ 7 = rg_A σ0 7 := hc.2.2.1 7 (by decide)
    rw [kn_fix_s, kn_fix_s]
    rw [s_cX7_sendAll_b38a, s_rX12_sendAll_b40, s3, t2]
    by_cases c : E ≤ i
    · rw [if_pos ((nI_leI (by omega) (by omega)).mpr c), if_pos ((nI_leI (by omega) (by omega)).mpr c)]
      have ei : i = E := by omega
      subst ei
      left
      refine ⟨σ, τ, K, sp, ?_, ?_, h, hK⟩
      · rw [s_cX7_sendAll_b102a, kn_v, nI_1]
      · rw [s_rX12_sendAll_b133, kn_v, nI_1]
    rw [if_neg (fun q => c ((nI_leI (by omega) (by omega)).mp q)), if_neg (fun q => c ((nI_leI (by omega) (by omega)).mp q)), r_isF0 hF.2.1, kn_i_some, if_pos rfl, if_neg (by decide), ld_n (f := rg_A σ 7) (show i < 40 by omega) (by decide), ld_n (f := rg_A τ 6) (show i < 40 by omega) (by decide), a6]
    have hiE : i < E := by omega
    obtain ⟨⟨nd, hnd, efr⟩, ⟨nt, hnt, eto⟩⟩ := wf i hiE
    -- the next arc, nothing sent
    have next : ∀ (σ2 τ2 : RS) (K2 sp2 : Nat), SA σ0 τ0 σ2 τ2 T N E ro K2 sp2 → K2 ≤ S_n (rg_A σ0 7) v E + cnt (rg_A σ0 7) (nI v) (i + 1) →
        (∃ (σ' τ' : RS) (K' sp' : Nat), s_cX7_sendAll_b85a kc (kn_fix (fun _ _ _ => none) (s_cX7_sendAll_b38a kc) n) σ2 (nI v) (nI i) = kc σ' (nI (v + 1)) ∧ s_rX12_sendAll_b127 kr (kn_fix (fun _ _ _ _ => none) (s_rX12_sendAll_b40 kr) m) τ2 1 (nI v) (nI i) = kr τ' 1 (nI (v + 1)) ∧ SA σ0 τ0 σ' τ' T N E ro K' sp' ∧ K' ≤ S_n (rg_A σ0 7) (v + 1) E) ∨
        (∃ σ' τ' : RS, s_cX7_sendAll_b85a kc (kn_fix (fun _ _ _ => none) (s_cX7_sendAll_b38a kc) n) σ2 (nI v) (nI i) = some σ' ∧ s_rX12_sendAll_b127 kr (kn_fix (fun _ _ _ _ => none) (s_rX12_sendAll_b40 kr) m) τ2 1 (nI v) (nI i) = kr τ' 1 (nI (v + 1)) ∧ SF σ0 τ0 σ' τ' T N E ro) := by
      intro σ2 τ2 K2 sp2 g1 g2
      have ih := in_sima (kc := kc) (kr := kr) hv n m (i + 1) σ2 τ2 K2 sp2 (by omega) (by omega) (by omega) g1 g2
      rw [s_cX7_sendAll_b85a, s_rX12_sendAll_b127, c_is0 g1.2.2.1.1, kn_i_some, if_pos rfl, kn_v, kn_v, nI_1]
      exact ih
    have none_ : (∃ (σ' τ' : RS) (K' sp' : Nat), s_cX7_sendAll_b85a kc (kn_fix (fun _ _ _ => none) (s_cX7_sendAll_b38a kc) n) σ (nI v) (nI i) = kc σ' (nI (v + 1)) ∧ s_rX12_sendAll_b127 kr (kn_fix (fun _ _ _ _ => none) (s_rX12_sendAll_b40 kr) m) τ 1 (nI v) (nI i) = kr τ' 1 (nI (v + 1)) ∧ SA σ0 τ0 σ' τ' T N E ro K' sp' ∧ K' ≤ S_n (rg_A σ0 7) (v + 1) E) ∨
        (∃ σ' τ' : RS, s_cX7_sendAll_b85a kc (kn_fix (fun _ _ _ => none) (s_cX7_sendAll_b38a kc) n) σ (nI v) (nI i) = some σ' ∧ s_rX12_sendAll_b127 kr (kn_fix (fun _ _ _ _ => none) (s_rX12_sendAll_b40 kr) m) τ 1 (nI v) (nI i) = kr τ' 1 (nI (v + 1)) ∧ SF σ0 τ0 σ' τ' T N E ro) :=
      next σ τ K sp h (by have := cnt_mono (rg_A σ0 7) (nI v) i; omega)
    by_cases q : rg_A σ 7 i = nI v
    · rw [if_pos q, if_pos q]
      rw [ld_n (f := rg_A σ 6) (show i < 40 by omega) (by decide), ld_n (f := rg_A τ 5) (show i < 40 by omega) (by decide), a5, efr, ld_n (f := rg_A σ 4) (show nd < 12 by omega) (by decide), ld_n (f := rg_A τ 4) (show nd < 12 by omega) (by decide), a4]
      by_cases w : rg_A σ 4 nd = 0
      · rw [if_pos w, if_pos w]
        rw [s_rX12_sendAll_b114, s_rX12_sendAll_b115, if_pos rfl]
        exact none_
      · rw [if_neg w, if_neg w]
        rw [s_rX12_sendAll_b115, if_neg (by decide)]
        have k1 := cnt_lt (rg_A σ0 7) (nI v) E i hiE (by rw [← eR]; exact q)
        have k2 : S_n (rg_A σ0 7) (v + 1) E = S_n (rg_A σ0 7) v E + cnt (rg_A σ0 7) (nI v) E := rfl
        have k3 := S_n_le (rg_A σ0 7) (v + 1) (by omega) E
        obtain ⟨σ2, τ2, g1, g2, g3⟩ := send_sim h hiE hnd efr (by omega)
        rw [g1, kn_u_some, g2, kn_u_some]
        rcases g3 with ⟨K2, sp2, g4, g5⟩ | g5
        · exact next σ2 τ2 K2 sp2 g5 (by
            have e1 : cnt (rg_A σ0 7) (nI v) (i + 1) = cnt (rg_A σ0 7) (nI v) i + (if rg_A σ0 7 i = nI v then 1 else 0) := rfl
            rw [if_pos (by rw [← eR]; exact q)] at e1
            omega)
        · right
          refine ⟨σ2, τ2, ?_, ?_, g5⟩
          · rw [s_cX7_sendAll_b85a, c_is1 g5.2.1.1, kn_i_some, if_neg (by decide)]
          · rw [s_rX12_sendAll_b127, kn_v]
            exact r_in_f (by omega) (FL1_r g5.2.1)
    · rw [if_neg q, if_neg q]
      rw [s_rX12_sendAll_b114, s_rX12_sendAll_b115, if_pos rfl]
      exact none_
theorem out_sima {σ0 τ0 : RS} {T N E ro : Nat} : ∀ (n m v : Nat) (σ τ : RS) (K sp : Nat), v ≤ N → N - v < n → N - v < m → SA σ0 τ0 σ τ T N E ro K sp → K ≤ S_n (rg_A σ0 7) v E →
    ∃ σ' τ' : RS, kn_fix (fun _ _ => none) s_cX7_sendAll_b24a n σ (nI v) = some σ' ∧ kn_fix (fun _ _ _ => none) s_rX12_sendAll_b30 m τ 1 (nI v) = some τ' ∧ ((∃ K' sp', K' ≤ 40 ∧ SA σ0 τ0 σ' τ' T N E ro K' sp') ∨ SF σ0 τ0 σ' τ' T N E ro)
  | 0, m, v, σ, τ, K, sp, h1, h2, h3, h, hK => absurd h2 (Nat.not_lt_zero _)
  | n + 1, 0, v, σ, τ, K, sp, h1, h2, h3, h, hK => absurd h3 (Nat.not_lt_zero _)
  | n + 1, m + 1, v, σ, τ, K, sp, h1, h2, h3, h, hK => by
    have hN : N ≤ 12 := h.1.1.2.1
    have hE : E ≤ 40 := h.1.1.2.2.1
    have s2 : rg_I σ 2 = nI N := h.1.2.2.1.2.2.1
    have t1 : rg_I τ 1 = nI N := h.1.2.2.1.2.2.2.1
    rw [kn_fix_s, kn_fix_s]
    rw [s_cX7_sendAll_b24a, s_rX12_sendAll_b30, s2, t1]
    have k3 := S_n_le (rg_A σ0 7) v (by omega) E
    by_cases c : N ≤ v
    · rw [if_pos ((nI_leI (by omega) (by omega)).mpr c), if_pos ((nI_leI (by omega) (by omega)).mpr c)]
      exact ⟨σ, τ, rfl, rfl, Or.inl ⟨K, sp, by omega, h⟩⟩
    rw [if_neg (fun q => c ((nI_leI (by omega) (by omega)).mp q)), if_neg (fun q => c ((nI_leI (by omega) (by omega)).mp q))]
    rw [f_cX7_sendAll_b38a, f_rX12_sendAll_b40]
    have hin := in_sima (kc := kn_fix (fun _ _ => none) s_cX7_sendAll_b24a n) (kr := kn_fix (fun _ _ _ => none) s_rX12_sendAll_b30 m) (show v < N by omega) FU FU 0 σ τ K sp (Nat.zero_le _) (by unfold FU; omega) (by unfold FU; omega) h hK
    rw [nI_0] at hin
    rcases hin with ⟨σ', τ', K', sp', g1, g2, g3, g4⟩ | ⟨σ', τ', g1, g2, g3⟩
    · rw [g1, g2]
      exact out_sima n m (v + 1) σ' τ' K' sp' (by omega) (by omega) (by omega) g3 g4
    · rw [g1, g2]
      exact ⟨σ', τ', rfl, r_out_f m (v + 1) (by omega) (by omega) hN (FL1_r g3.2.1) g3.1.2.2.1.2.2.2.1, Or.inr g3⟩

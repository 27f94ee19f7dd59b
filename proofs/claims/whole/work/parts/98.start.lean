/-! the beginning: both sides are as the document says of a new object -/
theorem actf_m1 : ∀ a, a < 7 → actf a = -1 := by
  intro a ha
  rcases (show a = 0 ∨ a = 1 ∨ a = 2 ∨ a = 3 ∨ a = 4 ∨ a = 5 ∨ a = 6 by omega) with rfl | rfl | rfl | rfl | rfl | rfl | rfl <;> rfl
theorem start_RR : ∃ r1, s_rX12_clearFailed rr0 = some r1 ∧ RR 0 cs0 r1 := by
  obtain ⟨r1, h1, h2, h3⟩ := clr_sim (σ := cs0) (τ := rr0)
  refine ⟨r1, h1, 0, 0, 0, 0, 0, 0, ⟨⟨by decide, by decide, by decide, by decide⟩, fun t ht => absurd ht (Nat.not_lt_zero _), ⟨rfl, ?_, rfl, ?_, rfl, ?_, rfl, ?_⟩, ⟨?_, ?_, ?_, ?_, ?_⟩, ⟨?_, ?_, ?_, ?_, ?_, ?_, ?_, ?_⟩, ⟨?_, ?_⟩, fun v hv => rfl, fun e he => absurd he (Nat.not_lt_zero _), fun a ha => Or.inl (actf_m1 a ha), ⟨0, by decide, rfl⟩, fun v hv => Or.inl rfl⟩, Nat.le_refl _, Or.inl ⟨rfl, h3.2⟩, ⟨by decide, by decide, rfl, ?_, rfl, fun i hi => absurd hi (Nat.not_lt_zero _)⟩, ⟨0, by decide, rfl, ?_, fun i hi => absurd hi (Nat.not_lt_zero _)⟩⟩
  · rw [h2.1 0 (by decide)]; rfl
  · rw [h2.1 1 (by decide)]; rfl
  · rw [h2.1 2 (by decide)]; rfl
  · rw [h2.1 4 (by decide)]; rfl
  · rw [h2.2.2.1 0 (by decide)]; rfl
  · rw [h2.2.2.1 1 (by decide)]; rfl
  · rw [h2.2.2.1 2 (by decide)]; rfl
  · rw [h2.2.2.1 3 (by decide)]; rfl
  · rw [h2.2.2.2 0 (by decide)]; rfl
  · rw [h2.2.2.2 1 (by decide)]; rfl
  · rw [h2.2.2.1 4 (by decide)]; rfl
  · rw [h2.2.2.1 5 (by decide)]; rfl
  · rw [h2.2.2.1 6 (by decide)]; rfl
  · rw [h2.2.2.2 2 (by decide)]; rfl
  · rw [h2.2.2.1 7 (by decide)]; rfl
  · rw [h2.1 3 (by decide)]; rfl
  · rw [h2.2.1 0 (by decide)]; rfl
  · rw [h2.1 5 (by decide)]; rfl
  · rw [h2.1 6 (by decide)]; rfl
  · rw [h2.1 7 (by decide)]; rfl
  · rw [h2.1 8 (by decide)]; rfl
theorem lw_arr {args : Array Value} {s : State} {ty : FieldType} (h : (Cond.arrayClass ty).before args s = true) : ∃ cA, ArrOfT s cA ty ∧ s.vm.findClass ("[" ++ ty.toString) = some cA := by
  obtain ⟨c, k, comp, h1, h2, h3⟩ := Cond.arrayClass_spec h
  exact ⟨c, fun n z => ⟨(fun k h => by cases h), k, h2, comp, h3⟩, h1⟩
theorem lw_arrO {s : State} (h : va_AO RX4 s) : ∃ cA, ArrOfT s cA (.object RX4) ∧ va_RA s cA (.object RX4) := by
  obtain ⟨comp, c, k, h1, -, h3, h4, h5⟩ := Cond.arrayOver_spec h
  exact ⟨c, fun n z => ⟨(fun k h => by cases h), k, h3, comp, h4⟩, k, comp, h3, h4, h1, h5⟩
theorem P_left {D : va_G} {cl : List vw_C} {a b : va_W} {H : Heap} (h : va_P D cl (a ++ b) H) : va_P D cl a H := fun k q hk => h k q (by rw [List.getElem?_append_left (List.getElem?_eq_some_iff.mp hk).1]; exact hk)
theorem P_right {D : va_G} {cl : List vw_C} {a b : va_W} {H : Heap} (h : va_P D cl (a ++ b) H) : va_P D cl b H := fun k q hk => h (a.length + k) q (by rw [List.getElem?_append_right (Nat.le_add_right _ _), Nat.add_sub_cancel_left]; exact hk)
theorem D_both {N M : Nat} {A : Nat → Prop} {ad ae : Nat → Nat} {a b : va_W} (h : va_D A (a ++ b)) (ha : a.map (·.1) = (List.range N).map ad) (hb : b.map (·.1) = (List.range M).map ae) : jw_ap N ad ∧ jw_ap M ae ∧ (∀ i j, i < N → j < M → ad i ≠ ae j) ∧ (∀ i, i < N → A (ad i)) ∧ ∀ j, j < M → A (ae j) := by
  have la : a.length = N := by have := congrArg List.length ha; rw [List.length_map, List.length_map, List.length_range] at this; exact this
  have lb : b.length = M := by have := congrArg List.length hb; rw [List.length_map, List.length_map, List.length_range] at this; exact this
  have atA : ∀ i, i < N → ∃ q : Nat × va_E, (a ++ b)[i]? = some q ∧ q.1 = ad i := by
    intro i hi
    have h1 : (a.map (·.1))[i]? = some (ad i) := by rw [ha, List.getElem?_map, List.getElem?_range hi]; rfl
    rw [List.getElem?_map] at h1
    cases hq : a[i]? with
    | none => rw [hq] at h1; cases h1
    | some q => rw [hq] at h1; exact ⟨q, by rw [List.getElem?_append_left (by omega)]; exact hq, Option.some.inj h1⟩
  have atB : ∀ j, j < M → ∃ q : Nat × va_E, (a ++ b)[N + j]? = some q ∧ q.1 = ae j := by
    intro j hj
    have h1 : (b.map (·.1))[j]? = some (ae j) := by rw [hb, List.getElem?_map, List.getElem?_range hj]; rfl
    rw [List.getElem?_map] at h1
    cases hq : b[j]? with
    | none => rw [hq] at h1; cases h1
    | some q => rw [hq] at h1; exact ⟨q, by rw [List.getElem?_append_right (by omega), la, Nat.add_sub_cancel_left]; exact hq, Option.some.inj h1⟩
  refine ⟨fun i j hi hj e => ?_, fun i j hi hj e => ?_, fun i j hi hj e => ?_, fun i hi => ?_, fun j hj => ?_⟩
  · obtain ⟨p, p1, p2⟩ := atA i hi
    obtain ⟨q, q1, q2⟩ := atA j hj
    exact h.1 i j p q p1 q1 (by rw [p2, q2, e])
  · obtain ⟨p, p1, p2⟩ := atB i hi
    obtain ⟨q, q1, q2⟩ := atB j hj
    have := h.1 (N + i) (N + j) p q p1 q1 (by rw [p2, q2, e])
    omega
  · obtain ⟨p, p1, p2⟩ := atA i hi
    obtain ⟨q, q1, q2⟩ := atB j hj
    have := h.1 i (N + j) p q p1 q1 (by rw [p2, q2, e])
    omega
  · obtain ⟨p, p1, p2⟩ := atA i hi
    rw [← p2]; exact h.2 i p p1
  · obtain ⟨q, q1, q2⟩ := atB j hj
    rw [← q2]; exact h.2 (N + j) q q1
set_option maxHeartbeats 4000000 in
set_option maxRecDepth 100000 in
/-- THE LAW, from its entry -/
theorem whole_start {p : Program} {e : Env} {s : State} {m : MethodId} {below : List Frame} {meth : Method} {c : Code} (l : Launch) {b L : Nat} {xs : Nat → Int32} (hL : L ≤ 3584) (C0 : lw_At p s m meth c b L xs) : W p l e room_1 s m #[Value.ref b] below meth c s.heap [] 0 0 (lw_Z below #[Value.ref b] s) (entryFrame m ([Value.ref b] : List Value).toArray 4) := by
  obtain ⟨hx, hb, hr, hml, hown, hts0, hX, hbl, hlocks, hgv⟩ := id C0
  have hown : s.vm.findClass RL = some m.cls := hown
  have hA : ∀ q : Nat, s.heap.size ≤ q → (fun q : Nat => s.heap.size ≤ q) q := fun _ h => h
  have hts : ∀ w ∈ KW, w.before #[Value.ref b] s = true := fun w hw => hts0 w (List.mem_filter.mp hw).1
  have hN : ∀ x ∈ NW, va_Nw x s := fun x hx9 => by
    obtain ⟨h1, h2⟩ := List.mem_filter.mp hx9
    exact va_Nw.of (by cases x <;> first | rfl | cases h2) (hts0 x h1)
  have hAO : va_AO RX4 s := va_AO.of (hts0 (.arrayOver (.object RX4)) (List.mem_of_getElem? (i := 220) (by decide +kernel)))
  obtain ⟨c0, iS0, hKn0⟩ := u_known (C := RX0) (T := TX0) (N := 4) (n := 4) hts inK_X0 (hts _ kw_301)
  obtain ⟨c1, iS1, hKn1⟩ := u_known (C := RX1) (T := TX1) (N := 7) (n := 7) hts inK_X1 (hts _ kw_270)
  obtain ⟨c2, iS2, hKn2⟩ := u_known (C := RX2) (T := TX2) (N := 5) (n := 5) hts inK_X2 (hts _ kw_192)
  obtain ⟨c3, iS3, hKn3⟩ := u_known (C := RX3) (T := TX3) (N := 11) (n := 11) hts inK_X3 (hts _ kw_370)
  obtain ⟨c4, iS4, hKn4⟩ := u_known (C := RX4) (T := TX4) (N := 4) (n := 4) hts inK_X4 (hts _ kw_221)
  obtain ⟨c5, iS5, hKn5⟩ := u_known (C := RX5) (T := TX5) (N := 3) (n := 3) hts inK_X5 (hts _ kw_214)
  obtain ⟨c6, iS6, hKn6⟩ := u_known (C := RX6) (T := TX6) (N := 2) (n := 2) hts inK_X6 (hts _ kw_176)
  obtain ⟨c7, iS7, hKn7⟩ := u_known (C := RX7) (T := TX7) (N := 12) (n := 12) hts inK_X7 (hts _ kw_327)
  obtain ⟨c8, iS8, hKn8⟩ := u_known (C := RX8) (T := TX8) (N := 6) (n := 6) hts inK_X8 (hts _ kw_76)
  obtain ⟨c9, iS9, hKn9⟩ := u_known (C := RX9) (T := TX9) (N := 3) (n := 3) hts inK_X9 (hts _ kw_251)
  obtain ⟨c10, iS10, hKn10⟩ := u_known (C := RX10) (T := TX10) (N := 10) (n := 10) hts inK_X10 (hts _ kw_109)
  obtain ⟨c11, iS11, hKn11⟩ := u_known (C := RX11) (T := TX11) (N := 11) (n := 11) hts inK_X11 (hts _ kw_68)
  obtain ⟨c12, iS12, hKn12⟩ := u_known (C := RX12) (T := TX12) (N := 53) (n := 53) hts inK_X12 (hts _ kw_750)
  obtain ⟨dC, dI, hKc⟩ : ∃ (dC : Nat → ClassId) (dI : Nat → Nat → Nat), ∀ (k : Nat) (q : vw_C), vwCl[k]? = some q → u_Kn s q.1 q.2.1 q.2.2 (dC k) (dI k) := by
    refine ⟨fun k => ([c0, c1, c2, c3, c4, c5, c6, c7, c8, c9, c10, c11, c12] : List ClassId).getD k c0, fun k => ([iS0, iS1, iS2, iS3, iS4, iS5, iS6, iS7, iS8, iS9, iS10, iS11, iS12] : List (Nat → Nat)).getD k iS0, ?_⟩
    intro k q hq
    match k, hq with
    | 0, hq => cases hq; exact hKn0
    | 1, hq => cases hq; exact hKn1
    | 2, hq => cases hq; exact hKn2
    | 3, hq => cases hq; exact hKn3
    | 4, hq => cases hq; exact hKn4
    | 5, hq => cases hq; exact hKn5
    | 6, hq => cases hq; exact hKn6
    | 7, hq => cases hq; exact hKn7
    | 8, hq => cases hq; exact hKn8
    | 9, hq => cases hq; exact hKn9
    | 10, hq => cases hq; exact hKn10
    | 11, hq => cases hq; exact hKn11
    | 12, hq => cases hq; exact hKn12
    | k + 13, hq => simp [vwCl] at hq
  obtain ⟨k0, a0, n0⟩ := lw_arr (hts _ kw_106)
  obtain ⟨k1, a1, n1⟩ := lw_arr (hts _ kw_107)
  obtain ⟨k2, a2, n2⟩ := lw_arr (hts _ kw_174)
  obtain ⟨k3, a3, n3'⟩ := lw_arrO hAO
  obtain ⟨kA, e0, e1, e2, e3⟩ : ∃ kA : Nat → ClassId, kA 0 = k0 ∧ kA 1 = k1 ∧ kA 2 = k2 ∧ kA 3 = k3 := ⟨fun k => ([k0, k1, k2, k3] : List ClassId).getD k k0, rfl, rfl, rfl, rfl⟩
  subst e0 e1 e2 e3
  have hK : va_K (dC, dI) vwCl (jtys kA) s := ⟨hKc, fun k q hq => by
    match k, hq with
    | 0, hq => cases hq; exact ⟨a0, n0⟩
    | 1, hq => cases hq; exact ⟨a1, n1⟩
    | 2, hq => cases hq; exact ⟨a2, n2⟩
    | 3, hq => cases hq; exact ⟨a3, n3'⟩
    | k + 4, hq => simp at hq⟩
  have hS : va_S (fun q : Nat => s.heap.size ≤ q) s.heap s.heap [] := va_S.rf
  have hP : va_P (dC, dI) vwCl [] s.heap := fun k q h => by simp at h
  have hD : va_D (fun q : Nat => s.heap.size ≤ q) [] := ⟨fun i j p q h => by simp at h, fun k q h => by simp at h⟩
  have hl := lv_entry ([.ref b]) (n := 4) (Nat.le_of_ble_eq_true rfl)
  rw [lg_entry_eq]
  generalize (lg_sl ([.ref b]) ++ List.replicate (4 - (lg_sl ([.ref b])).length) Slot.unset).toArray = ls at hl ⊢
  have hl : lv_has ls 4 [(0, .ref b)] := hl
  obtain ⟨r1, r1_eq, hRR⟩ := start_RR
  refine va_new (ci := 11) (fs := [.null, .null, .null, .null, .null, .null, .null, .null, .null, .null, .int 0]) (C := RX11) (T := TX11) (N := 11) hx hb hts inK_X11 tyX11 tyX11_ok hown (hts _ kw_67) (hts _ kw_68) (hts _ kw_52) hK hP hD hS hA rfl fs_X11 (Nat.le_of_ble_eq_true rfl) (Nat.le_of_ble_eq_true rfl) dL_law_0 (fun q1 H hP hD hS => ?_)
  have hP : va_P (dC, dI) vwCl [(q1, .inr (11, [.null, .null, .null, .null, .null, .null, .null, .null, .null, .null, .int 0]))] H := hP
  have hD : va_D (fun q : Nat => s.heap.size ≤ q) [(q1, .inr (11, [.null, .null, .null, .null, .null, .null, .null, .null, .null, .null, .int 0]))] := hD
  refine W.widen (k := 1) (n := 11) (Nat.le_of_ble_eq_true rfl) (Nat.le_of_ble_eq_true rfl) ?_
  refine lv_dup hx hb dL_law_3 rfl ?_
  refine jn_call (n := 0) (As := []) (rest := [.ref q1]) (wr := []) hx hb hml hown hts hK hN hAO hl.1 (n_X11 l q1 H.size) hP hD hS hA [0] [] rfl rfl rfl rfl rfl (by decide) kw_71 (Or.inl kw_69) kw_70 kw_52 rfl (by decide +kernel) rfl ⟨(Nat.le_of_ble_eq_true rfl), (Nat.le_of_ble_eq_true rfl)⟩ rfl (Nat.le_of_ble_eq_true rfl) dL_law_4 ⟨(Nat.le_of_ble_eq_true rfl), (Nat.le_of_ble_eq_true rfl)⟩ (fun adc H locs hq1 hP hD hS => ?_)
  have hq1 : adc 0 = q1 := hq1
  have hP : va_P (dC, dI) vwCl (c_w kA adc cs0) H := hP
  have hD : va_D (fun q : Nat => s.heap.size ≤ q) (c_w kA adc cs0) := hD
  rw [← hq1]
  refine W.widen (k := 1000) (n := 10000) (Nat.le_of_ble_eq_true rfl) (Nat.le_of_ble_eq_true rfl) ?_
  refine lv_astore_n (lv' := [(1, .ref (adc 0)), (0, .ref b)]) hx hb dL_law_7 rfl hl (by decide) rfl (fun ls hl => ?_)
  refine va_new (ci := 12) (fs := [.int 0, .null, .null, .null, .null, .null, .int 0, .null, .null, .int 0, .null, .null, .null, .null, .int 0, .long 0, .int 0, .int 0, .null, .int 0, .int 0, .null, .null, .null, .null, .int 0, .null, .null, .int 0, .null, .null, .null, .long 0, .int 0, .int 0, .int 0, .int 0, .long 0, .int 0, .null, .null, .int 0, .null, .int 0, .long 0, .null, .null, .null, .null, .int 0, .null, .null, .null]) (C := RX12) (T := TX12) (N := 53) hx hb hts inK_X12 tyX12 tyX12_ok hown (hts _ kw_749) (hts _ kw_750) (hts _ kw_64) hK hP hD hS hA rfl fs_X12 (Nat.le_of_ble_eq_true rfl) (Nat.le_of_ble_eq_true rfl) dL_law_8 (fun q2 H hP hD hS => ?_)
  refine W.widen (k := 1001) (n := 10053) (Nat.le_of_ble_eq_true rfl) (Nat.le_of_ble_eq_true rfl) ?_
  refine lv_dup hx hb dL_law_11 rfl ?_
  refine jn_call (n := 0) (As := []) (rest := [.ref q2]) (wr := c_w kA adc cs0) hx hb hml hown hts hK hN hAO hl.1 (n_X12 l r1_eq q2 H.size) hP hD hS hA [57] [0, 1, 2, 3, 4, 5, 6, 7, 8, 9, 10, 11, 12, 13, 14, 15, 16, 17, 18, 19, 20, 21, 22, 23, 24, 25, 26, 27, 28, 29, 30, 31, 32, 33, 34, 35, 36, 37, 38, 39, 40, 41, 42, 43, 44, 45, 46, 47, 48, 49, 50, 51, 52, 53, 54, 55, 56] rfl rfl rfl rfl rfl (by decide) kw_753 (Or.inl kw_751) kw_752 kw_64 rfl (by decide +kernel) rfl ⟨(Nat.le_of_ble_eq_true rfl), (Nat.le_of_ble_eq_true rfl)⟩ rfl (Nat.le_of_ble_eq_true rfl) dL_law_12 ⟨(Nat.le_of_ble_eq_true rfl), (Nat.le_of_ble_eq_true rfl)⟩ (fun adr H locs hq2 hP hD hS => ?_)
  have hq2 : adr 0 = q2 := hq2
  have hP : va_P (dC, dI) vwCl (c_w kA adc cs0 ++ r_w kA adr r1) H := hP
  have hD : va_D (fun q : Nat => s.heap.size ≤ q) (c_w kA adc cs0 ++ r_w kA adr r1) := hD
  rw [← hq2]
  refine W.widen (k := 600000) (n := 7302250) (Nat.le_of_ble_eq_true rfl) (Nat.le_of_ble_eq_true rfl) ?_
  refine lv_astore_n (lv' := [(2, .ref (adr 0)), (1, .ref (adc 0)), (0, .ref b)]) hx hb dL_law_15 rfl hl (by decide) rfl (fun ls hl => ?_)
  refine lv_iconst (v := 0) hx hb dL_law_16 (by decide) ?_
  refine lv_istore_n (lv' := [(3, .int 0), (2, .ref (adr 0)), (1, .ref (adc 0)), (0, .ref b)]) hx hb dL_law_17 rfl hl (by decide) rfl (fun ls hl => ?_)
  obtain ⟨d1, d2, d3, d4, d5⟩ := D_both hD (c_fst kA adc cs0) (r_fst kA adr r1)
  exact law_loop hL ⟨hx, hb, hml, hown, hts, hK, hN, hX, hbl, d1, d2, d3, d4, d5⟩ hr hlocks (L + 1) 0 (Nat.zero_le _) (by omega) cs0 r1 hRR H locs ls (P_left hP) (P_right hP) hS hl

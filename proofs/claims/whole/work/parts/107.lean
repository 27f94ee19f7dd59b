theorem dX11_run_0 : decode cX11_run 0 = .ok (.iload_n 1, 1) := by decide +kernel
theorem dX11_run_1 : decode cX11_run 1 = .ok (.ifCond .lt 8, 3) := by decide +kernel
theorem dX11_run_4 : decode cX11_run 4 = .ok (.iload_n 1, 1) := by decide +kernel
theorem dX11_run_5 : decode cX11_run 5 = .ok (.iconst 2, 1) := by decide +kernel
theorem dX11_run_6 : decode cX11_run 6 = .ok (.if_icmp .le 6, 3) := by decide +kernel
theorem dX11_run_9 : decode cX11_run 9 = .ok (.bipush (-102), 2) := by decide +kernel
theorem dX11_run_11 : decode cX11_run 11 = .ok (.ireturn, 1) := by decide +kernel
theorem dX11_run_12 : decode cX11_run 12 = .ok (.iload_n 2, 1) := by decide +kernel
theorem dX11_run_13 : decode cX11_run 13 = .ok (.iconst 1, 1) := by decide +kernel
theorem dX11_run_14 : decode cX11_run 14 = .ok (.if_icmp .lt 20, 3) := by decide +kernel
theorem dX11_run_17 : decode cX11_run 17 = .ok (.iload_n 2, 1) := by decide +kernel
theorem dX11_run_18 : decode cX11_run 18 = .ok (.iload_n 1, 1) := by decide +kernel
theorem dX11_run_19 : decode cX11_run 19 = .ok (.iconst 2, 1) := by decide +kernel
theorem dX11_run_20 : decode cX11_run 20 = .ok (.if_icmp .ne 9, 3) := by decide +kernel
theorem dX11_run_23 : decode cX11_run 23 = .ok (.sipush 200, 3) := by decide +kernel
theorem dX11_run_26 : decode cX11_run 26 = .ok (.goto 5, 3) := by decide +kernel
theorem dX11_run_29 : decode cX11_run 29 = .ok (.bipush 50, 2) := by decide +kernel
theorem dX11_run_31 : decode cX11_run 31 = .ok (.if_icmp .le 6, 3) := by decide +kernel
theorem dX11_run_34 : decode cX11_run 34 = .ok (.bipush (-102), 2) := by decide +kernel
theorem dX11_run_36 : decode cX11_run 36 = .ok (.ireturn, 1) := by decide +kernel
theorem dX11_run_37 : decode cX11_run 37 = .ok (.aload_n 0, 1) := by decide +kernel
theorem dX11_run_38 : decode cX11_run 38 = .ok (.getfield 33, 3) := by decide +kernel
theorem dX11_run_41 : decode cX11_run 41 = .ok (.invokevirtual 128, 3) := by decide +kernel
theorem dX11_run_44 : decode cX11_run 44 = .ok (.iload_n 1, 1) := by decide +kernel
theorem dX11_run_45 : decode cX11_run 45 = .ok (.iconst 2, 1) := by decide +kernel
theorem dX11_run_46 : decode cX11_run 46 = .ok (.if_icmp .ne 14, 3) := by decide +kernel
theorem dX11_run_49 : decode cX11_run 49 = .ok (.aload_n 0, 1) := by decide +kernel
theorem dX11_run_50 : decode cX11_run 50 = .ok (.getfield 81, 3) := by decide +kernel
theorem dX11_run_53 : decode cX11_run 53 = .ok (.iload_n 2, 1) := by decide +kernel
theorem dX11_run_54 : decode cX11_run 54 = .ok (.invokevirtual 131, 3) := by decide +kernel
theorem dX11_run_57 : decode cX11_run 57 = .ok (.goto 21, 3) := by decide +kernel
theorem dX11_run_60 : decode cX11_run 60 = .ok (.aload_n 0, 1) := by decide +kernel
theorem dX11_run_61 : decode cX11_run 61 = .ok (.getfield 74, 3) := by decide +kernel
theorem dX11_run_64 : decode cX11_run 64 = .ok (.iload_n 1, 1) := by decide +kernel
theorem dX11_run_65 : decode cX11_run 65 = .ok (.iconst 1, 1) := by decide +kernel
theorem dX11_run_66 : decode cX11_run 66 = .ok (.if_icmp .ne 7, 3) := by decide +kernel
theorem dX11_run_69 : decode cX11_run 69 = .ok (.iconst 1, 1) := by decide +kernel
theorem dX11_run_70 : decode cX11_run 70 = .ok (.goto 4, 3) := by decide +kernel
theorem dX11_run_73 : decode cX11_run 73 = .ok (.iconst 0, 1) := by decide +kernel
theorem dX11_run_74 : decode cX11_run 74 = .ok (.iload_n 2, 1) := by decide +kernel
theorem dX11_run_75 : decode cX11_run 75 = .ok (.invokevirtual 134, 3) := by decide +kernel
theorem dX11_run_78 : decode cX11_run 78 = .ok (.ireturn, 1) := by decide +kernel
def rm_cX11_run : Room := { frames := 48, cells := 0, slots := 0, locals := 1368 }
def G_cX11_run_b74 (p : Program) (l : Launch) (e : Env) (s : State) (m : MethodId) (args : Array Value) (below : List Frame) (meth : Method) (c : Code) (dC : Nat → ClassId) (dI : Nat → Nat → Nat) (kA : Nat → ClassId) (ad : Nat → Nat) (res : Int32 × RS) (F : RS → Int32 → Int32 → Option (Int32 × RS)) : Prop := ∀ (σ : RS) (x2 : Int32) (s0 : Int32), F σ x2 s0 = some res → ∀ (H : Heap) (locs : List Loc) (ls : Array Slot), va_P (dC, dI) vwCl (c_w kA ad σ) H → va_S (jw_A 57 ad) s.heap H locs → lv_has ls 3 [(2, .int x2)] → W p l e rm_cX11_run s m args below meth c H locs 0 0 (c_Qi below dC dI kA ad args s res) (F0 m 74 ls [.int s0, .ref (ad 24)])
def G_cX11_run_b31 (p : Program) (l : Launch) (e : Env) (s : State) (m : MethodId) (args : Array Value) (below : List Frame) (meth : Method) (c : Code) (dC : Nat → ClassId) (dI : Nat → Nat → Nat) (kA : Nat → ClassId) (ad : Nat → Nat) (res : Int32 × RS) (F : RS → Int32 → Int32 → Int32 → Int32 → Option (Int32 × RS)) : Prop := ∀ (σ : RS) (x1 : Int32) (x2 : Int32) (s0 : Int32) (s1 : Int32), F σ x1 x2 s0 s1 = some res → ∀ (H : Heap) (locs : List Loc) (ls : Array Slot), va_P (dC, dI) vwCl (c_w kA ad σ) H → va_S (jw_A 57 ad) s.heap H locs → lv_has ls 3 [(0, .ref (ad 0)), (1, .int x1), (2, .int x2)] → W p l e rm_cX11_run s m args below meth c H locs 0 0 (c_Qi below dC dI kA ad args s res) (F0 m 31 ls [.int s0, .int s1])
def G_cX11_run (p : Program) (l : Launch) (e : Env) (s : State) (m : MethodId) (args : Array Value) (below : List Frame) (meth : Method) (c : Code) (dC : Nat → ClassId) (dI : Nat → Nat → Nat) (kA : Nat → ClassId) (ad : Nat → Nat) (res : Int32 × RS) (F : RS → Int32 → Int32 → Option (Int32 × RS)) : Prop := ∀ (σ : RS) (x1 : Int32) (x2 : Int32), F σ x1 x2 = some res → ∀ (H : Heap) (locs : List Loc) (ls : Array Slot), va_P (dC, dI) vwCl (c_w kA ad σ) H → va_S (jw_A 57 ad) s.heap H locs → lv_has ls 3 [(0, .ref (ad 0)), (1, .int x1), (2, .int x2)] → W p l e rm_cX11_run s m args below meth c H locs 0 0 (c_Qi below dC dI kA ad args s res) (F0 m 0 ls [])
def s_cX11_run_b74 (σ : RS) (x2 : Int32) (s0 : Int32) : Option (Int32 × RS) := kn_i (s_cX7_walk σ s0 x2) (fun v1 σ2 => some (v1, σ2))
set_option maxRecDepth 100000 in
set_option maxHeartbeats 4000000 in
theorem p_cX11_run_b74 {p : Program} {l : Launch} {e : Env} {s : State} {m : MethodId} {args : Array Value} {below : List Frame} {meth : Method} {c : Code} {dC : Nat → ClassId} {dI : Nat → Nat → Nat} {kA : Nat → ClassId} {ad : Nat → Nat} (C : jxc cX11_run (some .int) 3 RX11 p s m args meth c dC dI kA) (hap : jw_ap 57 ad) {res : Int32 × RS} : G_cX11_run_b74 p l e s m args below meth c dC dI kA ad res (s_cX11_run_b74) := by
  obtain ⟨hx, hb, hml, hown, hts, hr, hlocks, hK, hN⟩ := id C
  intro σ x2 s0 hf H locs ls hP hS hl
  unfold s_cX11_run_b74 at hf
  refine lv_iload_n hx hb dX11_run_74 rfl (lv_at hl 0 rfl) ?_
  refine jk_i hf (fun res hres => jv_run hx hb hml hown hts hK hN c_hG c_hNW hl.1 (n := 2) (As := [.int s0, .int x2]) (rest := []) (c_cX7_walk l hap σ s0 x2 res hres) hP (ci := 7) (q0 := 24) rfl rfl rfl kw_611 kw_608 kw_609 kw_610 kw_62 ⟨rfl, rfl⟩ (by decide +kernel) rfl ⟨Nat.le_of_ble_eq_true rfl, Nat.le_of_ble_eq_true rfl⟩ rfl (Nat.le_of_ble_eq_true rfl) dX11_run_75) hS (fun v1 σ2 H locs hP hS hf => ?_)
  exact jr_i hx hb hr hlocks hf rfl hP hS dX11_run_78
def s_cX11_run_b31 (σ : RS) (x1 : Int32) (x2 : Int32) (s0 : Int32) (s1 : Int32) : Option (Int32 × RS) := if s1 ≤ s0 then (kn_u (s_cX2_clear σ) (fun σ2 => if x1 = 2 then (kn_i (s_cX3_walk σ2 x2) (fun v3 σ4 => some (v3, σ4))) else (if x1 = 1 then (s_cX11_run_b74 σ2 x2 1) else (s_cX11_run_b74 σ2 x2 0)))) else (some ((-102), σ))
set_option maxRecDepth 100000 in
set_option maxHeartbeats 4000000 in
theorem p_cX11_run_b31 {p : Program} {l : Launch} {e : Env} {s : State} {m : MethodId} {args : Array Value} {below : List Frame} {meth : Method} {c : Code} {dC : Nat → ClassId} {dI : Nat → Nat → Nat} {kA : Nat → ClassId} {ad : Nat → Nat} (C : jxc cX11_run (some .int) 3 RX11 p s m args meth c dC dI kA) (hap : jw_ap 57 ad) {res : Int32 × RS} : G_cX11_run_b31 p l e s m args below meth c dC dI kA ad res (s_cX11_run_b31) := by
  obtain ⟨hx, hb, hml, hown, hts, hr, hlocks, hK, hN⟩ := id C
  intro σ x1 x2 s0 s1 hf H locs ls hP hS hl
  unfold s_cX11_run_b31 at hf
  refine jc_le (tgt := 37) hx hb hf dX11_run_31 (by decide) (fun hf => ?_) (fun hf => ?_)
  · refine lv_aload_n hx hb dX11_run_37 rfl (lv_at hl 0 rfl) ?_
    refine c_gX11_failure hx hb hts hown hK hP (hts _ kw_412) dX11_run_38 ?_
    refine jk_u hf (fun res hres => jv_run hx hb hml hown hts hK hN c_hG c_hNW hl.1 (n := 0) (As := []) (rest := []) (c_cX2_clear l hap σ res hres) hP (ci := 2) (q0 := 16) rfl rfl rfl kw_516 kw_513 kw_514 kw_515 kw_56 ⟨rfl, rfl⟩ (by decide +kernel) rfl ⟨Nat.le_of_ble_eq_true rfl, Nat.le_of_ble_eq_true rfl⟩ rfl (Nat.le_of_ble_eq_true rfl) dX11_run_41) hS (fun σ2 H locs hP hS hf => ?_)
    refine lv_iload_n hx hb dX11_run_44 rfl (lv_at hl 1 rfl) ?_
    refine lv_iconst (v := 2) hx hb dX11_run_45 (by decide) ?_
    refine jc_ne (tgt := 60) hx hb hf dX11_run_46 (by decide) (fun hf => ?_) (fun hf => ?_)
    · refine lv_aload_n hx hb dX11_run_60 rfl (lv_at hl 0 rfl) ?_
      refine c_gX11_roundWalk hx hb hts hown hK hP (hts _ kw_417) dX11_run_61 ?_
      refine lv_iload_n hx hb dX11_run_64 rfl (lv_at hl 1 rfl) ?_
      refine lv_iconst (v := 1) hx hb dX11_run_65 (by decide) ?_
      refine jc_ne (tgt := 73) hx hb hf dX11_run_66 (by decide) (fun hf => ?_) (fun hf => ?_)
      · refine lv_iconst (v := 0) hx hb dX11_run_73 (by decide) ?_
        exact (p_cX11_run_b74 C hap) σ2 x2 0 hf H locs ls hP hS (lv_sub hl [2] rfl)
      · refine lv_iconst (v := 1) hx hb dX11_run_69 (by decide) ?_
        refine lv_goto (tgt := 74) hx hb dX11_run_70 (by decide) ?_
        exact (p_cX11_run_b74 C hap) σ2 x2 1 hf H locs ls hP hS (lv_sub hl [2] rfl)
    · refine lv_aload_n hx hb dX11_run_49 rfl (lv_at hl 0 rfl) ?_
      refine c_gX11_lineWalk hx hb hts hown hK hP (hts _ kw_418) dX11_run_50 ?_
      refine lv_iload_n hx hb dX11_run_53 rfl (lv_at hl 2 rfl) ?_
      refine jk_i hf (fun res hres => jv_run hx hb hml hown hts hK hN c_hG c_hNW hl.1 (n := 1) (As := [.int x2]) (rest := []) (c_cX3_walk l hap σ2 x2 res hres) hP (ci := 3) (q0 := 31) rfl rfl rfl kw_520 kw_517 kw_518 kw_519 kw_63 ⟨rfl, rfl⟩ (by decide +kernel) rfl ⟨Nat.le_of_ble_eq_true rfl, Nat.le_of_ble_eq_true rfl⟩ rfl (Nat.le_of_ble_eq_true rfl) dX11_run_54) hS (fun v3 σ4 H locs hP hS hf => ?_)
      refine lv_goto (tgt := 78) hx hb dX11_run_57 (by decide) ?_
      exact jr_i hx hb hr hlocks hf rfl hP hS dX11_run_78
  · refine lv_bipush (v := (-102)) hx hb dX11_run_34 (by decide) ?_
    exact jr_i hx hb hr hlocks hf rfl hP hS dX11_run_36
def s_cX11_run (σ : RS) (x1 : Int32) (x2 : Int32) : Option (Int32 × RS) := if x1 < 0 then (some ((-102), σ)) else (if x1 ≤ 2 then (if x2 < 1 then (some ((-102), σ)) else (if x1 = 2 then (s_cX11_run_b31 σ x1 x2 200 x2) else (s_cX11_run_b31 σ x1 x2 50 x2))) else (some ((-102), σ)))
set_option maxRecDepth 100000 in
set_option maxHeartbeats 4000000 in
theorem p_cX11_run {p : Program} {l : Launch} {e : Env} {s : State} {m : MethodId} {args : Array Value} {below : List Frame} {meth : Method} {c : Code} {dC : Nat → ClassId} {dI : Nat → Nat → Nat} {kA : Nat → ClassId} {ad : Nat → Nat} (C : jxc cX11_run (some .int) 3 RX11 p s m args meth c dC dI kA) (hap : jw_ap 57 ad) {res : Int32 × RS} : G_cX11_run p l e s m args below meth c dC dI kA ad res (s_cX11_run) := by
  obtain ⟨hx, hb, hml, hown, hts, hr, hlocks, hK, hN⟩ := id C
  intro σ x1 x2 hf H locs ls hP hS hl
  unfold s_cX11_run at hf
  refine lv_iload_n hx hb dX11_run_0 rfl (lv_at hl 1 rfl) ?_
  refine jb_lt (tgt := 9) hx hb hf dX11_run_1 (by decide) (fun hf => ?_) (fun hf => ?_)
  · refine lv_bipush (v := (-102)) hx hb dX11_run_9 (by decide) ?_
    exact jr_i hx hb hr hlocks hf rfl hP hS dX11_run_11
  · refine lv_iload_n hx hb dX11_run_4 rfl (lv_at hl 1 rfl) ?_
    refine lv_iconst (v := 2) hx hb dX11_run_5 (by decide) ?_
    refine jc_le (tgt := 12) hx hb hf dX11_run_6 (by decide) (fun hf => ?_) (fun hf => ?_)
    · refine lv_iload_n hx hb dX11_run_12 rfl (lv_at hl 2 rfl) ?_
      refine lv_iconst (v := 1) hx hb dX11_run_13 (by decide) ?_
      refine jc_lt (tgt := 34) hx hb hf dX11_run_14 (by decide) (fun hf => ?_) (fun hf => ?_)
      · refine lv_bipush (v := (-102)) hx hb dX11_run_34 (by decide) ?_
        exact jr_i hx hb hr hlocks hf rfl hP hS dX11_run_36
      · refine lv_iload_n hx hb dX11_run_17 rfl (lv_at hl 2 rfl) ?_
        refine lv_iload_n hx hb dX11_run_18 rfl (lv_at hl 1 rfl) ?_
        refine lv_iconst (v := 2) hx hb dX11_run_19 (by decide) ?_
        refine jc_ne (tgt := 29) hx hb hf dX11_run_20 (by decide) (fun hf => ?_) (fun hf => ?_)
        · refine lv_bipush (v := 50) hx hb dX11_run_29 (by decide) ?_
          exact (p_cX11_run_b31 C hap) σ x1 x2 50 x2 hf H locs ls hP hS (lv_sub hl [0, 1, 2] rfl)
        · refine lv_sipush (v := 200) hx hb dX11_run_23 (by decide) ?_
          refine lv_goto (tgt := 31) hx hb dX11_run_26 (by decide) ?_
          exact (p_cX11_run_b31 C hap) σ x1 x2 200 x2 hf H locs ls hP hS (lv_sub hl [0, 1, 2] rfl)
    · refine lv_bipush (v := (-102)) hx hb dX11_run_9 (by decide) ?_
      exact jr_i hx hb hr hlocks hf rfl hP hS dX11_run_11
theorem c_cX11_run (l : Launch) {dC : Nat → ClassId} {dI : Nat → Nat → Nat} {kA : Nat → ClassId} {ad : Nat → Nat} (hap : jw_ap 57 ad) (σ : RS) (x1 : Int32) (x2 : Int32) (res : Int32 × RS) (hf : s_cX11_run σ x1 x2 = some res) : jm_i l KW NW (dC, dI) vwCl (jtys kA) (jw_A 57 ad) (c_w kA ad) yX11_run cX11_run 3 .int (rm_cX11_run) [.ref (ad 0), .int x1, .int x2] σ res := jm_i_of (by decide) (Nat.le_of_ble_eq_true rfl) (fun p e s m below meth c C hP hS ls hl => p_cX11_run C hap σ x1 x2 hf s.heap [] ls hP hS hl)

theorem dX12_walk_0 : decode cX12_walk 0 = .ok (.aload_n 0, 1) := by decide +kernel
theorem dX12_walk_1 : decode cX12_walk 1 = .ok (.iconst 0, 1) := by decide +kernel
theorem dX12_walk_2 : decode cX12_walk 2 = .ok (.putfield 159, 3) := by decide +kernel
theorem dX12_walk_5 : decode cX12_walk 5 = .ok (.aload_n 0, 1) := by decide +kernel
theorem dX12_walk_6 : decode cX12_walk 6 = .ok (.iconst 0, 1) := by decide +kernel
theorem dX12_walk_7 : decode cX12_walk 7 = .ok (.putfield 249, 3) := by decide +kernel
theorem dX12_walk_10 : decode cX12_walk 10 = .ok (.aload_n 0, 1) := by decide +kernel
theorem dX12_walk_11 : decode cX12_walk 11 = .ok (.invokevirtual 227, 3) := by decide +kernel
theorem dX12_walk_14 : decode cX12_walk 14 = .ok (.iconst 0, 1) := by decide +kernel
theorem dX12_walk_15 : decode cX12_walk 15 = .ok (.istore_n 2, 1) := by decide +kernel
theorem dX12_walk_16 : decode cX12_walk 16 = .ok (.iload_n 2, 1) := by decide +kernel
theorem dX12_walk_17 : decode cX12_walk 17 = .ok (.aload_n 0, 1) := by decide +kernel
theorem dX12_walk_18 : decode cX12_walk 18 = .ok (.getfield 116, 3) := by decide +kernel
theorem dX12_walk_21 : decode cX12_walk 21 = .ok (.if_icmp .ge 30, 3) := by decide +kernel
theorem dX12_walk_24 : decode cX12_walk 24 = .ok (.aload_n 0, 1) := by decide +kernel
theorem dX12_walk_25 : decode cX12_walk 25 = .ok (.invokevirtual 210, 3) := by decide +kernel
theorem dX12_walk_28 : decode cX12_walk 28 = .ok (.ifCond .ne 23, 3) := by decide +kernel
theorem dX12_walk_31 : decode cX12_walk 31 = .ok (.aload_n 0, 1) := by decide +kernel
theorem dX12_walk_32 : decode cX12_walk 32 = .ok (.getfield 29, 3) := by decide +kernel
theorem dX12_walk_35 : decode cX12_walk 35 = .ok (.iload_n 2, 1) := by decide +kernel
theorem dX12_walk_36 : decode cX12_walk 36 = .ok (.baload, 1) := by decide +kernel
theorem dX12_walk_37 : decode cX12_walk 37 = .ok (.ifCond .eq 8, 3) := by decide +kernel
theorem dX12_walk_40 : decode cX12_walk 40 = .ok (.aload_n 0, 1) := by decide +kernel
theorem dX12_walk_41 : decode cX12_walk 41 = .ok (.iload_n 2, 1) := by decide +kernel
theorem dX12_walk_42 : decode cX12_walk 42 = .ok (.invokevirtual 252, 3) := by decide +kernel
theorem dX12_walk_45 : decode cX12_walk 45 = .ok (.iinc 2 1, 3) := by decide +kernel
theorem dX12_walk_48 : decode cX12_walk 48 = .ok (.goto (-32), 3) := by decide +kernel
theorem dX12_walk_51 : decode cX12_walk 51 = .ok (.iconst 0, 1) := by decide +kernel
theorem dX12_walk_52 : decode cX12_walk 52 = .ok (.istore_n 2, 1) := by decide +kernel
theorem dX12_walk_53 : decode cX12_walk 53 = .ok (.aload_n 0, 1) := by decide +kernel
theorem dX12_walk_54 : decode cX12_walk 54 = .ok (.invokevirtual 210, 3) := by decide +kernel
theorem dX12_walk_57 : decode cX12_walk 57 = .ok (.ifCond .ne 34, 3) := by decide +kernel
theorem dX12_walk_60 : decode cX12_walk 60 = .ok (.iload_n 2, 1) := by decide +kernel
theorem dX12_walk_61 : decode cX12_walk 61 = .ok (.iload_n 1, 1) := by decide +kernel
theorem dX12_walk_62 : decode cX12_walk 62 = .ok (.if_icmp .ge 29, 3) := by decide +kernel
theorem dX12_walk_65 : decode cX12_walk 65 = .ok (.aload_n 0, 1) := by decide +kernel
theorem dX12_walk_66 : decode cX12_walk 66 = .ok (.getfield 249, 3) := by decide +kernel
theorem dX12_walk_69 : decode cX12_walk 69 = .ok (.ifCond .le 22, 3) := by decide +kernel
theorem dX12_walk_72 : decode cX12_walk 72 = .ok (.iload_n 2, 1) := by decide +kernel
theorem dX12_walk_73 : decode cX12_walk 73 = .ok (.aload_n 0, 1) := by decide +kernel
theorem dX12_walk_74 : decode cX12_walk 74 = .ok (.iload_n 2, 1) := by decide +kernel
theorem dX12_walk_75 : decode cX12_walk 75 = .ok (.invokevirtual 255, 3) := by decide +kernel
theorem dX12_walk_78 : decode cX12_walk 78 = .ok (.ifCond .eq 7, 3) := by decide +kernel
theorem dX12_walk_81 : decode cX12_walk 81 = .ok (.iconst 1, 1) := by decide +kernel
theorem dX12_walk_82 : decode cX12_walk 82 = .ok (.goto 4, 3) := by decide +kernel
theorem dX12_walk_85 : decode cX12_walk 85 = .ok (.iconst 0, 1) := by decide +kernel
theorem dX12_walk_86 : decode cX12_walk 86 = .ok (.iadd, 1) := by decide +kernel
theorem dX12_walk_87 : decode cX12_walk 87 = .ok (.istore_n 2, 1) := by decide +kernel
theorem dX12_walk_88 : decode cX12_walk 88 = .ok (.goto (-35), 3) := by decide +kernel
theorem dX12_walk_91 : decode cX12_walk 91 = .ok (.iload_n 2, 1) := by decide +kernel
theorem dX12_walk_92 : decode cX12_walk 92 = .ok (.ifCond .le 20, 3) := by decide +kernel
theorem dX12_walk_95 : decode cX12_walk 95 = .ok (.aload_n 0, 1) := by decide +kernel
theorem dX12_walk_96 : decode cX12_walk 96 = .ok (.iload_n 2, 1) := by decide +kernel
theorem dX12_walk_97 : decode cX12_walk 97 = .ok (.putfield 246, 3) := by decide +kernel
theorem dX12_walk_100 : decode cX12_walk 100 = .ok (.aload_n 0, 1) := by decide +kernel
theorem dX12_walk_101 : decode cX12_walk 101 = .ok (.aload_n 0, 1) := by decide +kernel
theorem dX12_walk_102 : decode cX12_walk 102 = .ok (.getfield 182, 3) := by decide +kernel
theorem dX12_walk_105 : decode cX12_walk 105 = .ok (.aload_n 0, 1) := by decide +kernel
theorem dX12_walk_106 : decode cX12_walk 106 = .ok (.getfield 175, 3) := by decide +kernel
theorem dX12_walk_109 : decode cX12_walk 109 = .ok (.invokevirtual 242, 3) := by decide +kernel
theorem dX12_walk_112 : decode cX12_walk 112 = .ok (.iload_n 2, 1) := by decide +kernel
theorem dX12_walk_113 : decode cX12_walk 113 = .ok (.ireturn, 1) := by decide +kernel
theorem dX12_run_0 : decode cX12_run 0 = .ok (.iload_n 1, 1) := by decide +kernel
theorem dX12_run_1 : decode cX12_run 1 = .ok (.iconst 0, 1) := by decide +kernel
theorem dX12_run_2 : decode cX12_run 2 = .ok (.iconst 2, 1) := by decide +kernel
theorem dX12_run_3 : decode cX12_run 3 = .ok (.invokestatic 112, 3) := by decide +kernel
theorem dX12_run_6 : decode cX12_run 6 = .ok (.ifCond .eq 24, 3) := by decide +kernel
theorem dX12_run_9 : decode cX12_run 9 = .ok (.iload_n 2, 1) := by decide +kernel
theorem dX12_run_10 : decode cX12_run 10 = .ok (.iconst 1, 1) := by decide +kernel
theorem dX12_run_11 : decode cX12_run 11 = .ok (.iload_n 1, 1) := by decide +kernel
theorem dX12_run_12 : decode cX12_run 12 = .ok (.iconst 2, 1) := by decide +kernel
theorem dX12_run_13 : decode cX12_run 13 = .ok (.if_icmp .ne 9, 3) := by decide +kernel
theorem dX12_run_16 : decode cX12_run 16 = .ok (.sipush 200, 3) := by decide +kernel
theorem dX12_run_19 : decode cX12_run 19 = .ok (.goto 5, 3) := by decide +kernel
theorem dX12_run_22 : decode cX12_run 22 = .ok (.bipush 50, 2) := by decide +kernel
theorem dX12_run_24 : decode cX12_run 24 = .ok (.invokestatic 112, 3) := by decide +kernel
theorem dX12_run_27 : decode cX12_run 27 = .ok (.ifCond .ne 6, 3) := by decide +kernel
theorem dX12_run_30 : decode cX12_run 30 = .ok (.bipush (-102), 2) := by decide +kernel
theorem dX12_run_32 : decode cX12_run 32 = .ok (.ireturn, 1) := by decide +kernel
theorem dX12_run_33 : decode cX12_run 33 = .ok (.aload_n 0, 1) := by decide +kernel
theorem dX12_run_34 : decode cX12_run 34 = .ok (.invokevirtual 105, 3) := by decide +kernel
theorem dX12_run_37 : decode cX12_run 37 = .ok (.iload_n 1, 1) := by decide +kernel
theorem dX12_run_38 : decode cX12_run 38 = .ok (.iconst 2, 1) := by decide +kernel
theorem dX12_run_39 : decode cX12_run 39 = .ok (.if_icmp .ne 9, 3) := by decide +kernel
theorem dX12_run_42 : decode cX12_run 42 = .ok (.aload_n 0, 1) := by decide +kernel
theorem dX12_run_43 : decode cX12_run 43 = .ok (.iload_n 2, 1) := by decide +kernel
theorem dX12_run_44 : decode cX12_run 44 = .ok (.invokevirtual 258, 3) := by decide +kernel
theorem dX12_run_47 : decode cX12_run 47 = .ok (.ireturn, 1) := by decide +kernel
theorem dX12_run_48 : decode cX12_run 48 = .ok (.iconst 0, 1) := by decide +kernel
theorem dX12_run_49 : decode cX12_run 49 = .ok (.istore_n 3, 1) := by decide +kernel
theorem dX12_run_50 : decode cX12_run 50 = .ok (.iload_n 3, 1) := by decide +kernel
theorem dX12_run_51 : decode cX12_run 51 = .ok (.iload_n 2, 1) := by decide +kernel
theorem dX12_run_52 : decode cX12_run 52 = .ok (.if_icmp .ge 24, 3) := by decide +kernel
theorem dX12_run_55 : decode cX12_run 55 = .ok (.aload_n 0, 1) := by decide +kernel
theorem dX12_run_56 : decode cX12_run 56 = .ok (.invokevirtual 261, 3) := by decide +kernel
theorem dX12_run_59 : decode cX12_run 59 = .ok (.ifCond .eq 17, 3) := by decide +kernel
theorem dX12_run_62 : decode cX12_run 62 = .ok (.aload_n 0, 1) := by decide +kernel
theorem dX12_run_63 : decode cX12_run 63 = .ok (.iload_n 1, 1) := by decide +kernel
theorem dX12_run_64 : decode cX12_run 64 = .ok (.invokevirtual 264, 3) := by decide +kernel
theorem dX12_run_67 : decode cX12_run 67 = .ok (.ifCond .eq 9, 3) := by decide +kernel
theorem dX12_run_70 : decode cX12_run 70 = .ok (.iinc 3 1, 3) := by decide +kernel
theorem dX12_run_73 : decode cX12_run 73 = .ok (.goto (-23), 3) := by decide +kernel
theorem dX12_run_76 : decode cX12_run 76 = .ok (.iload_n 3, 1) := by decide +kernel
theorem dX12_run_77 : decode cX12_run 77 = .ok (.ireturn, 1) := by decide +kernel
theorem dX12_ask_0 : decode cX12_ask 0 = .ok (.aload_n 0, 1) := by decide +kernel
theorem dX12_ask_1 : decode cX12_ask 1 = .ok (.iconst 0, 1) := by decide +kernel
theorem dX12_ask_2 : decode cX12_ask 2 = .ok (.putfield 267, 3) := by decide +kernel
theorem dX12_ask_5 : decode cX12_ask 5 = .ok (.aload_n 0, 1) := by decide +kernel
theorem dX12_ask_6 : decode cX12_ask 6 = .ok (.iload_n 1, 1) := by decide +kernel
theorem dX12_ask_7 : decode cX12_ask 7 = .ok (.invokevirtual 122, 3) := by decide +kernel
theorem dX12_ask_10 : decode cX12_ask 10 = .ok (.ifCond .eq 24, 3) := by decide +kernel
theorem dX12_ask_13 : decode cX12_ask 13 = .ok (.aload_n 0, 1) := by decide +kernel
theorem dX12_ask_14 : decode cX12_ask 14 = .ok (.iload_n 2, 1) := by decide +kernel
theorem dX12_ask_15 : decode cX12_ask 15 = .ok (.invokevirtual 131, 3) := by decide +kernel
theorem dX12_ask_18 : decode cX12_ask 18 = .ok (.ifCond .eq 16, 3) := by decide +kernel
theorem dX12_ask_21 : decode cX12_ask 21 = .ok (.iload_n 3, 1) := by decide +kernel
theorem dX12_ask_22 : decode cX12_ask 22 = .ok (.iconst (-1), 1) := by decide +kernel
theorem dX12_ask_23 : decode cX12_ask 23 = .ok (.if_icmp .eq 15, 3) := by decide +kernel
theorem dX12_ask_26 : decode cX12_ask 26 = .ok (.aload_n 0, 1) := by decide +kernel
theorem dX12_ask_27 : decode cX12_ask 27 = .ok (.iload_n 3, 1) := by decide +kernel
theorem dX12_ask_28 : decode cX12_ask 28 = .ok (.invokevirtual 270, 3) := by decide +kernel
theorem dX12_ask_31 : decode cX12_ask 31 = .ok (.ifCond .ne 7, 3) := by decide +kernel
theorem dX12_ask_34 : decode cX12_ask 34 = .ok (.ldc2_w 273, 3) := by decide +kernel
theorem dX12_ask_37 : decode cX12_ask 37 = .ok (.lreturn, 1) := by decide +kernel
theorem dX12_ask_38 : decode cX12_ask 38 = .ok (.aload_n 0, 1) := by decide +kernel
theorem dX12_ask_39 : decode cX12_ask 39 = .ok (.iconst 0, 1) := by decide +kernel
theorem dX12_ask_40 : decode cX12_ask 40 = .ok (.putfield 159, 3) := by decide +kernel
theorem dX12_ask_43 : decode cX12_ask 43 = .ok (.aload_n 0, 1) := by decide +kernel
theorem dX12_ask_44 : decode cX12_ask 44 = .ok (.lconst 0, 1) := by decide +kernel
theorem dX12_ask_45 : decode cX12_ask 45 = .ok (.putfield 169, 3) := by decide +kernel
theorem dX12_ask_48 : decode cX12_ask 48 = .ok (.aload_n 0, 1) := by decide +kernel
theorem dX12_ask_49 : decode cX12_ask 49 = .ok (.iconst 0, 1) := by decide +kernel
theorem dX12_ask_50 : decode cX12_ask 50 = .ok (.putfield 172, 3) := by decide +kernel
theorem dX12_ask_53 : decode cX12_ask 53 = .ok (.aload_n 0, 1) := by decide +kernel
theorem dX12_ask_54 : decode cX12_ask 54 = .ok (.aload_n 0, 1) := by decide +kernel
theorem dX12_ask_55 : decode cX12_ask 55 = .ok (.iload_n 1, 1) := by decide +kernel
theorem dX12_ask_56 : decode cX12_ask 56 = .ok (.iload_n 2, 1) := by decide +kernel
theorem dX12_ask_57 : decode cX12_ask 57 = .ok (.iload_n 3, 1) := by decide +kernel
theorem dX12_ask_58 : decode cX12_ask 58 = .ok (.invokevirtual 189, 3) := by decide +kernel
theorem dX12_ask_61 : decode cX12_ask 61 = .ok (.putfield 267, 3) := by decide +kernel
theorem dX12_ask_64 : decode cX12_ask 64 = .ok (.aload_n 0, 1) := by decide +kernel
theorem dX12_ask_65 : decode cX12_ask 65 = .ok (.getfield 267, 3) := by decide +kernel
theorem dX12_ask_68 : decode cX12_ask 68 = .ok (.ifCond .ne 10, 3) := by decide +kernel
theorem dX12_ask_71 : decode cX12_ask 71 = .ok (.aload_n 0, 1) := by decide +kernel
theorem dX12_ask_72 : decode cX12_ask 72 = .ok (.getfield 165, 3) := by decide +kernel
theorem dX12_ask_75 : decode cX12_ask 75 = .ok (.goto 4, 3) := by decide +kernel
theorem dX12_ask_78 : decode cX12_ask 78 = .ok (.lconst 0, 1) := by decide +kernel
theorem dX12_ask_79 : decode cX12_ask 79 = .ok (.lreturn, 1) := by decide +kernel
def rm_rX12_walk : Room := { frames := 7, cells := 0, slots := 0, locals := 168 }
def G_rX12_walk_b91 (p : Program) (l : Launch) (e : Env) (s : State) (m : MethodId) (args : Array Value) (below : List Frame) (meth : Method) (c : Code) (dC : Nat → ClassId) (dI : Nat → Nat → Nat) (kA : Nat → ClassId) (ad : Nat → Nat) (res : Int32 × RS) (F : RS → Int32 → Option (Int32 × RS)) : Prop := ∀ (σ : RS) (x2 : Int32), F σ x2 = some res → ∀ (H : Heap) (locs : List Loc) (ls : Array Slot), va_P (dC, dI) vwCl (r_w kA ad σ) H → va_S (jw_A 32 ad) s.heap H locs → lv_has ls 3 [(0, .ref (ad 0)), (2, .int x2)] → W p l e rm_rX12_walk s m args below meth c H locs 0 0 (r_Qi below dC dI kA ad args s res) (F0 m 91 ls [])
def G_rX12_walk_b86 (p : Program) (l : Launch) (e : Env) (s : State) (m : MethodId) (args : Array Value) (below : List Frame) (meth : Method) (c : Code) (dC : Nat → ClassId) (dI : Nat → Nat → Nat) (kA : Nat → ClassId) (ad : Nat → Nat) (res : Int32 × RS) (F : RS → Int32 → Int32 → Int32 → Option (Int32 × RS)) : Prop := ∀ (σ : RS) (x1 : Int32) (s0 : Int32) (s1 : Int32), F σ x1 s0 s1 = some res → ∀ (H : Heap) (locs : List Loc) (ls : Array Slot), va_P (dC, dI) vwCl (r_w kA ad σ) H → va_S (jw_A 32 ad) s.heap H locs → lv_has ls 3 [(0, .ref (ad 0)), (1, .int x1)] → W p l e rm_rX12_walk s m args below meth c H locs 0 0 (r_Qi below dC dI kA ad args s res) (F0 m 86 ls [.int s0, .int s1])
def G_rX12_walk_b53 (p : Program) (l : Launch) (e : Env) (s : State) (m : MethodId) (args : Array Value) (below : List Frame) (meth : Method) (c : Code) (dC : Nat → ClassId) (dI : Nat → Nat → Nat) (kA : Nat → ClassId) (ad : Nat → Nat) (res : Int32 × RS) (F : RS → Int32 → Int32 → Option (Int32 × RS)) : Prop := ∀ (σ : RS) (x1 : Int32) (x2 : Int32), F σ x1 x2 = some res → ∀ (H : Heap) (locs : List Loc) (ls : Array Slot), va_P (dC, dI) vwCl (r_w kA ad σ) H → va_S (jw_A 32 ad) s.heap H locs → lv_has ls 3 [(0, .ref (ad 0)), (1, .int x1), (2, .int x2)] → W p l e rm_rX12_walk s m args below meth c H locs 0 0 (r_Qi below dC dI kA ad args s res) (F0 m 53 ls [])
def G_rX12_walk_b51 (p : Program) (l : Launch) (e : Env) (s : State) (m : MethodId) (args : Array Value) (below : List Frame) (meth : Method) (c : Code) (dC : Nat → ClassId) (dI : Nat → Nat → Nat) (kA : Nat → ClassId) (ad : Nat → Nat) (res : Int32 × RS) (F : RS → Int32 → Option (Int32 × RS)) : Prop := ∀ (σ : RS) (x1 : Int32), F σ x1 = some res → ∀ (H : Heap) (locs : List Loc) (ls : Array Slot), va_P (dC, dI) vwCl (r_w kA ad σ) H → va_S (jw_A 32 ad) s.heap H locs → lv_has ls 3 [(0, .ref (ad 0)), (1, .int x1)] → W p l e rm_rX12_walk s m args below meth c H locs 0 0 (r_Qi below dC dI kA ad args s res) (F0 m 51 ls [])
def G_rX12_walk_b45 (p : Program) (l : Launch) (e : Env) (s : State) (m : MethodId) (args : Array Value) (below : List Frame) (meth : Method) (c : Code) (dC : Nat → ClassId) (dI : Nat → Nat → Nat) (kA : Nat → ClassId) (ad : Nat → Nat) (res : Int32 × RS) (F : RS → Int32 → Int32 → Option (Int32 × RS)) : Prop := ∀ (σ : RS) (x1 : Int32) (x2 : Int32), F σ x1 x2 = some res → ∀ (H : Heap) (locs : List Loc) (ls : Array Slot), va_P (dC, dI) vwCl (r_w kA ad σ) H → va_S (jw_A 32 ad) s.heap H locs → lv_has ls 3 [(0, .ref (ad 0)), (1, .int x1), (2, .int x2)] → W p l e rm_rX12_walk s m args below meth c H locs 0 0 (r_Qi below dC dI kA ad args s res) (F0 m 45 ls [])
def G_rX12_walk_b16 (p : Program) (l : Launch) (e : Env) (s : State) (m : MethodId) (args : Array Value) (below : List Frame) (meth : Method) (c : Code) (dC : Nat → ClassId) (dI : Nat → Nat → Nat) (kA : Nat → ClassId) (ad : Nat → Nat) (res : Int32 × RS) (F : RS → Int32 → Int32 → Option (Int32 × RS)) : Prop := ∀ (σ : RS) (x1 : Int32) (x2 : Int32), F σ x1 x2 = some res → ∀ (H : Heap) (locs : List Loc) (ls : Array Slot), va_P (dC, dI) vwCl (r_w kA ad σ) H → va_S (jw_A 32 ad) s.heap H locs → lv_has ls 3 [(0, .ref (ad 0)), (1, .int x1), (2, .int x2)] → W p l e rm_rX12_walk s m args below meth c H locs 0 0 (r_Qi below dC dI kA ad args s res) (F0 m 16 ls [])
def G_rX12_walk (p : Program) (l : Launch) (e : Env) (s : State) (m : MethodId) (args : Array Value) (below : List Frame) (meth : Method) (c : Code) (dC : Nat → ClassId) (dI : Nat → Nat → Nat) (kA : Nat → ClassId) (ad : Nat → Nat) (res : Int32 × RS) (F : RS → Int32 → Option (Int32 × RS)) : Prop := ∀ (σ : RS) (x1 : Int32), F σ x1 = some res → ∀ (H : Heap) (locs : List Loc) (ls : Array Slot), va_P (dC, dI) vwCl (r_w kA ad σ) H → va_S (jw_A 32 ad) s.heap H locs → lv_has ls 3 [(0, .ref (ad 0)), (1, .int x1)] → W p l e rm_rX12_walk s m args below meth c H locs 0 0 (r_Qi below dC dI kA ad args s res) (F0 m 0 ls [])
def s_rX12_walk_b91 (σ : RS) (x2 : Int32) : Option (Int32 × RS) := if x2 ≤ 0 then (some (x2, σ)) else (kn_v (rs_I σ 8 x2) (fun σ1 => kn_u (s_rX12_keep σ1 (rg_L σ1 0) (rg_I σ1 4)) (fun σ3 => some (x2, σ3))))
set_option maxRecDepth 100000 in
set_option maxHeartbeats 4000000 in
theorem p_rX12_walk_b91 {p : Program} {l : Launch} {e : Env} {s : State} {m : MethodId} {args : Array Value} {below : List Frame} {meth : Method} {c : Code} {dC : Nat → ClassId} {dI : Nat → Nat → Nat} {kA : Nat → ClassId} {ad : Nat → Nat} (C : jxc cX12_walk (some .int) 3 RX12 p s m args meth c dC dI kA) (hap : jw_ap 32 ad) {res : Int32 × RS} : G_rX12_walk_b91 p l e s m args below meth c dC dI kA ad res (s_rX12_walk_b91) := by
  obtain ⟨hx, hb, hml, hown, hts, hr, hlocks, hK, hN⟩ := id C
  intro σ x2 hf H locs ls hP hS hl
  unfold s_rX12_walk_b91 at hf
  refine lv_iload_n hx hb dX12_walk_91 rfl (lv_at hl 1 rfl) ?_
  refine jb_le (tgt := 112) hx hb hf dX12_walk_92 (by decide) (fun hf => ?_) (fun hf => ?_)
  · refine lv_iload_n hx hb dX12_walk_112 rfl (lv_at hl 1 rfl) ?_
    exact jr_i hx hb hr hlocks hf rfl hP hS dX12_walk_113
  · refine lv_aload_n hx hb dX12_walk_95 rfl (lv_at hl 0 rfl) ?_
    refine lv_iload_n hx hb dX12_walk_96 rfl (lv_at hl 1 rfl) ?_
    refine r_pX12_told hx hb hts hown hK hap hP hS hf (hts _ kw_784) dX12_walk_97 (fun σ1 H locs hP hS hf => ?_)
    refine lv_aload_n hx hb dX12_walk_100 rfl (lv_at hl 0 rfl) ?_
    refine lv_aload_n hx hb dX12_walk_101 rfl (lv_at hl 0 rfl) ?_
    refine r_gX12_whole hx hb hts hown hK hP (hts _ kw_774) dX12_walk_102 ?_
    refine lv_aload_n hx hb dX12_walk_105 rfl (lv_at hl 0 rfl) ?_
    refine r_gX12_rounds hx hb hts hown hK hP (hts _ kw_775) dX12_walk_106 ?_
    refine jk_u hf (fun res hres => jv_run hx hb hml hown hts hK hN r_hG r_hNW hl.1 (n := 2) (As := [.long (rg_L σ1 0), .int (rg_I σ1 4)]) (rest := []) (c_rX12_keep l hap σ1 (rg_L σ1 0) (rg_I σ1 4) res hres) hP (ci := 12) (q0 := 0) rfl rfl rfl kw_1022 kw_1019 kw_1021 kw_40 kw_64 ⟨rfl, rfl⟩ (by decide +kernel) rfl ⟨Nat.le_of_ble_eq_true rfl, Nat.le_of_ble_eq_true rfl⟩ rfl (Nat.le_of_ble_eq_true rfl) dX12_walk_109) hS (fun σ3 H locs hP hS hf => ?_)
    refine lv_iload_n hx hb dX12_walk_112 rfl (lv_at hl 1 rfl) ?_
    exact jr_i hx hb hr hlocks hf rfl hP hS dX12_walk_113
def s_rX12_walk_b86 (k53 : RS → Int32 → Int32 → Option (Int32 × RS)) (σ : RS) (x1 : Int32) (s0 : Int32) (s1 : Int32) : Option (Int32 × RS) := kn_v (s1 + s0) (fun v1 => k53 σ x1 v1)
set_option maxRecDepth 100000 in
set_option maxHeartbeats 4000000 in
theorem p_rX12_walk_b86 {p : Program} {l : Launch} {e : Env} {s : State} {m : MethodId} {args : Array Value} {below : List Frame} {meth : Method} {c : Code} {dC : Nat → ClassId} {dI : Nat → Nat → Nat} {kA : Nat → ClassId} {ad : Nat → Nat} (C : jxc cX12_walk (some .int) 3 RX12 p s m args meth c dC dI kA) (hap : jw_ap 32 ad) {res : Int32 × RS} {k53 : RS → Int32 → Int32 → Option (Int32 × RS)} (hk53 : G_rX12_walk_b53 p l e s m args below meth c dC dI kA ad res k53) : G_rX12_walk_b86 p l e s m args below meth c dC dI kA ad res (s_rX12_walk_b86 k53) := by
  obtain ⟨hx, hb, hml, hown, hts, hr, hlocks, hK, hN⟩ := id C
  intro σ x1 s0 s1 hf H locs ls hP hS hl
  unfold s_rX12_walk_b86 at hf
  refine lv_iadd hx hb dX12_walk_86 ?_
  refine jn_i hf (fun v1 hf => ?_)
  refine lv_istore_n (lv' := [(2, .int v1), (0, .ref (ad 0)), (1, .int x1)]) hx hb dX12_walk_87 rfl hl (by decide) rfl (fun ls hl => ?_)
  refine lv_goto (tgt := 53) hx hb dX12_walk_88 (by decide) ?_
  exact hk53 σ x1 v1 hf H locs ls hP hS (lv_sub hl [1, 2, 0] rfl)
def s_rX12_walk_b53 (k53 : RS → Int32 → Int32 → Option (Int32 × RS)) (σ : RS) (x1 : Int32) (x2 : Int32) : Option (Int32 × RS) := kn_i (s_rX12_isFailed σ) (fun v1 σ2 => if v1 = 0 then (if x1 ≤ x2 then (s_rX12_walk_b91 σ2 x2) else (if (rg_I σ2 17) ≤ 0 then (s_rX12_walk_b91 σ2 x2) else (kn_i (s_rX12_takes σ2 x2) (fun v3 σ4 => if v3 = 0 then (s_rX12_walk_b86 k53 σ4 x1 0 x2) else (s_rX12_walk_b86 k53 σ4 x1 1 x2))))) else (s_rX12_walk_b91 σ2 x2))
set_option maxRecDepth 100000 in
set_option maxHeartbeats 4000000 in
theorem p_rX12_walk_b53 {p : Program} {l : Launch} {e : Env} {s : State} {m : MethodId} {args : Array Value} {below : List Frame} {meth : Method} {c : Code} {dC : Nat → ClassId} {dI : Nat → Nat → Nat} {kA : Nat → ClassId} {ad : Nat → Nat} (C : jxc cX12_walk (some .int) 3 RX12 p s m args meth c dC dI kA) (hap : jw_ap 32 ad) {res : Int32 × RS} {k53 : RS → Int32 → Int32 → Option (Int32 × RS)} (hk53 : G_rX12_walk_b53 p l e s m args below meth c dC dI kA ad res k53) : G_rX12_walk_b53 p l e s m args below meth c dC dI kA ad res (s_rX12_walk_b53 k53) := by
  obtain ⟨hx, hb, hml, hown, hts, hr, hlocks, hK, hN⟩ := id C
  intro σ x1 x2 hf H locs ls hP hS hl
  unfold s_rX12_walk_b53 at hf
  refine lv_aload_n hx hb dX12_walk_53 rfl (lv_at hl 0 rfl) ?_
  refine jk_i hf (fun res hres => jv_run hx hb hml hown hts hK hN r_hG r_hNW hl.1 (n := 0) (As := []) (rest := []) (c_rX12_isFailed l hap σ res hres) hP (ci := 12) (q0 := 0) rfl rfl rfl kw_974 kw_971 kw_973 kw_28 kw_64 ⟨rfl, rfl⟩ (by decide +kernel) rfl ⟨Nat.le_of_ble_eq_true rfl, Nat.le_of_ble_eq_true rfl⟩ rfl (Nat.le_of_ble_eq_true rfl) dX12_walk_54) hS (fun v1 σ2 H locs hP hS hf => ?_)
  refine jb_ne (tgt := 91) hx hb hf dX12_walk_57 (by decide) (fun hf => ?_) (fun hf => ?_)
  · exact (p_rX12_walk_b91 C hap) σ2 x2 hf H locs ls hP hS (lv_sub hl [0, 2] rfl)
  · refine lv_iload_n hx hb dX12_walk_60 rfl (lv_at hl 2 rfl) ?_
    refine lv_iload_n hx hb dX12_walk_61 rfl (lv_at hl 1 rfl) ?_
    refine jc_ge (tgt := 91) hx hb hf dX12_walk_62 (by decide) (fun hf => ?_) (fun hf => ?_)
    · exact (p_rX12_walk_b91 C hap) σ2 x2 hf H locs ls hP hS (lv_sub hl [0, 2] rfl)
    · refine lv_aload_n hx hb dX12_walk_65 rfl (lv_at hl 0 rfl) ?_
      refine r_gX12_waiting hx hb hts hown hK hP (hts _ kw_808) dX12_walk_66 ?_
      refine jb_le (tgt := 91) hx hb hf dX12_walk_69 (by decide) (fun hf => ?_) (fun hf => ?_)
      · exact (p_rX12_walk_b91 C hap) σ2 x2 hf H locs ls hP hS (lv_sub hl [0, 2] rfl)
      · refine lv_iload_n hx hb dX12_walk_72 rfl (lv_at hl 2 rfl) ?_
        refine lv_aload_n hx hb dX12_walk_73 rfl (lv_at hl 0 rfl) ?_
        refine lv_iload_n hx hb dX12_walk_74 rfl (lv_at hl 2 rfl) ?_
        refine jk_i hf (fun res hres => jv_run hx hb hml hown hts hK hN r_hG r_hNW hl.1 (n := 1) (As := [.int x2]) (rest := [.int x2]) (c_rX12_takes l hap σ2 x2 res hres) hP (ci := 12) (q0 := 0) rfl rfl rfl kw_1018 kw_1015 kw_1017 kw_39 kw_64 ⟨rfl, rfl⟩ (by decide +kernel) rfl ⟨Nat.le_of_ble_eq_true rfl, Nat.le_of_ble_eq_true rfl⟩ rfl (Nat.le_of_ble_eq_true rfl) dX12_walk_75) hS (fun v3 σ4 H locs hP hS hf => ?_)
        refine jb_eq (tgt := 85) hx hb hf dX12_walk_78 (by decide) (fun hf => ?_) (fun hf => ?_)
        · refine lv_iconst (v := 0) hx hb dX12_walk_85 (by decide) ?_
          exact (p_rX12_walk_b86 C hap hk53) σ4 x1 0 x2 hf H locs ls hP hS (lv_sub hl [0, 1] rfl)
        · refine lv_iconst (v := 1) hx hb dX12_walk_81 (by decide) ?_
          refine lv_goto (tgt := 86) hx hb dX12_walk_82 (by decide) ?_
          exact (p_rX12_walk_b86 C hap hk53) σ4 x1 1 x2 hf H locs ls hP hS (lv_sub hl [0, 1] rfl)
def f_rX12_walk_b53 : RS → Int32 → Int32 → Option (Int32 × RS) := kn_fix (fun _ _ _ => none) (s_rX12_walk_b53) FU
theorem q_rX12_walk_b53 {p : Program} {l : Launch} {e : Env} {s : State} {m : MethodId} {args : Array Value} {below : List Frame} {meth : Method} {c : Code} {dC : Nat → ClassId} {dI : Nat → Nat → Nat} {kA : Nat → ClassId} {ad : Nat → Nat} (C : jxc cX12_walk (some .int) 3 RX12 p s m args meth c dC dI kA) (hap : jw_ap 32 ad) {res : Int32 × RS} : G_rX12_walk_b53 p l e s m args below meth c dC dI kA ad res (f_rX12_walk_b53) := kn_fix_ind (G := fun F => G_rX12_walk_b53 p l e s m args below meth c dC dI kA ad res F) (fun _ _ _ hf => by cases hf) (fun k53 hk53 => p_rX12_walk_b53 C hap hk53) FU
def s_rX12_walk_b51 (σ : RS) (x1 : Int32) : Option (Int32 × RS) := f_rX12_walk_b53 σ x1 0
set_option maxRecDepth 100000 in
set_option maxHeartbeats 4000000 in
theorem p_rX12_walk_b51 {p : Program} {l : Launch} {e : Env} {s : State} {m : MethodId} {args : Array Value} {below : List Frame} {meth : Method} {c : Code} {dC : Nat → ClassId} {dI : Nat → Nat → Nat} {kA : Nat → ClassId} {ad : Nat → Nat} (C : jxc cX12_walk (some .int) 3 RX12 p s m args meth c dC dI kA) (hap : jw_ap 32 ad) {res : Int32 × RS} : G_rX12_walk_b51 p l e s m args below meth c dC dI kA ad res (s_rX12_walk_b51) := by
  obtain ⟨hx, hb, hml, hown, hts, hr, hlocks, hK, hN⟩ := id C
  intro σ x1 hf H locs ls hP hS hl
  unfold s_rX12_walk_b51 at hf
  refine lv_iconst (v := 0) hx hb dX12_walk_51 (by decide) ?_
  refine lv_istore_n (lv' := [(2, .int 0), (0, .ref (ad 0)), (1, .int x1)]) hx hb dX12_walk_52 rfl hl (by decide) rfl (fun ls hl => ?_)
  exact (q_rX12_walk_b53 C hap) σ x1 0 hf H locs ls hP hS (lv_sub hl [1, 2, 0] rfl)
def s_rX12_walk_b45 (k16 : RS → Int32 → Int32 → Option (Int32 × RS)) (σ : RS) (x1 : Int32) (x2 : Int32) : Option (Int32 × RS) := kn_v (x2 + 1) (fun v1 => k16 σ x1 v1)
set_option maxRecDepth 100000 in
set_option maxHeartbeats 4000000 in
theorem p_rX12_walk_b45 {p : Program} {l : Launch} {e : Env} {s : State} {m : MethodId} {args : Array Value} {below : List Frame} {meth : Method} {c : Code} {dC : Nat → ClassId} {dI : Nat → Nat → Nat} {kA : Nat → ClassId} {ad : Nat → Nat} (C : jxc cX12_walk (some .int) 3 RX12 p s m args meth c dC dI kA) (hap : jw_ap 32 ad) {res : Int32 × RS} {k16 : RS → Int32 → Int32 → Option (Int32 × RS)} (hk16 : G_rX12_walk_b16 p l e s m args below meth c dC dI kA ad res k16) : G_rX12_walk_b45 p l e s m args below meth c dC dI kA ad res (s_rX12_walk_b45 k16) := by
  obtain ⟨hx, hb, hml, hown, hts, hr, hlocks, hK, hN⟩ := id C
  intro σ x1 x2 hf H locs ls hP hS hl
  unfold s_rX12_walk_b45 at hf
  obtain ⟨v1, e_v1, hf⟩ := kn_v_e hf
  refine lv_iinc (v := v1) (lv' := [(2, .int v1), (0, .ref (ad 0)), (1, .int x1)]) hx hb dX12_walk_45 hl (k := 2) rfl e_v1 (by decide) rfl (fun ls hl => ?_)
  refine lv_goto (tgt := 16) hx hb dX12_walk_48 (by decide) ?_
  exact hk16 σ x1 v1 hf H locs ls hP hS (lv_sub hl [1, 2, 0] rfl)
def s_rX12_walk_b16 (k16 : RS → Int32 → Int32 → Option (Int32 × RS)) (σ : RS) (x1 : Int32) (x2 : Int32) : Option (Int32 × RS) := if (rg_I σ 1) ≤ x2 then (s_rX12_walk_b51 σ x1) else (kn_i (s_rX12_isFailed σ) (fun v1 σ2 => if v1 = 0 then (kn_ld (rg_A σ2 4) 12 x2 (fun v3 => if v3 = 0 then (s_rX12_walk_b45 k16 σ2 x1 x2) else (kn_u (s_rX12_sendsOn σ2 x2) (fun σ5 => s_rX12_walk_b45 k16 σ5 x1 x2)))) else (s_rX12_walk_b51 σ2 x1)))
set_option maxRecDepth 100000 in
set_option maxHeartbeats 4000000 in
theorem p_rX12_walk_b16 {p : Program} {l : Launch} {e : Env} {s : State} {m : MethodId} {args : Array Value} {below : List Frame} {meth : Method} {c : Code} {dC : Nat → ClassId} {dI : Nat → Nat → Nat} {kA : Nat → ClassId} {ad : Nat → Nat} (C : jxc cX12_walk (some .int) 3 RX12 p s m args meth c dC dI kA) (hap : jw_ap 32 ad) {res : Int32 × RS} {k16 : RS → Int32 → Int32 → Option (Int32 × RS)} (hk16 : G_rX12_walk_b16 p l e s m args below meth c dC dI kA ad res k16) : G_rX12_walk_b16 p l e s m args below meth c dC dI kA ad res (s_rX12_walk_b16 k16) := by
  obtain ⟨hx, hb, hml, hown, hts, hr, hlocks, hK, hN⟩ := id C
  intro σ x1 x2 hf H locs ls hP hS hl
  unfold s_rX12_walk_b16 at hf
  refine lv_iload_n hx hb dX12_walk_16 rfl (lv_at hl 2 rfl) ?_
  refine lv_aload_n hx hb dX12_walk_17 rfl (lv_at hl 0 rfl) ?_
  refine r_gX12_nodes hx hb hts hown hK hP (hts _ kw_765) dX12_walk_18 ?_
  refine jc_ge (tgt := 51) hx hb hf dX12_walk_21 (by decide) (fun hf => ?_) (fun hf => ?_)
  · exact (p_rX12_walk_b51 C hap) σ x1 hf H locs ls hP hS (lv_sub hl [0, 1] rfl)
  · refine lv_aload_n hx hb dX12_walk_24 rfl (lv_at hl 0 rfl) ?_
    refine jk_i hf (fun res hres => jv_run hx hb hml hown hts hK hN r_hG r_hNW hl.1 (n := 0) (As := []) (rest := []) (c_rX12_isFailed l hap σ res hres) hP (ci := 12) (q0 := 0) rfl rfl rfl kw_974 kw_971 kw_973 kw_28 kw_64 ⟨rfl, rfl⟩ (by decide +kernel) rfl ⟨Nat.le_of_ble_eq_true rfl, Nat.le_of_ble_eq_true rfl⟩ rfl (Nat.le_of_ble_eq_true rfl) dX12_walk_25) hS (fun v1 σ2 H locs hP hS hf => ?_)
    refine jb_ne (tgt := 51) hx hb hf dX12_walk_28 (by decide) (fun hf => ?_) (fun hf => ?_)
    · exact (p_rX12_walk_b51 C hap) σ2 x1 hf H locs ls hP hS (lv_sub hl [0, 1] rfl)
    · refine lv_aload_n hx hb dX12_walk_31 rfl (lv_at hl 0 rfl) ?_
      refine r_gX12_awake hx hb hts hown hK hP (hts _ kw_767) dX12_walk_32 ?_
      refine lv_iload_n hx hb dX12_walk_35 rfl (lv_at hl 2 rfl) ?_
      refine ja_zld hx hb hK hP 7 2 rfl rfl hf dX12_walk_36 (fun v3 hf => ?_)
      refine jb_eq (tgt := 45) hx hb hf dX12_walk_37 (by decide) (fun hf => ?_) (fun hf => ?_)
      · exact (p_rX12_walk_b45 C hap hk16) σ2 x1 x2 hf H locs ls hP hS (lv_sub hl [0, 1, 2] rfl)
      · refine lv_aload_n hx hb dX12_walk_40 rfl (lv_at hl 0 rfl) ?_
        refine lv_iload_n hx hb dX12_walk_41 rfl (lv_at hl 2 rfl) ?_
        refine jk_u hf (fun res hres => jv_run hx hb hml hown hts hK hN r_hG r_hNW hl.1 (n := 1) (As := [.int x2]) (rest := []) (c_rX12_sendsOn l hap σ2 x2 res hres) hP (ci := 12) (q0 := 0) rfl rfl rfl kw_978 kw_975 kw_977 kw_29 kw_64 ⟨rfl, rfl⟩ (by decide +kernel) rfl ⟨Nat.le_of_ble_eq_true rfl, Nat.le_of_ble_eq_true rfl⟩ rfl (Nat.le_of_ble_eq_true rfl) dX12_walk_42) hS (fun σ5 H locs hP hS hf => ?_)
        exact (p_rX12_walk_b45 C hap hk16) σ5 x1 x2 hf H locs ls hP hS (lv_sub hl [0, 1, 2] rfl)
def f_rX12_walk_b16 : RS → Int32 → Int32 → Option (Int32 × RS) := kn_fix (fun _ _ _ => none) (s_rX12_walk_b16) FU
theorem q_rX12_walk_b16 {p : Program} {l : Launch} {e : Env} {s : State} {m : MethodId} {args : Array Value} {below : List Frame} {meth : Method} {c : Code} {dC : Nat → ClassId} {dI : Nat → Nat → Nat} {kA : Nat → ClassId} {ad : Nat → Nat} (C : jxc cX12_walk (some .int) 3 RX12 p s m args meth c dC dI kA) (hap : jw_ap 32 ad) {res : Int32 × RS} : G_rX12_walk_b16 p l e s m args below meth c dC dI kA ad res (f_rX12_walk_b16) := kn_fix_ind (G := fun F => G_rX12_walk_b16 p l e s m args below meth c dC dI kA ad res F) (fun _ _ _ hf => by cases hf) (fun k16 hk16 => p_rX12_walk_b16 C hap hk16) FU
def s_rX12_walk (σ : RS) (x1 : Int32) : Option (Int32 × RS) := kn_v (rs_I σ 11 0) (fun σ1 => kn_v (rs_I σ1 17 0) (fun σ2 => kn_u (s_rX12_remember σ2) (fun σ4 => f_rX12_walk_b16 σ4 x1 0)))
set_option maxRecDepth 100000 in
set_option maxHeartbeats 4000000 in
theorem p_rX12_walk {p : Program} {l : Launch} {e : Env} {s : State} {m : MethodId} {args : Array Value} {below : List Frame} {meth : Method} {c : Code} {dC : Nat → ClassId} {dI : Nat → Nat → Nat} {kA : Nat → ClassId} {ad : Nat → Nat} (C : jxc cX12_walk (some .int) 3 RX12 p s m args meth c dC dI kA) (hap : jw_ap 32 ad) {res : Int32 × RS} : G_rX12_walk p l e s m args below meth c dC dI kA ad res (s_rX12_walk) := by
  obtain ⟨hx, hb, hml, hown, hts, hr, hlocks, hK, hN⟩ := id C
  intro σ x1 hf H locs ls hP hS hl
  unfold s_rX12_walk at hf
  refine lv_aload_n hx hb dX12_walk_0 rfl (lv_at hl 0 rfl) ?_
  refine lv_iconst (v := 0) hx hb dX12_walk_1 (by decide) ?_
  refine r_pX12_spent hx hb hts hown hK hap hP hS hf (hts _ kw_793) dX12_walk_2 (fun σ1 H locs hP hS hf => ?_)
  refine lv_aload_n hx hb dX12_walk_5 rfl (lv_at hl 0 rfl) ?_
  refine lv_iconst (v := 0) hx hb dX12_walk_6 (by decide) ?_
  refine r_pX12_waiting hx hb hts hown hK hap hP hS hf (hts _ kw_808) dX12_walk_7 (fun σ2 H locs hP hS hf => ?_)
  refine lv_aload_n hx hb dX12_walk_10 rfl (lv_at hl 0 rfl) ?_
  refine jk_u hf (fun res hres => jv_run hx hb hml hown hts hK hN r_hG r_hNW hl.1 (n := 0) (As := []) (rest := []) (c_rX12_remember l hap σ2 res hres) hP (ci := 12) (q0 := 0) rfl rfl rfl kw_970 kw_967 kw_969 kw_27 kw_64 ⟨rfl, rfl⟩ (by decide +kernel) rfl ⟨Nat.le_of_ble_eq_true rfl, Nat.le_of_ble_eq_true rfl⟩ rfl (Nat.le_of_ble_eq_true rfl) dX12_walk_11) hS (fun σ4 H locs hP hS hf => ?_)
  refine lv_iconst (v := 0) hx hb dX12_walk_14 (by decide) ?_
  refine lv_istore_n (lv' := [(2, .int 0), (0, .ref (ad 0)), (1, .int x1)]) hx hb dX12_walk_15 rfl hl (by decide) rfl (fun ls hl => ?_)
  exact (q_rX12_walk_b16 C hap) σ4 x1 0 hf H locs ls hP hS (lv_sub hl [1, 2, 0] rfl)
theorem c_rX12_walk (l : Launch) {dC : Nat → ClassId} {dI : Nat → Nat → Nat} {kA : Nat → ClassId} {ad : Nat → Nat} (hap : jw_ap 32 ad) (σ : RS) (x1 : Int32) (res : Int32 × RS) (hf : s_rX12_walk σ x1 = some res) : jm_i l KW NW (dC, dI) vwCl (jtys kA) (jw_A 32 ad) (r_w kA ad) yX12_walk cX12_walk 3 .int (rm_rX12_walk) [.ref (ad 0), .int x1] σ res := jm_i_of (by decide) (Nat.le_of_ble_eq_true rfl) (fun p e s m below meth c C hP hS ls hl => p_rX12_walk C hap σ x1 hf s.heap [] ls hP hS hl)

def rm_rX12_run : Room := { frames := 8, cells := 0, slots := 0, locals := 190 }
def G_rX12_run_b50 (p : Program) (l : Launch) (e : Env) (s : State) (m : MethodId) (args : Array Value) (below : List Frame) (meth : Method) (c : Code) (dC : Nat → ClassId) (dI : Nat → Nat → Nat) (kA : Nat → ClassId) (ad : Nat → Nat) (res : Int32 × RS) (F : RS → Int32 → Int32 → Int32 → Option (Int32 × RS)) : Prop := ∀ (σ : RS) (x1 : Int32) (x2 : Int32) (x3 : Int32), F σ x1 x2 x3 = some res → ∀ (H : Heap) (locs : List Loc) (ls : Array Slot), va_P (dC, dI) vwCl (r_w kA ad σ) H → va_S (jw_A 32 ad) s.heap H locs → lv_has ls 4 [(0, .ref (ad 0)), (1, .int x1), (2, .int x2), (3, .int x3)] → W p l e rm_rX12_run s m args below meth c H locs 0 0 (r_Qi below dC dI kA ad args s res) (F0 m 50 ls [])
def G_rX12_run_b24 (p : Program) (l : Launch) (e : Env) (s : State) (m : MethodId) (args : Array Value) (below : List Frame) (meth : Method) (c : Code) (dC : Nat → ClassId) (dI : Nat → Nat → Nat) (kA : Nat → ClassId) (ad : Nat → Nat) (res : Int32 × RS) (F : RS → Int32 → Int32 → Int32 → Int32 → Int32 → Option (Int32 × RS)) : Prop := ∀ (σ : RS) (x1 : Int32) (x2 : Int32) (s0 : Int32) (s1 : Int32) (s2 : Int32), F σ x1 x2 s0 s1 s2 = some res → ∀ (H : Heap) (locs : List Loc) (ls : Array Slot), va_P (dC, dI) vwCl (r_w kA ad σ) H → va_S (jw_A 32 ad) s.heap H locs → lv_has ls 4 [(0, .ref (ad 0)), (1, .int x1), (2, .int x2)] → W p l e rm_rX12_run s m args below meth c H locs 0 0 (r_Qi below dC dI kA ad args s res) (F0 m 24 ls [.int s0, .int s1, .int s2])
def G_rX12_run (p : Program) (l : Launch) (e : Env) (s : State) (m : MethodId) (args : Array Value) (below : List Frame) (meth : Method) (c : Code) (dC : Nat → ClassId) (dI : Nat → Nat → Nat) (kA : Nat → ClassId) (ad : Nat → Nat) (res : Int32 × RS) (F : RS → Int32 → Int32 → Option (Int32 × RS)) : Prop := ∀ (σ : RS) (x1 : Int32) (x2 : Int32), F σ x1 x2 = some res → ∀ (H : Heap) (locs : List Loc) (ls : Array Slot), va_P (dC, dI) vwCl (r_w kA ad σ) H → va_S (jw_A 32 ad) s.heap H locs → lv_has ls 4 [(0, .ref (ad 0)), (1, .int x1), (2, .int x2)] → W p l e rm_rX12_run s m args below meth c H locs 0 0 (r_Qi below dC dI kA ad args s res) (F0 m 0 ls [])
def s_rX12_run_b50 (k50 : RS → Int32 → Int32 → Int32 → Option (Int32 × RS)) (σ : RS) (x1 : Int32) (x2 : Int32) (x3 : Int32) : Option (Int32 × RS) := if x2 ≤ x3 then (some (x3, σ)) else (kn_i (s_rX12_isAnyAwake σ) (fun v1 σ2 => if v1 = 0 then (some (x3, σ2)) else (kn_i (s_rX12_round σ2 x1) (fun v3 σ4 => if v3 = 0 then (some (x3, σ4)) else (kn_v (x3 + 1) (fun v5 => k50 σ4 x1 x2 v5))))))
set_option maxRecDepth 100000 in
set_option maxHeartbeats 4000000 in
theorem p_rX12_run_b50 {p : Program} {l : Launch} {e : Env} {s : State} {m : MethodId} {args : Array Value} {below : List Frame} {meth : Method} {c : Code} {dC : Nat → ClassId} {dI : Nat → Nat → Nat} {kA : Nat → ClassId} {ad : Nat → Nat} (C : jxc cX12_run (some .int) 4 RX12 p s m args meth c dC dI kA) (hap : jw_ap 32 ad) {res : Int32 × RS} {k50 : RS → Int32 → Int32 → Int32 → Option (Int32 × RS)} (hk50 : G_rX12_run_b50 p l e s m args below meth c dC dI kA ad res k50) : G_rX12_run_b50 p l e s m args below meth c dC dI kA ad res (s_rX12_run_b50 k50) := by
  obtain ⟨hx, hb, hml, hown, hts, hr, hlocks, hK, hN⟩ := id C
  intro σ x1 x2 x3 hf H locs ls hP hS hl
  unfold s_rX12_run_b50 at hf
  refine lv_iload_n hx hb dX12_run_50 rfl (lv_at hl 3 rfl) ?_
  refine lv_iload_n hx hb dX12_run_51 rfl (lv_at hl 2 rfl) ?_
  refine jc_ge (tgt := 76) hx hb hf dX12_run_52 (by decide) (fun hf => ?_) (fun hf => ?_)
  · refine lv_iload_n hx hb dX12_run_76 rfl (lv_at hl 3 rfl) ?_
    exact jr_i hx hb hr hlocks hf rfl hP hS dX12_run_77
  · refine lv_aload_n hx hb dX12_run_55 rfl (lv_at hl 0 rfl) ?_
    refine jk_i hf (fun res hres => jv_run hx hb hml hown hts hK hN r_hG r_hNW hl.1 (n := 0) (As := []) (rest := []) (c_rX12_isAnyAwake l hap σ res hres) hP (ci := 12) (q0 := 0) rfl rfl rfl kw_1026 kw_1023 kw_1025 kw_41 kw_64 ⟨rfl, rfl⟩ (by decide +kernel) rfl ⟨Nat.le_of_ble_eq_true rfl, Nat.le_of_ble_eq_true rfl⟩ rfl (Nat.le_of_ble_eq_true rfl) dX12_run_56) hS (fun v1 σ2 H locs hP hS hf => ?_)
    refine jb_eq (tgt := 76) hx hb hf dX12_run_59 (by decide) (fun hf => ?_) (fun hf => ?_)
    · refine lv_iload_n hx hb dX12_run_76 rfl (lv_at hl 3 rfl) ?_
      exact jr_i hx hb hr hlocks hf rfl hP hS dX12_run_77
    · refine lv_aload_n hx hb dX12_run_62 rfl (lv_at hl 0 rfl) ?_
      refine lv_iload_n hx hb dX12_run_63 rfl (lv_at hl 1 rfl) ?_
      refine jk_i hf (fun res hres => jv_run hx hb hml hown hts hK hN r_hG r_hNW hl.1 (n := 1) (As := [.int x1]) (rest := []) (c_rX12_round l hap σ2 x1 res hres) hP (ci := 12) (q0 := 0) rfl rfl rfl kw_1030 kw_1027 kw_1029 kw_42 kw_64 ⟨rfl, rfl⟩ (by decide +kernel) rfl ⟨Nat.le_of_ble_eq_true rfl, Nat.le_of_ble_eq_true rfl⟩ rfl (Nat.le_of_ble_eq_true rfl) dX12_run_64) hS (fun v3 σ4 H locs hP hS hf => ?_)
      refine jb_eq (tgt := 76) hx hb hf dX12_run_67 (by decide) (fun hf => ?_) (fun hf => ?_)
      · refine lv_iload_n hx hb dX12_run_76 rfl (lv_at hl 3 rfl) ?_
        exact jr_i hx hb hr hlocks hf rfl hP hS dX12_run_77
      · obtain ⟨v5, e_v5, hf⟩ := kn_v_e hf
        refine lv_iinc (v := v5) (lv' := [(3, .int v5), (0, .ref (ad 0)), (1, .int x1), (2, .int x2)]) hx hb dX12_run_70 hl (k := 3) rfl e_v5 (by decide) rfl (fun ls hl => ?_)
        refine lv_goto (tgt := 50) hx hb dX12_run_73 (by decide) ?_
        exact hk50 σ4 x1 x2 v5 hf H locs ls hP hS (lv_sub hl [1, 2, 3, 0] rfl)
def f_rX12_run_b50 : RS → Int32 → Int32 → Int32 → Option (Int32 × RS) := kn_fix (fun _ _ _ _ => none) (s_rX12_run_b50) FU
theorem q_rX12_run_b50 {p : Program} {l : Launch} {e : Env} {s : State} {m : MethodId} {args : Array Value} {below : List Frame} {meth : Method} {c : Code} {dC : Nat → ClassId} {dI : Nat → Nat → Nat} {kA : Nat → ClassId} {ad : Nat → Nat} (C : jxc cX12_run (some .int) 4 RX12 p s m args meth c dC dI kA) (hap : jw_ap 32 ad) {res : Int32 × RS} : G_rX12_run_b50 p l e s m args below meth c dC dI kA ad res (f_rX12_run_b50) := kn_fix_ind (G := fun F => G_rX12_run_b50 p l e s m args below meth c dC dI kA ad res F) (fun _ _ _ _ hf => by cases hf) (fun k50 hk50 => p_rX12_run_b50 C hap hk50) FU
def s_rX12_run_b24 (σ : RS) (x1 : Int32) (x2 : Int32) (s0 : Int32) (s1 : Int32) (s2 : Int32) : Option (Int32 × RS) := kn_i (s_rX12_in σ s2 s1 s0) (fun v1 σ2 => if v1 = 0 then (some ((-102), σ2)) else (kn_u (s_rX12_clearFailed σ2) (fun σ4 => if x1 = 2 then (kn_i (s_rX12_walk σ4 x2) (fun v5 σ6 => some (v5, σ6))) else (f_rX12_run_b50 σ4 x1 x2 0))))
set_option maxRecDepth 100000 in
set_option maxHeartbeats 4000000 in
theorem p_rX12_run_b24 {p : Program} {l : Launch} {e : Env} {s : State} {m : MethodId} {args : Array Value} {below : List Frame} {meth : Method} {c : Code} {dC : Nat → ClassId} {dI : Nat → Nat → Nat} {kA : Nat → ClassId} {ad : Nat → Nat} (C : jxc cX12_run (some .int) 4 RX12 p s m args meth c dC dI kA) (hap : jw_ap 32 ad) {res : Int32 × RS} : G_rX12_run_b24 p l e s m args below meth c dC dI kA ad res (s_rX12_run_b24) := by
  obtain ⟨hx, hb, hml, hown, hts, hr, hlocks, hK, hN⟩ := id C
  intro σ x1 x2 s0 s1 s2 hf H locs ls hP hS hl
  unfold s_rX12_run_b24 at hf
  refine jk_i hf (fun res hres => js_run hx hb hml hown hts hK hN r_hG r_hNW hl.1 (n := 3) (As := [.int s2, .int s1, .int s0]) (rest := []) (c_rX12_in l hap σ s2 s1 s0 res hres) hP kw_925 kw_923 kw_924 kw_64 ⟨rfl, rfl⟩ (by decide +kernel) rfl ⟨Nat.le_of_ble_eq_true rfl, Nat.le_of_ble_eq_true rfl⟩ rfl (Nat.le_of_ble_eq_true rfl) dX12_run_24) hS (fun v1 σ2 H locs hP hS hf => ?_)
  refine jb_ne (tgt := 33) hx hb hf dX12_run_27 (by decide) (fun hf => ?_) (fun hf => ?_)
  · refine lv_aload_n hx hb dX12_run_33 rfl (lv_at hl 0 rfl) ?_
    refine jk_u hf (fun res hres => jv_run hx hb hml hown hts hK hN r_hG r_hNW hl.1 (n := 0) (As := []) (rest := []) (c_rX12_clearFailed l hap σ2 res hres) hP (ci := 12) (q0 := 0) rfl rfl rfl kw_758 kw_755 kw_757 kw_23 kw_64 ⟨rfl, rfl⟩ (by decide +kernel) rfl ⟨Nat.le_of_ble_eq_true rfl, Nat.le_of_ble_eq_true rfl⟩ rfl (Nat.le_of_ble_eq_true rfl) dX12_run_34) hS (fun σ4 H locs hP hS hf => ?_)
    refine lv_iload_n hx hb dX12_run_37 rfl (lv_at hl 1 rfl) ?_
    refine lv_iconst (v := 2) hx hb dX12_run_38 (by decide) ?_
    refine jc_ne (tgt := 48) hx hb hf dX12_run_39 (by decide) (fun hf => ?_) (fun hf => ?_)
    · refine lv_iconst (v := 0) hx hb dX12_run_48 (by decide) ?_
      refine lv_istore_n (lv' := [(3, .int 0), (0, .ref (ad 0)), (1, .int x1), (2, .int x2)]) hx hb dX12_run_49 rfl hl (by decide) rfl (fun ls hl => ?_)
      exact (q_rX12_run_b50 C hap) σ4 x1 x2 0 hf H locs ls hP hS (lv_sub hl [1, 2, 3, 0] rfl)
    · refine lv_aload_n hx hb dX12_run_42 rfl (lv_at hl 0 rfl) ?_
      refine lv_iload_n hx hb dX12_run_43 rfl (lv_at hl 2 rfl) ?_
      refine jk_i hf (fun res hres => jv_run hx hb hml hown hts hK hN r_hG r_hNW hl.1 (n := 1) (As := [.int x2]) (rest := []) (c_rX12_walk l hap σ4 x2 res hres) hP (ci := 12) (q0 := 0) rfl rfl rfl kw_966 kw_963 kw_965 kw_26 kw_64 ⟨rfl, rfl⟩ (by decide +kernel) rfl ⟨Nat.le_of_ble_eq_true rfl, Nat.le_of_ble_eq_true rfl⟩ rfl (Nat.le_of_ble_eq_true rfl) dX12_run_44) hS (fun v5 σ6 H locs hP hS hf => ?_)
      exact jr_i hx hb hr hlocks hf rfl hP hS dX12_run_47
  · refine lv_bipush (v := (-102)) hx hb dX12_run_30 (by decide) ?_
    exact jr_i hx hb hr hlocks hf rfl hP hS dX12_run_32
def s_rX12_run (σ : RS) (x1 : Int32) (x2 : Int32) : Option (Int32 × RS) := kn_i (s_rX12_in σ x1 0 2) (fun v1 σ2 => if v1 = 0 then (some ((-102), σ2)) else (if x1 = 2 then (s_rX12_run_b24 σ2 x1 x2 200 1 x2) else (s_rX12_run_b24 σ2 x1 x2 50 1 x2)))
set_option maxRecDepth 100000 in
set_option maxHeartbeats 4000000 in
theorem p_rX12_run {p : Program} {l : Launch} {e : Env} {s : State} {m : MethodId} {args : Array Value} {below : List Frame} {meth : Method} {c : Code} {dC : Nat → ClassId} {dI : Nat → Nat → Nat} {kA : Nat → ClassId} {ad : Nat → Nat} (C : jxc cX12_run (some .int) 4 RX12 p s m args meth c dC dI kA) (hap : jw_ap 32 ad) {res : Int32 × RS} : G_rX12_run p l e s m args below meth c dC dI kA ad res (s_rX12_run) := by
  obtain ⟨hx, hb, hml, hown, hts, hr, hlocks, hK, hN⟩ := id C
  intro σ x1 x2 hf H locs ls hP hS hl
  unfold s_rX12_run at hf
  refine lv_iload_n hx hb dX12_run_0 rfl (lv_at hl 1 rfl) ?_
  refine lv_iconst (v := 0) hx hb dX12_run_1 (by decide) ?_
  refine lv_iconst (v := 2) hx hb dX12_run_2 (by decide) ?_
  refine jk_i hf (fun res hres => js_run hx hb hml hown hts hK hN r_hG r_hNW hl.1 (n := 3) (As := [.int x1, .int 0, .int 2]) (rest := []) (c_rX12_in l hap σ x1 0 2 res hres) hP kw_925 kw_923 kw_924 kw_64 ⟨rfl, rfl⟩ (by decide +kernel) rfl ⟨Nat.le_of_ble_eq_true rfl, Nat.le_of_ble_eq_true rfl⟩ rfl (Nat.le_of_ble_eq_true rfl) dX12_run_3) hS (fun v1 σ2 H locs hP hS hf => ?_)
  refine jb_eq (tgt := 30) hx hb hf dX12_run_6 (by decide) (fun hf => ?_) (fun hf => ?_)
  · refine lv_bipush (v := (-102)) hx hb dX12_run_30 (by decide) ?_
    exact jr_i hx hb hr hlocks hf rfl hP hS dX12_run_32
  · refine lv_iload_n hx hb dX12_run_9 rfl (lv_at hl 2 rfl) ?_
    refine lv_iconst (v := 1) hx hb dX12_run_10 (by decide) ?_
    refine lv_iload_n hx hb dX12_run_11 rfl (lv_at hl 1 rfl) ?_
    refine lv_iconst (v := 2) hx hb dX12_run_12 (by decide) ?_
    refine jc_ne (tgt := 22) hx hb hf dX12_run_13 (by decide) (fun hf => ?_) (fun hf => ?_)
    · refine lv_bipush (v := 50) hx hb dX12_run_22 (by decide) ?_
      exact (p_rX12_run_b24 C hap) σ2 x1 x2 50 1 x2 hf H locs ls hP hS (lv_sub hl [0, 1, 2] rfl)
    · refine lv_sipush (v := 200) hx hb dX12_run_16 (by decide) ?_
      refine lv_goto (tgt := 24) hx hb dX12_run_19 (by decide) ?_
      exact (p_rX12_run_b24 C hap) σ2 x1 x2 200 1 x2 hf H locs ls hP hS (lv_sub hl [0, 1, 2] rfl)
theorem c_rX12_run (l : Launch) {dC : Nat → ClassId} {dI : Nat → Nat → Nat} {kA : Nat → ClassId} {ad : Nat → Nat} (hap : jw_ap 32 ad) (σ : RS) (x1 : Int32) (x2 : Int32) (res : Int32 × RS) (hf : s_rX12_run σ x1 x2 = some res) : jm_i l KW NW (dC, dI) vwCl (jtys kA) (jw_A 32 ad) (r_w kA ad) yX12_run cX12_run 4 .int (rm_rX12_run) [.ref (ad 0), .int x1, .int x2] σ res := jm_i_of (by decide) (Nat.le_of_ble_eq_true rfl) (fun p e s m below meth c C hP hS ls hl => p_rX12_run C hap σ x1 x2 hf s.heap [] ls hP hS hl)

def rm_rX12_ask : Room := { frames := 3, cells := 0, slots := 0, locals := 74 }
def G_rX12_ask_b34 (p : Program) (l : Launch) (e : Env) (s : State) (m : MethodId) (args : Array Value) (below : List Frame) (meth : Method) (c : Code) (dC : Nat → ClassId) (dI : Nat → Nat → Nat) (kA : Nat → ClassId) (ad : Nat → Nat) (res : Int64 × RS) (F : RS → Option (Int64 × RS)) : Prop := ∀ (σ : RS), F σ = some res → ∀ (H : Heap) (locs : List Loc) (ls : Array Slot), va_P (dC, dI) vwCl (r_w kA ad σ) H → va_S (jw_A 32 ad) s.heap H locs → lv_has ls 4 [] → W p l e rm_rX12_ask s m args below meth c H locs 0 0 (r_Ql below dC dI kA ad args s res) (F0 m 34 ls [])
def G_rX12_ask_b38 (p : Program) (l : Launch) (e : Env) (s : State) (m : MethodId) (args : Array Value) (below : List Frame) (meth : Method) (c : Code) (dC : Nat → ClassId) (dI : Nat → Nat → Nat) (kA : Nat → ClassId) (ad : Nat → Nat) (res : Int64 × RS) (F : RS → Int32 → Int32 → Int32 → Option (Int64 × RS)) : Prop := ∀ (σ : RS) (x1 : Int32) (x2 : Int32) (x3 : Int32), F σ x1 x2 x3 = some res → ∀ (H : Heap) (locs : List Loc) (ls : Array Slot), va_P (dC, dI) vwCl (r_w kA ad σ) H → va_S (jw_A 32 ad) s.heap H locs → lv_has ls 4 [(0, .ref (ad 0)), (1, .int x1), (2, .int x2), (3, .int x3)] → W p l e rm_rX12_ask s m args below meth c H locs 0 0 (r_Ql below dC dI kA ad args s res) (F0 m 38 ls [])
def G_rX12_ask (p : Program) (l : Launch) (e : Env) (s : State) (m : MethodId) (args : Array Value) (below : List Frame) (meth : Method) (c : Code) (dC : Nat → ClassId) (dI : Nat → Nat → Nat) (kA : Nat → ClassId) (ad : Nat → Nat) (res : Int64 × RS) (F : RS → Int32 → Int32 → Int32 → Option (Int64 × RS)) : Prop := ∀ (σ : RS) (x1 : Int32) (x2 : Int32) (x3 : Int32), F σ x1 x2 x3 = some res → ∀ (H : Heap) (locs : List Loc) (ls : Array Slot), va_P (dC, dI) vwCl (r_w kA ad σ) H → va_S (jw_A 32 ad) s.heap H locs → lv_has ls 4 [(0, .ref (ad 0)), (1, .int x1), (2, .int x2), (3, .int x3)] → W p l e rm_rX12_ask s m args below meth c H locs 0 0 (r_Ql below dC dI kA ad args s res) (F0 m 0 ls [])
def s_rX12_ask_b34 (σ : RS) : Option (Int64 × RS) := some ((-101), σ)
set_option maxRecDepth 100000 in
set_option maxHeartbeats 4000000 in
theorem p_rX12_ask_b34 {p : Program} {l : Launch} {e : Env} {s : State} {m : MethodId} {args : Array Value} {below : List Frame} {meth : Method} {c : Code} {dC : Nat → ClassId} {dI : Nat → Nat → Nat} {kA : Nat → ClassId} {ad : Nat → Nat} (C : jxc cX12_ask (some .long) 4 RX12 p s m args meth c dC dI kA) (hap : jw_ap 32 ad) {res : Int64 × RS} : G_rX12_ask_b34 p l e s m args below meth c dC dI kA ad res (s_rX12_ask_b34) := by
  obtain ⟨hx, hb, hml, hown, hts, hr, hlocks, hK, hN⟩ := id C
  intro σ hf H locs ls hP hS hl
  unfold s_rX12_ask_b34 at hf
  refine lv_ldc2 (v := (-101)) hx hb hown (hts _ kw_1075) dX12_ask_34 ?_
  exact jr_l hx hb hr hlocks hf hP hS dX12_ask_37
def s_rX12_ask_b38 (σ : RS) (x1 : Int32) (x2 : Int32) (x3 : Int32) : Option (Int64 × RS) := kn_v (rs_I σ 11 0) (fun σ1 => kn_v (rs_L σ1 2 0) (fun σ2 => kn_v (rs_I σ2 14 0) (fun σ3 => kn_i (s_rX12_asked σ3 x1 x2 x3) (fun v4 σ5 => kn_v (rs_I σ5 6 v4) (fun σ6 => if (rg_I σ6 6) = 0 then (some (rg_L σ6 1, σ6)) else (some (0, σ6)))))))
set_option maxRecDepth 100000 in
set_option maxHeartbeats 4000000 in
theorem p_rX12_ask_b38 {p : Program} {l : Launch} {e : Env} {s : State} {m : MethodId} {args : Array Value} {below : List Frame} {meth : Method} {c : Code} {dC : Nat → ClassId} {dI : Nat → Nat → Nat} {kA : Nat → ClassId} {ad : Nat → Nat} (C : jxc cX12_ask (some .long) 4 RX12 p s m args meth c dC dI kA) (hap : jw_ap 32 ad) {res : Int64 × RS} : G_rX12_ask_b38 p l e s m args below meth c dC dI kA ad res (s_rX12_ask_b38) := by
  obtain ⟨hx, hb, hml, hown, hts, hr, hlocks, hK, hN⟩ := id C
  intro σ x1 x2 x3 hf H locs ls hP hS hl
  unfold s_rX12_ask_b38 at hf
  refine lv_aload_n hx hb dX12_ask_38 rfl (lv_at hl 0 rfl) ?_
  refine lv_iconst (v := 0) hx hb dX12_ask_39 (by decide) ?_
  refine r_pX12_spent hx hb hts hown hK hap hP hS hf (hts _ kw_793) dX12_ask_40 (fun σ1 H locs hP hS hf => ?_)
  refine lv_aload_n hx hb dX12_ask_43 rfl (lv_at hl 0 rfl) ?_
  refine lv_lconst (v := 0) hx hb dX12_ask_44 (by decide) ?_
  refine r_pX12_folded hx hb hts hown hK hap hP hS hf (hts _ kw_796) dX12_ask_45 (fun σ2 H locs hP hS hf => ?_)
  refine lv_aload_n hx hb dX12_ask_48 rfl (lv_at hl 0 rfl) ?_
  refine lv_iconst (v := 0) hx hb dX12_ask_49 (by decide) ?_
  refine r_pX12_many hx hb hts hown hK hap hP hS hf (hts _ kw_797) dX12_ask_50 (fun σ3 H locs hP hS hf => ?_)
  refine lv_aload_n hx hb dX12_ask_53 rfl (lv_at hl 0 rfl) ?_
  refine lv_aload_n hx hb dX12_ask_54 rfl (lv_at hl 0 rfl) ?_
  refine lv_iload_n hx hb dX12_ask_55 rfl (lv_at hl 1 rfl) ?_
  refine lv_iload_n hx hb dX12_ask_56 rfl (lv_at hl 2 rfl) ?_
  refine lv_iload_n hx hb dX12_ask_57 rfl (lv_at hl 3 rfl) ?_
  refine jk_i hf (fun res hres => jv_run hx hb hml hown hts hK hN r_hG r_hNW hl.1 (n := 3) (As := [.int x1, .int x2, .int x3]) (rest := [.ref (ad 0)]) (c_rX12_asked l hap σ3 x1 x2 x3 res hres) hP (ci := 12) (q0 := 0) rfl rfl rfl kw_990 kw_987 kw_989 kw_32 kw_64 ⟨rfl, rfl⟩ (by decide +kernel) rfl ⟨Nat.le_of_ble_eq_true rfl, Nat.le_of_ble_eq_true rfl⟩ rfl (Nat.le_of_ble_eq_true rfl) dX12_ask_58) hS (fun v4 σ5 H locs hP hS hf => ?_)
  refine r_pX12_why hx hb hts hown hK hap hP hS hf (hts _ kw_778) dX12_ask_61 (fun σ6 H locs hP hS hf => ?_)
  refine lv_aload_n hx hb dX12_ask_64 rfl (lv_at hl 0 rfl) ?_
  refine r_gX12_why hx hb hts hown hK hP (hts _ kw_778) dX12_ask_65 ?_
  refine jb_ne (tgt := 78) hx hb hf dX12_ask_68 (by decide) (fun hf => ?_) (fun hf => ?_)
  · refine lv_lconst (v := 0) hx hb dX12_ask_78 (by decide) ?_
    exact jr_l hx hb hr hlocks hf hP hS dX12_ask_79
  · refine lv_aload_n hx hb dX12_ask_71 rfl (lv_at hl 0 rfl) ?_
    refine r_gX12_came hx hb hts hown hK hP (hts _ kw_791) dX12_ask_72 ?_
    refine lv_goto (tgt := 79) hx hb dX12_ask_75 (by decide) ?_
    exact jr_l hx hb hr hlocks hf hP hS dX12_ask_79
def s_rX12_ask (σ : RS) (x1 : Int32) (x2 : Int32) (x3 : Int32) : Option (Int64 × RS) := kn_v (rs_I σ 6 0) (fun σ1 => kn_i (s_rX12_isTerm σ1 x1) (fun v2 σ3 => if v2 = 0 then (s_rX12_ask_b34 σ3) else (kn_i (s_rX12_isNode σ3 x2) (fun v4 σ5 => if v4 = 0 then (s_rX12_ask_b34 σ5) else (if x3 = (-1) then (s_rX12_ask_b38 σ5 x1 x2 x3) else (kn_i (s_rX12_isArc σ5 x3) (fun v6 σ7 => if v6 = 0 then (s_rX12_ask_b34 σ7) else (s_rX12_ask_b38 σ7 x1 x2 x3))))))))
set_option maxRecDepth 100000 in
set_option maxHeartbeats 4000000 in
theorem p_rX12_ask {p : Program} {l : Launch} {e : Env} {s : State} {m : MethodId} {args : Array Value} {below : List Frame} {meth : Method} {c : Code} {dC : Nat → ClassId} {dI : Nat → Nat → Nat} {kA : Nat → ClassId} {ad : Nat → Nat} (C : jxc cX12_ask (some .long) 4 RX12 p s m args meth c dC dI kA) (hap : jw_ap 32 ad) {res : Int64 × RS} : G_rX12_ask p l e s m args below meth c dC dI kA ad res (s_rX12_ask) := by
  obtain ⟨hx, hb, hml, hown, hts, hr, hlocks, hK, hN⟩ := id C
  intro σ x1 x2 x3 hf H locs ls hP hS hl
  unfold s_rX12_ask at hf
  refine lv_aload_n hx hb dX12_ask_0 rfl (lv_at hl 0 rfl) ?_
  refine lv_iconst (v := 0) hx hb dX12_ask_1 (by decide) ?_
  refine r_pX12_why hx hb hts hown hK hap hP hS hf (hts _ kw_778) dX12_ask_2 (fun σ1 H locs hP hS hf => ?_)
  refine lv_aload_n hx hb dX12_ask_5 rfl (lv_at hl 0 rfl) ?_
  refine lv_iload_n hx hb dX12_ask_6 rfl (lv_at hl 1 rfl) ?_
  refine jk_i hf (fun res hres => jv_run hx hb hml hown hts hK hN r_hG r_hNW hl.1 (n := 1) (As := [.int x1]) (rest := []) (c_rX12_isTerm l hap σ1 x1 res hres) hP (ci := 12) (q0 := 0) rfl rfl rfl kw_929 kw_926 kw_928 kw_24 kw_64 ⟨rfl, rfl⟩ (by decide +kernel) rfl ⟨Nat.le_of_ble_eq_true rfl, Nat.le_of_ble_eq_true rfl⟩ rfl (Nat.le_of_ble_eq_true rfl) dX12_ask_7) hS (fun v2 σ3 H locs hP hS hf => ?_)
  refine jb_eq (tgt := 34) hx hb hf dX12_ask_10 (by decide) (fun hf => ?_) (fun hf => ?_)
  · exact (p_rX12_ask_b34 C hap) σ3 hf H locs ls hP hS (lv_sub hl [] rfl)
  · refine lv_aload_n hx hb dX12_ask_13 rfl (lv_at hl 0 rfl) ?_
    refine lv_iload_n hx hb dX12_ask_14 rfl (lv_at hl 2 rfl) ?_
    refine jk_i hf (fun res hres => jv_run hx hb hml hown hts hK hN r_hG r_hNW hl.1 (n := 1) (As := [.int x2]) (rest := []) (c_rX12_isNode l hap σ3 x2 res hres) hP (ci := 12) (q0 := 0) rfl rfl rfl kw_942 kw_939 kw_941 kw_25 kw_64 ⟨rfl, rfl⟩ (by decide +kernel) rfl ⟨Nat.le_of_ble_eq_true rfl, Nat.le_of_ble_eq_true rfl⟩ rfl (Nat.le_of_ble_eq_true rfl) dX12_ask_15) hS (fun v4 σ5 H locs hP hS hf => ?_)
    refine jb_eq (tgt := 34) hx hb hf dX12_ask_18 (by decide) (fun hf => ?_) (fun hf => ?_)
    · exact (p_rX12_ask_b34 C hap) σ5 hf H locs ls hP hS (lv_sub hl [] rfl)
    · refine lv_iload_n hx hb dX12_ask_21 rfl (lv_at hl 3 rfl) ?_
      refine lv_iconst (v := (-1)) hx hb dX12_ask_22 (by decide) ?_
      refine jc_eq (tgt := 38) hx hb hf dX12_ask_23 (by decide) (fun hf => ?_) (fun hf => ?_)
      · exact (p_rX12_ask_b38 C hap) σ5 x1 x2 x3 hf H locs ls hP hS (lv_sub hl [0, 1, 2, 3] rfl)
      · refine lv_aload_n hx hb dX12_ask_26 rfl (lv_at hl 0 rfl) ?_
        refine lv_iload_n hx hb dX12_ask_27 rfl (lv_at hl 3 rfl) ?_
        refine jk_i hf (fun res hres => jv_run hx hb hml hown hts hK hN r_hG r_hNW hl.1 (n := 1) (As := [.int x3]) (rest := []) (c_rX12_isArc l hap σ5 x3 res hres) hP (ci := 12) (q0 := 0) rfl rfl rfl kw_1074 kw_1071 kw_1073 kw_50 kw_64 ⟨rfl, rfl⟩ (by decide +kernel) rfl ⟨Nat.le_of_ble_eq_true rfl, Nat.le_of_ble_eq_true rfl⟩ rfl (Nat.le_of_ble_eq_true rfl) dX12_ask_28) hS (fun v6 σ7 H locs hP hS hf => ?_)
        refine jb_ne (tgt := 38) hx hb hf dX12_ask_31 (by decide) (fun hf => ?_) (fun hf => ?_)
        · exact (p_rX12_ask_b38 C hap) σ7 x1 x2 x3 hf H locs ls hP hS (lv_sub hl [0, 1, 2, 3] rfl)
        · exact (p_rX12_ask_b34 C hap) σ7 hf H locs ls hP hS (lv_sub hl [] rfl)
theorem c_rX12_ask (l : Launch) {dC : Nat → ClassId} {dI : Nat → Nat → Nat} {kA : Nat → ClassId} {ad : Nat → Nat} (hap : jw_ap 32 ad) (σ : RS) (x1 : Int32) (x2 : Int32) (x3 : Int32) (res : Int64 × RS) (hf : s_rX12_ask σ x1 x2 x3 = some res) : jm_l l KW NW (dC, dI) vwCl (jtys kA) (jw_A 32 ad) (r_w kA ad) yX12_ask cX12_ask 4 (rm_rX12_ask) [.ref (ad 0), .int x1, .int x2, .int x3] σ res := jm_l_of (by decide) (Nat.le_of_ble_eq_true rfl) (fun p e s m below meth c C hP hS ls hl => p_rX12_ask C hap σ x1 x2 x3 hf s.heap [] ls hP hS hl)

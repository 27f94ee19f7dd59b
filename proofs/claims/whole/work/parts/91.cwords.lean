set_option maxRecDepth 20000 in
theorem kw_73 : Cond.instanceMethod objectInit ∈ KW := kw_of (i := 73) (by decide +kernel) rfl
set_option maxRecDepth 20000 in
theorem kw_74 : Cond.code objectInit ⟨#[0xb1]⟩ 1 none ∈ KW := kw_of (i := 74) (by decide +kernel) rfl
set_option maxRecDepth 20000 in
theorem kw_80 : Cond.methodLink RX8 3 objectInit ∈ KW := kw_of (i := 80) (by decide +kernel) rfl
set_option maxRecDepth 20000 in
theorem kw_106 : Cond.arrayClass .int ∈ KW := kw_of (i := 106) (by decide +kernel) rfl
set_option maxRecDepth 20000 in
theorem kw_107 : Cond.arrayClass .long ∈ KW := kw_of (i := 107) (by decide +kernel) rfl
set_option maxRecDepth 20000 in
theorem kw_113 : Cond.methodLink RX10 3 objectInit ∈ KW := kw_of (i := 113) (by decide +kernel) rfl
set_option maxRecDepth 20000 in
theorem kw_114 : Cond.fieldLink RX10 9 "WalkedRounds$Web" "states" "[J" ∈ KW := kw_of (i := 114) (by decide +kernel) rfl
set_option maxRecDepth 20000 in
theorem kw_174 : Cond.arrayClass .boolean ∈ KW := kw_of (i := 174) (by decide +kernel) rfl
set_option maxRecDepth 20000 in
theorem kw_180 : Cond.methodLink RX6 3 objectInit ∈ KW := kw_of (i := 180) (by decide +kernel) rfl
set_option maxRecDepth 20000 in
theorem kw_181 : Cond.fieldLink RX6 9 "WalkedRounds$Program" "acts" "[I" ∈ KW := kw_of (i := 181) (by decide +kernel) rfl
set_option maxRecDepth 20000 in
theorem kw_196 : Cond.methodLink RX2 3 objectInit ∈ KW := kw_of (i := 196) (by decide +kernel) rfl
set_option maxRecDepth 20000 in
theorem kw_218 : Cond.methodLink RX5 3 objectInit ∈ KW := kw_of (i := 218) (by decide +kernel) rfl
set_option maxRecDepth 20000 in
theorem kw_219 : Cond.classLink RX5 11 RX4 ∈ KW := kw_of (i := 219) (by decide +kernel) rfl
set_option maxRecDepth 20000 in
theorem kw_221 : Cond.instantiable RX4 4 ∈ KW := kw_of (i := 221) (by decide +kernel) rfl
set_option maxRecDepth 20000 in
theorem nw_222 : Cond.methodLinkNest RX5 17 yX4_init "WalkedRounds" ∈ NW := nw_of (i := 222) (by decide +kernel) rfl
set_option maxRecDepth 20000 in
theorem kw_223 : Cond.instanceMethod yX4_init ∈ KW := kw_of (i := 223) (by decide +kernel) rfl
set_option maxRecDepth 20000 in
theorem kw_224 : Cond.code yX4_init cX4_init 1 none ∈ KW := kw_of (i := 224) rfl rfl
set_option maxRecDepth 20000 in
theorem kw_225 : Cond.methodLink RX4 3 objectInit ∈ KW := kw_of (i := 225) (by decide +kernel) rfl
set_option maxRecDepth 20000 in
theorem kw_255 : Cond.methodLink RX9 3 objectInit ∈ KW := kw_of (i := 255) (by decide +kernel) rfl
set_option maxRecDepth 20000 in
theorem kw_274 : Cond.methodLink RX1 3 objectInit ∈ KW := kw_of (i := 274) (by decide +kernel) rfl
set_option maxRecDepth 20000 in
theorem kw_305 : Cond.methodLink RX0 3 objectInit ∈ KW := kw_of (i := 305) (by decide +kernel) rfl
set_option maxRecDepth 20000 in
theorem kw_307 : Cond.fieldLink RX3 25 "WalkedRounds$Actor" "web" "LWalkedRounds$Web;" ∈ KW := kw_of (i := 307) (by decide +kernel) rfl
set_option maxRecDepth 20000 in
theorem kw_308 : Cond.fieldLink RX7 32 "WalkedRounds$Actor" "web" "LWalkedRounds$Web;" ∈ KW := kw_of (i := 308) (by decide +kernel) rfl
set_option maxRecDepth 20000 in
theorem kw_315 : Cond.fieldLink RX3 36 "WalkedRounds$Actor" "failure" "LWalkedRounds$Failure;" ∈ KW := kw_of (i := 315) (by decide +kernel) rfl
set_option maxRecDepth 20000 in
theorem kw_316 : Cond.fieldLink RX7 43 "WalkedRounds$Actor" "failure" "LWalkedRounds$Failure;" ∈ KW := kw_of (i := 316) (by decide +kernel) rfl
set_option maxRecDepth 20000 in
theorem kw_331 : Cond.methodLink RX7 3 objectInit ∈ KW := kw_of (i := 331) (by decide +kernel) rfl
set_option maxRecDepth 20000 in
theorem kw_374 : Cond.methodLink RX3 3 objectInit ∈ KW := kw_of (i := 374) (by decide +kernel) rfl
theorem fs_X0 : ∀ j, j < 4 → defaultValue (tyX0 j) = vp_V [.null, .null, .null, .null] j := by
  intro j hj
  rcases (show j = 0 ∨ j = 1 ∨ j = 2 ∨ j = 3 by omega) with rfl | rfl | rfl | rfl <;> rfl
theorem fs_X1 : ∀ j, j < 7 → defaultValue (tyX1 j) = vp_V [.null, .null, .int 0, .int 0, .long 0, .int 0, .int 0] j := by
  intro j hj
  rcases (show j = 0 ∨ j = 1 ∨ j = 2 ∨ j = 3 ∨ j = 4 ∨ j = 5 ∨ j = 6 by omega) with rfl | rfl | rfl | rfl | rfl | rfl | rfl <;> rfl
theorem fs_X2 : ∀ j, j < 5 → defaultValue (tyX2 j) = vp_V [.int 0, .int 0, .int 0, .int 0, .int 0] j := by
  intro j hj
  rcases (show j = 0 ∨ j = 1 ∨ j = 2 ∨ j = 3 ∨ j = 4 by omega) with rfl | rfl | rfl | rfl | rfl <;> rfl
theorem fs_X3 : ∀ j, j < 11 → defaultValue (tyX3 j) = vp_V [.null, .null, .null, .null, .null, .null, .null, .null, .null, .int 0, .int 0] j := by
  intro j hj
  rcases (show j = 0 ∨ j = 1 ∨ j = 2 ∨ j = 3 ∨ j = 4 ∨ j = 5 ∨ j = 6 ∨ j = 7 ∨ j = 8 ∨ j = 9 ∨ j = 10 by omega) with rfl | rfl | rfl | rfl | rfl | rfl | rfl | rfl | rfl | rfl | rfl <;> rfl
theorem fs_X4 : ∀ j, j < 4 → defaultValue (tyX4 j) = vp_V [.null, .null, .int 0, .long 0] j := by
  intro j hj
  rcases (show j = 0 ∨ j = 1 ∨ j = 2 ∨ j = 3 by omega) with rfl | rfl | rfl | rfl <;> rfl
theorem fs_X5 : ∀ j, j < 3 → defaultValue (tyX5 j) = vp_V [.null, .int 0, .int 0] j := by
  intro j hj
  rcases (show j = 0 ∨ j = 1 ∨ j = 2 by omega) with rfl | rfl | rfl <;> rfl
theorem fs_X6 : ∀ j, j < 2 → defaultValue (tyX6 j) = vp_V [.null, .int 0] j := by
  intro j hj
  rcases (show j = 0 ∨ j = 1 by omega) with rfl | rfl <;> rfl
theorem fs_X7 : ∀ j, j < 12 → defaultValue (tyX7 j) = vp_V [.null, .null, .null, .null, .null, .null, .null, .null, .null, .null, .null, .int 0] j := by
  intro j hj
  rcases (show j = 0 ∨ j = 1 ∨ j = 2 ∨ j = 3 ∨ j = 4 ∨ j = 5 ∨ j = 6 ∨ j = 7 ∨ j = 8 ∨ j = 9 ∨ j = 10 ∨ j = 11 by omega) with rfl | rfl | rfl | rfl | rfl | rfl | rfl | rfl | rfl | rfl | rfl | rfl <;> rfl
theorem fs_X8 : ∀ j, j < 6 → defaultValue (tyX8 j) = vp_V [.null, .null, .null, .null, .null, .int 0] j := by
  intro j hj
  rcases (show j = 0 ∨ j = 1 ∨ j = 2 ∨ j = 3 ∨ j = 4 ∨ j = 5 by omega) with rfl | rfl | rfl | rfl | rfl | rfl <;> rfl
theorem fs_X9 : ∀ j, j < 3 → defaultValue (tyX9 j) = vp_V [.null, .null, .int 0] j := by
  intro j hj
  rcases (show j = 0 ∨ j = 1 ∨ j = 2 by omega) with rfl | rfl | rfl <;> rfl
theorem fs_X10 : ∀ j, j < 10 → defaultValue (tyX10 j) = vp_V [.null, .null, .null, .null, .null, .null, .int 0, .int 0, .int 0, .long 0] j := by
  intro j hj
  rcases (show j = 0 ∨ j = 1 ∨ j = 2 ∨ j = 3 ∨ j = 4 ∨ j = 5 ∨ j = 6 ∨ j = 7 ∨ j = 8 ∨ j = 9 by omega) with rfl | rfl | rfl | rfl | rfl | rfl | rfl | rfl | rfl | rfl <;> rfl
theorem fs_X11 : ∀ j, j < 11 → defaultValue (tyX11 j) = vp_V [.null, .null, .null, .null, .null, .null, .null, .null, .null, .null, .int 0] j := by
  intro j hj
  rcases (show j = 0 ∨ j = 1 ∨ j = 2 ∨ j = 3 ∨ j = 4 ∨ j = 5 ∨ j = 6 ∨ j = 7 ∨ j = 8 ∨ j = 9 ∨ j = 10 by omega) with rfl | rfl | rfl | rfl | rfl | rfl | rfl | rfl | rfl | rfl | rfl <;> rfl
theorem fs_X12 : ∀ j, j < 53 → defaultValue (tyX12 j) = vp_V [.int 0, .null, .null, .null, .null, .null, .int 0, .null, .null, .int 0, .null, .null, .null, .null, .int 0, .long 0, .int 0, .int 0, .null, .int 0, .int 0, .null, .null, .null, .null, .int 0, .null, .null, .int 0, .null, .null, .null, .long 0, .int 0, .int 0, .int 0, .int 0, .long 0, .int 0, .null, .null, .int 0, .null, .int 0, .long 0, .null, .null, .null, .null, .int 0, .null, .null, .null] j := by
  intro j hj
  rcases (show j = 0 ∨ j = 1 ∨ j = 2 ∨ j = 3 ∨ j = 4 ∨ j = 5 ∨ j = 6 ∨ j = 7 ∨ j = 8 ∨ j = 9 ∨ j = 10 ∨ j = 11 ∨ j = 12 ∨ j = 13 ∨ j = 14 ∨ j = 15 ∨ j = 16 ∨ j = 17 ∨ j = 18 ∨ j = 19 ∨ j = 20 ∨ j = 21 ∨ j = 22 ∨ j = 23 ∨ j = 24 ∨ j = 25 ∨ j = 26 ∨ j = 27 ∨ j = 28 ∨ j = 29 ∨ j = 30 ∨ j = 31 ∨ j = 32 ∨ j = 33 ∨ j = 34 ∨ j = 35 ∨ j = 36 ∨ j = 37 ∨ j = 38 ∨ j = 39 ∨ j = 40 ∨ j = 41 ∨ j = 42 ∨ j = 43 ∨ j = 44 ∨ j = 45 ∨ j = 46 ∨ j = 47 ∨ j = 48 ∨ j = 49 ∨ j = 50 ∨ j = 51 ∨ j = 52 by omega) with rfl | rfl | rfl | rfl | rfl | rfl | rfl | rfl | rfl | rfl | rfl | rfl | rfl | rfl | rfl | rfl | rfl | rfl | rfl | rfl | rfl | rfl | rfl | rfl | rfl | rfl | rfl | rfl | rfl | rfl | rfl | rfl | rfl | rfl | rfl | rfl | rfl | rfl | rfl | rfl | rfl | rfl | rfl | rfl | rfl | rfl | rfl | rfl | rfl | rfl | rfl | rfl | rfl <;> rfl

set_option maxRecDepth 20000 in
theorem kw_0 : Cond.selects RX11 yX11_changed yX11_changed ∈ KW := kw_of (i := 0) (by decide +kernel) rfl
set_option maxRecDepth 20000 in
theorem kw_1 : Cond.selects RX3 yX3_startLine yX3_startLine ∈ KW := kw_of (i := 1) (by decide +kernel) rfl
set_option maxRecDepth 20000 in
theorem kw_2 : Cond.selects RX3 yX3_sendOn yX3_sendOn ∈ KW := kw_of (i := 2) (by decide +kernel) rfl
set_option maxRecDepth 20000 in
theorem kw_3 : Cond.selects RX3 yX3_sendAlong yX3_sendAlong ∈ KW := kw_of (i := 3) (by decide +kernel) rfl
set_option maxRecDepth 20000 in
theorem kw_4 : Cond.selects RX1 yX1_valueOf yX1_valueOf ∈ KW := kw_of (i := 4) (by decide +kernel) rfl
set_option maxRecDepth 20000 in
theorem kw_5 : Cond.selects RX1 yX1_fails yX1_fails ∈ KW := kw_of (i := 5) (by decide +kernel) rfl
set_option maxRecDepth 20000 in
theorem kw_6 : Cond.selects RX1 yX1_plainValue yX1_plainValue ∈ KW := kw_of (i := 6) (by decide +kernel) rfl
set_option maxRecDepth 20000 in
theorem kw_7 : Cond.selects RX1 yX1_stateAt yX1_stateAt ∈ KW := kw_of (i := 7) (by decide +kernel) rfl
set_option maxRecDepth 20000 in
theorem kw_8 : Cond.selects RX1 yX1_joined yX1_joined ∈ KW := kw_of (i := 8) (by decide +kernel) rfl
set_option maxRecDepth 20000 in
theorem kw_9 : Cond.selects RX3 yX3_isDone yX3_isDone ∈ KW := kw_of (i := 9) (by decide +kernel) rfl
set_option maxRecDepth 20000 in
theorem kw_10 : Cond.selects RX3 yX3_takeStates yX3_takeStates ∈ KW := kw_of (i := 10) (by decide +kernel) rfl
set_option maxRecDepth 20000 in
theorem kw_11 : Cond.selects RX7 yX7_isDone yX7_isDone ∈ KW := kw_of (i := 11) (by decide +kernel) rfl
set_option maxRecDepth 20000 in
theorem kw_12 : Cond.selects RX7 yX7_begin yX7_begin ∈ KW := kw_of (i := 12) (by decide +kernel) rfl
set_option maxRecDepth 20000 in
theorem kw_13 : Cond.selects RX7 yX7_sendAll yX7_sendAll ∈ KW := kw_of (i := 13) (by decide +kernel) rfl
set_option maxRecDepth 20000 in
theorem kw_14 : Cond.selects RX7 yX7_sendAlong yX7_sendAlong ∈ KW := kw_of (i := 14) (by decide +kernel) rfl
set_option maxRecDepth 20000 in
theorem kw_15 : Cond.selects RX7 yX7_askNodes yX7_askNodes ∈ KW := kw_of (i := 15) (by decide +kernel) rfl
set_option maxRecDepth 20000 in
theorem kw_16 : Cond.selects RX7 yX7_messagesTo yX7_messagesTo ∈ KW := kw_of (i := 16) (by decide +kernel) rfl
set_option maxRecDepth 20000 in
theorem kw_17 : Cond.selects RX7 yX7_askNode yX7_askNode ∈ KW := kw_of (i := 17) (by decide +kernel) rfl
set_option maxRecDepth 20000 in
theorem kw_18 : Cond.selects RX7 yX7_foldFor yX7_foldFor ∈ KW := kw_of (i := 18) (by decide +kernel) rfl
set_option maxRecDepth 20000 in
theorem kw_19 : Cond.selects RX7 yX7_foldTwo yX7_foldTwo ∈ KW := kw_of (i := 19) (by decide +kernel) rfl
set_option maxRecDepth 20000 in
theorem kw_20 : Cond.selects RX7 yX7_changeNodes yX7_changeNodes ∈ KW := kw_of (i := 20) (by decide +kernel) rfl
set_option maxRecDepth 20000 in
theorem kw_21 : Cond.selects RX7 yX7_sumParts yX7_sumParts ∈ KW := kw_of (i := 21) (by decide +kernel) rfl
set_option maxRecDepth 20000 in
theorem kw_22 : Cond.selects RX7 yX7_tellMessages yX7_tellMessages ∈ KW := kw_of (i := 22) (by decide +kernel) rfl
set_option maxRecDepth 20000 in
theorem kw_23 : Cond.selects RX12 yX12_clearFailed yX12_clearFailed ∈ KW := kw_of (i := 23) (by decide +kernel) rfl
set_option maxRecDepth 20000 in
theorem kw_24 : Cond.selects RX12 yX12_isTerm yX12_isTerm ∈ KW := kw_of (i := 24) (by decide +kernel) rfl
set_option maxRecDepth 20000 in
theorem kw_25 : Cond.selects RX12 yX12_isNode yX12_isNode ∈ KW := kw_of (i := 25) (by decide +kernel) rfl
set_option maxRecDepth 20000 in
theorem kw_26 : Cond.selects RX12 yX12_walk yX12_walk ∈ KW := kw_of (i := 26) (by decide +kernel) rfl
set_option maxRecDepth 20000 in
theorem kw_27 : Cond.selects RX12 yX12_remember yX12_remember ∈ KW := kw_of (i := 27) (by decide +kernel) rfl
set_option maxRecDepth 20000 in
theorem kw_28 : Cond.selects RX12 yX12_isFailed yX12_isFailed ∈ KW := kw_of (i := 28) (by decide +kernel) rfl
set_option maxRecDepth 20000 in
theorem kw_29 : Cond.selects RX12 yX12_sendsOn yX12_sendsOn ∈ KW := kw_of (i := 29) (by decide +kernel) rfl
set_option maxRecDepth 20000 in
theorem kw_30 : Cond.selects RX12 yX12_askArc yX12_askArc ∈ KW := kw_of (i := 30) (by decide +kernel) rfl
set_option maxRecDepth 20000 in
theorem kw_31 : Cond.selects RX12 yX12_does yX12_does ∈ KW := kw_of (i := 31) (by decide +kernel) rfl
set_option maxRecDepth 20000 in
theorem kw_32 : Cond.selects RX12 yX12_asked yX12_asked ∈ KW := kw_of (i := 32) (by decide +kernel) rfl
set_option maxRecDepth 20000 in
theorem kw_33 : Cond.selects RX12 yX12_push yX12_push ∈ KW := kw_of (i := 33) (by decide +kernel) rfl
set_option maxRecDepth 20000 in
theorem kw_34 : Cond.selects RX12 yX12_begins yX12_begins ∈ KW := kw_of (i := 34) (by decide +kernel) rfl
set_option maxRecDepth 20000 in
theorem kw_35 : Cond.selects RX12 yX12_arcsFrom yX12_arcsFrom ∈ KW := kw_of (i := 35) (by decide +kernel) rfl
set_option maxRecDepth 20000 in
theorem kw_36 : Cond.selects RX12 yX12_goesOn yX12_goesOn ∈ KW := kw_of (i := 36) (by decide +kernel) rfl
set_option maxRecDepth 20000 in
theorem kw_37 : Cond.selects RX12 yX12_joined yX12_joined ∈ KW := kw_of (i := 37) (by decide +kernel) rfl
set_option maxRecDepth 20000 in
theorem kw_38 : Cond.selects RX12 yX12_note yX12_note ∈ KW := kw_of (i := 38) (by decide +kernel) rfl
set_option maxRecDepth 20000 in
theorem kw_39 : Cond.selects RX12 yX12_takes yX12_takes ∈ KW := kw_of (i := 39) (by decide +kernel) rfl
set_option maxRecDepth 20000 in
theorem kw_40 : Cond.selects RX12 yX12_keep yX12_keep ∈ KW := kw_of (i := 40) (by decide +kernel) rfl
set_option maxRecDepth 20000 in
theorem kw_41 : Cond.selects RX12 yX12_isAnyAwake yX12_isAnyAwake ∈ KW := kw_of (i := 41) (by decide +kernel) rfl
set_option maxRecDepth 20000 in
theorem kw_42 : Cond.selects RX12 yX12_round yX12_round ∈ KW := kw_of (i := 42) (by decide +kernel) rfl
set_option maxRecDepth 20000 in
theorem kw_43 : Cond.selects RX12 yX12_sendAll yX12_sendAll ∈ KW := kw_of (i := 43) (by decide +kernel) rfl
set_option maxRecDepth 20000 in
theorem kw_44 : Cond.selects RX12 yX12_sendAlong yX12_sendAlong ∈ KW := kw_of (i := 44) (by decide +kernel) rfl
set_option maxRecDepth 20000 in
theorem kw_45 : Cond.selects RX12 yX12_isReached yX12_isReached ∈ KW := kw_of (i := 45) (by decide +kernel) rfl
set_option maxRecDepth 20000 in
theorem kw_46 : Cond.selects RX12 yX12_renew yX12_renew ∈ KW := kw_of (i := 46) (by decide +kernel) rfl
set_option maxRecDepth 20000 in
theorem kw_47 : Cond.selects RX12 yX12_foldFor yX12_foldFor ∈ KW := kw_of (i := 47) (by decide +kernel) rfl
set_option maxRecDepth 20000 in
theorem kw_48 : Cond.selects RX12 yX12_isOver yX12_isOver ∈ KW := kw_of (i := 48) (by decide +kernel) rfl
set_option maxRecDepth 20000 in
theorem kw_49 : Cond.selects RX12 yX12_asBefore yX12_asBefore ∈ KW := kw_of (i := 49) (by decide +kernel) rfl
set_option maxRecDepth 20000 in
theorem kw_50 : Cond.selects RX12 yX12_isArc yX12_isArc ∈ KW := kw_of (i := 50) (by decide +kernel) rfl
set_option maxRecDepth 20000 in
theorem kw_52 : Cond.initialized RX11 ∈ KW := kw_of (i := 52) (by decide +kernel) rfl
set_option maxRecDepth 20000 in
theorem kw_53 : Cond.initialized RX8 ∈ KW := kw_of (i := 53) (by decide +kernel) rfl
set_option maxRecDepth 20000 in
theorem kw_54 : Cond.initialized RX10 ∈ KW := kw_of (i := 54) (by decide +kernel) rfl
set_option maxRecDepth 20000 in
theorem kw_56 : Cond.initialized RX2 ∈ KW := kw_of (i := 56) (by decide +kernel) rfl
set_option maxRecDepth 20000 in
theorem kw_57 : Cond.initialized RX5 ∈ KW := kw_of (i := 57) (by decide +kernel) rfl
set_option maxRecDepth 20000 in
theorem kw_58 : Cond.initialized RX4 ∈ KW := kw_of (i := 58) (by decide +kernel) rfl
set_option maxRecDepth 20000 in
theorem kw_59 : Cond.initialized RX9 ∈ KW := kw_of (i := 59) (by decide +kernel) rfl
set_option maxRecDepth 20000 in
theorem kw_60 : Cond.initialized RX1 ∈ KW := kw_of (i := 60) (by decide +kernel) rfl
set_option maxRecDepth 20000 in
theorem kw_61 : Cond.initialized RX0 ∈ KW := kw_of (i := 61) (by decide +kernel) rfl
set_option maxRecDepth 20000 in
theorem kw_62 : Cond.initialized RX7 ∈ KW := kw_of (i := 62) (by decide +kernel) rfl
set_option maxRecDepth 20000 in
theorem kw_63 : Cond.initialized RX3 ∈ KW := kw_of (i := 63) (by decide +kernel) rfl
set_option maxRecDepth 20000 in
theorem kw_64 : Cond.initialized RX12 ∈ KW := kw_of (i := 64) (by decide +kernel) rfl
set_option maxRecDepth 20000 in
theorem kw_65 : Cond.initialized "java/lang/System" ∈ KW := kw_of (i := 65) (by decide +kernel) rfl
set_option maxRecDepth 20000 in
theorem kw_66 : Cond.initialized "java/lang/Math" ∈ KW := kw_of (i := 66) (by decide +kernel) rfl
set_option maxRecDepth 20000 in
theorem kw_81 : Cond.fieldLink RX8 9 "WalkedRounds$Terms" "kinds" "[I" ∈ KW := kw_of (i := 81) (by decide +kernel) rfl
set_option maxRecDepth 20000 in
theorem kw_82 : Cond.fieldLink RX1 44 "WalkedRounds$Terms" "kinds" "[I" ∈ KW := kw_of (i := 82) (by decide +kernel) rfl
set_option maxRecDepth 20000 in
theorem kw_83 : Cond.fieldLink RX8 15 "WalkedRounds$Terms" "partA" "[I" ∈ KW := kw_of (i := 83) (by decide +kernel) rfl
set_option maxRecDepth 20000 in
theorem kw_84 : Cond.fieldLink RX1 54 "WalkedRounds$Terms" "partA" "[I" ∈ KW := kw_of (i := 84) (by decide +kernel) rfl
set_option maxRecDepth 20000 in
theorem kw_85 : Cond.fieldLink RX8 18 "WalkedRounds$Terms" "partB" "[I" ∈ KW := kw_of (i := 85) (by decide +kernel) rfl
set_option maxRecDepth 20000 in
theorem kw_86 : Cond.fieldLink RX1 65 "WalkedRounds$Terms" "partB" "[I" ∈ KW := kw_of (i := 86) (by decide +kernel) rfl
set_option maxRecDepth 20000 in
theorem kw_87 : Cond.fieldLink RX8 21 "WalkedRounds$Terms" "partC" "[I" ∈ KW := kw_of (i := 87) (by decide +kernel) rfl
set_option maxRecDepth 20000 in
theorem kw_88 : Cond.fieldLink RX1 68 "WalkedRounds$Terms" "partC" "[I" ∈ KW := kw_of (i := 88) (by decide +kernel) rfl
set_option maxRecDepth 20000 in
theorem kw_89 : Cond.fieldLink RX8 24 "WalkedRounds$Terms" "numbers" "[J" ∈ KW := kw_of (i := 89) (by decide +kernel) rfl
set_option maxRecDepth 20000 in
theorem kw_90 : Cond.fieldLink RX1 81 "WalkedRounds$Terms" "numbers" "[J" ∈ KW := kw_of (i := 90) (by decide +kernel) rfl
set_option maxRecDepth 20000 in
theorem kw_91 : Cond.fieldLink RX8 28 "WalkedRounds$Terms" "size" "I" ∈ KW := kw_of (i := 91) (by decide +kernel) rfl
set_option maxRecDepth 20000 in
theorem kw_92 : Cond.fieldLink RX11 175 "WalkedRounds$Terms" "size" "I" ∈ KW := kw_of (i := 92) (by decide +kernel) rfl
set_option maxRecDepth 20000 in
theorem kw_115 : Cond.fieldLink RX4 19 "WalkedRounds$Web" "states" "[J" ∈ KW := kw_of (i := 115) (by decide +kernel) rfl
set_option maxRecDepth 20000 in
theorem kw_116 : Cond.fieldLink RX11 109 "WalkedRounds$Web" "states" "[J" ∈ KW := kw_of (i := 116) (by decide +kernel) rfl
set_option maxRecDepth 20000 in
theorem kw_117 : Cond.fieldLink RX1 75 "WalkedRounds$Web" "states" "[J" ∈ KW := kw_of (i := 117) (by decide +kernel) rfl
set_option maxRecDepth 20000 in
theorem kw_118 : Cond.fieldLink RX3 132 "WalkedRounds$Web" "states" "[J" ∈ KW := kw_of (i := 118) (by decide +kernel) rfl
set_option maxRecDepth 20000 in
theorem kw_119 : Cond.fieldLink RX7 156 "WalkedRounds$Web" "states" "[J" ∈ KW := kw_of (i := 119) (by decide +kernel) rfl
set_option maxRecDepth 20000 in
theorem kw_120 : Cond.fieldLink RX10 15 "WalkedRounds$Web" "awake" "[Z" ∈ KW := kw_of (i := 120) (by decide +kernel) rfl
set_option maxRecDepth 20000 in
theorem kw_121 : Cond.fieldLink RX4 28 "WalkedRounds$Web" "awake" "[Z" ∈ KW := kw_of (i := 121) (by decide +kernel) rfl
set_option maxRecDepth 20000 in
theorem kw_122 : Cond.fieldLink RX3 101 "WalkedRounds$Web" "awake" "[Z" ∈ KW := kw_of (i := 122) (by decide +kernel) rfl
set_option maxRecDepth 20000 in
theorem kw_123 : Cond.fieldLink RX7 129 "WalkedRounds$Web" "awake" "[Z" ∈ KW := kw_of (i := 123) (by decide +kernel) rfl
set_option maxRecDepth 20000 in
theorem kw_124 : Cond.fieldLink RX11 113 "WalkedRounds$Web" "awake" "[Z" ∈ KW := kw_of (i := 124) (by decide +kernel) rfl
set_option maxRecDepth 20000 in
theorem kw_125 : Cond.fieldLink RX10 19 "WalkedRounds$Web" "degrees" "[I" ∈ KW := kw_of (i := 125) (by decide +kernel) rfl
set_option maxRecDepth 20000 in
theorem kw_126 : Cond.fieldLink RX1 90 "WalkedRounds$Web" "degrees" "[I" ∈ KW := kw_of (i := 126) (by decide +kernel) rfl
set_option maxRecDepth 20000 in
theorem kw_127 : Cond.fieldLink RX10 23 "WalkedRounds$Web" "from" "[I" ∈ KW := kw_of (i := 127) (by decide +kernel) rfl
set_option maxRecDepth 20000 in
theorem kw_128 : Cond.fieldLink RX3 111 "WalkedRounds$Web" "from" "[I" ∈ KW := kw_of (i := 128) (by decide +kernel) rfl
set_option maxRecDepth 20000 in
theorem kw_129 : Cond.fieldLink RX7 120 "WalkedRounds$Web" "from" "[I" ∈ KW := kw_of (i := 129) (by decide +kernel) rfl
set_option maxRecDepth 20000 in
theorem kw_130 : Cond.fieldLink RX10 26 "WalkedRounds$Web" "to" "[I" ∈ KW := kw_of (i := 130) (by decide +kernel) rfl
set_option maxRecDepth 20000 in
theorem kw_131 : Cond.fieldLink RX7 117 "WalkedRounds$Web" "to" "[I" ∈ KW := kw_of (i := 131) (by decide +kernel) rfl
set_option maxRecDepth 20000 in
theorem kw_132 : Cond.fieldLink RX3 129 "WalkedRounds$Web" "to" "[I" ∈ KW := kw_of (i := 132) (by decide +kernel) rfl
set_option maxRecDepth 20000 in
theorem kw_133 : Cond.fieldLink RX10 29 "WalkedRounds$Web" "weights" "[J" ∈ KW := kw_of (i := 133) (by decide +kernel) rfl
set_option maxRecDepth 20000 in
theorem kw_134 : Cond.fieldLink RX1 84 "WalkedRounds$Web" "weights" "[J" ∈ KW := kw_of (i := 134) (by decide +kernel) rfl
set_option maxRecDepth 20000 in
theorem kw_135 : Cond.fieldLink RX10 32 "WalkedRounds$Web" "nodes" "I" ∈ KW := kw_of (i := 135) (by decide +kernel) rfl
set_option maxRecDepth 20000 in
theorem kw_136 : Cond.fieldLink RX3 96 "WalkedRounds$Web" "nodes" "I" ∈ KW := kw_of (i := 136) (by decide +kernel) rfl
set_option maxRecDepth 20000 in
theorem kw_137 : Cond.fieldLink RX7 123 "WalkedRounds$Web" "nodes" "I" ∈ KW := kw_of (i := 137) (by decide +kernel) rfl
set_option maxRecDepth 20000 in
theorem kw_138 : Cond.fieldLink RX11 178 "WalkedRounds$Web" "nodes" "I" ∈ KW := kw_of (i := 138) (by decide +kernel) rfl
set_option maxRecDepth 20000 in
theorem kw_139 : Cond.fieldLink RX10 36 "WalkedRounds$Web" "arcs" "I" ∈ KW := kw_of (i := 139) (by decide +kernel) rfl
set_option maxRecDepth 20000 in
theorem kw_140 : Cond.fieldLink RX3 109 "WalkedRounds$Web" "arcs" "I" ∈ KW := kw_of (i := 140) (by decide +kernel) rfl
set_option maxRecDepth 20000 in
theorem kw_141 : Cond.fieldLink RX7 126 "WalkedRounds$Web" "arcs" "I" ∈ KW := kw_of (i := 141) (by decide +kernel) rfl
set_option maxRecDepth 20000 in
theorem kw_142 : Cond.fieldLink RX11 181 "WalkedRounds$Web" "arcs" "I" ∈ KW := kw_of (i := 142) (by decide +kernel) rfl
set_option maxRecDepth 20000 in
theorem kw_143 : Cond.fieldLink RX4 29 "WalkedRounds$Web" "rounds" "I" ∈ KW := kw_of (i := 143) (by decide +kernel) rfl
set_option maxRecDepth 20000 in
theorem kw_144 : Cond.fieldLink RX0 43 "WalkedRounds$Web" "rounds" "I" ∈ KW := kw_of (i := 144) (by decide +kernel) rfl
set_option maxRecDepth 20000 in
theorem kw_145 : Cond.fieldLink RX7 97 "WalkedRounds$Web" "rounds" "I" ∈ KW := kw_of (i := 145) (by decide +kernel) rfl
set_option maxRecDepth 20000 in
theorem kw_146 : Cond.fieldLink RX3 122 "WalkedRounds$Web" "rounds" "I" ∈ KW := kw_of (i := 146) (by decide +kernel) rfl
set_option maxRecDepth 20000 in
theorem kw_147 : Cond.fieldLink RX1 87 "WalkedRounds$Web" "rounds" "I" ∈ KW := kw_of (i := 147) (by decide +kernel) rfl
set_option maxRecDepth 20000 in
theorem kw_148 : Cond.fieldLink RX11 183 "WalkedRounds$Web" "rounds" "I" ∈ KW := kw_of (i := 148) (by decide +kernel) rfl
set_option maxRecDepth 20000 in
theorem kw_149 : Cond.fieldLink RX4 34 "WalkedRounds$Web" "sum" "J" ∈ KW := kw_of (i := 149) (by decide +kernel) rfl
set_option maxRecDepth 20000 in
theorem kw_150 : Cond.fieldLink RX1 93 "WalkedRounds$Web" "sum" "J" ∈ KW := kw_of (i := 150) (by decide +kernel) rfl
set_option maxRecDepth 20000 in
theorem kw_151 : Cond.fieldLink RX7 191 "WalkedRounds$Web" "sum" "J" ∈ KW := kw_of (i := 151) (by decide +kernel) rfl
set_option maxRecDepth 20000 in
theorem kw_152 : Cond.fieldLink RX11 164 "WalkedRounds$Web" "sum" "J" ∈ KW := kw_of (i := 152) (by decide +kernel) rfl
set_option maxRecDepth 20000 in
theorem kw_182 : Cond.fieldLink RX0 27 "WalkedRounds$Program" "acts" "[I" ∈ KW := kw_of (i := 182) (by decide +kernel) rfl
set_option maxRecDepth 20000 in
theorem kw_183 : Cond.fieldLink RX11 120 "WalkedRounds$Program" "acts" "[I" ∈ KW := kw_of (i := 183) (by decide +kernel) rfl
set_option maxRecDepth 20000 in
theorem kw_184 : Cond.fieldLink RX11 124 "WalkedRounds$Program" "foldSort" "I" ∈ KW := kw_of (i := 184) (by decide +kernel) rfl
set_option maxRecDepth 20000 in
theorem kw_185 : Cond.fieldLink RX7 167 "WalkedRounds$Program" "foldSort" "I" ∈ KW := kw_of (i := 185) (by decide +kernel) rfl
set_option maxRecDepth 20000 in
theorem kw_197 : Cond.fieldLink RX2 9 "WalkedRounds$Failure" "sort" "I" ∈ KW := kw_of (i := 197) (by decide +kernel) rfl
set_option maxRecDepth 20000 in
theorem kw_198 : Cond.fieldLink RX2 15 "WalkedRounds$Failure" "act" "I" ∈ KW := kw_of (i := 198) (by decide +kernel) rfl
set_option maxRecDepth 20000 in
theorem kw_199 : Cond.fieldLink RX2 18 "WalkedRounds$Failure" "node" "I" ∈ KW := kw_of (i := 199) (by decide +kernel) rfl
set_option maxRecDepth 20000 in
theorem kw_200 : Cond.fieldLink RX2 21 "WalkedRounds$Failure" "arc" "I" ∈ KW := kw_of (i := 200) (by decide +kernel) rfl
set_option maxRecDepth 20000 in
theorem kw_201 : Cond.fieldLink RX2 24 "WalkedRounds$Failure" "round" "I" ∈ KW := kw_of (i := 201) (by decide +kernel) rfl
set_option maxRecDepth 20000 in
theorem kw_226 : Cond.fieldLink RX4 9 "WalkedRounds$Memory" "states" "[J" ∈ KW := kw_of (i := 226) (by decide +kernel) rfl
set_option maxRecDepth 20000 in
theorem kw_227 : Cond.fieldLink RX4 15 "WalkedRounds$Memory" "awake" "[Z" ∈ KW := kw_of (i := 227) (by decide +kernel) rfl
set_option maxRecDepth 20000 in
theorem kw_228 : Cond.fieldLink RX4 33 "WalkedRounds$Memory" "rounds" "I" ∈ KW := kw_of (i := 228) (by decide +kernel) rfl
set_option maxRecDepth 20000 in
theorem kw_229 : Cond.fieldLink RX4 38 "WalkedRounds$Memory" "sum" "J" ∈ KW := kw_of (i := 229) (by decide +kernel) rfl
set_option maxRecDepth 20000 in
theorem kw_239 : Cond.fieldLink RX5 13 "WalkedRounds$Past" "ring" "[LWalkedRounds$Memory;" ∈ KW := kw_of (i := 239) (by decide +kernel) rfl
set_option maxRecDepth 20000 in
theorem kw_240 : Cond.fieldLink RX5 18 "WalkedRounds$Past" "next" "I" ∈ KW := kw_of (i := 240) (by decide +kernel) rfl
set_option maxRecDepth 20000 in
theorem kw_241 : Cond.fieldLink RX5 29 "WalkedRounds$Past" "kept" "I" ∈ KW := kw_of (i := 241) (by decide +kernel) rfl
set_option maxRecDepth 20000 in
theorem kw_242 : Cond.fieldLink RX11 193 "WalkedRounds$Past" "kept" "I" ∈ KW := kw_of (i := 242) (by decide +kernel) rfl
set_option maxRecDepth 20000 in
theorem kw_256 : Cond.fieldLink RX9 9 "WalkedRounds$Told" "arcs" "[I" ∈ KW := kw_of (i := 256) (by decide +kernel) rfl
set_option maxRecDepth 20000 in
theorem kw_257 : Cond.fieldLink RX11 169 "WalkedRounds$Told" "arcs" "[I" ∈ KW := kw_of (i := 257) (by decide +kernel) rfl
set_option maxRecDepth 20000 in
theorem kw_258 : Cond.fieldLink RX9 15 "WalkedRounds$Told" "values" "[J" ∈ KW := kw_of (i := 258) (by decide +kernel) rfl
set_option maxRecDepth 20000 in
theorem kw_259 : Cond.fieldLink RX11 172 "WalkedRounds$Told" "values" "[J" ∈ KW := kw_of (i := 259) (by decide +kernel) rfl
set_option maxRecDepth 20000 in
theorem kw_260 : Cond.fieldLink RX9 19 "WalkedRounds$Told" "size" "I" ∈ KW := kw_of (i := 260) (by decide +kernel) rfl
set_option maxRecDepth 20000 in
theorem kw_261 : Cond.fieldLink RX11 192 "WalkedRounds$Told" "size" "I" ∈ KW := kw_of (i := 261) (by decide +kernel) rfl
set_option maxRecDepth 20000 in
theorem kw_275 : Cond.fieldLink RX1 9 "WalkedRounds$Asker" "terms" "LWalkedRounds$Terms;" ∈ KW := kw_of (i := 275) (by decide +kernel) rfl
set_option maxRecDepth 20000 in
theorem kw_276 : Cond.fieldLink RX1 15 "WalkedRounds$Asker" "web" "LWalkedRounds$Web;" ∈ KW := kw_of (i := 276) (by decide +kernel) rfl
set_option maxRecDepth 20000 in
theorem kw_277 : Cond.fieldLink RX1 34 "WalkedRounds$Asker" "foldedMessages" "I" ∈ KW := kw_of (i := 277) (by decide +kernel) rfl
set_option maxRecDepth 20000 in
theorem kw_278 : Cond.fieldLink RX1 19 "WalkedRounds$Asker" "steps" "I" ∈ KW := kw_of (i := 278) (by decide +kernel) rfl
set_option maxRecDepth 20000 in
theorem kw_279 : Cond.fieldLink RX1 30 "WalkedRounds$Asker" "foldedValue" "J" ∈ KW := kw_of (i := 279) (by decide +kernel) rfl
set_option maxRecDepth 20000 in
theorem kw_280 : Cond.fieldLink RX1 23 "WalkedRounds$Asker" "fault" "I" ∈ KW := kw_of (i := 280) (by decide +kernel) rfl
set_option maxRecDepth 20000 in
theorem kw_281 : Cond.fieldLink RX0 39 "WalkedRounds$Asker" "fault" "I" ∈ KW := kw_of (i := 281) (by decide +kernel) rfl
set_option maxRecDepth 20000 in
theorem kw_282 : Cond.fieldLink RX11 159 "WalkedRounds$Asker" "fault" "I" ∈ KW := kw_of (i := 282) (by decide +kernel) rfl
set_option maxRecDepth 20000 in
theorem kw_283 : Cond.fieldLink RX1 41 "WalkedRounds$Asker" "allSteps" "I" ∈ KW := kw_of (i := 283) (by decide +kernel) rfl
set_option maxRecDepth 20000 in
theorem kw_284 : Cond.fieldLink RX11 189 "WalkedRounds$Asker" "allSteps" "I" ∈ KW := kw_of (i := 284) (by decide +kernel) rfl
set_option maxRecDepth 20000 in
theorem kw_306 : Cond.fieldLink RX0 9 "WalkedRounds$Actor" "web" "LWalkedRounds$Web;" ∈ KW := kw_of (i := 306) (by decide +kernel) rfl
set_option maxRecDepth 20000 in
theorem kw_309 : Cond.fieldLink RX0 15 "WalkedRounds$Actor" "program" "LWalkedRounds$Program;" ∈ KW := kw_of (i := 309) (by decide +kernel) rfl
set_option maxRecDepth 20000 in
theorem kw_310 : Cond.fieldLink RX7 163 "WalkedRounds$Actor" "program" "LWalkedRounds$Program;" ∈ KW := kw_of (i := 310) (by decide +kernel) rfl
set_option maxRecDepth 20000 in
theorem kw_311 : Cond.fieldLink RX0 19 "WalkedRounds$Actor" "asker" "LWalkedRounds$Asker;" ∈ KW := kw_of (i := 311) (by decide +kernel) rfl
set_option maxRecDepth 20000 in
theorem kw_312 : Cond.fieldLink RX3 55 "WalkedRounds$Actor" "asker" "LWalkedRounds$Asker;" ∈ KW := kw_of (i := 312) (by decide +kernel) rfl
set_option maxRecDepth 20000 in
theorem kw_313 : Cond.fieldLink RX7 107 "WalkedRounds$Actor" "asker" "LWalkedRounds$Asker;" ∈ KW := kw_of (i := 313) (by decide +kernel) rfl
set_option maxRecDepth 20000 in
theorem kw_314 : Cond.fieldLink RX0 23 "WalkedRounds$Actor" "failure" "LWalkedRounds$Failure;" ∈ KW := kw_of (i := 314) (by decide +kernel) rfl
set_option maxRecDepth 20000 in
theorem kw_332 : Cond.fieldLink RX7 38 "WalkedRounds$RoundWalk" "web" "LWalkedRounds$Web;" ∈ KW := kw_of (i := 332) (by decide +kernel) rfl
set_option maxRecDepth 20000 in
theorem kw_333 : Cond.fieldLink RX7 39 "WalkedRounds$RoundWalk" "actor" "LWalkedRounds$Actor;" ∈ KW := kw_of (i := 333) (by decide +kernel) rfl
set_option maxRecDepth 20000 in
theorem kw_334 : Cond.fieldLink RX7 47 "WalkedRounds$RoundWalk" "failure" "LWalkedRounds$Failure;" ∈ KW := kw_of (i := 334) (by decide +kernel) rfl
set_option maxRecDepth 20000 in
theorem kw_335 : Cond.fieldLink RX7 48 "WalkedRounds$RoundWalk" "past" "LWalkedRounds$Past;" ∈ KW := kw_of (i := 335) (by decide +kernel) rfl
set_option maxRecDepth 20000 in
theorem kw_336 : Cond.fieldLink RX7 52 "WalkedRounds$RoundWalk" "told" "LWalkedRounds$Told;" ∈ KW := kw_of (i := 336) (by decide +kernel) rfl
set_option maxRecDepth 20000 in
theorem kw_337 : Cond.fieldLink RX7 9 "WalkedRounds$RoundWalk" "sentArcs" "[I" ∈ KW := kw_of (i := 337) (by decide +kernel) rfl
set_option maxRecDepth 20000 in
theorem kw_338 : Cond.fieldLink RX7 15 "WalkedRounds$RoundWalk" "carries" "[Z" ∈ KW := kw_of (i := 338) (by decide +kernel) rfl
set_option maxRecDepth 20000 in
theorem kw_339 : Cond.fieldLink RX7 19 "WalkedRounds$RoundWalk" "carried" "[J" ∈ KW := kw_of (i := 339) (by decide +kernel) rfl
set_option maxRecDepth 20000 in
theorem kw_340 : Cond.fieldLink RX7 23 "WalkedRounds$RoundWalk" "reached" "[Z" ∈ KW := kw_of (i := 340) (by decide +kernel) rfl
set_option maxRecDepth 20000 in
theorem kw_341 : Cond.fieldLink RX7 26 "WalkedRounds$RoundWalk" "halting" "[Z" ∈ KW := kw_of (i := 341) (by decide +kernel) rfl
set_option maxRecDepth 20000 in
theorem kw_342 : Cond.fieldLink RX7 29 "WalkedRounds$RoundWalk" "newStates" "[J" ∈ KW := kw_of (i := 342) (by decide +kernel) rfl
set_option maxRecDepth 20000 in
theorem kw_343 : Cond.fieldLink RX7 114 "WalkedRounds$RoundWalk" "sent" "I" ∈ KW := kw_of (i := 343) (by decide +kernel) rfl
set_option maxRecDepth 20000 in
theorem kw_375 : Cond.fieldLink RX3 31 "WalkedRounds$LineWalk" "web" "LWalkedRounds$Web;" ∈ KW := kw_of (i := 375) (by decide +kernel) rfl
set_option maxRecDepth 20000 in
theorem kw_376 : Cond.fieldLink RX3 32 "WalkedRounds$LineWalk" "actor" "LWalkedRounds$Actor;" ∈ KW := kw_of (i := 376) (by decide +kernel) rfl
set_option maxRecDepth 20000 in
theorem kw_377 : Cond.fieldLink RX3 40 "WalkedRounds$LineWalk" "failure" "LWalkedRounds$Failure;" ∈ KW := kw_of (i := 377) (by decide +kernel) rfl
set_option maxRecDepth 20000 in
theorem kw_378 : Cond.fieldLink RX3 41 "WalkedRounds$LineWalk" "past" "LWalkedRounds$Past;" ∈ KW := kw_of (i := 378) (by decide +kernel) rfl
set_option maxRecDepth 20000 in
theorem kw_379 : Cond.fieldLink RX3 45 "WalkedRounds$LineWalk" "told" "LWalkedRounds$Told;" ∈ KW := kw_of (i := 379) (by decide +kernel) rfl
set_option maxRecDepth 20000 in
theorem kw_380 : Cond.fieldLink RX3 9 "WalkedRounds$LineWalk" "arcs" "[I" ∈ KW := kw_of (i := 380) (by decide +kernel) rfl
set_option maxRecDepth 20000 in
theorem kw_381 : Cond.fieldLink RX3 15 "WalkedRounds$LineWalk" "values" "[J" ∈ KW := kw_of (i := 381) (by decide +kernel) rfl
set_option maxRecDepth 20000 in
theorem kw_382 : Cond.fieldLink RX3 19 "WalkedRounds$LineWalk" "newStates" "[J" ∈ KW := kw_of (i := 382) (by decide +kernel) rfl
set_option maxRecDepth 20000 in
theorem kw_383 : Cond.fieldLink RX3 22 "WalkedRounds$LineWalk" "oldStates" "[J" ∈ KW := kw_of (i := 383) (by decide +kernel) rfl
set_option maxRecDepth 20000 in
theorem kw_384 : Cond.fieldLink RX3 64 "WalkedRounds$LineWalk" "first" "I" ∈ KW := kw_of (i := 384) (by decide +kernel) rfl
set_option maxRecDepth 20000 in
theorem kw_385 : Cond.fieldLink RX3 68 "WalkedRounds$LineWalk" "size" "I" ∈ KW := kw_of (i := 385) (by decide +kernel) rfl
set_option maxRecDepth 20000 in
theorem kw_409 : Cond.fieldLink RX11 10 "WalkedRounds" "terms" "LWalkedRounds$Terms;" ∈ KW := kw_of (i := 409) (by decide +kernel) rfl
set_option maxRecDepth 20000 in
theorem kw_410 : Cond.fieldLink RX11 19 "WalkedRounds" "web" "LWalkedRounds$Web;" ∈ KW := kw_of (i := 410) (by decide +kernel) rfl
set_option maxRecDepth 20000 in
theorem kw_411 : Cond.fieldLink RX11 26 "WalkedRounds" "program" "LWalkedRounds$Program;" ∈ KW := kw_of (i := 411) (by decide +kernel) rfl
set_option maxRecDepth 20000 in
theorem kw_412 : Cond.fieldLink RX11 33 "WalkedRounds" "failure" "LWalkedRounds$Failure;" ∈ KW := kw_of (i := 412) (by decide +kernel) rfl
set_option maxRecDepth 20000 in
theorem kw_413 : Cond.fieldLink RX11 40 "WalkedRounds" "past" "LWalkedRounds$Past;" ∈ KW := kw_of (i := 413) (by decide +kernel) rfl
set_option maxRecDepth 20000 in
theorem kw_414 : Cond.fieldLink RX11 47 "WalkedRounds" "told" "LWalkedRounds$Told;" ∈ KW := kw_of (i := 414) (by decide +kernel) rfl
set_option maxRecDepth 20000 in
theorem kw_415 : Cond.fieldLink RX11 56 "WalkedRounds" "asker" "LWalkedRounds$Asker;" ∈ KW := kw_of (i := 415) (by decide +kernel) rfl
set_option maxRecDepth 20000 in
theorem kw_417 : Cond.fieldLink RX11 74 "WalkedRounds" "roundWalk" "LWalkedRounds$RoundWalk;" ∈ KW := kw_of (i := 417) (by decide +kernel) rfl
set_option maxRecDepth 20000 in
theorem kw_418 : Cond.fieldLink RX11 81 "WalkedRounds" "lineWalk" "LWalkedRounds$LineWalk;" ∈ KW := kw_of (i := 418) (by decide +kernel) rfl
set_option maxRecDepth 20000 in
theorem kw_419 : Cond.fieldLink RX11 144 "WalkedRounds" "whyAsked" "I" ∈ KW := kw_of (i := 419) (by decide +kernel) rfl
set_option maxRecDepth 20000 in
theorem kw_447 : Cond.methodLink RX11 85 yX8_add ∈ KW := kw_of (i := 447) (by decide +kernel) rfl
set_option maxRecDepth 20000 in
theorem kw_448 : Cond.instanceMethod yX8_add ∈ KW := kw_of (i := 448) (by decide +kernel) rfl
set_option maxRecDepth 20000 in
theorem kw_449 : Cond.selects RX8 yX8_add yX8_add ∈ KW := kw_of (i := 449) (by decide +kernel) rfl
set_option maxRecDepth 20000 in
theorem kw_450 : Cond.code yX8_add cX8_add 8 (some .int) ∈ KW := kw_of (i := 450) rfl rfl
set_option maxRecDepth 20000 in
theorem kw_451 : Cond.methodLink RX8 32 yX8_partsOf ∈ KW := kw_of (i := 451) (by decide +kernel) rfl
set_option maxRecDepth 20000 in
theorem kw_452 : Cond.static yX8_partsOf ∈ KW := kw_of (i := 452) (by decide +kernel) rfl
set_option maxRecDepth 20000 in
theorem kw_453 : Cond.code yX8_partsOf cX8_partsOf 1 (some .int) ∈ KW := kw_of (i := 453) rfl rfl
set_option maxRecDepth 20000 in
theorem kw_454 : Cond.methodLink RX8 36 yX8_has ∈ KW := kw_of (i := 454) (by decide +kernel) rfl
set_option maxRecDepth 20000 in
theorem kw_455 : Cond.instanceMethod yX8_has ∈ KW := kw_of (i := 455) (by decide +kernel) rfl
set_option maxRecDepth 20000 in
theorem kw_456 : Cond.selects RX8 yX8_has yX8_has ∈ KW := kw_of (i := 456) (by decide +kernel) rfl
set_option maxRecDepth 20000 in
theorem kw_457 : Cond.code yX8_has cX8_has 2 (some .boolean) ∈ KW := kw_of (i := 457) rfl rfl
set_option maxRecDepth 20000 in
theorem nw_458 : Cond.methodLinkNest RX8 40 yX11_isState "WalkedRounds" ∈ NW := nw_of (i := 458) (by decide +kernel) rfl
set_option maxRecDepth 20000 in
theorem kw_459 : Cond.static yX11_isState ∈ KW := kw_of (i := 459) (by decide +kernel) rfl
set_option maxRecDepth 20000 in
theorem kw_460 : Cond.code yX11_isState cX11_isState 2 (some .boolean) ∈ KW := kw_of (i := 460) rfl rfl
set_option maxRecDepth 20000 in
theorem kw_461 : Cond.constantLong RX11 196 3 ∈ KW := kw_of (i := 461) (by decide +kernel) rfl
set_option maxRecDepth 20000 in
theorem kw_466 : Cond.methodLink RX11 89 yX10_addNode ∈ KW := kw_of (i := 466) (by decide +kernel) rfl
set_option maxRecDepth 20000 in
theorem kw_467 : Cond.instanceMethod yX10_addNode ∈ KW := kw_of (i := 467) (by decide +kernel) rfl
set_option maxRecDepth 20000 in
theorem kw_468 : Cond.selects RX10 yX10_addNode yX10_addNode ∈ KW := kw_of (i := 468) (by decide +kernel) rfl
set_option maxRecDepth 20000 in
theorem kw_469 : Cond.code yX10_addNode cX10_addNode 1 (some .int) ∈ KW := kw_of (i := 469) rfl rfl
set_option maxRecDepth 20000 in
theorem kw_470 : Cond.methodLink RX11 93 yX11_changed ∈ KW := kw_of (i := 470) (by decide +kernel) rfl
set_option maxRecDepth 20000 in
theorem kw_472 : Cond.instanceMethod yX11_changed ∈ KW := kw_of (i := 472) (by decide +kernel) rfl
set_option maxRecDepth 20000 in
theorem kw_473 : Cond.code yX11_changed cX11_changed 2 (some .int) ∈ KW := kw_of (i := 473) rfl rfl
set_option maxRecDepth 20000 in
theorem kw_474 : Cond.methodLink RX11 198 yX5_forget ∈ KW := kw_of (i := 474) (by decide +kernel) rfl
set_option maxRecDepth 20000 in
theorem kw_475 : Cond.instanceMethod yX5_forget ∈ KW := kw_of (i := 475) (by decide +kernel) rfl
set_option maxRecDepth 20000 in
theorem kw_476 : Cond.selects RX5 yX5_forget yX5_forget ∈ KW := kw_of (i := 476) (by decide +kernel) rfl
set_option maxRecDepth 20000 in
theorem kw_477 : Cond.code yX5_forget cX5_forget 1 none ∈ KW := kw_of (i := 477) rfl rfl
set_option maxRecDepth 20000 in
theorem kw_482 : Cond.methodLink RX11 97 yX10_addArc ∈ KW := kw_of (i := 482) (by decide +kernel) rfl
set_option maxRecDepth 20000 in
theorem kw_483 : Cond.instanceMethod yX10_addArc ∈ KW := kw_of (i := 483) (by decide +kernel) rfl
set_option maxRecDepth 20000 in
theorem kw_484 : Cond.selects RX10 yX10_addArc yX10_addArc ∈ KW := kw_of (i := 484) (by decide +kernel) rfl
set_option maxRecDepth 20000 in
theorem kw_485 : Cond.code yX10_addArc cX10_addArc 5 (some .int) ∈ KW := kw_of (i := 485) rfl rfl
set_option maxRecDepth 20000 in
theorem kw_486 : Cond.methodLink RX10 39 yX10_hasNode ∈ KW := kw_of (i := 486) (by decide +kernel) rfl
set_option maxRecDepth 20000 in
theorem kw_487 : Cond.instanceMethod yX10_hasNode ∈ KW := kw_of (i := 487) (by decide +kernel) rfl
set_option maxRecDepth 20000 in
theorem kw_488 : Cond.selects RX10 yX10_hasNode yX10_hasNode ∈ KW := kw_of (i := 488) (by decide +kernel) rfl
set_option maxRecDepth 20000 in
theorem kw_489 : Cond.code yX10_hasNode cX10_hasNode 2 (some .boolean) ∈ KW := kw_of (i := 489) rfl rfl
set_option maxRecDepth 20000 in
theorem kw_494 : Cond.methodLink RX11 101 yX10_hasNode ∈ KW := kw_of (i := 494) (by decide +kernel) rfl
set_option maxRecDepth 20000 in
theorem kw_495 : Cond.methodLink RX11 105 yX11_isState ∈ KW := kw_of (i := 495) (by decide +kernel) rfl
set_option maxRecDepth 20000 in
theorem kw_504 : Cond.methodLink RX11 117 yX8_has ∈ KW := kw_of (i := 504) (by decide +kernel) rfl
set_option maxRecDepth 20000 in
theorem kw_513 : Cond.methodLink RX11 128 yX2_clear ∈ KW := kw_of (i := 513) (by decide +kernel) rfl
set_option maxRecDepth 20000 in
theorem kw_514 : Cond.instanceMethod yX2_clear ∈ KW := kw_of (i := 514) (by decide +kernel) rfl
set_option maxRecDepth 20000 in
theorem kw_515 : Cond.selects RX2 yX2_clear yX2_clear ∈ KW := kw_of (i := 515) (by decide +kernel) rfl
set_option maxRecDepth 20000 in
theorem kw_516 : Cond.code yX2_clear cX2_clear 1 none ∈ KW := kw_of (i := 516) rfl rfl
set_option maxRecDepth 20000 in
theorem kw_517 : Cond.methodLink RX11 131 yX3_walk ∈ KW := kw_of (i := 517) (by decide +kernel) rfl
set_option maxRecDepth 20000 in
theorem kw_518 : Cond.instanceMethod yX3_walk ∈ KW := kw_of (i := 518) (by decide +kernel) rfl
set_option maxRecDepth 20000 in
theorem kw_519 : Cond.selects RX3 yX3_walk yX3_walk ∈ KW := kw_of (i := 519) (by decide +kernel) rfl
set_option maxRecDepth 20000 in
theorem kw_520 : Cond.code yX3_walk cX3_walk 6 (some .int) ∈ KW := kw_of (i := 520) rfl rfl
set_option maxRecDepth 20000 in
theorem kw_521 : Cond.methodLink RX3 49 yX5_mark ∈ KW := kw_of (i := 521) (by decide +kernel) rfl
set_option maxRecDepth 20000 in
theorem kw_522 : Cond.instanceMethod yX5_mark ∈ KW := kw_of (i := 522) (by decide +kernel) rfl
set_option maxRecDepth 20000 in
theorem kw_523 : Cond.selects RX5 yX5_mark yX5_mark ∈ KW := kw_of (i := 523) (by decide +kernel) rfl
set_option maxRecDepth 20000 in
theorem kw_524 : Cond.code yX5_mark cX5_mark 2 none ∈ KW := kw_of (i := 524) rfl rfl
set_option maxRecDepth 20000 in
theorem kw_525 : Cond.methodLink RX5 22 yX4_take ∈ KW := kw_of (i := 525) (by decide +kernel) rfl
set_option maxRecDepth 20000 in
theorem kw_526 : Cond.instanceMethod yX4_take ∈ KW := kw_of (i := 526) (by decide +kernel) rfl
set_option maxRecDepth 20000 in
theorem kw_527 : Cond.selects RX4 yX4_take yX4_take ∈ KW := kw_of (i := 527) (by decide +kernel) rfl
set_option maxRecDepth 20000 in
theorem kw_528 : Cond.code yX4_take cX4_take 3 none ∈ KW := kw_of (i := 528) rfl rfl
set_option maxRecDepth 20000 in
theorem kw_529 : Cond.methodLink RX4 22 arraycopyName ∈ KW := kw_of (i := 529) (by decide +kernel) rfl
set_option maxRecDepth 20000 in
theorem kw_530 : Cond.static arraycopyName ∈ KW := kw_of (i := 530) (by decide +kernel) rfl
set_option maxRecDepth 20000 in
theorem kw_531 : Cond.native arraycopyName ∈ KW := kw_of (i := 531) (by decide +kernel) rfl
set_option maxRecDepth 20000 in
theorem kw_532 : Cond.methodLink RX3 59 yX1_begin ∈ KW := kw_of (i := 532) (by decide +kernel) rfl
set_option maxRecDepth 20000 in
theorem kw_533 : Cond.instanceMethod yX1_begin ∈ KW := kw_of (i := 533) (by decide +kernel) rfl
set_option maxRecDepth 20000 in
theorem kw_534 : Cond.selects RX1 yX1_begin yX1_begin ∈ KW := kw_of (i := 534) (by decide +kernel) rfl
set_option maxRecDepth 20000 in
theorem kw_535 : Cond.code yX1_begin cX1_begin 1 none ∈ KW := kw_of (i := 535) rfl rfl
set_option maxRecDepth 20000 in
theorem kw_536 : Cond.methodLink RX1 26 yX1_setFolded ∈ KW := kw_of (i := 536) (by decide +kernel) rfl
set_option maxRecDepth 20000 in
theorem kw_537 : Cond.instanceMethod yX1_setFolded ∈ KW := kw_of (i := 537) (by decide +kernel) rfl
set_option maxRecDepth 20000 in
theorem kw_538 : Cond.selects RX1 yX1_setFolded yX1_setFolded ∈ KW := kw_of (i := 538) (by decide +kernel) rfl
set_option maxRecDepth 20000 in
theorem kw_539 : Cond.code yX1_setFolded cX1_setFolded 4 none ∈ KW := kw_of (i := 539) rfl rfl
set_option maxRecDepth 20000 in
theorem kw_540 : Cond.methodLink RX3 71 yX3_startLine ∈ KW := kw_of (i := 540) (by decide +kernel) rfl
set_option maxRecDepth 20000 in
theorem kw_542 : Cond.instanceMethod yX3_startLine ∈ KW := kw_of (i := 542) (by decide +kernel) rfl
set_option maxRecDepth 20000 in
theorem kw_543 : Cond.code yX3_startLine cX3_startLine 2 none ∈ KW := kw_of (i := 543) rfl rfl
set_option maxRecDepth 20000 in
theorem kw_544 : Cond.methodLink RX3 105 yX3_sendOn ∈ KW := kw_of (i := 544) (by decide +kernel) rfl
set_option maxRecDepth 20000 in
theorem kw_546 : Cond.instanceMethod yX3_sendOn ∈ KW := kw_of (i := 546) (by decide +kernel) rfl
set_option maxRecDepth 20000 in
theorem kw_547 : Cond.code yX3_sendOn cX3_sendOn 3 none ∈ KW := kw_of (i := 547) rfl rfl
set_option maxRecDepth 20000 in
theorem kw_548 : Cond.methodLink RX3 114 yX3_sendAlong ∈ KW := kw_of (i := 548) (by decide +kernel) rfl
set_option maxRecDepth 20000 in
theorem kw_550 : Cond.instanceMethod yX3_sendAlong ∈ KW := kw_of (i := 550) (by decide +kernel) rfl
set_option maxRecDepth 20000 in
theorem kw_551 : Cond.code yX3_sendAlong cX3_sendAlong 6 none ∈ KW := kw_of (i := 551) rfl rfl
set_option maxRecDepth 20000 in
theorem kw_552 : Cond.methodLink RX3 118 yX0_comesTo ∈ KW := kw_of (i := 552) (by decide +kernel) rfl
set_option maxRecDepth 20000 in
theorem kw_553 : Cond.instanceMethod yX0_comesTo ∈ KW := kw_of (i := 553) (by decide +kernel) rfl
set_option maxRecDepth 20000 in
theorem kw_554 : Cond.selects RX0 yX0_comesTo yX0_comesTo ∈ KW := kw_of (i := 554) (by decide +kernel) rfl
set_option maxRecDepth 20000 in
theorem kw_555 : Cond.code yX0_comesTo cX0_comesTo 9 (some .long) ∈ KW := kw_of (i := 555) rfl rfl
set_option maxRecDepth 20000 in
theorem nw_556 : Cond.methodLinkNest RX0 33 yX1_valueOf "WalkedRounds" ∈ NW := nw_of (i := 556) (by decide +kernel) rfl
set_option maxRecDepth 20000 in
theorem kw_558 : Cond.instanceMethod yX1_valueOf ∈ KW := kw_of (i := 558) (by decide +kernel) rfl
set_option maxRecDepth 20000 in
theorem kw_559 : Cond.code yX1_valueOf cX1_valueOf 10 (some .long) ∈ KW := kw_of (i := 559) rfl rfl
set_option maxRecDepth 20000 in
theorem kw_560 : Cond.methodLink RX1 37 yX1_fails ∈ KW := kw_of (i := 560) (by decide +kernel) rfl
set_option maxRecDepth 20000 in
theorem kw_562 : Cond.instanceMethod yX1_fails ∈ KW := kw_of (i := 562) (by decide +kernel) rfl
set_option maxRecDepth 20000 in
theorem kw_563 : Cond.code yX1_fails cX1_fails 2 (some .long) ∈ KW := kw_of (i := 563) rfl rfl
set_option maxRecDepth 20000 in
theorem kw_564 : Cond.methodLink RX1 50 yX1_plainValue ∈ KW := kw_of (i := 564) (by decide +kernel) rfl
set_option maxRecDepth 20000 in
theorem kw_566 : Cond.instanceMethod yX1_plainValue ∈ KW := kw_of (i := 566) (by decide +kernel) rfl
set_option maxRecDepth 20000 in
theorem kw_567 : Cond.code yX1_plainValue cX1_plainValue 4 (some .long) ∈ KW := kw_of (i := 567) rfl rfl
set_option maxRecDepth 20000 in
theorem kw_568 : Cond.methodLink RX1 57 yX1_valueOf ∈ KW := kw_of (i := 568) (by decide +kernel) rfl
set_option maxRecDepth 20000 in
theorem kw_569 : Cond.methodLink RX1 61 yX1_stateAt ∈ KW := kw_of (i := 569) (by decide +kernel) rfl
set_option maxRecDepth 20000 in
theorem kw_571 : Cond.instanceMethod yX1_stateAt ∈ KW := kw_of (i := 571) (by decide +kernel) rfl
set_option maxRecDepth 20000 in
theorem kw_572 : Cond.code yX1_stateAt cX1_stateAt 3 (some .long) ∈ KW := kw_of (i := 572) rfl rfl
set_option maxRecDepth 20000 in
theorem kw_573 : Cond.methodLink RX1 71 yX1_joined ∈ KW := kw_of (i := 573) (by decide +kernel) rfl
set_option maxRecDepth 20000 in
theorem kw_575 : Cond.instanceMethod yX1_joined ∈ KW := kw_of (i := 575) (by decide +kernel) rfl
set_option maxRecDepth 20000 in
theorem kw_576 : Cond.code yX1_joined cX1_joined 6 (some .long) ∈ KW := kw_of (i := 576) rfl rfl
set_option maxRecDepth 20000 in
theorem kw_577 : Cond.methodLink RX0 48 yX2_keep ∈ KW := kw_of (i := 577) (by decide +kernel) rfl
set_option maxRecDepth 20000 in
theorem kw_578 : Cond.instanceMethod yX2_keep ∈ KW := kw_of (i := 578) (by decide +kernel) rfl
set_option maxRecDepth 20000 in
theorem kw_579 : Cond.selects RX2 yX2_keep yX2_keep ∈ KW := kw_of (i := 579) (by decide +kernel) rfl
set_option maxRecDepth 20000 in
theorem kw_580 : Cond.code yX2_keep cX2_keep 6 none ∈ KW := kw_of (i := 580) rfl rfl
set_option maxRecDepth 20000 in
theorem kw_581 : Cond.methodLink RX3 74 yX2_is ∈ KW := kw_of (i := 581) (by decide +kernel) rfl
set_option maxRecDepth 20000 in
theorem kw_582 : Cond.instanceMethod yX2_is ∈ KW := kw_of (i := 582) (by decide +kernel) rfl
set_option maxRecDepth 20000 in
theorem kw_583 : Cond.selects RX2 yX2_is yX2_is ∈ KW := kw_of (i := 583) (by decide +kernel) rfl
set_option maxRecDepth 20000 in
theorem kw_584 : Cond.code yX2_is cX2_is 1 (some .boolean) ∈ KW := kw_of (i := 584) rfl rfl
set_option maxRecDepth 20000 in
theorem kw_585 : Cond.methodLink RX3 125 yX2_keep ∈ KW := kw_of (i := 585) (by decide +kernel) rfl
set_option maxRecDepth 20000 in
theorem kw_586 : Cond.methodLink RX3 80 yX3_isDone ∈ KW := kw_of (i := 586) (by decide +kernel) rfl
set_option maxRecDepth 20000 in
theorem kw_588 : Cond.instanceMethod yX3_isDone ∈ KW := kw_of (i := 588) (by decide +kernel) rfl
set_option maxRecDepth 20000 in
theorem kw_589 : Cond.code yX3_isDone cX3_isDone 6 (some .boolean) ∈ KW := kw_of (i := 589) rfl rfl
set_option maxRecDepth 20000 in
theorem kw_590 : Cond.methodLink RX3 135 arraycopyName ∈ KW := kw_of (i := 590) (by decide +kernel) rfl
set_option maxRecDepth 20000 in
theorem kw_591 : Cond.methodLink RX3 141 yX1_setFolded ∈ KW := kw_of (i := 591) (by decide +kernel) rfl
set_option maxRecDepth 20000 in
theorem kw_592 : Cond.methodLink RX3 145 yX3_takeStates ∈ KW := kw_of (i := 592) (by decide +kernel) rfl
set_option maxRecDepth 20000 in
theorem kw_594 : Cond.instanceMethod yX3_takeStates ∈ KW := kw_of (i := 594) (by decide +kernel) rfl
set_option maxRecDepth 20000 in
theorem kw_595 : Cond.code yX3_takeStates cX3_takeStates 3 none ∈ KW := kw_of (i := 595) rfl rfl
set_option maxRecDepth 20000 in
theorem kw_596 : Cond.methodLink RX3 84 yX9_clear ∈ KW := kw_of (i := 596) (by decide +kernel) rfl
set_option maxRecDepth 20000 in
theorem kw_597 : Cond.instanceMethod yX9_clear ∈ KW := kw_of (i := 597) (by decide +kernel) rfl
set_option maxRecDepth 20000 in
theorem kw_598 : Cond.selects RX9 yX9_clear yX9_clear ∈ KW := kw_of (i := 598) (by decide +kernel) rfl
set_option maxRecDepth 20000 in
theorem kw_599 : Cond.code yX9_clear cX9_clear 1 none ∈ KW := kw_of (i := 599) rfl rfl
set_option maxRecDepth 20000 in
theorem kw_600 : Cond.methodLink RX3 89 yX9_add ∈ KW := kw_of (i := 600) (by decide +kernel) rfl
set_option maxRecDepth 20000 in
theorem kw_601 : Cond.instanceMethod yX9_add ∈ KW := kw_of (i := 601) (by decide +kernel) rfl
set_option maxRecDepth 20000 in
theorem kw_602 : Cond.selects RX9 yX9_add yX9_add ∈ KW := kw_of (i := 602) (by decide +kernel) rfl
set_option maxRecDepth 20000 in
theorem kw_603 : Cond.code yX9_add cX9_add 4 none ∈ KW := kw_of (i := 603) rfl rfl
set_option maxRecDepth 20000 in
theorem kw_604 : Cond.methodLink RX3 93 yX5_keepMark ∈ KW := kw_of (i := 604) (by decide +kernel) rfl
set_option maxRecDepth 20000 in
theorem kw_605 : Cond.instanceMethod yX5_keepMark ∈ KW := kw_of (i := 605) (by decide +kernel) rfl
set_option maxRecDepth 20000 in
theorem kw_606 : Cond.selects RX5 yX5_keepMark yX5_keepMark ∈ KW := kw_of (i := 606) (by decide +kernel) rfl
set_option maxRecDepth 20000 in
theorem kw_607 : Cond.code yX5_keepMark cX5_keepMark 1 none ∈ KW := kw_of (i := 607) rfl rfl
set_option maxRecDepth 20000 in
theorem kw_608 : Cond.methodLink RX11 134 yX7_walk ∈ KW := kw_of (i := 608) (by decide +kernel) rfl
set_option maxRecDepth 20000 in
theorem kw_609 : Cond.instanceMethod yX7_walk ∈ KW := kw_of (i := 609) (by decide +kernel) rfl
set_option maxRecDepth 20000 in
theorem kw_610 : Cond.selects RX7 yX7_walk yX7_walk ∈ KW := kw_of (i := 610) (by decide +kernel) rfl
set_option maxRecDepth 20000 in
theorem kw_611 : Cond.code yX7_walk cX7_walk 4 (some .int) ∈ KW := kw_of (i := 611) rfl rfl
set_option maxRecDepth 20000 in
theorem kw_612 : Cond.methodLink RX7 56 yX10_awakeNodes ∈ KW := kw_of (i := 612) (by decide +kernel) rfl
set_option maxRecDepth 20000 in
theorem kw_613 : Cond.instanceMethod yX10_awakeNodes ∈ KW := kw_of (i := 613) (by decide +kernel) rfl
set_option maxRecDepth 20000 in
theorem kw_614 : Cond.selects RX10 yX10_awakeNodes yX10_awakeNodes ∈ KW := kw_of (i := 614) (by decide +kernel) rfl
set_option maxRecDepth 20000 in
theorem kw_615 : Cond.code yX10_awakeNodes cX10_awakeNodes 3 (some .int) ∈ KW := kw_of (i := 615) rfl rfl
set_option maxRecDepth 20000 in
theorem kw_616 : Cond.methodLink RX7 62 yX7_isDone ∈ KW := kw_of (i := 616) (by decide +kernel) rfl
set_option maxRecDepth 20000 in
theorem kw_618 : Cond.instanceMethod yX7_isDone ∈ KW := kw_of (i := 618) (by decide +kernel) rfl
set_option maxRecDepth 20000 in
theorem kw_619 : Cond.code yX7_isDone cX7_isDone 2 (some .boolean) ∈ KW := kw_of (i := 619) rfl rfl
set_option maxRecDepth 20000 in
theorem kw_620 : Cond.methodLink RX7 66 yX5_mark ∈ KW := kw_of (i := 620) (by decide +kernel) rfl
set_option maxRecDepth 20000 in
theorem kw_621 : Cond.methodLink RX7 72 yX7_begin ∈ KW := kw_of (i := 621) (by decide +kernel) rfl
set_option maxRecDepth 20000 in
theorem kw_623 : Cond.instanceMethod yX7_begin ∈ KW := kw_of (i := 623) (by decide +kernel) rfl
set_option maxRecDepth 20000 in
theorem kw_624 : Cond.code yX7_begin cX7_begin 2 none ∈ KW := kw_of (i := 624) rfl rfl
set_option maxRecDepth 20000 in
theorem kw_625 : Cond.methodLink RX7 111 yX1_begin ∈ KW := kw_of (i := 625) (by decide +kernel) rfl
set_option maxRecDepth 20000 in
theorem kw_626 : Cond.methodLink RX7 75 yX7_sendAll ∈ KW := kw_of (i := 626) (by decide +kernel) rfl
set_option maxRecDepth 20000 in
theorem kw_628 : Cond.instanceMethod yX7_sendAll ∈ KW := kw_of (i := 628) (by decide +kernel) rfl
set_option maxRecDepth 20000 in
theorem kw_629 : Cond.code yX7_sendAll cX7_sendAll 5 none ∈ KW := kw_of (i := 629) rfl rfl
set_option maxRecDepth 20000 in
theorem kw_630 : Cond.methodLink RX7 132 yX7_sendAlong ∈ KW := kw_of (i := 630) (by decide +kernel) rfl
set_option maxRecDepth 20000 in
theorem kw_632 : Cond.instanceMethod yX7_sendAlong ∈ KW := kw_of (i := 632) (by decide +kernel) rfl
set_option maxRecDepth 20000 in
theorem kw_633 : Cond.code yX7_sendAlong cX7_sendAlong 3 none ∈ KW := kw_of (i := 633) rfl rfl
set_option maxRecDepth 20000 in
theorem kw_634 : Cond.methodLink RX7 136 yX0_comesTo ∈ KW := kw_of (i := 634) (by decide +kernel) rfl
set_option maxRecDepth 20000 in
theorem kw_635 : Cond.methodLink RX7 79 yX2_is ∈ KW := kw_of (i := 635) (by decide +kernel) rfl
set_option maxRecDepth 20000 in
theorem kw_636 : Cond.methodLink RX7 85 yX7_askNodes ∈ KW := kw_of (i := 636) (by decide +kernel) rfl
set_option maxRecDepth 20000 in
theorem kw_638 : Cond.instanceMethod yX7_askNodes ∈ KW := kw_of (i := 638) (by decide +kernel) rfl
set_option maxRecDepth 20000 in
theorem kw_639 : Cond.code yX7_askNodes cX7_askNodes 3 none ∈ KW := kw_of (i := 639) rfl rfl
set_option maxRecDepth 20000 in
theorem kw_640 : Cond.methodLink RX7 140 yX7_messagesTo ∈ KW := kw_of (i := 640) (by decide +kernel) rfl
set_option maxRecDepth 20000 in
theorem kw_642 : Cond.instanceMethod yX7_messagesTo ∈ KW := kw_of (i := 642) (by decide +kernel) rfl
set_option maxRecDepth 20000 in
theorem kw_643 : Cond.code yX7_messagesTo cX7_messagesTo 4 (some .int) ∈ KW := kw_of (i := 643) rfl rfl
set_option maxRecDepth 20000 in
theorem kw_644 : Cond.methodLink RX7 144 yX7_askNode ∈ KW := kw_of (i := 644) (by decide +kernel) rfl
set_option maxRecDepth 20000 in
theorem kw_646 : Cond.instanceMethod yX7_askNode ∈ KW := kw_of (i := 646) (by decide +kernel) rfl
set_option maxRecDepth 20000 in
theorem kw_647 : Cond.code yX7_askNode cX7_askNode 4 none ∈ KW := kw_of (i := 647) rfl rfl
set_option maxRecDepth 20000 in
theorem kw_648 : Cond.methodLink RX7 148 yX7_foldFor ∈ KW := kw_of (i := 648) (by decide +kernel) rfl
set_option maxRecDepth 20000 in
theorem kw_650 : Cond.instanceMethod yX7_foldFor ∈ KW := kw_of (i := 650) (by decide +kernel) rfl
set_option maxRecDepth 20000 in
theorem kw_651 : Cond.code yX7_foldFor cX7_foldFor 6 (some .long) ∈ KW := kw_of (i := 651) rfl rfl
set_option maxRecDepth 20000 in
theorem kw_652 : Cond.methodLink RX7 159 yX7_foldTwo ∈ KW := kw_of (i := 652) (by decide +kernel) rfl
set_option maxRecDepth 20000 in
theorem kw_654 : Cond.instanceMethod yX7_foldTwo ∈ KW := kw_of (i := 654) (by decide +kernel) rfl
set_option maxRecDepth 20000 in
theorem kw_655 : Cond.code yX7_foldTwo cX7_foldTwo 8 (some .long) ∈ KW := kw_of (i := 655) rfl rfl
set_option maxRecDepth 20000 in
theorem kw_656 : Cond.methodLink RX7 172 Lib.MathLoose.min_long.x ∈ KW := kw_of (i := 656) (by decide +kernel) rfl
set_option maxRecDepth 20000 in
theorem kw_657 : Cond.static Lib.MathLoose.min_long.x ∈ KW := kw_of (i := 657) (by decide +kernel) rfl
set_option maxRecDepth 20000 in
theorem kw_658 : Cond.code Lib.MathLoose.min_long.x Lib.MathLoose.min_long.code 4 (some .long) ∈ KW := kw_of (i := 658) rfl rfl
set_option maxRecDepth 20000 in
theorem kw_659 : Cond.methodLink RX7 178 Lib.MathLoose.max_long.x ∈ KW := kw_of (i := 659) (by decide +kernel) rfl
set_option maxRecDepth 20000 in
theorem kw_660 : Cond.static Lib.MathLoose.max_long.x ∈ KW := kw_of (i := 660) (by decide +kernel) rfl
set_option maxRecDepth 20000 in
theorem kw_661 : Cond.code Lib.MathLoose.max_long.x Lib.MathLoose.max_long.code 4 (some .long) ∈ KW := kw_of (i := 661) rfl rfl
set_option maxRecDepth 20000 in
theorem kw_662 : Cond.methodLink RX7 181 yX2_keep ∈ KW := kw_of (i := 662) (by decide +kernel) rfl
set_option maxRecDepth 20000 in
theorem kw_663 : Cond.methodLink RX7 152 yX1_setFolded ∈ KW := kw_of (i := 663) (by decide +kernel) rfl
set_option maxRecDepth 20000 in
theorem kw_664 : Cond.methodLink RX7 88 yX7_changeNodes ∈ KW := kw_of (i := 664) (by decide +kernel) rfl
set_option maxRecDepth 20000 in
theorem kw_666 : Cond.instanceMethod yX7_changeNodes ∈ KW := kw_of (i := 666) (by decide +kernel) rfl
set_option maxRecDepth 20000 in
theorem kw_667 : Cond.code yX7_changeNodes cX7_changeNodes 2 none ∈ KW := kw_of (i := 667) rfl rfl
set_option maxRecDepth 20000 in
theorem kw_668 : Cond.methodLink RX7 185 arraycopyName ∈ KW := kw_of (i := 668) (by decide +kernel) rfl
set_option maxRecDepth 20000 in
theorem kw_669 : Cond.methodLink RX7 91 yX7_sumParts ∈ KW := kw_of (i := 669) (by decide +kernel) rfl
set_option maxRecDepth 20000 in
theorem kw_671 : Cond.instanceMethod yX7_sumParts ∈ KW := kw_of (i := 671) (by decide +kernel) rfl
set_option maxRecDepth 20000 in
theorem kw_672 : Cond.code yX7_sumParts cX7_sumParts 4 none ∈ KW := kw_of (i := 672) rfl rfl
set_option maxRecDepth 20000 in
theorem kw_673 : Cond.methodLink RX7 94 yX5_backToMark ∈ KW := kw_of (i := 673) (by decide +kernel) rfl
set_option maxRecDepth 20000 in
theorem kw_674 : Cond.instanceMethod yX5_backToMark ∈ KW := kw_of (i := 674) (by decide +kernel) rfl
set_option maxRecDepth 20000 in
theorem kw_675 : Cond.selects RX5 yX5_backToMark yX5_backToMark ∈ KW := kw_of (i := 675) (by decide +kernel) rfl
set_option maxRecDepth 20000 in
theorem kw_676 : Cond.code yX5_backToMark cX5_backToMark 2 none ∈ KW := kw_of (i := 676) rfl rfl
set_option maxRecDepth 20000 in
theorem kw_677 : Cond.methodLink RX5 26 yX4_giveBack ∈ KW := kw_of (i := 677) (by decide +kernel) rfl
set_option maxRecDepth 20000 in
theorem kw_678 : Cond.instanceMethod yX4_giveBack ∈ KW := kw_of (i := 678) (by decide +kernel) rfl
set_option maxRecDepth 20000 in
theorem kw_679 : Cond.selects RX4 yX4_giveBack yX4_giveBack ∈ KW := kw_of (i := 679) (by decide +kernel) rfl
set_option maxRecDepth 20000 in
theorem kw_680 : Cond.code yX4_giveBack cX4_giveBack 3 none ∈ KW := kw_of (i := 680) rfl rfl
set_option maxRecDepth 20000 in
theorem kw_681 : Cond.methodLink RX7 101 yX5_keepMark ∈ KW := kw_of (i := 681) (by decide +kernel) rfl
set_option maxRecDepth 20000 in
theorem kw_682 : Cond.methodLink RX7 104 yX7_tellMessages ∈ KW := kw_of (i := 682) (by decide +kernel) rfl
set_option maxRecDepth 20000 in
theorem kw_684 : Cond.instanceMethod yX7_tellMessages ∈ KW := kw_of (i := 684) (by decide +kernel) rfl
set_option maxRecDepth 20000 in
theorem kw_685 : Cond.code yX7_tellMessages cX7_tellMessages 2 none ∈ KW := kw_of (i := 685) rfl rfl
set_option maxRecDepth 20000 in
theorem kw_686 : Cond.methodLink RX7 195 yX9_clear ∈ KW := kw_of (i := 686) (by decide +kernel) rfl
set_option maxRecDepth 20000 in
theorem kw_687 : Cond.methodLink RX7 200 yX9_add ∈ KW := kw_of (i := 687) (by decide +kernel) rfl
set_option maxRecDepth 20000 in
theorem kw_692 : Cond.methodLink RX11 137 yX5_undoLatest ∈ KW := kw_of (i := 692) (by decide +kernel) rfl
set_option maxRecDepth 20000 in
theorem kw_693 : Cond.instanceMethod yX5_undoLatest ∈ KW := kw_of (i := 693) (by decide +kernel) rfl
set_option maxRecDepth 20000 in
theorem kw_694 : Cond.selects RX5 yX5_undoLatest yX5_undoLatest ∈ KW := kw_of (i := 694) (by decide +kernel) rfl
set_option maxRecDepth 20000 in
theorem kw_695 : Cond.code yX5_undoLatest cX5_undoLatest 2 (some .int) ∈ KW := kw_of (i := 695) rfl rfl
set_option maxRecDepth 20000 in
theorem kw_700 : Cond.methodLink RX11 141 yX2_tell ∈ KW := kw_of (i := 700) (by decide +kernel) rfl
set_option maxRecDepth 20000 in
theorem kw_701 : Cond.instanceMethod yX2_tell ∈ KW := kw_of (i := 701) (by decide +kernel) rfl
set_option maxRecDepth 20000 in
theorem kw_702 : Cond.selects RX2 yX2_tell yX2_tell ∈ KW := kw_of (i := 702) (by decide +kernel) rfl
set_option maxRecDepth 20000 in
theorem kw_703 : Cond.code yX2_tell cX2_tell 2 (some .int) ∈ KW := kw_of (i := 703) rfl rfl
set_option maxRecDepth 20000 in
theorem kw_708 : Cond.constantLong RX11 147 (-101) ∈ KW := kw_of (i := 708) (by decide +kernel) rfl
set_option maxRecDepth 20000 in
theorem kw_709 : Cond.methodLink RX11 149 yX10_hasArc ∈ KW := kw_of (i := 709) (by decide +kernel) rfl
set_option maxRecDepth 20000 in
theorem kw_710 : Cond.instanceMethod yX10_hasArc ∈ KW := kw_of (i := 710) (by decide +kernel) rfl
set_option maxRecDepth 20000 in
theorem kw_711 : Cond.selects RX10 yX10_hasArc yX10_hasArc ∈ KW := kw_of (i := 711) (by decide +kernel) rfl
set_option maxRecDepth 20000 in
theorem kw_712 : Cond.code yX10_hasArc cX10_hasArc 2 (some .boolean) ∈ KW := kw_of (i := 712) rfl rfl
set_option maxRecDepth 20000 in
theorem kw_713 : Cond.methodLink RX11 152 yX1_begin ∈ KW := kw_of (i := 713) (by decide +kernel) rfl
set_option maxRecDepth 20000 in
theorem nw_714 : Cond.methodLinkNest RX11 155 yX1_valueOf "WalkedRounds" ∈ NW := nw_of (i := 714) (by decide +kernel) rfl
set_option maxRecDepth 20000 in
theorem kw_723 : Cond.constantLong RX11 162 (-102) ∈ KW := kw_of (i := 723) (by decide +kernel) rfl
set_option maxRecDepth 20000 in
theorem kw_736 : Cond.methodLink RX11 168 yX9_has ∈ KW := kw_of (i := 736) (by decide +kernel) rfl
set_option maxRecDepth 20000 in
theorem kw_737 : Cond.instanceMethod yX9_has ∈ KW := kw_of (i := 737) (by decide +kernel) rfl
set_option maxRecDepth 20000 in
theorem kw_738 : Cond.selects RX9 yX9_has yX9_has ∈ KW := kw_of (i := 738) (by decide +kernel) rfl
set_option maxRecDepth 20000 in
theorem kw_739 : Cond.code yX9_has cX9_has 2 (some .boolean) ∈ KW := kw_of (i := 739) rfl rfl
set_option maxRecDepth 20000 in
theorem kw_748 : Cond.methodLink RX11 186 yX10_awakeNodes ∈ KW := kw_of (i := 748) (by decide +kernel) rfl
set_option maxRecDepth 20000 in
theorem kw_755 : Cond.methodLink RX12 105 yX12_clearFailed ∈ KW := kw_of (i := 755) (by decide +kernel) rfl
set_option maxRecDepth 20000 in
theorem kw_757 : Cond.instanceMethod yX12_clearFailed ∈ KW := kw_of (i := 757) (by decide +kernel) rfl
set_option maxRecDepth 20000 in
theorem kw_758 : Cond.code yX12_clearFailed cX12_clearFailed 2 none ∈ KW := kw_of (i := 758) rfl rfl
set_option maxRecDepth 20000 in
theorem kw_759 : Cond.fieldLink RX12 108 "WalkedRoundsModel" "terms" "I" ∈ KW := kw_of (i := 759) (by decide +kernel) rfl
set_option maxRecDepth 20000 in
theorem kw_760 : Cond.fieldLink RX12 7 "WalkedRoundsModel" "kinds" "[I" ∈ KW := kw_of (i := 760) (by decide +kernel) rfl
set_option maxRecDepth 20000 in
theorem kw_761 : Cond.fieldLink RX12 13 "WalkedRoundsModel" "partA" "[I" ∈ KW := kw_of (i := 761) (by decide +kernel) rfl
set_option maxRecDepth 20000 in
theorem kw_762 : Cond.fieldLink RX12 16 "WalkedRoundsModel" "partB" "[I" ∈ KW := kw_of (i := 762) (by decide +kernel) rfl
set_option maxRecDepth 20000 in
theorem kw_763 : Cond.fieldLink RX12 19 "WalkedRoundsModel" "partC" "[I" ∈ KW := kw_of (i := 763) (by decide +kernel) rfl
set_option maxRecDepth 20000 in
theorem kw_764 : Cond.fieldLink RX12 22 "WalkedRoundsModel" "numbers" "[J" ∈ KW := kw_of (i := 764) (by decide +kernel) rfl
set_option maxRecDepth 20000 in
theorem kw_765 : Cond.fieldLink RX12 116 "WalkedRoundsModel" "nodes" "I" ∈ KW := kw_of (i := 765) (by decide +kernel) rfl
set_option maxRecDepth 20000 in
theorem kw_766 : Cond.fieldLink RX12 26 "WalkedRoundsModel" "states" "[J" ∈ KW := kw_of (i := 766) (by decide +kernel) rfl
set_option maxRecDepth 20000 in
theorem kw_767 : Cond.fieldLink RX12 29 "WalkedRoundsModel" "awake" "[Z" ∈ KW := kw_of (i := 767) (by decide +kernel) rfl
set_option maxRecDepth 20000 in
theorem kw_768 : Cond.fieldLink RX12 119 "WalkedRoundsModel" "arcs" "I" ∈ KW := kw_of (i := 768) (by decide +kernel) rfl
set_option maxRecDepth 20000 in
theorem kw_769 : Cond.fieldLink RX12 33 "WalkedRoundsModel" "from" "[I" ∈ KW := kw_of (i := 769) (by decide +kernel) rfl
set_option maxRecDepth 20000 in
theorem kw_770 : Cond.fieldLink RX12 36 "WalkedRoundsModel" "to" "[I" ∈ KW := kw_of (i := 770) (by decide +kernel) rfl
set_option maxRecDepth 20000 in
theorem kw_771 : Cond.fieldLink RX12 39 "WalkedRoundsModel" "weights" "[J" ∈ KW := kw_of (i := 771) (by decide +kernel) rfl
set_option maxRecDepth 20000 in
theorem kw_772 : Cond.fieldLink RX12 42 "WalkedRoundsModel" "acts" "[I" ∈ KW := kw_of (i := 772) (by decide +kernel) rfl
set_option maxRecDepth 20000 in
theorem kw_773 : Cond.fieldLink RX12 134 "WalkedRoundsModel" "fold" "I" ∈ KW := kw_of (i := 773) (by decide +kernel) rfl
set_option maxRecDepth 20000 in
theorem kw_774 : Cond.fieldLink RX12 182 "WalkedRoundsModel" "whole" "J" ∈ KW := kw_of (i := 774) (by decide +kernel) rfl
set_option maxRecDepth 20000 in
theorem kw_775 : Cond.fieldLink RX12 175 "WalkedRoundsModel" "rounds" "I" ∈ KW := kw_of (i := 775) (by decide +kernel) rfl
set_option maxRecDepth 20000 in
theorem kw_776 : Cond.fieldLink RX12 162 "WalkedRoundsModel" "steps" "I" ∈ KW := kw_of (i := 776) (by decide +kernel) rfl
set_option maxRecDepth 20000 in
theorem kw_777 : Cond.fieldLink RX12 45 "WalkedRoundsModel" "failed" "[I" ∈ KW := kw_of (i := 777) (by decide +kernel) rfl
set_option maxRecDepth 20000 in
theorem kw_778 : Cond.fieldLink RX12 267 "WalkedRoundsModel" "why" "I" ∈ KW := kw_of (i := 778) (by decide +kernel) rfl
set_option maxRecDepth 20000 in
theorem kw_779 : Cond.fieldLink RX12 128 "WalkedRoundsModel" "kept" "I" ∈ KW := kw_of (i := 779) (by decide +kernel) rfl
set_option maxRecDepth 20000 in
theorem kw_780 : Cond.fieldLink RX12 48 "WalkedRoundsModel" "oldStates" "[J" ∈ KW := kw_of (i := 780) (by decide +kernel) rfl
set_option maxRecDepth 20000 in
theorem kw_781 : Cond.fieldLink RX12 51 "WalkedRoundsModel" "oldAwake" "[Z" ∈ KW := kw_of (i := 781) (by decide +kernel) rfl
set_option maxRecDepth 20000 in
theorem kw_782 : Cond.fieldLink RX12 54 "WalkedRoundsModel" "oldWhole" "[J" ∈ KW := kw_of (i := 782) (by decide +kernel) rfl
set_option maxRecDepth 20000 in
theorem kw_783 : Cond.fieldLink RX12 57 "WalkedRoundsModel" "oldRounds" "[I" ∈ KW := kw_of (i := 783) (by decide +kernel) rfl
set_option maxRecDepth 20000 in
theorem kw_784 : Cond.fieldLink RX12 246 "WalkedRoundsModel" "told" "I" ∈ KW := kw_of (i := 784) (by decide +kernel) rfl
set_option maxRecDepth 20000 in
theorem kw_785 : Cond.fieldLink RX12 60 "WalkedRoundsModel" "toldArcs" "[I" ∈ KW := kw_of (i := 785) (by decide +kernel) rfl
set_option maxRecDepth 20000 in
theorem kw_786 : Cond.fieldLink RX12 63 "WalkedRoundsModel" "toldMessages" "[J" ∈ KW := kw_of (i := 786) (by decide +kernel) rfl
set_option maxRecDepth 20000 in
theorem kw_787 : Cond.fieldLink RX12 137 "WalkedRoundsModel" "top" "I" ∈ KW := kw_of (i := 787) (by decide +kernel) rfl
set_option maxRecDepth 20000 in
theorem kw_788 : Cond.fieldLink RX12 66 "WalkedRoundsModel" "pile" "[I" ∈ KW := kw_of (i := 788) (by decide +kernel) rfl
set_option maxRecDepth 20000 in
theorem kw_789 : Cond.fieldLink RX12 69 "WalkedRoundsModel" "stage" "[I" ∈ KW := kw_of (i := 789) (by decide +kernel) rfl
set_option maxRecDepth 20000 in
theorem kw_790 : Cond.fieldLink RX12 72 "WalkedRoundsModel" "first" "[J" ∈ KW := kw_of (i := 790) (by decide +kernel) rfl
set_option maxRecDepth 20000 in
theorem kw_791 : Cond.fieldLink RX12 165 "WalkedRoundsModel" "came" "J" ∈ KW := kw_of (i := 791) (by decide +kernel) rfl
set_option maxRecDepth 20000 in
theorem kw_792 : Cond.fieldLink RX12 146 "WalkedRoundsModel" "fails" "I" ∈ KW := kw_of (i := 792) (by decide +kernel) rfl
set_option maxRecDepth 20000 in
theorem kw_793 : Cond.fieldLink RX12 159 "WalkedRoundsModel" "spent" "I" ∈ KW := kw_of (i := 793) (by decide +kernel) rfl
set_option maxRecDepth 20000 in
theorem kw_794 : Cond.fieldLink RX12 140 "WalkedRoundsModel" "atNode" "I" ∈ KW := kw_of (i := 794) (by decide +kernel) rfl
set_option maxRecDepth 20000 in
theorem kw_795 : Cond.fieldLink RX12 143 "WalkedRoundsModel" "atArc" "I" ∈ KW := kw_of (i := 795) (by decide +kernel) rfl
set_option maxRecDepth 20000 in
theorem kw_796 : Cond.fieldLink RX12 169 "WalkedRoundsModel" "folded" "J" ∈ KW := kw_of (i := 796) (by decide +kernel) rfl
set_option maxRecDepth 20000 in
theorem kw_797 : Cond.fieldLink RX12 172 "WalkedRoundsModel" "many" "I" ∈ KW := kw_of (i := 797) (by decide +kernel) rfl
set_option maxRecDepth 20000 in
theorem kw_798 : Cond.fieldLink RX12 75 "WalkedRoundsModel" "goes" "[Z" ∈ KW := kw_of (i := 798) (by decide +kernel) rfl
set_option maxRecDepth 20000 in
theorem kw_799 : Cond.fieldLink RX12 78 "WalkedRoundsModel" "messages" "[J" ∈ KW := kw_of (i := 799) (by decide +kernel) rfl
set_option maxRecDepth 20000 in
theorem kw_800 : Cond.fieldLink RX12 214 "WalkedRoundsModel" "sent" "I" ∈ KW := kw_of (i := 800) (by decide +kernel) rfl
set_option maxRecDepth 20000 in
theorem kw_801 : Cond.fieldLink RX12 81 "WalkedRoundsModel" "sentArcs" "[I" ∈ KW := kw_of (i := 801) (by decide +kernel) rfl
set_option maxRecDepth 20000 in
theorem kw_802 : Cond.fieldLink RX12 197 "WalkedRoundsModel" "sends" "Z" ∈ KW := kw_of (i := 802) (by decide +kernel) rfl
set_option maxRecDepth 20000 in
theorem kw_803 : Cond.fieldLink RX12 204 "WalkedRoundsModel" "message" "J" ∈ KW := kw_of (i := 803) (by decide +kernel) rfl
set_option maxRecDepth 20000 in
theorem kw_804 : Cond.fieldLink RX12 84 "WalkedRoundsModel" "newStates" "[J" ∈ KW := kw_of (i := 804) (by decide +kernel) rfl
set_option maxRecDepth 20000 in
theorem kw_805 : Cond.fieldLink RX12 87 "WalkedRoundsModel" "newAwake" "[Z" ∈ KW := kw_of (i := 805) (by decide +kernel) rfl
set_option maxRecDepth 20000 in
theorem kw_806 : Cond.fieldLink RX12 90 "WalkedRoundsModel" "beforeStates" "[J" ∈ KW := kw_of (i := 806) (by decide +kernel) rfl
set_option maxRecDepth 20000 in
theorem kw_807 : Cond.fieldLink RX12 93 "WalkedRoundsModel" "beforeAwake" "[Z" ∈ KW := kw_of (i := 807) (by decide +kernel) rfl
set_option maxRecDepth 20000 in
theorem kw_808 : Cond.fieldLink RX12 249 "WalkedRoundsModel" "waiting" "I" ∈ KW := kw_of (i := 808) (by decide +kernel) rfl
set_option maxRecDepth 20000 in
theorem kw_809 : Cond.fieldLink RX12 96 "WalkedRoundsModel" "lineArcs" "[I" ∈ KW := kw_of (i := 809) (by decide +kernel) rfl
set_option maxRecDepth 20000 in
theorem kw_810 : Cond.fieldLink RX12 99 "WalkedRoundsModel" "line" "[J" ∈ KW := kw_of (i := 810) (by decide +kernel) rfl
set_option maxRecDepth 20000 in
theorem kw_811 : Cond.fieldLink RX12 102 "WalkedRoundsModel" "takenStates" "[J" ∈ KW := kw_of (i := 811) (by decide +kernel) rfl
set_option maxRecDepth 20000 in
theorem kw_923 : Cond.methodLink RX12 112 yX12_in ∈ KW := kw_of (i := 923) (by decide +kernel) rfl
set_option maxRecDepth 20000 in
theorem kw_924 : Cond.static yX12_in ∈ KW := kw_of (i := 924) (by decide +kernel) rfl
set_option maxRecDepth 20000 in
theorem kw_925 : Cond.code yX12_in cX12_in 3 (some .boolean) ∈ KW := kw_of (i := 925) rfl rfl
set_option maxRecDepth 20000 in
theorem kw_926 : Cond.methodLink RX12 122 yX12_isTerm ∈ KW := kw_of (i := 926) (by decide +kernel) rfl
set_option maxRecDepth 20000 in
theorem kw_928 : Cond.instanceMethod yX12_isTerm ∈ KW := kw_of (i := 928) (by decide +kernel) rfl
set_option maxRecDepth 20000 in
theorem kw_929 : Cond.code yX12_isTerm cX12_isTerm 2 (some .boolean) ∈ KW := kw_of (i := 929) rfl rfl
set_option maxRecDepth 20000 in
theorem kw_930 : Cond.constantLong RX12 126 2 ∈ KW := kw_of (i := 930) (by decide +kernel) rfl
set_option maxRecDepth 20000 in
theorem kw_939 : Cond.methodLink RX12 131 yX12_isNode ∈ KW := kw_of (i := 939) (by decide +kernel) rfl
set_option maxRecDepth 20000 in
theorem kw_941 : Cond.instanceMethod yX12_isNode ∈ KW := kw_of (i := 941) (by decide +kernel) rfl
set_option maxRecDepth 20000 in
theorem kw_942 : Cond.code yX12_isNode cX12_isNode 2 (some .boolean) ∈ KW := kw_of (i := 942) rfl rfl
set_option maxRecDepth 20000 in
theorem kw_963 : Cond.methodLink RX12 258 yX12_walk ∈ KW := kw_of (i := 963) (by decide +kernel) rfl
set_option maxRecDepth 20000 in
theorem kw_965 : Cond.instanceMethod yX12_walk ∈ KW := kw_of (i := 965) (by decide +kernel) rfl
set_option maxRecDepth 20000 in
theorem kw_966 : Cond.code yX12_walk cX12_walk 3 (some .int) ∈ KW := kw_of (i := 966) rfl rfl
set_option maxRecDepth 20000 in
theorem kw_967 : Cond.methodLink RX12 227 yX12_remember ∈ KW := kw_of (i := 967) (by decide +kernel) rfl
set_option maxRecDepth 20000 in
theorem kw_969 : Cond.instanceMethod yX12_remember ∈ KW := kw_of (i := 969) (by decide +kernel) rfl
set_option maxRecDepth 20000 in
theorem kw_970 : Cond.code yX12_remember cX12_remember 2 none ∈ KW := kw_of (i := 970) rfl rfl
set_option maxRecDepth 20000 in
theorem kw_971 : Cond.methodLink RX12 210 yX12_isFailed ∈ KW := kw_of (i := 971) (by decide +kernel) rfl
set_option maxRecDepth 20000 in
theorem kw_973 : Cond.instanceMethod yX12_isFailed ∈ KW := kw_of (i := 973) (by decide +kernel) rfl
set_option maxRecDepth 20000 in
theorem kw_974 : Cond.code yX12_isFailed cX12_isFailed 1 (some .boolean) ∈ KW := kw_of (i := 974) rfl rfl
set_option maxRecDepth 20000 in
theorem kw_975 : Cond.methodLink RX12 252 yX12_sendsOn ∈ KW := kw_of (i := 975) (by decide +kernel) rfl
set_option maxRecDepth 20000 in
theorem kw_977 : Cond.instanceMethod yX12_sendsOn ∈ KW := kw_of (i := 977) (by decide +kernel) rfl
set_option maxRecDepth 20000 in
theorem kw_978 : Cond.code yX12_sendsOn cX12_sendsOn 3 none ∈ KW := kw_of (i := 978) rfl rfl
set_option maxRecDepth 20000 in
theorem kw_979 : Cond.methodLink RX12 207 yX12_askArc ∈ KW := kw_of (i := 979) (by decide +kernel) rfl
set_option maxRecDepth 20000 in
theorem kw_981 : Cond.instanceMethod yX12_askArc ∈ KW := kw_of (i := 981) (by decide +kernel) rfl
set_option maxRecDepth 20000 in
theorem kw_982 : Cond.code yX12_askArc cX12_askArc 2 none ∈ KW := kw_of (i := 982) rfl rfl
set_option maxRecDepth 20000 in
theorem kw_983 : Cond.methodLink RX12 201 yX12_does ∈ KW := kw_of (i := 983) (by decide +kernel) rfl
set_option maxRecDepth 20000 in
theorem kw_985 : Cond.instanceMethod yX12_does ∈ KW := kw_of (i := 985) (by decide +kernel) rfl
set_option maxRecDepth 20000 in
theorem kw_986 : Cond.code yX12_does cX12_does 5 (some .boolean) ∈ KW := kw_of (i := 986) rfl rfl
set_option maxRecDepth 20000 in
theorem kw_987 : Cond.methodLink RX12 189 yX12_asked ∈ KW := kw_of (i := 987) (by decide +kernel) rfl
set_option maxRecDepth 20000 in
theorem kw_989 : Cond.instanceMethod yX12_asked ∈ KW := kw_of (i := 989) (by decide +kernel) rfl
set_option maxRecDepth 20000 in
theorem kw_990 : Cond.code yX12_asked cX12_asked 6 (some .int) ∈ KW := kw_of (i := 990) rfl rfl
set_option maxRecDepth 20000 in
theorem kw_991 : Cond.methodLink RX12 149 yX12_push ∈ KW := kw_of (i := 991) (by decide +kernel) rfl
set_option maxRecDepth 20000 in
theorem kw_993 : Cond.instanceMethod yX12_push ∈ KW := kw_of (i := 993) (by decide +kernel) rfl
set_option maxRecDepth 20000 in
theorem kw_994 : Cond.code yX12_push cX12_push 2 none ∈ KW := kw_of (i := 994) rfl rfl
set_option maxRecDepth 20000 in
theorem kw_995 : Cond.methodLink RX12 153 yX12_begins ∈ KW := kw_of (i := 995) (by decide +kernel) rfl
set_option maxRecDepth 20000 in
theorem kw_997 : Cond.instanceMethod yX12_begins ∈ KW := kw_of (i := 997) (by decide +kernel) rfl
set_option maxRecDepth 20000 in
theorem kw_998 : Cond.code yX12_begins cX12_begins 3 (some .boolean) ∈ KW := kw_of (i := 998) rfl rfl
set_option maxRecDepth 20000 in
theorem kw_999 : Cond.methodLink RX12 178 yX12_arcsFrom ∈ KW := kw_of (i := 999) (by decide +kernel) rfl
set_option maxRecDepth 20000 in
theorem kw_1001 : Cond.instanceMethod yX12_arcsFrom ∈ KW := kw_of (i := 1001) (by decide +kernel) rfl
set_option maxRecDepth 20000 in
theorem kw_1002 : Cond.code yX12_arcsFrom cX12_arcsFrom 4 (some .int) ∈ KW := kw_of (i := 1002) rfl rfl
set_option maxRecDepth 20000 in
theorem kw_1003 : Cond.methodLink RX12 156 yX12_goesOn ∈ KW := kw_of (i := 1003) (by decide +kernel) rfl
set_option maxRecDepth 20000 in
theorem kw_1005 : Cond.instanceMethod yX12_goesOn ∈ KW := kw_of (i := 1005) (by decide +kernel) rfl
set_option maxRecDepth 20000 in
theorem kw_1006 : Cond.code yX12_goesOn cX12_goesOn 5 (some .boolean) ∈ KW := kw_of (i := 1006) rfl rfl
set_option maxRecDepth 20000 in
theorem kw_1007 : Cond.methodLink RX12 185 yX12_joined ∈ KW := kw_of (i := 1007) (by decide +kernel) rfl
set_option maxRecDepth 20000 in
theorem kw_1009 : Cond.instanceMethod yX12_joined ∈ KW := kw_of (i := 1009) (by decide +kernel) rfl
set_option maxRecDepth 20000 in
theorem kw_1010 : Cond.code yX12_joined cX12_joined 6 (some .long) ∈ KW := kw_of (i := 1010) rfl rfl
set_option maxRecDepth 20000 in
theorem kw_1011 : Cond.methodLink RX12 193 yX12_note ∈ KW := kw_of (i := 1011) (by decide +kernel) rfl
set_option maxRecDepth 20000 in
theorem kw_1013 : Cond.instanceMethod yX12_note ∈ KW := kw_of (i := 1013) (by decide +kernel) rfl
set_option maxRecDepth 20000 in
theorem kw_1014 : Cond.code yX12_note cX12_note 5 none ∈ KW := kw_of (i := 1014) rfl rfl
set_option maxRecDepth 20000 in
theorem kw_1015 : Cond.methodLink RX12 255 yX12_takes ∈ KW := kw_of (i := 1015) (by decide +kernel) rfl
set_option maxRecDepth 20000 in
theorem kw_1017 : Cond.instanceMethod yX12_takes ∈ KW := kw_of (i := 1017) (by decide +kernel) rfl
set_option maxRecDepth 20000 in
theorem kw_1018 : Cond.code yX12_takes cX12_takes 8 (some .boolean) ∈ KW := kw_of (i := 1018) rfl rfl
set_option maxRecDepth 20000 in
theorem kw_1019 : Cond.methodLink RX12 242 yX12_keep ∈ KW := kw_of (i := 1019) (by decide +kernel) rfl
set_option maxRecDepth 20000 in
theorem kw_1021 : Cond.instanceMethod yX12_keep ∈ KW := kw_of (i := 1021) (by decide +kernel) rfl
set_option maxRecDepth 20000 in
theorem kw_1022 : Cond.code yX12_keep cX12_keep 6 none ∈ KW := kw_of (i := 1022) rfl rfl
set_option maxRecDepth 20000 in
theorem kw_1023 : Cond.methodLink RX12 261 yX12_isAnyAwake ∈ KW := kw_of (i := 1023) (by decide +kernel) rfl
set_option maxRecDepth 20000 in
theorem kw_1025 : Cond.instanceMethod yX12_isAnyAwake ∈ KW := kw_of (i := 1025) (by decide +kernel) rfl
set_option maxRecDepth 20000 in
theorem kw_1026 : Cond.code yX12_isAnyAwake cX12_isAnyAwake 3 (some .boolean) ∈ KW := kw_of (i := 1026) rfl rfl
set_option maxRecDepth 20000 in
theorem kw_1027 : Cond.methodLink RX12 264 yX12_round ∈ KW := kw_of (i := 1027) (by decide +kernel) rfl
set_option maxRecDepth 20000 in
theorem kw_1029 : Cond.instanceMethod yX12_round ∈ KW := kw_of (i := 1029) (by decide +kernel) rfl
set_option maxRecDepth 20000 in
theorem kw_1030 : Cond.code yX12_round cX12_round 5 (some .boolean) ∈ KW := kw_of (i := 1030) rfl rfl
set_option maxRecDepth 20000 in
theorem kw_1031 : Cond.methodLink RX12 230 yX12_sendAll ∈ KW := kw_of (i := 1031) (by decide +kernel) rfl
set_option maxRecDepth 20000 in
theorem kw_1033 : Cond.instanceMethod yX12_sendAll ∈ KW := kw_of (i := 1033) (by decide +kernel) rfl
set_option maxRecDepth 20000 in
theorem kw_1034 : Cond.code yX12_sendAll cX12_sendAll 5 none ∈ KW := kw_of (i := 1034) rfl rfl
set_option maxRecDepth 20000 in
theorem kw_1035 : Cond.methodLink RX12 217 yX12_sendAlong ∈ KW := kw_of (i := 1035) (by decide +kernel) rfl
set_option maxRecDepth 20000 in
theorem kw_1037 : Cond.instanceMethod yX12_sendAlong ∈ KW := kw_of (i := 1037) (by decide +kernel) rfl
set_option maxRecDepth 20000 in
theorem kw_1038 : Cond.code yX12_sendAlong cX12_sendAlong 2 none ∈ KW := kw_of (i := 1038) rfl rfl
set_option maxRecDepth 20000 in
theorem kw_1039 : Cond.methodLink RX12 233 yX12_isReached ∈ KW := kw_of (i := 1039) (by decide +kernel) rfl
set_option maxRecDepth 20000 in
theorem kw_1041 : Cond.instanceMethod yX12_isReached ∈ KW := kw_of (i := 1041) (by decide +kernel) rfl
set_option maxRecDepth 20000 in
theorem kw_1042 : Cond.code yX12_isReached cX12_isReached 4 (some .boolean) ∈ KW := kw_of (i := 1042) rfl rfl
set_option maxRecDepth 20000 in
theorem kw_1043 : Cond.methodLink RX12 236 yX12_renew ∈ KW := kw_of (i := 1043) (by decide +kernel) rfl
set_option maxRecDepth 20000 in
theorem kw_1045 : Cond.instanceMethod yX12_renew ∈ KW := kw_of (i := 1045) (by decide +kernel) rfl
set_option maxRecDepth 20000 in
theorem kw_1046 : Cond.code yX12_renew cX12_renew 3 none ∈ KW := kw_of (i := 1046) rfl rfl
set_option maxRecDepth 20000 in
theorem kw_1047 : Cond.methodLink RX12 224 yX12_foldFor ∈ KW := kw_of (i := 1047) (by decide +kernel) rfl
set_option maxRecDepth 20000 in
theorem kw_1049 : Cond.instanceMethod yX12_foldFor ∈ KW := kw_of (i := 1049) (by decide +kernel) rfl
set_option maxRecDepth 20000 in
theorem kw_1050 : Cond.code yX12_foldFor cX12_foldFor 5 none ∈ KW := kw_of (i := 1050) rfl rfl
set_option maxRecDepth 20000 in
theorem kw_1051 : Cond.methodLink RX12 220 yX12_isOver ∈ KW := kw_of (i := 1051) (by decide +kernel) rfl
set_option maxRecDepth 20000 in
theorem kw_1053 : Cond.instanceMethod yX12_isOver ∈ KW := kw_of (i := 1053) (by decide +kernel) rfl
set_option maxRecDepth 20000 in
theorem kw_1054 : Cond.code yX12_isOver cX12_isOver 7 (some .boolean) ∈ KW := kw_of (i := 1054) rfl rfl
set_option maxRecDepth 20000 in
theorem kw_1055 : Cond.methodLink RX12 239 yX12_asBefore ∈ KW := kw_of (i := 1055) (by decide +kernel) rfl
set_option maxRecDepth 20000 in
theorem kw_1057 : Cond.instanceMethod yX12_asBefore ∈ KW := kw_of (i := 1057) (by decide +kernel) rfl
set_option maxRecDepth 20000 in
theorem kw_1058 : Cond.code yX12_asBefore cX12_asBefore 2 none ∈ KW := kw_of (i := 1058) rfl rfl
set_option maxRecDepth 20000 in
theorem kw_1071 : Cond.methodLink RX12 270 yX12_isArc ∈ KW := kw_of (i := 1071) (by decide +kernel) rfl
set_option maxRecDepth 20000 in
theorem kw_1073 : Cond.instanceMethod yX12_isArc ∈ KW := kw_of (i := 1073) (by decide +kernel) rfl
set_option maxRecDepth 20000 in
theorem kw_1074 : Cond.code yX12_isArc cX12_isArc 2 (some .boolean) ∈ KW := kw_of (i := 1074) rfl rfl
set_option maxRecDepth 20000 in
theorem kw_1075 : Cond.constantLong RX12 273 (-101) ∈ KW := kw_of (i := 1075) (by decide +kernel) rfl
set_option maxRecDepth 20000 in
theorem kw_1084 : Cond.constantLong RX12 275 (-102) ∈ KW := kw_of (i := 1084) (by decide +kernel) rfl
set_option maxRecDepth 20000 in
theorem inK_X0 : ∀ w ∈ u_ws RX0 TX0 4, w ∈ KW := kw_all [317, 319, 321, 323] (by decide +kernel) (by decide +kernel)
set_option maxRecDepth 20000 in
theorem inK_X1 : ∀ w ∈ u_ws RX1 TX1 7, w ∈ KW := kw_all [285, 287, 289, 291, 293, 295, 297] (by decide +kernel) (by decide +kernel)
set_option maxRecDepth 20000 in
theorem inK_X2 : ∀ w ∈ u_ws RX2 TX2 5, w ∈ KW := kw_all [202, 204, 206, 208, 210] (by decide +kernel) (by decide +kernel)
set_option maxRecDepth 20000 in
theorem inK_X3 : ∀ w ∈ u_ws RX3 TX3 11, w ∈ KW := kw_all [386, 388, 390, 392, 394, 396, 398, 400, 402, 404, 406] (by decide +kernel) (by decide +kernel)
set_option maxRecDepth 20000 in
theorem inK_X4 : ∀ w ∈ u_ws RX4 TX4 4, w ∈ KW := kw_all [230, 232, 234, 236] (by decide +kernel) (by decide +kernel)
set_option maxRecDepth 20000 in
theorem inK_X5 : ∀ w ∈ u_ws RX5 TX5 3, w ∈ KW := kw_all [243, 245, 247] (by decide +kernel) (by decide +kernel)
set_option maxRecDepth 20000 in
theorem inK_X6 : ∀ w ∈ u_ws RX6 TX6 2, w ∈ KW := kw_all [186, 188] (by decide +kernel) (by decide +kernel)
set_option maxRecDepth 20000 in
theorem inK_X7 : ∀ w ∈ u_ws RX7 TX7 12, w ∈ KW := kw_all [344, 346, 348, 350, 352, 354, 356, 358, 360, 362, 364, 366] (by decide +kernel) (by decide +kernel)
set_option maxRecDepth 20000 in
theorem inK_X8 : ∀ w ∈ u_ws RX8 TX8 6, w ∈ KW := kw_all [93, 95, 97, 99, 101, 103] (by decide +kernel) (by decide +kernel)
set_option maxRecDepth 20000 in
theorem inK_X9 : ∀ w ∈ u_ws RX9 TX9 3, w ∈ KW := kw_all [262, 264, 266] (by decide +kernel) (by decide +kernel)
set_option maxRecDepth 20000 in
theorem inK_X10 : ∀ w ∈ u_ws RX10 TX10 10, w ∈ KW := kw_all [153, 155, 157, 159, 161, 163, 165, 167, 169, 171] (by decide +kernel) (by decide +kernel)
set_option maxRecDepth 20000 in
theorem inK_X11 : ∀ w ∈ u_ws RX11 TX11 11, w ∈ KW := kw_all [420, 422, 424, 426, 428, 430, 432, 434, 436, 438, 440] (by decide +kernel) (by decide +kernel)
set_option maxRecDepth 20000 in
theorem inK_X12 : ∀ w ∈ u_ws RX12 TX12 53, w ∈ KW := kw_all [812, 814, 816, 818, 820, 822, 824, 826, 828, 830, 832, 834, 836, 838, 840, 842, 844, 846, 848, 850, 852, 854, 856, 858, 860, 862, 864, 866, 868, 870, 872, 874, 876, 878, 880, 882, 884, 886, 888, 890, 892, 894, 896, 898, 900, 902, 904, 906, 908, 910, 912, 914, 916] (by decide +kernel) (by decide +kernel)

set_option maxRecDepth 100000 in
theorem wd_1078 : Cond.classLink RL 7 RX11 ∈ gW := gWi (tb_1 (List.mem_of_getElem? (i := 19) rfl)) rfl
set_option maxRecDepth 100000 in
theorem wd_1079 : Cond.instantiable RX11 13 ∈ gW := gWi (tb_1 (List.mem_of_getElem? (i := 20) rfl)) rfl
theorem dvX11 : ∀ j, j < 13 → defaultValue (tyX11 j) = vp_V [.null, .null, .null, .null, .null, .null, .null, .null, .null, .null, .null, .null, .int 0] j := by
  intro j hj
  match j, hj with
  | 0, _ => rfl
  | 1, _ => rfl
  | 2, _ => rfl
  | 3, _ => rfl
  | 4, _ => rfl
  | 5, _ => rfl
  | 6, _ => rfl
  | 7, _ => rfl
  | 8, _ => rfl
  | 9, _ => rfl
  | 10, _ => rfl
  | 11, _ => rfl
  | 12, _ => rfl
  | j + 13, h => exact absurd h (by omega)
set_option maxRecDepth 100000 in
theorem wd_1080 : Cond.code yX11_init cX11_init 1 none ∈ gW := gWi (tb_1 (List.mem_of_getElem? (i := 23) rfl)) rfl
set_option maxRecDepth 100000 in
theorem wd_1081 : Cond.methodLink RL 9 yX11_init ∈ gW := gWi (tb_1 (List.mem_of_getElem? (i := 21) rfl)) rfl
set_option maxRecDepth 100000 in
theorem wd_1082 : Cond.instanceMethod yX11_init ∈ gW := gWi (tb_1 (List.mem_of_getElem? (i := 22) rfl)) rfl
set_option maxRecDepth 100000 in
theorem wd_1083 : Cond.classLink RL 10 RX12 ∈ gW := gWi (tb_5 (List.mem_of_getElem? (i := 80) rfl)) rfl
set_option maxRecDepth 100000 in
theorem wd_1084 : Cond.instantiable RX12 90 ∈ gW := gWi (tb_5 (List.mem_of_getElem? (i := 81) rfl)) rfl
theorem dvX12 : ∀ j, j < 90 → defaultValue (tyX12 j) = vp_V [.int 0, .int 0, .null, .null, .int 0, .int 0, .null, .null, .null, .null, .null, .null, .null, .null, .null, .null, .null, .null, .null, .null, .null, .int 0, .int 0, .int 0, .int 0, .null, .null, .null, .null, .long 0, .int 0, .null, .null, .null, .null, .null, .null, .null, .int 0, .null, .null, .null, .null, .int 0, .null, .null, .int 0, .int 0, .null, .null, .null, .null, .null, .int 0, .null, .null, .null, .int 0, .null, .null, .null, .null, .null, .null, .null, .null, .null, .long 0, .null, .null, .int 0, .null, .int 0, .null, .null, .null, .null, .null, .null, .null, .null, .null, .null, .int 0, .null, .null, .null, .null, .int 0, .int 0] j := by
  intro j hj
  match j, hj with
  | 0, _ => rfl
  | 1, _ => rfl
  | 2, _ => rfl
  | 3, _ => rfl
  | 4, _ => rfl
  | 5, _ => rfl
  | 6, _ => rfl
  | 7, _ => rfl
  | 8, _ => rfl
  | 9, _ => rfl
  | 10, _ => rfl
  | 11, _ => rfl
  | 12, _ => rfl
  | 13, _ => rfl
  | 14, _ => rfl
  | 15, _ => rfl
  | 16, _ => rfl
  | 17, _ => rfl
  | 18, _ => rfl
  | 19, _ => rfl
  | 20, _ => rfl
  | 21, _ => rfl
  | 22, _ => rfl
  | 23, _ => rfl
  | 24, _ => rfl
  | 25, _ => rfl
  | 26, _ => rfl
  | 27, _ => rfl
  | 28, _ => rfl
  | 29, _ => rfl
  | 30, _ => rfl
  | 31, _ => rfl
  | 32, _ => rfl
  | 33, _ => rfl
  | 34, _ => rfl
  | 35, _ => rfl
  | 36, _ => rfl
  | 37, _ => rfl
  | 38, _ => rfl
  | 39, _ => rfl
  | 40, _ => rfl
  | 41, _ => rfl
  | 42, _ => rfl
  | 43, _ => rfl
  | 44, _ => rfl
  | 45, _ => rfl
  | 46, _ => rfl
  | 47, _ => rfl
  | 48, _ => rfl
  | 49, _ => rfl
  | 50, _ => rfl
  | 51, _ => rfl
  | 52, _ => rfl
  | 53, _ => rfl
  | 54, _ => rfl
  | 55, _ => rfl
  | 56, _ => rfl
  | 57, _ => rfl
  | 58, _ => rfl
  | 59, _ => rfl
  | 60, _ => rfl
  | 61, _ => rfl
  | 62, _ => rfl
  | 63, _ => rfl
  | 64, _ => rfl
  | 65, _ => rfl
  | 66, _ => rfl
  | 67, _ => rfl
  | 68, _ => rfl
  | 69, _ => rfl
  | 70, _ => rfl
  | 71, _ => rfl
  | 72, _ => rfl
  | 73, _ => rfl
  | 74, _ => rfl
  | 75, _ => rfl
  | 76, _ => rfl
  | 77, _ => rfl
  | 78, _ => rfl
  | 79, _ => rfl
  | 80, _ => rfl
  | 81, _ => rfl
  | 82, _ => rfl
  | 83, _ => rfl
  | 84, _ => rfl
  | 85, _ => rfl
  | 86, _ => rfl
  | 87, _ => rfl
  | 88, _ => rfl
  | 89, _ => rfl
  | j + 90, h => exact absurd h (by omega)
set_option maxRecDepth 100000 in
theorem wd_1085 : Cond.code yX12_init cX12_init 2 none ∈ gW := gWi (tb_5 (List.mem_of_getElem? (i := 84) rfl)) rfl
set_option maxRecDepth 100000 in
theorem wd_1086 : Cond.methodLink RL 12 yX12_init ∈ gW := gWi (tb_5 (List.mem_of_getElem? (i := 82) rfl)) rfl
set_option maxRecDepth 100000 in
theorem wd_1087 : Cond.instanceMethod yX12_init ∈ gW := gWi (tb_5 (List.mem_of_getElem? (i := 83) rfl)) rfl
set_option maxRecDepth 100000 in
theorem wd_1088 : Cond.code yX11_see cX11_see 4 (some .boolean) ∈ gW := gWi (tb_2 (List.mem_of_getElem? (i := 42) rfl)) rfl
set_option maxRecDepth 100000 in
theorem wd_1089 : Cond.methodLink RL 13 yX11_see ∈ gW := gWi (tb_2 (List.mem_of_getElem? (i := 39) rfl)) rfl
set_option maxRecDepth 100000 in
theorem wd_1090 : Cond.instanceMethod yX11_see ∈ gW := gWi (tb_2 (List.mem_of_getElem? (i := 40) rfl)) rfl
set_option maxRecDepth 100000 in
theorem wd_1091 : Cond.selects RX11 yX11_see yX11_see ∈ gW := gWi (tb_2 (List.mem_of_getElem? (i := 41) rfl)) rfl
set_option maxRecDepth 100000 in
theorem wd_1092 : Cond.code yX12_see cX12_see 4 (some .boolean) ∈ gW := gWi (tb_6 (List.mem_of_getElem? (i := 132) rfl)) rfl
set_option maxRecDepth 100000 in
theorem wd_1093 : Cond.methodLink RL 17 yX12_see ∈ gW := gWi (tb_6 (List.mem_of_getElem? (i := 129) rfl)) rfl
set_option maxRecDepth 100000 in
theorem wd_1094 : Cond.instanceMethod yX12_see ∈ gW := gWi (tb_6 (List.mem_of_getElem? (i := 130) rfl)) rfl
set_option maxRecDepth 100000 in
theorem wd_1095 : Cond.selects RX12 yX12_see yX12_see ∈ gW := gWi (tb_6 (List.mem_of_getElem? (i := 131) rfl)) rfl
set_option maxRecDepth 100000 in
theorem wd_1096 : Cond.code yX11_seen cX11_seen 3 (some .int) ∈ gW := gWi (tb_2 (List.mem_of_getElem? (i := 58) rfl)) rfl
set_option maxRecDepth 100000 in
theorem wd_1097 : Cond.methodLink RL 18 yX11_seen ∈ gW := gWi (tb_2 (List.mem_of_getElem? (i := 55) rfl)) rfl
set_option maxRecDepth 100000 in
theorem wd_1098 : Cond.instanceMethod yX11_seen ∈ gW := gWi (tb_2 (List.mem_of_getElem? (i := 56) rfl)) rfl
set_option maxRecDepth 100000 in
theorem wd_1099 : Cond.selects RX11 yX11_seen yX11_seen ∈ gW := gWi (tb_2 (List.mem_of_getElem? (i := 57) rfl)) rfl
set_option maxRecDepth 100000 in
theorem wd_1100 : Cond.code yX12_seen cX12_seen 3 (some .int) ∈ gW := gWi (tb_6 (List.mem_of_getElem? (i := 142) rfl)) rfl
set_option maxRecDepth 100000 in
theorem wd_1101 : Cond.methodLink RL 22 yX12_seen ∈ gW := gWi (tb_6 (List.mem_of_getElem? (i := 139) rfl)) rfl
set_option maxRecDepth 100000 in
theorem wd_1102 : Cond.instanceMethod yX12_seen ∈ gW := gWi (tb_6 (List.mem_of_getElem? (i := 140) rfl)) rfl
set_option maxRecDepth 100000 in
theorem wd_1103 : Cond.selects RX12 yX12_seen yX12_seen ∈ gW := gWi (tb_6 (List.mem_of_getElem? (i := 141) rfl)) rfl
set_option maxRecDepth 100000 in
theorem wd_1104 : Cond.code yX11_feed cX11_feed 6 (some .int) ∈ gW := gWi (tb_2 (List.mem_of_getElem? (i := 63) rfl)) rfl
set_option maxRecDepth 100000 in
theorem wd_1105 : Cond.methodLink RL 23 yX11_feed ∈ gW := gWi (tb_2 (List.mem_of_getElem? (i := 60) rfl)) rfl
set_option maxRecDepth 100000 in
theorem wd_1106 : Cond.instanceMethod yX11_feed ∈ gW := gWi (tb_2 (List.mem_of_getElem? (i := 61) rfl)) rfl
set_option maxRecDepth 100000 in
theorem wd_1107 : Cond.selects RX11 yX11_feed yX11_feed ∈ gW := gWi (tb_2 (List.mem_of_getElem? (i := 62) rfl)) rfl
set_option maxRecDepth 100000 in
theorem wd_1108 : Cond.code yX12_feed cX12_feed 6 (some .int) ∈ gW := gWi (tb_6 (List.mem_of_getElem? (i := 151) rfl)) rfl
set_option maxRecDepth 100000 in
theorem wd_1109 : Cond.methodLink RL 27 yX12_feed ∈ gW := gWi (tb_6 (List.mem_of_getElem? (i := 148) rfl)) rfl
set_option maxRecDepth 100000 in
theorem wd_1110 : Cond.instanceMethod yX12_feed ∈ gW := gWi (tb_6 (List.mem_of_getElem? (i := 149) rfl)) rfl
set_option maxRecDepth 100000 in
theorem wd_1111 : Cond.selects RX12 yX12_feed yX12_feed ∈ gW := gWi (tb_6 (List.mem_of_getElem? (i := 150) rfl)) rfl
set_option maxRecDepth 100000 in
theorem wd_1112 : Cond.code yX11_end cX11_end 2 (some .int) ∈ gW := gWi (tb_2 (List.mem_of_getElem? (i := 79) rfl)) rfl
set_option maxRecDepth 100000 in
theorem wd_1113 : Cond.methodLink RL 28 yX11_end ∈ gW := gWi (tb_2 (List.mem_of_getElem? (i := 76) rfl)) rfl
set_option maxRecDepth 100000 in
theorem wd_1114 : Cond.instanceMethod yX11_end ∈ gW := gWi (tb_2 (List.mem_of_getElem? (i := 77) rfl)) rfl
set_option maxRecDepth 100000 in
theorem wd_1115 : Cond.selects RX11 yX11_end yX11_end ∈ gW := gWi (tb_2 (List.mem_of_getElem? (i := 78) rfl)) rfl
set_option maxRecDepth 100000 in
theorem wd_1116 : Cond.code yX12_end cX12_end 2 (some .int) ∈ gW := gWi (tb_6 (List.mem_of_getElem? (i := 159) rfl)) rfl
set_option maxRecDepth 100000 in
theorem wd_1117 : Cond.methodLink RL 32 yX12_end ∈ gW := gWi (tb_6 (List.mem_of_getElem? (i := 156) rfl)) rfl
set_option maxRecDepth 100000 in
theorem wd_1118 : Cond.instanceMethod yX12_end ∈ gW := gWi (tb_6 (List.mem_of_getElem? (i := 157) rfl)) rfl
set_option maxRecDepth 100000 in
theorem wd_1119 : Cond.selects RX12 yX12_end yX12_end ∈ gW := gWi (tb_6 (List.mem_of_getElem? (i := 158) rfl)) rfl
set_option maxRecDepth 100000 in
theorem wd_1120 : Cond.code yX11_form cX11_form 2 (some .int) ∈ gW := gWi (tb_2 (List.mem_of_getElem? (i := 87) rfl)) rfl
set_option maxRecDepth 100000 in
theorem wd_1121 : Cond.methodLink RL 33 yX11_form ∈ gW := gWi (tb_2 (List.mem_of_getElem? (i := 84) rfl)) rfl
set_option maxRecDepth 100000 in
theorem wd_1122 : Cond.instanceMethod yX11_form ∈ gW := gWi (tb_2 (List.mem_of_getElem? (i := 85) rfl)) rfl
set_option maxRecDepth 100000 in
theorem wd_1123 : Cond.selects RX11 yX11_form yX11_form ∈ gW := gWi (tb_2 (List.mem_of_getElem? (i := 86) rfl)) rfl
set_option maxRecDepth 100000 in
theorem wd_1124 : Cond.code yX12_form cX12_form 2 (some .int) ∈ gW := gWi (tb_6 (List.mem_of_getElem? (i := 163) rfl)) rfl
set_option maxRecDepth 100000 in
theorem wd_1125 : Cond.methodLink RL 37 yX12_form ∈ gW := gWi (tb_6 (List.mem_of_getElem? (i := 160) rfl)) rfl
set_option maxRecDepth 100000 in
theorem wd_1126 : Cond.instanceMethod yX12_form ∈ gW := gWi (tb_6 (List.mem_of_getElem? (i := 161) rfl)) rfl
set_option maxRecDepth 100000 in
theorem wd_1127 : Cond.selects RX12 yX12_form yX12_form ∈ gW := gWi (tb_6 (List.mem_of_getElem? (i := 162) rfl)) rfl
set_option maxRecDepth 100000 in
theorem wd_1128 : Cond.code yX11_word cX11_word 5 (some .int) ∈ gW := gWi (tb_3 (List.mem_of_getElem? (i := 36) rfl)) rfl
set_option maxRecDepth 100000 in
theorem wd_1129 : Cond.methodLink RL 38 yX11_word ∈ gW := gWi (tb_3 (List.mem_of_getElem? (i := 33) rfl)) rfl
set_option maxRecDepth 100000 in
theorem wd_1130 : Cond.instanceMethod yX11_word ∈ gW := gWi (tb_3 (List.mem_of_getElem? (i := 34) rfl)) rfl
set_option maxRecDepth 100000 in
theorem wd_1131 : Cond.selects RX11 yX11_word yX11_word ∈ gW := gWi (tb_3 (List.mem_of_getElem? (i := 35) rfl)) rfl
set_option maxRecDepth 100000 in
theorem wd_1132 : Cond.code yX12_word cX12_word 5 (some .int) ∈ gW := gWi (tb_6 (List.mem_of_getElem? (i := 226) rfl)) rfl
set_option maxRecDepth 100000 in
theorem wd_1133 : Cond.methodLink RL 42 yX12_word ∈ gW := gWi (tb_6 (List.mem_of_getElem? (i := 223) rfl)) rfl
set_option maxRecDepth 100000 in
theorem wd_1134 : Cond.instanceMethod yX12_word ∈ gW := gWi (tb_6 (List.mem_of_getElem? (i := 224) rfl)) rfl
set_option maxRecDepth 100000 in
theorem wd_1135 : Cond.selects RX12 yX12_word yX12_word ∈ gW := gWi (tb_6 (List.mem_of_getElem? (i := 225) rfl)) rfl
set_option maxRecDepth 100000 in
theorem wd_1136 : Cond.code yX11_words cX11_words 3 (some .int) ∈ gW := gWi (tb_3 (List.mem_of_getElem? (i := 45) rfl)) rfl
set_option maxRecDepth 100000 in
theorem wd_1137 : Cond.methodLink RL 43 yX11_words ∈ gW := gWi (tb_3 (List.mem_of_getElem? (i := 42) rfl)) rfl
set_option maxRecDepth 100000 in
theorem wd_1138 : Cond.instanceMethod yX11_words ∈ gW := gWi (tb_3 (List.mem_of_getElem? (i := 43) rfl)) rfl
set_option maxRecDepth 100000 in
theorem wd_1139 : Cond.selects RX11 yX11_words yX11_words ∈ gW := gWi (tb_3 (List.mem_of_getElem? (i := 44) rfl)) rfl
set_option maxRecDepth 100000 in
theorem wd_1140 : Cond.code yX12_words cX12_words 2 (some .int) ∈ gW := gWi (tb_6 (List.mem_of_getElem? (i := 234) rfl)) rfl
set_option maxRecDepth 100000 in
theorem wd_1141 : Cond.methodLink RL 46 yX12_words ∈ gW := gWi (tb_6 (List.mem_of_getElem? (i := 231) rfl)) rfl
set_option maxRecDepth 100000 in
theorem wd_1142 : Cond.instanceMethod yX12_words ∈ gW := gWi (tb_6 (List.mem_of_getElem? (i := 232) rfl)) rfl
set_option maxRecDepth 100000 in
theorem wd_1143 : Cond.selects RX12 yX12_words yX12_words ∈ gW := gWi (tb_6 (List.mem_of_getElem? (i := 233) rfl)) rfl
set_option maxRecDepth 100000 in
theorem wd_1144 : Cond.code yX11_shorter cX11_shorter 3 (some .int) ∈ gW := gWi (tb_3 (List.mem_of_getElem? (i := 53) rfl)) rfl
set_option maxRecDepth 100000 in
theorem wd_1145 : Cond.methodLink RL 47 yX11_shorter ∈ gW := gWi (tb_3 (List.mem_of_getElem? (i := 50) rfl)) rfl
set_option maxRecDepth 100000 in
theorem wd_1146 : Cond.instanceMethod yX11_shorter ∈ gW := gWi (tb_3 (List.mem_of_getElem? (i := 51) rfl)) rfl
set_option maxRecDepth 100000 in
theorem wd_1147 : Cond.selects RX11 yX11_shorter yX11_shorter ∈ gW := gWi (tb_3 (List.mem_of_getElem? (i := 52) rfl)) rfl
set_option maxRecDepth 100000 in
theorem wd_1148 : Cond.code yX12_shorter cX12_shorter 2 (some .int) ∈ gW := gWi (tb_7 (List.mem_of_getElem? (i := 205) rfl)) rfl
set_option maxRecDepth 100000 in
theorem wd_1149 : Cond.methodLink RL 50 yX12_shorter ∈ gW := gWi (tb_7 (List.mem_of_getElem? (i := 202) rfl)) rfl
set_option maxRecDepth 100000 in
theorem wd_1150 : Cond.instanceMethod yX12_shorter ∈ gW := gWi (tb_7 (List.mem_of_getElem? (i := 203) rfl)) rfl
set_option maxRecDepth 100000 in
theorem wd_1151 : Cond.selects RX12 yX12_shorter yX12_shorter ∈ gW := gWi (tb_7 (List.mem_of_getElem? (i := 204) rfl)) rfl
set_option maxRecDepth 100000 in
theorem wd_1152 : Cond.code yX11_same cX11_same 5 (some .int) ∈ gW := gWi (tb_3 (List.mem_of_getElem? (i := 113) rfl)) rfl
set_option maxRecDepth 100000 in
theorem wd_1153 : Cond.methodLink RL 51 yX11_same ∈ gW := gWi (tb_3 (List.mem_of_getElem? (i := 110) rfl)) rfl
set_option maxRecDepth 100000 in
theorem wd_1154 : Cond.instanceMethod yX11_same ∈ gW := gWi (tb_3 (List.mem_of_getElem? (i := 111) rfl)) rfl
set_option maxRecDepth 100000 in
theorem wd_1155 : Cond.selects RX11 yX11_same yX11_same ∈ gW := gWi (tb_3 (List.mem_of_getElem? (i := 112) rfl)) rfl
set_option maxRecDepth 100000 in
theorem wd_1156 : Cond.code yX12_same cX12_same 9 (some .int) ∈ gW := gWi (tb_8 (List.mem_of_getElem? (i := 5) rfl)) rfl
set_option maxRecDepth 100000 in
theorem wd_1157 : Cond.methodLink RL 54 yX12_same ∈ gW := gWi (tb_8 (List.mem_of_getElem? (i := 2) rfl)) rfl
set_option maxRecDepth 100000 in
theorem wd_1158 : Cond.instanceMethod yX12_same ∈ gW := gWi (tb_8 (List.mem_of_getElem? (i := 3) rfl)) rfl
set_option maxRecDepth 100000 in
theorem wd_1159 : Cond.selects RX12 yX12_same yX12_same ∈ gW := gWi (tb_8 (List.mem_of_getElem? (i := 4) rfl)) rfl
set_option maxRecDepth 100000 in
theorem wd_1160 : Cond.code yX11_tell cX11_tell 3 (some .int) ∈ gW := gWi (tb_3 (List.mem_of_getElem? (i := 121) rfl)) rfl
set_option maxRecDepth 100000 in
theorem wd_1161 : Cond.methodLink RL 55 yX11_tell ∈ gW := gWi (tb_3 (List.mem_of_getElem? (i := 118) rfl)) rfl
set_option maxRecDepth 100000 in
theorem wd_1162 : Cond.instanceMethod yX11_tell ∈ gW := gWi (tb_3 (List.mem_of_getElem? (i := 119) rfl)) rfl
set_option maxRecDepth 100000 in
theorem wd_1163 : Cond.selects RX11 yX11_tell yX11_tell ∈ gW := gWi (tb_3 (List.mem_of_getElem? (i := 120) rfl)) rfl
set_option maxRecDepth 100000 in
theorem wd_1164 : Cond.code yX12_tell cX12_tell 4 (some .int) ∈ gW := gWi (tb_8 (List.mem_of_getElem? (i := 9) rfl)) rfl
set_option maxRecDepth 100000 in
theorem wd_1165 : Cond.methodLink RL 58 yX12_tell ∈ gW := gWi (tb_8 (List.mem_of_getElem? (i := 6) rfl)) rfl
set_option maxRecDepth 100000 in
theorem wd_1166 : Cond.instanceMethod yX12_tell ∈ gW := gWi (tb_8 (List.mem_of_getElem? (i := 7) rfl)) rfl
set_option maxRecDepth 100000 in
theorem wd_1167 : Cond.selects RX12 yX12_tell yX12_tell ∈ gW := gWi (tb_8 (List.mem_of_getElem? (i := 8) rfl)) rfl
set_option maxRecDepth 100000 in
theorem wd_1168 : Cond.code yX11_octet cX11_octet 2 (some .int) ∈ gW := gWi (tb_3 (List.mem_of_getElem? (i := 178) rfl)) rfl
set_option maxRecDepth 100000 in
theorem wd_1169 : Cond.methodLink RL 59 yX11_octet ∈ gW := gWi (tb_3 (List.mem_of_getElem? (i := 175) rfl)) rfl
set_option maxRecDepth 100000 in
theorem wd_1170 : Cond.instanceMethod yX11_octet ∈ gW := gWi (tb_3 (List.mem_of_getElem? (i := 176) rfl)) rfl
set_option maxRecDepth 100000 in
theorem wd_1171 : Cond.selects RX11 yX11_octet yX11_octet ∈ gW := gWi (tb_3 (List.mem_of_getElem? (i := 177) rfl)) rfl
set_option maxRecDepth 100000 in
theorem wd_1172 : Cond.code yX12_octet cX12_octet 2 (some .int) ∈ gW := gWi (tb_8 (List.mem_of_getElem? (i := 34) rfl)) rfl
set_option maxRecDepth 100000 in
theorem wd_1173 : Cond.methodLink RL 62 yX12_octet ∈ gW := gWi (tb_8 (List.mem_of_getElem? (i := 31) rfl)) rfl
set_option maxRecDepth 100000 in
theorem wd_1174 : Cond.instanceMethod yX12_octet ∈ gW := gWi (tb_8 (List.mem_of_getElem? (i := 32) rfl)) rfl
set_option maxRecDepth 100000 in
theorem wd_1175 : Cond.selects RX12 yX12_octet yX12_octet ∈ gW := gWi (tb_8 (List.mem_of_getElem? (i := 33) rfl)) rfl
set_option maxRecDepth 100000 in
theorem wd_1176 : Cond.code yX11_begin cX11_begin 5 (some .int) ∈ gW := gWi (tb_3 (List.mem_of_getElem? (i := 183) rfl)) rfl
set_option maxRecDepth 100000 in
theorem wd_1177 : Cond.methodLink RL 63 yX11_begin ∈ gW := gWi (tb_3 (List.mem_of_getElem? (i := 180) rfl)) rfl
set_option maxRecDepth 100000 in
theorem wd_1178 : Cond.instanceMethod yX11_begin ∈ gW := gWi (tb_3 (List.mem_of_getElem? (i := 181) rfl)) rfl
set_option maxRecDepth 100000 in
theorem wd_1179 : Cond.selects RX11 yX11_begin yX11_begin ∈ gW := gWi (tb_3 (List.mem_of_getElem? (i := 182) rfl)) rfl
set_option maxRecDepth 100000 in
theorem wd_1180 : Cond.code yX12_begin cX12_begin 4 (some .int) ∈ gW := gWi (tb_6 (List.mem_of_getElem? (i := 238) rfl)) rfl
set_option maxRecDepth 100000 in
theorem wd_1181 : Cond.methodLink RL 66 yX12_begin ∈ gW := gWi (tb_6 (List.mem_of_getElem? (i := 235) rfl)) rfl
set_option maxRecDepth 100000 in
theorem wd_1182 : Cond.instanceMethod yX12_begin ∈ gW := gWi (tb_6 (List.mem_of_getElem? (i := 236) rfl)) rfl
set_option maxRecDepth 100000 in
theorem wd_1183 : Cond.selects RX12 yX12_begin yX12_begin ∈ gW := gWi (tb_6 (List.mem_of_getElem? (i := 237) rfl)) rfl
set_option maxRecDepth 100000 in
theorem wd_1184 : Cond.code yX11_day cX11_day 3 (some .int) ∈ gW := gWi (tb_4 (List.mem_of_getElem? (i := 55) rfl)) rfl
set_option maxRecDepth 100000 in
theorem wd_1185 : Cond.methodLink RL 67 yX11_day ∈ gW := gWi (tb_4 (List.mem_of_getElem? (i := 52) rfl)) rfl
set_option maxRecDepth 100000 in
theorem wd_1186 : Cond.instanceMethod yX11_day ∈ gW := gWi (tb_4 (List.mem_of_getElem? (i := 53) rfl)) rfl
set_option maxRecDepth 100000 in
theorem wd_1187 : Cond.selects RX11 yX11_day yX11_day ∈ gW := gWi (tb_4 (List.mem_of_getElem? (i := 54) rfl)) rfl
set_option maxRecDepth 100000 in
theorem wd_1188 : Cond.code yX12_day cX12_day 10 (some .int) ∈ gW := gWi (tb_7 (List.mem_of_getElem? (i := 58) rfl)) rfl
set_option maxRecDepth 100000 in
theorem wd_1189 : Cond.methodLink RL 70 yX12_day ∈ gW := gWi (tb_7 (List.mem_of_getElem? (i := 55) rfl)) rfl
set_option maxRecDepth 100000 in
theorem wd_1190 : Cond.instanceMethod yX12_day ∈ gW := gWi (tb_7 (List.mem_of_getElem? (i := 56) rfl)) rfl
set_option maxRecDepth 100000 in
theorem wd_1191 : Cond.selects RX12 yX12_day yX12_day ∈ gW := gWi (tb_7 (List.mem_of_getElem? (i := 57) rfl)) rfl
set_option maxRecDepth 100000 in
theorem wd_1192 : Cond.code yX11_stands cX11_stands 3 (some .int) ∈ gW := gWi (tb_4 (List.mem_of_getElem? (i := 100) rfl)) rfl
set_option maxRecDepth 100000 in
theorem wd_1193 : Cond.methodLink RL 71 yX11_stands ∈ gW := gWi (tb_4 (List.mem_of_getElem? (i := 97) rfl)) rfl
set_option maxRecDepth 100000 in
theorem wd_1194 : Cond.instanceMethod yX11_stands ∈ gW := gWi (tb_4 (List.mem_of_getElem? (i := 98) rfl)) rfl
set_option maxRecDepth 100000 in
theorem wd_1195 : Cond.selects RX11 yX11_stands yX11_stands ∈ gW := gWi (tb_4 (List.mem_of_getElem? (i := 99) rfl)) rfl
set_option maxRecDepth 100000 in
theorem wd_1196 : Cond.code yX12_stands cX12_stands 2 (some .int) ∈ gW := gWi (tb_7 (List.mem_of_getElem? (i := 66) rfl)) rfl
set_option maxRecDepth 100000 in
theorem wd_1197 : Cond.methodLink RL 74 yX12_stands ∈ gW := gWi (tb_7 (List.mem_of_getElem? (i := 63) rfl)) rfl
set_option maxRecDepth 100000 in
theorem wd_1198 : Cond.instanceMethod yX12_stands ∈ gW := gWi (tb_7 (List.mem_of_getElem? (i := 64) rfl)) rfl
set_option maxRecDepth 100000 in
theorem wd_1199 : Cond.selects RX12 yX12_stands yX12_stands ∈ gW := gWi (tb_7 (List.mem_of_getElem? (i := 65) rfl)) rfl
set_option maxRecDepth 100000 in
theorem wd_1200 : Cond.code yX11_standing cX11_standing 5 (some .int) ∈ gW := gWi (tb_4 (List.mem_of_getElem? (i := 105) rfl)) rfl
set_option maxRecDepth 100000 in
theorem wd_1201 : Cond.methodLink RL 75 yX11_standing ∈ gW := gWi (tb_4 (List.mem_of_getElem? (i := 102) rfl)) rfl
set_option maxRecDepth 100000 in
theorem wd_1202 : Cond.instanceMethod yX11_standing ∈ gW := gWi (tb_4 (List.mem_of_getElem? (i := 103) rfl)) rfl
set_option maxRecDepth 100000 in
theorem wd_1203 : Cond.selects RX11 yX11_standing yX11_standing ∈ gW := gWi (tb_4 (List.mem_of_getElem? (i := 104) rfl)) rfl
set_option maxRecDepth 100000 in
theorem wd_1204 : Cond.code yX12_standing cX12_standing 5 (some .int) ∈ gW := gWi (tb_7 (List.mem_of_getElem? (i := 74) rfl)) rfl
set_option maxRecDepth 100000 in
theorem wd_1205 : Cond.methodLink RL 78 yX12_standing ∈ gW := gWi (tb_7 (List.mem_of_getElem? (i := 71) rfl)) rfl
set_option maxRecDepth 100000 in
theorem wd_1206 : Cond.instanceMethod yX12_standing ∈ gW := gWi (tb_7 (List.mem_of_getElem? (i := 72) rfl)) rfl
set_option maxRecDepth 100000 in
theorem wd_1207 : Cond.selects RX12 yX12_standing yX12_standing ∈ gW := gWi (tb_7 (List.mem_of_getElem? (i := 73) rfl)) rfl
set_option maxRecDepth 100000 in
theorem wd_1208 : Cond.code yX11_choose cX11_choose 5 (some .int) ∈ gW := gWi (tb_4 (List.mem_of_getElem? (i := 121) rfl)) rfl
set_option maxRecDepth 100000 in
theorem wd_1209 : Cond.methodLink RL 79 yX11_choose ∈ gW := gWi (tb_4 (List.mem_of_getElem? (i := 118) rfl)) rfl
set_option maxRecDepth 100000 in
theorem wd_1210 : Cond.instanceMethod yX11_choose ∈ gW := gWi (tb_4 (List.mem_of_getElem? (i := 119) rfl)) rfl
set_option maxRecDepth 100000 in
theorem wd_1211 : Cond.selects RX11 yX11_choose yX11_choose ∈ gW := gWi (tb_4 (List.mem_of_getElem? (i := 120) rfl)) rfl
set_option maxRecDepth 100000 in
theorem wd_1212 : Cond.code yX12_choose cX12_choose 9 (some .int) ∈ gW := gWi (tb_7 (List.mem_of_getElem? (i := 94) rfl)) rfl
set_option maxRecDepth 100000 in
theorem wd_1213 : Cond.methodLink RL 83 yX12_choose ∈ gW := gWi (tb_7 (List.mem_of_getElem? (i := 91) rfl)) rfl
set_option maxRecDepth 100000 in
theorem wd_1214 : Cond.instanceMethod yX12_choose ∈ gW := gWi (tb_7 (List.mem_of_getElem? (i := 92) rfl)) rfl
set_option maxRecDepth 100000 in
theorem wd_1215 : Cond.selects RX12 yX12_choose yX12_choose ∈ gW := gWi (tb_7 (List.mem_of_getElem? (i := 93) rfl)) rfl
set_option maxRecDepth 100000 in
theorem wd_1216 : Cond.code yX11_take cX11_take 4 (some .int) ∈ gW := gWi (tb_4 (List.mem_of_getElem? (i := 132) rfl)) rfl
set_option maxRecDepth 100000 in
theorem wd_1217 : Cond.methodLink RL 84 yX11_take ∈ gW := gWi (tb_4 (List.mem_of_getElem? (i := 129) rfl)) rfl
set_option maxRecDepth 100000 in
theorem wd_1218 : Cond.instanceMethod yX11_take ∈ gW := gWi (tb_4 (List.mem_of_getElem? (i := 130) rfl)) rfl
set_option maxRecDepth 100000 in
theorem wd_1219 : Cond.selects RX11 yX11_take yX11_take ∈ gW := gWi (tb_4 (List.mem_of_getElem? (i := 131) rfl)) rfl
set_option maxRecDepth 100000 in
theorem wd_1220 : Cond.code yX12_take cX12_take 8 (some .int) ∈ gW := gWi (tb_7 (List.mem_of_getElem? (i := 98) rfl)) rfl
set_option maxRecDepth 100000 in
theorem wd_1221 : Cond.methodLink RL 87 yX12_take ∈ gW := gWi (tb_7 (List.mem_of_getElem? (i := 95) rfl)) rfl
set_option maxRecDepth 100000 in
theorem wd_1222 : Cond.instanceMethod yX12_take ∈ gW := gWi (tb_7 (List.mem_of_getElem? (i := 96) rfl)) rfl
set_option maxRecDepth 100000 in
theorem wd_1223 : Cond.selects RX12 yX12_take yX12_take ∈ gW := gWi (tb_7 (List.mem_of_getElem? (i := 97) rfl)) rfl
set_option maxRecDepth 100000 in
theorem wd_1224 : Cond.code yX11_payment cX11_payment 3 (some .int) ∈ gW := gWi (tb_4 (List.mem_of_getElem? (i := 136) rfl)) rfl
set_option maxRecDepth 100000 in
theorem wd_1225 : Cond.methodLink RL 88 yX11_payment ∈ gW := gWi (tb_4 (List.mem_of_getElem? (i := 133) rfl)) rfl
set_option maxRecDepth 100000 in
theorem wd_1226 : Cond.instanceMethod yX11_payment ∈ gW := gWi (tb_4 (List.mem_of_getElem? (i := 134) rfl)) rfl
set_option maxRecDepth 100000 in
theorem wd_1227 : Cond.selects RX11 yX11_payment yX11_payment ∈ gW := gWi (tb_4 (List.mem_of_getElem? (i := 135) rfl)) rfl
set_option maxRecDepth 100000 in
theorem wd_1228 : Cond.code yX12_payment cX12_payment 3 (some .int) ∈ gW := gWi (tb_7 (List.mem_of_getElem? (i := 102) rfl)) rfl
set_option maxRecDepth 100000 in
theorem wd_1229 : Cond.methodLink RL 91 yX12_payment ∈ gW := gWi (tb_7 (List.mem_of_getElem? (i := 99) rfl)) rfl
set_option maxRecDepth 100000 in
theorem wd_1230 : Cond.instanceMethod yX12_payment ∈ gW := gWi (tb_7 (List.mem_of_getElem? (i := 100) rfl)) rfl
set_option maxRecDepth 100000 in
theorem wd_1231 : Cond.selects RX12 yX12_payment yX12_payment ∈ gW := gWi (tb_7 (List.mem_of_getElem? (i := 101) rfl)) rfl
set_option maxRecDepth 100000 in
theorem wd_1232 : Cond.code yX11_got cX11_got 3 (some .long) ∈ gW := gWi (tb_4 (List.mem_of_getElem? (i := 146) rfl)) rfl
set_option maxRecDepth 100000 in
theorem wd_1233 : Cond.methodLink RL 92 yX11_got ∈ gW := gWi (tb_4 (List.mem_of_getElem? (i := 143) rfl)) rfl
set_option maxRecDepth 100000 in
theorem wd_1234 : Cond.instanceMethod yX11_got ∈ gW := gWi (tb_4 (List.mem_of_getElem? (i := 144) rfl)) rfl
set_option maxRecDepth 100000 in
theorem wd_1235 : Cond.selects RX11 yX11_got yX11_got ∈ gW := gWi (tb_4 (List.mem_of_getElem? (i := 145) rfl)) rfl
set_option maxRecDepth 100000 in
theorem wd_1236 : Cond.code yX12_got cX12_got 2 (some .long) ∈ gW := gWi (tb_7 (List.mem_of_getElem? (i := 107) rfl)) rfl
set_option maxRecDepth 100000 in
theorem wd_1237 : Cond.methodLink RL 96 yX12_got ∈ gW := gWi (tb_7 (List.mem_of_getElem? (i := 104) rfl)) rfl
set_option maxRecDepth 100000 in
theorem wd_1238 : Cond.instanceMethod yX12_got ∈ gW := gWi (tb_7 (List.mem_of_getElem? (i := 105) rfl)) rfl
set_option maxRecDepth 100000 in
theorem wd_1239 : Cond.selects RX12 yX12_got yX12_got ∈ gW := gWi (tb_7 (List.mem_of_getElem? (i := 106) rfl)) rfl
set_option maxRecDepth 100000 in
theorem wd_1240 : Cond.code yX11_net cX11_net 2 (some .int) ∈ gW := gWi (tb_4 (List.mem_of_getElem? (i := 150) rfl)) rfl
set_option maxRecDepth 100000 in
theorem wd_1241 : Cond.methodLink RL 97 yX11_net ∈ gW := gWi (tb_4 (List.mem_of_getElem? (i := 147) rfl)) rfl
set_option maxRecDepth 100000 in
theorem wd_1242 : Cond.instanceMethod yX11_net ∈ gW := gWi (tb_4 (List.mem_of_getElem? (i := 148) rfl)) rfl
set_option maxRecDepth 100000 in
theorem wd_1243 : Cond.selects RX11 yX11_net yX11_net ∈ gW := gWi (tb_4 (List.mem_of_getElem? (i := 149) rfl)) rfl
set_option maxRecDepth 100000 in
theorem wd_1244 : Cond.code yX12_net cX12_net 6 (some .int) ∈ gW := gWi (tb_7 (List.mem_of_getElem? (i := 111) rfl)) rfl
set_option maxRecDepth 100000 in
theorem wd_1245 : Cond.methodLink RL 100 yX12_net ∈ gW := gWi (tb_7 (List.mem_of_getElem? (i := 108) rfl)) rfl
set_option maxRecDepth 100000 in
theorem wd_1246 : Cond.instanceMethod yX12_net ∈ gW := gWi (tb_7 (List.mem_of_getElem? (i := 109) rfl)) rfl
set_option maxRecDepth 100000 in
theorem wd_1247 : Cond.selects RX12 yX12_net yX12_net ∈ gW := gWi (tb_7 (List.mem_of_getElem? (i := 110) rfl)) rfl
set_option maxRecDepth 100000 in
theorem wd_1248 : Cond.code yX11_netted cX11_netted 3 (some .long) ∈ gW := gWi (tb_4 (List.mem_of_getElem? (i := 173) rfl)) rfl
set_option maxRecDepth 100000 in
theorem wd_1249 : Cond.methodLink RL 101 yX11_netted ∈ gW := gWi (tb_4 (List.mem_of_getElem? (i := 170) rfl)) rfl
set_option maxRecDepth 100000 in
theorem wd_1250 : Cond.instanceMethod yX11_netted ∈ gW := gWi (tb_4 (List.mem_of_getElem? (i := 171) rfl)) rfl
set_option maxRecDepth 100000 in
theorem wd_1251 : Cond.selects RX11 yX11_netted yX11_netted ∈ gW := gWi (tb_4 (List.mem_of_getElem? (i := 172) rfl)) rfl
set_option maxRecDepth 100000 in
theorem wd_1252 : Cond.code yX12_netted cX12_netted 3 (some .long) ∈ gW := gWi (tb_7 (List.mem_of_getElem? (i := 115) rfl)) rfl
set_option maxRecDepth 100000 in
theorem wd_1253 : Cond.methodLink RL 105 yX12_netted ∈ gW := gWi (tb_7 (List.mem_of_getElem? (i := 112) rfl)) rfl
set_option maxRecDepth 100000 in
theorem wd_1254 : Cond.instanceMethod yX12_netted ∈ gW := gWi (tb_7 (List.mem_of_getElem? (i := 113) rfl)) rfl
set_option maxRecDepth 100000 in
theorem wd_1255 : Cond.selects RX12 yX12_netted yX12_netted ∈ gW := gWi (tb_7 (List.mem_of_getElem? (i := 114) rfl)) rfl
set_option maxRecDepth 100000 in
theorem wd_1256 : Cond.code yX11_ways cX11_ways 2 (some .boolean) ∈ gW := gWi (tb_4 (List.mem_of_getElem? (i := 182) rfl)) rfl
set_option maxRecDepth 100000 in
theorem wd_1257 : Cond.methodLink RL 106 yX11_ways ∈ gW := gWi (tb_4 (List.mem_of_getElem? (i := 179) rfl)) rfl
set_option maxRecDepth 100000 in
theorem wd_1258 : Cond.instanceMethod yX11_ways ∈ gW := gWi (tb_4 (List.mem_of_getElem? (i := 180) rfl)) rfl
set_option maxRecDepth 100000 in
theorem wd_1259 : Cond.selects RX11 yX11_ways yX11_ways ∈ gW := gWi (tb_4 (List.mem_of_getElem? (i := 181) rfl)) rfl
set_option maxRecDepth 100000 in
theorem wd_1260 : Cond.code yX12_ways cX12_ways 3 (some .boolean) ∈ gW := gWi (tb_7 (List.mem_of_getElem? (i := 122) rfl)) rfl
set_option maxRecDepth 100000 in
theorem wd_1261 : Cond.methodLink RL 110 yX12_ways ∈ gW := gWi (tb_7 (List.mem_of_getElem? (i := 119) rfl)) rfl
set_option maxRecDepth 100000 in
theorem wd_1262 : Cond.instanceMethod yX12_ways ∈ gW := gWi (tb_7 (List.mem_of_getElem? (i := 120) rfl)) rfl
set_option maxRecDepth 100000 in
theorem wd_1263 : Cond.selects RX12 yX12_ways yX12_ways ∈ gW := gWi (tb_7 (List.mem_of_getElem? (i := 121) rfl)) rfl
set_option maxRecDepth 100000 in
theorem wd_1264 : Cond.code yX11_weight cX11_weight 3 (some .boolean) ∈ gW := gWi (tb_4 (List.mem_of_getElem? (i := 190) rfl)) rfl
set_option maxRecDepth 100000 in
theorem wd_1265 : Cond.methodLink RL 111 yX11_weight ∈ gW := gWi (tb_4 (List.mem_of_getElem? (i := 187) rfl)) rfl
set_option maxRecDepth 100000 in
theorem wd_1266 : Cond.instanceMethod yX11_weight ∈ gW := gWi (tb_4 (List.mem_of_getElem? (i := 188) rfl)) rfl
set_option maxRecDepth 100000 in
theorem wd_1267 : Cond.selects RX11 yX11_weight yX11_weight ∈ gW := gWi (tb_4 (List.mem_of_getElem? (i := 189) rfl)) rfl
set_option maxRecDepth 100000 in
theorem wd_1268 : Cond.code yX12_weight cX12_weight 3 (some .boolean) ∈ gW := gWi (tb_7 (List.mem_of_getElem? (i := 127) rfl)) rfl
set_option maxRecDepth 100000 in
theorem wd_1269 : Cond.methodLink RL 115 yX12_weight ∈ gW := gWi (tb_7 (List.mem_of_getElem? (i := 124) rfl)) rfl
set_option maxRecDepth 100000 in
theorem wd_1270 : Cond.instanceMethod yX12_weight ∈ gW := gWi (tb_7 (List.mem_of_getElem? (i := 125) rfl)) rfl
set_option maxRecDepth 100000 in
theorem wd_1271 : Cond.selects RX12 yX12_weight yX12_weight ∈ gW := gWi (tb_7 (List.mem_of_getElem? (i := 126) rfl)) rfl
set_option maxRecDepth 100000 in
theorem wd_1272 : Cond.code yX11_adds cX11_adds 4 (some .boolean) ∈ gW := gWi (tb_4 (List.mem_of_getElem? (i := 198) rfl)) rfl
set_option maxRecDepth 100000 in
theorem wd_1273 : Cond.methodLink RL 116 yX11_adds ∈ gW := gWi (tb_4 (List.mem_of_getElem? (i := 195) rfl)) rfl
set_option maxRecDepth 100000 in
theorem wd_1274 : Cond.instanceMethod yX11_adds ∈ gW := gWi (tb_4 (List.mem_of_getElem? (i := 196) rfl)) rfl
set_option maxRecDepth 100000 in
theorem wd_1275 : Cond.selects RX11 yX11_adds yX11_adds ∈ gW := gWi (tb_4 (List.mem_of_getElem? (i := 197) rfl)) rfl
set_option maxRecDepth 100000 in
theorem wd_1276 : Cond.code yX12_adds cX12_adds 4 (some .boolean) ∈ gW := gWi (tb_7 (List.mem_of_getElem? (i := 132) rfl)) rfl
set_option maxRecDepth 100000 in
theorem wd_1277 : Cond.methodLink RL 119 yX12_adds ∈ gW := gWi (tb_7 (List.mem_of_getElem? (i := 129) rfl)) rfl
set_option maxRecDepth 100000 in
theorem wd_1278 : Cond.instanceMethod yX12_adds ∈ gW := gWi (tb_7 (List.mem_of_getElem? (i := 130) rfl)) rfl
set_option maxRecDepth 100000 in
theorem wd_1279 : Cond.selects RX12 yX12_adds yX12_adds ∈ gW := gWi (tb_7 (List.mem_of_getElem? (i := 131) rfl)) rfl
set_option maxRecDepth 100000 in
theorem wd_1280 : Cond.code yX11_worth cX11_worth 5 (some .long) ∈ gW := gWi (tb_4 (List.mem_of_getElem? (i := 206) rfl)) rfl
set_option maxRecDepth 100000 in
theorem wd_1281 : Cond.methodLink RL 120 yX11_worth ∈ gW := gWi (tb_4 (List.mem_of_getElem? (i := 203) rfl)) rfl
set_option maxRecDepth 100000 in
theorem wd_1282 : Cond.instanceMethod yX11_worth ∈ gW := gWi (tb_4 (List.mem_of_getElem? (i := 204) rfl)) rfl
set_option maxRecDepth 100000 in
theorem wd_1283 : Cond.selects RX11 yX11_worth yX11_worth ∈ gW := gWi (tb_4 (List.mem_of_getElem? (i := 205) rfl)) rfl
set_option maxRecDepth 100000 in
theorem wd_1284 : Cond.code yX12_worth cX12_worth 5 (some .long) ∈ gW := gWi (tb_7 (List.mem_of_getElem? (i := 138) rfl)) rfl
set_option maxRecDepth 100000 in
theorem wd_1285 : Cond.methodLink RL 124 yX12_worth ∈ gW := gWi (tb_7 (List.mem_of_getElem? (i := 135) rfl)) rfl
set_option maxRecDepth 100000 in
theorem wd_1286 : Cond.instanceMethod yX12_worth ∈ gW := gWi (tb_7 (List.mem_of_getElem? (i := 136) rfl)) rfl
set_option maxRecDepth 100000 in
theorem wd_1287 : Cond.selects RX12 yX12_worth yX12_worth ∈ gW := gWi (tb_7 (List.mem_of_getElem? (i := 137) rfl)) rfl
set_option maxRecDepth 100000 in
theorem wd_1288 : Cond.code yX11_comeTo cX11_comeTo 5 (some .int) ∈ gW := gWi (tb_5 (List.mem_of_getElem? (i := 33) rfl)) rfl
set_option maxRecDepth 100000 in
theorem wd_1289 : Cond.methodLink RL 125 yX11_comeTo ∈ gW := gWi (tb_5 (List.mem_of_getElem? (i := 30) rfl)) rfl
set_option maxRecDepth 100000 in
theorem wd_1290 : Cond.instanceMethod yX11_comeTo ∈ gW := gWi (tb_5 (List.mem_of_getElem? (i := 31) rfl)) rfl
set_option maxRecDepth 100000 in
theorem wd_1291 : Cond.selects RX11 yX11_comeTo yX11_comeTo ∈ gW := gWi (tb_5 (List.mem_of_getElem? (i := 32) rfl)) rfl
set_option maxRecDepth 100000 in
theorem wd_1292 : Cond.code yX12_comeTo cX12_comeTo 13 (some .int) ∈ gW := gWi (tb_7 (List.mem_of_getElem? (i := 181) rfl)) rfl
set_option maxRecDepth 100000 in
theorem wd_1293 : Cond.methodLink RL 128 yX12_comeTo ∈ gW := gWi (tb_7 (List.mem_of_getElem? (i := 178) rfl)) rfl
set_option maxRecDepth 100000 in
theorem wd_1294 : Cond.instanceMethod yX12_comeTo ∈ gW := gWi (tb_7 (List.mem_of_getElem? (i := 179) rfl)) rfl
set_option maxRecDepth 100000 in
theorem wd_1295 : Cond.selects RX12 yX12_comeTo yX12_comeTo ∈ gW := gWi (tb_7 (List.mem_of_getElem? (i := 180) rfl)) rfl
set_option maxRecDepth 100000 in
theorem wd_1296 : Cond.code yX11_parted cX11_parted 6 (some .int) ∈ gW := gWi (tb_5 (List.mem_of_getElem? (i := 49) rfl)) rfl
set_option maxRecDepth 100000 in
theorem wd_1297 : Cond.methodLink RL 129 yX11_parted ∈ gW := gWi (tb_5 (List.mem_of_getElem? (i := 46) rfl)) rfl
set_option maxRecDepth 100000 in
theorem wd_1298 : Cond.instanceMethod yX11_parted ∈ gW := gWi (tb_5 (List.mem_of_getElem? (i := 47) rfl)) rfl
set_option maxRecDepth 100000 in
theorem wd_1299 : Cond.selects RX11 yX11_parted yX11_parted ∈ gW := gWi (tb_5 (List.mem_of_getElem? (i := 48) rfl)) rfl
set_option maxRecDepth 100000 in
theorem wd_1300 : Cond.code yX12_parted cX12_parted 6 (some .int) ∈ gW := gWi (tb_7 (List.mem_of_getElem? (i := 189) rfl)) rfl
set_option maxRecDepth 100000 in
theorem wd_1301 : Cond.methodLink RL 132 yX12_parted ∈ gW := gWi (tb_7 (List.mem_of_getElem? (i := 186) rfl)) rfl
set_option maxRecDepth 100000 in
theorem wd_1302 : Cond.instanceMethod yX12_parted ∈ gW := gWi (tb_7 (List.mem_of_getElem? (i := 187) rfl)) rfl
set_option maxRecDepth 100000 in
theorem wd_1303 : Cond.selects RX12 yX12_parted yX12_parted ∈ gW := gWi (tb_7 (List.mem_of_getElem? (i := 188) rfl)) rfl
set_option maxRecDepth 100000 in
theorem wd_1304 : Cond.code yX11_count cX11_count 2 (some .int) ∈ gW := gWi (tb_5 (List.mem_of_getElem? (i := 71) rfl)) rfl
set_option maxRecDepth 100000 in
theorem wd_1305 : Cond.methodLink RL 133 yX11_count ∈ gW := gWi (tb_5 (List.mem_of_getElem? (i := 68) rfl)) rfl
set_option maxRecDepth 100000 in
theorem wd_1306 : Cond.instanceMethod yX11_count ∈ gW := gWi (tb_5 (List.mem_of_getElem? (i := 69) rfl)) rfl
set_option maxRecDepth 100000 in
theorem wd_1307 : Cond.selects RX11 yX11_count yX11_count ∈ gW := gWi (tb_5 (List.mem_of_getElem? (i := 70) rfl)) rfl
set_option maxRecDepth 100000 in
theorem wd_1308 : Cond.code yX12_count cX12_count 2 (some .int) ∈ gW := gWi (tb_8 (List.mem_of_getElem? (i := 38) rfl)) rfl
set_option maxRecDepth 100000 in
theorem wd_1309 : Cond.methodLink RL 136 yX12_count ∈ gW := gWi (tb_8 (List.mem_of_getElem? (i := 35) rfl)) rfl
set_option maxRecDepth 100000 in
theorem wd_1310 : Cond.instanceMethod yX12_count ∈ gW := gWi (tb_8 (List.mem_of_getElem? (i := 36) rfl)) rfl
set_option maxRecDepth 100000 in
theorem wd_1311 : Cond.selects RX12 yX12_count yX12_count ∈ gW := gWi (tb_8 (List.mem_of_getElem? (i := 37) rfl)) rfl
theorem snL_7 {l : Launch} {R : Room} {Qf : List Frame → Array Value → State → State → Prop} {Ex : State → Prop} {D : va_G} {cy : Nat → ClassId} {b : Nat} {cc : ByteArray} {nL : Nat} {ret : Option FieldType} {nm : String} {cells slots : Nat} {f : gMem} {pc : Nat} {lv : List (Nat × Value)} {st : List Value} (hcells : cells + 1 ≤ R.cells) (hslots : slots + 13 ≤ R.slots) (hdg : decode cc pc = .ok (.new 7, 3)) (k : ∀ q : Nat, f q = none → gG l R Qf Ex D cy b cc nL ret RL nm (cells + 1) (slots + 13) (va_up f q (some (.inr (11, [.null, .null, .null, .null, .null, .null, .null, .null, .null, .null, .null, .null, .int 0])))) (pc + 3) lv (.ref q :: st)) : gG l R Qf Ex D cy b cc nL ret RL nm cells slots f pc lv st := gz_new (ci := 11) (T := TX11) (N := 13) (fs := [.null, .null, .null, .null, .null, .null, .null, .null, .null, .null, .null, .null, .int 0]) rfl giX11 tyX11 tyX11_ok wd_1078 wd_1079 wd_213 (dvX11) hcells hslots hdg k
theorem scL_9 {l : Launch} {R : Room} {Qf : List Frame → Array Value → State → State → Prop} {Ex : State → Prop} {D : va_G} {cy : Nat → ClassId} {b : Nat} {cc : ByteArray} {nL : Nat} {ret : Option FieldType} {nm : String} {cells slots : Nat} {f : gMem} {pc : Nat} {lv : List (Nat × Value)} {st : List Value} {d' mc' ms' : Nat} {As st0 : List Value} {P : gMem → Prop} {a : Nat} (hM : gC l D cy b yX11_init cX11_init 1 none d' mc' ms' (.ref a :: As) f (pV P)) (hR : d' + 1 ≤ R.frames ∧ 64 * (d' + 1) ≤ R.locals) (hcs : cells + mc' ≤ R.cells ∧ slots + ms' ≤ R.slots) (hn : As.length = 0) (hst : st0 = As.reverse ++ .ref a :: st) (hsum : (st.map fun v => v.category).sum ≤ 8) (hdg : decode cc pc = .ok (.invokespecial 9, 3)) (k : ∀ (f2 : gMem), P f2 → gG l R Qf Ex D cy b cc nL ret RL nm (cells + mc') (slots + ms') f2 (pc + 3) lv (st)) : gG l R Qf Ex D cy b cc nL ret RL nm cells slots f pc lv st0 := gz_callI hM wd_1080 ⟨wd_1081, wd_1082, wd_213⟩ rfl ⟨by decide, by decide, by decide +kernel⟩ ⟨hR.1, by omega⟩ hcs hn hst hsum hdg (fun r f2 h => by obtain ⟨rfl, h⟩ := h; exact k f2 h)
theorem snL_10 {l : Launch} {R : Room} {Qf : List Frame → Array Value → State → State → Prop} {Ex : State → Prop} {D : va_G} {cy : Nat → ClassId} {b : Nat} {cc : ByteArray} {nL : Nat} {ret : Option FieldType} {nm : String} {cells slots : Nat} {f : gMem} {pc : Nat} {lv : List (Nat × Value)} {st : List Value} (hcells : cells + 1 ≤ R.cells) (hslots : slots + 90 ≤ R.slots) (hdg : decode cc pc = .ok (.new 10, 3)) (k : ∀ q : Nat, f q = none → gG l R Qf Ex D cy b cc nL ret RL nm (cells + 1) (slots + 90) (va_up f q (some (.inr (12, [.int 0, .int 0, .null, .null, .int 0, .int 0, .null, .null, .null, .null, .null, .null, .null, .null, .null, .null, .null, .null, .null, .null, .null, .int 0, .int 0, .int 0, .int 0, .null, .null, .null, .null, .long 0, .int 0, .null, .null, .null, .null, .null, .null, .null, .int 0, .null, .null, .null, .null, .int 0, .null, .null, .int 0, .int 0, .null, .null, .null, .null, .null, .int 0, .null, .null, .null, .int 0, .null, .null, .null, .null, .null, .null, .null, .null, .null, .long 0, .null, .null, .int 0, .null, .int 0, .null, .null, .null, .null, .null, .null, .null, .null, .null, .null, .int 0, .null, .null, .null, .null, .int 0, .int 0])))) (pc + 3) lv (.ref q :: st)) : gG l R Qf Ex D cy b cc nL ret RL nm cells slots f pc lv st := gz_new (ci := 12) (T := TX12) (N := 90) (fs := [.int 0, .int 0, .null, .null, .int 0, .int 0, .null, .null, .null, .null, .null, .null, .null, .null, .null, .null, .null, .null, .null, .null, .null, .int 0, .int 0, .int 0, .int 0, .null, .null, .null, .null, .long 0, .int 0, .null, .null, .null, .null, .null, .null, .null, .int 0, .null, .null, .null, .null, .int 0, .null, .null, .int 0, .int 0, .null, .null, .null, .null, .null, .int 0, .null, .null, .null, .int 0, .null, .null, .null, .null, .null, .null, .null, .null, .null, .long 0, .null, .null, .int 0, .null, .int 0, .null, .null, .null, .null, .null, .null, .null, .null, .null, .null, .int 0, .null, .null, .null, .null, .int 0, .int 0]) rfl giX12 tyX12 tyX12_ok wd_1083 wd_1084 wd_782 (dvX12) hcells hslots hdg k
theorem scL_12 {l : Launch} {R : Room} {Qf : List Frame → Array Value → State → State → Prop} {Ex : State → Prop} {D : va_G} {cy : Nat → ClassId} {b : Nat} {cc : ByteArray} {nL : Nat} {ret : Option FieldType} {nm : String} {cells slots : Nat} {f : gMem} {pc : Nat} {lv : List (Nat × Value)} {st : List Value} {d' mc' ms' : Nat} {As st0 : List Value} {P : gMem → Prop} {a : Nat} (hM : gC l D cy b yX12_init cX12_init 2 none d' mc' ms' (.ref a :: As) f (pV P)) (hR : d' + 1 ≤ R.frames ∧ 64 * (d' + 1) ≤ R.locals) (hcs : cells + mc' ≤ R.cells ∧ slots + ms' ≤ R.slots) (hn : As.length = 0) (hst : st0 = As.reverse ++ .ref a :: st) (hsum : (st.map fun v => v.category).sum ≤ 8) (hdg : decode cc pc = .ok (.invokespecial 12, 3)) (k : ∀ (f2 : gMem), P f2 → gG l R Qf Ex D cy b cc nL ret RL nm (cells + mc') (slots + ms') f2 (pc + 3) lv (st)) : gG l R Qf Ex D cy b cc nL ret RL nm cells slots f pc lv st0 := gz_callI hM wd_1085 ⟨wd_1086, wd_1087, wd_782⟩ rfl ⟨by decide, by decide, by decide +kernel⟩ ⟨hR.1, by omega⟩ hcs hn hst hsum hdg (fun r f2 h => by obtain ⟨rfl, h⟩ := h; exact k f2 h)
theorem scL_13 {l : Launch} {R : Room} {Qf : List Frame → Array Value → State → State → Prop} {Ex : State → Prop} {D : va_G} {cy : Nat → ClassId} {b : Nat} {cc : ByteArray} {nL : Nat} {ret : Option FieldType} {nm : String} {cells slots : Nat} {f : gMem} {pc : Nat} {lv : List (Nat × Value)} {st : List Value} {d' mc' ms' : Nat} {As st0 : List Value} {P : Int32 → gMem → Prop} {a : Nat} {fs : List Value} (hM : gC l D cy b yX11_see cX11_see 4 (some .boolean) d' mc' ms' (.ref a :: As) f (pI P)) (hf : f a = some (.inr (11, fs))) (hR : d' + 1 ≤ R.frames ∧ 64 * (d' + 1) ≤ R.locals) (hcs : cells + mc' ≤ R.cells ∧ slots + ms' ≤ R.slots) (hn : As.length = 3) (hst : st0 = As.reverse ++ .ref a :: st) (hsum : (st.map fun v => v.category).sum ≤ 8) (hdg : decode cc pc = .ok (.invokevirtual 13, 3)) (k : ∀ (v : Int32) (f2 : gMem), P v f2 → gG l R Qf Ex D cy b cc nL ret RL nm (cells + mc') (slots + ms') f2 (pc + 3) lv (.int v :: st)) : gG l R Qf Ex D cy b cc nL ret RL nm cells slots f pc lv st0 := gz_callV (T := TX11) (N := 13) hM hf rfl wd_1088 ⟨wd_1089, wd_1090, wd_1091, wd_213⟩ ⟨rfl, by decide, by decide, by decide +kernel⟩ ⟨hR.1, by omega⟩ hcs hn hst hsum hdg (fun r f2 h => by obtain ⟨v, rfl, h⟩ := h; exact k v f2 h)
theorem scL_17 {l : Launch} {R : Room} {Qf : List Frame → Array Value → State → State → Prop} {Ex : State → Prop} {D : va_G} {cy : Nat → ClassId} {b : Nat} {cc : ByteArray} {nL : Nat} {ret : Option FieldType} {nm : String} {cells slots : Nat} {f : gMem} {pc : Nat} {lv : List (Nat × Value)} {st : List Value} {d' mc' ms' : Nat} {As st0 : List Value} {P : Int32 → gMem → Prop} {a : Nat} {fs : List Value} (hM : gC l D cy b yX12_see cX12_see 4 (some .boolean) d' mc' ms' (.ref a :: As) f (pI P)) (hf : f a = some (.inr (12, fs))) (hR : d' + 1 ≤ R.frames ∧ 64 * (d' + 1) ≤ R.locals) (hcs : cells + mc' ≤ R.cells ∧ slots + ms' ≤ R.slots) (hn : As.length = 3) (hst : st0 = As.reverse ++ .ref a :: st) (hsum : (st.map fun v => v.category).sum ≤ 8) (hdg : decode cc pc = .ok (.invokevirtual 17, 3)) (k : ∀ (v : Int32) (f2 : gMem), P v f2 → gG l R Qf Ex D cy b cc nL ret RL nm (cells + mc') (slots + ms') f2 (pc + 3) lv (.int v :: st)) : gG l R Qf Ex D cy b cc nL ret RL nm cells slots f pc lv st0 := gz_callV (T := TX12) (N := 90) hM hf rfl wd_1092 ⟨wd_1093, wd_1094, wd_1095, wd_782⟩ ⟨rfl, by decide, by decide, by decide +kernel⟩ ⟨hR.1, by omega⟩ hcs hn hst hsum hdg (fun r f2 h => by obtain ⟨v, rfl, h⟩ := h; exact k v f2 h)
theorem scL_18 {l : Launch} {R : Room} {Qf : List Frame → Array Value → State → State → Prop} {Ex : State → Prop} {D : va_G} {cy : Nat → ClassId} {b : Nat} {cc : ByteArray} {nL : Nat} {ret : Option FieldType} {nm : String} {cells slots : Nat} {f : gMem} {pc : Nat} {lv : List (Nat × Value)} {st : List Value} {d' mc' ms' : Nat} {As st0 : List Value} {P : Int32 → gMem → Prop} {a : Nat} {fs : List Value} (hM : gC l D cy b yX11_seen cX11_seen 3 (some .int) d' mc' ms' (.ref a :: As) f (pI P)) (hf : f a = some (.inr (11, fs))) (hR : d' + 1 ≤ R.frames ∧ 64 * (d' + 1) ≤ R.locals) (hcs : cells + mc' ≤ R.cells ∧ slots + ms' ≤ R.slots) (hn : As.length = 2) (hst : st0 = As.reverse ++ .ref a :: st) (hsum : (st.map fun v => v.category).sum ≤ 8) (hdg : decode cc pc = .ok (.invokevirtual 18, 3)) (k : ∀ (v : Int32) (f2 : gMem), P v f2 → gG l R Qf Ex D cy b cc nL ret RL nm (cells + mc') (slots + ms') f2 (pc + 3) lv (.int v :: st)) : gG l R Qf Ex D cy b cc nL ret RL nm cells slots f pc lv st0 := gz_callV (T := TX11) (N := 13) hM hf rfl wd_1096 ⟨wd_1097, wd_1098, wd_1099, wd_213⟩ ⟨rfl, by decide, by decide, by decide +kernel⟩ ⟨hR.1, by omega⟩ hcs hn hst hsum hdg (fun r f2 h => by obtain ⟨v, rfl, h⟩ := h; exact k v f2 h)
theorem scL_22 {l : Launch} {R : Room} {Qf : List Frame → Array Value → State → State → Prop} {Ex : State → Prop} {D : va_G} {cy : Nat → ClassId} {b : Nat} {cc : ByteArray} {nL : Nat} {ret : Option FieldType} {nm : String} {cells slots : Nat} {f : gMem} {pc : Nat} {lv : List (Nat × Value)} {st : List Value} {d' mc' ms' : Nat} {As st0 : List Value} {P : Int32 → gMem → Prop} {a : Nat} {fs : List Value} (hM : gC l D cy b yX12_seen cX12_seen 3 (some .int) d' mc' ms' (.ref a :: As) f (pI P)) (hf : f a = some (.inr (12, fs))) (hR : d' + 1 ≤ R.frames ∧ 64 * (d' + 1) ≤ R.locals) (hcs : cells + mc' ≤ R.cells ∧ slots + ms' ≤ R.slots) (hn : As.length = 2) (hst : st0 = As.reverse ++ .ref a :: st) (hsum : (st.map fun v => v.category).sum ≤ 8) (hdg : decode cc pc = .ok (.invokevirtual 22, 3)) (k : ∀ (v : Int32) (f2 : gMem), P v f2 → gG l R Qf Ex D cy b cc nL ret RL nm (cells + mc') (slots + ms') f2 (pc + 3) lv (.int v :: st)) : gG l R Qf Ex D cy b cc nL ret RL nm cells slots f pc lv st0 := gz_callV (T := TX12) (N := 90) hM hf rfl wd_1100 ⟨wd_1101, wd_1102, wd_1103, wd_782⟩ ⟨rfl, by decide, by decide, by decide +kernel⟩ ⟨hR.1, by omega⟩ hcs hn hst hsum hdg (fun r f2 h => by obtain ⟨v, rfl, h⟩ := h; exact k v f2 h)
theorem scL_23 {l : Launch} {R : Room} {Qf : List Frame → Array Value → State → State → Prop} {Ex : State → Prop} {D : va_G} {cy : Nat → ClassId} {b : Nat} {cc : ByteArray} {nL : Nat} {ret : Option FieldType} {nm : String} {cells slots : Nat} {f : gMem} {pc : Nat} {lv : List (Nat × Value)} {st : List Value} {d' mc' ms' : Nat} {As st0 : List Value} {P : Int32 → gMem → Prop} {a : Nat} {fs : List Value} (hM : gC l D cy b yX11_feed cX11_feed 6 (some .int) d' mc' ms' (.ref a :: As) f (pI P)) (hf : f a = some (.inr (11, fs))) (hR : d' + 1 ≤ R.frames ∧ 64 * (d' + 1) ≤ R.locals) (hcs : cells + mc' ≤ R.cells ∧ slots + ms' ≤ R.slots) (hn : As.length = 5) (hst : st0 = As.reverse ++ .ref a :: st) (hsum : (st.map fun v => v.category).sum ≤ 8) (hdg : decode cc pc = .ok (.invokevirtual 23, 3)) (k : ∀ (v : Int32) (f2 : gMem), P v f2 → gG l R Qf Ex D cy b cc nL ret RL nm (cells + mc') (slots + ms') f2 (pc + 3) lv (.int v :: st)) : gG l R Qf Ex D cy b cc nL ret RL nm cells slots f pc lv st0 := gz_callV (T := TX11) (N := 13) hM hf rfl wd_1104 ⟨wd_1105, wd_1106, wd_1107, wd_213⟩ ⟨rfl, by decide, by decide, by decide +kernel⟩ ⟨hR.1, by omega⟩ hcs hn hst hsum hdg (fun r f2 h => by obtain ⟨v, rfl, h⟩ := h; exact k v f2 h)
theorem scL_27 {l : Launch} {R : Room} {Qf : List Frame → Array Value → State → State → Prop} {Ex : State → Prop} {D : va_G} {cy : Nat → ClassId} {b : Nat} {cc : ByteArray} {nL : Nat} {ret : Option FieldType} {nm : String} {cells slots : Nat} {f : gMem} {pc : Nat} {lv : List (Nat × Value)} {st : List Value} {d' mc' ms' : Nat} {As st0 : List Value} {P : Int32 → gMem → Prop} {a : Nat} {fs : List Value} (hM : gC l D cy b yX12_feed cX12_feed 6 (some .int) d' mc' ms' (.ref a :: As) f (pI P)) (hf : f a = some (.inr (12, fs))) (hR : d' + 1 ≤ R.frames ∧ 64 * (d' + 1) ≤ R.locals) (hcs : cells + mc' ≤ R.cells ∧ slots + ms' ≤ R.slots) (hn : As.length = 5) (hst : st0 = As.reverse ++ .ref a :: st) (hsum : (st.map fun v => v.category).sum ≤ 8) (hdg : decode cc pc = .ok (.invokevirtual 27, 3)) (k : ∀ (v : Int32) (f2 : gMem), P v f2 → gG l R Qf Ex D cy b cc nL ret RL nm (cells + mc') (slots + ms') f2 (pc + 3) lv (.int v :: st)) : gG l R Qf Ex D cy b cc nL ret RL nm cells slots f pc lv st0 := gz_callV (T := TX12) (N := 90) hM hf rfl wd_1108 ⟨wd_1109, wd_1110, wd_1111, wd_782⟩ ⟨rfl, by decide, by decide, by decide +kernel⟩ ⟨hR.1, by omega⟩ hcs hn hst hsum hdg (fun r f2 h => by obtain ⟨v, rfl, h⟩ := h; exact k v f2 h)
theorem scL_28 {l : Launch} {R : Room} {Qf : List Frame → Array Value → State → State → Prop} {Ex : State → Prop} {D : va_G} {cy : Nat → ClassId} {b : Nat} {cc : ByteArray} {nL : Nat} {ret : Option FieldType} {nm : String} {cells slots : Nat} {f : gMem} {pc : Nat} {lv : List (Nat × Value)} {st : List Value} {d' mc' ms' : Nat} {As st0 : List Value} {P : Int32 → gMem → Prop} {a : Nat} {fs : List Value} (hM : gC l D cy b yX11_end cX11_end 2 (some .int) d' mc' ms' (.ref a :: As) f (pI P)) (hf : f a = some (.inr (11, fs))) (hR : d' + 1 ≤ R.frames ∧ 64 * (d' + 1) ≤ R.locals) (hcs : cells + mc' ≤ R.cells ∧ slots + ms' ≤ R.slots) (hn : As.length = 1) (hst : st0 = As.reverse ++ .ref a :: st) (hsum : (st.map fun v => v.category).sum ≤ 8) (hdg : decode cc pc = .ok (.invokevirtual 28, 3)) (k : ∀ (v : Int32) (f2 : gMem), P v f2 → gG l R Qf Ex D cy b cc nL ret RL nm (cells + mc') (slots + ms') f2 (pc + 3) lv (.int v :: st)) : gG l R Qf Ex D cy b cc nL ret RL nm cells slots f pc lv st0 := gz_callV (T := TX11) (N := 13) hM hf rfl wd_1112 ⟨wd_1113, wd_1114, wd_1115, wd_213⟩ ⟨rfl, by decide, by decide, by decide +kernel⟩ ⟨hR.1, by omega⟩ hcs hn hst hsum hdg (fun r f2 h => by obtain ⟨v, rfl, h⟩ := h; exact k v f2 h)
theorem scL_32 {l : Launch} {R : Room} {Qf : List Frame → Array Value → State → State → Prop} {Ex : State → Prop} {D : va_G} {cy : Nat → ClassId} {b : Nat} {cc : ByteArray} {nL : Nat} {ret : Option FieldType} {nm : String} {cells slots : Nat} {f : gMem} {pc : Nat} {lv : List (Nat × Value)} {st : List Value} {d' mc' ms' : Nat} {As st0 : List Value} {P : Int32 → gMem → Prop} {a : Nat} {fs : List Value} (hM : gC l D cy b yX12_end cX12_end 2 (some .int) d' mc' ms' (.ref a :: As) f (pI P)) (hf : f a = some (.inr (12, fs))) (hR : d' + 1 ≤ R.frames ∧ 64 * (d' + 1) ≤ R.locals) (hcs : cells + mc' ≤ R.cells ∧ slots + ms' ≤ R.slots) (hn : As.length = 1) (hst : st0 = As.reverse ++ .ref a :: st) (hsum : (st.map fun v => v.category).sum ≤ 8) (hdg : decode cc pc = .ok (.invokevirtual 32, 3)) (k : ∀ (v : Int32) (f2 : gMem), P v f2 → gG l R Qf Ex D cy b cc nL ret RL nm (cells + mc') (slots + ms') f2 (pc + 3) lv (.int v :: st)) : gG l R Qf Ex D cy b cc nL ret RL nm cells slots f pc lv st0 := gz_callV (T := TX12) (N := 90) hM hf rfl wd_1116 ⟨wd_1117, wd_1118, wd_1119, wd_782⟩ ⟨rfl, by decide, by decide, by decide +kernel⟩ ⟨hR.1, by omega⟩ hcs hn hst hsum hdg (fun r f2 h => by obtain ⟨v, rfl, h⟩ := h; exact k v f2 h)
theorem scL_33 {l : Launch} {R : Room} {Qf : List Frame → Array Value → State → State → Prop} {Ex : State → Prop} {D : va_G} {cy : Nat → ClassId} {b : Nat} {cc : ByteArray} {nL : Nat} {ret : Option FieldType} {nm : String} {cells slots : Nat} {f : gMem} {pc : Nat} {lv : List (Nat × Value)} {st : List Value} {d' mc' ms' : Nat} {As st0 : List Value} {P : Int32 → gMem → Prop} {a : Nat} {fs : List Value} (hM : gC l D cy b yX11_form cX11_form 2 (some .int) d' mc' ms' (.ref a :: As) f (pI P)) (hf : f a = some (.inr (11, fs))) (hR : d' + 1 ≤ R.frames ∧ 64 * (d' + 1) ≤ R.locals) (hcs : cells + mc' ≤ R.cells ∧ slots + ms' ≤ R.slots) (hn : As.length = 0) (hst : st0 = As.reverse ++ .ref a :: st) (hsum : (st.map fun v => v.category).sum ≤ 8) (hdg : decode cc pc = .ok (.invokevirtual 33, 3)) (k : ∀ (v : Int32) (f2 : gMem), P v f2 → gG l R Qf Ex D cy b cc nL ret RL nm (cells + mc') (slots + ms') f2 (pc + 3) lv (.int v :: st)) : gG l R Qf Ex D cy b cc nL ret RL nm cells slots f pc lv st0 := gz_callV (T := TX11) (N := 13) hM hf rfl wd_1120 ⟨wd_1121, wd_1122, wd_1123, wd_213⟩ ⟨rfl, by decide, by decide, by decide +kernel⟩ ⟨hR.1, by omega⟩ hcs hn hst hsum hdg (fun r f2 h => by obtain ⟨v, rfl, h⟩ := h; exact k v f2 h)
theorem scL_37 {l : Launch} {R : Room} {Qf : List Frame → Array Value → State → State → Prop} {Ex : State → Prop} {D : va_G} {cy : Nat → ClassId} {b : Nat} {cc : ByteArray} {nL : Nat} {ret : Option FieldType} {nm : String} {cells slots : Nat} {f : gMem} {pc : Nat} {lv : List (Nat × Value)} {st : List Value} {d' mc' ms' : Nat} {As st0 : List Value} {P : Int32 → gMem → Prop} {a : Nat} {fs : List Value} (hM : gC l D cy b yX12_form cX12_form 2 (some .int) d' mc' ms' (.ref a :: As) f (pI P)) (hf : f a = some (.inr (12, fs))) (hR : d' + 1 ≤ R.frames ∧ 64 * (d' + 1) ≤ R.locals) (hcs : cells + mc' ≤ R.cells ∧ slots + ms' ≤ R.slots) (hn : As.length = 0) (hst : st0 = As.reverse ++ .ref a :: st) (hsum : (st.map fun v => v.category).sum ≤ 8) (hdg : decode cc pc = .ok (.invokevirtual 37, 3)) (k : ∀ (v : Int32) (f2 : gMem), P v f2 → gG l R Qf Ex D cy b cc nL ret RL nm (cells + mc') (slots + ms') f2 (pc + 3) lv (.int v :: st)) : gG l R Qf Ex D cy b cc nL ret RL nm cells slots f pc lv st0 := gz_callV (T := TX12) (N := 90) hM hf rfl wd_1124 ⟨wd_1125, wd_1126, wd_1127, wd_782⟩ ⟨rfl, by decide, by decide, by decide +kernel⟩ ⟨hR.1, by omega⟩ hcs hn hst hsum hdg (fun r f2 h => by obtain ⟨v, rfl, h⟩ := h; exact k v f2 h)
theorem scL_38 {l : Launch} {R : Room} {Qf : List Frame → Array Value → State → State → Prop} {Ex : State → Prop} {D : va_G} {cy : Nat → ClassId} {b : Nat} {cc : ByteArray} {nL : Nat} {ret : Option FieldType} {nm : String} {cells slots : Nat} {f : gMem} {pc : Nat} {lv : List (Nat × Value)} {st : List Value} {d' mc' ms' : Nat} {As st0 : List Value} {P : Int32 → gMem → Prop} {a : Nat} {fs : List Value} (hM : gC l D cy b yX11_word cX11_word 5 (some .int) d' mc' ms' (.ref a :: As) f (pI P)) (hf : f a = some (.inr (11, fs))) (hR : d' + 1 ≤ R.frames ∧ 64 * (d' + 1) ≤ R.locals) (hcs : cells + mc' ≤ R.cells ∧ slots + ms' ≤ R.slots) (hn : As.length = 3) (hst : st0 = As.reverse ++ .ref a :: st) (hsum : (st.map fun v => v.category).sum ≤ 8) (hdg : decode cc pc = .ok (.invokevirtual 38, 3)) (k : ∀ (v : Int32) (f2 : gMem), P v f2 → gG l R Qf Ex D cy b cc nL ret RL nm (cells + mc') (slots + ms') f2 (pc + 3) lv (.int v :: st)) : gG l R Qf Ex D cy b cc nL ret RL nm cells slots f pc lv st0 := gz_callV (T := TX11) (N := 13) hM hf rfl wd_1128 ⟨wd_1129, wd_1130, wd_1131, wd_213⟩ ⟨rfl, by decide, by decide, by decide +kernel⟩ ⟨hR.1, by omega⟩ hcs hn hst hsum hdg (fun r f2 h => by obtain ⟨v, rfl, h⟩ := h; exact k v f2 h)
theorem scL_42 {l : Launch} {R : Room} {Qf : List Frame → Array Value → State → State → Prop} {Ex : State → Prop} {D : va_G} {cy : Nat → ClassId} {b : Nat} {cc : ByteArray} {nL : Nat} {ret : Option FieldType} {nm : String} {cells slots : Nat} {f : gMem} {pc : Nat} {lv : List (Nat × Value)} {st : List Value} {d' mc' ms' : Nat} {As st0 : List Value} {P : Int32 → gMem → Prop} {a : Nat} {fs : List Value} (hM : gC l D cy b yX12_word cX12_word 5 (some .int) d' mc' ms' (.ref a :: As) f (pI P)) (hf : f a = some (.inr (12, fs))) (hR : d' + 1 ≤ R.frames ∧ 64 * (d' + 1) ≤ R.locals) (hcs : cells + mc' ≤ R.cells ∧ slots + ms' ≤ R.slots) (hn : As.length = 3) (hst : st0 = As.reverse ++ .ref a :: st) (hsum : (st.map fun v => v.category).sum ≤ 8) (hdg : decode cc pc = .ok (.invokevirtual 42, 3)) (k : ∀ (v : Int32) (f2 : gMem), P v f2 → gG l R Qf Ex D cy b cc nL ret RL nm (cells + mc') (slots + ms') f2 (pc + 3) lv (.int v :: st)) : gG l R Qf Ex D cy b cc nL ret RL nm cells slots f pc lv st0 := gz_callV (T := TX12) (N := 90) hM hf rfl wd_1132 ⟨wd_1133, wd_1134, wd_1135, wd_782⟩ ⟨rfl, by decide, by decide, by decide +kernel⟩ ⟨hR.1, by omega⟩ hcs hn hst hsum hdg (fun r f2 h => by obtain ⟨v, rfl, h⟩ := h; exact k v f2 h)
theorem scL_43 {l : Launch} {R : Room} {Qf : List Frame → Array Value → State → State → Prop} {Ex : State → Prop} {D : va_G} {cy : Nat → ClassId} {b : Nat} {cc : ByteArray} {nL : Nat} {ret : Option FieldType} {nm : String} {cells slots : Nat} {f : gMem} {pc : Nat} {lv : List (Nat × Value)} {st : List Value} {d' mc' ms' : Nat} {As st0 : List Value} {P : Int32 → gMem → Prop} {a : Nat} {fs : List Value} (hM : gC l D cy b yX11_words cX11_words 3 (some .int) d' mc' ms' (.ref a :: As) f (pI P)) (hf : f a = some (.inr (11, fs))) (hR : d' + 1 ≤ R.frames ∧ 64 * (d' + 1) ≤ R.locals) (hcs : cells + mc' ≤ R.cells ∧ slots + ms' ≤ R.slots) (hn : As.length = 1) (hst : st0 = As.reverse ++ .ref a :: st) (hsum : (st.map fun v => v.category).sum ≤ 8) (hdg : decode cc pc = .ok (.invokevirtual 43, 3)) (k : ∀ (v : Int32) (f2 : gMem), P v f2 → gG l R Qf Ex D cy b cc nL ret RL nm (cells + mc') (slots + ms') f2 (pc + 3) lv (.int v :: st)) : gG l R Qf Ex D cy b cc nL ret RL nm cells slots f pc lv st0 := gz_callV (T := TX11) (N := 13) hM hf rfl wd_1136 ⟨wd_1137, wd_1138, wd_1139, wd_213⟩ ⟨rfl, by decide, by decide, by decide +kernel⟩ ⟨hR.1, by omega⟩ hcs hn hst hsum hdg (fun r f2 h => by obtain ⟨v, rfl, h⟩ := h; exact k v f2 h)
theorem scL_46 {l : Launch} {R : Room} {Qf : List Frame → Array Value → State → State → Prop} {Ex : State → Prop} {D : va_G} {cy : Nat → ClassId} {b : Nat} {cc : ByteArray} {nL : Nat} {ret : Option FieldType} {nm : String} {cells slots : Nat} {f : gMem} {pc : Nat} {lv : List (Nat × Value)} {st : List Value} {d' mc' ms' : Nat} {As st0 : List Value} {P : Int32 → gMem → Prop} {a : Nat} {fs : List Value} (hM : gC l D cy b yX12_words cX12_words 2 (some .int) d' mc' ms' (.ref a :: As) f (pI P)) (hf : f a = some (.inr (12, fs))) (hR : d' + 1 ≤ R.frames ∧ 64 * (d' + 1) ≤ R.locals) (hcs : cells + mc' ≤ R.cells ∧ slots + ms' ≤ R.slots) (hn : As.length = 1) (hst : st0 = As.reverse ++ .ref a :: st) (hsum : (st.map fun v => v.category).sum ≤ 8) (hdg : decode cc pc = .ok (.invokevirtual 46, 3)) (k : ∀ (v : Int32) (f2 : gMem), P v f2 → gG l R Qf Ex D cy b cc nL ret RL nm (cells + mc') (slots + ms') f2 (pc + 3) lv (.int v :: st)) : gG l R Qf Ex D cy b cc nL ret RL nm cells slots f pc lv st0 := gz_callV (T := TX12) (N := 90) hM hf rfl wd_1140 ⟨wd_1141, wd_1142, wd_1143, wd_782⟩ ⟨rfl, by decide, by decide, by decide +kernel⟩ ⟨hR.1, by omega⟩ hcs hn hst hsum hdg (fun r f2 h => by obtain ⟨v, rfl, h⟩ := h; exact k v f2 h)
theorem scL_47 {l : Launch} {R : Room} {Qf : List Frame → Array Value → State → State → Prop} {Ex : State → Prop} {D : va_G} {cy : Nat → ClassId} {b : Nat} {cc : ByteArray} {nL : Nat} {ret : Option FieldType} {nm : String} {cells slots : Nat} {f : gMem} {pc : Nat} {lv : List (Nat × Value)} {st : List Value} {d' mc' ms' : Nat} {As st0 : List Value} {P : Int32 → gMem → Prop} {a : Nat} {fs : List Value} (hM : gC l D cy b yX11_shorter cX11_shorter 3 (some .int) d' mc' ms' (.ref a :: As) f (pI P)) (hf : f a = some (.inr (11, fs))) (hR : d' + 1 ≤ R.frames ∧ 64 * (d' + 1) ≤ R.locals) (hcs : cells + mc' ≤ R.cells ∧ slots + ms' ≤ R.slots) (hn : As.length = 1) (hst : st0 = As.reverse ++ .ref a :: st) (hsum : (st.map fun v => v.category).sum ≤ 8) (hdg : decode cc pc = .ok (.invokevirtual 47, 3)) (k : ∀ (v : Int32) (f2 : gMem), P v f2 → gG l R Qf Ex D cy b cc nL ret RL nm (cells + mc') (slots + ms') f2 (pc + 3) lv (.int v :: st)) : gG l R Qf Ex D cy b cc nL ret RL nm cells slots f pc lv st0 := gz_callV (T := TX11) (N := 13) hM hf rfl wd_1144 ⟨wd_1145, wd_1146, wd_1147, wd_213⟩ ⟨rfl, by decide, by decide, by decide +kernel⟩ ⟨hR.1, by omega⟩ hcs hn hst hsum hdg (fun r f2 h => by obtain ⟨v, rfl, h⟩ := h; exact k v f2 h)
theorem scL_50 {l : Launch} {R : Room} {Qf : List Frame → Array Value → State → State → Prop} {Ex : State → Prop} {D : va_G} {cy : Nat → ClassId} {b : Nat} {cc : ByteArray} {nL : Nat} {ret : Option FieldType} {nm : String} {cells slots : Nat} {f : gMem} {pc : Nat} {lv : List (Nat × Value)} {st : List Value} {d' mc' ms' : Nat} {As st0 : List Value} {P : Int32 → gMem → Prop} {a : Nat} {fs : List Value} (hM : gC l D cy b yX12_shorter cX12_shorter 2 (some .int) d' mc' ms' (.ref a :: As) f (pI P)) (hf : f a = some (.inr (12, fs))) (hR : d' + 1 ≤ R.frames ∧ 64 * (d' + 1) ≤ R.locals) (hcs : cells + mc' ≤ R.cells ∧ slots + ms' ≤ R.slots) (hn : As.length = 1) (hst : st0 = As.reverse ++ .ref a :: st) (hsum : (st.map fun v => v.category).sum ≤ 8) (hdg : decode cc pc = .ok (.invokevirtual 50, 3)) (k : ∀ (v : Int32) (f2 : gMem), P v f2 → gG l R Qf Ex D cy b cc nL ret RL nm (cells + mc') (slots + ms') f2 (pc + 3) lv (.int v :: st)) : gG l R Qf Ex D cy b cc nL ret RL nm cells slots f pc lv st0 := gz_callV (T := TX12) (N := 90) hM hf rfl wd_1148 ⟨wd_1149, wd_1150, wd_1151, wd_782⟩ ⟨rfl, by decide, by decide, by decide +kernel⟩ ⟨hR.1, by omega⟩ hcs hn hst hsum hdg (fun r f2 h => by obtain ⟨v, rfl, h⟩ := h; exact k v f2 h)
theorem scL_51 {l : Launch} {R : Room} {Qf : List Frame → Array Value → State → State → Prop} {Ex : State → Prop} {D : va_G} {cy : Nat → ClassId} {b : Nat} {cc : ByteArray} {nL : Nat} {ret : Option FieldType} {nm : String} {cells slots : Nat} {f : gMem} {pc : Nat} {lv : List (Nat × Value)} {st : List Value} {d' mc' ms' : Nat} {As st0 : List Value} {P : Int32 → gMem → Prop} {a : Nat} {fs : List Value} (hM : gC l D cy b yX11_same cX11_same 5 (some .int) d' mc' ms' (.ref a :: As) f (pI P)) (hf : f a = some (.inr (11, fs))) (hR : d' + 1 ≤ R.frames ∧ 64 * (d' + 1) ≤ R.locals) (hcs : cells + mc' ≤ R.cells ∧ slots + ms' ≤ R.slots) (hn : As.length = 2) (hst : st0 = As.reverse ++ .ref a :: st) (hsum : (st.map fun v => v.category).sum ≤ 8) (hdg : decode cc pc = .ok (.invokevirtual 51, 3)) (k : ∀ (v : Int32) (f2 : gMem), P v f2 → gG l R Qf Ex D cy b cc nL ret RL nm (cells + mc') (slots + ms') f2 (pc + 3) lv (.int v :: st)) : gG l R Qf Ex D cy b cc nL ret RL nm cells slots f pc lv st0 := gz_callV (T := TX11) (N := 13) hM hf rfl wd_1152 ⟨wd_1153, wd_1154, wd_1155, wd_213⟩ ⟨rfl, by decide, by decide, by decide +kernel⟩ ⟨hR.1, by omega⟩ hcs hn hst hsum hdg (fun r f2 h => by obtain ⟨v, rfl, h⟩ := h; exact k v f2 h)
theorem scL_54 {l : Launch} {R : Room} {Qf : List Frame → Array Value → State → State → Prop} {Ex : State → Prop} {D : va_G} {cy : Nat → ClassId} {b : Nat} {cc : ByteArray} {nL : Nat} {ret : Option FieldType} {nm : String} {cells slots : Nat} {f : gMem} {pc : Nat} {lv : List (Nat × Value)} {st : List Value} {d' mc' ms' : Nat} {As st0 : List Value} {P : Int32 → gMem → Prop} {a : Nat} {fs : List Value} (hM : gC l D cy b yX12_same cX12_same 9 (some .int) d' mc' ms' (.ref a :: As) f (pI P)) (hf : f a = some (.inr (12, fs))) (hR : d' + 1 ≤ R.frames ∧ 64 * (d' + 1) ≤ R.locals) (hcs : cells + mc' ≤ R.cells ∧ slots + ms' ≤ R.slots) (hn : As.length = 2) (hst : st0 = As.reverse ++ .ref a :: st) (hsum : (st.map fun v => v.category).sum ≤ 8) (hdg : decode cc pc = .ok (.invokevirtual 54, 3)) (k : ∀ (v : Int32) (f2 : gMem), P v f2 → gG l R Qf Ex D cy b cc nL ret RL nm (cells + mc') (slots + ms') f2 (pc + 3) lv (.int v :: st)) : gG l R Qf Ex D cy b cc nL ret RL nm cells slots f pc lv st0 := gz_callV (T := TX12) (N := 90) hM hf rfl wd_1156 ⟨wd_1157, wd_1158, wd_1159, wd_782⟩ ⟨rfl, by decide, by decide, by decide +kernel⟩ ⟨hR.1, by omega⟩ hcs hn hst hsum hdg (fun r f2 h => by obtain ⟨v, rfl, h⟩ := h; exact k v f2 h)
theorem scL_55 {l : Launch} {R : Room} {Qf : List Frame → Array Value → State → State → Prop} {Ex : State → Prop} {D : va_G} {cy : Nat → ClassId} {b : Nat} {cc : ByteArray} {nL : Nat} {ret : Option FieldType} {nm : String} {cells slots : Nat} {f : gMem} {pc : Nat} {lv : List (Nat × Value)} {st : List Value} {d' mc' ms' : Nat} {As st0 : List Value} {P : Int32 → gMem → Prop} {a : Nat} {fs : List Value} (hM : gC l D cy b yX11_tell cX11_tell 3 (some .int) d' mc' ms' (.ref a :: As) f (pI P)) (hf : f a = some (.inr (11, fs))) (hR : d' + 1 ≤ R.frames ∧ 64 * (d' + 1) ≤ R.locals) (hcs : cells + mc' ≤ R.cells ∧ slots + ms' ≤ R.slots) (hn : As.length = 1) (hst : st0 = As.reverse ++ .ref a :: st) (hsum : (st.map fun v => v.category).sum ≤ 8) (hdg : decode cc pc = .ok (.invokevirtual 55, 3)) (k : ∀ (v : Int32) (f2 : gMem), P v f2 → gG l R Qf Ex D cy b cc nL ret RL nm (cells + mc') (slots + ms') f2 (pc + 3) lv (.int v :: st)) : gG l R Qf Ex D cy b cc nL ret RL nm cells slots f pc lv st0 := gz_callV (T := TX11) (N := 13) hM hf rfl wd_1160 ⟨wd_1161, wd_1162, wd_1163, wd_213⟩ ⟨rfl, by decide, by decide, by decide +kernel⟩ ⟨hR.1, by omega⟩ hcs hn hst hsum hdg (fun r f2 h => by obtain ⟨v, rfl, h⟩ := h; exact k v f2 h)
theorem scL_58 {l : Launch} {R : Room} {Qf : List Frame → Array Value → State → State → Prop} {Ex : State → Prop} {D : va_G} {cy : Nat → ClassId} {b : Nat} {cc : ByteArray} {nL : Nat} {ret : Option FieldType} {nm : String} {cells slots : Nat} {f : gMem} {pc : Nat} {lv : List (Nat × Value)} {st : List Value} {d' mc' ms' : Nat} {As st0 : List Value} {P : Int32 → gMem → Prop} {a : Nat} {fs : List Value} (hM : gC l D cy b yX12_tell cX12_tell 4 (some .int) d' mc' ms' (.ref a :: As) f (pI P)) (hf : f a = some (.inr (12, fs))) (hR : d' + 1 ≤ R.frames ∧ 64 * (d' + 1) ≤ R.locals) (hcs : cells + mc' ≤ R.cells ∧ slots + ms' ≤ R.slots) (hn : As.length = 1) (hst : st0 = As.reverse ++ .ref a :: st) (hsum : (st.map fun v => v.category).sum ≤ 8) (hdg : decode cc pc = .ok (.invokevirtual 58, 3)) (k : ∀ (v : Int32) (f2 : gMem), P v f2 → gG l R Qf Ex D cy b cc nL ret RL nm (cells + mc') (slots + ms') f2 (pc + 3) lv (.int v :: st)) : gG l R Qf Ex D cy b cc nL ret RL nm cells slots f pc lv st0 := gz_callV (T := TX12) (N := 90) hM hf rfl wd_1164 ⟨wd_1165, wd_1166, wd_1167, wd_782⟩ ⟨rfl, by decide, by decide, by decide +kernel⟩ ⟨hR.1, by omega⟩ hcs hn hst hsum hdg (fun r f2 h => by obtain ⟨v, rfl, h⟩ := h; exact k v f2 h)
theorem scL_59 {l : Launch} {R : Room} {Qf : List Frame → Array Value → State → State → Prop} {Ex : State → Prop} {D : va_G} {cy : Nat → ClassId} {b : Nat} {cc : ByteArray} {nL : Nat} {ret : Option FieldType} {nm : String} {cells slots : Nat} {f : gMem} {pc : Nat} {lv : List (Nat × Value)} {st : List Value} {d' mc' ms' : Nat} {As st0 : List Value} {P : Int32 → gMem → Prop} {a : Nat} {fs : List Value} (hM : gC l D cy b yX11_octet cX11_octet 2 (some .int) d' mc' ms' (.ref a :: As) f (pI P)) (hf : f a = some (.inr (11, fs))) (hR : d' + 1 ≤ R.frames ∧ 64 * (d' + 1) ≤ R.locals) (hcs : cells + mc' ≤ R.cells ∧ slots + ms' ≤ R.slots) (hn : As.length = 1) (hst : st0 = As.reverse ++ .ref a :: st) (hsum : (st.map fun v => v.category).sum ≤ 8) (hdg : decode cc pc = .ok (.invokevirtual 59, 3)) (k : ∀ (v : Int32) (f2 : gMem), P v f2 → gG l R Qf Ex D cy b cc nL ret RL nm (cells + mc') (slots + ms') f2 (pc + 3) lv (.int v :: st)) : gG l R Qf Ex D cy b cc nL ret RL nm cells slots f pc lv st0 := gz_callV (T := TX11) (N := 13) hM hf rfl wd_1168 ⟨wd_1169, wd_1170, wd_1171, wd_213⟩ ⟨rfl, by decide, by decide, by decide +kernel⟩ ⟨hR.1, by omega⟩ hcs hn hst hsum hdg (fun r f2 h => by obtain ⟨v, rfl, h⟩ := h; exact k v f2 h)
theorem scL_62 {l : Launch} {R : Room} {Qf : List Frame → Array Value → State → State → Prop} {Ex : State → Prop} {D : va_G} {cy : Nat → ClassId} {b : Nat} {cc : ByteArray} {nL : Nat} {ret : Option FieldType} {nm : String} {cells slots : Nat} {f : gMem} {pc : Nat} {lv : List (Nat × Value)} {st : List Value} {d' mc' ms' : Nat} {As st0 : List Value} {P : Int32 → gMem → Prop} {a : Nat} {fs : List Value} (hM : gC l D cy b yX12_octet cX12_octet 2 (some .int) d' mc' ms' (.ref a :: As) f (pI P)) (hf : f a = some (.inr (12, fs))) (hR : d' + 1 ≤ R.frames ∧ 64 * (d' + 1) ≤ R.locals) (hcs : cells + mc' ≤ R.cells ∧ slots + ms' ≤ R.slots) (hn : As.length = 1) (hst : st0 = As.reverse ++ .ref a :: st) (hsum : (st.map fun v => v.category).sum ≤ 8) (hdg : decode cc pc = .ok (.invokevirtual 62, 3)) (k : ∀ (v : Int32) (f2 : gMem), P v f2 → gG l R Qf Ex D cy b cc nL ret RL nm (cells + mc') (slots + ms') f2 (pc + 3) lv (.int v :: st)) : gG l R Qf Ex D cy b cc nL ret RL nm cells slots f pc lv st0 := gz_callV (T := TX12) (N := 90) hM hf rfl wd_1172 ⟨wd_1173, wd_1174, wd_1175, wd_782⟩ ⟨rfl, by decide, by decide, by decide +kernel⟩ ⟨hR.1, by omega⟩ hcs hn hst hsum hdg (fun r f2 h => by obtain ⟨v, rfl, h⟩ := h; exact k v f2 h)
theorem scL_63 {l : Launch} {R : Room} {Qf : List Frame → Array Value → State → State → Prop} {Ex : State → Prop} {D : va_G} {cy : Nat → ClassId} {b : Nat} {cc : ByteArray} {nL : Nat} {ret : Option FieldType} {nm : String} {cells slots : Nat} {f : gMem} {pc : Nat} {lv : List (Nat × Value)} {st : List Value} {d' mc' ms' : Nat} {As st0 : List Value} {P : Int32 → gMem → Prop} {a : Nat} {fs : List Value} (hM : gC l D cy b yX11_begin cX11_begin 5 (some .int) d' mc' ms' (.ref a :: As) f (pI P)) (hf : f a = some (.inr (11, fs))) (hR : d' + 1 ≤ R.frames ∧ 64 * (d' + 1) ≤ R.locals) (hcs : cells + mc' ≤ R.cells ∧ slots + ms' ≤ R.slots) (hn : As.length = 3) (hst : st0 = As.reverse ++ .ref a :: st) (hsum : (st.map fun v => v.category).sum ≤ 8) (hdg : decode cc pc = .ok (.invokevirtual 63, 3)) (k : ∀ (v : Int32) (f2 : gMem), P v f2 → gG l R Qf Ex D cy b cc nL ret RL nm (cells + mc') (slots + ms') f2 (pc + 3) lv (.int v :: st)) : gG l R Qf Ex D cy b cc nL ret RL nm cells slots f pc lv st0 := gz_callV (T := TX11) (N := 13) hM hf rfl wd_1176 ⟨wd_1177, wd_1178, wd_1179, wd_213⟩ ⟨rfl, by decide, by decide, by decide +kernel⟩ ⟨hR.1, by omega⟩ hcs hn hst hsum hdg (fun r f2 h => by obtain ⟨v, rfl, h⟩ := h; exact k v f2 h)
theorem scL_66 {l : Launch} {R : Room} {Qf : List Frame → Array Value → State → State → Prop} {Ex : State → Prop} {D : va_G} {cy : Nat → ClassId} {b : Nat} {cc : ByteArray} {nL : Nat} {ret : Option FieldType} {nm : String} {cells slots : Nat} {f : gMem} {pc : Nat} {lv : List (Nat × Value)} {st : List Value} {d' mc' ms' : Nat} {As st0 : List Value} {P : Int32 → gMem → Prop} {a : Nat} {fs : List Value} (hM : gC l D cy b yX12_begin cX12_begin 4 (some .int) d' mc' ms' (.ref a :: As) f (pI P)) (hf : f a = some (.inr (12, fs))) (hR : d' + 1 ≤ R.frames ∧ 64 * (d' + 1) ≤ R.locals) (hcs : cells + mc' ≤ R.cells ∧ slots + ms' ≤ R.slots) (hn : As.length = 3) (hst : st0 = As.reverse ++ .ref a :: st) (hsum : (st.map fun v => v.category).sum ≤ 8) (hdg : decode cc pc = .ok (.invokevirtual 66, 3)) (k : ∀ (v : Int32) (f2 : gMem), P v f2 → gG l R Qf Ex D cy b cc nL ret RL nm (cells + mc') (slots + ms') f2 (pc + 3) lv (.int v :: st)) : gG l R Qf Ex D cy b cc nL ret RL nm cells slots f pc lv st0 := gz_callV (T := TX12) (N := 90) hM hf rfl wd_1180 ⟨wd_1181, wd_1182, wd_1183, wd_782⟩ ⟨rfl, by decide, by decide, by decide +kernel⟩ ⟨hR.1, by omega⟩ hcs hn hst hsum hdg (fun r f2 h => by obtain ⟨v, rfl, h⟩ := h; exact k v f2 h)
theorem scL_67 {l : Launch} {R : Room} {Qf : List Frame → Array Value → State → State → Prop} {Ex : State → Prop} {D : va_G} {cy : Nat → ClassId} {b : Nat} {cc : ByteArray} {nL : Nat} {ret : Option FieldType} {nm : String} {cells slots : Nat} {f : gMem} {pc : Nat} {lv : List (Nat × Value)} {st : List Value} {d' mc' ms' : Nat} {As st0 : List Value} {P : Int32 → gMem → Prop} {a : Nat} {fs : List Value} (hM : gC l D cy b yX11_day cX11_day 3 (some .int) d' mc' ms' (.ref a :: As) f (pI P)) (hf : f a = some (.inr (11, fs))) (hR : d' + 1 ≤ R.frames ∧ 64 * (d' + 1) ≤ R.locals) (hcs : cells + mc' ≤ R.cells ∧ slots + ms' ≤ R.slots) (hn : As.length = 0) (hst : st0 = As.reverse ++ .ref a :: st) (hsum : (st.map fun v => v.category).sum ≤ 8) (hdg : decode cc pc = .ok (.invokevirtual 67, 3)) (k : ∀ (v : Int32) (f2 : gMem), P v f2 → gG l R Qf Ex D cy b cc nL ret RL nm (cells + mc') (slots + ms') f2 (pc + 3) lv (.int v :: st)) : gG l R Qf Ex D cy b cc nL ret RL nm cells slots f pc lv st0 := gz_callV (T := TX11) (N := 13) hM hf rfl wd_1184 ⟨wd_1185, wd_1186, wd_1187, wd_213⟩ ⟨rfl, by decide, by decide, by decide +kernel⟩ ⟨hR.1, by omega⟩ hcs hn hst hsum hdg (fun r f2 h => by obtain ⟨v, rfl, h⟩ := h; exact k v f2 h)
theorem scL_70 {l : Launch} {R : Room} {Qf : List Frame → Array Value → State → State → Prop} {Ex : State → Prop} {D : va_G} {cy : Nat → ClassId} {b : Nat} {cc : ByteArray} {nL : Nat} {ret : Option FieldType} {nm : String} {cells slots : Nat} {f : gMem} {pc : Nat} {lv : List (Nat × Value)} {st : List Value} {d' mc' ms' : Nat} {As st0 : List Value} {P : Int32 → gMem → Prop} {a : Nat} {fs : List Value} (hM : gC l D cy b yX12_day cX12_day 10 (some .int) d' mc' ms' (.ref a :: As) f (pI P)) (hf : f a = some (.inr (12, fs))) (hR : d' + 1 ≤ R.frames ∧ 64 * (d' + 1) ≤ R.locals) (hcs : cells + mc' ≤ R.cells ∧ slots + ms' ≤ R.slots) (hn : As.length = 0) (hst : st0 = As.reverse ++ .ref a :: st) (hsum : (st.map fun v => v.category).sum ≤ 8) (hdg : decode cc pc = .ok (.invokevirtual 70, 3)) (k : ∀ (v : Int32) (f2 : gMem), P v f2 → gG l R Qf Ex D cy b cc nL ret RL nm (cells + mc') (slots + ms') f2 (pc + 3) lv (.int v :: st)) : gG l R Qf Ex D cy b cc nL ret RL nm cells slots f pc lv st0 := gz_callV (T := TX12) (N := 90) hM hf rfl wd_1188 ⟨wd_1189, wd_1190, wd_1191, wd_782⟩ ⟨rfl, by decide, by decide, by decide +kernel⟩ ⟨hR.1, by omega⟩ hcs hn hst hsum hdg (fun r f2 h => by obtain ⟨v, rfl, h⟩ := h; exact k v f2 h)
theorem scL_71 {l : Launch} {R : Room} {Qf : List Frame → Array Value → State → State → Prop} {Ex : State → Prop} {D : va_G} {cy : Nat → ClassId} {b : Nat} {cc : ByteArray} {nL : Nat} {ret : Option FieldType} {nm : String} {cells slots : Nat} {f : gMem} {pc : Nat} {lv : List (Nat × Value)} {st : List Value} {d' mc' ms' : Nat} {As st0 : List Value} {P : Int32 → gMem → Prop} {a : Nat} {fs : List Value} (hM : gC l D cy b yX11_stands cX11_stands 3 (some .int) d' mc' ms' (.ref a :: As) f (pI P)) (hf : f a = some (.inr (11, fs))) (hR : d' + 1 ≤ R.frames ∧ 64 * (d' + 1) ≤ R.locals) (hcs : cells + mc' ≤ R.cells ∧ slots + ms' ≤ R.slots) (hn : As.length = 1) (hst : st0 = As.reverse ++ .ref a :: st) (hsum : (st.map fun v => v.category).sum ≤ 8) (hdg : decode cc pc = .ok (.invokevirtual 71, 3)) (k : ∀ (v : Int32) (f2 : gMem), P v f2 → gG l R Qf Ex D cy b cc nL ret RL nm (cells + mc') (slots + ms') f2 (pc + 3) lv (.int v :: st)) : gG l R Qf Ex D cy b cc nL ret RL nm cells slots f pc lv st0 := gz_callV (T := TX11) (N := 13) hM hf rfl wd_1192 ⟨wd_1193, wd_1194, wd_1195, wd_213⟩ ⟨rfl, by decide, by decide, by decide +kernel⟩ ⟨hR.1, by omega⟩ hcs hn hst hsum hdg (fun r f2 h => by obtain ⟨v, rfl, h⟩ := h; exact k v f2 h)
theorem scL_74 {l : Launch} {R : Room} {Qf : List Frame → Array Value → State → State → Prop} {Ex : State → Prop} {D : va_G} {cy : Nat → ClassId} {b : Nat} {cc : ByteArray} {nL : Nat} {ret : Option FieldType} {nm : String} {cells slots : Nat} {f : gMem} {pc : Nat} {lv : List (Nat × Value)} {st : List Value} {d' mc' ms' : Nat} {As st0 : List Value} {P : Int32 → gMem → Prop} {a : Nat} {fs : List Value} (hM : gC l D cy b yX12_stands cX12_stands 2 (some .int) d' mc' ms' (.ref a :: As) f (pI P)) (hf : f a = some (.inr (12, fs))) (hR : d' + 1 ≤ R.frames ∧ 64 * (d' + 1) ≤ R.locals) (hcs : cells + mc' ≤ R.cells ∧ slots + ms' ≤ R.slots) (hn : As.length = 1) (hst : st0 = As.reverse ++ .ref a :: st) (hsum : (st.map fun v => v.category).sum ≤ 8) (hdg : decode cc pc = .ok (.invokevirtual 74, 3)) (k : ∀ (v : Int32) (f2 : gMem), P v f2 → gG l R Qf Ex D cy b cc nL ret RL nm (cells + mc') (slots + ms') f2 (pc + 3) lv (.int v :: st)) : gG l R Qf Ex D cy b cc nL ret RL nm cells slots f pc lv st0 := gz_callV (T := TX12) (N := 90) hM hf rfl wd_1196 ⟨wd_1197, wd_1198, wd_1199, wd_782⟩ ⟨rfl, by decide, by decide, by decide +kernel⟩ ⟨hR.1, by omega⟩ hcs hn hst hsum hdg (fun r f2 h => by obtain ⟨v, rfl, h⟩ := h; exact k v f2 h)
theorem scL_75 {l : Launch} {R : Room} {Qf : List Frame → Array Value → State → State → Prop} {Ex : State → Prop} {D : va_G} {cy : Nat → ClassId} {b : Nat} {cc : ByteArray} {nL : Nat} {ret : Option FieldType} {nm : String} {cells slots : Nat} {f : gMem} {pc : Nat} {lv : List (Nat × Value)} {st : List Value} {d' mc' ms' : Nat} {As st0 : List Value} {P : Int32 → gMem → Prop} {a : Nat} {fs : List Value} (hM : gC l D cy b yX11_standing cX11_standing 5 (some .int) d' mc' ms' (.ref a :: As) f (pI P)) (hf : f a = some (.inr (11, fs))) (hR : d' + 1 ≤ R.frames ∧ 64 * (d' + 1) ≤ R.locals) (hcs : cells + mc' ≤ R.cells ∧ slots + ms' ≤ R.slots) (hn : As.length = 3) (hst : st0 = As.reverse ++ .ref a :: st) (hsum : (st.map fun v => v.category).sum ≤ 8) (hdg : decode cc pc = .ok (.invokevirtual 75, 3)) (k : ∀ (v : Int32) (f2 : gMem), P v f2 → gG l R Qf Ex D cy b cc nL ret RL nm (cells + mc') (slots + ms') f2 (pc + 3) lv (.int v :: st)) : gG l R Qf Ex D cy b cc nL ret RL nm cells slots f pc lv st0 := gz_callV (T := TX11) (N := 13) hM hf rfl wd_1200 ⟨wd_1201, wd_1202, wd_1203, wd_213⟩ ⟨rfl, by decide, by decide, by decide +kernel⟩ ⟨hR.1, by omega⟩ hcs hn hst hsum hdg (fun r f2 h => by obtain ⟨v, rfl, h⟩ := h; exact k v f2 h)
theorem scL_78 {l : Launch} {R : Room} {Qf : List Frame → Array Value → State → State → Prop} {Ex : State → Prop} {D : va_G} {cy : Nat → ClassId} {b : Nat} {cc : ByteArray} {nL : Nat} {ret : Option FieldType} {nm : String} {cells slots : Nat} {f : gMem} {pc : Nat} {lv : List (Nat × Value)} {st : List Value} {d' mc' ms' : Nat} {As st0 : List Value} {P : Int32 → gMem → Prop} {a : Nat} {fs : List Value} (hM : gC l D cy b yX12_standing cX12_standing 5 (some .int) d' mc' ms' (.ref a :: As) f (pI P)) (hf : f a = some (.inr (12, fs))) (hR : d' + 1 ≤ R.frames ∧ 64 * (d' + 1) ≤ R.locals) (hcs : cells + mc' ≤ R.cells ∧ slots + ms' ≤ R.slots) (hn : As.length = 3) (hst : st0 = As.reverse ++ .ref a :: st) (hsum : (st.map fun v => v.category).sum ≤ 8) (hdg : decode cc pc = .ok (.invokevirtual 78, 3)) (k : ∀ (v : Int32) (f2 : gMem), P v f2 → gG l R Qf Ex D cy b cc nL ret RL nm (cells + mc') (slots + ms') f2 (pc + 3) lv (.int v :: st)) : gG l R Qf Ex D cy b cc nL ret RL nm cells slots f pc lv st0 := gz_callV (T := TX12) (N := 90) hM hf rfl wd_1204 ⟨wd_1205, wd_1206, wd_1207, wd_782⟩ ⟨rfl, by decide, by decide, by decide +kernel⟩ ⟨hR.1, by omega⟩ hcs hn hst hsum hdg (fun r f2 h => by obtain ⟨v, rfl, h⟩ := h; exact k v f2 h)
theorem scL_79 {l : Launch} {R : Room} {Qf : List Frame → Array Value → State → State → Prop} {Ex : State → Prop} {D : va_G} {cy : Nat → ClassId} {b : Nat} {cc : ByteArray} {nL : Nat} {ret : Option FieldType} {nm : String} {cells slots : Nat} {f : gMem} {pc : Nat} {lv : List (Nat × Value)} {st : List Value} {d' mc' ms' : Nat} {As st0 : List Value} {P : Int32 → gMem → Prop} {a : Nat} {fs : List Value} (hM : gC l D cy b yX11_choose cX11_choose 5 (some .int) d' mc' ms' (.ref a :: As) f (pI P)) (hf : f a = some (.inr (11, fs))) (hR : d' + 1 ≤ R.frames ∧ 64 * (d' + 1) ≤ R.locals) (hcs : cells + mc' ≤ R.cells ∧ slots + ms' ≤ R.slots) (hn : As.length = 4) (hst : st0 = As.reverse ++ .ref a :: st) (hsum : (st.map fun v => v.category).sum ≤ 8) (hdg : decode cc pc = .ok (.invokevirtual 79, 3)) (k : ∀ (v : Int32) (f2 : gMem), P v f2 → gG l R Qf Ex D cy b cc nL ret RL nm (cells + mc') (slots + ms') f2 (pc + 3) lv (.int v :: st)) : gG l R Qf Ex D cy b cc nL ret RL nm cells slots f pc lv st0 := gz_callV (T := TX11) (N := 13) hM hf rfl wd_1208 ⟨wd_1209, wd_1210, wd_1211, wd_213⟩ ⟨rfl, by decide, by decide, by decide +kernel⟩ ⟨hR.1, by omega⟩ hcs hn hst hsum hdg (fun r f2 h => by obtain ⟨v, rfl, h⟩ := h; exact k v f2 h)
theorem scL_83 {l : Launch} {R : Room} {Qf : List Frame → Array Value → State → State → Prop} {Ex : State → Prop} {D : va_G} {cy : Nat → ClassId} {b : Nat} {cc : ByteArray} {nL : Nat} {ret : Option FieldType} {nm : String} {cells slots : Nat} {f : gMem} {pc : Nat} {lv : List (Nat × Value)} {st : List Value} {d' mc' ms' : Nat} {As st0 : List Value} {P : Int32 → gMem → Prop} {a : Nat} {fs : List Value} (hM : gC l D cy b yX12_choose cX12_choose 9 (some .int) d' mc' ms' (.ref a :: As) f (pI P)) (hf : f a = some (.inr (12, fs))) (hR : d' + 1 ≤ R.frames ∧ 64 * (d' + 1) ≤ R.locals) (hcs : cells + mc' ≤ R.cells ∧ slots + ms' ≤ R.slots) (hn : As.length = 4) (hst : st0 = As.reverse ++ .ref a :: st) (hsum : (st.map fun v => v.category).sum ≤ 8) (hdg : decode cc pc = .ok (.invokevirtual 83, 3)) (k : ∀ (v : Int32) (f2 : gMem), P v f2 → gG l R Qf Ex D cy b cc nL ret RL nm (cells + mc') (slots + ms') f2 (pc + 3) lv (.int v :: st)) : gG l R Qf Ex D cy b cc nL ret RL nm cells slots f pc lv st0 := gz_callV (T := TX12) (N := 90) hM hf rfl wd_1212 ⟨wd_1213, wd_1214, wd_1215, wd_782⟩ ⟨rfl, by decide, by decide, by decide +kernel⟩ ⟨hR.1, by omega⟩ hcs hn hst hsum hdg (fun r f2 h => by obtain ⟨v, rfl, h⟩ := h; exact k v f2 h)
theorem scL_84 {l : Launch} {R : Room} {Qf : List Frame → Array Value → State → State → Prop} {Ex : State → Prop} {D : va_G} {cy : Nat → ClassId} {b : Nat} {cc : ByteArray} {nL : Nat} {ret : Option FieldType} {nm : String} {cells slots : Nat} {f : gMem} {pc : Nat} {lv : List (Nat × Value)} {st : List Value} {d' mc' ms' : Nat} {As st0 : List Value} {P : Int32 → gMem → Prop} {a : Nat} {fs : List Value} (hM : gC l D cy b yX11_take cX11_take 4 (some .int) d' mc' ms' (.ref a :: As) f (pI P)) (hf : f a = some (.inr (11, fs))) (hR : d' + 1 ≤ R.frames ∧ 64 * (d' + 1) ≤ R.locals) (hcs : cells + mc' ≤ R.cells ∧ slots + ms' ≤ R.slots) (hn : As.length = 3) (hst : st0 = As.reverse ++ .ref a :: st) (hsum : (st.map fun v => v.category).sum ≤ 8) (hdg : decode cc pc = .ok (.invokevirtual 84, 3)) (k : ∀ (v : Int32) (f2 : gMem), P v f2 → gG l R Qf Ex D cy b cc nL ret RL nm (cells + mc') (slots + ms') f2 (pc + 3) lv (.int v :: st)) : gG l R Qf Ex D cy b cc nL ret RL nm cells slots f pc lv st0 := gz_callV (T := TX11) (N := 13) hM hf rfl wd_1216 ⟨wd_1217, wd_1218, wd_1219, wd_213⟩ ⟨rfl, by decide, by decide, by decide +kernel⟩ ⟨hR.1, by omega⟩ hcs hn hst hsum hdg (fun r f2 h => by obtain ⟨v, rfl, h⟩ := h; exact k v f2 h)
theorem scL_87 {l : Launch} {R : Room} {Qf : List Frame → Array Value → State → State → Prop} {Ex : State → Prop} {D : va_G} {cy : Nat → ClassId} {b : Nat} {cc : ByteArray} {nL : Nat} {ret : Option FieldType} {nm : String} {cells slots : Nat} {f : gMem} {pc : Nat} {lv : List (Nat × Value)} {st : List Value} {d' mc' ms' : Nat} {As st0 : List Value} {P : Int32 → gMem → Prop} {a : Nat} {fs : List Value} (hM : gC l D cy b yX12_take cX12_take 8 (some .int) d' mc' ms' (.ref a :: As) f (pI P)) (hf : f a = some (.inr (12, fs))) (hR : d' + 1 ≤ R.frames ∧ 64 * (d' + 1) ≤ R.locals) (hcs : cells + mc' ≤ R.cells ∧ slots + ms' ≤ R.slots) (hn : As.length = 3) (hst : st0 = As.reverse ++ .ref a :: st) (hsum : (st.map fun v => v.category).sum ≤ 8) (hdg : decode cc pc = .ok (.invokevirtual 87, 3)) (k : ∀ (v : Int32) (f2 : gMem), P v f2 → gG l R Qf Ex D cy b cc nL ret RL nm (cells + mc') (slots + ms') f2 (pc + 3) lv (.int v :: st)) : gG l R Qf Ex D cy b cc nL ret RL nm cells slots f pc lv st0 := gz_callV (T := TX12) (N := 90) hM hf rfl wd_1220 ⟨wd_1221, wd_1222, wd_1223, wd_782⟩ ⟨rfl, by decide, by decide, by decide +kernel⟩ ⟨hR.1, by omega⟩ hcs hn hst hsum hdg (fun r f2 h => by obtain ⟨v, rfl, h⟩ := h; exact k v f2 h)
theorem scL_88 {l : Launch} {R : Room} {Qf : List Frame → Array Value → State → State → Prop} {Ex : State → Prop} {D : va_G} {cy : Nat → ClassId} {b : Nat} {cc : ByteArray} {nL : Nat} {ret : Option FieldType} {nm : String} {cells slots : Nat} {f : gMem} {pc : Nat} {lv : List (Nat × Value)} {st : List Value} {d' mc' ms' : Nat} {As st0 : List Value} {P : Int32 → gMem → Prop} {a : Nat} {fs : List Value} (hM : gC l D cy b yX11_payment cX11_payment 3 (some .int) d' mc' ms' (.ref a :: As) f (pI P)) (hf : f a = some (.inr (11, fs))) (hR : d' + 1 ≤ R.frames ∧ 64 * (d' + 1) ≤ R.locals) (hcs : cells + mc' ≤ R.cells ∧ slots + ms' ≤ R.slots) (hn : As.length = 2) (hst : st0 = As.reverse ++ .ref a :: st) (hsum : (st.map fun v => v.category).sum ≤ 8) (hdg : decode cc pc = .ok (.invokevirtual 88, 3)) (k : ∀ (v : Int32) (f2 : gMem), P v f2 → gG l R Qf Ex D cy b cc nL ret RL nm (cells + mc') (slots + ms') f2 (pc + 3) lv (.int v :: st)) : gG l R Qf Ex D cy b cc nL ret RL nm cells slots f pc lv st0 := gz_callV (T := TX11) (N := 13) hM hf rfl wd_1224 ⟨wd_1225, wd_1226, wd_1227, wd_213⟩ ⟨rfl, by decide, by decide, by decide +kernel⟩ ⟨hR.1, by omega⟩ hcs hn hst hsum hdg (fun r f2 h => by obtain ⟨v, rfl, h⟩ := h; exact k v f2 h)
theorem scL_91 {l : Launch} {R : Room} {Qf : List Frame → Array Value → State → State → Prop} {Ex : State → Prop} {D : va_G} {cy : Nat → ClassId} {b : Nat} {cc : ByteArray} {nL : Nat} {ret : Option FieldType} {nm : String} {cells slots : Nat} {f : gMem} {pc : Nat} {lv : List (Nat × Value)} {st : List Value} {d' mc' ms' : Nat} {As st0 : List Value} {P : Int32 → gMem → Prop} {a : Nat} {fs : List Value} (hM : gC l D cy b yX12_payment cX12_payment 3 (some .int) d' mc' ms' (.ref a :: As) f (pI P)) (hf : f a = some (.inr (12, fs))) (hR : d' + 1 ≤ R.frames ∧ 64 * (d' + 1) ≤ R.locals) (hcs : cells + mc' ≤ R.cells ∧ slots + ms' ≤ R.slots) (hn : As.length = 2) (hst : st0 = As.reverse ++ .ref a :: st) (hsum : (st.map fun v => v.category).sum ≤ 8) (hdg : decode cc pc = .ok (.invokevirtual 91, 3)) (k : ∀ (v : Int32) (f2 : gMem), P v f2 → gG l R Qf Ex D cy b cc nL ret RL nm (cells + mc') (slots + ms') f2 (pc + 3) lv (.int v :: st)) : gG l R Qf Ex D cy b cc nL ret RL nm cells slots f pc lv st0 := gz_callV (T := TX12) (N := 90) hM hf rfl wd_1228 ⟨wd_1229, wd_1230, wd_1231, wd_782⟩ ⟨rfl, by decide, by decide, by decide +kernel⟩ ⟨hR.1, by omega⟩ hcs hn hst hsum hdg (fun r f2 h => by obtain ⟨v, rfl, h⟩ := h; exact k v f2 h)
theorem scL_92 {l : Launch} {R : Room} {Qf : List Frame → Array Value → State → State → Prop} {Ex : State → Prop} {D : va_G} {cy : Nat → ClassId} {b : Nat} {cc : ByteArray} {nL : Nat} {ret : Option FieldType} {nm : String} {cells slots : Nat} {f : gMem} {pc : Nat} {lv : List (Nat × Value)} {st : List Value} {d' mc' ms' : Nat} {As st0 : List Value} {P : Int64 → gMem → Prop} {a : Nat} {fs : List Value} (hM : gC l D cy b yX11_got cX11_got 3 (some .long) d' mc' ms' (.ref a :: As) f (pL P)) (hf : f a = some (.inr (11, fs))) (hR : d' + 1 ≤ R.frames ∧ 64 * (d' + 1) ≤ R.locals) (hcs : cells + mc' ≤ R.cells ∧ slots + ms' ≤ R.slots) (hn : As.length = 1) (hst : st0 = As.reverse ++ .ref a :: st) (hsum : (st.map fun v => v.category).sum ≤ 8) (hdg : decode cc pc = .ok (.invokevirtual 92, 3)) (k : ∀ (v : Int64) (f2 : gMem), P v f2 → gG l R Qf Ex D cy b cc nL ret RL nm (cells + mc') (slots + ms') f2 (pc + 3) lv (.long v :: st)) : gG l R Qf Ex D cy b cc nL ret RL nm cells slots f pc lv st0 := gz_callV (T := TX11) (N := 13) hM hf rfl wd_1232 ⟨wd_1233, wd_1234, wd_1235, wd_213⟩ ⟨rfl, by decide, by decide, by decide +kernel⟩ ⟨hR.1, by omega⟩ hcs hn hst hsum hdg (fun r f2 h => by obtain ⟨v, rfl, h⟩ := h; exact k v f2 h)
theorem scL_96 {l : Launch} {R : Room} {Qf : List Frame → Array Value → State → State → Prop} {Ex : State → Prop} {D : va_G} {cy : Nat → ClassId} {b : Nat} {cc : ByteArray} {nL : Nat} {ret : Option FieldType} {nm : String} {cells slots : Nat} {f : gMem} {pc : Nat} {lv : List (Nat × Value)} {st : List Value} {d' mc' ms' : Nat} {As st0 : List Value} {P : Int64 → gMem → Prop} {a : Nat} {fs : List Value} (hM : gC l D cy b yX12_got cX12_got 2 (some .long) d' mc' ms' (.ref a :: As) f (pL P)) (hf : f a = some (.inr (12, fs))) (hR : d' + 1 ≤ R.frames ∧ 64 * (d' + 1) ≤ R.locals) (hcs : cells + mc' ≤ R.cells ∧ slots + ms' ≤ R.slots) (hn : As.length = 1) (hst : st0 = As.reverse ++ .ref a :: st) (hsum : (st.map fun v => v.category).sum ≤ 8) (hdg : decode cc pc = .ok (.invokevirtual 96, 3)) (k : ∀ (v : Int64) (f2 : gMem), P v f2 → gG l R Qf Ex D cy b cc nL ret RL nm (cells + mc') (slots + ms') f2 (pc + 3) lv (.long v :: st)) : gG l R Qf Ex D cy b cc nL ret RL nm cells slots f pc lv st0 := gz_callV (T := TX12) (N := 90) hM hf rfl wd_1236 ⟨wd_1237, wd_1238, wd_1239, wd_782⟩ ⟨rfl, by decide, by decide, by decide +kernel⟩ ⟨hR.1, by omega⟩ hcs hn hst hsum hdg (fun r f2 h => by obtain ⟨v, rfl, h⟩ := h; exact k v f2 h)
theorem scL_97 {l : Launch} {R : Room} {Qf : List Frame → Array Value → State → State → Prop} {Ex : State → Prop} {D : va_G} {cy : Nat → ClassId} {b : Nat} {cc : ByteArray} {nL : Nat} {ret : Option FieldType} {nm : String} {cells slots : Nat} {f : gMem} {pc : Nat} {lv : List (Nat × Value)} {st : List Value} {d' mc' ms' : Nat} {As st0 : List Value} {P : Int32 → gMem → Prop} {a : Nat} {fs : List Value} (hM : gC l D cy b yX11_net cX11_net 2 (some .int) d' mc' ms' (.ref a :: As) f (pI P)) (hf : f a = some (.inr (11, fs))) (hR : d' + 1 ≤ R.frames ∧ 64 * (d' + 1) ≤ R.locals) (hcs : cells + mc' ≤ R.cells ∧ slots + ms' ≤ R.slots) (hn : As.length = 1) (hst : st0 = As.reverse ++ .ref a :: st) (hsum : (st.map fun v => v.category).sum ≤ 8) (hdg : decode cc pc = .ok (.invokevirtual 97, 3)) (k : ∀ (v : Int32) (f2 : gMem), P v f2 → gG l R Qf Ex D cy b cc nL ret RL nm (cells + mc') (slots + ms') f2 (pc + 3) lv (.int v :: st)) : gG l R Qf Ex D cy b cc nL ret RL nm cells slots f pc lv st0 := gz_callV (T := TX11) (N := 13) hM hf rfl wd_1240 ⟨wd_1241, wd_1242, wd_1243, wd_213⟩ ⟨rfl, by decide, by decide, by decide +kernel⟩ ⟨hR.1, by omega⟩ hcs hn hst hsum hdg (fun r f2 h => by obtain ⟨v, rfl, h⟩ := h; exact k v f2 h)
theorem scL_100 {l : Launch} {R : Room} {Qf : List Frame → Array Value → State → State → Prop} {Ex : State → Prop} {D : va_G} {cy : Nat → ClassId} {b : Nat} {cc : ByteArray} {nL : Nat} {ret : Option FieldType} {nm : String} {cells slots : Nat} {f : gMem} {pc : Nat} {lv : List (Nat × Value)} {st : List Value} {d' mc' ms' : Nat} {As st0 : List Value} {P : Int32 → gMem → Prop} {a : Nat} {fs : List Value} (hM : gC l D cy b yX12_net cX12_net 6 (some .int) d' mc' ms' (.ref a :: As) f (pI P)) (hf : f a = some (.inr (12, fs))) (hR : d' + 1 ≤ R.frames ∧ 64 * (d' + 1) ≤ R.locals) (hcs : cells + mc' ≤ R.cells ∧ slots + ms' ≤ R.slots) (hn : As.length = 1) (hst : st0 = As.reverse ++ .ref a :: st) (hsum : (st.map fun v => v.category).sum ≤ 8) (hdg : decode cc pc = .ok (.invokevirtual 100, 3)) (k : ∀ (v : Int32) (f2 : gMem), P v f2 → gG l R Qf Ex D cy b cc nL ret RL nm (cells + mc') (slots + ms') f2 (pc + 3) lv (.int v :: st)) : gG l R Qf Ex D cy b cc nL ret RL nm cells slots f pc lv st0 := gz_callV (T := TX12) (N := 90) hM hf rfl wd_1244 ⟨wd_1245, wd_1246, wd_1247, wd_782⟩ ⟨rfl, by decide, by decide, by decide +kernel⟩ ⟨hR.1, by omega⟩ hcs hn hst hsum hdg (fun r f2 h => by obtain ⟨v, rfl, h⟩ := h; exact k v f2 h)
theorem scL_101 {l : Launch} {R : Room} {Qf : List Frame → Array Value → State → State → Prop} {Ex : State → Prop} {D : va_G} {cy : Nat → ClassId} {b : Nat} {cc : ByteArray} {nL : Nat} {ret : Option FieldType} {nm : String} {cells slots : Nat} {f : gMem} {pc : Nat} {lv : List (Nat × Value)} {st : List Value} {d' mc' ms' : Nat} {As st0 : List Value} {P : Int64 → gMem → Prop} {a : Nat} {fs : List Value} (hM : gC l D cy b yX11_netted cX11_netted 3 (some .long) d' mc' ms' (.ref a :: As) f (pL P)) (hf : f a = some (.inr (11, fs))) (hR : d' + 1 ≤ R.frames ∧ 64 * (d' + 1) ≤ R.locals) (hcs : cells + mc' ≤ R.cells ∧ slots + ms' ≤ R.slots) (hn : As.length = 2) (hst : st0 = As.reverse ++ .ref a :: st) (hsum : (st.map fun v => v.category).sum ≤ 8) (hdg : decode cc pc = .ok (.invokevirtual 101, 3)) (k : ∀ (v : Int64) (f2 : gMem), P v f2 → gG l R Qf Ex D cy b cc nL ret RL nm (cells + mc') (slots + ms') f2 (pc + 3) lv (.long v :: st)) : gG l R Qf Ex D cy b cc nL ret RL nm cells slots f pc lv st0 := gz_callV (T := TX11) (N := 13) hM hf rfl wd_1248 ⟨wd_1249, wd_1250, wd_1251, wd_213⟩ ⟨rfl, by decide, by decide, by decide +kernel⟩ ⟨hR.1, by omega⟩ hcs hn hst hsum hdg (fun r f2 h => by obtain ⟨v, rfl, h⟩ := h; exact k v f2 h)
theorem scL_105 {l : Launch} {R : Room} {Qf : List Frame → Array Value → State → State → Prop} {Ex : State → Prop} {D : va_G} {cy : Nat → ClassId} {b : Nat} {cc : ByteArray} {nL : Nat} {ret : Option FieldType} {nm : String} {cells slots : Nat} {f : gMem} {pc : Nat} {lv : List (Nat × Value)} {st : List Value} {d' mc' ms' : Nat} {As st0 : List Value} {P : Int64 → gMem → Prop} {a : Nat} {fs : List Value} (hM : gC l D cy b yX12_netted cX12_netted 3 (some .long) d' mc' ms' (.ref a :: As) f (pL P)) (hf : f a = some (.inr (12, fs))) (hR : d' + 1 ≤ R.frames ∧ 64 * (d' + 1) ≤ R.locals) (hcs : cells + mc' ≤ R.cells ∧ slots + ms' ≤ R.slots) (hn : As.length = 2) (hst : st0 = As.reverse ++ .ref a :: st) (hsum : (st.map fun v => v.category).sum ≤ 8) (hdg : decode cc pc = .ok (.invokevirtual 105, 3)) (k : ∀ (v : Int64) (f2 : gMem), P v f2 → gG l R Qf Ex D cy b cc nL ret RL nm (cells + mc') (slots + ms') f2 (pc + 3) lv (.long v :: st)) : gG l R Qf Ex D cy b cc nL ret RL nm cells slots f pc lv st0 := gz_callV (T := TX12) (N := 90) hM hf rfl wd_1252 ⟨wd_1253, wd_1254, wd_1255, wd_782⟩ ⟨rfl, by decide, by decide, by decide +kernel⟩ ⟨hR.1, by omega⟩ hcs hn hst hsum hdg (fun r f2 h => by obtain ⟨v, rfl, h⟩ := h; exact k v f2 h)
theorem scL_106 {l : Launch} {R : Room} {Qf : List Frame → Array Value → State → State → Prop} {Ex : State → Prop} {D : va_G} {cy : Nat → ClassId} {b : Nat} {cc : ByteArray} {nL : Nat} {ret : Option FieldType} {nm : String} {cells slots : Nat} {f : gMem} {pc : Nat} {lv : List (Nat × Value)} {st : List Value} {d' mc' ms' : Nat} {As st0 : List Value} {P : Int32 → gMem → Prop} {a : Nat} {fs : List Value} (hM : gC l D cy b yX11_ways cX11_ways 2 (some .boolean) d' mc' ms' (.ref a :: As) f (pI P)) (hf : f a = some (.inr (11, fs))) (hR : d' + 1 ≤ R.frames ∧ 64 * (d' + 1) ≤ R.locals) (hcs : cells + mc' ≤ R.cells ∧ slots + ms' ≤ R.slots) (hn : As.length = 1) (hst : st0 = As.reverse ++ .ref a :: st) (hsum : (st.map fun v => v.category).sum ≤ 8) (hdg : decode cc pc = .ok (.invokevirtual 106, 3)) (k : ∀ (v : Int32) (f2 : gMem), P v f2 → gG l R Qf Ex D cy b cc nL ret RL nm (cells + mc') (slots + ms') f2 (pc + 3) lv (.int v :: st)) : gG l R Qf Ex D cy b cc nL ret RL nm cells slots f pc lv st0 := gz_callV (T := TX11) (N := 13) hM hf rfl wd_1256 ⟨wd_1257, wd_1258, wd_1259, wd_213⟩ ⟨rfl, by decide, by decide, by decide +kernel⟩ ⟨hR.1, by omega⟩ hcs hn hst hsum hdg (fun r f2 h => by obtain ⟨v, rfl, h⟩ := h; exact k v f2 h)
theorem scL_110 {l : Launch} {R : Room} {Qf : List Frame → Array Value → State → State → Prop} {Ex : State → Prop} {D : va_G} {cy : Nat → ClassId} {b : Nat} {cc : ByteArray} {nL : Nat} {ret : Option FieldType} {nm : String} {cells slots : Nat} {f : gMem} {pc : Nat} {lv : List (Nat × Value)} {st : List Value} {d' mc' ms' : Nat} {As st0 : List Value} {P : Int32 → gMem → Prop} {a : Nat} {fs : List Value} (hM : gC l D cy b yX12_ways cX12_ways 3 (some .boolean) d' mc' ms' (.ref a :: As) f (pI P)) (hf : f a = some (.inr (12, fs))) (hR : d' + 1 ≤ R.frames ∧ 64 * (d' + 1) ≤ R.locals) (hcs : cells + mc' ≤ R.cells ∧ slots + ms' ≤ R.slots) (hn : As.length = 1) (hst : st0 = As.reverse ++ .ref a :: st) (hsum : (st.map fun v => v.category).sum ≤ 8) (hdg : decode cc pc = .ok (.invokevirtual 110, 3)) (k : ∀ (v : Int32) (f2 : gMem), P v f2 → gG l R Qf Ex D cy b cc nL ret RL nm (cells + mc') (slots + ms') f2 (pc + 3) lv (.int v :: st)) : gG l R Qf Ex D cy b cc nL ret RL nm cells slots f pc lv st0 := gz_callV (T := TX12) (N := 90) hM hf rfl wd_1260 ⟨wd_1261, wd_1262, wd_1263, wd_782⟩ ⟨rfl, by decide, by decide, by decide +kernel⟩ ⟨hR.1, by omega⟩ hcs hn hst hsum hdg (fun r f2 h => by obtain ⟨v, rfl, h⟩ := h; exact k v f2 h)
theorem scL_111 {l : Launch} {R : Room} {Qf : List Frame → Array Value → State → State → Prop} {Ex : State → Prop} {D : va_G} {cy : Nat → ClassId} {b : Nat} {cc : ByteArray} {nL : Nat} {ret : Option FieldType} {nm : String} {cells slots : Nat} {f : gMem} {pc : Nat} {lv : List (Nat × Value)} {st : List Value} {d' mc' ms' : Nat} {As st0 : List Value} {P : Int32 → gMem → Prop} {a : Nat} {fs : List Value} (hM : gC l D cy b yX11_weight cX11_weight 3 (some .boolean) d' mc' ms' (.ref a :: As) f (pI P)) (hf : f a = some (.inr (11, fs))) (hR : d' + 1 ≤ R.frames ∧ 64 * (d' + 1) ≤ R.locals) (hcs : cells + mc' ≤ R.cells ∧ slots + ms' ≤ R.slots) (hn : As.length = 2) (hst : st0 = As.reverse ++ .ref a :: st) (hsum : (st.map fun v => v.category).sum ≤ 8) (hdg : decode cc pc = .ok (.invokevirtual 111, 3)) (k : ∀ (v : Int32) (f2 : gMem), P v f2 → gG l R Qf Ex D cy b cc nL ret RL nm (cells + mc') (slots + ms') f2 (pc + 3) lv (.int v :: st)) : gG l R Qf Ex D cy b cc nL ret RL nm cells slots f pc lv st0 := gz_callV (T := TX11) (N := 13) hM hf rfl wd_1264 ⟨wd_1265, wd_1266, wd_1267, wd_213⟩ ⟨rfl, by decide, by decide, by decide +kernel⟩ ⟨hR.1, by omega⟩ hcs hn hst hsum hdg (fun r f2 h => by obtain ⟨v, rfl, h⟩ := h; exact k v f2 h)
theorem scL_115 {l : Launch} {R : Room} {Qf : List Frame → Array Value → State → State → Prop} {Ex : State → Prop} {D : va_G} {cy : Nat → ClassId} {b : Nat} {cc : ByteArray} {nL : Nat} {ret : Option FieldType} {nm : String} {cells slots : Nat} {f : gMem} {pc : Nat} {lv : List (Nat × Value)} {st : List Value} {d' mc' ms' : Nat} {As st0 : List Value} {P : Int32 → gMem → Prop} {a : Nat} {fs : List Value} (hM : gC l D cy b yX12_weight cX12_weight 3 (some .boolean) d' mc' ms' (.ref a :: As) f (pI P)) (hf : f a = some (.inr (12, fs))) (hR : d' + 1 ≤ R.frames ∧ 64 * (d' + 1) ≤ R.locals) (hcs : cells + mc' ≤ R.cells ∧ slots + ms' ≤ R.slots) (hn : As.length = 2) (hst : st0 = As.reverse ++ .ref a :: st) (hsum : (st.map fun v => v.category).sum ≤ 8) (hdg : decode cc pc = .ok (.invokevirtual 115, 3)) (k : ∀ (v : Int32) (f2 : gMem), P v f2 → gG l R Qf Ex D cy b cc nL ret RL nm (cells + mc') (slots + ms') f2 (pc + 3) lv (.int v :: st)) : gG l R Qf Ex D cy b cc nL ret RL nm cells slots f pc lv st0 := gz_callV (T := TX12) (N := 90) hM hf rfl wd_1268 ⟨wd_1269, wd_1270, wd_1271, wd_782⟩ ⟨rfl, by decide, by decide, by decide +kernel⟩ ⟨hR.1, by omega⟩ hcs hn hst hsum hdg (fun r f2 h => by obtain ⟨v, rfl, h⟩ := h; exact k v f2 h)
theorem scL_116 {l : Launch} {R : Room} {Qf : List Frame → Array Value → State → State → Prop} {Ex : State → Prop} {D : va_G} {cy : Nat → ClassId} {b : Nat} {cc : ByteArray} {nL : Nat} {ret : Option FieldType} {nm : String} {cells slots : Nat} {f : gMem} {pc : Nat} {lv : List (Nat × Value)} {st : List Value} {d' mc' ms' : Nat} {As st0 : List Value} {P : Int32 → gMem → Prop} {a : Nat} {fs : List Value} (hM : gC l D cy b yX11_adds cX11_adds 4 (some .boolean) d' mc' ms' (.ref a :: As) f (pI P)) (hf : f a = some (.inr (11, fs))) (hR : d' + 1 ≤ R.frames ∧ 64 * (d' + 1) ≤ R.locals) (hcs : cells + mc' ≤ R.cells ∧ slots + ms' ≤ R.slots) (hn : As.length = 3) (hst : st0 = As.reverse ++ .ref a :: st) (hsum : (st.map fun v => v.category).sum ≤ 8) (hdg : decode cc pc = .ok (.invokevirtual 116, 3)) (k : ∀ (v : Int32) (f2 : gMem), P v f2 → gG l R Qf Ex D cy b cc nL ret RL nm (cells + mc') (slots + ms') f2 (pc + 3) lv (.int v :: st)) : gG l R Qf Ex D cy b cc nL ret RL nm cells slots f pc lv st0 := gz_callV (T := TX11) (N := 13) hM hf rfl wd_1272 ⟨wd_1273, wd_1274, wd_1275, wd_213⟩ ⟨rfl, by decide, by decide, by decide +kernel⟩ ⟨hR.1, by omega⟩ hcs hn hst hsum hdg (fun r f2 h => by obtain ⟨v, rfl, h⟩ := h; exact k v f2 h)
theorem scL_119 {l : Launch} {R : Room} {Qf : List Frame → Array Value → State → State → Prop} {Ex : State → Prop} {D : va_G} {cy : Nat → ClassId} {b : Nat} {cc : ByteArray} {nL : Nat} {ret : Option FieldType} {nm : String} {cells slots : Nat} {f : gMem} {pc : Nat} {lv : List (Nat × Value)} {st : List Value} {d' mc' ms' : Nat} {As st0 : List Value} {P : Int32 → gMem → Prop} {a : Nat} {fs : List Value} (hM : gC l D cy b yX12_adds cX12_adds 4 (some .boolean) d' mc' ms' (.ref a :: As) f (pI P)) (hf : f a = some (.inr (12, fs))) (hR : d' + 1 ≤ R.frames ∧ 64 * (d' + 1) ≤ R.locals) (hcs : cells + mc' ≤ R.cells ∧ slots + ms' ≤ R.slots) (hn : As.length = 3) (hst : st0 = As.reverse ++ .ref a :: st) (hsum : (st.map fun v => v.category).sum ≤ 8) (hdg : decode cc pc = .ok (.invokevirtual 119, 3)) (k : ∀ (v : Int32) (f2 : gMem), P v f2 → gG l R Qf Ex D cy b cc nL ret RL nm (cells + mc') (slots + ms') f2 (pc + 3) lv (.int v :: st)) : gG l R Qf Ex D cy b cc nL ret RL nm cells slots f pc lv st0 := gz_callV (T := TX12) (N := 90) hM hf rfl wd_1276 ⟨wd_1277, wd_1278, wd_1279, wd_782⟩ ⟨rfl, by decide, by decide, by decide +kernel⟩ ⟨hR.1, by omega⟩ hcs hn hst hsum hdg (fun r f2 h => by obtain ⟨v, rfl, h⟩ := h; exact k v f2 h)
theorem scL_120 {l : Launch} {R : Room} {Qf : List Frame → Array Value → State → State → Prop} {Ex : State → Prop} {D : va_G} {cy : Nat → ClassId} {b : Nat} {cc : ByteArray} {nL : Nat} {ret : Option FieldType} {nm : String} {cells slots : Nat} {f : gMem} {pc : Nat} {lv : List (Nat × Value)} {st : List Value} {d' mc' ms' : Nat} {As st0 : List Value} {P : Int64 → gMem → Prop} {a : Nat} {fs : List Value} (hM : gC l D cy b yX11_worth cX11_worth 5 (some .long) d' mc' ms' (.ref a :: As) f (pL P)) (hf : f a = some (.inr (11, fs))) (hR : d' + 1 ≤ R.frames ∧ 64 * (d' + 1) ≤ R.locals) (hcs : cells + mc' ≤ R.cells ∧ slots + ms' ≤ R.slots) (hn : As.length = 3) (hst : st0 = As.reverse ++ .ref a :: st) (hsum : (st.map fun v => v.category).sum ≤ 8) (hdg : decode cc pc = .ok (.invokevirtual 120, 3)) (k : ∀ (v : Int64) (f2 : gMem), P v f2 → gG l R Qf Ex D cy b cc nL ret RL nm (cells + mc') (slots + ms') f2 (pc + 3) lv (.long v :: st)) : gG l R Qf Ex D cy b cc nL ret RL nm cells slots f pc lv st0 := gz_callV (T := TX11) (N := 13) hM hf rfl wd_1280 ⟨wd_1281, wd_1282, wd_1283, wd_213⟩ ⟨rfl, by decide, by decide, by decide +kernel⟩ ⟨hR.1, by omega⟩ hcs hn hst hsum hdg (fun r f2 h => by obtain ⟨v, rfl, h⟩ := h; exact k v f2 h)
theorem scL_124 {l : Launch} {R : Room} {Qf : List Frame → Array Value → State → State → Prop} {Ex : State → Prop} {D : va_G} {cy : Nat → ClassId} {b : Nat} {cc : ByteArray} {nL : Nat} {ret : Option FieldType} {nm : String} {cells slots : Nat} {f : gMem} {pc : Nat} {lv : List (Nat × Value)} {st : List Value} {d' mc' ms' : Nat} {As st0 : List Value} {P : Int64 → gMem → Prop} {a : Nat} {fs : List Value} (hM : gC l D cy b yX12_worth cX12_worth 5 (some .long) d' mc' ms' (.ref a :: As) f (pL P)) (hf : f a = some (.inr (12, fs))) (hR : d' + 1 ≤ R.frames ∧ 64 * (d' + 1) ≤ R.locals) (hcs : cells + mc' ≤ R.cells ∧ slots + ms' ≤ R.slots) (hn : As.length = 3) (hst : st0 = As.reverse ++ .ref a :: st) (hsum : (st.map fun v => v.category).sum ≤ 8) (hdg : decode cc pc = .ok (.invokevirtual 124, 3)) (k : ∀ (v : Int64) (f2 : gMem), P v f2 → gG l R Qf Ex D cy b cc nL ret RL nm (cells + mc') (slots + ms') f2 (pc + 3) lv (.long v :: st)) : gG l R Qf Ex D cy b cc nL ret RL nm cells slots f pc lv st0 := gz_callV (T := TX12) (N := 90) hM hf rfl wd_1284 ⟨wd_1285, wd_1286, wd_1287, wd_782⟩ ⟨rfl, by decide, by decide, by decide +kernel⟩ ⟨hR.1, by omega⟩ hcs hn hst hsum hdg (fun r f2 h => by obtain ⟨v, rfl, h⟩ := h; exact k v f2 h)
theorem scL_125 {l : Launch} {R : Room} {Qf : List Frame → Array Value → State → State → Prop} {Ex : State → Prop} {D : va_G} {cy : Nat → ClassId} {b : Nat} {cc : ByteArray} {nL : Nat} {ret : Option FieldType} {nm : String} {cells slots : Nat} {f : gMem} {pc : Nat} {lv : List (Nat × Value)} {st : List Value} {d' mc' ms' : Nat} {As st0 : List Value} {P : Int32 → gMem → Prop} {a : Nat} {fs : List Value} (hM : gC l D cy b yX11_comeTo cX11_comeTo 5 (some .int) d' mc' ms' (.ref a :: As) f (pI P)) (hf : f a = some (.inr (11, fs))) (hR : d' + 1 ≤ R.frames ∧ 64 * (d' + 1) ≤ R.locals) (hcs : cells + mc' ≤ R.cells ∧ slots + ms' ≤ R.slots) (hn : As.length = 3) (hst : st0 = As.reverse ++ .ref a :: st) (hsum : (st.map fun v => v.category).sum ≤ 8) (hdg : decode cc pc = .ok (.invokevirtual 125, 3)) (k : ∀ (v : Int32) (f2 : gMem), P v f2 → gG l R Qf Ex D cy b cc nL ret RL nm (cells + mc') (slots + ms') f2 (pc + 3) lv (.int v :: st)) : gG l R Qf Ex D cy b cc nL ret RL nm cells slots f pc lv st0 := gz_callV (T := TX11) (N := 13) hM hf rfl wd_1288 ⟨wd_1289, wd_1290, wd_1291, wd_213⟩ ⟨rfl, by decide, by decide, by decide +kernel⟩ ⟨hR.1, by omega⟩ hcs hn hst hsum hdg (fun r f2 h => by obtain ⟨v, rfl, h⟩ := h; exact k v f2 h)
theorem scL_128 {l : Launch} {R : Room} {Qf : List Frame → Array Value → State → State → Prop} {Ex : State → Prop} {D : va_G} {cy : Nat → ClassId} {b : Nat} {cc : ByteArray} {nL : Nat} {ret : Option FieldType} {nm : String} {cells slots : Nat} {f : gMem} {pc : Nat} {lv : List (Nat × Value)} {st : List Value} {d' mc' ms' : Nat} {As st0 : List Value} {P : Int32 → gMem → Prop} {a : Nat} {fs : List Value} (hM : gC l D cy b yX12_comeTo cX12_comeTo 13 (some .int) d' mc' ms' (.ref a :: As) f (pI P)) (hf : f a = some (.inr (12, fs))) (hR : d' + 1 ≤ R.frames ∧ 64 * (d' + 1) ≤ R.locals) (hcs : cells + mc' ≤ R.cells ∧ slots + ms' ≤ R.slots) (hn : As.length = 3) (hst : st0 = As.reverse ++ .ref a :: st) (hsum : (st.map fun v => v.category).sum ≤ 8) (hdg : decode cc pc = .ok (.invokevirtual 128, 3)) (k : ∀ (v : Int32) (f2 : gMem), P v f2 → gG l R Qf Ex D cy b cc nL ret RL nm (cells + mc') (slots + ms') f2 (pc + 3) lv (.int v :: st)) : gG l R Qf Ex D cy b cc nL ret RL nm cells slots f pc lv st0 := gz_callV (T := TX12) (N := 90) hM hf rfl wd_1292 ⟨wd_1293, wd_1294, wd_1295, wd_782⟩ ⟨rfl, by decide, by decide, by decide +kernel⟩ ⟨hR.1, by omega⟩ hcs hn hst hsum hdg (fun r f2 h => by obtain ⟨v, rfl, h⟩ := h; exact k v f2 h)
theorem scL_129 {l : Launch} {R : Room} {Qf : List Frame → Array Value → State → State → Prop} {Ex : State → Prop} {D : va_G} {cy : Nat → ClassId} {b : Nat} {cc : ByteArray} {nL : Nat} {ret : Option FieldType} {nm : String} {cells slots : Nat} {f : gMem} {pc : Nat} {lv : List (Nat × Value)} {st : List Value} {d' mc' ms' : Nat} {As st0 : List Value} {P : Int32 → gMem → Prop} {a : Nat} {fs : List Value} (hM : gC l D cy b yX11_parted cX11_parted 6 (some .int) d' mc' ms' (.ref a :: As) f (pI P)) (hf : f a = some (.inr (11, fs))) (hR : d' + 1 ≤ R.frames ∧ 64 * (d' + 1) ≤ R.locals) (hcs : cells + mc' ≤ R.cells ∧ slots + ms' ≤ R.slots) (hn : As.length = 3) (hst : st0 = As.reverse ++ .ref a :: st) (hsum : (st.map fun v => v.category).sum ≤ 8) (hdg : decode cc pc = .ok (.invokevirtual 129, 3)) (k : ∀ (v : Int32) (f2 : gMem), P v f2 → gG l R Qf Ex D cy b cc nL ret RL nm (cells + mc') (slots + ms') f2 (pc + 3) lv (.int v :: st)) : gG l R Qf Ex D cy b cc nL ret RL nm cells slots f pc lv st0 := gz_callV (T := TX11) (N := 13) hM hf rfl wd_1296 ⟨wd_1297, wd_1298, wd_1299, wd_213⟩ ⟨rfl, by decide, by decide, by decide +kernel⟩ ⟨hR.1, by omega⟩ hcs hn hst hsum hdg (fun r f2 h => by obtain ⟨v, rfl, h⟩ := h; exact k v f2 h)
theorem scL_132 {l : Launch} {R : Room} {Qf : List Frame → Array Value → State → State → Prop} {Ex : State → Prop} {D : va_G} {cy : Nat → ClassId} {b : Nat} {cc : ByteArray} {nL : Nat} {ret : Option FieldType} {nm : String} {cells slots : Nat} {f : gMem} {pc : Nat} {lv : List (Nat × Value)} {st : List Value} {d' mc' ms' : Nat} {As st0 : List Value} {P : Int32 → gMem → Prop} {a : Nat} {fs : List Value} (hM : gC l D cy b yX12_parted cX12_parted 6 (some .int) d' mc' ms' (.ref a :: As) f (pI P)) (hf : f a = some (.inr (12, fs))) (hR : d' + 1 ≤ R.frames ∧ 64 * (d' + 1) ≤ R.locals) (hcs : cells + mc' ≤ R.cells ∧ slots + ms' ≤ R.slots) (hn : As.length = 3) (hst : st0 = As.reverse ++ .ref a :: st) (hsum : (st.map fun v => v.category).sum ≤ 8) (hdg : decode cc pc = .ok (.invokevirtual 132, 3)) (k : ∀ (v : Int32) (f2 : gMem), P v f2 → gG l R Qf Ex D cy b cc nL ret RL nm (cells + mc') (slots + ms') f2 (pc + 3) lv (.int v :: st)) : gG l R Qf Ex D cy b cc nL ret RL nm cells slots f pc lv st0 := gz_callV (T := TX12) (N := 90) hM hf rfl wd_1300 ⟨wd_1301, wd_1302, wd_1303, wd_782⟩ ⟨rfl, by decide, by decide, by decide +kernel⟩ ⟨hR.1, by omega⟩ hcs hn hst hsum hdg (fun r f2 h => by obtain ⟨v, rfl, h⟩ := h; exact k v f2 h)
theorem scL_133 {l : Launch} {R : Room} {Qf : List Frame → Array Value → State → State → Prop} {Ex : State → Prop} {D : va_G} {cy : Nat → ClassId} {b : Nat} {cc : ByteArray} {nL : Nat} {ret : Option FieldType} {nm : String} {cells slots : Nat} {f : gMem} {pc : Nat} {lv : List (Nat × Value)} {st : List Value} {d' mc' ms' : Nat} {As st0 : List Value} {P : Int32 → gMem → Prop} {a : Nat} {fs : List Value} (hM : gC l D cy b yX11_count cX11_count 2 (some .int) d' mc' ms' (.ref a :: As) f (pI P)) (hf : f a = some (.inr (11, fs))) (hR : d' + 1 ≤ R.frames ∧ 64 * (d' + 1) ≤ R.locals) (hcs : cells + mc' ≤ R.cells ∧ slots + ms' ≤ R.slots) (hn : As.length = 1) (hst : st0 = As.reverse ++ .ref a :: st) (hsum : (st.map fun v => v.category).sum ≤ 8) (hdg : decode cc pc = .ok (.invokevirtual 133, 3)) (k : ∀ (v : Int32) (f2 : gMem), P v f2 → gG l R Qf Ex D cy b cc nL ret RL nm (cells + mc') (slots + ms') f2 (pc + 3) lv (.int v :: st)) : gG l R Qf Ex D cy b cc nL ret RL nm cells slots f pc lv st0 := gz_callV (T := TX11) (N := 13) hM hf rfl wd_1304 ⟨wd_1305, wd_1306, wd_1307, wd_213⟩ ⟨rfl, by decide, by decide, by decide +kernel⟩ ⟨hR.1, by omega⟩ hcs hn hst hsum hdg (fun r f2 h => by obtain ⟨v, rfl, h⟩ := h; exact k v f2 h)
theorem scL_136 {l : Launch} {R : Room} {Qf : List Frame → Array Value → State → State → Prop} {Ex : State → Prop} {D : va_G} {cy : Nat → ClassId} {b : Nat} {cc : ByteArray} {nL : Nat} {ret : Option FieldType} {nm : String} {cells slots : Nat} {f : gMem} {pc : Nat} {lv : List (Nat × Value)} {st : List Value} {d' mc' ms' : Nat} {As st0 : List Value} {P : Int32 → gMem → Prop} {a : Nat} {fs : List Value} (hM : gC l D cy b yX12_count cX12_count 2 (some .int) d' mc' ms' (.ref a :: As) f (pI P)) (hf : f a = some (.inr (12, fs))) (hR : d' + 1 ≤ R.frames ∧ 64 * (d' + 1) ≤ R.locals) (hcs : cells + mc' ≤ R.cells ∧ slots + ms' ≤ R.slots) (hn : As.length = 1) (hst : st0 = As.reverse ++ .ref a :: st) (hsum : (st.map fun v => v.category).sum ≤ 8) (hdg : decode cc pc = .ok (.invokevirtual 136, 3)) (k : ∀ (v : Int32) (f2 : gMem), P v f2 → gG l R Qf Ex D cy b cc nL ret RL nm (cells + mc') (slots + ms') f2 (pc + 3) lv (.int v :: st)) : gG l R Qf Ex D cy b cc nL ret RL nm cells slots f pc lv st0 := gz_callV (T := TX12) (N := 90) hM hf rfl wd_1308 ⟨wd_1309, wd_1310, wd_1311, wd_782⟩ ⟨rfl, by decide, by decide, by decide +kernel⟩ ⟨hR.1, by omega⟩ hcs hn hst hsum hdg (fun r f2 h => by obtain ⟨v, rfl, h⟩ := h; exact k v f2 h)
theorem dL_law_0 : decode cL_law 0 = .ok (.new 7, 3) := by decide +kernel
theorem dL_law_3 : decode cL_law 3 = .ok (.dup, 1) := by decide +kernel
theorem dL_law_4 : decode cL_law 4 = .ok (.invokespecial 9, 3) := by decide +kernel
theorem dL_law_7 : decode cL_law 7 = .ok (.astore_n 1, 1) := by decide +kernel
theorem dL_law_8 : decode cL_law 8 = .ok (.new 10, 3) := by decide +kernel
theorem dL_law_11 : decode cL_law 11 = .ok (.dup, 1) := by decide +kernel
theorem dL_law_12 : decode cL_law 12 = .ok (.invokespecial 12, 3) := by decide +kernel
theorem dL_law_15 : decode cL_law 15 = .ok (.astore_n 2, 1) := by decide +kernel
theorem dL_law_16 : decode cL_law 16 = .ok (.iconst 0, 1) := by decide +kernel
theorem dL_law_17 : decode cL_law 17 = .ok (.istore_n 3, 1) := by decide +kernel
theorem dL_law_18 : decode cL_law 18 = .ok (.iload_n 3, 1) := by decide +kernel
theorem dL_law_19 : decode cL_law 19 = .ok (.aload_n 0, 1) := by decide +kernel
theorem dL_law_20 : decode cL_law 20 = .ok (.arraylength, 1) := by decide +kernel
theorem dL_law_21 : decode cL_law 21 = .ok (.bipush 6, 2) := by decide +kernel
theorem dL_law_23 : decode cL_law 23 = .ok (.isub, 1) := by decide +kernel
theorem dL_law_24 : decode cL_law 24 = .ok (.if_icmp .gt 1066, 3) := by decide +kernel
theorem dL_law_27 : decode cL_law 27 = .ok (.aload_n 0, 1) := by decide +kernel
theorem dL_law_28 : decode cL_law 28 = .ok (.iload_n 3, 1) := by decide +kernel
theorem dL_law_29 : decode cL_law 29 = .ok (.iaload, 1) := by decide +kernel
theorem dL_law_30 : decode cL_law 30 = .ok (.bipush 31, 2) := by decide +kernel
theorem dL_law_32 : decode cL_law 32 = .ok (.iand, 1) := by decide +kernel
theorem dL_law_33 : decode cL_law 33 = .ok (.tableswitch 1051 0 27 #[127, 170, 203, 266, 289, 302, 345, 368, 391, 424, 447, 470, 513, 526, 549, 592, 645, 688, 721, 744, 767, 800, 823, 856, 899, 942, 985, 1028], 127) := by decide +kernel
theorem dL_law_160 : decode cL_law 160 = .ok (.aload_n 1, 1) := by decide +kernel
theorem dL_law_161 : decode cL_law 161 = .ok (.aload_n 0, 1) := by decide +kernel
theorem dL_law_162 : decode cL_law 162 = .ok (.iload_n 3, 1) := by decide +kernel
theorem dL_law_163 : decode cL_law 163 = .ok (.iconst 1, 1) := by decide +kernel
theorem dL_law_164 : decode cL_law 164 = .ok (.iadd, 1) := by decide +kernel
theorem dL_law_165 : decode cL_law 165 = .ok (.iaload, 1) := by decide +kernel
theorem dL_law_166 : decode cL_law 166 = .ok (.aload_n 0, 1) := by decide +kernel
theorem dL_law_167 : decode cL_law 167 = .ok (.iload_n 3, 1) := by decide +kernel
theorem dL_law_168 : decode cL_law 168 = .ok (.iconst 2, 1) := by decide +kernel
theorem dL_law_169 : decode cL_law 169 = .ok (.iadd, 1) := by decide +kernel
theorem dL_law_170 : decode cL_law 170 = .ok (.iaload, 1) := by decide +kernel
theorem dL_law_171 : decode cL_law 171 = .ok (.aload_n 0, 1) := by decide +kernel
theorem dL_law_172 : decode cL_law 172 = .ok (.iload_n 3, 1) := by decide +kernel
theorem dL_law_173 : decode cL_law 173 = .ok (.iconst 3, 1) := by decide +kernel
theorem dL_law_174 : decode cL_law 174 = .ok (.iadd, 1) := by decide +kernel
theorem dL_law_175 : decode cL_law 175 = .ok (.iaload, 1) := by decide +kernel
theorem dL_law_176 : decode cL_law 176 = .ok (.invokevirtual 13, 3) := by decide +kernel
theorem dL_law_179 : decode cL_law 179 = .ok (.pop, 1) := by decide +kernel
theorem dL_law_180 : decode cL_law 180 = .ok (.aload_n 2, 1) := by decide +kernel
theorem dL_law_181 : decode cL_law 181 = .ok (.aload_n 0, 1) := by decide +kernel
theorem dL_law_182 : decode cL_law 182 = .ok (.iload_n 3, 1) := by decide +kernel
theorem dL_law_183 : decode cL_law 183 = .ok (.iconst 1, 1) := by decide +kernel
theorem dL_law_184 : decode cL_law 184 = .ok (.iadd, 1) := by decide +kernel
theorem dL_law_185 : decode cL_law 185 = .ok (.iaload, 1) := by decide +kernel
theorem dL_law_186 : decode cL_law 186 = .ok (.aload_n 0, 1) := by decide +kernel
theorem dL_law_187 : decode cL_law 187 = .ok (.iload_n 3, 1) := by decide +kernel
theorem dL_law_188 : decode cL_law 188 = .ok (.iconst 2, 1) := by decide +kernel
theorem dL_law_189 : decode cL_law 189 = .ok (.iadd, 1) := by decide +kernel
theorem dL_law_190 : decode cL_law 190 = .ok (.iaload, 1) := by decide +kernel
theorem dL_law_191 : decode cL_law 191 = .ok (.aload_n 0, 1) := by decide +kernel
theorem dL_law_192 : decode cL_law 192 = .ok (.iload_n 3, 1) := by decide +kernel
theorem dL_law_193 : decode cL_law 193 = .ok (.iconst 3, 1) := by decide +kernel
theorem dL_law_194 : decode cL_law 194 = .ok (.iadd, 1) := by decide +kernel
theorem dL_law_195 : decode cL_law 195 = .ok (.iaload, 1) := by decide +kernel
theorem dL_law_196 : decode cL_law 196 = .ok (.invokevirtual 17, 3) := by decide +kernel
theorem dL_law_199 : decode cL_law 199 = .ok (.pop, 1) := by decide +kernel
theorem dL_law_200 : decode cL_law 200 = .ok (.goto 884, 3) := by decide +kernel
theorem dL_law_203 : decode cL_law 203 = .ok (.aload_n 1, 1) := by decide +kernel
theorem dL_law_204 : decode cL_law 204 = .ok (.aload_n 0, 1) := by decide +kernel
theorem dL_law_205 : decode cL_law 205 = .ok (.iload_n 3, 1) := by decide +kernel
theorem dL_law_206 : decode cL_law 206 = .ok (.iconst 1, 1) := by decide +kernel
theorem dL_law_207 : decode cL_law 207 = .ok (.iadd, 1) := by decide +kernel
theorem dL_law_208 : decode cL_law 208 = .ok (.iaload, 1) := by decide +kernel
theorem dL_law_209 : decode cL_law 209 = .ok (.aload_n 0, 1) := by decide +kernel
theorem dL_law_210 : decode cL_law 210 = .ok (.iload_n 3, 1) := by decide +kernel
theorem dL_law_211 : decode cL_law 211 = .ok (.iconst 2, 1) := by decide +kernel
theorem dL_law_212 : decode cL_law 212 = .ok (.iadd, 1) := by decide +kernel
theorem dL_law_213 : decode cL_law 213 = .ok (.iaload, 1) := by decide +kernel
theorem dL_law_214 : decode cL_law 214 = .ok (.invokevirtual 18, 3) := by decide +kernel
theorem dL_law_217 : decode cL_law 217 = .ok (.pop, 1) := by decide +kernel
theorem dL_law_218 : decode cL_law 218 = .ok (.aload_n 2, 1) := by decide +kernel
theorem dL_law_219 : decode cL_law 219 = .ok (.aload_n 0, 1) := by decide +kernel
theorem dL_law_220 : decode cL_law 220 = .ok (.iload_n 3, 1) := by decide +kernel
theorem dL_law_221 : decode cL_law 221 = .ok (.iconst 1, 1) := by decide +kernel
theorem dL_law_222 : decode cL_law 222 = .ok (.iadd, 1) := by decide +kernel
theorem dL_law_223 : decode cL_law 223 = .ok (.iaload, 1) := by decide +kernel
theorem dL_law_224 : decode cL_law 224 = .ok (.aload_n 0, 1) := by decide +kernel
theorem dL_law_225 : decode cL_law 225 = .ok (.iload_n 3, 1) := by decide +kernel
theorem dL_law_226 : decode cL_law 226 = .ok (.iconst 2, 1) := by decide +kernel
theorem dL_law_227 : decode cL_law 227 = .ok (.iadd, 1) := by decide +kernel
theorem dL_law_228 : decode cL_law 228 = .ok (.iaload, 1) := by decide +kernel
theorem dL_law_229 : decode cL_law 229 = .ok (.invokevirtual 22, 3) := by decide +kernel
theorem dL_law_232 : decode cL_law 232 = .ok (.pop, 1) := by decide +kernel
theorem dL_law_233 : decode cL_law 233 = .ok (.goto 851, 3) := by decide +kernel
theorem dL_law_236 : decode cL_law 236 = .ok (.aload_n 1, 1) := by decide +kernel
theorem dL_law_237 : decode cL_law 237 = .ok (.aload_n 0, 1) := by decide +kernel
theorem dL_law_238 : decode cL_law 238 = .ok (.iload_n 3, 1) := by decide +kernel
theorem dL_law_239 : decode cL_law 239 = .ok (.iconst 1, 1) := by decide +kernel
theorem dL_law_240 : decode cL_law 240 = .ok (.iadd, 1) := by decide +kernel
theorem dL_law_241 : decode cL_law 241 = .ok (.iaload, 1) := by decide +kernel
theorem dL_law_242 : decode cL_law 242 = .ok (.aload_n 0, 1) := by decide +kernel
theorem dL_law_243 : decode cL_law 243 = .ok (.iload_n 3, 1) := by decide +kernel
theorem dL_law_244 : decode cL_law 244 = .ok (.iconst 2, 1) := by decide +kernel
theorem dL_law_245 : decode cL_law 245 = .ok (.iadd, 1) := by decide +kernel
theorem dL_law_246 : decode cL_law 246 = .ok (.iaload, 1) := by decide +kernel
theorem dL_law_247 : decode cL_law 247 = .ok (.aload_n 0, 1) := by decide +kernel
theorem dL_law_248 : decode cL_law 248 = .ok (.iload_n 3, 1) := by decide +kernel
theorem dL_law_249 : decode cL_law 249 = .ok (.iconst 3, 1) := by decide +kernel
theorem dL_law_250 : decode cL_law 250 = .ok (.iadd, 1) := by decide +kernel
theorem dL_law_251 : decode cL_law 251 = .ok (.iaload, 1) := by decide +kernel
theorem dL_law_252 : decode cL_law 252 = .ok (.aload_n 0, 1) := by decide +kernel
theorem dL_law_253 : decode cL_law 253 = .ok (.iload_n 3, 1) := by decide +kernel
theorem dL_law_254 : decode cL_law 254 = .ok (.iconst 4, 1) := by decide +kernel
theorem dL_law_255 : decode cL_law 255 = .ok (.iadd, 1) := by decide +kernel
theorem dL_law_256 : decode cL_law 256 = .ok (.iaload, 1) := by decide +kernel
theorem dL_law_257 : decode cL_law 257 = .ok (.aload_n 0, 1) := by decide +kernel
theorem dL_law_258 : decode cL_law 258 = .ok (.iload_n 3, 1) := by decide +kernel
theorem dL_law_259 : decode cL_law 259 = .ok (.iconst 5, 1) := by decide +kernel
theorem dL_law_260 : decode cL_law 260 = .ok (.iadd, 1) := by decide +kernel
theorem dL_law_261 : decode cL_law 261 = .ok (.iaload, 1) := by decide +kernel
theorem dL_law_262 : decode cL_law 262 = .ok (.invokevirtual 23, 3) := by decide +kernel
theorem dL_law_265 : decode cL_law 265 = .ok (.pop, 1) := by decide +kernel
theorem dL_law_266 : decode cL_law 266 = .ok (.aload_n 2, 1) := by decide +kernel
theorem dL_law_267 : decode cL_law 267 = .ok (.aload_n 0, 1) := by decide +kernel
theorem dL_law_268 : decode cL_law 268 = .ok (.iload_n 3, 1) := by decide +kernel
theorem dL_law_269 : decode cL_law 269 = .ok (.iconst 1, 1) := by decide +kernel
theorem dL_law_270 : decode cL_law 270 = .ok (.iadd, 1) := by decide +kernel
theorem dL_law_271 : decode cL_law 271 = .ok (.iaload, 1) := by decide +kernel
theorem dL_law_272 : decode cL_law 272 = .ok (.aload_n 0, 1) := by decide +kernel
theorem dL_law_273 : decode cL_law 273 = .ok (.iload_n 3, 1) := by decide +kernel
theorem dL_law_274 : decode cL_law 274 = .ok (.iconst 2, 1) := by decide +kernel
theorem dL_law_275 : decode cL_law 275 = .ok (.iadd, 1) := by decide +kernel
theorem dL_law_276 : decode cL_law 276 = .ok (.iaload, 1) := by decide +kernel
theorem dL_law_277 : decode cL_law 277 = .ok (.aload_n 0, 1) := by decide +kernel
theorem dL_law_278 : decode cL_law 278 = .ok (.iload_n 3, 1) := by decide +kernel
theorem dL_law_279 : decode cL_law 279 = .ok (.iconst 3, 1) := by decide +kernel
theorem dL_law_280 : decode cL_law 280 = .ok (.iadd, 1) := by decide +kernel
theorem dL_law_281 : decode cL_law 281 = .ok (.iaload, 1) := by decide +kernel
theorem dL_law_282 : decode cL_law 282 = .ok (.aload_n 0, 1) := by decide +kernel
theorem dL_law_283 : decode cL_law 283 = .ok (.iload_n 3, 1) := by decide +kernel
theorem dL_law_284 : decode cL_law 284 = .ok (.iconst 4, 1) := by decide +kernel
theorem dL_law_285 : decode cL_law 285 = .ok (.iadd, 1) := by decide +kernel
theorem dL_law_286 : decode cL_law 286 = .ok (.iaload, 1) := by decide +kernel
theorem dL_law_287 : decode cL_law 287 = .ok (.aload_n 0, 1) := by decide +kernel
theorem dL_law_288 : decode cL_law 288 = .ok (.iload_n 3, 1) := by decide +kernel
theorem dL_law_289 : decode cL_law 289 = .ok (.iconst 5, 1) := by decide +kernel
theorem dL_law_290 : decode cL_law 290 = .ok (.iadd, 1) := by decide +kernel
theorem dL_law_291 : decode cL_law 291 = .ok (.iaload, 1) := by decide +kernel
theorem dL_law_292 : decode cL_law 292 = .ok (.invokevirtual 27, 3) := by decide +kernel
theorem dL_law_295 : decode cL_law 295 = .ok (.pop, 1) := by decide +kernel
theorem dL_law_296 : decode cL_law 296 = .ok (.goto 788, 3) := by decide +kernel
theorem dL_law_299 : decode cL_law 299 = .ok (.aload_n 1, 1) := by decide +kernel
theorem dL_law_300 : decode cL_law 300 = .ok (.aload_n 0, 1) := by decide +kernel
theorem dL_law_301 : decode cL_law 301 = .ok (.iload_n 3, 1) := by decide +kernel
theorem dL_law_302 : decode cL_law 302 = .ok (.iconst 1, 1) := by decide +kernel
theorem dL_law_303 : decode cL_law 303 = .ok (.iadd, 1) := by decide +kernel
theorem dL_law_304 : decode cL_law 304 = .ok (.iaload, 1) := by decide +kernel
theorem dL_law_305 : decode cL_law 305 = .ok (.invokevirtual 28, 3) := by decide +kernel
theorem dL_law_308 : decode cL_law 308 = .ok (.pop, 1) := by decide +kernel
theorem dL_law_309 : decode cL_law 309 = .ok (.aload_n 2, 1) := by decide +kernel
theorem dL_law_310 : decode cL_law 310 = .ok (.aload_n 0, 1) := by decide +kernel
theorem dL_law_311 : decode cL_law 311 = .ok (.iload_n 3, 1) := by decide +kernel
theorem dL_law_312 : decode cL_law 312 = .ok (.iconst 1, 1) := by decide +kernel
theorem dL_law_313 : decode cL_law 313 = .ok (.iadd, 1) := by decide +kernel
theorem dL_law_314 : decode cL_law 314 = .ok (.iaload, 1) := by decide +kernel
theorem dL_law_315 : decode cL_law 315 = .ok (.invokevirtual 32, 3) := by decide +kernel
theorem dL_law_318 : decode cL_law 318 = .ok (.pop, 1) := by decide +kernel
theorem dL_law_319 : decode cL_law 319 = .ok (.goto 765, 3) := by decide +kernel
theorem dL_law_322 : decode cL_law 322 = .ok (.aload_n 1, 1) := by decide +kernel
theorem dL_law_323 : decode cL_law 323 = .ok (.invokevirtual 33, 3) := by decide +kernel
theorem dL_law_326 : decode cL_law 326 = .ok (.pop, 1) := by decide +kernel
theorem dL_law_327 : decode cL_law 327 = .ok (.aload_n 2, 1) := by decide +kernel
theorem dL_law_328 : decode cL_law 328 = .ok (.invokevirtual 37, 3) := by decide +kernel
theorem dL_law_331 : decode cL_law 331 = .ok (.pop, 1) := by decide +kernel
theorem dL_law_332 : decode cL_law 332 = .ok (.goto 752, 3) := by decide +kernel
theorem dL_law_335 : decode cL_law 335 = .ok (.aload_n 1, 1) := by decide +kernel
theorem dL_law_336 : decode cL_law 336 = .ok (.aload_n 0, 1) := by decide +kernel
theorem dL_law_337 : decode cL_law 337 = .ok (.iload_n 3, 1) := by decide +kernel
theorem dL_law_338 : decode cL_law 338 = .ok (.iconst 1, 1) := by decide +kernel
theorem dL_law_339 : decode cL_law 339 = .ok (.iadd, 1) := by decide +kernel
theorem dL_law_340 : decode cL_law 340 = .ok (.iaload, 1) := by decide +kernel
theorem dL_law_341 : decode cL_law 341 = .ok (.aload_n 0, 1) := by decide +kernel
theorem dL_law_342 : decode cL_law 342 = .ok (.iload_n 3, 1) := by decide +kernel
theorem dL_law_343 : decode cL_law 343 = .ok (.iconst 2, 1) := by decide +kernel
theorem dL_law_344 : decode cL_law 344 = .ok (.iadd, 1) := by decide +kernel
theorem dL_law_345 : decode cL_law 345 = .ok (.iaload, 1) := by decide +kernel
theorem dL_law_346 : decode cL_law 346 = .ok (.aload_n 0, 1) := by decide +kernel
theorem dL_law_347 : decode cL_law 347 = .ok (.iload_n 3, 1) := by decide +kernel
theorem dL_law_348 : decode cL_law 348 = .ok (.iconst 3, 1) := by decide +kernel
theorem dL_law_349 : decode cL_law 349 = .ok (.iadd, 1) := by decide +kernel
theorem dL_law_350 : decode cL_law 350 = .ok (.iaload, 1) := by decide +kernel
theorem dL_law_351 : decode cL_law 351 = .ok (.invokevirtual 38, 3) := by decide +kernel
theorem dL_law_354 : decode cL_law 354 = .ok (.pop, 1) := by decide +kernel
theorem dL_law_355 : decode cL_law 355 = .ok (.aload_n 2, 1) := by decide +kernel
theorem dL_law_356 : decode cL_law 356 = .ok (.aload_n 0, 1) := by decide +kernel
theorem dL_law_357 : decode cL_law 357 = .ok (.iload_n 3, 1) := by decide +kernel
theorem dL_law_358 : decode cL_law 358 = .ok (.iconst 1, 1) := by decide +kernel
theorem dL_law_359 : decode cL_law 359 = .ok (.iadd, 1) := by decide +kernel
theorem dL_law_360 : decode cL_law 360 = .ok (.iaload, 1) := by decide +kernel
theorem dL_law_361 : decode cL_law 361 = .ok (.aload_n 0, 1) := by decide +kernel
theorem dL_law_362 : decode cL_law 362 = .ok (.iload_n 3, 1) := by decide +kernel
theorem dL_law_363 : decode cL_law 363 = .ok (.iconst 2, 1) := by decide +kernel
theorem dL_law_364 : decode cL_law 364 = .ok (.iadd, 1) := by decide +kernel
theorem dL_law_365 : decode cL_law 365 = .ok (.iaload, 1) := by decide +kernel
theorem dL_law_366 : decode cL_law 366 = .ok (.aload_n 0, 1) := by decide +kernel
theorem dL_law_367 : decode cL_law 367 = .ok (.iload_n 3, 1) := by decide +kernel
theorem dL_law_368 : decode cL_law 368 = .ok (.iconst 3, 1) := by decide +kernel
theorem dL_law_369 : decode cL_law 369 = .ok (.iadd, 1) := by decide +kernel
theorem dL_law_370 : decode cL_law 370 = .ok (.iaload, 1) := by decide +kernel
theorem dL_law_371 : decode cL_law 371 = .ok (.invokevirtual 42, 3) := by decide +kernel
theorem dL_law_374 : decode cL_law 374 = .ok (.pop, 1) := by decide +kernel
theorem dL_law_375 : decode cL_law 375 = .ok (.goto 709, 3) := by decide +kernel
theorem dL_law_378 : decode cL_law 378 = .ok (.aload_n 1, 1) := by decide +kernel
theorem dL_law_379 : decode cL_law 379 = .ok (.aload_n 0, 1) := by decide +kernel
theorem dL_law_380 : decode cL_law 380 = .ok (.iload_n 3, 1) := by decide +kernel
theorem dL_law_381 : decode cL_law 381 = .ok (.iconst 1, 1) := by decide +kernel
theorem dL_law_382 : decode cL_law 382 = .ok (.iadd, 1) := by decide +kernel
theorem dL_law_383 : decode cL_law 383 = .ok (.iaload, 1) := by decide +kernel
theorem dL_law_384 : decode cL_law 384 = .ok (.invokevirtual 43, 3) := by decide +kernel
theorem dL_law_387 : decode cL_law 387 = .ok (.pop, 1) := by decide +kernel
theorem dL_law_388 : decode cL_law 388 = .ok (.aload_n 2, 1) := by decide +kernel
theorem dL_law_389 : decode cL_law 389 = .ok (.aload_n 0, 1) := by decide +kernel
theorem dL_law_390 : decode cL_law 390 = .ok (.iload_n 3, 1) := by decide +kernel
theorem dL_law_391 : decode cL_law 391 = .ok (.iconst 1, 1) := by decide +kernel
theorem dL_law_392 : decode cL_law 392 = .ok (.iadd, 1) := by decide +kernel
theorem dL_law_393 : decode cL_law 393 = .ok (.iaload, 1) := by decide +kernel
theorem dL_law_394 : decode cL_law 394 = .ok (.invokevirtual 46, 3) := by decide +kernel
theorem dL_law_397 : decode cL_law 397 = .ok (.pop, 1) := by decide +kernel
theorem dL_law_398 : decode cL_law 398 = .ok (.goto 686, 3) := by decide +kernel
theorem dL_law_401 : decode cL_law 401 = .ok (.aload_n 1, 1) := by decide +kernel
theorem dL_law_402 : decode cL_law 402 = .ok (.aload_n 0, 1) := by decide +kernel
theorem dL_law_403 : decode cL_law 403 = .ok (.iload_n 3, 1) := by decide +kernel
theorem dL_law_404 : decode cL_law 404 = .ok (.iconst 1, 1) := by decide +kernel
theorem dL_law_405 : decode cL_law 405 = .ok (.iadd, 1) := by decide +kernel
theorem dL_law_406 : decode cL_law 406 = .ok (.iaload, 1) := by decide +kernel
theorem dL_law_407 : decode cL_law 407 = .ok (.invokevirtual 47, 3) := by decide +kernel
theorem dL_law_410 : decode cL_law 410 = .ok (.pop, 1) := by decide +kernel
theorem dL_law_411 : decode cL_law 411 = .ok (.aload_n 2, 1) := by decide +kernel
theorem dL_law_412 : decode cL_law 412 = .ok (.aload_n 0, 1) := by decide +kernel
theorem dL_law_413 : decode cL_law 413 = .ok (.iload_n 3, 1) := by decide +kernel
theorem dL_law_414 : decode cL_law 414 = .ok (.iconst 1, 1) := by decide +kernel
theorem dL_law_415 : decode cL_law 415 = .ok (.iadd, 1) := by decide +kernel
theorem dL_law_416 : decode cL_law 416 = .ok (.iaload, 1) := by decide +kernel
theorem dL_law_417 : decode cL_law 417 = .ok (.invokevirtual 50, 3) := by decide +kernel
theorem dL_law_420 : decode cL_law 420 = .ok (.pop, 1) := by decide +kernel
theorem dL_law_421 : decode cL_law 421 = .ok (.goto 663, 3) := by decide +kernel
theorem dL_law_424 : decode cL_law 424 = .ok (.aload_n 1, 1) := by decide +kernel
theorem dL_law_425 : decode cL_law 425 = .ok (.aload_n 0, 1) := by decide +kernel
theorem dL_law_426 : decode cL_law 426 = .ok (.iload_n 3, 1) := by decide +kernel
theorem dL_law_427 : decode cL_law 427 = .ok (.iconst 1, 1) := by decide +kernel
theorem dL_law_428 : decode cL_law 428 = .ok (.iadd, 1) := by decide +kernel
theorem dL_law_429 : decode cL_law 429 = .ok (.iaload, 1) := by decide +kernel
theorem dL_law_430 : decode cL_law 430 = .ok (.aload_n 0, 1) := by decide +kernel
theorem dL_law_431 : decode cL_law 431 = .ok (.iload_n 3, 1) := by decide +kernel
theorem dL_law_432 : decode cL_law 432 = .ok (.iconst 2, 1) := by decide +kernel
theorem dL_law_433 : decode cL_law 433 = .ok (.iadd, 1) := by decide +kernel
theorem dL_law_434 : decode cL_law 434 = .ok (.iaload, 1) := by decide +kernel
theorem dL_law_435 : decode cL_law 435 = .ok (.invokevirtual 51, 3) := by decide +kernel
theorem dL_law_438 : decode cL_law 438 = .ok (.pop, 1) := by decide +kernel
theorem dL_law_439 : decode cL_law 439 = .ok (.aload_n 2, 1) := by decide +kernel
theorem dL_law_440 : decode cL_law 440 = .ok (.aload_n 0, 1) := by decide +kernel
theorem dL_law_441 : decode cL_law 441 = .ok (.iload_n 3, 1) := by decide +kernel
theorem dL_law_442 : decode cL_law 442 = .ok (.iconst 1, 1) := by decide +kernel
theorem dL_law_443 : decode cL_law 443 = .ok (.iadd, 1) := by decide +kernel
theorem dL_law_444 : decode cL_law 444 = .ok (.iaload, 1) := by decide +kernel
theorem dL_law_445 : decode cL_law 445 = .ok (.aload_n 0, 1) := by decide +kernel
theorem dL_law_446 : decode cL_law 446 = .ok (.iload_n 3, 1) := by decide +kernel
theorem dL_law_447 : decode cL_law 447 = .ok (.iconst 2, 1) := by decide +kernel
theorem dL_law_448 : decode cL_law 448 = .ok (.iadd, 1) := by decide +kernel
theorem dL_law_449 : decode cL_law 449 = .ok (.iaload, 1) := by decide +kernel
theorem dL_law_450 : decode cL_law 450 = .ok (.invokevirtual 54, 3) := by decide +kernel
theorem dL_law_453 : decode cL_law 453 = .ok (.pop, 1) := by decide +kernel
theorem dL_law_454 : decode cL_law 454 = .ok (.goto 630, 3) := by decide +kernel
theorem dL_law_457 : decode cL_law 457 = .ok (.aload_n 1, 1) := by decide +kernel
theorem dL_law_458 : decode cL_law 458 = .ok (.aload_n 0, 1) := by decide +kernel
theorem dL_law_459 : decode cL_law 459 = .ok (.iload_n 3, 1) := by decide +kernel
theorem dL_law_460 : decode cL_law 460 = .ok (.iconst 1, 1) := by decide +kernel
theorem dL_law_461 : decode cL_law 461 = .ok (.iadd, 1) := by decide +kernel
theorem dL_law_462 : decode cL_law 462 = .ok (.iaload, 1) := by decide +kernel
theorem dL_law_463 : decode cL_law 463 = .ok (.invokevirtual 55, 3) := by decide +kernel
theorem dL_law_466 : decode cL_law 466 = .ok (.pop, 1) := by decide +kernel
theorem dL_law_467 : decode cL_law 467 = .ok (.aload_n 2, 1) := by decide +kernel
theorem dL_law_468 : decode cL_law 468 = .ok (.aload_n 0, 1) := by decide +kernel
theorem dL_law_469 : decode cL_law 469 = .ok (.iload_n 3, 1) := by decide +kernel
theorem dL_law_470 : decode cL_law 470 = .ok (.iconst 1, 1) := by decide +kernel
theorem dL_law_471 : decode cL_law 471 = .ok (.iadd, 1) := by decide +kernel
theorem dL_law_472 : decode cL_law 472 = .ok (.iaload, 1) := by decide +kernel
theorem dL_law_473 : decode cL_law 473 = .ok (.invokevirtual 58, 3) := by decide +kernel
theorem dL_law_476 : decode cL_law 476 = .ok (.pop, 1) := by decide +kernel
theorem dL_law_477 : decode cL_law 477 = .ok (.goto 607, 3) := by decide +kernel
theorem dL_law_480 : decode cL_law 480 = .ok (.aload_n 1, 1) := by decide +kernel
theorem dL_law_481 : decode cL_law 481 = .ok (.aload_n 0, 1) := by decide +kernel
theorem dL_law_482 : decode cL_law 482 = .ok (.iload_n 3, 1) := by decide +kernel
theorem dL_law_483 : decode cL_law 483 = .ok (.iconst 1, 1) := by decide +kernel
theorem dL_law_484 : decode cL_law 484 = .ok (.iadd, 1) := by decide +kernel
theorem dL_law_485 : decode cL_law 485 = .ok (.iaload, 1) := by decide +kernel
theorem dL_law_486 : decode cL_law 486 = .ok (.invokevirtual 59, 3) := by decide +kernel
theorem dL_law_489 : decode cL_law 489 = .ok (.pop, 1) := by decide +kernel
theorem dL_law_490 : decode cL_law 490 = .ok (.aload_n 2, 1) := by decide +kernel
theorem dL_law_491 : decode cL_law 491 = .ok (.aload_n 0, 1) := by decide +kernel
theorem dL_law_492 : decode cL_law 492 = .ok (.iload_n 3, 1) := by decide +kernel
theorem dL_law_493 : decode cL_law 493 = .ok (.iconst 1, 1) := by decide +kernel
theorem dL_law_494 : decode cL_law 494 = .ok (.iadd, 1) := by decide +kernel
theorem dL_law_495 : decode cL_law 495 = .ok (.iaload, 1) := by decide +kernel
theorem dL_law_496 : decode cL_law 496 = .ok (.invokevirtual 62, 3) := by decide +kernel
theorem dL_law_499 : decode cL_law 499 = .ok (.pop, 1) := by decide +kernel
theorem dL_law_500 : decode cL_law 500 = .ok (.goto 584, 3) := by decide +kernel
theorem dL_law_503 : decode cL_law 503 = .ok (.aload_n 1, 1) := by decide +kernel
theorem dL_law_504 : decode cL_law 504 = .ok (.aload_n 0, 1) := by decide +kernel
theorem dL_law_505 : decode cL_law 505 = .ok (.iload_n 3, 1) := by decide +kernel
theorem dL_law_506 : decode cL_law 506 = .ok (.iconst 1, 1) := by decide +kernel
theorem dL_law_507 : decode cL_law 507 = .ok (.iadd, 1) := by decide +kernel
theorem dL_law_508 : decode cL_law 508 = .ok (.iaload, 1) := by decide +kernel
theorem dL_law_509 : decode cL_law 509 = .ok (.aload_n 0, 1) := by decide +kernel
theorem dL_law_510 : decode cL_law 510 = .ok (.iload_n 3, 1) := by decide +kernel
theorem dL_law_511 : decode cL_law 511 = .ok (.iconst 2, 1) := by decide +kernel
theorem dL_law_512 : decode cL_law 512 = .ok (.iadd, 1) := by decide +kernel
theorem dL_law_513 : decode cL_law 513 = .ok (.iaload, 1) := by decide +kernel
theorem dL_law_514 : decode cL_law 514 = .ok (.aload_n 0, 1) := by decide +kernel
theorem dL_law_515 : decode cL_law 515 = .ok (.iload_n 3, 1) := by decide +kernel
theorem dL_law_516 : decode cL_law 516 = .ok (.iconst 3, 1) := by decide +kernel
theorem dL_law_517 : decode cL_law 517 = .ok (.iadd, 1) := by decide +kernel
theorem dL_law_518 : decode cL_law 518 = .ok (.iaload, 1) := by decide +kernel
theorem dL_law_519 : decode cL_law 519 = .ok (.invokevirtual 63, 3) := by decide +kernel
theorem dL_law_522 : decode cL_law 522 = .ok (.pop, 1) := by decide +kernel
theorem dL_law_523 : decode cL_law 523 = .ok (.aload_n 2, 1) := by decide +kernel
theorem dL_law_524 : decode cL_law 524 = .ok (.aload_n 0, 1) := by decide +kernel
theorem dL_law_525 : decode cL_law 525 = .ok (.iload_n 3, 1) := by decide +kernel
theorem dL_law_526 : decode cL_law 526 = .ok (.iconst 1, 1) := by decide +kernel
theorem dL_law_527 : decode cL_law 527 = .ok (.iadd, 1) := by decide +kernel
theorem dL_law_528 : decode cL_law 528 = .ok (.iaload, 1) := by decide +kernel
theorem dL_law_529 : decode cL_law 529 = .ok (.aload_n 0, 1) := by decide +kernel
theorem dL_law_530 : decode cL_law 530 = .ok (.iload_n 3, 1) := by decide +kernel
theorem dL_law_531 : decode cL_law 531 = .ok (.iconst 2, 1) := by decide +kernel
theorem dL_law_532 : decode cL_law 532 = .ok (.iadd, 1) := by decide +kernel
theorem dL_law_533 : decode cL_law 533 = .ok (.iaload, 1) := by decide +kernel
theorem dL_law_534 : decode cL_law 534 = .ok (.aload_n 0, 1) := by decide +kernel
theorem dL_law_535 : decode cL_law 535 = .ok (.iload_n 3, 1) := by decide +kernel
theorem dL_law_536 : decode cL_law 536 = .ok (.iconst 3, 1) := by decide +kernel
theorem dL_law_537 : decode cL_law 537 = .ok (.iadd, 1) := by decide +kernel
theorem dL_law_538 : decode cL_law 538 = .ok (.iaload, 1) := by decide +kernel
theorem dL_law_539 : decode cL_law 539 = .ok (.invokevirtual 66, 3) := by decide +kernel
theorem dL_law_542 : decode cL_law 542 = .ok (.pop, 1) := by decide +kernel
theorem dL_law_543 : decode cL_law 543 = .ok (.goto 541, 3) := by decide +kernel
theorem dL_law_546 : decode cL_law 546 = .ok (.aload_n 1, 1) := by decide +kernel
theorem dL_law_547 : decode cL_law 547 = .ok (.invokevirtual 67, 3) := by decide +kernel
theorem dL_law_550 : decode cL_law 550 = .ok (.pop, 1) := by decide +kernel
theorem dL_law_551 : decode cL_law 551 = .ok (.aload_n 2, 1) := by decide +kernel
theorem dL_law_552 : decode cL_law 552 = .ok (.invokevirtual 70, 3) := by decide +kernel
theorem dL_law_555 : decode cL_law 555 = .ok (.pop, 1) := by decide +kernel
theorem dL_law_556 : decode cL_law 556 = .ok (.goto 528, 3) := by decide +kernel
theorem dL_law_559 : decode cL_law 559 = .ok (.aload_n 1, 1) := by decide +kernel
theorem dL_law_560 : decode cL_law 560 = .ok (.aload_n 0, 1) := by decide +kernel
theorem dL_law_561 : decode cL_law 561 = .ok (.iload_n 3, 1) := by decide +kernel
theorem dL_law_562 : decode cL_law 562 = .ok (.iconst 1, 1) := by decide +kernel
theorem dL_law_563 : decode cL_law 563 = .ok (.iadd, 1) := by decide +kernel
theorem dL_law_564 : decode cL_law 564 = .ok (.iaload, 1) := by decide +kernel
theorem dL_law_565 : decode cL_law 565 = .ok (.invokevirtual 71, 3) := by decide +kernel
theorem dL_law_568 : decode cL_law 568 = .ok (.pop, 1) := by decide +kernel
theorem dL_law_569 : decode cL_law 569 = .ok (.aload_n 2, 1) := by decide +kernel
theorem dL_law_570 : decode cL_law 570 = .ok (.aload_n 0, 1) := by decide +kernel
theorem dL_law_571 : decode cL_law 571 = .ok (.iload_n 3, 1) := by decide +kernel
theorem dL_law_572 : decode cL_law 572 = .ok (.iconst 1, 1) := by decide +kernel
theorem dL_law_573 : decode cL_law 573 = .ok (.iadd, 1) := by decide +kernel
theorem dL_law_574 : decode cL_law 574 = .ok (.iaload, 1) := by decide +kernel
theorem dL_law_575 : decode cL_law 575 = .ok (.invokevirtual 74, 3) := by decide +kernel
theorem dL_law_578 : decode cL_law 578 = .ok (.pop, 1) := by decide +kernel
theorem dL_law_579 : decode cL_law 579 = .ok (.goto 505, 3) := by decide +kernel
theorem dL_law_582 : decode cL_law 582 = .ok (.aload_n 1, 1) := by decide +kernel
theorem dL_law_583 : decode cL_law 583 = .ok (.aload_n 0, 1) := by decide +kernel
theorem dL_law_584 : decode cL_law 584 = .ok (.iload_n 3, 1) := by decide +kernel
theorem dL_law_585 : decode cL_law 585 = .ok (.iconst 1, 1) := by decide +kernel
theorem dL_law_586 : decode cL_law 586 = .ok (.iadd, 1) := by decide +kernel
theorem dL_law_587 : decode cL_law 587 = .ok (.iaload, 1) := by decide +kernel
theorem dL_law_588 : decode cL_law 588 = .ok (.aload_n 0, 1) := by decide +kernel
theorem dL_law_589 : decode cL_law 589 = .ok (.iload_n 3, 1) := by decide +kernel
theorem dL_law_590 : decode cL_law 590 = .ok (.iconst 2, 1) := by decide +kernel
theorem dL_law_591 : decode cL_law 591 = .ok (.iadd, 1) := by decide +kernel
theorem dL_law_592 : decode cL_law 592 = .ok (.iaload, 1) := by decide +kernel
theorem dL_law_593 : decode cL_law 593 = .ok (.aload_n 0, 1) := by decide +kernel
theorem dL_law_594 : decode cL_law 594 = .ok (.iload_n 3, 1) := by decide +kernel
theorem dL_law_595 : decode cL_law 595 = .ok (.iconst 3, 1) := by decide +kernel
theorem dL_law_596 : decode cL_law 596 = .ok (.iadd, 1) := by decide +kernel
theorem dL_law_597 : decode cL_law 597 = .ok (.iaload, 1) := by decide +kernel
theorem dL_law_598 : decode cL_law 598 = .ok (.invokevirtual 75, 3) := by decide +kernel
theorem dL_law_601 : decode cL_law 601 = .ok (.aload_n 2, 1) := by decide +kernel
theorem dL_law_602 : decode cL_law 602 = .ok (.aload_n 0, 1) := by decide +kernel
theorem dL_law_603 : decode cL_law 603 = .ok (.iload_n 3, 1) := by decide +kernel
theorem dL_law_604 : decode cL_law 604 = .ok (.iconst 1, 1) := by decide +kernel
theorem dL_law_605 : decode cL_law 605 = .ok (.iadd, 1) := by decide +kernel
theorem dL_law_606 : decode cL_law 606 = .ok (.iaload, 1) := by decide +kernel
theorem dL_law_607 : decode cL_law 607 = .ok (.aload_n 0, 1) := by decide +kernel
theorem dL_law_608 : decode cL_law 608 = .ok (.iload_n 3, 1) := by decide +kernel
theorem dL_law_609 : decode cL_law 609 = .ok (.iconst 2, 1) := by decide +kernel
theorem dL_law_610 : decode cL_law 610 = .ok (.iadd, 1) := by decide +kernel
theorem dL_law_611 : decode cL_law 611 = .ok (.iaload, 1) := by decide +kernel
theorem dL_law_612 : decode cL_law 612 = .ok (.aload_n 0, 1) := by decide +kernel
theorem dL_law_613 : decode cL_law 613 = .ok (.iload_n 3, 1) := by decide +kernel
theorem dL_law_614 : decode cL_law 614 = .ok (.iconst 3, 1) := by decide +kernel
theorem dL_law_615 : decode cL_law 615 = .ok (.iadd, 1) := by decide +kernel
theorem dL_law_616 : decode cL_law 616 = .ok (.iaload, 1) := by decide +kernel
theorem dL_law_617 : decode cL_law 617 = .ok (.invokevirtual 78, 3) := by decide +kernel
theorem dL_law_620 : decode cL_law 620 = .ok (.if_icmp .eq 464, 3) := by decide +kernel
theorem dL_law_623 : decode cL_law 623 = .ok (.iconst 0, 1) := by decide +kernel
theorem dL_law_624 : decode cL_law 624 = .ok (.ireturn, 1) := by decide +kernel
theorem dL_law_625 : decode cL_law 625 = .ok (.aload_n 1, 1) := by decide +kernel
theorem dL_law_626 : decode cL_law 626 = .ok (.aload_n 0, 1) := by decide +kernel
theorem dL_law_627 : decode cL_law 627 = .ok (.iload_n 3, 1) := by decide +kernel
theorem dL_law_628 : decode cL_law 628 = .ok (.iconst 1, 1) := by decide +kernel
theorem dL_law_629 : decode cL_law 629 = .ok (.iadd, 1) := by decide +kernel
theorem dL_law_630 : decode cL_law 630 = .ok (.iaload, 1) := by decide +kernel
theorem dL_law_631 : decode cL_law 631 = .ok (.aload_n 0, 1) := by decide +kernel
theorem dL_law_632 : decode cL_law 632 = .ok (.iload_n 3, 1) := by decide +kernel
theorem dL_law_633 : decode cL_law 633 = .ok (.iconst 2, 1) := by decide +kernel
theorem dL_law_634 : decode cL_law 634 = .ok (.iadd, 1) := by decide +kernel
theorem dL_law_635 : decode cL_law 635 = .ok (.iaload, 1) := by decide +kernel
theorem dL_law_636 : decode cL_law 636 = .ok (.aload_n 0, 1) := by decide +kernel
theorem dL_law_637 : decode cL_law 637 = .ok (.iload_n 3, 1) := by decide +kernel
theorem dL_law_638 : decode cL_law 638 = .ok (.iconst 3, 1) := by decide +kernel
theorem dL_law_639 : decode cL_law 639 = .ok (.iadd, 1) := by decide +kernel
theorem dL_law_640 : decode cL_law 640 = .ok (.iaload, 1) := by decide +kernel
theorem dL_law_641 : decode cL_law 641 = .ok (.aload_n 0, 1) := by decide +kernel
theorem dL_law_642 : decode cL_law 642 = .ok (.iload_n 3, 1) := by decide +kernel
theorem dL_law_643 : decode cL_law 643 = .ok (.iconst 4, 1) := by decide +kernel
theorem dL_law_644 : decode cL_law 644 = .ok (.iadd, 1) := by decide +kernel
theorem dL_law_645 : decode cL_law 645 = .ok (.iaload, 1) := by decide +kernel
theorem dL_law_646 : decode cL_law 646 = .ok (.invokevirtual 79, 3) := by decide +kernel
theorem dL_law_649 : decode cL_law 649 = .ok (.pop, 1) := by decide +kernel
theorem dL_law_650 : decode cL_law 650 = .ok (.aload_n 2, 1) := by decide +kernel
theorem dL_law_651 : decode cL_law 651 = .ok (.aload_n 0, 1) := by decide +kernel
theorem dL_law_652 : decode cL_law 652 = .ok (.iload_n 3, 1) := by decide +kernel
theorem dL_law_653 : decode cL_law 653 = .ok (.iconst 1, 1) := by decide +kernel
theorem dL_law_654 : decode cL_law 654 = .ok (.iadd, 1) := by decide +kernel
theorem dL_law_655 : decode cL_law 655 = .ok (.iaload, 1) := by decide +kernel
theorem dL_law_656 : decode cL_law 656 = .ok (.aload_n 0, 1) := by decide +kernel
theorem dL_law_657 : decode cL_law 657 = .ok (.iload_n 3, 1) := by decide +kernel
theorem dL_law_658 : decode cL_law 658 = .ok (.iconst 2, 1) := by decide +kernel
theorem dL_law_659 : decode cL_law 659 = .ok (.iadd, 1) := by decide +kernel
theorem dL_law_660 : decode cL_law 660 = .ok (.iaload, 1) := by decide +kernel
theorem dL_law_661 : decode cL_law 661 = .ok (.aload_n 0, 1) := by decide +kernel
theorem dL_law_662 : decode cL_law 662 = .ok (.iload_n 3, 1) := by decide +kernel
theorem dL_law_663 : decode cL_law 663 = .ok (.iconst 3, 1) := by decide +kernel
theorem dL_law_664 : decode cL_law 664 = .ok (.iadd, 1) := by decide +kernel
theorem dL_law_665 : decode cL_law 665 = .ok (.iaload, 1) := by decide +kernel
theorem dL_law_666 : decode cL_law 666 = .ok (.aload_n 0, 1) := by decide +kernel
theorem dL_law_667 : decode cL_law 667 = .ok (.iload_n 3, 1) := by decide +kernel
theorem dL_law_668 : decode cL_law 668 = .ok (.iconst 4, 1) := by decide +kernel
theorem dL_law_669 : decode cL_law 669 = .ok (.iadd, 1) := by decide +kernel
theorem dL_law_670 : decode cL_law 670 = .ok (.iaload, 1) := by decide +kernel
theorem dL_law_671 : decode cL_law 671 = .ok (.invokevirtual 83, 3) := by decide +kernel
theorem dL_law_674 : decode cL_law 674 = .ok (.pop, 1) := by decide +kernel
theorem dL_law_675 : decode cL_law 675 = .ok (.goto 409, 3) := by decide +kernel
theorem dL_law_678 : decode cL_law 678 = .ok (.aload_n 1, 1) := by decide +kernel
theorem dL_law_679 : decode cL_law 679 = .ok (.aload_n 0, 1) := by decide +kernel
theorem dL_law_680 : decode cL_law 680 = .ok (.iload_n 3, 1) := by decide +kernel
theorem dL_law_681 : decode cL_law 681 = .ok (.iconst 1, 1) := by decide +kernel
theorem dL_law_682 : decode cL_law 682 = .ok (.iadd, 1) := by decide +kernel
theorem dL_law_683 : decode cL_law 683 = .ok (.iaload, 1) := by decide +kernel
theorem dL_law_684 : decode cL_law 684 = .ok (.aload_n 0, 1) := by decide +kernel
theorem dL_law_685 : decode cL_law 685 = .ok (.iload_n 3, 1) := by decide +kernel
theorem dL_law_686 : decode cL_law 686 = .ok (.iconst 2, 1) := by decide +kernel
theorem dL_law_687 : decode cL_law 687 = .ok (.iadd, 1) := by decide +kernel
theorem dL_law_688 : decode cL_law 688 = .ok (.iaload, 1) := by decide +kernel
theorem dL_law_689 : decode cL_law 689 = .ok (.aload_n 0, 1) := by decide +kernel
theorem dL_law_690 : decode cL_law 690 = .ok (.iload_n 3, 1) := by decide +kernel
theorem dL_law_691 : decode cL_law 691 = .ok (.iconst 3, 1) := by decide +kernel
theorem dL_law_692 : decode cL_law 692 = .ok (.iadd, 1) := by decide +kernel
theorem dL_law_693 : decode cL_law 693 = .ok (.iaload, 1) := by decide +kernel
theorem dL_law_694 : decode cL_law 694 = .ok (.invokevirtual 84, 3) := by decide +kernel
theorem dL_law_697 : decode cL_law 697 = .ok (.pop, 1) := by decide +kernel
theorem dL_law_698 : decode cL_law 698 = .ok (.aload_n 2, 1) := by decide +kernel
theorem dL_law_699 : decode cL_law 699 = .ok (.aload_n 0, 1) := by decide +kernel
theorem dL_law_700 : decode cL_law 700 = .ok (.iload_n 3, 1) := by decide +kernel
theorem dL_law_701 : decode cL_law 701 = .ok (.iconst 1, 1) := by decide +kernel
theorem dL_law_702 : decode cL_law 702 = .ok (.iadd, 1) := by decide +kernel
theorem dL_law_703 : decode cL_law 703 = .ok (.iaload, 1) := by decide +kernel
theorem dL_law_704 : decode cL_law 704 = .ok (.aload_n 0, 1) := by decide +kernel
theorem dL_law_705 : decode cL_law 705 = .ok (.iload_n 3, 1) := by decide +kernel
theorem dL_law_706 : decode cL_law 706 = .ok (.iconst 2, 1) := by decide +kernel
theorem dL_law_707 : decode cL_law 707 = .ok (.iadd, 1) := by decide +kernel
theorem dL_law_708 : decode cL_law 708 = .ok (.iaload, 1) := by decide +kernel
theorem dL_law_709 : decode cL_law 709 = .ok (.aload_n 0, 1) := by decide +kernel
theorem dL_law_710 : decode cL_law 710 = .ok (.iload_n 3, 1) := by decide +kernel
theorem dL_law_711 : decode cL_law 711 = .ok (.iconst 3, 1) := by decide +kernel
theorem dL_law_712 : decode cL_law 712 = .ok (.iadd, 1) := by decide +kernel
theorem dL_law_713 : decode cL_law 713 = .ok (.iaload, 1) := by decide +kernel
theorem dL_law_714 : decode cL_law 714 = .ok (.invokevirtual 87, 3) := by decide +kernel
theorem dL_law_717 : decode cL_law 717 = .ok (.pop, 1) := by decide +kernel
theorem dL_law_718 : decode cL_law 718 = .ok (.goto 366, 3) := by decide +kernel
theorem dL_law_721 : decode cL_law 721 = .ok (.aload_n 1, 1) := by decide +kernel
theorem dL_law_722 : decode cL_law 722 = .ok (.aload_n 0, 1) := by decide +kernel
theorem dL_law_723 : decode cL_law 723 = .ok (.iload_n 3, 1) := by decide +kernel
theorem dL_law_724 : decode cL_law 724 = .ok (.iconst 1, 1) := by decide +kernel
theorem dL_law_725 : decode cL_law 725 = .ok (.iadd, 1) := by decide +kernel
theorem dL_law_726 : decode cL_law 726 = .ok (.iaload, 1) := by decide +kernel
theorem dL_law_727 : decode cL_law 727 = .ok (.aload_n 0, 1) := by decide +kernel
theorem dL_law_728 : decode cL_law 728 = .ok (.iload_n 3, 1) := by decide +kernel
theorem dL_law_729 : decode cL_law 729 = .ok (.iconst 2, 1) := by decide +kernel
theorem dL_law_730 : decode cL_law 730 = .ok (.iadd, 1) := by decide +kernel
theorem dL_law_731 : decode cL_law 731 = .ok (.iaload, 1) := by decide +kernel
theorem dL_law_732 : decode cL_law 732 = .ok (.invokevirtual 88, 3) := by decide +kernel
theorem dL_law_735 : decode cL_law 735 = .ok (.pop, 1) := by decide +kernel
theorem dL_law_736 : decode cL_law 736 = .ok (.aload_n 2, 1) := by decide +kernel
theorem dL_law_737 : decode cL_law 737 = .ok (.aload_n 0, 1) := by decide +kernel
theorem dL_law_738 : decode cL_law 738 = .ok (.iload_n 3, 1) := by decide +kernel
theorem dL_law_739 : decode cL_law 739 = .ok (.iconst 1, 1) := by decide +kernel
theorem dL_law_740 : decode cL_law 740 = .ok (.iadd, 1) := by decide +kernel
theorem dL_law_741 : decode cL_law 741 = .ok (.iaload, 1) := by decide +kernel
theorem dL_law_742 : decode cL_law 742 = .ok (.aload_n 0, 1) := by decide +kernel
theorem dL_law_743 : decode cL_law 743 = .ok (.iload_n 3, 1) := by decide +kernel
theorem dL_law_744 : decode cL_law 744 = .ok (.iconst 2, 1) := by decide +kernel
theorem dL_law_745 : decode cL_law 745 = .ok (.iadd, 1) := by decide +kernel
theorem dL_law_746 : decode cL_law 746 = .ok (.iaload, 1) := by decide +kernel
theorem dL_law_747 : decode cL_law 747 = .ok (.invokevirtual 91, 3) := by decide +kernel
theorem dL_law_750 : decode cL_law 750 = .ok (.pop, 1) := by decide +kernel
theorem dL_law_751 : decode cL_law 751 = .ok (.goto 333, 3) := by decide +kernel
theorem dL_law_754 : decode cL_law 754 = .ok (.aload_n 1, 1) := by decide +kernel
theorem dL_law_755 : decode cL_law 755 = .ok (.aload_n 0, 1) := by decide +kernel
theorem dL_law_756 : decode cL_law 756 = .ok (.iload_n 3, 1) := by decide +kernel
theorem dL_law_757 : decode cL_law 757 = .ok (.iconst 1, 1) := by decide +kernel
theorem dL_law_758 : decode cL_law 758 = .ok (.iadd, 1) := by decide +kernel
theorem dL_law_759 : decode cL_law 759 = .ok (.iaload, 1) := by decide +kernel
theorem dL_law_760 : decode cL_law 760 = .ok (.invokevirtual 92, 3) := by decide +kernel
theorem dL_law_763 : decode cL_law 763 = .ok (.pop2, 1) := by decide +kernel
theorem dL_law_764 : decode cL_law 764 = .ok (.aload_n 2, 1) := by decide +kernel
theorem dL_law_765 : decode cL_law 765 = .ok (.aload_n 0, 1) := by decide +kernel
theorem dL_law_766 : decode cL_law 766 = .ok (.iload_n 3, 1) := by decide +kernel
theorem dL_law_767 : decode cL_law 767 = .ok (.iconst 1, 1) := by decide +kernel
theorem dL_law_768 : decode cL_law 768 = .ok (.iadd, 1) := by decide +kernel
theorem dL_law_769 : decode cL_law 769 = .ok (.iaload, 1) := by decide +kernel
theorem dL_law_770 : decode cL_law 770 = .ok (.invokevirtual 96, 3) := by decide +kernel
theorem dL_law_773 : decode cL_law 773 = .ok (.pop2, 1) := by decide +kernel
theorem dL_law_774 : decode cL_law 774 = .ok (.goto 310, 3) := by decide +kernel
theorem dL_law_777 : decode cL_law 777 = .ok (.aload_n 1, 1) := by decide +kernel
theorem dL_law_778 : decode cL_law 778 = .ok (.aload_n 0, 1) := by decide +kernel
theorem dL_law_779 : decode cL_law 779 = .ok (.iload_n 3, 1) := by decide +kernel
theorem dL_law_780 : decode cL_law 780 = .ok (.iconst 1, 1) := by decide +kernel
theorem dL_law_781 : decode cL_law 781 = .ok (.iadd, 1) := by decide +kernel
theorem dL_law_782 : decode cL_law 782 = .ok (.iaload, 1) := by decide +kernel
theorem dL_law_783 : decode cL_law 783 = .ok (.invokevirtual 97, 3) := by decide +kernel
theorem dL_law_786 : decode cL_law 786 = .ok (.pop, 1) := by decide +kernel
theorem dL_law_787 : decode cL_law 787 = .ok (.aload_n 2, 1) := by decide +kernel
theorem dL_law_788 : decode cL_law 788 = .ok (.aload_n 0, 1) := by decide +kernel
theorem dL_law_789 : decode cL_law 789 = .ok (.iload_n 3, 1) := by decide +kernel
theorem dL_law_790 : decode cL_law 790 = .ok (.iconst 1, 1) := by decide +kernel
theorem dL_law_791 : decode cL_law 791 = .ok (.iadd, 1) := by decide +kernel
theorem dL_law_792 : decode cL_law 792 = .ok (.iaload, 1) := by decide +kernel
theorem dL_law_793 : decode cL_law 793 = .ok (.invokevirtual 100, 3) := by decide +kernel
theorem dL_law_796 : decode cL_law 796 = .ok (.pop, 1) := by decide +kernel
theorem dL_law_797 : decode cL_law 797 = .ok (.goto 287, 3) := by decide +kernel
theorem dL_law_800 : decode cL_law 800 = .ok (.aload_n 1, 1) := by decide +kernel
theorem dL_law_801 : decode cL_law 801 = .ok (.aload_n 0, 1) := by decide +kernel
theorem dL_law_802 : decode cL_law 802 = .ok (.iload_n 3, 1) := by decide +kernel
theorem dL_law_803 : decode cL_law 803 = .ok (.iconst 1, 1) := by decide +kernel
theorem dL_law_804 : decode cL_law 804 = .ok (.iadd, 1) := by decide +kernel
theorem dL_law_805 : decode cL_law 805 = .ok (.iaload, 1) := by decide +kernel
theorem dL_law_806 : decode cL_law 806 = .ok (.aload_n 0, 1) := by decide +kernel
theorem dL_law_807 : decode cL_law 807 = .ok (.iload_n 3, 1) := by decide +kernel
theorem dL_law_808 : decode cL_law 808 = .ok (.iconst 2, 1) := by decide +kernel
theorem dL_law_809 : decode cL_law 809 = .ok (.iadd, 1) := by decide +kernel
theorem dL_law_810 : decode cL_law 810 = .ok (.iaload, 1) := by decide +kernel
theorem dL_law_811 : decode cL_law 811 = .ok (.invokevirtual 101, 3) := by decide +kernel
theorem dL_law_814 : decode cL_law 814 = .ok (.pop2, 1) := by decide +kernel
theorem dL_law_815 : decode cL_law 815 = .ok (.aload_n 2, 1) := by decide +kernel
theorem dL_law_816 : decode cL_law 816 = .ok (.aload_n 0, 1) := by decide +kernel
theorem dL_law_817 : decode cL_law 817 = .ok (.iload_n 3, 1) := by decide +kernel
theorem dL_law_818 : decode cL_law 818 = .ok (.iconst 1, 1) := by decide +kernel
theorem dL_law_819 : decode cL_law 819 = .ok (.iadd, 1) := by decide +kernel
theorem dL_law_820 : decode cL_law 820 = .ok (.iaload, 1) := by decide +kernel
theorem dL_law_821 : decode cL_law 821 = .ok (.aload_n 0, 1) := by decide +kernel
theorem dL_law_822 : decode cL_law 822 = .ok (.iload_n 3, 1) := by decide +kernel
theorem dL_law_823 : decode cL_law 823 = .ok (.iconst 2, 1) := by decide +kernel
theorem dL_law_824 : decode cL_law 824 = .ok (.iadd, 1) := by decide +kernel
theorem dL_law_825 : decode cL_law 825 = .ok (.iaload, 1) := by decide +kernel
theorem dL_law_826 : decode cL_law 826 = .ok (.invokevirtual 105, 3) := by decide +kernel
theorem dL_law_829 : decode cL_law 829 = .ok (.pop2, 1) := by decide +kernel
theorem dL_law_830 : decode cL_law 830 = .ok (.goto 254, 3) := by decide +kernel
theorem dL_law_833 : decode cL_law 833 = .ok (.aload_n 1, 1) := by decide +kernel
theorem dL_law_834 : decode cL_law 834 = .ok (.aload_n 0, 1) := by decide +kernel
theorem dL_law_835 : decode cL_law 835 = .ok (.iload_n 3, 1) := by decide +kernel
theorem dL_law_836 : decode cL_law 836 = .ok (.iconst 1, 1) := by decide +kernel
theorem dL_law_837 : decode cL_law 837 = .ok (.iadd, 1) := by decide +kernel
theorem dL_law_838 : decode cL_law 838 = .ok (.iaload, 1) := by decide +kernel
theorem dL_law_839 : decode cL_law 839 = .ok (.invokevirtual 106, 3) := by decide +kernel
theorem dL_law_842 : decode cL_law 842 = .ok (.pop, 1) := by decide +kernel
theorem dL_law_843 : decode cL_law 843 = .ok (.aload_n 2, 1) := by decide +kernel
theorem dL_law_844 : decode cL_law 844 = .ok (.aload_n 0, 1) := by decide +kernel
theorem dL_law_845 : decode cL_law 845 = .ok (.iload_n 3, 1) := by decide +kernel
theorem dL_law_846 : decode cL_law 846 = .ok (.iconst 1, 1) := by decide +kernel
theorem dL_law_847 : decode cL_law 847 = .ok (.iadd, 1) := by decide +kernel
theorem dL_law_848 : decode cL_law 848 = .ok (.iaload, 1) := by decide +kernel
theorem dL_law_849 : decode cL_law 849 = .ok (.invokevirtual 110, 3) := by decide +kernel
theorem dL_law_852 : decode cL_law 852 = .ok (.pop, 1) := by decide +kernel
theorem dL_law_853 : decode cL_law 853 = .ok (.goto 231, 3) := by decide +kernel
theorem dL_law_856 : decode cL_law 856 = .ok (.aload_n 1, 1) := by decide +kernel
theorem dL_law_857 : decode cL_law 857 = .ok (.aload_n 0, 1) := by decide +kernel
theorem dL_law_858 : decode cL_law 858 = .ok (.iload_n 3, 1) := by decide +kernel
theorem dL_law_859 : decode cL_law 859 = .ok (.iconst 1, 1) := by decide +kernel
theorem dL_law_860 : decode cL_law 860 = .ok (.iadd, 1) := by decide +kernel
theorem dL_law_861 : decode cL_law 861 = .ok (.iaload, 1) := by decide +kernel
theorem dL_law_862 : decode cL_law 862 = .ok (.aload_n 0, 1) := by decide +kernel
theorem dL_law_863 : decode cL_law 863 = .ok (.iload_n 3, 1) := by decide +kernel
theorem dL_law_864 : decode cL_law 864 = .ok (.iconst 2, 1) := by decide +kernel
theorem dL_law_865 : decode cL_law 865 = .ok (.iadd, 1) := by decide +kernel
theorem dL_law_866 : decode cL_law 866 = .ok (.iaload, 1) := by decide +kernel
theorem dL_law_867 : decode cL_law 867 = .ok (.invokevirtual 111, 3) := by decide +kernel
theorem dL_law_870 : decode cL_law 870 = .ok (.pop, 1) := by decide +kernel
theorem dL_law_871 : decode cL_law 871 = .ok (.aload_n 2, 1) := by decide +kernel
theorem dL_law_872 : decode cL_law 872 = .ok (.aload_n 0, 1) := by decide +kernel
theorem dL_law_873 : decode cL_law 873 = .ok (.iload_n 3, 1) := by decide +kernel
theorem dL_law_874 : decode cL_law 874 = .ok (.iconst 1, 1) := by decide +kernel
theorem dL_law_875 : decode cL_law 875 = .ok (.iadd, 1) := by decide +kernel
theorem dL_law_876 : decode cL_law 876 = .ok (.iaload, 1) := by decide +kernel
theorem dL_law_877 : decode cL_law 877 = .ok (.aload_n 0, 1) := by decide +kernel
theorem dL_law_878 : decode cL_law 878 = .ok (.iload_n 3, 1) := by decide +kernel
theorem dL_law_879 : decode cL_law 879 = .ok (.iconst 2, 1) := by decide +kernel
theorem dL_law_880 : decode cL_law 880 = .ok (.iadd, 1) := by decide +kernel
theorem dL_law_881 : decode cL_law 881 = .ok (.iaload, 1) := by decide +kernel
theorem dL_law_882 : decode cL_law 882 = .ok (.invokevirtual 115, 3) := by decide +kernel
theorem dL_law_885 : decode cL_law 885 = .ok (.pop, 1) := by decide +kernel
theorem dL_law_886 : decode cL_law 886 = .ok (.goto 198, 3) := by decide +kernel
theorem dL_law_889 : decode cL_law 889 = .ok (.aload_n 1, 1) := by decide +kernel
theorem dL_law_890 : decode cL_law 890 = .ok (.aload_n 0, 1) := by decide +kernel
theorem dL_law_891 : decode cL_law 891 = .ok (.iload_n 3, 1) := by decide +kernel
theorem dL_law_892 : decode cL_law 892 = .ok (.iconst 1, 1) := by decide +kernel
theorem dL_law_893 : decode cL_law 893 = .ok (.iadd, 1) := by decide +kernel
theorem dL_law_894 : decode cL_law 894 = .ok (.iaload, 1) := by decide +kernel
theorem dL_law_895 : decode cL_law 895 = .ok (.aload_n 0, 1) := by decide +kernel
theorem dL_law_896 : decode cL_law 896 = .ok (.iload_n 3, 1) := by decide +kernel
theorem dL_law_897 : decode cL_law 897 = .ok (.iconst 2, 1) := by decide +kernel
theorem dL_law_898 : decode cL_law 898 = .ok (.iadd, 1) := by decide +kernel
theorem dL_law_899 : decode cL_law 899 = .ok (.iaload, 1) := by decide +kernel
theorem dL_law_900 : decode cL_law 900 = .ok (.aload_n 0, 1) := by decide +kernel
theorem dL_law_901 : decode cL_law 901 = .ok (.iload_n 3, 1) := by decide +kernel
theorem dL_law_902 : decode cL_law 902 = .ok (.iconst 3, 1) := by decide +kernel
theorem dL_law_903 : decode cL_law 903 = .ok (.iadd, 1) := by decide +kernel
theorem dL_law_904 : decode cL_law 904 = .ok (.iaload, 1) := by decide +kernel
theorem dL_law_905 : decode cL_law 905 = .ok (.invokevirtual 116, 3) := by decide +kernel
theorem dL_law_908 : decode cL_law 908 = .ok (.pop, 1) := by decide +kernel
theorem dL_law_909 : decode cL_law 909 = .ok (.aload_n 2, 1) := by decide +kernel
theorem dL_law_910 : decode cL_law 910 = .ok (.aload_n 0, 1) := by decide +kernel
theorem dL_law_911 : decode cL_law 911 = .ok (.iload_n 3, 1) := by decide +kernel
theorem dL_law_912 : decode cL_law 912 = .ok (.iconst 1, 1) := by decide +kernel
theorem dL_law_913 : decode cL_law 913 = .ok (.iadd, 1) := by decide +kernel
theorem dL_law_914 : decode cL_law 914 = .ok (.iaload, 1) := by decide +kernel
theorem dL_law_915 : decode cL_law 915 = .ok (.aload_n 0, 1) := by decide +kernel
theorem dL_law_916 : decode cL_law 916 = .ok (.iload_n 3, 1) := by decide +kernel
theorem dL_law_917 : decode cL_law 917 = .ok (.iconst 2, 1) := by decide +kernel
theorem dL_law_918 : decode cL_law 918 = .ok (.iadd, 1) := by decide +kernel
theorem dL_law_919 : decode cL_law 919 = .ok (.iaload, 1) := by decide +kernel
theorem dL_law_920 : decode cL_law 920 = .ok (.aload_n 0, 1) := by decide +kernel
theorem dL_law_921 : decode cL_law 921 = .ok (.iload_n 3, 1) := by decide +kernel
theorem dL_law_922 : decode cL_law 922 = .ok (.iconst 3, 1) := by decide +kernel
theorem dL_law_923 : decode cL_law 923 = .ok (.iadd, 1) := by decide +kernel
theorem dL_law_924 : decode cL_law 924 = .ok (.iaload, 1) := by decide +kernel
theorem dL_law_925 : decode cL_law 925 = .ok (.invokevirtual 119, 3) := by decide +kernel
theorem dL_law_928 : decode cL_law 928 = .ok (.pop, 1) := by decide +kernel
theorem dL_law_929 : decode cL_law 929 = .ok (.goto 155, 3) := by decide +kernel
theorem dL_law_932 : decode cL_law 932 = .ok (.aload_n 1, 1) := by decide +kernel
theorem dL_law_933 : decode cL_law 933 = .ok (.aload_n 0, 1) := by decide +kernel
theorem dL_law_934 : decode cL_law 934 = .ok (.iload_n 3, 1) := by decide +kernel
theorem dL_law_935 : decode cL_law 935 = .ok (.iconst 1, 1) := by decide +kernel
theorem dL_law_936 : decode cL_law 936 = .ok (.iadd, 1) := by decide +kernel
theorem dL_law_937 : decode cL_law 937 = .ok (.iaload, 1) := by decide +kernel
theorem dL_law_938 : decode cL_law 938 = .ok (.aload_n 0, 1) := by decide +kernel
theorem dL_law_939 : decode cL_law 939 = .ok (.iload_n 3, 1) := by decide +kernel
theorem dL_law_940 : decode cL_law 940 = .ok (.iconst 2, 1) := by decide +kernel
theorem dL_law_941 : decode cL_law 941 = .ok (.iadd, 1) := by decide +kernel
theorem dL_law_942 : decode cL_law 942 = .ok (.iaload, 1) := by decide +kernel
theorem dL_law_943 : decode cL_law 943 = .ok (.aload_n 0, 1) := by decide +kernel
theorem dL_law_944 : decode cL_law 944 = .ok (.iload_n 3, 1) := by decide +kernel
theorem dL_law_945 : decode cL_law 945 = .ok (.iconst 3, 1) := by decide +kernel
theorem dL_law_946 : decode cL_law 946 = .ok (.iadd, 1) := by decide +kernel
theorem dL_law_947 : decode cL_law 947 = .ok (.iaload, 1) := by decide +kernel
theorem dL_law_948 : decode cL_law 948 = .ok (.invokevirtual 120, 3) := by decide +kernel
theorem dL_law_951 : decode cL_law 951 = .ok (.pop2, 1) := by decide +kernel
theorem dL_law_952 : decode cL_law 952 = .ok (.aload_n 2, 1) := by decide +kernel
theorem dL_law_953 : decode cL_law 953 = .ok (.aload_n 0, 1) := by decide +kernel
theorem dL_law_954 : decode cL_law 954 = .ok (.iload_n 3, 1) := by decide +kernel
theorem dL_law_955 : decode cL_law 955 = .ok (.iconst 1, 1) := by decide +kernel
theorem dL_law_956 : decode cL_law 956 = .ok (.iadd, 1) := by decide +kernel
theorem dL_law_957 : decode cL_law 957 = .ok (.iaload, 1) := by decide +kernel
theorem dL_law_958 : decode cL_law 958 = .ok (.aload_n 0, 1) := by decide +kernel
theorem dL_law_959 : decode cL_law 959 = .ok (.iload_n 3, 1) := by decide +kernel
theorem dL_law_960 : decode cL_law 960 = .ok (.iconst 2, 1) := by decide +kernel
theorem dL_law_961 : decode cL_law 961 = .ok (.iadd, 1) := by decide +kernel
theorem dL_law_962 : decode cL_law 962 = .ok (.iaload, 1) := by decide +kernel
theorem dL_law_963 : decode cL_law 963 = .ok (.aload_n 0, 1) := by decide +kernel
theorem dL_law_964 : decode cL_law 964 = .ok (.iload_n 3, 1) := by decide +kernel
theorem dL_law_965 : decode cL_law 965 = .ok (.iconst 3, 1) := by decide +kernel
theorem dL_law_966 : decode cL_law 966 = .ok (.iadd, 1) := by decide +kernel
theorem dL_law_967 : decode cL_law 967 = .ok (.iaload, 1) := by decide +kernel
theorem dL_law_968 : decode cL_law 968 = .ok (.invokevirtual 124, 3) := by decide +kernel
theorem dL_law_971 : decode cL_law 971 = .ok (.pop2, 1) := by decide +kernel
theorem dL_law_972 : decode cL_law 972 = .ok (.goto 112, 3) := by decide +kernel
theorem dL_law_975 : decode cL_law 975 = .ok (.aload_n 1, 1) := by decide +kernel
theorem dL_law_976 : decode cL_law 976 = .ok (.aload_n 0, 1) := by decide +kernel
theorem dL_law_977 : decode cL_law 977 = .ok (.iload_n 3, 1) := by decide +kernel
theorem dL_law_978 : decode cL_law 978 = .ok (.iconst 1, 1) := by decide +kernel
theorem dL_law_979 : decode cL_law 979 = .ok (.iadd, 1) := by decide +kernel
theorem dL_law_980 : decode cL_law 980 = .ok (.iaload, 1) := by decide +kernel
theorem dL_law_981 : decode cL_law 981 = .ok (.aload_n 0, 1) := by decide +kernel
theorem dL_law_982 : decode cL_law 982 = .ok (.iload_n 3, 1) := by decide +kernel
theorem dL_law_983 : decode cL_law 983 = .ok (.iconst 2, 1) := by decide +kernel
theorem dL_law_984 : decode cL_law 984 = .ok (.iadd, 1) := by decide +kernel
theorem dL_law_985 : decode cL_law 985 = .ok (.iaload, 1) := by decide +kernel
theorem dL_law_986 : decode cL_law 986 = .ok (.aload_n 0, 1) := by decide +kernel
theorem dL_law_987 : decode cL_law 987 = .ok (.iload_n 3, 1) := by decide +kernel
theorem dL_law_988 : decode cL_law 988 = .ok (.iconst 3, 1) := by decide +kernel
theorem dL_law_989 : decode cL_law 989 = .ok (.iadd, 1) := by decide +kernel
theorem dL_law_990 : decode cL_law 990 = .ok (.iaload, 1) := by decide +kernel
theorem dL_law_991 : decode cL_law 991 = .ok (.invokevirtual 125, 3) := by decide +kernel
theorem dL_law_994 : decode cL_law 994 = .ok (.pop, 1) := by decide +kernel
theorem dL_law_995 : decode cL_law 995 = .ok (.aload_n 2, 1) := by decide +kernel
theorem dL_law_996 : decode cL_law 996 = .ok (.aload_n 0, 1) := by decide +kernel
theorem dL_law_997 : decode cL_law 997 = .ok (.iload_n 3, 1) := by decide +kernel
theorem dL_law_998 : decode cL_law 998 = .ok (.iconst 1, 1) := by decide +kernel
theorem dL_law_999 : decode cL_law 999 = .ok (.iadd, 1) := by decide +kernel
theorem dL_law_1000 : decode cL_law 1000 = .ok (.iaload, 1) := by decide +kernel
theorem dL_law_1001 : decode cL_law 1001 = .ok (.aload_n 0, 1) := by decide +kernel
theorem dL_law_1002 : decode cL_law 1002 = .ok (.iload_n 3, 1) := by decide +kernel
theorem dL_law_1003 : decode cL_law 1003 = .ok (.iconst 2, 1) := by decide +kernel
theorem dL_law_1004 : decode cL_law 1004 = .ok (.iadd, 1) := by decide +kernel
theorem dL_law_1005 : decode cL_law 1005 = .ok (.iaload, 1) := by decide +kernel
theorem dL_law_1006 : decode cL_law 1006 = .ok (.aload_n 0, 1) := by decide +kernel
theorem dL_law_1007 : decode cL_law 1007 = .ok (.iload_n 3, 1) := by decide +kernel
theorem dL_law_1008 : decode cL_law 1008 = .ok (.iconst 3, 1) := by decide +kernel
theorem dL_law_1009 : decode cL_law 1009 = .ok (.iadd, 1) := by decide +kernel
theorem dL_law_1010 : decode cL_law 1010 = .ok (.iaload, 1) := by decide +kernel
theorem dL_law_1011 : decode cL_law 1011 = .ok (.invokevirtual 128, 3) := by decide +kernel
theorem dL_law_1014 : decode cL_law 1014 = .ok (.pop, 1) := by decide +kernel
theorem dL_law_1015 : decode cL_law 1015 = .ok (.goto 69, 3) := by decide +kernel
theorem dL_law_1018 : decode cL_law 1018 = .ok (.aload_n 1, 1) := by decide +kernel
theorem dL_law_1019 : decode cL_law 1019 = .ok (.aload_n 0, 1) := by decide +kernel
theorem dL_law_1020 : decode cL_law 1020 = .ok (.iload_n 3, 1) := by decide +kernel
theorem dL_law_1021 : decode cL_law 1021 = .ok (.iconst 1, 1) := by decide +kernel
theorem dL_law_1022 : decode cL_law 1022 = .ok (.iadd, 1) := by decide +kernel
theorem dL_law_1023 : decode cL_law 1023 = .ok (.iaload, 1) := by decide +kernel
theorem dL_law_1024 : decode cL_law 1024 = .ok (.aload_n 0, 1) := by decide +kernel
theorem dL_law_1025 : decode cL_law 1025 = .ok (.iload_n 3, 1) := by decide +kernel
theorem dL_law_1026 : decode cL_law 1026 = .ok (.iconst 2, 1) := by decide +kernel
theorem dL_law_1027 : decode cL_law 1027 = .ok (.iadd, 1) := by decide +kernel
theorem dL_law_1028 : decode cL_law 1028 = .ok (.iaload, 1) := by decide +kernel
theorem dL_law_1029 : decode cL_law 1029 = .ok (.aload_n 0, 1) := by decide +kernel
theorem dL_law_1030 : decode cL_law 1030 = .ok (.iload_n 3, 1) := by decide +kernel
theorem dL_law_1031 : decode cL_law 1031 = .ok (.iconst 3, 1) := by decide +kernel
theorem dL_law_1032 : decode cL_law 1032 = .ok (.iadd, 1) := by decide +kernel
theorem dL_law_1033 : decode cL_law 1033 = .ok (.iaload, 1) := by decide +kernel
theorem dL_law_1034 : decode cL_law 1034 = .ok (.invokevirtual 129, 3) := by decide +kernel
theorem dL_law_1037 : decode cL_law 1037 = .ok (.pop, 1) := by decide +kernel
theorem dL_law_1038 : decode cL_law 1038 = .ok (.aload_n 2, 1) := by decide +kernel
theorem dL_law_1039 : decode cL_law 1039 = .ok (.aload_n 0, 1) := by decide +kernel
theorem dL_law_1040 : decode cL_law 1040 = .ok (.iload_n 3, 1) := by decide +kernel
theorem dL_law_1041 : decode cL_law 1041 = .ok (.iconst 1, 1) := by decide +kernel
theorem dL_law_1042 : decode cL_law 1042 = .ok (.iadd, 1) := by decide +kernel
theorem dL_law_1043 : decode cL_law 1043 = .ok (.iaload, 1) := by decide +kernel
theorem dL_law_1044 : decode cL_law 1044 = .ok (.aload_n 0, 1) := by decide +kernel
theorem dL_law_1045 : decode cL_law 1045 = .ok (.iload_n 3, 1) := by decide +kernel
theorem dL_law_1046 : decode cL_law 1046 = .ok (.iconst 2, 1) := by decide +kernel
theorem dL_law_1047 : decode cL_law 1047 = .ok (.iadd, 1) := by decide +kernel
theorem dL_law_1048 : decode cL_law 1048 = .ok (.iaload, 1) := by decide +kernel
theorem dL_law_1049 : decode cL_law 1049 = .ok (.aload_n 0, 1) := by decide +kernel
theorem dL_law_1050 : decode cL_law 1050 = .ok (.iload_n 3, 1) := by decide +kernel
theorem dL_law_1051 : decode cL_law 1051 = .ok (.iconst 3, 1) := by decide +kernel
theorem dL_law_1052 : decode cL_law 1052 = .ok (.iadd, 1) := by decide +kernel
theorem dL_law_1053 : decode cL_law 1053 = .ok (.iaload, 1) := by decide +kernel
theorem dL_law_1054 : decode cL_law 1054 = .ok (.invokevirtual 132, 3) := by decide +kernel
theorem dL_law_1057 : decode cL_law 1057 = .ok (.pop, 1) := by decide +kernel
theorem dL_law_1058 : decode cL_law 1058 = .ok (.goto 26, 3) := by decide +kernel
theorem dL_law_1061 : decode cL_law 1061 = .ok (.aload_n 1, 1) := by decide +kernel
theorem dL_law_1062 : decode cL_law 1062 = .ok (.aload_n 0, 1) := by decide +kernel
theorem dL_law_1063 : decode cL_law 1063 = .ok (.iload_n 3, 1) := by decide +kernel
theorem dL_law_1064 : decode cL_law 1064 = .ok (.iconst 1, 1) := by decide +kernel
theorem dL_law_1065 : decode cL_law 1065 = .ok (.iadd, 1) := by decide +kernel
theorem dL_law_1066 : decode cL_law 1066 = .ok (.iaload, 1) := by decide +kernel
theorem dL_law_1067 : decode cL_law 1067 = .ok (.invokevirtual 133, 3) := by decide +kernel
theorem dL_law_1070 : decode cL_law 1070 = .ok (.pop, 1) := by decide +kernel
theorem dL_law_1071 : decode cL_law 1071 = .ok (.aload_n 2, 1) := by decide +kernel
theorem dL_law_1072 : decode cL_law 1072 = .ok (.aload_n 0, 1) := by decide +kernel
theorem dL_law_1073 : decode cL_law 1073 = .ok (.iload_n 3, 1) := by decide +kernel
theorem dL_law_1074 : decode cL_law 1074 = .ok (.iconst 1, 1) := by decide +kernel
theorem dL_law_1075 : decode cL_law 1075 = .ok (.iadd, 1) := by decide +kernel
theorem dL_law_1076 : decode cL_law 1076 = .ok (.iaload, 1) := by decide +kernel
theorem dL_law_1077 : decode cL_law 1077 = .ok (.invokevirtual 136, 3) := by decide +kernel
theorem dL_law_1080 : decode cL_law 1080 = .ok (.pop, 1) := by decide +kernel
theorem dL_law_1081 : decode cL_law 1081 = .ok (.goto 3, 3) := by decide +kernel
theorem dL_law_1084 : decode cL_law 1084 = .ok (.iinc 3 6, 3) := by decide +kernel
theorem dL_law_1087 : decode cL_law 1087 = .ok (.goto (-1069), 3) := by decide +kernel
theorem dL_law_1090 : decode cL_law 1090 = .ok (.iconst 1, 1) := by decide +kernel
theorem dL_law_1091 : decode cL_law 1091 = .ok (.ireturn, 1) := by decide +kernel
theorem suL_63 {l : Launch} {R : Room} {Qf : List Frame → Array Value → State → State → Prop} {Ex : State → Prop} {D : va_G} {cy : Nat → ClassId} {b : Nat} {cc : ByteArray} {nL : Nat} {ret : Option FieldType} {nm : String} {cells slots : Nat} {f : gMem} {pc : Nat} {lv : List (Nat × Value)} {st : List Value} {d' mc' ms' : Nat} {As st0 : List Value} {Pu : Nat → Nat → Option Value → gMem → Prop} {a : Nat} {fs : List Value} (hM : gU l D cy b yX11_begin cX11_begin 5 (some .int) d' mc' ms' (.ref a :: As) f gTt Pu) (hf : f a = some (.inr (11, fs))) (hR : d' + 1 ≤ R.frames ∧ 64 * (d' + 1) ≤ R.locals) (hcs : cells + mc' ≤ R.cells ∧ slots + ms' ≤ R.slots) (hn : As.length = 3) (hst : st0 = As.reverse ++ .ref a :: st) (hsum : (st.map fun v => v.category).sum ≤ 8) (hdg : decode cc pc = .ok (.invokevirtual 63, 3)) (k : ∀ (kk nn : Nat) (r : Option Value) (f2 : gMem), Pu kk nn r f2 → gG l R Qf Ex D cy b cc nL ret RL nm (cells + kk) (slots + nn) f2 (pc + 3) lv (r.toList ++ st)) : gG l R Qf Ex D cy b cc nL ret RL nm cells slots f pc lv st0 := gz_callVU (T := TX11) (N := 13) (n := 3) hM gEok_tt (fun _ _ => trivial) hf rfl wd_1176 ⟨wd_1177, wd_1178, wd_1179, wd_213⟩ ⟨rfl, by decide, by decide, by decide +kernel⟩ ⟨hR.1, by omega⟩ hcs hn hst hsum hdg k
theorem suL_67 {l : Launch} {R : Room} {Qf : List Frame → Array Value → State → State → Prop} {Ex : State → Prop} {D : va_G} {cy : Nat → ClassId} {b : Nat} {cc : ByteArray} {nL : Nat} {ret : Option FieldType} {nm : String} {cells slots : Nat} {f : gMem} {pc : Nat} {lv : List (Nat × Value)} {st : List Value} {d' mc' ms' : Nat} {As st0 : List Value} {Pu : Nat → Nat → Option Value → gMem → Prop} {a : Nat} {fs : List Value} (hM : gU l D cy b yX11_day cX11_day 3 (some .int) d' mc' ms' (.ref a :: As) f gTt Pu) (hf : f a = some (.inr (11, fs))) (hR : d' + 1 ≤ R.frames ∧ 64 * (d' + 1) ≤ R.locals) (hcs : cells + mc' ≤ R.cells ∧ slots + ms' ≤ R.slots) (hn : As.length = 0) (hst : st0 = As.reverse ++ .ref a :: st) (hsum : (st.map fun v => v.category).sum ≤ 8) (hdg : decode cc pc = .ok (.invokevirtual 67, 3)) (k : ∀ (kk nn : Nat) (r : Option Value) (f2 : gMem), Pu kk nn r f2 → gG l R Qf Ex D cy b cc nL ret RL nm (cells + kk) (slots + nn) f2 (pc + 3) lv (r.toList ++ st)) : gG l R Qf Ex D cy b cc nL ret RL nm cells slots f pc lv st0 := gz_callVU (T := TX11) (N := 13) (n := 0) hM gEok_tt (fun _ _ => trivial) hf rfl wd_1184 ⟨wd_1185, wd_1186, wd_1187, wd_213⟩ ⟨rfl, by decide, by decide, by decide +kernel⟩ ⟨hR.1, by omega⟩ hcs hn hst hsum hdg k
theorem suL_79 {l : Launch} {R : Room} {Qf : List Frame → Array Value → State → State → Prop} {Ex : State → Prop} {D : va_G} {cy : Nat → ClassId} {b : Nat} {cc : ByteArray} {nL : Nat} {ret : Option FieldType} {nm : String} {cells slots : Nat} {f : gMem} {pc : Nat} {lv : List (Nat × Value)} {st : List Value} {d' mc' ms' : Nat} {As st0 : List Value} {Pu : Nat → Nat → Option Value → gMem → Prop} {a : Nat} {fs : List Value} (hM : gU l D cy b yX11_choose cX11_choose 5 (some .int) d' mc' ms' (.ref a :: As) f gTt Pu) (hf : f a = some (.inr (11, fs))) (hR : d' + 1 ≤ R.frames ∧ 64 * (d' + 1) ≤ R.locals) (hcs : cells + mc' ≤ R.cells ∧ slots + ms' ≤ R.slots) (hn : As.length = 4) (hst : st0 = As.reverse ++ .ref a :: st) (hsum : (st.map fun v => v.category).sum ≤ 8) (hdg : decode cc pc = .ok (.invokevirtual 79, 3)) (k : ∀ (kk nn : Nat) (r : Option Value) (f2 : gMem), Pu kk nn r f2 → gG l R Qf Ex D cy b cc nL ret RL nm (cells + kk) (slots + nn) f2 (pc + 3) lv (r.toList ++ st)) : gG l R Qf Ex D cy b cc nL ret RL nm cells slots f pc lv st0 := gz_callVU (T := TX11) (N := 13) (n := 4) hM gEok_tt (fun _ _ => trivial) hf rfl wd_1208 ⟨wd_1209, wd_1210, wd_1211, wd_213⟩ ⟨rfl, by decide, by decide, by decide +kernel⟩ ⟨hR.1, by omega⟩ hcs hn hst hsum hdg k
theorem suL_84 {l : Launch} {R : Room} {Qf : List Frame → Array Value → State → State → Prop} {Ex : State → Prop} {D : va_G} {cy : Nat → ClassId} {b : Nat} {cc : ByteArray} {nL : Nat} {ret : Option FieldType} {nm : String} {cells slots : Nat} {f : gMem} {pc : Nat} {lv : List (Nat × Value)} {st : List Value} {d' mc' ms' : Nat} {As st0 : List Value} {Pu : Nat → Nat → Option Value → gMem → Prop} {a : Nat} {fs : List Value} (hM : gU l D cy b yX11_take cX11_take 4 (some .int) d' mc' ms' (.ref a :: As) f gTt Pu) (hf : f a = some (.inr (11, fs))) (hR : d' + 1 ≤ R.frames ∧ 64 * (d' + 1) ≤ R.locals) (hcs : cells + mc' ≤ R.cells ∧ slots + ms' ≤ R.slots) (hn : As.length = 3) (hst : st0 = As.reverse ++ .ref a :: st) (hsum : (st.map fun v => v.category).sum ≤ 8) (hdg : decode cc pc = .ok (.invokevirtual 84, 3)) (k : ∀ (kk nn : Nat) (r : Option Value) (f2 : gMem), Pu kk nn r f2 → gG l R Qf Ex D cy b cc nL ret RL nm (cells + kk) (slots + nn) f2 (pc + 3) lv (r.toList ++ st)) : gG l R Qf Ex D cy b cc nL ret RL nm cells slots f pc lv st0 := gz_callVU (T := TX11) (N := 13) (n := 3) hM gEok_tt (fun _ _ => trivial) hf rfl wd_1216 ⟨wd_1217, wd_1218, wd_1219, wd_213⟩ ⟨rfl, by decide, by decide, by decide +kernel⟩ ⟨hR.1, by omega⟩ hcs hn hst hsum hdg k
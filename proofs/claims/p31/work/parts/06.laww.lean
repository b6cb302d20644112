def GWd (w : Cond) : Prop := w ∈ lw_tbl ∧ ((w.onTables && w.keeps) = true ∨ ∃ ty, w = .arrayClass ty)
theorem gw_n : GoodIn lw_tbl [] := fun _ h => absurd h List.not_mem_nil
theorem gw_c {w : Cond} {ws : List Cond} (h : GWd w) (t : GoodIn lw_tbl ws) : GoodIn lw_tbl (w :: ws) := fun x hx => (List.mem_cons.mp hx).elim (fun e => e ▸ h) (t x)
theorem gw_a {a b : List Cond} (ha : GoodIn lw_tbl a) (hb : GoodIn lw_tbl b) : GoodIn lw_tbl (a ++ b) := fun w h => (List.mem_append.mp h).elim (ha w) (hb w)
theorem gw_f (ws : List Cond) (ps : List Nat) (hp : ws = ps.filterMap (fun i => lw_tbl[i]?)) (h : ws.all goodWord = true) : GoodIn lw_tbl ws := goodIn_r ws ps hp h
theorem lwm_1 {x : Cond} (h : x ∈ tables_1_1) : x ∈ lw_tbl := List.mem_append_right _ (List.mem_append_left _ h)
theorem lwm_2 {x : Cond} (h : x ∈ tables_1_2) : x ∈ lw_tbl := List.mem_append_right _ (List.mem_append_right _ (List.mem_append_left _ h))
theorem lwm_3 {x : Cond} (h : x ∈ tables_1_3) : x ∈ lw_tbl := List.mem_append_right _ (List.mem_append_right _ (List.mem_append_right _ (List.mem_append_left _ h)))
theorem lwm_4 {x : Cond} (h : x ∈ tables_1_4) : x ∈ lw_tbl := List.mem_append_right _ (List.mem_append_right _ (List.mem_append_right _ (List.mem_append_right _ (List.mem_append_left _ h))))
theorem lwm_5 {x : Cond} (h : x ∈ tables_1_5) : x ∈ lw_tbl := List.mem_append_right _ (List.mem_append_right _ (List.mem_append_right _ (List.mem_append_right _ (List.mem_append_right _ (List.mem_append_left _ h)))))
theorem lwm_6 {x : Cond} (h : x ∈ tables_1_6) : x ∈ lw_tbl := List.mem_append_right _ (List.mem_append_right _ (List.mem_append_right _ (List.mem_append_right _ (List.mem_append_right _ (List.mem_append_right _ (h))))))
set_option maxRecDepth 100000 in
theorem GW_82 : GWd (Cond.code yX11_init cX11_init 1 none) := ⟨lwm_1 (List.mem_of_getElem? (i := 22) rfl), good_of_word (by decide +kernel)⟩
set_option maxRecDepth 100000 in
theorem GW_322 : GWd (Cond.classLink RX11 48 RX7) := ⟨lwm_2 (List.mem_of_getElem? (i := 22) rfl), good_of_word (by decide +kernel)⟩
set_option maxRecDepth 100000 in
theorem GW_424 : GWd (Cond.fieldLink RX11 44 "PeckYard" "hand" "LPeckYard$Hand;") := ⟨lwm_2 (List.mem_of_getElem? (i := 124) rfl), good_of_word (by decide +kernel)⟩
set_option maxRecDepth 100000 in
theorem GW_68 : GWd (Cond.initialized RX5) := ⟨lwm_1 (List.mem_of_getElem? (i := 8) rfl), good_of_word (by decide +kernel)⟩
set_option maxRecDepth 100000 in
theorem GW_305 : GWd (Cond.instantiable RX5 2) := ⟨lwm_2 (List.mem_of_getElem? (i := 5) rfl), good_of_word (by decide +kernel)⟩
set_option maxRecDepth 100000 in
theorem GW_304 : GWd (Cond.classLink RX11 41 RX5) := ⟨lwm_2 (List.mem_of_getElem? (i := 4) rfl), good_of_word (by decide +kernel)⟩
set_option maxRecDepth 100000 in
theorem GW_423 : GWd (Cond.fieldLink RX11 37 "PeckYard" "orders" "LPeckYard$Orders;") := ⟨lwm_2 (List.mem_of_getElem? (i := 123) rfl), good_of_word (by decide +kernel)⟩
set_option maxRecDepth 100000 in
theorem GW_66 : GWd (Cond.initialized RX9) := ⟨lwm_1 (List.mem_of_getElem? (i := 6) rfl), good_of_word (by decide +kernel)⟩
set_option maxRecDepth 100000 in
theorem GW_233 : GWd (Cond.instantiable RX9 11) := ⟨lwm_1 (List.mem_of_getElem? (i := 173) rfl), good_of_word (by decide +kernel)⟩
set_option maxRecDepth 100000 in
theorem GW_232 : GWd (Cond.classLink RX11 32 RX9) := ⟨lwm_1 (List.mem_of_getElem? (i := 172) rfl), good_of_word (by decide +kernel)⟩
set_option maxRecDepth 100000 in
theorem GW_422 : GWd (Cond.fieldLink RX11 28 "PeckYard" "muster" "LPeckYard$Muster;") := ⟨lwm_2 (List.mem_of_getElem? (i := 122) rfl), good_of_word (by decide +kernel)⟩
set_option maxRecDepth 100000 in
theorem GW_65 : GWd (Cond.initialized RX8) := ⟨lwm_1 (List.mem_of_getElem? (i := 5) rfl), good_of_word (by decide +kernel)⟩
set_option maxRecDepth 100000 in
theorem GW_174 : GWd (Cond.instantiable RX8 10) := ⟨lwm_1 (List.mem_of_getElem? (i := 114) rfl), good_of_word (by decide +kernel)⟩
set_option maxRecDepth 100000 in
theorem GW_173 : GWd (Cond.classLink RX11 23 RX8) := ⟨lwm_1 (List.mem_of_getElem? (i := 113) rfl), good_of_word (by decide +kernel)⟩
set_option maxRecDepth 100000 in
theorem GW_421 : GWd (Cond.fieldLink RX11 19 "PeckYard" "changes" "LPeckYard$Changes;") := ⟨lwm_2 (List.mem_of_getElem? (i := 121) rfl), good_of_word (by decide +kernel)⟩
set_option maxRecDepth 100000 in
theorem GW_63 : GWd (Cond.initialized RX1) := ⟨lwm_1 (List.mem_of_getElem? (i := 3) rfl), good_of_word (by decide +kernel)⟩
set_option maxRecDepth 100000 in
theorem GW_131 : GWd (Cond.instantiable RX1 3) := ⟨lwm_1 (List.mem_of_getElem? (i := 71) rfl), good_of_word (by decide +kernel)⟩
set_option maxRecDepth 100000 in
theorem GW_130 : GWd (Cond.classLink RX11 16 RX1) := ⟨lwm_1 (List.mem_of_getElem? (i := 70) rfl), good_of_word (by decide +kernel)⟩
set_option maxRecDepth 100000 in
theorem GW_420 : GWd (Cond.fieldLink RX11 10 "PeckYard" "flock" "LPeckYard$Flock;") := ⟨lwm_2 (List.mem_of_getElem? (i := 120) rfl), good_of_word (by decide +kernel)⟩
set_option maxRecDepth 100000 in
theorem GW_62 : GWd (Cond.initialized RX2) := ⟨lwm_1 (List.mem_of_getElem? (i := 2) rfl), good_of_word (by decide +kernel)⟩
set_option maxRecDepth 100000 in
theorem GW_87 : GWd (Cond.instantiable RX2 7) := ⟨lwm_1 (List.mem_of_getElem? (i := 27) rfl), good_of_word (by decide +kernel)⟩
set_option maxRecDepth 100000 in
theorem GW_86 : GWd (Cond.classLink RX11 7 RX2) := ⟨lwm_1 (List.mem_of_getElem? (i := 26) rfl), good_of_word (by decide +kernel)⟩
set_option maxRecDepth 100000 in
theorem GW_85 : GWd (Cond.code objectInit ⟨#[0xb1]⟩ 1 none) := ⟨lwm_1 (List.mem_of_getElem? (i := 25) rfl), good_of_word (by decide +kernel)⟩
set_option maxRecDepth 100000 in
theorem GW_84 : GWd (Cond.instanceMethod objectInit) := ⟨lwm_1 (List.mem_of_getElem? (i := 24) rfl), good_of_word (by decide +kernel)⟩
set_option maxRecDepth 100000 in
theorem GW_83 : GWd (Cond.methodLink RX11 1 objectInit) := ⟨lwm_1 (List.mem_of_getElem? (i := 23) rfl), good_of_word (by decide +kernel)⟩
theorem GL_wsX11_init_r1 : GoodIn lw_tbl wsX11_init_r1 := gw_c GW_83 (gw_c GW_84 (gw_c GW_85 (gw_c GW_86 (gw_c GW_87 (gw_c GW_62 (gw_c GW_420 (gw_c GW_130 (gw_c GW_131 (gw_c GW_63 (gw_c GW_421 (gw_c GW_173 (gw_c GW_174 (gw_c GW_65 (gw_c GW_422 (gw_c GW_232 (gw_c GW_233 (gw_c GW_66 (gw_c GW_423 (gw_c GW_304 (gw_c GW_305 (gw_c GW_68 (gw_c GW_424 (gw_c GW_322 (gw_n))))))))))))))))))))))))
set_option maxRecDepth 100000 in
theorem GW_110 : GWd (Cond.fieldLink RX2 24 "PeckYard$Flock" "weights" "[I") := ⟨lwm_1 (List.mem_of_getElem? (i := 50) rfl), good_of_word (by decide +kernel)⟩
set_option maxRecDepth 100000 in
theorem GW_107 : GWd (Cond.fieldLink RX2 21 "PeckYard$Flock" "width" "[I") := ⟨lwm_1 (List.mem_of_getElem? (i := 47) rfl), good_of_word (by decide +kernel)⟩
set_option maxRecDepth 100000 in
theorem GW_104 : GWd (Cond.fieldLink RX2 18 "PeckYard$Flock" "takenIn" "[I") := ⟨lwm_1 (List.mem_of_getElem? (i := 44) rfl), good_of_word (by decide +kernel)⟩
set_option maxRecDepth 100000 in
theorem GW_100 : GWd (Cond.fieldLink RX2 15 "PeckYard$Flock" "asks" "[I") := ⟨lwm_1 (List.mem_of_getElem? (i := 40) rfl), good_of_word (by decide +kernel)⟩
set_option maxRecDepth 100000 in
theorem GW_97 : GWd (Cond.fieldLink RX2 9 "PeckYard$Flock" "kind" "[I") := ⟨lwm_1 (List.mem_of_getElem? (i := 37) rfl), good_of_word (by decide +kernel)⟩
set_option maxRecDepth 100000 in
theorem GW_129 : GWd (Cond.arrayClass .int) := ⟨lwm_1 (List.mem_of_getElem? (i := 69) rfl), good_of_word (by decide +kernel)⟩
set_option maxRecDepth 100000 in
theorem GW_91 : GWd (Cond.methodLink RX2 3 objectInit) := ⟨lwm_1 (List.mem_of_getElem? (i := 31) rfl), good_of_word (by decide +kernel)⟩
set_option maxRecDepth 100000 in
theorem GW_90 : GWd (Cond.code yX2_init cX2_init 1 none) := ⟨lwm_1 (List.mem_of_getElem? (i := 30) rfl), good_of_word (by decide +kernel)⟩
set_option maxRecDepth 100000 in
theorem GW_89 : GWd (Cond.instanceMethod yX2_init) := ⟨lwm_1 (List.mem_of_getElem? (i := 29) rfl), good_of_word (by decide +kernel)⟩
set_option maxRecDepth 100000 in
theorem GW_428 : GWd (Cond.fieldLink RX11 72 "PeckYard" "leads" "LPeckYard$Leads;") := ⟨lwm_2 (List.mem_of_getElem? (i := 128) rfl), good_of_word (by decide +kernel)⟩
set_option maxRecDepth 100000 in
theorem GW_72 : GWd (Cond.initialized RX6) := ⟨lwm_1 (List.mem_of_getElem? (i := 12) rfl), good_of_word (by decide +kernel)⟩
set_option maxRecDepth 100000 in
theorem GW_405 : GWd (Cond.instantiable RX6 3) := ⟨lwm_2 (List.mem_of_getElem? (i := 105) rfl), good_of_word (by decide +kernel)⟩
set_option maxRecDepth 100000 in
theorem GW_404 : GWd (Cond.classLink RX11 69 RX6) := ⟨lwm_2 (List.mem_of_getElem? (i := 104) rfl), good_of_word (by decide +kernel)⟩
set_option maxRecDepth 100000 in
theorem GW_427 : GWd (Cond.fieldLink RX11 65 "PeckYard" "rings" "LPeckYard$Rings;") := ⟨lwm_2 (List.mem_of_getElem? (i := 127) rfl), good_of_word (by decide +kernel)⟩
set_option maxRecDepth 100000 in
theorem GW_71 : GWd (Cond.initialized RX10) := ⟨lwm_1 (List.mem_of_getElem? (i := 11) rfl), good_of_word (by decide +kernel)⟩
set_option maxRecDepth 100000 in
theorem GW_367 : GWd (Cond.instantiable RX10 10) := ⟨lwm_2 (List.mem_of_getElem? (i := 67) rfl), good_of_word (by decide +kernel)⟩
set_option maxRecDepth 100000 in
theorem GW_366 : GWd (Cond.classLink RX11 62 RX10) := ⟨lwm_2 (List.mem_of_getElem? (i := 66) rfl), good_of_word (by decide +kernel)⟩
set_option maxRecDepth 100000 in
theorem GW_426 : GWd (Cond.fieldLink RX11 58 "PeckYard" "groupings" "LPeckYard$Groups;") := ⟨lwm_2 (List.mem_of_getElem? (i := 126) rfl), good_of_word (by decide +kernel)⟩
set_option maxRecDepth 100000 in
theorem GW_70 : GWd (Cond.initialized RX3) := ⟨lwm_1 (List.mem_of_getElem? (i := 10) rfl), good_of_word (by decide +kernel)⟩
set_option maxRecDepth 100000 in
theorem GW_343 : GWd (Cond.instantiable RX3 5) := ⟨lwm_2 (List.mem_of_getElem? (i := 43) rfl), good_of_word (by decide +kernel)⟩
set_option maxRecDepth 100000 in
theorem GW_342 : GWd (Cond.classLink RX11 55 RX3) := ⟨lwm_2 (List.mem_of_getElem? (i := 42) rfl), good_of_word (by decide +kernel)⟩
set_option maxRecDepth 100000 in
theorem GW_425 : GWd (Cond.fieldLink RX11 51 "PeckYard" "line" "LPeckYard$Line;") := ⟨lwm_2 (List.mem_of_getElem? (i := 125) rfl), good_of_word (by decide +kernel)⟩
set_option maxRecDepth 100000 in
theorem GW_69 : GWd (Cond.initialized RX7) := ⟨lwm_1 (List.mem_of_getElem? (i := 9) rfl), good_of_word (by decide +kernel)⟩
set_option maxRecDepth 100000 in
theorem GW_323 : GWd (Cond.instantiable RX7 4) := ⟨lwm_2 (List.mem_of_getElem? (i := 23) rfl), good_of_word (by decide +kernel)⟩
theorem GL_wsX11_init_r2 : GoodIn lw_tbl wsX11_init_r2 := gw_c GW_323 (gw_c GW_69 (gw_c GW_425 (gw_c GW_342 (gw_c GW_343 (gw_c GW_70 (gw_c GW_426 (gw_c GW_366 (gw_c GW_367 (gw_c GW_71 (gw_c GW_427 (gw_c GW_404 (gw_c GW_405 (gw_c GW_72 (gw_c GW_428 (gw_c GW_89 (gw_c GW_90 (gw_c GW_91 (gw_c GW_129 (gw_c GW_97 (gw_c GW_100 (gw_c GW_104 (gw_c GW_107 (gw_c GW_110 (gw_n))))))))))))))))))))))))
set_option maxRecDepth 100000 in
theorem GW_210 : GWd (Cond.fieldLink RX8 34 "PeckYard$Muster" "pecks" "[I") := ⟨lwm_1 (List.mem_of_getElem? (i := 150) rfl), good_of_word (by decide +kernel)⟩
set_option maxRecDepth 100000 in
theorem GW_207 : GWd (Cond.fieldLink RX8 31 "PeckYard$Muster" "pairs" "[I") := ⟨lwm_1 (List.mem_of_getElem? (i := 147) rfl), good_of_word (by decide +kernel)⟩
set_option maxRecDepth 100000 in
theorem GW_204 : GWd (Cond.fieldLink RX8 28 "PeckYard$Muster" "below" "[I") := ⟨lwm_1 (List.mem_of_getElem? (i := 144) rfl), good_of_word (by decide +kernel)⟩
set_option maxRecDepth 100000 in
theorem GW_202 : GWd (Cond.fieldLink RX8 25 "PeckYard$Muster" "wants" "[I") := ⟨lwm_1 (List.mem_of_getElem? (i := 142) rfl), good_of_word (by decide +kernel)⟩
set_option maxRecDepth 100000 in
theorem GW_200 : GWd (Cond.fieldLink RX8 22 "PeckYard$Muster" "kind" "[I") := ⟨lwm_1 (List.mem_of_getElem? (i := 140) rfl), good_of_word (by decide +kernel)⟩
set_option maxRecDepth 100000 in
theorem GW_197 : GWd (Cond.fieldLink RX8 19 "PeckYard$Muster" "slotOf" "[I") := ⟨lwm_1 (List.mem_of_getElem? (i := 137) rfl), good_of_word (by decide +kernel)⟩
set_option maxRecDepth 100000 in
theorem GW_192 : GWd (Cond.fieldLink RX8 15 "PeckYard$Muster" "hens" "[I") := ⟨lwm_1 (List.mem_of_getElem? (i := 132) rfl), good_of_word (by decide +kernel)⟩
set_option maxRecDepth 100000 in
theorem GW_180 : GWd (Cond.fieldLink RX8 9 "PeckYard$Muster" "stamp" "I") := ⟨lwm_1 (List.mem_of_getElem? (i := 120) rfl), good_of_word (by decide +kernel)⟩
set_option maxRecDepth 100000 in
theorem GW_178 : GWd (Cond.methodLink RX8 3 objectInit) := ⟨lwm_1 (List.mem_of_getElem? (i := 118) rfl), good_of_word (by decide +kernel)⟩
set_option maxRecDepth 100000 in
theorem GW_177 : GWd (Cond.code yX8_init cX8_init 2 none) := ⟨lwm_1 (List.mem_of_getElem? (i := 117) rfl), good_of_word (by decide +kernel)⟩
set_option maxRecDepth 100000 in
theorem GW_176 : GWd (Cond.instanceMethod yX8_init) := ⟨lwm_1 (List.mem_of_getElem? (i := 116) rfl), good_of_word (by decide +kernel)⟩
set_option maxRecDepth 100000 in
theorem GW_175 : GWd (Cond.methodLink RX11 25 yX8_init) := ⟨lwm_1 (List.mem_of_getElem? (i := 115) rfl), good_of_word (by decide +kernel)⟩
set_option maxRecDepth 100000 in
theorem GW_148 : GWd (Cond.fieldLink RX0 9 "PeckYard$Change" "row" "[I") := ⟨lwm_1 (List.mem_of_getElem? (i := 88) rfl), good_of_word (by decide +kernel)⟩
set_option maxRecDepth 100000 in
theorem GW_142 : GWd (Cond.methodLink RX0 3 objectInit) := ⟨lwm_1 (List.mem_of_getElem? (i := 82) rfl), good_of_word (by decide +kernel)⟩
set_option maxRecDepth 100000 in
theorem GW_141 : GWd (Cond.code yX0_init cX0_init 1 none) := ⟨lwm_1 (List.mem_of_getElem? (i := 81) rfl), good_of_word (by decide +kernel)⟩
set_option maxRecDepth 100000 in
theorem GW_140 : GWd (Cond.instanceMethod yX0_init) := ⟨lwm_1 (List.mem_of_getElem? (i := 80) rfl), good_of_word (by decide +kernel)⟩
set_option maxRecDepth 100000 in
theorem GW_64 : GWd (Cond.initialized RX0) := ⟨lwm_1 (List.mem_of_getElem? (i := 4) rfl), good_of_word (by decide +kernel)⟩
set_option maxRecDepth 100000 in
theorem GW_138 : GWd (Cond.instantiable RX0 6) := ⟨lwm_1 (List.mem_of_getElem? (i := 78) rfl), good_of_word (by decide +kernel)⟩
set_option maxRecDepth 100000 in
theorem GW_165 : GWd (Cond.fieldLink RX1 11 "PeckYard$Changes" "row" "[LPeckYard$Change;") := ⟨lwm_1 (List.mem_of_getElem? (i := 105) rfl), good_of_word (by decide +kernel)⟩
set_option maxRecDepth 100000 in
theorem GW_136 : GWd (Cond.classLink RX1 9 RX0) := ⟨lwm_1 (List.mem_of_getElem? (i := 76) rfl), good_of_word (by decide +kernel)⟩
set_option maxRecDepth 100000 in
theorem GW_135 : GWd (Cond.methodLink RX1 3 objectInit) := ⟨lwm_1 (List.mem_of_getElem? (i := 75) rfl), good_of_word (by decide +kernel)⟩
set_option maxRecDepth 100000 in
theorem GW_134 : GWd (Cond.code yX1_init cX1_init 2 none) := ⟨lwm_1 (List.mem_of_getElem? (i := 74) rfl), good_of_word (by decide +kernel)⟩
set_option maxRecDepth 100000 in
theorem GW_133 : GWd (Cond.instanceMethod yX1_init) := ⟨lwm_1 (List.mem_of_getElem? (i := 73) rfl), good_of_word (by decide +kernel)⟩
set_option maxRecDepth 100000 in
theorem GW_132 : GWd (Cond.methodLink RX11 18 yX1_init) := ⟨lwm_1 (List.mem_of_getElem? (i := 72) rfl), good_of_word (by decide +kernel)⟩
theorem GL_wsX11_init_r3 : GoodIn lw_tbl wsX11_init_r3 := gw_c GW_132 (gw_c GW_133 (gw_c GW_134 (gw_c GW_135 (gw_c GW_136 (gw_c GW_165 (gw_c GW_138 (gw_c GW_64 (gw_c GW_140 (gw_c GW_141 (gw_c GW_142 (gw_c GW_148 (gw_c GW_175 (gw_c GW_176 (gw_c GW_177 (gw_c GW_178 (gw_c GW_180 (gw_c GW_192 (gw_c GW_197 (gw_c GW_200 (gw_c GW_202 (gw_c GW_204 (gw_c GW_207 (gw_c GW_210 (gw_n))))))))))))))))))))))))
set_option maxRecDepth 100000 in
theorem GW_245 : GWd (Cond.fieldLink RX4 9 "PeckYard$Halves" "stamp" "I") := ⟨lwm_1 (List.mem_of_getElem? (i := 185) rfl), good_of_word (by decide +kernel)⟩
set_option maxRecDepth 100000 in
theorem GW_243 : GWd (Cond.methodLink RX4 3 objectInit) := ⟨lwm_1 (List.mem_of_getElem? (i := 183) rfl), good_of_word (by decide +kernel)⟩
set_option maxRecDepth 100000 in
theorem GW_242 : GWd (Cond.code yX4_init cX4_init 2 none) := ⟨lwm_1 (List.mem_of_getElem? (i := 182) rfl), good_of_word (by decide +kernel)⟩
set_option maxRecDepth 100000 in
theorem GW_241 : GWd (Cond.instanceMethod yX4_init) := ⟨lwm_1 (List.mem_of_getElem? (i := 181) rfl), good_of_word (by decide +kernel)⟩
set_option maxRecDepth 100000 in
theorem GW_240 : GWd (Cond.methodLink RX9 44 yX4_init) := ⟨lwm_1 (List.mem_of_getElem? (i := 180) rfl), good_of_word (by decide +kernel)⟩
set_option maxRecDepth 100000 in
theorem GW_271 : GWd (Cond.fieldLink RX9 47 "PeckYard$Orders" "halves" "LPeckYard$Halves;") := ⟨lwm_1 (List.mem_of_getElem? (i := 211) rfl), good_of_word (by decide +kernel)⟩
set_option maxRecDepth 100000 in
theorem GW_67 : GWd (Cond.initialized RX4) := ⟨lwm_1 (List.mem_of_getElem? (i := 7) rfl), good_of_word (by decide +kernel)⟩
set_option maxRecDepth 100000 in
theorem GW_239 : GWd (Cond.instantiable RX4 8) := ⟨lwm_1 (List.mem_of_getElem? (i := 179) rfl), good_of_word (by decide +kernel)⟩
set_option maxRecDepth 100000 in
theorem GW_238 : GWd (Cond.classLink RX9 42 RX4) := ⟨lwm_1 (List.mem_of_getElem? (i := 178) rfl), good_of_word (by decide +kernel)⟩
set_option maxRecDepth 100000 in
theorem GW_270 : GWd (Cond.fieldLink RX9 38 "PeckYard$Orders" "muster" "LPeckYard$Muster;") := ⟨lwm_1 (List.mem_of_getElem? (i := 210) rfl), good_of_word (by decide +kernel)⟩
set_option maxRecDepth 100000 in
theorem GW_280 : GWd (Cond.fieldLink RX9 35 "PeckYard$Orders" "mayBeBelow" "[I") := ⟨lwm_1 (List.mem_of_getElem? (i := 220) rfl), good_of_word (by decide +kernel)⟩
set_option maxRecDepth 100000 in
theorem GW_279 : GWd (Cond.fieldLink RX9 31 "PeckYard$Orders" "isOnWay" "[B") := ⟨lwm_1 (List.mem_of_getElem? (i := 219) rfl), good_of_word (by decide +kernel)⟩
set_option maxRecDepth 100000 in
theorem GW_269 : GWd (Cond.arrayClass .byte) := ⟨lwm_1 (List.mem_of_getElem? (i := 209) rfl), good_of_word (by decide +kernel)⟩
set_option maxRecDepth 100000 in
theorem GW_278 : GWd (Cond.fieldLink RX9 28 "PeckYard$Orders" "looseRest" "[I") := ⟨lwm_1 (List.mem_of_getElem? (i := 218) rfl), good_of_word (by decide +kernel)⟩
set_option maxRecDepth 100000 in
theorem GW_277 : GWd (Cond.fieldLink RX9 25 "PeckYard$Orders" "ways" "[I") := ⟨lwm_1 (List.mem_of_getElem? (i := 217) rfl), good_of_word (by decide +kernel)⟩
set_option maxRecDepth 100000 in
theorem GW_276 : GWd (Cond.fieldLink RX9 21 "PeckYard$Orders" "rest" "[I") := ⟨lwm_1 (List.mem_of_getElem? (i := 216) rfl), good_of_word (by decide +kernel)⟩
set_option maxRecDepth 100000 in
theorem GW_274 : GWd (Cond.fieldLink RX9 18 "PeckYard$Orders" "loosenedAt" "I") := ⟨lwm_1 (List.mem_of_getElem? (i := 214) rfl), good_of_word (by decide +kernel)⟩
set_option maxRecDepth 100000 in
theorem GW_273 : GWd (Cond.fieldLink RX9 15 "PeckYard$Orders" "agreedAt" "I") := ⟨lwm_1 (List.mem_of_getElem? (i := 213) rfl), good_of_word (by decide +kernel)⟩
set_option maxRecDepth 100000 in
theorem GW_272 : GWd (Cond.fieldLink RX9 9 "PeckYard$Orders" "solvedAt" "I") := ⟨lwm_1 (List.mem_of_getElem? (i := 212) rfl), good_of_word (by decide +kernel)⟩
set_option maxRecDepth 100000 in
theorem GW_237 : GWd (Cond.methodLink RX9 3 objectInit) := ⟨lwm_1 (List.mem_of_getElem? (i := 177) rfl), good_of_word (by decide +kernel)⟩
set_option maxRecDepth 100000 in
theorem GW_236 : GWd (Cond.code yX9_init cX9_init 2 none) := ⟨lwm_1 (List.mem_of_getElem? (i := 176) rfl), good_of_word (by decide +kernel)⟩
set_option maxRecDepth 100000 in
theorem GW_235 : GWd (Cond.instanceMethod yX9_init) := ⟨lwm_1 (List.mem_of_getElem? (i := 175) rfl), good_of_word (by decide +kernel)⟩
set_option maxRecDepth 100000 in
theorem GW_234 : GWd (Cond.methodLink RX11 34 yX9_init) := ⟨lwm_1 (List.mem_of_getElem? (i := 174) rfl), good_of_word (by decide +kernel)⟩
set_option maxRecDepth 100000 in
theorem GW_179 : GWd (Cond.fieldLink RX8 37 "PeckYard$Muster" "flock" "LPeckYard$Flock;") := ⟨lwm_1 (List.mem_of_getElem? (i := 119) rfl), good_of_word (by decide +kernel)⟩
theorem GL_wsX11_init_r4 : GoodIn lw_tbl wsX11_init_r4 := gw_c GW_179 (gw_c GW_234 (gw_c GW_235 (gw_c GW_236 (gw_c GW_237 (gw_c GW_272 (gw_c GW_273 (gw_c GW_274 (gw_c GW_276 (gw_c GW_277 (gw_c GW_278 (gw_c GW_269 (gw_c GW_279 (gw_c GW_280 (gw_c GW_270 (gw_c GW_238 (gw_c GW_239 (gw_c GW_67 (gw_c GW_271 (gw_c GW_240 (gw_c GW_241 (gw_c GW_242 (gw_c GW_243 (gw_c GW_245 (gw_n))))))))))))))))))))))))
set_option maxRecDepth 100000 in
theorem GW_349 : GWd (Cond.fieldLink RX3 9 "PeckYard$Groups" "settledAt" "I") := ⟨lwm_2 (List.mem_of_getElem? (i := 49) rfl), good_of_word (by decide +kernel)⟩
set_option maxRecDepth 100000 in
theorem GW_347 : GWd (Cond.methodLink RX3 3 objectInit) := ⟨lwm_2 (List.mem_of_getElem? (i := 47) rfl), good_of_word (by decide +kernel)⟩
set_option maxRecDepth 100000 in
theorem GW_346 : GWd (Cond.code yX3_init cX3_init 2 none) := ⟨lwm_2 (List.mem_of_getElem? (i := 46) rfl), good_of_word (by decide +kernel)⟩
set_option maxRecDepth 100000 in
theorem GW_345 : GWd (Cond.instanceMethod yX3_init) := ⟨lwm_2 (List.mem_of_getElem? (i := 45) rfl), good_of_word (by decide +kernel)⟩
set_option maxRecDepth 100000 in
theorem GW_344 : GWd (Cond.methodLink RX11 57 yX3_init) := ⟨lwm_2 (List.mem_of_getElem? (i := 44) rfl), good_of_word (by decide +kernel)⟩
set_option maxRecDepth 100000 in
theorem GW_328 : GWd (Cond.fieldLink RX7 21 "PeckYard$Line" "muster" "LPeckYard$Muster;") := ⟨lwm_2 (List.mem_of_getElem? (i := 28) rfl), good_of_word (by decide +kernel)⟩
set_option maxRecDepth 100000 in
theorem GW_332 : GWd (Cond.fieldLink RX7 18 "PeckYard$Line" "heavier" "[I") := ⟨lwm_2 (List.mem_of_getElem? (i := 32) rfl), good_of_word (by decide +kernel)⟩
set_option maxRecDepth 100000 in
theorem GW_331 : GWd (Cond.fieldLink RX7 15 "PeckYard$Line" "place" "[I") := ⟨lwm_2 (List.mem_of_getElem? (i := 31) rfl), good_of_word (by decide +kernel)⟩
set_option maxRecDepth 100000 in
theorem GW_329 : GWd (Cond.fieldLink RX7 9 "PeckYard$Line" "row" "[I") := ⟨lwm_2 (List.mem_of_getElem? (i := 29) rfl), good_of_word (by decide +kernel)⟩
set_option maxRecDepth 100000 in
theorem GW_327 : GWd (Cond.methodLink RX7 3 objectInit) := ⟨lwm_2 (List.mem_of_getElem? (i := 27) rfl), good_of_word (by decide +kernel)⟩
set_option maxRecDepth 100000 in
theorem GW_326 : GWd (Cond.code yX7_init cX7_init 2 none) := ⟨lwm_2 (List.mem_of_getElem? (i := 26) rfl), good_of_word (by decide +kernel)⟩
set_option maxRecDepth 100000 in
theorem GW_325 : GWd (Cond.instanceMethod yX7_init) := ⟨lwm_2 (List.mem_of_getElem? (i := 25) rfl), good_of_word (by decide +kernel)⟩
set_option maxRecDepth 100000 in
theorem GW_324 : GWd (Cond.methodLink RX11 50 yX7_init) := ⟨lwm_2 (List.mem_of_getElem? (i := 24) rfl), good_of_word (by decide +kernel)⟩
set_option maxRecDepth 100000 in
theorem GW_314 : GWd (Cond.fieldLink RX5 9 "PeckYard$Hand" "hens" "[I") := ⟨lwm_2 (List.mem_of_getElem? (i := 14) rfl), good_of_word (by decide +kernel)⟩
set_option maxRecDepth 100000 in
theorem GW_309 : GWd (Cond.methodLink RX5 3 objectInit) := ⟨lwm_2 (List.mem_of_getElem? (i := 9) rfl), good_of_word (by decide +kernel)⟩
set_option maxRecDepth 100000 in
theorem GW_308 : GWd (Cond.code yX5_init cX5_init 1 none) := ⟨lwm_2 (List.mem_of_getElem? (i := 8) rfl), good_of_word (by decide +kernel)⟩
set_option maxRecDepth 100000 in
theorem GW_307 : GWd (Cond.instanceMethod yX5_init) := ⟨lwm_2 (List.mem_of_getElem? (i := 7) rfl), good_of_word (by decide +kernel)⟩
set_option maxRecDepth 100000 in
theorem GW_244 : GWd (Cond.fieldLink RX4 34 "PeckYard$Halves" "muster" "LPeckYard$Muster;") := ⟨lwm_1 (List.mem_of_getElem? (i := 184) rfl), good_of_word (by decide +kernel)⟩
set_option maxRecDepth 100000 in
theorem GW_251 : GWd (Cond.fieldLink RX4 31 "PeckYard$Halves" "highPairs" "[I") := ⟨lwm_1 (List.mem_of_getElem? (i := 191) rfl), good_of_word (by decide +kernel)⟩
set_option maxRecDepth 100000 in
theorem GW_250 : GWd (Cond.fieldLink RX4 28 "PeckYard$Halves" "lowPairs" "[I") := ⟨lwm_1 (List.mem_of_getElem? (i := 190) rfl), good_of_word (by decide +kernel)⟩
set_option maxRecDepth 100000 in
theorem GW_249 : GWd (Cond.fieldLink RX4 25 "PeckYard$Halves" "highBelow" "[I") := ⟨lwm_1 (List.mem_of_getElem? (i := 189) rfl), good_of_word (by decide +kernel)⟩
set_option maxRecDepth 100000 in
theorem GW_248 : GWd (Cond.fieldLink RX4 22 "PeckYard$Halves" "lowBelow" "[I") := ⟨lwm_1 (List.mem_of_getElem? (i := 188) rfl), good_of_word (by decide +kernel)⟩
set_option maxRecDepth 100000 in
theorem GW_247 : GWd (Cond.fieldLink RX4 19 "PeckYard$Halves" "highCost" "[I") := ⟨lwm_1 (List.mem_of_getElem? (i := 187) rfl), good_of_word (by decide +kernel)⟩
set_option maxRecDepth 100000 in
theorem GW_246 : GWd (Cond.fieldLink RX4 15 "PeckYard$Halves" "lowCost" "[I") := ⟨lwm_1 (List.mem_of_getElem? (i := 186) rfl), good_of_word (by decide +kernel)⟩
theorem GL_wsX11_init_r5 : GoodIn lw_tbl wsX11_init_r5 := gw_c GW_246 (gw_c GW_247 (gw_c GW_248 (gw_c GW_249 (gw_c GW_250 (gw_c GW_251 (gw_c GW_244 (gw_c GW_307 (gw_c GW_308 (gw_c GW_309 (gw_c GW_314 (gw_c GW_324 (gw_c GW_325 (gw_c GW_326 (gw_c GW_327 (gw_c GW_329 (gw_c GW_331 (gw_c GW_332 (gw_c GW_328 (gw_c GW_344 (gw_c GW_345 (gw_c GW_346 (gw_c GW_347 (gw_c GW_349 (gw_n))))))))))))))))))))))))
set_option maxRecDepth 100000 in
theorem GW_410 : GWd (Cond.fieldLink RX6 18 "PeckYard$Leads" "muster" "LPeckYard$Muster;") := ⟨lwm_2 (List.mem_of_getElem? (i := 110) rfl), good_of_word (by decide +kernel)⟩
set_option maxRecDepth 100000 in
theorem GW_412 : GWd (Cond.fieldLink RX6 15 "PeckYard$Leads" "blocks" "[I") := ⟨lwm_2 (List.mem_of_getElem? (i := 112) rfl), good_of_word (by decide +kernel)⟩
set_option maxRecDepth 100000 in
theorem GW_411 : GWd (Cond.fieldLink RX6 9 "PeckYard$Leads" "leads" "[I") := ⟨lwm_2 (List.mem_of_getElem? (i := 111) rfl), good_of_word (by decide +kernel)⟩
set_option maxRecDepth 100000 in
theorem GW_409 : GWd (Cond.methodLink RX6 3 objectInit) := ⟨lwm_2 (List.mem_of_getElem? (i := 109) rfl), good_of_word (by decide +kernel)⟩
set_option maxRecDepth 100000 in
theorem GW_408 : GWd (Cond.code yX6_init cX6_init 2 none) := ⟨lwm_2 (List.mem_of_getElem? (i := 108) rfl), good_of_word (by decide +kernel)⟩
set_option maxRecDepth 100000 in
theorem GW_407 : GWd (Cond.instanceMethod yX6_init) := ⟨lwm_2 (List.mem_of_getElem? (i := 107) rfl), good_of_word (by decide +kernel)⟩
set_option maxRecDepth 100000 in
theorem GW_406 : GWd (Cond.methodLink RX11 71 yX6_init) := ⟨lwm_2 (List.mem_of_getElem? (i := 106) rfl), good_of_word (by decide +kernel)⟩
set_option maxRecDepth 100000 in
theorem GW_372 : GWd (Cond.fieldLink RX10 36 "PeckYard$Rings" "muster" "LPeckYard$Muster;") := ⟨lwm_2 (List.mem_of_getElem? (i := 72) rfl), good_of_word (by decide +kernel)⟩
set_option maxRecDepth 100000 in
theorem GW_382 : GWd (Cond.fieldLink RX10 33 "PeckYard$Rings" "found" "[I") := ⟨lwm_2 (List.mem_of_getElem? (i := 82) rfl), good_of_word (by decide +kernel)⟩
set_option maxRecDepth 100000 in
theorem GW_381 : GWd (Cond.fieldLink RX10 30 "PeckYard$Rings" "layers" "[I") := ⟨lwm_2 (List.mem_of_getElem? (i := 81) rfl), good_of_word (by decide +kernel)⟩
set_option maxRecDepth 100000 in
theorem GW_380 : GWd (Cond.fieldLink RX10 27 "PeckYard$Rings" "peckersOf" "[I") := ⟨lwm_2 (List.mem_of_getElem? (i := 80) rfl), good_of_word (by decide +kernel)⟩
set_option maxRecDepth 100000 in
theorem GW_379 : GWd (Cond.fieldLink RX10 24 "PeckYard$Rings" "peckedBy" "[I") := ⟨lwm_2 (List.mem_of_getElem? (i := 79) rfl), good_of_word (by decide +kernel)⟩
set_option maxRecDepth 100000 in
theorem GW_378 : GWd (Cond.fieldLink RX10 21 "PeckYard$Rings" "left" "[I") := ⟨lwm_2 (List.mem_of_getElem? (i := 78) rfl), good_of_word (by decide +kernel)⟩
set_option maxRecDepth 100000 in
theorem GW_377 : GWd (Cond.fieldLink RX10 18 "PeckYard$Rings" "members" "[I") := ⟨lwm_2 (List.mem_of_getElem? (i := 77) rfl), good_of_word (by decide +kernel)⟩
set_option maxRecDepth 100000 in
theorem GW_376 : GWd (Cond.fieldLink RX10 15 "PeckYard$Rings" "lengths" "[I") := ⟨lwm_2 (List.mem_of_getElem? (i := 76) rfl), good_of_word (by decide +kernel)⟩
set_option maxRecDepth 100000 in
theorem GW_375 : GWd (Cond.fieldLink RX10 11 "PeckYard$Rings" "shares" "[I") := ⟨lwm_2 (List.mem_of_getElem? (i := 75) rfl), good_of_word (by decide +kernel)⟩
set_option maxRecDepth 100000 in
theorem GW_371 : GWd (Cond.methodLink RX10 3 objectInit) := ⟨lwm_2 (List.mem_of_getElem? (i := 71) rfl), good_of_word (by decide +kernel)⟩
set_option maxRecDepth 100000 in
theorem GW_370 : GWd (Cond.code yX10_init cX10_init 2 none) := ⟨lwm_2 (List.mem_of_getElem? (i := 70) rfl), good_of_word (by decide +kernel)⟩
set_option maxRecDepth 100000 in
theorem GW_369 : GWd (Cond.instanceMethod yX10_init) := ⟨lwm_2 (List.mem_of_getElem? (i := 69) rfl), good_of_word (by decide +kernel)⟩
set_option maxRecDepth 100000 in
theorem GW_368 : GWd (Cond.methodLink RX11 64 yX10_init) := ⟨lwm_2 (List.mem_of_getElem? (i := 68) rfl), good_of_word (by decide +kernel)⟩
set_option maxRecDepth 100000 in
theorem GW_348 : GWd (Cond.fieldLink RX3 22 "PeckYard$Groups" "muster" "LPeckYard$Muster;") := ⟨lwm_2 (List.mem_of_getElem? (i := 48) rfl), good_of_word (by decide +kernel)⟩
set_option maxRecDepth 100000 in
theorem GW_354 : GWd (Cond.fieldLink RX3 19 "PeckYard$Groups" "reached" "[I") := ⟨lwm_2 (List.mem_of_getElem? (i := 54) rfl), good_of_word (by decide +kernel)⟩
set_option maxRecDepth 100000 in
theorem GW_352 : GWd (Cond.fieldLink RX3 15 "PeckYard$Groups" "groupAt" "[I") := ⟨lwm_2 (List.mem_of_getElem? (i := 52) rfl), good_of_word (by decide +kernel)⟩
theorem GL_wsX11_init_r6 : GoodIn lw_tbl wsX11_init_r6 := gw_c GW_352 (gw_c GW_354 (gw_c GW_348 (gw_c GW_368 (gw_c GW_369 (gw_c GW_370 (gw_c GW_371 (gw_c GW_375 (gw_c GW_376 (gw_c GW_377 (gw_c GW_378 (gw_c GW_379 (gw_c GW_380 (gw_c GW_381 (gw_c GW_382 (gw_c GW_372 (gw_c GW_406 (gw_c GW_407 (gw_c GW_408 (gw_c GW_409 (gw_c GW_411 (gw_c GW_412 (gw_c GW_410 (gw_n)))))))))))))))))))))))
theorem GL_wsX20 : GoodIn lw_tbl wsX20 := gw_f _ [114, 116, 118, 120, 122, 124, 126] (by decide +kernel) (by decide +kernel)
theorem GL_wsX110 : GoodIn lw_tbl wsX110 := gw_f _ [429, 431, 433, 435, 437, 439, 441, 443, 445] (by decide +kernel) (by decide +kernel)
theorem GL_wsX10 : GoodIn lw_tbl wsX10 := gw_f _ [166, 168, 170] (by decide +kernel) (by decide +kernel)
theorem GL_wsX80 : GoodIn lw_tbl wsX80 := gw_f _ [211, 213, 215, 217, 219, 221, 223, 225, 227, 229] (by decide +kernel) (by decide +kernel)
theorem GL_wsX90 : GoodIn lw_tbl wsX90 := gw_f _ [281, 283, 285, 287, 289, 291, 293, 295, 297, 299, 301] (by decide +kernel) (by decide +kernel)
theorem GL_wsX50 : GoodIn lw_tbl wsX50 := gw_f _ [317, 319] (by decide +kernel) (by decide +kernel)
theorem GL_wsX70 : GoodIn lw_tbl wsX70 := gw_f _ [333, 335, 337, 339] (by decide +kernel) (by decide +kernel)
theorem GL_wsX30 : GoodIn lw_tbl wsX30 := gw_f _ [355, 357, 359, 361, 363] (by decide +kernel) (by decide +kernel)
theorem GL_wsX100 : GoodIn lw_tbl wsX100 := gw_f _ [383, 385, 387, 389, 391, 393, 395, 397, 399, 401] (by decide +kernel) (by decide +kernel)
theorem GL_wsX60 : GoodIn lw_tbl wsX60 := gw_f _ [413, 415, 417] (by decide +kernel) (by decide +kernel)
theorem GL_wsX00 : GoodIn lw_tbl wsX00 := gw_f _ [149, 151, 153, 155, 157, 159] (by decide +kernel) (by decide +kernel)
theorem GL_wsX40 : GoodIn lw_tbl wsX40 := gw_f _ [252, 254, 256, 258, 260, 262, 264, 266] (by decide +kernel) (by decide +kernel)
theorem GL_wsX11_init : GoodIn lw_tbl wsX11_init := gw_c GW_82 (gw_a (gw_a (gw_a (gw_a (gw_a (gw_a (gw_a (gw_a (gw_a (gw_a (gw_a (gw_a (gw_a (GL_wsX11_init_r1) (gw_a (GL_wsX11_init_r2) (gw_a (GL_wsX11_init_r3) (gw_a (GL_wsX11_init_r4) (gw_a (GL_wsX11_init_r5) (GL_wsX11_init_r6)))))) (GL_wsX20)) (GL_wsX110)) (GL_wsX10)) (GL_wsX80)) (GL_wsX90)) (GL_wsX50)) (GL_wsX70)) (GL_wsX30)) (GL_wsX100)) (GL_wsX60)) (GL_wsX00)) (GL_wsX40))
set_option maxRecDepth 100000 in
theorem GW_451 : GWd (Cond.code yX11_hen cX11_hen 3 (some .long)) := ⟨lwm_2 (List.mem_of_getElem? (i := 151) rfl), good_of_word (by decide +kernel)⟩
set_option maxRecDepth 100000 in
theorem GW_143 : GWd (Cond.fieldLink RX1 22 "PeckYard$Change" "isNewHen" "Z") := ⟨lwm_1 (List.mem_of_getElem? (i := 83) rfl), good_of_word (by decide +kernel)⟩
set_option maxRecDepth 100000 in
theorem GW_164 : GWd (Cond.fieldLink RX1 18 "PeckYard$Changes" "next" "I") := ⟨lwm_1 (List.mem_of_getElem? (i := 104) rfl), good_of_word (by decide +kernel)⟩
set_option maxRecDepth 100000 in
theorem GW_467 : GWd (Cond.code yX1_keepNewHen cX1_keepNewHen 2 none) := ⟨lwm_2 (List.mem_of_getElem? (i := 167) rfl), good_of_word (by decide +kernel)⟩
set_option maxRecDepth 100000 in
theorem GW_466 : GWd (Cond.selects RX1 yX1_keepNewHen yX1_keepNewHen) := ⟨lwm_2 (List.mem_of_getElem? (i := 166) rfl), good_of_word (by decide +kernel)⟩
set_option maxRecDepth 100000 in
theorem GW_465 : GWd (Cond.instanceMethod yX1_keepNewHen) := ⟨lwm_2 (List.mem_of_getElem? (i := 165) rfl), good_of_word (by decide +kernel)⟩
set_option maxRecDepth 100000 in
theorem GW_464 : GWd (Cond.methodLink RX11 92 yX1_keepNewHen) := ⟨lwm_2 (List.mem_of_getElem? (i := 164) rfl), good_of_word (by decide +kernel)⟩
set_option maxRecDepth 100000 in
theorem GW_461 : GWd (Cond.code yX11_isOther cX11_isOther 2 (some .boolean)) := ⟨lwm_2 (List.mem_of_getElem? (i := 161) rfl), good_of_word (by decide +kernel)⟩
set_option maxRecDepth 100000 in
theorem GW_460 : GWd (Cond.static yX11_isOther) := ⟨lwm_2 (List.mem_of_getElem? (i := 160) rfl), good_of_word (by decide +kernel)⟩
set_option maxRecDepth 100000 in
theorem GW_459 : GWd (Cond.methodLink RX11 124 yX11_isOther) := ⟨lwm_2 (List.mem_of_getElem? (i := 159) rfl), good_of_word (by decide +kernel)⟩
set_option maxRecDepth 100000 in
theorem GW_458 : GWd (Cond.constant RX11 254 (-2000000005)) := ⟨lwm_2 (List.mem_of_getElem? (i := 158) rfl), good_of_word (by decide +kernel)⟩
set_option maxRecDepth 100000 in
theorem GW_457 : GWd (Cond.code yX11_mayAskFor cX11_mayAskFor 2 (some .boolean)) := ⟨lwm_2 (List.mem_of_getElem? (i := 157) rfl), good_of_word (by decide +kernel)⟩
set_option maxRecDepth 100000 in
theorem GW_456 : GWd (Cond.static yX11_mayAskFor) := ⟨lwm_2 (List.mem_of_getElem? (i := 156) rfl), good_of_word (by decide +kernel)⟩
set_option maxRecDepth 100000 in
theorem GW_455 : GWd (Cond.methodLink RX11 84 yX11_mayAskFor) := ⟨lwm_2 (List.mem_of_getElem? (i := 155) rfl), good_of_word (by decide +kernel)⟩
set_option maxRecDepth 100000 in
theorem GW_454 : GWd (Cond.code yX11_isKind cX11_isKind 1 (some .boolean)) := ⟨lwm_2 (List.mem_of_getElem? (i := 154) rfl), good_of_word (by decide +kernel)⟩
set_option maxRecDepth 100000 in
theorem GW_61 : GWd (Cond.initialized RX11) := ⟨lwm_1 (List.mem_of_getElem? (i := 1) rfl), good_of_word (by decide +kernel)⟩
set_option maxRecDepth 100000 in
theorem GW_453 : GWd (Cond.static yX11_isKind) := ⟨lwm_2 (List.mem_of_getElem? (i := 153) rfl), good_of_word (by decide +kernel)⟩
set_option maxRecDepth 100000 in
theorem GW_452 : GWd (Cond.methodLink RX11 76 yX11_isKind) := ⟨lwm_2 (List.mem_of_getElem? (i := 152) rfl), good_of_word (by decide +kernel)⟩
set_option maxRecDepth 100000 in
theorem GW_463 : GWd (Cond.constantLong RX11 90 (-2000000003)) := ⟨lwm_2 (List.mem_of_getElem? (i := 163) rfl), good_of_word (by decide +kernel)⟩
set_option maxRecDepth 100000 in
theorem GW_462 : GWd (Cond.constantLong RX11 88 (-2000000001)) := ⟨lwm_2 (List.mem_of_getElem? (i := 162) rfl), good_of_word (by decide +kernel)⟩
set_option maxRecDepth 100000 in
theorem GW_93 : GWd (Cond.fieldLink RX11 80 "PeckYard$Flock" "size" "I") := ⟨lwm_1 (List.mem_of_getElem? (i := 33) rfl), good_of_word (by decide +kernel)⟩
theorem GL_wsX11_hen_r1 : GoodIn lw_tbl wsX11_hen_r1 := gw_c GW_420 (gw_c GW_93 (gw_c GW_462 (gw_c GW_463 (gw_c GW_421 (gw_c GW_452 (gw_c GW_453 (gw_c GW_61 (gw_c GW_454 (gw_c GW_455 (gw_c GW_456 (gw_c GW_457 (gw_c GW_458 (gw_c GW_459 (gw_c GW_460 (gw_c GW_461 (gw_c GW_464 (gw_c GW_465 (gw_c GW_466 (gw_c GW_63 (gw_c GW_467 (gw_c GW_165 (gw_c GW_164 (gw_c GW_143 (gw_n))))))))))))))))))))))))
set_option maxRecDepth 100000 in
theorem GW_482 : GWd (Cond.code yX2_renewPen cX2_renewPen 4 none) := ⟨lwm_2 (List.mem_of_getElem? (i := 182) rfl), good_of_word (by decide +kernel)⟩
set_option maxRecDepth 100000 in
theorem GW_481 : GWd (Cond.selects RX2 yX2_renewPen yX2_renewPen) := ⟨lwm_2 (List.mem_of_getElem? (i := 181) rfl), good_of_word (by decide +kernel)⟩
set_option maxRecDepth 100000 in
theorem GW_480 : GWd (Cond.instanceMethod yX2_renewPen) := ⟨lwm_2 (List.mem_of_getElem? (i := 180) rfl), good_of_word (by decide +kernel)⟩
set_option maxRecDepth 100000 in
theorem GW_479 : GWd (Cond.methodLink RX2 35 yX2_renewPen) := ⟨lwm_2 (List.mem_of_getElem? (i := 179) rfl), good_of_word (by decide +kernel)⟩
set_option maxRecDepth 100000 in
theorem GW_92 : GWd (Cond.fieldLink RX2 27 "PeckYard$Flock" "size" "I") := ⟨lwm_1 (List.mem_of_getElem? (i := 32) rfl), good_of_word (by decide +kernel)⟩
set_option maxRecDepth 100000 in
theorem GW_478 : GWd (Cond.code yX2_addHen cX2_addHen 3 none) := ⟨lwm_2 (List.mem_of_getElem? (i := 178) rfl), good_of_word (by decide +kernel)⟩
set_option maxRecDepth 100000 in
theorem GW_477 : GWd (Cond.selects RX2 yX2_addHen yX2_addHen) := ⟨lwm_2 (List.mem_of_getElem? (i := 177) rfl), good_of_word (by decide +kernel)⟩
set_option maxRecDepth 100000 in
theorem GW_476 : GWd (Cond.instanceMethod yX2_addHen) := ⟨lwm_2 (List.mem_of_getElem? (i := 176) rfl), good_of_word (by decide +kernel)⟩
set_option maxRecDepth 100000 in
theorem GW_475 : GWd (Cond.methodLink RX11 95 yX2_addHen) := ⟨lwm_2 (List.mem_of_getElem? (i := 175) rfl), good_of_word (by decide +kernel)⟩
set_option maxRecDepth 100000 in
theorem GW_474 : GWd (Cond.code Lib.Math.min.name Lib.Math.min.code 2 (some .int)) := ⟨lwm_2 (List.mem_of_getElem? (i := 174) rfl), good_of_word (by decide +kernel)⟩
set_option maxRecDepth 100000 in
theorem GW_74 : GWd (Cond.initialized "java/lang/Math") := ⟨lwm_1 (List.mem_of_getElem? (i := 14) rfl), good_of_word (by decide +kernel)⟩
set_option maxRecDepth 100000 in
theorem GW_473 : GWd (Cond.static Lib.Math.min.name) := ⟨lwm_2 (List.mem_of_getElem? (i := 173) rfl), good_of_word (by decide +kernel)⟩
set_option maxRecDepth 100000 in
theorem GW_472 : GWd (Cond.methodLink RX1 42 Lib.Math.min.name) := ⟨lwm_2 (List.mem_of_getElem? (i := 172) rfl), good_of_word (by decide +kernel)⟩
set_option maxRecDepth 100000 in
theorem GW_162 : GWd (Cond.fieldLink RX1 39 "PeckYard$Changes" "kept" "I") := ⟨lwm_1 (List.mem_of_getElem? (i := 102) rfl), good_of_word (by decide +kernel)⟩
set_option maxRecDepth 100000 in
theorem GW_96 : GWd (Cond.fieldLink RX1 34 "PeckYard$Flock" "stamp" "I") := ⟨lwm_1 (List.mem_of_getElem? (i := 36) rfl), good_of_word (by decide +kernel)⟩
set_option maxRecDepth 100000 in
theorem GW_471 : GWd (Cond.code yX1_step cX1_step 2 none) := ⟨lwm_2 (List.mem_of_getElem? (i := 171) rfl), good_of_word (by decide +kernel)⟩
set_option maxRecDepth 100000 in
theorem GW_0 : GWd (Cond.selects RX1 yX1_step yX1_step) := ⟨List.mem_of_getElem? (i := 0) rfl, good_of_word (by decide +kernel)⟩
set_option maxRecDepth 100000 in
theorem GW_470 : GWd (Cond.instanceMethod yX1_step) := ⟨lwm_2 (List.mem_of_getElem? (i := 170) rfl), good_of_word (by decide +kernel)⟩
set_option maxRecDepth 100000 in
theorem GW_468 : GWd (Cond.methodLink RX1 26 yX1_step) := ⟨lwm_2 (List.mem_of_getElem? (i := 168) rfl), good_of_word (by decide +kernel)⟩
theorem GL_wsX11_hen_r2 : GoodIn lw_tbl wsX11_hen_r2 := gw_c GW_468 (gw_c GW_470 (gw_c GW_0 (gw_c GW_471 (gw_c GW_96 (gw_c GW_162 (gw_c GW_472 (gw_c GW_473 (gw_c GW_74 (gw_c GW_474 (gw_c GW_475 (gw_c GW_476 (gw_c GW_477 (gw_c GW_62 (gw_c GW_478 (gw_c GW_97 (gw_c GW_92 (gw_c GW_100 (gw_c GW_104 (gw_c GW_479 (gw_c GW_480 (gw_c GW_481 (gw_c GW_482 (gw_c GW_107 (gw_n))))))))))))))))))))))))
theorem GL_wsX11_hen_r3 : GoodIn lw_tbl wsX11_hen_r3 := gw_c GW_110 (gw_n)
theorem GL_wsX11_hen : GoodIn lw_tbl wsX11_hen := gw_c GW_451 (gw_a (gw_a (gw_a (gw_a (gw_a (GL_wsX11_hen_r1) (gw_a (GL_wsX11_hen_r2) (GL_wsX11_hen_r3))) (GL_wsX110)) (GL_wsX20)) (GL_wsX10)) (GL_wsX00))
set_option maxRecDepth 100000 in
theorem GW_448 : GWd (Cond.methodLink RL 13 yX11_hen) := ⟨lwm_2 (List.mem_of_getElem? (i := 148) rfl), good_of_word (by decide +kernel)⟩
set_option maxRecDepth 100000 in
theorem GW_449 : GWd (Cond.instanceMethod yX11_hen) := ⟨lwm_2 (List.mem_of_getElem? (i := 149) rfl), good_of_word (by decide +kernel)⟩
set_option maxRecDepth 100000 in
theorem GW_450 : GWd (Cond.selects RX11 yX11_hen yX11_hen) := ⟨lwm_2 (List.mem_of_getElem? (i := 150) rfl), good_of_word (by decide +kernel)⟩
set_option maxRecDepth 100000 in
theorem GW_486 : GWd (Cond.code yX11_ask cX11_ask 5 (some .long)) := ⟨lwm_2 (List.mem_of_getElem? (i := 186) rfl), good_of_word (by decide +kernel)⟩
set_option maxRecDepth 100000 in
theorem GW_494 : GWd (Cond.code yX1_keepHen cX1_keepHen 3 none) := ⟨lwm_2 (List.mem_of_getElem? (i := 194) rfl), good_of_word (by decide +kernel)⟩
set_option maxRecDepth 100000 in
theorem GW_493 : GWd (Cond.selects RX1 yX1_keepHen yX1_keepHen) := ⟨lwm_2 (List.mem_of_getElem? (i := 193) rfl), good_of_word (by decide +kernel)⟩
set_option maxRecDepth 100000 in
theorem GW_492 : GWd (Cond.instanceMethod yX1_keepHen) := ⟨lwm_2 (List.mem_of_getElem? (i := 192) rfl), good_of_word (by decide +kernel)⟩
set_option maxRecDepth 100000 in
theorem GW_491 : GWd (Cond.methodLink RX11 102 yX1_keepHen) := ⟨lwm_2 (List.mem_of_getElem? (i := 191) rfl), good_of_word (by decide +kernel)⟩
set_option maxRecDepth 100000 in
theorem GW_490 : GWd (Cond.code yX2_has cX2_has 2 (some .boolean)) := ⟨lwm_2 (List.mem_of_getElem? (i := 190) rfl), good_of_word (by decide +kernel)⟩
set_option maxRecDepth 100000 in
theorem GW_489 : GWd (Cond.selects RX2 yX2_has yX2_has) := ⟨lwm_2 (List.mem_of_getElem? (i := 189) rfl), good_of_word (by decide +kernel)⟩
set_option maxRecDepth 100000 in
theorem GW_488 : GWd (Cond.instanceMethod yX2_has) := ⟨lwm_2 (List.mem_of_getElem? (i := 188) rfl), good_of_word (by decide +kernel)⟩
set_option maxRecDepth 100000 in
theorem GW_487 : GWd (Cond.methodLink RX11 99 yX2_has) := ⟨lwm_2 (List.mem_of_getElem? (i := 187) rfl), good_of_word (by decide +kernel)⟩
set_option maxRecDepth 100000 in
theorem GW_102 : GWd (Cond.fieldLink RX11 106 "PeckYard$Flock" "asks" "[I") := ⟨lwm_1 (List.mem_of_getElem? (i := 42) rfl), good_of_word (by decide +kernel)⟩
theorem GL_wsX11_ask_r1 : GoodIn lw_tbl wsX11_ask_r1 := gw_c GW_420 (gw_c GW_462 (gw_c GW_421 (gw_c GW_102 (gw_c GW_487 (gw_c GW_488 (gw_c GW_489 (gw_c GW_62 (gw_c GW_490 (gw_c GW_92 (gw_c GW_455 (gw_c GW_456 (gw_c GW_61 (gw_c GW_457 (gw_c GW_458 (gw_c GW_459 (gw_c GW_460 (gw_c GW_461 (gw_c GW_491 (gw_c GW_492 (gw_c GW_493 (gw_c GW_63 (gw_c GW_494 (gw_c GW_165 (gw_n))))))))))))))))))))))))
set_option maxRecDepth 100000 in
theorem GW_75 : GWd (Cond.initialized "java/lang/System") := ⟨lwm_1 (List.mem_of_getElem? (i := 15) rfl), good_of_word (by decide +kernel)⟩
set_option maxRecDepth 100000 in
theorem GW_500 : GWd (Cond.static arraycopyName) := ⟨lwm_2 (List.mem_of_getElem? (i := 200) rfl), good_of_word (by decide +kernel)⟩
set_option maxRecDepth 100000 in
theorem GW_501 : GWd (Cond.native arraycopyName) := ⟨lwm_2 (List.mem_of_getElem? (i := 201) rfl), good_of_word (by decide +kernel)⟩
set_option maxRecDepth 100000 in
theorem GW_499 : GWd (Cond.methodLink RX0 39 arraycopyName) := ⟨lwm_2 (List.mem_of_getElem? (i := 199) rfl), good_of_word (by decide +kernel)⟩
set_option maxRecDepth 100000 in
theorem GW_111 : GWd (Cond.fieldLink RX0 36 "PeckYard$Flock" "weights" "[I") := ⟨lwm_1 (List.mem_of_getElem? (i := 51) rfl), good_of_word (by decide +kernel)⟩
set_option maxRecDepth 100000 in
theorem GW_147 : GWd (Cond.fieldLink RX0 34 "PeckYard$Change" "width" "I") := ⟨lwm_1 (List.mem_of_getElem? (i := 87) rfl), good_of_word (by decide +kernel)⟩
set_option maxRecDepth 100000 in
theorem GW_108 : GWd (Cond.fieldLink RX0 31 "PeckYard$Flock" "width" "[I") := ⟨lwm_1 (List.mem_of_getElem? (i := 48) rfl), good_of_word (by decide +kernel)⟩
set_option maxRecDepth 100000 in
theorem GW_146 : GWd (Cond.fieldLink RX0 29 "PeckYard$Change" "takenIn" "I") := ⟨lwm_1 (List.mem_of_getElem? (i := 86) rfl), good_of_word (by decide +kernel)⟩
set_option maxRecDepth 100000 in
theorem GW_105 : GWd (Cond.fieldLink RX0 26 "PeckYard$Flock" "takenIn" "[I") := ⟨lwm_1 (List.mem_of_getElem? (i := 45) rfl), good_of_word (by decide +kernel)⟩
set_option maxRecDepth 100000 in
theorem GW_145 : GWd (Cond.fieldLink RX0 24 "PeckYard$Change" "asks" "I") := ⟨lwm_1 (List.mem_of_getElem? (i := 85) rfl), good_of_word (by decide +kernel)⟩
set_option maxRecDepth 100000 in
theorem GW_101 : GWd (Cond.fieldLink RX0 19 "PeckYard$Flock" "asks" "[I") := ⟨lwm_1 (List.mem_of_getElem? (i := 41) rfl), good_of_word (by decide +kernel)⟩
set_option maxRecDepth 100000 in
theorem GW_144 : GWd (Cond.fieldLink RX0 15 "PeckYard$Change" "hen" "I") := ⟨lwm_1 (List.mem_of_getElem? (i := 84) rfl), good_of_word (by decide +kernel)⟩
set_option maxRecDepth 100000 in
theorem GW_498 : GWd (Cond.code yX0_save cX0_save 3 none) := ⟨lwm_2 (List.mem_of_getElem? (i := 198) rfl), good_of_word (by decide +kernel)⟩
set_option maxRecDepth 100000 in
theorem GW_497 : GWd (Cond.selects RX0 yX0_save yX0_save) := ⟨lwm_2 (List.mem_of_getElem? (i := 197) rfl), good_of_word (by decide +kernel)⟩
set_option maxRecDepth 100000 in
theorem GW_496 : GWd (Cond.instanceMethod yX0_save) := ⟨lwm_2 (List.mem_of_getElem? (i := 196) rfl), good_of_word (by decide +kernel)⟩
set_option maxRecDepth 100000 in
theorem GW_495 : GWd (Cond.methodLink RX1 30 yX0_save) := ⟨lwm_2 (List.mem_of_getElem? (i := 195) rfl), good_of_word (by decide +kernel)⟩
theorem GL_wsX11_ask_r2 : GoodIn lw_tbl wsX11_ask_r2 := gw_c GW_164 (gw_c GW_143 (gw_c GW_495 (gw_c GW_496 (gw_c GW_497 (gw_c GW_64 (gw_c GW_498 (gw_c GW_144 (gw_c GW_101 (gw_c GW_145 (gw_c GW_105 (gw_c GW_146 (gw_c GW_108 (gw_c GW_147 (gw_c GW_111 (gw_c GW_148 (gw_c GW_499 (gw_c GW_501 (gw_c GW_500 (gw_c GW_75 (gw_c GW_468 (gw_c GW_470 (gw_c GW_0 (gw_c GW_471 (gw_n))))))))))))))))))))))))
theorem GL_wsX11_ask_r3 : GoodIn lw_tbl wsX11_ask_r3 := gw_c GW_96 (gw_c GW_162 (gw_c GW_472 (gw_c GW_473 (gw_c GW_74 (gw_c GW_474 (gw_n))))))
theorem GL_wsX11_ask : GoodIn lw_tbl wsX11_ask := gw_c GW_486 (gw_a (gw_a (gw_a (gw_a (gw_a (GL_wsX11_ask_r1) (gw_a (GL_wsX11_ask_r2) (GL_wsX11_ask_r3))) (GL_wsX110)) (GL_wsX20)) (GL_wsX10)) (GL_wsX00))
set_option maxRecDepth 100000 in
theorem GW_483 : GWd (Cond.methodLink RL 18 yX11_ask) := ⟨lwm_2 (List.mem_of_getElem? (i := 183) rfl), good_of_word (by decide +kernel)⟩
set_option maxRecDepth 100000 in
theorem GW_484 : GWd (Cond.instanceMethod yX11_ask) := ⟨lwm_2 (List.mem_of_getElem? (i := 184) rfl), good_of_word (by decide +kernel)⟩
set_option maxRecDepth 100000 in
theorem GW_485 : GWd (Cond.selects RX11 yX11_ask yX11_ask) := ⟨lwm_2 (List.mem_of_getElem? (i := 185) rfl), good_of_word (by decide +kernel)⟩
set_option maxRecDepth 100000 in
theorem GW_505 : GWd (Cond.code yX11_take cX11_take 5 (some .long)) := ⟨lwm_2 (List.mem_of_getElem? (i := 205) rfl), good_of_word (by decide +kernel)⟩
set_option maxRecDepth 100000 in
theorem GW_106 : GWd (Cond.fieldLink RX11 115 "PeckYard$Flock" "takenIn" "[I") := ⟨lwm_1 (List.mem_of_getElem? (i := 46) rfl), good_of_word (by decide +kernel)⟩
set_option maxRecDepth 100000 in
theorem GW_506 : GWd (Cond.constantLong RX11 113 (-2000000002)) := ⟨lwm_2 (List.mem_of_getElem? (i := 206) rfl), good_of_word (by decide +kernel)⟩
set_option maxRecDepth 100000 in
theorem GW_99 : GWd (Cond.fieldLink RX11 110 "PeckYard$Flock" "kind" "[I") := ⟨lwm_1 (List.mem_of_getElem? (i := 39) rfl), good_of_word (by decide +kernel)⟩
theorem GL_wsX11_take_r1 : GoodIn lw_tbl wsX11_take_r1 := gw_c GW_420 (gw_c GW_462 (gw_c GW_99 (gw_c GW_506 (gw_c GW_421 (gw_c GW_106 (gw_c GW_487 (gw_c GW_488 (gw_c GW_489 (gw_c GW_62 (gw_c GW_490 (gw_c GW_92 (gw_c GW_491 (gw_c GW_492 (gw_c GW_493 (gw_c GW_63 (gw_c GW_494 (gw_c GW_165 (gw_c GW_164 (gw_c GW_143 (gw_c GW_495 (gw_c GW_496 (gw_c GW_497 (gw_c GW_64 (gw_n))))))))))))))))))))))))
theorem GL_wsX11_take_r2 : GoodIn lw_tbl wsX11_take_r2 := gw_c GW_498 (gw_c GW_144 (gw_c GW_101 (gw_c GW_145 (gw_c GW_105 (gw_c GW_146 (gw_c GW_108 (gw_c GW_147 (gw_c GW_111 (gw_c GW_148 (gw_c GW_499 (gw_c GW_501 (gw_c GW_500 (gw_c GW_75 (gw_c GW_468 (gw_c GW_470 (gw_c GW_0 (gw_c GW_471 (gw_c GW_96 (gw_c GW_162 (gw_c GW_472 (gw_c GW_473 (gw_c GW_74 (gw_c GW_474 (gw_n))))))))))))))))))))))))
theorem GL_wsX11_take : GoodIn lw_tbl wsX11_take := gw_c GW_505 (gw_a (gw_a (gw_a (gw_a (gw_a (GL_wsX11_take_r1) (GL_wsX11_take_r2)) (GL_wsX110)) (GL_wsX20)) (GL_wsX10)) (GL_wsX00))
set_option maxRecDepth 100000 in
theorem GW_502 : GWd (Cond.methodLink RL 22 yX11_take) := ⟨lwm_2 (List.mem_of_getElem? (i := 202) rfl), good_of_word (by decide +kernel)⟩
set_option maxRecDepth 100000 in
theorem GW_503 : GWd (Cond.instanceMethod yX11_take) := ⟨lwm_2 (List.mem_of_getElem? (i := 203) rfl), good_of_word (by decide +kernel)⟩
set_option maxRecDepth 100000 in
theorem GW_504 : GWd (Cond.selects RX11 yX11_take yX11_take) := ⟨lwm_2 (List.mem_of_getElem? (i := 204) rfl), good_of_word (by decide +kernel)⟩
set_option maxRecDepth 100000 in
theorem GW_510 : GWd (Cond.code yX11_pen cX11_pen 3 (some .long)) := ⟨lwm_2 (List.mem_of_getElem? (i := 210) rfl), good_of_word (by decide +kernel)⟩
set_option maxRecDepth 100000 in
theorem GW_511 : GWd (Cond.fieldLink RX11 118 "PeckYard" "MOST_OF_WIDTH" "[I") := ⟨lwm_2 (List.mem_of_getElem? (i := 211) rfl), good_of_word (by decide +kernel)⟩
theorem GL_wsX11_pen_r1 : GoodIn lw_tbl wsX11_pen_r1 := gw_c GW_420 (gw_c GW_511 (gw_c GW_462 (gw_c GW_421 (gw_c GW_487 (gw_c GW_488 (gw_c GW_489 (gw_c GW_62 (gw_c GW_490 (gw_c GW_92 (gw_c GW_491 (gw_c GW_492 (gw_c GW_493 (gw_c GW_63 (gw_c GW_494 (gw_c GW_165 (gw_c GW_164 (gw_c GW_143 (gw_c GW_495 (gw_c GW_496 (gw_c GW_497 (gw_c GW_64 (gw_c GW_498 (gw_c GW_144 (gw_n))))))))))))))))))))))))
set_option maxRecDepth 100000 in
theorem GW_513 : GWd (Cond.methodLink RX11 121 yX2_renewPen) := ⟨lwm_2 (List.mem_of_getElem? (i := 213) rfl), good_of_word (by decide +kernel)⟩
theorem GL_wsX11_pen_r2 : GoodIn lw_tbl wsX11_pen_r2 := gw_c GW_101 (gw_c GW_145 (gw_c GW_105 (gw_c GW_146 (gw_c GW_108 (gw_c GW_147 (gw_c GW_111 (gw_c GW_148 (gw_c GW_499 (gw_c GW_501 (gw_c GW_500 (gw_c GW_75 (gw_c GW_468 (gw_c GW_470 (gw_c GW_0 (gw_c GW_471 (gw_c GW_96 (gw_c GW_162 (gw_c GW_472 (gw_c GW_473 (gw_c GW_74 (gw_c GW_474 (gw_c GW_513 (gw_c GW_480 (gw_n))))))))))))))))))))))))
theorem GL_wsX11_pen_r3 : GoodIn lw_tbl wsX11_pen_r3 := gw_c GW_481 (gw_c GW_482 (gw_c GW_107 (gw_c GW_110 (gw_n))))
theorem GL_wsX11_pen : GoodIn lw_tbl wsX11_pen := gw_c GW_510 (gw_a (gw_a (gw_a (gw_a (gw_a (GL_wsX11_pen_r1) (gw_a (GL_wsX11_pen_r2) (GL_wsX11_pen_r3))) (GL_wsX110)) (GL_wsX20)) (GL_wsX10)) (GL_wsX00))
set_option maxRecDepth 100000 in
theorem GW_507 : GWd (Cond.methodLink RL 26 yX11_pen) := ⟨lwm_2 (List.mem_of_getElem? (i := 207) rfl), good_of_word (by decide +kernel)⟩
set_option maxRecDepth 100000 in
theorem GW_508 : GWd (Cond.instanceMethod yX11_pen) := ⟨lwm_2 (List.mem_of_getElem? (i := 208) rfl), good_of_word (by decide +kernel)⟩
set_option maxRecDepth 100000 in
theorem GW_509 : GWd (Cond.selects RX11 yX11_pen yX11_pen) := ⟨lwm_2 (List.mem_of_getElem? (i := 209) rfl), good_of_word (by decide +kernel)⟩
set_option maxRecDepth 100000 in
theorem GW_517 : GWd (Cond.code yX11_peck cX11_peck 7 (some .long)) := ⟨lwm_2 (List.mem_of_getElem? (i := 217) rfl), good_of_word (by decide +kernel)⟩
set_option maxRecDepth 100000 in
theorem GW_522 : GWd (Cond.constant RX2 39 (1000000)) := ⟨lwm_2 (List.mem_of_getElem? (i := 222) rfl), good_of_word (by decide +kernel)⟩
set_option maxRecDepth 100000 in
theorem GW_521 : GWd (Cond.code yX2_mostWeight cX2_mostWeight 2 (some .int)) := ⟨lwm_2 (List.mem_of_getElem? (i := 221) rfl), good_of_word (by decide +kernel)⟩
set_option maxRecDepth 100000 in
theorem GW_520 : GWd (Cond.selects RX2 yX2_mostWeight yX2_mostWeight) := ⟨lwm_2 (List.mem_of_getElem? (i := 220) rfl), good_of_word (by decide +kernel)⟩
set_option maxRecDepth 100000 in
theorem GW_519 : GWd (Cond.instanceMethod yX2_mostWeight) := ⟨lwm_2 (List.mem_of_getElem? (i := 219) rfl), good_of_word (by decide +kernel)⟩
set_option maxRecDepth 100000 in
theorem GW_518 : GWd (Cond.methodLink RX11 127 yX2_mostWeight) := ⟨lwm_2 (List.mem_of_getElem? (i := 218) rfl), good_of_word (by decide +kernel)⟩
set_option maxRecDepth 100000 in
theorem GW_113 : GWd (Cond.fieldLink RX11 134 "PeckYard$Flock" "weights" "[I") := ⟨lwm_1 (List.mem_of_getElem? (i := 53) rfl), good_of_word (by decide +kernel)⟩
set_option maxRecDepth 100000 in
theorem GW_109 : GWd (Cond.fieldLink RX11 131 "PeckYard$Flock" "width" "[I") := ⟨lwm_1 (List.mem_of_getElem? (i := 49) rfl), good_of_word (by decide +kernel)⟩
theorem GL_wsX11_peck_r1 : GoodIn lw_tbl wsX11_peck_r1 := gw_c GW_420 (gw_c GW_462 (gw_c GW_109 (gw_c GW_506 (gw_c GW_421 (gw_c GW_113 (gw_c GW_487 (gw_c GW_488 (gw_c GW_489 (gw_c GW_62 (gw_c GW_490 (gw_c GW_92 (gw_c GW_459 (gw_c GW_460 (gw_c GW_61 (gw_c GW_461 (gw_c GW_518 (gw_c GW_519 (gw_c GW_520 (gw_c GW_521 (gw_c GW_107 (gw_c GW_522 (gw_c GW_491 (gw_c GW_492 (gw_n))))))))))))))))))))))))
theorem GL_wsX11_peck_r2 : GoodIn lw_tbl wsX11_peck_r2 := gw_c GW_493 (gw_c GW_63 (gw_c GW_494 (gw_c GW_165 (gw_c GW_164 (gw_c GW_143 (gw_c GW_495 (gw_c GW_496 (gw_c GW_497 (gw_c GW_64 (gw_c GW_498 (gw_c GW_144 (gw_c GW_101 (gw_c GW_145 (gw_c GW_105 (gw_c GW_146 (gw_c GW_108 (gw_c GW_147 (gw_c GW_111 (gw_c GW_148 (gw_c GW_499 (gw_c GW_501 (gw_c GW_500 (gw_c GW_75 (gw_n))))))))))))))))))))))))
theorem GL_wsX11_peck_r3 : GoodIn lw_tbl wsX11_peck_r3 := gw_c GW_468 (gw_c GW_470 (gw_c GW_0 (gw_c GW_471 (gw_c GW_96 (gw_c GW_162 (gw_c GW_472 (gw_c GW_473 (gw_c GW_74 (gw_c GW_474 (gw_n))))))))))
theorem GL_wsX11_peck : GoodIn lw_tbl wsX11_peck := gw_c GW_517 (gw_a (gw_a (gw_a (gw_a (gw_a (GL_wsX11_peck_r1) (gw_a (GL_wsX11_peck_r2) (GL_wsX11_peck_r3))) (GL_wsX110)) (GL_wsX20)) (GL_wsX10)) (GL_wsX00))
set_option maxRecDepth 100000 in
theorem GW_514 : GWd (Cond.methodLink RL 32 yX11_peck) := ⟨lwm_2 (List.mem_of_getElem? (i := 214) rfl), good_of_word (by decide +kernel)⟩
set_option maxRecDepth 100000 in
theorem GW_515 : GWd (Cond.instanceMethod yX11_peck) := ⟨lwm_2 (List.mem_of_getElem? (i := 215) rfl), good_of_word (by decide +kernel)⟩
set_option maxRecDepth 100000 in
theorem GW_516 : GWd (Cond.selects RX11 yX11_peck yX11_peck) := ⟨lwm_2 (List.mem_of_getElem? (i := 216) rfl), good_of_word (by decide +kernel)⟩
set_option maxRecDepth 100000 in
theorem GW_527 : GWd (Cond.code yX11_leave cX11_leave 2 (some .long)) := ⟨lwm_2 (List.mem_of_getElem? (i := 227) rfl), good_of_word (by decide +kernel)⟩
theorem GL_wsX11_leave_r1 : GoodIn lw_tbl wsX11_leave_r1 := gw_c GW_420 (gw_c GW_462 (gw_c GW_109 (gw_c GW_506 (gw_c GW_421 (gw_c GW_487 (gw_c GW_488 (gw_c GW_489 (gw_c GW_62 (gw_c GW_490 (gw_c GW_92 (gw_c GW_491 (gw_c GW_492 (gw_c GW_493 (gw_c GW_63 (gw_c GW_494 (gw_c GW_165 (gw_c GW_164 (gw_c GW_143 (gw_c GW_495 (gw_c GW_496 (gw_c GW_497 (gw_c GW_64 (gw_c GW_498 (gw_n))))))))))))))))))))))))
theorem GL_wsX11_leave_r2 : GoodIn lw_tbl wsX11_leave_r2 := gw_c GW_144 (gw_c GW_101 (gw_c GW_145 (gw_c GW_105 (gw_c GW_146 (gw_c GW_108 (gw_c GW_147 (gw_c GW_111 (gw_c GW_148 (gw_c GW_499 (gw_c GW_501 (gw_c GW_500 (gw_c GW_75 (gw_c GW_468 (gw_c GW_470 (gw_c GW_0 (gw_c GW_471 (gw_c GW_96 (gw_c GW_162 (gw_c GW_472 (gw_c GW_473 (gw_c GW_74 (gw_c GW_474 (gw_c GW_513 (gw_n))))))))))))))))))))))))
theorem GL_wsX11_leave_r3 : GoodIn lw_tbl wsX11_leave_r3 := gw_c GW_480 (gw_c GW_481 (gw_c GW_482 (gw_c GW_107 (gw_c GW_110 (gw_n)))))
theorem GL_wsX11_leave : GoodIn lw_tbl wsX11_leave := gw_c GW_527 (gw_a (gw_a (gw_a (gw_a (gw_a (GL_wsX11_leave_r1) (gw_a (GL_wsX11_leave_r2) (GL_wsX11_leave_r3))) (GL_wsX110)) (GL_wsX20)) (GL_wsX10)) (GL_wsX00))
set_option maxRecDepth 100000 in
theorem GW_524 : GWd (Cond.methodLink RL 37 yX11_leave) := ⟨lwm_2 (List.mem_of_getElem? (i := 224) rfl), good_of_word (by decide +kernel)⟩
set_option maxRecDepth 100000 in
theorem GW_525 : GWd (Cond.instanceMethod yX11_leave) := ⟨lwm_2 (List.mem_of_getElem? (i := 225) rfl), good_of_word (by decide +kernel)⟩
set_option maxRecDepth 100000 in
theorem GW_526 : GWd (Cond.selects RX11 yX11_leave yX11_leave) := ⟨lwm_2 (List.mem_of_getElem? (i := 226) rfl), good_of_word (by decide +kernel)⟩
set_option maxRecDepth 100000 in
theorem GW_531 : GWd (Cond.code yX11_about cX11_about 3 (some .long)) := ⟨lwm_2 (List.mem_of_getElem? (i := 231) rfl), good_of_word (by decide +kernel)⟩
set_option maxRecDepth 100000 in
theorem GW_536 : GWd (Cond.methodLink RX2 31 yX2_has) := ⟨lwm_2 (List.mem_of_getElem? (i := 236) rfl), good_of_word (by decide +kernel)⟩
set_option maxRecDepth 100000 in
theorem GW_535 : GWd (Cond.code yX2_isCounted cX2_isCounted 2 (some .boolean)) := ⟨lwm_2 (List.mem_of_getElem? (i := 235) rfl), good_of_word (by decide +kernel)⟩
set_option maxRecDepth 100000 in
theorem GW_534 : GWd (Cond.selects RX2 yX2_isCounted yX2_isCounted) := ⟨lwm_2 (List.mem_of_getElem? (i := 234) rfl), good_of_word (by decide +kernel)⟩
set_option maxRecDepth 100000 in
theorem GW_533 : GWd (Cond.instanceMethod yX2_isCounted) := ⟨lwm_2 (List.mem_of_getElem? (i := 233) rfl), good_of_word (by decide +kernel)⟩
set_option maxRecDepth 100000 in
theorem GW_532 : GWd (Cond.methodLink RX11 137 yX2_isCounted) := ⟨lwm_2 (List.mem_of_getElem? (i := 232) rfl), good_of_word (by decide +kernel)⟩
set_option maxRecDepth 100000 in
theorem GW_537 : GWd (Cond.constantLong RX11 140 (-2000000005)) := ⟨lwm_2 (List.mem_of_getElem? (i := 237) rfl), good_of_word (by decide +kernel)⟩
theorem GL_wsX11_about : GoodIn lw_tbl wsX11_about := gw_c GW_531 (gw_a (gw_a (gw_c GW_420 (gw_c GW_462 (gw_c GW_99 (gw_c GW_102 (gw_c GW_109 (gw_c GW_537 (gw_c GW_487 (gw_c GW_488 (gw_c GW_489 (gw_c GW_62 (gw_c GW_490 (gw_c GW_92 (gw_c GW_532 (gw_c GW_533 (gw_c GW_534 (gw_c GW_535 (gw_c GW_97 (gw_c GW_104 (gw_c GW_536 (gw_n)))))))))))))))))))) (GL_wsX110)) (GL_wsX20))
set_option maxRecDepth 100000 in
theorem GW_528 : GWd (Cond.methodLink RL 42 yX11_about) := ⟨lwm_2 (List.mem_of_getElem? (i := 228) rfl), good_of_word (by decide +kernel)⟩
set_option maxRecDepth 100000 in
theorem GW_529 : GWd (Cond.instanceMethod yX11_about) := ⟨lwm_2 (List.mem_of_getElem? (i := 229) rfl), good_of_word (by decide +kernel)⟩
set_option maxRecDepth 100000 in
theorem GW_530 : GWd (Cond.selects RX11 yX11_about yX11_about) := ⟨lwm_2 (List.mem_of_getElem? (i := 230) rfl), good_of_word (by decide +kernel)⟩
set_option maxRecDepth 100000 in
theorem GW_541 : GWd (Cond.code yX11_isOf cX11_isOf 4 (some .long)) := ⟨lwm_3 (List.mem_of_getElem? (i := 1) rfl), good_of_word (by decide +kernel)⟩
theorem GL_wsX11_isOf : GoodIn lw_tbl wsX11_isOf := gw_c GW_541 (gw_a (gw_a (gw_c GW_420 (gw_c GW_462 (gw_c GW_99 (gw_c GW_487 (gw_c GW_488 (gw_c GW_489 (gw_c GW_62 (gw_c GW_490 (gw_c GW_92 (gw_c GW_452 (gw_c GW_453 (gw_c GW_61 (gw_c GW_454 (gw_n)))))))))))))) (GL_wsX110)) (GL_wsX20))
set_option maxRecDepth 100000 in
theorem GW_538 : GWd (Cond.methodLink RL 46 yX11_isOf) := ⟨lwm_2 (List.mem_of_getElem? (i := 238) rfl), good_of_word (by decide +kernel)⟩
set_option maxRecDepth 100000 in
theorem GW_539 : GWd (Cond.instanceMethod yX11_isOf) := ⟨lwm_2 (List.mem_of_getElem? (i := 239) rfl), good_of_word (by decide +kernel)⟩
set_option maxRecDepth 100000 in
theorem GW_540 : GWd (Cond.selects RX11 yX11_isOf yX11_isOf) := ⟨lwm_3 (List.mem_of_getElem? (i := 0) rfl), good_of_word (by decide +kernel)⟩
set_option maxRecDepth 100000 in
theorem GW_545 : GWd (Cond.code yX11_pecks cX11_pecks 3 (some .long)) := ⟨lwm_3 (List.mem_of_getElem? (i := 5) rfl), good_of_word (by decide +kernel)⟩
theorem GL_wsX11_pecks : GoodIn lw_tbl wsX11_pecks := gw_c GW_545 (gw_a (gw_a (gw_c GW_420 (gw_c GW_462 (gw_c GW_113 (gw_c GW_487 (gw_c GW_488 (gw_c GW_489 (gw_c GW_62 (gw_c GW_490 (gw_c GW_92 (gw_c GW_459 (gw_c GW_460 (gw_c GW_61 (gw_c GW_461 (gw_n)))))))))))))) (GL_wsX110)) (GL_wsX20))
set_option maxRecDepth 100000 in
theorem GW_542 : GWd (Cond.methodLink RL 50 yX11_pecks) := ⟨lwm_3 (List.mem_of_getElem? (i := 2) rfl), good_of_word (by decide +kernel)⟩
set_option maxRecDepth 100000 in
theorem GW_543 : GWd (Cond.instanceMethod yX11_pecks) := ⟨lwm_3 (List.mem_of_getElem? (i := 3) rfl), good_of_word (by decide +kernel)⟩
set_option maxRecDepth 100000 in
theorem GW_544 : GWd (Cond.selects RX11 yX11_pecks yX11_pecks) := ⟨lwm_3 (List.mem_of_getElem? (i := 4) rfl), good_of_word (by decide +kernel)⟩
set_option maxRecDepth 100000 in
theorem GW_549 : GWd (Cond.code yX11_undo cX11_undo 1 (some .long)) := ⟨lwm_3 (List.mem_of_getElem? (i := 9) rfl), good_of_word (by decide +kernel)⟩
set_option maxRecDepth 100000 in
theorem GW_557 : GWd (Cond.code yX0_restore cX0_restore 2 none) := ⟨lwm_3 (List.mem_of_getElem? (i := 17) rfl), good_of_word (by decide +kernel)⟩
set_option maxRecDepth 100000 in
theorem GW_556 : GWd (Cond.selects RX0 yX0_restore yX0_restore) := ⟨lwm_3 (List.mem_of_getElem? (i := 16) rfl), good_of_word (by decide +kernel)⟩
set_option maxRecDepth 100000 in
theorem GW_555 : GWd (Cond.instanceMethod yX0_restore) := ⟨lwm_3 (List.mem_of_getElem? (i := 15) rfl), good_of_word (by decide +kernel)⟩
set_option maxRecDepth 100000 in
theorem GW_554 : GWd (Cond.methodLink RX1 51 yX0_restore) := ⟨lwm_3 (List.mem_of_getElem? (i := 14) rfl), good_of_word (by decide +kernel)⟩
set_option maxRecDepth 100000 in
theorem GW_94 : GWd (Cond.fieldLink RX1 48 "PeckYard$Flock" "size" "I") := ⟨lwm_1 (List.mem_of_getElem? (i := 34) rfl), good_of_word (by decide +kernel)⟩
set_option maxRecDepth 100000 in
theorem GW_553 : GWd (Cond.code yX1_takeBack cX1_takeBack 2 none) := ⟨lwm_3 (List.mem_of_getElem? (i := 13) rfl), good_of_word (by decide +kernel)⟩
set_option maxRecDepth 100000 in
theorem GW_552 : GWd (Cond.selects RX1 yX1_takeBack yX1_takeBack) := ⟨lwm_3 (List.mem_of_getElem? (i := 12) rfl), good_of_word (by decide +kernel)⟩
set_option maxRecDepth 100000 in
theorem GW_551 : GWd (Cond.instanceMethod yX1_takeBack) := ⟨lwm_3 (List.mem_of_getElem? (i := 11) rfl), good_of_word (by decide +kernel)⟩
set_option maxRecDepth 100000 in
theorem GW_550 : GWd (Cond.methodLink RX11 145 yX1_takeBack) := ⟨lwm_3 (List.mem_of_getElem? (i := 10) rfl), good_of_word (by decide +kernel)⟩
set_option maxRecDepth 100000 in
theorem GW_163 : GWd (Cond.fieldLink RX11 142 "PeckYard$Changes" "kept" "I") := ⟨lwm_1 (List.mem_of_getElem? (i := 103) rfl), good_of_word (by decide +kernel)⟩
theorem GL_wsX11_undo_r1 : GoodIn lw_tbl wsX11_undo_r1 := gw_c GW_421 (gw_c GW_163 (gw_c GW_506 (gw_c GW_420 (gw_c GW_550 (gw_c GW_551 (gw_c GW_552 (gw_c GW_63 (gw_c GW_553 (gw_c GW_96 (gw_c GW_164 (gw_c GW_162 (gw_c GW_165 (gw_c GW_143 (gw_c GW_94 (gw_c GW_554 (gw_c GW_555 (gw_c GW_556 (gw_c GW_64 (gw_c GW_557 (gw_c GW_101 (gw_c GW_144 (gw_c GW_145 (gw_c GW_105 (gw_n))))))))))))))))))))))))
theorem GL_wsX11_undo_r2 : GoodIn lw_tbl wsX11_undo_r2 := gw_c GW_146 (gw_c GW_108 (gw_c GW_147 (gw_c GW_148 (gw_c GW_111 (gw_c GW_499 (gw_c GW_501 (gw_c GW_500 (gw_c GW_75 (gw_n)))))))))
theorem GL_wsX11_undo : GoodIn lw_tbl wsX11_undo := gw_c GW_549 (gw_a (gw_a (gw_a (gw_a (gw_a (GL_wsX11_undo_r1) (GL_wsX11_undo_r2)) (GL_wsX110)) (GL_wsX10)) (GL_wsX20)) (GL_wsX00))
set_option maxRecDepth 100000 in
theorem GW_546 : GWd (Cond.methodLink RL 54 yX11_undo) := ⟨lwm_3 (List.mem_of_getElem? (i := 6) rfl), good_of_word (by decide +kernel)⟩
set_option maxRecDepth 100000 in
theorem GW_547 : GWd (Cond.instanceMethod yX11_undo) := ⟨lwm_3 (List.mem_of_getElem? (i := 7) rfl), good_of_word (by decide +kernel)⟩
set_option maxRecDepth 100000 in
theorem GW_548 : GWd (Cond.selects RX11 yX11_undo yX11_undo) := ⟨lwm_3 (List.mem_of_getElem? (i := 8) rfl), good_of_word (by decide +kernel)⟩
set_option maxRecDepth 100000 in
theorem GW_561 : GWd (Cond.code yX11_least cX11_least 1 (some .long)) := ⟨lwm_3 (List.mem_of_getElem? (i := 21) rfl), good_of_word (by decide +kernel)⟩
set_option maxRecDepth 100000 in
theorem GW_187 : GWd (Cond.fieldLink RX4 44 "PeckYard$Muster" "size" "I") := ⟨lwm_1 (List.mem_of_getElem? (i := 127) rfl), good_of_word (by decide +kernel)⟩
set_option maxRecDepth 100000 in
theorem GW_181 : GWd (Cond.fieldLink RX4 43 "PeckYard$Muster" "stamp" "I") := ⟨lwm_1 (List.mem_of_getElem? (i := 121) rfl), good_of_word (by decide +kernel)⟩
set_option maxRecDepth 100000 in
theorem GW_569 : GWd (Cond.code yX4_prepare cX4_prepare 5 none) := ⟨lwm_3 (List.mem_of_getElem? (i := 29) rfl), good_of_word (by decide +kernel)⟩
set_option maxRecDepth 100000 in
theorem GW_568 : GWd (Cond.selects RX4 yX4_prepare yX4_prepare) := ⟨lwm_3 (List.mem_of_getElem? (i := 28) rfl), good_of_word (by decide +kernel)⟩
set_option maxRecDepth 100000 in
theorem GW_567 : GWd (Cond.instanceMethod yX4_prepare) := ⟨lwm_3 (List.mem_of_getElem? (i := 27) rfl), good_of_word (by decide +kernel)⟩
set_option maxRecDepth 100000 in
theorem GW_566 : GWd (Cond.methodLink RX9 51 yX4_prepare) := ⟨lwm_3 (List.mem_of_getElem? (i := 26) rfl), good_of_word (by decide +kernel)⟩
set_option maxRecDepth 100000 in
theorem GW_182 : GWd (Cond.fieldLink RX9 54 "PeckYard$Muster" "stamp" "I") := ⟨lwm_1 (List.mem_of_getElem? (i := 122) rfl), good_of_word (by decide +kernel)⟩
set_option maxRecDepth 100000 in
theorem GW_565 : GWd (Cond.code yX9_solve cX9_solve 3 none) := ⟨lwm_3 (List.mem_of_getElem? (i := 25) rfl), good_of_word (by decide +kernel)⟩
set_option maxRecDepth 100000 in
theorem GW_564 : GWd (Cond.selects RX9 yX9_solve yX9_solve) := ⟨lwm_3 (List.mem_of_getElem? (i := 24) rfl), good_of_word (by decide +kernel)⟩
set_option maxRecDepth 100000 in
theorem GW_563 : GWd (Cond.instanceMethod yX9_solve) := ⟨lwm_3 (List.mem_of_getElem? (i := 23) rfl), good_of_word (by decide +kernel)⟩
set_option maxRecDepth 100000 in
theorem GW_562 : GWd (Cond.methodLink RX11 148 yX9_solve) := ⟨lwm_3 (List.mem_of_getElem? (i := 22) rfl), good_of_word (by decide +kernel)⟩
theorem GL_wsX11_least_r1 : GoodIn lw_tbl wsX11_least_r1 := gw_c GW_423 (gw_c GW_537 (gw_c GW_562 (gw_c GW_563 (gw_c GW_564 (gw_c GW_66 (gw_c GW_565 (gw_c GW_271 (gw_c GW_272 (gw_c GW_270 (gw_c GW_182 (gw_c GW_276 (gw_c GW_129 (gw_c GW_277 (gw_c GW_566 (gw_c GW_567 (gw_c GW_568 (gw_c GW_67 (gw_c GW_569 (gw_c GW_244 (gw_c GW_245 (gw_c GW_181 (gw_c GW_187 (gw_c GW_248 (gw_n))))))))))))))))))))))))
set_option maxRecDepth 100000 in
theorem GW_574 : GWd (Cond.methodLink RX8 47 yX2_isCounted) := ⟨lwm_3 (List.mem_of_getElem? (i := 34) rfl), good_of_word (by decide +kernel)⟩
set_option maxRecDepth 100000 in
theorem GW_98 : GWd (Cond.fieldLink RX8 51 "PeckYard$Flock" "kind" "[I") := ⟨lwm_1 (List.mem_of_getElem? (i := 38) rfl), good_of_word (by decide +kernel)⟩
set_option maxRecDepth 100000 in
theorem GW_186 : GWd (Cond.fieldLink RX8 44 "PeckYard$Muster" "size" "I") := ⟨lwm_1 (List.mem_of_getElem? (i := 126) rfl), good_of_word (by decide +kernel)⟩
set_option maxRecDepth 100000 in
theorem GW_95 : GWd (Cond.fieldLink RX8 41 "PeckYard$Flock" "stamp" "I") := ⟨lwm_1 (List.mem_of_getElem? (i := 35) rfl), good_of_word (by decide +kernel)⟩
set_option maxRecDepth 100000 in
theorem GW_573 : GWd (Cond.code yX8_gather cX8_gather 2 none) := ⟨lwm_3 (List.mem_of_getElem? (i := 33) rfl), good_of_word (by decide +kernel)⟩
set_option maxRecDepth 100000 in
theorem GW_572 : GWd (Cond.selects RX8 yX8_gather yX8_gather) := ⟨lwm_3 (List.mem_of_getElem? (i := 32) rfl), good_of_word (by decide +kernel)⟩
set_option maxRecDepth 100000 in
theorem GW_571 : GWd (Cond.instanceMethod yX8_gather) := ⟨lwm_3 (List.mem_of_getElem? (i := 31) rfl), good_of_word (by decide +kernel)⟩
set_option maxRecDepth 100000 in
theorem GW_570 : GWd (Cond.methodLink RX4 38 yX8_gather) := ⟨lwm_3 (List.mem_of_getElem? (i := 30) rfl), good_of_word (by decide +kernel)⟩
set_option maxRecDepth 100000 in
theorem GW_209 : GWd (Cond.fieldLink RX4 54 "PeckYard$Muster" "pairs" "[I") := ⟨lwm_1 (List.mem_of_getElem? (i := 149) rfl), good_of_word (by decide +kernel)⟩
set_option maxRecDepth 100000 in
theorem GW_205 : GWd (Cond.fieldLink RX4 47 "PeckYard$Muster" "below" "[I") := ⟨lwm_1 (List.mem_of_getElem? (i := 145) rfl), good_of_word (by decide +kernel)⟩
theorem GL_wsX11_least_r2 : GoodIn lw_tbl wsX11_least_r2 := gw_c GW_249 (gw_c GW_205 (gw_c GW_250 (gw_c GW_251 (gw_c GW_209 (gw_c GW_246 (gw_c GW_247 (gw_c GW_570 (gw_c GW_571 (gw_c GW_572 (gw_c GW_65 (gw_c GW_573 (gw_c GW_180 (gw_c GW_179 (gw_c GW_95 (gw_c GW_186 (gw_c GW_197 (gw_c GW_192 (gw_c GW_200 (gw_c GW_98 (gw_c GW_204 (gw_c GW_207 (gw_c GW_574 (gw_c GW_533 (gw_n))))))))))))))))))))))))
set_option maxRecDepth 100000 in
theorem GW_584 : GWd (Cond.instanceMethod yX2_asksForSomebody) := ⟨lwm_3 (List.mem_of_getElem? (i := 44) rfl), good_of_word (by decide +kernel)⟩
set_option maxRecDepth 100000 in
theorem GW_583 : GWd (Cond.methodLink RX8 62 yX2_asksForSomebody) := ⟨lwm_3 (List.mem_of_getElem? (i := 43) rfl), good_of_word (by decide +kernel)⟩
set_option maxRecDepth 100000 in
theorem GW_103 : GWd (Cond.fieldLink RX8 65 "PeckYard$Flock" "asks" "[I") := ⟨lwm_1 (List.mem_of_getElem? (i := 43) rfl), good_of_word (by decide +kernel)⟩
set_option maxRecDepth 100000 in
theorem GW_582 : GWd (Cond.code yX8_gatherAsking cX8_gatherAsking 3 none) := ⟨lwm_3 (List.mem_of_getElem? (i := 42) rfl), good_of_word (by decide +kernel)⟩
set_option maxRecDepth 100000 in
theorem GW_2 : GWd (Cond.selects RX8 yX8_gatherAsking yX8_gatherAsking) := ⟨List.mem_of_getElem? (i := 2) rfl, good_of_word (by decide +kernel)⟩
set_option maxRecDepth 100000 in
theorem GW_581 : GWd (Cond.instanceMethod yX8_gatherAsking) := ⟨lwm_3 (List.mem_of_getElem? (i := 41) rfl), good_of_word (by decide +kernel)⟩
set_option maxRecDepth 100000 in
theorem GW_579 : GWd (Cond.methodLink RX8 56 yX8_gatherAsking) := ⟨lwm_3 (List.mem_of_getElem? (i := 39) rfl), good_of_word (by decide +kernel)⟩
set_option maxRecDepth 100000 in
theorem GW_112 : GWd (Cond.fieldLink RX8 59 "PeckYard$Flock" "weights" "[I") := ⟨lwm_1 (List.mem_of_getElem? (i := 52) rfl), good_of_word (by decide +kernel)⟩
set_option maxRecDepth 100000 in
theorem GW_578 : GWd (Cond.code yX8_gatherPecks cX8_gatherPecks 3 none) := ⟨lwm_3 (List.mem_of_getElem? (i := 38) rfl), good_of_word (by decide +kernel)⟩
set_option maxRecDepth 100000 in
theorem GW_1 : GWd (Cond.selects RX8 yX8_gatherPecks yX8_gatherPecks) := ⟨List.mem_of_getElem? (i := 1) rfl, good_of_word (by decide +kernel)⟩
set_option maxRecDepth 100000 in
theorem GW_577 : GWd (Cond.instanceMethod yX8_gatherPecks) := ⟨lwm_3 (List.mem_of_getElem? (i := 37) rfl), good_of_word (by decide +kernel)⟩
set_option maxRecDepth 100000 in
theorem GW_575 : GWd (Cond.methodLink RX8 52 yX8_gatherPecks) := ⟨lwm_3 (List.mem_of_getElem? (i := 35) rfl), good_of_word (by decide +kernel)⟩
theorem GL_wsX11_least_r3 : GoodIn lw_tbl wsX11_least_r3 := gw_c GW_534 (gw_c GW_62 (gw_c GW_535 (gw_c GW_97 (gw_c GW_104 (gw_c GW_536 (gw_c GW_488 (gw_c GW_489 (gw_c GW_490 (gw_c GW_92 (gw_c GW_575 (gw_c GW_577 (gw_c GW_1 (gw_c GW_578 (gw_c GW_210 (gw_c GW_112 (gw_c GW_579 (gw_c GW_581 (gw_c GW_2 (gw_c GW_582 (gw_c GW_202 (gw_c GW_103 (gw_c GW_583 (gw_c GW_584 (gw_n))))))))))))))))))))))))
set_option maxRecDepth 100000 in
theorem GW_607 : GWd (Cond.instanceMethod yX4_pairsOf) := ⟨lwm_3 (List.mem_of_getElem? (i := 67) rfl), good_of_word (by decide +kernel)⟩
set_option maxRecDepth 100000 in
theorem GW_606 : GWd (Cond.methodLink RX9 76 yX4_pairsOf) := ⟨lwm_3 (List.mem_of_getElem? (i := 66) rfl), good_of_word (by decide +kernel)⟩
set_option maxRecDepth 100000 in
theorem GW_605 : GWd (Cond.code yX9_choices cX9_choices 4 (some .int)) := ⟨lwm_3 (List.mem_of_getElem? (i := 65) rfl), good_of_word (by decide +kernel)⟩
set_option maxRecDepth 100000 in
theorem GW_3 : GWd (Cond.selects RX9 yX9_choices yX9_choices) := ⟨List.mem_of_getElem? (i := 3) rfl, good_of_word (by decide +kernel)⟩
set_option maxRecDepth 100000 in
theorem GW_604 : GWd (Cond.instanceMethod yX9_choices) := ⟨lwm_3 (List.mem_of_getElem? (i := 64) rfl), good_of_word (by decide +kernel)⟩
set_option maxRecDepth 100000 in
theorem GW_602 : GWd (Cond.methodLink RX9 63 yX9_choices) := ⟨lwm_3 (List.mem_of_getElem? (i := 62) rfl), good_of_word (by decide +kernel)⟩
set_option maxRecDepth 100000 in
theorem GW_601 : GWd (Cond.code yX8_all cX8_all 1 (some .int)) := ⟨lwm_3 (List.mem_of_getElem? (i := 61) rfl), good_of_word (by decide +kernel)⟩
set_option maxRecDepth 100000 in
theorem GW_600 : GWd (Cond.selects RX8 yX8_all yX8_all) := ⟨lwm_3 (List.mem_of_getElem? (i := 60) rfl), good_of_word (by decide +kernel)⟩
set_option maxRecDepth 100000 in
theorem GW_599 : GWd (Cond.instanceMethod yX8_all) := ⟨lwm_3 (List.mem_of_getElem? (i := 59) rfl), good_of_word (by decide +kernel)⟩
set_option maxRecDepth 100000 in
theorem GW_598 : GWd (Cond.methodLink RX9 59 yX8_all) := ⟨lwm_3 (List.mem_of_getElem? (i := 58) rfl), good_of_word (by decide +kernel)⟩
set_option maxRecDepth 100000 in
theorem GW_597 : GWd (Cond.code yX4_spreadSum cX4_spreadSum 6 none) := ⟨lwm_3 (List.mem_of_getElem? (i := 57) rfl), good_of_word (by decide +kernel)⟩
set_option maxRecDepth 100000 in
theorem GW_596 : GWd (Cond.static yX4_spreadSum) := ⟨lwm_3 (List.mem_of_getElem? (i := 56) rfl), good_of_word (by decide +kernel)⟩
set_option maxRecDepth 100000 in
theorem GW_595 : GWd (Cond.methodLink RX4 61 yX4_spreadSum) := ⟨lwm_3 (List.mem_of_getElem? (i := 55) rfl), good_of_word (by decide +kernel)⟩
set_option maxRecDepth 100000 in
theorem GW_594 : GWd (Cond.code yX8_peckOf cX8_peckOf 3 (some .int)) := ⟨lwm_3 (List.mem_of_getElem? (i := 54) rfl), good_of_word (by decide +kernel)⟩
set_option maxRecDepth 100000 in
theorem GW_593 : GWd (Cond.selects RX8 yX8_peckOf yX8_peckOf) := ⟨lwm_3 (List.mem_of_getElem? (i := 53) rfl), good_of_word (by decide +kernel)⟩
set_option maxRecDepth 100000 in
theorem GW_592 : GWd (Cond.instanceMethod yX8_peckOf) := ⟨lwm_3 (List.mem_of_getElem? (i := 52) rfl), good_of_word (by decide +kernel)⟩
set_option maxRecDepth 100000 in
theorem GW_591 : GWd (Cond.methodLink RX4 57 yX8_peckOf) := ⟨lwm_3 (List.mem_of_getElem? (i := 51) rfl), good_of_word (by decide +kernel)⟩
set_option maxRecDepth 100000 in
theorem GW_590 : GWd (Cond.code yX4_spreadUnion cX4_spreadUnion 5 none) := ⟨lwm_3 (List.mem_of_getElem? (i := 50) rfl), good_of_word (by decide +kernel)⟩
set_option maxRecDepth 100000 in
theorem GW_589 : GWd (Cond.static yX4_spreadUnion) := ⟨lwm_3 (List.mem_of_getElem? (i := 49) rfl), good_of_word (by decide +kernel)⟩
set_option maxRecDepth 100000 in
theorem GW_588 : GWd (Cond.methodLink RX4 50 yX4_spreadUnion) := ⟨lwm_3 (List.mem_of_getElem? (i := 48) rfl), good_of_word (by decide +kernel)⟩
set_option maxRecDepth 100000 in
theorem GW_587 : GWd (Cond.constant RX2 43 (-2000000005)) := ⟨lwm_3 (List.mem_of_getElem? (i := 47) rfl), good_of_word (by decide +kernel)⟩
set_option maxRecDepth 100000 in
theorem GW_586 : GWd (Cond.code yX2_asksForSomebody cX2_asksForSomebody 2 (some .boolean)) := ⟨lwm_3 (List.mem_of_getElem? (i := 46) rfl), good_of_word (by decide +kernel)⟩
set_option maxRecDepth 100000 in
theorem GW_585 : GWd (Cond.selects RX2 yX2_asksForSomebody yX2_asksForSomebody) := ⟨lwm_3 (List.mem_of_getElem? (i := 45) rfl), good_of_word (by decide +kernel)⟩
theorem GL_wsX11_least_r4 : GoodIn lw_tbl wsX11_least_r4 := gw_c GW_585 (gw_c GW_586 (gw_c GW_100 (gw_c GW_587 (gw_c GW_588 (gw_c GW_589 (gw_c GW_590 (gw_c GW_591 (gw_c GW_592 (gw_c GW_593 (gw_c GW_594 (gw_c GW_595 (gw_c GW_596 (gw_c GW_597 (gw_c GW_598 (gw_c GW_599 (gw_c GW_600 (gw_c GW_601 (gw_c GW_602 (gw_c GW_604 (gw_c GW_3 (gw_c GW_605 (gw_c GW_606 (gw_c GW_607 (gw_n))))))))))))))))))))))))
set_option maxRecDepth 100000 in
theorem GW_630 : GWd (Cond.code yX9_leastWeight cX9_leastWeight 1 (some .long)) := ⟨lwm_3 (List.mem_of_getElem? (i := 90) rfl), good_of_word (by decide +kernel)⟩
set_option maxRecDepth 100000 in
theorem GW_629 : GWd (Cond.selects RX9 yX9_leastWeight yX9_leastWeight) := ⟨lwm_3 (List.mem_of_getElem? (i := 89) rfl), good_of_word (by decide +kernel)⟩
set_option maxRecDepth 100000 in
theorem GW_628 : GWd (Cond.instanceMethod yX9_leastWeight) := ⟨lwm_3 (List.mem_of_getElem? (i := 88) rfl), good_of_word (by decide +kernel)⟩
set_option maxRecDepth 100000 in
theorem GW_627 : GWd (Cond.methodLink RX11 155 yX9_leastWeight) := ⟨lwm_3 (List.mem_of_getElem? (i := 87) rfl), good_of_word (by decide +kernel)⟩
set_option maxRecDepth 100000 in
theorem GW_626 : GWd (Cond.code yX9_hasLawful cX9_hasLawful 1 (some .boolean)) := ⟨lwm_3 (List.mem_of_getElem? (i := 86) rfl), good_of_word (by decide +kernel)⟩
set_option maxRecDepth 100000 in
theorem GW_625 : GWd (Cond.selects RX9 yX9_hasLawful yX9_hasLawful) := ⟨lwm_3 (List.mem_of_getElem? (i := 85) rfl), good_of_word (by decide +kernel)⟩
set_option maxRecDepth 100000 in
theorem GW_624 : GWd (Cond.instanceMethod yX9_hasLawful) := ⟨lwm_3 (List.mem_of_getElem? (i := 84) rfl), good_of_word (by decide +kernel)⟩
set_option maxRecDepth 100000 in
theorem GW_623 : GWd (Cond.methodLink RX11 151 yX9_hasLawful) := ⟨lwm_3 (List.mem_of_getElem? (i := 83) rfl), good_of_word (by decide +kernel)⟩
set_option maxRecDepth 100000 in
theorem GW_622 : GWd (Cond.code yX4_costBelow cX4_costBelow 3 (some .int)) := ⟨lwm_3 (List.mem_of_getElem? (i := 82) rfl), good_of_word (by decide +kernel)⟩
set_option maxRecDepth 100000 in
theorem GW_621 : GWd (Cond.selects RX4 yX4_costBelow yX4_costBelow) := ⟨lwm_3 (List.mem_of_getElem? (i := 81) rfl), good_of_word (by decide +kernel)⟩
set_option maxRecDepth 100000 in
theorem GW_620 : GWd (Cond.instanceMethod yX4_costBelow) := ⟨lwm_3 (List.mem_of_getElem? (i := 80) rfl), good_of_word (by decide +kernel)⟩
set_option maxRecDepth 100000 in
theorem GW_619 : GWd (Cond.methodLink RX9 72 yX4_costBelow) := ⟨lwm_3 (List.mem_of_getElem? (i := 79) rfl), good_of_word (by decide +kernel)⟩
set_option maxRecDepth 100000 in
theorem GW_618 : GWd (Cond.constant RX9 71 (1000000000)) := ⟨lwm_3 (List.mem_of_getElem? (i := 78) rfl), good_of_word (by decide +kernel)⟩
set_option maxRecDepth 100000 in
theorem GW_617 : GWd (Cond.code yX9_weighRest cX9_weighRest 9 none) := ⟨lwm_3 (List.mem_of_getElem? (i := 77) rfl), good_of_word (by decide +kernel)⟩
set_option maxRecDepth 100000 in
theorem GW_4 : GWd (Cond.selects RX9 yX9_weighRest yX9_weighRest) := ⟨List.mem_of_getElem? (i := 4) rfl, good_of_word (by decide +kernel)⟩
set_option maxRecDepth 100000 in
theorem GW_616 : GWd (Cond.instanceMethod yX9_weighRest) := ⟨lwm_3 (List.mem_of_getElem? (i := 76) rfl), good_of_word (by decide +kernel)⟩
set_option maxRecDepth 100000 in
theorem GW_614 : GWd (Cond.methodLink RX9 67 yX9_weighRest) := ⟨lwm_3 (List.mem_of_getElem? (i := 74) rfl), good_of_word (by decide +kernel)⟩
set_option maxRecDepth 100000 in
theorem GW_613 : GWd (Cond.code yX4_mustBeBelow cX4_mustBeBelow 2 (some .int)) := ⟨lwm_3 (List.mem_of_getElem? (i := 73) rfl), good_of_word (by decide +kernel)⟩
set_option maxRecDepth 100000 in
theorem GW_612 : GWd (Cond.selects RX4 yX4_mustBeBelow yX4_mustBeBelow) := ⟨lwm_3 (List.mem_of_getElem? (i := 72) rfl), good_of_word (by decide +kernel)⟩
set_option maxRecDepth 100000 in
theorem GW_611 : GWd (Cond.instanceMethod yX4_mustBeBelow) := ⟨lwm_3 (List.mem_of_getElem? (i := 71) rfl), good_of_word (by decide +kernel)⟩
set_option maxRecDepth 100000 in
theorem GW_610 : GWd (Cond.methodLink RX9 79 yX4_mustBeBelow) := ⟨lwm_3 (List.mem_of_getElem? (i := 70) rfl), good_of_word (by decide +kernel)⟩
set_option maxRecDepth 100000 in
theorem GW_609 : GWd (Cond.code yX4_pairsOf cX4_pairsOf 2 (some .int)) := ⟨lwm_3 (List.mem_of_getElem? (i := 69) rfl), good_of_word (by decide +kernel)⟩
set_option maxRecDepth 100000 in
theorem GW_608 : GWd (Cond.selects RX4 yX4_pairsOf yX4_pairsOf) := ⟨lwm_3 (List.mem_of_getElem? (i := 68) rfl), good_of_word (by decide +kernel)⟩
theorem GL_wsX11_least_r5 : GoodIn lw_tbl wsX11_least_r5 := gw_c GW_608 (gw_c GW_609 (gw_c GW_610 (gw_c GW_611 (gw_c GW_612 (gw_c GW_613 (gw_c GW_614 (gw_c GW_616 (gw_c GW_4 (gw_c GW_617 (gw_c GW_618 (gw_c GW_619 (gw_c GW_620 (gw_c GW_621 (gw_c GW_622 (gw_c GW_623 (gw_c GW_624 (gw_c GW_625 (gw_c GW_626 (gw_c GW_627 (gw_c GW_628 (gw_c GW_629 (gw_c GW_630 (gw_n)))))))))))))))))))))))
theorem GL_wsX11_least : GoodIn lw_tbl wsX11_least := gw_c GW_561 (gw_a (gw_a (gw_a (gw_a (gw_a (gw_a (GL_wsX11_least_r1) (gw_a (GL_wsX11_least_r2) (gw_a (GL_wsX11_least_r3) (gw_a (GL_wsX11_least_r4) (GL_wsX11_least_r5))))) (GL_wsX110)) (GL_wsX90)) (GL_wsX80)) (GL_wsX40)) (GL_wsX20))
set_option maxRecDepth 100000 in
theorem GW_558 : GWd (Cond.methodLink RL 59 yX11_least) := ⟨lwm_3 (List.mem_of_getElem? (i := 18) rfl), good_of_word (by decide +kernel)⟩
set_option maxRecDepth 100000 in
theorem GW_559 : GWd (Cond.instanceMethod yX11_least) := ⟨lwm_3 (List.mem_of_getElem? (i := 19) rfl), good_of_word (by decide +kernel)⟩
set_option maxRecDepth 100000 in
theorem GW_560 : GWd (Cond.selects RX11 yX11_least yX11_least) := ⟨lwm_3 (List.mem_of_getElem? (i := 20) rfl), good_of_word (by decide +kernel)⟩
set_option maxRecDepth 100000 in
theorem GW_634 : GWd (Cond.code yX11_many cX11_many 1 (some .long)) := ⟨lwm_3 (List.mem_of_getElem? (i := 94) rfl), good_of_word (by decide +kernel)⟩
theorem GL_wsX11_many_r1 : GoodIn lw_tbl wsX11_many_r1 := gw_c GW_423 (gw_c GW_562 (gw_c GW_563 (gw_c GW_564 (gw_c GW_66 (gw_c GW_565 (gw_c GW_271 (gw_c GW_272 (gw_c GW_270 (gw_c GW_182 (gw_c GW_276 (gw_c GW_129 (gw_c GW_277 (gw_c GW_566 (gw_c GW_567 (gw_c GW_568 (gw_c GW_67 (gw_c GW_569 (gw_c GW_244 (gw_c GW_245 (gw_c GW_181 (gw_c GW_187 (gw_c GW_248 (gw_c GW_249 (gw_n))))))))))))))))))))))))
theorem GL_wsX11_many_r2 : GoodIn lw_tbl wsX11_many_r2 := gw_c GW_205 (gw_c GW_250 (gw_c GW_251 (gw_c GW_209 (gw_c GW_246 (gw_c GW_247 (gw_c GW_570 (gw_c GW_571 (gw_c GW_572 (gw_c GW_65 (gw_c GW_573 (gw_c GW_180 (gw_c GW_179 (gw_c GW_95 (gw_c GW_186 (gw_c GW_197 (gw_c GW_192 (gw_c GW_200 (gw_c GW_98 (gw_c GW_204 (gw_c GW_207 (gw_c GW_574 (gw_c GW_533 (gw_c GW_534 (gw_n))))))))))))))))))))))))
theorem GL_wsX11_many_r3 : GoodIn lw_tbl wsX11_many_r3 := gw_c GW_62 (gw_c GW_535 (gw_c GW_97 (gw_c GW_104 (gw_c GW_536 (gw_c GW_488 (gw_c GW_489 (gw_c GW_490 (gw_c GW_92 (gw_c GW_575 (gw_c GW_577 (gw_c GW_1 (gw_c GW_578 (gw_c GW_210 (gw_c GW_112 (gw_c GW_579 (gw_c GW_581 (gw_c GW_2 (gw_c GW_582 (gw_c GW_202 (gw_c GW_103 (gw_c GW_583 (gw_c GW_584 (gw_c GW_585 (gw_n))))))))))))))))))))))))
theorem GL_wsX11_many_r4 : GoodIn lw_tbl wsX11_many_r4 := gw_c GW_586 (gw_c GW_100 (gw_c GW_587 (gw_c GW_588 (gw_c GW_589 (gw_c GW_590 (gw_c GW_591 (gw_c GW_592 (gw_c GW_593 (gw_c GW_594 (gw_c GW_595 (gw_c GW_596 (gw_c GW_597 (gw_c GW_598 (gw_c GW_599 (gw_c GW_600 (gw_c GW_601 (gw_c GW_602 (gw_c GW_604 (gw_c GW_3 (gw_c GW_605 (gw_c GW_606 (gw_c GW_607 (gw_c GW_608 (gw_n))))))))))))))))))))))))
set_option maxRecDepth 100000 in
theorem GW_638 : GWd (Cond.code yX9_howMany cX9_howMany 1 (some .long)) := ⟨lwm_3 (List.mem_of_getElem? (i := 98) rfl), good_of_word (by decide +kernel)⟩
set_option maxRecDepth 100000 in
theorem GW_637 : GWd (Cond.selects RX9 yX9_howMany yX9_howMany) := ⟨lwm_3 (List.mem_of_getElem? (i := 97) rfl), good_of_word (by decide +kernel)⟩
set_option maxRecDepth 100000 in
theorem GW_636 : GWd (Cond.instanceMethod yX9_howMany) := ⟨lwm_3 (List.mem_of_getElem? (i := 96) rfl), good_of_word (by decide +kernel)⟩
set_option maxRecDepth 100000 in
theorem GW_635 : GWd (Cond.methodLink RX11 159 yX9_howMany) := ⟨lwm_3 (List.mem_of_getElem? (i := 95) rfl), good_of_word (by decide +kernel)⟩
theorem GL_wsX11_many_r5 : GoodIn lw_tbl wsX11_many_r5 := gw_c GW_609 (gw_c GW_610 (gw_c GW_611 (gw_c GW_612 (gw_c GW_613 (gw_c GW_614 (gw_c GW_616 (gw_c GW_4 (gw_c GW_617 (gw_c GW_618 (gw_c GW_619 (gw_c GW_620 (gw_c GW_621 (gw_c GW_622 (gw_c GW_635 (gw_c GW_636 (gw_c GW_637 (gw_c GW_638 (gw_n))))))))))))))))))
theorem GL_wsX11_many : GoodIn lw_tbl wsX11_many := gw_c GW_634 (gw_a (gw_a (gw_a (gw_a (gw_a (gw_a (GL_wsX11_many_r1) (gw_a (GL_wsX11_many_r2) (gw_a (GL_wsX11_many_r3) (gw_a (GL_wsX11_many_r4) (GL_wsX11_many_r5))))) (GL_wsX110)) (GL_wsX90)) (GL_wsX80)) (GL_wsX40)) (GL_wsX20))
set_option maxRecDepth 100000 in
theorem GW_631 : GWd (Cond.methodLink RL 63 yX11_many) := ⟨lwm_3 (List.mem_of_getElem? (i := 91) rfl), good_of_word (by decide +kernel)⟩
set_option maxRecDepth 100000 in
theorem GW_632 : GWd (Cond.instanceMethod yX11_many) := ⟨lwm_3 (List.mem_of_getElem? (i := 92) rfl), good_of_word (by decide +kernel)⟩
set_option maxRecDepth 100000 in
theorem GW_633 : GWd (Cond.selects RX11 yX11_many yX11_many) := ⟨lwm_3 (List.mem_of_getElem? (i := 93) rfl), good_of_word (by decide +kernel)⟩
set_option maxRecDepth 100000 in
theorem GW_642 : GWd (Cond.code yX11_best cX11_best 3 (some .long)) := ⟨lwm_3 (List.mem_of_getElem? (i := 102) rfl), good_of_word (by decide +kernel)⟩
set_option maxRecDepth 100000 in
theorem GW_313 : GWd (Cond.fieldLink RX11 166 "PeckYard$Hand" "size" "I") := ⟨lwm_2 (List.mem_of_getElem? (i := 13) rfl), good_of_word (by decide +kernel)⟩
theorem GL_wsX11_best_r1 : GoodIn lw_tbl wsX11_best_r1 := gw_c GW_462 (gw_c GW_423 (gw_c GW_537 (gw_c GW_424 (gw_c GW_313 (gw_c GW_562 (gw_c GW_563 (gw_c GW_564 (gw_c GW_66 (gw_c GW_565 (gw_c GW_271 (gw_c GW_272 (gw_c GW_270 (gw_c GW_182 (gw_c GW_276 (gw_c GW_129 (gw_c GW_277 (gw_c GW_566 (gw_c GW_567 (gw_c GW_568 (gw_c GW_67 (gw_c GW_569 (gw_c GW_244 (gw_c GW_245 (gw_n))))))))))))))))))))))))
theorem GL_wsX11_best_r2 : GoodIn lw_tbl wsX11_best_r2 := gw_c GW_181 (gw_c GW_187 (gw_c GW_248 (gw_c GW_249 (gw_c GW_205 (gw_c GW_250 (gw_c GW_251 (gw_c GW_209 (gw_c GW_246 (gw_c GW_247 (gw_c GW_570 (gw_c GW_571 (gw_c GW_572 (gw_c GW_65 (gw_c GW_573 (gw_c GW_180 (gw_c GW_179 (gw_c GW_95 (gw_c GW_186 (gw_c GW_197 (gw_c GW_192 (gw_c GW_200 (gw_c GW_98 (gw_c GW_204 (gw_n))))))))))))))))))))))))
theorem GL_wsX11_best_r3 : GoodIn lw_tbl wsX11_best_r3 := gw_c GW_207 (gw_c GW_574 (gw_c GW_533 (gw_c GW_534 (gw_c GW_62 (gw_c GW_535 (gw_c GW_97 (gw_c GW_104 (gw_c GW_536 (gw_c GW_488 (gw_c GW_489 (gw_c GW_490 (gw_c GW_92 (gw_c GW_575 (gw_c GW_577 (gw_c GW_1 (gw_c GW_578 (gw_c GW_210 (gw_c GW_112 (gw_c GW_579 (gw_c GW_581 (gw_c GW_2 (gw_c GW_582 (gw_c GW_202 (gw_n))))))))))))))))))))))))
theorem GL_wsX11_best_r4 : GoodIn lw_tbl wsX11_best_r4 := gw_c GW_103 (gw_c GW_583 (gw_c GW_584 (gw_c GW_585 (gw_c GW_586 (gw_c GW_100 (gw_c GW_587 (gw_c GW_588 (gw_c GW_589 (gw_c GW_590 (gw_c GW_591 (gw_c GW_592 (gw_c GW_593 (gw_c GW_594 (gw_c GW_595 (gw_c GW_596 (gw_c GW_597 (gw_c GW_598 (gw_c GW_599 (gw_c GW_600 (gw_c GW_601 (gw_c GW_602 (gw_c GW_604 (gw_c GW_3 (gw_n))))))))))))))))))))))))
set_option maxRecDepth 100000 in
theorem GW_644 : GWd (Cond.instanceMethod yX9_bringInHand) := ⟨lwm_3 (List.mem_of_getElem? (i := 104) rfl), good_of_word (by decide +kernel)⟩
set_option maxRecDepth 100000 in
theorem GW_643 : GWd (Cond.methodLink RX11 162 yX9_bringInHand) := ⟨lwm_3 (List.mem_of_getElem? (i := 103) rfl), good_of_word (by decide +kernel)⟩
theorem GL_wsX11_best_r5 : GoodIn lw_tbl wsX11_best_r5 := gw_c GW_605 (gw_c GW_606 (gw_c GW_607 (gw_c GW_608 (gw_c GW_609 (gw_c GW_610 (gw_c GW_611 (gw_c GW_612 (gw_c GW_613 (gw_c GW_614 (gw_c GW_616 (gw_c GW_4 (gw_c GW_617 (gw_c GW_618 (gw_c GW_619 (gw_c GW_620 (gw_c GW_621 (gw_c GW_622 (gw_c GW_635 (gw_c GW_636 (gw_c GW_637 (gw_c GW_638 (gw_c GW_643 (gw_c GW_644 (gw_n))))))))))))))))))))))))
set_option maxRecDepth 100000 in
theorem GW_310 : GWd (Cond.fieldLink RX5 15 "PeckYard$Hand" "size" "I") := ⟨lwm_2 (List.mem_of_getElem? (i := 10) rfl), good_of_word (by decide +kernel)⟩
set_option maxRecDepth 100000 in
theorem GW_657 : GWd (Cond.code yX5_append cX5_append 2 none) := ⟨lwm_3 (List.mem_of_getElem? (i := 117) rfl), good_of_word (by decide +kernel)⟩
set_option maxRecDepth 100000 in
theorem GW_656 : GWd (Cond.selects RX5 yX5_append yX5_append) := ⟨lwm_3 (List.mem_of_getElem? (i := 116) rfl), good_of_word (by decide +kernel)⟩
set_option maxRecDepth 100000 in
theorem GW_655 : GWd (Cond.instanceMethod yX5_append) := ⟨lwm_3 (List.mem_of_getElem? (i := 115) rfl), good_of_word (by decide +kernel)⟩
set_option maxRecDepth 100000 in
theorem GW_654 : GWd (Cond.methodLink RX9 98 yX5_append) := ⟨lwm_3 (List.mem_of_getElem? (i := 114) rfl), good_of_word (by decide +kernel)⟩
set_option maxRecDepth 100000 in
theorem GW_653 : GWd (Cond.code yX11_isIn cX11_isIn 2 (some .boolean)) := ⟨lwm_3 (List.mem_of_getElem? (i := 113) rfl), good_of_word (by decide +kernel)⟩
set_option maxRecDepth 100000 in
theorem GW_652 : GWd (Cond.static yX11_isIn) := ⟨lwm_3 (List.mem_of_getElem? (i := 112) rfl), good_of_word (by decide +kernel)⟩
set_option maxRecDepth 100000 in
theorem GW_650 : GWd (Cond.code yX9_bestChoices cX9_bestChoices 5 (some .int)) := ⟨lwm_3 (List.mem_of_getElem? (i := 110) rfl), good_of_word (by decide +kernel)⟩
set_option maxRecDepth 100000 in
theorem GW_5 : GWd (Cond.selects RX9 yX9_bestChoices yX9_bestChoices) := ⟨List.mem_of_getElem? (i := 5) rfl, good_of_word (by decide +kernel)⟩
set_option maxRecDepth 100000 in
theorem GW_649 : GWd (Cond.instanceMethod yX9_bestChoices) := ⟨lwm_3 (List.mem_of_getElem? (i := 109) rfl), good_of_word (by decide +kernel)⟩
set_option maxRecDepth 100000 in
theorem GW_647 : GWd (Cond.methodLink RX9 92 yX9_bestChoices) := ⟨lwm_3 (List.mem_of_getElem? (i := 107) rfl), good_of_word (by decide +kernel)⟩
set_option maxRecDepth 100000 in
theorem GW_195 : GWd (Cond.fieldLink RX9 95 "PeckYard$Muster" "hens" "[I") := ⟨lwm_1 (List.mem_of_getElem? (i := 135) rfl), good_of_word (by decide +kernel)⟩
set_option maxRecDepth 100000 in
theorem GW_190 : GWd (Cond.fieldLink RX9 82 "PeckYard$Muster" "size" "I") := ⟨lwm_1 (List.mem_of_getElem? (i := 130) rfl), good_of_word (by decide +kernel)⟩
set_option maxRecDepth 100000 in
theorem GW_312 : GWd (Cond.fieldLink RX9 89 "PeckYard$Hand" "size" "I") := ⟨lwm_2 (List.mem_of_getElem? (i := 12) rfl), good_of_word (by decide +kernel)⟩
set_option maxRecDepth 100000 in
theorem GW_646 : GWd (Cond.code yX9_bringInHand cX9_bringInHand 12 none) := ⟨lwm_3 (List.mem_of_getElem? (i := 106) rfl), good_of_word (by decide +kernel)⟩
set_option maxRecDepth 100000 in
theorem GW_645 : GWd (Cond.selects RX9 yX9_bringInHand yX9_bringInHand) := ⟨lwm_3 (List.mem_of_getElem? (i := 105) rfl), good_of_word (by decide +kernel)⟩
theorem GL_wsX11_best_r6 : GoodIn lw_tbl wsX11_best_r6 := gw_c GW_645 (gw_c GW_646 (gw_c GW_312 (gw_c GW_190 (gw_c GW_195 (gw_c GW_647 (gw_c GW_649 (gw_c GW_5 (gw_c GW_650 (gw_c GW_652 (gw_c GW_61 (gw_c GW_653 (gw_c GW_654 (gw_c GW_655 (gw_c GW_656 (gw_c GW_68 (gw_c GW_657 (gw_c GW_310 (gw_c GW_314 (gw_n)))))))))))))))))))
theorem GL_wsX11_best : GoodIn lw_tbl wsX11_best := gw_c GW_642 (gw_a (gw_a (gw_a (gw_a (gw_a (gw_a (gw_a (GL_wsX11_best_r1) (gw_a (GL_wsX11_best_r2) (gw_a (GL_wsX11_best_r3) (gw_a (GL_wsX11_best_r4) (gw_a (GL_wsX11_best_r5) (GL_wsX11_best_r6)))))) (GL_wsX110)) (GL_wsX50)) (GL_wsX90)) (GL_wsX80)) (GL_wsX40)) (GL_wsX20))
set_option maxRecDepth 100000 in
theorem GW_639 : GWd (Cond.methodLink RL 67 yX11_best) := ⟨lwm_3 (List.mem_of_getElem? (i := 99) rfl), good_of_word (by decide +kernel)⟩
set_option maxRecDepth 100000 in
theorem GW_640 : GWd (Cond.instanceMethod yX11_best) := ⟨lwm_3 (List.mem_of_getElem? (i := 100) rfl), good_of_word (by decide +kernel)⟩
set_option maxRecDepth 100000 in
theorem GW_641 : GWd (Cond.selects RX11 yX11_best yX11_best) := ⟨lwm_3 (List.mem_of_getElem? (i := 101) rfl), good_of_word (by decide +kernel)⟩
set_option maxRecDepth 100000 in
theorem GW_661 : GWd (Cond.code yX11_number cX11_number 1 (some .long)) := ⟨lwm_3 (List.mem_of_getElem? (i := 121) rfl), good_of_word (by decide +kernel)⟩
set_option maxRecDepth 100000 in
theorem GW_666 : GWd (Cond.methodLink RX7 25 yX8_gather) := ⟨lwm_3 (List.mem_of_getElem? (i := 126) rfl), good_of_word (by decide +kernel)⟩
set_option maxRecDepth 100000 in
theorem GW_315 : GWd (Cond.fieldLink RX7 40 "PeckYard$Hand" "hens" "[I") := ⟨lwm_2 (List.mem_of_getElem? (i := 15) rfl), good_of_word (by decide +kernel)⟩
set_option maxRecDepth 100000 in
theorem GW_198 : GWd (Cond.fieldLink RX7 37 "PeckYard$Muster" "slotOf" "[I") := ⟨lwm_1 (List.mem_of_getElem? (i := 138) rfl), good_of_word (by decide +kernel)⟩
set_option maxRecDepth 100000 in
theorem GW_185 : GWd (Cond.fieldLink RX7 36 "PeckYard$Muster" "size" "I") := ⟨lwm_1 (List.mem_of_getElem? (i := 125) rfl), good_of_word (by decide +kernel)⟩
set_option maxRecDepth 100000 in
theorem GW_311 : GWd (Cond.fieldLink RX7 30 "PeckYard$Hand" "size" "I") := ⟨lwm_2 (List.mem_of_getElem? (i := 11) rfl), good_of_word (by decide +kernel)⟩
set_option maxRecDepth 100000 in
theorem GW_665 : GWd (Cond.code yX7_readFrom cX7_readFrom 4 (some .boolean)) := ⟨lwm_3 (List.mem_of_getElem? (i := 125) rfl), good_of_word (by decide +kernel)⟩
set_option maxRecDepth 100000 in
theorem GW_664 : GWd (Cond.selects RX7 yX7_readFrom yX7_readFrom) := ⟨lwm_3 (List.mem_of_getElem? (i := 124) rfl), good_of_word (by decide +kernel)⟩
set_option maxRecDepth 100000 in
theorem GW_663 : GWd (Cond.instanceMethod yX7_readFrom) := ⟨lwm_3 (List.mem_of_getElem? (i := 123) rfl), good_of_word (by decide +kernel)⟩
set_option maxRecDepth 100000 in
theorem GW_662 : GWd (Cond.methodLink RX11 167 yX7_readFrom) := ⟨lwm_3 (List.mem_of_getElem? (i := 122) rfl), good_of_word (by decide +kernel)⟩
set_option maxRecDepth 100000 in
theorem GW_330 : GWd (Cond.fieldLink RX11 171 "PeckYard$Line" "row" "[I") := ⟨lwm_2 (List.mem_of_getElem? (i := 30) rfl), good_of_word (by decide +kernel)⟩
theorem GL_wsX11_number_r1 : GoodIn lw_tbl wsX11_number_r1 := gw_c GW_425 (gw_c GW_424 (gw_c GW_506 (gw_c GW_423 (gw_c GW_330 (gw_c GW_662 (gw_c GW_663 (gw_c GW_664 (gw_c GW_69 (gw_c GW_665 (gw_c GW_328 (gw_c GW_311 (gw_c GW_185 (gw_c GW_198 (gw_c GW_315 (gw_c GW_329 (gw_c GW_331 (gw_c GW_666 (gw_c GW_571 (gw_c GW_572 (gw_c GW_65 (gw_c GW_573 (gw_c GW_180 (gw_c GW_179 (gw_n))))))))))))))))))))))))
theorem GL_wsX11_number_r2 : GoodIn lw_tbl wsX11_number_r2 := gw_c GW_95 (gw_c GW_186 (gw_c GW_197 (gw_c GW_192 (gw_c GW_200 (gw_c GW_98 (gw_c GW_204 (gw_c GW_207 (gw_c GW_574 (gw_c GW_533 (gw_c GW_534 (gw_c GW_62 (gw_c GW_535 (gw_c GW_97 (gw_c GW_104 (gw_c GW_536 (gw_c GW_488 (gw_c GW_489 (gw_c GW_490 (gw_c GW_92 (gw_c GW_575 (gw_c GW_577 (gw_c GW_1 (gw_c GW_578 (gw_n))))))))))))))))))))))))
theorem GL_wsX11_number_r3 : GoodIn lw_tbl wsX11_number_r3 := gw_c GW_210 (gw_c GW_112 (gw_c GW_579 (gw_c GW_581 (gw_c GW_2 (gw_c GW_582 (gw_c GW_202 (gw_c GW_103 (gw_c GW_583 (gw_c GW_584 (gw_c GW_585 (gw_c GW_586 (gw_c GW_100 (gw_c GW_587 (gw_c GW_562 (gw_c GW_563 (gw_c GW_564 (gw_c GW_66 (gw_c GW_565 (gw_c GW_271 (gw_c GW_272 (gw_c GW_270 (gw_c GW_182 (gw_c GW_276 (gw_n))))))))))))))))))))))))
theorem GL_wsX11_number_r4 : GoodIn lw_tbl wsX11_number_r4 := gw_c GW_129 (gw_c GW_277 (gw_c GW_566 (gw_c GW_567 (gw_c GW_568 (gw_c GW_67 (gw_c GW_569 (gw_c GW_244 (gw_c GW_245 (gw_c GW_181 (gw_c GW_187 (gw_c GW_248 (gw_c GW_249 (gw_c GW_205 (gw_c GW_250 (gw_c GW_251 (gw_c GW_209 (gw_c GW_246 (gw_c GW_247 (gw_c GW_570 (gw_c GW_588 (gw_c GW_589 (gw_c GW_590 (gw_c GW_591 (gw_n))))))))))))))))))))))))
theorem GL_wsX11_number_r5 : GoodIn lw_tbl wsX11_number_r5 := gw_c GW_592 (gw_c GW_593 (gw_c GW_594 (gw_c GW_595 (gw_c GW_596 (gw_c GW_597 (gw_c GW_598 (gw_c GW_599 (gw_c GW_600 (gw_c GW_601 (gw_c GW_602 (gw_c GW_604 (gw_c GW_3 (gw_c GW_605 (gw_c GW_606 (gw_c GW_607 (gw_c GW_608 (gw_c GW_609 (gw_c GW_610 (gw_c GW_611 (gw_c GW_612 (gw_c GW_613 (gw_c GW_614 (gw_c GW_616 (gw_n))))))))))))))))))))))))
set_option maxRecDepth 100000 in
theorem GW_671 : GWd (Cond.methodLink RX9 102 yX9_hasLawful) := ⟨lwm_3 (List.mem_of_getElem? (i := 131) rfl), good_of_word (by decide +kernel)⟩
set_option maxRecDepth 100000 in
theorem GW_672 : GWd (Cond.constantLong RX9 106 (-2000000005)) := ⟨lwm_3 (List.mem_of_getElem? (i := 132) rfl), good_of_word (by decide +kernel)⟩
set_option maxRecDepth 100000 in
theorem GW_670 : GWd (Cond.code yX9_numberOf cX9_numberOf 9 (some .long)) := ⟨lwm_3 (List.mem_of_getElem? (i := 130) rfl), good_of_word (by decide +kernel)⟩
set_option maxRecDepth 100000 in
theorem GW_669 : GWd (Cond.selects RX9 yX9_numberOf yX9_numberOf) := ⟨lwm_3 (List.mem_of_getElem? (i := 129) rfl), good_of_word (by decide +kernel)⟩
set_option maxRecDepth 100000 in
theorem GW_668 : GWd (Cond.instanceMethod yX9_numberOf) := ⟨lwm_3 (List.mem_of_getElem? (i := 128) rfl), good_of_word (by decide +kernel)⟩
set_option maxRecDepth 100000 in
theorem GW_667 : GWd (Cond.methodLink RX11 174 yX9_numberOf) := ⟨lwm_3 (List.mem_of_getElem? (i := 127) rfl), good_of_word (by decide +kernel)⟩
theorem GL_wsX11_number_r6 : GoodIn lw_tbl wsX11_number_r6 := gw_c GW_4 (gw_c GW_617 (gw_c GW_618 (gw_c GW_619 (gw_c GW_620 (gw_c GW_621 (gw_c GW_622 (gw_c GW_667 (gw_c GW_668 (gw_c GW_669 (gw_c GW_670 (gw_c GW_672 (gw_c GW_190 (gw_c GW_671 (gw_c GW_624 (gw_c GW_625 (gw_c GW_626 (gw_c GW_647 (gw_c GW_649 (gw_c GW_5 (gw_c GW_650 (gw_c GW_652 (gw_c GW_61 (gw_c GW_653 (gw_n))))))))))))))))))))))))
theorem GL_wsX11_number : GoodIn lw_tbl wsX11_number := gw_c GW_661 (gw_a (gw_a (gw_a (gw_a (gw_a (gw_a (gw_a (gw_a (GL_wsX11_number_r1) (gw_a (GL_wsX11_number_r2) (gw_a (GL_wsX11_number_r3) (gw_a (GL_wsX11_number_r4) (gw_a (GL_wsX11_number_r5) (GL_wsX11_number_r6)))))) (GL_wsX110)) (GL_wsX70)) (GL_wsX50)) (GL_wsX80)) (GL_wsX20)) (GL_wsX90)) (GL_wsX40))
set_option maxRecDepth 100000 in
theorem GW_658 : GWd (Cond.methodLink RL 72 yX11_number) := ⟨lwm_3 (List.mem_of_getElem? (i := 118) rfl), good_of_word (by decide +kernel)⟩
set_option maxRecDepth 100000 in
theorem GW_659 : GWd (Cond.instanceMethod yX11_number) := ⟨lwm_3 (List.mem_of_getElem? (i := 119) rfl), good_of_word (by decide +kernel)⟩
set_option maxRecDepth 100000 in
theorem GW_660 : GWd (Cond.selects RX11 yX11_number yX11_number) := ⟨lwm_3 (List.mem_of_getElem? (i := 120) rfl), good_of_word (by decide +kernel)⟩
set_option maxRecDepth 100000 in
theorem GW_676 : GWd (Cond.code yX11_sure cX11_sure 5 (some .long)) := ⟨lwm_3 (List.mem_of_getElem? (i := 136) rfl), good_of_word (by decide +kernel)⟩
set_option maxRecDepth 100000 in
theorem GW_691 : GWd (Cond.constantLong RX11 187 (2)) := ⟨lwm_3 (List.mem_of_getElem? (i := 151) rfl), good_of_word (by decide +kernel)⟩
set_option maxRecDepth 100000 in
theorem GW_199 : GWd (Cond.fieldLink RX11 181 "PeckYard$Muster" "slotOf" "[I") := ⟨lwm_1 (List.mem_of_getElem? (i := 139) rfl), good_of_word (by decide +kernel)⟩
theorem GL_wsX11_sure_r1 : GoodIn lw_tbl wsX11_sure_r1 := gw_c GW_420 (gw_c GW_462 (gw_c GW_423 (gw_c GW_537 (gw_c GW_422 (gw_c GW_199 (gw_c GW_691 (gw_c GW_532 (gw_c GW_533 (gw_c GW_534 (gw_c GW_62 (gw_c GW_535 (gw_c GW_97 (gw_c GW_104 (gw_c GW_536 (gw_c GW_488 (gw_c GW_489 (gw_c GW_490 (gw_c GW_92 (gw_c GW_562 (gw_c GW_563 (gw_c GW_564 (gw_c GW_66 (gw_c GW_565 (gw_n))))))))))))))))))))))))
theorem GL_wsX11_sure_r2 : GoodIn lw_tbl wsX11_sure_r2 := gw_c GW_271 (gw_c GW_272 (gw_c GW_270 (gw_c GW_182 (gw_c GW_276 (gw_c GW_129 (gw_c GW_277 (gw_c GW_566 (gw_c GW_567 (gw_c GW_568 (gw_c GW_67 (gw_c GW_569 (gw_c GW_244 (gw_c GW_245 (gw_c GW_181 (gw_c GW_187 (gw_c GW_248 (gw_c GW_249 (gw_c GW_205 (gw_c GW_250 (gw_c GW_251 (gw_c GW_209 (gw_c GW_246 (gw_c GW_247 (gw_n))))))))))))))))))))))))
theorem GL_wsX11_sure_r3 : GoodIn lw_tbl wsX11_sure_r3 := gw_c GW_570 (gw_c GW_571 (gw_c GW_572 (gw_c GW_65 (gw_c GW_573 (gw_c GW_180 (gw_c GW_179 (gw_c GW_95 (gw_c GW_186 (gw_c GW_197 (gw_c GW_192 (gw_c GW_200 (gw_c GW_98 (gw_c GW_204 (gw_c GW_207 (gw_c GW_574 (gw_c GW_575 (gw_c GW_577 (gw_c GW_1 (gw_c GW_578 (gw_c GW_210 (gw_c GW_112 (gw_c GW_579 (gw_c GW_581 (gw_n))))))))))))))))))))))))
theorem GL_wsX11_sure_r4 : GoodIn lw_tbl wsX11_sure_r4 := gw_c GW_2 (gw_c GW_582 (gw_c GW_202 (gw_c GW_103 (gw_c GW_583 (gw_c GW_584 (gw_c GW_585 (gw_c GW_586 (gw_c GW_100 (gw_c GW_587 (gw_c GW_588 (gw_c GW_589 (gw_c GW_590 (gw_c GW_591 (gw_c GW_592 (gw_c GW_593 (gw_c GW_594 (gw_c GW_595 (gw_c GW_596 (gw_c GW_597 (gw_c GW_598 (gw_c GW_599 (gw_c GW_600 (gw_c GW_601 (gw_n))))))))))))))))))))))))
theorem GL_wsX11_sure_r5 : GoodIn lw_tbl wsX11_sure_r5 := gw_c GW_602 (gw_c GW_604 (gw_c GW_3 (gw_c GW_605 (gw_c GW_606 (gw_c GW_607 (gw_c GW_608 (gw_c GW_609 (gw_c GW_610 (gw_c GW_611 (gw_c GW_612 (gw_c GW_613 (gw_c GW_614 (gw_c GW_616 (gw_c GW_4 (gw_c GW_617 (gw_c GW_618 (gw_c GW_619 (gw_c GW_620 (gw_c GW_621 (gw_c GW_622 (gw_c GW_623 (gw_c GW_624 (gw_c GW_625 (gw_n))))))))))))))))))))))))
set_option maxRecDepth 100000 in
theorem GW_686 : GWd (Cond.code yJ7_fill_53178 cJ7_fill_53178 4 none) := ⟨lwm_3 (List.mem_of_getElem? (i := 146) rfl), good_of_word (by decide +kernel)⟩
set_option maxRecDepth 100000 in
theorem GW_685 : GWd (Cond.static yJ7_fill_53178) := ⟨lwm_3 (List.mem_of_getElem? (i := 145) rfl), good_of_word (by decide +kernel)⟩
set_option maxRecDepth 100000 in
theorem GW_684 : GWd (Cond.methodLink RX9 114 yJ7_fill_53178) := ⟨lwm_3 (List.mem_of_getElem? (i := 144) rfl), good_of_word (by decide +kernel)⟩
set_option maxRecDepth 100000 in
theorem GW_683 : GWd (Cond.code yJ7_fill_031fb cJ7_fill_031fb 4 none) := ⟨lwm_3 (List.mem_of_getElem? (i := 143) rfl), good_of_word (by decide +kernel)⟩
set_option maxRecDepth 100000 in
theorem GW_76 : GWd (Cond.initialized RJ7) := ⟨lwm_1 (List.mem_of_getElem? (i := 16) rfl), good_of_word (by decide +kernel)⟩
set_option maxRecDepth 100000 in
theorem GW_682 : GWd (Cond.static yJ7_fill_031fb) := ⟨lwm_3 (List.mem_of_getElem? (i := 142) rfl), good_of_word (by decide +kernel)⟩
set_option maxRecDepth 100000 in
theorem GW_681 : GWd (Cond.methodLink RX9 108 yJ7_fill_031fb) := ⟨lwm_3 (List.mem_of_getElem? (i := 141) rfl), good_of_word (by decide +kernel)⟩
set_option maxRecDepth 100000 in
theorem GW_680 : GWd (Cond.code yX9_agree cX9_agree 6 none) := ⟨lwm_3 (List.mem_of_getElem? (i := 140) rfl), good_of_word (by decide +kernel)⟩
set_option maxRecDepth 100000 in
theorem GW_679 : GWd (Cond.selects RX9 yX9_agree yX9_agree) := ⟨lwm_3 (List.mem_of_getElem? (i := 139) rfl), good_of_word (by decide +kernel)⟩
set_option maxRecDepth 100000 in
theorem GW_678 : GWd (Cond.instanceMethod yX9_agree) := ⟨lwm_3 (List.mem_of_getElem? (i := 138) rfl), good_of_word (by decide +kernel)⟩
set_option maxRecDepth 100000 in
theorem GW_677 : GWd (Cond.methodLink RX11 178 yX9_agree) := ⟨lwm_3 (List.mem_of_getElem? (i := 137) rfl), good_of_word (by decide +kernel)⟩
theorem GL_wsX11_sure_r6 : GoodIn lw_tbl wsX11_sure_r6 := gw_c GW_626 (gw_c GW_677 (gw_c GW_678 (gw_c GW_679 (gw_c GW_680 (gw_c GW_273 (gw_c GW_279 (gw_c GW_269 (gw_c GW_280 (gw_c GW_190 (gw_c GW_681 (gw_c GW_682 (gw_c GW_76 (gw_c GW_683 (gw_c GW_684 (gw_c GW_685 (gw_c GW_686 (gw_c GW_647 (gw_c GW_649 (gw_c GW_5 (gw_c GW_650 (gw_c GW_652 (gw_c GW_61 (gw_c GW_653 (gw_n))))))))))))))))))))))))
set_option maxRecDepth 100000 in
theorem GW_690 : GWd (Cond.code yX9_mayStandAbove cX9_mayStandAbove 3 (some .boolean)) := ⟨lwm_3 (List.mem_of_getElem? (i := 150) rfl), good_of_word (by decide +kernel)⟩
set_option maxRecDepth 100000 in
theorem GW_689 : GWd (Cond.selects RX9 yX9_mayStandAbove yX9_mayStandAbove) := ⟨lwm_3 (List.mem_of_getElem? (i := 149) rfl), good_of_word (by decide +kernel)⟩
set_option maxRecDepth 100000 in
theorem GW_688 : GWd (Cond.instanceMethod yX9_mayStandAbove) := ⟨lwm_3 (List.mem_of_getElem? (i := 148) rfl), good_of_word (by decide +kernel)⟩
set_option maxRecDepth 100000 in
theorem GW_687 : GWd (Cond.methodLink RX11 184 yX9_mayStandAbove) := ⟨lwm_3 (List.mem_of_getElem? (i := 147) rfl), good_of_word (by decide +kernel)⟩
theorem GL_wsX11_sure_r7 : GoodIn lw_tbl wsX11_sure_r7 := gw_c GW_687 (gw_c GW_688 (gw_c GW_689 (gw_c GW_690 (gw_n))))
theorem GL_wsX11_sure : GoodIn lw_tbl wsX11_sure := gw_c GW_676 (gw_a (gw_a (gw_a (gw_a (gw_a (gw_a (GL_wsX11_sure_r1) (gw_a (GL_wsX11_sure_r2) (gw_a (GL_wsX11_sure_r3) (gw_a (GL_wsX11_sure_r4) (gw_a (GL_wsX11_sure_r5) (gw_a (GL_wsX11_sure_r6) (GL_wsX11_sure_r7))))))) (GL_wsX110)) (GL_wsX80)) (GL_wsX20)) (GL_wsX90)) (GL_wsX40))
set_option maxRecDepth 100000 in
theorem GW_673 : GWd (Cond.methodLink RL 76 yX11_sure) := ⟨lwm_3 (List.mem_of_getElem? (i := 133) rfl), good_of_word (by decide +kernel)⟩
set_option maxRecDepth 100000 in
theorem GW_674 : GWd (Cond.instanceMethod yX11_sure) := ⟨lwm_3 (List.mem_of_getElem? (i := 134) rfl), good_of_word (by decide +kernel)⟩
set_option maxRecDepth 100000 in
theorem GW_675 : GWd (Cond.selects RX11 yX11_sure yX11_sure) := ⟨lwm_3 (List.mem_of_getElem? (i := 135) rfl), good_of_word (by decide +kernel)⟩
set_option maxRecDepth 100000 in
theorem GW_695 : GWd (Cond.code yX11_why cX11_why 1 (some .long)) := ⟨lwm_3 (List.mem_of_getElem? (i := 155) rfl), good_of_word (by decide +kernel)⟩
set_option maxRecDepth 100000 in
theorem GW_700 : GWd (Cond.methodLink RX6 22 yX8_gather) := ⟨lwm_3 (List.mem_of_getElem? (i := 160) rfl), good_of_word (by decide +kernel)⟩
set_option maxRecDepth 100000 in
theorem GW_728 : GWd (Cond.constantLong RX6 50 (-2000000005)) := ⟨lwm_3 (List.mem_of_getElem? (i := 188) rfl), good_of_word (by decide +kernel)⟩
set_option maxRecDepth 100000 in
theorem GW_193 : GWd (Cond.fieldLink RX6 40 "PeckYard$Muster" "hens" "[I") := ⟨lwm_1 (List.mem_of_getElem? (i := 133) rfl), good_of_word (by decide +kernel)⟩
set_option maxRecDepth 100000 in
theorem GW_208 : GWd (Cond.fieldLink RX6 31 "PeckYard$Muster" "pairs" "[I") := ⟨lwm_1 (List.mem_of_getElem? (i := 148) rfl), good_of_word (by decide +kernel)⟩
set_option maxRecDepth 100000 in
theorem GW_184 : GWd (Cond.fieldLink RX6 27 "PeckYard$Muster" "size" "I") := ⟨lwm_1 (List.mem_of_getElem? (i := 124) rfl), good_of_word (by decide +kernel)⟩
set_option maxRecDepth 100000 in
theorem GW_699 : GWd (Cond.code yX6_reason cX6_reason 2 (some .long)) := ⟨lwm_3 (List.mem_of_getElem? (i := 159) rfl), good_of_word (by decide +kernel)⟩
set_option maxRecDepth 100000 in
theorem GW_698 : GWd (Cond.selects RX6 yX6_reason yX6_reason) := ⟨lwm_3 (List.mem_of_getElem? (i := 158) rfl), good_of_word (by decide +kernel)⟩
set_option maxRecDepth 100000 in
theorem GW_697 : GWd (Cond.instanceMethod yX6_reason) := ⟨lwm_3 (List.mem_of_getElem? (i := 157) rfl), good_of_word (by decide +kernel)⟩
set_option maxRecDepth 100000 in
theorem GW_696 : GWd (Cond.methodLink RX11 189 yX6_reason) := ⟨lwm_3 (List.mem_of_getElem? (i := 156) rfl), good_of_word (by decide +kernel)⟩
theorem GL_wsX11_why_r1 : GoodIn lw_tbl wsX11_why_r1 := gw_c GW_428 (gw_c GW_696 (gw_c GW_697 (gw_c GW_698 (gw_c GW_72 (gw_c GW_699 (gw_c GW_410 (gw_c GW_184 (gw_c GW_208 (gw_c GW_193 (gw_c GW_411 (gw_c GW_728 (gw_c GW_700 (gw_c GW_571 (gw_c GW_572 (gw_c GW_65 (gw_c GW_573 (gw_c GW_180 (gw_c GW_179 (gw_c GW_95 (gw_c GW_186 (gw_c GW_197 (gw_c GW_192 (gw_c GW_200 (gw_n))))))))))))))))))))))))
theorem GL_wsX11_why_r2 : GoodIn lw_tbl wsX11_why_r2 := gw_c GW_98 (gw_c GW_204 (gw_c GW_207 (gw_c GW_574 (gw_c GW_533 (gw_c GW_534 (gw_c GW_62 (gw_c GW_535 (gw_c GW_97 (gw_c GW_104 (gw_c GW_536 (gw_c GW_488 (gw_c GW_489 (gw_c GW_490 (gw_c GW_92 (gw_c GW_575 (gw_c GW_577 (gw_c GW_1 (gw_c GW_578 (gw_c GW_210 (gw_c GW_112 (gw_c GW_579 (gw_c GW_581 (gw_c GW_2 (gw_n))))))))))))))))))))))))
set_option maxRecDepth 100000 in
theorem GW_713 : GWd (Cond.instanceMethod yX6_blockOf) := ⟨lwm_3 (List.mem_of_getElem? (i := 173) rfl), good_of_word (by decide +kernel)⟩
set_option maxRecDepth 100000 in
theorem GW_711 : GWd (Cond.methodLink RX6 55 yX6_blockOf) := ⟨lwm_3 (List.mem_of_getElem? (i := 171) rfl), good_of_word (by decide +kernel)⟩
set_option maxRecDepth 100000 in
theorem GW_206 : GWd (Cond.fieldLink RX6 52 "PeckYard$Muster" "below" "[I") := ⟨lwm_1 (List.mem_of_getElem? (i := 146) rfl), good_of_word (by decide +kernel)⟩
set_option maxRecDepth 100000 in
theorem GW_710 : GWd (Cond.code yX6_followAsking cX6_followAsking 4 none) := ⟨lwm_3 (List.mem_of_getElem? (i := 170) rfl), good_of_word (by decide +kernel)⟩
set_option maxRecDepth 100000 in
theorem GW_6 : GWd (Cond.selects RX6 yX6_followAsking yX6_followAsking) := ⟨List.mem_of_getElem? (i := 6) rfl, good_of_word (by decide +kernel)⟩
set_option maxRecDepth 100000 in
theorem GW_709 : GWd (Cond.instanceMethod yX6_followAsking) := ⟨lwm_3 (List.mem_of_getElem? (i := 169) rfl), good_of_word (by decide +kernel)⟩
set_option maxRecDepth 100000 in
theorem GW_707 : GWd (Cond.methodLink RX6 43 yX6_followAsking) := ⟨lwm_3 (List.mem_of_getElem? (i := 167) rfl), good_of_word (by decide +kernel)⟩
set_option maxRecDepth 100000 in
theorem GW_706 : GWd (Cond.constant RJ6 267 (252645135)) := ⟨lwm_3 (List.mem_of_getElem? (i := 166) rfl), good_of_word (by decide +kernel)⟩
set_option maxRecDepth 100000 in
theorem GW_705 : GWd (Cond.constant RJ6 266 (858993459)) := ⟨lwm_3 (List.mem_of_getElem? (i := 165) rfl), good_of_word (by decide +kernel)⟩
set_option maxRecDepth 100000 in
theorem GW_704 : GWd (Cond.constant RJ6 265 (1431655765)) := ⟨lwm_3 (List.mem_of_getElem? (i := 164) rfl), good_of_word (by decide +kernel)⟩
set_option maxRecDepth 100000 in
theorem GW_703 : GWd (Cond.code yJ6_bitCount_0f7a4 cJ6_bitCount_0f7a4 1 (some .int)) := ⟨lwm_3 (List.mem_of_getElem? (i := 163) rfl), good_of_word (by decide +kernel)⟩
set_option maxRecDepth 100000 in
theorem GW_77 : GWd (Cond.initialized RJ6) := ⟨lwm_1 (List.mem_of_getElem? (i := 17) rfl), good_of_word (by decide +kernel)⟩
set_option maxRecDepth 100000 in
theorem GW_702 : GWd (Cond.static yJ6_bitCount_0f7a4) := ⟨lwm_3 (List.mem_of_getElem? (i := 162) rfl), good_of_word (by decide +kernel)⟩
set_option maxRecDepth 100000 in
theorem GW_701 : GWd (Cond.methodLink RX6 34 yJ6_bitCount_0f7a4) := ⟨lwm_3 (List.mem_of_getElem? (i := 161) rfl), good_of_word (by decide +kernel)⟩
theorem GL_wsX11_why_r3 : GoodIn lw_tbl wsX11_why_r3 := gw_c GW_582 (gw_c GW_202 (gw_c GW_103 (gw_c GW_583 (gw_c GW_584 (gw_c GW_585 (gw_c GW_586 (gw_c GW_100 (gw_c GW_587 (gw_c GW_701 (gw_c GW_702 (gw_c GW_77 (gw_c GW_703 (gw_c GW_704 (gw_c GW_705 (gw_c GW_706 (gw_c GW_707 (gw_c GW_709 (gw_c GW_6 (gw_c GW_710 (gw_c GW_206 (gw_c GW_412 (gw_c GW_711 (gw_c GW_713 (gw_n))))))))))))))))))))))))
set_option maxRecDepth 100000 in
theorem GW_727 : GWd (Cond.code yX6_leadAsBlock cX6_leadAsBlock 5 (some .boolean)) := ⟨lwm_3 (List.mem_of_getElem? (i := 187) rfl), good_of_word (by decide +kernel)⟩
set_option maxRecDepth 100000 in
theorem GW_10 : GWd (Cond.selects RX6 yX6_leadAsBlock yX6_leadAsBlock) := ⟨List.mem_of_getElem? (i := 10) rfl, good_of_word (by decide +kernel)⟩
set_option maxRecDepth 100000 in
theorem GW_726 : GWd (Cond.instanceMethod yX6_leadAsBlock) := ⟨lwm_3 (List.mem_of_getElem? (i := 186) rfl), good_of_word (by decide +kernel)⟩
set_option maxRecDepth 100000 in
theorem GW_724 : GWd (Cond.methodLink RX6 62 yX6_leadAsBlock) := ⟨lwm_3 (List.mem_of_getElem? (i := 184) rfl), good_of_word (by decide +kernel)⟩
set_option maxRecDepth 100000 in
theorem GW_723 : GWd (Cond.code yX6_addLeads cX6_addLeads 4 (some .boolean)) := ⟨lwm_3 (List.mem_of_getElem? (i := 183) rfl), good_of_word (by decide +kernel)⟩
set_option maxRecDepth 100000 in
theorem GW_9 : GWd (Cond.selects RX6 yX6_addLeads yX6_addLeads) := ⟨List.mem_of_getElem? (i := 9) rfl, good_of_word (by decide +kernel)⟩
set_option maxRecDepth 100000 in
theorem GW_722 : GWd (Cond.instanceMethod yX6_addLeads) := ⟨lwm_3 (List.mem_of_getElem? (i := 182) rfl), good_of_word (by decide +kernel)⟩
set_option maxRecDepth 100000 in
theorem GW_720 : GWd (Cond.methodLink RX6 65 yX6_addLeads) := ⟨lwm_3 (List.mem_of_getElem? (i := 180) rfl), good_of_word (by decide +kernel)⟩
set_option maxRecDepth 100000 in
theorem GW_719 : GWd (Cond.code yX6_leadOn cX6_leadOn 4 (some .boolean)) := ⟨lwm_3 (List.mem_of_getElem? (i := 179) rfl), good_of_word (by decide +kernel)⟩
set_option maxRecDepth 100000 in
theorem GW_8 : GWd (Cond.selects RX6 yX6_leadOn yX6_leadOn) := ⟨List.mem_of_getElem? (i := 8) rfl, good_of_word (by decide +kernel)⟩
set_option maxRecDepth 100000 in
theorem GW_718 : GWd (Cond.instanceMethod yX6_leadOn) := ⟨lwm_3 (List.mem_of_getElem? (i := 178) rfl), good_of_word (by decide +kernel)⟩
set_option maxRecDepth 100000 in
theorem GW_716 : GWd (Cond.methodLink RX6 58 yX6_leadOn) := ⟨lwm_3 (List.mem_of_getElem? (i := 176) rfl), good_of_word (by decide +kernel)⟩
set_option maxRecDepth 100000 in
theorem GW_714 : GWd (Cond.code yX6_blockOf cX6_blockOf 5 (some .int)) := ⟨lwm_3 (List.mem_of_getElem? (i := 174) rfl), good_of_word (by decide +kernel)⟩
set_option maxRecDepth 100000 in
theorem GW_7 : GWd (Cond.selects RX6 yX6_blockOf yX6_blockOf) := ⟨List.mem_of_getElem? (i := 7) rfl, good_of_word (by decide +kernel)⟩
theorem GL_wsX11_why_r4 : GoodIn lw_tbl wsX11_why_r4 := gw_c GW_7 (gw_c GW_714 (gw_c GW_652 (gw_c GW_61 (gw_c GW_653 (gw_c GW_716 (gw_c GW_718 (gw_c GW_8 (gw_c GW_719 (gw_c GW_720 (gw_c GW_722 (gw_c GW_9 (gw_c GW_723 (gw_c GW_724 (gw_c GW_726 (gw_c GW_10 (gw_c GW_727 (gw_n)))))))))))))))))
theorem GL_wsX11_why : GoodIn lw_tbl wsX11_why := gw_c GW_695 (gw_a (gw_a (gw_a (gw_a (gw_a (GL_wsX11_why_r1) (gw_a (GL_wsX11_why_r2) (gw_a (GL_wsX11_why_r3) (GL_wsX11_why_r4)))) (GL_wsX110)) (GL_wsX60)) (GL_wsX80)) (GL_wsX20))
set_option maxRecDepth 100000 in
theorem GW_692 : GWd (Cond.methodLink RL 80 yX11_why) := ⟨lwm_3 (List.mem_of_getElem? (i := 152) rfl), good_of_word (by decide +kernel)⟩
set_option maxRecDepth 100000 in
theorem GW_693 : GWd (Cond.instanceMethod yX11_why) := ⟨lwm_3 (List.mem_of_getElem? (i := 153) rfl), good_of_word (by decide +kernel)⟩
set_option maxRecDepth 100000 in
theorem GW_694 : GWd (Cond.selects RX11 yX11_why yX11_why) := ⟨lwm_3 (List.mem_of_getElem? (i := 154) rfl), good_of_word (by decide +kernel)⟩
set_option maxRecDepth 100000 in
theorem GW_732 : GWd (Cond.code yX11_begin cX11_begin 2 (some .long)) := ⟨lwm_3 (List.mem_of_getElem? (i := 192) rfl), good_of_word (by decide +kernel)⟩
theorem GL_wsX11_begin : GoodIn lw_tbl wsX11_begin := gw_c GW_732 (gw_a (gw_a (gw_c GW_424 (gw_c GW_313 (gw_n))) (GL_wsX110)) (GL_wsX50))
set_option maxRecDepth 100000 in
theorem GW_729 : GWd (Cond.methodLink RL 84 yX11_begin) := ⟨lwm_3 (List.mem_of_getElem? (i := 189) rfl), good_of_word (by decide +kernel)⟩
set_option maxRecDepth 100000 in
theorem GW_730 : GWd (Cond.instanceMethod yX11_begin) := ⟨lwm_3 (List.mem_of_getElem? (i := 190) rfl), good_of_word (by decide +kernel)⟩
set_option maxRecDepth 100000 in
theorem GW_731 : GWd (Cond.selects RX11 yX11_begin yX11_begin) := ⟨lwm_3 (List.mem_of_getElem? (i := 191) rfl), good_of_word (by decide +kernel)⟩
set_option maxRecDepth 100000 in
theorem GW_736 : GWd (Cond.code yX11_stand cX11_stand 2 (some .long)) := ⟨lwm_3 (List.mem_of_getElem? (i := 196) rfl), good_of_word (by decide +kernel)⟩
set_option maxRecDepth 100000 in
theorem GW_741 : GWd (Cond.methodLink RX11 195 yX5_append) := ⟨lwm_3 (List.mem_of_getElem? (i := 201) rfl), good_of_word (by decide +kernel)⟩
set_option maxRecDepth 100000 in
theorem GW_740 : GWd (Cond.code yX5_holds cX5_holds 3 (some .boolean)) := ⟨lwm_3 (List.mem_of_getElem? (i := 200) rfl), good_of_word (by decide +kernel)⟩
set_option maxRecDepth 100000 in
theorem GW_739 : GWd (Cond.selects RX5 yX5_holds yX5_holds) := ⟨lwm_3 (List.mem_of_getElem? (i := 199) rfl), good_of_word (by decide +kernel)⟩
set_option maxRecDepth 100000 in
theorem GW_738 : GWd (Cond.instanceMethod yX5_holds) := ⟨lwm_3 (List.mem_of_getElem? (i := 198) rfl), good_of_word (by decide +kernel)⟩
set_option maxRecDepth 100000 in
theorem GW_737 : GWd (Cond.methodLink RX11 192 yX5_holds) := ⟨lwm_3 (List.mem_of_getElem? (i := 197) rfl), good_of_word (by decide +kernel)⟩
theorem GL_wsX11_stand : GoodIn lw_tbl wsX11_stand := gw_c GW_736 (gw_a (gw_a (gw_a (gw_c GW_420 (gw_c GW_424 (gw_c GW_462 (gw_c GW_313 (gw_c GW_463 (gw_c GW_487 (gw_c GW_488 (gw_c GW_489 (gw_c GW_62 (gw_c GW_490 (gw_c GW_92 (gw_c GW_737 (gw_c GW_738 (gw_c GW_739 (gw_c GW_68 (gw_c GW_740 (gw_c GW_310 (gw_c GW_314 (gw_c GW_741 (gw_c GW_655 (gw_c GW_656 (gw_c GW_657 (gw_n))))))))))))))))))))))) (GL_wsX110)) (GL_wsX50)) (GL_wsX20))
set_option maxRecDepth 100000 in
theorem GW_733 : GWd (Cond.methodLink RL 88 yX11_stand) := ⟨lwm_3 (List.mem_of_getElem? (i := 193) rfl), good_of_word (by decide +kernel)⟩
set_option maxRecDepth 100000 in
theorem GW_734 : GWd (Cond.instanceMethod yX11_stand) := ⟨lwm_3 (List.mem_of_getElem? (i := 194) rfl), good_of_word (by decide +kernel)⟩
set_option maxRecDepth 100000 in
theorem GW_735 : GWd (Cond.selects RX11 yX11_stand yX11_stand) := ⟨lwm_3 (List.mem_of_getElem? (i := 195) rfl), good_of_word (by decide +kernel)⟩
set_option maxRecDepth 100000 in
theorem GW_745 : GWd (Cond.code yX11_order cX11_order 2 (some .long)) := ⟨lwm_3 (List.mem_of_getElem? (i := 205) rfl), good_of_word (by decide +kernel)⟩
set_option maxRecDepth 100000 in
theorem GW_749 : GWd (Cond.code yX5_isPlace cX5_isPlace 2 (some .boolean)) := ⟨lwm_3 (List.mem_of_getElem? (i := 209) rfl), good_of_word (by decide +kernel)⟩
set_option maxRecDepth 100000 in
theorem GW_748 : GWd (Cond.selects RX5 yX5_isPlace yX5_isPlace) := ⟨lwm_3 (List.mem_of_getElem? (i := 208) rfl), good_of_word (by decide +kernel)⟩
set_option maxRecDepth 100000 in
theorem GW_747 : GWd (Cond.instanceMethod yX5_isPlace) := ⟨lwm_3 (List.mem_of_getElem? (i := 207) rfl), good_of_word (by decide +kernel)⟩
set_option maxRecDepth 100000 in
theorem GW_746 : GWd (Cond.methodLink RX11 199 yX5_isPlace) := ⟨lwm_3 (List.mem_of_getElem? (i := 206) rfl), good_of_word (by decide +kernel)⟩
set_option maxRecDepth 100000 in
theorem GW_316 : GWd (Cond.fieldLink RX11 202 "PeckYard$Hand" "hens" "[I") := ⟨lwm_2 (List.mem_of_getElem? (i := 16) rfl), good_of_word (by decide +kernel)⟩
theorem GL_wsX11_order : GoodIn lw_tbl wsX11_order := gw_c GW_745 (gw_a (gw_a (gw_c GW_424 (gw_c GW_316 (gw_c GW_462 (gw_c GW_746 (gw_c GW_747 (gw_c GW_748 (gw_c GW_68 (gw_c GW_749 (gw_c GW_310 (gw_n)))))))))) (GL_wsX110)) (GL_wsX50))
set_option maxRecDepth 100000 in
theorem GW_742 : GWd (Cond.methodLink RL 92 yX11_order) := ⟨lwm_3 (List.mem_of_getElem? (i := 202) rfl), good_of_word (by decide +kernel)⟩
set_option maxRecDepth 100000 in
theorem GW_743 : GWd (Cond.instanceMethod yX11_order) := ⟨lwm_3 (List.mem_of_getElem? (i := 203) rfl), good_of_word (by decide +kernel)⟩
set_option maxRecDepth 100000 in
theorem GW_744 : GWd (Cond.selects RX11 yX11_order yX11_order) := ⟨lwm_3 (List.mem_of_getElem? (i := 204) rfl), good_of_word (by decide +kernel)⟩
set_option maxRecDepth 100000 in
theorem GW_753 : GWd (Cond.code yX11_move cX11_move 3 (some .long)) := ⟨lwm_3 (List.mem_of_getElem? (i := 213) rfl), good_of_word (by decide +kernel)⟩
set_option maxRecDepth 100000 in
theorem GW_756 : GWd (Cond.code yX11_shift cX11_shift 5 none) := ⟨lwm_3 (List.mem_of_getElem? (i := 216) rfl), good_of_word (by decide +kernel)⟩
set_option maxRecDepth 100000 in
theorem GW_755 : GWd (Cond.static yX11_shift) := ⟨lwm_3 (List.mem_of_getElem? (i := 215) rfl), good_of_word (by decide +kernel)⟩
set_option maxRecDepth 100000 in
theorem GW_754 : GWd (Cond.methodLink RX11 205 yX11_shift) := ⟨lwm_3 (List.mem_of_getElem? (i := 214) rfl), good_of_word (by decide +kernel)⟩
theorem GL_wsX11_move : GoodIn lw_tbl wsX11_move := gw_c GW_753 (gw_a (gw_a (gw_c GW_424 (gw_c GW_462 (gw_c GW_316 (gw_c GW_746 (gw_c GW_747 (gw_c GW_748 (gw_c GW_68 (gw_c GW_749 (gw_c GW_310 (gw_c GW_754 (gw_c GW_755 (gw_c GW_61 (gw_c GW_756 (gw_n)))))))))))))) (GL_wsX110)) (GL_wsX50))
set_option maxRecDepth 100000 in
theorem GW_750 : GWd (Cond.methodLink RL 96 yX11_move) := ⟨lwm_3 (List.mem_of_getElem? (i := 210) rfl), good_of_word (by decide +kernel)⟩
set_option maxRecDepth 100000 in
theorem GW_751 : GWd (Cond.instanceMethod yX11_move) := ⟨lwm_3 (List.mem_of_getElem? (i := 211) rfl), good_of_word (by decide +kernel)⟩
set_option maxRecDepth 100000 in
theorem GW_752 : GWd (Cond.selects RX11 yX11_move yX11_move) := ⟨lwm_3 (List.mem_of_getElem? (i := 212) rfl), good_of_word (by decide +kernel)⟩
set_option maxRecDepth 100000 in
theorem GW_760 : GWd (Cond.code yX11_weight cX11_weight 1 (some .long)) := ⟨lwm_3 (List.mem_of_getElem? (i := 220) rfl), good_of_word (by decide +kernel)⟩
theorem GL_wsX11_weight_r1 : GoodIn lw_tbl wsX11_weight_r1 := gw_c GW_425 (gw_c GW_424 (gw_c GW_506 (gw_c GW_662 (gw_c GW_663 (gw_c GW_664 (gw_c GW_69 (gw_c GW_665 (gw_c GW_328 (gw_c GW_311 (gw_c GW_185 (gw_c GW_198 (gw_c GW_315 (gw_c GW_329 (gw_c GW_331 (gw_c GW_666 (gw_c GW_571 (gw_c GW_572 (gw_c GW_65 (gw_c GW_573 (gw_c GW_180 (gw_c GW_179 (gw_c GW_95 (gw_c GW_186 (gw_n))))))))))))))))))))))))
theorem GL_wsX11_weight_r2 : GoodIn lw_tbl wsX11_weight_r2 := gw_c GW_197 (gw_c GW_192 (gw_c GW_200 (gw_c GW_98 (gw_c GW_204 (gw_c GW_207 (gw_c GW_574 (gw_c GW_533 (gw_c GW_534 (gw_c GW_62 (gw_c GW_535 (gw_c GW_97 (gw_c GW_104 (gw_c GW_536 (gw_c GW_488 (gw_c GW_489 (gw_c GW_490 (gw_c GW_92 (gw_c GW_575 (gw_c GW_577 (gw_c GW_1 (gw_c GW_578 (gw_c GW_210 (gw_c GW_112 (gw_n))))))))))))))))))))))))
set_option maxRecDepth 100000 in
theorem GW_765 : GWd (Cond.methodLink RX7 48 yX8_peckOf) := ⟨lwm_3 (List.mem_of_getElem? (i := 225) rfl), good_of_word (by decide +kernel)⟩
set_option maxRecDepth 100000 in
theorem GW_764 : GWd (Cond.code yX7_upsetWeight cX7_upsetWeight 5 (some .long)) := ⟨lwm_3 (List.mem_of_getElem? (i := 224) rfl), good_of_word (by decide +kernel)⟩
set_option maxRecDepth 100000 in
theorem GW_763 : GWd (Cond.selects RX7 yX7_upsetWeight yX7_upsetWeight) := ⟨lwm_3 (List.mem_of_getElem? (i := 223) rfl), good_of_word (by decide +kernel)⟩
set_option maxRecDepth 100000 in
theorem GW_762 : GWd (Cond.instanceMethod yX7_upsetWeight) := ⟨lwm_3 (List.mem_of_getElem? (i := 222) rfl), good_of_word (by decide +kernel)⟩
set_option maxRecDepth 100000 in
theorem GW_761 : GWd (Cond.methodLink RX11 209 yX7_upsetWeight) := ⟨lwm_3 (List.mem_of_getElem? (i := 221) rfl), good_of_word (by decide +kernel)⟩
theorem GL_wsX11_weight_r3 : GoodIn lw_tbl wsX11_weight_r3 := gw_c GW_579 (gw_c GW_581 (gw_c GW_2 (gw_c GW_582 (gw_c GW_202 (gw_c GW_103 (gw_c GW_583 (gw_c GW_584 (gw_c GW_585 (gw_c GW_586 (gw_c GW_100 (gw_c GW_587 (gw_c GW_761 (gw_c GW_762 (gw_c GW_763 (gw_c GW_764 (gw_c GW_765 (gw_c GW_592 (gw_c GW_593 (gw_c GW_594 (gw_n))))))))))))))))))))
theorem GL_wsX11_weight : GoodIn lw_tbl wsX11_weight := gw_c GW_760 (gw_a (gw_a (gw_a (gw_a (gw_a (gw_a (GL_wsX11_weight_r1) (gw_a (GL_wsX11_weight_r2) (GL_wsX11_weight_r3))) (GL_wsX110)) (GL_wsX70)) (GL_wsX50)) (GL_wsX80)) (GL_wsX20))
set_option maxRecDepth 100000 in
theorem GW_757 : GWd (Cond.methodLink RL 100 yX11_weight) := ⟨lwm_3 (List.mem_of_getElem? (i := 217) rfl), good_of_word (by decide +kernel)⟩
set_option maxRecDepth 100000 in
theorem GW_758 : GWd (Cond.instanceMethod yX11_weight) := ⟨lwm_3 (List.mem_of_getElem? (i := 218) rfl), good_of_word (by decide +kernel)⟩
set_option maxRecDepth 100000 in
theorem GW_759 : GWd (Cond.selects RX11 yX11_weight yX11_weight) := ⟨lwm_3 (List.mem_of_getElem? (i := 219) rfl), good_of_word (by decide +kernel)⟩
set_option maxRecDepth 100000 in
theorem GW_769 : GWd (Cond.code yX11_fault cX11_fault 1 (some .long)) := ⟨lwm_3 (List.mem_of_getElem? (i := 229) rfl), good_of_word (by decide +kernel)⟩
theorem GL_wsX11_fault_r1 : GoodIn lw_tbl wsX11_fault_r1 := gw_c GW_425 (gw_c GW_424 (gw_c GW_506 (gw_c GW_662 (gw_c GW_663 (gw_c GW_664 (gw_c GW_69 (gw_c GW_665 (gw_c GW_328 (gw_c GW_311 (gw_c GW_185 (gw_c GW_198 (gw_c GW_315 (gw_c GW_329 (gw_c GW_331 (gw_c GW_666 (gw_c GW_571 (gw_c GW_572 (gw_c GW_65 (gw_c GW_573 (gw_c GW_180 (gw_c GW_179 (gw_c GW_95 (gw_c GW_186 (gw_n))))))))))))))))))))))))
theorem GL_wsX11_fault_r2 : GoodIn lw_tbl wsX11_fault_r2 := gw_c GW_197 (gw_c GW_192 (gw_c GW_200 (gw_c GW_98 (gw_c GW_204 (gw_c GW_207 (gw_c GW_574 (gw_c GW_533 (gw_c GW_534 (gw_c GW_62 (gw_c GW_535 (gw_c GW_97 (gw_c GW_104 (gw_c GW_536 (gw_c GW_488 (gw_c GW_489 (gw_c GW_490 (gw_c GW_92 (gw_c GW_575 (gw_c GW_577 (gw_c GW_1 (gw_c GW_578 (gw_c GW_210 (gw_c GW_112 (gw_n))))))))))))))))))))))))
set_option maxRecDepth 100000 in
theorem GW_201 : GWd (Cond.fieldLink RX7 61 "PeckYard$Muster" "kind" "[I") := ⟨lwm_1 (List.mem_of_getElem? (i := 141) rfl), good_of_word (by decide +kernel)⟩
set_option maxRecDepth 100000 in
theorem GW_203 : GWd (Cond.fieldLink RX7 58 "PeckYard$Muster" "wants" "[I") := ⟨lwm_1 (List.mem_of_getElem? (i := 143) rfl), good_of_word (by decide +kernel)⟩
set_option maxRecDepth 100000 in
theorem GW_777 : GWd (Cond.code yX7_isKept cX7_isKept 4 (some .boolean)) := ⟨lwm_3 (List.mem_of_getElem? (i := 237) rfl), good_of_word (by decide +kernel)⟩
set_option maxRecDepth 100000 in
theorem GW_11 : GWd (Cond.selects RX7 yX7_isKept yX7_isKept) := ⟨List.mem_of_getElem? (i := 11) rfl, good_of_word (by decide +kernel)⟩
set_option maxRecDepth 100000 in
theorem GW_776 : GWd (Cond.instanceMethod yX7_isKept) := ⟨lwm_3 (List.mem_of_getElem? (i := 236) rfl), good_of_word (by decide +kernel)⟩
set_option maxRecDepth 100000 in
theorem GW_774 : GWd (Cond.methodLink RX7 52 yX7_isKept) := ⟨lwm_3 (List.mem_of_getElem? (i := 234) rfl), good_of_word (by decide +kernel)⟩
set_option maxRecDepth 100000 in
theorem GW_778 : GWd (Cond.constantLong RX7 56 (-2000000005)) := ⟨lwm_3 (List.mem_of_getElem? (i := 238) rfl), good_of_word (by decide +kernel)⟩
set_option maxRecDepth 100000 in
theorem GW_194 : GWd (Cond.fieldLink RX7 43 "PeckYard$Muster" "hens" "[I") := ⟨lwm_1 (List.mem_of_getElem? (i := 134) rfl), good_of_word (by decide +kernel)⟩
set_option maxRecDepth 100000 in
theorem GW_773 : GWd (Cond.code yX7_leastFault cX7_leastFault 2 (some .long)) := ⟨lwm_3 (List.mem_of_getElem? (i := 233) rfl), good_of_word (by decide +kernel)⟩
set_option maxRecDepth 100000 in
theorem GW_772 : GWd (Cond.selects RX7 yX7_leastFault yX7_leastFault) := ⟨lwm_3 (List.mem_of_getElem? (i := 232) rfl), good_of_word (by decide +kernel)⟩
set_option maxRecDepth 100000 in
theorem GW_771 : GWd (Cond.instanceMethod yX7_leastFault) := ⟨lwm_3 (List.mem_of_getElem? (i := 231) rfl), good_of_word (by decide +kernel)⟩
set_option maxRecDepth 100000 in
theorem GW_770 : GWd (Cond.methodLink RX11 212 yX7_leastFault) := ⟨lwm_3 (List.mem_of_getElem? (i := 230) rfl), good_of_word (by decide +kernel)⟩
theorem GL_wsX11_fault_r3 : GoodIn lw_tbl wsX11_fault_r3 := gw_c GW_579 (gw_c GW_581 (gw_c GW_2 (gw_c GW_582 (gw_c GW_202 (gw_c GW_103 (gw_c GW_583 (gw_c GW_584 (gw_c GW_585 (gw_c GW_586 (gw_c GW_100 (gw_c GW_587 (gw_c GW_770 (gw_c GW_771 (gw_c GW_772 (gw_c GW_773 (gw_c GW_194 (gw_c GW_778 (gw_c GW_774 (gw_c GW_776 (gw_c GW_11 (gw_c GW_777 (gw_c GW_203 (gw_c GW_201 (gw_n))))))))))))))))))))))))
theorem GL_wsX11_fault : GoodIn lw_tbl wsX11_fault := gw_c GW_769 (gw_a (gw_a (gw_a (gw_a (gw_a (gw_a (GL_wsX11_fault_r1) (gw_a (GL_wsX11_fault_r2) (GL_wsX11_fault_r3))) (GL_wsX110)) (GL_wsX70)) (GL_wsX50)) (GL_wsX80)) (GL_wsX20))
set_option maxRecDepth 100000 in
theorem GW_766 : GWd (Cond.methodLink RL 104 yX11_fault) := ⟨lwm_3 (List.mem_of_getElem? (i := 226) rfl), good_of_word (by decide +kernel)⟩
set_option maxRecDepth 100000 in
theorem GW_767 : GWd (Cond.instanceMethod yX11_fault) := ⟨lwm_3 (List.mem_of_getElem? (i := 227) rfl), good_of_word (by decide +kernel)⟩
set_option maxRecDepth 100000 in
theorem GW_768 : GWd (Cond.selects RX11 yX11_fault yX11_fault) := ⟨lwm_3 (List.mem_of_getElem? (i := 228) rfl), good_of_word (by decide +kernel)⟩
set_option maxRecDepth 100000 in
theorem GW_782 : GWd (Cond.code yX11_better cX11_better 3 (some .long)) := ⟨lwm_4 (List.mem_of_getElem? (i := 2) rfl), good_of_word (by decide +kernel)⟩
theorem GL_wsX11_better_r1 : GoodIn lw_tbl wsX11_better_r1 := gw_c GW_462 (gw_c GW_425 (gw_c GW_424 (gw_c GW_506 (gw_c GW_662 (gw_c GW_663 (gw_c GW_664 (gw_c GW_69 (gw_c GW_665 (gw_c GW_328 (gw_c GW_311 (gw_c GW_185 (gw_c GW_198 (gw_c GW_315 (gw_c GW_329 (gw_c GW_331 (gw_c GW_666 (gw_c GW_571 (gw_c GW_572 (gw_c GW_65 (gw_c GW_573 (gw_c GW_180 (gw_c GW_179 (gw_c GW_95 (gw_n))))))))))))))))))))))))
theorem GL_wsX11_better_r2 : GoodIn lw_tbl wsX11_better_r2 := gw_c GW_186 (gw_c GW_197 (gw_c GW_192 (gw_c GW_200 (gw_c GW_98 (gw_c GW_204 (gw_c GW_207 (gw_c GW_574 (gw_c GW_533 (gw_c GW_534 (gw_c GW_62 (gw_c GW_535 (gw_c GW_97 (gw_c GW_104 (gw_c GW_536 (gw_c GW_488 (gw_c GW_489 (gw_c GW_490 (gw_c GW_92 (gw_c GW_575 (gw_c GW_577 (gw_c GW_1 (gw_c GW_578 (gw_c GW_210 (gw_n))))))))))))))))))))))))
set_option maxRecDepth 100000 in
theorem GW_790 : GWd (Cond.code yX7_weighMoves cX7_weighMoves 4 none) := ⟨lwm_4 (List.mem_of_getElem? (i := 10) rfl), good_of_word (by decide +kernel)⟩
set_option maxRecDepth 100000 in
theorem GW_12 : GWd (Cond.selects RX7 yX7_weighMoves yX7_weighMoves) := ⟨List.mem_of_getElem? (i := 12) rfl, good_of_word (by decide +kernel)⟩
set_option maxRecDepth 100000 in
theorem GW_789 : GWd (Cond.instanceMethod yX7_weighMoves) := ⟨lwm_4 (List.mem_of_getElem? (i := 9) rfl), good_of_word (by decide +kernel)⟩
set_option maxRecDepth 100000 in
theorem GW_787 : GWd (Cond.methodLink RX7 64 yX7_weighMoves) := ⟨lwm_4 (List.mem_of_getElem? (i := 7) rfl), good_of_word (by decide +kernel)⟩
set_option maxRecDepth 100000 in
theorem GW_786 : GWd (Cond.code yX7_improve cX7_improve 7 (some .boolean)) := ⟨lwm_4 (List.mem_of_getElem? (i := 6) rfl), good_of_word (by decide +kernel)⟩
set_option maxRecDepth 100000 in
theorem GW_785 : GWd (Cond.selects RX7 yX7_improve yX7_improve) := ⟨lwm_4 (List.mem_of_getElem? (i := 5) rfl), good_of_word (by decide +kernel)⟩
set_option maxRecDepth 100000 in
theorem GW_784 : GWd (Cond.instanceMethod yX7_improve) := ⟨lwm_4 (List.mem_of_getElem? (i := 4) rfl), good_of_word (by decide +kernel)⟩
set_option maxRecDepth 100000 in
theorem GW_783 : GWd (Cond.methodLink RX11 215 yX7_improve) := ⟨lwm_4 (List.mem_of_getElem? (i := 3) rfl), good_of_word (by decide +kernel)⟩
theorem GL_wsX11_better_r3 : GoodIn lw_tbl wsX11_better_r3 := gw_c GW_112 (gw_c GW_579 (gw_c GW_581 (gw_c GW_2 (gw_c GW_582 (gw_c GW_202 (gw_c GW_103 (gw_c GW_583 (gw_c GW_584 (gw_c GW_585 (gw_c GW_586 (gw_c GW_100 (gw_c GW_587 (gw_c GW_783 (gw_c GW_784 (gw_c GW_785 (gw_c GW_786 (gw_c GW_332 (gw_c GW_787 (gw_c GW_789 (gw_c GW_12 (gw_c GW_790 (gw_c GW_765 (gw_c GW_592 (gw_n))))))))))))))))))))))))
set_option maxRecDepth 100000 in
theorem GW_804 : GWd (Cond.methodLink RX7 75 yX7_leastFault) := ⟨lwm_4 (List.mem_of_getElem? (i := 24) rfl), good_of_word (by decide +kernel)⟩
set_option maxRecDepth 100000 in
theorem GW_803 : GWd (Cond.code Lib.Math.max.name Lib.Math.max.code 2 (some .int)) := ⟨lwm_4 (List.mem_of_getElem? (i := 23) rfl), good_of_word (by decide +kernel)⟩
set_option maxRecDepth 100000 in
theorem GW_802 : GWd (Cond.static Lib.Math.max.name) := ⟨lwm_4 (List.mem_of_getElem? (i := 22) rfl), good_of_word (by decide +kernel)⟩
set_option maxRecDepth 100000 in
theorem GW_801 : GWd (Cond.methodLink RX7 88 Lib.Math.max.name) := ⟨lwm_4 (List.mem_of_getElem? (i := 21) rfl), good_of_word (by decide +kernel)⟩
set_option maxRecDepth 100000 in
theorem GW_800 : GWd (Cond.methodLink RX7 83 Lib.Math.min.name) := ⟨lwm_4 (List.mem_of_getElem? (i := 20) rfl), good_of_word (by decide +kernel)⟩
set_option maxRecDepth 100000 in
theorem GW_798 : GWd (Cond.code yX7_moveSlot cX7_moveSlot 4 none) := ⟨lwm_4 (List.mem_of_getElem? (i := 18) rfl), good_of_word (by decide +kernel)⟩
set_option maxRecDepth 100000 in
theorem GW_14 : GWd (Cond.selects RX7 yX7_moveSlot yX7_moveSlot) := ⟨List.mem_of_getElem? (i := 14) rfl, good_of_word (by decide +kernel)⟩
set_option maxRecDepth 100000 in
theorem GW_797 : GWd (Cond.instanceMethod yX7_moveSlot) := ⟨lwm_4 (List.mem_of_getElem? (i := 17) rfl), good_of_word (by decide +kernel)⟩
set_option maxRecDepth 100000 in
theorem GW_795 : GWd (Cond.methodLink RX7 71 yX7_moveSlot) := ⟨lwm_4 (List.mem_of_getElem? (i := 15) rfl), good_of_word (by decide +kernel)⟩
set_option maxRecDepth 100000 in
theorem GW_794 : GWd (Cond.code yX7_isLawfulAfter cX7_isLawfulAfter 4 (some .boolean)) := ⟨lwm_4 (List.mem_of_getElem? (i := 14) rfl), good_of_word (by decide +kernel)⟩
set_option maxRecDepth 100000 in
theorem GW_13 : GWd (Cond.selects RX7 yX7_isLawfulAfter yX7_isLawfulAfter) := ⟨List.mem_of_getElem? (i := 13) rfl, good_of_word (by decide +kernel)⟩
set_option maxRecDepth 100000 in
theorem GW_793 : GWd (Cond.instanceMethod yX7_isLawfulAfter) := ⟨lwm_4 (List.mem_of_getElem? (i := 13) rfl), good_of_word (by decide +kernel)⟩
set_option maxRecDepth 100000 in
theorem GW_791 : GWd (Cond.methodLink RX7 67 yX7_isLawfulAfter) := ⟨lwm_4 (List.mem_of_getElem? (i := 11) rfl), good_of_word (by decide +kernel)⟩
theorem GL_wsX11_better_r4 : GoodIn lw_tbl wsX11_better_r4 := gw_c GW_593 (gw_c GW_594 (gw_c GW_791 (gw_c GW_793 (gw_c GW_13 (gw_c GW_794 (gw_c GW_778 (gw_c GW_795 (gw_c GW_797 (gw_c GW_14 (gw_c GW_798 (gw_c GW_800 (gw_c GW_473 (gw_c GW_74 (gw_c GW_474 (gw_c GW_801 (gw_c GW_802 (gw_c GW_803 (gw_c GW_755 (gw_c GW_61 (gw_c GW_756 (gw_c GW_804 (gw_c GW_771 (gw_c GW_772 (gw_n))))))))))))))))))))))))
set_option maxRecDepth 100000 in
theorem GW_809 : GWd (Cond.methodLink RX7 44 yX5_append) := ⟨lwm_4 (List.mem_of_getElem? (i := 29) rfl), good_of_word (by decide +kernel)⟩
set_option maxRecDepth 100000 in
theorem GW_808 : GWd (Cond.code yX7_writeTo cX7_writeTo 3 none) := ⟨lwm_4 (List.mem_of_getElem? (i := 28) rfl), good_of_word (by decide +kernel)⟩
set_option maxRecDepth 100000 in
theorem GW_807 : GWd (Cond.selects RX7 yX7_writeTo yX7_writeTo) := ⟨lwm_4 (List.mem_of_getElem? (i := 27) rfl), good_of_word (by decide +kernel)⟩
set_option maxRecDepth 100000 in
theorem GW_806 : GWd (Cond.instanceMethod yX7_writeTo) := ⟨lwm_4 (List.mem_of_getElem? (i := 26) rfl), good_of_word (by decide +kernel)⟩
set_option maxRecDepth 100000 in
theorem GW_805 : GWd (Cond.methodLink RX11 218 yX7_writeTo) := ⟨lwm_4 (List.mem_of_getElem? (i := 25) rfl), good_of_word (by decide +kernel)⟩
theorem GL_wsX11_better_r5 : GoodIn lw_tbl wsX11_better_r5 := gw_c GW_773 (gw_c GW_194 (gw_c GW_774 (gw_c GW_776 (gw_c GW_11 (gw_c GW_777 (gw_c GW_203 (gw_c GW_201 (gw_c GW_805 (gw_c GW_806 (gw_c GW_807 (gw_c GW_808 (gw_c GW_809 (gw_c GW_655 (gw_c GW_656 (gw_c GW_68 (gw_c GW_657 (gw_c GW_310 (gw_c GW_314 (gw_n)))))))))))))))))))
theorem GL_wsX11_better : GoodIn lw_tbl wsX11_better := gw_c GW_782 (gw_a (gw_a (gw_a (gw_a (gw_a (gw_a (GL_wsX11_better_r1) (gw_a (GL_wsX11_better_r2) (gw_a (GL_wsX11_better_r3) (gw_a (GL_wsX11_better_r4) (GL_wsX11_better_r5))))) (GL_wsX110)) (GL_wsX70)) (GL_wsX50)) (GL_wsX80)) (GL_wsX20))
set_option maxRecDepth 100000 in
theorem GW_779 : GWd (Cond.methodLink RL 108 yX11_better) := ⟨lwm_3 (List.mem_of_getElem? (i := 239) rfl), good_of_word (by decide +kernel)⟩
set_option maxRecDepth 100000 in
theorem GW_780 : GWd (Cond.instanceMethod yX11_better) := ⟨lwm_4 (List.mem_of_getElem? (i := 0) rfl), good_of_word (by decide +kernel)⟩
set_option maxRecDepth 100000 in
theorem GW_781 : GWd (Cond.selects RX11 yX11_better yX11_better) := ⟨lwm_4 (List.mem_of_getElem? (i := 1) rfl), good_of_word (by decide +kernel)⟩
set_option maxRecDepth 100000 in
theorem GW_813 : GWd (Cond.code yX11_turn cX11_turn 1 (some .long)) := ⟨lwm_4 (List.mem_of_getElem? (i := 33) rfl), good_of_word (by decide +kernel)⟩
set_option maxRecDepth 100000 in
theorem GW_817 : GWd (Cond.code yX5_reverse cX5_reverse 4 none) := ⟨lwm_4 (List.mem_of_getElem? (i := 37) rfl), good_of_word (by decide +kernel)⟩
set_option maxRecDepth 100000 in
theorem GW_816 : GWd (Cond.selects RX5 yX5_reverse yX5_reverse) := ⟨lwm_4 (List.mem_of_getElem? (i := 36) rfl), good_of_word (by decide +kernel)⟩
set_option maxRecDepth 100000 in
theorem GW_815 : GWd (Cond.instanceMethod yX5_reverse) := ⟨lwm_4 (List.mem_of_getElem? (i := 35) rfl), good_of_word (by decide +kernel)⟩
set_option maxRecDepth 100000 in
theorem GW_814 : GWd (Cond.methodLink RX11 222 yX5_reverse) := ⟨lwm_4 (List.mem_of_getElem? (i := 34) rfl), good_of_word (by decide +kernel)⟩
theorem GL_wsX11_turn : GoodIn lw_tbl wsX11_turn := gw_c GW_813 (gw_a (gw_a (gw_c GW_424 (gw_c GW_814 (gw_c GW_815 (gw_c GW_816 (gw_c GW_68 (gw_c GW_817 (gw_c GW_310 (gw_c GW_314 (gw_n))))))))) (GL_wsX110)) (GL_wsX50))
set_option maxRecDepth 100000 in
theorem GW_810 : GWd (Cond.methodLink RL 112 yX11_turn) := ⟨lwm_4 (List.mem_of_getElem? (i := 30) rfl), good_of_word (by decide +kernel)⟩
set_option maxRecDepth 100000 in
theorem GW_811 : GWd (Cond.instanceMethod yX11_turn) := ⟨lwm_4 (List.mem_of_getElem? (i := 31) rfl), good_of_word (by decide +kernel)⟩
set_option maxRecDepth 100000 in
theorem GW_812 : GWd (Cond.selects RX11 yX11_turn yX11_turn) := ⟨lwm_4 (List.mem_of_getElem? (i := 32) rfl), good_of_word (by decide +kernel)⟩
set_option maxRecDepth 100000 in
theorem GW_821 : GWd (Cond.code yX11_groups cX11_groups 1 (some .long)) := ⟨lwm_4 (List.mem_of_getElem? (i := 41) rfl), good_of_word (by decide +kernel)⟩
set_option maxRecDepth 100000 in
theorem GW_826 : GWd (Cond.methodLink RX3 26 yX8_gather) := ⟨lwm_4 (List.mem_of_getElem? (i := 46) rfl), good_of_word (by decide +kernel)⟩
set_option maxRecDepth 100000 in
theorem GW_188 : GWd (Cond.fieldLink RX3 44 "PeckYard$Muster" "size" "I") := ⟨lwm_1 (List.mem_of_getElem? (i := 128) rfl), good_of_word (by decide +kernel)⟩
set_option maxRecDepth 100000 in
theorem GW_350 : GWd (Cond.fieldLink RX3 37 "PeckYard$Groups" "size" "I") := ⟨lwm_2 (List.mem_of_getElem? (i := 50) rfl), good_of_word (by decide +kernel)⟩
set_option maxRecDepth 100000 in
theorem GW_183 : GWd (Cond.fieldLink RX3 31 "PeckYard$Muster" "stamp" "I") := ⟨lwm_1 (List.mem_of_getElem? (i := 123) rfl), good_of_word (by decide +kernel)⟩
set_option maxRecDepth 100000 in
theorem GW_825 : GWd (Cond.code yX3_settle cX3_settle 5 none) := ⟨lwm_4 (List.mem_of_getElem? (i := 45) rfl), good_of_word (by decide +kernel)⟩
set_option maxRecDepth 100000 in
theorem GW_824 : GWd (Cond.selects RX3 yX3_settle yX3_settle) := ⟨lwm_4 (List.mem_of_getElem? (i := 44) rfl), good_of_word (by decide +kernel)⟩
set_option maxRecDepth 100000 in
theorem GW_823 : GWd (Cond.instanceMethod yX3_settle) := ⟨lwm_4 (List.mem_of_getElem? (i := 43) rfl), good_of_word (by decide +kernel)⟩
set_option maxRecDepth 100000 in
theorem GW_822 : GWd (Cond.methodLink RX11 225 yX3_settle) := ⟨lwm_4 (List.mem_of_getElem? (i := 42) rfl), good_of_word (by decide +kernel)⟩
set_option maxRecDepth 100000 in
theorem GW_351 : GWd (Cond.fieldLink RX11 228 "PeckYard$Groups" "size" "I") := ⟨lwm_2 (List.mem_of_getElem? (i := 51) rfl), good_of_word (by decide +kernel)⟩
theorem GL_wsX11_groups_r1 : GoodIn lw_tbl wsX11_groups_r1 := gw_c GW_426 (gw_c GW_351 (gw_c GW_822 (gw_c GW_823 (gw_c GW_824 (gw_c GW_70 (gw_c GW_825 (gw_c GW_348 (gw_c GW_349 (gw_c GW_183 (gw_c GW_350 (gw_c GW_188 (gw_c GW_352 (gw_c GW_826 (gw_c GW_571 (gw_c GW_572 (gw_c GW_65 (gw_c GW_573 (gw_c GW_180 (gw_c GW_179 (gw_c GW_95 (gw_c GW_186 (gw_c GW_197 (gw_c GW_192 (gw_n))))))))))))))))))))))))
theorem GL_wsX11_groups_r2 : GoodIn lw_tbl wsX11_groups_r2 := gw_c GW_200 (gw_c GW_98 (gw_c GW_204 (gw_c GW_207 (gw_c GW_574 (gw_c GW_533 (gw_c GW_534 (gw_c GW_62 (gw_c GW_535 (gw_c GW_97 (gw_c GW_104 (gw_c GW_536 (gw_c GW_488 (gw_c GW_489 (gw_c GW_490 (gw_c GW_92 (gw_c GW_575 (gw_c GW_577 (gw_c GW_1 (gw_c GW_578 (gw_c GW_210 (gw_c GW_112 (gw_c GW_579 (gw_c GW_581 (gw_n))))))))))))))))))))))))
set_option maxRecDepth 100000 in
theorem GW_833 : GWd (Cond.methodLink RX3 40 yX8_all) := ⟨lwm_4 (List.mem_of_getElem? (i := 53) rfl), good_of_word (by decide +kernel)⟩
set_option maxRecDepth 100000 in
theorem GW_831 : GWd (Cond.methodLink RX3 53 yX8_peckOf) := ⟨lwm_4 (List.mem_of_getElem? (i := 51) rfl), good_of_word (by decide +kernel)⟩
set_option maxRecDepth 100000 in
theorem GW_830 : GWd (Cond.code yX3_followPecks cX3_followPecks 3 none) := ⟨lwm_4 (List.mem_of_getElem? (i := 50) rfl), good_of_word (by decide +kernel)⟩
set_option maxRecDepth 100000 in
theorem GW_15 : GWd (Cond.selects RX3 yX3_followPecks yX3_followPecks) := ⟨List.mem_of_getElem? (i := 15) rfl, good_of_word (by decide +kernel)⟩
set_option maxRecDepth 100000 in
theorem GW_829 : GWd (Cond.instanceMethod yX3_followPecks) := ⟨lwm_4 (List.mem_of_getElem? (i := 49) rfl), good_of_word (by decide +kernel)⟩
set_option maxRecDepth 100000 in
theorem GW_827 : GWd (Cond.methodLink RX3 34 yX3_followPecks) := ⟨lwm_4 (List.mem_of_getElem? (i := 47) rfl), good_of_word (by decide +kernel)⟩
theorem GL_wsX11_groups_r3 : GoodIn lw_tbl wsX11_groups_r3 := gw_c GW_2 (gw_c GW_582 (gw_c GW_202 (gw_c GW_103 (gw_c GW_583 (gw_c GW_584 (gw_c GW_585 (gw_c GW_586 (gw_c GW_100 (gw_c GW_587 (gw_c GW_827 (gw_c GW_829 (gw_c GW_15 (gw_c GW_830 (gw_c GW_354 (gw_c GW_831 (gw_c GW_592 (gw_c GW_593 (gw_c GW_594 (gw_c GW_652 (gw_c GW_61 (gw_c GW_653 (gw_c GW_833 (gw_c GW_599 (gw_n))))))))))))))))))))))))
set_option maxRecDepth 100000 in
theorem GW_841 : GWd (Cond.code yX3_comersTo cX3_comersTo 4 (some .int)) := ⟨lwm_4 (List.mem_of_getElem? (i := 61) rfl), good_of_word (by decide +kernel)⟩
set_option maxRecDepth 100000 in
theorem GW_17 : GWd (Cond.selects RX3 yX3_comersTo yX3_comersTo) := ⟨List.mem_of_getElem? (i := 17) rfl, good_of_word (by decide +kernel)⟩
set_option maxRecDepth 100000 in
theorem GW_840 : GWd (Cond.instanceMethod yX3_comersTo) := ⟨lwm_4 (List.mem_of_getElem? (i := 60) rfl), good_of_word (by decide +kernel)⟩
set_option maxRecDepth 100000 in
theorem GW_838 : GWd (Cond.methodLink RX3 57 yX3_comersTo) := ⟨lwm_4 (List.mem_of_getElem? (i := 58) rfl), good_of_word (by decide +kernel)⟩
set_option maxRecDepth 100000 in
theorem GW_837 : GWd (Cond.code yX3_nextGroup cX3_nextGroup 4 (some .int)) := ⟨lwm_4 (List.mem_of_getElem? (i := 57) rfl), good_of_word (by decide +kernel)⟩
set_option maxRecDepth 100000 in
theorem GW_16 : GWd (Cond.selects RX3 yX3_nextGroup yX3_nextGroup) := ⟨List.mem_of_getElem? (i := 16) rfl, good_of_word (by decide +kernel)⟩
set_option maxRecDepth 100000 in
theorem GW_836 : GWd (Cond.instanceMethod yX3_nextGroup) := ⟨lwm_4 (List.mem_of_getElem? (i := 56) rfl), good_of_word (by decide +kernel)⟩
set_option maxRecDepth 100000 in
theorem GW_834 : GWd (Cond.methodLink RX3 45 yX3_nextGroup) := ⟨lwm_4 (List.mem_of_getElem? (i := 54) rfl), good_of_word (by decide +kernel)⟩
theorem GL_wsX11_groups_r4 : GoodIn lw_tbl wsX11_groups_r4 := gw_c GW_600 (gw_c GW_601 (gw_c GW_834 (gw_c GW_836 (gw_c GW_16 (gw_c GW_837 (gw_c GW_838 (gw_c GW_840 (gw_c GW_17 (gw_c GW_841 (gw_n))))))))))
theorem GL_wsX11_groups : GoodIn lw_tbl wsX11_groups := gw_c GW_821 (gw_a (gw_a (gw_a (gw_a (gw_a (GL_wsX11_groups_r1) (gw_a (GL_wsX11_groups_r2) (gw_a (GL_wsX11_groups_r3) (GL_wsX11_groups_r4)))) (GL_wsX110)) (GL_wsX30)) (GL_wsX80)) (GL_wsX20))
set_option maxRecDepth 100000 in
theorem GW_818 : GWd (Cond.methodLink RL 116 yX11_groups) := ⟨lwm_4 (List.mem_of_getElem? (i := 38) rfl), good_of_word (by decide +kernel)⟩
set_option maxRecDepth 100000 in
theorem GW_819 : GWd (Cond.instanceMethod yX11_groups) := ⟨lwm_4 (List.mem_of_getElem? (i := 39) rfl), good_of_word (by decide +kernel)⟩
set_option maxRecDepth 100000 in
theorem GW_820 : GWd (Cond.selects RX11 yX11_groups yX11_groups) := ⟨lwm_4 (List.mem_of_getElem? (i := 40) rfl), good_of_word (by decide +kernel)⟩
set_option maxRecDepth 100000 in
theorem GW_845 : GWd (Cond.code yX11_groupOf cX11_groupOf 2 (some .long)) := ⟨lwm_4 (List.mem_of_getElem? (i := 65) rfl), good_of_word (by decide +kernel)⟩
set_option maxRecDepth 100000 in
theorem GW_353 : GWd (Cond.fieldLink RX11 229 "PeckYard$Groups" "groupAt" "[I") := ⟨lwm_2 (List.mem_of_getElem? (i := 53) rfl), good_of_word (by decide +kernel)⟩
theorem GL_wsX11_groupOf_r1 : GoodIn lw_tbl wsX11_groupOf_r1 := gw_c GW_420 (gw_c GW_462 (gw_c GW_537 (gw_c GW_426 (gw_c GW_353 (gw_c GW_422 (gw_c GW_199 (gw_c GW_487 (gw_c GW_488 (gw_c GW_489 (gw_c GW_62 (gw_c GW_490 (gw_c GW_92 (gw_c GW_532 (gw_c GW_533 (gw_c GW_534 (gw_c GW_535 (gw_c GW_97 (gw_c GW_104 (gw_c GW_536 (gw_c GW_822 (gw_c GW_823 (gw_c GW_824 (gw_c GW_70 (gw_n))))))))))))))))))))))))
theorem GL_wsX11_groupOf_r2 : GoodIn lw_tbl wsX11_groupOf_r2 := gw_c GW_825 (gw_c GW_348 (gw_c GW_349 (gw_c GW_183 (gw_c GW_350 (gw_c GW_188 (gw_c GW_352 (gw_c GW_826 (gw_c GW_571 (gw_c GW_572 (gw_c GW_65 (gw_c GW_573 (gw_c GW_180 (gw_c GW_179 (gw_c GW_95 (gw_c GW_186 (gw_c GW_197 (gw_c GW_192 (gw_c GW_200 (gw_c GW_98 (gw_c GW_204 (gw_c GW_207 (gw_c GW_574 (gw_c GW_575 (gw_n))))))))))))))))))))))))
theorem GL_wsX11_groupOf_r3 : GoodIn lw_tbl wsX11_groupOf_r3 := gw_c GW_577 (gw_c GW_1 (gw_c GW_578 (gw_c GW_210 (gw_c GW_112 (gw_c GW_579 (gw_c GW_581 (gw_c GW_2 (gw_c GW_582 (gw_c GW_202 (gw_c GW_103 (gw_c GW_583 (gw_c GW_584 (gw_c GW_585 (gw_c GW_586 (gw_c GW_100 (gw_c GW_587 (gw_c GW_827 (gw_c GW_829 (gw_c GW_15 (gw_c GW_830 (gw_c GW_354 (gw_c GW_831 (gw_c GW_592 (gw_n))))))))))))))))))))))))
theorem GL_wsX11_groupOf_r4 : GoodIn lw_tbl wsX11_groupOf_r4 := gw_c GW_593 (gw_c GW_594 (gw_c GW_652 (gw_c GW_61 (gw_c GW_653 (gw_c GW_833 (gw_c GW_599 (gw_c GW_600 (gw_c GW_601 (gw_c GW_834 (gw_c GW_836 (gw_c GW_16 (gw_c GW_837 (gw_c GW_838 (gw_c GW_840 (gw_c GW_17 (gw_c GW_841 (gw_n)))))))))))))))))
theorem GL_wsX11_groupOf : GoodIn lw_tbl wsX11_groupOf := gw_c GW_845 (gw_a (gw_a (gw_a (gw_a (gw_a (GL_wsX11_groupOf_r1) (gw_a (GL_wsX11_groupOf_r2) (gw_a (GL_wsX11_groupOf_r3) (GL_wsX11_groupOf_r4)))) (GL_wsX110)) (GL_wsX30)) (GL_wsX80)) (GL_wsX20))
set_option maxRecDepth 100000 in
theorem GW_842 : GWd (Cond.methodLink RL 120 yX11_groupOf) := ⟨lwm_4 (List.mem_of_getElem? (i := 62) rfl), good_of_word (by decide +kernel)⟩
set_option maxRecDepth 100000 in
theorem GW_843 : GWd (Cond.instanceMethod yX11_groupOf) := ⟨lwm_4 (List.mem_of_getElem? (i := 63) rfl), good_of_word (by decide +kernel)⟩
set_option maxRecDepth 100000 in
theorem GW_844 : GWd (Cond.selects RX11 yX11_groupOf yX11_groupOf) := ⟨lwm_4 (List.mem_of_getElem? (i := 64) rfl), good_of_word (by decide +kernel)⟩
set_option maxRecDepth 100000 in
theorem GW_849 : GWd (Cond.code yX11_loose cX11_loose 1 (some .long)) := ⟨lwm_4 (List.mem_of_getElem? (i := 69) rfl), good_of_word (by decide +kernel)⟩
set_option maxRecDepth 100000 in
theorem GW_275 : GWd (Cond.fieldLink RX9 120 "PeckYard$Orders" "looseLeast" "I") := ⟨lwm_1 (List.mem_of_getElem? (i := 215) rfl), good_of_word (by decide +kernel)⟩
set_option maxRecDepth 100000 in
theorem GW_853 : GWd (Cond.code yX9_looseWeight cX9_looseWeight 1 (some .long)) := ⟨lwm_4 (List.mem_of_getElem? (i := 73) rfl), good_of_word (by decide +kernel)⟩
set_option maxRecDepth 100000 in
theorem GW_852 : GWd (Cond.selects RX9 yX9_looseWeight yX9_looseWeight) := ⟨lwm_4 (List.mem_of_getElem? (i := 72) rfl), good_of_word (by decide +kernel)⟩
set_option maxRecDepth 100000 in
theorem GW_851 : GWd (Cond.instanceMethod yX9_looseWeight) := ⟨lwm_4 (List.mem_of_getElem? (i := 71) rfl), good_of_word (by decide +kernel)⟩
set_option maxRecDepth 100000 in
theorem GW_850 : GWd (Cond.methodLink RX11 232 yX9_looseWeight) := ⟨lwm_4 (List.mem_of_getElem? (i := 70) rfl), good_of_word (by decide +kernel)⟩
theorem GL_wsX11_loose_r1 : GoodIn lw_tbl wsX11_loose_r1 := gw_c GW_423 (gw_c GW_850 (gw_c GW_851 (gw_c GW_852 (gw_c GW_66 (gw_c GW_853 (gw_c GW_271 (gw_c GW_274 (gw_c GW_270 (gw_c GW_182 (gw_c GW_275 (gw_c GW_566 (gw_c GW_567 (gw_c GW_568 (gw_c GW_67 (gw_c GW_569 (gw_c GW_244 (gw_c GW_245 (gw_c GW_181 (gw_c GW_187 (gw_c GW_248 (gw_c GW_249 (gw_c GW_205 (gw_c GW_250 (gw_n))))))))))))))))))))))))
theorem GL_wsX11_loose_r2 : GoodIn lw_tbl wsX11_loose_r2 := gw_c GW_251 (gw_c GW_209 (gw_c GW_246 (gw_c GW_247 (gw_c GW_570 (gw_c GW_571 (gw_c GW_572 (gw_c GW_65 (gw_c GW_573 (gw_c GW_180 (gw_c GW_179 (gw_c GW_95 (gw_c GW_186 (gw_c GW_197 (gw_c GW_192 (gw_c GW_200 (gw_c GW_98 (gw_c GW_204 (gw_c GW_207 (gw_c GW_574 (gw_c GW_533 (gw_c GW_534 (gw_c GW_62 (gw_c GW_535 (gw_n))))))))))))))))))))))))
theorem GL_wsX11_loose_r3 : GoodIn lw_tbl wsX11_loose_r3 := gw_c GW_97 (gw_c GW_104 (gw_c GW_536 (gw_c GW_488 (gw_c GW_489 (gw_c GW_490 (gw_c GW_92 (gw_c GW_575 (gw_c GW_577 (gw_c GW_1 (gw_c GW_578 (gw_c GW_210 (gw_c GW_112 (gw_c GW_579 (gw_c GW_581 (gw_c GW_2 (gw_c GW_582 (gw_c GW_202 (gw_c GW_103 (gw_c GW_583 (gw_c GW_584 (gw_c GW_585 (gw_c GW_586 (gw_c GW_100 (gw_n))))))))))))))))))))))))
set_option maxRecDepth 100000 in
theorem GW_857 : GWd (Cond.code yX9_loosen cX9_loosen 7 none) := ⟨lwm_4 (List.mem_of_getElem? (i := 77) rfl), good_of_word (by decide +kernel)⟩
set_option maxRecDepth 100000 in
theorem GW_18 : GWd (Cond.selects RX9 yX9_loosen yX9_loosen) := ⟨List.mem_of_getElem? (i := 18) rfl, good_of_word (by decide +kernel)⟩
set_option maxRecDepth 100000 in
theorem GW_856 : GWd (Cond.instanceMethod yX9_loosen) := ⟨lwm_4 (List.mem_of_getElem? (i := 76) rfl), good_of_word (by decide +kernel)⟩
set_option maxRecDepth 100000 in
theorem GW_854 : GWd (Cond.methodLink RX9 117 yX9_loosen) := ⟨lwm_4 (List.mem_of_getElem? (i := 74) rfl), good_of_word (by decide +kernel)⟩
theorem GL_wsX11_loose_r4 : GoodIn lw_tbl wsX11_loose_r4 := gw_c GW_587 (gw_c GW_588 (gw_c GW_589 (gw_c GW_590 (gw_c GW_591 (gw_c GW_592 (gw_c GW_593 (gw_c GW_594 (gw_c GW_595 (gw_c GW_596 (gw_c GW_597 (gw_c GW_854 (gw_c GW_856 (gw_c GW_18 (gw_c GW_857 (gw_c GW_278 (gw_c GW_129 (gw_c GW_618 (gw_c GW_598 (gw_c GW_599 (gw_c GW_600 (gw_c GW_601 (gw_c GW_619 (gw_c GW_620 (gw_n))))))))))))))))))))))))
theorem GL_wsX11_loose_r5 : GoodIn lw_tbl wsX11_loose_r5 := gw_c GW_621 (gw_c GW_622 (gw_n))
theorem GL_wsX11_loose : GoodIn lw_tbl wsX11_loose := gw_c GW_849 (gw_a (gw_a (gw_a (gw_a (gw_a (gw_a (GL_wsX11_loose_r1) (gw_a (GL_wsX11_loose_r2) (gw_a (GL_wsX11_loose_r3) (gw_a (GL_wsX11_loose_r4) (GL_wsX11_loose_r5))))) (GL_wsX110)) (GL_wsX90)) (GL_wsX80)) (GL_wsX40)) (GL_wsX20))
set_option maxRecDepth 100000 in
theorem GW_846 : GWd (Cond.methodLink RL 124 yX11_loose) := ⟨lwm_4 (List.mem_of_getElem? (i := 66) rfl), good_of_word (by decide +kernel)⟩
set_option maxRecDepth 100000 in
theorem GW_847 : GWd (Cond.instanceMethod yX11_loose) := ⟨lwm_4 (List.mem_of_getElem? (i := 67) rfl), good_of_word (by decide +kernel)⟩
set_option maxRecDepth 100000 in
theorem GW_848 : GWd (Cond.selects RX11 yX11_loose yX11_loose) := ⟨lwm_4 (List.mem_of_getElem? (i := 68) rfl), good_of_word (by decide +kernel)⟩
set_option maxRecDepth 100000 in
theorem GW_861 : GWd (Cond.code yX11_pack cX11_pack 1 (some .long)) := ⟨lwm_4 (List.mem_of_getElem? (i := 81) rfl), good_of_word (by decide +kernel)⟩
set_option maxRecDepth 100000 in
theorem GW_866 : GWd (Cond.methodLink RX10 40 yX8_gather) := ⟨lwm_4 (List.mem_of_getElem? (i := 86) rfl), good_of_word (by decide +kernel)⟩
set_option maxRecDepth 100000 in
theorem GW_373 : GWd (Cond.fieldLink RX10 48 "PeckYard$Rings" "size" "I") := ⟨lwm_2 (List.mem_of_getElem? (i := 73) rfl), good_of_word (by decide +kernel)⟩
set_option maxRecDepth 100000 in
theorem GW_865 : GWd (Cond.code yX10_packAll cX10_packAll 6 (some .long)) := ⟨lwm_4 (List.mem_of_getElem? (i := 85) rfl), good_of_word (by decide +kernel)⟩
set_option maxRecDepth 100000 in
theorem GW_864 : GWd (Cond.selects RX10 yX10_packAll yX10_packAll) := ⟨lwm_4 (List.mem_of_getElem? (i := 84) rfl), good_of_word (by decide +kernel)⟩
set_option maxRecDepth 100000 in
theorem GW_863 : GWd (Cond.instanceMethod yX10_packAll) := ⟨lwm_4 (List.mem_of_getElem? (i := 83) rfl), good_of_word (by decide +kernel)⟩
set_option maxRecDepth 100000 in
theorem GW_862 : GWd (Cond.methodLink RX11 235 yX10_packAll) := ⟨lwm_4 (List.mem_of_getElem? (i := 82) rfl), good_of_word (by decide +kernel)⟩
theorem GL_wsX11_pack_r1 : GoodIn lw_tbl wsX11_pack_r1 := gw_c GW_427 (gw_c GW_862 (gw_c GW_863 (gw_c GW_864 (gw_c GW_71 (gw_c GW_865 (gw_c GW_372 (gw_c GW_373 (gw_c GW_866 (gw_c GW_571 (gw_c GW_572 (gw_c GW_65 (gw_c GW_573 (gw_c GW_180 (gw_c GW_179 (gw_c GW_95 (gw_c GW_186 (gw_c GW_197 (gw_c GW_192 (gw_c GW_200 (gw_c GW_98 (gw_c GW_204 (gw_c GW_207 (gw_c GW_574 (gw_n))))))))))))))))))))))))
theorem GL_wsX11_pack_r2 : GoodIn lw_tbl wsX11_pack_r2 := gw_c GW_533 (gw_c GW_534 (gw_c GW_62 (gw_c GW_535 (gw_c GW_97 (gw_c GW_104 (gw_c GW_536 (gw_c GW_488 (gw_c GW_489 (gw_c GW_490 (gw_c GW_92 (gw_c GW_575 (gw_c GW_577 (gw_c GW_1 (gw_c GW_578 (gw_c GW_210 (gw_c GW_112 (gw_c GW_579 (gw_c GW_581 (gw_c GW_2 (gw_c GW_582 (gw_c GW_202 (gw_c GW_103 (gw_c GW_583 (gw_n))))))))))))))))))))))))
set_option maxRecDepth 100000 in
theorem GW_20 : GWd (Cond.selects RX10 yX10_findShortest yX10_findShortest) := ⟨List.mem_of_getElem? (i := 20) rfl, good_of_word (by decide +kernel)⟩
set_option maxRecDepth 100000 in
theorem GW_875 : GWd (Cond.instanceMethod yX10_findShortest) := ⟨lwm_4 (List.mem_of_getElem? (i := 95) rfl), good_of_word (by decide +kernel)⟩
set_option maxRecDepth 100000 in
theorem GW_873 : GWd (Cond.methodLink RX10 52 yX10_findShortest) := ⟨lwm_4 (List.mem_of_getElem? (i := 93) rfl), good_of_word (by decide +kernel)⟩
set_option maxRecDepth 100000 in
theorem GW_872 : GWd (Cond.methodLink RX10 71 yX8_peckOf) := ⟨lwm_4 (List.mem_of_getElem? (i := 92) rfl), good_of_word (by decide +kernel)⟩
set_option maxRecDepth 100000 in
theorem GW_871 : GWd (Cond.methodLink RX10 64 yJ7_fill_53178) := ⟨lwm_4 (List.mem_of_getElem? (i := 91) rfl), good_of_word (by decide +kernel)⟩
set_option maxRecDepth 100000 in
theorem GW_189 : GWd (Cond.fieldLink RX10 70 "PeckYard$Muster" "size" "I") := ⟨lwm_1 (List.mem_of_getElem? (i := 129) rfl), good_of_word (by decide +kernel)⟩
set_option maxRecDepth 100000 in
theorem GW_870 : GWd (Cond.code yX10_takeAllPecks cX10_takeAllPecks 4 none) := ⟨lwm_4 (List.mem_of_getElem? (i := 90) rfl), good_of_word (by decide +kernel)⟩
set_option maxRecDepth 100000 in
theorem GW_19 : GWd (Cond.selects RX10 yX10_takeAllPecks yX10_takeAllPecks) := ⟨List.mem_of_getElem? (i := 19) rfl, good_of_word (by decide +kernel)⟩
set_option maxRecDepth 100000 in
theorem GW_869 : GWd (Cond.instanceMethod yX10_takeAllPecks) := ⟨lwm_4 (List.mem_of_getElem? (i := 89) rfl), good_of_word (by decide +kernel)⟩
set_option maxRecDepth 100000 in
theorem GW_867 : GWd (Cond.methodLink RX10 45 yX10_takeAllPecks) := ⟨lwm_4 (List.mem_of_getElem? (i := 87) rfl), good_of_word (by decide +kernel)⟩
theorem GL_wsX11_pack_r3 : GoodIn lw_tbl wsX11_pack_r3 := gw_c GW_584 (gw_c GW_585 (gw_c GW_586 (gw_c GW_100 (gw_c GW_587 (gw_c GW_867 (gw_c GW_869 (gw_c GW_19 (gw_c GW_870 (gw_c GW_379 (gw_c GW_380 (gw_c GW_189 (gw_c GW_378 (gw_c GW_871 (gw_c GW_685 (gw_c GW_76 (gw_c GW_686 (gw_c GW_872 (gw_c GW_592 (gw_c GW_593 (gw_c GW_594 (gw_c GW_873 (gw_c GW_875 (gw_c GW_20 (gw_n))))))))))))))))))))))))
set_option maxRecDepth 100000 in
theorem GW_892 : GWd (Cond.static yX10_leastOf) := ⟨lwm_4 (List.mem_of_getElem? (i := 112) rfl), good_of_word (by decide +kernel)⟩
set_option maxRecDepth 100000 in
theorem GW_891 : GWd (Cond.methodLink RX10 91 yX10_leastOf) := ⟨lwm_4 (List.mem_of_getElem? (i := 111) rfl), good_of_word (by decide +kernel)⟩
set_option maxRecDepth 100000 in
theorem GW_890 : GWd (Cond.code yX10_trace cX10_trace 5 none) := ⟨lwm_4 (List.mem_of_getElem? (i := 110) rfl), good_of_word (by decide +kernel)⟩
set_option maxRecDepth 100000 in
theorem GW_23 : GWd (Cond.selects RX10 yX10_trace yX10_trace) := ⟨List.mem_of_getElem? (i := 23) rfl, good_of_word (by decide +kernel)⟩
set_option maxRecDepth 100000 in
theorem GW_889 : GWd (Cond.instanceMethod yX10_trace) := ⟨lwm_4 (List.mem_of_getElem? (i := 109) rfl), good_of_word (by decide +kernel)⟩
set_option maxRecDepth 100000 in
theorem GW_887 : GWd (Cond.methodLink RX10 78 yX10_trace) := ⟨lwm_4 (List.mem_of_getElem? (i := 107) rfl), good_of_word (by decide +kernel)⟩
set_option maxRecDepth 100000 in
theorem GW_885 : GWd (Cond.code yX10_peckersOfSet cX10_peckersOfSet 4 (some .int)) := ⟨lwm_4 (List.mem_of_getElem? (i := 105) rfl), good_of_word (by decide +kernel)⟩
set_option maxRecDepth 100000 in
theorem GW_22 : GWd (Cond.selects RX10 yX10_peckersOfSet yX10_peckersOfSet) := ⟨List.mem_of_getElem? (i := 22) rfl, good_of_word (by decide +kernel)⟩
set_option maxRecDepth 100000 in
theorem GW_884 : GWd (Cond.instanceMethod yX10_peckersOfSet) := ⟨lwm_4 (List.mem_of_getElem? (i := 104) rfl), good_of_word (by decide +kernel)⟩
set_option maxRecDepth 100000 in
theorem GW_882 : GWd (Cond.methodLink RX10 84 yX10_peckersOfSet) := ⟨lwm_4 (List.mem_of_getElem? (i := 102) rfl), good_of_word (by decide +kernel)⟩
set_option maxRecDepth 100000 in
theorem GW_881 : GWd (Cond.methodLink RX10 81 yX8_all) := ⟨lwm_4 (List.mem_of_getElem? (i := 101) rfl), good_of_word (by decide +kernel)⟩
set_option maxRecDepth 100000 in
theorem GW_880 : GWd (Cond.code yX10_lengthFrom cX10_lengthFrom 5 (some .int)) := ⟨lwm_4 (List.mem_of_getElem? (i := 100) rfl), good_of_word (by decide +kernel)⟩
set_option maxRecDepth 100000 in
theorem GW_21 : GWd (Cond.selects RX10 yX10_lengthFrom yX10_lengthFrom) := ⟨List.mem_of_getElem? (i := 21) rfl, good_of_word (by decide +kernel)⟩
set_option maxRecDepth 100000 in
theorem GW_879 : GWd (Cond.instanceMethod yX10_lengthFrom) := ⟨lwm_4 (List.mem_of_getElem? (i := 99) rfl), good_of_word (by decide +kernel)⟩
set_option maxRecDepth 100000 in
theorem GW_877 : GWd (Cond.methodLink RX10 75 yX10_lengthFrom) := ⟨lwm_4 (List.mem_of_getElem? (i := 97) rfl), good_of_word (by decide +kernel)⟩
set_option maxRecDepth 100000 in
theorem GW_876 : GWd (Cond.code yX10_findShortest cX10_findShortest 5 (some .int)) := ⟨lwm_4 (List.mem_of_getElem? (i := 96) rfl), good_of_word (by decide +kernel)⟩
theorem GL_wsX11_pack_r4 : GoodIn lw_tbl wsX11_pack_r4 := gw_c GW_876 (gw_c GW_877 (gw_c GW_879 (gw_c GW_21 (gw_c GW_880 (gw_c GW_381 (gw_c GW_881 (gw_c GW_599 (gw_c GW_600 (gw_c GW_601 (gw_c GW_882 (gw_c GW_884 (gw_c GW_22 (gw_c GW_885 (gw_c GW_652 (gw_c GW_61 (gw_c GW_653 (gw_c GW_887 (gw_c GW_889 (gw_c GW_23 (gw_c GW_890 (gw_c GW_382 (gw_c GW_891 (gw_c GW_892 (gw_n))))))))))))))))))))))))
set_option maxRecDepth 100000 in
theorem GW_26 : GWd (Cond.selects RX10 yX10_keepFound yX10_keepFound) := ⟨List.mem_of_getElem? (i := 26) rfl, good_of_word (by decide +kernel)⟩
set_option maxRecDepth 100000 in
theorem GW_907 : GWd (Cond.instanceMethod yX10_keepFound) := ⟨lwm_4 (List.mem_of_getElem? (i := 127) rfl), good_of_word (by decide +kernel)⟩
set_option maxRecDepth 100000 in
theorem GW_905 : GWd (Cond.methodLink RX10 60 yX10_keepFound) := ⟨lwm_4 (List.mem_of_getElem? (i := 125) rfl), good_of_word (by decide +kernel)⟩
set_option maxRecDepth 100000 in
theorem GW_903 : GWd (Cond.code yX10_foundPeck cX10_foundPeck 4 (some .int)) := ⟨lwm_4 (List.mem_of_getElem? (i := 123) rfl), good_of_word (by decide +kernel)⟩
set_option maxRecDepth 100000 in
theorem GW_25 : GWd (Cond.selects RX10 yX10_foundPeck yX10_foundPeck) := ⟨List.mem_of_getElem? (i := 25) rfl, good_of_word (by decide +kernel)⟩
set_option maxRecDepth 100000 in
theorem GW_902 : GWd (Cond.instanceMethod yX10_foundPeck) := ⟨lwm_4 (List.mem_of_getElem? (i := 122) rfl), good_of_word (by decide +kernel)⟩
set_option maxRecDepth 100000 in
theorem GW_900 : GWd (Cond.methodLink RX10 100 yX10_foundPeck) := ⟨lwm_4 (List.mem_of_getElem? (i := 120) rfl), good_of_word (by decide +kernel)⟩
set_option maxRecDepth 100000 in
theorem GW_904 : GWd (Cond.methodLink RX10 103 Lib.Math.min.name) := ⟨lwm_4 (List.mem_of_getElem? (i := 124) rfl), good_of_word (by decide +kernel)⟩
set_option maxRecDepth 100000 in
theorem GW_899 : GWd (Cond.constant RX10 99 (1000000)) := ⟨lwm_4 (List.mem_of_getElem? (i := 119) rfl), good_of_word (by decide +kernel)⟩
set_option maxRecDepth 100000 in
theorem GW_898 : GWd (Cond.code yX10_useUp cX10_useUp 5 (some .int)) := ⟨lwm_4 (List.mem_of_getElem? (i := 118) rfl), good_of_word (by decide +kernel)⟩
set_option maxRecDepth 100000 in
theorem GW_24 : GWd (Cond.selects RX10 yX10_useUp yX10_useUp) := ⟨List.mem_of_getElem? (i := 24) rfl, good_of_word (by decide +kernel)⟩
set_option maxRecDepth 100000 in
theorem GW_897 : GWd (Cond.instanceMethod yX10_useUp) := ⟨lwm_4 (List.mem_of_getElem? (i := 117) rfl), good_of_word (by decide +kernel)⟩
set_option maxRecDepth 100000 in
theorem GW_895 : GWd (Cond.methodLink RX10 56 yX10_useUp) := ⟨lwm_4 (List.mem_of_getElem? (i := 115) rfl), good_of_word (by decide +kernel)⟩
set_option maxRecDepth 100000 in
theorem GW_894 : GWd (Cond.methodLink RX10 94 yJ6_bitCount_0f7a4) := ⟨lwm_4 (List.mem_of_getElem? (i := 114) rfl), good_of_word (by decide +kernel)⟩
set_option maxRecDepth 100000 in
theorem GW_893 : GWd (Cond.code yX10_leastOf cX10_leastOf 1 (some .int)) := ⟨lwm_4 (List.mem_of_getElem? (i := 113) rfl), good_of_word (by decide +kernel)⟩
theorem GL_wsX11_pack_r5 : GoodIn lw_tbl wsX11_pack_r5 := gw_c GW_893 (gw_c GW_894 (gw_c GW_702 (gw_c GW_77 (gw_c GW_703 (gw_c GW_704 (gw_c GW_705 (gw_c GW_706 (gw_c GW_895 (gw_c GW_897 (gw_c GW_24 (gw_c GW_898 (gw_c GW_899 (gw_c GW_904 (gw_c GW_473 (gw_c GW_74 (gw_c GW_474 (gw_c GW_900 (gw_c GW_902 (gw_c GW_25 (gw_c GW_903 (gw_c GW_905 (gw_c GW_907 (gw_c GW_26 (gw_n))))))))))))))))))))))))
set_option maxRecDepth 100000 in
theorem GW_196 : GWd (Cond.fieldLink RX10 108 "PeckYard$Muster" "hens" "[I") := ⟨lwm_1 (List.mem_of_getElem? (i := 136) rfl), good_of_word (by decide +kernel)⟩
set_option maxRecDepth 100000 in
theorem GW_908 : GWd (Cond.code yX10_keepFound cX10_keepFound 4 none) := ⟨lwm_4 (List.mem_of_getElem? (i := 128) rfl), good_of_word (by decide +kernel)⟩
theorem GL_wsX11_pack_r6 : GoodIn lw_tbl wsX11_pack_r6 := gw_c GW_908 (gw_c GW_375 (gw_c GW_376 (gw_c GW_377 (gw_c GW_196 (gw_n)))))
theorem GL_wsX11_pack : GoodIn lw_tbl wsX11_pack := gw_c GW_861 (gw_a (gw_a (gw_a (gw_a (gw_a (GL_wsX11_pack_r1) (gw_a (GL_wsX11_pack_r2) (gw_a (GL_wsX11_pack_r3) (gw_a (GL_wsX11_pack_r4) (gw_a (GL_wsX11_pack_r5) (GL_wsX11_pack_r6)))))) (GL_wsX110)) (GL_wsX100)) (GL_wsX80)) (GL_wsX20))
set_option maxRecDepth 100000 in
theorem GW_858 : GWd (Cond.methodLink RL 128 yX11_pack) := ⟨lwm_4 (List.mem_of_getElem? (i := 78) rfl), good_of_word (by decide +kernel)⟩
set_option maxRecDepth 100000 in
theorem GW_859 : GWd (Cond.instanceMethod yX11_pack) := ⟨lwm_4 (List.mem_of_getElem? (i := 79) rfl), good_of_word (by decide +kernel)⟩
set_option maxRecDepth 100000 in
theorem GW_860 : GWd (Cond.selects RX11 yX11_pack yX11_pack) := ⟨lwm_4 (List.mem_of_getElem? (i := 80) rfl), good_of_word (by decide +kernel)⟩
set_option maxRecDepth 100000 in
theorem GW_912 : GWd (Cond.code yX11_ring cX11_ring 3 (some .long)) := ⟨lwm_4 (List.mem_of_getElem? (i := 132) rfl), good_of_word (by decide +kernel)⟩
set_option maxRecDepth 100000 in
theorem GW_917 : GWd (Cond.constantLong RX10 111 (-2000000005)) := ⟨lwm_4 (List.mem_of_getElem? (i := 137) rfl), good_of_word (by decide +kernel)⟩
set_option maxRecDepth 100000 in
theorem GW_916 : GWd (Cond.code yX10_tell cX10_tell 3 (some .long)) := ⟨lwm_4 (List.mem_of_getElem? (i := 136) rfl), good_of_word (by decide +kernel)⟩
set_option maxRecDepth 100000 in
theorem GW_915 : GWd (Cond.selects RX10 yX10_tell yX10_tell) := ⟨lwm_4 (List.mem_of_getElem? (i := 135) rfl), good_of_word (by decide +kernel)⟩
set_option maxRecDepth 100000 in
theorem GW_914 : GWd (Cond.instanceMethod yX10_tell) := ⟨lwm_4 (List.mem_of_getElem? (i := 134) rfl), good_of_word (by decide +kernel)⟩
set_option maxRecDepth 100000 in
theorem GW_913 : GWd (Cond.methodLink RX11 239 yX10_tell) := ⟨lwm_4 (List.mem_of_getElem? (i := 133) rfl), good_of_word (by decide +kernel)⟩
set_option maxRecDepth 100000 in
theorem GW_374 : GWd (Cond.fieldLink RX11 238 "PeckYard$Rings" "size" "I") := ⟨lwm_2 (List.mem_of_getElem? (i := 74) rfl), good_of_word (by decide +kernel)⟩
theorem GL_wsX11_ring : GoodIn lw_tbl wsX11_ring := gw_c GW_912 (gw_a (gw_a (gw_c GW_462 (gw_c GW_427 (gw_c GW_374 (gw_c GW_537 (gw_c GW_913 (gw_c GW_914 (gw_c GW_915 (gw_c GW_71 (gw_c GW_916 (gw_c GW_375 (gw_c GW_376 (gw_c GW_377 (gw_c GW_917 (gw_n)))))))))))))) (GL_wsX110)) (GL_wsX100))
set_option maxRecDepth 100000 in
theorem GW_909 : GWd (Cond.methodLink RL 132 yX11_ring) := ⟨lwm_4 (List.mem_of_getElem? (i := 129) rfl), good_of_word (by decide +kernel)⟩
set_option maxRecDepth 100000 in
theorem GW_910 : GWd (Cond.instanceMethod yX11_ring) := ⟨lwm_4 (List.mem_of_getElem? (i := 130) rfl), good_of_word (by decide +kernel)⟩
set_option maxRecDepth 100000 in
theorem GW_911 : GWd (Cond.selects RX11 yX11_ring yX11_ring) := ⟨lwm_4 (List.mem_of_getElem? (i := 131) rfl), good_of_word (by decide +kernel)⟩
set_option maxRecDepth 100000 in
theorem GW_921 : GWd (Cond.code yX11_count cX11_count 2 (some .long)) := ⟨lwm_4 (List.mem_of_getElem? (i := 141) rfl), good_of_word (by decide +kernel)⟩
set_option maxRecDepth 100000 in
theorem GW_922 : GWd (Cond.methodLink RX11 243 yX8_gather) := ⟨lwm_4 (List.mem_of_getElem? (i := 142) rfl), good_of_word (by decide +kernel)⟩
set_option maxRecDepth 100000 in
theorem GW_191 : GWd (Cond.fieldLink RX11 246 "PeckYard$Muster" "size" "I") := ⟨lwm_1 (List.mem_of_getElem? (i := 131) rfl), good_of_word (by decide +kernel)⟩
theorem GL_wsX11_count_r1 : GoodIn lw_tbl wsX11_count_r1 := gw_c GW_420 (gw_c GW_93 (gw_c GW_422 (gw_c GW_191 (gw_c GW_424 (gw_c GW_313 (gw_c GW_421 (gw_c GW_163 (gw_c GW_427 (gw_c GW_374 (gw_c GW_462 (gw_c GW_922 (gw_c GW_571 (gw_c GW_572 (gw_c GW_65 (gw_c GW_573 (gw_c GW_180 (gw_c GW_179 (gw_c GW_95 (gw_c GW_186 (gw_c GW_197 (gw_c GW_192 (gw_c GW_200 (gw_c GW_98 (gw_n))))))))))))))))))))))))
theorem GL_wsX11_count_r2 : GoodIn lw_tbl wsX11_count_r2 := gw_c GW_204 (gw_c GW_207 (gw_c GW_574 (gw_c GW_533 (gw_c GW_534 (gw_c GW_62 (gw_c GW_535 (gw_c GW_97 (gw_c GW_104 (gw_c GW_536 (gw_c GW_488 (gw_c GW_489 (gw_c GW_490 (gw_c GW_92 (gw_c GW_575 (gw_c GW_577 (gw_c GW_1 (gw_c GW_578 (gw_c GW_210 (gw_c GW_112 (gw_c GW_579 (gw_c GW_581 (gw_c GW_2 (gw_c GW_582 (gw_n))))))))))))))))))))))))
set_option maxRecDepth 100000 in
theorem GW_931 : GWd (Cond.code yX2_penCount cX2_penCount 3 (some .int)) := ⟨lwm_4 (List.mem_of_getElem? (i := 151) rfl), good_of_word (by decide +kernel)⟩
set_option maxRecDepth 100000 in
theorem GW_930 : GWd (Cond.selects RX2 yX2_penCount yX2_penCount) := ⟨lwm_4 (List.mem_of_getElem? (i := 150) rfl), good_of_word (by decide +kernel)⟩
set_option maxRecDepth 100000 in
theorem GW_929 : GWd (Cond.instanceMethod yX2_penCount) := ⟨lwm_4 (List.mem_of_getElem? (i := 149) rfl), good_of_word (by decide +kernel)⟩
set_option maxRecDepth 100000 in
theorem GW_928 : GWd (Cond.methodLink RX11 250 yX2_penCount) := ⟨lwm_4 (List.mem_of_getElem? (i := 148) rfl), good_of_word (by decide +kernel)⟩
set_option maxRecDepth 100000 in
theorem GW_927 : GWd (Cond.methodLink RX8 68 yX8_peckOf) := ⟨lwm_4 (List.mem_of_getElem? (i := 147) rfl), good_of_word (by decide +kernel)⟩
set_option maxRecDepth 100000 in
theorem GW_926 : GWd (Cond.code yX8_allPecks cX8_allPecks 5 (some .long)) := ⟨lwm_4 (List.mem_of_getElem? (i := 146) rfl), good_of_word (by decide +kernel)⟩
set_option maxRecDepth 100000 in
theorem GW_925 : GWd (Cond.selects RX8 yX8_allPecks yX8_allPecks) := ⟨lwm_4 (List.mem_of_getElem? (i := 145) rfl), good_of_word (by decide +kernel)⟩
set_option maxRecDepth 100000 in
theorem GW_924 : GWd (Cond.instanceMethod yX8_allPecks) := ⟨lwm_4 (List.mem_of_getElem? (i := 144) rfl), good_of_word (by decide +kernel)⟩
set_option maxRecDepth 100000 in
theorem GW_923 : GWd (Cond.methodLink RX11 247 yX8_allPecks) := ⟨lwm_4 (List.mem_of_getElem? (i := 143) rfl), good_of_word (by decide +kernel)⟩
theorem GL_wsX11_count_r3 : GoodIn lw_tbl wsX11_count_r3 := gw_c GW_202 (gw_c GW_103 (gw_c GW_583 (gw_c GW_584 (gw_c GW_585 (gw_c GW_586 (gw_c GW_100 (gw_c GW_587 (gw_c GW_923 (gw_c GW_924 (gw_c GW_925 (gw_c GW_926 (gw_c GW_927 (gw_c GW_592 (gw_c GW_593 (gw_c GW_594 (gw_c GW_928 (gw_c GW_929 (gw_c GW_930 (gw_c GW_931 (gw_c GW_107 (gw_n)))))))))))))))))))))
theorem GL_wsX11_count : GoodIn lw_tbl wsX11_count := gw_c GW_921 (gw_a (gw_a (gw_a (gw_a (gw_a (gw_a (gw_a (GL_wsX11_count_r1) (gw_a (GL_wsX11_count_r2) (GL_wsX11_count_r3))) (GL_wsX110)) (GL_wsX20)) (GL_wsX80)) (GL_wsX50)) (GL_wsX10)) (GL_wsX100))
set_option maxRecDepth 100000 in
theorem GW_918 : GWd (Cond.methodLink RL 136 yX11_count) := ⟨lwm_4 (List.mem_of_getElem? (i := 138) rfl), good_of_word (by decide +kernel)⟩
set_option maxRecDepth 100000 in
theorem GW_919 : GWd (Cond.instanceMethod yX11_count) := ⟨lwm_4 (List.mem_of_getElem? (i := 139) rfl), good_of_word (by decide +kernel)⟩
set_option maxRecDepth 100000 in
theorem GW_920 : GWd (Cond.selects RX11 yX11_count yX11_count) := ⟨lwm_4 (List.mem_of_getElem? (i := 140) rfl), good_of_word (by decide +kernel)⟩
set_option maxRecDepth 100000 in
theorem GW_936 : GWd (Cond.code yX12_init cX12_init 1 none) := ⟨lwm_4 (List.mem_of_getElem? (i := 156) rfl), good_of_word (by decide +kernel)⟩
set_option maxRecDepth 100000 in
theorem GW_941 : GWd (Cond.fieldLink RX12 49 "PeckYardModel" "kept" "I") := ⟨lwm_4 (List.mem_of_getElem? (i := 161) rfl), good_of_word (by decide +kernel)⟩
set_option maxRecDepth 100000 in
theorem GW_955 : GWd (Cond.fieldLink RX12 46 "PeckYardModel" "rings" "[J") := ⟨lwm_4 (List.mem_of_getElem? (i := 175) rfl), good_of_word (by decide +kernel)⟩
set_option maxRecDepth 100000 in
theorem GW_954 : GWd (Cond.fieldLink RX12 43 "PeckYardModel" "row" "[I") := ⟨lwm_4 (List.mem_of_getElem? (i := 174) rfl), good_of_word (by decide +kernel)⟩
set_option maxRecDepth 100000 in
theorem GW_953 : GWd (Cond.fieldLink RX12 40 "PeckYardModel" "left" "[I") := ⟨lwm_4 (List.mem_of_getElem? (i := 173) rfl), good_of_word (by decide +kernel)⟩
set_option maxRecDepth 100000 in
theorem GW_952 : GWd (Cond.fieldLink RX12 37 "PeckYardModel" "group" "[I") := ⟨lwm_4 (List.mem_of_getElem? (i := 172) rfl), good_of_word (by decide +kernel)⟩
set_option maxRecDepth 100000 in
theorem GW_951 : GWd (Cond.fieldLink RX12 34 "PeckYardModel" "reaches" "[Z") := ⟨lwm_4 (List.mem_of_getElem? (i := 171) rfl), good_of_word (by decide +kernel)⟩
set_option maxRecDepth 100000 in
theorem GW_950 : GWd (Cond.fieldLink RX12 31 "PeckYardModel" "block" "[I") := ⟨lwm_4 (List.mem_of_getElem? (i := 170) rfl), good_of_word (by decide +kernel)⟩
set_option maxRecDepth 100000 in
theorem GW_949 : GWd (Cond.fieldLink RX12 27 "PeckYardModel" "leads" "[Z") := ⟨lwm_4 (List.mem_of_getElem? (i := 169) rfl), good_of_word (by decide +kernel)⟩
set_option maxRecDepth 100000 in
theorem GW_995 : GWd (Cond.arrayClass .boolean) := ⟨lwm_4 (List.mem_of_getElem? (i := 215) rfl), good_of_word (by decide +kernel)⟩
set_option maxRecDepth 100000 in
theorem GW_945 : GWd (Cond.fieldLink RX12 24 "PeckYardModel" "waysOf" "[J") := ⟨lwm_4 (List.mem_of_getElem? (i := 165) rfl), good_of_word (by decide +kernel)⟩
set_option maxRecDepth 100000 in
theorem GW_944 : GWd (Cond.fieldLink RX12 20 "PeckYardModel" "leastOf" "[J") := ⟨lwm_4 (List.mem_of_getElem? (i := 164) rfl), good_of_word (by decide +kernel)⟩
set_option maxRecDepth 100000 in
theorem GW_994 : GWd (Cond.arrayClass .long) := ⟨lwm_4 (List.mem_of_getElem? (i := 214) rfl), good_of_word (by decide +kernel)⟩
set_option maxRecDepth 100000 in
theorem GW_938 : GWd (Cond.constant RX12 19 (53248)) := ⟨lwm_4 (List.mem_of_getElem? (i := 158) rfl), good_of_word (by decide +kernel)⟩
set_option maxRecDepth 100000 in
theorem GW_942 : GWd (Cond.fieldLink RX12 16 "PeckYardModel" "hand" "[I") := ⟨lwm_4 (List.mem_of_getElem? (i := 162) rfl), good_of_word (by decide +kernel)⟩
set_option maxRecDepth 100000 in
theorem GW_940 : GWd (Cond.fieldLink RX12 13 "PeckYardModel" "before" "[I") := ⟨lwm_4 (List.mem_of_getElem? (i := 160) rfl), good_of_word (by decide +kernel)⟩
set_option maxRecDepth 100000 in
theorem GW_939 : GWd (Cond.fieldLink RX12 7 "PeckYardModel" "s" "[I") := ⟨lwm_4 (List.mem_of_getElem? (i := 159) rfl), good_of_word (by decide +kernel)⟩
set_option maxRecDepth 100000 in
theorem GW_937 : GWd (Cond.methodLink RX12 1 objectInit) := ⟨lwm_4 (List.mem_of_getElem? (i := 157) rfl), good_of_word (by decide +kernel)⟩
theorem GL_wsX120 : GoodIn lw_tbl wsX120 := gw_f _ [957, 959, 961, 963, 965, 967, 969, 971, 973, 975, 977, 979, 981, 983, 985, 987, 989, 991] (by decide +kernel) (by decide +kernel)
theorem GL_wsX12_init : GoodIn lw_tbl wsX12_init := gw_c GW_936 (gw_a (gw_c GW_937 (gw_c GW_84 (gw_c GW_85 (gw_c GW_129 (gw_c GW_939 (gw_c GW_940 (gw_c GW_942 (gw_c GW_938 (gw_c GW_994 (gw_c GW_944 (gw_c GW_945 (gw_c GW_995 (gw_c GW_949 (gw_c GW_950 (gw_c GW_951 (gw_c GW_952 (gw_c GW_953 (gw_c GW_954 (gw_c GW_955 (gw_c GW_941 (gw_n))))))))))))))))))))) (GL_wsX120))
set_option maxRecDepth 100000 in
theorem GW_999 : GWd (Cond.code yX12_undo cX12_undo 2 (some .long)) := ⟨lwm_4 (List.mem_of_getElem? (i := 219) rfl), good_of_word (by decide +kernel)⟩
set_option maxRecDepth 100000 in
theorem GW_1000 : GWd (Cond.constantLong RX12 61 (-2000000002)) := ⟨lwm_4 (List.mem_of_getElem? (i := 220) rfl), good_of_word (by decide +kernel)⟩
theorem GL_wsX12_undo : GoodIn lw_tbl wsX12_undo := gw_c GW_999 (gw_a (gw_c GW_941 (gw_c GW_1000 (gw_c GW_939 (gw_c GW_940 (gw_n))))) (GL_wsX120))
set_option maxRecDepth 100000 in
theorem GW_996 : GWd (Cond.methodLink RL 58 yX12_undo) := ⟨lwm_4 (List.mem_of_getElem? (i := 216) rfl), good_of_word (by decide +kernel)⟩
set_option maxRecDepth 100000 in
theorem GW_997 : GWd (Cond.instanceMethod yX12_undo) := ⟨lwm_4 (List.mem_of_getElem? (i := 217) rfl), good_of_word (by decide +kernel)⟩
set_option maxRecDepth 100000 in
theorem GW_998 : GWd (Cond.selects RX12 yX12_undo yX12_undo) := ⟨lwm_4 (List.mem_of_getElem? (i := 218) rfl), good_of_word (by decide +kernel)⟩
set_option maxRecDepth 100000 in
theorem GW_73 : GWd (Cond.initialized RX12) := ⟨lwm_1 (List.mem_of_getElem? (i := 13) rfl), good_of_word (by decide +kernel)⟩
set_option maxRecDepth 100000 in
theorem GW_1004 : GWd (Cond.code yX12_hen cX12_hen 4 (some .long)) := ⟨lwm_4 (List.mem_of_getElem? (i := 224) rfl), good_of_word (by decide +kernel)⟩
set_option maxRecDepth 100000 in
theorem GW_1024 : GWd (Cond.methodLink RX12 79 yX12_empty) := ⟨lwm_5 (List.mem_of_getElem? (i := 4) rfl), good_of_word (by decide +kernel)⟩
set_option maxRecDepth 100000 in
theorem GW_1023 : GWd (Cond.code yX12_keep cX12_keep 2 none) := ⟨lwm_5 (List.mem_of_getElem? (i := 3) rfl), good_of_word (by decide +kernel)⟩
set_option maxRecDepth 100000 in
theorem GW_28 : GWd (Cond.selects RX12 yX12_keep yX12_keep) := ⟨List.mem_of_getElem? (i := 28) rfl, good_of_word (by decide +kernel)⟩
set_option maxRecDepth 100000 in
theorem GW_1022 : GWd (Cond.instanceMethod yX12_keep) := ⟨lwm_5 (List.mem_of_getElem? (i := 2) rfl), good_of_word (by decide +kernel)⟩
set_option maxRecDepth 100000 in
theorem GW_1020 : GWd (Cond.methodLink RX12 76 yX12_keep) := ⟨lwm_5 (List.mem_of_getElem? (i := 0) rfl), good_of_word (by decide +kernel)⟩
set_option maxRecDepth 100000 in
theorem GW_1017 : GWd (Cond.constantLong RX12 64 (11)) := ⟨lwm_4 (List.mem_of_getElem? (i := 237) rfl), good_of_word (by decide +kernel)⟩
set_option maxRecDepth 100000 in
theorem GW_1016 : GWd (Cond.constant RX12 63 (-2000000005)) := ⟨lwm_4 (List.mem_of_getElem? (i := 236) rfl), good_of_word (by decide +kernel)⟩
set_option maxRecDepth 100000 in
theorem GW_1015 : GWd (Cond.code yX12_mayAsk cX12_mayAsk 2 (some .boolean)) := ⟨lwm_4 (List.mem_of_getElem? (i := 235) rfl), good_of_word (by decide +kernel)⟩
set_option maxRecDepth 100000 in
theorem GW_1014 : GWd (Cond.static yX12_mayAsk) := ⟨lwm_4 (List.mem_of_getElem? (i := 234) rfl), good_of_word (by decide +kernel)⟩
set_option maxRecDepth 100000 in
theorem GW_1013 : GWd (Cond.methodLink RX12 68 yX12_mayAsk) := ⟨lwm_4 (List.mem_of_getElem? (i := 233) rfl), good_of_word (by decide +kernel)⟩
set_option maxRecDepth 100000 in
theorem GW_1012 : GWd (Cond.code yX12_isIn cX12_isIn 6 (some .boolean)) := ⟨lwm_4 (List.mem_of_getElem? (i := 232) rfl), good_of_word (by decide +kernel)⟩
set_option maxRecDepth 100000 in
theorem GW_1011 : GWd (Cond.static yX12_isIn) := ⟨lwm_4 (List.mem_of_getElem? (i := 231) rfl), good_of_word (by decide +kernel)⟩
set_option maxRecDepth 100000 in
theorem GW_1010 : GWd (Cond.methodLink RX12 57 yX12_isIn) := ⟨lwm_4 (List.mem_of_getElem? (i := 230) rfl), good_of_word (by decide +kernel)⟩
set_option maxRecDepth 100000 in
theorem GW_1008 : GWd (Cond.code yX12_hens cX12_hens 1 (some .int)) := ⟨lwm_4 (List.mem_of_getElem? (i := 228) rfl), good_of_word (by decide +kernel)⟩
set_option maxRecDepth 100000 in
theorem GW_27 : GWd (Cond.selects RX12 yX12_hens yX12_hens) := ⟨List.mem_of_getElem? (i := 27) rfl, good_of_word (by decide +kernel)⟩
set_option maxRecDepth 100000 in
theorem GW_1007 : GWd (Cond.instanceMethod yX12_hens) := ⟨lwm_4 (List.mem_of_getElem? (i := 227) rfl), good_of_word (by decide +kernel)⟩
set_option maxRecDepth 100000 in
theorem GW_1005 : GWd (Cond.methodLink RX12 53 yX12_hens) := ⟨lwm_4 (List.mem_of_getElem? (i := 225) rfl), good_of_word (by decide +kernel)⟩
set_option maxRecDepth 100000 in
theorem GW_1019 : GWd (Cond.constantLong RX12 74 (-2000000003)) := ⟨lwm_4 (List.mem_of_getElem? (i := 239) rfl), good_of_word (by decide +kernel)⟩
set_option maxRecDepth 100000 in
theorem GW_1018 : GWd (Cond.constantLong RX12 72 (-2000000001)) := ⟨lwm_4 (List.mem_of_getElem? (i := 238) rfl), good_of_word (by decide +kernel)⟩
set_option maxRecDepth 100000 in
theorem GW_1009 : GWd (Cond.constantLong RX12 66 (4)) := ⟨lwm_4 (List.mem_of_getElem? (i := 229) rfl), good_of_word (by decide +kernel)⟩
theorem GL_wsX12_hen_r1 : GoodIn lw_tbl wsX12_hen_r1 := gw_c GW_1009 (gw_c GW_1018 (gw_c GW_1019 (gw_c GW_939 (gw_c GW_1005 (gw_c GW_1007 (gw_c GW_27 (gw_c GW_73 (gw_c GW_1008 (gw_c GW_1010 (gw_c GW_1011 (gw_c GW_1012 (gw_c GW_1013 (gw_c GW_1014 (gw_c GW_1015 (gw_c GW_1016 (gw_c GW_1017 (gw_c GW_1020 (gw_c GW_1022 (gw_c GW_28 (gw_c GW_1023 (gw_c GW_941 (gw_c GW_940 (gw_c GW_1024 (gw_n))))))))))))))))))))))))
set_option maxRecDepth 100000 in
theorem GW_1027 : GWd (Cond.code yX12_empty cX12_empty 4 none) := ⟨lwm_5 (List.mem_of_getElem? (i := 7) rfl), good_of_word (by decide +kernel)⟩
set_option maxRecDepth 100000 in
theorem GW_29 : GWd (Cond.selects RX12 yX12_empty yX12_empty) := ⟨List.mem_of_getElem? (i := 29) rfl, good_of_word (by decide +kernel)⟩
set_option maxRecDepth 100000 in
theorem GW_1026 : GWd (Cond.instanceMethod yX12_empty) := ⟨lwm_5 (List.mem_of_getElem? (i := 6) rfl), good_of_word (by decide +kernel)⟩
theorem GL_wsX12_hen_r2 : GoodIn lw_tbl wsX12_hen_r2 := gw_c GW_1026 (gw_c GW_29 (gw_c GW_1027 (gw_n)))
theorem GL_wsX12_hen : GoodIn lw_tbl wsX12_hen := gw_c GW_1004 (gw_a (gw_a (GL_wsX12_hen_r1) (GL_wsX12_hen_r2)) (GL_wsX120))
set_option maxRecDepth 100000 in
theorem GW_1001 : GWd (Cond.methodLink RL 17 yX12_hen) := ⟨lwm_4 (List.mem_of_getElem? (i := 221) rfl), good_of_word (by decide +kernel)⟩
set_option maxRecDepth 100000 in
theorem GW_1002 : GWd (Cond.instanceMethod yX12_hen) := ⟨lwm_4 (List.mem_of_getElem? (i := 222) rfl), good_of_word (by decide +kernel)⟩
set_option maxRecDepth 100000 in
theorem GW_1003 : GWd (Cond.selects RX12 yX12_hen yX12_hen) := ⟨lwm_4 (List.mem_of_getElem? (i := 223) rfl), good_of_word (by decide +kernel)⟩
set_option maxRecDepth 100000 in
theorem GW_1031 : GWd (Cond.code yX12_ask cX12_ask 5 (some .long)) := ⟨lwm_5 (List.mem_of_getElem? (i := 11) rfl), good_of_word (by decide +kernel)⟩
set_option maxRecDepth 100000 in
theorem GW_1035 : GWd (Cond.code yX12_isHen cX12_isHen 2 (some .boolean)) := ⟨lwm_5 (List.mem_of_getElem? (i := 15) rfl), good_of_word (by decide +kernel)⟩
set_option maxRecDepth 100000 in
theorem GW_30 : GWd (Cond.selects RX12 yX12_isHen yX12_isHen) := ⟨List.mem_of_getElem? (i := 30) rfl, good_of_word (by decide +kernel)⟩
set_option maxRecDepth 100000 in
theorem GW_1034 : GWd (Cond.instanceMethod yX12_isHen) := ⟨lwm_5 (List.mem_of_getElem? (i := 14) rfl), good_of_word (by decide +kernel)⟩
set_option maxRecDepth 100000 in
theorem GW_1032 : GWd (Cond.methodLink RX12 83 yX12_isHen) := ⟨lwm_5 (List.mem_of_getElem? (i := 12) rfl), good_of_word (by decide +kernel)⟩
theorem GL_wsX12_ask_r1 : GoodIn lw_tbl wsX12_ask_r1 := gw_c GW_1018 (gw_c GW_939 (gw_c GW_1032 (gw_c GW_1034 (gw_c GW_30 (gw_c GW_73 (gw_c GW_1035 (gw_c GW_1005 (gw_c GW_1007 (gw_c GW_27 (gw_c GW_1008 (gw_c GW_1010 (gw_c GW_1011 (gw_c GW_1012 (gw_c GW_1013 (gw_c GW_1014 (gw_c GW_1015 (gw_c GW_1016 (gw_c GW_1017 (gw_c GW_1020 (gw_c GW_1022 (gw_c GW_28 (gw_c GW_1023 (gw_c GW_941 (gw_n))))))))))))))))))))))))
set_option maxRecDepth 100000 in
theorem GW_1039 : GWd (Cond.code yX12_asks cX12_asks 2 (some .int)) := ⟨lwm_5 (List.mem_of_getElem? (i := 19) rfl), good_of_word (by decide +kernel)⟩
set_option maxRecDepth 100000 in
theorem GW_31 : GWd (Cond.selects RX12 yX12_asks yX12_asks) := ⟨List.mem_of_getElem? (i := 31) rfl, good_of_word (by decide +kernel)⟩
set_option maxRecDepth 100000 in
theorem GW_1038 : GWd (Cond.instanceMethod yX12_asks) := ⟨lwm_5 (List.mem_of_getElem? (i := 18) rfl), good_of_word (by decide +kernel)⟩
set_option maxRecDepth 100000 in
theorem GW_1036 : GWd (Cond.methodLink RX12 87 yX12_asks) := ⟨lwm_5 (List.mem_of_getElem? (i := 16) rfl), good_of_word (by decide +kernel)⟩
theorem GL_wsX12_ask_r2 : GoodIn lw_tbl wsX12_ask_r2 := gw_c GW_940 (gw_c GW_1036 (gw_c GW_1038 (gw_c GW_31 (gw_c GW_1039 (gw_n)))))
theorem GL_wsX12_ask : GoodIn lw_tbl wsX12_ask := gw_c GW_1031 (gw_a (gw_a (GL_wsX12_ask_r1) (GL_wsX12_ask_r2)) (GL_wsX120))
set_option maxRecDepth 100000 in
theorem GW_1028 : GWd (Cond.methodLink RL 21 yX12_ask) := ⟨lwm_5 (List.mem_of_getElem? (i := 8) rfl), good_of_word (by decide +kernel)⟩
set_option maxRecDepth 100000 in
theorem GW_1029 : GWd (Cond.instanceMethod yX12_ask) := ⟨lwm_5 (List.mem_of_getElem? (i := 9) rfl), good_of_word (by decide +kernel)⟩
set_option maxRecDepth 100000 in
theorem GW_1030 : GWd (Cond.selects RX12 yX12_ask yX12_ask) := ⟨lwm_5 (List.mem_of_getElem? (i := 10) rfl), good_of_word (by decide +kernel)⟩
set_option maxRecDepth 100000 in
theorem GW_1043 : GWd (Cond.code yX12_take cX12_take 5 (some .long)) := ⟨lwm_5 (List.mem_of_getElem? (i := 23) rfl), good_of_word (by decide +kernel)⟩
set_option maxRecDepth 100000 in
theorem GW_1047 : GWd (Cond.code yX12_kind cX12_kind 2 (some .int)) := ⟨lwm_5 (List.mem_of_getElem? (i := 27) rfl), good_of_word (by decide +kernel)⟩
set_option maxRecDepth 100000 in
theorem GW_32 : GWd (Cond.selects RX12 yX12_kind yX12_kind) := ⟨List.mem_of_getElem? (i := 32) rfl, good_of_word (by decide +kernel)⟩
set_option maxRecDepth 100000 in
theorem GW_1046 : GWd (Cond.instanceMethod yX12_kind) := ⟨lwm_5 (List.mem_of_getElem? (i := 26) rfl), good_of_word (by decide +kernel)⟩
set_option maxRecDepth 100000 in
theorem GW_1044 : GWd (Cond.methodLink RX12 91 yX12_kind) := ⟨lwm_5 (List.mem_of_getElem? (i := 24) rfl), good_of_word (by decide +kernel)⟩
theorem GL_wsX12_take_r1 : GoodIn lw_tbl wsX12_take_r1 := gw_c GW_1018 (gw_c GW_1000 (gw_c GW_939 (gw_c GW_1032 (gw_c GW_1034 (gw_c GW_30 (gw_c GW_73 (gw_c GW_1035 (gw_c GW_1005 (gw_c GW_1007 (gw_c GW_27 (gw_c GW_1008 (gw_c GW_1010 (gw_c GW_1011 (gw_c GW_1012 (gw_c GW_1044 (gw_c GW_1046 (gw_c GW_32 (gw_c GW_1047 (gw_c GW_1020 (gw_c GW_1022 (gw_c GW_28 (gw_c GW_1023 (gw_c GW_941 (gw_n))))))))))))))))))))))))
theorem GL_wsX12_take_r2 : GoodIn lw_tbl wsX12_take_r2 := gw_c GW_940 (gw_n)
theorem GL_wsX12_take : GoodIn lw_tbl wsX12_take := gw_c GW_1043 (gw_a (gw_a (GL_wsX12_take_r1) (GL_wsX12_take_r2)) (GL_wsX120))
set_option maxRecDepth 100000 in
theorem GW_1040 : GWd (Cond.methodLink RL 25 yX12_take) := ⟨lwm_5 (List.mem_of_getElem? (i := 20) rfl), good_of_word (by decide +kernel)⟩
set_option maxRecDepth 100000 in
theorem GW_1041 : GWd (Cond.instanceMethod yX12_take) := ⟨lwm_5 (List.mem_of_getElem? (i := 21) rfl), good_of_word (by decide +kernel)⟩
set_option maxRecDepth 100000 in
theorem GW_1042 : GWd (Cond.selects RX12 yX12_take yX12_take) := ⟨lwm_5 (List.mem_of_getElem? (i := 22) rfl), good_of_word (by decide +kernel)⟩
set_option maxRecDepth 100000 in
theorem GW_1051 : GWd (Cond.code yX12_pen cX12_pen 3 (some .long)) := ⟨lwm_5 (List.mem_of_getElem? (i := 31) rfl), good_of_word (by decide +kernel)⟩
set_option maxRecDepth 100000 in
theorem GW_1052 : GWd (Cond.constantLong RX12 94 (3)) := ⟨lwm_5 (List.mem_of_getElem? (i := 32) rfl), good_of_word (by decide +kernel)⟩
theorem GL_wsX12_pen_r1 : GoodIn lw_tbl wsX12_pen_r1 := gw_c GW_1052 (gw_c GW_1018 (gw_c GW_1032 (gw_c GW_1034 (gw_c GW_30 (gw_c GW_73 (gw_c GW_1035 (gw_c GW_1005 (gw_c GW_1007 (gw_c GW_27 (gw_c GW_1008 (gw_c GW_939 (gw_c GW_1010 (gw_c GW_1011 (gw_c GW_1012 (gw_c GW_1020 (gw_c GW_1022 (gw_c GW_28 (gw_c GW_1023 (gw_c GW_941 (gw_c GW_940 (gw_c GW_1024 (gw_c GW_1026 (gw_c GW_29 (gw_n))))))))))))))))))))))))
theorem GL_wsX12_pen_r2 : GoodIn lw_tbl wsX12_pen_r2 := gw_c GW_1027 (gw_n)
theorem GL_wsX12_pen : GoodIn lw_tbl wsX12_pen := gw_c GW_1051 (gw_a (gw_a (GL_wsX12_pen_r1) (GL_wsX12_pen_r2)) (GL_wsX120))
set_option maxRecDepth 100000 in
theorem GW_1048 : GWd (Cond.methodLink RL 29 yX12_pen) := ⟨lwm_5 (List.mem_of_getElem? (i := 28) rfl), good_of_word (by decide +kernel)⟩
set_option maxRecDepth 100000 in
theorem GW_1049 : GWd (Cond.instanceMethod yX12_pen) := ⟨lwm_5 (List.mem_of_getElem? (i := 29) rfl), good_of_word (by decide +kernel)⟩
set_option maxRecDepth 100000 in
theorem GW_1050 : GWd (Cond.selects RX12 yX12_pen yX12_pen) := ⟨lwm_5 (List.mem_of_getElem? (i := 30) rfl), good_of_word (by decide +kernel)⟩
set_option maxRecDepth 100000 in
theorem GW_1056 : GWd (Cond.code yX12_peck cX12_peck 9 (some .long)) := ⟨lwm_5 (List.mem_of_getElem? (i := 36) rfl), good_of_word (by decide +kernel)⟩
set_option maxRecDepth 100000 in
theorem GW_1060 : GWd (Cond.code yX12_width cX12_width 2 (some .int)) := ⟨lwm_5 (List.mem_of_getElem? (i := 40) rfl), good_of_word (by decide +kernel)⟩
set_option maxRecDepth 100000 in
theorem GW_33 : GWd (Cond.selects RX12 yX12_width yX12_width) := ⟨List.mem_of_getElem? (i := 33) rfl, good_of_word (by decide +kernel)⟩
set_option maxRecDepth 100000 in
theorem GW_1059 : GWd (Cond.instanceMethod yX12_width) := ⟨lwm_5 (List.mem_of_getElem? (i := 39) rfl), good_of_word (by decide +kernel)⟩
set_option maxRecDepth 100000 in
theorem GW_1057 : GWd (Cond.methodLink RX12 96 yX12_width) := ⟨lwm_5 (List.mem_of_getElem? (i := 37) rfl), good_of_word (by decide +kernel)⟩
set_option maxRecDepth 100000 in
theorem GW_1063 : GWd (Cond.constantLong RX12 103 (1000000)) := ⟨lwm_5 (List.mem_of_getElem? (i := 43) rfl), good_of_word (by decide +kernel)⟩
set_option maxRecDepth 100000 in
theorem GW_1062 : GWd (Cond.constantLong RX12 101 (32767)) := ⟨lwm_5 (List.mem_of_getElem? (i := 42) rfl), good_of_word (by decide +kernel)⟩
set_option maxRecDepth 100000 in
theorem GW_1061 : GWd (Cond.constantLong RX12 99 (127)) := ⟨lwm_5 (List.mem_of_getElem? (i := 41) rfl), good_of_word (by decide +kernel)⟩
theorem GL_wsX12_peck_r1 : GoodIn lw_tbl wsX12_peck_r1 := gw_c GW_1017 (gw_c GW_1018 (gw_c GW_1061 (gw_c GW_1062 (gw_c GW_1063 (gw_c GW_1000 (gw_c GW_939 (gw_c GW_1032 (gw_c GW_1034 (gw_c GW_30 (gw_c GW_73 (gw_c GW_1035 (gw_c GW_1005 (gw_c GW_1007 (gw_c GW_27 (gw_c GW_1008 (gw_c GW_1010 (gw_c GW_1011 (gw_c GW_1012 (gw_c GW_1057 (gw_c GW_1059 (gw_c GW_33 (gw_c GW_1060 (gw_c GW_1020 (gw_n))))))))))))))))))))))))
set_option maxRecDepth 100000 in
theorem GW_1067 : GWd (Cond.code yX12_peckOf cX12_peckOf 3 (some .int)) := ⟨lwm_5 (List.mem_of_getElem? (i := 47) rfl), good_of_word (by decide +kernel)⟩
set_option maxRecDepth 100000 in
theorem GW_34 : GWd (Cond.selects RX12 yX12_peckOf yX12_peckOf) := ⟨List.mem_of_getElem? (i := 34) rfl, good_of_word (by decide +kernel)⟩
set_option maxRecDepth 100000 in
theorem GW_1066 : GWd (Cond.instanceMethod yX12_peckOf) := ⟨lwm_5 (List.mem_of_getElem? (i := 46) rfl), good_of_word (by decide +kernel)⟩
set_option maxRecDepth 100000 in
theorem GW_1064 : GWd (Cond.methodLink RX12 105 yX12_peckOf) := ⟨lwm_5 (List.mem_of_getElem? (i := 44) rfl), good_of_word (by decide +kernel)⟩
theorem GL_wsX12_peck_r2 : GoodIn lw_tbl wsX12_peck_r2 := gw_c GW_1022 (gw_c GW_28 (gw_c GW_1023 (gw_c GW_941 (gw_c GW_940 (gw_c GW_1064 (gw_c GW_1066 (gw_c GW_34 (gw_c GW_1067 (gw_n)))))))))
theorem GL_wsX12_peck : GoodIn lw_tbl wsX12_peck := gw_c GW_1056 (gw_a (gw_a (GL_wsX12_peck_r1) (GL_wsX12_peck_r2)) (GL_wsX120))
set_option maxRecDepth 100000 in
theorem GW_1053 : GWd (Cond.methodLink RL 36 yX12_peck) := ⟨lwm_5 (List.mem_of_getElem? (i := 33) rfl), good_of_word (by decide +kernel)⟩
set_option maxRecDepth 100000 in
theorem GW_1054 : GWd (Cond.instanceMethod yX12_peck) := ⟨lwm_5 (List.mem_of_getElem? (i := 34) rfl), good_of_word (by decide +kernel)⟩
set_option maxRecDepth 100000 in
theorem GW_1055 : GWd (Cond.selects RX12 yX12_peck yX12_peck) := ⟨lwm_5 (List.mem_of_getElem? (i := 35) rfl), good_of_word (by decide +kernel)⟩
set_option maxRecDepth 100000 in
theorem GW_1071 : GWd (Cond.code yX12_leave cX12_leave 2 (some .long)) := ⟨lwm_5 (List.mem_of_getElem? (i := 51) rfl), good_of_word (by decide +kernel)⟩
theorem GL_wsX12_leave_r1 : GoodIn lw_tbl wsX12_leave_r1 := gw_c GW_1018 (gw_c GW_1000 (gw_c GW_1032 (gw_c GW_1034 (gw_c GW_30 (gw_c GW_73 (gw_c GW_1035 (gw_c GW_1005 (gw_c GW_1007 (gw_c GW_27 (gw_c GW_1008 (gw_c GW_939 (gw_c GW_1010 (gw_c GW_1011 (gw_c GW_1012 (gw_c GW_1057 (gw_c GW_1059 (gw_c GW_33 (gw_c GW_1060 (gw_c GW_1020 (gw_c GW_1022 (gw_c GW_28 (gw_c GW_1023 (gw_c GW_941 (gw_n))))))))))))))))))))))))
theorem GL_wsX12_leave_r2 : GoodIn lw_tbl wsX12_leave_r2 := gw_c GW_940 (gw_c GW_1024 (gw_c GW_1026 (gw_c GW_29 (gw_c GW_1027 (gw_n)))))
theorem GL_wsX12_leave : GoodIn lw_tbl wsX12_leave := gw_c GW_1071 (gw_a (gw_a (GL_wsX12_leave_r1) (GL_wsX12_leave_r2)) (GL_wsX120))
set_option maxRecDepth 100000 in
theorem GW_1068 : GWd (Cond.methodLink RL 41 yX12_leave) := ⟨lwm_5 (List.mem_of_getElem? (i := 48) rfl), good_of_word (by decide +kernel)⟩
set_option maxRecDepth 100000 in
theorem GW_1069 : GWd (Cond.instanceMethod yX12_leave) := ⟨lwm_5 (List.mem_of_getElem? (i := 49) rfl), good_of_word (by decide +kernel)⟩
set_option maxRecDepth 100000 in
theorem GW_1070 : GWd (Cond.selects RX12 yX12_leave yX12_leave) := ⟨lwm_5 (List.mem_of_getElem? (i := 50) rfl), good_of_word (by decide +kernel)⟩
set_option maxRecDepth 100000 in
theorem GW_1075 : GWd (Cond.code yX12_about cX12_about 3 (some .long)) := ⟨lwm_5 (List.mem_of_getElem? (i := 55) rfl), good_of_word (by decide +kernel)⟩
set_option maxRecDepth 100000 in
theorem GW_1080 : GWd (Cond.constantLong RX12 112 (-2000000005)) := ⟨lwm_5 (List.mem_of_getElem? (i := 60) rfl), good_of_word (by decide +kernel)⟩
theorem GL_wsX12_about_r1 : GoodIn lw_tbl wsX12_about_r1 := gw_c GW_1052 (gw_c GW_1018 (gw_c GW_1080 (gw_c GW_1032 (gw_c GW_1034 (gw_c GW_30 (gw_c GW_73 (gw_c GW_1035 (gw_c GW_1005 (gw_c GW_1007 (gw_c GW_27 (gw_c GW_1008 (gw_c GW_939 (gw_c GW_1010 (gw_c GW_1011 (gw_c GW_1012 (gw_c GW_1044 (gw_c GW_1046 (gw_c GW_32 (gw_c GW_1047 (gw_c GW_1036 (gw_c GW_1038 (gw_c GW_31 (gw_c GW_1039 (gw_n))))))))))))))))))))))))
set_option maxRecDepth 100000 in
theorem GW_1079 : GWd (Cond.code yX12_counts cX12_counts 2 (some .boolean)) := ⟨lwm_5 (List.mem_of_getElem? (i := 59) rfl), good_of_word (by decide +kernel)⟩
set_option maxRecDepth 100000 in
theorem GW_35 : GWd (Cond.selects RX12 yX12_counts yX12_counts) := ⟨List.mem_of_getElem? (i := 35) rfl, good_of_word (by decide +kernel)⟩
set_option maxRecDepth 100000 in
theorem GW_1078 : GWd (Cond.instanceMethod yX12_counts) := ⟨lwm_5 (List.mem_of_getElem? (i := 58) rfl), good_of_word (by decide +kernel)⟩
set_option maxRecDepth 100000 in
theorem GW_1076 : GWd (Cond.methodLink RX12 109 yX12_counts) := ⟨lwm_5 (List.mem_of_getElem? (i := 56) rfl), good_of_word (by decide +kernel)⟩
theorem GL_wsX12_about_r2 : GoodIn lw_tbl wsX12_about_r2 := gw_c GW_1076 (gw_c GW_1078 (gw_c GW_35 (gw_c GW_1079 (gw_c GW_1057 (gw_c GW_1059 (gw_c GW_33 (gw_c GW_1060 (gw_n))))))))
theorem GL_wsX12_about : GoodIn lw_tbl wsX12_about := gw_c GW_1075 (gw_a (gw_a (GL_wsX12_about_r1) (GL_wsX12_about_r2)) (GL_wsX120))
set_option maxRecDepth 100000 in
theorem GW_1072 : GWd (Cond.methodLink RL 45 yX12_about) := ⟨lwm_5 (List.mem_of_getElem? (i := 52) rfl), good_of_word (by decide +kernel)⟩
set_option maxRecDepth 100000 in
theorem GW_1073 : GWd (Cond.instanceMethod yX12_about) := ⟨lwm_5 (List.mem_of_getElem? (i := 53) rfl), good_of_word (by decide +kernel)⟩
set_option maxRecDepth 100000 in
theorem GW_1074 : GWd (Cond.selects RX12 yX12_about yX12_about) := ⟨lwm_5 (List.mem_of_getElem? (i := 54) rfl), good_of_word (by decide +kernel)⟩
set_option maxRecDepth 100000 in
theorem GW_1084 : GWd (Cond.code yX12_isOf cX12_isOf 3 (some .long)) := ⟨lwm_5 (List.mem_of_getElem? (i := 64) rfl), good_of_word (by decide +kernel)⟩
theorem GL_wsX12_isOf : GoodIn lw_tbl wsX12_isOf := gw_c GW_1084 (gw_a (gw_c GW_1009 (gw_c GW_1018 (gw_c GW_1032 (gw_c GW_1034 (gw_c GW_30 (gw_c GW_73 (gw_c GW_1035 (gw_c GW_1005 (gw_c GW_1007 (gw_c GW_27 (gw_c GW_1008 (gw_c GW_939 (gw_c GW_1010 (gw_c GW_1011 (gw_c GW_1012 (gw_c GW_1044 (gw_c GW_1046 (gw_c GW_32 (gw_c GW_1047 (gw_n)))))))))))))))))))) (GL_wsX120))
set_option maxRecDepth 100000 in
theorem GW_1081 : GWd (Cond.methodLink RL 49 yX12_isOf) := ⟨lwm_5 (List.mem_of_getElem? (i := 61) rfl), good_of_word (by decide +kernel)⟩
set_option maxRecDepth 100000 in
theorem GW_1082 : GWd (Cond.instanceMethod yX12_isOf) := ⟨lwm_5 (List.mem_of_getElem? (i := 62) rfl), good_of_word (by decide +kernel)⟩
set_option maxRecDepth 100000 in
theorem GW_1083 : GWd (Cond.selects RX12 yX12_isOf yX12_isOf) := ⟨lwm_5 (List.mem_of_getElem? (i := 63) rfl), good_of_word (by decide +kernel)⟩
set_option maxRecDepth 100000 in
theorem GW_1088 : GWd (Cond.code yX12_pecks cX12_pecks 3 (some .long)) := ⟨lwm_5 (List.mem_of_getElem? (i := 68) rfl), good_of_word (by decide +kernel)⟩
theorem GL_wsX12_pecks : GoodIn lw_tbl wsX12_pecks := gw_c GW_1088 (gw_a (gw_c GW_1017 (gw_c GW_1018 (gw_c GW_1032 (gw_c GW_1034 (gw_c GW_30 (gw_c GW_73 (gw_c GW_1035 (gw_c GW_1005 (gw_c GW_1007 (gw_c GW_27 (gw_c GW_1008 (gw_c GW_939 (gw_c GW_1010 (gw_c GW_1011 (gw_c GW_1012 (gw_c GW_1064 (gw_c GW_1066 (gw_c GW_34 (gw_c GW_1067 (gw_n)))))))))))))))))))) (GL_wsX120))
set_option maxRecDepth 100000 in
theorem GW_1085 : GWd (Cond.methodLink RL 53 yX12_pecks) := ⟨lwm_5 (List.mem_of_getElem? (i := 65) rfl), good_of_word (by decide +kernel)⟩
set_option maxRecDepth 100000 in
theorem GW_1086 : GWd (Cond.instanceMethod yX12_pecks) := ⟨lwm_5 (List.mem_of_getElem? (i := 66) rfl), good_of_word (by decide +kernel)⟩
set_option maxRecDepth 100000 in
theorem GW_1087 : GWd (Cond.selects RX12 yX12_pecks yX12_pecks) := ⟨lwm_5 (List.mem_of_getElem? (i := 67) rfl), good_of_word (by decide +kernel)⟩
set_option maxRecDepth 100000 in
theorem GW_1092 : GWd (Cond.code yX12_least cX12_least 1 (some .long)) := ⟨lwm_5 (List.mem_of_getElem? (i := 72) rfl), good_of_word (by decide +kernel)⟩
set_option maxRecDepth 100000 in
theorem GW_1100 : GWd (Cond.code yX12_counting cX12_counting 3 (some .int)) := ⟨lwm_5 (List.mem_of_getElem? (i := 80) rfl), good_of_word (by decide +kernel)⟩
set_option maxRecDepth 100000 in
theorem GW_37 : GWd (Cond.selects RX12 yX12_counting yX12_counting) := ⟨List.mem_of_getElem? (i := 37) rfl, good_of_word (by decide +kernel)⟩
set_option maxRecDepth 100000 in
theorem GW_1099 : GWd (Cond.instanceMethod yX12_counting) := ⟨lwm_5 (List.mem_of_getElem? (i := 79) rfl), good_of_word (by decide +kernel)⟩
set_option maxRecDepth 100000 in
theorem GW_1097 : GWd (Cond.methodLink RX12 140 yX12_counting) := ⟨lwm_5 (List.mem_of_getElem? (i := 77) rfl), good_of_word (by decide +kernel)⟩
set_option maxRecDepth 100000 in
theorem GW_948 : GWd (Cond.fieldLink RX12 117 "PeckYardModel" "lower" "I") := ⟨lwm_4 (List.mem_of_getElem? (i := 168) rfl), good_of_word (by decide +kernel)⟩
set_option maxRecDepth 100000 in
theorem GW_947 : GWd (Cond.fieldLink RX12 120 "PeckYardModel" "upper" "I") := ⟨lwm_4 (List.mem_of_getElem? (i := 167) rfl), good_of_word (by decide +kernel)⟩
set_option maxRecDepth 100000 in
theorem GW_946 : GWd (Cond.fieldLink RX12 123 "PeckYardModel" "lawfully" "Z") := ⟨lwm_4 (List.mem_of_getElem? (i := 166) rfl), good_of_word (by decide +kernel)⟩
set_option maxRecDepth 100000 in
theorem GW_1096 : GWd (Cond.code yX12_fill cX12_fill 8 none) := ⟨lwm_5 (List.mem_of_getElem? (i := 76) rfl), good_of_word (by decide +kernel)⟩
set_option maxRecDepth 100000 in
theorem GW_36 : GWd (Cond.selects RX12 yX12_fill yX12_fill) := ⟨List.mem_of_getElem? (i := 36) rfl, good_of_word (by decide +kernel)⟩
set_option maxRecDepth 100000 in
theorem GW_1095 : GWd (Cond.instanceMethod yX12_fill) := ⟨lwm_5 (List.mem_of_getElem? (i := 75) rfl), good_of_word (by decide +kernel)⟩
set_option maxRecDepth 100000 in
theorem GW_1093 : GWd (Cond.methodLink RX12 146 yX12_fill) := ⟨lwm_5 (List.mem_of_getElem? (i := 73) rfl), good_of_word (by decide +kernel)⟩
set_option maxRecDepth 100000 in
theorem GW_1105 : GWd (Cond.constantLong RX12 131 (1000000000000000)) := ⟨lwm_5 (List.mem_of_getElem? (i := 85) rfl), good_of_word (by decide +kernel)⟩
theorem GL_wsX12_least_r1 : GoodIn lw_tbl wsX12_least_r1 := gw_c GW_944 (gw_c GW_1105 (gw_c GW_1080 (gw_c GW_1093 (gw_c GW_1095 (gw_c GW_36 (gw_c GW_73 (gw_c GW_1096 (gw_c GW_946 (gw_c GW_947 (gw_c GW_948 (gw_c GW_945 (gw_c GW_1097 (gw_c GW_1099 (gw_c GW_37 (gw_c GW_1100 (gw_c GW_1005 (gw_c GW_1007 (gw_c GW_27 (gw_c GW_1008 (gw_c GW_939 (gw_c GW_1076 (gw_c GW_1078 (gw_c GW_35 (gw_n))))))))))))))))))))))))
set_option maxRecDepth 100000 in
theorem GW_1113 : GWd (Cond.code yX12_may cX12_may 6 (some .boolean)) := ⟨lwm_5 (List.mem_of_getElem? (i := 93) rfl), good_of_word (by decide +kernel)⟩
set_option maxRecDepth 100000 in
theorem GW_40 : GWd (Cond.selects RX12 yX12_may yX12_may) := ⟨List.mem_of_getElem? (i := 40) rfl, good_of_word (by decide +kernel)⟩
set_option maxRecDepth 100000 in
theorem GW_1112 : GWd (Cond.instanceMethod yX12_may) := ⟨lwm_5 (List.mem_of_getElem? (i := 92) rfl), good_of_word (by decide +kernel)⟩
set_option maxRecDepth 100000 in
theorem GW_1110 : GWd (Cond.methodLink RX12 127 yX12_may) := ⟨lwm_5 (List.mem_of_getElem? (i := 90) rfl), good_of_word (by decide +kernel)⟩
set_option maxRecDepth 100000 in
theorem GW_1109 : GWd (Cond.code yX12_mayCome cX12_mayCome 4 (some .boolean)) := ⟨lwm_5 (List.mem_of_getElem? (i := 89) rfl), good_of_word (by decide +kernel)⟩
set_option maxRecDepth 100000 in
theorem GW_39 : GWd (Cond.selects RX12 yX12_mayCome yX12_mayCome) := ⟨List.mem_of_getElem? (i := 39) rfl, good_of_word (by decide +kernel)⟩
set_option maxRecDepth 100000 in
theorem GW_1108 : GWd (Cond.instanceMethod yX12_mayCome) := ⟨lwm_5 (List.mem_of_getElem? (i := 88) rfl), good_of_word (by decide +kernel)⟩
set_option maxRecDepth 100000 in
theorem GW_1106 : GWd (Cond.methodLink RX12 133 yX12_mayCome) := ⟨lwm_5 (List.mem_of_getElem? (i := 86) rfl), good_of_word (by decide +kernel)⟩
set_option maxRecDepth 100000 in
theorem GW_1104 : GWd (Cond.code yX12_fillState cX12_fillState 8 none) := ⟨lwm_5 (List.mem_of_getElem? (i := 84) rfl), good_of_word (by decide +kernel)⟩
set_option maxRecDepth 100000 in
theorem GW_38 : GWd (Cond.selects RX12 yX12_fillState yX12_fillState) := ⟨List.mem_of_getElem? (i := 38) rfl, good_of_word (by decide +kernel)⟩
set_option maxRecDepth 100000 in
theorem GW_1103 : GWd (Cond.instanceMethod yX12_fillState) := ⟨lwm_5 (List.mem_of_getElem? (i := 83) rfl), good_of_word (by decide +kernel)⟩
set_option maxRecDepth 100000 in
theorem GW_1101 : GWd (Cond.methodLink RX12 143 yX12_fillState) := ⟨lwm_5 (List.mem_of_getElem? (i := 81) rfl), good_of_word (by decide +kernel)⟩
theorem GL_wsX12_least_r2 : GoodIn lw_tbl wsX12_least_r2 := gw_c GW_1079 (gw_c GW_1032 (gw_c GW_1034 (gw_c GW_30 (gw_c GW_1035 (gw_c GW_1010 (gw_c GW_1011 (gw_c GW_1012 (gw_c GW_1044 (gw_c GW_1046 (gw_c GW_32 (gw_c GW_1047 (gw_c GW_1101 (gw_c GW_1103 (gw_c GW_38 (gw_c GW_1104 (gw_c GW_1106 (gw_c GW_1108 (gw_c GW_39 (gw_c GW_1109 (gw_c GW_1110 (gw_c GW_1112 (gw_c GW_40 (gw_c GW_1113 (gw_n))))))))))))))))))))))))
set_option maxRecDepth 100000 in
theorem GW_1124 : GWd (Cond.code yX12_begun cX12_begun 0 (some .int)) := ⟨lwm_5 (List.mem_of_getElem? (i := 104) rfl), good_of_word (by decide +kernel)⟩
set_option maxRecDepth 100000 in
theorem GW_1123 : GWd (Cond.static yX12_begun) := ⟨lwm_5 (List.mem_of_getElem? (i := 103) rfl), good_of_word (by decide +kernel)⟩
set_option maxRecDepth 100000 in
theorem GW_1122 : GWd (Cond.methodLink RX12 150 yX12_begun) := ⟨lwm_5 (List.mem_of_getElem? (i := 102) rfl), good_of_word (by decide +kernel)⟩
set_option maxRecDepth 100000 in
theorem GW_1121 : GWd (Cond.code yX12_cost cX12_cost 6 (some .long)) := ⟨lwm_5 (List.mem_of_getElem? (i := 101) rfl), good_of_word (by decide +kernel)⟩
set_option maxRecDepth 100000 in
theorem GW_42 : GWd (Cond.selects RX12 yX12_cost yX12_cost) := ⟨List.mem_of_getElem? (i := 42) rfl, good_of_word (by decide +kernel)⟩
set_option maxRecDepth 100000 in
theorem GW_1120 : GWd (Cond.instanceMethod yX12_cost) := ⟨lwm_5 (List.mem_of_getElem? (i := 100) rfl), good_of_word (by decide +kernel)⟩
set_option maxRecDepth 100000 in
theorem GW_1118 : GWd (Cond.methodLink RX12 136 yX12_cost) := ⟨lwm_5 (List.mem_of_getElem? (i := 98) rfl), good_of_word (by decide +kernel)⟩
set_option maxRecDepth 100000 in
theorem GW_1117 : GWd (Cond.code yX12_askedBy cX12_askedBy 2 (some .int)) := ⟨lwm_5 (List.mem_of_getElem? (i := 97) rfl), good_of_word (by decide +kernel)⟩
set_option maxRecDepth 100000 in
theorem GW_41 : GWd (Cond.selects RX12 yX12_askedBy yX12_askedBy) := ⟨List.mem_of_getElem? (i := 41) rfl, good_of_word (by decide +kernel)⟩
set_option maxRecDepth 100000 in
theorem GW_1116 : GWd (Cond.instanceMethod yX12_askedBy) := ⟨lwm_5 (List.mem_of_getElem? (i := 96) rfl), good_of_word (by decide +kernel)⟩
set_option maxRecDepth 100000 in
theorem GW_1114 : GWd (Cond.methodLink RX12 114 yX12_askedBy) := ⟨lwm_5 (List.mem_of_getElem? (i := 94) rfl), good_of_word (by decide +kernel)⟩
theorem GL_wsX12_least_r3 : GoodIn lw_tbl wsX12_least_r3 := gw_c GW_1114 (gw_c GW_1116 (gw_c GW_41 (gw_c GW_1117 (gw_c GW_1052 (gw_c GW_1036 (gw_c GW_1038 (gw_c GW_31 (gw_c GW_1039 (gw_c GW_1118 (gw_c GW_1120 (gw_c GW_42 (gw_c GW_1121 (gw_c GW_1064 (gw_c GW_1066 (gw_c GW_34 (gw_c GW_1067 (gw_c GW_1122 (gw_c GW_1123 (gw_c GW_1124 (gw_n))))))))))))))))))))
theorem GL_wsX12_least : GoodIn lw_tbl wsX12_least := gw_c GW_1092 (gw_a (gw_a (GL_wsX12_least_r1) (gw_a (GL_wsX12_least_r2) (GL_wsX12_least_r3))) (GL_wsX120))
set_option maxRecDepth 100000 in
theorem GW_1089 : GWd (Cond.methodLink RL 62 yX12_least) := ⟨lwm_5 (List.mem_of_getElem? (i := 69) rfl), good_of_word (by decide +kernel)⟩
set_option maxRecDepth 100000 in
theorem GW_1090 : GWd (Cond.instanceMethod yX12_least) := ⟨lwm_5 (List.mem_of_getElem? (i := 70) rfl), good_of_word (by decide +kernel)⟩
set_option maxRecDepth 100000 in
theorem GW_1091 : GWd (Cond.selects RX12 yX12_least yX12_least) := ⟨lwm_5 (List.mem_of_getElem? (i := 71) rfl), good_of_word (by decide +kernel)⟩
set_option maxRecDepth 100000 in
theorem GW_1128 : GWd (Cond.code yX12_many cX12_many 1 (some .long)) := ⟨lwm_5 (List.mem_of_getElem? (i := 108) rfl), good_of_word (by decide +kernel)⟩
theorem GL_wsX12_many_r1 : GoodIn lw_tbl wsX12_many_r1 := gw_c GW_945 (gw_c GW_1093 (gw_c GW_1095 (gw_c GW_36 (gw_c GW_73 (gw_c GW_1096 (gw_c GW_946 (gw_c GW_947 (gw_c GW_948 (gw_c GW_944 (gw_c GW_1097 (gw_c GW_1099 (gw_c GW_37 (gw_c GW_1100 (gw_c GW_1005 (gw_c GW_1007 (gw_c GW_27 (gw_c GW_1008 (gw_c GW_939 (gw_c GW_1076 (gw_c GW_1078 (gw_c GW_35 (gw_c GW_1079 (gw_c GW_1032 (gw_n))))))))))))))))))))))))
theorem GL_wsX12_many_r2 : GoodIn lw_tbl wsX12_many_r2 := gw_c GW_1034 (gw_c GW_30 (gw_c GW_1035 (gw_c GW_1010 (gw_c GW_1011 (gw_c GW_1012 (gw_c GW_1044 (gw_c GW_1046 (gw_c GW_32 (gw_c GW_1047 (gw_c GW_1101 (gw_c GW_1103 (gw_c GW_38 (gw_c GW_1104 (gw_c GW_1105 (gw_c GW_1106 (gw_c GW_1108 (gw_c GW_39 (gw_c GW_1109 (gw_c GW_1110 (gw_c GW_1112 (gw_c GW_40 (gw_c GW_1113 (gw_c GW_1114 (gw_n))))))))))))))))))))))))
theorem GL_wsX12_many_r3 : GoodIn lw_tbl wsX12_many_r3 := gw_c GW_1116 (gw_c GW_41 (gw_c GW_1117 (gw_c GW_1052 (gw_c GW_1036 (gw_c GW_1038 (gw_c GW_31 (gw_c GW_1039 (gw_c GW_1118 (gw_c GW_1120 (gw_c GW_42 (gw_c GW_1121 (gw_c GW_1064 (gw_c GW_1066 (gw_c GW_34 (gw_c GW_1067 (gw_c GW_1122 (gw_c GW_1123 (gw_c GW_1124 (gw_n)))))))))))))))))))
theorem GL_wsX12_many : GoodIn lw_tbl wsX12_many := gw_c GW_1128 (gw_a (gw_a (GL_wsX12_many_r1) (gw_a (GL_wsX12_many_r2) (GL_wsX12_many_r3))) (GL_wsX120))
set_option maxRecDepth 100000 in
theorem GW_1125 : GWd (Cond.methodLink RL 66 yX12_many) := ⟨lwm_5 (List.mem_of_getElem? (i := 105) rfl), good_of_word (by decide +kernel)⟩
set_option maxRecDepth 100000 in
theorem GW_1126 : GWd (Cond.instanceMethod yX12_many) := ⟨lwm_5 (List.mem_of_getElem? (i := 106) rfl), good_of_word (by decide +kernel)⟩
set_option maxRecDepth 100000 in
theorem GW_1127 : GWd (Cond.selects RX12 yX12_many yX12_many) := ⟨lwm_5 (List.mem_of_getElem? (i := 107) rfl), good_of_word (by decide +kernel)⟩
set_option maxRecDepth 100000 in
theorem GW_1132 : GWd (Cond.code yX12_loose cX12_loose 1 (some .long)) := ⟨lwm_5 (List.mem_of_getElem? (i := 112) rfl), good_of_word (by decide +kernel)⟩
theorem GL_wsX12_loose_r1 : GoodIn lw_tbl wsX12_loose_r1 := gw_c GW_944 (gw_c GW_1093 (gw_c GW_1095 (gw_c GW_36 (gw_c GW_73 (gw_c GW_1096 (gw_c GW_946 (gw_c GW_947 (gw_c GW_948 (gw_c GW_945 (gw_c GW_1097 (gw_c GW_1099 (gw_c GW_37 (gw_c GW_1100 (gw_c GW_1005 (gw_c GW_1007 (gw_c GW_27 (gw_c GW_1008 (gw_c GW_939 (gw_c GW_1076 (gw_c GW_1078 (gw_c GW_35 (gw_c GW_1079 (gw_c GW_1032 (gw_n))))))))))))))))))))))))
theorem GL_wsX12_loose_r2 : GoodIn lw_tbl wsX12_loose_r2 := gw_c GW_1034 (gw_c GW_30 (gw_c GW_1035 (gw_c GW_1010 (gw_c GW_1011 (gw_c GW_1012 (gw_c GW_1044 (gw_c GW_1046 (gw_c GW_32 (gw_c GW_1047 (gw_c GW_1101 (gw_c GW_1103 (gw_c GW_38 (gw_c GW_1104 (gw_c GW_1105 (gw_c GW_1106 (gw_c GW_1108 (gw_c GW_39 (gw_c GW_1109 (gw_c GW_1110 (gw_c GW_1112 (gw_c GW_40 (gw_c GW_1113 (gw_c GW_1114 (gw_n))))))))))))))))))))))))
theorem GL_wsX12_loose_r3 : GoodIn lw_tbl wsX12_loose_r3 := gw_c GW_1116 (gw_c GW_41 (gw_c GW_1117 (gw_c GW_1052 (gw_c GW_1036 (gw_c GW_1038 (gw_c GW_31 (gw_c GW_1039 (gw_c GW_1118 (gw_c GW_1120 (gw_c GW_42 (gw_c GW_1121 (gw_c GW_1064 (gw_c GW_1066 (gw_c GW_34 (gw_c GW_1067 (gw_c GW_1122 (gw_c GW_1123 (gw_c GW_1124 (gw_n)))))))))))))))))))
theorem GL_wsX12_loose : GoodIn lw_tbl wsX12_loose := gw_c GW_1132 (gw_a (gw_a (GL_wsX12_loose_r1) (gw_a (GL_wsX12_loose_r2) (GL_wsX12_loose_r3))) (GL_wsX120))
set_option maxRecDepth 100000 in
theorem GW_1129 : GWd (Cond.methodLink RL 127 yX12_loose) := ⟨lwm_5 (List.mem_of_getElem? (i := 109) rfl), good_of_word (by decide +kernel)⟩
set_option maxRecDepth 100000 in
theorem GW_1130 : GWd (Cond.instanceMethod yX12_loose) := ⟨lwm_5 (List.mem_of_getElem? (i := 110) rfl), good_of_word (by decide +kernel)⟩
set_option maxRecDepth 100000 in
theorem GW_1131 : GWd (Cond.selects RX12 yX12_loose yX12_loose) := ⟨lwm_5 (List.mem_of_getElem? (i := 111) rfl), good_of_word (by decide +kernel)⟩
set_option maxRecDepth 100000 in
theorem GW_1136 : GWd (Cond.code yX12_best cX12_best 8 (some .long)) := ⟨lwm_5 (List.mem_of_getElem? (i := 116) rfl), good_of_word (by decide +kernel)⟩
set_option maxRecDepth 100000 in
theorem GW_943 : GWd (Cond.fieldLink RX12 153 "PeckYardModel" "inHand" "I") := ⟨lwm_4 (List.mem_of_getElem? (i := 163) rfl), good_of_word (by decide +kernel)⟩
theorem GL_wsX12_best_r1 : GoodIn lw_tbl wsX12_best_r1 := gw_c GW_1018 (gw_c GW_945 (gw_c GW_1080 (gw_c GW_943 (gw_c GW_942 (gw_c GW_1093 (gw_c GW_1095 (gw_c GW_36 (gw_c GW_73 (gw_c GW_1096 (gw_c GW_946 (gw_c GW_947 (gw_c GW_948 (gw_c GW_944 (gw_c GW_1097 (gw_c GW_1099 (gw_c GW_37 (gw_c GW_1100 (gw_c GW_1005 (gw_c GW_1007 (gw_c GW_27 (gw_c GW_1008 (gw_c GW_939 (gw_c GW_1076 (gw_n))))))))))))))))))))))))
theorem GL_wsX12_best_r2 : GoodIn lw_tbl wsX12_best_r2 := gw_c GW_1078 (gw_c GW_35 (gw_c GW_1079 (gw_c GW_1032 (gw_c GW_1034 (gw_c GW_30 (gw_c GW_1035 (gw_c GW_1010 (gw_c GW_1011 (gw_c GW_1012 (gw_c GW_1044 (gw_c GW_1046 (gw_c GW_32 (gw_c GW_1047 (gw_c GW_1101 (gw_c GW_1103 (gw_c GW_38 (gw_c GW_1104 (gw_c GW_1105 (gw_c GW_1106 (gw_c GW_1108 (gw_c GW_39 (gw_c GW_1109 (gw_c GW_1110 (gw_n))))))))))))))))))))))))
set_option maxRecDepth 100000 in
theorem GW_1137 : GWd (Cond.methodLink RX12 156 yX12_isBest) := ⟨lwm_5 (List.mem_of_getElem? (i := 117) rfl), good_of_word (by decide +kernel)⟩
theorem GL_wsX12_best_r3 : GoodIn lw_tbl wsX12_best_r3 := gw_c GW_1112 (gw_c GW_40 (gw_c GW_1113 (gw_c GW_1114 (gw_c GW_1116 (gw_c GW_41 (gw_c GW_1117 (gw_c GW_1052 (gw_c GW_1036 (gw_c GW_1038 (gw_c GW_31 (gw_c GW_1039 (gw_c GW_1118 (gw_c GW_1120 (gw_c GW_42 (gw_c GW_1121 (gw_c GW_1064 (gw_c GW_1066 (gw_c GW_34 (gw_c GW_1067 (gw_c GW_1122 (gw_c GW_1123 (gw_c GW_1124 (gw_c GW_1137 (gw_n))))))))))))))))))))))))
set_option maxRecDepth 100000 in
theorem GW_1140 : GWd (Cond.code yX12_isBest cX12_isBest 5 (some .boolean)) := ⟨lwm_5 (List.mem_of_getElem? (i := 120) rfl), good_of_word (by decide +kernel)⟩
set_option maxRecDepth 100000 in
theorem GW_43 : GWd (Cond.selects RX12 yX12_isBest yX12_isBest) := ⟨List.mem_of_getElem? (i := 43) rfl, good_of_word (by decide +kernel)⟩
set_option maxRecDepth 100000 in
theorem GW_1139 : GWd (Cond.instanceMethod yX12_isBest) := ⟨lwm_5 (List.mem_of_getElem? (i := 119) rfl), good_of_word (by decide +kernel)⟩
theorem GL_wsX12_best_r4 : GoodIn lw_tbl wsX12_best_r4 := gw_c GW_1139 (gw_c GW_43 (gw_c GW_1140 (gw_n)))
theorem GL_wsX12_best : GoodIn lw_tbl wsX12_best := gw_c GW_1136 (gw_a (gw_a (GL_wsX12_best_r1) (gw_a (GL_wsX12_best_r2) (gw_a (GL_wsX12_best_r3) (GL_wsX12_best_r4)))) (GL_wsX120))
set_option maxRecDepth 100000 in
theorem GW_1133 : GWd (Cond.methodLink RL 71 yX12_best) := ⟨lwm_5 (List.mem_of_getElem? (i := 113) rfl), good_of_word (by decide +kernel)⟩
set_option maxRecDepth 100000 in
theorem GW_1134 : GWd (Cond.instanceMethod yX12_best) := ⟨lwm_5 (List.mem_of_getElem? (i := 114) rfl), good_of_word (by decide +kernel)⟩
set_option maxRecDepth 100000 in
theorem GW_1135 : GWd (Cond.selects RX12 yX12_best yX12_best) := ⟨lwm_5 (List.mem_of_getElem? (i := 115) rfl), good_of_word (by decide +kernel)⟩
set_option maxRecDepth 100000 in
theorem GW_1144 : GWd (Cond.code yX12_number cX12_number 7 (some .long)) := ⟨lwm_5 (List.mem_of_getElem? (i := 124) rfl), good_of_word (by decide +kernel)⟩
set_option maxRecDepth 100000 in
theorem GW_1148 : GWd (Cond.code yX12_isWhole cX12_isWhole 4 (some .boolean)) := ⟨lwm_5 (List.mem_of_getElem? (i := 128) rfl), good_of_word (by decide +kernel)⟩
set_option maxRecDepth 100000 in
theorem GW_44 : GWd (Cond.selects RX12 yX12_isWhole yX12_isWhole) := ⟨List.mem_of_getElem? (i := 44) rfl, good_of_word (by decide +kernel)⟩
set_option maxRecDepth 100000 in
theorem GW_1147 : GWd (Cond.instanceMethod yX12_isWhole) := ⟨lwm_5 (List.mem_of_getElem? (i := 127) rfl), good_of_word (by decide +kernel)⟩
set_option maxRecDepth 100000 in
theorem GW_1145 : GWd (Cond.methodLink RX12 159 yX12_isWhole) := ⟨lwm_5 (List.mem_of_getElem? (i := 125) rfl), good_of_word (by decide +kernel)⟩
theorem GL_wsX12_number_r1 : GoodIn lw_tbl wsX12_number_r1 := gw_c GW_1000 (gw_c GW_943 (gw_c GW_942 (gw_c GW_1080 (gw_c GW_945 (gw_c GW_944 (gw_c GW_1105 (gw_c GW_1145 (gw_c GW_1147 (gw_c GW_44 (gw_c GW_73 (gw_c GW_1148 (gw_c GW_1097 (gw_c GW_1099 (gw_c GW_37 (gw_c GW_1100 (gw_c GW_1005 (gw_c GW_1007 (gw_c GW_27 (gw_c GW_1008 (gw_c GW_939 (gw_c GW_1076 (gw_c GW_1078 (gw_c GW_35 (gw_n))))))))))))))))))))))))
theorem GL_wsX12_number_r2 : GoodIn lw_tbl wsX12_number_r2 := gw_c GW_1079 (gw_c GW_1032 (gw_c GW_1034 (gw_c GW_30 (gw_c GW_1035 (gw_c GW_1010 (gw_c GW_1011 (gw_c GW_1012 (gw_c GW_1044 (gw_c GW_1046 (gw_c GW_32 (gw_c GW_1047 (gw_c GW_1093 (gw_c GW_1095 (gw_c GW_36 (gw_c GW_1096 (gw_c GW_946 (gw_c GW_947 (gw_c GW_948 (gw_c GW_1101 (gw_c GW_1103 (gw_c GW_38 (gw_c GW_1104 (gw_c GW_1106 (gw_n))))))))))))))))))))))))
theorem GL_wsX12_number_r3 : GoodIn lw_tbl wsX12_number_r3 := gw_c GW_1108 (gw_c GW_39 (gw_c GW_1109 (gw_c GW_1110 (gw_c GW_1112 (gw_c GW_40 (gw_c GW_1113 (gw_c GW_1114 (gw_c GW_1116 (gw_c GW_41 (gw_c GW_1117 (gw_c GW_1052 (gw_c GW_1036 (gw_c GW_1038 (gw_c GW_31 (gw_c GW_1039 (gw_c GW_1118 (gw_c GW_1120 (gw_c GW_42 (gw_c GW_1121 (gw_c GW_1064 (gw_c GW_1066 (gw_c GW_34 (gw_c GW_1067 (gw_n))))))))))))))))))))))))
theorem GL_wsX12_number_r4 : GoodIn lw_tbl wsX12_number_r4 := gw_c GW_1137 (gw_c GW_1139 (gw_c GW_43 (gw_c GW_1140 (gw_c GW_1122 (gw_c GW_1123 (gw_c GW_1124 (gw_n)))))))
theorem GL_wsX12_number : GoodIn lw_tbl wsX12_number := gw_c GW_1144 (gw_a (gw_a (GL_wsX12_number_r1) (gw_a (GL_wsX12_number_r2) (gw_a (GL_wsX12_number_r3) (GL_wsX12_number_r4)))) (GL_wsX120))
set_option maxRecDepth 100000 in
theorem GW_1141 : GWd (Cond.methodLink RL 75 yX12_number) := ⟨lwm_5 (List.mem_of_getElem? (i := 121) rfl), good_of_word (by decide +kernel)⟩
set_option maxRecDepth 100000 in
theorem GW_1142 : GWd (Cond.instanceMethod yX12_number) := ⟨lwm_5 (List.mem_of_getElem? (i := 122) rfl), good_of_word (by decide +kernel)⟩
set_option maxRecDepth 100000 in
theorem GW_1143 : GWd (Cond.selects RX12 yX12_number yX12_number) := ⟨lwm_5 (List.mem_of_getElem? (i := 123) rfl), good_of_word (by decide +kernel)⟩
set_option maxRecDepth 100000 in
theorem GW_1152 : GWd (Cond.code yX12_sure cX12_sure 9 (some .long)) := ⟨lwm_5 (List.mem_of_getElem? (i := 132) rfl), good_of_word (by decide +kernel)⟩
set_option maxRecDepth 100000 in
theorem GW_1153 : GWd (Cond.constantLong RX12 163 (2)) := ⟨lwm_5 (List.mem_of_getElem? (i := 133) rfl), good_of_word (by decide +kernel)⟩
theorem GL_wsX12_sure_r1 : GoodIn lw_tbl wsX12_sure_r1 := gw_c GW_1018 (gw_c GW_944 (gw_c GW_945 (gw_c GW_1105 (gw_c GW_1080 (gw_c GW_1153 (gw_c GW_1032 (gw_c GW_1034 (gw_c GW_30 (gw_c GW_73 (gw_c GW_1035 (gw_c GW_1005 (gw_c GW_1007 (gw_c GW_27 (gw_c GW_1008 (gw_c GW_939 (gw_c GW_1010 (gw_c GW_1011 (gw_c GW_1012 (gw_c GW_1076 (gw_c GW_1078 (gw_c GW_35 (gw_c GW_1079 (gw_c GW_1044 (gw_n))))))))))))))))))))))))
theorem GL_wsX12_sure_r2 : GoodIn lw_tbl wsX12_sure_r2 := gw_c GW_1046 (gw_c GW_32 (gw_c GW_1047 (gw_c GW_1093 (gw_c GW_1095 (gw_c GW_36 (gw_c GW_1096 (gw_c GW_946 (gw_c GW_947 (gw_c GW_948 (gw_c GW_1097 (gw_c GW_1099 (gw_c GW_37 (gw_c GW_1100 (gw_c GW_1101 (gw_c GW_1103 (gw_c GW_38 (gw_c GW_1104 (gw_c GW_1106 (gw_c GW_1108 (gw_c GW_39 (gw_c GW_1109 (gw_c GW_1110 (gw_c GW_1112 (gw_n))))))))))))))))))))))))
theorem GL_wsX12_sure_r3 : GoodIn lw_tbl wsX12_sure_r3 := gw_c GW_40 (gw_c GW_1113 (gw_c GW_1114 (gw_c GW_1116 (gw_c GW_41 (gw_c GW_1117 (gw_c GW_1052 (gw_c GW_1036 (gw_c GW_1038 (gw_c GW_31 (gw_c GW_1039 (gw_c GW_1118 (gw_c GW_1120 (gw_c GW_42 (gw_c GW_1121 (gw_c GW_1064 (gw_c GW_1066 (gw_c GW_34 (gw_c GW_1067 (gw_c GW_1122 (gw_c GW_1123 (gw_c GW_1124 (gw_n))))))))))))))))))))))
theorem GL_wsX12_sure : GoodIn lw_tbl wsX12_sure := gw_c GW_1152 (gw_a (gw_a (GL_wsX12_sure_r1) (gw_a (GL_wsX12_sure_r2) (GL_wsX12_sure_r3))) (GL_wsX120))
set_option maxRecDepth 100000 in
theorem GW_1149 : GWd (Cond.methodLink RL 79 yX12_sure) := ⟨lwm_5 (List.mem_of_getElem? (i := 129) rfl), good_of_word (by decide +kernel)⟩
set_option maxRecDepth 100000 in
theorem GW_1150 : GWd (Cond.instanceMethod yX12_sure) := ⟨lwm_5 (List.mem_of_getElem? (i := 130) rfl), good_of_word (by decide +kernel)⟩
set_option maxRecDepth 100000 in
theorem GW_1151 : GWd (Cond.selects RX12 yX12_sure yX12_sure) := ⟨lwm_5 (List.mem_of_getElem? (i := 131) rfl), good_of_word (by decide +kernel)⟩
set_option maxRecDepth 100000 in
theorem GW_1157 : GWd (Cond.code yX12_why cX12_why 4 (some .long)) := ⟨lwm_5 (List.mem_of_getElem? (i := 137) rfl), good_of_word (by decide +kernel)⟩
set_option maxRecDepth 100000 in
theorem GW_1158 : GWd (Cond.constantLong RX12 168 (100)) := ⟨lwm_5 (List.mem_of_getElem? (i := 138) rfl), good_of_word (by decide +kernel)⟩
theorem GL_wsX12_why_r1 : GoodIn lw_tbl wsX12_why_r1 := gw_c GW_1158 (gw_c GW_949 (gw_c GW_1080 (gw_c GW_1005 (gw_c GW_1007 (gw_c GW_27 (gw_c GW_73 (gw_c GW_1008 (gw_c GW_939 (gw_c GW_1044 (gw_c GW_1046 (gw_c GW_32 (gw_c GW_1047 (gw_c GW_1114 (gw_c GW_1116 (gw_c GW_41 (gw_c GW_1117 (gw_c GW_1052 (gw_c GW_1010 (gw_c GW_1011 (gw_c GW_1012 (gw_c GW_1076 (gw_c GW_1078 (gw_c GW_35 (gw_n))))))))))))))))))))))))
set_option maxRecDepth 100000 in
theorem GW_1173 : GWd (Cond.instanceMethod yX12_grows) := ⟨lwm_5 (List.mem_of_getElem? (i := 153) rfl), good_of_word (by decide +kernel)⟩
set_option maxRecDepth 100000 in
theorem GW_1171 : GWd (Cond.methodLink RX12 165 yX12_grows) := ⟨lwm_5 (List.mem_of_getElem? (i := 151) rfl), good_of_word (by decide +kernel)⟩
set_option maxRecDepth 100000 in
theorem GW_1170 : GWd (Cond.code yX12_findAll cX12_findAll 4 none) := ⟨lwm_5 (List.mem_of_getElem? (i := 150) rfl), good_of_word (by decide +kernel)⟩
set_option maxRecDepth 100000 in
theorem GW_47 : GWd (Cond.selects RX12 yX12_findAll yX12_findAll) := ⟨List.mem_of_getElem? (i := 47) rfl, good_of_word (by decide +kernel)⟩
set_option maxRecDepth 100000 in
theorem GW_1169 : GWd (Cond.instanceMethod yX12_findAll) := ⟨lwm_5 (List.mem_of_getElem? (i := 149) rfl), good_of_word (by decide +kernel)⟩
set_option maxRecDepth 100000 in
theorem GW_1167 : GWd (Cond.methodLink RX12 176 yX12_findAll) := ⟨lwm_5 (List.mem_of_getElem? (i := 147) rfl), good_of_word (by decide +kernel)⟩
set_option maxRecDepth 100000 in
theorem GW_1166 : GWd (Cond.code yX12_findDirect cX12_findDirect 3 none) := ⟨lwm_5 (List.mem_of_getElem? (i := 146) rfl), good_of_word (by decide +kernel)⟩
set_option maxRecDepth 100000 in
theorem GW_46 : GWd (Cond.selects RX12 yX12_findDirect yX12_findDirect) := ⟨List.mem_of_getElem? (i := 46) rfl, good_of_word (by decide +kernel)⟩
set_option maxRecDepth 100000 in
theorem GW_1165 : GWd (Cond.instanceMethod yX12_findDirect) := ⟨lwm_5 (List.mem_of_getElem? (i := 145) rfl), good_of_word (by decide +kernel)⟩
set_option maxRecDepth 100000 in
theorem GW_1163 : GWd (Cond.methodLink RX12 173 yX12_findDirect) := ⟨lwm_5 (List.mem_of_getElem? (i := 143) rfl), good_of_word (by decide +kernel)⟩
set_option maxRecDepth 100000 in
theorem GW_1162 : GWd (Cond.code yX12_findBlocks cX12_findBlocks 5 none) := ⟨lwm_5 (List.mem_of_getElem? (i := 142) rfl), good_of_word (by decide +kernel)⟩
set_option maxRecDepth 100000 in
theorem GW_45 : GWd (Cond.selects RX12 yX12_findBlocks yX12_findBlocks) := ⟨List.mem_of_getElem? (i := 45) rfl, good_of_word (by decide +kernel)⟩
set_option maxRecDepth 100000 in
theorem GW_1161 : GWd (Cond.instanceMethod yX12_findBlocks) := ⟨lwm_5 (List.mem_of_getElem? (i := 141) rfl), good_of_word (by decide +kernel)⟩
set_option maxRecDepth 100000 in
theorem GW_1159 : GWd (Cond.methodLink RX12 170 yX12_findBlocks) := ⟨lwm_5 (List.mem_of_getElem? (i := 139) rfl), good_of_word (by decide +kernel)⟩
theorem GL_wsX12_why_r2 : GoodIn lw_tbl wsX12_why_r2 := gw_c GW_1079 (gw_c GW_1032 (gw_c GW_1034 (gw_c GW_30 (gw_c GW_1035 (gw_c GW_1036 (gw_c GW_1038 (gw_c GW_31 (gw_c GW_1039 (gw_c GW_1159 (gw_c GW_1161 (gw_c GW_45 (gw_c GW_1162 (gw_c GW_950 (gw_c GW_1163 (gw_c GW_1165 (gw_c GW_46 (gw_c GW_1166 (gw_c GW_1167 (gw_c GW_1169 (gw_c GW_47 (gw_c GW_1170 (gw_c GW_1171 (gw_c GW_1173 (gw_n))))))))))))))))))))))))
set_option maxRecDepth 100000 in
theorem GW_1174 : GWd (Cond.code yX12_grows cX12_grows 8 (some .boolean)) := ⟨lwm_5 (List.mem_of_getElem? (i := 154) rfl), good_of_word (by decide +kernel)⟩
set_option maxRecDepth 100000 in
theorem GW_48 : GWd (Cond.selects RX12 yX12_grows yX12_grows) := ⟨List.mem_of_getElem? (i := 48) rfl, good_of_word (by decide +kernel)⟩
theorem GL_wsX12_why_r3 : GoodIn lw_tbl wsX12_why_r3 := gw_c GW_48 (gw_c GW_1174 (gw_n))
theorem GL_wsX12_why : GoodIn lw_tbl wsX12_why := gw_c GW_1157 (gw_a (gw_a (GL_wsX12_why_r1) (gw_a (GL_wsX12_why_r2) (GL_wsX12_why_r3))) (GL_wsX120))
set_option maxRecDepth 100000 in
theorem GW_1154 : GWd (Cond.methodLink RL 83 yX12_why) := ⟨lwm_5 (List.mem_of_getElem? (i := 134) rfl), good_of_word (by decide +kernel)⟩
set_option maxRecDepth 100000 in
theorem GW_1155 : GWd (Cond.instanceMethod yX12_why) := ⟨lwm_5 (List.mem_of_getElem? (i := 135) rfl), good_of_word (by decide +kernel)⟩
set_option maxRecDepth 100000 in
theorem GW_1156 : GWd (Cond.selects RX12 yX12_why yX12_why) := ⟨lwm_5 (List.mem_of_getElem? (i := 136) rfl), good_of_word (by decide +kernel)⟩
set_option maxRecDepth 100000 in
theorem GW_1178 : GWd (Cond.code yX12_begin cX12_begin 2 (some .long)) := ⟨lwm_5 (List.mem_of_getElem? (i := 158) rfl), good_of_word (by decide +kernel)⟩
theorem GL_wsX12_begin : GoodIn lw_tbl wsX12_begin := gw_c GW_1178 (gw_a (gw_c GW_943 (gw_n)) (GL_wsX120))
set_option maxRecDepth 100000 in
theorem GW_1175 : GWd (Cond.methodLink RL 87 yX12_begin) := ⟨lwm_5 (List.mem_of_getElem? (i := 155) rfl), good_of_word (by decide +kernel)⟩
set_option maxRecDepth 100000 in
theorem GW_1176 : GWd (Cond.instanceMethod yX12_begin) := ⟨lwm_5 (List.mem_of_getElem? (i := 156) rfl), good_of_word (by decide +kernel)⟩
set_option maxRecDepth 100000 in
theorem GW_1177 : GWd (Cond.selects RX12 yX12_begin yX12_begin) := ⟨lwm_5 (List.mem_of_getElem? (i := 157) rfl), good_of_word (by decide +kernel)⟩
set_option maxRecDepth 100000 in
theorem GW_1182 : GWd (Cond.code yX12_stand cX12_stand 2 (some .long)) := ⟨lwm_5 (List.mem_of_getElem? (i := 162) rfl), good_of_word (by decide +kernel)⟩
set_option maxRecDepth 100000 in
theorem GW_1186 : GWd (Cond.code yX12_stands cX12_stands 4 (some .boolean)) := ⟨lwm_5 (List.mem_of_getElem? (i := 166) rfl), good_of_word (by decide +kernel)⟩
set_option maxRecDepth 100000 in
theorem GW_49 : GWd (Cond.selects RX12 yX12_stands yX12_stands) := ⟨List.mem_of_getElem? (i := 49) rfl, good_of_word (by decide +kernel)⟩
set_option maxRecDepth 100000 in
theorem GW_1185 : GWd (Cond.instanceMethod yX12_stands) := ⟨lwm_5 (List.mem_of_getElem? (i := 165) rfl), good_of_word (by decide +kernel)⟩
set_option maxRecDepth 100000 in
theorem GW_1183 : GWd (Cond.methodLink RX12 179 yX12_stands) := ⟨lwm_5 (List.mem_of_getElem? (i := 163) rfl), good_of_word (by decide +kernel)⟩
theorem GL_wsX12_stand : GoodIn lw_tbl wsX12_stand := gw_c GW_1182 (gw_a (gw_c GW_1018 (gw_c GW_943 (gw_c GW_1019 (gw_c GW_942 (gw_c GW_1032 (gw_c GW_1034 (gw_c GW_30 (gw_c GW_73 (gw_c GW_1035 (gw_c GW_1005 (gw_c GW_1007 (gw_c GW_27 (gw_c GW_1008 (gw_c GW_939 (gw_c GW_1010 (gw_c GW_1011 (gw_c GW_1012 (gw_c GW_1183 (gw_c GW_1185 (gw_c GW_49 (gw_c GW_1186 (gw_n)))))))))))))))))))))) (GL_wsX120))
set_option maxRecDepth 100000 in
theorem GW_1179 : GWd (Cond.methodLink RL 91 yX12_stand) := ⟨lwm_5 (List.mem_of_getElem? (i := 159) rfl), good_of_word (by decide +kernel)⟩
set_option maxRecDepth 100000 in
theorem GW_1180 : GWd (Cond.instanceMethod yX12_stand) := ⟨lwm_5 (List.mem_of_getElem? (i := 160) rfl), good_of_word (by decide +kernel)⟩
set_option maxRecDepth 100000 in
theorem GW_1181 : GWd (Cond.selects RX12 yX12_stand yX12_stand) := ⟨lwm_5 (List.mem_of_getElem? (i := 161) rfl), good_of_word (by decide +kernel)⟩
set_option maxRecDepth 100000 in
theorem GW_1190 : GWd (Cond.code yX12_order cX12_order 2 (some .long)) := ⟨lwm_5 (List.mem_of_getElem? (i := 170) rfl), good_of_word (by decide +kernel)⟩
theorem GL_wsX12_order : GoodIn lw_tbl wsX12_order := gw_c GW_1190 (gw_a (gw_c GW_943 (gw_c GW_942 (gw_c GW_1018 (gw_c GW_1010 (gw_c GW_1011 (gw_c GW_73 (gw_c GW_1012 (gw_n)))))))) (GL_wsX120))
set_option maxRecDepth 100000 in
theorem GW_1187 : GWd (Cond.methodLink RL 95 yX12_order) := ⟨lwm_5 (List.mem_of_getElem? (i := 167) rfl), good_of_word (by decide +kernel)⟩
set_option maxRecDepth 100000 in
theorem GW_1188 : GWd (Cond.instanceMethod yX12_order) := ⟨lwm_5 (List.mem_of_getElem? (i := 168) rfl), good_of_word (by decide +kernel)⟩
set_option maxRecDepth 100000 in
theorem GW_1189 : GWd (Cond.selects RX12 yX12_order yX12_order) := ⟨lwm_5 (List.mem_of_getElem? (i := 169) rfl), good_of_word (by decide +kernel)⟩
set_option maxRecDepth 100000 in
theorem GW_1194 : GWd (Cond.code yX12_move cX12_move 3 (some .long)) := ⟨lwm_5 (List.mem_of_getElem? (i := 174) rfl), good_of_word (by decide +kernel)⟩
set_option maxRecDepth 100000 in
theorem GW_1198 : GWd (Cond.code yX12_shift cX12_shift 6 none) := ⟨lwm_5 (List.mem_of_getElem? (i := 178) rfl), good_of_word (by decide +kernel)⟩
set_option maxRecDepth 100000 in
theorem GW_50 : GWd (Cond.selects RX12 yX12_shift yX12_shift) := ⟨List.mem_of_getElem? (i := 50) rfl, good_of_word (by decide +kernel)⟩
set_option maxRecDepth 100000 in
theorem GW_1197 : GWd (Cond.instanceMethod yX12_shift) := ⟨lwm_5 (List.mem_of_getElem? (i := 177) rfl), good_of_word (by decide +kernel)⟩
set_option maxRecDepth 100000 in
theorem GW_1195 : GWd (Cond.methodLink RX12 182 yX12_shift) := ⟨lwm_5 (List.mem_of_getElem? (i := 175) rfl), good_of_word (by decide +kernel)⟩
theorem GL_wsX12_move : GoodIn lw_tbl wsX12_move := gw_c GW_1194 (gw_a (gw_c GW_943 (gw_c GW_1018 (gw_c GW_1010 (gw_c GW_1011 (gw_c GW_73 (gw_c GW_1012 (gw_c GW_1195 (gw_c GW_1197 (gw_c GW_50 (gw_c GW_1198 (gw_c GW_942 (gw_n)))))))))))) (GL_wsX120))
set_option maxRecDepth 100000 in
theorem GW_1191 : GWd (Cond.methodLink RL 99 yX12_move) := ⟨lwm_5 (List.mem_of_getElem? (i := 171) rfl), good_of_word (by decide +kernel)⟩
set_option maxRecDepth 100000 in
theorem GW_1192 : GWd (Cond.instanceMethod yX12_move) := ⟨lwm_5 (List.mem_of_getElem? (i := 172) rfl), good_of_word (by decide +kernel)⟩
set_option maxRecDepth 100000 in
theorem GW_1193 : GWd (Cond.selects RX12 yX12_move yX12_move) := ⟨lwm_5 (List.mem_of_getElem? (i := 173) rfl), good_of_word (by decide +kernel)⟩
set_option maxRecDepth 100000 in
theorem GW_1202 : GWd (Cond.code yX12_weight cX12_weight 1 (some .long)) := ⟨lwm_5 (List.mem_of_getElem? (i := 182) rfl), good_of_word (by decide +kernel)⟩
theorem GL_wsX12_weight_r1 : GoodIn lw_tbl wsX12_weight_r1 := gw_c GW_1000 (gw_c GW_1145 (gw_c GW_1147 (gw_c GW_44 (gw_c GW_73 (gw_c GW_1148 (gw_c GW_943 (gw_c GW_942 (gw_c GW_1097 (gw_c GW_1099 (gw_c GW_37 (gw_c GW_1100 (gw_c GW_1005 (gw_c GW_1007 (gw_c GW_27 (gw_c GW_1008 (gw_c GW_939 (gw_c GW_1076 (gw_c GW_1078 (gw_c GW_35 (gw_c GW_1079 (gw_c GW_1032 (gw_c GW_1034 (gw_c GW_30 (gw_n))))))))))))))))))))))))
set_option maxRecDepth 100000 in
theorem GW_1206 : GWd (Cond.code yX12_weightNow cX12_weightNow 5 (some .long)) := ⟨lwm_5 (List.mem_of_getElem? (i := 186) rfl), good_of_word (by decide +kernel)⟩
set_option maxRecDepth 100000 in
theorem GW_51 : GWd (Cond.selects RX12 yX12_weightNow yX12_weightNow) := ⟨List.mem_of_getElem? (i := 51) rfl, good_of_word (by decide +kernel)⟩
set_option maxRecDepth 100000 in
theorem GW_1205 : GWd (Cond.instanceMethod yX12_weightNow) := ⟨lwm_5 (List.mem_of_getElem? (i := 185) rfl), good_of_word (by decide +kernel)⟩
set_option maxRecDepth 100000 in
theorem GW_1203 : GWd (Cond.methodLink RX12 185 yX12_weightNow) := ⟨lwm_5 (List.mem_of_getElem? (i := 183) rfl), good_of_word (by decide +kernel)⟩
theorem GL_wsX12_weight_r2 : GoodIn lw_tbl wsX12_weight_r2 := gw_c GW_1035 (gw_c GW_1010 (gw_c GW_1011 (gw_c GW_1012 (gw_c GW_1044 (gw_c GW_1046 (gw_c GW_32 (gw_c GW_1047 (gw_c GW_1203 (gw_c GW_1205 (gw_c GW_51 (gw_c GW_1206 (gw_c GW_1064 (gw_c GW_1066 (gw_c GW_34 (gw_c GW_1067 (gw_n))))))))))))))))
theorem GL_wsX12_weight : GoodIn lw_tbl wsX12_weight := gw_c GW_1202 (gw_a (gw_a (GL_wsX12_weight_r1) (GL_wsX12_weight_r2)) (GL_wsX120))
set_option maxRecDepth 100000 in
theorem GW_1199 : GWd (Cond.methodLink RL 103 yX12_weight) := ⟨lwm_5 (List.mem_of_getElem? (i := 179) rfl), good_of_word (by decide +kernel)⟩
set_option maxRecDepth 100000 in
theorem GW_1200 : GWd (Cond.instanceMethod yX12_weight) := ⟨lwm_5 (List.mem_of_getElem? (i := 180) rfl), good_of_word (by decide +kernel)⟩
set_option maxRecDepth 100000 in
theorem GW_1201 : GWd (Cond.selects RX12 yX12_weight yX12_weight) := ⟨lwm_5 (List.mem_of_getElem? (i := 181) rfl), good_of_word (by decide +kernel)⟩
set_option maxRecDepth 100000 in
theorem GW_1210 : GWd (Cond.code yX12_fault cX12_fault 1 (some .long)) := ⟨lwm_5 (List.mem_of_getElem? (i := 190) rfl), good_of_word (by decide +kernel)⟩
theorem GL_wsX12_fault_r1 : GoodIn lw_tbl wsX12_fault_r1 := gw_c GW_1000 (gw_c GW_1080 (gw_c GW_1145 (gw_c GW_1147 (gw_c GW_44 (gw_c GW_73 (gw_c GW_1148 (gw_c GW_943 (gw_c GW_942 (gw_c GW_1097 (gw_c GW_1099 (gw_c GW_37 (gw_c GW_1100 (gw_c GW_1005 (gw_c GW_1007 (gw_c GW_27 (gw_c GW_1008 (gw_c GW_939 (gw_c GW_1076 (gw_c GW_1078 (gw_c GW_35 (gw_c GW_1079 (gw_c GW_1032 (gw_c GW_1034 (gw_n))))))))))))))))))))))))
set_option maxRecDepth 100000 in
theorem GW_1214 : GWd (Cond.code yX12_faulty cX12_faulty 5 (some .int)) := ⟨lwm_5 (List.mem_of_getElem? (i := 194) rfl), good_of_word (by decide +kernel)⟩
set_option maxRecDepth 100000 in
theorem GW_52 : GWd (Cond.selects RX12 yX12_faulty yX12_faulty) := ⟨List.mem_of_getElem? (i := 52) rfl, good_of_word (by decide +kernel)⟩
set_option maxRecDepth 100000 in
theorem GW_1213 : GWd (Cond.instanceMethod yX12_faulty) := ⟨lwm_5 (List.mem_of_getElem? (i := 193) rfl), good_of_word (by decide +kernel)⟩
set_option maxRecDepth 100000 in
theorem GW_1211 : GWd (Cond.methodLink RX12 189 yX12_faulty) := ⟨lwm_5 (List.mem_of_getElem? (i := 191) rfl), good_of_word (by decide +kernel)⟩
theorem GL_wsX12_fault_r2 : GoodIn lw_tbl wsX12_fault_r2 := gw_c GW_30 (gw_c GW_1035 (gw_c GW_1010 (gw_c GW_1011 (gw_c GW_1012 (gw_c GW_1044 (gw_c GW_1046 (gw_c GW_32 (gw_c GW_1047 (gw_c GW_1211 (gw_c GW_1213 (gw_c GW_52 (gw_c GW_1214 (gw_c GW_1110 (gw_c GW_1112 (gw_c GW_40 (gw_c GW_1113 (gw_c GW_1114 (gw_c GW_1116 (gw_c GW_41 (gw_c GW_1117 (gw_c GW_1052 (gw_c GW_1036 (gw_c GW_1038 (gw_n))))))))))))))))))))))))
theorem GL_wsX12_fault_r3 : GoodIn lw_tbl wsX12_fault_r3 := gw_c GW_31 (gw_c GW_1039 (gw_n))
theorem GL_wsX12_fault : GoodIn lw_tbl wsX12_fault := gw_c GW_1210 (gw_a (gw_a (GL_wsX12_fault_r1) (gw_a (GL_wsX12_fault_r2) (GL_wsX12_fault_r3))) (GL_wsX120))
set_option maxRecDepth 100000 in
theorem GW_1207 : GWd (Cond.methodLink RL 107 yX12_fault) := ⟨lwm_5 (List.mem_of_getElem? (i := 187) rfl), good_of_word (by decide +kernel)⟩
set_option maxRecDepth 100000 in
theorem GW_1208 : GWd (Cond.instanceMethod yX12_fault) := ⟨lwm_5 (List.mem_of_getElem? (i := 188) rfl), good_of_word (by decide +kernel)⟩
set_option maxRecDepth 100000 in
theorem GW_1209 : GWd (Cond.selects RX12 yX12_fault yX12_fault) := ⟨lwm_5 (List.mem_of_getElem? (i := 189) rfl), good_of_word (by decide +kernel)⟩
set_option maxRecDepth 100000 in
theorem GW_1218 : GWd (Cond.code yX12_better cX12_better 3 (some .long)) := ⟨lwm_5 (List.mem_of_getElem? (i := 198) rfl), good_of_word (by decide +kernel)⟩
set_option maxRecDepth 100000 in
theorem GW_1219 : GWd (Cond.constantLong RX12 192 (40)) := ⟨lwm_5 (List.mem_of_getElem? (i := 199) rfl), good_of_word (by decide +kernel)⟩
theorem GL_wsX12_better_r1 : GoodIn lw_tbl wsX12_better_r1 := gw_c GW_1219 (gw_c GW_1018 (gw_c GW_1000 (gw_c GW_1010 (gw_c GW_1011 (gw_c GW_73 (gw_c GW_1012 (gw_c GW_1145 (gw_c GW_1147 (gw_c GW_44 (gw_c GW_1148 (gw_c GW_943 (gw_c GW_942 (gw_c GW_1097 (gw_c GW_1099 (gw_c GW_37 (gw_c GW_1100 (gw_c GW_1005 (gw_c GW_1007 (gw_c GW_27 (gw_c GW_1008 (gw_c GW_939 (gw_c GW_1076 (gw_c GW_1078 (gw_n))))))))))))))))))))))))
set_option maxRecDepth 100000 in
theorem GW_1223 : GWd (Cond.code yX12_betters cX12_betters 12 (some .boolean)) := ⟨lwm_5 (List.mem_of_getElem? (i := 203) rfl), good_of_word (by decide +kernel)⟩
set_option maxRecDepth 100000 in
theorem GW_53 : GWd (Cond.selects RX12 yX12_betters yX12_betters) := ⟨List.mem_of_getElem? (i := 53) rfl, good_of_word (by decide +kernel)⟩
set_option maxRecDepth 100000 in
theorem GW_1222 : GWd (Cond.instanceMethod yX12_betters) := ⟨lwm_5 (List.mem_of_getElem? (i := 202) rfl), good_of_word (by decide +kernel)⟩
set_option maxRecDepth 100000 in
theorem GW_1220 : GWd (Cond.methodLink RX12 194 yX12_betters) := ⟨lwm_5 (List.mem_of_getElem? (i := 200) rfl), good_of_word (by decide +kernel)⟩
theorem GL_wsX12_better_r2 : GoodIn lw_tbl wsX12_better_r2 := gw_c GW_35 (gw_c GW_1079 (gw_c GW_1032 (gw_c GW_1034 (gw_c GW_30 (gw_c GW_1035 (gw_c GW_1044 (gw_c GW_1046 (gw_c GW_32 (gw_c GW_1047 (gw_c GW_1220 (gw_c GW_1222 (gw_c GW_53 (gw_c GW_1223 (gw_c GW_1203 (gw_c GW_1205 (gw_c GW_51 (gw_c GW_1206 (gw_c GW_1064 (gw_c GW_1066 (gw_c GW_34 (gw_c GW_1067 (gw_c GW_1195 (gw_c GW_1197 (gw_n))))))))))))))))))))))))
theorem GL_wsX12_better_r3 : GoodIn lw_tbl wsX12_better_r3 := gw_c GW_50 (gw_c GW_1198 (gw_c GW_1211 (gw_c GW_1213 (gw_c GW_52 (gw_c GW_1214 (gw_c GW_1110 (gw_c GW_1112 (gw_c GW_40 (gw_c GW_1113 (gw_c GW_1114 (gw_c GW_1116 (gw_c GW_41 (gw_c GW_1117 (gw_c GW_1052 (gw_c GW_1036 (gw_c GW_1038 (gw_c GW_31 (gw_c GW_1039 (gw_n)))))))))))))))))))
theorem GL_wsX12_better : GoodIn lw_tbl wsX12_better := gw_c GW_1218 (gw_a (gw_a (GL_wsX12_better_r1) (gw_a (GL_wsX12_better_r2) (GL_wsX12_better_r3))) (GL_wsX120))
set_option maxRecDepth 100000 in
theorem GW_1215 : GWd (Cond.methodLink RL 111 yX12_better) := ⟨lwm_5 (List.mem_of_getElem? (i := 195) rfl), good_of_word (by decide +kernel)⟩
set_option maxRecDepth 100000 in
theorem GW_1216 : GWd (Cond.instanceMethod yX12_better) := ⟨lwm_5 (List.mem_of_getElem? (i := 196) rfl), good_of_word (by decide +kernel)⟩
set_option maxRecDepth 100000 in
theorem GW_1217 : GWd (Cond.selects RX12 yX12_better yX12_better) := ⟨lwm_5 (List.mem_of_getElem? (i := 197) rfl), good_of_word (by decide +kernel)⟩
set_option maxRecDepth 100000 in
theorem GW_1227 : GWd (Cond.code yX12_turn cX12_turn 3 (some .long)) := ⟨lwm_5 (List.mem_of_getElem? (i := 207) rfl), good_of_word (by decide +kernel)⟩
theorem GL_wsX12_turn : GoodIn lw_tbl wsX12_turn := gw_c GW_1227 (gw_a (gw_c GW_943 (gw_c GW_942 (gw_n))) (GL_wsX120))
set_option maxRecDepth 100000 in
theorem GW_1224 : GWd (Cond.methodLink RL 115 yX12_turn) := ⟨lwm_5 (List.mem_of_getElem? (i := 204) rfl), good_of_word (by decide +kernel)⟩
set_option maxRecDepth 100000 in
theorem GW_1225 : GWd (Cond.instanceMethod yX12_turn) := ⟨lwm_5 (List.mem_of_getElem? (i := 205) rfl), good_of_word (by decide +kernel)⟩
set_option maxRecDepth 100000 in
theorem GW_1226 : GWd (Cond.selects RX12 yX12_turn yX12_turn) := ⟨lwm_5 (List.mem_of_getElem? (i := 206) rfl), good_of_word (by decide +kernel)⟩
set_option maxRecDepth 100000 in
theorem GW_1231 : GWd (Cond.code yX12_groups cX12_groups 1 (some .long)) := ⟨lwm_5 (List.mem_of_getElem? (i := 211) rfl), good_of_word (by decide +kernel)⟩
set_option maxRecDepth 100000 in
theorem GW_1239 : GWd (Cond.code yX12_findReach cX12_findReach 4 none) := ⟨lwm_5 (List.mem_of_getElem? (i := 219) rfl), good_of_word (by decide +kernel)⟩
set_option maxRecDepth 100000 in
theorem GW_55 : GWd (Cond.selects RX12 yX12_findReach yX12_findReach) := ⟨List.mem_of_getElem? (i := 55) rfl, good_of_word (by decide +kernel)⟩
set_option maxRecDepth 100000 in
theorem GW_1238 : GWd (Cond.instanceMethod yX12_findReach) := ⟨lwm_5 (List.mem_of_getElem? (i := 218) rfl), good_of_word (by decide +kernel)⟩
set_option maxRecDepth 100000 in
theorem GW_1236 : GWd (Cond.methodLink RX12 200 yX12_findReach) := ⟨lwm_5 (List.mem_of_getElem? (i := 216) rfl), good_of_word (by decide +kernel)⟩
set_option maxRecDepth 100000 in
theorem GW_1235 : GWd (Cond.code yX12_findGroups cX12_findGroups 4 (some .int)) := ⟨lwm_5 (List.mem_of_getElem? (i := 215) rfl), good_of_word (by decide +kernel)⟩
set_option maxRecDepth 100000 in
theorem GW_54 : GWd (Cond.selects RX12 yX12_findGroups yX12_findGroups) := ⟨List.mem_of_getElem? (i := 54) rfl, good_of_word (by decide +kernel)⟩
set_option maxRecDepth 100000 in
theorem GW_1234 : GWd (Cond.instanceMethod yX12_findGroups) := ⟨lwm_5 (List.mem_of_getElem? (i := 214) rfl), good_of_word (by decide +kernel)⟩
set_option maxRecDepth 100000 in
theorem GW_1232 : GWd (Cond.methodLink RX12 206 yX12_findGroups) := ⟨lwm_5 (List.mem_of_getElem? (i := 212) rfl), good_of_word (by decide +kernel)⟩
theorem GL_wsX12_groups_r1 : GoodIn lw_tbl wsX12_groups_r1 := gw_c GW_1232 (gw_c GW_1234 (gw_c GW_54 (gw_c GW_73 (gw_c GW_1235 (gw_c GW_952 (gw_c GW_1236 (gw_c GW_1238 (gw_c GW_55 (gw_c GW_1239 (gw_c GW_951 (gw_c GW_1076 (gw_c GW_1078 (gw_c GW_35 (gw_c GW_1079 (gw_c GW_939 (gw_c GW_1032 (gw_c GW_1034 (gw_c GW_30 (gw_c GW_1035 (gw_c GW_1005 (gw_c GW_1007 (gw_c GW_27 (gw_c GW_1008 (gw_n))))))))))))))))))))))))
set_option maxRecDepth 100000 in
theorem GW_1247 : GWd (Cond.code yX12_isOne cX12_isOne 3 (some .boolean)) := ⟨lwm_5 (List.mem_of_getElem? (i := 227) rfl), good_of_word (by decide +kernel)⟩
set_option maxRecDepth 100000 in
theorem GW_57 : GWd (Cond.selects RX12 yX12_isOne yX12_isOne) := ⟨List.mem_of_getElem? (i := 57) rfl, good_of_word (by decide +kernel)⟩
set_option maxRecDepth 100000 in
theorem GW_1246 : GWd (Cond.instanceMethod yX12_isOne) := ⟨lwm_5 (List.mem_of_getElem? (i := 226) rfl), good_of_word (by decide +kernel)⟩
set_option maxRecDepth 100000 in
theorem GW_1244 : GWd (Cond.methodLink RX12 197 yX12_isOne) := ⟨lwm_5 (List.mem_of_getElem? (i := 224) rfl), good_of_word (by decide +kernel)⟩
set_option maxRecDepth 100000 in
theorem GW_1243 : GWd (Cond.code yX12_isNext cX12_isNext 4 (some .boolean)) := ⟨lwm_5 (List.mem_of_getElem? (i := 223) rfl), good_of_word (by decide +kernel)⟩
set_option maxRecDepth 100000 in
theorem GW_56 : GWd (Cond.selects RX12 yX12_isNext yX12_isNext) := ⟨List.mem_of_getElem? (i := 56) rfl, good_of_word (by decide +kernel)⟩
set_option maxRecDepth 100000 in
theorem GW_1242 : GWd (Cond.instanceMethod yX12_isNext) := ⟨lwm_5 (List.mem_of_getElem? (i := 222) rfl), good_of_word (by decide +kernel)⟩
set_option maxRecDepth 100000 in
theorem GW_1240 : GWd (Cond.methodLink RX12 203 yX12_isNext) := ⟨lwm_5 (List.mem_of_getElem? (i := 220) rfl), good_of_word (by decide +kernel)⟩
theorem GL_wsX12_groups_r2 : GoodIn lw_tbl wsX12_groups_r2 := gw_c GW_1010 (gw_c GW_1011 (gw_c GW_1012 (gw_c GW_1044 (gw_c GW_1046 (gw_c GW_32 (gw_c GW_1047 (gw_c GW_1064 (gw_c GW_1066 (gw_c GW_34 (gw_c GW_1067 (gw_c GW_1240 (gw_c GW_1242 (gw_c GW_56 (gw_c GW_1243 (gw_c GW_1244 (gw_c GW_1246 (gw_c GW_57 (gw_c GW_1247 (gw_n)))))))))))))))))))
theorem GL_wsX12_groups : GoodIn lw_tbl wsX12_groups := gw_c GW_1231 (gw_a (gw_a (GL_wsX12_groups_r1) (GL_wsX12_groups_r2)) (GL_wsX120))
set_option maxRecDepth 100000 in
theorem GW_1228 : GWd (Cond.methodLink RL 119 yX12_groups) := ⟨lwm_5 (List.mem_of_getElem? (i := 208) rfl), good_of_word (by decide +kernel)⟩
set_option maxRecDepth 100000 in
theorem GW_1229 : GWd (Cond.instanceMethod yX12_groups) := ⟨lwm_5 (List.mem_of_getElem? (i := 209) rfl), good_of_word (by decide +kernel)⟩
set_option maxRecDepth 100000 in
theorem GW_1230 : GWd (Cond.selects RX12 yX12_groups yX12_groups) := ⟨lwm_5 (List.mem_of_getElem? (i := 210) rfl), good_of_word (by decide +kernel)⟩
set_option maxRecDepth 100000 in
theorem GW_1251 : GWd (Cond.code yX12_groupOf cX12_groupOf 2 (some .long)) := ⟨lwm_5 (List.mem_of_getElem? (i := 231) rfl), good_of_word (by decide +kernel)⟩
theorem GL_wsX12_groupOf_r1 : GoodIn lw_tbl wsX12_groupOf_r1 := gw_c GW_1018 (gw_c GW_1080 (gw_c GW_952 (gw_c GW_1032 (gw_c GW_1034 (gw_c GW_30 (gw_c GW_73 (gw_c GW_1035 (gw_c GW_1005 (gw_c GW_1007 (gw_c GW_27 (gw_c GW_1008 (gw_c GW_939 (gw_c GW_1010 (gw_c GW_1011 (gw_c GW_1012 (gw_c GW_1076 (gw_c GW_1078 (gw_c GW_35 (gw_c GW_1079 (gw_c GW_1044 (gw_c GW_1046 (gw_c GW_32 (gw_c GW_1047 (gw_n))))))))))))))))))))))))
theorem GL_wsX12_groupOf_r2 : GoodIn lw_tbl wsX12_groupOf_r2 := gw_c GW_1232 (gw_c GW_1234 (gw_c GW_54 (gw_c GW_1235 (gw_c GW_1236 (gw_c GW_1238 (gw_c GW_55 (gw_c GW_1239 (gw_c GW_951 (gw_c GW_1064 (gw_c GW_1066 (gw_c GW_34 (gw_c GW_1067 (gw_c GW_1240 (gw_c GW_1242 (gw_c GW_56 (gw_c GW_1243 (gw_c GW_1244 (gw_c GW_1246 (gw_c GW_57 (gw_c GW_1247 (gw_n)))))))))))))))))))))
theorem GL_wsX12_groupOf : GoodIn lw_tbl wsX12_groupOf := gw_c GW_1251 (gw_a (gw_a (GL_wsX12_groupOf_r1) (GL_wsX12_groupOf_r2)) (GL_wsX120))
set_option maxRecDepth 100000 in
theorem GW_1248 : GWd (Cond.methodLink RL 123 yX12_groupOf) := ⟨lwm_5 (List.mem_of_getElem? (i := 228) rfl), good_of_word (by decide +kernel)⟩
set_option maxRecDepth 100000 in
theorem GW_1249 : GWd (Cond.instanceMethod yX12_groupOf) := ⟨lwm_5 (List.mem_of_getElem? (i := 229) rfl), good_of_word (by decide +kernel)⟩
set_option maxRecDepth 100000 in
theorem GW_1250 : GWd (Cond.selects RX12 yX12_groupOf yX12_groupOf) := ⟨lwm_5 (List.mem_of_getElem? (i := 230) rfl), good_of_word (by decide +kernel)⟩
set_option maxRecDepth 100000 in
theorem GW_1255 : GWd (Cond.code yX12_pack cX12_pack 9 (some .long)) := ⟨lwm_5 (List.mem_of_getElem? (i := 235) rfl), good_of_word (by decide +kernel)⟩
set_option maxRecDepth 100000 in
theorem GW_956 : GWd (Cond.fieldLink RX12 212 "PeckYardModel" "ringCount" "I") := ⟨lwm_4 (List.mem_of_getElem? (i := 176) rfl), good_of_word (by decide +kernel)⟩
theorem GL_wsX12_pack_r1 : GoodIn lw_tbl wsX12_pack_r1 := gw_c GW_953 (gw_c GW_956 (gw_c GW_1105 (gw_c GW_954 (gw_c GW_955 (gw_c GW_1076 (gw_c GW_1078 (gw_c GW_35 (gw_c GW_73 (gw_c GW_1079 (gw_c GW_939 (gw_c GW_1032 (gw_c GW_1034 (gw_c GW_30 (gw_c GW_1035 (gw_c GW_1005 (gw_c GW_1007 (gw_c GW_27 (gw_c GW_1008 (gw_c GW_1010 (gw_c GW_1011 (gw_c GW_1012 (gw_c GW_1044 (gw_c GW_1046 (gw_n))))))))))))))))))))))))
set_option maxRecDepth 100000 in
theorem GW_1263 : GWd (Cond.code yX12_closes cX12_closes 7 (some .boolean)) := ⟨lwm_6 (List.mem_of_getElem? (i := 3) rfl), good_of_word (by decide +kernel)⟩
set_option maxRecDepth 100000 in
theorem GW_59 : GWd (Cond.selects RX12 yX12_closes yX12_closes) := ⟨List.mem_of_getElem? (i := 59) rfl, good_of_word (by decide +kernel)⟩
set_option maxRecDepth 100000 in
theorem GW_1262 : GWd (Cond.instanceMethod yX12_closes) := ⟨lwm_6 (List.mem_of_getElem? (i := 2) rfl), good_of_word (by decide +kernel)⟩
set_option maxRecDepth 100000 in
theorem GW_1260 : GWd (Cond.methodLink RX12 209 yX12_closes) := ⟨lwm_6 (List.mem_of_getElem? (i := 0) rfl), good_of_word (by decide +kernel)⟩
set_option maxRecDepth 100000 in
theorem GW_1259 : GWd (Cond.code yX12_ringNext cX12_ringNext 3 (some .int)) := ⟨lwm_5 (List.mem_of_getElem? (i := 239) rfl), good_of_word (by decide +kernel)⟩
set_option maxRecDepth 100000 in
theorem GW_58 : GWd (Cond.selects RX12 yX12_ringNext yX12_ringNext) := ⟨List.mem_of_getElem? (i := 58) rfl, good_of_word (by decide +kernel)⟩
set_option maxRecDepth 100000 in
theorem GW_1258 : GWd (Cond.instanceMethod yX12_ringNext) := ⟨lwm_5 (List.mem_of_getElem? (i := 238) rfl), good_of_word (by decide +kernel)⟩
set_option maxRecDepth 100000 in
theorem GW_1256 : GWd (Cond.methodLink RX12 215 yX12_ringNext) := ⟨lwm_5 (List.mem_of_getElem? (i := 236) rfl), good_of_word (by decide +kernel)⟩
theorem GL_wsX12_pack_r2 : GoodIn lw_tbl wsX12_pack_r2 := gw_c GW_32 (gw_c GW_1047 (gw_c GW_1064 (gw_c GW_1066 (gw_c GW_34 (gw_c GW_1067 (gw_c GW_1256 (gw_c GW_1258 (gw_c GW_58 (gw_c GW_1259 (gw_c GW_1260 (gw_c GW_1262 (gw_c GW_59 (gw_c GW_1263 (gw_n))))))))))))))
theorem GL_wsX12_pack : GoodIn lw_tbl wsX12_pack := gw_c GW_1255 (gw_a (gw_a (GL_wsX12_pack_r1) (GL_wsX12_pack_r2)) (GL_wsX120))
set_option maxRecDepth 100000 in
theorem GW_1252 : GWd (Cond.methodLink RL 131 yX12_pack) := ⟨lwm_5 (List.mem_of_getElem? (i := 232) rfl), good_of_word (by decide +kernel)⟩
set_option maxRecDepth 100000 in
theorem GW_1253 : GWd (Cond.instanceMethod yX12_pack) := ⟨lwm_5 (List.mem_of_getElem? (i := 233) rfl), good_of_word (by decide +kernel)⟩
set_option maxRecDepth 100000 in
theorem GW_1254 : GWd (Cond.selects RX12 yX12_pack yX12_pack) := ⟨lwm_5 (List.mem_of_getElem? (i := 234) rfl), good_of_word (by decide +kernel)⟩
set_option maxRecDepth 100000 in
theorem GW_1267 : GWd (Cond.code yX12_ring cX12_ring 3 (some .long)) := ⟨lwm_6 (List.mem_of_getElem? (i := 7) rfl), good_of_word (by decide +kernel)⟩
theorem GL_wsX12_ring : GoodIn lw_tbl wsX12_ring := gw_c GW_1267 (gw_a (gw_c GW_1018 (gw_c GW_956 (gw_c GW_1080 (gw_c GW_1153 (gw_c GW_955 (gw_n)))))) (GL_wsX120))
set_option maxRecDepth 100000 in
theorem GW_1264 : GWd (Cond.methodLink RL 135 yX12_ring) := ⟨lwm_6 (List.mem_of_getElem? (i := 4) rfl), good_of_word (by decide +kernel)⟩
set_option maxRecDepth 100000 in
theorem GW_1265 : GWd (Cond.instanceMethod yX12_ring) := ⟨lwm_6 (List.mem_of_getElem? (i := 5) rfl), good_of_word (by decide +kernel)⟩
set_option maxRecDepth 100000 in
theorem GW_1266 : GWd (Cond.selects RX12 yX12_ring yX12_ring) := ⟨lwm_6 (List.mem_of_getElem? (i := 6) rfl), good_of_word (by decide +kernel)⟩
set_option maxRecDepth 100000 in
theorem GW_1271 : GWd (Cond.code yX12_count cX12_count 5 (some .long)) := ⟨lwm_6 (List.mem_of_getElem? (i := 11) rfl), good_of_word (by decide +kernel)⟩
theorem GL_wsX12_count_r1 : GoodIn lw_tbl wsX12_count_r1 := gw_c GW_943 (gw_c GW_941 (gw_c GW_956 (gw_c GW_1018 (gw_c GW_1005 (gw_c GW_1007 (gw_c GW_27 (gw_c GW_73 (gw_c GW_1008 (gw_c GW_939 (gw_c GW_1076 (gw_c GW_1078 (gw_c GW_35 (gw_c GW_1079 (gw_c GW_1032 (gw_c GW_1034 (gw_c GW_30 (gw_c GW_1035 (gw_c GW_1010 (gw_c GW_1011 (gw_c GW_1012 (gw_c GW_1044 (gw_c GW_1046 (gw_c GW_32 (gw_n))))))))))))))))))))))))
theorem GL_wsX12_count_r2 : GoodIn lw_tbl wsX12_count_r2 := gw_c GW_1047 (gw_c GW_1064 (gw_c GW_1066 (gw_c GW_34 (gw_c GW_1067 (gw_c GW_1057 (gw_c GW_1059 (gw_c GW_33 (gw_c GW_1060 (gw_n)))))))))
theorem GL_wsX12_count : GoodIn lw_tbl wsX12_count := gw_c GW_1271 (gw_a (gw_a (GL_wsX12_count_r1) (GL_wsX12_count_r2)) (GL_wsX120))
set_option maxRecDepth 100000 in
theorem GW_1268 : GWd (Cond.methodLink RL 139 yX12_count) := ⟨lwm_6 (List.mem_of_getElem? (i := 8) rfl), good_of_word (by decide +kernel)⟩
set_option maxRecDepth 100000 in
theorem GW_1269 : GWd (Cond.instanceMethod yX12_count) := ⟨lwm_6 (List.mem_of_getElem? (i := 9) rfl), good_of_word (by decide +kernel)⟩
set_option maxRecDepth 100000 in
theorem GW_1270 : GWd (Cond.selects RX12 yX12_count yX12_count) := ⟨lwm_6 (List.mem_of_getElem? (i := 10) rfl), good_of_word (by decide +kernel)⟩
theorem GV_X11_hen : GoodIn lw_tbl (wsV RL 13 RX11 yX11_hen wsX11_hen) := gw_a (gw_c GW_448 (gw_c GW_449 (gw_c GW_450 (gw_c GW_61 gw_n)))) GL_wsX11_hen
theorem GV_X11_ask : GoodIn lw_tbl (wsV RL 18 RX11 yX11_ask wsX11_ask) := gw_a (gw_c GW_483 (gw_c GW_484 (gw_c GW_485 (gw_c GW_61 gw_n)))) GL_wsX11_ask
theorem GV_X11_take : GoodIn lw_tbl (wsV RL 22 RX11 yX11_take wsX11_take) := gw_a (gw_c GW_502 (gw_c GW_503 (gw_c GW_504 (gw_c GW_61 gw_n)))) GL_wsX11_take
theorem GV_X11_pen : GoodIn lw_tbl (wsV RL 26 RX11 yX11_pen wsX11_pen) := gw_a (gw_c GW_507 (gw_c GW_508 (gw_c GW_509 (gw_c GW_61 gw_n)))) GL_wsX11_pen
theorem GV_X11_peck : GoodIn lw_tbl (wsV RL 32 RX11 yX11_peck wsX11_peck) := gw_a (gw_c GW_514 (gw_c GW_515 (gw_c GW_516 (gw_c GW_61 gw_n)))) GL_wsX11_peck
theorem GV_X11_leave : GoodIn lw_tbl (wsV RL 37 RX11 yX11_leave wsX11_leave) := gw_a (gw_c GW_524 (gw_c GW_525 (gw_c GW_526 (gw_c GW_61 gw_n)))) GL_wsX11_leave
theorem GV_X11_about : GoodIn lw_tbl (wsV RL 42 RX11 yX11_about wsX11_about) := gw_a (gw_c GW_528 (gw_c GW_529 (gw_c GW_530 (gw_c GW_61 gw_n)))) GL_wsX11_about
theorem GV_X11_isOf : GoodIn lw_tbl (wsV RL 46 RX11 yX11_isOf wsX11_isOf) := gw_a (gw_c GW_538 (gw_c GW_539 (gw_c GW_540 (gw_c GW_61 gw_n)))) GL_wsX11_isOf
theorem GV_X11_pecks : GoodIn lw_tbl (wsV RL 50 RX11 yX11_pecks wsX11_pecks) := gw_a (gw_c GW_542 (gw_c GW_543 (gw_c GW_544 (gw_c GW_61 gw_n)))) GL_wsX11_pecks
theorem GV_X11_undo : GoodIn lw_tbl (wsV RL 54 RX11 yX11_undo wsX11_undo) := gw_a (gw_c GW_546 (gw_c GW_547 (gw_c GW_548 (gw_c GW_61 gw_n)))) GL_wsX11_undo
theorem GV_X11_least : GoodIn lw_tbl (wsV RL 59 RX11 yX11_least wsX11_least) := gw_a (gw_c GW_558 (gw_c GW_559 (gw_c GW_560 (gw_c GW_61 gw_n)))) GL_wsX11_least
theorem GV_X11_many : GoodIn lw_tbl (wsV RL 63 RX11 yX11_many wsX11_many) := gw_a (gw_c GW_631 (gw_c GW_632 (gw_c GW_633 (gw_c GW_61 gw_n)))) GL_wsX11_many
theorem GV_X11_best : GoodIn lw_tbl (wsV RL 67 RX11 yX11_best wsX11_best) := gw_a (gw_c GW_639 (gw_c GW_640 (gw_c GW_641 (gw_c GW_61 gw_n)))) GL_wsX11_best
theorem GV_X11_number : GoodIn lw_tbl (wsV RL 72 RX11 yX11_number wsX11_number) := gw_a (gw_c GW_658 (gw_c GW_659 (gw_c GW_660 (gw_c GW_61 gw_n)))) GL_wsX11_number
theorem GV_X11_sure : GoodIn lw_tbl (wsV RL 76 RX11 yX11_sure wsX11_sure) := gw_a (gw_c GW_673 (gw_c GW_674 (gw_c GW_675 (gw_c GW_61 gw_n)))) GL_wsX11_sure
theorem GV_X11_why : GoodIn lw_tbl (wsV RL 80 RX11 yX11_why wsX11_why) := gw_a (gw_c GW_692 (gw_c GW_693 (gw_c GW_694 (gw_c GW_61 gw_n)))) GL_wsX11_why
theorem GV_X11_begin : GoodIn lw_tbl (wsV RL 84 RX11 yX11_begin wsX11_begin) := gw_a (gw_c GW_729 (gw_c GW_730 (gw_c GW_731 (gw_c GW_61 gw_n)))) GL_wsX11_begin
theorem GV_X11_stand : GoodIn lw_tbl (wsV RL 88 RX11 yX11_stand wsX11_stand) := gw_a (gw_c GW_733 (gw_c GW_734 (gw_c GW_735 (gw_c GW_61 gw_n)))) GL_wsX11_stand
theorem GV_X11_order : GoodIn lw_tbl (wsV RL 92 RX11 yX11_order wsX11_order) := gw_a (gw_c GW_742 (gw_c GW_743 (gw_c GW_744 (gw_c GW_61 gw_n)))) GL_wsX11_order
theorem GV_X11_move : GoodIn lw_tbl (wsV RL 96 RX11 yX11_move wsX11_move) := gw_a (gw_c GW_750 (gw_c GW_751 (gw_c GW_752 (gw_c GW_61 gw_n)))) GL_wsX11_move
theorem GV_X11_weight : GoodIn lw_tbl (wsV RL 100 RX11 yX11_weight wsX11_weight) := gw_a (gw_c GW_757 (gw_c GW_758 (gw_c GW_759 (gw_c GW_61 gw_n)))) GL_wsX11_weight
theorem GV_X11_fault : GoodIn lw_tbl (wsV RL 104 RX11 yX11_fault wsX11_fault) := gw_a (gw_c GW_766 (gw_c GW_767 (gw_c GW_768 (gw_c GW_61 gw_n)))) GL_wsX11_fault
theorem GV_X11_better : GoodIn lw_tbl (wsV RL 108 RX11 yX11_better wsX11_better) := gw_a (gw_c GW_779 (gw_c GW_780 (gw_c GW_781 (gw_c GW_61 gw_n)))) GL_wsX11_better
theorem GV_X11_turn : GoodIn lw_tbl (wsV RL 112 RX11 yX11_turn wsX11_turn) := gw_a (gw_c GW_810 (gw_c GW_811 (gw_c GW_812 (gw_c GW_61 gw_n)))) GL_wsX11_turn
theorem GV_X11_groups : GoodIn lw_tbl (wsV RL 116 RX11 yX11_groups wsX11_groups) := gw_a (gw_c GW_818 (gw_c GW_819 (gw_c GW_820 (gw_c GW_61 gw_n)))) GL_wsX11_groups
theorem GV_X11_groupOf : GoodIn lw_tbl (wsV RL 120 RX11 yX11_groupOf wsX11_groupOf) := gw_a (gw_c GW_842 (gw_c GW_843 (gw_c GW_844 (gw_c GW_61 gw_n)))) GL_wsX11_groupOf
theorem GV_X11_loose : GoodIn lw_tbl (wsV RL 124 RX11 yX11_loose wsX11_loose) := gw_a (gw_c GW_846 (gw_c GW_847 (gw_c GW_848 (gw_c GW_61 gw_n)))) GL_wsX11_loose
theorem GV_X11_pack : GoodIn lw_tbl (wsV RL 128 RX11 yX11_pack wsX11_pack) := gw_a (gw_c GW_858 (gw_c GW_859 (gw_c GW_860 (gw_c GW_61 gw_n)))) GL_wsX11_pack
theorem GV_X11_ring : GoodIn lw_tbl (wsV RL 132 RX11 yX11_ring wsX11_ring) := gw_a (gw_c GW_909 (gw_c GW_910 (gw_c GW_911 (gw_c GW_61 gw_n)))) GL_wsX11_ring
theorem GV_X11_count : GoodIn lw_tbl (wsV RL 136 RX11 yX11_count wsX11_count) := gw_a (gw_c GW_918 (gw_c GW_919 (gw_c GW_920 (gw_c GW_61 gw_n)))) GL_wsX11_count
theorem GV_X12_undo : GoodIn lw_tbl (wsV RL 58 RX12 yX12_undo wsX12_undo) := gw_a (gw_c GW_996 (gw_c GW_997 (gw_c GW_998 (gw_c GW_73 gw_n)))) GL_wsX12_undo
theorem GV_X12_hen : GoodIn lw_tbl (wsV RL 17 RX12 yX12_hen wsX12_hen) := gw_a (gw_c GW_1001 (gw_c GW_1002 (gw_c GW_1003 (gw_c GW_73 gw_n)))) GL_wsX12_hen
theorem GV_X12_ask : GoodIn lw_tbl (wsV RL 21 RX12 yX12_ask wsX12_ask) := gw_a (gw_c GW_1028 (gw_c GW_1029 (gw_c GW_1030 (gw_c GW_73 gw_n)))) GL_wsX12_ask
theorem GV_X12_take : GoodIn lw_tbl (wsV RL 25 RX12 yX12_take wsX12_take) := gw_a (gw_c GW_1040 (gw_c GW_1041 (gw_c GW_1042 (gw_c GW_73 gw_n)))) GL_wsX12_take
theorem GV_X12_pen : GoodIn lw_tbl (wsV RL 29 RX12 yX12_pen wsX12_pen) := gw_a (gw_c GW_1048 (gw_c GW_1049 (gw_c GW_1050 (gw_c GW_73 gw_n)))) GL_wsX12_pen
theorem GV_X12_peck : GoodIn lw_tbl (wsV RL 36 RX12 yX12_peck wsX12_peck) := gw_a (gw_c GW_1053 (gw_c GW_1054 (gw_c GW_1055 (gw_c GW_73 gw_n)))) GL_wsX12_peck
theorem GV_X12_leave : GoodIn lw_tbl (wsV RL 41 RX12 yX12_leave wsX12_leave) := gw_a (gw_c GW_1068 (gw_c GW_1069 (gw_c GW_1070 (gw_c GW_73 gw_n)))) GL_wsX12_leave
theorem GV_X12_about : GoodIn lw_tbl (wsV RL 45 RX12 yX12_about wsX12_about) := gw_a (gw_c GW_1072 (gw_c GW_1073 (gw_c GW_1074 (gw_c GW_73 gw_n)))) GL_wsX12_about
theorem GV_X12_isOf : GoodIn lw_tbl (wsV RL 49 RX12 yX12_isOf wsX12_isOf) := gw_a (gw_c GW_1081 (gw_c GW_1082 (gw_c GW_1083 (gw_c GW_73 gw_n)))) GL_wsX12_isOf
theorem GV_X12_pecks : GoodIn lw_tbl (wsV RL 53 RX12 yX12_pecks wsX12_pecks) := gw_a (gw_c GW_1085 (gw_c GW_1086 (gw_c GW_1087 (gw_c GW_73 gw_n)))) GL_wsX12_pecks
theorem GV_X12_least : GoodIn lw_tbl (wsV RL 62 RX12 yX12_least wsX12_least) := gw_a (gw_c GW_1089 (gw_c GW_1090 (gw_c GW_1091 (gw_c GW_73 gw_n)))) GL_wsX12_least
theorem GV_X12_many : GoodIn lw_tbl (wsV RL 66 RX12 yX12_many wsX12_many) := gw_a (gw_c GW_1125 (gw_c GW_1126 (gw_c GW_1127 (gw_c GW_73 gw_n)))) GL_wsX12_many
theorem GV_X12_loose : GoodIn lw_tbl (wsV RL 127 RX12 yX12_loose wsX12_loose) := gw_a (gw_c GW_1129 (gw_c GW_1130 (gw_c GW_1131 (gw_c GW_73 gw_n)))) GL_wsX12_loose
theorem GV_X12_best : GoodIn lw_tbl (wsV RL 71 RX12 yX12_best wsX12_best) := gw_a (gw_c GW_1133 (gw_c GW_1134 (gw_c GW_1135 (gw_c GW_73 gw_n)))) GL_wsX12_best
theorem GV_X12_number : GoodIn lw_tbl (wsV RL 75 RX12 yX12_number wsX12_number) := gw_a (gw_c GW_1141 (gw_c GW_1142 (gw_c GW_1143 (gw_c GW_73 gw_n)))) GL_wsX12_number
theorem GV_X12_sure : GoodIn lw_tbl (wsV RL 79 RX12 yX12_sure wsX12_sure) := gw_a (gw_c GW_1149 (gw_c GW_1150 (gw_c GW_1151 (gw_c GW_73 gw_n)))) GL_wsX12_sure
theorem GV_X12_why : GoodIn lw_tbl (wsV RL 83 RX12 yX12_why wsX12_why) := gw_a (gw_c GW_1154 (gw_c GW_1155 (gw_c GW_1156 (gw_c GW_73 gw_n)))) GL_wsX12_why
theorem GV_X12_begin : GoodIn lw_tbl (wsV RL 87 RX12 yX12_begin wsX12_begin) := gw_a (gw_c GW_1175 (gw_c GW_1176 (gw_c GW_1177 (gw_c GW_73 gw_n)))) GL_wsX12_begin
theorem GV_X12_stand : GoodIn lw_tbl (wsV RL 91 RX12 yX12_stand wsX12_stand) := gw_a (gw_c GW_1179 (gw_c GW_1180 (gw_c GW_1181 (gw_c GW_73 gw_n)))) GL_wsX12_stand
theorem GV_X12_order : GoodIn lw_tbl (wsV RL 95 RX12 yX12_order wsX12_order) := gw_a (gw_c GW_1187 (gw_c GW_1188 (gw_c GW_1189 (gw_c GW_73 gw_n)))) GL_wsX12_order
theorem GV_X12_move : GoodIn lw_tbl (wsV RL 99 RX12 yX12_move wsX12_move) := gw_a (gw_c GW_1191 (gw_c GW_1192 (gw_c GW_1193 (gw_c GW_73 gw_n)))) GL_wsX12_move
theorem GV_X12_weight : GoodIn lw_tbl (wsV RL 103 RX12 yX12_weight wsX12_weight) := gw_a (gw_c GW_1199 (gw_c GW_1200 (gw_c GW_1201 (gw_c GW_73 gw_n)))) GL_wsX12_weight
theorem GV_X12_fault : GoodIn lw_tbl (wsV RL 107 RX12 yX12_fault wsX12_fault) := gw_a (gw_c GW_1207 (gw_c GW_1208 (gw_c GW_1209 (gw_c GW_73 gw_n)))) GL_wsX12_fault
theorem GV_X12_better : GoodIn lw_tbl (wsV RL 111 RX12 yX12_better wsX12_better) := gw_a (gw_c GW_1215 (gw_c GW_1216 (gw_c GW_1217 (gw_c GW_73 gw_n)))) GL_wsX12_better
theorem GV_X12_turn : GoodIn lw_tbl (wsV RL 115 RX12 yX12_turn wsX12_turn) := gw_a (gw_c GW_1224 (gw_c GW_1225 (gw_c GW_1226 (gw_c GW_73 gw_n)))) GL_wsX12_turn
theorem GV_X12_groups : GoodIn lw_tbl (wsV RL 119 RX12 yX12_groups wsX12_groups) := gw_a (gw_c GW_1228 (gw_c GW_1229 (gw_c GW_1230 (gw_c GW_73 gw_n)))) GL_wsX12_groups
theorem GV_X12_groupOf : GoodIn lw_tbl (wsV RL 123 RX12 yX12_groupOf wsX12_groupOf) := gw_a (gw_c GW_1248 (gw_c GW_1249 (gw_c GW_1250 (gw_c GW_73 gw_n)))) GL_wsX12_groupOf
theorem GV_X12_pack : GoodIn lw_tbl (wsV RL 131 RX12 yX12_pack wsX12_pack) := gw_a (gw_c GW_1252 (gw_c GW_1253 (gw_c GW_1254 (gw_c GW_73 gw_n)))) GL_wsX12_pack
theorem GV_X12_ring : GoodIn lw_tbl (wsV RL 135 RX12 yX12_ring wsX12_ring) := gw_a (gw_c GW_1264 (gw_c GW_1265 (gw_c GW_1266 (gw_c GW_73 gw_n)))) GL_wsX12_ring
theorem GV_X12_count : GoodIn lw_tbl (wsV RL 139 RX12 yX12_count wsX12_count) := gw_a (gw_c GW_1268 (gw_c GW_1269 (gw_c GW_1270 (gw_c GW_73 gw_n)))) GL_wsX12_count

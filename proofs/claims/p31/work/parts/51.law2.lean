theorem kL_c30 : Cond.constantLong RL 30 (4294967295) ∈ lw_tbl := by decide +kernel
section LAW
variable {p : Program} {l : Launch} {e : Env} {s : State} {m : MethodId} {below : List Frame} {meth : Method} {c : Code} {D : va_G} {T : Nat → ClassId} {a am : Nat → Nat} {b L : Nat} {xs : Nat → Int32}
set_option maxHeartbeats 4000000 in
set_option maxRecDepth 100000 in
theorem law_c0 (CX : Cx p s m #[Value.ref b] meth c code 4 RL lw_tbl ret D vwCl (tysC T) (AL s) true nwL) (CM : Cx p s m #[Value.ref b] meth c code 4 RL lw_tbl ret D vwCl (tysM T) (AL s) false []) (hX : va_X b L xs s s.heap) (hbl : b < s.heap.size) {Q : State → Prop} {g : Nat → Nat} {sx sm : Sg} {lm : Lg} {H : Heap} {locs : List Loc} {ls : Array Slot} {cn : Nat} (hcn : cn ≤ 511) {x3 : Int32} (hix : ∀ k : Nat, k < 5 → vp_in (x3 + nI k) L) {R' : Sg → Sg → Lg → Prop} (hO : OpL false (fX11_hen (xs (x3 + 1).toNatClampNeg) (xs (x3 + 2).toNatClampNeg) sx) (fX12_hen (xs (x3 + 1).toNatClampNeg) (xs (x3 + 2).toNatClampNeg) sm lm) R') (hw : LW D T a g am sx sm lm s H locs) (hl : lv_has ls 4 [(0, .ref b), (1, .ref (adr a g 0)), (2, .ref (am 0)), (3, .int x3)])
    (hnext : ∀ (g' : Nat → Nat) (sx' sm' : Sg) (lm' : Lg) (H' : Heap) (locs' : List Loc), R' sx' sm' lm' → LW D T a g' am sx' sm' lm' s H' locs' → lv_has ls 4 [(0, .ref b), (1, .ref (adr a g' 0)), (2, .ref (am 0)), (3, .int x3)] → W p l e room_1 s m #[Value.ref b] below meth c H' locs' (80 + 3 * (cn + 1)) (115267 + 12288 * (cn + 1)) Q (F0 m 919 ls [])) : W p l e room_1 s m #[Value.ref b] below meth c H locs (80 + 3 * cn) (115267 + 12288 * cn) Q (F0 m 168 ls []) := by
  obtain ⟨r, r', sx2, sm2, lm2, hfx, hfm, heq, hR⟩ := hO
  obtain ⟨hx, hb, hml, hown, hts⟩ := CX.1
  have hbA : ¬ AL s b := Nat.not_le.mpr hbl
  refine lv_aload_n hx hb dL_law_168 rfl (lv_at hl 1 rfl) ?_
  refine lv_aload_n hx hb dL_law_169 rfl (lv_at hl 0 rfl) ?_
  refine lv_iload_n hx hb dL_law_170 rfl (lv_at hl 3 rfl) ?_
  refine lv_iconst (v := (1 : Int32)) hx hb dL_law_171 (by decide) ?_
  refine lv_iadd hx hb dL_law_172 ?_
  refine va_sld hx hb hX hbl hbA hw.1.2.2 (hix 1 (by decide)) dL_law_173 ?_
  refine lv_aload_n hx hb dL_law_174 rfl (lv_at hl 0 rfl) ?_
  refine lv_iload_n hx hb dL_law_175 rfl (lv_at hl 3 rfl) ?_
  refine lv_iconst (v := (2 : Int32)) hx hb dL_law_176 (by decide) ?_
  refine lv_iadd hx hb dL_law_177 ?_
  refine va_sld hx hb hX hbl hbA hw.1.2.2 (hix 2 (by decide)) dL_law_178 ?_
  refine r_cVlF (As := [.int (xs (x3 + 1).toNatClampNeg), .int (xs (x3 + 2).toNatClampNeg)]) (rest := []) CX hw.1 0 (by decide) (ci := 11) rfl rfl (mX11_hen l D T (adr a g) lg0 H.size (xs (x3 + 1).toNatClampNeg) (xs (x3 + 2).toNatClampNeg) sx hfx) (cwV 2 hts GV_X11_hen rfl rfl rfl (by decide +kernel) ⟨Nat.le_of_ble_eq_true rfl, Nat.le_of_ble_eq_true rfl⟩) rfl hl.1 rfl (Nat.le_of_ble_eq_true rfl) dL_law_179 ⟨by have q1 : room_1.cells = 600000 := rfl; omega, by have q2 : room_1.slots = 7302250 := rfl; omega⟩ (fun ad' H' locs' hp hw1 hfr hnew => ?_)
  subst hp
  have hwm := hw.2.1.keep hw1.2.2 hfr hw.2.2
  have hdis := dis_new hw.2.1 hw.2.2 hnew
  replace hw : LW D T a g am sx2 sm lm s H' locs' := ⟨hw1, hwm, hdis⟩
  clear hw1 hwm hdis hfr hnew
  replace hl : lv_has ls 4 [(0, .ref b), (1, .ref (adr a g 0)), (2, .ref (am 0)), (3, .int x3)] := hl
  refine W.widen (k := 80 + 3 * cn + 3) (n := 115267 + 12288 * cn + 12288) (by omega) (by omega) ?_
  refine lv_pop2_2 hx hb dL_law_182 rfl ?_
  refine lv_aload_n hx hb dL_law_183 rfl (lv_at hl 2 rfl) ?_
  refine lv_aload_n hx hb dL_law_184 rfl (lv_at hl 0 rfl) ?_
  refine lv_iload_n hx hb dL_law_185 rfl (lv_at hl 3 rfl) ?_
  refine lv_iconst (v := (1 : Int32)) hx hb dL_law_186 (by decide) ?_
  refine lv_iadd hx hb dL_law_187 ?_
  refine va_sld hx hb hX hbl hbA hw.1.2.2 (hix 1 (by decide)) dL_law_188 ?_
  refine lv_aload_n hx hb dL_law_189 rfl (lv_at hl 0 rfl) ?_
  refine lv_iload_n hx hb dL_law_190 rfl (lv_at hl 3 rfl) ?_
  refine lv_iconst (v := (2 : Int32)) hx hb dL_law_191 (by decide) ?_
  refine lv_iadd hx hb dL_law_192 ?_
  refine va_sld hx hb hX hbl hbA hw.1.2.2 (hix 2 (by decide)) dL_law_193 ?_
  refine r_cVlF (As := [.int (xs (x3 + 1).toNatClampNeg), .int (xs (x3 + 2).toNatClampNeg)]) (rest := []) CM hw.2.1 0 (by decide) (ci := 12) rfl rfl (mX12_hen l D T am H'.size (xs (x3 + 1).toNatClampNeg) (xs (x3 + 2).toNatClampNeg) sm lm hfm) (cwV 2 hts GV_X12_hen rfl rfl rfl (by decide +kernel) ⟨Nat.le_of_ble_eq_true rfl, Nat.le_of_ble_eq_true rfl⟩) rfl hl.1 rfl (Nat.le_of_ble_eq_true rfl) dL_law_194 ⟨by have q1 : room_1.cells = 600000 := rfl; omega, by have q2 : room_1.slots = 7302250 := rfl; omega⟩ (fun ad'' H2 locs2 hp hw1 hfr hnew => ?_)
  subst hp
  have hwx := hw.1.keep hw1.2.2 hfr (fun i j hi hj e => hw.2.2 j i hj hi e.symm)
  replace hw : LW D T a g am sx2 sm2 lm2 s H2 locs2 := ⟨hwx, hw1, hw.2.2⟩
  refine W.widen (k := 80 + 3 * (cn + 1)) (n := 115267 + 12288 * (cn + 1)) (by omega) (by omega) ?_
  refine lv_pop2_2 hx hb dL_law_197 rfl ?_
  refine lv_goto (tgt := 919) hx hb dL_law_198 (by decide) ?_
  exact hnext g sx2 sm2 lm2 _ _ hR hw hl
set_option maxHeartbeats 4000000 in
set_option maxRecDepth 100000 in
theorem law_c1 (CX : Cx p s m #[Value.ref b] meth c code 4 RL lw_tbl ret D vwCl (tysC T) (AL s) true nwL) (CM : Cx p s m #[Value.ref b] meth c code 4 RL lw_tbl ret D vwCl (tysM T) (AL s) false []) (hX : va_X b L xs s s.heap) (hbl : b < s.heap.size) {Q : State → Prop} {g : Nat → Nat} {sx sm : Sg} {lm : Lg} {H : Heap} {locs : List Loc} {ls : Array Slot} {cn : Nat} (hcn : cn ≤ 511) {x3 : Int32} (hix : ∀ k : Nat, k < 5 → vp_in (x3 + nI k) L) {R' : Sg → Sg → Lg → Prop} (hO : OpL false (fX11_ask (xs (x3 + 1).toNatClampNeg) (xs (x3 + 2).toNatClampNeg) sx) (fX12_ask (xs (x3 + 1).toNatClampNeg) (xs (x3 + 2).toNatClampNeg) sm lm) R') (hw : LW D T a g am sx sm lm s H locs) (hl : lv_has ls 4 [(0, .ref b), (1, .ref (adr a g 0)), (2, .ref (am 0)), (3, .int x3)])
    (hnext : ∀ (g' : Nat → Nat) (sx' sm' : Sg) (lm' : Lg) (H' : Heap) (locs' : List Loc), R' sx' sm' lm' → LW D T a g' am sx' sm' lm' s H' locs' → lv_has ls 4 [(0, .ref b), (1, .ref (adr a g' 0)), (2, .ref (am 0)), (3, .int x3)] → W p l e room_1 s m #[Value.ref b] below meth c H' locs' (80 + 3 * (cn + 1)) (115267 + 12288 * (cn + 1)) Q (F0 m 919 ls [])) : W p l e room_1 s m #[Value.ref b] below meth c H locs (80 + 3 * cn) (115267 + 12288 * cn) Q (F0 m 201 ls []) := by
  obtain ⟨r, r', sx2, sm2, lm2, hfx, hfm, heq, hR⟩ := hO
  obtain ⟨hx, hb, hml, hown, hts⟩ := CX.1
  have hbA : ¬ AL s b := Nat.not_le.mpr hbl
  refine lv_aload_n hx hb dL_law_201 rfl (lv_at hl 1 rfl) ?_
  refine lv_aload_n hx hb dL_law_202 rfl (lv_at hl 0 rfl) ?_
  refine lv_iload_n hx hb dL_law_203 rfl (lv_at hl 3 rfl) ?_
  refine lv_iconst (v := (1 : Int32)) hx hb dL_law_204 (by decide) ?_
  refine lv_iadd hx hb dL_law_205 ?_
  refine va_sld hx hb hX hbl hbA hw.1.2.2 (hix 1 (by decide)) dL_law_206 ?_
  refine lv_aload_n hx hb dL_law_207 rfl (lv_at hl 0 rfl) ?_
  refine lv_iload_n hx hb dL_law_208 rfl (lv_at hl 3 rfl) ?_
  refine lv_iconst (v := (2 : Int32)) hx hb dL_law_209 (by decide) ?_
  refine lv_iadd hx hb dL_law_210 ?_
  refine va_sld hx hb hX hbl hbA hw.1.2.2 (hix 2 (by decide)) dL_law_211 ?_
  refine r_cVlF (As := [.int (xs (x3 + 1).toNatClampNeg), .int (xs (x3 + 2).toNatClampNeg)]) (rest := []) CX hw.1 0 (by decide) (ci := 11) rfl rfl (mX11_ask l D T (adr a g) lg0 H.size (xs (x3 + 1).toNatClampNeg) (xs (x3 + 2).toNatClampNeg) sx hfx) (cwV 2 hts GV_X11_ask rfl rfl rfl (by decide +kernel) ⟨Nat.le_of_ble_eq_true rfl, Nat.le_of_ble_eq_true rfl⟩) rfl hl.1 rfl (Nat.le_of_ble_eq_true rfl) dL_law_212 ⟨by have q1 : room_1.cells = 600000 := rfl; omega, by have q2 : room_1.slots = 7302250 := rfl; omega⟩ (fun ad' H' locs' hp hw1 hfr hnew => ?_)
  subst hp
  have hwm := hw.2.1.keep hw1.2.2 hfr hw.2.2
  have hdis := dis_new hw.2.1 hw.2.2 hnew
  replace hw : LW D T a g am sx2 sm lm s H' locs' := ⟨hw1, hwm, hdis⟩
  clear hw1 hwm hdis hfr hnew
  replace hl : lv_has ls 4 [(0, .ref b), (1, .ref (adr a g 0)), (2, .ref (am 0)), (3, .int x3)] := hl
  refine W.widen (k := 80 + 3 * cn + 3) (n := 115267 + 12288 * cn + 12288) (by omega) (by omega) ?_
  refine lv_pop2_2 hx hb dL_law_215 rfl ?_
  refine lv_aload_n hx hb dL_law_216 rfl (lv_at hl 2 rfl) ?_
  refine lv_aload_n hx hb dL_law_217 rfl (lv_at hl 0 rfl) ?_
  refine lv_iload_n hx hb dL_law_218 rfl (lv_at hl 3 rfl) ?_
  refine lv_iconst (v := (1 : Int32)) hx hb dL_law_219 (by decide) ?_
  refine lv_iadd hx hb dL_law_220 ?_
  refine va_sld hx hb hX hbl hbA hw.1.2.2 (hix 1 (by decide)) dL_law_221 ?_
  refine lv_aload_n hx hb dL_law_222 rfl (lv_at hl 0 rfl) ?_
  refine lv_iload_n hx hb dL_law_223 rfl (lv_at hl 3 rfl) ?_
  refine lv_iconst (v := (2 : Int32)) hx hb dL_law_224 (by decide) ?_
  refine lv_iadd hx hb dL_law_225 ?_
  refine va_sld hx hb hX hbl hbA hw.1.2.2 (hix 2 (by decide)) dL_law_226 ?_
  refine r_cVlF (As := [.int (xs (x3 + 1).toNatClampNeg), .int (xs (x3 + 2).toNatClampNeg)]) (rest := []) CM hw.2.1 0 (by decide) (ci := 12) rfl rfl (mX12_ask l D T am H'.size (xs (x3 + 1).toNatClampNeg) (xs (x3 + 2).toNatClampNeg) sm lm hfm) (cwV 2 hts GV_X12_ask rfl rfl rfl (by decide +kernel) ⟨Nat.le_of_ble_eq_true rfl, Nat.le_of_ble_eq_true rfl⟩) rfl hl.1 rfl (Nat.le_of_ble_eq_true rfl) dL_law_227 ⟨by have q1 : room_1.cells = 600000 := rfl; omega, by have q2 : room_1.slots = 7302250 := rfl; omega⟩ (fun ad'' H2 locs2 hp hw1 hfr hnew => ?_)
  subst hp
  have hwx := hw.1.keep hw1.2.2 hfr (fun i j hi hj e => hw.2.2 j i hj hi e.symm)
  replace hw : LW D T a g am sx2 sm2 lm2 s H2 locs2 := ⟨hwx, hw1, hw.2.2⟩
  refine W.widen (k := 80 + 3 * (cn + 1)) (n := 115267 + 12288 * (cn + 1)) (by omega) (by omega) ?_
  refine lv_pop2_2 hx hb dL_law_230 rfl ?_
  refine lv_goto (tgt := 919) hx hb dL_law_231 (by decide) ?_
  exact hnext g sx2 sm2 lm2 _ _ hR hw hl
set_option maxHeartbeats 4000000 in
set_option maxRecDepth 100000 in
theorem law_c2 (CX : Cx p s m #[Value.ref b] meth c code 4 RL lw_tbl ret D vwCl (tysC T) (AL s) true nwL) (CM : Cx p s m #[Value.ref b] meth c code 4 RL lw_tbl ret D vwCl (tysM T) (AL s) false []) (hX : va_X b L xs s s.heap) (hbl : b < s.heap.size) {Q : State → Prop} {g : Nat → Nat} {sx sm : Sg} {lm : Lg} {H : Heap} {locs : List Loc} {ls : Array Slot} {cn : Nat} (hcn : cn ≤ 511) {x3 : Int32} (hix : ∀ k : Nat, k < 5 → vp_in (x3 + nI k) L) {R' : Sg → Sg → Lg → Prop} (hO : OpL false (fX11_take (xs (x3 + 1).toNatClampNeg) (xs (x3 + 2).toNatClampNeg) sx) (fX12_take (xs (x3 + 1).toNatClampNeg) (xs (x3 + 2).toNatClampNeg) sm lm) R') (hw : LW D T a g am sx sm lm s H locs) (hl : lv_has ls 4 [(0, .ref b), (1, .ref (adr a g 0)), (2, .ref (am 0)), (3, .int x3)])
    (hnext : ∀ (g' : Nat → Nat) (sx' sm' : Sg) (lm' : Lg) (H' : Heap) (locs' : List Loc), R' sx' sm' lm' → LW D T a g' am sx' sm' lm' s H' locs' → lv_has ls 4 [(0, .ref b), (1, .ref (adr a g' 0)), (2, .ref (am 0)), (3, .int x3)] → W p l e room_1 s m #[Value.ref b] below meth c H' locs' (80 + 3 * (cn + 1)) (115267 + 12288 * (cn + 1)) Q (F0 m 919 ls [])) : W p l e room_1 s m #[Value.ref b] below meth c H locs (80 + 3 * cn) (115267 + 12288 * cn) Q (F0 m 234 ls []) := by
  obtain ⟨r, r', sx2, sm2, lm2, hfx, hfm, heq, hR⟩ := hO
  obtain ⟨hx, hb, hml, hown, hts⟩ := CX.1
  have hbA : ¬ AL s b := Nat.not_le.mpr hbl
  refine lv_aload_n hx hb dL_law_234 rfl (lv_at hl 1 rfl) ?_
  refine lv_aload_n hx hb dL_law_235 rfl (lv_at hl 0 rfl) ?_
  refine lv_iload_n hx hb dL_law_236 rfl (lv_at hl 3 rfl) ?_
  refine lv_iconst (v := (1 : Int32)) hx hb dL_law_237 (by decide) ?_
  refine lv_iadd hx hb dL_law_238 ?_
  refine va_sld hx hb hX hbl hbA hw.1.2.2 (hix 1 (by decide)) dL_law_239 ?_
  refine lv_aload_n hx hb dL_law_240 rfl (lv_at hl 0 rfl) ?_
  refine lv_iload_n hx hb dL_law_241 rfl (lv_at hl 3 rfl) ?_
  refine lv_iconst (v := (2 : Int32)) hx hb dL_law_242 (by decide) ?_
  refine lv_iadd hx hb dL_law_243 ?_
  refine va_sld hx hb hX hbl hbA hw.1.2.2 (hix 2 (by decide)) dL_law_244 ?_
  refine r_cVlF (As := [.int (xs (x3 + 1).toNatClampNeg), .int (xs (x3 + 2).toNatClampNeg)]) (rest := []) CX hw.1 0 (by decide) (ci := 11) rfl rfl (mX11_take l D T (adr a g) lg0 H.size (xs (x3 + 1).toNatClampNeg) (xs (x3 + 2).toNatClampNeg) sx hfx) (cwV 2 hts GV_X11_take rfl rfl rfl (by decide +kernel) ⟨Nat.le_of_ble_eq_true rfl, Nat.le_of_ble_eq_true rfl⟩) rfl hl.1 rfl (Nat.le_of_ble_eq_true rfl) dL_law_245 ⟨by have q1 : room_1.cells = 600000 := rfl; omega, by have q2 : room_1.slots = 7302250 := rfl; omega⟩ (fun ad' H' locs' hp hw1 hfr hnew => ?_)
  subst hp
  have hwm := hw.2.1.keep hw1.2.2 hfr hw.2.2
  have hdis := dis_new hw.2.1 hw.2.2 hnew
  replace hw : LW D T a g am sx2 sm lm s H' locs' := ⟨hw1, hwm, hdis⟩
  clear hw1 hwm hdis hfr hnew
  replace hl : lv_has ls 4 [(0, .ref b), (1, .ref (adr a g 0)), (2, .ref (am 0)), (3, .int x3)] := hl
  refine W.widen (k := 80 + 3 * cn + 3) (n := 115267 + 12288 * cn + 12288) (by omega) (by omega) ?_
  refine lv_pop2_2 hx hb dL_law_248 rfl ?_
  refine lv_aload_n hx hb dL_law_249 rfl (lv_at hl 2 rfl) ?_
  refine lv_aload_n hx hb dL_law_250 rfl (lv_at hl 0 rfl) ?_
  refine lv_iload_n hx hb dL_law_251 rfl (lv_at hl 3 rfl) ?_
  refine lv_iconst (v := (1 : Int32)) hx hb dL_law_252 (by decide) ?_
  refine lv_iadd hx hb dL_law_253 ?_
  refine va_sld hx hb hX hbl hbA hw.1.2.2 (hix 1 (by decide)) dL_law_254 ?_
  refine lv_aload_n hx hb dL_law_255 rfl (lv_at hl 0 rfl) ?_
  refine lv_iload_n hx hb dL_law_256 rfl (lv_at hl 3 rfl) ?_
  refine lv_iconst (v := (2 : Int32)) hx hb dL_law_257 (by decide) ?_
  refine lv_iadd hx hb dL_law_258 ?_
  refine va_sld hx hb hX hbl hbA hw.1.2.2 (hix 2 (by decide)) dL_law_259 ?_
  refine r_cVlF (As := [.int (xs (x3 + 1).toNatClampNeg), .int (xs (x3 + 2).toNatClampNeg)]) (rest := []) CM hw.2.1 0 (by decide) (ci := 12) rfl rfl (mX12_take l D T am H'.size (xs (x3 + 1).toNatClampNeg) (xs (x3 + 2).toNatClampNeg) sm lm hfm) (cwV 2 hts GV_X12_take rfl rfl rfl (by decide +kernel) ⟨Nat.le_of_ble_eq_true rfl, Nat.le_of_ble_eq_true rfl⟩) rfl hl.1 rfl (Nat.le_of_ble_eq_true rfl) dL_law_260 ⟨by have q1 : room_1.cells = 600000 := rfl; omega, by have q2 : room_1.slots = 7302250 := rfl; omega⟩ (fun ad'' H2 locs2 hp hw1 hfr hnew => ?_)
  subst hp
  have hwx := hw.1.keep hw1.2.2 hfr (fun i j hi hj e => hw.2.2 j i hj hi e.symm)
  replace hw : LW D T a g am sx2 sm2 lm2 s H2 locs2 := ⟨hwx, hw1, hw.2.2⟩
  refine W.widen (k := 80 + 3 * (cn + 1)) (n := 115267 + 12288 * (cn + 1)) (by omega) (by omega) ?_
  refine lv_pop2_2 hx hb dL_law_263 rfl ?_
  refine lv_goto (tgt := 919) hx hb dL_law_264 (by decide) ?_
  exact hnext g sx2 sm2 lm2 _ _ hR hw hl
set_option maxHeartbeats 4000000 in
set_option maxRecDepth 100000 in
theorem law_c3 (CX : Cx p s m #[Value.ref b] meth c code 4 RL lw_tbl ret D vwCl (tysC T) (AL s) true nwL) (CM : Cx p s m #[Value.ref b] meth c code 4 RL lw_tbl ret D vwCl (tysM T) (AL s) false []) (hX : va_X b L xs s s.heap) (hbl : b < s.heap.size) {Q : State → Prop} {g : Nat → Nat} {sx sm : Sg} {lm : Lg} {H : Heap} {locs : List Loc} {ls : Array Slot} {cn : Nat} (hcn : cn ≤ 511) {x3 : Int32} (hix : ∀ k : Nat, k < 5 → vp_in (x3 + nI k) L) {R' : Sg → Sg → Lg → Prop} (hO : OpL false (fX11_pen (xs (x3 + 1).toNatClampNeg) (xs (x3 + 2).toNatClampNeg) sx) (fX12_pen (xs (x3 + 1).toNatClampNeg) (xs (x3 + 2).toNatClampNeg) sm lm) R') (hw : LW D T a g am sx sm lm s H locs) (hl : lv_has ls 4 [(0, .ref b), (1, .ref (adr a g 0)), (2, .ref (am 0)), (3, .int x3)])
    (hnext : ∀ (g' : Nat → Nat) (sx' sm' : Sg) (lm' : Lg) (H' : Heap) (locs' : List Loc), R' sx' sm' lm' → LW D T a g' am sx' sm' lm' s H' locs' → lv_has ls 4 [(0, .ref b), (1, .ref (adr a g' 0)), (2, .ref (am 0)), (3, .int x3)] → W p l e room_1 s m #[Value.ref b] below meth c H' locs' (80 + 3 * (cn + 1)) (115267 + 12288 * (cn + 1)) Q (F0 m 919 ls [])) : W p l e room_1 s m #[Value.ref b] below meth c H locs (80 + 3 * cn) (115267 + 12288 * cn) Q (F0 m 267 ls []) := by
  obtain ⟨r, r', sx2, sm2, lm2, hfx, hfm, heq, hR⟩ := hO
  obtain ⟨hx, hb, hml, hown, hts⟩ := CX.1
  have hbA : ¬ AL s b := Nat.not_le.mpr hbl
  refine lv_aload_n hx hb dL_law_267 rfl (lv_at hl 1 rfl) ?_
  refine lv_aload_n hx hb dL_law_268 rfl (lv_at hl 0 rfl) ?_
  refine lv_iload_n hx hb dL_law_269 rfl (lv_at hl 3 rfl) ?_
  refine lv_iconst (v := (1 : Int32)) hx hb dL_law_270 (by decide) ?_
  refine lv_iadd hx hb dL_law_271 ?_
  refine va_sld hx hb hX hbl hbA hw.1.2.2 (hix 1 (by decide)) dL_law_272 ?_
  refine lv_aload_n hx hb dL_law_273 rfl (lv_at hl 0 rfl) ?_
  refine lv_iload_n hx hb dL_law_274 rfl (lv_at hl 3 rfl) ?_
  refine lv_iconst (v := (2 : Int32)) hx hb dL_law_275 (by decide) ?_
  refine lv_iadd hx hb dL_law_276 ?_
  refine va_sld hx hb hX hbl hbA hw.1.2.2 (hix 2 (by decide)) dL_law_277 ?_
  refine r_cVlF (As := [.int (xs (x3 + 1).toNatClampNeg), .int (xs (x3 + 2).toNatClampNeg)]) (rest := []) CX hw.1 0 (by decide) (ci := 11) rfl rfl (mX11_pen l D T (adr a g) lg0 H.size (xs (x3 + 1).toNatClampNeg) (xs (x3 + 2).toNatClampNeg) sx hfx) (cwV 2 hts GV_X11_pen rfl rfl rfl (by decide +kernel) ⟨Nat.le_of_ble_eq_true rfl, Nat.le_of_ble_eq_true rfl⟩) rfl hl.1 rfl (Nat.le_of_ble_eq_true rfl) dL_law_278 ⟨by have q1 : room_1.cells = 600000 := rfl; omega, by have q2 : room_1.slots = 7302250 := rfl; omega⟩ (fun ad' H' locs' hp hw1 hfr hnew => ?_)
  subst hp
  have hwm := hw.2.1.keep hw1.2.2 hfr hw.2.2
  have hdis := dis_new hw.2.1 hw.2.2 hnew
  replace hw : LW D T a g am sx2 sm lm s H' locs' := ⟨hw1, hwm, hdis⟩
  clear hw1 hwm hdis hfr hnew
  replace hl : lv_has ls 4 [(0, .ref b), (1, .ref (adr a g 0)), (2, .ref (am 0)), (3, .int x3)] := hl
  refine W.widen (k := 80 + 3 * cn + 3) (n := 115267 + 12288 * cn + 12288) (by omega) (by omega) ?_
  refine lv_pop2_2 hx hb dL_law_281 rfl ?_
  refine lv_aload_n hx hb dL_law_282 rfl (lv_at hl 2 rfl) ?_
  refine lv_aload_n hx hb dL_law_283 rfl (lv_at hl 0 rfl) ?_
  refine lv_iload_n hx hb dL_law_284 rfl (lv_at hl 3 rfl) ?_
  refine lv_iconst (v := (1 : Int32)) hx hb dL_law_285 (by decide) ?_
  refine lv_iadd hx hb dL_law_286 ?_
  refine va_sld hx hb hX hbl hbA hw.1.2.2 (hix 1 (by decide)) dL_law_287 ?_
  refine lv_aload_n hx hb dL_law_288 rfl (lv_at hl 0 rfl) ?_
  refine lv_iload_n hx hb dL_law_289 rfl (lv_at hl 3 rfl) ?_
  refine lv_iconst (v := (2 : Int32)) hx hb dL_law_290 (by decide) ?_
  refine lv_iadd hx hb dL_law_291 ?_
  refine va_sld hx hb hX hbl hbA hw.1.2.2 (hix 2 (by decide)) dL_law_292 ?_
  refine r_cVlF (As := [.int (xs (x3 + 1).toNatClampNeg), .int (xs (x3 + 2).toNatClampNeg)]) (rest := []) CM hw.2.1 0 (by decide) (ci := 12) rfl rfl (mX12_pen l D T am H'.size (xs (x3 + 1).toNatClampNeg) (xs (x3 + 2).toNatClampNeg) sm lm hfm) (cwV 2 hts GV_X12_pen rfl rfl rfl (by decide +kernel) ⟨Nat.le_of_ble_eq_true rfl, Nat.le_of_ble_eq_true rfl⟩) rfl hl.1 rfl (Nat.le_of_ble_eq_true rfl) dL_law_293 ⟨by have q1 : room_1.cells = 600000 := rfl; omega, by have q2 : room_1.slots = 7302250 := rfl; omega⟩ (fun ad'' H2 locs2 hp hw1 hfr hnew => ?_)
  subst hp
  have hwx := hw.1.keep hw1.2.2 hfr (fun i j hi hj e => hw.2.2 j i hj hi e.symm)
  replace hw : LW D T a g am sx2 sm2 lm2 s H2 locs2 := ⟨hwx, hw1, hw.2.2⟩
  refine W.widen (k := 80 + 3 * (cn + 1)) (n := 115267 + 12288 * (cn + 1)) (by omega) (by omega) ?_
  refine lv_pop2_2 hx hb dL_law_296 rfl ?_
  refine lv_goto (tgt := 919) hx hb dL_law_297 (by decide) ?_
  exact hnext g sx2 sm2 lm2 _ _ hR hw hl
set_option maxHeartbeats 4000000 in
set_option maxRecDepth 100000 in
theorem law_c4 (CX : Cx p s m #[Value.ref b] meth c code 4 RL lw_tbl ret D vwCl (tysC T) (AL s) true nwL) (CM : Cx p s m #[Value.ref b] meth c code 4 RL lw_tbl ret D vwCl (tysM T) (AL s) false []) (hX : va_X b L xs s s.heap) (hbl : b < s.heap.size) {Q : State → Prop} {g : Nat → Nat} {sx sm : Sg} {lm : Lg} {H : Heap} {locs : List Loc} {ls : Array Slot} {cn : Nat} (hcn : cn ≤ 511) {x3 : Int32} (hix : ∀ k : Nat, k < 5 → vp_in (x3 + nI k) L) {R' : Sg → Sg → Lg → Prop} (hO : OpL false (fX11_peck (xs (x3 + 1).toNatClampNeg) (xs (x3 + 2).toNatClampNeg) (((xs (x3 + 3).toNatClampNeg).toInt64 <<< ((32 : Int32).toInt64 &&& 63)) ||| ((xs (x3 + 4).toNatClampNeg).toInt64 &&& (4294967295 : Int64))) sx) (fX12_peck (xs (x3 + 1).toNatClampNeg) (xs (x3 + 2).toNatClampNeg) (((xs (x3 + 3).toNatClampNeg).toInt64 <<< ((32 : Int32).toInt64 &&& 63)) ||| ((xs (x3 + 4).toNatClampNeg).toInt64 &&& (4294967295 : Int64))) sm lm) R') (hw : LW D T a g am sx sm lm s H locs) (hl : lv_has ls 4 [(0, .ref b), (1, .ref (adr a g 0)), (2, .ref (am 0)), (3, .int x3)])
    (hnext : ∀ (g' : Nat → Nat) (sx' sm' : Sg) (lm' : Lg) (H' : Heap) (locs' : List Loc), R' sx' sm' lm' → LW D T a g' am sx' sm' lm' s H' locs' → lv_has ls 4 [(0, .ref b), (1, .ref (adr a g' 0)), (2, .ref (am 0)), (3, .int x3)] → W p l e room_1 s m #[Value.ref b] below meth c H' locs' (80 + 3 * (cn + 1)) (115267 + 12288 * (cn + 1)) Q (F0 m 919 ls [])) : W p l e room_1 s m #[Value.ref b] below meth c H locs (80 + 3 * cn) (115267 + 12288 * cn) Q (F0 m 300 ls []) := by
  obtain ⟨r, r', sx2, sm2, lm2, hfx, hfm, heq, hR⟩ := hO
  obtain ⟨hx, hb, hml, hown, hts⟩ := CX.1
  have hbA : ¬ AL s b := Nat.not_le.mpr hbl
  refine lv_aload_n hx hb dL_law_300 rfl (lv_at hl 1 rfl) ?_
  refine lv_aload_n hx hb dL_law_301 rfl (lv_at hl 0 rfl) ?_
  refine lv_iload_n hx hb dL_law_302 rfl (lv_at hl 3 rfl) ?_
  refine lv_iconst (v := (1 : Int32)) hx hb dL_law_303 (by decide) ?_
  refine lv_iadd hx hb dL_law_304 ?_
  refine va_sld hx hb hX hbl hbA hw.1.2.2 (hix 1 (by decide)) dL_law_305 ?_
  refine lv_aload_n hx hb dL_law_306 rfl (lv_at hl 0 rfl) ?_
  refine lv_iload_n hx hb dL_law_307 rfl (lv_at hl 3 rfl) ?_
  refine lv_iconst (v := (2 : Int32)) hx hb dL_law_308 (by decide) ?_
  refine lv_iadd hx hb dL_law_309 ?_
  refine va_sld hx hb hX hbl hbA hw.1.2.2 (hix 2 (by decide)) dL_law_310 ?_
  refine lv_aload_n hx hb dL_law_311 rfl (lv_at hl 0 rfl) ?_
  refine lv_iload_n hx hb dL_law_312 rfl (lv_at hl 3 rfl) ?_
  refine lv_iconst (v := (3 : Int32)) hx hb dL_law_313 (by decide) ?_
  refine lv_iadd hx hb dL_law_314 ?_
  refine va_sld hx hb hX hbl hbA hw.1.2.2 (hix 3 (by decide)) dL_law_315 ?_
  refine lv_i2l (v := (xs (x3 + 3).toNatClampNeg).toInt64) hx hb dL_law_316 rfl ?_
  refine lv_bipush (v := (32 : Int32)) hx hb dL_law_317 (by decide) ?_
  refine lv_lshl (v := ((xs (x3 + 3).toNatClampNeg).toInt64 <<< ((32 : Int32).toInt64 &&& 63))) hx hb dL_law_319 rfl ?_
  refine lv_aload_n hx hb dL_law_320 rfl (lv_at hl 0 rfl) ?_
  refine lv_iload_n hx hb dL_law_321 rfl (lv_at hl 3 rfl) ?_
  refine lv_iconst (v := (4 : Int32)) hx hb dL_law_322 (by decide) ?_
  refine lv_iadd hx hb dL_law_323 ?_
  refine va_sld hx hb hX hbl hbA hw.1.2.2 (hix 4 (by decide)) dL_law_324 ?_
  refine lv_i2l (v := (xs (x3 + 4).toNatClampNeg).toInt64) hx hb dL_law_325 rfl ?_
  refine lv_ldc2 hx hb hown (hts _ kL_c30) dL_law_326 ?_
  refine lv_land hx hb dL_law_329 ?_
  refine lv_lor hx hb dL_law_330 ?_
  refine r_cVlF (As := [.int (xs (x3 + 1).toNatClampNeg), .int (xs (x3 + 2).toNatClampNeg), .long (((xs (x3 + 3).toNatClampNeg).toInt64 <<< ((32 : Int32).toInt64 &&& 63)) ||| ((xs (x3 + 4).toNatClampNeg).toInt64 &&& (4294967295 : Int64)))]) (rest := []) CX hw.1 0 (by decide) (ci := 11) rfl rfl (mX11_peck l D T (adr a g) lg0 H.size (xs (x3 + 1).toNatClampNeg) (xs (x3 + 2).toNatClampNeg) (((xs (x3 + 3).toNatClampNeg).toInt64 <<< ((32 : Int32).toInt64 &&& 63)) ||| ((xs (x3 + 4).toNatClampNeg).toInt64 &&& (4294967295 : Int64))) sx hfx) (cwV 3 hts GV_X11_peck rfl rfl rfl (by decide +kernel) ⟨Nat.le_of_ble_eq_true rfl, Nat.le_of_ble_eq_true rfl⟩) rfl hl.1 rfl (Nat.le_of_ble_eq_true rfl) dL_law_331 ⟨by have q1 : room_1.cells = 600000 := rfl; omega, by have q2 : room_1.slots = 7302250 := rfl; omega⟩ (fun ad' H' locs' hp hw1 hfr hnew => ?_)
  subst hp
  have hwm := hw.2.1.keep hw1.2.2 hfr hw.2.2
  have hdis := dis_new hw.2.1 hw.2.2 hnew
  replace hw : LW D T a g am sx2 sm lm s H' locs' := ⟨hw1, hwm, hdis⟩
  clear hw1 hwm hdis hfr hnew
  replace hl : lv_has ls 4 [(0, .ref b), (1, .ref (adr a g 0)), (2, .ref (am 0)), (3, .int x3)] := hl
  refine W.widen (k := 80 + 3 * cn + 3) (n := 115267 + 12288 * cn + 12288) (by omega) (by omega) ?_
  refine lv_pop2_2 hx hb dL_law_334 rfl ?_
  refine lv_aload_n hx hb dL_law_335 rfl (lv_at hl 2 rfl) ?_
  refine lv_aload_n hx hb dL_law_336 rfl (lv_at hl 0 rfl) ?_
  refine lv_iload_n hx hb dL_law_337 rfl (lv_at hl 3 rfl) ?_
  refine lv_iconst (v := (1 : Int32)) hx hb dL_law_338 (by decide) ?_
  refine lv_iadd hx hb dL_law_339 ?_
  refine va_sld hx hb hX hbl hbA hw.1.2.2 (hix 1 (by decide)) dL_law_340 ?_
  refine lv_aload_n hx hb dL_law_341 rfl (lv_at hl 0 rfl) ?_
  refine lv_iload_n hx hb dL_law_342 rfl (lv_at hl 3 rfl) ?_
  refine lv_iconst (v := (2 : Int32)) hx hb dL_law_343 (by decide) ?_
  refine lv_iadd hx hb dL_law_344 ?_
  refine va_sld hx hb hX hbl hbA hw.1.2.2 (hix 2 (by decide)) dL_law_345 ?_
  refine lv_aload_n hx hb dL_law_346 rfl (lv_at hl 0 rfl) ?_
  refine lv_iload_n hx hb dL_law_347 rfl (lv_at hl 3 rfl) ?_
  refine lv_iconst (v := (3 : Int32)) hx hb dL_law_348 (by decide) ?_
  refine lv_iadd hx hb dL_law_349 ?_
  refine va_sld hx hb hX hbl hbA hw.1.2.2 (hix 3 (by decide)) dL_law_350 ?_
  refine lv_i2l (v := (xs (x3 + 3).toNatClampNeg).toInt64) hx hb dL_law_351 rfl ?_
  refine lv_bipush (v := (32 : Int32)) hx hb dL_law_352 (by decide) ?_
  refine lv_lshl (v := ((xs (x3 + 3).toNatClampNeg).toInt64 <<< ((32 : Int32).toInt64 &&& 63))) hx hb dL_law_354 rfl ?_
  refine lv_aload_n hx hb dL_law_355 rfl (lv_at hl 0 rfl) ?_
  refine lv_iload_n hx hb dL_law_356 rfl (lv_at hl 3 rfl) ?_
  refine lv_iconst (v := (4 : Int32)) hx hb dL_law_357 (by decide) ?_
  refine lv_iadd hx hb dL_law_358 ?_
  refine va_sld hx hb hX hbl hbA hw.1.2.2 (hix 4 (by decide)) dL_law_359 ?_
  refine lv_i2l (v := (xs (x3 + 4).toNatClampNeg).toInt64) hx hb dL_law_360 rfl ?_
  refine lv_ldc2 hx hb hown (hts _ kL_c30) dL_law_361 ?_
  refine lv_land hx hb dL_law_364 ?_
  refine lv_lor hx hb dL_law_365 ?_
  refine r_cVlF (As := [.int (xs (x3 + 1).toNatClampNeg), .int (xs (x3 + 2).toNatClampNeg), .long (((xs (x3 + 3).toNatClampNeg).toInt64 <<< ((32 : Int32).toInt64 &&& 63)) ||| ((xs (x3 + 4).toNatClampNeg).toInt64 &&& (4294967295 : Int64)))]) (rest := []) CM hw.2.1 0 (by decide) (ci := 12) rfl rfl (mX12_peck l D T am H'.size (xs (x3 + 1).toNatClampNeg) (xs (x3 + 2).toNatClampNeg) (((xs (x3 + 3).toNatClampNeg).toInt64 <<< ((32 : Int32).toInt64 &&& 63)) ||| ((xs (x3 + 4).toNatClampNeg).toInt64 &&& (4294967295 : Int64))) sm lm hfm) (cwV 3 hts GV_X12_peck rfl rfl rfl (by decide +kernel) ⟨Nat.le_of_ble_eq_true rfl, Nat.le_of_ble_eq_true rfl⟩) rfl hl.1 rfl (Nat.le_of_ble_eq_true rfl) dL_law_366 ⟨by have q1 : room_1.cells = 600000 := rfl; omega, by have q2 : room_1.slots = 7302250 := rfl; omega⟩ (fun ad'' H2 locs2 hp hw1 hfr hnew => ?_)
  subst hp
  have hwx := hw.1.keep hw1.2.2 hfr (fun i j hi hj e => hw.2.2 j i hj hi e.symm)
  replace hw : LW D T a g am sx2 sm2 lm2 s H2 locs2 := ⟨hwx, hw1, hw.2.2⟩
  refine W.widen (k := 80 + 3 * (cn + 1)) (n := 115267 + 12288 * (cn + 1)) (by omega) (by omega) ?_
  refine lv_pop2_2 hx hb dL_law_369 rfl ?_
  refine lv_goto (tgt := 919) hx hb dL_law_370 (by decide) ?_
  exact hnext g sx2 sm2 lm2 _ _ hR hw hl
set_option maxHeartbeats 4000000 in
set_option maxRecDepth 100000 in
theorem law_c5 (CX : Cx p s m #[Value.ref b] meth c code 4 RL lw_tbl ret D vwCl (tysC T) (AL s) true nwL) (CM : Cx p s m #[Value.ref b] meth c code 4 RL lw_tbl ret D vwCl (tysM T) (AL s) false []) (hX : va_X b L xs s s.heap) (hbl : b < s.heap.size) {Q : State → Prop} {g : Nat → Nat} {sx sm : Sg} {lm : Lg} {H : Heap} {locs : List Loc} {ls : Array Slot} {cn : Nat} (hcn : cn ≤ 511) {x3 : Int32} (hix : ∀ k : Nat, k < 5 → vp_in (x3 + nI k) L) {R' : Sg → Sg → Lg → Prop} (hO : OpL false (fX11_leave (xs (x3 + 1).toNatClampNeg) sx) (fX12_leave (xs (x3 + 1).toNatClampNeg) sm lm) R') (hw : LW D T a g am sx sm lm s H locs) (hl : lv_has ls 4 [(0, .ref b), (1, .ref (adr a g 0)), (2, .ref (am 0)), (3, .int x3)])
    (hnext : ∀ (g' : Nat → Nat) (sx' sm' : Sg) (lm' : Lg) (H' : Heap) (locs' : List Loc), R' sx' sm' lm' → LW D T a g' am sx' sm' lm' s H' locs' → lv_has ls 4 [(0, .ref b), (1, .ref (adr a g' 0)), (2, .ref (am 0)), (3, .int x3)] → W p l e room_1 s m #[Value.ref b] below meth c H' locs' (80 + 3 * (cn + 1)) (115267 + 12288 * (cn + 1)) Q (F0 m 919 ls [])) : W p l e room_1 s m #[Value.ref b] below meth c H locs (80 + 3 * cn) (115267 + 12288 * cn) Q (F0 m 373 ls []) := by
  obtain ⟨r, r', sx2, sm2, lm2, hfx, hfm, heq, hR⟩ := hO
  obtain ⟨hx, hb, hml, hown, hts⟩ := CX.1
  have hbA : ¬ AL s b := Nat.not_le.mpr hbl
  refine lv_aload_n hx hb dL_law_373 rfl (lv_at hl 1 rfl) ?_
  refine lv_aload_n hx hb dL_law_374 rfl (lv_at hl 0 rfl) ?_
  refine lv_iload_n hx hb dL_law_375 rfl (lv_at hl 3 rfl) ?_
  refine lv_iconst (v := (1 : Int32)) hx hb dL_law_376 (by decide) ?_
  refine lv_iadd hx hb dL_law_377 ?_
  refine va_sld hx hb hX hbl hbA hw.1.2.2 (hix 1 (by decide)) dL_law_378 ?_
  refine r_cVlF (As := [.int (xs (x3 + 1).toNatClampNeg)]) (rest := []) CX hw.1 0 (by decide) (ci := 11) rfl rfl (mX11_leave l D T (adr a g) lg0 H.size (xs (x3 + 1).toNatClampNeg) sx hfx) (cwV 1 hts GV_X11_leave rfl rfl rfl (by decide +kernel) ⟨Nat.le_of_ble_eq_true rfl, Nat.le_of_ble_eq_true rfl⟩) rfl hl.1 rfl (Nat.le_of_ble_eq_true rfl) dL_law_379 ⟨by have q1 : room_1.cells = 600000 := rfl; omega, by have q2 : room_1.slots = 7302250 := rfl; omega⟩ (fun ad' H' locs' hp hw1 hfr hnew => ?_)
  subst hp
  have hwm := hw.2.1.keep hw1.2.2 hfr hw.2.2
  have hdis := dis_new hw.2.1 hw.2.2 hnew
  replace hw : LW D T a g am sx2 sm lm s H' locs' := ⟨hw1, hwm, hdis⟩
  clear hw1 hwm hdis hfr hnew
  replace hl : lv_has ls 4 [(0, .ref b), (1, .ref (adr a g 0)), (2, .ref (am 0)), (3, .int x3)] := hl
  refine W.widen (k := 80 + 3 * cn + 3) (n := 115267 + 12288 * cn + 12288) (by omega) (by omega) ?_
  refine lv_pop2_2 hx hb dL_law_382 rfl ?_
  refine lv_aload_n hx hb dL_law_383 rfl (lv_at hl 2 rfl) ?_
  refine lv_aload_n hx hb dL_law_384 rfl (lv_at hl 0 rfl) ?_
  refine lv_iload_n hx hb dL_law_385 rfl (lv_at hl 3 rfl) ?_
  refine lv_iconst (v := (1 : Int32)) hx hb dL_law_386 (by decide) ?_
  refine lv_iadd hx hb dL_law_387 ?_
  refine va_sld hx hb hX hbl hbA hw.1.2.2 (hix 1 (by decide)) dL_law_388 ?_
  refine r_cVlF (As := [.int (xs (x3 + 1).toNatClampNeg)]) (rest := []) CM hw.2.1 0 (by decide) (ci := 12) rfl rfl (mX12_leave l D T am H'.size (xs (x3 + 1).toNatClampNeg) sm lm hfm) (cwV 1 hts GV_X12_leave rfl rfl rfl (by decide +kernel) ⟨Nat.le_of_ble_eq_true rfl, Nat.le_of_ble_eq_true rfl⟩) rfl hl.1 rfl (Nat.le_of_ble_eq_true rfl) dL_law_389 ⟨by have q1 : room_1.cells = 600000 := rfl; omega, by have q2 : room_1.slots = 7302250 := rfl; omega⟩ (fun ad'' H2 locs2 hp hw1 hfr hnew => ?_)
  subst hp
  have hwx := hw.1.keep hw1.2.2 hfr (fun i j hi hj e => hw.2.2 j i hj hi e.symm)
  replace hw : LW D T a g am sx2 sm2 lm2 s H2 locs2 := ⟨hwx, hw1, hw.2.2⟩
  refine W.widen (k := 80 + 3 * (cn + 1)) (n := 115267 + 12288 * (cn + 1)) (by omega) (by omega) ?_
  refine lv_pop2_2 hx hb dL_law_392 rfl ?_
  refine lv_goto (tgt := 919) hx hb dL_law_393 (by decide) ?_
  exact hnext g sx2 sm2 lm2 _ _ hR hw hl
set_option maxHeartbeats 4000000 in
set_option maxRecDepth 100000 in
theorem law_c6 (CX : Cx p s m #[Value.ref b] meth c code 4 RL lw_tbl ret D vwCl (tysC T) (AL s) true nwL) (CM : Cx p s m #[Value.ref b] meth c code 4 RL lw_tbl ret D vwCl (tysM T) (AL s) false []) (hX : va_X b L xs s s.heap) (hbl : b < s.heap.size) {Q : State → Prop} {g : Nat → Nat} {sx sm : Sg} {lm : Lg} {H : Heap} {locs : List Loc} {ls : Array Slot} {cn : Nat} (hcn : cn ≤ 511) {x3 : Int32} (hix : ∀ k : Nat, k < 5 → vp_in (x3 + nI k) L) {R' : Sg → Sg → Lg → Prop} (hO : OpL false (fX11_about (xs (x3 + 1).toNatClampNeg) (xs (x3 + 2).toNatClampNeg) sx) (fX12_about (xs (x3 + 1).toNatClampNeg) (xs (x3 + 2).toNatClampNeg) sm lm) R') (hw : LW D T a g am sx sm lm s H locs) (hl : lv_has ls 4 [(0, .ref b), (1, .ref (adr a g 0)), (2, .ref (am 0)), (3, .int x3)])
    (hnext : ∀ (g' : Nat → Nat) (sx' sm' : Sg) (lm' : Lg) (H' : Heap) (locs' : List Loc), R' sx' sm' lm' → LW D T a g' am sx' sm' lm' s H' locs' → lv_has ls 4 [(0, .ref b), (1, .ref (adr a g' 0)), (2, .ref (am 0)), (3, .int x3)] → W p l e room_1 s m #[Value.ref b] below meth c H' locs' (80 + 3 * (cn + 1)) (115267 + 12288 * (cn + 1)) Q (F0 m 919 ls [])) : W p l e room_1 s m #[Value.ref b] below meth c H locs (80 + 3 * cn) (115267 + 12288 * cn) Q (F0 m 396 ls []) := by
  obtain ⟨r, r', sx2, sm2, lm2, hfx, hfm, heq, hR⟩ := hO
  obtain ⟨hx, hb, hml, hown, hts⟩ := CX.1
  have hbA : ¬ AL s b := Nat.not_le.mpr hbl
  refine lv_aload_n hx hb dL_law_396 rfl (lv_at hl 1 rfl) ?_
  refine lv_aload_n hx hb dL_law_397 rfl (lv_at hl 0 rfl) ?_
  refine lv_iload_n hx hb dL_law_398 rfl (lv_at hl 3 rfl) ?_
  refine lv_iconst (v := (1 : Int32)) hx hb dL_law_399 (by decide) ?_
  refine lv_iadd hx hb dL_law_400 ?_
  refine va_sld hx hb hX hbl hbA hw.1.2.2 (hix 1 (by decide)) dL_law_401 ?_
  refine lv_aload_n hx hb dL_law_402 rfl (lv_at hl 0 rfl) ?_
  refine lv_iload_n hx hb dL_law_403 rfl (lv_at hl 3 rfl) ?_
  refine lv_iconst (v := (2 : Int32)) hx hb dL_law_404 (by decide) ?_
  refine lv_iadd hx hb dL_law_405 ?_
  refine va_sld hx hb hX hbl hbA hw.1.2.2 (hix 2 (by decide)) dL_law_406 ?_
  refine r_cVlF (As := [.int (xs (x3 + 1).toNatClampNeg), .int (xs (x3 + 2).toNatClampNeg)]) (rest := []) CX hw.1 0 (by decide) (ci := 11) rfl rfl (mX11_about l D T (adr a g) lg0 H.size (xs (x3 + 1).toNatClampNeg) (xs (x3 + 2).toNatClampNeg) sx hfx) (cwV 2 hts GV_X11_about rfl rfl rfl (by decide +kernel) ⟨Nat.le_of_ble_eq_true rfl, Nat.le_of_ble_eq_true rfl⟩) rfl hl.1 rfl (Nat.le_of_ble_eq_true rfl) dL_law_407 ⟨by have q1 : room_1.cells = 600000 := rfl; omega, by have q2 : room_1.slots = 7302250 := rfl; omega⟩ (fun ad' H' locs' hp hw1 hfr hnew => ?_)
  subst hp
  have hwm := hw.2.1.keep hw1.2.2 hfr hw.2.2
  have hdis := dis_new hw.2.1 hw.2.2 hnew
  replace hw : LW D T a g am sx2 sm lm s H' locs' := ⟨hw1, hwm, hdis⟩
  clear hw1 hwm hdis hfr hnew
  replace hl : lv_has ls 4 [(0, .ref b), (1, .ref (adr a g 0)), (2, .ref (am 0)), (3, .int x3)] := hl
  refine W.widen (k := 80 + 3 * cn + 3) (n := 115267 + 12288 * cn + 12288) (by omega) (by omega) ?_
  refine lv_pop2_2 hx hb dL_law_410 rfl ?_
  refine lv_aload_n hx hb dL_law_411 rfl (lv_at hl 2 rfl) ?_
  refine lv_aload_n hx hb dL_law_412 rfl (lv_at hl 0 rfl) ?_
  refine lv_iload_n hx hb dL_law_413 rfl (lv_at hl 3 rfl) ?_
  refine lv_iconst (v := (1 : Int32)) hx hb dL_law_414 (by decide) ?_
  refine lv_iadd hx hb dL_law_415 ?_
  refine va_sld hx hb hX hbl hbA hw.1.2.2 (hix 1 (by decide)) dL_law_416 ?_
  refine lv_aload_n hx hb dL_law_417 rfl (lv_at hl 0 rfl) ?_
  refine lv_iload_n hx hb dL_law_418 rfl (lv_at hl 3 rfl) ?_
  refine lv_iconst (v := (2 : Int32)) hx hb dL_law_419 (by decide) ?_
  refine lv_iadd hx hb dL_law_420 ?_
  refine va_sld hx hb hX hbl hbA hw.1.2.2 (hix 2 (by decide)) dL_law_421 ?_
  refine r_cVlF (As := [.int (xs (x3 + 1).toNatClampNeg), .int (xs (x3 + 2).toNatClampNeg)]) (rest := []) CM hw.2.1 0 (by decide) (ci := 12) rfl rfl (mX12_about l D T am H'.size (xs (x3 + 1).toNatClampNeg) (xs (x3 + 2).toNatClampNeg) sm lm hfm) (cwV 2 hts GV_X12_about rfl rfl rfl (by decide +kernel) ⟨Nat.le_of_ble_eq_true rfl, Nat.le_of_ble_eq_true rfl⟩) rfl hl.1 rfl (Nat.le_of_ble_eq_true rfl) dL_law_422 ⟨by have q1 : room_1.cells = 600000 := rfl; omega, by have q2 : room_1.slots = 7302250 := rfl; omega⟩ (fun ad'' H2 locs2 hp hw1 hfr hnew => ?_)
  subst hp
  have hwx := hw.1.keep hw1.2.2 hfr (fun i j hi hj e => hw.2.2 j i hj hi e.symm)
  replace hw : LW D T a g am sx2 sm2 lm2 s H2 locs2 := ⟨hwx, hw1, hw.2.2⟩
  refine W.widen (k := 80 + 3 * (cn + 1)) (n := 115267 + 12288 * (cn + 1)) (by omega) (by omega) ?_
  refine lv_pop2_2 hx hb dL_law_425 rfl ?_
  refine lv_goto (tgt := 919) hx hb dL_law_426 (by decide) ?_
  exact hnext g sx2 sm2 lm2 _ _ hR hw hl
set_option maxHeartbeats 4000000 in
set_option maxRecDepth 100000 in
theorem law_c7 (CX : Cx p s m #[Value.ref b] meth c code 4 RL lw_tbl ret D vwCl (tysC T) (AL s) true nwL) (CM : Cx p s m #[Value.ref b] meth c code 4 RL lw_tbl ret D vwCl (tysM T) (AL s) false []) (hX : va_X b L xs s s.heap) (hbl : b < s.heap.size) {Q : State → Prop} {g : Nat → Nat} {sx sm : Sg} {lm : Lg} {H : Heap} {locs : List Loc} {ls : Array Slot} {cn : Nat} (hcn : cn ≤ 511) {x3 : Int32} (hix : ∀ k : Nat, k < 5 → vp_in (x3 + nI k) L) {R' : Sg → Sg → Lg → Prop} (hO : OpL false (fX11_isOf (xs (x3 + 1).toNatClampNeg) (xs (x3 + 2).toNatClampNeg) sx) (fX12_isOf (xs (x3 + 1).toNatClampNeg) (xs (x3 + 2).toNatClampNeg) sm lm) R') (hw : LW D T a g am sx sm lm s H locs) (hl : lv_has ls 4 [(0, .ref b), (1, .ref (adr a g 0)), (2, .ref (am 0)), (3, .int x3)])
    (hnext : ∀ (g' : Nat → Nat) (sx' sm' : Sg) (lm' : Lg) (H' : Heap) (locs' : List Loc), R' sx' sm' lm' → LW D T a g' am sx' sm' lm' s H' locs' → lv_has ls 4 [(0, .ref b), (1, .ref (adr a g' 0)), (2, .ref (am 0)), (3, .int x3)] → W p l e room_1 s m #[Value.ref b] below meth c H' locs' (80 + 3 * (cn + 1)) (115267 + 12288 * (cn + 1)) Q (F0 m 919 ls [])) : W p l e room_1 s m #[Value.ref b] below meth c H locs (80 + 3 * cn) (115267 + 12288 * cn) Q (F0 m 429 ls []) := by
  obtain ⟨r, r', sx2, sm2, lm2, hfx, hfm, heq, hR⟩ := hO
  obtain ⟨hx, hb, hml, hown, hts⟩ := CX.1
  have hbA : ¬ AL s b := Nat.not_le.mpr hbl
  refine lv_aload_n hx hb dL_law_429 rfl (lv_at hl 1 rfl) ?_
  refine lv_aload_n hx hb dL_law_430 rfl (lv_at hl 0 rfl) ?_
  refine lv_iload_n hx hb dL_law_431 rfl (lv_at hl 3 rfl) ?_
  refine lv_iconst (v := (1 : Int32)) hx hb dL_law_432 (by decide) ?_
  refine lv_iadd hx hb dL_law_433 ?_
  refine va_sld hx hb hX hbl hbA hw.1.2.2 (hix 1 (by decide)) dL_law_434 ?_
  refine lv_aload_n hx hb dL_law_435 rfl (lv_at hl 0 rfl) ?_
  refine lv_iload_n hx hb dL_law_436 rfl (lv_at hl 3 rfl) ?_
  refine lv_iconst (v := (2 : Int32)) hx hb dL_law_437 (by decide) ?_
  refine lv_iadd hx hb dL_law_438 ?_
  refine va_sld hx hb hX hbl hbA hw.1.2.2 (hix 2 (by decide)) dL_law_439 ?_
  refine r_cVlF (As := [.int (xs (x3 + 1).toNatClampNeg), .int (xs (x3 + 2).toNatClampNeg)]) (rest := []) CX hw.1 0 (by decide) (ci := 11) rfl rfl (mX11_isOf l D T (adr a g) lg0 H.size (xs (x3 + 1).toNatClampNeg) (xs (x3 + 2).toNatClampNeg) sx hfx) (cwV 2 hts GV_X11_isOf rfl rfl rfl (by decide +kernel) ⟨Nat.le_of_ble_eq_true rfl, Nat.le_of_ble_eq_true rfl⟩) rfl hl.1 rfl (Nat.le_of_ble_eq_true rfl) dL_law_440 ⟨by have q1 : room_1.cells = 600000 := rfl; omega, by have q2 : room_1.slots = 7302250 := rfl; omega⟩ (fun ad' H' locs' hp hw1 hfr hnew => ?_)
  subst hp
  have hwm := hw.2.1.keep hw1.2.2 hfr hw.2.2
  have hdis := dis_new hw.2.1 hw.2.2 hnew
  replace hw : LW D T a g am sx2 sm lm s H' locs' := ⟨hw1, hwm, hdis⟩
  clear hw1 hwm hdis hfr hnew
  replace hl : lv_has ls 4 [(0, .ref b), (1, .ref (adr a g 0)), (2, .ref (am 0)), (3, .int x3)] := hl
  refine W.widen (k := 80 + 3 * cn + 3) (n := 115267 + 12288 * cn + 12288) (by omega) (by omega) ?_
  refine lv_pop2_2 hx hb dL_law_443 rfl ?_
  refine lv_aload_n hx hb dL_law_444 rfl (lv_at hl 2 rfl) ?_
  refine lv_aload_n hx hb dL_law_445 rfl (lv_at hl 0 rfl) ?_
  refine lv_iload_n hx hb dL_law_446 rfl (lv_at hl 3 rfl) ?_
  refine lv_iconst (v := (1 : Int32)) hx hb dL_law_447 (by decide) ?_
  refine lv_iadd hx hb dL_law_448 ?_
  refine va_sld hx hb hX hbl hbA hw.1.2.2 (hix 1 (by decide)) dL_law_449 ?_
  refine lv_aload_n hx hb dL_law_450 rfl (lv_at hl 0 rfl) ?_
  refine lv_iload_n hx hb dL_law_451 rfl (lv_at hl 3 rfl) ?_
  refine lv_iconst (v := (2 : Int32)) hx hb dL_law_452 (by decide) ?_
  refine lv_iadd hx hb dL_law_453 ?_
  refine va_sld hx hb hX hbl hbA hw.1.2.2 (hix 2 (by decide)) dL_law_454 ?_
  refine r_cVlF (As := [.int (xs (x3 + 1).toNatClampNeg), .int (xs (x3 + 2).toNatClampNeg)]) (rest := []) CM hw.2.1 0 (by decide) (ci := 12) rfl rfl (mX12_isOf l D T am H'.size (xs (x3 + 1).toNatClampNeg) (xs (x3 + 2).toNatClampNeg) sm lm hfm) (cwV 2 hts GV_X12_isOf rfl rfl rfl (by decide +kernel) ⟨Nat.le_of_ble_eq_true rfl, Nat.le_of_ble_eq_true rfl⟩) rfl hl.1 rfl (Nat.le_of_ble_eq_true rfl) dL_law_455 ⟨by have q1 : room_1.cells = 600000 := rfl; omega, by have q2 : room_1.slots = 7302250 := rfl; omega⟩ (fun ad'' H2 locs2 hp hw1 hfr hnew => ?_)
  subst hp
  have hwx := hw.1.keep hw1.2.2 hfr (fun i j hi hj e => hw.2.2 j i hj hi e.symm)
  replace hw : LW D T a g am sx2 sm2 lm2 s H2 locs2 := ⟨hwx, hw1, hw.2.2⟩
  refine W.widen (k := 80 + 3 * (cn + 1)) (n := 115267 + 12288 * (cn + 1)) (by omega) (by omega) ?_
  refine lv_pop2_2 hx hb dL_law_458 rfl ?_
  refine lv_goto (tgt := 919) hx hb dL_law_459 (by decide) ?_
  exact hnext g sx2 sm2 lm2 _ _ hR hw hl
set_option maxHeartbeats 4000000 in
set_option maxRecDepth 100000 in
theorem law_c8 (CX : Cx p s m #[Value.ref b] meth c code 4 RL lw_tbl ret D vwCl (tysC T) (AL s) true nwL) (CM : Cx p s m #[Value.ref b] meth c code 4 RL lw_tbl ret D vwCl (tysM T) (AL s) false []) (hX : va_X b L xs s s.heap) (hbl : b < s.heap.size) {Q : State → Prop} {g : Nat → Nat} {sx sm : Sg} {lm : Lg} {H : Heap} {locs : List Loc} {ls : Array Slot} {cn : Nat} (hcn : cn ≤ 511) {x3 : Int32} (hix : ∀ k : Nat, k < 5 → vp_in (x3 + nI k) L) {R' : Sg → Sg → Lg → Prop} (hO : OpL false (fX11_pecks (xs (x3 + 1).toNatClampNeg) (xs (x3 + 2).toNatClampNeg) sx) (fX12_pecks (xs (x3 + 1).toNatClampNeg) (xs (x3 + 2).toNatClampNeg) sm lm) R') (hw : LW D T a g am sx sm lm s H locs) (hl : lv_has ls 4 [(0, .ref b), (1, .ref (adr a g 0)), (2, .ref (am 0)), (3, .int x3)])
    (hnext : ∀ (g' : Nat → Nat) (sx' sm' : Sg) (lm' : Lg) (H' : Heap) (locs' : List Loc), R' sx' sm' lm' → LW D T a g' am sx' sm' lm' s H' locs' → lv_has ls 4 [(0, .ref b), (1, .ref (adr a g' 0)), (2, .ref (am 0)), (3, .int x3)] → W p l e room_1 s m #[Value.ref b] below meth c H' locs' (80 + 3 * (cn + 1)) (115267 + 12288 * (cn + 1)) Q (F0 m 919 ls [])) : W p l e room_1 s m #[Value.ref b] below meth c H locs (80 + 3 * cn) (115267 + 12288 * cn) Q (F0 m 462 ls []) := by
  obtain ⟨r, r', sx2, sm2, lm2, hfx, hfm, heq, hR⟩ := hO
  obtain ⟨hx, hb, hml, hown, hts⟩ := CX.1
  have hbA : ¬ AL s b := Nat.not_le.mpr hbl
  refine lv_aload_n hx hb dL_law_462 rfl (lv_at hl 1 rfl) ?_
  refine lv_aload_n hx hb dL_law_463 rfl (lv_at hl 0 rfl) ?_
  refine lv_iload_n hx hb dL_law_464 rfl (lv_at hl 3 rfl) ?_
  refine lv_iconst (v := (1 : Int32)) hx hb dL_law_465 (by decide) ?_
  refine lv_iadd hx hb dL_law_466 ?_
  refine va_sld hx hb hX hbl hbA hw.1.2.2 (hix 1 (by decide)) dL_law_467 ?_
  refine lv_aload_n hx hb dL_law_468 rfl (lv_at hl 0 rfl) ?_
  refine lv_iload_n hx hb dL_law_469 rfl (lv_at hl 3 rfl) ?_
  refine lv_iconst (v := (2 : Int32)) hx hb dL_law_470 (by decide) ?_
  refine lv_iadd hx hb dL_law_471 ?_
  refine va_sld hx hb hX hbl hbA hw.1.2.2 (hix 2 (by decide)) dL_law_472 ?_
  refine r_cVlF (As := [.int (xs (x3 + 1).toNatClampNeg), .int (xs (x3 + 2).toNatClampNeg)]) (rest := []) CX hw.1 0 (by decide) (ci := 11) rfl rfl (mX11_pecks l D T (adr a g) lg0 H.size (xs (x3 + 1).toNatClampNeg) (xs (x3 + 2).toNatClampNeg) sx hfx) (cwV 2 hts GV_X11_pecks rfl rfl rfl (by decide +kernel) ⟨Nat.le_of_ble_eq_true rfl, Nat.le_of_ble_eq_true rfl⟩) rfl hl.1 rfl (Nat.le_of_ble_eq_true rfl) dL_law_473 ⟨by have q1 : room_1.cells = 600000 := rfl; omega, by have q2 : room_1.slots = 7302250 := rfl; omega⟩ (fun ad' H' locs' hp hw1 hfr hnew => ?_)
  subst hp
  have hwm := hw.2.1.keep hw1.2.2 hfr hw.2.2
  have hdis := dis_new hw.2.1 hw.2.2 hnew
  replace hw : LW D T a g am sx2 sm lm s H' locs' := ⟨hw1, hwm, hdis⟩
  clear hw1 hwm hdis hfr hnew
  replace hl : lv_has ls 4 [(0, .ref b), (1, .ref (adr a g 0)), (2, .ref (am 0)), (3, .int x3)] := hl
  refine W.widen (k := 80 + 3 * cn + 3) (n := 115267 + 12288 * cn + 12288) (by omega) (by omega) ?_
  refine lv_pop2_2 hx hb dL_law_476 rfl ?_
  refine lv_aload_n hx hb dL_law_477 rfl (lv_at hl 2 rfl) ?_
  refine lv_aload_n hx hb dL_law_478 rfl (lv_at hl 0 rfl) ?_
  refine lv_iload_n hx hb dL_law_479 rfl (lv_at hl 3 rfl) ?_
  refine lv_iconst (v := (1 : Int32)) hx hb dL_law_480 (by decide) ?_
  refine lv_iadd hx hb dL_law_481 ?_
  refine va_sld hx hb hX hbl hbA hw.1.2.2 (hix 1 (by decide)) dL_law_482 ?_
  refine lv_aload_n hx hb dL_law_483 rfl (lv_at hl 0 rfl) ?_
  refine lv_iload_n hx hb dL_law_484 rfl (lv_at hl 3 rfl) ?_
  refine lv_iconst (v := (2 : Int32)) hx hb dL_law_485 (by decide) ?_
  refine lv_iadd hx hb dL_law_486 ?_
  refine va_sld hx hb hX hbl hbA hw.1.2.2 (hix 2 (by decide)) dL_law_487 ?_
  refine r_cVlF (As := [.int (xs (x3 + 1).toNatClampNeg), .int (xs (x3 + 2).toNatClampNeg)]) (rest := []) CM hw.2.1 0 (by decide) (ci := 12) rfl rfl (mX12_pecks l D T am H'.size (xs (x3 + 1).toNatClampNeg) (xs (x3 + 2).toNatClampNeg) sm lm hfm) (cwV 2 hts GV_X12_pecks rfl rfl rfl (by decide +kernel) ⟨Nat.le_of_ble_eq_true rfl, Nat.le_of_ble_eq_true rfl⟩) rfl hl.1 rfl (Nat.le_of_ble_eq_true rfl) dL_law_488 ⟨by have q1 : room_1.cells = 600000 := rfl; omega, by have q2 : room_1.slots = 7302250 := rfl; omega⟩ (fun ad'' H2 locs2 hp hw1 hfr hnew => ?_)
  subst hp
  have hwx := hw.1.keep hw1.2.2 hfr (fun i j hi hj e => hw.2.2 j i hj hi e.symm)
  replace hw : LW D T a g am sx2 sm2 lm2 s H2 locs2 := ⟨hwx, hw1, hw.2.2⟩
  refine W.widen (k := 80 + 3 * (cn + 1)) (n := 115267 + 12288 * (cn + 1)) (by omega) (by omega) ?_
  refine lv_pop2_2 hx hb dL_law_491 rfl ?_
  refine lv_goto (tgt := 919) hx hb dL_law_492 (by decide) ?_
  exact hnext g sx2 sm2 lm2 _ _ hR hw hl
set_option maxHeartbeats 4000000 in
set_option maxRecDepth 100000 in
theorem law_c9 (CX : Cx p s m #[Value.ref b] meth c code 4 RL lw_tbl ret D vwCl (tysC T) (AL s) true nwL) (CM : Cx p s m #[Value.ref b] meth c code 4 RL lw_tbl ret D vwCl (tysM T) (AL s) false []) (hX : va_X b L xs s s.heap) (hbl : b < s.heap.size) {Q : State → Prop} {g : Nat → Nat} {sx sm : Sg} {lm : Lg} {H : Heap} {locs : List Loc} {ls : Array Slot} {cn : Nat} (hcn : cn ≤ 511) {x3 : Int32} (hix : ∀ k : Nat, k < 5 → vp_in (x3 + nI k) L) {R' : Sg → Sg → Lg → Prop} (hO : OpL false (fX11_undo  sx) (fX12_undo  sm lm) R') (hw : LW D T a g am sx sm lm s H locs) (hl : lv_has ls 4 [(0, .ref b), (1, .ref (adr a g 0)), (2, .ref (am 0)), (3, .int x3)])
    (hnext : ∀ (g' : Nat → Nat) (sx' sm' : Sg) (lm' : Lg) (H' : Heap) (locs' : List Loc), R' sx' sm' lm' → LW D T a g' am sx' sm' lm' s H' locs' → lv_has ls 4 [(0, .ref b), (1, .ref (adr a g' 0)), (2, .ref (am 0)), (3, .int x3)] → W p l e room_1 s m #[Value.ref b] below meth c H' locs' (80 + 3 * (cn + 1)) (115267 + 12288 * (cn + 1)) Q (F0 m 919 ls [])) : W p l e room_1 s m #[Value.ref b] below meth c H locs (80 + 3 * cn) (115267 + 12288 * cn) Q (F0 m 495 ls []) := by
  obtain ⟨r, r', sx2, sm2, lm2, hfx, hfm, heq, hR⟩ := hO
  obtain ⟨hx, hb, hml, hown, hts⟩ := CX.1
  have hbA : ¬ AL s b := Nat.not_le.mpr hbl
  refine lv_aload_n hx hb dL_law_495 rfl (lv_at hl 1 rfl) ?_
  refine r_cVlF (As := []) (rest := []) CX hw.1 0 (by decide) (ci := 11) rfl rfl (mX11_undo l D T (adr a g) lg0 H.size  sx hfx) (cwV 0 hts GV_X11_undo rfl rfl rfl (by decide +kernel) ⟨Nat.le_of_ble_eq_true rfl, Nat.le_of_ble_eq_true rfl⟩) rfl hl.1 rfl (Nat.le_of_ble_eq_true rfl) dL_law_496 ⟨by have q1 : room_1.cells = 600000 := rfl; omega, by have q2 : room_1.slots = 7302250 := rfl; omega⟩ (fun ad' H' locs' hp hw1 hfr hnew => ?_)
  subst hp
  have hwm := hw.2.1.keep hw1.2.2 hfr hw.2.2
  have hdis := dis_new hw.2.1 hw.2.2 hnew
  replace hw : LW D T a g am sx2 sm lm s H' locs' := ⟨hw1, hwm, hdis⟩
  clear hw1 hwm hdis hfr hnew
  replace hl : lv_has ls 4 [(0, .ref b), (1, .ref (adr a g 0)), (2, .ref (am 0)), (3, .int x3)] := hl
  refine W.widen (k := 80 + 3 * cn + 3) (n := 115267 + 12288 * cn + 12288) (by omega) (by omega) ?_
  refine lv_pop2_2 hx hb dL_law_499 rfl ?_
  refine lv_aload_n hx hb dL_law_500 rfl (lv_at hl 2 rfl) ?_
  refine r_cVlF (As := []) (rest := []) CM hw.2.1 0 (by decide) (ci := 12) rfl rfl (mX12_undo l D T am H'.size  sm lm hfm) (cwV 0 hts GV_X12_undo rfl rfl rfl (by decide +kernel) ⟨Nat.le_of_ble_eq_true rfl, Nat.le_of_ble_eq_true rfl⟩) rfl hl.1 rfl (Nat.le_of_ble_eq_true rfl) dL_law_501 ⟨by have q1 : room_1.cells = 600000 := rfl; omega, by have q2 : room_1.slots = 7302250 := rfl; omega⟩ (fun ad'' H2 locs2 hp hw1 hfr hnew => ?_)
  subst hp
  have hwx := hw.1.keep hw1.2.2 hfr (fun i j hi hj e => hw.2.2 j i hj hi e.symm)
  replace hw : LW D T a g am sx2 sm2 lm2 s H2 locs2 := ⟨hwx, hw1, hw.2.2⟩
  refine W.widen (k := 80 + 3 * (cn + 1)) (n := 115267 + 12288 * (cn + 1)) (by omega) (by omega) ?_
  refine lv_pop2_2 hx hb dL_law_504 rfl ?_
  refine lv_goto (tgt := 919) hx hb dL_law_505 (by decide) ?_
  exact hnext g sx2 sm2 lm2 _ _ hR hw hl
set_option maxHeartbeats 4000000 in
set_option maxRecDepth 100000 in
theorem law_c10 (CX : Cx p s m #[Value.ref b] meth c code 4 RL lw_tbl ret D vwCl (tysC T) (AL s) true nwL) (CM : Cx p s m #[Value.ref b] meth c code 4 RL lw_tbl ret D vwCl (tysM T) (AL s) false []) (hX : va_X b L xs s s.heap) (hbl : b < s.heap.size) {Q : State → Prop} {g : Nat → Nat} {sx sm : Sg} {lm : Lg} {H : Heap} {locs : List Loc} {ls : Array Slot} {cn : Nat} (hcn : cn ≤ 511) {x3 : Int32} (hix : ∀ k : Nat, k < 5 → vp_in (x3 + nI k) L) {R' : Sg → Sg → Lg → Prop} (hO : OpL false (fX11_least  sx) (fX12_least  sm lm) R') (hw : LW D T a g am sx sm lm s H locs) (hl : lv_has ls 4 [(0, .ref b), (1, .ref (adr a g 0)), (2, .ref (am 0)), (3, .int x3)])
    (hnext : ∀ (g' : Nat → Nat) (sx' sm' : Sg) (lm' : Lg) (H' : Heap) (locs' : List Loc), R' sx' sm' lm' → LW D T a g' am sx' sm' lm' s H' locs' → lv_has ls 4 [(0, .ref b), (1, .ref (adr a g' 0)), (2, .ref (am 0)), (3, .int x3)] → W p l e room_1 s m #[Value.ref b] below meth c H' locs' (80 + 3 * (cn + 1)) (115267 + 12288 * (cn + 1)) Q (F0 m 919 ls [])) : W p l e room_1 s m #[Value.ref b] below meth c H locs (80 + 3 * cn) (115267 + 12288 * cn) Q (F0 m 508 ls []) := by
  obtain ⟨r, r', sx2, sm2, lm2, hfx, hfm, heq, hR⟩ := hO
  obtain ⟨hx, hb, hml, hown, hts⟩ := CX.1
  have hbA : ¬ AL s b := Nat.not_le.mpr hbl
  refine lv_aload_n hx hb dL_law_508 rfl (lv_at hl 1 rfl) ?_
  refine r_cVlF (As := []) (rest := []) CX hw.1 0 (by decide) (ci := 11) rfl rfl (mX11_least l D T a g lg0 H.size  sx hfx) (cwV 0 hts GV_X11_least rfl rfl rfl (by decide +kernel) ⟨Nat.le_of_ble_eq_true rfl, Nat.le_of_ble_eq_true rfl⟩) rfl hl.1 rfl (Nat.le_of_ble_eq_true rfl) dL_law_509 ⟨by have q1 : room_1.cells = 600000 := rfl; omega, by have q2 : room_1.slots = 7302250 := rfl; omega⟩ (fun ad' H' locs' hp hw1 hfr hnew => ?_)
  obtain ⟨g2, rfl⟩ := hp
  have hwm := hw.2.1.keep hw1.2.2 hfr hw.2.2
  have hdis := dis_new hw.2.1 hw.2.2 hnew
  replace hw : LW D T a g2 am sx2 sm lm s H' locs' := ⟨hw1, hwm, hdis⟩
  clear hw1 hwm hdis hfr hnew
  replace hl : lv_has ls 4 [(0, .ref b), (1, .ref (adr a g2 0)), (2, .ref (am 0)), (3, .int x3)] := hl
  refine W.widen (k := 80 + 3 * cn + 3) (n := 115267 + 12288 * cn + 12288) (by omega) (by omega) ?_
  refine lv_pop2_2 hx hb dL_law_512 rfl ?_
  refine lv_aload_n hx hb dL_law_513 rfl (lv_at hl 2 rfl) ?_
  refine r_cVlF (As := []) (rest := []) CM hw.2.1 0 (by decide) (ci := 12) rfl rfl (mX12_least l D T am H'.size  sm lm hfm) (cwV 0 hts GV_X12_least rfl rfl rfl (by decide +kernel) ⟨Nat.le_of_ble_eq_true rfl, Nat.le_of_ble_eq_true rfl⟩) rfl hl.1 rfl (Nat.le_of_ble_eq_true rfl) dL_law_514 ⟨by have q1 : room_1.cells = 600000 := rfl; omega, by have q2 : room_1.slots = 7302250 := rfl; omega⟩ (fun ad'' H2 locs2 hp hw1 hfr hnew => ?_)
  subst hp
  have hwx := hw.1.keep hw1.2.2 hfr (fun i j hi hj e => hw.2.2 j i hj hi e.symm)
  replace hw : LW D T a g2 am sx2 sm2 lm2 s H2 locs2 := ⟨hwx, hw1, hw.2.2⟩
  refine W.widen (k := 80 + 3 * (cn + 1)) (n := 115267 + 12288 * (cn + 1)) (by omega) (by omega) ?_
  refine lv_pop2_2 hx hb dL_law_517 rfl ?_
  refine lv_goto (tgt := 919) hx hb dL_law_518 (by decide) ?_
  exact hnext g2 sx2 sm2 lm2 _ _ hR hw hl
set_option maxHeartbeats 4000000 in
set_option maxRecDepth 100000 in
theorem law_c11 (CX : Cx p s m #[Value.ref b] meth c code 4 RL lw_tbl ret D vwCl (tysC T) (AL s) true nwL) (CM : Cx p s m #[Value.ref b] meth c code 4 RL lw_tbl ret D vwCl (tysM T) (AL s) false []) (hX : va_X b L xs s s.heap) (hbl : b < s.heap.size) {Q : State → Prop} {g : Nat → Nat} {sx sm : Sg} {lm : Lg} {H : Heap} {locs : List Loc} {ls : Array Slot} {cn : Nat} (hcn : cn ≤ 511) {x3 : Int32} (hix : ∀ k : Nat, k < 5 → vp_in (x3 + nI k) L) {R' : Sg → Sg → Lg → Prop} (hO : OpL false (fX11_many  sx) (fX12_many  sm lm) R') (hw : LW D T a g am sx sm lm s H locs) (hl : lv_has ls 4 [(0, .ref b), (1, .ref (adr a g 0)), (2, .ref (am 0)), (3, .int x3)])
    (hnext : ∀ (g' : Nat → Nat) (sx' sm' : Sg) (lm' : Lg) (H' : Heap) (locs' : List Loc), R' sx' sm' lm' → LW D T a g' am sx' sm' lm' s H' locs' → lv_has ls 4 [(0, .ref b), (1, .ref (adr a g' 0)), (2, .ref (am 0)), (3, .int x3)] → W p l e room_1 s m #[Value.ref b] below meth c H' locs' (80 + 3 * (cn + 1)) (115267 + 12288 * (cn + 1)) Q (F0 m 919 ls [])) : W p l e room_1 s m #[Value.ref b] below meth c H locs (80 + 3 * cn) (115267 + 12288 * cn) Q (F0 m 521 ls []) := by
  obtain ⟨r, r', sx2, sm2, lm2, hfx, hfm, heq, hR⟩ := hO
  obtain ⟨hx, hb, hml, hown, hts⟩ := CX.1
  have hbA : ¬ AL s b := Nat.not_le.mpr hbl
  refine lv_aload_n hx hb dL_law_521 rfl (lv_at hl 1 rfl) ?_
  refine r_cVlF (As := []) (rest := []) CX hw.1 0 (by decide) (ci := 11) rfl rfl (mX11_many l D T a g lg0 H.size  sx hfx) (cwV 0 hts GV_X11_many rfl rfl rfl (by decide +kernel) ⟨Nat.le_of_ble_eq_true rfl, Nat.le_of_ble_eq_true rfl⟩) rfl hl.1 rfl (Nat.le_of_ble_eq_true rfl) dL_law_522 ⟨by have q1 : room_1.cells = 600000 := rfl; omega, by have q2 : room_1.slots = 7302250 := rfl; omega⟩ (fun ad' H' locs' hp hw1 hfr hnew => ?_)
  obtain ⟨g2, rfl⟩ := hp
  have hwm := hw.2.1.keep hw1.2.2 hfr hw.2.2
  have hdis := dis_new hw.2.1 hw.2.2 hnew
  replace hw : LW D T a g2 am sx2 sm lm s H' locs' := ⟨hw1, hwm, hdis⟩
  clear hw1 hwm hdis hfr hnew
  replace hl : lv_has ls 4 [(0, .ref b), (1, .ref (adr a g2 0)), (2, .ref (am 0)), (3, .int x3)] := hl
  refine W.widen (k := 80 + 3 * cn + 3) (n := 115267 + 12288 * cn + 12288) (by omega) (by omega) ?_
  refine lv_pop2_2 hx hb dL_law_525 rfl ?_
  refine lv_aload_n hx hb dL_law_526 rfl (lv_at hl 2 rfl) ?_
  refine r_cVlF (As := []) (rest := []) CM hw.2.1 0 (by decide) (ci := 12) rfl rfl (mX12_many l D T am H'.size  sm lm hfm) (cwV 0 hts GV_X12_many rfl rfl rfl (by decide +kernel) ⟨Nat.le_of_ble_eq_true rfl, Nat.le_of_ble_eq_true rfl⟩) rfl hl.1 rfl (Nat.le_of_ble_eq_true rfl) dL_law_527 ⟨by have q1 : room_1.cells = 600000 := rfl; omega, by have q2 : room_1.slots = 7302250 := rfl; omega⟩ (fun ad'' H2 locs2 hp hw1 hfr hnew => ?_)
  subst hp
  have hwx := hw.1.keep hw1.2.2 hfr (fun i j hi hj e => hw.2.2 j i hj hi e.symm)
  replace hw : LW D T a g2 am sx2 sm2 lm2 s H2 locs2 := ⟨hwx, hw1, hw.2.2⟩
  refine W.widen (k := 80 + 3 * (cn + 1)) (n := 115267 + 12288 * (cn + 1)) (by omega) (by omega) ?_
  refine lv_pop2_2 hx hb dL_law_530 rfl ?_
  refine lv_goto (tgt := 919) hx hb dL_law_531 (by decide) ?_
  exact hnext g2 sx2 sm2 lm2 _ _ hR hw hl
set_option maxHeartbeats 4000000 in
set_option maxRecDepth 100000 in
theorem law_c12 (CX : Cx p s m #[Value.ref b] meth c code 4 RL lw_tbl ret D vwCl (tysC T) (AL s) true nwL) (CM : Cx p s m #[Value.ref b] meth c code 4 RL lw_tbl ret D vwCl (tysM T) (AL s) false []) (hX : va_X b L xs s s.heap) (hbl : b < s.heap.size) {Q : State → Prop} {g : Nat → Nat} {sx sm : Sg} {lm : Lg} {H : Heap} {locs : List Loc} {ls : Array Slot} {cn : Nat} (hcn : cn ≤ 511) {x3 : Int32} (hix : ∀ k : Nat, k < 5 → vp_in (x3 + nI k) L) {R' : Sg → Sg → Lg → Prop} (hO : OpL false (fX11_best (((xs (x3 + 1).toNatClampNeg).toInt64 <<< ((32 : Int32).toInt64 &&& 63)) ||| ((xs (x3 + 2).toNatClampNeg).toInt64 &&& (4294967295 : Int64))) sx) (fX12_best (((xs (x3 + 1).toNatClampNeg).toInt64 <<< ((32 : Int32).toInt64 &&& 63)) ||| ((xs (x3 + 2).toNatClampNeg).toInt64 &&& (4294967295 : Int64))) sm lm) R') (hw : LW D T a g am sx sm lm s H locs) (hl : lv_has ls 4 [(0, .ref b), (1, .ref (adr a g 0)), (2, .ref (am 0)), (3, .int x3)])
    (hnext : ∀ (g' : Nat → Nat) (sx' sm' : Sg) (lm' : Lg) (H' : Heap) (locs' : List Loc), R' sx' sm' lm' → LW D T a g' am sx' sm' lm' s H' locs' → lv_has ls 4 [(0, .ref b), (1, .ref (adr a g' 0)), (2, .ref (am 0)), (3, .int x3)] → W p l e room_1 s m #[Value.ref b] below meth c H' locs' (80 + 3 * (cn + 1)) (115267 + 12288 * (cn + 1)) Q (F0 m 919 ls [])) : W p l e room_1 s m #[Value.ref b] below meth c H locs (80 + 3 * cn) (115267 + 12288 * cn) Q (F0 m 534 ls []) := by
  obtain ⟨r, r', sx2, sm2, lm2, hfx, hfm, heq, hR⟩ := hO
  obtain ⟨hx, hb, hml, hown, hts⟩ := CX.1
  have hbA : ¬ AL s b := Nat.not_le.mpr hbl
  refine lv_aload_n hx hb dL_law_534 rfl (lv_at hl 1 rfl) ?_
  refine lv_aload_n hx hb dL_law_535 rfl (lv_at hl 0 rfl) ?_
  refine lv_iload_n hx hb dL_law_536 rfl (lv_at hl 3 rfl) ?_
  refine lv_iconst (v := (1 : Int32)) hx hb dL_law_537 (by decide) ?_
  refine lv_iadd hx hb dL_law_538 ?_
  refine va_sld hx hb hX hbl hbA hw.1.2.2 (hix 1 (by decide)) dL_law_539 ?_
  refine lv_i2l (v := (xs (x3 + 1).toNatClampNeg).toInt64) hx hb dL_law_540 rfl ?_
  refine lv_bipush (v := (32 : Int32)) hx hb dL_law_541 (by decide) ?_
  refine lv_lshl (v := ((xs (x3 + 1).toNatClampNeg).toInt64 <<< ((32 : Int32).toInt64 &&& 63))) hx hb dL_law_543 rfl ?_
  refine lv_aload_n hx hb dL_law_544 rfl (lv_at hl 0 rfl) ?_
  refine lv_iload_n hx hb dL_law_545 rfl (lv_at hl 3 rfl) ?_
  refine lv_iconst (v := (2 : Int32)) hx hb dL_law_546 (by decide) ?_
  refine lv_iadd hx hb dL_law_547 ?_
  refine va_sld hx hb hX hbl hbA hw.1.2.2 (hix 2 (by decide)) dL_law_548 ?_
  refine lv_i2l (v := (xs (x3 + 2).toNatClampNeg).toInt64) hx hb dL_law_549 rfl ?_
  refine lv_ldc2 hx hb hown (hts _ kL_c30) dL_law_550 ?_
  refine lv_land hx hb dL_law_553 ?_
  refine lv_lor hx hb dL_law_554 ?_
  refine r_cVlF (As := [.long (((xs (x3 + 1).toNatClampNeg).toInt64 <<< ((32 : Int32).toInt64 &&& 63)) ||| ((xs (x3 + 2).toNatClampNeg).toInt64 &&& (4294967295 : Int64)))]) (rest := []) CX hw.1 0 (by decide) (ci := 11) rfl rfl (mX11_best l D T a g lg0 H.size (((xs (x3 + 1).toNatClampNeg).toInt64 <<< ((32 : Int32).toInt64 &&& 63)) ||| ((xs (x3 + 2).toNatClampNeg).toInt64 &&& (4294967295 : Int64))) sx hfx) (cwV 1 hts GV_X11_best rfl rfl rfl (by decide +kernel) ⟨Nat.le_of_ble_eq_true rfl, Nat.le_of_ble_eq_true rfl⟩) rfl hl.1 rfl (Nat.le_of_ble_eq_true rfl) dL_law_555 ⟨by have q1 : room_1.cells = 600000 := rfl; omega, by have q2 : room_1.slots = 7302250 := rfl; omega⟩ (fun ad' H' locs' hp hw1 hfr hnew => ?_)
  obtain ⟨g2, rfl⟩ := hp
  have hwm := hw.2.1.keep hw1.2.2 hfr hw.2.2
  have hdis := dis_new hw.2.1 hw.2.2 hnew
  replace hw : LW D T a g2 am sx2 sm lm s H' locs' := ⟨hw1, hwm, hdis⟩
  clear hw1 hwm hdis hfr hnew
  replace hl : lv_has ls 4 [(0, .ref b), (1, .ref (adr a g2 0)), (2, .ref (am 0)), (3, .int x3)] := hl
  refine W.widen (k := 80 + 3 * cn + 3) (n := 115267 + 12288 * cn + 12288) (by omega) (by omega) ?_
  refine lv_pop2_2 hx hb dL_law_558 rfl ?_
  refine lv_aload_n hx hb dL_law_559 rfl (lv_at hl 2 rfl) ?_
  refine lv_aload_n hx hb dL_law_560 rfl (lv_at hl 0 rfl) ?_
  refine lv_iload_n hx hb dL_law_561 rfl (lv_at hl 3 rfl) ?_
  refine lv_iconst (v := (1 : Int32)) hx hb dL_law_562 (by decide) ?_
  refine lv_iadd hx hb dL_law_563 ?_
  refine va_sld hx hb hX hbl hbA hw.1.2.2 (hix 1 (by decide)) dL_law_564 ?_
  refine lv_i2l (v := (xs (x3 + 1).toNatClampNeg).toInt64) hx hb dL_law_565 rfl ?_
  refine lv_bipush (v := (32 : Int32)) hx hb dL_law_566 (by decide) ?_
  refine lv_lshl (v := ((xs (x3 + 1).toNatClampNeg).toInt64 <<< ((32 : Int32).toInt64 &&& 63))) hx hb dL_law_568 rfl ?_
  refine lv_aload_n hx hb dL_law_569 rfl (lv_at hl 0 rfl) ?_
  refine lv_iload_n hx hb dL_law_570 rfl (lv_at hl 3 rfl) ?_
  refine lv_iconst (v := (2 : Int32)) hx hb dL_law_571 (by decide) ?_
  refine lv_iadd hx hb dL_law_572 ?_
  refine va_sld hx hb hX hbl hbA hw.1.2.2 (hix 2 (by decide)) dL_law_573 ?_
  refine lv_i2l (v := (xs (x3 + 2).toNatClampNeg).toInt64) hx hb dL_law_574 rfl ?_
  refine lv_ldc2 hx hb hown (hts _ kL_c30) dL_law_575 ?_
  refine lv_land hx hb dL_law_578 ?_
  refine lv_lor hx hb dL_law_579 ?_
  refine r_cVlF (As := [.long (((xs (x3 + 1).toNatClampNeg).toInt64 <<< ((32 : Int32).toInt64 &&& 63)) ||| ((xs (x3 + 2).toNatClampNeg).toInt64 &&& (4294967295 : Int64)))]) (rest := []) CM hw.2.1 0 (by decide) (ci := 12) rfl rfl (mX12_best l D T am H'.size (((xs (x3 + 1).toNatClampNeg).toInt64 <<< ((32 : Int32).toInt64 &&& 63)) ||| ((xs (x3 + 2).toNatClampNeg).toInt64 &&& (4294967295 : Int64))) sm lm hfm) (cwV 1 hts GV_X12_best rfl rfl rfl (by decide +kernel) ⟨Nat.le_of_ble_eq_true rfl, Nat.le_of_ble_eq_true rfl⟩) rfl hl.1 rfl (Nat.le_of_ble_eq_true rfl) dL_law_580 ⟨by have q1 : room_1.cells = 600000 := rfl; omega, by have q2 : room_1.slots = 7302250 := rfl; omega⟩ (fun ad'' H2 locs2 hp hw1 hfr hnew => ?_)
  subst hp
  have hwx := hw.1.keep hw1.2.2 hfr (fun i j hi hj e => hw.2.2 j i hj hi e.symm)
  replace hw : LW D T a g2 am sx2 sm2 lm2 s H2 locs2 := ⟨hwx, hw1, hw.2.2⟩
  refine W.widen (k := 80 + 3 * (cn + 1)) (n := 115267 + 12288 * (cn + 1)) (by omega) (by omega) ?_
  refine lv_pop2_2 hx hb dL_law_583 rfl ?_
  refine lv_goto (tgt := 919) hx hb dL_law_584 (by decide) ?_
  exact hnext g2 sx2 sm2 lm2 _ _ hR hw hl
set_option maxHeartbeats 4000000 in
set_option maxRecDepth 100000 in
theorem law_c13 (CX : Cx p s m #[Value.ref b] meth c code 4 RL lw_tbl ret D vwCl (tysC T) (AL s) true nwL) (CM : Cx p s m #[Value.ref b] meth c code 4 RL lw_tbl ret D vwCl (tysM T) (AL s) false []) (hX : va_X b L xs s s.heap) (hbl : b < s.heap.size) {Q : State → Prop} {g : Nat → Nat} {sx sm : Sg} {lm : Lg} {H : Heap} {locs : List Loc} {ls : Array Slot} {cn : Nat} (hcn : cn ≤ 511) {x3 : Int32} (hix : ∀ k : Nat, k < 5 → vp_in (x3 + nI k) L) {R' : Sg → Sg → Lg → Prop} (hO : OpL false (fX11_number  sx) (fX12_number  sm lm) R') (hw : LW D T a g am sx sm lm s H locs) (hl : lv_has ls 4 [(0, .ref b), (1, .ref (adr a g 0)), (2, .ref (am 0)), (3, .int x3)])
    (hnext : ∀ (g' : Nat → Nat) (sx' sm' : Sg) (lm' : Lg) (H' : Heap) (locs' : List Loc), R' sx' sm' lm' → LW D T a g' am sx' sm' lm' s H' locs' → lv_has ls 4 [(0, .ref b), (1, .ref (adr a g' 0)), (2, .ref (am 0)), (3, .int x3)] → W p l e room_1 s m #[Value.ref b] below meth c H' locs' (80 + 3 * (cn + 1)) (115267 + 12288 * (cn + 1)) Q (F0 m 919 ls [])) : W p l e room_1 s m #[Value.ref b] below meth c H locs (80 + 3 * cn) (115267 + 12288 * cn) Q (F0 m 587 ls []) := by
  obtain ⟨r, r', sx2, sm2, lm2, hfx, hfm, heq, hR⟩ := hO
  obtain ⟨hx, hb, hml, hown, hts⟩ := CX.1
  have hbA : ¬ AL s b := Nat.not_le.mpr hbl
  refine lv_aload_n hx hb dL_law_587 rfl (lv_at hl 1 rfl) ?_
  refine r_cVlF (As := []) (rest := []) CX hw.1 0 (by decide) (ci := 11) rfl rfl (mX11_number l D T a g lg0 H.size  sx hfx) (cwV 0 hts GV_X11_number rfl rfl rfl (by decide +kernel) ⟨Nat.le_of_ble_eq_true rfl, Nat.le_of_ble_eq_true rfl⟩) rfl hl.1 rfl (Nat.le_of_ble_eq_true rfl) dL_law_588 ⟨by have q1 : room_1.cells = 600000 := rfl; omega, by have q2 : room_1.slots = 7302250 := rfl; omega⟩ (fun ad' H' locs' hp hw1 hfr hnew => ?_)
  obtain ⟨g2, rfl⟩ := hp
  have hwm := hw.2.1.keep hw1.2.2 hfr hw.2.2
  have hdis := dis_new hw.2.1 hw.2.2 hnew
  replace hw : LW D T a g2 am sx2 sm lm s H' locs' := ⟨hw1, hwm, hdis⟩
  clear hw1 hwm hdis hfr hnew
  replace hl : lv_has ls 4 [(0, .ref b), (1, .ref (adr a g2 0)), (2, .ref (am 0)), (3, .int x3)] := hl
  refine W.widen (k := 80 + 3 * cn + 3) (n := 115267 + 12288 * cn + 12288) (by omega) (by omega) ?_
  refine lv_pop2_2 hx hb dL_law_591 rfl ?_
  refine lv_aload_n hx hb dL_law_592 rfl (lv_at hl 2 rfl) ?_
  refine r_cVlF (As := []) (rest := []) CM hw.2.1 0 (by decide) (ci := 12) rfl rfl (mX12_number l D T am H'.size  sm lm hfm) (cwV 0 hts GV_X12_number rfl rfl rfl (by decide +kernel) ⟨Nat.le_of_ble_eq_true rfl, Nat.le_of_ble_eq_true rfl⟩) rfl hl.1 rfl (Nat.le_of_ble_eq_true rfl) dL_law_593 ⟨by have q1 : room_1.cells = 600000 := rfl; omega, by have q2 : room_1.slots = 7302250 := rfl; omega⟩ (fun ad'' H2 locs2 hp hw1 hfr hnew => ?_)
  subst hp
  have hwx := hw.1.keep hw1.2.2 hfr (fun i j hi hj e => hw.2.2 j i hj hi e.symm)
  replace hw : LW D T a g2 am sx2 sm2 lm2 s H2 locs2 := ⟨hwx, hw1, hw.2.2⟩
  refine W.widen (k := 80 + 3 * (cn + 1)) (n := 115267 + 12288 * (cn + 1)) (by omega) (by omega) ?_
  refine lv_pop2_2 hx hb dL_law_596 rfl ?_
  refine lv_goto (tgt := 919) hx hb dL_law_597 (by decide) ?_
  exact hnext g2 sx2 sm2 lm2 _ _ hR hw hl
set_option maxHeartbeats 4000000 in
set_option maxRecDepth 100000 in
theorem law_c14 (CX : Cx p s m #[Value.ref b] meth c code 4 RL lw_tbl ret D vwCl (tysC T) (AL s) true nwL) (CM : Cx p s m #[Value.ref b] meth c code 4 RL lw_tbl ret D vwCl (tysM T) (AL s) false []) (hX : va_X b L xs s s.heap) (hbl : b < s.heap.size) {Q : State → Prop} {g : Nat → Nat} {sx sm : Sg} {lm : Lg} {H : Heap} {locs : List Loc} {ls : Array Slot} {cn : Nat} (hcn : cn ≤ 511) {x3 : Int32} (hix : ∀ k : Nat, k < 5 → vp_in (x3 + nI k) L) {R' : Sg → Sg → Lg → Prop} (hO : OpL false (fX11_sure (xs (x3 + 1).toNatClampNeg) (xs (x3 + 2).toNatClampNeg) sx) (fX12_sure (xs (x3 + 1).toNatClampNeg) (xs (x3 + 2).toNatClampNeg) sm lm) R') (hw : LW D T a g am sx sm lm s H locs) (hl : lv_has ls 4 [(0, .ref b), (1, .ref (adr a g 0)), (2, .ref (am 0)), (3, .int x3)])
    (hnext : ∀ (g' : Nat → Nat) (sx' sm' : Sg) (lm' : Lg) (H' : Heap) (locs' : List Loc), R' sx' sm' lm' → LW D T a g' am sx' sm' lm' s H' locs' → lv_has ls 4 [(0, .ref b), (1, .ref (adr a g' 0)), (2, .ref (am 0)), (3, .int x3)] → W p l e room_1 s m #[Value.ref b] below meth c H' locs' (80 + 3 * (cn + 1)) (115267 + 12288 * (cn + 1)) Q (F0 m 919 ls [])) : W p l e room_1 s m #[Value.ref b] below meth c H locs (80 + 3 * cn) (115267 + 12288 * cn) Q (F0 m 600 ls []) := by
  obtain ⟨r, r', sx2, sm2, lm2, hfx, hfm, heq, hR⟩ := hO
  obtain ⟨hx, hb, hml, hown, hts⟩ := CX.1
  have hbA : ¬ AL s b := Nat.not_le.mpr hbl
  refine lv_aload_n hx hb dL_law_600 rfl (lv_at hl 1 rfl) ?_
  refine lv_aload_n hx hb dL_law_601 rfl (lv_at hl 0 rfl) ?_
  refine lv_iload_n hx hb dL_law_602 rfl (lv_at hl 3 rfl) ?_
  refine lv_iconst (v := (1 : Int32)) hx hb dL_law_603 (by decide) ?_
  refine lv_iadd hx hb dL_law_604 ?_
  refine va_sld hx hb hX hbl hbA hw.1.2.2 (hix 1 (by decide)) dL_law_605 ?_
  refine lv_aload_n hx hb dL_law_606 rfl (lv_at hl 0 rfl) ?_
  refine lv_iload_n hx hb dL_law_607 rfl (lv_at hl 3 rfl) ?_
  refine lv_iconst (v := (2 : Int32)) hx hb dL_law_608 (by decide) ?_
  refine lv_iadd hx hb dL_law_609 ?_
  refine va_sld hx hb hX hbl hbA hw.1.2.2 (hix 2 (by decide)) dL_law_610 ?_
  refine r_cVlF (As := [.int (xs (x3 + 1).toNatClampNeg), .int (xs (x3 + 2).toNatClampNeg)]) (rest := []) CX hw.1 0 (by decide) (ci := 11) rfl rfl (mX11_sure l D T a g lg0 H.size (xs (x3 + 1).toNatClampNeg) (xs (x3 + 2).toNatClampNeg) sx hfx) (cwV 2 hts GV_X11_sure rfl rfl rfl (by decide +kernel) ⟨Nat.le_of_ble_eq_true rfl, Nat.le_of_ble_eq_true rfl⟩) rfl hl.1 rfl (Nat.le_of_ble_eq_true rfl) dL_law_611 ⟨by have q1 : room_1.cells = 600000 := rfl; omega, by have q2 : room_1.slots = 7302250 := rfl; omega⟩ (fun ad' H' locs' hp hw1 hfr hnew => ?_)
  obtain ⟨g2, rfl⟩ := hp
  have hwm := hw.2.1.keep hw1.2.2 hfr hw.2.2
  have hdis := dis_new hw.2.1 hw.2.2 hnew
  replace hw : LW D T a g2 am sx2 sm lm s H' locs' := ⟨hw1, hwm, hdis⟩
  clear hw1 hwm hdis hfr hnew
  replace hl : lv_has ls 4 [(0, .ref b), (1, .ref (adr a g2 0)), (2, .ref (am 0)), (3, .int x3)] := hl
  refine W.widen (k := 80 + 3 * cn + 3) (n := 115267 + 12288 * cn + 12288) (by omega) (by omega) ?_
  refine lv_pop2_2 hx hb dL_law_614 rfl ?_
  refine lv_aload_n hx hb dL_law_615 rfl (lv_at hl 2 rfl) ?_
  refine lv_aload_n hx hb dL_law_616 rfl (lv_at hl 0 rfl) ?_
  refine lv_iload_n hx hb dL_law_617 rfl (lv_at hl 3 rfl) ?_
  refine lv_iconst (v := (1 : Int32)) hx hb dL_law_618 (by decide) ?_
  refine lv_iadd hx hb dL_law_619 ?_
  refine va_sld hx hb hX hbl hbA hw.1.2.2 (hix 1 (by decide)) dL_law_620 ?_
  refine lv_aload_n hx hb dL_law_621 rfl (lv_at hl 0 rfl) ?_
  refine lv_iload_n hx hb dL_law_622 rfl (lv_at hl 3 rfl) ?_
  refine lv_iconst (v := (2 : Int32)) hx hb dL_law_623 (by decide) ?_
  refine lv_iadd hx hb dL_law_624 ?_
  refine va_sld hx hb hX hbl hbA hw.1.2.2 (hix 2 (by decide)) dL_law_625 ?_
  refine r_cVlF (As := [.int (xs (x3 + 1).toNatClampNeg), .int (xs (x3 + 2).toNatClampNeg)]) (rest := []) CM hw.2.1 0 (by decide) (ci := 12) rfl rfl (mX12_sure l D T am H'.size (xs (x3 + 1).toNatClampNeg) (xs (x3 + 2).toNatClampNeg) sm lm hfm) (cwV 2 hts GV_X12_sure rfl rfl rfl (by decide +kernel) ⟨Nat.le_of_ble_eq_true rfl, Nat.le_of_ble_eq_true rfl⟩) rfl hl.1 rfl (Nat.le_of_ble_eq_true rfl) dL_law_626 ⟨by have q1 : room_1.cells = 600000 := rfl; omega, by have q2 : room_1.slots = 7302250 := rfl; omega⟩ (fun ad'' H2 locs2 hp hw1 hfr hnew => ?_)
  subst hp
  have hwx := hw.1.keep hw1.2.2 hfr (fun i j hi hj e => hw.2.2 j i hj hi e.symm)
  replace hw : LW D T a g2 am sx2 sm2 lm2 s H2 locs2 := ⟨hwx, hw1, hw.2.2⟩
  refine W.widen (k := 80 + 3 * (cn + 1)) (n := 115267 + 12288 * (cn + 1)) (by omega) (by omega) ?_
  refine lv_pop2_2 hx hb dL_law_629 rfl ?_
  refine lv_goto (tgt := 919) hx hb dL_law_630 (by decide) ?_
  exact hnext g2 sx2 sm2 lm2 _ _ hR hw hl
set_option maxHeartbeats 4000000 in
set_option maxRecDepth 100000 in
theorem law_c15 (CX : Cx p s m #[Value.ref b] meth c code 4 RL lw_tbl ret D vwCl (tysC T) (AL s) true nwL) (CM : Cx p s m #[Value.ref b] meth c code 4 RL lw_tbl ret D vwCl (tysM T) (AL s) false []) (hX : va_X b L xs s s.heap) (hbl : b < s.heap.size) {Q : State → Prop} {g : Nat → Nat} {sx sm : Sg} {lm : Lg} {H : Heap} {locs : List Loc} {ls : Array Slot} {cn : Nat} (hcn : cn ≤ 511) {x3 : Int32} (hix : ∀ k : Nat, k < 5 → vp_in (x3 + nI k) L) {R' : Sg → Sg → Lg → Prop} (hO : OpL false (fX11_why  sx) (fX12_why  sm lm) R') (hw : LW D T a g am sx sm lm s H locs) (hl : lv_has ls 4 [(0, .ref b), (1, .ref (adr a g 0)), (2, .ref (am 0)), (3, .int x3)])
    (hnext : ∀ (g' : Nat → Nat) (sx' sm' : Sg) (lm' : Lg) (H' : Heap) (locs' : List Loc), R' sx' sm' lm' → LW D T a g' am sx' sm' lm' s H' locs' → lv_has ls 4 [(0, .ref b), (1, .ref (adr a g' 0)), (2, .ref (am 0)), (3, .int x3)] → W p l e room_1 s m #[Value.ref b] below meth c H' locs' (80 + 3 * (cn + 1)) (115267 + 12288 * (cn + 1)) Q (F0 m 919 ls [])) : W p l e room_1 s m #[Value.ref b] below meth c H locs (80 + 3 * cn) (115267 + 12288 * cn) Q (F0 m 633 ls []) := by
  obtain ⟨r, r', sx2, sm2, lm2, hfx, hfm, heq, hR⟩ := hO
  obtain ⟨hx, hb, hml, hown, hts⟩ := CX.1
  have hbA : ¬ AL s b := Nat.not_le.mpr hbl
  refine lv_aload_n hx hb dL_law_633 rfl (lv_at hl 1 rfl) ?_
  refine r_cVlF (As := []) (rest := []) CX hw.1 0 (by decide) (ci := 11) rfl rfl (mX11_why l D T (adr a g) lg0 H.size  sx hfx) (cwV 0 hts GV_X11_why rfl rfl rfl (by decide +kernel) ⟨Nat.le_of_ble_eq_true rfl, Nat.le_of_ble_eq_true rfl⟩) rfl hl.1 rfl (Nat.le_of_ble_eq_true rfl) dL_law_634 ⟨by have q1 : room_1.cells = 600000 := rfl; omega, by have q2 : room_1.slots = 7302250 := rfl; omega⟩ (fun ad' H' locs' hp hw1 hfr hnew => ?_)
  subst hp
  have hwm := hw.2.1.keep hw1.2.2 hfr hw.2.2
  have hdis := dis_new hw.2.1 hw.2.2 hnew
  replace hw : LW D T a g am sx2 sm lm s H' locs' := ⟨hw1, hwm, hdis⟩
  clear hw1 hwm hdis hfr hnew
  replace hl : lv_has ls 4 [(0, .ref b), (1, .ref (adr a g 0)), (2, .ref (am 0)), (3, .int x3)] := hl
  refine W.widen (k := 80 + 3 * cn + 3) (n := 115267 + 12288 * cn + 12288) (by omega) (by omega) ?_
  refine lv_pop2_2 hx hb dL_law_637 rfl ?_
  refine lv_aload_n hx hb dL_law_638 rfl (lv_at hl 2 rfl) ?_
  refine r_cVlF (As := []) (rest := []) CM hw.2.1 0 (by decide) (ci := 12) rfl rfl (mX12_why l D T am H'.size  sm lm hfm) (cwV 0 hts GV_X12_why rfl rfl rfl (by decide +kernel) ⟨Nat.le_of_ble_eq_true rfl, Nat.le_of_ble_eq_true rfl⟩) rfl hl.1 rfl (Nat.le_of_ble_eq_true rfl) dL_law_639 ⟨by have q1 : room_1.cells = 600000 := rfl; omega, by have q2 : room_1.slots = 7302250 := rfl; omega⟩ (fun ad'' H2 locs2 hp hw1 hfr hnew => ?_)
  subst hp
  have hwx := hw.1.keep hw1.2.2 hfr (fun i j hi hj e => hw.2.2 j i hj hi e.symm)
  replace hw : LW D T a g am sx2 sm2 lm2 s H2 locs2 := ⟨hwx, hw1, hw.2.2⟩
  refine W.widen (k := 80 + 3 * (cn + 1)) (n := 115267 + 12288 * (cn + 1)) (by omega) (by omega) ?_
  refine lv_pop2_2 hx hb dL_law_642 rfl ?_
  refine lv_goto (tgt := 919) hx hb dL_law_643 (by decide) ?_
  exact hnext g sx2 sm2 lm2 _ _ hR hw hl
set_option maxHeartbeats 4000000 in
set_option maxRecDepth 100000 in
theorem law_c16 (CX : Cx p s m #[Value.ref b] meth c code 4 RL lw_tbl ret D vwCl (tysC T) (AL s) true nwL) (CM : Cx p s m #[Value.ref b] meth c code 4 RL lw_tbl ret D vwCl (tysM T) (AL s) false []) (hX : va_X b L xs s s.heap) (hbl : b < s.heap.size) {Q : State → Prop} {g : Nat → Nat} {sx sm : Sg} {lm : Lg} {H : Heap} {locs : List Loc} {ls : Array Slot} {cn : Nat} (hcn : cn ≤ 511) {x3 : Int32} (hix : ∀ k : Nat, k < 5 → vp_in (x3 + nI k) L) {R' : Sg → Sg → Lg → Prop} (hO : OpL false (fX11_begin  sx) (fX12_begin  sm lm) R') (hw : LW D T a g am sx sm lm s H locs) (hl : lv_has ls 4 [(0, .ref b), (1, .ref (adr a g 0)), (2, .ref (am 0)), (3, .int x3)])
    (hnext : ∀ (g' : Nat → Nat) (sx' sm' : Sg) (lm' : Lg) (H' : Heap) (locs' : List Loc), R' sx' sm' lm' → LW D T a g' am sx' sm' lm' s H' locs' → lv_has ls 4 [(0, .ref b), (1, .ref (adr a g' 0)), (2, .ref (am 0)), (3, .int x3)] → W p l e room_1 s m #[Value.ref b] below meth c H' locs' (80 + 3 * (cn + 1)) (115267 + 12288 * (cn + 1)) Q (F0 m 919 ls [])) : W p l e room_1 s m #[Value.ref b] below meth c H locs (80 + 3 * cn) (115267 + 12288 * cn) Q (F0 m 646 ls []) := by
  obtain ⟨r, r', sx2, sm2, lm2, hfx, hfm, heq, hR⟩ := hO
  obtain ⟨hx, hb, hml, hown, hts⟩ := CX.1
  have hbA : ¬ AL s b := Nat.not_le.mpr hbl
  refine lv_aload_n hx hb dL_law_646 rfl (lv_at hl 1 rfl) ?_
  refine r_cVlF (As := []) (rest := []) CX hw.1 0 (by decide) (ci := 11) rfl rfl (mX11_begin l D T (adr a g) lg0 H.size  sx hfx) (cwV 0 hts GV_X11_begin rfl rfl rfl (by decide +kernel) ⟨Nat.le_of_ble_eq_true rfl, Nat.le_of_ble_eq_true rfl⟩) rfl hl.1 rfl (Nat.le_of_ble_eq_true rfl) dL_law_647 ⟨by have q1 : room_1.cells = 600000 := rfl; omega, by have q2 : room_1.slots = 7302250 := rfl; omega⟩ (fun ad' H' locs' hp hw1 hfr hnew => ?_)
  subst hp
  have hwm := hw.2.1.keep hw1.2.2 hfr hw.2.2
  have hdis := dis_new hw.2.1 hw.2.2 hnew
  replace hw : LW D T a g am sx2 sm lm s H' locs' := ⟨hw1, hwm, hdis⟩
  clear hw1 hwm hdis hfr hnew
  replace hl : lv_has ls 4 [(0, .ref b), (1, .ref (adr a g 0)), (2, .ref (am 0)), (3, .int x3)] := hl
  refine W.widen (k := 80 + 3 * cn + 3) (n := 115267 + 12288 * cn + 12288) (by omega) (by omega) ?_
  refine lv_pop2_2 hx hb dL_law_650 rfl ?_
  refine lv_aload_n hx hb dL_law_651 rfl (lv_at hl 2 rfl) ?_
  refine r_cVlF (As := []) (rest := []) CM hw.2.1 0 (by decide) (ci := 12) rfl rfl (mX12_begin l D T am H'.size  sm lm hfm) (cwV 0 hts GV_X12_begin rfl rfl rfl (by decide +kernel) ⟨Nat.le_of_ble_eq_true rfl, Nat.le_of_ble_eq_true rfl⟩) rfl hl.1 rfl (Nat.le_of_ble_eq_true rfl) dL_law_652 ⟨by have q1 : room_1.cells = 600000 := rfl; omega, by have q2 : room_1.slots = 7302250 := rfl; omega⟩ (fun ad'' H2 locs2 hp hw1 hfr hnew => ?_)
  subst hp
  have hwx := hw.1.keep hw1.2.2 hfr (fun i j hi hj e => hw.2.2 j i hj hi e.symm)
  replace hw : LW D T a g am sx2 sm2 lm2 s H2 locs2 := ⟨hwx, hw1, hw.2.2⟩
  refine W.widen (k := 80 + 3 * (cn + 1)) (n := 115267 + 12288 * (cn + 1)) (by omega) (by omega) ?_
  refine lv_pop2_2 hx hb dL_law_655 rfl ?_
  refine lv_goto (tgt := 919) hx hb dL_law_656 (by decide) ?_
  exact hnext g sx2 sm2 lm2 _ _ hR hw hl
set_option maxHeartbeats 4000000 in
set_option maxRecDepth 100000 in
theorem law_c17 (CX : Cx p s m #[Value.ref b] meth c code 4 RL lw_tbl ret D vwCl (tysC T) (AL s) true nwL) (CM : Cx p s m #[Value.ref b] meth c code 4 RL lw_tbl ret D vwCl (tysM T) (AL s) false []) (hX : va_X b L xs s s.heap) (hbl : b < s.heap.size) {Q : State → Prop} {g : Nat → Nat} {sx sm : Sg} {lm : Lg} {H : Heap} {locs : List Loc} {ls : Array Slot} {cn : Nat} (hcn : cn ≤ 511) {x3 : Int32} (hix : ∀ k : Nat, k < 5 → vp_in (x3 + nI k) L) {R' : Sg → Sg → Lg → Prop} (hO : OpL false (fX11_stand (xs (x3 + 1).toNatClampNeg) sx) (fX12_stand (xs (x3 + 1).toNatClampNeg) sm lm) R') (hw : LW D T a g am sx sm lm s H locs) (hl : lv_has ls 4 [(0, .ref b), (1, .ref (adr a g 0)), (2, .ref (am 0)), (3, .int x3)])
    (hnext : ∀ (g' : Nat → Nat) (sx' sm' : Sg) (lm' : Lg) (H' : Heap) (locs' : List Loc), R' sx' sm' lm' → LW D T a g' am sx' sm' lm' s H' locs' → lv_has ls 4 [(0, .ref b), (1, .ref (adr a g' 0)), (2, .ref (am 0)), (3, .int x3)] → W p l e room_1 s m #[Value.ref b] below meth c H' locs' (80 + 3 * (cn + 1)) (115267 + 12288 * (cn + 1)) Q (F0 m 919 ls [])) : W p l e room_1 s m #[Value.ref b] below meth c H locs (80 + 3 * cn) (115267 + 12288 * cn) Q (F0 m 659 ls []) := by
  obtain ⟨r, r', sx2, sm2, lm2, hfx, hfm, heq, hR⟩ := hO
  obtain ⟨hx, hb, hml, hown, hts⟩ := CX.1
  have hbA : ¬ AL s b := Nat.not_le.mpr hbl
  refine lv_aload_n hx hb dL_law_659 rfl (lv_at hl 1 rfl) ?_
  refine lv_aload_n hx hb dL_law_660 rfl (lv_at hl 0 rfl) ?_
  refine lv_iload_n hx hb dL_law_661 rfl (lv_at hl 3 rfl) ?_
  refine lv_iconst (v := (1 : Int32)) hx hb dL_law_662 (by decide) ?_
  refine lv_iadd hx hb dL_law_663 ?_
  refine va_sld hx hb hX hbl hbA hw.1.2.2 (hix 1 (by decide)) dL_law_664 ?_
  refine r_cVlF (As := [.int (xs (x3 + 1).toNatClampNeg)]) (rest := []) CX hw.1 0 (by decide) (ci := 11) rfl rfl (mX11_stand l D T (adr a g) lg0 H.size (xs (x3 + 1).toNatClampNeg) sx hfx) (cwV 1 hts GV_X11_stand rfl rfl rfl (by decide +kernel) ⟨Nat.le_of_ble_eq_true rfl, Nat.le_of_ble_eq_true rfl⟩) rfl hl.1 rfl (Nat.le_of_ble_eq_true rfl) dL_law_665 ⟨by have q1 : room_1.cells = 600000 := rfl; omega, by have q2 : room_1.slots = 7302250 := rfl; omega⟩ (fun ad' H' locs' hp hw1 hfr hnew => ?_)
  subst hp
  have hwm := hw.2.1.keep hw1.2.2 hfr hw.2.2
  have hdis := dis_new hw.2.1 hw.2.2 hnew
  replace hw : LW D T a g am sx2 sm lm s H' locs' := ⟨hw1, hwm, hdis⟩
  clear hw1 hwm hdis hfr hnew
  replace hl : lv_has ls 4 [(0, .ref b), (1, .ref (adr a g 0)), (2, .ref (am 0)), (3, .int x3)] := hl
  refine W.widen (k := 80 + 3 * cn + 3) (n := 115267 + 12288 * cn + 12288) (by omega) (by omega) ?_
  refine lv_pop2_2 hx hb dL_law_668 rfl ?_
  refine lv_aload_n hx hb dL_law_669 rfl (lv_at hl 2 rfl) ?_
  refine lv_aload_n hx hb dL_law_670 rfl (lv_at hl 0 rfl) ?_
  refine lv_iload_n hx hb dL_law_671 rfl (lv_at hl 3 rfl) ?_
  refine lv_iconst (v := (1 : Int32)) hx hb dL_law_672 (by decide) ?_
  refine lv_iadd hx hb dL_law_673 ?_
  refine va_sld hx hb hX hbl hbA hw.1.2.2 (hix 1 (by decide)) dL_law_674 ?_
  refine r_cVlF (As := [.int (xs (x3 + 1).toNatClampNeg)]) (rest := []) CM hw.2.1 0 (by decide) (ci := 12) rfl rfl (mX12_stand l D T am H'.size (xs (x3 + 1).toNatClampNeg) sm lm hfm) (cwV 1 hts GV_X12_stand rfl rfl rfl (by decide +kernel) ⟨Nat.le_of_ble_eq_true rfl, Nat.le_of_ble_eq_true rfl⟩) rfl hl.1 rfl (Nat.le_of_ble_eq_true rfl) dL_law_675 ⟨by have q1 : room_1.cells = 600000 := rfl; omega, by have q2 : room_1.slots = 7302250 := rfl; omega⟩ (fun ad'' H2 locs2 hp hw1 hfr hnew => ?_)
  subst hp
  have hwx := hw.1.keep hw1.2.2 hfr (fun i j hi hj e => hw.2.2 j i hj hi e.symm)
  replace hw : LW D T a g am sx2 sm2 lm2 s H2 locs2 := ⟨hwx, hw1, hw.2.2⟩
  refine W.widen (k := 80 + 3 * (cn + 1)) (n := 115267 + 12288 * (cn + 1)) (by omega) (by omega) ?_
  refine lv_pop2_2 hx hb dL_law_678 rfl ?_
  refine lv_goto (tgt := 919) hx hb dL_law_679 (by decide) ?_
  exact hnext g sx2 sm2 lm2 _ _ hR hw hl
set_option maxHeartbeats 4000000 in
set_option maxRecDepth 100000 in
theorem law_c18 (CX : Cx p s m #[Value.ref b] meth c code 4 RL lw_tbl ret D vwCl (tysC T) (AL s) true nwL) (CM : Cx p s m #[Value.ref b] meth c code 4 RL lw_tbl ret D vwCl (tysM T) (AL s) false []) (hX : va_X b L xs s s.heap) (hbl : b < s.heap.size) {Q : State → Prop} {g : Nat → Nat} {sx sm : Sg} {lm : Lg} {H : Heap} {locs : List Loc} {ls : Array Slot} {cn : Nat} (hcn : cn ≤ 511) {x3 : Int32} (hix : ∀ k : Nat, k < 5 → vp_in (x3 + nI k) L) {R' : Sg → Sg → Lg → Prop} (hO : OpL false (fX11_order (xs (x3 + 1).toNatClampNeg) sx) (fX12_order (xs (x3 + 1).toNatClampNeg) sm lm) R') (hw : LW D T a g am sx sm lm s H locs) (hl : lv_has ls 4 [(0, .ref b), (1, .ref (adr a g 0)), (2, .ref (am 0)), (3, .int x3)])
    (hnext : ∀ (g' : Nat → Nat) (sx' sm' : Sg) (lm' : Lg) (H' : Heap) (locs' : List Loc), R' sx' sm' lm' → LW D T a g' am sx' sm' lm' s H' locs' → lv_has ls 4 [(0, .ref b), (1, .ref (adr a g' 0)), (2, .ref (am 0)), (3, .int x3)] → W p l e room_1 s m #[Value.ref b] below meth c H' locs' (80 + 3 * (cn + 1)) (115267 + 12288 * (cn + 1)) Q (F0 m 919 ls [])) : W p l e room_1 s m #[Value.ref b] below meth c H locs (80 + 3 * cn) (115267 + 12288 * cn) Q (F0 m 682 ls []) := by
  obtain ⟨r, r', sx2, sm2, lm2, hfx, hfm, heq, hR⟩ := hO
  obtain ⟨hx, hb, hml, hown, hts⟩ := CX.1
  have hbA : ¬ AL s b := Nat.not_le.mpr hbl
  refine lv_aload_n hx hb dL_law_682 rfl (lv_at hl 1 rfl) ?_
  refine lv_aload_n hx hb dL_law_683 rfl (lv_at hl 0 rfl) ?_
  refine lv_iload_n hx hb dL_law_684 rfl (lv_at hl 3 rfl) ?_
  refine lv_iconst (v := (1 : Int32)) hx hb dL_law_685 (by decide) ?_
  refine lv_iadd hx hb dL_law_686 ?_
  refine va_sld hx hb hX hbl hbA hw.1.2.2 (hix 1 (by decide)) dL_law_687 ?_
  refine r_cVlF (As := [.int (xs (x3 + 1).toNatClampNeg)]) (rest := []) CX hw.1 0 (by decide) (ci := 11) rfl rfl (mX11_order l D T (adr a g) lg0 H.size (xs (x3 + 1).toNatClampNeg) sx hfx) (cwV 1 hts GV_X11_order rfl rfl rfl (by decide +kernel) ⟨Nat.le_of_ble_eq_true rfl, Nat.le_of_ble_eq_true rfl⟩) rfl hl.1 rfl (Nat.le_of_ble_eq_true rfl) dL_law_688 ⟨by have q1 : room_1.cells = 600000 := rfl; omega, by have q2 : room_1.slots = 7302250 := rfl; omega⟩ (fun ad' H' locs' hp hw1 hfr hnew => ?_)
  subst hp
  have hwm := hw.2.1.keep hw1.2.2 hfr hw.2.2
  have hdis := dis_new hw.2.1 hw.2.2 hnew
  replace hw : LW D T a g am sx2 sm lm s H' locs' := ⟨hw1, hwm, hdis⟩
  clear hw1 hwm hdis hfr hnew
  replace hl : lv_has ls 4 [(0, .ref b), (1, .ref (adr a g 0)), (2, .ref (am 0)), (3, .int x3)] := hl
  refine W.widen (k := 80 + 3 * cn + 3) (n := 115267 + 12288 * cn + 12288) (by omega) (by omega) ?_
  refine lv_pop2_2 hx hb dL_law_691 rfl ?_
  refine lv_aload_n hx hb dL_law_692 rfl (lv_at hl 2 rfl) ?_
  refine lv_aload_n hx hb dL_law_693 rfl (lv_at hl 0 rfl) ?_
  refine lv_iload_n hx hb dL_law_694 rfl (lv_at hl 3 rfl) ?_
  refine lv_iconst (v := (1 : Int32)) hx hb dL_law_695 (by decide) ?_
  refine lv_iadd hx hb dL_law_696 ?_
  refine va_sld hx hb hX hbl hbA hw.1.2.2 (hix 1 (by decide)) dL_law_697 ?_
  refine r_cVlF (As := [.int (xs (x3 + 1).toNatClampNeg)]) (rest := []) CM hw.2.1 0 (by decide) (ci := 12) rfl rfl (mX12_order l D T am H'.size (xs (x3 + 1).toNatClampNeg) sm lm hfm) (cwV 1 hts GV_X12_order rfl rfl rfl (by decide +kernel) ⟨Nat.le_of_ble_eq_true rfl, Nat.le_of_ble_eq_true rfl⟩) rfl hl.1 rfl (Nat.le_of_ble_eq_true rfl) dL_law_698 ⟨by have q1 : room_1.cells = 600000 := rfl; omega, by have q2 : room_1.slots = 7302250 := rfl; omega⟩ (fun ad'' H2 locs2 hp hw1 hfr hnew => ?_)
  subst hp
  have hwx := hw.1.keep hw1.2.2 hfr (fun i j hi hj e => hw.2.2 j i hj hi e.symm)
  replace hw : LW D T a g am sx2 sm2 lm2 s H2 locs2 := ⟨hwx, hw1, hw.2.2⟩
  refine W.widen (k := 80 + 3 * (cn + 1)) (n := 115267 + 12288 * (cn + 1)) (by omega) (by omega) ?_
  refine lv_pop2_2 hx hb dL_law_701 rfl ?_
  refine lv_goto (tgt := 919) hx hb dL_law_702 (by decide) ?_
  exact hnext g sx2 sm2 lm2 _ _ hR hw hl
set_option maxHeartbeats 4000000 in
set_option maxRecDepth 100000 in
theorem law_c19 (CX : Cx p s m #[Value.ref b] meth c code 4 RL lw_tbl ret D vwCl (tysC T) (AL s) true nwL) (CM : Cx p s m #[Value.ref b] meth c code 4 RL lw_tbl ret D vwCl (tysM T) (AL s) false []) (hX : va_X b L xs s s.heap) (hbl : b < s.heap.size) {Q : State → Prop} {g : Nat → Nat} {sx sm : Sg} {lm : Lg} {H : Heap} {locs : List Loc} {ls : Array Slot} {cn : Nat} (hcn : cn ≤ 511) {x3 : Int32} (hix : ∀ k : Nat, k < 5 → vp_in (x3 + nI k) L) {R' : Sg → Sg → Lg → Prop} (hO : OpL false (fX11_move (xs (x3 + 1).toNatClampNeg) (xs (x3 + 2).toNatClampNeg) sx) (fX12_move (xs (x3 + 1).toNatClampNeg) (xs (x3 + 2).toNatClampNeg) sm lm) R') (hw : LW D T a g am sx sm lm s H locs) (hl : lv_has ls 4 [(0, .ref b), (1, .ref (adr a g 0)), (2, .ref (am 0)), (3, .int x3)])
    (hnext : ∀ (g' : Nat → Nat) (sx' sm' : Sg) (lm' : Lg) (H' : Heap) (locs' : List Loc), R' sx' sm' lm' → LW D T a g' am sx' sm' lm' s H' locs' → lv_has ls 4 [(0, .ref b), (1, .ref (adr a g' 0)), (2, .ref (am 0)), (3, .int x3)] → W p l e room_1 s m #[Value.ref b] below meth c H' locs' (80 + 3 * (cn + 1)) (115267 + 12288 * (cn + 1)) Q (F0 m 919 ls [])) : W p l e room_1 s m #[Value.ref b] below meth c H locs (80 + 3 * cn) (115267 + 12288 * cn) Q (F0 m 705 ls []) := by
  obtain ⟨r, r', sx2, sm2, lm2, hfx, hfm, heq, hR⟩ := hO
  obtain ⟨hx, hb, hml, hown, hts⟩ := CX.1
  have hbA : ¬ AL s b := Nat.not_le.mpr hbl
  refine lv_aload_n hx hb dL_law_705 rfl (lv_at hl 1 rfl) ?_
  refine lv_aload_n hx hb dL_law_706 rfl (lv_at hl 0 rfl) ?_
  refine lv_iload_n hx hb dL_law_707 rfl (lv_at hl 3 rfl) ?_
  refine lv_iconst (v := (1 : Int32)) hx hb dL_law_708 (by decide) ?_
  refine lv_iadd hx hb dL_law_709 ?_
  refine va_sld hx hb hX hbl hbA hw.1.2.2 (hix 1 (by decide)) dL_law_710 ?_
  refine lv_aload_n hx hb dL_law_711 rfl (lv_at hl 0 rfl) ?_
  refine lv_iload_n hx hb dL_law_712 rfl (lv_at hl 3 rfl) ?_
  refine lv_iconst (v := (2 : Int32)) hx hb dL_law_713 (by decide) ?_
  refine lv_iadd hx hb dL_law_714 ?_
  refine va_sld hx hb hX hbl hbA hw.1.2.2 (hix 2 (by decide)) dL_law_715 ?_
  refine r_cVlF (As := [.int (xs (x3 + 1).toNatClampNeg), .int (xs (x3 + 2).toNatClampNeg)]) (rest := []) CX hw.1 0 (by decide) (ci := 11) rfl rfl (mX11_move l D T (adr a g) lg0 H.size (xs (x3 + 1).toNatClampNeg) (xs (x3 + 2).toNatClampNeg) sx hfx) (cwV 2 hts GV_X11_move rfl rfl rfl (by decide +kernel) ⟨Nat.le_of_ble_eq_true rfl, Nat.le_of_ble_eq_true rfl⟩) rfl hl.1 rfl (Nat.le_of_ble_eq_true rfl) dL_law_716 ⟨by have q1 : room_1.cells = 600000 := rfl; omega, by have q2 : room_1.slots = 7302250 := rfl; omega⟩ (fun ad' H' locs' hp hw1 hfr hnew => ?_)
  subst hp
  have hwm := hw.2.1.keep hw1.2.2 hfr hw.2.2
  have hdis := dis_new hw.2.1 hw.2.2 hnew
  replace hw : LW D T a g am sx2 sm lm s H' locs' := ⟨hw1, hwm, hdis⟩
  clear hw1 hwm hdis hfr hnew
  replace hl : lv_has ls 4 [(0, .ref b), (1, .ref (adr a g 0)), (2, .ref (am 0)), (3, .int x3)] := hl
  refine W.widen (k := 80 + 3 * cn + 3) (n := 115267 + 12288 * cn + 12288) (by omega) (by omega) ?_
  refine lv_pop2_2 hx hb dL_law_719 rfl ?_
  refine lv_aload_n hx hb dL_law_720 rfl (lv_at hl 2 rfl) ?_
  refine lv_aload_n hx hb dL_law_721 rfl (lv_at hl 0 rfl) ?_
  refine lv_iload_n hx hb dL_law_722 rfl (lv_at hl 3 rfl) ?_
  refine lv_iconst (v := (1 : Int32)) hx hb dL_law_723 (by decide) ?_
  refine lv_iadd hx hb dL_law_724 ?_
  refine va_sld hx hb hX hbl hbA hw.1.2.2 (hix 1 (by decide)) dL_law_725 ?_
  refine lv_aload_n hx hb dL_law_726 rfl (lv_at hl 0 rfl) ?_
  refine lv_iload_n hx hb dL_law_727 rfl (lv_at hl 3 rfl) ?_
  refine lv_iconst (v := (2 : Int32)) hx hb dL_law_728 (by decide) ?_
  refine lv_iadd hx hb dL_law_729 ?_
  refine va_sld hx hb hX hbl hbA hw.1.2.2 (hix 2 (by decide)) dL_law_730 ?_
  refine r_cVlF (As := [.int (xs (x3 + 1).toNatClampNeg), .int (xs (x3 + 2).toNatClampNeg)]) (rest := []) CM hw.2.1 0 (by decide) (ci := 12) rfl rfl (mX12_move l D T am H'.size (xs (x3 + 1).toNatClampNeg) (xs (x3 + 2).toNatClampNeg) sm lm hfm) (cwV 2 hts GV_X12_move rfl rfl rfl (by decide +kernel) ⟨Nat.le_of_ble_eq_true rfl, Nat.le_of_ble_eq_true rfl⟩) rfl hl.1 rfl (Nat.le_of_ble_eq_true rfl) dL_law_731 ⟨by have q1 : room_1.cells = 600000 := rfl; omega, by have q2 : room_1.slots = 7302250 := rfl; omega⟩ (fun ad'' H2 locs2 hp hw1 hfr hnew => ?_)
  subst hp
  have hwx := hw.1.keep hw1.2.2 hfr (fun i j hi hj e => hw.2.2 j i hj hi e.symm)
  replace hw : LW D T a g am sx2 sm2 lm2 s H2 locs2 := ⟨hwx, hw1, hw.2.2⟩
  refine W.widen (k := 80 + 3 * (cn + 1)) (n := 115267 + 12288 * (cn + 1)) (by omega) (by omega) ?_
  refine lv_pop2_2 hx hb dL_law_734 rfl ?_
  refine lv_goto (tgt := 919) hx hb dL_law_735 (by decide) ?_
  exact hnext g sx2 sm2 lm2 _ _ hR hw hl
set_option maxHeartbeats 4000000 in
set_option maxRecDepth 100000 in
theorem law_c20 (CX : Cx p s m #[Value.ref b] meth c code 4 RL lw_tbl ret D vwCl (tysC T) (AL s) true nwL) (CM : Cx p s m #[Value.ref b] meth c code 4 RL lw_tbl ret D vwCl (tysM T) (AL s) false []) (hX : va_X b L xs s s.heap) (hbl : b < s.heap.size) {Q : State → Prop} {g : Nat → Nat} {sx sm : Sg} {lm : Lg} {H : Heap} {locs : List Loc} {ls : Array Slot} {cn : Nat} (hcn : cn ≤ 511) {x3 : Int32} (hix : ∀ k : Nat, k < 5 → vp_in (x3 + nI k) L) {R' : Sg → Sg → Lg → Prop} (hO : OpL false (fX11_weight  sx) (fX12_weight  sm lm) R') (hw : LW D T a g am sx sm lm s H locs) (hl : lv_has ls 4 [(0, .ref b), (1, .ref (adr a g 0)), (2, .ref (am 0)), (3, .int x3)])
    (hnext : ∀ (g' : Nat → Nat) (sx' sm' : Sg) (lm' : Lg) (H' : Heap) (locs' : List Loc), R' sx' sm' lm' → LW D T a g' am sx' sm' lm' s H' locs' → lv_has ls 4 [(0, .ref b), (1, .ref (adr a g' 0)), (2, .ref (am 0)), (3, .int x3)] → W p l e room_1 s m #[Value.ref b] below meth c H' locs' (80 + 3 * (cn + 1)) (115267 + 12288 * (cn + 1)) Q (F0 m 919 ls [])) : W p l e room_1 s m #[Value.ref b] below meth c H locs (80 + 3 * cn) (115267 + 12288 * cn) Q (F0 m 738 ls []) := by
  obtain ⟨r, r', sx2, sm2, lm2, hfx, hfm, heq, hR⟩ := hO
  obtain ⟨hx, hb, hml, hown, hts⟩ := CX.1
  have hbA : ¬ AL s b := Nat.not_le.mpr hbl
  refine lv_aload_n hx hb dL_law_738 rfl (lv_at hl 1 rfl) ?_
  refine r_cVlF (As := []) (rest := []) CX hw.1 0 (by decide) (ci := 11) rfl rfl (mX11_weight l D T (adr a g) lg0 H.size  sx hfx) (cwV 0 hts GV_X11_weight rfl rfl rfl (by decide +kernel) ⟨Nat.le_of_ble_eq_true rfl, Nat.le_of_ble_eq_true rfl⟩) rfl hl.1 rfl (Nat.le_of_ble_eq_true rfl) dL_law_739 ⟨by have q1 : room_1.cells = 600000 := rfl; omega, by have q2 : room_1.slots = 7302250 := rfl; omega⟩ (fun ad' H' locs' hp hw1 hfr hnew => ?_)
  subst hp
  have hwm := hw.2.1.keep hw1.2.2 hfr hw.2.2
  have hdis := dis_new hw.2.1 hw.2.2 hnew
  replace hw : LW D T a g am sx2 sm lm s H' locs' := ⟨hw1, hwm, hdis⟩
  clear hw1 hwm hdis hfr hnew
  replace hl : lv_has ls 4 [(0, .ref b), (1, .ref (adr a g 0)), (2, .ref (am 0)), (3, .int x3)] := hl
  refine W.widen (k := 80 + 3 * cn + 3) (n := 115267 + 12288 * cn + 12288) (by omega) (by omega) ?_
  refine lv_pop2_2 hx hb dL_law_742 rfl ?_
  refine lv_aload_n hx hb dL_law_743 rfl (lv_at hl 2 rfl) ?_
  refine r_cVlF (As := []) (rest := []) CM hw.2.1 0 (by decide) (ci := 12) rfl rfl (mX12_weight l D T am H'.size  sm lm hfm) (cwV 0 hts GV_X12_weight rfl rfl rfl (by decide +kernel) ⟨Nat.le_of_ble_eq_true rfl, Nat.le_of_ble_eq_true rfl⟩) rfl hl.1 rfl (Nat.le_of_ble_eq_true rfl) dL_law_744 ⟨by have q1 : room_1.cells = 600000 := rfl; omega, by have q2 : room_1.slots = 7302250 := rfl; omega⟩ (fun ad'' H2 locs2 hp hw1 hfr hnew => ?_)
  subst hp
  have hwx := hw.1.keep hw1.2.2 hfr (fun i j hi hj e => hw.2.2 j i hj hi e.symm)
  replace hw : LW D T a g am sx2 sm2 lm2 s H2 locs2 := ⟨hwx, hw1, hw.2.2⟩
  refine W.widen (k := 80 + 3 * (cn + 1)) (n := 115267 + 12288 * (cn + 1)) (by omega) (by omega) ?_
  refine lv_pop2_2 hx hb dL_law_747 rfl ?_
  refine lv_goto (tgt := 919) hx hb dL_law_748 (by decide) ?_
  exact hnext g sx2 sm2 lm2 _ _ hR hw hl
set_option maxHeartbeats 4000000 in
set_option maxRecDepth 100000 in
theorem law_c21 (CX : Cx p s m #[Value.ref b] meth c code 4 RL lw_tbl ret D vwCl (tysC T) (AL s) true nwL) (CM : Cx p s m #[Value.ref b] meth c code 4 RL lw_tbl ret D vwCl (tysM T) (AL s) false []) (hX : va_X b L xs s s.heap) (hbl : b < s.heap.size) {Q : State → Prop} {g : Nat → Nat} {sx sm : Sg} {lm : Lg} {H : Heap} {locs : List Loc} {ls : Array Slot} {cn : Nat} (hcn : cn ≤ 511) {x3 : Int32} (hix : ∀ k : Nat, k < 5 → vp_in (x3 + nI k) L) {R' : Sg → Sg → Lg → Prop} (hO : OpL false (fX11_fault  sx) (fX12_fault  sm lm) R') (hw : LW D T a g am sx sm lm s H locs) (hl : lv_has ls 4 [(0, .ref b), (1, .ref (adr a g 0)), (2, .ref (am 0)), (3, .int x3)])
    (hnext : ∀ (g' : Nat → Nat) (sx' sm' : Sg) (lm' : Lg) (H' : Heap) (locs' : List Loc), R' sx' sm' lm' → LW D T a g' am sx' sm' lm' s H' locs' → lv_has ls 4 [(0, .ref b), (1, .ref (adr a g' 0)), (2, .ref (am 0)), (3, .int x3)] → W p l e room_1 s m #[Value.ref b] below meth c H' locs' (80 + 3 * (cn + 1)) (115267 + 12288 * (cn + 1)) Q (F0 m 919 ls [])) : W p l e room_1 s m #[Value.ref b] below meth c H locs (80 + 3 * cn) (115267 + 12288 * cn) Q (F0 m 751 ls []) := by
  obtain ⟨r, r', sx2, sm2, lm2, hfx, hfm, heq, hR⟩ := hO
  obtain ⟨hx, hb, hml, hown, hts⟩ := CX.1
  have hbA : ¬ AL s b := Nat.not_le.mpr hbl
  refine lv_aload_n hx hb dL_law_751 rfl (lv_at hl 1 rfl) ?_
  refine r_cVlF (As := []) (rest := []) CX hw.1 0 (by decide) (ci := 11) rfl rfl (mX11_fault l D T (adr a g) lg0 H.size  sx hfx) (cwV 0 hts GV_X11_fault rfl rfl rfl (by decide +kernel) ⟨Nat.le_of_ble_eq_true rfl, Nat.le_of_ble_eq_true rfl⟩) rfl hl.1 rfl (Nat.le_of_ble_eq_true rfl) dL_law_752 ⟨by have q1 : room_1.cells = 600000 := rfl; omega, by have q2 : room_1.slots = 7302250 := rfl; omega⟩ (fun ad' H' locs' hp hw1 hfr hnew => ?_)
  subst hp
  have hwm := hw.2.1.keep hw1.2.2 hfr hw.2.2
  have hdis := dis_new hw.2.1 hw.2.2 hnew
  replace hw : LW D T a g am sx2 sm lm s H' locs' := ⟨hw1, hwm, hdis⟩
  clear hw1 hwm hdis hfr hnew
  replace hl : lv_has ls 4 [(0, .ref b), (1, .ref (adr a g 0)), (2, .ref (am 0)), (3, .int x3)] := hl
  refine W.widen (k := 80 + 3 * cn + 3) (n := 115267 + 12288 * cn + 12288) (by omega) (by omega) ?_
  refine lv_pop2_2 hx hb dL_law_755 rfl ?_
  refine lv_aload_n hx hb dL_law_756 rfl (lv_at hl 2 rfl) ?_
  refine r_cVlF (As := []) (rest := []) CM hw.2.1 0 (by decide) (ci := 12) rfl rfl (mX12_fault l D T am H'.size  sm lm hfm) (cwV 0 hts GV_X12_fault rfl rfl rfl (by decide +kernel) ⟨Nat.le_of_ble_eq_true rfl, Nat.le_of_ble_eq_true rfl⟩) rfl hl.1 rfl (Nat.le_of_ble_eq_true rfl) dL_law_757 ⟨by have q1 : room_1.cells = 600000 := rfl; omega, by have q2 : room_1.slots = 7302250 := rfl; omega⟩ (fun ad'' H2 locs2 hp hw1 hfr hnew => ?_)
  subst hp
  have hwx := hw.1.keep hw1.2.2 hfr (fun i j hi hj e => hw.2.2 j i hj hi e.symm)
  replace hw : LW D T a g am sx2 sm2 lm2 s H2 locs2 := ⟨hwx, hw1, hw.2.2⟩
  refine W.widen (k := 80 + 3 * (cn + 1)) (n := 115267 + 12288 * (cn + 1)) (by omega) (by omega) ?_
  refine lv_pop2_2 hx hb dL_law_760 rfl ?_
  refine lv_goto (tgt := 919) hx hb dL_law_761 (by decide) ?_
  exact hnext g sx2 sm2 lm2 _ _ hR hw hl
set_option maxHeartbeats 4000000 in
set_option maxRecDepth 100000 in
theorem law_c22 (CX : Cx p s m #[Value.ref b] meth c code 4 RL lw_tbl ret D vwCl (tysC T) (AL s) true nwL) (CM : Cx p s m #[Value.ref b] meth c code 4 RL lw_tbl ret D vwCl (tysM T) (AL s) false []) (hX : va_X b L xs s s.heap) (hbl : b < s.heap.size) {Q : State → Prop} {g : Nat → Nat} {sx sm : Sg} {lm : Lg} {H : Heap} {locs : List Loc} {ls : Array Slot} {cn : Nat} (hcn : cn ≤ 511) {x3 : Int32} (hix : ∀ k : Nat, k < 5 → vp_in (x3 + nI k) L) {R' : Sg → Sg → Lg → Prop} (hO : OpL false (fX11_better (xs (x3 + 1).toNatClampNeg) sx) (fX12_better (xs (x3 + 1).toNatClampNeg) sm lm) R') (hw : LW D T a g am sx sm lm s H locs) (hl : lv_has ls 4 [(0, .ref b), (1, .ref (adr a g 0)), (2, .ref (am 0)), (3, .int x3)])
    (hnext : ∀ (g' : Nat → Nat) (sx' sm' : Sg) (lm' : Lg) (H' : Heap) (locs' : List Loc), R' sx' sm' lm' → LW D T a g' am sx' sm' lm' s H' locs' → lv_has ls 4 [(0, .ref b), (1, .ref (adr a g' 0)), (2, .ref (am 0)), (3, .int x3)] → W p l e room_1 s m #[Value.ref b] below meth c H' locs' (80 + 3 * (cn + 1)) (115267 + 12288 * (cn + 1)) Q (F0 m 919 ls [])) : W p l e room_1 s m #[Value.ref b] below meth c H locs (80 + 3 * cn) (115267 + 12288 * cn) Q (F0 m 764 ls []) := by
  obtain ⟨r, r', sx2, sm2, lm2, hfx, hfm, heq, hR⟩ := hO
  obtain ⟨hx, hb, hml, hown, hts⟩ := CX.1
  have hbA : ¬ AL s b := Nat.not_le.mpr hbl
  refine lv_aload_n hx hb dL_law_764 rfl (lv_at hl 1 rfl) ?_
  refine lv_aload_n hx hb dL_law_765 rfl (lv_at hl 0 rfl) ?_
  refine lv_iload_n hx hb dL_law_766 rfl (lv_at hl 3 rfl) ?_
  refine lv_iconst (v := (1 : Int32)) hx hb dL_law_767 (by decide) ?_
  refine lv_iadd hx hb dL_law_768 ?_
  refine va_sld hx hb hX hbl hbA hw.1.2.2 (hix 1 (by decide)) dL_law_769 ?_
  refine r_cVlF (As := [.int (xs (x3 + 1).toNatClampNeg)]) (rest := []) CX hw.1 0 (by decide) (ci := 11) rfl rfl (mX11_better l D T (adr a g) lg0 H.size (xs (x3 + 1).toNatClampNeg) sx hfx) (cwV 1 hts GV_X11_better rfl rfl rfl (by decide +kernel) ⟨Nat.le_of_ble_eq_true rfl, Nat.le_of_ble_eq_true rfl⟩) rfl hl.1 rfl (Nat.le_of_ble_eq_true rfl) dL_law_770 ⟨by have q1 : room_1.cells = 600000 := rfl; omega, by have q2 : room_1.slots = 7302250 := rfl; omega⟩ (fun ad' H' locs' hp hw1 hfr hnew => ?_)
  subst hp
  have hwm := hw.2.1.keep hw1.2.2 hfr hw.2.2
  have hdis := dis_new hw.2.1 hw.2.2 hnew
  replace hw : LW D T a g am sx2 sm lm s H' locs' := ⟨hw1, hwm, hdis⟩
  clear hw1 hwm hdis hfr hnew
  replace hl : lv_has ls 4 [(0, .ref b), (1, .ref (adr a g 0)), (2, .ref (am 0)), (3, .int x3)] := hl
  refine W.widen (k := 80 + 3 * cn + 3) (n := 115267 + 12288 * cn + 12288) (by omega) (by omega) ?_
  refine lv_pop2_2 hx hb dL_law_773 rfl ?_
  refine lv_aload_n hx hb dL_law_774 rfl (lv_at hl 2 rfl) ?_
  refine lv_aload_n hx hb dL_law_775 rfl (lv_at hl 0 rfl) ?_
  refine lv_iload_n hx hb dL_law_776 rfl (lv_at hl 3 rfl) ?_
  refine lv_iconst (v := (1 : Int32)) hx hb dL_law_777 (by decide) ?_
  refine lv_iadd hx hb dL_law_778 ?_
  refine va_sld hx hb hX hbl hbA hw.1.2.2 (hix 1 (by decide)) dL_law_779 ?_
  refine r_cVlF (As := [.int (xs (x3 + 1).toNatClampNeg)]) (rest := []) CM hw.2.1 0 (by decide) (ci := 12) rfl rfl (mX12_better l D T am H'.size (xs (x3 + 1).toNatClampNeg) sm lm hfm) (cwV 1 hts GV_X12_better rfl rfl rfl (by decide +kernel) ⟨Nat.le_of_ble_eq_true rfl, Nat.le_of_ble_eq_true rfl⟩) rfl hl.1 rfl (Nat.le_of_ble_eq_true rfl) dL_law_780 ⟨by have q1 : room_1.cells = 600000 := rfl; omega, by have q2 : room_1.slots = 7302250 := rfl; omega⟩ (fun ad'' H2 locs2 hp hw1 hfr hnew => ?_)
  subst hp
  have hwx := hw.1.keep hw1.2.2 hfr (fun i j hi hj e => hw.2.2 j i hj hi e.symm)
  replace hw : LW D T a g am sx2 sm2 lm2 s H2 locs2 := ⟨hwx, hw1, hw.2.2⟩
  refine W.widen (k := 80 + 3 * (cn + 1)) (n := 115267 + 12288 * (cn + 1)) (by omega) (by omega) ?_
  refine lv_pop2_2 hx hb dL_law_783 rfl ?_
  refine lv_goto (tgt := 919) hx hb dL_law_784 (by decide) ?_
  exact hnext g sx2 sm2 lm2 _ _ hR hw hl
set_option maxHeartbeats 4000000 in
set_option maxRecDepth 100000 in
theorem law_c23 (CX : Cx p s m #[Value.ref b] meth c code 4 RL lw_tbl ret D vwCl (tysC T) (AL s) true nwL) (CM : Cx p s m #[Value.ref b] meth c code 4 RL lw_tbl ret D vwCl (tysM T) (AL s) false []) (hX : va_X b L xs s s.heap) (hbl : b < s.heap.size) {Q : State → Prop} {g : Nat → Nat} {sx sm : Sg} {lm : Lg} {H : Heap} {locs : List Loc} {ls : Array Slot} {cn : Nat} (hcn : cn ≤ 511) {x3 : Int32} (hix : ∀ k : Nat, k < 5 → vp_in (x3 + nI k) L) {R' : Sg → Sg → Lg → Prop} (hO : OpL false (fX11_turn  sx) (fX12_turn  sm lm) R') (hw : LW D T a g am sx sm lm s H locs) (hl : lv_has ls 4 [(0, .ref b), (1, .ref (adr a g 0)), (2, .ref (am 0)), (3, .int x3)])
    (hnext : ∀ (g' : Nat → Nat) (sx' sm' : Sg) (lm' : Lg) (H' : Heap) (locs' : List Loc), R' sx' sm' lm' → LW D T a g' am sx' sm' lm' s H' locs' → lv_has ls 4 [(0, .ref b), (1, .ref (adr a g' 0)), (2, .ref (am 0)), (3, .int x3)] → W p l e room_1 s m #[Value.ref b] below meth c H' locs' (80 + 3 * (cn + 1)) (115267 + 12288 * (cn + 1)) Q (F0 m 919 ls [])) : W p l e room_1 s m #[Value.ref b] below meth c H locs (80 + 3 * cn) (115267 + 12288 * cn) Q (F0 m 787 ls []) := by
  obtain ⟨r, r', sx2, sm2, lm2, hfx, hfm, heq, hR⟩ := hO
  obtain ⟨hx, hb, hml, hown, hts⟩ := CX.1
  have hbA : ¬ AL s b := Nat.not_le.mpr hbl
  refine lv_aload_n hx hb dL_law_787 rfl (lv_at hl 1 rfl) ?_
  refine r_cVlF (As := []) (rest := []) CX hw.1 0 (by decide) (ci := 11) rfl rfl (mX11_turn l D T (adr a g) lg0 H.size  sx hfx) (cwV 0 hts GV_X11_turn rfl rfl rfl (by decide +kernel) ⟨Nat.le_of_ble_eq_true rfl, Nat.le_of_ble_eq_true rfl⟩) rfl hl.1 rfl (Nat.le_of_ble_eq_true rfl) dL_law_788 ⟨by have q1 : room_1.cells = 600000 := rfl; omega, by have q2 : room_1.slots = 7302250 := rfl; omega⟩ (fun ad' H' locs' hp hw1 hfr hnew => ?_)
  subst hp
  have hwm := hw.2.1.keep hw1.2.2 hfr hw.2.2
  have hdis := dis_new hw.2.1 hw.2.2 hnew
  replace hw : LW D T a g am sx2 sm lm s H' locs' := ⟨hw1, hwm, hdis⟩
  clear hw1 hwm hdis hfr hnew
  replace hl : lv_has ls 4 [(0, .ref b), (1, .ref (adr a g 0)), (2, .ref (am 0)), (3, .int x3)] := hl
  refine W.widen (k := 80 + 3 * cn + 3) (n := 115267 + 12288 * cn + 12288) (by omega) (by omega) ?_
  refine lv_pop2_2 hx hb dL_law_791 rfl ?_
  refine lv_aload_n hx hb dL_law_792 rfl (lv_at hl 2 rfl) ?_
  refine r_cVlF (As := []) (rest := []) CM hw.2.1 0 (by decide) (ci := 12) rfl rfl (mX12_turn l D T am H'.size  sm lm hfm) (cwV 0 hts GV_X12_turn rfl rfl rfl (by decide +kernel) ⟨Nat.le_of_ble_eq_true rfl, Nat.le_of_ble_eq_true rfl⟩) rfl hl.1 rfl (Nat.le_of_ble_eq_true rfl) dL_law_793 ⟨by have q1 : room_1.cells = 600000 := rfl; omega, by have q2 : room_1.slots = 7302250 := rfl; omega⟩ (fun ad'' H2 locs2 hp hw1 hfr hnew => ?_)
  subst hp
  have hwx := hw.1.keep hw1.2.2 hfr (fun i j hi hj e => hw.2.2 j i hj hi e.symm)
  replace hw : LW D T a g am sx2 sm2 lm2 s H2 locs2 := ⟨hwx, hw1, hw.2.2⟩
  refine W.widen (k := 80 + 3 * (cn + 1)) (n := 115267 + 12288 * (cn + 1)) (by omega) (by omega) ?_
  refine lv_pop2_2 hx hb dL_law_796 rfl ?_
  refine lv_goto (tgt := 919) hx hb dL_law_797 (by decide) ?_
  exact hnext g sx2 sm2 lm2 _ _ hR hw hl
set_option maxHeartbeats 4000000 in
set_option maxRecDepth 100000 in
theorem law_c24 (CX : Cx p s m #[Value.ref b] meth c code 4 RL lw_tbl ret D vwCl (tysC T) (AL s) true nwL) (CM : Cx p s m #[Value.ref b] meth c code 4 RL lw_tbl ret D vwCl (tysM T) (AL s) false []) (hX : va_X b L xs s s.heap) (hbl : b < s.heap.size) {Q : State → Prop} {g : Nat → Nat} {sx sm : Sg} {lm : Lg} {H : Heap} {locs : List Loc} {ls : Array Slot} {cn : Nat} (hcn : cn ≤ 511) {x3 : Int32} (hix : ∀ k : Nat, k < 5 → vp_in (x3 + nI k) L) {R' : Sg → Sg → Lg → Prop} (hO : OpL false (fX11_groups  sx) (fX12_groups  sm lm) R') (hw : LW D T a g am sx sm lm s H locs) (hl : lv_has ls 4 [(0, .ref b), (1, .ref (adr a g 0)), (2, .ref (am 0)), (3, .int x3)])
    (hnext : ∀ (g' : Nat → Nat) (sx' sm' : Sg) (lm' : Lg) (H' : Heap) (locs' : List Loc), R' sx' sm' lm' → LW D T a g' am sx' sm' lm' s H' locs' → lv_has ls 4 [(0, .ref b), (1, .ref (adr a g' 0)), (2, .ref (am 0)), (3, .int x3)] → W p l e room_1 s m #[Value.ref b] below meth c H' locs' (80 + 3 * (cn + 1)) (115267 + 12288 * (cn + 1)) Q (F0 m 919 ls [])) : W p l e room_1 s m #[Value.ref b] below meth c H locs (80 + 3 * cn) (115267 + 12288 * cn) Q (F0 m 800 ls []) := by
  obtain ⟨r, r', sx2, sm2, lm2, hfx, hfm, heq, hR⟩ := hO
  obtain ⟨hx, hb, hml, hown, hts⟩ := CX.1
  have hbA : ¬ AL s b := Nat.not_le.mpr hbl
  refine lv_aload_n hx hb dL_law_800 rfl (lv_at hl 1 rfl) ?_
  refine r_cVlF (As := []) (rest := []) CX hw.1 0 (by decide) (ci := 11) rfl rfl (mX11_groups l D T (adr a g) lg0 H.size  sx hfx) (cwV 0 hts GV_X11_groups rfl rfl rfl (by decide +kernel) ⟨Nat.le_of_ble_eq_true rfl, Nat.le_of_ble_eq_true rfl⟩) rfl hl.1 rfl (Nat.le_of_ble_eq_true rfl) dL_law_801 ⟨by have q1 : room_1.cells = 600000 := rfl; omega, by have q2 : room_1.slots = 7302250 := rfl; omega⟩ (fun ad' H' locs' hp hw1 hfr hnew => ?_)
  subst hp
  have hwm := hw.2.1.keep hw1.2.2 hfr hw.2.2
  have hdis := dis_new hw.2.1 hw.2.2 hnew
  replace hw : LW D T a g am sx2 sm lm s H' locs' := ⟨hw1, hwm, hdis⟩
  clear hw1 hwm hdis hfr hnew
  replace hl : lv_has ls 4 [(0, .ref b), (1, .ref (adr a g 0)), (2, .ref (am 0)), (3, .int x3)] := hl
  refine W.widen (k := 80 + 3 * cn + 3) (n := 115267 + 12288 * cn + 12288) (by omega) (by omega) ?_
  refine lv_pop2_2 hx hb dL_law_804 rfl ?_
  refine lv_aload_n hx hb dL_law_805 rfl (lv_at hl 2 rfl) ?_
  refine r_cVlF (As := []) (rest := []) CM hw.2.1 0 (by decide) (ci := 12) rfl rfl (mX12_groups l D T am H'.size  sm lm hfm) (cwV 0 hts GV_X12_groups rfl rfl rfl (by decide +kernel) ⟨Nat.le_of_ble_eq_true rfl, Nat.le_of_ble_eq_true rfl⟩) rfl hl.1 rfl (Nat.le_of_ble_eq_true rfl) dL_law_806 ⟨by have q1 : room_1.cells = 600000 := rfl; omega, by have q2 : room_1.slots = 7302250 := rfl; omega⟩ (fun ad'' H2 locs2 hp hw1 hfr hnew => ?_)
  subst hp
  have hwx := hw.1.keep hw1.2.2 hfr (fun i j hi hj e => hw.2.2 j i hj hi e.symm)
  replace hw : LW D T a g am sx2 sm2 lm2 s H2 locs2 := ⟨hwx, hw1, hw.2.2⟩
  refine W.widen (k := 80 + 3 * (cn + 1)) (n := 115267 + 12288 * (cn + 1)) (by omega) (by omega) ?_
  refine lv_pop2_2 hx hb dL_law_809 rfl ?_
  refine lv_goto (tgt := 919) hx hb dL_law_810 (by decide) ?_
  exact hnext g sx2 sm2 lm2 _ _ hR hw hl
set_option maxHeartbeats 4000000 in
set_option maxRecDepth 100000 in
theorem law_c25 (CX : Cx p s m #[Value.ref b] meth c code 4 RL lw_tbl ret D vwCl (tysC T) (AL s) true nwL) (CM : Cx p s m #[Value.ref b] meth c code 4 RL lw_tbl ret D vwCl (tysM T) (AL s) false []) (hX : va_X b L xs s s.heap) (hbl : b < s.heap.size) {Q : State → Prop} {g : Nat → Nat} {sx sm : Sg} {lm : Lg} {H : Heap} {locs : List Loc} {ls : Array Slot} {cn : Nat} (hcn : cn ≤ 511) {x3 : Int32} (hix : ∀ k : Nat, k < 5 → vp_in (x3 + nI k) L) {R' : Sg → Sg → Lg → Prop} (hO : OpL false (fX11_groupOf (xs (x3 + 1).toNatClampNeg) sx) (fX12_groupOf (xs (x3 + 1).toNatClampNeg) sm lm) R') (hw : LW D T a g am sx sm lm s H locs) (hl : lv_has ls 4 [(0, .ref b), (1, .ref (adr a g 0)), (2, .ref (am 0)), (3, .int x3)])
    (hnext : ∀ (g' : Nat → Nat) (sx' sm' : Sg) (lm' : Lg) (H' : Heap) (locs' : List Loc), R' sx' sm' lm' → LW D T a g' am sx' sm' lm' s H' locs' → lv_has ls 4 [(0, .ref b), (1, .ref (adr a g' 0)), (2, .ref (am 0)), (3, .int x3)] → W p l e room_1 s m #[Value.ref b] below meth c H' locs' (80 + 3 * (cn + 1)) (115267 + 12288 * (cn + 1)) Q (F0 m 919 ls [])) : W p l e room_1 s m #[Value.ref b] below meth c H locs (80 + 3 * cn) (115267 + 12288 * cn) Q (F0 m 813 ls []) := by
  obtain ⟨r, r', sx2, sm2, lm2, hfx, hfm, heq, hR⟩ := hO
  obtain ⟨hx, hb, hml, hown, hts⟩ := CX.1
  have hbA : ¬ AL s b := Nat.not_le.mpr hbl
  refine lv_aload_n hx hb dL_law_813 rfl (lv_at hl 1 rfl) ?_
  refine lv_aload_n hx hb dL_law_814 rfl (lv_at hl 0 rfl) ?_
  refine lv_iload_n hx hb dL_law_815 rfl (lv_at hl 3 rfl) ?_
  refine lv_iconst (v := (1 : Int32)) hx hb dL_law_816 (by decide) ?_
  refine lv_iadd hx hb dL_law_817 ?_
  refine va_sld hx hb hX hbl hbA hw.1.2.2 (hix 1 (by decide)) dL_law_818 ?_
  refine r_cVlF (As := [.int (xs (x3 + 1).toNatClampNeg)]) (rest := []) CX hw.1 0 (by decide) (ci := 11) rfl rfl (mX11_groupOf l D T (adr a g) lg0 H.size (xs (x3 + 1).toNatClampNeg) sx hfx) (cwV 1 hts GV_X11_groupOf rfl rfl rfl (by decide +kernel) ⟨Nat.le_of_ble_eq_true rfl, Nat.le_of_ble_eq_true rfl⟩) rfl hl.1 rfl (Nat.le_of_ble_eq_true rfl) dL_law_819 ⟨by have q1 : room_1.cells = 600000 := rfl; omega, by have q2 : room_1.slots = 7302250 := rfl; omega⟩ (fun ad' H' locs' hp hw1 hfr hnew => ?_)
  subst hp
  have hwm := hw.2.1.keep hw1.2.2 hfr hw.2.2
  have hdis := dis_new hw.2.1 hw.2.2 hnew
  replace hw : LW D T a g am sx2 sm lm s H' locs' := ⟨hw1, hwm, hdis⟩
  clear hw1 hwm hdis hfr hnew
  replace hl : lv_has ls 4 [(0, .ref b), (1, .ref (adr a g 0)), (2, .ref (am 0)), (3, .int x3)] := hl
  refine W.widen (k := 80 + 3 * cn + 3) (n := 115267 + 12288 * cn + 12288) (by omega) (by omega) ?_
  refine lv_pop2_2 hx hb dL_law_822 rfl ?_
  refine lv_aload_n hx hb dL_law_823 rfl (lv_at hl 2 rfl) ?_
  refine lv_aload_n hx hb dL_law_824 rfl (lv_at hl 0 rfl) ?_
  refine lv_iload_n hx hb dL_law_825 rfl (lv_at hl 3 rfl) ?_
  refine lv_iconst (v := (1 : Int32)) hx hb dL_law_826 (by decide) ?_
  refine lv_iadd hx hb dL_law_827 ?_
  refine va_sld hx hb hX hbl hbA hw.1.2.2 (hix 1 (by decide)) dL_law_828 ?_
  refine r_cVlF (As := [.int (xs (x3 + 1).toNatClampNeg)]) (rest := []) CM hw.2.1 0 (by decide) (ci := 12) rfl rfl (mX12_groupOf l D T am H'.size (xs (x3 + 1).toNatClampNeg) sm lm hfm) (cwV 1 hts GV_X12_groupOf rfl rfl rfl (by decide +kernel) ⟨Nat.le_of_ble_eq_true rfl, Nat.le_of_ble_eq_true rfl⟩) rfl hl.1 rfl (Nat.le_of_ble_eq_true rfl) dL_law_829 ⟨by have q1 : room_1.cells = 600000 := rfl; omega, by have q2 : room_1.slots = 7302250 := rfl; omega⟩ (fun ad'' H2 locs2 hp hw1 hfr hnew => ?_)
  subst hp
  have hwx := hw.1.keep hw1.2.2 hfr (fun i j hi hj e => hw.2.2 j i hj hi e.symm)
  replace hw : LW D T a g am sx2 sm2 lm2 s H2 locs2 := ⟨hwx, hw1, hw.2.2⟩
  refine W.widen (k := 80 + 3 * (cn + 1)) (n := 115267 + 12288 * (cn + 1)) (by omega) (by omega) ?_
  refine lv_pop2_2 hx hb dL_law_832 rfl ?_
  refine lv_goto (tgt := 919) hx hb dL_law_833 (by decide) ?_
  exact hnext g sx2 sm2 lm2 _ _ hR hw hl
set_option maxHeartbeats 4000000 in
set_option maxRecDepth 100000 in
theorem law_c26 (CX : Cx p s m #[Value.ref b] meth c code 4 RL lw_tbl ret D vwCl (tysC T) (AL s) true nwL) (CM : Cx p s m #[Value.ref b] meth c code 4 RL lw_tbl ret D vwCl (tysM T) (AL s) false []) (hX : va_X b L xs s s.heap) (hbl : b < s.heap.size) {Q : State → Prop} {g : Nat → Nat} {sx sm : Sg} {lm : Lg} {H : Heap} {locs : List Loc} {ls : Array Slot} {cn : Nat} (hcn : cn ≤ 511) {x3 : Int32} (hix : ∀ k : Nat, k < 5 → vp_in (x3 + nI k) L) {R' : Sg → Sg → Lg → Prop} (hO : OpL false (fX11_loose  sx) (fX12_loose  sm lm) R') (hw : LW D T a g am sx sm lm s H locs) (hl : lv_has ls 4 [(0, .ref b), (1, .ref (adr a g 0)), (2, .ref (am 0)), (3, .int x3)])
    (hnext : ∀ (g' : Nat → Nat) (sx' sm' : Sg) (lm' : Lg) (H' : Heap) (locs' : List Loc), R' sx' sm' lm' → LW D T a g' am sx' sm' lm' s H' locs' → lv_has ls 4 [(0, .ref b), (1, .ref (adr a g' 0)), (2, .ref (am 0)), (3, .int x3)] → W p l e room_1 s m #[Value.ref b] below meth c H' locs' (80 + 3 * (cn + 1)) (115267 + 12288 * (cn + 1)) Q (F0 m 919 ls [])) : W p l e room_1 s m #[Value.ref b] below meth c H locs (80 + 3 * cn) (115267 + 12288 * cn) Q (F0 m 836 ls []) := by
  obtain ⟨r, r', sx2, sm2, lm2, hfx, hfm, heq, hR⟩ := hO
  obtain ⟨hx, hb, hml, hown, hts⟩ := CX.1
  have hbA : ¬ AL s b := Nat.not_le.mpr hbl
  refine lv_aload_n hx hb dL_law_836 rfl (lv_at hl 1 rfl) ?_
  refine r_cVlF (As := []) (rest := []) CX hw.1 0 (by decide) (ci := 11) rfl rfl (mX11_loose l D T a g lg0 H.size  sx hfx) (cwV 0 hts GV_X11_loose rfl rfl rfl (by decide +kernel) ⟨Nat.le_of_ble_eq_true rfl, Nat.le_of_ble_eq_true rfl⟩) rfl hl.1 rfl (Nat.le_of_ble_eq_true rfl) dL_law_837 ⟨by have q1 : room_1.cells = 600000 := rfl; omega, by have q2 : room_1.slots = 7302250 := rfl; omega⟩ (fun ad' H' locs' hp hw1 hfr hnew => ?_)
  obtain ⟨g2, rfl⟩ := hp
  have hwm := hw.2.1.keep hw1.2.2 hfr hw.2.2
  have hdis := dis_new hw.2.1 hw.2.2 hnew
  replace hw : LW D T a g2 am sx2 sm lm s H' locs' := ⟨hw1, hwm, hdis⟩
  clear hw1 hwm hdis hfr hnew
  replace hl : lv_has ls 4 [(0, .ref b), (1, .ref (adr a g2 0)), (2, .ref (am 0)), (3, .int x3)] := hl
  refine W.widen (k := 80 + 3 * cn + 3) (n := 115267 + 12288 * cn + 12288) (by omega) (by omega) ?_
  refine lv_pop2_2 hx hb dL_law_840 rfl ?_
  refine lv_aload_n hx hb dL_law_841 rfl (lv_at hl 2 rfl) ?_
  refine r_cVlF (As := []) (rest := []) CM hw.2.1 0 (by decide) (ci := 12) rfl rfl (mX12_loose l D T am H'.size  sm lm hfm) (cwV 0 hts GV_X12_loose rfl rfl rfl (by decide +kernel) ⟨Nat.le_of_ble_eq_true rfl, Nat.le_of_ble_eq_true rfl⟩) rfl hl.1 rfl (Nat.le_of_ble_eq_true rfl) dL_law_842 ⟨by have q1 : room_1.cells = 600000 := rfl; omega, by have q2 : room_1.slots = 7302250 := rfl; omega⟩ (fun ad'' H2 locs2 hp hw1 hfr hnew => ?_)
  subst hp
  have hwx := hw.1.keep hw1.2.2 hfr (fun i j hi hj e => hw.2.2 j i hj hi e.symm)
  replace hw : LW D T a g2 am sx2 sm2 lm2 s H2 locs2 := ⟨hwx, hw1, hw.2.2⟩
  refine W.widen (k := 80 + 3 * (cn + 1)) (n := 115267 + 12288 * (cn + 1)) (by omega) (by omega) ?_
  refine lv_pop2_2 hx hb dL_law_845 rfl ?_
  refine lv_goto (tgt := 919) hx hb dL_law_846 (by decide) ?_
  exact hnext g2 sx2 sm2 lm2 _ _ hR hw hl
set_option maxHeartbeats 4000000 in
set_option maxRecDepth 100000 in
theorem law_c27 (CX : Cx p s m #[Value.ref b] meth c code 4 RL lw_tbl ret D vwCl (tysC T) (AL s) true nwL) (CM : Cx p s m #[Value.ref b] meth c code 4 RL lw_tbl ret D vwCl (tysM T) (AL s) false []) (hX : va_X b L xs s s.heap) (hbl : b < s.heap.size) {Q : State → Prop} {g : Nat → Nat} {sx sm : Sg} {lm : Lg} {H : Heap} {locs : List Loc} {ls : Array Slot} {cn : Nat} (hcn : cn ≤ 511) {x3 : Int32} (hix : ∀ k : Nat, k < 5 → vp_in (x3 + nI k) L) {R' : Sg → Sg → Lg → Prop} (hO : OpL false (fX11_pack  sx) (fX12_pack  sm lm) R') (hw : LW D T a g am sx sm lm s H locs) (hl : lv_has ls 4 [(0, .ref b), (1, .ref (adr a g 0)), (2, .ref (am 0)), (3, .int x3)])
    (hnext : ∀ (g' : Nat → Nat) (sx' sm' : Sg) (lm' : Lg) (H' : Heap) (locs' : List Loc), R' sx' sm' lm' → LW D T a g' am sx' sm' lm' s H' locs' → lv_has ls 4 [(0, .ref b), (1, .ref (adr a g' 0)), (2, .ref (am 0)), (3, .int x3)] → W p l e room_1 s m #[Value.ref b] below meth c H' locs' (80 + 3 * (cn + 1)) (115267 + 12288 * (cn + 1)) Q (F0 m 919 ls [])) : W p l e room_1 s m #[Value.ref b] below meth c H locs (80 + 3 * cn) (115267 + 12288 * cn) Q (F0 m 849 ls []) := by
  obtain ⟨r, r', sx2, sm2, lm2, hfx, hfm, heq, hR⟩ := hO
  obtain ⟨hx, hb, hml, hown, hts⟩ := CX.1
  have hbA : ¬ AL s b := Nat.not_le.mpr hbl
  refine lv_aload_n hx hb dL_law_849 rfl (lv_at hl 1 rfl) ?_
  refine r_cVlF (As := []) (rest := []) CX hw.1 0 (by decide) (ci := 11) rfl rfl (mX11_pack l D T (adr a g) lg0 H.size  sx hfx) (cwV 0 hts GV_X11_pack rfl rfl rfl (by decide +kernel) ⟨Nat.le_of_ble_eq_true rfl, Nat.le_of_ble_eq_true rfl⟩) rfl hl.1 rfl (Nat.le_of_ble_eq_true rfl) dL_law_850 ⟨by have q1 : room_1.cells = 600000 := rfl; omega, by have q2 : room_1.slots = 7302250 := rfl; omega⟩ (fun ad' H' locs' hp hw1 hfr hnew => ?_)
  subst hp
  have hwm := hw.2.1.keep hw1.2.2 hfr hw.2.2
  have hdis := dis_new hw.2.1 hw.2.2 hnew
  replace hw : LW D T a g am sx2 sm lm s H' locs' := ⟨hw1, hwm, hdis⟩
  clear hw1 hwm hdis hfr hnew
  replace hl : lv_has ls 4 [(0, .ref b), (1, .ref (adr a g 0)), (2, .ref (am 0)), (3, .int x3)] := hl
  refine W.widen (k := 80 + 3 * cn + 3) (n := 115267 + 12288 * cn + 12288) (by omega) (by omega) ?_
  refine lv_pop2_2 hx hb dL_law_853 rfl ?_
  refine lv_aload_n hx hb dL_law_854 rfl (lv_at hl 2 rfl) ?_
  refine r_cVlF (As := []) (rest := []) CM hw.2.1 0 (by decide) (ci := 12) rfl rfl (mX12_pack l D T am H'.size  sm lm hfm) (cwV 0 hts GV_X12_pack rfl rfl rfl (by decide +kernel) ⟨Nat.le_of_ble_eq_true rfl, Nat.le_of_ble_eq_true rfl⟩) rfl hl.1 rfl (Nat.le_of_ble_eq_true rfl) dL_law_855 ⟨by have q1 : room_1.cells = 600000 := rfl; omega, by have q2 : room_1.slots = 7302250 := rfl; omega⟩ (fun ad'' H2 locs2 hp hw1 hfr hnew => ?_)
  subst hp
  have hwx := hw.1.keep hw1.2.2 hfr (fun i j hi hj e => hw.2.2 j i hj hi e.symm)
  replace hw : LW D T a g am sx2 sm2 lm2 s H2 locs2 := ⟨hwx, hw1, hw.2.2⟩
  refine W.widen (k := 80 + 3 * (cn + 1)) (n := 115267 + 12288 * (cn + 1)) (by omega) (by omega) ?_
  refine lv_pop2_2 hx hb dL_law_858 rfl ?_
  refine lv_goto (tgt := 919) hx hb dL_law_859 (by decide) ?_
  exact hnext g sx2 sm2 lm2 _ _ hR hw hl
set_option maxHeartbeats 4000000 in
set_option maxRecDepth 100000 in
theorem law_c28 (CX : Cx p s m #[Value.ref b] meth c code 4 RL lw_tbl ret D vwCl (tysC T) (AL s) true nwL) (CM : Cx p s m #[Value.ref b] meth c code 4 RL lw_tbl ret D vwCl (tysM T) (AL s) false []) (hX : va_X b L xs s s.heap) (hbl : b < s.heap.size) {Q : State → Prop} {g : Nat → Nat} {sx sm : Sg} {lm : Lg} {H : Heap} {locs : List Loc} {ls : Array Slot} {cn : Nat} (hcn : cn ≤ 511) {x3 : Int32} (hix : ∀ k : Nat, k < 5 → vp_in (x3 + nI k) L) {R' : Sg → Sg → Lg → Prop} (hO : OpL false (fX11_ring (xs (x3 + 1).toNatClampNeg) (xs (x3 + 2).toNatClampNeg) sx) (fX12_ring (xs (x3 + 1).toNatClampNeg) (xs (x3 + 2).toNatClampNeg) sm lm) R') (hw : LW D T a g am sx sm lm s H locs) (hl : lv_has ls 4 [(0, .ref b), (1, .ref (adr a g 0)), (2, .ref (am 0)), (3, .int x3)])
    (hnext : ∀ (g' : Nat → Nat) (sx' sm' : Sg) (lm' : Lg) (H' : Heap) (locs' : List Loc), R' sx' sm' lm' → LW D T a g' am sx' sm' lm' s H' locs' → lv_has ls 4 [(0, .ref b), (1, .ref (adr a g' 0)), (2, .ref (am 0)), (3, .int x3)] → W p l e room_1 s m #[Value.ref b] below meth c H' locs' (80 + 3 * (cn + 1)) (115267 + 12288 * (cn + 1)) Q (F0 m 919 ls [])) : W p l e room_1 s m #[Value.ref b] below meth c H locs (80 + 3 * cn) (115267 + 12288 * cn) Q (F0 m 862 ls []) := by
  obtain ⟨r, r', sx2, sm2, lm2, hfx, hfm, heq, hR⟩ := hO
  obtain ⟨hx, hb, hml, hown, hts⟩ := CX.1
  have hbA : ¬ AL s b := Nat.not_le.mpr hbl
  refine lv_aload_n hx hb dL_law_862 rfl (lv_at hl 1 rfl) ?_
  refine lv_aload_n hx hb dL_law_863 rfl (lv_at hl 0 rfl) ?_
  refine lv_iload_n hx hb dL_law_864 rfl (lv_at hl 3 rfl) ?_
  refine lv_iconst (v := (1 : Int32)) hx hb dL_law_865 (by decide) ?_
  refine lv_iadd hx hb dL_law_866 ?_
  refine va_sld hx hb hX hbl hbA hw.1.2.2 (hix 1 (by decide)) dL_law_867 ?_
  refine lv_aload_n hx hb dL_law_868 rfl (lv_at hl 0 rfl) ?_
  refine lv_iload_n hx hb dL_law_869 rfl (lv_at hl 3 rfl) ?_
  refine lv_iconst (v := (2 : Int32)) hx hb dL_law_870 (by decide) ?_
  refine lv_iadd hx hb dL_law_871 ?_
  refine va_sld hx hb hX hbl hbA hw.1.2.2 (hix 2 (by decide)) dL_law_872 ?_
  refine r_cVlF (As := [.int (xs (x3 + 1).toNatClampNeg), .int (xs (x3 + 2).toNatClampNeg)]) (rest := []) CX hw.1 0 (by decide) (ci := 11) rfl rfl (mX11_ring l D T (adr a g) lg0 H.size (xs (x3 + 1).toNatClampNeg) (xs (x3 + 2).toNatClampNeg) sx hfx) (cwV 2 hts GV_X11_ring rfl rfl rfl (by decide +kernel) ⟨Nat.le_of_ble_eq_true rfl, Nat.le_of_ble_eq_true rfl⟩) rfl hl.1 rfl (Nat.le_of_ble_eq_true rfl) dL_law_873 ⟨by have q1 : room_1.cells = 600000 := rfl; omega, by have q2 : room_1.slots = 7302250 := rfl; omega⟩ (fun ad' H' locs' hp hw1 hfr hnew => ?_)
  subst hp
  have hwm := hw.2.1.keep hw1.2.2 hfr hw.2.2
  have hdis := dis_new hw.2.1 hw.2.2 hnew
  replace hw : LW D T a g am sx2 sm lm s H' locs' := ⟨hw1, hwm, hdis⟩
  clear hw1 hwm hdis hfr hnew
  replace hl : lv_has ls 4 [(0, .ref b), (1, .ref (adr a g 0)), (2, .ref (am 0)), (3, .int x3)] := hl
  refine W.widen (k := 80 + 3 * cn + 3) (n := 115267 + 12288 * cn + 12288) (by omega) (by omega) ?_
  refine lv_pop2_2 hx hb dL_law_876 rfl ?_
  refine lv_aload_n hx hb dL_law_877 rfl (lv_at hl 2 rfl) ?_
  refine lv_aload_n hx hb dL_law_878 rfl (lv_at hl 0 rfl) ?_
  refine lv_iload_n hx hb dL_law_879 rfl (lv_at hl 3 rfl) ?_
  refine lv_iconst (v := (1 : Int32)) hx hb dL_law_880 (by decide) ?_
  refine lv_iadd hx hb dL_law_881 ?_
  refine va_sld hx hb hX hbl hbA hw.1.2.2 (hix 1 (by decide)) dL_law_882 ?_
  refine lv_aload_n hx hb dL_law_883 rfl (lv_at hl 0 rfl) ?_
  refine lv_iload_n hx hb dL_law_884 rfl (lv_at hl 3 rfl) ?_
  refine lv_iconst (v := (2 : Int32)) hx hb dL_law_885 (by decide) ?_
  refine lv_iadd hx hb dL_law_886 ?_
  refine va_sld hx hb hX hbl hbA hw.1.2.2 (hix 2 (by decide)) dL_law_887 ?_
  refine r_cVlF (As := [.int (xs (x3 + 1).toNatClampNeg), .int (xs (x3 + 2).toNatClampNeg)]) (rest := []) CM hw.2.1 0 (by decide) (ci := 12) rfl rfl (mX12_ring l D T am H'.size (xs (x3 + 1).toNatClampNeg) (xs (x3 + 2).toNatClampNeg) sm lm hfm) (cwV 2 hts GV_X12_ring rfl rfl rfl (by decide +kernel) ⟨Nat.le_of_ble_eq_true rfl, Nat.le_of_ble_eq_true rfl⟩) rfl hl.1 rfl (Nat.le_of_ble_eq_true rfl) dL_law_888 ⟨by have q1 : room_1.cells = 600000 := rfl; omega, by have q2 : room_1.slots = 7302250 := rfl; omega⟩ (fun ad'' H2 locs2 hp hw1 hfr hnew => ?_)
  subst hp
  have hwx := hw.1.keep hw1.2.2 hfr (fun i j hi hj e => hw.2.2 j i hj hi e.symm)
  replace hw : LW D T a g am sx2 sm2 lm2 s H2 locs2 := ⟨hwx, hw1, hw.2.2⟩
  refine W.widen (k := 80 + 3 * (cn + 1)) (n := 115267 + 12288 * (cn + 1)) (by omega) (by omega) ?_
  refine lv_pop2_2 hx hb dL_law_891 rfl ?_
  refine lv_goto (tgt := 919) hx hb dL_law_892 (by decide) ?_
  exact hnext g sx2 sm2 lm2 _ _ hR hw hl
set_option maxHeartbeats 4000000 in
set_option maxRecDepth 100000 in
theorem law_c29 (CX : Cx p s m #[Value.ref b] meth c code 4 RL lw_tbl ret D vwCl (tysC T) (AL s) true nwL) (CM : Cx p s m #[Value.ref b] meth c code 4 RL lw_tbl ret D vwCl (tysM T) (AL s) false []) (hX : va_X b L xs s s.heap) (hbl : b < s.heap.size) {Q : State → Prop} {g : Nat → Nat} {sx sm : Sg} {lm : Lg} {H : Heap} {locs : List Loc} {ls : Array Slot} {cn : Nat} (hcn : cn ≤ 511) {x3 : Int32} (hix : ∀ k : Nat, k < 5 → vp_in (x3 + nI k) L) {R' : Sg → Sg → Lg → Prop} (hO : OpL true (fX11_count (xs (x3 + 1).toNatClampNeg) sx) (fX12_count (xs (x3 + 1).toNatClampNeg) sm lm) R') (hw : LW D T a g am sx sm lm s H locs) (hl : lv_has ls 4 [(0, .ref b), (1, .ref (adr a g 0)), (2, .ref (am 0)), (3, .int x3)])
    (hnext : ∀ (g' : Nat → Nat) (sx' sm' : Sg) (lm' : Lg) (H' : Heap) (locs' : List Loc), R' sx' sm' lm' → LW D T a g' am sx' sm' lm' s H' locs' → lv_has ls 4 [(0, .ref b), (1, .ref (adr a g' 0)), (2, .ref (am 0)), (3, .int x3)] → W p l e room_1 s m #[Value.ref b] below meth c H' locs' (80 + 3 * (cn + 1)) (115267 + 12288 * (cn + 1)) Q (F0 m 919 ls [])) : W p l e room_1 s m #[Value.ref b] below meth c H locs (80 + 3 * cn) (115267 + 12288 * cn) Q (F0 m 895 ls []) := by
  obtain ⟨r, r', sx2, sm2, lm2, hfx, hfm, heq, hR⟩ := hO
  obtain ⟨hx, hb, hml, hown, hts⟩ := CX.1
  have hbA : ¬ AL s b := Nat.not_le.mpr hbl
  refine lv_aload_n hx hb dL_law_895 rfl (lv_at hl 1 rfl) ?_
  refine lv_aload_n hx hb dL_law_896 rfl (lv_at hl 0 rfl) ?_
  refine lv_iload_n hx hb dL_law_897 rfl (lv_at hl 3 rfl) ?_
  refine lv_iconst (v := (1 : Int32)) hx hb dL_law_898 (by decide) ?_
  refine lv_iadd hx hb dL_law_899 ?_
  refine va_sld hx hb hX hbl hbA hw.1.2.2 (hix 1 (by decide)) dL_law_900 ?_
  refine r_cVlF (As := [.int (xs (x3 + 1).toNatClampNeg)]) (rest := []) CX hw.1 0 (by decide) (ci := 11) rfl rfl (mX11_count l D T (adr a g) lg0 H.size (xs (x3 + 1).toNatClampNeg) sx hfx) (cwV 1 hts GV_X11_count rfl rfl rfl (by decide +kernel) ⟨Nat.le_of_ble_eq_true rfl, Nat.le_of_ble_eq_true rfl⟩) rfl hl.1 rfl (Nat.le_of_ble_eq_true rfl) dL_law_901 ⟨by have q1 : room_1.cells = 600000 := rfl; omega, by have q2 : room_1.slots = 7302250 := rfl; omega⟩ (fun ad' H' locs' hp hw1 hfr hnew => ?_)
  subst hp
  have hwm := hw.2.1.keep hw1.2.2 hfr hw.2.2
  have hdis := dis_new hw.2.1 hw.2.2 hnew
  replace hw : LW D T a g am sx2 sm lm s H' locs' := ⟨hw1, hwm, hdis⟩
  clear hw1 hwm hdis hfr hnew
  replace hl : lv_has ls 4 [(0, .ref b), (1, .ref (adr a g 0)), (2, .ref (am 0)), (3, .int x3)] := hl
  refine W.widen (k := 80 + 3 * cn + 3) (n := 115267 + 12288 * cn + 12288) (by omega) (by omega) ?_
  refine lv_aload_n hx hb dL_law_904 rfl (lv_at hl 2 rfl) ?_
  refine lv_aload_n hx hb dL_law_905 rfl (lv_at hl 0 rfl) ?_
  refine lv_iload_n hx hb dL_law_906 rfl (lv_at hl 3 rfl) ?_
  refine lv_iconst (v := (1 : Int32)) hx hb dL_law_907 (by decide) ?_
  refine lv_iadd hx hb dL_law_908 ?_
  refine va_sld hx hb hX hbl hbA hw.1.2.2 (hix 1 (by decide)) dL_law_909 ?_
  refine r_cVlF (As := [.int (xs (x3 + 1).toNatClampNeg)]) (rest := [.long r]) CM hw.2.1 0 (by decide) (ci := 12) rfl rfl (mX12_count l D T am H'.size (xs (x3 + 1).toNatClampNeg) sm lm hfm) (cwV 1 hts GV_X12_count rfl rfl rfl (by decide +kernel) ⟨Nat.le_of_ble_eq_true rfl, Nat.le_of_ble_eq_true rfl⟩) rfl hl.1 rfl (Nat.le_of_ble_eq_true rfl) dL_law_910 ⟨by have q1 : room_1.cells = 600000 := rfl; omega, by have q2 : room_1.slots = 7302250 := rfl; omega⟩ (fun ad'' H2 locs2 hp hw1 hfr hnew => ?_)
  subst hp
  have hwx := hw.1.keep hw1.2.2 hfr (fun i j hi hj e => hw.2.2 j i hj hi e.symm)
  replace hw : LW D T a g am sx2 sm2 lm2 s H2 locs2 := ⟨hwx, hw1, hw.2.2⟩
  refine W.widen (k := 80 + 3 * (cn + 1)) (n := 115267 + 12288 * (cn + 1)) (by omega) (by omega) ?_
  refine W.lcmp hx hb dL_law_913 ?_
  refine lv_if_eq (tgt := 919) hx hb dL_law_914 (by decide) (fun c9 => ?_) (fun c9 => absurd ((lg_cmp_eq r r').mpr (heq rfl)) c9)
  exact hnext g sx2 sm2 lm2 _ _ hR hw hl
end LAW

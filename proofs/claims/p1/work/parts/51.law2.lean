theorem kL_c30 : Cond.constantLong RL 30 (4294967295) ∈ lw_tbl := by decide +kernel
section LAW
variable {p : Program} {l : Launch} {e : Env} {s : State} {m : MethodId} {below : List Frame} {meth : Method} {c : Code} {D : va_G} {T : Nat → ClassId} {a am : Nat → Nat} {b L : Nat} {xs : Nat → Int32}
set_option maxHeartbeats 4000000 in
set_option maxRecDepth 100000 in
theorem law_c0 (CX : Cx p s m #[Value.ref b] meth c code 4 RL lw_tbl ret D vwCl (tysC T) (AL s) true nwL) (CM : Cx p s m #[Value.ref b] meth c code 4 RL lw_tbl ret D vwCl (tysM T) (AL s) false []) (hX : va_X b L xs s s.heap) (hbl : b < s.heap.size) {Q : State → Prop} {g : Nat → Nat} {sx sm : Sg} {lm : Lg} {H : Heap} {locs : List Loc} {ls : Array Slot} {cn : Nat} (hcn : cn ≤ 511) {x3 : Int32} (hix : ∀ k : Nat, k < 5 → vp_in (x3 + nI k) L) {R' : Sg → Sg → Lg → Prop} (hO : OpL true (fX11_hen (xs (x3 + 1).toNatClampNeg) (xs (x3 + 2).toNatClampNeg) sx) (fX12_hen (xs (x3 + 1).toNatClampNeg) (xs (x3 + 2).toNatClampNeg) sm lm) R') (hw : LW D T a g am sx sm lm s H locs) (hl : lv_has ls 4 [(0, .ref b), (1, .ref (adr a g 0)), (2, .ref (am 0)), (3, .int x3)])
    (hnext : ∀ (g' : Nat → Nat) (sx' sm' : Sg) (lm' : Lg) (H' : Heap) (locs' : List Loc), R' sx' sm' lm' → LW D T a g' am sx' sm' lm' s H' locs' → lv_has ls 4 [(0, .ref b), (1, .ref (adr a g' 0)), (2, .ref (am 0)), (3, .int x3)] → W p l e room_1 s m #[Value.ref b] below meth c H' locs' (80 + 3 * (cn + 1)) (115267 + 12288 * (cn + 1)) Q (F0 m 948 ls [])) : W p l e room_1 s m #[Value.ref b] below meth c H locs (80 + 3 * cn) (115267 + 12288 * cn) Q (F0 m 168 ls []) := by
  obtain ⟨r, r', sx2, sm2, lm2, hfx, hfm, heq, hR⟩ := hO
  obtain ⟨hx, hb, hml, hown, hts⟩ := CX.1
  have hbA : ¬ AL s b := Nat.not_le.mpr hbl
  refine lv_aload_n hx hb dL_law_168 rfl (lv_at hl 1 rfl) ?_
  refine lv_aload_n hx hb dL_law_169 rfl (lv_at hl 0 rfl) ?_
  refine lv_iload_n hx hb dL_law_170 rfl (lv_at hl 3 rfl) ?_
  refine lv_iconst (v := (1 : Int32)) hx hb dL_law_171 (by decide) ?_
  refine lv_iadd hx hb dL_law_172 ?_
  refine va_sld hx hb hX hbl hbA hw.1.2.2 (hix 1 (by decide)) dL_law_173 ?_
  refine lv_aload_n hx hb dL_law_174 rfl (lv_at hl 0 rfl) ?_
  refine lv_iload_n hx hb dL_law_175 rfl (lv_at hl 3 rfl) ?_
  refine lv_iconst (v := (2 : Int32)) hx hb dL_law_176 (by decide) ?_
  refine lv_iadd hx hb dL_law_177 ?_
  refine va_sld hx hb hX hbl hbA hw.1.2.2 (hix 2 (by decide)) dL_law_178 ?_
  refine r_cVlF (As := [.int (xs (x3 + 1).toNatClampNeg), .int (xs (x3 + 2).toNatClampNeg)]) (rest := []) CX hw.1 0 (by decide) (ci := 11) rfl rfl (mX11_hen l D T (adr a g) lg0 H.size (xs (x3 + 1).toNatClampNeg) (xs (x3 + 2).toNatClampNeg) sx hfx) (cwV 2 hts GV_X11_hen rfl rfl rfl (by decide +kernel) ⟨Nat.le_of_ble_eq_true rfl, Nat.le_of_ble_eq_true rfl⟩) rfl hl.1 rfl (Nat.le_of_ble_eq_true rfl) dL_law_179 ⟨by have q1 : room_1.cells = 600000 := rfl; omega, by have q2 : room_1.slots = 7302250 := rfl; omega⟩ (fun ad' H' locs' hp hw1 hfr hnew => ?_)
  subst hp
  have hwm := hw.2.1.keep hw1.2.2 hfr hw.2.2
  have hdis := dis_new hw.2.1 hw.2.2 hnew
  replace hw : LW D T a g am sx2 sm lm s H' locs' := ⟨hw1, hwm, hdis⟩
  clear hw1 hwm hdis hfr hnew
  replace hl : lv_has ls 4 [(0, .ref b), (1, .ref (adr a g 0)), (2, .ref (am 0)), (3, .int x3)] := hl
  refine W.widen (k := 80 + 3 * cn + 3) (n := 115267 + 12288 * cn + 12288) (by omega) (by omega) ?_
  refine lv_aload_n hx hb dL_law_182 rfl (lv_at hl 2 rfl) ?_
  refine lv_aload_n hx hb dL_law_183 rfl (lv_at hl 0 rfl) ?_
  refine lv_iload_n hx hb dL_law_184 rfl (lv_at hl 3 rfl) ?_
  refine lv_iconst (v := (1 : Int32)) hx hb dL_law_185 (by decide) ?_
  refine lv_iadd hx hb dL_law_186 ?_
  refine va_sld hx hb hX hbl hbA hw.1.2.2 (hix 1 (by decide)) dL_law_187 ?_
  refine lv_aload_n hx hb dL_law_188 rfl (lv_at hl 0 rfl) ?_
  refine lv_iload_n hx hb dL_law_189 rfl (lv_at hl 3 rfl) ?_
  refine lv_iconst (v := (2 : Int32)) hx hb dL_law_190 (by decide) ?_
  refine lv_iadd hx hb dL_law_191 ?_
  refine va_sld hx hb hX hbl hbA hw.1.2.2 (hix 2 (by decide)) dL_law_192 ?_
  refine r_cVlF (As := [.int (xs (x3 + 1).toNatClampNeg), .int (xs (x3 + 2).toNatClampNeg)]) (rest := [.long r]) CM hw.2.1 0 (by decide) (ci := 12) rfl rfl (mX12_hen l D T am H'.size (xs (x3 + 1).toNatClampNeg) (xs (x3 + 2).toNatClampNeg) sm lm hfm) (cwV 2 hts GV_X12_hen rfl rfl rfl (by decide +kernel) ⟨Nat.le_of_ble_eq_true rfl, Nat.le_of_ble_eq_true rfl⟩) rfl hl.1 rfl (Nat.le_of_ble_eq_true rfl) dL_law_193 ⟨by have q1 : room_1.cells = 600000 := rfl; omega, by have q2 : room_1.slots = 7302250 := rfl; omega⟩ (fun ad'' H2 locs2 hp hw1 hfr hnew => ?_)
  subst hp
  have hwx := hw.1.keep hw1.2.2 hfr (fun i j hi hj e => hw.2.2 j i hj hi e.symm)
  replace hw : LW D T a g am sx2 sm2 lm2 s H2 locs2 := ⟨hwx, hw1, hw.2.2⟩
  refine W.widen (k := 80 + 3 * (cn + 1)) (n := 115267 + 12288 * (cn + 1)) (by omega) (by omega) ?_
  refine W.lcmp hx hb dL_law_196 ?_
  refine lv_if_eq (tgt := 948) hx hb dL_law_197 (by decide) (fun c9 => ?_) (fun c9 => absurd ((lg_cmp_eq r r').mpr (heq rfl)) c9)
  exact hnext g sx2 sm2 lm2 _ _ hR hw hl
set_option maxHeartbeats 4000000 in
set_option maxRecDepth 100000 in
theorem law_c1 (CX : Cx p s m #[Value.ref b] meth c code 4 RL lw_tbl ret D vwCl (tysC T) (AL s) true nwL) (CM : Cx p s m #[Value.ref b] meth c code 4 RL lw_tbl ret D vwCl (tysM T) (AL s) false []) (hX : va_X b L xs s s.heap) (hbl : b < s.heap.size) {Q : State → Prop} {g : Nat → Nat} {sx sm : Sg} {lm : Lg} {H : Heap} {locs : List Loc} {ls : Array Slot} {cn : Nat} (hcn : cn ≤ 511) {x3 : Int32} (hix : ∀ k : Nat, k < 5 → vp_in (x3 + nI k) L) {R' : Sg → Sg → Lg → Prop} (hO : OpL true (fX11_ask (xs (x3 + 1).toNatClampNeg) (xs (x3 + 2).toNatClampNeg) sx) (fX12_ask (xs (x3 + 1).toNatClampNeg) (xs (x3 + 2).toNatClampNeg) sm lm) R') (hw : LW D T a g am sx sm lm s H locs) (hl : lv_has ls 4 [(0, .ref b), (1, .ref (adr a g 0)), (2, .ref (am 0)), (3, .int x3)])
    (hnext : ∀ (g' : Nat → Nat) (sx' sm' : Sg) (lm' : Lg) (H' : Heap) (locs' : List Loc), R' sx' sm' lm' → LW D T a g' am sx' sm' lm' s H' locs' → lv_has ls 4 [(0, .ref b), (1, .ref (adr a g' 0)), (2, .ref (am 0)), (3, .int x3)] → W p l e room_1 s m #[Value.ref b] below meth c H' locs' (80 + 3 * (cn + 1)) (115267 + 12288 * (cn + 1)) Q (F0 m 948 ls [])) : W p l e room_1 s m #[Value.ref b] below meth c H locs (80 + 3 * cn) (115267 + 12288 * cn) Q (F0 m 202 ls []) := by
  obtain ⟨r, r', sx2, sm2, lm2, hfx, hfm, heq, hR⟩ := hO
  obtain ⟨hx, hb, hml, hown, hts⟩ := CX.1
  have hbA : ¬ AL s b := Nat.not_le.mpr hbl
  refine lv_aload_n hx hb dL_law_202 rfl (lv_at hl 1 rfl) ?_
  refine lv_aload_n hx hb dL_law_203 rfl (lv_at hl 0 rfl) ?_
  refine lv_iload_n hx hb dL_law_204 rfl (lv_at hl 3 rfl) ?_
  refine lv_iconst (v := (1 : Int32)) hx hb dL_law_205 (by decide) ?_
  refine lv_iadd hx hb dL_law_206 ?_
  refine va_sld hx hb hX hbl hbA hw.1.2.2 (hix 1 (by decide)) dL_law_207 ?_
  refine lv_aload_n hx hb dL_law_208 rfl (lv_at hl 0 rfl) ?_
  refine lv_iload_n hx hb dL_law_209 rfl (lv_at hl 3 rfl) ?_
  refine lv_iconst (v := (2 : Int32)) hx hb dL_law_210 (by decide) ?_
  refine lv_iadd hx hb dL_law_211 ?_
  refine va_sld hx hb hX hbl hbA hw.1.2.2 (hix 2 (by decide)) dL_law_212 ?_
  refine r_cVlF (As := [.int (xs (x3 + 1).toNatClampNeg), .int (xs (x3 + 2).toNatClampNeg)]) (rest := []) CX hw.1 0 (by decide) (ci := 11) rfl rfl (mX11_ask l D T (adr a g) lg0 H.size (xs (x3 + 1).toNatClampNeg) (xs (x3 + 2).toNatClampNeg) sx hfx) (cwV 2 hts GV_X11_ask rfl rfl rfl (by decide +kernel) ⟨Nat.le_of_ble_eq_true rfl, Nat.le_of_ble_eq_true rfl⟩) rfl hl.1 rfl (Nat.le_of_ble_eq_true rfl) dL_law_213 ⟨by have q1 : room_1.cells = 600000 := rfl; omega, by have q2 : room_1.slots = 7302250 := rfl; omega⟩ (fun ad' H' locs' hp hw1 hfr hnew => ?_)
  subst hp
  have hwm := hw.2.1.keep hw1.2.2 hfr hw.2.2
  have hdis := dis_new hw.2.1 hw.2.2 hnew
  replace hw : LW D T a g am sx2 sm lm s H' locs' := ⟨hw1, hwm, hdis⟩
  clear hw1 hwm hdis hfr hnew
  replace hl : lv_has ls 4 [(0, .ref b), (1, .ref (adr a g 0)), (2, .ref (am 0)), (3, .int x3)] := hl
  refine W.widen (k := 80 + 3 * cn + 3) (n := 115267 + 12288 * cn + 12288) (by omega) (by omega) ?_
  refine lv_aload_n hx hb dL_law_216 rfl (lv_at hl 2 rfl) ?_
  refine lv_aload_n hx hb dL_law_217 rfl (lv_at hl 0 rfl) ?_
  refine lv_iload_n hx hb dL_law_218 rfl (lv_at hl 3 rfl) ?_
  refine lv_iconst (v := (1 : Int32)) hx hb dL_law_219 (by decide) ?_
  refine lv_iadd hx hb dL_law_220 ?_
  refine va_sld hx hb hX hbl hbA hw.1.2.2 (hix 1 (by decide)) dL_law_221 ?_
  refine lv_aload_n hx hb dL_law_222 rfl (lv_at hl 0 rfl) ?_
  refine lv_iload_n hx hb dL_law_223 rfl (lv_at hl 3 rfl) ?_
  refine lv_iconst (v := (2 : Int32)) hx hb dL_law_224 (by decide) ?_
  refine lv_iadd hx hb dL_law_225 ?_
  refine va_sld hx hb hX hbl hbA hw.1.2.2 (hix 2 (by decide)) dL_law_226 ?_
  refine r_cVlF (As := [.int (xs (x3 + 1).toNatClampNeg), .int (xs (x3 + 2).toNatClampNeg)]) (rest := [.long r]) CM hw.2.1 0 (by decide) (ci := 12) rfl rfl (mX12_ask l D T am H'.size (xs (x3 + 1).toNatClampNeg) (xs (x3 + 2).toNatClampNeg) sm lm hfm) (cwV 2 hts GV_X12_ask rfl rfl rfl (by decide +kernel) ⟨Nat.le_of_ble_eq_true rfl, Nat.le_of_ble_eq_true rfl⟩) rfl hl.1 rfl (Nat.le_of_ble_eq_true rfl) dL_law_227 ⟨by have q1 : room_1.cells = 600000 := rfl; omega, by have q2 : room_1.slots = 7302250 := rfl; omega⟩ (fun ad'' H2 locs2 hp hw1 hfr hnew => ?_)
  subst hp
  have hwx := hw.1.keep hw1.2.2 hfr (fun i j hi hj e => hw.2.2 j i hj hi e.symm)
  replace hw : LW D T a g am sx2 sm2 lm2 s H2 locs2 := ⟨hwx, hw1, hw.2.2⟩
  refine W.widen (k := 80 + 3 * (cn + 1)) (n := 115267 + 12288 * (cn + 1)) (by omega) (by omega) ?_
  refine W.lcmp hx hb dL_law_230 ?_
  refine lv_if_eq (tgt := 948) hx hb dL_law_231 (by decide) (fun c9 => ?_) (fun c9 => absurd ((lg_cmp_eq r r').mpr (heq rfl)) c9)
  exact hnext g sx2 sm2 lm2 _ _ hR hw hl
set_option maxHeartbeats 4000000 in
set_option maxRecDepth 100000 in
theorem law_c2 (CX : Cx p s m #[Value.ref b] meth c code 4 RL lw_tbl ret D vwCl (tysC T) (AL s) true nwL) (CM : Cx p s m #[Value.ref b] meth c code 4 RL lw_tbl ret D vwCl (tysM T) (AL s) false []) (hX : va_X b L xs s s.heap) (hbl : b < s.heap.size) {Q : State → Prop} {g : Nat → Nat} {sx sm : Sg} {lm : Lg} {H : Heap} {locs : List Loc} {ls : Array Slot} {cn : Nat} (hcn : cn ≤ 511) {x3 : Int32} (hix : ∀ k : Nat, k < 5 → vp_in (x3 + nI k) L) {R' : Sg → Sg → Lg → Prop} (hO : OpL true (fX11_take (xs (x3 + 1).toNatClampNeg) (xs (x3 + 2).toNatClampNeg) sx) (fX12_take (xs (x3 + 1).toNatClampNeg) (xs (x3 + 2).toNatClampNeg) sm lm) R') (hw : LW D T a g am sx sm lm s H locs) (hl : lv_has ls 4 [(0, .ref b), (1, .ref (adr a g 0)), (2, .ref (am 0)), (3, .int x3)])
    (hnext : ∀ (g' : Nat → Nat) (sx' sm' : Sg) (lm' : Lg) (H' : Heap) (locs' : List Loc), R' sx' sm' lm' → LW D T a g' am sx' sm' lm' s H' locs' → lv_has ls 4 [(0, .ref b), (1, .ref (adr a g' 0)), (2, .ref (am 0)), (3, .int x3)] → W p l e room_1 s m #[Value.ref b] below meth c H' locs' (80 + 3 * (cn + 1)) (115267 + 12288 * (cn + 1)) Q (F0 m 948 ls [])) : W p l e room_1 s m #[Value.ref b] below meth c H locs (80 + 3 * cn) (115267 + 12288 * cn) Q (F0 m 236 ls []) := by
  obtain ⟨r, r', sx2, sm2, lm2, hfx, hfm, heq, hR⟩ := hO
  obtain ⟨hx, hb, hml, hown, hts⟩ := CX.1
  have hbA : ¬ AL s b := Nat.not_le.mpr hbl
  refine lv_aload_n hx hb dL_law_236 rfl (lv_at hl 1 rfl) ?_
  refine lv_aload_n hx hb dL_law_237 rfl (lv_at hl 0 rfl) ?_
  refine lv_iload_n hx hb dL_law_238 rfl (lv_at hl 3 rfl) ?_
  refine lv_iconst (v := (1 : Int32)) hx hb dL_law_239 (by decide) ?_
  refine lv_iadd hx hb dL_law_240 ?_
  refine va_sld hx hb hX hbl hbA hw.1.2.2 (hix 1 (by decide)) dL_law_241 ?_
  refine lv_aload_n hx hb dL_law_242 rfl (lv_at hl 0 rfl) ?_
  refine lv_iload_n hx hb dL_law_243 rfl (lv_at hl 3 rfl) ?_
  refine lv_iconst (v := (2 : Int32)) hx hb dL_law_244 (by decide) ?_
  refine lv_iadd hx hb dL_law_245 ?_
  refine va_sld hx hb hX hbl hbA hw.1.2.2 (hix 2 (by decide)) dL_law_246 ?_
  refine r_cVlF (As := [.int (xs (x3 + 1).toNatClampNeg), .int (xs (x3 + 2).toNatClampNeg)]) (rest := []) CX hw.1 0 (by decide) (ci := 11) rfl rfl (mX11_take l D T (adr a g) lg0 H.size (xs (x3 + 1).toNatClampNeg) (xs (x3 + 2).toNatClampNeg) sx hfx) (cwV 2 hts GV_X11_take rfl rfl rfl (by decide +kernel) ⟨Nat.le_of_ble_eq_true rfl, Nat.le_of_ble_eq_true rfl⟩) rfl hl.1 rfl (Nat.le_of_ble_eq_true rfl) dL_law_247 ⟨by have q1 : room_1.cells = 600000 := rfl; omega, by have q2 : room_1.slots = 7302250 := rfl; omega⟩ (fun ad' H' locs' hp hw1 hfr hnew => ?_)
  subst hp
  have hwm := hw.2.1.keep hw1.2.2 hfr hw.2.2
  have hdis := dis_new hw.2.1 hw.2.2 hnew
  replace hw : LW D T a g am sx2 sm lm s H' locs' := ⟨hw1, hwm, hdis⟩
  clear hw1 hwm hdis hfr hnew
  replace hl : lv_has ls 4 [(0, .ref b), (1, .ref (adr a g 0)), (2, .ref (am 0)), (3, .int x3)] := hl
  refine W.widen (k := 80 + 3 * cn + 3) (n := 115267 + 12288 * cn + 12288) (by omega) (by omega) ?_
  refine lv_aload_n hx hb dL_law_250 rfl (lv_at hl 2 rfl) ?_
  refine lv_aload_n hx hb dL_law_251 rfl (lv_at hl 0 rfl) ?_
  refine lv_iload_n hx hb dL_law_252 rfl (lv_at hl 3 rfl) ?_
  refine lv_iconst (v := (1 : Int32)) hx hb dL_law_253 (by decide) ?_
  refine lv_iadd hx hb dL_law_254 ?_
  refine va_sld hx hb hX hbl hbA hw.1.2.2 (hix 1 (by decide)) dL_law_255 ?_
  refine lv_aload_n hx hb dL_law_256 rfl (lv_at hl 0 rfl) ?_
  refine lv_iload_n hx hb dL_law_257 rfl (lv_at hl 3 rfl) ?_
  refine lv_iconst (v := (2 : Int32)) hx hb dL_law_258 (by decide) ?_
  refine lv_iadd hx hb dL_law_259 ?_
  refine va_sld hx hb hX hbl hbA hw.1.2.2 (hix 2 (by decide)) dL_law_260 ?_
  refine r_cVlF (As := [.int (xs (x3 + 1).toNatClampNeg), .int (xs (x3 + 2).toNatClampNeg)]) (rest := [.long r]) CM hw.2.1 0 (by decide) (ci := 12) rfl rfl (mX12_take l D T am H'.size (xs (x3 + 1).toNatClampNeg) (xs (x3 + 2).toNatClampNeg) sm lm hfm) (cwV 2 hts GV_X12_take rfl rfl rfl (by decide +kernel) ⟨Nat.le_of_ble_eq_true rfl, Nat.le_of_ble_eq_true rfl⟩) rfl hl.1 rfl (Nat.le_of_ble_eq_true rfl) dL_law_261 ⟨by have q1 : room_1.cells = 600000 := rfl; omega, by have q2 : room_1.slots = 7302250 := rfl; omega⟩ (fun ad'' H2 locs2 hp hw1 hfr hnew => ?_)
  subst hp
  have hwx := hw.1.keep hw1.2.2 hfr (fun i j hi hj e => hw.2.2 j i hj hi e.symm)
  replace hw : LW D T a g am sx2 sm2 lm2 s H2 locs2 := ⟨hwx, hw1, hw.2.2⟩
  refine W.widen (k := 80 + 3 * (cn + 1)) (n := 115267 + 12288 * (cn + 1)) (by omega) (by omega) ?_
  refine W.lcmp hx hb dL_law_264 ?_
  refine lv_if_eq (tgt := 948) hx hb dL_law_265 (by decide) (fun c9 => ?_) (fun c9 => absurd ((lg_cmp_eq r r').mpr (heq rfl)) c9)
  exact hnext g sx2 sm2 lm2 _ _ hR hw hl
set_option maxHeartbeats 4000000 in
set_option maxRecDepth 100000 in
theorem law_c3 (CX : Cx p s m #[Value.ref b] meth c code 4 RL lw_tbl ret D vwCl (tysC T) (AL s) true nwL) (CM : Cx p s m #[Value.ref b] meth c code 4 RL lw_tbl ret D vwCl (tysM T) (AL s) false []) (hX : va_X b L xs s s.heap) (hbl : b < s.heap.size) {Q : State → Prop} {g : Nat → Nat} {sx sm : Sg} {lm : Lg} {H : Heap} {locs : List Loc} {ls : Array Slot} {cn : Nat} (hcn : cn ≤ 511) {x3 : Int32} (hix : ∀ k : Nat, k < 5 → vp_in (x3 + nI k) L) {R' : Sg → Sg → Lg → Prop} (hO : OpL true (fX11_pen (xs (x3 + 1).toNatClampNeg) (xs (x3 + 2).toNatClampNeg) sx) (fX12_pen (xs (x3 + 1).toNatClampNeg) (xs (x3 + 2).toNatClampNeg) sm lm) R') (hw : LW D T a g am sx sm lm s H locs) (hl : lv_has ls 4 [(0, .ref b), (1, .ref (adr a g 0)), (2, .ref (am 0)), (3, .int x3)])
    (hnext : ∀ (g' : Nat → Nat) (sx' sm' : Sg) (lm' : Lg) (H' : Heap) (locs' : List Loc), R' sx' sm' lm' → LW D T a g' am sx' sm' lm' s H' locs' → lv_has ls 4 [(0, .ref b), (1, .ref (adr a g' 0)), (2, .ref (am 0)), (3, .int x3)] → W p l e room_1 s m #[Value.ref b] below meth c H' locs' (80 + 3 * (cn + 1)) (115267 + 12288 * (cn + 1)) Q (F0 m 948 ls [])) : W p l e room_1 s m #[Value.ref b] below meth c H locs (80 + 3 * cn) (115267 + 12288 * cn) Q (F0 m 270 ls []) := by
  obtain ⟨r, r', sx2, sm2, lm2, hfx, hfm, heq, hR⟩ := hO
  obtain ⟨hx, hb, hml, hown, hts⟩ := CX.1
  have hbA : ¬ AL s b := Nat.not_le.mpr hbl
  refine lv_aload_n hx hb dL_law_270 rfl (lv_at hl 1 rfl) ?_
  refine lv_aload_n hx hb dL_law_271 rfl (lv_at hl 0 rfl) ?_
  refine lv_iload_n hx hb dL_law_272 rfl (lv_at hl 3 rfl) ?_
  refine lv_iconst (v := (1 : Int32)) hx hb dL_law_273 (by decide) ?_
  refine lv_iadd hx hb dL_law_274 ?_
  refine va_sld hx hb hX hbl hbA hw.1.2.2 (hix 1 (by decide)) dL_law_275 ?_
  refine lv_aload_n hx hb dL_law_276 rfl (lv_at hl 0 rfl) ?_
  refine lv_iload_n hx hb dL_law_277 rfl (lv_at hl 3 rfl) ?_
  refine lv_iconst (v := (2 : Int32)) hx hb dL_law_278 (by decide) ?_
  refine lv_iadd hx hb dL_law_279 ?_
  refine va_sld hx hb hX hbl hbA hw.1.2.2 (hix 2 (by decide)) dL_law_280 ?_
  refine r_cVlF (As := [.int (xs (x3 + 1).toNatClampNeg), .int (xs (x3 + 2).toNatClampNeg)]) (rest := []) CX hw.1 0 (by decide) (ci := 11) rfl rfl (mX11_pen l D T (adr a g) lg0 H.size (xs (x3 + 1).toNatClampNeg) (xs (x3 + 2).toNatClampNeg) sx hfx) (cwV 2 hts GV_X11_pen rfl rfl rfl (by decide +kernel) ⟨Nat.le_of_ble_eq_true rfl, Nat.le_of_ble_eq_true rfl⟩) rfl hl.1 rfl (Nat.le_of_ble_eq_true rfl) dL_law_281 ⟨by have q1 : room_1.cells = 600000 := rfl; omega, by have q2 : room_1.slots = 7302250 := rfl; omega⟩ (fun ad' H' locs' hp hw1 hfr hnew => ?_)
  subst hp
  have hwm := hw.2.1.keep hw1.2.2 hfr hw.2.2
  have hdis := dis_new hw.2.1 hw.2.2 hnew
  replace hw : LW D T a g am sx2 sm lm s H' locs' := ⟨hw1, hwm, hdis⟩
  clear hw1 hwm hdis hfr hnew
  replace hl : lv_has ls 4 [(0, .ref b), (1, .ref (adr a g 0)), (2, .ref (am 0)), (3, .int x3)] := hl
  refine W.widen (k := 80 + 3 * cn + 3) (n := 115267 + 12288 * cn + 12288) (by omega) (by omega) ?_
  refine lv_aload_n hx hb dL_law_284 rfl (lv_at hl 2 rfl) ?_
  refine lv_aload_n hx hb dL_law_285 rfl (lv_at hl 0 rfl) ?_
  refine lv_iload_n hx hb dL_law_286 rfl (lv_at hl 3 rfl) ?_
  refine lv_iconst (v := (1 : Int32)) hx hb dL_law_287 (by decide) ?_
  refine lv_iadd hx hb dL_law_288 ?_
  refine va_sld hx hb hX hbl hbA hw.1.2.2 (hix 1 (by decide)) dL_law_289 ?_
  refine lv_aload_n hx hb dL_law_290 rfl (lv_at hl 0 rfl) ?_
  refine lv_iload_n hx hb dL_law_291 rfl (lv_at hl 3 rfl) ?_
  refine lv_iconst (v := (2 : Int32)) hx hb dL_law_292 (by decide) ?_
  refine lv_iadd hx hb dL_law_293 ?_
  refine va_sld hx hb hX hbl hbA hw.1.2.2 (hix 2 (by decide)) dL_law_294 ?_
  refine r_cVlF (As := [.int (xs (x3 + 1).toNatClampNeg), .int (xs (x3 + 2).toNatClampNeg)]) (rest := [.long r]) CM hw.2.1 0 (by decide) (ci := 12) rfl rfl (mX12_pen l D T am H'.size (xs (x3 + 1).toNatClampNeg) (xs (x3 + 2).toNatClampNeg) sm lm hfm) (cwV 2 hts GV_X12_pen rfl rfl rfl (by decide +kernel) ⟨Nat.le_of_ble_eq_true rfl, Nat.le_of_ble_eq_true rfl⟩) rfl hl.1 rfl (Nat.le_of_ble_eq_true rfl) dL_law_295 ⟨by have q1 : room_1.cells = 600000 := rfl; omega, by have q2 : room_1.slots = 7302250 := rfl; omega⟩ (fun ad'' H2 locs2 hp hw1 hfr hnew => ?_)
  subst hp
  have hwx := hw.1.keep hw1.2.2 hfr (fun i j hi hj e => hw.2.2 j i hj hi e.symm)
  replace hw : LW D T a g am sx2 sm2 lm2 s H2 locs2 := ⟨hwx, hw1, hw.2.2⟩
  refine W.widen (k := 80 + 3 * (cn + 1)) (n := 115267 + 12288 * (cn + 1)) (by omega) (by omega) ?_
  refine W.lcmp hx hb dL_law_298 ?_
  refine lv_if_eq (tgt := 948) hx hb dL_law_299 (by decide) (fun c9 => ?_) (fun c9 => absurd ((lg_cmp_eq r r').mpr (heq rfl)) c9)
  exact hnext g sx2 sm2 lm2 _ _ hR hw hl
set_option maxHeartbeats 4000000 in
set_option maxRecDepth 100000 in
theorem law_c4 (CX : Cx p s m #[Value.ref b] meth c code 4 RL lw_tbl ret D vwCl (tysC T) (AL s) true nwL) (CM : Cx p s m #[Value.ref b] meth c code 4 RL lw_tbl ret D vwCl (tysM T) (AL s) false []) (hX : va_X b L xs s s.heap) (hbl : b < s.heap.size) {Q : State → Prop} {g : Nat → Nat} {sx sm : Sg} {lm : Lg} {H : Heap} {locs : List Loc} {ls : Array Slot} {cn : Nat} (hcn : cn ≤ 511) {x3 : Int32} (hix : ∀ k : Nat, k < 5 → vp_in (x3 + nI k) L) {R' : Sg → Sg → Lg → Prop} (hO : OpL true (fX11_peck (xs (x3 + 1).toNatClampNeg) (xs (x3 + 2).toNatClampNeg) (((xs (x3 + 3).toNatClampNeg).toInt64 <<< ((32 : Int32).toInt64 &&& 63)) ||| ((xs (x3 + 4).toNatClampNeg).toInt64 &&& (4294967295 : Int64))) sx) (fX12_peck (xs (x3 + 1).toNatClampNeg) (xs (x3 + 2).toNatClampNeg) (((xs (x3 + 3).toNatClampNeg).toInt64 <<< ((32 : Int32).toInt64 &&& 63)) ||| ((xs (x3 + 4).toNatClampNeg).toInt64 &&& (4294967295 : Int64))) sm lm) R') (hw : LW D T a g am sx sm lm s H locs) (hl : lv_has ls 4 [(0, .ref b), (1, .ref (adr a g 0)), (2, .ref (am 0)), (3, .int x3)])
    (hnext : ∀ (g' : Nat → Nat) (sx' sm' : Sg) (lm' : Lg) (H' : Heap) (locs' : List Loc), R' sx' sm' lm' → LW D T a g' am sx' sm' lm' s H' locs' → lv_has ls 4 [(0, .ref b), (1, .ref (adr a g' 0)), (2, .ref (am 0)), (3, .int x3)] → W p l e room_1 s m #[Value.ref b] below meth c H' locs' (80 + 3 * (cn + 1)) (115267 + 12288 * (cn + 1)) Q (F0 m 948 ls [])) : W p l e room_1 s m #[Value.ref b] below meth c H locs (80 + 3 * cn) (115267 + 12288 * cn) Q (F0 m 304 ls []) := by
  obtain ⟨r, r', sx2, sm2, lm2, hfx, hfm, heq, hR⟩ := hO
  obtain ⟨hx, hb, hml, hown, hts⟩ := CX.1
  have hbA : ¬ AL s b := Nat.not_le.mpr hbl
  refine lv_aload_n hx hb dL_law_304 rfl (lv_at hl 1 rfl) ?_
  refine lv_aload_n hx hb dL_law_305 rfl (lv_at hl 0 rfl) ?_
  refine lv_iload_n hx hb dL_law_306 rfl (lv_at hl 3 rfl) ?_
  refine lv_iconst (v := (1 : Int32)) hx hb dL_law_307 (by decide) ?_
  refine lv_iadd hx hb dL_law_308 ?_
  refine va_sld hx hb hX hbl hbA hw.1.2.2 (hix 1 (by decide)) dL_law_309 ?_
  refine lv_aload_n hx hb dL_law_310 rfl (lv_at hl 0 rfl) ?_
  refine lv_iload_n hx hb dL_law_311 rfl (lv_at hl 3 rfl) ?_
  refine lv_iconst (v := (2 : Int32)) hx hb dL_law_312 (by decide) ?_
  refine lv_iadd hx hb dL_law_313 ?_
  refine va_sld hx hb hX hbl hbA hw.1.2.2 (hix 2 (by decide)) dL_law_314 ?_
  refine lv_aload_n hx hb dL_law_315 rfl (lv_at hl 0 rfl) ?_
  refine lv_iload_n hx hb dL_law_316 rfl (lv_at hl 3 rfl) ?_
  refine lv_iconst (v := (3 : Int32)) hx hb dL_law_317 (by decide) ?_
  refine lv_iadd hx hb dL_law_318 ?_
  refine va_sld hx hb hX hbl hbA hw.1.2.2 (hix 3 (by decide)) dL_law_319 ?_
  refine lv_i2l (v := (xs (x3 + 3).toNatClampNeg).toInt64) hx hb dL_law_320 rfl ?_
  refine lv_bipush (v := (32 : Int32)) hx hb dL_law_321 (by decide) ?_
  refine lv_lshl (v := ((xs (x3 + 3).toNatClampNeg).toInt64 <<< ((32 : Int32).toInt64 &&& 63))) hx hb dL_law_323 rfl ?_
  refine lv_aload_n hx hb dL_law_324 rfl (lv_at hl 0 rfl) ?_
  refine lv_iload_n hx hb dL_law_325 rfl (lv_at hl 3 rfl) ?_
  refine lv_iconst (v := (4 : Int32)) hx hb dL_law_326 (by decide) ?_
  refine lv_iadd hx hb dL_law_327 ?_
  refine va_sld hx hb hX hbl hbA hw.1.2.2 (hix 4 (by decide)) dL_law_328 ?_
  refine lv_i2l (v := (xs (x3 + 4).toNatClampNeg).toInt64) hx hb dL_law_329 rfl ?_
  refine lv_ldc2 hx hb hown (hts _ kL_c30) dL_law_330 ?_
  refine lv_land hx hb dL_law_333 ?_
  refine lv_lor hx hb dL_law_334 ?_
  refine r_cVlF (As := [.int (xs (x3 + 1).toNatClampNeg), .int (xs (x3 + 2).toNatClampNeg), .long (((xs (x3 + 3).toNatClampNeg).toInt64 <<< ((32 : Int32).toInt64 &&& 63)) ||| ((xs (x3 + 4).toNatClampNeg).toInt64 &&& (4294967295 : Int64)))]) (rest := []) CX hw.1 0 (by decide) (ci := 11) rfl rfl (mX11_peck l D T (adr a g) lg0 H.size (xs (x3 + 1).toNatClampNeg) (xs (x3 + 2).toNatClampNeg) (((xs (x3 + 3).toNatClampNeg).toInt64 <<< ((32 : Int32).toInt64 &&& 63)) ||| ((xs (x3 + 4).toNatClampNeg).toInt64 &&& (4294967295 : Int64))) sx hfx) (cwV 3 hts GV_X11_peck rfl rfl rfl (by decide +kernel) ⟨Nat.le_of_ble_eq_true rfl, Nat.le_of_ble_eq_true rfl⟩) rfl hl.1 rfl (Nat.le_of_ble_eq_true rfl) dL_law_335 ⟨by have q1 : room_1.cells = 600000 := rfl; omega, by have q2 : room_1.slots = 7302250 := rfl; omega⟩ (fun ad' H' locs' hp hw1 hfr hnew => ?_)
  subst hp
  have hwm := hw.2.1.keep hw1.2.2 hfr hw.2.2
  have hdis := dis_new hw.2.1 hw.2.2 hnew
  replace hw : LW D T a g am sx2 sm lm s H' locs' := ⟨hw1, hwm, hdis⟩
  clear hw1 hwm hdis hfr hnew
  replace hl : lv_has ls 4 [(0, .ref b), (1, .ref (adr a g 0)), (2, .ref (am 0)), (3, .int x3)] := hl
  refine W.widen (k := 80 + 3 * cn + 3) (n := 115267 + 12288 * cn + 12288) (by omega) (by omega) ?_
  refine lv_aload_n hx hb dL_law_338 rfl (lv_at hl 2 rfl) ?_
  refine lv_aload_n hx hb dL_law_339 rfl (lv_at hl 0 rfl) ?_
  refine lv_iload_n hx hb dL_law_340 rfl (lv_at hl 3 rfl) ?_
  refine lv_iconst (v := (1 : Int32)) hx hb dL_law_341 (by decide) ?_
  refine lv_iadd hx hb dL_law_342 ?_
  refine va_sld hx hb hX hbl hbA hw.1.2.2 (hix 1 (by decide)) dL_law_343 ?_
  refine lv_aload_n hx hb dL_law_344 rfl (lv_at hl 0 rfl) ?_
  refine lv_iload_n hx hb dL_law_345 rfl (lv_at hl 3 rfl) ?_
  refine lv_iconst (v := (2 : Int32)) hx hb dL_law_346 (by decide) ?_
  refine lv_iadd hx hb dL_law_347 ?_
  refine va_sld hx hb hX hbl hbA hw.1.2.2 (hix 2 (by decide)) dL_law_348 ?_
  refine lv_aload_n hx hb dL_law_349 rfl (lv_at hl 0 rfl) ?_
  refine lv_iload_n hx hb dL_law_350 rfl (lv_at hl 3 rfl) ?_
  refine lv_iconst (v := (3 : Int32)) hx hb dL_law_351 (by decide) ?_
  refine lv_iadd hx hb dL_law_352 ?_
  refine va_sld hx hb hX hbl hbA hw.1.2.2 (hix 3 (by decide)) dL_law_353 ?_
  refine lv_i2l (v := (xs (x3 + 3).toNatClampNeg).toInt64) hx hb dL_law_354 rfl ?_
  refine lv_bipush (v := (32 : Int32)) hx hb dL_law_355 (by decide) ?_
  refine lv_lshl (v := ((xs (x3 + 3).toNatClampNeg).toInt64 <<< ((32 : Int32).toInt64 &&& 63))) hx hb dL_law_357 rfl ?_
  refine lv_aload_n hx hb dL_law_358 rfl (lv_at hl 0 rfl) ?_
  refine lv_iload_n hx hb dL_law_359 rfl (lv_at hl 3 rfl) ?_
  refine lv_iconst (v := (4 : Int32)) hx hb dL_law_360 (by decide) ?_
  refine lv_iadd hx hb dL_law_361 ?_
  refine va_sld hx hb hX hbl hbA hw.1.2.2 (hix 4 (by decide)) dL_law_362 ?_
  refine lv_i2l (v := (xs (x3 + 4).toNatClampNeg).toInt64) hx hb dL_law_363 rfl ?_
  refine lv_ldc2 hx hb hown (hts _ kL_c30) dL_law_364 ?_
  refine lv_land hx hb dL_law_367 ?_
  refine lv_lor hx hb dL_law_368 ?_
  refine r_cVlF (As := [.int (xs (x3 + 1).toNatClampNeg), .int (xs (x3 + 2).toNatClampNeg), .long (((xs (x3 + 3).toNatClampNeg).toInt64 <<< ((32 : Int32).toInt64 &&& 63)) ||| ((xs (x3 + 4).toNatClampNeg).toInt64 &&& (4294967295 : Int64)))]) (rest := [.long r]) CM hw.2.1 0 (by decide) (ci := 12) rfl rfl (mX12_peck l D T am H'.size (xs (x3 + 1).toNatClampNeg) (xs (x3 + 2).toNatClampNeg) (((xs (x3 + 3).toNatClampNeg).toInt64 <<< ((32 : Int32).toInt64 &&& 63)) ||| ((xs (x3 + 4).toNatClampNeg).toInt64 &&& (4294967295 : Int64))) sm lm hfm) (cwV 3 hts GV_X12_peck rfl rfl rfl (by decide +kernel) ⟨Nat.le_of_ble_eq_true rfl, Nat.le_of_ble_eq_true rfl⟩) rfl hl.1 rfl (Nat.le_of_ble_eq_true rfl) dL_law_369 ⟨by have q1 : room_1.cells = 600000 := rfl; omega, by have q2 : room_1.slots = 7302250 := rfl; omega⟩ (fun ad'' H2 locs2 hp hw1 hfr hnew => ?_)
  subst hp
  have hwx := hw.1.keep hw1.2.2 hfr (fun i j hi hj e => hw.2.2 j i hj hi e.symm)
  replace hw : LW D T a g am sx2 sm2 lm2 s H2 locs2 := ⟨hwx, hw1, hw.2.2⟩
  refine W.widen (k := 80 + 3 * (cn + 1)) (n := 115267 + 12288 * (cn + 1)) (by omega) (by omega) ?_
  refine W.lcmp hx hb dL_law_372 ?_
  refine lv_if_eq (tgt := 948) hx hb dL_law_373 (by decide) (fun c9 => ?_) (fun c9 => absurd ((lg_cmp_eq r r').mpr (heq rfl)) c9)
  exact hnext g sx2 sm2 lm2 _ _ hR hw hl
set_option maxHeartbeats 4000000 in
set_option maxRecDepth 100000 in
theorem law_c5 (CX : Cx p s m #[Value.ref b] meth c code 4 RL lw_tbl ret D vwCl (tysC T) (AL s) true nwL) (CM : Cx p s m #[Value.ref b] meth c code 4 RL lw_tbl ret D vwCl (tysM T) (AL s) false []) (hX : va_X b L xs s s.heap) (hbl : b < s.heap.size) {Q : State → Prop} {g : Nat → Nat} {sx sm : Sg} {lm : Lg} {H : Heap} {locs : List Loc} {ls : Array Slot} {cn : Nat} (hcn : cn ≤ 511) {x3 : Int32} (hix : ∀ k : Nat, k < 5 → vp_in (x3 + nI k) L) {R' : Sg → Sg → Lg → Prop} (hO : OpL true (fX11_leave (xs (x3 + 1).toNatClampNeg) sx) (fX12_leave (xs (x3 + 1).toNatClampNeg) sm lm) R') (hw : LW D T a g am sx sm lm s H locs) (hl : lv_has ls 4 [(0, .ref b), (1, .ref (adr a g 0)), (2, .ref (am 0)), (3, .int x3)])
    (hnext : ∀ (g' : Nat → Nat) (sx' sm' : Sg) (lm' : Lg) (H' : Heap) (locs' : List Loc), R' sx' sm' lm' → LW D T a g' am sx' sm' lm' s H' locs' → lv_has ls 4 [(0, .ref b), (1, .ref (adr a g' 0)), (2, .ref (am 0)), (3, .int x3)] → W p l e room_1 s m #[Value.ref b] below meth c H' locs' (80 + 3 * (cn + 1)) (115267 + 12288 * (cn + 1)) Q (F0 m 948 ls [])) : W p l e room_1 s m #[Value.ref b] below meth c H locs (80 + 3 * cn) (115267 + 12288 * cn) Q (F0 m 378 ls []) := by
  obtain ⟨r, r', sx2, sm2, lm2, hfx, hfm, heq, hR⟩ := hO
  obtain ⟨hx, hb, hml, hown, hts⟩ := CX.1
  have hbA : ¬ AL s b := Nat.not_le.mpr hbl
  refine lv_aload_n hx hb dL_law_378 rfl (lv_at hl 1 rfl) ?_
  refine lv_aload_n hx hb dL_law_379 rfl (lv_at hl 0 rfl) ?_
  refine lv_iload_n hx hb dL_law_380 rfl (lv_at hl 3 rfl) ?_
  refine lv_iconst (v := (1 : Int32)) hx hb dL_law_381 (by decide) ?_
  refine lv_iadd hx hb dL_law_382 ?_
  refine va_sld hx hb hX hbl hbA hw.1.2.2 (hix 1 (by decide)) dL_law_383 ?_
  refine r_cVlF (As := [.int (xs (x3 + 1).toNatClampNeg)]) (rest := []) CX hw.1 0 (by decide) (ci := 11) rfl rfl (mX11_leave l D T (adr a g) lg0 H.size (xs (x3 + 1).toNatClampNeg) sx hfx) (cwV 1 hts GV_X11_leave rfl rfl rfl (by decide +kernel) ⟨Nat.le_of_ble_eq_true rfl, Nat.le_of_ble_eq_true rfl⟩) rfl hl.1 rfl (Nat.le_of_ble_eq_true rfl) dL_law_384 ⟨by have q1 : room_1.cells = 600000 := rfl; omega, by have q2 : room_1.slots = 7302250 := rfl; omega⟩ (fun ad' H' locs' hp hw1 hfr hnew => ?_)
  subst hp
  have hwm := hw.2.1.keep hw1.2.2 hfr hw.2.2
  have hdis := dis_new hw.2.1 hw.2.2 hnew
  replace hw : LW D T a g am sx2 sm lm s H' locs' := ⟨hw1, hwm, hdis⟩
  clear hw1 hwm hdis hfr hnew
  replace hl : lv_has ls 4 [(0, .ref b), (1, .ref (adr a g 0)), (2, .ref (am 0)), (3, .int x3)] := hl
  refine W.widen (k := 80 + 3 * cn + 3) (n := 115267 + 12288 * cn + 12288) (by omega) (by omega) ?_
  refine lv_aload_n hx hb dL_law_387 rfl (lv_at hl 2 rfl) ?_
  refine lv_aload_n hx hb dL_law_388 rfl (lv_at hl 0 rfl) ?_
  refine lv_iload_n hx hb dL_law_389 rfl (lv_at hl 3 rfl) ?_
  refine lv_iconst (v := (1 : Int32)) hx hb dL_law_390 (by decide) ?_
  refine lv_iadd hx hb dL_law_391 ?_
  refine va_sld hx hb hX hbl hbA hw.1.2.2 (hix 1 (by decide)) dL_law_392 ?_
  refine r_cVlF (As := [.int (xs (x3 + 1).toNatClampNeg)]) (rest := [.long r]) CM hw.2.1 0 (by decide) (ci := 12) rfl rfl (mX12_leave l D T am H'.size (xs (x3 + 1).toNatClampNeg) sm lm hfm) (cwV 1 hts GV_X12_leave rfl rfl rfl (by decide +kernel) ⟨Nat.le_of_ble_eq_true rfl, Nat.le_of_ble_eq_true rfl⟩) rfl hl.1 rfl (Nat.le_of_ble_eq_true rfl) dL_law_393 ⟨by have q1 : room_1.cells = 600000 := rfl; omega, by have q2 : room_1.slots = 7302250 := rfl; omega⟩ (fun ad'' H2 locs2 hp hw1 hfr hnew => ?_)
  subst hp
  have hwx := hw.1.keep hw1.2.2 hfr (fun i j hi hj e => hw.2.2 j i hj hi e.symm)
  replace hw : LW D T a g am sx2 sm2 lm2 s H2 locs2 := ⟨hwx, hw1, hw.2.2⟩
  refine W.widen (k := 80 + 3 * (cn + 1)) (n := 115267 + 12288 * (cn + 1)) (by omega) (by omega) ?_
  refine W.lcmp hx hb dL_law_396 ?_
  refine lv_if_eq (tgt := 948) hx hb dL_law_397 (by decide) (fun c9 => ?_) (fun c9 => absurd ((lg_cmp_eq r r').mpr (heq rfl)) c9)
  exact hnext g sx2 sm2 lm2 _ _ hR hw hl
set_option maxHeartbeats 4000000 in
set_option maxRecDepth 100000 in
theorem law_c6 (CX : Cx p s m #[Value.ref b] meth c code 4 RL lw_tbl ret D vwCl (tysC T) (AL s) true nwL) (CM : Cx p s m #[Value.ref b] meth c code 4 RL lw_tbl ret D vwCl (tysM T) (AL s) false []) (hX : va_X b L xs s s.heap) (hbl : b < s.heap.size) {Q : State → Prop} {g : Nat → Nat} {sx sm : Sg} {lm : Lg} {H : Heap} {locs : List Loc} {ls : Array Slot} {cn : Nat} (hcn : cn ≤ 511) {x3 : Int32} (hix : ∀ k : Nat, k < 5 → vp_in (x3 + nI k) L) {R' : Sg → Sg → Lg → Prop} (hO : OpL true (fX11_about (xs (x3 + 1).toNatClampNeg) (xs (x3 + 2).toNatClampNeg) sx) (fX12_about (xs (x3 + 1).toNatClampNeg) (xs (x3 + 2).toNatClampNeg) sm lm) R') (hw : LW D T a g am sx sm lm s H locs) (hl : lv_has ls 4 [(0, .ref b), (1, .ref (adr a g 0)), (2, .ref (am 0)), (3, .int x3)])
    (hnext : ∀ (g' : Nat → Nat) (sx' sm' : Sg) (lm' : Lg) (H' : Heap) (locs' : List Loc), R' sx' sm' lm' → LW D T a g' am sx' sm' lm' s H' locs' → lv_has ls 4 [(0, .ref b), (1, .ref (adr a g' 0)), (2, .ref (am 0)), (3, .int x3)] → W p l e room_1 s m #[Value.ref b] below meth c H' locs' (80 + 3 * (cn + 1)) (115267 + 12288 * (cn + 1)) Q (F0 m 948 ls [])) : W p l e room_1 s m #[Value.ref b] below meth c H locs (80 + 3 * cn) (115267 + 12288 * cn) Q (F0 m 402 ls []) := by
  obtain ⟨r, r', sx2, sm2, lm2, hfx, hfm, heq, hR⟩ := hO
  obtain ⟨hx, hb, hml, hown, hts⟩ := CX.1
  have hbA : ¬ AL s b := Nat.not_le.mpr hbl
  refine lv_aload_n hx hb dL_law_402 rfl (lv_at hl 1 rfl) ?_
  refine lv_aload_n hx hb dL_law_403 rfl (lv_at hl 0 rfl) ?_
  refine lv_iload_n hx hb dL_law_404 rfl (lv_at hl 3 rfl) ?_
  refine lv_iconst (v := (1 : Int32)) hx hb dL_law_405 (by decide) ?_
  refine lv_iadd hx hb dL_law_406 ?_
  refine va_sld hx hb hX hbl hbA hw.1.2.2 (hix 1 (by decide)) dL_law_407 ?_
  refine lv_aload_n hx hb dL_law_408 rfl (lv_at hl 0 rfl) ?_
  refine lv_iload_n hx hb dL_law_409 rfl (lv_at hl 3 rfl) ?_
  refine lv_iconst (v := (2 : Int32)) hx hb dL_law_410 (by decide) ?_
  refine lv_iadd hx hb dL_law_411 ?_
  refine va_sld hx hb hX hbl hbA hw.1.2.2 (hix 2 (by decide)) dL_law_412 ?_
  refine r_cVlF (As := [.int (xs (x3 + 1).toNatClampNeg), .int (xs (x3 + 2).toNatClampNeg)]) (rest := []) CX hw.1 0 (by decide) (ci := 11) rfl rfl (mX11_about l D T (adr a g) lg0 H.size (xs (x3 + 1).toNatClampNeg) (xs (x3 + 2).toNatClampNeg) sx hfx) (cwV 2 hts GV_X11_about rfl rfl rfl (by decide +kernel) ⟨Nat.le_of_ble_eq_true rfl, Nat.le_of_ble_eq_true rfl⟩) rfl hl.1 rfl (Nat.le_of_ble_eq_true rfl) dL_law_413 ⟨by have q1 : room_1.cells = 600000 := rfl; omega, by have q2 : room_1.slots = 7302250 := rfl; omega⟩ (fun ad' H' locs' hp hw1 hfr hnew => ?_)
  subst hp
  have hwm := hw.2.1.keep hw1.2.2 hfr hw.2.2
  have hdis := dis_new hw.2.1 hw.2.2 hnew
  replace hw : LW D T a g am sx2 sm lm s H' locs' := ⟨hw1, hwm, hdis⟩
  clear hw1 hwm hdis hfr hnew
  replace hl : lv_has ls 4 [(0, .ref b), (1, .ref (adr a g 0)), (2, .ref (am 0)), (3, .int x3)] := hl
  refine W.widen (k := 80 + 3 * cn + 3) (n := 115267 + 12288 * cn + 12288) (by omega) (by omega) ?_
  refine lv_aload_n hx hb dL_law_416 rfl (lv_at hl 2 rfl) ?_
  refine lv_aload_n hx hb dL_law_417 rfl (lv_at hl 0 rfl) ?_
  refine lv_iload_n hx hb dL_law_418 rfl (lv_at hl 3 rfl) ?_
  refine lv_iconst (v := (1 : Int32)) hx hb dL_law_419 (by decide) ?_
  refine lv_iadd hx hb dL_law_420 ?_
  refine va_sld hx hb hX hbl hbA hw.1.2.2 (hix 1 (by decide)) dL_law_421 ?_
  refine lv_aload_n hx hb dL_law_422 rfl (lv_at hl 0 rfl) ?_
  refine lv_iload_n hx hb dL_law_423 rfl (lv_at hl 3 rfl) ?_
  refine lv_iconst (v := (2 : Int32)) hx hb dL_law_424 (by decide) ?_
  refine lv_iadd hx hb dL_law_425 ?_
  refine va_sld hx hb hX hbl hbA hw.1.2.2 (hix 2 (by decide)) dL_law_426 ?_
  refine r_cVlF (As := [.int (xs (x3 + 1).toNatClampNeg), .int (xs (x3 + 2).toNatClampNeg)]) (rest := [.long r]) CM hw.2.1 0 (by decide) (ci := 12) rfl rfl (mX12_about l D T am H'.size (xs (x3 + 1).toNatClampNeg) (xs (x3 + 2).toNatClampNeg) sm lm hfm) (cwV 2 hts GV_X12_about rfl rfl rfl (by decide +kernel) ⟨Nat.le_of_ble_eq_true rfl, Nat.le_of_ble_eq_true rfl⟩) rfl hl.1 rfl (Nat.le_of_ble_eq_true rfl) dL_law_427 ⟨by have q1 : room_1.cells = 600000 := rfl; omega, by have q2 : room_1.slots = 7302250 := rfl; omega⟩ (fun ad'' H2 locs2 hp hw1 hfr hnew => ?_)
  subst hp
  have hwx := hw.1.keep hw1.2.2 hfr (fun i j hi hj e => hw.2.2 j i hj hi e.symm)
  replace hw : LW D T a g am sx2 sm2 lm2 s H2 locs2 := ⟨hwx, hw1, hw.2.2⟩
  refine W.widen (k := 80 + 3 * (cn + 1)) (n := 115267 + 12288 * (cn + 1)) (by omega) (by omega) ?_
  refine W.lcmp hx hb dL_law_430 ?_
  refine lv_if_eq (tgt := 948) hx hb dL_law_431 (by decide) (fun c9 => ?_) (fun c9 => absurd ((lg_cmp_eq r r').mpr (heq rfl)) c9)
  exact hnext g sx2 sm2 lm2 _ _ hR hw hl
set_option maxHeartbeats 4000000 in
set_option maxRecDepth 100000 in
theorem law_c7 (CX : Cx p s m #[Value.ref b] meth c code 4 RL lw_tbl ret D vwCl (tysC T) (AL s) true nwL) (CM : Cx p s m #[Value.ref b] meth c code 4 RL lw_tbl ret D vwCl (tysM T) (AL s) false []) (hX : va_X b L xs s s.heap) (hbl : b < s.heap.size) {Q : State → Prop} {g : Nat → Nat} {sx sm : Sg} {lm : Lg} {H : Heap} {locs : List Loc} {ls : Array Slot} {cn : Nat} (hcn : cn ≤ 511) {x3 : Int32} (hix : ∀ k : Nat, k < 5 → vp_in (x3 + nI k) L) {R' : Sg → Sg → Lg → Prop} (hO : OpL true (fX11_isOf (xs (x3 + 1).toNatClampNeg) (xs (x3 + 2).toNatClampNeg) sx) (fX12_isOf (xs (x3 + 1).toNatClampNeg) (xs (x3 + 2).toNatClampNeg) sm lm) R') (hw : LW D T a g am sx sm lm s H locs) (hl : lv_has ls 4 [(0, .ref b), (1, .ref (adr a g 0)), (2, .ref (am 0)), (3, .int x3)])
    (hnext : ∀ (g' : Nat → Nat) (sx' sm' : Sg) (lm' : Lg) (H' : Heap) (locs' : List Loc), R' sx' sm' lm' → LW D T a g' am sx' sm' lm' s H' locs' → lv_has ls 4 [(0, .ref b), (1, .ref (adr a g' 0)), (2, .ref (am 0)), (3, .int x3)] → W p l e room_1 s m #[Value.ref b] below meth c H' locs' (80 + 3 * (cn + 1)) (115267 + 12288 * (cn + 1)) Q (F0 m 948 ls [])) : W p l e room_1 s m #[Value.ref b] below meth c H locs (80 + 3 * cn) (115267 + 12288 * cn) Q (F0 m 436 ls []) := by
  obtain ⟨r, r', sx2, sm2, lm2, hfx, hfm, heq, hR⟩ := hO
  obtain ⟨hx, hb, hml, hown, hts⟩ := CX.1
  have hbA : ¬ AL s b := Nat.not_le.mpr hbl
  refine lv_aload_n hx hb dL_law_436 rfl (lv_at hl 1 rfl) ?_
  refine lv_aload_n hx hb dL_law_437 rfl (lv_at hl 0 rfl) ?_
  refine lv_iload_n hx hb dL_law_438 rfl (lv_at hl 3 rfl) ?_
  refine lv_iconst (v := (1 : Int32)) hx hb dL_law_439 (by decide) ?_
  refine lv_iadd hx hb dL_law_440 ?_
  refine va_sld hx hb hX hbl hbA hw.1.2.2 (hix 1 (by decide)) dL_law_441 ?_
  refine lv_aload_n hx hb dL_law_442 rfl (lv_at hl 0 rfl) ?_
  refine lv_iload_n hx hb dL_law_443 rfl (lv_at hl 3 rfl) ?_
  refine lv_iconst (v := (2 : Int32)) hx hb dL_law_444 (by decide) ?_
  refine lv_iadd hx hb dL_law_445 ?_
  refine va_sld hx hb hX hbl hbA hw.1.2.2 (hix 2 (by decide)) dL_law_446 ?_
  refine r_cVlF (As := [.int (xs (x3 + 1).toNatClampNeg), .int (xs (x3 + 2).toNatClampNeg)]) (rest := []) CX hw.1 0 (by decide) (ci := 11) rfl rfl (mX11_isOf l D T (adr a g) lg0 H.size (xs (x3 + 1).toNatClampNeg) (xs (x3 + 2).toNatClampNeg) sx hfx) (cwV 2 hts GV_X11_isOf rfl rfl rfl (by decide +kernel) ⟨Nat.le_of_ble_eq_true rfl, Nat.le_of_ble_eq_true rfl⟩) rfl hl.1 rfl (Nat.le_of_ble_eq_true rfl) dL_law_447 ⟨by have q1 : room_1.cells = 600000 := rfl; omega, by have q2 : room_1.slots = 7302250 := rfl; omega⟩ (fun ad' H' locs' hp hw1 hfr hnew => ?_)
  subst hp
  have hwm := hw.2.1.keep hw1.2.2 hfr hw.2.2
  have hdis := dis_new hw.2.1 hw.2.2 hnew
  replace hw : LW D T a g am sx2 sm lm s H' locs' := ⟨hw1, hwm, hdis⟩
  clear hw1 hwm hdis hfr hnew
  replace hl : lv_has ls 4 [(0, .ref b), (1, .ref (adr a g 0)), (2, .ref (am 0)), (3, .int x3)] := hl
  refine W.widen (k := 80 + 3 * cn + 3) (n := 115267 + 12288 * cn + 12288) (by omega) (by omega) ?_
  refine lv_aload_n hx hb dL_law_450 rfl (lv_at hl 2 rfl) ?_
  refine lv_aload_n hx hb dL_law_451 rfl (lv_at hl 0 rfl) ?_
  refine lv_iload_n hx hb dL_law_452 rfl (lv_at hl 3 rfl) ?_
  refine lv_iconst (v := (1 : Int32)) hx hb dL_law_453 (by decide) ?_
  refine lv_iadd hx hb dL_law_454 ?_
  refine va_sld hx hb hX hbl hbA hw.1.2.2 (hix 1 (by decide)) dL_law_455 ?_
  refine lv_aload_n hx hb dL_law_456 rfl (lv_at hl 0 rfl) ?_
  refine lv_iload_n hx hb dL_law_457 rfl (lv_at hl 3 rfl) ?_
  refine lv_iconst (v := (2 : Int32)) hx hb dL_law_458 (by decide) ?_
  refine lv_iadd hx hb dL_law_459 ?_
  refine va_sld hx hb hX hbl hbA hw.1.2.2 (hix 2 (by decide)) dL_law_460 ?_
  refine r_cVlF (As := [.int (xs (x3 + 1).toNatClampNeg), .int (xs (x3 + 2).toNatClampNeg)]) (rest := [.long r]) CM hw.2.1 0 (by decide) (ci := 12) rfl rfl (mX12_isOf l D T am H'.size (xs (x3 + 1).toNatClampNeg) (xs (x3 + 2).toNatClampNeg) sm lm hfm) (cwV 2 hts GV_X12_isOf rfl rfl rfl (by decide +kernel) ⟨Nat.le_of_ble_eq_true rfl, Nat.le_of_ble_eq_true rfl⟩) rfl hl.1 rfl (Nat.le_of_ble_eq_true rfl) dL_law_461 ⟨by have q1 : room_1.cells = 600000 := rfl; omega, by have q2 : room_1.slots = 7302250 := rfl; omega⟩ (fun ad'' H2 locs2 hp hw1 hfr hnew => ?_)
  subst hp
  have hwx := hw.1.keep hw1.2.2 hfr (fun i j hi hj e => hw.2.2 j i hj hi e.symm)
  replace hw : LW D T a g am sx2 sm2 lm2 s H2 locs2 := ⟨hwx, hw1, hw.2.2⟩
  refine W.widen (k := 80 + 3 * (cn + 1)) (n := 115267 + 12288 * (cn + 1)) (by omega) (by omega) ?_
  refine W.lcmp hx hb dL_law_464 ?_
  refine lv_if_eq (tgt := 948) hx hb dL_law_465 (by decide) (fun c9 => ?_) (fun c9 => absurd ((lg_cmp_eq r r').mpr (heq rfl)) c9)
  exact hnext g sx2 sm2 lm2 _ _ hR hw hl
set_option maxHeartbeats 4000000 in
set_option maxRecDepth 100000 in
theorem law_c8 (CX : Cx p s m #[Value.ref b] meth c code 4 RL lw_tbl ret D vwCl (tysC T) (AL s) true nwL) (CM : Cx p s m #[Value.ref b] meth c code 4 RL lw_tbl ret D vwCl (tysM T) (AL s) false []) (hX : va_X b L xs s s.heap) (hbl : b < s.heap.size) {Q : State → Prop} {g : Nat → Nat} {sx sm : Sg} {lm : Lg} {H : Heap} {locs : List Loc} {ls : Array Slot} {cn : Nat} (hcn : cn ≤ 511) {x3 : Int32} (hix : ∀ k : Nat, k < 5 → vp_in (x3 + nI k) L) {R' : Sg → Sg → Lg → Prop} (hO : OpL true (fX11_pecks (xs (x3 + 1).toNatClampNeg) (xs (x3 + 2).toNatClampNeg) sx) (fX12_pecks (xs (x3 + 1).toNatClampNeg) (xs (x3 + 2).toNatClampNeg) sm lm) R') (hw : LW D T a g am sx sm lm s H locs) (hl : lv_has ls 4 [(0, .ref b), (1, .ref (adr a g 0)), (2, .ref (am 0)), (3, .int x3)])
    (hnext : ∀ (g' : Nat → Nat) (sx' sm' : Sg) (lm' : Lg) (H' : Heap) (locs' : List Loc), R' sx' sm' lm' → LW D T a g' am sx' sm' lm' s H' locs' → lv_has ls 4 [(0, .ref b), (1, .ref (adr a g' 0)), (2, .ref (am 0)), (3, .int x3)] → W p l e room_1 s m #[Value.ref b] below meth c H' locs' (80 + 3 * (cn + 1)) (115267 + 12288 * (cn + 1)) Q (F0 m 948 ls [])) : W p l e room_1 s m #[Value.ref b] below meth c H locs (80 + 3 * cn) (115267 + 12288 * cn) Q (F0 m 470 ls []) := by
  obtain ⟨r, r', sx2, sm2, lm2, hfx, hfm, heq, hR⟩ := hO
  obtain ⟨hx, hb, hml, hown, hts⟩ := CX.1
  have hbA : ¬ AL s b := Nat.not_le.mpr hbl
  refine lv_aload_n hx hb dL_law_470 rfl (lv_at hl 1 rfl) ?_
  refine lv_aload_n hx hb dL_law_471 rfl (lv_at hl 0 rfl) ?_
  refine lv_iload_n hx hb dL_law_472 rfl (lv_at hl 3 rfl) ?_
  refine lv_iconst (v := (1 : Int32)) hx hb dL_law_473 (by decide) ?_
  refine lv_iadd hx hb dL_law_474 ?_
  refine va_sld hx hb hX hbl hbA hw.1.2.2 (hix 1 (by decide)) dL_law_475 ?_
  refine lv_aload_n hx hb dL_law_476 rfl (lv_at hl 0 rfl) ?_
  refine lv_iload_n hx hb dL_law_477 rfl (lv_at hl 3 rfl) ?_
  refine lv_iconst (v := (2 : Int32)) hx hb dL_law_478 (by decide) ?_
  refine lv_iadd hx hb dL_law_479 ?_
  refine va_sld hx hb hX hbl hbA hw.1.2.2 (hix 2 (by decide)) dL_law_480 ?_
  refine r_cVlF (As := [.int (xs (x3 + 1).toNatClampNeg), .int (xs (x3 + 2).toNatClampNeg)]) (rest := []) CX hw.1 0 (by decide) (ci := 11) rfl rfl (mX11_pecks l D T (adr a g) lg0 H.size (xs (x3 + 1).toNatClampNeg) (xs (x3 + 2).toNatClampNeg) sx hfx) (cwV 2 hts GV_X11_pecks rfl rfl rfl (by decide +kernel) ⟨Nat.le_of_ble_eq_true rfl, Nat.le_of_ble_eq_true rfl⟩) rfl hl.1 rfl (Nat.le_of_ble_eq_true rfl) dL_law_481 ⟨by have q1 : room_1.cells = 600000 := rfl; omega, by have q2 : room_1.slots = 7302250 := rfl; omega⟩ (fun ad' H' locs' hp hw1 hfr hnew => ?_)
  subst hp
  have hwm := hw.2.1.keep hw1.2.2 hfr hw.2.2
  have hdis := dis_new hw.2.1 hw.2.2 hnew
  replace hw : LW D T a g am sx2 sm lm s H' locs' := ⟨hw1, hwm, hdis⟩
  clear hw1 hwm hdis hfr hnew
  replace hl : lv_has ls 4 [(0, .ref b), (1, .ref (adr a g 0)), (2, .ref (am 0)), (3, .int x3)] := hl
  refine W.widen (k := 80 + 3 * cn + 3) (n := 115267 + 12288 * cn + 12288) (by omega) (by omega) ?_
  refine lv_aload_n hx hb dL_law_484 rfl (lv_at hl 2 rfl) ?_
  refine lv_aload_n hx hb dL_law_485 rfl (lv_at hl 0 rfl) ?_
  refine lv_iload_n hx hb dL_law_486 rfl (lv_at hl 3 rfl) ?_
  refine lv_iconst (v := (1 : Int32)) hx hb dL_law_487 (by decide) ?_
  refine lv_iadd hx hb dL_law_488 ?_
  refine va_sld hx hb hX hbl hbA hw.1.2.2 (hix 1 (by decide)) dL_law_489 ?_
  refine lv_aload_n hx hb dL_law_490 rfl (lv_at hl 0 rfl) ?_
  refine lv_iload_n hx hb dL_law_491 rfl (lv_at hl 3 rfl) ?_
  refine lv_iconst (v := (2 : Int32)) hx hb dL_law_492 (by decide) ?_
  refine lv_iadd hx hb dL_law_493 ?_
  refine va_sld hx hb hX hbl hbA hw.1.2.2 (hix 2 (by decide)) dL_law_494 ?_
  refine r_cVlF (As := [.int (xs (x3 + 1).toNatClampNeg), .int (xs (x3 + 2).toNatClampNeg)]) (rest := [.long r]) CM hw.2.1 0 (by decide) (ci := 12) rfl rfl (mX12_pecks l D T am H'.size (xs (x3 + 1).toNatClampNeg) (xs (x3 + 2).toNatClampNeg) sm lm hfm) (cwV 2 hts GV_X12_pecks rfl rfl rfl (by decide +kernel) ⟨Nat.le_of_ble_eq_true rfl, Nat.le_of_ble_eq_true rfl⟩) rfl hl.1 rfl (Nat.le_of_ble_eq_true rfl) dL_law_495 ⟨by have q1 : room_1.cells = 600000 := rfl; omega, by have q2 : room_1.slots = 7302250 := rfl; omega⟩ (fun ad'' H2 locs2 hp hw1 hfr hnew => ?_)
  subst hp
  have hwx := hw.1.keep hw1.2.2 hfr (fun i j hi hj e => hw.2.2 j i hj hi e.symm)
  replace hw : LW D T a g am sx2 sm2 lm2 s H2 locs2 := ⟨hwx, hw1, hw.2.2⟩
  refine W.widen (k := 80 + 3 * (cn + 1)) (n := 115267 + 12288 * (cn + 1)) (by omega) (by omega) ?_
  refine W.lcmp hx hb dL_law_498 ?_
  refine lv_if_eq (tgt := 948) hx hb dL_law_499 (by decide) (fun c9 => ?_) (fun c9 => absurd ((lg_cmp_eq r r').mpr (heq rfl)) c9)
  exact hnext g sx2 sm2 lm2 _ _ hR hw hl
set_option maxHeartbeats 4000000 in
set_option maxRecDepth 100000 in
theorem law_c9 (CX : Cx p s m #[Value.ref b] meth c code 4 RL lw_tbl ret D vwCl (tysC T) (AL s) true nwL) (CM : Cx p s m #[Value.ref b] meth c code 4 RL lw_tbl ret D vwCl (tysM T) (AL s) false []) (hX : va_X b L xs s s.heap) (hbl : b < s.heap.size) {Q : State → Prop} {g : Nat → Nat} {sx sm : Sg} {lm : Lg} {H : Heap} {locs : List Loc} {ls : Array Slot} {cn : Nat} (hcn : cn ≤ 511) {x3 : Int32} (hix : ∀ k : Nat, k < 5 → vp_in (x3 + nI k) L) {R' : Sg → Sg → Lg → Prop} (hO : OpL true (fX11_undo  sx) (fX12_undo  sm lm) R') (hw : LW D T a g am sx sm lm s H locs) (hl : lv_has ls 4 [(0, .ref b), (1, .ref (adr a g 0)), (2, .ref (am 0)), (3, .int x3)])
    (hnext : ∀ (g' : Nat → Nat) (sx' sm' : Sg) (lm' : Lg) (H' : Heap) (locs' : List Loc), R' sx' sm' lm' → LW D T a g' am sx' sm' lm' s H' locs' → lv_has ls 4 [(0, .ref b), (1, .ref (adr a g' 0)), (2, .ref (am 0)), (3, .int x3)] → W p l e room_1 s m #[Value.ref b] below meth c H' locs' (80 + 3 * (cn + 1)) (115267 + 12288 * (cn + 1)) Q (F0 m 948 ls [])) : W p l e room_1 s m #[Value.ref b] below meth c H locs (80 + 3 * cn) (115267 + 12288 * cn) Q (F0 m 504 ls []) := by
  obtain ⟨r, r', sx2, sm2, lm2, hfx, hfm, heq, hR⟩ := hO
  obtain ⟨hx, hb, hml, hown, hts⟩ := CX.1
  have hbA : ¬ AL s b := Nat.not_le.mpr hbl
  refine lv_aload_n hx hb dL_law_504 rfl (lv_at hl 1 rfl) ?_
  refine r_cVlF (As := []) (rest := []) CX hw.1 0 (by decide) (ci := 11) rfl rfl (mX11_undo l D T (adr a g) lg0 H.size  sx hfx) (cwV 0 hts GV_X11_undo rfl rfl rfl (by decide +kernel) ⟨Nat.le_of_ble_eq_true rfl, Nat.le_of_ble_eq_true rfl⟩) rfl hl.1 rfl (Nat.le_of_ble_eq_true rfl) dL_law_505 ⟨by have q1 : room_1.cells = 600000 := rfl; omega, by have q2 : room_1.slots = 7302250 := rfl; omega⟩ (fun ad' H' locs' hp hw1 hfr hnew => ?_)
  subst hp
  have hwm := hw.2.1.keep hw1.2.2 hfr hw.2.2
  have hdis := dis_new hw.2.1 hw.2.2 hnew
  replace hw : LW D T a g am sx2 sm lm s H' locs' := ⟨hw1, hwm, hdis⟩
  clear hw1 hwm hdis hfr hnew
  replace hl : lv_has ls 4 [(0, .ref b), (1, .ref (adr a g 0)), (2, .ref (am 0)), (3, .int x3)] := hl
  refine W.widen (k := 80 + 3 * cn + 3) (n := 115267 + 12288 * cn + 12288) (by omega) (by omega) ?_
  refine lv_aload_n hx hb dL_law_508 rfl (lv_at hl 2 rfl) ?_
  refine r_cVlF (As := []) (rest := [.long r]) CM hw.2.1 0 (by decide) (ci := 12) rfl rfl (mX12_undo l D T am H'.size  sm lm hfm) (cwV 0 hts GV_X12_undo rfl rfl rfl (by decide +kernel) ⟨Nat.le_of_ble_eq_true rfl, Nat.le_of_ble_eq_true rfl⟩) rfl hl.1 rfl (Nat.le_of_ble_eq_true rfl) dL_law_509 ⟨by have q1 : room_1.cells = 600000 := rfl; omega, by have q2 : room_1.slots = 7302250 := rfl; omega⟩ (fun ad'' H2 locs2 hp hw1 hfr hnew => ?_)
  subst hp
  have hwx := hw.1.keep hw1.2.2 hfr (fun i j hi hj e => hw.2.2 j i hj hi e.symm)
  replace hw : LW D T a g am sx2 sm2 lm2 s H2 locs2 := ⟨hwx, hw1, hw.2.2⟩
  refine W.widen (k := 80 + 3 * (cn + 1)) (n := 115267 + 12288 * (cn + 1)) (by omega) (by omega) ?_
  refine W.lcmp hx hb dL_law_512 ?_
  refine lv_if_eq (tgt := 948) hx hb dL_law_513 (by decide) (fun c9 => ?_) (fun c9 => absurd ((lg_cmp_eq r r').mpr (heq rfl)) c9)
  exact hnext g sx2 sm2 lm2 _ _ hR hw hl
set_option maxHeartbeats 4000000 in
set_option maxRecDepth 100000 in
theorem law_c10 (CX : Cx p s m #[Value.ref b] meth c code 4 RL lw_tbl ret D vwCl (tysC T) (AL s) true nwL) (CM : Cx p s m #[Value.ref b] meth c code 4 RL lw_tbl ret D vwCl (tysM T) (AL s) false []) (hX : va_X b L xs s s.heap) (hbl : b < s.heap.size) {Q : State → Prop} {g : Nat → Nat} {sx sm : Sg} {lm : Lg} {H : Heap} {locs : List Loc} {ls : Array Slot} {cn : Nat} (hcn : cn ≤ 511) {x3 : Int32} (hix : ∀ k : Nat, k < 5 → vp_in (x3 + nI k) L) {R' : Sg → Sg → Lg → Prop} (hO : OpL true (fX11_least  sx) (fX12_least  sm lm) R') (hw : LW D T a g am sx sm lm s H locs) (hl : lv_has ls 4 [(0, .ref b), (1, .ref (adr a g 0)), (2, .ref (am 0)), (3, .int x3)])
    (hnext : ∀ (g' : Nat → Nat) (sx' sm' : Sg) (lm' : Lg) (H' : Heap) (locs' : List Loc), R' sx' sm' lm' → LW D T a g' am sx' sm' lm' s H' locs' → lv_has ls 4 [(0, .ref b), (1, .ref (adr a g' 0)), (2, .ref (am 0)), (3, .int x3)] → W p l e room_1 s m #[Value.ref b] below meth c H' locs' (80 + 3 * (cn + 1)) (115267 + 12288 * (cn + 1)) Q (F0 m 948 ls [])) : W p l e room_1 s m #[Value.ref b] below meth c H locs (80 + 3 * cn) (115267 + 12288 * cn) Q (F0 m 518 ls []) := by
  obtain ⟨r, r', sx2, sm2, lm2, hfx, hfm, heq, hR⟩ := hO
  obtain ⟨hx, hb, hml, hown, hts⟩ := CX.1
  have hbA : ¬ AL s b := Nat.not_le.mpr hbl
  refine lv_aload_n hx hb dL_law_518 rfl (lv_at hl 1 rfl) ?_
  refine r_cVlF (As := []) (rest := []) CX hw.1 0 (by decide) (ci := 11) rfl rfl (mX11_least l D T a g lg0 H.size  sx hfx) (cwV 0 hts GV_X11_least rfl rfl rfl (by decide +kernel) ⟨Nat.le_of_ble_eq_true rfl, Nat.le_of_ble_eq_true rfl⟩) rfl hl.1 rfl (Nat.le_of_ble_eq_true rfl) dL_law_519 ⟨by have q1 : room_1.cells = 600000 := rfl; omega, by have q2 : room_1.slots = 7302250 := rfl; omega⟩ (fun ad' H' locs' hp hw1 hfr hnew => ?_)
  obtain ⟨g2, rfl⟩ := hp
  have hwm := hw.2.1.keep hw1.2.2 hfr hw.2.2
  have hdis := dis_new hw.2.1 hw.2.2 hnew
  replace hw : LW D T a g2 am sx2 sm lm s H' locs' := ⟨hw1, hwm, hdis⟩
  clear hw1 hwm hdis hfr hnew
  replace hl : lv_has ls 4 [(0, .ref b), (1, .ref (adr a g2 0)), (2, .ref (am 0)), (3, .int x3)] := hl
  refine W.widen (k := 80 + 3 * cn + 3) (n := 115267 + 12288 * cn + 12288) (by omega) (by omega) ?_
  refine lv_aload_n hx hb dL_law_522 rfl (lv_at hl 2 rfl) ?_
  refine r_cVlF (As := []) (rest := [.long r]) CM hw.2.1 0 (by decide) (ci := 12) rfl rfl (mX12_least l D T am H'.size  sm lm hfm) (cwV 0 hts GV_X12_least rfl rfl rfl (by decide +kernel) ⟨Nat.le_of_ble_eq_true rfl, Nat.le_of_ble_eq_true rfl⟩) rfl hl.1 rfl (Nat.le_of_ble_eq_true rfl) dL_law_523 ⟨by have q1 : room_1.cells = 600000 := rfl; omega, by have q2 : room_1.slots = 7302250 := rfl; omega⟩ (fun ad'' H2 locs2 hp hw1 hfr hnew => ?_)
  subst hp
  have hwx := hw.1.keep hw1.2.2 hfr (fun i j hi hj e => hw.2.2 j i hj hi e.symm)
  replace hw : LW D T a g2 am sx2 sm2 lm2 s H2 locs2 := ⟨hwx, hw1, hw.2.2⟩
  refine W.widen (k := 80 + 3 * (cn + 1)) (n := 115267 + 12288 * (cn + 1)) (by omega) (by omega) ?_
  refine W.lcmp hx hb dL_law_526 ?_
  refine lv_if_eq (tgt := 948) hx hb dL_law_527 (by decide) (fun c9 => ?_) (fun c9 => absurd ((lg_cmp_eq r r').mpr (heq rfl)) c9)
  exact hnext g2 sx2 sm2 lm2 _ _ hR hw hl
set_option maxHeartbeats 4000000 in
set_option maxRecDepth 100000 in
theorem law_c11 (CX : Cx p s m #[Value.ref b] meth c code 4 RL lw_tbl ret D vwCl (tysC T) (AL s) true nwL) (CM : Cx p s m #[Value.ref b] meth c code 4 RL lw_tbl ret D vwCl (tysM T) (AL s) false []) (hX : va_X b L xs s s.heap) (hbl : b < s.heap.size) {Q : State → Prop} {g : Nat → Nat} {sx sm : Sg} {lm : Lg} {H : Heap} {locs : List Loc} {ls : Array Slot} {cn : Nat} (hcn : cn ≤ 511) {x3 : Int32} (hix : ∀ k : Nat, k < 5 → vp_in (x3 + nI k) L) {R' : Sg → Sg → Lg → Prop} (hO : OpL true (fX11_many  sx) (fX12_many  sm lm) R') (hw : LW D T a g am sx sm lm s H locs) (hl : lv_has ls 4 [(0, .ref b), (1, .ref (adr a g 0)), (2, .ref (am 0)), (3, .int x3)])
    (hnext : ∀ (g' : Nat → Nat) (sx' sm' : Sg) (lm' : Lg) (H' : Heap) (locs' : List Loc), R' sx' sm' lm' → LW D T a g' am sx' sm' lm' s H' locs' → lv_has ls 4 [(0, .ref b), (1, .ref (adr a g' 0)), (2, .ref (am 0)), (3, .int x3)] → W p l e room_1 s m #[Value.ref b] below meth c H' locs' (80 + 3 * (cn + 1)) (115267 + 12288 * (cn + 1)) Q (F0 m 948 ls [])) : W p l e room_1 s m #[Value.ref b] below meth c H locs (80 + 3 * cn) (115267 + 12288 * cn) Q (F0 m 532 ls []) := by
  obtain ⟨r, r', sx2, sm2, lm2, hfx, hfm, heq, hR⟩ := hO
  obtain ⟨hx, hb, hml, hown, hts⟩ := CX.1
  have hbA : ¬ AL s b := Nat.not_le.mpr hbl
  refine lv_aload_n hx hb dL_law_532 rfl (lv_at hl 1 rfl) ?_
  refine r_cVlF (As := []) (rest := []) CX hw.1 0 (by decide) (ci := 11) rfl rfl (mX11_many l D T a g lg0 H.size  sx hfx) (cwV 0 hts GV_X11_many rfl rfl rfl (by decide +kernel) ⟨Nat.le_of_ble_eq_true rfl, Nat.le_of_ble_eq_true rfl⟩) rfl hl.1 rfl (Nat.le_of_ble_eq_true rfl) dL_law_533 ⟨by have q1 : room_1.cells = 600000 := rfl; omega, by have q2 : room_1.slots = 7302250 := rfl; omega⟩ (fun ad' H' locs' hp hw1 hfr hnew => ?_)
  obtain ⟨g2, rfl⟩ := hp
  have hwm := hw.2.1.keep hw1.2.2 hfr hw.2.2
  have hdis := dis_new hw.2.1 hw.2.2 hnew
  replace hw : LW D T a g2 am sx2 sm lm s H' locs' := ⟨hw1, hwm, hdis⟩
  clear hw1 hwm hdis hfr hnew
  replace hl : lv_has ls 4 [(0, .ref b), (1, .ref (adr a g2 0)), (2, .ref (am 0)), (3, .int x3)] := hl
  refine W.widen (k := 80 + 3 * cn + 3) (n := 115267 + 12288 * cn + 12288) (by omega) (by omega) ?_
  refine lv_aload_n hx hb dL_law_536 rfl (lv_at hl 2 rfl) ?_
  refine r_cVlF (As := []) (rest := [.long r]) CM hw.2.1 0 (by decide) (ci := 12) rfl rfl (mX12_many l D T am H'.size  sm lm hfm) (cwV 0 hts GV_X12_many rfl rfl rfl (by decide +kernel) ⟨Nat.le_of_ble_eq_true rfl, Nat.le_of_ble_eq_true rfl⟩) rfl hl.1 rfl (Nat.le_of_ble_eq_true rfl) dL_law_537 ⟨by have q1 : room_1.cells = 600000 := rfl; omega, by have q2 : room_1.slots = 7302250 := rfl; omega⟩ (fun ad'' H2 locs2 hp hw1 hfr hnew => ?_)
  subst hp
  have hwx := hw.1.keep hw1.2.2 hfr (fun i j hi hj e => hw.2.2 j i hj hi e.symm)
  replace hw : LW D T a g2 am sx2 sm2 lm2 s H2 locs2 := ⟨hwx, hw1, hw.2.2⟩
  refine W.widen (k := 80 + 3 * (cn + 1)) (n := 115267 + 12288 * (cn + 1)) (by omega) (by omega) ?_
  refine W.lcmp hx hb dL_law_540 ?_
  refine lv_if_eq (tgt := 948) hx hb dL_law_541 (by decide) (fun c9 => ?_) (fun c9 => absurd ((lg_cmp_eq r r').mpr (heq rfl)) c9)
  exact hnext g2 sx2 sm2 lm2 _ _ hR hw hl
set_option maxHeartbeats 4000000 in
set_option maxRecDepth 100000 in
theorem law_c12 (CX : Cx p s m #[Value.ref b] meth c code 4 RL lw_tbl ret D vwCl (tysC T) (AL s) true nwL) (CM : Cx p s m #[Value.ref b] meth c code 4 RL lw_tbl ret D vwCl (tysM T) (AL s) false []) (hX : va_X b L xs s s.heap) (hbl : b < s.heap.size) {Q : State → Prop} {g : Nat → Nat} {sx sm : Sg} {lm : Lg} {H : Heap} {locs : List Loc} {ls : Array Slot} {cn : Nat} (hcn : cn ≤ 511) {x3 : Int32} (hix : ∀ k : Nat, k < 5 → vp_in (x3 + nI k) L) {R' : Sg → Sg → Lg → Prop} (hO : OpL true (fX11_best (((xs (x3 + 1).toNatClampNeg).toInt64 <<< ((32 : Int32).toInt64 &&& 63)) ||| ((xs (x3 + 2).toNatClampNeg).toInt64 &&& (4294967295 : Int64))) sx) (fX12_best (((xs (x3 + 1).toNatClampNeg).toInt64 <<< ((32 : Int32).toInt64 &&& 63)) ||| ((xs (x3 + 2).toNatClampNeg).toInt64 &&& (4294967295 : Int64))) sm lm) R') (hw : LW D T a g am sx sm lm s H locs) (hl : lv_has ls 4 [(0, .ref b), (1, .ref (adr a g 0)), (2, .ref (am 0)), (3, .int x3)])
    (hnext : ∀ (g' : Nat → Nat) (sx' sm' : Sg) (lm' : Lg) (H' : Heap) (locs' : List Loc), R' sx' sm' lm' → LW D T a g' am sx' sm' lm' s H' locs' → lv_has ls 4 [(0, .ref b), (1, .ref (adr a g' 0)), (2, .ref (am 0)), (3, .int x3)] → W p l e room_1 s m #[Value.ref b] below meth c H' locs' (80 + 3 * (cn + 1)) (115267 + 12288 * (cn + 1)) Q (F0 m 948 ls [])) : W p l e room_1 s m #[Value.ref b] below meth c H locs (80 + 3 * cn) (115267 + 12288 * cn) Q (F0 m 546 ls []) := by
  obtain ⟨r, r', sx2, sm2, lm2, hfx, hfm, heq, hR⟩ := hO
  obtain ⟨hx, hb, hml, hown, hts⟩ := CX.1
  have hbA : ¬ AL s b := Nat.not_le.mpr hbl
  refine lv_aload_n hx hb dL_law_546 rfl (lv_at hl 1 rfl) ?_
  refine lv_aload_n hx hb dL_law_547 rfl (lv_at hl 0 rfl) ?_
  refine lv_iload_n hx hb dL_law_548 rfl (lv_at hl 3 rfl) ?_
  refine lv_iconst (v := (1 : Int32)) hx hb dL_law_549 (by decide) ?_
  refine lv_iadd hx hb dL_law_550 ?_
  refine va_sld hx hb hX hbl hbA hw.1.2.2 (hix 1 (by decide)) dL_law_551 ?_
  refine lv_i2l (v := (xs (x3 + 1).toNatClampNeg).toInt64) hx hb dL_law_552 rfl ?_
  refine lv_bipush (v := (32 : Int32)) hx hb dL_law_553 (by decide) ?_
  refine lv_lshl (v := ((xs (x3 + 1).toNatClampNeg).toInt64 <<< ((32 : Int32).toInt64 &&& 63))) hx hb dL_law_555 rfl ?_
  refine lv_aload_n hx hb dL_law_556 rfl (lv_at hl 0 rfl) ?_
  refine lv_iload_n hx hb dL_law_557 rfl (lv_at hl 3 rfl) ?_
  refine lv_iconst (v := (2 : Int32)) hx hb dL_law_558 (by decide) ?_
  refine lv_iadd hx hb dL_law_559 ?_
  refine va_sld hx hb hX hbl hbA hw.1.2.2 (hix 2 (by decide)) dL_law_560 ?_
  refine lv_i2l (v := (xs (x3 + 2).toNatClampNeg).toInt64) hx hb dL_law_561 rfl ?_
  refine lv_ldc2 hx hb hown (hts _ kL_c30) dL_law_562 ?_
  refine lv_land hx hb dL_law_565 ?_
  refine lv_lor hx hb dL_law_566 ?_
  refine r_cVlF (As := [.long (((xs (x3 + 1).toNatClampNeg).toInt64 <<< ((32 : Int32).toInt64 &&& 63)) ||| ((xs (x3 + 2).toNatClampNeg).toInt64 &&& (4294967295 : Int64)))]) (rest := []) CX hw.1 0 (by decide) (ci := 11) rfl rfl (mX11_best l D T a g lg0 H.size (((xs (x3 + 1).toNatClampNeg).toInt64 <<< ((32 : Int32).toInt64 &&& 63)) ||| ((xs (x3 + 2).toNatClampNeg).toInt64 &&& (4294967295 : Int64))) sx hfx) (cwV 1 hts GV_X11_best rfl rfl rfl (by decide +kernel) ⟨Nat.le_of_ble_eq_true rfl, Nat.le_of_ble_eq_true rfl⟩) rfl hl.1 rfl (Nat.le_of_ble_eq_true rfl) dL_law_567 ⟨by have q1 : room_1.cells = 600000 := rfl; omega, by have q2 : room_1.slots = 7302250 := rfl; omega⟩ (fun ad' H' locs' hp hw1 hfr hnew => ?_)
  obtain ⟨g2, rfl⟩ := hp
  have hwm := hw.2.1.keep hw1.2.2 hfr hw.2.2
  have hdis := dis_new hw.2.1 hw.2.2 hnew
  replace hw : LW D T a g2 am sx2 sm lm s H' locs' := ⟨hw1, hwm, hdis⟩
  clear hw1 hwm hdis hfr hnew
  replace hl : lv_has ls 4 [(0, .ref b), (1, .ref (adr a g2 0)), (2, .ref (am 0)), (3, .int x3)] := hl
  refine W.widen (k := 80 + 3 * cn + 3) (n := 115267 + 12288 * cn + 12288) (by omega) (by omega) ?_
  refine lv_aload_n hx hb dL_law_570 rfl (lv_at hl 2 rfl) ?_
  refine lv_aload_n hx hb dL_law_571 rfl (lv_at hl 0 rfl) ?_
  refine lv_iload_n hx hb dL_law_572 rfl (lv_at hl 3 rfl) ?_
  refine lv_iconst (v := (1 : Int32)) hx hb dL_law_573 (by decide) ?_
  refine lv_iadd hx hb dL_law_574 ?_
  refine va_sld hx hb hX hbl hbA hw.1.2.2 (hix 1 (by decide)) dL_law_575 ?_
  refine lv_i2l (v := (xs (x3 + 1).toNatClampNeg).toInt64) hx hb dL_law_576 rfl ?_
  refine lv_bipush (v := (32 : Int32)) hx hb dL_law_577 (by decide) ?_
  refine lv_lshl (v := ((xs (x3 + 1).toNatClampNeg).toInt64 <<< ((32 : Int32).toInt64 &&& 63))) hx hb dL_law_579 rfl ?_
  refine lv_aload_n hx hb dL_law_580 rfl (lv_at hl 0 rfl) ?_
  refine lv_iload_n hx hb dL_law_581 rfl (lv_at hl 3 rfl) ?_
  refine lv_iconst (v := (2 : Int32)) hx hb dL_law_582 (by decide) ?_
  refine lv_iadd hx hb dL_law_583 ?_
  refine va_sld hx hb hX hbl hbA hw.1.2.2 (hix 2 (by decide)) dL_law_584 ?_
  refine lv_i2l (v := (xs (x3 + 2).toNatClampNeg).toInt64) hx hb dL_law_585 rfl ?_
  refine lv_ldc2 hx hb hown (hts _ kL_c30) dL_law_586 ?_
  refine lv_land hx hb dL_law_589 ?_
  refine lv_lor hx hb dL_law_590 ?_
  refine r_cVlF (As := [.long (((xs (x3 + 1).toNatClampNeg).toInt64 <<< ((32 : Int32).toInt64 &&& 63)) ||| ((xs (x3 + 2).toNatClampNeg).toInt64 &&& (4294967295 : Int64)))]) (rest := [.long r]) CM hw.2.1 0 (by decide) (ci := 12) rfl rfl (mX12_best l D T am H'.size (((xs (x3 + 1).toNatClampNeg).toInt64 <<< ((32 : Int32).toInt64 &&& 63)) ||| ((xs (x3 + 2).toNatClampNeg).toInt64 &&& (4294967295 : Int64))) sm lm hfm) (cwV 1 hts GV_X12_best rfl rfl rfl (by decide +kernel) ⟨Nat.le_of_ble_eq_true rfl, Nat.le_of_ble_eq_true rfl⟩) rfl hl.1 rfl (Nat.le_of_ble_eq_true rfl) dL_law_591 ⟨by have q1 : room_1.cells = 600000 := rfl; omega, by have q2 : room_1.slots = 7302250 := rfl; omega⟩ (fun ad'' H2 locs2 hp hw1 hfr hnew => ?_)
  subst hp
  have hwx := hw.1.keep hw1.2.2 hfr (fun i j hi hj e => hw.2.2 j i hj hi e.symm)
  replace hw : LW D T a g2 am sx2 sm2 lm2 s H2 locs2 := ⟨hwx, hw1, hw.2.2⟩
  refine W.widen (k := 80 + 3 * (cn + 1)) (n := 115267 + 12288 * (cn + 1)) (by omega) (by omega) ?_
  refine W.lcmp hx hb dL_law_594 ?_
  refine lv_if_eq (tgt := 948) hx hb dL_law_595 (by decide) (fun c9 => ?_) (fun c9 => absurd ((lg_cmp_eq r r').mpr (heq rfl)) c9)
  exact hnext g2 sx2 sm2 lm2 _ _ hR hw hl
set_option maxHeartbeats 4000000 in
set_option maxRecDepth 100000 in
theorem law_c13 (CX : Cx p s m #[Value.ref b] meth c code 4 RL lw_tbl ret D vwCl (tysC T) (AL s) true nwL) (CM : Cx p s m #[Value.ref b] meth c code 4 RL lw_tbl ret D vwCl (tysM T) (AL s) false []) (hX : va_X b L xs s s.heap) (hbl : b < s.heap.size) {Q : State → Prop} {g : Nat → Nat} {sx sm : Sg} {lm : Lg} {H : Heap} {locs : List Loc} {ls : Array Slot} {cn : Nat} (hcn : cn ≤ 511) {x3 : Int32} (hix : ∀ k : Nat, k < 5 → vp_in (x3 + nI k) L) {R' : Sg → Sg → Lg → Prop} (hO : OpL true (fX11_number  sx) (fX12_number  sm lm) R') (hw : LW D T a g am sx sm lm s H locs) (hl : lv_has ls 4 [(0, .ref b), (1, .ref (adr a g 0)), (2, .ref (am 0)), (3, .int x3)])
    (hnext : ∀ (g' : Nat → Nat) (sx' sm' : Sg) (lm' : Lg) (H' : Heap) (locs' : List Loc), R' sx' sm' lm' → LW D T a g' am sx' sm' lm' s H' locs' → lv_has ls 4 [(0, .ref b), (1, .ref (adr a g' 0)), (2, .ref (am 0)), (3, .int x3)] → W p l e room_1 s m #[Value.ref b] below meth c H' locs' (80 + 3 * (cn + 1)) (115267 + 12288 * (cn + 1)) Q (F0 m 948 ls [])) : W p l e room_1 s m #[Value.ref b] below meth c H locs (80 + 3 * cn) (115267 + 12288 * cn) Q (F0 m 600 ls []) := by
  obtain ⟨r, r', sx2, sm2, lm2, hfx, hfm, heq, hR⟩ := hO
  obtain ⟨hx, hb, hml, hown, hts⟩ := CX.1
  have hbA : ¬ AL s b := Nat.not_le.mpr hbl
  refine lv_aload_n hx hb dL_law_600 rfl (lv_at hl 1 rfl) ?_
  refine r_cVlF (As := []) (rest := []) CX hw.1 0 (by decide) (ci := 11) rfl rfl (mX11_number l D T a g lg0 H.size  sx hfx) (cwV 0 hts GV_X11_number rfl rfl rfl (by decide +kernel) ⟨Nat.le_of_ble_eq_true rfl, Nat.le_of_ble_eq_true rfl⟩) rfl hl.1 rfl (Nat.le_of_ble_eq_true rfl) dL_law_601 ⟨by have q1 : room_1.cells = 600000 := rfl; omega, by have q2 : room_1.slots = 7302250 := rfl; omega⟩ (fun ad' H' locs' hp hw1 hfr hnew => ?_)
  obtain ⟨g2, rfl⟩ := hp
  have hwm := hw.2.1.keep hw1.2.2 hfr hw.2.2
  have hdis := dis_new hw.2.1 hw.2.2 hnew
  replace hw : LW D T a g2 am sx2 sm lm s H' locs' := ⟨hw1, hwm, hdis⟩
  clear hw1 hwm hdis hfr hnew
  replace hl : lv_has ls 4 [(0, .ref b), (1, .ref (adr a g2 0)), (2, .ref (am 0)), (3, .int x3)] := hl
  refine W.widen (k := 80 + 3 * cn + 3) (n := 115267 + 12288 * cn + 12288) (by omega) (by omega) ?_
  refine lv_aload_n hx hb dL_law_604 rfl (lv_at hl 2 rfl) ?_
  refine r_cVlF (As := []) (rest := [.long r]) CM hw.2.1 0 (by decide) (ci := 12) rfl rfl (mX12_number l D T am H'.size  sm lm hfm) (cwV 0 hts GV_X12_number rfl rfl rfl (by decide +kernel) ⟨Nat.le_of_ble_eq_true rfl, Nat.le_of_ble_eq_true rfl⟩) rfl hl.1 rfl (Nat.le_of_ble_eq_true rfl) dL_law_605 ⟨by have q1 : room_1.cells = 600000 := rfl; omega, by have q2 : room_1.slots = 7302250 := rfl; omega⟩ (fun ad'' H2 locs2 hp hw1 hfr hnew => ?_)
  subst hp
  have hwx := hw.1.keep hw1.2.2 hfr (fun i j hi hj e => hw.2.2 j i hj hi e.symm)
  replace hw : LW D T a g2 am sx2 sm2 lm2 s H2 locs2 := ⟨hwx, hw1, hw.2.2⟩
  refine W.widen (k := 80 + 3 * (cn + 1)) (n := 115267 + 12288 * (cn + 1)) (by omega) (by omega) ?_
  refine W.lcmp hx hb dL_law_608 ?_
  refine lv_if_eq (tgt := 948) hx hb dL_law_609 (by decide) (fun c9 => ?_) (fun c9 => absurd ((lg_cmp_eq r r').mpr (heq rfl)) c9)
  exact hnext g2 sx2 sm2 lm2 _ _ hR hw hl
set_option maxHeartbeats 4000000 in
set_option maxRecDepth 100000 in
theorem law_c14 (CX : Cx p s m #[Value.ref b] meth c code 4 RL lw_tbl ret D vwCl (tysC T) (AL s) true nwL) (CM : Cx p s m #[Value.ref b] meth c code 4 RL lw_tbl ret D vwCl (tysM T) (AL s) false []) (hX : va_X b L xs s s.heap) (hbl : b < s.heap.size) {Q : State → Prop} {g : Nat → Nat} {sx sm : Sg} {lm : Lg} {H : Heap} {locs : List Loc} {ls : Array Slot} {cn : Nat} (hcn : cn ≤ 511) {x3 : Int32} (hix : ∀ k : Nat, k < 5 → vp_in (x3 + nI k) L) {R' : Sg → Sg → Lg → Prop} (hO : OpL true (fX11_sure (xs (x3 + 1).toNatClampNeg) (xs (x3 + 2).toNatClampNeg) sx) (fX12_sure (xs (x3 + 1).toNatClampNeg) (xs (x3 + 2).toNatClampNeg) sm lm) R') (hw : LW D T a g am sx sm lm s H locs) (hl : lv_has ls 4 [(0, .ref b), (1, .ref (adr a g 0)), (2, .ref (am 0)), (3, .int x3)])
    (hnext : ∀ (g' : Nat → Nat) (sx' sm' : Sg) (lm' : Lg) (H' : Heap) (locs' : List Loc), R' sx' sm' lm' → LW D T a g' am sx' sm' lm' s H' locs' → lv_has ls 4 [(0, .ref b), (1, .ref (adr a g' 0)), (2, .ref (am 0)), (3, .int x3)] → W p l e room_1 s m #[Value.ref b] below meth c H' locs' (80 + 3 * (cn + 1)) (115267 + 12288 * (cn + 1)) Q (F0 m 948 ls [])) : W p l e room_1 s m #[Value.ref b] below meth c H locs (80 + 3 * cn) (115267 + 12288 * cn) Q (F0 m 614 ls []) := by
  obtain ⟨r, r', sx2, sm2, lm2, hfx, hfm, heq, hR⟩ := hO
  obtain ⟨hx, hb, hml, hown, hts⟩ := CX.1
  have hbA : ¬ AL s b := Nat.not_le.mpr hbl
  refine lv_aload_n hx hb dL_law_614 rfl (lv_at hl 1 rfl) ?_
  refine lv_aload_n hx hb dL_law_615 rfl (lv_at hl 0 rfl) ?_
  refine lv_iload_n hx hb dL_law_616 rfl (lv_at hl 3 rfl) ?_
  refine lv_iconst (v := (1 : Int32)) hx hb dL_law_617 (by decide) ?_
  refine lv_iadd hx hb dL_law_618 ?_
  refine va_sld hx hb hX hbl hbA hw.1.2.2 (hix 1 (by decide)) dL_law_619 ?_
  refine lv_aload_n hx hb dL_law_620 rfl (lv_at hl 0 rfl) ?_
  refine lv_iload_n hx hb dL_law_621 rfl (lv_at hl 3 rfl) ?_
  refine lv_iconst (v := (2 : Int32)) hx hb dL_law_622 (by decide) ?_
  refine lv_iadd hx hb dL_law_623 ?_
  refine va_sld hx hb hX hbl hbA hw.1.2.2 (hix 2 (by decide)) dL_law_624 ?_
  refine r_cVlF (As := [.int (xs (x3 + 1).toNatClampNeg), .int (xs (x3 + 2).toNatClampNeg)]) (rest := []) CX hw.1 0 (by decide) (ci := 11) rfl rfl (mX11_sure l D T a g lg0 H.size (xs (x3 + 1).toNatClampNeg) (xs (x3 + 2).toNatClampNeg) sx hfx) (cwV 2 hts GV_X11_sure rfl rfl rfl (by decide +kernel) ⟨Nat.le_of_ble_eq_true rfl, Nat.le_of_ble_eq_true rfl⟩) rfl hl.1 rfl (Nat.le_of_ble_eq_true rfl) dL_law_625 ⟨by have q1 : room_1.cells = 600000 := rfl; omega, by have q2 : room_1.slots = 7302250 := rfl; omega⟩ (fun ad' H' locs' hp hw1 hfr hnew => ?_)
  obtain ⟨g2, rfl⟩ := hp
  have hwm := hw.2.1.keep hw1.2.2 hfr hw.2.2
  have hdis := dis_new hw.2.1 hw.2.2 hnew
  replace hw : LW D T a g2 am sx2 sm lm s H' locs' := ⟨hw1, hwm, hdis⟩
  clear hw1 hwm hdis hfr hnew
  replace hl : lv_has ls 4 [(0, .ref b), (1, .ref (adr a g2 0)), (2, .ref (am 0)), (3, .int x3)] := hl
  refine W.widen (k := 80 + 3 * cn + 3) (n := 115267 + 12288 * cn + 12288) (by omega) (by omega) ?_
  refine lv_aload_n hx hb dL_law_628 rfl (lv_at hl 2 rfl) ?_
  refine lv_aload_n hx hb dL_law_629 rfl (lv_at hl 0 rfl) ?_
  refine lv_iload_n hx hb dL_law_630 rfl (lv_at hl 3 rfl) ?_
  refine lv_iconst (v := (1 : Int32)) hx hb dL_law_631 (by decide) ?_
  refine lv_iadd hx hb dL_law_632 ?_
  refine va_sld hx hb hX hbl hbA hw.1.2.2 (hix 1 (by decide)) dL_law_633 ?_
  refine lv_aload_n hx hb dL_law_634 rfl (lv_at hl 0 rfl) ?_
  refine lv_iload_n hx hb dL_law_635 rfl (lv_at hl 3 rfl) ?_
  refine lv_iconst (v := (2 : Int32)) hx hb dL_law_636 (by decide) ?_
  refine lv_iadd hx hb dL_law_637 ?_
  refine va_sld hx hb hX hbl hbA hw.1.2.2 (hix 2 (by decide)) dL_law_638 ?_
  refine r_cVlF (As := [.int (xs (x3 + 1).toNatClampNeg), .int (xs (x3 + 2).toNatClampNeg)]) (rest := [.long r]) CM hw.2.1 0 (by decide) (ci := 12) rfl rfl (mX12_sure l D T am H'.size (xs (x3 + 1).toNatClampNeg) (xs (x3 + 2).toNatClampNeg) sm lm hfm) (cwV 2 hts GV_X12_sure rfl rfl rfl (by decide +kernel) ⟨Nat.le_of_ble_eq_true rfl, Nat.le_of_ble_eq_true rfl⟩) rfl hl.1 rfl (Nat.le_of_ble_eq_true rfl) dL_law_639 ⟨by have q1 : room_1.cells = 600000 := rfl; omega, by have q2 : room_1.slots = 7302250 := rfl; omega⟩ (fun ad'' H2 locs2 hp hw1 hfr hnew => ?_)
  subst hp
  have hwx := hw.1.keep hw1.2.2 hfr (fun i j hi hj e => hw.2.2 j i hj hi e.symm)
  replace hw : LW D T a g2 am sx2 sm2 lm2 s H2 locs2 := ⟨hwx, hw1, hw.2.2⟩
  refine W.widen (k := 80 + 3 * (cn + 1)) (n := 115267 + 12288 * (cn + 1)) (by omega) (by omega) ?_
  refine W.lcmp hx hb dL_law_642 ?_
  refine lv_if_eq (tgt := 948) hx hb dL_law_643 (by decide) (fun c9 => ?_) (fun c9 => absurd ((lg_cmp_eq r r').mpr (heq rfl)) c9)
  exact hnext g2 sx2 sm2 lm2 _ _ hR hw hl
set_option maxHeartbeats 4000000 in
set_option maxRecDepth 100000 in
theorem law_c15 (CX : Cx p s m #[Value.ref b] meth c code 4 RL lw_tbl ret D vwCl (tysC T) (AL s) true nwL) (CM : Cx p s m #[Value.ref b] meth c code 4 RL lw_tbl ret D vwCl (tysM T) (AL s) false []) (hX : va_X b L xs s s.heap) (hbl : b < s.heap.size) {Q : State → Prop} {g : Nat → Nat} {sx sm : Sg} {lm : Lg} {H : Heap} {locs : List Loc} {ls : Array Slot} {cn : Nat} (hcn : cn ≤ 511) {x3 : Int32} (hix : ∀ k : Nat, k < 5 → vp_in (x3 + nI k) L) {R' : Sg → Sg → Lg → Prop} (hO : OpL true (fX11_why  sx) (fX12_why  sm lm) R') (hw : LW D T a g am sx sm lm s H locs) (hl : lv_has ls 4 [(0, .ref b), (1, .ref (adr a g 0)), (2, .ref (am 0)), (3, .int x3)])
    (hnext : ∀ (g' : Nat → Nat) (sx' sm' : Sg) (lm' : Lg) (H' : Heap) (locs' : List Loc), R' sx' sm' lm' → LW D T a g' am sx' sm' lm' s H' locs' → lv_has ls 4 [(0, .ref b), (1, .ref (adr a g' 0)), (2, .ref (am 0)), (3, .int x3)] → W p l e room_1 s m #[Value.ref b] below meth c H' locs' (80 + 3 * (cn + 1)) (115267 + 12288 * (cn + 1)) Q (F0 m 948 ls [])) : W p l e room_1 s m #[Value.ref b] below meth c H locs (80 + 3 * cn) (115267 + 12288 * cn) Q (F0 m 648 ls []) := by
  obtain ⟨r, r', sx2, sm2, lm2, hfx, hfm, heq, hR⟩ := hO
  obtain ⟨hx, hb, hml, hown, hts⟩ := CX.1
  have hbA : ¬ AL s b := Nat.not_le.mpr hbl
  refine lv_aload_n hx hb dL_law_648 rfl (lv_at hl 1 rfl) ?_
  refine r_cVlF (As := []) (rest := []) CX hw.1 0 (by decide) (ci := 11) rfl rfl (mX11_why l D T (adr a g) lg0 H.size  sx hfx) (cwV 0 hts GV_X11_why rfl rfl rfl (by decide +kernel) ⟨Nat.le_of_ble_eq_true rfl, Nat.le_of_ble_eq_true rfl⟩) rfl hl.1 rfl (Nat.le_of_ble_eq_true rfl) dL_law_649 ⟨by have q1 : room_1.cells = 600000 := rfl; omega, by have q2 : room_1.slots = 7302250 := rfl; omega⟩ (fun ad' H' locs' hp hw1 hfr hnew => ?_)
  subst hp
  have hwm := hw.2.1.keep hw1.2.2 hfr hw.2.2
  have hdis := dis_new hw.2.1 hw.2.2 hnew
  replace hw : LW D T a g am sx2 sm lm s H' locs' := ⟨hw1, hwm, hdis⟩
  clear hw1 hwm hdis hfr hnew
  replace hl : lv_has ls 4 [(0, .ref b), (1, .ref (adr a g 0)), (2, .ref (am 0)), (3, .int x3)] := hl
  refine W.widen (k := 80 + 3 * cn + 3) (n := 115267 + 12288 * cn + 12288) (by omega) (by omega) ?_
  refine lv_aload_n hx hb dL_law_652 rfl (lv_at hl 2 rfl) ?_
  refine r_cVlF (As := []) (rest := [.long r]) CM hw.2.1 0 (by decide) (ci := 12) rfl rfl (mX12_why l D T am H'.size  sm lm hfm) (cwV 0 hts GV_X12_why rfl rfl rfl (by decide +kernel) ⟨Nat.le_of_ble_eq_true rfl, Nat.le_of_ble_eq_true rfl⟩) rfl hl.1 rfl (Nat.le_of_ble_eq_true rfl) dL_law_653 ⟨by have q1 : room_1.cells = 600000 := rfl; omega, by have q2 : room_1.slots = 7302250 := rfl; omega⟩ (fun ad'' H2 locs2 hp hw1 hfr hnew => ?_)
  subst hp
  have hwx := hw.1.keep hw1.2.2 hfr (fun i j hi hj e => hw.2.2 j i hj hi e.symm)
  replace hw : LW D T a g am sx2 sm2 lm2 s H2 locs2 := ⟨hwx, hw1, hw.2.2⟩
  refine W.widen (k := 80 + 3 * (cn + 1)) (n := 115267 + 12288 * (cn + 1)) (by omega) (by omega) ?_
  refine W.lcmp hx hb dL_law_656 ?_
  refine lv_if_eq (tgt := 948) hx hb dL_law_657 (by decide) (fun c9 => ?_) (fun c9 => absurd ((lg_cmp_eq r r').mpr (heq rfl)) c9)
  exact hnext g sx2 sm2 lm2 _ _ hR hw hl
set_option maxHeartbeats 4000000 in
set_option maxRecDepth 100000 in
theorem law_c16 (CX : Cx p s m #[Value.ref b] meth c code 4 RL lw_tbl ret D vwCl (tysC T) (AL s) true nwL) (CM : Cx p s m #[Value.ref b] meth c code 4 RL lw_tbl ret D vwCl (tysM T) (AL s) false []) (hX : va_X b L xs s s.heap) (hbl : b < s.heap.size) {Q : State → Prop} {g : Nat → Nat} {sx sm : Sg} {lm : Lg} {H : Heap} {locs : List Loc} {ls : Array Slot} {cn : Nat} (hcn : cn ≤ 511) {x3 : Int32} (hix : ∀ k : Nat, k < 5 → vp_in (x3 + nI k) L) {R' : Sg → Sg → Lg → Prop} (hO : OpL true (fX11_begin  sx) (fX12_begin  sm lm) R') (hw : LW D T a g am sx sm lm s H locs) (hl : lv_has ls 4 [(0, .ref b), (1, .ref (adr a g 0)), (2, .ref (am 0)), (3, .int x3)])
    (hnext : ∀ (g' : Nat → Nat) (sx' sm' : Sg) (lm' : Lg) (H' : Heap) (locs' : List Loc), R' sx' sm' lm' → LW D T a g' am sx' sm' lm' s H' locs' → lv_has ls 4 [(0, .ref b), (1, .ref (adr a g' 0)), (2, .ref (am 0)), (3, .int x3)] → W p l e room_1 s m #[Value.ref b] below meth c H' locs' (80 + 3 * (cn + 1)) (115267 + 12288 * (cn + 1)) Q (F0 m 948 ls [])) : W p l e room_1 s m #[Value.ref b] below meth c H locs (80 + 3 * cn) (115267 + 12288 * cn) Q (F0 m 662 ls []) := by
  obtain ⟨r, r', sx2, sm2, lm2, hfx, hfm, heq, hR⟩ := hO
  obtain ⟨hx, hb, hml, hown, hts⟩ := CX.1
  have hbA : ¬ AL s b := Nat.not_le.mpr hbl
  refine lv_aload_n hx hb dL_law_662 rfl (lv_at hl 1 rfl) ?_
  refine r_cVlF (As := []) (rest := []) CX hw.1 0 (by decide) (ci := 11) rfl rfl (mX11_begin l D T (adr a g) lg0 H.size  sx hfx) (cwV 0 hts GV_X11_begin rfl rfl rfl (by decide +kernel) ⟨Nat.le_of_ble_eq_true rfl, Nat.le_of_ble_eq_true rfl⟩) rfl hl.1 rfl (Nat.le_of_ble_eq_true rfl) dL_law_663 ⟨by have q1 : room_1.cells = 600000 := rfl; omega, by have q2 : room_1.slots = 7302250 := rfl; omega⟩ (fun ad' H' locs' hp hw1 hfr hnew => ?_)
  subst hp
  have hwm := hw.2.1.keep hw1.2.2 hfr hw.2.2
  have hdis := dis_new hw.2.1 hw.2.2 hnew
  replace hw : LW D T a g am sx2 sm lm s H' locs' := ⟨hw1, hwm, hdis⟩
  clear hw1 hwm hdis hfr hnew
  replace hl : lv_has ls 4 [(0, .ref b), (1, .ref (adr a g 0)), (2, .ref (am 0)), (3, .int x3)] := hl
  refine W.widen (k := 80 + 3 * cn + 3) (n := 115267 + 12288 * cn + 12288) (by omega) (by omega) ?_
  refine lv_aload_n hx hb dL_law_666 rfl (lv_at hl 2 rfl) ?_
  refine r_cVlF (As := []) (rest := [.long r]) CM hw.2.1 0 (by decide) (ci := 12) rfl rfl (mX12_begin l D T am H'.size  sm lm hfm) (cwV 0 hts GV_X12_begin rfl rfl rfl (by decide +kernel) ⟨Nat.le_of_ble_eq_true rfl, Nat.le_of_ble_eq_true rfl⟩) rfl hl.1 rfl (Nat.le_of_ble_eq_true rfl) dL_law_667 ⟨by have q1 : room_1.cells = 600000 := rfl; omega, by have q2 : room_1.slots = 7302250 := rfl; omega⟩ (fun ad'' H2 locs2 hp hw1 hfr hnew => ?_)
  subst hp
  have hwx := hw.1.keep hw1.2.2 hfr (fun i j hi hj e => hw.2.2 j i hj hi e.symm)
  replace hw : LW D T a g am sx2 sm2 lm2 s H2 locs2 := ⟨hwx, hw1, hw.2.2⟩
  refine W.widen (k := 80 + 3 * (cn + 1)) (n := 115267 + 12288 * (cn + 1)) (by omega) (by omega) ?_
  refine W.lcmp hx hb dL_law_670 ?_
  refine lv_if_eq (tgt := 948) hx hb dL_law_671 (by decide) (fun c9 => ?_) (fun c9 => absurd ((lg_cmp_eq r r').mpr (heq rfl)) c9)
  exact hnext g sx2 sm2 lm2 _ _ hR hw hl
set_option maxHeartbeats 4000000 in
set_option maxRecDepth 100000 in
theorem law_c17 (CX : Cx p s m #[Value.ref b] meth c code 4 RL lw_tbl ret D vwCl (tysC T) (AL s) true nwL) (CM : Cx p s m #[Value.ref b] meth c code 4 RL lw_tbl ret D vwCl (tysM T) (AL s) false []) (hX : va_X b L xs s s.heap) (hbl : b < s.heap.size) {Q : State → Prop} {g : Nat → Nat} {sx sm : Sg} {lm : Lg} {H : Heap} {locs : List Loc} {ls : Array Slot} {cn : Nat} (hcn : cn ≤ 511) {x3 : Int32} (hix : ∀ k : Nat, k < 5 → vp_in (x3 + nI k) L) {R' : Sg → Sg → Lg → Prop} (hO : OpL true (fX11_stand (xs (x3 + 1).toNatClampNeg) sx) (fX12_stand (xs (x3 + 1).toNatClampNeg) sm lm) R') (hw : LW D T a g am sx sm lm s H locs) (hl : lv_has ls 4 [(0, .ref b), (1, .ref (adr a g 0)), (2, .ref (am 0)), (3, .int x3)])
    (hnext : ∀ (g' : Nat → Nat) (sx' sm' : Sg) (lm' : Lg) (H' : Heap) (locs' : List Loc), R' sx' sm' lm' → LW D T a g' am sx' sm' lm' s H' locs' → lv_has ls 4 [(0, .ref b), (1, .ref (adr a g' 0)), (2, .ref (am 0)), (3, .int x3)] → W p l e room_1 s m #[Value.ref b] below meth c H' locs' (80 + 3 * (cn + 1)) (115267 + 12288 * (cn + 1)) Q (F0 m 948 ls [])) : W p l e room_1 s m #[Value.ref b] below meth c H locs (80 + 3 * cn) (115267 + 12288 * cn) Q (F0 m 676 ls []) := by
  obtain ⟨r, r', sx2, sm2, lm2, hfx, hfm, heq, hR⟩ := hO
  obtain ⟨hx, hb, hml, hown, hts⟩ := CX.1
  have hbA : ¬ AL s b := Nat.not_le.mpr hbl
  refine lv_aload_n hx hb dL_law_676 rfl (lv_at hl 1 rfl) ?_
  refine lv_aload_n hx hb dL_law_677 rfl (lv_at hl 0 rfl) ?_
  refine lv_iload_n hx hb dL_law_678 rfl (lv_at hl 3 rfl) ?_
  refine lv_iconst (v := (1 : Int32)) hx hb dL_law_679 (by decide) ?_
  refine lv_iadd hx hb dL_law_680 ?_
  refine va_sld hx hb hX hbl hbA hw.1.2.2 (hix 1 (by decide)) dL_law_681 ?_
  refine r_cVlF (As := [.int (xs (x3 + 1).toNatClampNeg)]) (rest := []) CX hw.1 0 (by decide) (ci := 11) rfl rfl (mX11_stand l D T (adr a g) lg0 H.size (xs (x3 + 1).toNatClampNeg) sx hfx) (cwV 1 hts GV_X11_stand rfl rfl rfl (by decide +kernel) ⟨Nat.le_of_ble_eq_true rfl, Nat.le_of_ble_eq_true rfl⟩) rfl hl.1 rfl (Nat.le_of_ble_eq_true rfl) dL_law_682 ⟨by have q1 : room_1.cells = 600000 := rfl; omega, by have q2 : room_1.slots = 7302250 := rfl; omega⟩ (fun ad' H' locs' hp hw1 hfr hnew => ?_)
  subst hp
  have hwm := hw.2.1.keep hw1.2.2 hfr hw.2.2
  have hdis := dis_new hw.2.1 hw.2.2 hnew
  replace hw : LW D T a g am sx2 sm lm s H' locs' := ⟨hw1, hwm, hdis⟩
  clear hw1 hwm hdis hfr hnew
  replace hl : lv_has ls 4 [(0, .ref b), (1, .ref (adr a g 0)), (2, .ref (am 0)), (3, .int x3)] := hl
  refine W.widen (k := 80 + 3 * cn + 3) (n := 115267 + 12288 * cn + 12288) (by omega) (by omega) ?_
  refine lv_aload_n hx hb dL_law_685 rfl (lv_at hl 2 rfl) ?_
  refine lv_aload_n hx hb dL_law_686 rfl (lv_at hl 0 rfl) ?_
  refine lv_iload_n hx hb dL_law_687 rfl (lv_at hl 3 rfl) ?_
  refine lv_iconst (v := (1 : Int32)) hx hb dL_law_688 (by decide) ?_
  refine lv_iadd hx hb dL_law_689 ?_
  refine va_sld hx hb hX hbl hbA hw.1.2.2 (hix 1 (by decide)) dL_law_690 ?_
  refine r_cVlF (As := [.int (xs (x3 + 1).toNatClampNeg)]) (rest := [.long r]) CM hw.2.1 0 (by decide) (ci := 12) rfl rfl (mX12_stand l D T am H'.size (xs (x3 + 1).toNatClampNeg) sm lm hfm) (cwV 1 hts GV_X12_stand rfl rfl rfl (by decide +kernel) ⟨Nat.le_of_ble_eq_true rfl, Nat.le_of_ble_eq_true rfl⟩) rfl hl.1 rfl (Nat.le_of_ble_eq_true rfl) dL_law_691 ⟨by have q1 : room_1.cells = 600000 := rfl; omega, by have q2 : room_1.slots = 7302250 := rfl; omega⟩ (fun ad'' H2 locs2 hp hw1 hfr hnew => ?_)
  subst hp
  have hwx := hw.1.keep hw1.2.2 hfr (fun i j hi hj e => hw.2.2 j i hj hi e.symm)
  replace hw : LW D T a g am sx2 sm2 lm2 s H2 locs2 := ⟨hwx, hw1, hw.2.2⟩
  refine W.widen (k := 80 + 3 * (cn + 1)) (n := 115267 + 12288 * (cn + 1)) (by omega) (by omega) ?_
  refine W.lcmp hx hb dL_law_694 ?_
  refine lv_if_eq (tgt := 948) hx hb dL_law_695 (by decide) (fun c9 => ?_) (fun c9 => absurd ((lg_cmp_eq r r').mpr (heq rfl)) c9)
  exact hnext g sx2 sm2 lm2 _ _ hR hw hl
set_option maxHeartbeats 4000000 in
set_option maxRecDepth 100000 in
theorem law_c18 (CX : Cx p s m #[Value.ref b] meth c code 4 RL lw_tbl ret D vwCl (tysC T) (AL s) true nwL) (CM : Cx p s m #[Value.ref b] meth c code 4 RL lw_tbl ret D vwCl (tysM T) (AL s) false []) (hX : va_X b L xs s s.heap) (hbl : b < s.heap.size) {Q : State → Prop} {g : Nat → Nat} {sx sm : Sg} {lm : Lg} {H : Heap} {locs : List Loc} {ls : Array Slot} {cn : Nat} (hcn : cn ≤ 511) {x3 : Int32} (hix : ∀ k : Nat, k < 5 → vp_in (x3 + nI k) L) {R' : Sg → Sg → Lg → Prop} (hO : OpL true (fX11_order (xs (x3 + 1).toNatClampNeg) sx) (fX12_order (xs (x3 + 1).toNatClampNeg) sm lm) R') (hw : LW D T a g am sx sm lm s H locs) (hl : lv_has ls 4 [(0, .ref b), (1, .ref (adr a g 0)), (2, .ref (am 0)), (3, .int x3)])
    (hnext : ∀ (g' : Nat → Nat) (sx' sm' : Sg) (lm' : Lg) (H' : Heap) (locs' : List Loc), R' sx' sm' lm' → LW D T a g' am sx' sm' lm' s H' locs' → lv_has ls 4 [(0, .ref b), (1, .ref (adr a g' 0)), (2, .ref (am 0)), (3, .int x3)] → W p l e room_1 s m #[Value.ref b] below meth c H' locs' (80 + 3 * (cn + 1)) (115267 + 12288 * (cn + 1)) Q (F0 m 948 ls [])) : W p l e room_1 s m #[Value.ref b] below meth c H locs (80 + 3 * cn) (115267 + 12288 * cn) Q (F0 m 700 ls []) := by
  obtain ⟨r, r', sx2, sm2, lm2, hfx, hfm, heq, hR⟩ := hO
  obtain ⟨hx, hb, hml, hown, hts⟩ := CX.1
  have hbA : ¬ AL s b := Nat.not_le.mpr hbl
  refine lv_aload_n hx hb dL_law_700 rfl (lv_at hl 1 rfl) ?_
  refine lv_aload_n hx hb dL_law_701 rfl (lv_at hl 0 rfl) ?_
  refine lv_iload_n hx hb dL_law_702 rfl (lv_at hl 3 rfl) ?_
  refine lv_iconst (v := (1 : Int32)) hx hb dL_law_703 (by decide) ?_
  refine lv_iadd hx hb dL_law_704 ?_
  refine va_sld hx hb hX hbl hbA hw.1.2.2 (hix 1 (by decide)) dL_law_705 ?_
  refine r_cVlF (As := [.int (xs (x3 + 1).toNatClampNeg)]) (rest := []) CX hw.1 0 (by decide) (ci := 11) rfl rfl (mX11_order l D T (adr a g) lg0 H.size (xs (x3 + 1).toNatClampNeg) sx hfx) (cwV 1 hts GV_X11_order rfl rfl rfl (by decide +kernel) ⟨Nat.le_of_ble_eq_true rfl, Nat.le_of_ble_eq_true rfl⟩) rfl hl.1 rfl (Nat.le_of_ble_eq_true rfl) dL_law_706 ⟨by have q1 : room_1.cells = 600000 := rfl; omega, by have q2 : room_1.slots = 7302250 := rfl; omega⟩ (fun ad' H' locs' hp hw1 hfr hnew => ?_)
  subst hp
  have hwm := hw.2.1.keep hw1.2.2 hfr hw.2.2
  have hdis := dis_new hw.2.1 hw.2.2 hnew
  replace hw : LW D T a g am sx2 sm lm s H' locs' := ⟨hw1, hwm, hdis⟩
  clear hw1 hwm hdis hfr hnew
  replace hl : lv_has ls 4 [(0, .ref b), (1, .ref (adr a g 0)), (2, .ref (am 0)), (3, .int x3)] := hl
  refine W.widen (k := 80 + 3 * cn + 3) (n := 115267 + 12288 * cn + 12288) (by omega) (by omega) ?_
  refine lv_aload_n hx hb dL_law_709 rfl (lv_at hl 2 rfl) ?_
  refine lv_aload_n hx hb dL_law_710 rfl (lv_at hl 0 rfl) ?_
  refine lv_iload_n hx hb dL_law_711 rfl (lv_at hl 3 rfl) ?_
  refine lv_iconst (v := (1 : Int32)) hx hb dL_law_712 (by decide) ?_
  refine lv_iadd hx hb dL_law_713 ?_
  refine va_sld hx hb hX hbl hbA hw.1.2.2 (hix 1 (by decide)) dL_law_714 ?_
  refine r_cVlF (As := [.int (xs (x3 + 1).toNatClampNeg)]) (rest := [.long r]) CM hw.2.1 0 (by decide) (ci := 12) rfl rfl (mX12_order l D T am H'.size (xs (x3 + 1).toNatClampNeg) sm lm hfm) (cwV 1 hts GV_X12_order rfl rfl rfl (by decide +kernel) ⟨Nat.le_of_ble_eq_true rfl, Nat.le_of_ble_eq_true rfl⟩) rfl hl.1 rfl (Nat.le_of_ble_eq_true rfl) dL_law_715 ⟨by have q1 : room_1.cells = 600000 := rfl; omega, by have q2 : room_1.slots = 7302250 := rfl; omega⟩ (fun ad'' H2 locs2 hp hw1 hfr hnew => ?_)
  subst hp
  have hwx := hw.1.keep hw1.2.2 hfr (fun i j hi hj e => hw.2.2 j i hj hi e.symm)
  replace hw : LW D T a g am sx2 sm2 lm2 s H2 locs2 := ⟨hwx, hw1, hw.2.2⟩
  refine W.widen (k := 80 + 3 * (cn + 1)) (n := 115267 + 12288 * (cn + 1)) (by omega) (by omega) ?_
  refine W.lcmp hx hb dL_law_718 ?_
  refine lv_if_eq (tgt := 948) hx hb dL_law_719 (by decide) (fun c9 => ?_) (fun c9 => absurd ((lg_cmp_eq r r').mpr (heq rfl)) c9)
  exact hnext g sx2 sm2 lm2 _ _ hR hw hl
set_option maxHeartbeats 4000000 in
set_option maxRecDepth 100000 in
theorem law_c19 (CX : Cx p s m #[Value.ref b] meth c code 4 RL lw_tbl ret D vwCl (tysC T) (AL s) true nwL) (CM : Cx p s m #[Value.ref b] meth c code 4 RL lw_tbl ret D vwCl (tysM T) (AL s) false []) (hX : va_X b L xs s s.heap) (hbl : b < s.heap.size) {Q : State → Prop} {g : Nat → Nat} {sx sm : Sg} {lm : Lg} {H : Heap} {locs : List Loc} {ls : Array Slot} {cn : Nat} (hcn : cn ≤ 511) {x3 : Int32} (hix : ∀ k : Nat, k < 5 → vp_in (x3 + nI k) L) {R' : Sg → Sg → Lg → Prop} (hO : OpL true (fX11_move (xs (x3 + 1).toNatClampNeg) (xs (x3 + 2).toNatClampNeg) sx) (fX12_move (xs (x3 + 1).toNatClampNeg) (xs (x3 + 2).toNatClampNeg) sm lm) R') (hw : LW D T a g am sx sm lm s H locs) (hl : lv_has ls 4 [(0, .ref b), (1, .ref (adr a g 0)), (2, .ref (am 0)), (3, .int x3)])
    (hnext : ∀ (g' : Nat → Nat) (sx' sm' : Sg) (lm' : Lg) (H' : Heap) (locs' : List Loc), R' sx' sm' lm' → LW D T a g' am sx' sm' lm' s H' locs' → lv_has ls 4 [(0, .ref b), (1, .ref (adr a g' 0)), (2, .ref (am 0)), (3, .int x3)] → W p l e room_1 s m #[Value.ref b] below meth c H' locs' (80 + 3 * (cn + 1)) (115267 + 12288 * (cn + 1)) Q (F0 m 948 ls [])) : W p l e room_1 s m #[Value.ref b] below meth c H locs (80 + 3 * cn) (115267 + 12288 * cn) Q (F0 m 724 ls []) := by
  obtain ⟨r, r', sx2, sm2, lm2, hfx, hfm, heq, hR⟩ := hO
  obtain ⟨hx, hb, hml, hown, hts⟩ := CX.1
  have hbA : ¬ AL s b := Nat.not_le.mpr hbl
  refine lv_aload_n hx hb dL_law_724 rfl (lv_at hl 1 rfl) ?_
  refine lv_aload_n hx hb dL_law_725 rfl (lv_at hl 0 rfl) ?_
  refine lv_iload_n hx hb dL_law_726 rfl (lv_at hl 3 rfl) ?_
  refine lv_iconst (v := (1 : Int32)) hx hb dL_law_727 (by decide) ?_
  refine lv_iadd hx hb dL_law_728 ?_
  refine va_sld hx hb hX hbl hbA hw.1.2.2 (hix 1 (by decide)) dL_law_729 ?_
  refine lv_aload_n hx hb dL_law_730 rfl (lv_at hl 0 rfl) ?_
  refine lv_iload_n hx hb dL_law_731 rfl (lv_at hl 3 rfl) ?_
  refine lv_iconst (v := (2 : Int32)) hx hb dL_law_732 (by decide) ?_
  refine lv_iadd hx hb dL_law_733 ?_
  refine va_sld hx hb hX hbl hbA hw.1.2.2 (hix 2 (by decide)) dL_law_734 ?_
  refine r_cVlF (As := [.int (xs (x3 + 1).toNatClampNeg), .int (xs (x3 + 2).toNatClampNeg)]) (rest := []) CX hw.1 0 (by decide) (ci := 11) rfl rfl (mX11_move l D T (adr a g) lg0 H.size (xs (x3 + 1).toNatClampNeg) (xs (x3 + 2).toNatClampNeg) sx hfx) (cwV 2 hts GV_X11_move rfl rfl rfl (by decide +kernel) ⟨Nat.le_of_ble_eq_true rfl, Nat.le_of_ble_eq_true rfl⟩) rfl hl.1 rfl (Nat.le_of_ble_eq_true rfl) dL_law_735 ⟨by have q1 : room_1.cells = 600000 := rfl; omega, by have q2 : room_1.slots = 7302250 := rfl; omega⟩ (fun ad' H' locs' hp hw1 hfr hnew => ?_)
  subst hp
  have hwm := hw.2.1.keep hw1.2.2 hfr hw.2.2
  have hdis := dis_new hw.2.1 hw.2.2 hnew
  replace hw : LW D T a g am sx2 sm lm s H' locs' := ⟨hw1, hwm, hdis⟩
  clear hw1 hwm hdis hfr hnew
  replace hl : lv_has ls 4 [(0, .ref b), (1, .ref (adr a g 0)), (2, .ref (am 0)), (3, .int x3)] := hl
  refine W.widen (k := 80 + 3 * cn + 3) (n := 115267 + 12288 * cn + 12288) (by omega) (by omega) ?_
  refine lv_aload_n hx hb dL_law_738 rfl (lv_at hl 2 rfl) ?_
  refine lv_aload_n hx hb dL_law_739 rfl (lv_at hl 0 rfl) ?_
  refine lv_iload_n hx hb dL_law_740 rfl (lv_at hl 3 rfl) ?_
  refine lv_iconst (v := (1 : Int32)) hx hb dL_law_741 (by decide) ?_
  refine lv_iadd hx hb dL_law_742 ?_
  refine va_sld hx hb hX hbl hbA hw.1.2.2 (hix 1 (by decide)) dL_law_743 ?_
  refine lv_aload_n hx hb dL_law_744 rfl (lv_at hl 0 rfl) ?_
  refine lv_iload_n hx hb dL_law_745 rfl (lv_at hl 3 rfl) ?_
  refine lv_iconst (v := (2 : Int32)) hx hb dL_law_746 (by decide) ?_
  refine lv_iadd hx hb dL_law_747 ?_
  refine va_sld hx hb hX hbl hbA hw.1.2.2 (hix 2 (by decide)) dL_law_748 ?_
  refine r_cVlF (As := [.int (xs (x3 + 1).toNatClampNeg), .int (xs (x3 + 2).toNatClampNeg)]) (rest := [.long r]) CM hw.2.1 0 (by decide) (ci := 12) rfl rfl (mX12_move l D T am H'.size (xs (x3 + 1).toNatClampNeg) (xs (x3 + 2).toNatClampNeg) sm lm hfm) (cwV 2 hts GV_X12_move rfl rfl rfl (by decide +kernel) ⟨Nat.le_of_ble_eq_true rfl, Nat.le_of_ble_eq_true rfl⟩) rfl hl.1 rfl (Nat.le_of_ble_eq_true rfl) dL_law_749 ⟨by have q1 : room_1.cells = 600000 := rfl; omega, by have q2 : room_1.slots = 7302250 := rfl; omega⟩ (fun ad'' H2 locs2 hp hw1 hfr hnew => ?_)
  subst hp
  have hwx := hw.1.keep hw1.2.2 hfr (fun i j hi hj e => hw.2.2 j i hj hi e.symm)
  replace hw : LW D T a g am sx2 sm2 lm2 s H2 locs2 := ⟨hwx, hw1, hw.2.2⟩
  refine W.widen (k := 80 + 3 * (cn + 1)) (n := 115267 + 12288 * (cn + 1)) (by omega) (by omega) ?_
  refine W.lcmp hx hb dL_law_752 ?_
  refine lv_if_eq (tgt := 948) hx hb dL_law_753 (by decide) (fun c9 => ?_) (fun c9 => absurd ((lg_cmp_eq r r').mpr (heq rfl)) c9)
  exact hnext g sx2 sm2 lm2 _ _ hR hw hl
set_option maxHeartbeats 4000000 in
set_option maxRecDepth 100000 in
theorem law_c20 (CX : Cx p s m #[Value.ref b] meth c code 4 RL lw_tbl ret D vwCl (tysC T) (AL s) true nwL) (CM : Cx p s m #[Value.ref b] meth c code 4 RL lw_tbl ret D vwCl (tysM T) (AL s) false []) (hX : va_X b L xs s s.heap) (hbl : b < s.heap.size) {Q : State → Prop} {g : Nat → Nat} {sx sm : Sg} {lm : Lg} {H : Heap} {locs : List Loc} {ls : Array Slot} {cn : Nat} (hcn : cn ≤ 511) {x3 : Int32} (hix : ∀ k : Nat, k < 5 → vp_in (x3 + nI k) L) {R' : Sg → Sg → Lg → Prop} (hO : OpL true (fX11_weight  sx) (fX12_weight  sm lm) R') (hw : LW D T a g am sx sm lm s H locs) (hl : lv_has ls 4 [(0, .ref b), (1, .ref (adr a g 0)), (2, .ref (am 0)), (3, .int x3)])
    (hnext : ∀ (g' : Nat → Nat) (sx' sm' : Sg) (lm' : Lg) (H' : Heap) (locs' : List Loc), R' sx' sm' lm' → LW D T a g' am sx' sm' lm' s H' locs' → lv_has ls 4 [(0, .ref b), (1, .ref (adr a g' 0)), (2, .ref (am 0)), (3, .int x3)] → W p l e room_1 s m #[Value.ref b] below meth c H' locs' (80 + 3 * (cn + 1)) (115267 + 12288 * (cn + 1)) Q (F0 m 948 ls [])) : W p l e room_1 s m #[Value.ref b] below meth c H locs (80 + 3 * cn) (115267 + 12288 * cn) Q (F0 m 758 ls []) := by
  obtain ⟨r, r', sx2, sm2, lm2, hfx, hfm, heq, hR⟩ := hO
  obtain ⟨hx, hb, hml, hown, hts⟩ := CX.1
  have hbA : ¬ AL s b := Nat.not_le.mpr hbl
  refine lv_aload_n hx hb dL_law_758 rfl (lv_at hl 1 rfl) ?_
  refine r_cVlF (As := []) (rest := []) CX hw.1 0 (by decide) (ci := 11) rfl rfl (mX11_weight l D T (adr a g) lg0 H.size  sx hfx) (cwV 0 hts GV_X11_weight rfl rfl rfl (by decide +kernel) ⟨Nat.le_of_ble_eq_true rfl, Nat.le_of_ble_eq_true rfl⟩) rfl hl.1 rfl (Nat.le_of_ble_eq_true rfl) dL_law_759 ⟨by have q1 : room_1.cells = 600000 := rfl; omega, by have q2 : room_1.slots = 7302250 := rfl; omega⟩ (fun ad' H' locs' hp hw1 hfr hnew => ?_)
  subst hp
  have hwm := hw.2.1.keep hw1.2.2 hfr hw.2.2
  have hdis := dis_new hw.2.1 hw.2.2 hnew
  replace hw : LW D T a g am sx2 sm lm s H' locs' := ⟨hw1, hwm, hdis⟩
  clear hw1 hwm hdis hfr hnew
  replace hl : lv_has ls 4 [(0, .ref b), (1, .ref (adr a g 0)), (2, .ref (am 0)), (3, .int x3)] := hl
  refine W.widen (k := 80 + 3 * cn + 3) (n := 115267 + 12288 * cn + 12288) (by omega) (by omega) ?_
  refine lv_aload_n hx hb dL_law_762 rfl (lv_at hl 2 rfl) ?_
  refine r_cVlF (As := []) (rest := [.long r]) CM hw.2.1 0 (by decide) (ci := 12) rfl rfl (mX12_weight l D T am H'.size  sm lm hfm) (cwV 0 hts GV_X12_weight rfl rfl rfl (by decide +kernel) ⟨Nat.le_of_ble_eq_true rfl, Nat.le_of_ble_eq_true rfl⟩) rfl hl.1 rfl (Nat.le_of_ble_eq_true rfl) dL_law_763 ⟨by have q1 : room_1.cells = 600000 := rfl; omega, by have q2 : room_1.slots = 7302250 := rfl; omega⟩ (fun ad'' H2 locs2 hp hw1 hfr hnew => ?_)
  subst hp
  have hwx := hw.1.keep hw1.2.2 hfr (fun i j hi hj e => hw.2.2 j i hj hi e.symm)
  replace hw : LW D T a g am sx2 sm2 lm2 s H2 locs2 := ⟨hwx, hw1, hw.2.2⟩
  refine W.widen (k := 80 + 3 * (cn + 1)) (n := 115267 + 12288 * (cn + 1)) (by omega) (by omega) ?_
  refine W.lcmp hx hb dL_law_766 ?_
  refine lv_if_eq (tgt := 948) hx hb dL_law_767 (by decide) (fun c9 => ?_) (fun c9 => absurd ((lg_cmp_eq r r').mpr (heq rfl)) c9)
  exact hnext g sx2 sm2 lm2 _ _ hR hw hl
set_option maxHeartbeats 4000000 in
set_option maxRecDepth 100000 in
theorem law_c21 (CX : Cx p s m #[Value.ref b] meth c code 4 RL lw_tbl ret D vwCl (tysC T) (AL s) true nwL) (CM : Cx p s m #[Value.ref b] meth c code 4 RL lw_tbl ret D vwCl (tysM T) (AL s) false []) (hX : va_X b L xs s s.heap) (hbl : b < s.heap.size) {Q : State → Prop} {g : Nat → Nat} {sx sm : Sg} {lm : Lg} {H : Heap} {locs : List Loc} {ls : Array Slot} {cn : Nat} (hcn : cn ≤ 511) {x3 : Int32} (hix : ∀ k : Nat, k < 5 → vp_in (x3 + nI k) L) {R' : Sg → Sg → Lg → Prop} (hO : OpL true (fX11_fault  sx) (fX12_fault  sm lm) R') (hw : LW D T a g am sx sm lm s H locs) (hl : lv_has ls 4 [(0, .ref b), (1, .ref (adr a g 0)), (2, .ref (am 0)), (3, .int x3)])
    (hnext : ∀ (g' : Nat → Nat) (sx' sm' : Sg) (lm' : Lg) (H' : Heap) (locs' : List Loc), R' sx' sm' lm' → LW D T a g' am sx' sm' lm' s H' locs' → lv_has ls 4 [(0, .ref b), (1, .ref (adr a g' 0)), (2, .ref (am 0)), (3, .int x3)] → W p l e room_1 s m #[Value.ref b] below meth c H' locs' (80 + 3 * (cn + 1)) (115267 + 12288 * (cn + 1)) Q (F0 m 948 ls [])) : W p l e room_1 s m #[Value.ref b] below meth c H locs (80 + 3 * cn) (115267 + 12288 * cn) Q (F0 m 772 ls []) := by
  obtain ⟨r, r', sx2, sm2, lm2, hfx, hfm, heq, hR⟩ := hO
  obtain ⟨hx, hb, hml, hown, hts⟩ := CX.1
  have hbA : ¬ AL s b := Nat.not_le.mpr hbl
  refine lv_aload_n hx hb dL_law_772 rfl (lv_at hl 1 rfl) ?_
  refine r_cVlF (As := []) (rest := []) CX hw.1 0 (by decide) (ci := 11) rfl rfl (mX11_fault l D T (adr a g) lg0 H.size  sx hfx) (cwV 0 hts GV_X11_fault rfl rfl rfl (by decide +kernel) ⟨Nat.le_of_ble_eq_true rfl, Nat.le_of_ble_eq_true rfl⟩) rfl hl.1 rfl (Nat.le_of_ble_eq_true rfl) dL_law_773 ⟨by have q1 : room_1.cells = 600000 := rfl; omega, by have q2 : room_1.slots = 7302250 := rfl; omega⟩ (fun ad' H' locs' hp hw1 hfr hnew => ?_)
  subst hp
  have hwm := hw.2.1.keep hw1.2.2 hfr hw.2.2
  have hdis := dis_new hw.2.1 hw.2.2 hnew
  replace hw : LW D T a g am sx2 sm lm s H' locs' := ⟨hw1, hwm, hdis⟩
  clear hw1 hwm hdis hfr hnew
  replace hl : lv_has ls 4 [(0, .ref b), (1, .ref (adr a g 0)), (2, .ref (am 0)), (3, .int x3)] := hl
  refine W.widen (k := 80 + 3 * cn + 3) (n := 115267 + 12288 * cn + 12288) (by omega) (by omega) ?_
  refine lv_aload_n hx hb dL_law_776 rfl (lv_at hl 2 rfl) ?_
  refine r_cVlF (As := []) (rest := [.long r]) CM hw.2.1 0 (by decide) (ci := 12) rfl rfl (mX12_fault l D T am H'.size  sm lm hfm) (cwV 0 hts GV_X12_fault rfl rfl rfl (by decide +kernel) ⟨Nat.le_of_ble_eq_true rfl, Nat.le_of_ble_eq_true rfl⟩) rfl hl.1 rfl (Nat.le_of_ble_eq_true rfl) dL_law_777 ⟨by have q1 : room_1.cells = 600000 := rfl; omega, by have q2 : room_1.slots = 7302250 := rfl; omega⟩ (fun ad'' H2 locs2 hp hw1 hfr hnew => ?_)
  subst hp
  have hwx := hw.1.keep hw1.2.2 hfr (fun i j hi hj e => hw.2.2 j i hj hi e.symm)
  replace hw : LW D T a g am sx2 sm2 lm2 s H2 locs2 := ⟨hwx, hw1, hw.2.2⟩
  refine W.widen (k := 80 + 3 * (cn + 1)) (n := 115267 + 12288 * (cn + 1)) (by omega) (by omega) ?_
  refine W.lcmp hx hb dL_law_780 ?_
  refine lv_if_eq (tgt := 948) hx hb dL_law_781 (by decide) (fun c9 => ?_) (fun c9 => absurd ((lg_cmp_eq r r').mpr (heq rfl)) c9)
  exact hnext g sx2 sm2 lm2 _ _ hR hw hl
set_option maxHeartbeats 4000000 in
set_option maxRecDepth 100000 in
theorem law_c22 (CX : Cx p s m #[Value.ref b] meth c code 4 RL lw_tbl ret D vwCl (tysC T) (AL s) true nwL) (CM : Cx p s m #[Value.ref b] meth c code 4 RL lw_tbl ret D vwCl (tysM T) (AL s) false []) (hX : va_X b L xs s s.heap) (hbl : b < s.heap.size) {Q : State → Prop} {g : Nat → Nat} {sx sm : Sg} {lm : Lg} {H : Heap} {locs : List Loc} {ls : Array Slot} {cn : Nat} (hcn : cn ≤ 511) {x3 : Int32} (hix : ∀ k : Nat, k < 5 → vp_in (x3 + nI k) L) {R' : Sg → Sg → Lg → Prop} (hO : OpL true (fX11_better (xs (x3 + 1).toNatClampNeg) sx) (fX12_better (xs (x3 + 1).toNatClampNeg) sm lm) R') (hw : LW D T a g am sx sm lm s H locs) (hl : lv_has ls 4 [(0, .ref b), (1, .ref (adr a g 0)), (2, .ref (am 0)), (3, .int x3)])
    (hnext : ∀ (g' : Nat → Nat) (sx' sm' : Sg) (lm' : Lg) (H' : Heap) (locs' : List Loc), R' sx' sm' lm' → LW D T a g' am sx' sm' lm' s H' locs' → lv_has ls 4 [(0, .ref b), (1, .ref (adr a g' 0)), (2, .ref (am 0)), (3, .int x3)] → W p l e room_1 s m #[Value.ref b] below meth c H' locs' (80 + 3 * (cn + 1)) (115267 + 12288 * (cn + 1)) Q (F0 m 948 ls [])) : W p l e room_1 s m #[Value.ref b] below meth c H locs (80 + 3 * cn) (115267 + 12288 * cn) Q (F0 m 786 ls []) := by
  obtain ⟨r, r', sx2, sm2, lm2, hfx, hfm, heq, hR⟩ := hO
  obtain ⟨hx, hb, hml, hown, hts⟩ := CX.1
  have hbA : ¬ AL s b := Nat.not_le.mpr hbl
  refine lv_aload_n hx hb dL_law_786 rfl (lv_at hl 1 rfl) ?_
  refine lv_aload_n hx hb dL_law_787 rfl (lv_at hl 0 rfl) ?_
  refine lv_iload_n hx hb dL_law_788 rfl (lv_at hl 3 rfl) ?_
  refine lv_iconst (v := (1 : Int32)) hx hb dL_law_789 (by decide) ?_
  refine lv_iadd hx hb dL_law_790 ?_
  refine va_sld hx hb hX hbl hbA hw.1.2.2 (hix 1 (by decide)) dL_law_791 ?_
  refine r_cVlF (As := [.int (xs (x3 + 1).toNatClampNeg)]) (rest := []) CX hw.1 0 (by decide) (ci := 11) rfl rfl (mX11_better l D T (adr a g) lg0 H.size (xs (x3 + 1).toNatClampNeg) sx hfx) (cwV 1 hts GV_X11_better rfl rfl rfl (by decide +kernel) ⟨Nat.le_of_ble_eq_true rfl, Nat.le_of_ble_eq_true rfl⟩) rfl hl.1 rfl (Nat.le_of_ble_eq_true rfl) dL_law_792 ⟨by have q1 : room_1.cells = 600000 := rfl; omega, by have q2 : room_1.slots = 7302250 := rfl; omega⟩ (fun ad' H' locs' hp hw1 hfr hnew => ?_)
  subst hp
  have hwm := hw.2.1.keep hw1.2.2 hfr hw.2.2
  have hdis := dis_new hw.2.1 hw.2.2 hnew
  replace hw : LW D T a g am sx2 sm lm s H' locs' := ⟨hw1, hwm, hdis⟩
  clear hw1 hwm hdis hfr hnew
  replace hl : lv_has ls 4 [(0, .ref b), (1, .ref (adr a g 0)), (2, .ref (am 0)), (3, .int x3)] := hl
  refine W.widen (k := 80 + 3 * cn + 3) (n := 115267 + 12288 * cn + 12288) (by omega) (by omega) ?_
  refine lv_aload_n hx hb dL_law_795 rfl (lv_at hl 2 rfl) ?_
  refine lv_aload_n hx hb dL_law_796 rfl (lv_at hl 0 rfl) ?_
  refine lv_iload_n hx hb dL_law_797 rfl (lv_at hl 3 rfl) ?_
  refine lv_iconst (v := (1 : Int32)) hx hb dL_law_798 (by decide) ?_
  refine lv_iadd hx hb dL_law_799 ?_
  refine va_sld hx hb hX hbl hbA hw.1.2.2 (hix 1 (by decide)) dL_law_800 ?_
  refine r_cVlF (As := [.int (xs (x3 + 1).toNatClampNeg)]) (rest := [.long r]) CM hw.2.1 0 (by decide) (ci := 12) rfl rfl (mX12_better l D T am H'.size (xs (x3 + 1).toNatClampNeg) sm lm hfm) (cwV 1 hts GV_X12_better rfl rfl rfl (by decide +kernel) ⟨Nat.le_of_ble_eq_true rfl, Nat.le_of_ble_eq_true rfl⟩) rfl hl.1 rfl (Nat.le_of_ble_eq_true rfl) dL_law_801 ⟨by have q1 : room_1.cells = 600000 := rfl; omega, by have q2 : room_1.slots = 7302250 := rfl; omega⟩ (fun ad'' H2 locs2 hp hw1 hfr hnew => ?_)
  subst hp
  have hwx := hw.1.keep hw1.2.2 hfr (fun i j hi hj e => hw.2.2 j i hj hi e.symm)
  replace hw : LW D T a g am sx2 sm2 lm2 s H2 locs2 := ⟨hwx, hw1, hw.2.2⟩
  refine W.widen (k := 80 + 3 * (cn + 1)) (n := 115267 + 12288 * (cn + 1)) (by omega) (by omega) ?_
  refine W.lcmp hx hb dL_law_804 ?_
  refine lv_if_eq (tgt := 948) hx hb dL_law_805 (by decide) (fun c9 => ?_) (fun c9 => absurd ((lg_cmp_eq r r').mpr (heq rfl)) c9)
  exact hnext g sx2 sm2 lm2 _ _ hR hw hl
set_option maxHeartbeats 4000000 in
set_option maxRecDepth 100000 in
theorem law_c23 (CX : Cx p s m #[Value.ref b] meth c code 4 RL lw_tbl ret D vwCl (tysC T) (AL s) true nwL) (CM : Cx p s m #[Value.ref b] meth c code 4 RL lw_tbl ret D vwCl (tysM T) (AL s) false []) (hX : va_X b L xs s s.heap) (hbl : b < s.heap.size) {Q : State → Prop} {g : Nat → Nat} {sx sm : Sg} {lm : Lg} {H : Heap} {locs : List Loc} {ls : Array Slot} {cn : Nat} (hcn : cn ≤ 511) {x3 : Int32} (hix : ∀ k : Nat, k < 5 → vp_in (x3 + nI k) L) {R' : Sg → Sg → Lg → Prop} (hO : OpL true (fX11_turn  sx) (fX12_turn  sm lm) R') (hw : LW D T a g am sx sm lm s H locs) (hl : lv_has ls 4 [(0, .ref b), (1, .ref (adr a g 0)), (2, .ref (am 0)), (3, .int x3)])
    (hnext : ∀ (g' : Nat → Nat) (sx' sm' : Sg) (lm' : Lg) (H' : Heap) (locs' : List Loc), R' sx' sm' lm' → LW D T a g' am sx' sm' lm' s H' locs' → lv_has ls 4 [(0, .ref b), (1, .ref (adr a g' 0)), (2, .ref (am 0)), (3, .int x3)] → W p l e room_1 s m #[Value.ref b] below meth c H' locs' (80 + 3 * (cn + 1)) (115267 + 12288 * (cn + 1)) Q (F0 m 948 ls [])) : W p l e room_1 s m #[Value.ref b] below meth c H locs (80 + 3 * cn) (115267 + 12288 * cn) Q (F0 m 810 ls []) := by
  obtain ⟨r, r', sx2, sm2, lm2, hfx, hfm, heq, hR⟩ := hO
  obtain ⟨hx, hb, hml, hown, hts⟩ := CX.1
  have hbA : ¬ AL s b := Nat.not_le.mpr hbl
  refine lv_aload_n hx hb dL_law_810 rfl (lv_at hl 1 rfl) ?_
  refine r_cVlF (As := []) (rest := []) CX hw.1 0 (by decide) (ci := 11) rfl rfl (mX11_turn l D T (adr a g) lg0 H.size  sx hfx) (cwV 0 hts GV_X11_turn rfl rfl rfl (by decide +kernel) ⟨Nat.le_of_ble_eq_true rfl, Nat.le_of_ble_eq_true rfl⟩) rfl hl.1 rfl (Nat.le_of_ble_eq_true rfl) dL_law_811 ⟨by have q1 : room_1.cells = 600000 := rfl; omega, by have q2 : room_1.slots = 7302250 := rfl; omega⟩ (fun ad' H' locs' hp hw1 hfr hnew => ?_)
  subst hp
  have hwm := hw.2.1.keep hw1.2.2 hfr hw.2.2
  have hdis := dis_new hw.2.1 hw.2.2 hnew
  replace hw : LW D T a g am sx2 sm lm s H' locs' := ⟨hw1, hwm, hdis⟩
  clear hw1 hwm hdis hfr hnew
  replace hl : lv_has ls 4 [(0, .ref b), (1, .ref (adr a g 0)), (2, .ref (am 0)), (3, .int x3)] := hl
  refine W.widen (k := 80 + 3 * cn + 3) (n := 115267 + 12288 * cn + 12288) (by omega) (by omega) ?_
  refine lv_aload_n hx hb dL_law_814 rfl (lv_at hl 2 rfl) ?_
  refine r_cVlF (As := []) (rest := [.long r]) CM hw.2.1 0 (by decide) (ci := 12) rfl rfl (mX12_turn l D T am H'.size  sm lm hfm) (cwV 0 hts GV_X12_turn rfl rfl rfl (by decide +kernel) ⟨Nat.le_of_ble_eq_true rfl, Nat.le_of_ble_eq_true rfl⟩) rfl hl.1 rfl (Nat.le_of_ble_eq_true rfl) dL_law_815 ⟨by have q1 : room_1.cells = 600000 := rfl; omega, by have q2 : room_1.slots = 7302250 := rfl; omega⟩ (fun ad'' H2 locs2 hp hw1 hfr hnew => ?_)
  subst hp
  have hwx := hw.1.keep hw1.2.2 hfr (fun i j hi hj e => hw.2.2 j i hj hi e.symm)
  replace hw : LW D T a g am sx2 sm2 lm2 s H2 locs2 := ⟨hwx, hw1, hw.2.2⟩
  refine W.widen (k := 80 + 3 * (cn + 1)) (n := 115267 + 12288 * (cn + 1)) (by omega) (by omega) ?_
  refine W.lcmp hx hb dL_law_818 ?_
  refine lv_if_eq (tgt := 948) hx hb dL_law_819 (by decide) (fun c9 => ?_) (fun c9 => absurd ((lg_cmp_eq r r').mpr (heq rfl)) c9)
  exact hnext g sx2 sm2 lm2 _ _ hR hw hl
set_option maxHeartbeats 4000000 in
set_option maxRecDepth 100000 in
theorem law_c24 (CX : Cx p s m #[Value.ref b] meth c code 4 RL lw_tbl ret D vwCl (tysC T) (AL s) true nwL) (CM : Cx p s m #[Value.ref b] meth c code 4 RL lw_tbl ret D vwCl (tysM T) (AL s) false []) (hX : va_X b L xs s s.heap) (hbl : b < s.heap.size) {Q : State → Prop} {g : Nat → Nat} {sx sm : Sg} {lm : Lg} {H : Heap} {locs : List Loc} {ls : Array Slot} {cn : Nat} (hcn : cn ≤ 511) {x3 : Int32} (hix : ∀ k : Nat, k < 5 → vp_in (x3 + nI k) L) {R' : Sg → Sg → Lg → Prop} (hO : OpL true (fX11_groups  sx) (fX12_groups  sm lm) R') (hw : LW D T a g am sx sm lm s H locs) (hl : lv_has ls 4 [(0, .ref b), (1, .ref (adr a g 0)), (2, .ref (am 0)), (3, .int x3)])
    (hnext : ∀ (g' : Nat → Nat) (sx' sm' : Sg) (lm' : Lg) (H' : Heap) (locs' : List Loc), R' sx' sm' lm' → LW D T a g' am sx' sm' lm' s H' locs' → lv_has ls 4 [(0, .ref b), (1, .ref (adr a g' 0)), (2, .ref (am 0)), (3, .int x3)] → W p l e room_1 s m #[Value.ref b] below meth c H' locs' (80 + 3 * (cn + 1)) (115267 + 12288 * (cn + 1)) Q (F0 m 948 ls [])) : W p l e room_1 s m #[Value.ref b] below meth c H locs (80 + 3 * cn) (115267 + 12288 * cn) Q (F0 m 824 ls []) := by
  obtain ⟨r, r', sx2, sm2, lm2, hfx, hfm, heq, hR⟩ := hO
  obtain ⟨hx, hb, hml, hown, hts⟩ := CX.1
  have hbA : ¬ AL s b := Nat.not_le.mpr hbl
  refine lv_aload_n hx hb dL_law_824 rfl (lv_at hl 1 rfl) ?_
  refine r_cVlF (As := []) (rest := []) CX hw.1 0 (by decide) (ci := 11) rfl rfl (mX11_groups l D T (adr a g) lg0 H.size  sx hfx) (cwV 0 hts GV_X11_groups rfl rfl rfl (by decide +kernel) ⟨Nat.le_of_ble_eq_true rfl, Nat.le_of_ble_eq_true rfl⟩) rfl hl.1 rfl (Nat.le_of_ble_eq_true rfl) dL_law_825 ⟨by have q1 : room_1.cells = 600000 := rfl; omega, by have q2 : room_1.slots = 7302250 := rfl; omega⟩ (fun ad' H' locs' hp hw1 hfr hnew => ?_)
  subst hp
  have hwm := hw.2.1.keep hw1.2.2 hfr hw.2.2
  have hdis := dis_new hw.2.1 hw.2.2 hnew
  replace hw : LW D T a g am sx2 sm lm s H' locs' := ⟨hw1, hwm, hdis⟩
  clear hw1 hwm hdis hfr hnew
  replace hl : lv_has ls 4 [(0, .ref b), (1, .ref (adr a g 0)), (2, .ref (am 0)), (3, .int x3)] := hl
  refine W.widen (k := 80 + 3 * cn + 3) (n := 115267 + 12288 * cn + 12288) (by omega) (by omega) ?_
  refine lv_aload_n hx hb dL_law_828 rfl (lv_at hl 2 rfl) ?_
  refine r_cVlF (As := []) (rest := [.long r]) CM hw.2.1 0 (by decide) (ci := 12) rfl rfl (mX12_groups l D T am H'.size  sm lm hfm) (cwV 0 hts GV_X12_groups rfl rfl rfl (by decide +kernel) ⟨Nat.le_of_ble_eq_true rfl, Nat.le_of_ble_eq_true rfl⟩) rfl hl.1 rfl (Nat.le_of_ble_eq_true rfl) dL_law_829 ⟨by have q1 : room_1.cells = 600000 := rfl; omega, by have q2 : room_1.slots = 7302250 := rfl; omega⟩ (fun ad'' H2 locs2 hp hw1 hfr hnew => ?_)
  subst hp
  have hwx := hw.1.keep hw1.2.2 hfr (fun i j hi hj e => hw.2.2 j i hj hi e.symm)
  replace hw : LW D T a g am sx2 sm2 lm2 s H2 locs2 := ⟨hwx, hw1, hw.2.2⟩
  refine W.widen (k := 80 + 3 * (cn + 1)) (n := 115267 + 12288 * (cn + 1)) (by omega) (by omega) ?_
  refine W.lcmp hx hb dL_law_832 ?_
  refine lv_if_eq (tgt := 948) hx hb dL_law_833 (by decide) (fun c9 => ?_) (fun c9 => absurd ((lg_cmp_eq r r').mpr (heq rfl)) c9)
  exact hnext g sx2 sm2 lm2 _ _ hR hw hl
set_option maxHeartbeats 4000000 in
set_option maxRecDepth 100000 in
theorem law_c25 (CX : Cx p s m #[Value.ref b] meth c code 4 RL lw_tbl ret D vwCl (tysC T) (AL s) true nwL) (CM : Cx p s m #[Value.ref b] meth c code 4 RL lw_tbl ret D vwCl (tysM T) (AL s) false []) (hX : va_X b L xs s s.heap) (hbl : b < s.heap.size) {Q : State → Prop} {g : Nat → Nat} {sx sm : Sg} {lm : Lg} {H : Heap} {locs : List Loc} {ls : Array Slot} {cn : Nat} (hcn : cn ≤ 511) {x3 : Int32} (hix : ∀ k : Nat, k < 5 → vp_in (x3 + nI k) L) {R' : Sg → Sg → Lg → Prop} (hO : OpL true (fX11_groupOf (xs (x3 + 1).toNatClampNeg) sx) (fX12_groupOf (xs (x3 + 1).toNatClampNeg) sm lm) R') (hw : LW D T a g am sx sm lm s H locs) (hl : lv_has ls 4 [(0, .ref b), (1, .ref (adr a g 0)), (2, .ref (am 0)), (3, .int x3)])
    (hnext : ∀ (g' : Nat → Nat) (sx' sm' : Sg) (lm' : Lg) (H' : Heap) (locs' : List Loc), R' sx' sm' lm' → LW D T a g' am sx' sm' lm' s H' locs' → lv_has ls 4 [(0, .ref b), (1, .ref (adr a g' 0)), (2, .ref (am 0)), (3, .int x3)] → W p l e room_1 s m #[Value.ref b] below meth c H' locs' (80 + 3 * (cn + 1)) (115267 + 12288 * (cn + 1)) Q (F0 m 948 ls [])) : W p l e room_1 s m #[Value.ref b] below meth c H locs (80 + 3 * cn) (115267 + 12288 * cn) Q (F0 m 838 ls []) := by
  obtain ⟨r, r', sx2, sm2, lm2, hfx, hfm, heq, hR⟩ := hO
  obtain ⟨hx, hb, hml, hown, hts⟩ := CX.1
  have hbA : ¬ AL s b := Nat.not_le.mpr hbl
  refine lv_aload_n hx hb dL_law_838 rfl (lv_at hl 1 rfl) ?_
  refine lv_aload_n hx hb dL_law_839 rfl (lv_at hl 0 rfl) ?_
  refine lv_iload_n hx hb dL_law_840 rfl (lv_at hl 3 rfl) ?_
  refine lv_iconst (v := (1 : Int32)) hx hb dL_law_841 (by decide) ?_
  refine lv_iadd hx hb dL_law_842 ?_
  refine va_sld hx hb hX hbl hbA hw.1.2.2 (hix 1 (by decide)) dL_law_843 ?_
  refine r_cVlF (As := [.int (xs (x3 + 1).toNatClampNeg)]) (rest := []) CX hw.1 0 (by decide) (ci := 11) rfl rfl (mX11_groupOf l D T (adr a g) lg0 H.size (xs (x3 + 1).toNatClampNeg) sx hfx) (cwV 1 hts GV_X11_groupOf rfl rfl rfl (by decide +kernel) ⟨Nat.le_of_ble_eq_true rfl, Nat.le_of_ble_eq_true rfl⟩) rfl hl.1 rfl (Nat.le_of_ble_eq_true rfl) dL_law_844 ⟨by have q1 : room_1.cells = 600000 := rfl; omega, by have q2 : room_1.slots = 7302250 := rfl; omega⟩ (fun ad' H' locs' hp hw1 hfr hnew => ?_)
  subst hp
  have hwm := hw.2.1.keep hw1.2.2 hfr hw.2.2
  have hdis := dis_new hw.2.1 hw.2.2 hnew
  replace hw : LW D T a g am sx2 sm lm s H' locs' := ⟨hw1, hwm, hdis⟩
  clear hw1 hwm hdis hfr hnew
  replace hl : lv_has ls 4 [(0, .ref b), (1, .ref (adr a g 0)), (2, .ref (am 0)), (3, .int x3)] := hl
  refine W.widen (k := 80 + 3 * cn + 3) (n := 115267 + 12288 * cn + 12288) (by omega) (by omega) ?_
  refine lv_aload_n hx hb dL_law_847 rfl (lv_at hl 2 rfl) ?_
  refine lv_aload_n hx hb dL_law_848 rfl (lv_at hl 0 rfl) ?_
  refine lv_iload_n hx hb dL_law_849 rfl (lv_at hl 3 rfl) ?_
  refine lv_iconst (v := (1 : Int32)) hx hb dL_law_850 (by decide) ?_
  refine lv_iadd hx hb dL_law_851 ?_
  refine va_sld hx hb hX hbl hbA hw.1.2.2 (hix 1 (by decide)) dL_law_852 ?_
  refine r_cVlF (As := [.int (xs (x3 + 1).toNatClampNeg)]) (rest := [.long r]) CM hw.2.1 0 (by decide) (ci := 12) rfl rfl (mX12_groupOf l D T am H'.size (xs (x3 + 1).toNatClampNeg) sm lm hfm) (cwV 1 hts GV_X12_groupOf rfl rfl rfl (by decide +kernel) ⟨Nat.le_of_ble_eq_true rfl, Nat.le_of_ble_eq_true rfl⟩) rfl hl.1 rfl (Nat.le_of_ble_eq_true rfl) dL_law_853 ⟨by have q1 : room_1.cells = 600000 := rfl; omega, by have q2 : room_1.slots = 7302250 := rfl; omega⟩ (fun ad'' H2 locs2 hp hw1 hfr hnew => ?_)
  subst hp
  have hwx := hw.1.keep hw1.2.2 hfr (fun i j hi hj e => hw.2.2 j i hj hi e.symm)
  replace hw : LW D T a g am sx2 sm2 lm2 s H2 locs2 := ⟨hwx, hw1, hw.2.2⟩
  refine W.widen (k := 80 + 3 * (cn + 1)) (n := 115267 + 12288 * (cn + 1)) (by omega) (by omega) ?_
  refine W.lcmp hx hb dL_law_856 ?_
  refine lv_if_eq (tgt := 948) hx hb dL_law_857 (by decide) (fun c9 => ?_) (fun c9 => absurd ((lg_cmp_eq r r').mpr (heq rfl)) c9)
  exact hnext g sx2 sm2 lm2 _ _ hR hw hl
set_option maxHeartbeats 4000000 in
set_option maxRecDepth 100000 in
theorem law_c26 (CX : Cx p s m #[Value.ref b] meth c code 4 RL lw_tbl ret D vwCl (tysC T) (AL s) true nwL) (CM : Cx p s m #[Value.ref b] meth c code 4 RL lw_tbl ret D vwCl (tysM T) (AL s) false []) (hX : va_X b L xs s s.heap) (hbl : b < s.heap.size) {Q : State → Prop} {g : Nat → Nat} {sx sm : Sg} {lm : Lg} {H : Heap} {locs : List Loc} {ls : Array Slot} {cn : Nat} (hcn : cn ≤ 511) {x3 : Int32} (hix : ∀ k : Nat, k < 5 → vp_in (x3 + nI k) L) {R' : Sg → Sg → Lg → Prop} (hO : OpL true (fX11_loose  sx) (fX12_loose  sm lm) R') (hw : LW D T a g am sx sm lm s H locs) (hl : lv_has ls 4 [(0, .ref b), (1, .ref (adr a g 0)), (2, .ref (am 0)), (3, .int x3)])
    (hnext : ∀ (g' : Nat → Nat) (sx' sm' : Sg) (lm' : Lg) (H' : Heap) (locs' : List Loc), R' sx' sm' lm' → LW D T a g' am sx' sm' lm' s H' locs' → lv_has ls 4 [(0, .ref b), (1, .ref (adr a g' 0)), (2, .ref (am 0)), (3, .int x3)] → W p l e room_1 s m #[Value.ref b] below meth c H' locs' (80 + 3 * (cn + 1)) (115267 + 12288 * (cn + 1)) Q (F0 m 948 ls [])) : W p l e room_1 s m #[Value.ref b] below meth c H locs (80 + 3 * cn) (115267 + 12288 * cn) Q (F0 m 862 ls []) := by
  obtain ⟨r, r', sx2, sm2, lm2, hfx, hfm, heq, hR⟩ := hO
  obtain ⟨hx, hb, hml, hown, hts⟩ := CX.1
  have hbA : ¬ AL s b := Nat.not_le.mpr hbl
  refine lv_aload_n hx hb dL_law_862 rfl (lv_at hl 1 rfl) ?_
  refine r_cVlF (As := []) (rest := []) CX hw.1 0 (by decide) (ci := 11) rfl rfl (mX11_loose l D T a g lg0 H.size  sx hfx) (cwV 0 hts GV_X11_loose rfl rfl rfl (by decide +kernel) ⟨Nat.le_of_ble_eq_true rfl, Nat.le_of_ble_eq_true rfl⟩) rfl hl.1 rfl (Nat.le_of_ble_eq_true rfl) dL_law_863 ⟨by have q1 : room_1.cells = 600000 := rfl; omega, by have q2 : room_1.slots = 7302250 := rfl; omega⟩ (fun ad' H' locs' hp hw1 hfr hnew => ?_)
  obtain ⟨g2, rfl⟩ := hp
  have hwm := hw.2.1.keep hw1.2.2 hfr hw.2.2
  have hdis := dis_new hw.2.1 hw.2.2 hnew
  replace hw : LW D T a g2 am sx2 sm lm s H' locs' := ⟨hw1, hwm, hdis⟩
  clear hw1 hwm hdis hfr hnew
  replace hl : lv_has ls 4 [(0, .ref b), (1, .ref (adr a g2 0)), (2, .ref (am 0)), (3, .int x3)] := hl
  refine W.widen (k := 80 + 3 * cn + 3) (n := 115267 + 12288 * cn + 12288) (by omega) (by omega) ?_
  refine lv_aload_n hx hb dL_law_866 rfl (lv_at hl 2 rfl) ?_
  refine r_cVlF (As := []) (rest := [.long r]) CM hw.2.1 0 (by decide) (ci := 12) rfl rfl (mX12_loose l D T am H'.size  sm lm hfm) (cwV 0 hts GV_X12_loose rfl rfl rfl (by decide +kernel) ⟨Nat.le_of_ble_eq_true rfl, Nat.le_of_ble_eq_true rfl⟩) rfl hl.1 rfl (Nat.le_of_ble_eq_true rfl) dL_law_867 ⟨by have q1 : room_1.cells = 600000 := rfl; omega, by have q2 : room_1.slots = 7302250 := rfl; omega⟩ (fun ad'' H2 locs2 hp hw1 hfr hnew => ?_)
  subst hp
  have hwx := hw.1.keep hw1.2.2 hfr (fun i j hi hj e => hw.2.2 j i hj hi e.symm)
  replace hw : LW D T a g2 am sx2 sm2 lm2 s H2 locs2 := ⟨hwx, hw1, hw.2.2⟩
  refine W.widen (k := 80 + 3 * (cn + 1)) (n := 115267 + 12288 * (cn + 1)) (by omega) (by omega) ?_
  refine W.lcmp hx hb dL_law_870 ?_
  refine lv_if_eq (tgt := 948) hx hb dL_law_871 (by decide) (fun c9 => ?_) (fun c9 => absurd ((lg_cmp_eq r r').mpr (heq rfl)) c9)
  exact hnext g2 sx2 sm2 lm2 _ _ hR hw hl
set_option maxHeartbeats 4000000 in
set_option maxRecDepth 100000 in
theorem law_c27 (CX : Cx p s m #[Value.ref b] meth c code 4 RL lw_tbl ret D vwCl (tysC T) (AL s) true nwL) (CM : Cx p s m #[Value.ref b] meth c code 4 RL lw_tbl ret D vwCl (tysM T) (AL s) false []) (hX : va_X b L xs s s.heap) (hbl : b < s.heap.size) {Q : State → Prop} {g : Nat → Nat} {sx sm : Sg} {lm : Lg} {H : Heap} {locs : List Loc} {ls : Array Slot} {cn : Nat} (hcn : cn ≤ 511) {x3 : Int32} (hix : ∀ k : Nat, k < 5 → vp_in (x3 + nI k) L) {R' : Sg → Sg → Lg → Prop} (hO : OpL true (fX11_pack  sx) (fX12_pack  sm lm) R') (hw : LW D T a g am sx sm lm s H locs) (hl : lv_has ls 4 [(0, .ref b), (1, .ref (adr a g 0)), (2, .ref (am 0)), (3, .int x3)])
    (hnext : ∀ (g' : Nat → Nat) (sx' sm' : Sg) (lm' : Lg) (H' : Heap) (locs' : List Loc), R' sx' sm' lm' → LW D T a g' am sx' sm' lm' s H' locs' → lv_has ls 4 [(0, .ref b), (1, .ref (adr a g' 0)), (2, .ref (am 0)), (3, .int x3)] → W p l e room_1 s m #[Value.ref b] below meth c H' locs' (80 + 3 * (cn + 1)) (115267 + 12288 * (cn + 1)) Q (F0 m 948 ls [])) : W p l e room_1 s m #[Value.ref b] below meth c H locs (80 + 3 * cn) (115267 + 12288 * cn) Q (F0 m 876 ls []) := by
  obtain ⟨r, r', sx2, sm2, lm2, hfx, hfm, heq, hR⟩ := hO
  obtain ⟨hx, hb, hml, hown, hts⟩ := CX.1
  have hbA : ¬ AL s b := Nat.not_le.mpr hbl
  refine lv_aload_n hx hb dL_law_876 rfl (lv_at hl 1 rfl) ?_
  refine r_cVlF (As := []) (rest := []) CX hw.1 0 (by decide) (ci := 11) rfl rfl (mX11_pack l D T (adr a g) lg0 H.size  sx hfx) (cwV 0 hts GV_X11_pack rfl rfl rfl (by decide +kernel) ⟨Nat.le_of_ble_eq_true rfl, Nat.le_of_ble_eq_true rfl⟩) rfl hl.1 rfl (Nat.le_of_ble_eq_true rfl) dL_law_877 ⟨by have q1 : room_1.cells = 600000 := rfl; omega, by have q2 : room_1.slots = 7302250 := rfl; omega⟩ (fun ad' H' locs' hp hw1 hfr hnew => ?_)
  subst hp
  have hwm := hw.2.1.keep hw1.2.2 hfr hw.2.2
  have hdis := dis_new hw.2.1 hw.2.2 hnew
  replace hw : LW D T a g am sx2 sm lm s H' locs' := ⟨hw1, hwm, hdis⟩
  clear hw1 hwm hdis hfr hnew
  replace hl : lv_has ls 4 [(0, .ref b), (1, .ref (adr a g 0)), (2, .ref (am 0)), (3, .int x3)] := hl
  refine W.widen (k := 80 + 3 * cn + 3) (n := 115267 + 12288 * cn + 12288) (by omega) (by omega) ?_
  refine lv_aload_n hx hb dL_law_880 rfl (lv_at hl 2 rfl) ?_
  refine r_cVlF (As := []) (rest := [.long r]) CM hw.2.1 0 (by decide) (ci := 12) rfl rfl (mX12_pack l D T am H'.size  sm lm hfm) (cwV 0 hts GV_X12_pack rfl rfl rfl (by decide +kernel) ⟨Nat.le_of_ble_eq_true rfl, Nat.le_of_ble_eq_true rfl⟩) rfl hl.1 rfl (Nat.le_of_ble_eq_true rfl) dL_law_881 ⟨by have q1 : room_1.cells = 600000 := rfl; omega, by have q2 : room_1.slots = 7302250 := rfl; omega⟩ (fun ad'' H2 locs2 hp hw1 hfr hnew => ?_)
  subst hp
  have hwx := hw.1.keep hw1.2.2 hfr (fun i j hi hj e => hw.2.2 j i hj hi e.symm)
  replace hw : LW D T a g am sx2 sm2 lm2 s H2 locs2 := ⟨hwx, hw1, hw.2.2⟩
  refine W.widen (k := 80 + 3 * (cn + 1)) (n := 115267 + 12288 * (cn + 1)) (by omega) (by omega) ?_
  refine W.lcmp hx hb dL_law_884 ?_
  refine lv_if_eq (tgt := 948) hx hb dL_law_885 (by decide) (fun c9 => ?_) (fun c9 => absurd ((lg_cmp_eq r r').mpr (heq rfl)) c9)
  exact hnext g sx2 sm2 lm2 _ _ hR hw hl
set_option maxHeartbeats 4000000 in
set_option maxRecDepth 100000 in
theorem law_c28 (CX : Cx p s m #[Value.ref b] meth c code 4 RL lw_tbl ret D vwCl (tysC T) (AL s) true nwL) (CM : Cx p s m #[Value.ref b] meth c code 4 RL lw_tbl ret D vwCl (tysM T) (AL s) false []) (hX : va_X b L xs s s.heap) (hbl : b < s.heap.size) {Q : State → Prop} {g : Nat → Nat} {sx sm : Sg} {lm : Lg} {H : Heap} {locs : List Loc} {ls : Array Slot} {cn : Nat} (hcn : cn ≤ 511) {x3 : Int32} (hix : ∀ k : Nat, k < 5 → vp_in (x3 + nI k) L) {R' : Sg → Sg → Lg → Prop} (hO : OpL true (fX11_ring (xs (x3 + 1).toNatClampNeg) (xs (x3 + 2).toNatClampNeg) sx) (fX12_ring (xs (x3 + 1).toNatClampNeg) (xs (x3 + 2).toNatClampNeg) sm lm) R') (hw : LW D T a g am sx sm lm s H locs) (hl : lv_has ls 4 [(0, .ref b), (1, .ref (adr a g 0)), (2, .ref (am 0)), (3, .int x3)])
    (hnext : ∀ (g' : Nat → Nat) (sx' sm' : Sg) (lm' : Lg) (H' : Heap) (locs' : List Loc), R' sx' sm' lm' → LW D T a g' am sx' sm' lm' s H' locs' → lv_has ls 4 [(0, .ref b), (1, .ref (adr a g' 0)), (2, .ref (am 0)), (3, .int x3)] → W p l e room_1 s m #[Value.ref b] below meth c H' locs' (80 + 3 * (cn + 1)) (115267 + 12288 * (cn + 1)) Q (F0 m 948 ls [])) : W p l e room_1 s m #[Value.ref b] below meth c H locs (80 + 3 * cn) (115267 + 12288 * cn) Q (F0 m 890 ls []) := by
  obtain ⟨r, r', sx2, sm2, lm2, hfx, hfm, heq, hR⟩ := hO
  obtain ⟨hx, hb, hml, hown, hts⟩ := CX.1
  have hbA : ¬ AL s b := Nat.not_le.mpr hbl
  refine lv_aload_n hx hb dL_law_890 rfl (lv_at hl 1 rfl) ?_
  refine lv_aload_n hx hb dL_law_891 rfl (lv_at hl 0 rfl) ?_
  refine lv_iload_n hx hb dL_law_892 rfl (lv_at hl 3 rfl) ?_
  refine lv_iconst (v := (1 : Int32)) hx hb dL_law_893 (by decide) ?_
  refine lv_iadd hx hb dL_law_894 ?_
  refine va_sld hx hb hX hbl hbA hw.1.2.2 (hix 1 (by decide)) dL_law_895 ?_
  refine lv_aload_n hx hb dL_law_896 rfl (lv_at hl 0 rfl) ?_
  refine lv_iload_n hx hb dL_law_897 rfl (lv_at hl 3 rfl) ?_
  refine lv_iconst (v := (2 : Int32)) hx hb dL_law_898 (by decide) ?_
  refine lv_iadd hx hb dL_law_899 ?_
  refine va_sld hx hb hX hbl hbA hw.1.2.2 (hix 2 (by decide)) dL_law_900 ?_
  refine r_cVlF (As := [.int (xs (x3 + 1).toNatClampNeg), .int (xs (x3 + 2).toNatClampNeg)]) (rest := []) CX hw.1 0 (by decide) (ci := 11) rfl rfl (mX11_ring l D T (adr a g) lg0 H.size (xs (x3 + 1).toNatClampNeg) (xs (x3 + 2).toNatClampNeg) sx hfx) (cwV 2 hts GV_X11_ring rfl rfl rfl (by decide +kernel) ⟨Nat.le_of_ble_eq_true rfl, Nat.le_of_ble_eq_true rfl⟩) rfl hl.1 rfl (Nat.le_of_ble_eq_true rfl) dL_law_901 ⟨by have q1 : room_1.cells = 600000 := rfl; omega, by have q2 : room_1.slots = 7302250 := rfl; omega⟩ (fun ad' H' locs' hp hw1 hfr hnew => ?_)
  subst hp
  have hwm := hw.2.1.keep hw1.2.2 hfr hw.2.2
  have hdis := dis_new hw.2.1 hw.2.2 hnew
  replace hw : LW D T a g am sx2 sm lm s H' locs' := ⟨hw1, hwm, hdis⟩
  clear hw1 hwm hdis hfr hnew
  replace hl : lv_has ls 4 [(0, .ref b), (1, .ref (adr a g 0)), (2, .ref (am 0)), (3, .int x3)] := hl
  refine W.widen (k := 80 + 3 * cn + 3) (n := 115267 + 12288 * cn + 12288) (by omega) (by omega) ?_
  refine lv_aload_n hx hb dL_law_904 rfl (lv_at hl 2 rfl) ?_
  refine lv_aload_n hx hb dL_law_905 rfl (lv_at hl 0 rfl) ?_
  refine lv_iload_n hx hb dL_law_906 rfl (lv_at hl 3 rfl) ?_
  refine lv_iconst (v := (1 : Int32)) hx hb dL_law_907 (by decide) ?_
  refine lv_iadd hx hb dL_law_908 ?_
  refine va_sld hx hb hX hbl hbA hw.1.2.2 (hix 1 (by decide)) dL_law_909 ?_
  refine lv_aload_n hx hb dL_law_910 rfl (lv_at hl 0 rfl) ?_
  refine lv_iload_n hx hb dL_law_911 rfl (lv_at hl 3 rfl) ?_
  refine lv_iconst (v := (2 : Int32)) hx hb dL_law_912 (by decide) ?_
  refine lv_iadd hx hb dL_law_913 ?_
  refine va_sld hx hb hX hbl hbA hw.1.2.2 (hix 2 (by decide)) dL_law_914 ?_
  refine r_cVlF (As := [.int (xs (x3 + 1).toNatClampNeg), .int (xs (x3 + 2).toNatClampNeg)]) (rest := [.long r]) CM hw.2.1 0 (by decide) (ci := 12) rfl rfl (mX12_ring l D T am H'.size (xs (x3 + 1).toNatClampNeg) (xs (x3 + 2).toNatClampNeg) sm lm hfm) (cwV 2 hts GV_X12_ring rfl rfl rfl (by decide +kernel) ⟨Nat.le_of_ble_eq_true rfl, Nat.le_of_ble_eq_true rfl⟩) rfl hl.1 rfl (Nat.le_of_ble_eq_true rfl) dL_law_915 ⟨by have q1 : room_1.cells = 600000 := rfl; omega, by have q2 : room_1.slots = 7302250 := rfl; omega⟩ (fun ad'' H2 locs2 hp hw1 hfr hnew => ?_)
  subst hp
  have hwx := hw.1.keep hw1.2.2 hfr (fun i j hi hj e => hw.2.2 j i hj hi e.symm)
  replace hw : LW D T a g am sx2 sm2 lm2 s H2 locs2 := ⟨hwx, hw1, hw.2.2⟩
  refine W.widen (k := 80 + 3 * (cn + 1)) (n := 115267 + 12288 * (cn + 1)) (by omega) (by omega) ?_
  refine W.lcmp hx hb dL_law_918 ?_
  refine lv_if_eq (tgt := 948) hx hb dL_law_919 (by decide) (fun c9 => ?_) (fun c9 => absurd ((lg_cmp_eq r r').mpr (heq rfl)) c9)
  exact hnext g sx2 sm2 lm2 _ _ hR hw hl
set_option maxHeartbeats 4000000 in
set_option maxRecDepth 100000 in
theorem law_c29 (CX : Cx p s m #[Value.ref b] meth c code 4 RL lw_tbl ret D vwCl (tysC T) (AL s) true nwL) (CM : Cx p s m #[Value.ref b] meth c code 4 RL lw_tbl ret D vwCl (tysM T) (AL s) false []) (hX : va_X b L xs s s.heap) (hbl : b < s.heap.size) {Q : State → Prop} {g : Nat → Nat} {sx sm : Sg} {lm : Lg} {H : Heap} {locs : List Loc} {ls : Array Slot} {cn : Nat} (hcn : cn ≤ 511) {x3 : Int32} (hix : ∀ k : Nat, k < 5 → vp_in (x3 + nI k) L) {R' : Sg → Sg → Lg → Prop} (hO : OpL true (fX11_count (xs (x3 + 1).toNatClampNeg) sx) (fX12_count (xs (x3 + 1).toNatClampNeg) sm lm) R') (hw : LW D T a g am sx sm lm s H locs) (hl : lv_has ls 4 [(0, .ref b), (1, .ref (adr a g 0)), (2, .ref (am 0)), (3, .int x3)])
    (hnext : ∀ (g' : Nat → Nat) (sx' sm' : Sg) (lm' : Lg) (H' : Heap) (locs' : List Loc), R' sx' sm' lm' → LW D T a g' am sx' sm' lm' s H' locs' → lv_has ls 4 [(0, .ref b), (1, .ref (adr a g' 0)), (2, .ref (am 0)), (3, .int x3)] → W p l e room_1 s m #[Value.ref b] below meth c H' locs' (80 + 3 * (cn + 1)) (115267 + 12288 * (cn + 1)) Q (F0 m 948 ls [])) : W p l e room_1 s m #[Value.ref b] below meth c H locs (80 + 3 * cn) (115267 + 12288 * cn) Q (F0 m 924 ls []) := by
  obtain ⟨r, r', sx2, sm2, lm2, hfx, hfm, heq, hR⟩ := hO
  obtain ⟨hx, hb, hml, hown, hts⟩ := CX.1
  have hbA : ¬ AL s b := Nat.not_le.mpr hbl
  refine lv_aload_n hx hb dL_law_924 rfl (lv_at hl 1 rfl) ?_
  refine lv_aload_n hx hb dL_law_925 rfl (lv_at hl 0 rfl) ?_
  refine lv_iload_n hx hb dL_law_926 rfl (lv_at hl 3 rfl) ?_
  refine lv_iconst (v := (1 : Int32)) hx hb dL_law_927 (by decide) ?_
  refine lv_iadd hx hb dL_law_928 ?_
  refine va_sld hx hb hX hbl hbA hw.1.2.2 (hix 1 (by decide)) dL_law_929 ?_
  refine r_cVlF (As := [.int (xs (x3 + 1).toNatClampNeg)]) (rest := []) CX hw.1 0 (by decide) (ci := 11) rfl rfl (mX11_count l D T (adr a g) lg0 H.size (xs (x3 + 1).toNatClampNeg) sx hfx) (cwV 1 hts GV_X11_count rfl rfl rfl (by decide +kernel) ⟨Nat.le_of_ble_eq_true rfl, Nat.le_of_ble_eq_true rfl⟩) rfl hl.1 rfl (Nat.le_of_ble_eq_true rfl) dL_law_930 ⟨by have q1 : room_1.cells = 600000 := rfl; omega, by have q2 : room_1.slots = 7302250 := rfl; omega⟩ (fun ad' H' locs' hp hw1 hfr hnew => ?_)
  subst hp
  have hwm := hw.2.1.keep hw1.2.2 hfr hw.2.2
  have hdis := dis_new hw.2.1 hw.2.2 hnew
  replace hw : LW D T a g am sx2 sm lm s H' locs' := ⟨hw1, hwm, hdis⟩
  clear hw1 hwm hdis hfr hnew
  replace hl : lv_has ls 4 [(0, .ref b), (1, .ref (adr a g 0)), (2, .ref (am 0)), (3, .int x3)] := hl
  refine W.widen (k := 80 + 3 * cn + 3) (n := 115267 + 12288 * cn + 12288) (by omega) (by omega) ?_
  refine lv_aload_n hx hb dL_law_933 rfl (lv_at hl 2 rfl) ?_
  refine lv_aload_n hx hb dL_law_934 rfl (lv_at hl 0 rfl) ?_
  refine lv_iload_n hx hb dL_law_935 rfl (lv_at hl 3 rfl) ?_
  refine lv_iconst (v := (1 : Int32)) hx hb dL_law_936 (by decide) ?_
  refine lv_iadd hx hb dL_law_937 ?_
  refine va_sld hx hb hX hbl hbA hw.1.2.2 (hix 1 (by decide)) dL_law_938 ?_
  refine r_cVlF (As := [.int (xs (x3 + 1).toNatClampNeg)]) (rest := [.long r]) CM hw.2.1 0 (by decide) (ci := 12) rfl rfl (mX12_count l D T am H'.size (xs (x3 + 1).toNatClampNeg) sm lm hfm) (cwV 1 hts GV_X12_count rfl rfl rfl (by decide +kernel) ⟨Nat.le_of_ble_eq_true rfl, Nat.le_of_ble_eq_true rfl⟩) rfl hl.1 rfl (Nat.le_of_ble_eq_true rfl) dL_law_939 ⟨by have q1 : room_1.cells = 600000 := rfl; omega, by have q2 : room_1.slots = 7302250 := rfl; omega⟩ (fun ad'' H2 locs2 hp hw1 hfr hnew => ?_)
  subst hp
  have hwx := hw.1.keep hw1.2.2 hfr (fun i j hi hj e => hw.2.2 j i hj hi e.symm)
  replace hw : LW D T a g am sx2 sm2 lm2 s H2 locs2 := ⟨hwx, hw1, hw.2.2⟩
  refine W.widen (k := 80 + 3 * (cn + 1)) (n := 115267 + 12288 * (cn + 1)) (by omega) (by omega) ?_
  refine W.lcmp hx hb dL_law_942 ?_
  refine lv_if_eq (tgt := 948) hx hb dL_law_943 (by decide) (fun c9 => ?_) (fun c9 => absurd ((lg_cmp_eq r r').mpr (heq rfl)) c9)
  exact hnext g sx2 sm2 lm2 _ _ hR hw hl
end LAW

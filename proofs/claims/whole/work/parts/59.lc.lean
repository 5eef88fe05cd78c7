section LC_A
/-- the law's world: the reference, the class, the array for an answer -/
def lW_ (T : Nat → ClassId) (am ad : Nat → Nat) (K n : Nat) (σ ρ : ST_) (o : Nat) (f : Nat → Int64) : va_W := mW_ T am K n ρ ++ hW_ T ad K n σ o f
def lL_ (b : Nat) (ad am : Nat → Nat) (o : Nat) (I : Nat) : List (Nat × Value) := [(0, .ref b), (1, .ref (ad 0)), (2, .ref (am 0)), (3, .ref o), (4, .int (nI I))]
theorem mw_adr (T : Nat → ClassId) (ad : Nat → Nat) (K n : Nat) (ρ ρ' : ST_) : (mW_ T ad K n ρ').map (fun q => q.1) = (mW_ T ad K n ρ).map (fun q => q.1) := by unfold mW_; rw [wl_adr, wl_adr]
theorem lw_o (T : Nat → ClassId) (am ad : Nat → Nat) (K n : Nat) (σ ρ : ST_) (o : Nat) (f : Nat → Int64) : (mW_ T am K n ρ ++ hW_ T ad K n σ o f)[26 + (41 + n)]? = some (o, oE_ T f) := by
  rw [List.getElem?_append_right (by unfold mW_; rw [wl_len]; omega)]
  unfold mW_
  rw [wl_len, Nat.add_sub_cancel_left]
  exact hw_o T ad K n σ o f
end LC_A
section LC_B
variable {p : Program} {l : Launch} {e : Env} {s : State} {m : MethodId} {args : Array Value} {below : List Frame} {meth : Method} {c : Code} {D : va_G} {cells slots : Nat} {Q : State → Prop} {T : Nat → ClassId} {am ad : Nat → Nat} {K n : Nat} {σ σ' ρ ρ' : ST_} {o b Ls I : Nat} {f f' : Nat → Int64} {xs : Nat → Int32} {nw : List Cond}
set_option maxHeartbeats 4000000 in
set_option maxRecDepth 20000 in
theorem lc_call (X : Cx_ p l e room_1 s m args below meth c cd_L_law 7 rn_L D cl_ (tys_ T) TG_) (hN : NW_ nw s) (hTw : Tw_ s.heap.size s) (hNc : Nc_ s) (hX : va_X b Ls xs s s.heap) (hbl : b < s.heap.size) (hLs : Ls < 1000000) (hI : I + 4 < Ls) (d : Nat) (hd6 : d ≤ 6) {k : Int32} (hH : Hl_ l D cl_ (tys_ T) (in_w (hW_ T ad K n σ o f)) nw s.heap.size yn_L_call (.codeWith yn_L_call cd_L_call 6 (some .int) xh_L_call :: TG_) [.ref (ad 0), .int (xs (I + 1)), .int (xs (I + 2)), .int (xs (I + 3)), .int (xs (I + 4))] (hW_ T ad K n σ o f) (hW_ T ad K n σ' o f') (some (.int k)))
    (hM : cm_ l D T am K n (in_w (mW_ T am K n ρ)) nw yn_M_call (.code yn_M_call cd_M_call 5 none) d [.int (xs (I + 1)), .int (xs (I + 2)), .int (xs (I + 3)), .int (xs (I + 4))] ρ ρ' none) (hk : ρ' 0 0 = k) (hcs : cells + 1 ≤ room_1.cells ∧ slots + 6 ≤ room_1.slots)
    (kk : Go_ p l e room_1 s m args below meth c D cl_ (fun q => s.heap.size ≤ q) 7 (cells + 1) (slots + 6) Q (lW_ T am ad K n σ' ρ' o f') 888 (lL_ b ad am o I) []) : Go_ p l e room_1 s m args below meth c D cl_ (fun q => s.heap.size ≤ q) 7 cells slots Q (lW_ T am ad K n σ ρ o f) 132 (lL_ b ad am o I) [] := by
  refine go_aload_n (i := 1) X rfl rfl dw_132 ?_
  refine go_arg (c0 := 1) X hX hbl (Nat.not_le.mpr hbl) hLs (by omega) rfl rfl (by decide) dw_133 dw_134 dw_136 dw_137 dw_138 ?_
  refine go_arg (c0 := 2) X hX hbl (Nat.not_le.mpr hbl) hLs (by omega) rfl rfl (by decide) dw_139 dw_140 dw_142 dw_143 dw_144 ?_
  refine go_arg (c0 := 3) X hX hbl (Nat.not_le.mpr hbl) hLs (by omega) rfl rfl (by decide) dw_145 dw_146 dw_148 dw_149 dw_150 ?_
  refine go_arg (c0 := 4) X hX hbl (Nat.not_le.mpr hbl) hLs (by omega) rfl rfl (by decide) dw_151 dw_152 dw_154 dw_155 dw_156 ?_
  refine go_eqw (w' := mW_ T am K n ρ ++ (hW_ T ad K n σ o f ++ [])) (by rw [List.append_nil]; rfl) ?_
  refine go_hlp (n := 5) (rest := []) X hN hTw hNc (fun _ h => h) hH ml_L_66 sm_L_call ik_L cx_L_call ⟨by decide, by decide, by decide +kernel⟩ ⟨by decide, by decide⟩ rfl rfl (Nat.le_of_ble_eq_true rfl) dw_157 hcs (hw_adr T ad K n σ σ' o f f') ?_
  refine go_istore (i := 5) X (by decide) dw_160 ?_
  refine go_eqw (w' := [] ++ (mW_ T am K n ρ ++ hW_ T ad K n σ' o f')) (by rw [List.append_nil]; rfl) ?_
  refine go_aload_n (i := 2) X rfl rfl dw_162 ?_
  refine go_arg (c0 := 1) X hX hbl (Nat.not_le.mpr hbl) hLs (by omega) rfl rfl (by decide) dw_163 dw_164 dw_166 dw_167 dw_168 ?_
  refine go_arg (c0 := 2) X hX hbl (Nat.not_le.mpr hbl) hLs (by omega) rfl rfl (by decide) dw_169 dw_170 dw_172 dw_173 dw_174 ?_
  refine go_arg (c0 := 3) X hX hbl (Nat.not_le.mpr hbl) hLs (by omega) rfl rfl (by decide) dw_175 dw_176 dw_178 dw_179 dw_180 ?_
  refine go_arg (c0 := 4) X hX hbl (Nat.not_le.mpr hbl) hLs (by omega) rfl rfl (by decide) dw_181 dw_182 dw_184 dw_185 dw_186 ?_
  refine go_fmV (C := rn_M) (ci := 7) (i := 0) (n := 4) (rest := []) X hN hM ml_L_69 im_M_call sl_M_Mcall ik_M co_M_call ⟨rfl, by decide, by decide, by decide +kernel⟩ ⟨rfl, rfl, by show d + 1 ≤ 11; omega, by show 8 + (5 + 11) + 30 * d ≤ 392; omega⟩ rfl (wl_at (by decide)) rfl rfl (Nat.le_of_ble_eq_true rfl) dw_187 hcs (mw_adr T am K n ρ ρ') ?_
  refine go_aload_n (i := 2) X rfl rfl dw_190 ?_
  refine go_fmV (C := rn_M) (ci := 7) (i := 0) (n := 0) (rest := []) X hN (tm_thrown l D T am (in_w (mW_ T am K n ρ')) nw K n (ρ := ρ')) ml_L_70 im_M_thrown sl_M_Mthrown ik_M co_M_thrown ⟨rfl, by decide, by decide, by decide +kernel⟩ ⟨rfl, rfl, by decide, by decide⟩ rfl (wl_at (by decide)) rfl rfl (Nat.le_of_ble_eq_true rfl) dw_191 hcs rfl ?_
  refine go_iload (i := 5) X rfl dw_194 ?_
  refine go_icmp_eq (tgt := 201) X dw_196 (by decide) (fun _ => ?_) (fun h => absurd hk h)
  refine go_goto (tgt := 888) X dw_201 (by decide) ?_
  refine go_loc (L' := lL_ b ad am o I) rfl ?_
  exact kk
set_option maxHeartbeats 4000000 in
set_option maxRecDepth 20000 in
theorem lc_step (X : Cx_ p l e room_1 s m args below meth c cd_L_law 7 rn_L D cl_ (tys_ T) TG_) (hN : NW_ nw s) (hTw : Tw_ s.heap.size s) (hNc : Nc_ s) (hX : va_X b Ls xs s s.heap) (hbl : b < s.heap.size) (hLs : Ls < 1000000) (hI : I + 4 < Ls) (d : Nat) (hd6 : d ≤ 6) {k bm : Int32} (hH : Hl_ l D cl_ (tys_ T) (in_w (hW_ T ad K n σ o f)) nw s.heap.size yn_L_step (.codeWith yn_L_step cd_L_step 4 (some .int) xh_L_step :: TG_) [.ref (ad 0), .int (xs (I + 1)), .ref o] (hW_ T ad K n σ o f) (hW_ T ad K n σ' o f') (some (.int k)))
    (hM : cm_ l D T am K n (in_w (mW_ T am K n ρ)) nw yn_M_step (.code yn_M_step cd_M_step 2 (some .int)) d [.int (xs (I + 1))] ρ ρ' (some (.int bm))) (hk : ρ' 0 0 = k) (hv : k = 0 → f' 0 = bm.toInt64) (hcs : cells + 1 ≤ room_1.cells ∧ slots + 6 ≤ room_1.slots)
    (kk : Go_ p l e room_1 s m args below meth c D cl_ (fun q => s.heap.size ≤ q) 7 (cells + 1) (slots + 6) Q (lW_ T am ad K n σ' ρ' o f') 888 (lL_ b ad am o I) []) : Go_ p l e room_1 s m args below meth c D cl_ (fun q => s.heap.size ≤ q) 7 cells slots Q (lW_ T am ad K n σ ρ o f) 204 (lL_ b ad am o I) [] := by
  refine go_aload_n (i := 1) X rfl rfl dw_204 ?_
  refine go_arg (c0 := 1) X hX hbl (Nat.not_le.mpr hbl) hLs (by omega) rfl rfl (by decide) dw_205 dw_206 dw_208 dw_209 dw_210 ?_
  refine go_aload_n (i := 3) X rfl rfl dw_211 ?_
  refine go_eqw (w' := mW_ T am K n ρ ++ (hW_ T ad K n σ o f ++ [])) (by rw [List.append_nil]; rfl) ?_
  refine go_hlp (n := 3) (rest := []) X hN hTw hNc (fun _ h => h) hH ml_L_74 sm_L_step ik_L cx_L_step ⟨by decide, by decide, by decide +kernel⟩ ⟨by decide, by decide⟩ rfl rfl (Nat.le_of_ble_eq_true rfl) dw_212 hcs (hw_adr T ad K n σ σ' o f f') ?_
  refine go_istore (i := 5) X (by decide) dw_215 ?_
  refine go_eqw (w' := [] ++ (mW_ T am K n ρ ++ hW_ T ad K n σ' o f')) (by rw [List.append_nil]; rfl) ?_
  refine go_aload_n (i := 2) X rfl rfl dw_217 ?_
  refine go_arg (c0 := 1) X hX hbl (Nat.not_le.mpr hbl) hLs (by omega) rfl rfl (by decide) dw_218 dw_219 dw_221 dw_222 dw_223 ?_
  refine go_fmV (C := rn_M) (ci := 7) (i := 0) (n := 1) (rest := []) X hN hM ml_L_77 im_M_step sl_M_Mstep ik_M co_M_step ⟨rfl, by decide, by decide, by decide +kernel⟩ ⟨rfl, rfl, by show d + 1 ≤ 11; omega, by show 8 + (2 + 11) + 30 * d ≤ 392; omega⟩ rfl (wl_at (by decide)) rfl rfl (Nat.le_of_ble_eq_true rfl) dw_224 hcs (mw_adr T am K n ρ ρ') ?_
  refine go_istore (i := 6) X (by decide) dw_227 ?_
  refine go_aload_n (i := 2) X rfl rfl dw_229 ?_
  refine go_fmV (C := rn_M) (ci := 7) (i := 0) (n := 0) (rest := []) X hN (tm_thrown l D T am (in_w (mW_ T am K n ρ')) nw K n (ρ := ρ')) ml_L_70 im_M_thrown sl_M_Mthrown ik_M co_M_thrown ⟨rfl, by decide, by decide, by decide +kernel⟩ ⟨rfl, rfl, by decide, by decide⟩ rfl (wl_at (by decide)) rfl rfl (Nat.le_of_ble_eq_true rfl) dw_230 hcs rfl ?_
  refine go_iload (i := 5) X rfl dw_233 ?_
  refine go_icmp_eq (tgt := 240) X dw_235 (by decide) (fun _ => ?_) (fun h => absurd hk h)
  refine go_iload (i := 5) X rfl dw_240 ?_
  refine go_if_ne (tgt := 257) X dw_242 (by decide) (fun h => ?_) (fun h => ?_)
  · refine go_goto (tgt := 888) X dw_257 (by decide) ?_
    refine go_loc (L' := lL_ b ad am o I) rfl ?_
    exact kk
  · refine go_aload_n (i := 3) X rfl rfl dw_245 ?_
    refine go_iconst (v := 0) X (by decide) dw_246 ?_
    refine go_lald (i := 26 + (41 + n)) (t0 := 2) (n := 1) (f := f') (j' := 0) (cA := T 2) X (lw_o T am ad K n σ' ρ' o f') rfl vin0 (by decide) dw_247 ?_
    refine go_iload (i := 6) X rfl dw_248 ?_
    refine go_i2l X dw_250 ?_
    refine go_lcmp X (hv h) dw_251 ?_
    refine go_if_eq (tgt := 257) X dw_252 (by decide) (fun _ => ?_) (fun h0 => absurd rfl h0)
    refine go_goto (tgt := 888) X dw_257 (by decide) ?_
    refine go_loc (L' := lL_ b ad am o I) rfl ?_
    exact kk
set_option maxHeartbeats 4000000 in
set_option maxRecDepth 20000 in
theorem lc_run (X : Cx_ p l e room_1 s m args below meth c cd_L_law 7 rn_L D cl_ (tys_ T) TG_) (hN : NW_ nw s) (hTw : Tw_ s.heap.size s) (hNc : Nc_ s) (hX : va_X b Ls xs s s.heap) (hbl : b < s.heap.size) (hLs : Ls < 1000000) (hI : I + 4 < Ls) (d : Nat) (hd6 : d ≤ 6) {k bm : Int32} (hH : Hl_ l D cl_ (tys_ T) (in_w (hW_ T ad K n σ o f)) nw s.heap.size yn_L_run (.codeWith yn_L_run cd_L_run 5 (some .int) xh_L_run :: TG_) [.ref (ad 0), .int (xs (I + 1)), .int (xs (I + 2)), .ref o] (hW_ T ad K n σ o f) (hW_ T ad K n σ' o f') (some (.int k)))
    (hM : cm_ l D T am K n (in_w (mW_ T am K n ρ)) nw yn_M_run (.code yn_M_run cd_M_run 6 (some .int)) d [.int (xs (I + 1)), .int (xs (I + 2))] ρ ρ' (some (.int bm))) (hk : ρ' 0 0 = k) (hv : k = 0 → f' 0 = bm.toInt64) (hcs : cells + 1 ≤ room_1.cells ∧ slots + 6 ≤ room_1.slots)
    (kk : Go_ p l e room_1 s m args below meth c D cl_ (fun q => s.heap.size ≤ q) 7 (cells + 1) (slots + 6) Q (lW_ T am ad K n σ' ρ' o f') 888 (lL_ b ad am o I) []) : Go_ p l e room_1 s m args below meth c D cl_ (fun q => s.heap.size ≤ q) 7 cells slots Q (lW_ T am ad K n σ ρ o f) 260 (lL_ b ad am o I) [] := by
  refine go_aload_n (i := 1) X rfl rfl dw_260 ?_
  refine go_arg (c0 := 1) X hX hbl (Nat.not_le.mpr hbl) hLs (by omega) rfl rfl (by decide) dw_261 dw_262 dw_264 dw_265 dw_266 ?_
  refine go_arg (c0 := 2) X hX hbl (Nat.not_le.mpr hbl) hLs (by omega) rfl rfl (by decide) dw_267 dw_268 dw_270 dw_271 dw_272 ?_
  refine go_aload_n (i := 3) X rfl rfl dw_273 ?_
  refine go_eqw (w' := mW_ T am K n ρ ++ (hW_ T ad K n σ o f ++ [])) (by rw [List.append_nil]; rfl) ?_
  refine go_hlp (n := 4) (rest := []) X hN hTw hNc (fun _ h => h) hH ml_L_78 sm_L_run ik_L cx_L_run ⟨by decide, by decide, by decide +kernel⟩ ⟨by decide, by decide⟩ rfl rfl (Nat.le_of_ble_eq_true rfl) dw_274 hcs (hw_adr T ad K n σ σ' o f f') ?_
  refine go_istore (i := 5) X (by decide) dw_277 ?_
  refine go_eqw (w' := [] ++ (mW_ T am K n ρ ++ hW_ T ad K n σ' o f')) (by rw [List.append_nil]; rfl) ?_
  refine go_aload_n (i := 2) X rfl rfl dw_279 ?_
  refine go_arg (c0 := 1) X hX hbl (Nat.not_le.mpr hbl) hLs (by omega) rfl rfl (by decide) dw_280 dw_281 dw_283 dw_284 dw_285 ?_
  refine go_arg (c0 := 2) X hX hbl (Nat.not_le.mpr hbl) hLs (by omega) rfl rfl (by decide) dw_286 dw_287 dw_289 dw_290 dw_291 ?_
  refine go_fmV (C := rn_M) (ci := 7) (i := 0) (n := 2) (rest := []) X hN hM ml_L_81 im_M_run sl_M_Mrun ik_M co_M_run ⟨rfl, by decide, by decide, by decide +kernel⟩ ⟨rfl, rfl, by show d + 1 ≤ 11; omega, by show 8 + (6 + 11) + 30 * d ≤ 392; omega⟩ rfl (wl_at (by decide)) rfl rfl (Nat.le_of_ble_eq_true rfl) dw_292 hcs (mw_adr T am K n ρ ρ') ?_
  refine go_istore (i := 6) X (by decide) dw_295 ?_
  refine go_aload_n (i := 2) X rfl rfl dw_297 ?_
  refine go_fmV (C := rn_M) (ci := 7) (i := 0) (n := 0) (rest := []) X hN (tm_thrown l D T am (in_w (mW_ T am K n ρ')) nw K n (ρ := ρ')) ml_L_70 im_M_thrown sl_M_Mthrown ik_M co_M_thrown ⟨rfl, by decide, by decide, by decide +kernel⟩ ⟨rfl, rfl, by decide, by decide⟩ rfl (wl_at (by decide)) rfl rfl (Nat.le_of_ble_eq_true rfl) dw_298 hcs rfl ?_
  refine go_iload (i := 5) X rfl dw_301 ?_
  refine go_icmp_eq (tgt := 308) X dw_303 (by decide) (fun _ => ?_) (fun h => absurd hk h)
  refine go_iload (i := 5) X rfl dw_308 ?_
  refine go_if_ne (tgt := 325) X dw_310 (by decide) (fun h => ?_) (fun h => ?_)
  · refine go_goto (tgt := 888) X dw_325 (by decide) ?_
    refine go_loc (L' := lL_ b ad am o I) rfl ?_
    exact kk
  · refine go_aload_n (i := 3) X rfl rfl dw_313 ?_
    refine go_iconst (v := 0) X (by decide) dw_314 ?_
    refine go_lald (i := 26 + (41 + n)) (t0 := 2) (n := 1) (f := f') (j' := 0) (cA := T 2) X (lw_o T am ad K n σ' ρ' o f') rfl vin0 (by decide) dw_315 ?_
    refine go_iload (i := 6) X rfl dw_316 ?_
    refine go_i2l X dw_318 ?_
    refine go_lcmp X (hv h) dw_319 ?_
    refine go_if_eq (tgt := 325) X dw_320 (by decide) (fun _ => ?_) (fun h0 => absurd rfl h0)
    refine go_goto (tgt := 888) X dw_325 (by decide) ?_
    refine go_loc (L' := lL_ b ad am o I) rfl ?_
    exact kk
set_option maxHeartbeats 4000000 in
set_option maxRecDepth 20000 in
theorem lc_done (X : Cx_ p l e room_1 s m args below meth c cd_L_law 7 rn_L D cl_ (tys_ T) TG_) (hN : NW_ nw s) (hTw : Tw_ s.heap.size s) (hNc : Nc_ s) (hX : va_X b Ls xs s s.heap) (hbl : b < s.heap.size) (hLs : Ls < 1000000) (hI : I + 4 < Ls) (d : Nat) (hd6 : d ≤ 6) {k bm : Int32} (hH : Hl_ l D cl_ (tys_ T) (in_w (hW_ T ad K n σ o f)) nw s.heap.size yn_L_done (.codeWith yn_L_done cd_L_done 4 (some .int) xh_L_done :: TG_) [.ref (ad 0), .int (xs (I + 1)), .ref o] (hW_ T ad K n σ o f) (hW_ T ad K n σ' o f') (some (.int k)))
    (hM : cm_ l D T am K n (in_w (mW_ T am K n ρ)) nw yn_M_done (.code yn_M_done cd_M_done 2 (some .int)) d [.int (xs (I + 1))] ρ ρ' (some (.int bm))) (hk : ρ' 0 0 = k) (hv : k = 0 → f' 0 = bm.toInt64) (hcs : cells + 1 ≤ room_1.cells ∧ slots + 6 ≤ room_1.slots)
    (kk : Go_ p l e room_1 s m args below meth c D cl_ (fun q => s.heap.size ≤ q) 7 (cells + 1) (slots + 6) Q (lW_ T am ad K n σ' ρ' o f') 888 (lL_ b ad am o I) []) : Go_ p l e room_1 s m args below meth c D cl_ (fun q => s.heap.size ≤ q) 7 cells slots Q (lW_ T am ad K n σ ρ o f) 328 (lL_ b ad am o I) [] := by
  refine go_aload_n (i := 1) X rfl rfl dw_328 ?_
  refine go_arg (c0 := 1) X hX hbl (Nat.not_le.mpr hbl) hLs (by omega) rfl rfl (by decide) dw_329 dw_330 dw_332 dw_333 dw_334 ?_
  refine go_aload_n (i := 3) X rfl rfl dw_335 ?_
  refine go_eqw (w' := mW_ T am K n ρ ++ (hW_ T ad K n σ o f ++ [])) (by rw [List.append_nil]; rfl) ?_
  refine go_hlp (n := 3) (rest := []) X hN hTw hNc (fun _ h => h) hH ml_L_82 sm_L_done ik_L cx_L_done ⟨by decide, by decide, by decide +kernel⟩ ⟨by decide, by decide⟩ rfl rfl (Nat.le_of_ble_eq_true rfl) dw_336 hcs (hw_adr T ad K n σ σ' o f f') ?_
  refine go_istore (i := 5) X (by decide) dw_339 ?_
  refine go_eqw (w' := [] ++ (mW_ T am K n ρ ++ hW_ T ad K n σ' o f')) (by rw [List.append_nil]; rfl) ?_
  refine go_aload_n (i := 2) X rfl rfl dw_341 ?_
  refine go_arg (c0 := 1) X hX hbl (Nat.not_le.mpr hbl) hLs (by omega) rfl rfl (by decide) dw_342 dw_343 dw_345 dw_346 dw_347 ?_
  refine go_fmV (C := rn_M) (ci := 7) (i := 0) (n := 1) (rest := []) X hN hM ml_L_84 im_M_done sl_M_Mdone ik_M co_M_done ⟨rfl, by decide, by decide, by decide +kernel⟩ ⟨rfl, rfl, by show d + 1 ≤ 11; omega, by show 8 + (2 + 11) + 30 * d ≤ 392; omega⟩ rfl (wl_at (by decide)) rfl rfl (Nat.le_of_ble_eq_true rfl) dw_348 hcs (mw_adr T am K n ρ ρ') ?_
  refine go_istore (i := 6) X (by decide) dw_351 ?_
  refine go_aload_n (i := 2) X rfl rfl dw_353 ?_
  refine go_fmV (C := rn_M) (ci := 7) (i := 0) (n := 0) (rest := []) X hN (tm_thrown l D T am (in_w (mW_ T am K n ρ')) nw K n (ρ := ρ')) ml_L_70 im_M_thrown sl_M_Mthrown ik_M co_M_thrown ⟨rfl, by decide, by decide, by decide +kernel⟩ ⟨rfl, rfl, by decide, by decide⟩ rfl (wl_at (by decide)) rfl rfl (Nat.le_of_ble_eq_true rfl) dw_354 hcs rfl ?_
  refine go_iload (i := 5) X rfl dw_357 ?_
  refine go_icmp_eq (tgt := 364) X dw_359 (by decide) (fun _ => ?_) (fun h => absurd hk h)
  refine go_iload (i := 5) X rfl dw_364 ?_
  refine go_if_ne (tgt := 381) X dw_366 (by decide) (fun h => ?_) (fun h => ?_)
  · refine go_goto (tgt := 888) X dw_381 (by decide) ?_
    refine go_loc (L' := lL_ b ad am o I) rfl ?_
    exact kk
  · refine go_aload_n (i := 3) X rfl rfl dw_369 ?_
    refine go_iconst (v := 0) X (by decide) dw_370 ?_
    refine go_lald (i := 26 + (41 + n)) (t0 := 2) (n := 1) (f := f') (j' := 0) (cA := T 2) X (lw_o T am ad K n σ' ρ' o f') rfl vin0 (by decide) dw_371 ?_
    refine go_iload (i := 6) X rfl dw_372 ?_
    refine go_i2l X dw_374 ?_
    refine go_lcmp X (hv h) dw_375 ?_
    refine go_if_eq (tgt := 381) X dw_376 (by decide) (fun _ => ?_) (fun h0 => absurd rfl h0)
    refine go_goto (tgt := 888) X dw_381 (by decide) ?_
    refine go_loc (L' := lL_ b ad am o I) rfl ?_
    exact kk
set_option maxHeartbeats 4000000 in
set_option maxRecDepth 20000 in
theorem lc_answer (X : Cx_ p l e room_1 s m args below meth c cd_L_law 7 rn_L D cl_ (tys_ T) TG_) (hN : NW_ nw s) (hTw : Tw_ s.heap.size s) (hNc : Nc_ s) (hX : va_X b Ls xs s s.heap) (hbl : b < s.heap.size) (hLs : Ls < 1000000) (hI : I + 4 < Ls) (d : Nat) (hd6 : d ≤ 6) {k bm : Int32} (hH : Hl_ l D cl_ (tys_ T) (in_w (hW_ T ad K n σ o f)) nw s.heap.size yn_L_answer (.codeWith yn_L_answer cd_L_answer 4 (some .int) xh_L_answer :: TG_) [.ref (ad 0), .int (xs (I + 1)), .ref o] (hW_ T ad K n σ o f) (hW_ T ad K n σ' o f') (some (.int k)))
    (hM : cm_ l D T am K n (in_w (mW_ T am K n ρ)) nw yn_M_answer (.code yn_M_answer cd_M_answer 2 (some .int)) d [.int (xs (I + 1))] ρ ρ' (some (.int bm))) (hk : ρ' 0 0 = k) (hv : k = 0 → f' 0 = bm.toInt64) (hcs : cells + 1 ≤ room_1.cells ∧ slots + 6 ≤ room_1.slots)
    (kk : Go_ p l e room_1 s m args below meth c D cl_ (fun q => s.heap.size ≤ q) 7 (cells + 1) (slots + 6) Q (lW_ T am ad K n σ' ρ' o f') 888 (lL_ b ad am o I) []) : Go_ p l e room_1 s m args below meth c D cl_ (fun q => s.heap.size ≤ q) 7 cells slots Q (lW_ T am ad K n σ ρ o f) 384 (lL_ b ad am o I) [] := by
  refine go_aload_n (i := 1) X rfl rfl dw_384 ?_
  refine go_arg (c0 := 1) X hX hbl (Nat.not_le.mpr hbl) hLs (by omega) rfl rfl (by decide) dw_385 dw_386 dw_388 dw_389 dw_390 ?_
  refine go_aload_n (i := 3) X rfl rfl dw_391 ?_
  refine go_eqw (w' := mW_ T am K n ρ ++ (hW_ T ad K n σ o f ++ [])) (by rw [List.append_nil]; rfl) ?_
  refine go_hlp (n := 3) (rest := []) X hN hTw hNc (fun _ h => h) hH ml_L_85 sm_L_answer ik_L cx_L_answer ⟨by decide, by decide, by decide +kernel⟩ ⟨by decide, by decide⟩ rfl rfl (Nat.le_of_ble_eq_true rfl) dw_392 hcs (hw_adr T ad K n σ σ' o f f') ?_
  refine go_istore (i := 5) X (by decide) dw_395 ?_
  refine go_eqw (w' := [] ++ (mW_ T am K n ρ ++ hW_ T ad K n σ' o f')) (by rw [List.append_nil]; rfl) ?_
  refine go_aload_n (i := 2) X rfl rfl dw_397 ?_
  refine go_arg (c0 := 1) X hX hbl (Nat.not_le.mpr hbl) hLs (by omega) rfl rfl (by decide) dw_398 dw_399 dw_401 dw_402 dw_403 ?_
  refine go_fmV (C := rn_M) (ci := 7) (i := 0) (n := 1) (rest := []) X hN hM ml_L_87 im_M_answer sl_M_Manswer ik_M co_M_answer ⟨rfl, by decide, by decide, by decide +kernel⟩ ⟨rfl, rfl, by show d + 1 ≤ 11; omega, by show 8 + (2 + 11) + 30 * d ≤ 392; omega⟩ rfl (wl_at (by decide)) rfl rfl (Nat.le_of_ble_eq_true rfl) dw_404 hcs (mw_adr T am K n ρ ρ') ?_
  refine go_istore (i := 6) X (by decide) dw_407 ?_
  refine go_aload_n (i := 2) X rfl rfl dw_409 ?_
  refine go_fmV (C := rn_M) (ci := 7) (i := 0) (n := 0) (rest := []) X hN (tm_thrown l D T am (in_w (mW_ T am K n ρ')) nw K n (ρ := ρ')) ml_L_70 im_M_thrown sl_M_Mthrown ik_M co_M_thrown ⟨rfl, by decide, by decide, by decide +kernel⟩ ⟨rfl, rfl, by decide, by decide⟩ rfl (wl_at (by decide)) rfl rfl (Nat.le_of_ble_eq_true rfl) dw_410 hcs rfl ?_
  refine go_iload (i := 5) X rfl dw_413 ?_
  refine go_icmp_eq (tgt := 420) X dw_415 (by decide) (fun _ => ?_) (fun h => absurd hk h)
  refine go_iload (i := 5) X rfl dw_420 ?_
  refine go_if_ne (tgt := 437) X dw_422 (by decide) (fun h => ?_) (fun h => ?_)
  · refine go_goto (tgt := 888) X dw_437 (by decide) ?_
    refine go_loc (L' := lL_ b ad am o I) rfl ?_
    exact kk
  · refine go_aload_n (i := 3) X rfl rfl dw_425 ?_
    refine go_iconst (v := 0) X (by decide) dw_426 ?_
    refine go_lald (i := 26 + (41 + n)) (t0 := 2) (n := 1) (f := f') (j' := 0) (cA := T 2) X (lw_o T am ad K n σ' ρ' o f') rfl vin0 (by decide) dw_427 ?_
    refine go_iload (i := 6) X rfl dw_428 ?_
    refine go_i2l X dw_430 ?_
    refine go_lcmp X (hv h) dw_431 ?_
    refine go_if_eq (tgt := 437) X dw_432 (by decide) (fun _ => ?_) (fun h0 => absurd rfl h0)
    refine go_goto (tgt := 888) X dw_437 (by decide) ?_
    refine go_loc (L' := lL_ b ad am o I) rfl ?_
    exact kk
set_option maxHeartbeats 4000000 in
set_option maxRecDepth 20000 in
theorem lc_placeOf (X : Cx_ p l e room_1 s m args below meth c cd_L_law 7 rn_L D cl_ (tys_ T) TG_) (hN : NW_ nw s) (hTw : Tw_ s.heap.size s) (hNc : Nc_ s) (hX : va_X b Ls xs s s.heap) (hbl : b < s.heap.size) (hLs : Ls < 1000000) (hI : I + 4 < Ls) (d : Nat) (hd6 : d ≤ 6) {k bm : Int32} (hH : Hl_ l D cl_ (tys_ T) (in_w (hW_ T ad K n σ o f)) nw s.heap.size yn_L_placeOf (.codeWith yn_L_placeOf cd_L_placeOf 4 (some .int) xh_L_placeOf :: TG_) [.ref (ad 0), .int (xs (I + 1)), .ref o] (hW_ T ad K n σ o f) (hW_ T ad K n σ' o f') (some (.int k)))
    (hM : cm_ l D T am K n (in_w (mW_ T am K n ρ)) nw yn_M_placeOf (.code yn_M_placeOf cd_M_placeOf 2 (some .int)) d [.int (xs (I + 1))] ρ ρ' (some (.int bm))) (hk : ρ' 0 0 = k) (hv : k = 0 → f' 0 = bm.toInt64) (hcs : cells + 1 ≤ room_1.cells ∧ slots + 6 ≤ room_1.slots)
    (kk : Go_ p l e room_1 s m args below meth c D cl_ (fun q => s.heap.size ≤ q) 7 (cells + 1) (slots + 6) Q (lW_ T am ad K n σ' ρ' o f') 888 (lL_ b ad am o I) []) : Go_ p l e room_1 s m args below meth c D cl_ (fun q => s.heap.size ≤ q) 7 cells slots Q (lW_ T am ad K n σ ρ o f) 440 (lL_ b ad am o I) [] := by
  refine go_aload_n (i := 1) X rfl rfl dw_440 ?_
  refine go_arg (c0 := 1) X hX hbl (Nat.not_le.mpr hbl) hLs (by omega) rfl rfl (by decide) dw_441 dw_442 dw_444 dw_445 dw_446 ?_
  refine go_aload_n (i := 3) X rfl rfl dw_447 ?_
  refine go_eqw (w' := mW_ T am K n ρ ++ (hW_ T ad K n σ o f ++ [])) (by rw [List.append_nil]; rfl) ?_
  refine go_hlp (n := 3) (rest := []) X hN hTw hNc (fun _ h => h) hH ml_L_88 sm_L_placeOf ik_L cx_L_placeOf ⟨by decide, by decide, by decide +kernel⟩ ⟨by decide, by decide⟩ rfl rfl (Nat.le_of_ble_eq_true rfl) dw_448 hcs (hw_adr T ad K n σ σ' o f f') ?_
  refine go_istore (i := 5) X (by decide) dw_451 ?_
  refine go_eqw (w' := [] ++ (mW_ T am K n ρ ++ hW_ T ad K n σ' o f')) (by rw [List.append_nil]; rfl) ?_
  refine go_aload_n (i := 2) X rfl rfl dw_453 ?_
  refine go_arg (c0 := 1) X hX hbl (Nat.not_le.mpr hbl) hLs (by omega) rfl rfl (by decide) dw_454 dw_455 dw_457 dw_458 dw_459 ?_
  refine go_fmV (C := rn_M) (ci := 7) (i := 0) (n := 1) (rest := []) X hN hM ml_L_90 im_M_placeOf sl_M_MplaceOf ik_M co_M_placeOf ⟨rfl, by decide, by decide, by decide +kernel⟩ ⟨rfl, rfl, by show d + 1 ≤ 11; omega, by show 8 + (2 + 11) + 30 * d ≤ 392; omega⟩ rfl (wl_at (by decide)) rfl rfl (Nat.le_of_ble_eq_true rfl) dw_460 hcs (mw_adr T am K n ρ ρ') ?_
  refine go_istore (i := 6) X (by decide) dw_463 ?_
  refine go_aload_n (i := 2) X rfl rfl dw_465 ?_
  refine go_fmV (C := rn_M) (ci := 7) (i := 0) (n := 0) (rest := []) X hN (tm_thrown l D T am (in_w (mW_ T am K n ρ')) nw K n (ρ := ρ')) ml_L_70 im_M_thrown sl_M_Mthrown ik_M co_M_thrown ⟨rfl, by decide, by decide, by decide +kernel⟩ ⟨rfl, rfl, by decide, by decide⟩ rfl (wl_at (by decide)) rfl rfl (Nat.le_of_ble_eq_true rfl) dw_466 hcs rfl ?_
  refine go_iload (i := 5) X rfl dw_469 ?_
  refine go_icmp_eq (tgt := 476) X dw_471 (by decide) (fun _ => ?_) (fun h => absurd hk h)
  refine go_iload (i := 5) X rfl dw_476 ?_
  refine go_if_ne (tgt := 493) X dw_478 (by decide) (fun h => ?_) (fun h => ?_)
  · refine go_goto (tgt := 888) X dw_493 (by decide) ?_
    refine go_loc (L' := lL_ b ad am o I) rfl ?_
    exact kk
  · refine go_aload_n (i := 3) X rfl rfl dw_481 ?_
    refine go_iconst (v := 0) X (by decide) dw_482 ?_
    refine go_lald (i := 26 + (41 + n)) (t0 := 2) (n := 1) (f := f') (j' := 0) (cA := T 2) X (lw_o T am ad K n σ' ρ' o f') rfl vin0 (by decide) dw_483 ?_
    refine go_iload (i := 6) X rfl dw_484 ?_
    refine go_i2l X dw_486 ?_
    refine go_lcmp X (hv h) dw_487 ?_
    refine go_if_eq (tgt := 493) X dw_488 (by decide) (fun _ => ?_) (fun h0 => absurd rfl h0)
    refine go_goto (tgt := 888) X dw_493 (by decide) ?_
    refine go_loc (L' := lL_ b ad am o I) rfl ?_
    exact kk
set_option maxHeartbeats 4000000 in
set_option maxRecDepth 20000 in
theorem lc_end (X : Cx_ p l e room_1 s m args below meth c cd_L_law 7 rn_L D cl_ (tys_ T) TG_) (hN : NW_ nw s) (hTw : Tw_ s.heap.size s) (hNc : Nc_ s) (hX : va_X b Ls xs s s.heap) (hbl : b < s.heap.size) (hLs : Ls < 1000000) (hI : I + 4 < Ls) {x y : Int32} (hH : cc_ l D T ad K n (in_w (cW_ T ad K n σ)) nw yn_H_end (.code yn_H_end cd_H_end 6 (some .int)) 1 [.ref (ad 0)] σ σ' (some (.int x)))
    (hM : cm_ l D T am K n (in_w (mW_ T am K n ρ)) nw yn_M_end (.code yn_M_end cd_M_end 1 (some .int)) 0 [] ρ ρ' (some (.int y))) (hxy : x = y) (hcs : cells + 1 ≤ room_1.cells ∧ slots + 6 ≤ room_1.slots)
    (kk : Go_ p l e room_1 s m args below meth c D cl_ (fun q => s.heap.size ≤ q) 7 (cells + 1) (slots + 6) Q (lW_ T am ad K n σ' ρ' o f) 888 (lL_ b ad am o I) []) : Go_ p l e room_1 s m args below meth c D cl_ (fun q => s.heap.size ≤ q) 7 cells slots Q (lW_ T am ad K n σ ρ o f) 496 (lL_ b ad am o I) [] := by
  refine go_widen (Nat.le_succ cells) (Nat.le_add_right slots 6) ?_
  refine go_aload_n (i := 1) X rfl rfl dw_496 ?_
  refine go_eqw (w' := mW_ T am K n ρ ++ (cW_ T ad K n σ ++ [(o, oE_ T f)])) rfl ?_
  refine go_fmV (C := rn_H) (ci := 0) (i := 0) (n := 0) (rest := []) X hN hH ml_L_91 im_H_end sl_H_Hend ik_H co_H_end ⟨rfl, by decide, by decide, by decide +kernel⟩ ⟨rfl, rfl, by decide, by decide⟩ rfl cw_h rfl rfl (Nat.le_of_ble_eq_true rfl) dw_497 hcs (cw_adr T ad K n σ σ') ?_
  refine go_eqw (w' := [] ++ (mW_ T am K n ρ ++ hW_ T ad K n σ' o f)) rfl ?_
  refine go_aload_n (i := 2) X rfl rfl dw_500 ?_
  refine go_fmV (C := rn_M) (ci := 7) (i := 0) (n := 0) (rest := [.int x]) X hN hM ml_L_94 im_M_end sl_M_Mend ik_M co_M_end ⟨rfl, by decide, by decide, by decide +kernel⟩ ⟨rfl, rfl, by decide, by decide⟩ rfl (wl_at (by decide)) rfl rfl (Nat.le_of_ble_eq_true rfl) dw_501 hcs (mw_adr T am K n ρ ρ') ?_
  refine go_icmp_eq (tgt := 888) X dw_504 (by decide) (fun _ => ?_) (fun h => absurd hxy h)
  exact kk
set_option maxHeartbeats 4000000 in
set_option maxRecDepth 20000 in
theorem lc_oldest (X : Cx_ p l e room_1 s m args below meth c cd_L_law 7 rn_L D cl_ (tys_ T) TG_) (hN : NW_ nw s) (hTw : Tw_ s.heap.size s) (hNc : Nc_ s) (hX : va_X b Ls xs s s.heap) (hbl : b < s.heap.size) (hLs : Ls < 1000000) (hI : I + 4 < Ls) {x y : Int32} (hH : cc_ l D T ad K n (in_w (cW_ T ad K n σ)) nw yn_H_oldest (.code yn_H_oldest cd_H_oldest 6 (some .int)) 2 [.ref (ad 0)] σ σ' (some (.int x)))
    (hM : cm_ l D T am K n (in_w (mW_ T am K n ρ)) nw yn_M_oldest (.code yn_M_oldest cd_M_oldest 1 (some .int)) 1 [] ρ ρ' (some (.int y))) (hxy : x = y) (hcs : cells + 1 ≤ room_1.cells ∧ slots + 6 ≤ room_1.slots)
    (kk : Go_ p l e room_1 s m args below meth c D cl_ (fun q => s.heap.size ≤ q) 7 (cells + 1) (slots + 6) Q (lW_ T am ad K n σ' ρ' o f) 888 (lL_ b ad am o I) []) : Go_ p l e room_1 s m args below meth c D cl_ (fun q => s.heap.size ≤ q) 7 cells slots Q (lW_ T am ad K n σ ρ o f) 509 (lL_ b ad am o I) [] := by
  refine go_widen (Nat.le_succ cells) (Nat.le_add_right slots 6) ?_
  refine go_aload_n (i := 1) X rfl rfl dw_509 ?_
  refine go_eqw (w' := mW_ T am K n ρ ++ (cW_ T ad K n σ ++ [(o, oE_ T f)])) rfl ?_
  refine go_fmV (C := rn_H) (ci := 0) (i := 0) (n := 0) (rest := []) X hN hH ml_L_95 im_H_oldest sl_H_Holdest ik_H co_H_oldest ⟨rfl, by decide, by decide, by decide +kernel⟩ ⟨rfl, rfl, by decide, by decide⟩ rfl cw_h rfl rfl (Nat.le_of_ble_eq_true rfl) dw_510 hcs (cw_adr T ad K n σ σ') ?_
  refine go_eqw (w' := [] ++ (mW_ T am K n ρ ++ hW_ T ad K n σ' o f)) rfl ?_
  refine go_aload_n (i := 2) X rfl rfl dw_513 ?_
  refine go_fmV (C := rn_M) (ci := 7) (i := 0) (n := 0) (rest := [.int x]) X hN hM ml_L_98 im_M_oldest sl_M_Moldest ik_M co_M_oldest ⟨rfl, by decide, by decide, by decide +kernel⟩ ⟨rfl, rfl, by decide, by decide⟩ rfl (wl_at (by decide)) rfl rfl (Nat.le_of_ble_eq_true rfl) dw_514 hcs (mw_adr T am K n ρ ρ') ?_
  refine go_icmp_eq (tgt := 888) X dw_517 (by decide) (fun _ => ?_) (fun h => absurd hxy h)
  exact kk
set_option maxHeartbeats 4000000 in
set_option maxRecDepth 20000 in
theorem lc_node (X : Cx_ p l e room_1 s m args below meth c cd_L_law 7 rn_L D cl_ (tys_ T) TG_) (hN : NW_ nw s) (hTw : Tw_ s.heap.size s) (hNc : Nc_ s) (hX : va_X b Ls xs s s.heap) (hbl : b < s.heap.size) (hLs : Ls < 1000000) (hI : I + 4 < Ls) (d : Nat) (hd6 : d ≤ 6) {k bm : Int32} (hH : Hl_ l D cl_ (tys_ T) (in_w (hW_ T ad K n σ o f)) nw s.heap.size yn_L_node (.codeWith yn_L_node cd_L_node 5 (some .int) xh_L_node :: TG_) [.ref (ad 0), .int (xs (I + 1)), .int (xs (I + 2)), .ref o] (hW_ T ad K n σ o f) (hW_ T ad K n σ' o f') (some (.int k)))
    (hM : cm_ l D T am K n (in_w (mW_ T am K n ρ)) nw yn_M_node (.code yn_M_node cd_M_node 5 (some .int)) d [.int (xs (I + 1)), .int (xs (I + 2))] ρ ρ' (some (.int bm))) (hk : ρ' 0 0 = k) (hv : k = 0 → f' 0 = bm.toInt64) (hcs : cells + 1 ≤ room_1.cells ∧ slots + 6 ≤ room_1.slots)
    (kk : Go_ p l e room_1 s m args below meth c D cl_ (fun q => s.heap.size ≤ q) 7 (cells + 1) (slots + 6) Q (lW_ T am ad K n σ' ρ' o f') 888 (lL_ b ad am o I) []) : Go_ p l e room_1 s m args below meth c D cl_ (fun q => s.heap.size ≤ q) 7 cells slots Q (lW_ T am ad K n σ ρ o f) 522 (lL_ b ad am o I) [] := by
  refine go_aload_n (i := 1) X rfl rfl dw_522 ?_
  refine go_arg (c0 := 1) X hX hbl (Nat.not_le.mpr hbl) hLs (by omega) rfl rfl (by decide) dw_523 dw_524 dw_526 dw_527 dw_528 ?_
  refine go_arg (c0 := 2) X hX hbl (Nat.not_le.mpr hbl) hLs (by omega) rfl rfl (by decide) dw_529 dw_530 dw_532 dw_533 dw_534 ?_
  refine go_aload_n (i := 3) X rfl rfl dw_535 ?_
  refine go_eqw (w' := mW_ T am K n ρ ++ (hW_ T ad K n σ o f ++ [])) (by rw [List.append_nil]; rfl) ?_
  refine go_hlp (n := 4) (rest := []) X hN hTw hNc (fun _ h => h) hH ml_L_99 sm_L_node ik_L cx_L_node ⟨by decide, by decide, by decide +kernel⟩ ⟨by decide, by decide⟩ rfl rfl (Nat.le_of_ble_eq_true rfl) dw_536 hcs (hw_adr T ad K n σ σ' o f f') ?_
  refine go_istore (i := 5) X (by decide) dw_539 ?_
  refine go_eqw (w' := [] ++ (mW_ T am K n ρ ++ hW_ T ad K n σ' o f')) (by rw [List.append_nil]; rfl) ?_
  refine go_aload_n (i := 2) X rfl rfl dw_541 ?_
  refine go_arg (c0 := 1) X hX hbl (Nat.not_le.mpr hbl) hLs (by omega) rfl rfl (by decide) dw_542 dw_543 dw_545 dw_546 dw_547 ?_
  refine go_arg (c0 := 2) X hX hbl (Nat.not_le.mpr hbl) hLs (by omega) rfl rfl (by decide) dw_548 dw_549 dw_551 dw_552 dw_553 ?_
  refine go_fmV (C := rn_M) (ci := 7) (i := 0) (n := 2) (rest := []) X hN hM ml_L_101 im_M_node sl_M_Mnode ik_M co_M_node ⟨rfl, by decide, by decide, by decide +kernel⟩ ⟨rfl, rfl, by show d + 1 ≤ 11; omega, by show 8 + (5 + 11) + 30 * d ≤ 392; omega⟩ rfl (wl_at (by decide)) rfl rfl (Nat.le_of_ble_eq_true rfl) dw_554 hcs (mw_adr T am K n ρ ρ') ?_
  refine go_istore (i := 6) X (by decide) dw_557 ?_
  refine go_aload_n (i := 2) X rfl rfl dw_559 ?_
  refine go_fmV (C := rn_M) (ci := 7) (i := 0) (n := 0) (rest := []) X hN (tm_thrown l D T am (in_w (mW_ T am K n ρ')) nw K n (ρ := ρ')) ml_L_70 im_M_thrown sl_M_Mthrown ik_M co_M_thrown ⟨rfl, by decide, by decide, by decide +kernel⟩ ⟨rfl, rfl, by decide, by decide⟩ rfl (wl_at (by decide)) rfl rfl (Nat.le_of_ble_eq_true rfl) dw_560 hcs rfl ?_
  refine go_iload (i := 5) X rfl dw_563 ?_
  refine go_icmp_eq (tgt := 570) X dw_565 (by decide) (fun _ => ?_) (fun h => absurd hk h)
  refine go_iload (i := 5) X rfl dw_570 ?_
  refine go_if_ne (tgt := 587) X dw_572 (by decide) (fun h => ?_) (fun h => ?_)
  · refine go_goto (tgt := 888) X dw_587 (by decide) ?_
    refine go_loc (L' := lL_ b ad am o I) rfl ?_
    exact kk
  · refine go_aload_n (i := 3) X rfl rfl dw_575 ?_
    refine go_iconst (v := 0) X (by decide) dw_576 ?_
    refine go_lald (i := 26 + (41 + n)) (t0 := 2) (n := 1) (f := f') (j' := 0) (cA := T 2) X (lw_o T am ad K n σ' ρ' o f') rfl vin0 (by decide) dw_577 ?_
    refine go_iload (i := 6) X rfl dw_578 ?_
    refine go_i2l X dw_580 ?_
    refine go_lcmp X (hv h) dw_581 ?_
    refine go_if_eq (tgt := 587) X dw_582 (by decide) (fun _ => ?_) (fun h0 => absurd rfl h0)
    refine go_goto (tgt := 888) X dw_587 (by decide) ?_
    refine go_loc (L' := lL_ b ad am o I) rfl ?_
    exact kk
set_option maxHeartbeats 4000000 in
set_option maxRecDepth 20000 in
theorem lc_stage (X : Cx_ p l e room_1 s m args below meth c cd_L_law 7 rn_L D cl_ (tys_ T) TG_) (hN : NW_ nw s) (hTw : Tw_ s.heap.size s) (hNc : Nc_ s) (hX : va_X b Ls xs s s.heap) (hbl : b < s.heap.size) (hLs : Ls < 1000000) (hI : I + 4 < Ls) (d : Nat) (hd6 : d ≤ 6) {k bm : Int32} (hH : Hl_ l D cl_ (tys_ T) (in_w (hW_ T ad K n σ o f)) nw s.heap.size yn_L_stage (.codeWith yn_L_stage cd_L_stage 4 (some .int) xh_L_stage :: TG_) [.ref (ad 0), .int (xs (I + 1)), .ref o] (hW_ T ad K n σ o f) (hW_ T ad K n σ' o f') (some (.int k)))
    (hM : cm_ l D T am K n (in_w (mW_ T am K n ρ)) nw yn_M_stage (.code yn_M_stage cd_M_stage 2 (some .int)) d [.int (xs (I + 1))] ρ ρ' (some (.int bm))) (hk : ρ' 0 0 = k) (hv : k = 0 → f' 0 = bm.toInt64) (hcs : cells + 1 ≤ room_1.cells ∧ slots + 6 ≤ room_1.slots)
    (kk : Go_ p l e room_1 s m args below meth c D cl_ (fun q => s.heap.size ≤ q) 7 (cells + 1) (slots + 6) Q (lW_ T am ad K n σ' ρ' o f') 888 (lL_ b ad am o I) []) : Go_ p l e room_1 s m args below meth c D cl_ (fun q => s.heap.size ≤ q) 7 cells slots Q (lW_ T am ad K n σ ρ o f) 590 (lL_ b ad am o I) [] := by
  refine go_aload_n (i := 1) X rfl rfl dw_590 ?_
  refine go_arg (c0 := 1) X hX hbl (Nat.not_le.mpr hbl) hLs (by omega) rfl rfl (by decide) dw_591 dw_592 dw_594 dw_595 dw_596 ?_
  refine go_aload_n (i := 3) X rfl rfl dw_597 ?_
  refine go_eqw (w' := mW_ T am K n ρ ++ (hW_ T ad K n σ o f ++ [])) (by rw [List.append_nil]; rfl) ?_
  refine go_hlp (n := 3) (rest := []) X hN hTw hNc (fun _ h => h) hH ml_L_102 sm_L_stage ik_L cx_L_stage ⟨by decide, by decide, by decide +kernel⟩ ⟨by decide, by decide⟩ rfl rfl (Nat.le_of_ble_eq_true rfl) dw_598 hcs (hw_adr T ad K n σ σ' o f f') ?_
  refine go_istore (i := 5) X (by decide) dw_601 ?_
  refine go_eqw (w' := [] ++ (mW_ T am K n ρ ++ hW_ T ad K n σ' o f')) (by rw [List.append_nil]; rfl) ?_
  refine go_aload_n (i := 2) X rfl rfl dw_603 ?_
  refine go_arg (c0 := 1) X hX hbl (Nat.not_le.mpr hbl) hLs (by omega) rfl rfl (by decide) dw_604 dw_605 dw_607 dw_608 dw_609 ?_
  refine go_fmV (C := rn_M) (ci := 7) (i := 0) (n := 1) (rest := []) X hN hM ml_L_104 im_M_stage sl_M_Mstage ik_M co_M_stage ⟨rfl, by decide, by decide, by decide +kernel⟩ ⟨rfl, rfl, by show d + 1 ≤ 11; omega, by show 8 + (2 + 11) + 30 * d ≤ 392; omega⟩ rfl (wl_at (by decide)) rfl rfl (Nat.le_of_ble_eq_true rfl) dw_610 hcs (mw_adr T am K n ρ ρ') ?_
  refine go_istore (i := 6) X (by decide) dw_613 ?_
  refine go_aload_n (i := 2) X rfl rfl dw_615 ?_
  refine go_fmV (C := rn_M) (ci := 7) (i := 0) (n := 0) (rest := []) X hN (tm_thrown l D T am (in_w (mW_ T am K n ρ')) nw K n (ρ := ρ')) ml_L_70 im_M_thrown sl_M_Mthrown ik_M co_M_thrown ⟨rfl, by decide, by decide, by decide +kernel⟩ ⟨rfl, rfl, by decide, by decide⟩ rfl (wl_at (by decide)) rfl rfl (Nat.le_of_ble_eq_true rfl) dw_616 hcs rfl ?_
  refine go_iload (i := 5) X rfl dw_619 ?_
  refine go_icmp_eq (tgt := 626) X dw_621 (by decide) (fun _ => ?_) (fun h => absurd hk h)
  refine go_iload (i := 5) X rfl dw_626 ?_
  refine go_if_ne (tgt := 643) X dw_628 (by decide) (fun h => ?_) (fun h => ?_)
  · refine go_goto (tgt := 888) X dw_643 (by decide) ?_
    refine go_loc (L' := lL_ b ad am o I) rfl ?_
    exact kk
  · refine go_aload_n (i := 3) X rfl rfl dw_631 ?_
    refine go_iconst (v := 0) X (by decide) dw_632 ?_
    refine go_lald (i := 26 + (41 + n)) (t0 := 2) (n := 1) (f := f') (j' := 0) (cA := T 2) X (lw_o T am ad K n σ' ρ' o f') rfl vin0 (by decide) dw_633 ?_
    refine go_iload (i := 6) X rfl dw_634 ?_
    refine go_i2l X dw_636 ?_
    refine go_lcmp X (hv h) dw_637 ?_
    refine go_if_eq (tgt := 643) X dw_638 (by decide) (fun _ => ?_) (fun h0 => absurd rfl h0)
    refine go_goto (tgt := 888) X dw_643 (by decide) ?_
    refine go_loc (L' := lL_ b ad am o I) rfl ?_
    exact kk
set_option maxHeartbeats 4000000 in
set_option maxRecDepth 20000 in
theorem lc_head (X : Cx_ p l e room_1 s m args below meth c cd_L_law 7 rn_L D cl_ (tys_ T) TG_) (hN : NW_ nw s) (hTw : Tw_ s.heap.size s) (hNc : Nc_ s) (hX : va_X b Ls xs s s.heap) (hbl : b < s.heap.size) (hLs : Ls < 1000000) (hI : I + 4 < Ls) (d : Nat) (hd6 : d ≤ 6) {k bm : Int32} (hH : Hl_ l D cl_ (tys_ T) (in_w (hW_ T ad K n σ o f)) nw s.heap.size yn_L_head (.codeWith yn_L_head cd_L_head 4 (some .int) xh_L_head :: TG_) [.ref (ad 0), .int (xs (I + 1)), .ref o] (hW_ T ad K n σ o f) (hW_ T ad K n σ' o f') (some (.int k)))
    (hM : cm_ l D T am K n (in_w (mW_ T am K n ρ)) nw yn_M_head (.code yn_M_head cd_M_head 2 (some .int)) d [.int (xs (I + 1))] ρ ρ' (some (.int bm))) (hk : ρ' 0 0 = k) (hv : k = 0 → f' 0 = bm.toInt64) (hcs : cells + 1 ≤ room_1.cells ∧ slots + 6 ≤ room_1.slots)
    (kk : Go_ p l e room_1 s m args below meth c D cl_ (fun q => s.heap.size ≤ q) 7 (cells + 1) (slots + 6) Q (lW_ T am ad K n σ' ρ' o f') 888 (lL_ b ad am o I) []) : Go_ p l e room_1 s m args below meth c D cl_ (fun q => s.heap.size ≤ q) 7 cells slots Q (lW_ T am ad K n σ ρ o f) 646 (lL_ b ad am o I) [] := by
  refine go_aload_n (i := 1) X rfl rfl dw_646 ?_
  refine go_arg (c0 := 1) X hX hbl (Nat.not_le.mpr hbl) hLs (by omega) rfl rfl (by decide) dw_647 dw_648 dw_650 dw_651 dw_652 ?_
  refine go_aload_n (i := 3) X rfl rfl dw_653 ?_
  refine go_eqw (w' := mW_ T am K n ρ ++ (hW_ T ad K n σ o f ++ [])) (by rw [List.append_nil]; rfl) ?_
  refine go_hlp (n := 3) (rest := []) X hN hTw hNc (fun _ h => h) hH ml_L_105 sm_L_head ik_L cx_L_head ⟨by decide, by decide, by decide +kernel⟩ ⟨by decide, by decide⟩ rfl rfl (Nat.le_of_ble_eq_true rfl) dw_654 hcs (hw_adr T ad K n σ σ' o f f') ?_
  refine go_istore (i := 5) X (by decide) dw_657 ?_
  refine go_eqw (w' := [] ++ (mW_ T am K n ρ ++ hW_ T ad K n σ' o f')) (by rw [List.append_nil]; rfl) ?_
  refine go_aload_n (i := 2) X rfl rfl dw_659 ?_
  refine go_arg (c0 := 1) X hX hbl (Nat.not_le.mpr hbl) hLs (by omega) rfl rfl (by decide) dw_660 dw_661 dw_663 dw_664 dw_665 ?_
  refine go_fmV (C := rn_M) (ci := 7) (i := 0) (n := 1) (rest := []) X hN hM ml_L_107 im_M_head sl_M_Mhead ik_M co_M_head ⟨rfl, by decide, by decide, by decide +kernel⟩ ⟨rfl, rfl, by show d + 1 ≤ 11; omega, by show 8 + (2 + 11) + 30 * d ≤ 392; omega⟩ rfl (wl_at (by decide)) rfl rfl (Nat.le_of_ble_eq_true rfl) dw_666 hcs (mw_adr T am K n ρ ρ') ?_
  refine go_istore (i := 6) X (by decide) dw_669 ?_
  refine go_aload_n (i := 2) X rfl rfl dw_671 ?_
  refine go_fmV (C := rn_M) (ci := 7) (i := 0) (n := 0) (rest := []) X hN (tm_thrown l D T am (in_w (mW_ T am K n ρ')) nw K n (ρ := ρ')) ml_L_70 im_M_thrown sl_M_Mthrown ik_M co_M_thrown ⟨rfl, by decide, by decide, by decide +kernel⟩ ⟨rfl, rfl, by decide, by decide⟩ rfl (wl_at (by decide)) rfl rfl (Nat.le_of_ble_eq_true rfl) dw_672 hcs rfl ?_
  refine go_iload (i := 5) X rfl dw_675 ?_
  refine go_icmp_eq (tgt := 682) X dw_677 (by decide) (fun _ => ?_) (fun h => absurd hk h)
  refine go_iload (i := 5) X rfl dw_682 ?_
  refine go_if_ne (tgt := 699) X dw_684 (by decide) (fun h => ?_) (fun h => ?_)
  · refine go_goto (tgt := 888) X dw_699 (by decide) ?_
    refine go_loc (L' := lL_ b ad am o I) rfl ?_
    exact kk
  · refine go_aload_n (i := 3) X rfl rfl dw_687 ?_
    refine go_iconst (v := 0) X (by decide) dw_688 ?_
    refine go_lald (i := 26 + (41 + n)) (t0 := 2) (n := 1) (f := f') (j' := 0) (cA := T 2) X (lw_o T am ad K n σ' ρ' o f') rfl vin0 (by decide) dw_689 ?_
    refine go_iload (i := 6) X rfl dw_690 ?_
    refine go_i2l X dw_692 ?_
    refine go_lcmp X (hv h) dw_693 ?_
    refine go_if_eq (tgt := 699) X dw_694 (by decide) (fun _ => ?_) (fun h0 => absurd rfl h0)
    refine go_goto (tgt := 888) X dw_699 (by decide) ?_
    refine go_loc (L' := lL_ b ad am o I) rfl ?_
    exact kk
set_option maxHeartbeats 4000000 in
set_option maxRecDepth 20000 in
theorem lc_used (X : Cx_ p l e room_1 s m args below meth c cd_L_law 7 rn_L D cl_ (tys_ T) TG_) (hN : NW_ nw s) (hTw : Tw_ s.heap.size s) (hNc : Nc_ s) (hX : va_X b Ls xs s s.heap) (hbl : b < s.heap.size) (hLs : Ls < 1000000) (hI : I + 4 < Ls) {x y : Int32} (hH : cc_ l D T ad K n (in_w (cW_ T ad K n σ)) nw yn_H_used (.code yn_H_used cd_H_used 6 (some .int)) 0 [.ref (ad 0)] σ σ' (some (.int x)))
    (hM : cm_ l D T am K n (in_w (mW_ T am K n ρ)) nw yn_M_used (.code yn_M_used cd_M_used 1 (some .int)) 1 [] ρ ρ' (some (.int y))) (hxy : x = y) (hcs : cells + 1 ≤ room_1.cells ∧ slots + 6 ≤ room_1.slots)
    (kk : Go_ p l e room_1 s m args below meth c D cl_ (fun q => s.heap.size ≤ q) 7 (cells + 1) (slots + 6) Q (lW_ T am ad K n σ' ρ' o f) 888 (lL_ b ad am o I) []) : Go_ p l e room_1 s m args below meth c D cl_ (fun q => s.heap.size ≤ q) 7 cells slots Q (lW_ T am ad K n σ ρ o f) 702 (lL_ b ad am o I) [] := by
  refine go_widen (Nat.le_succ cells) (Nat.le_add_right slots 6) ?_
  refine go_aload_n (i := 1) X rfl rfl dw_702 ?_
  refine go_eqw (w' := mW_ T am K n ρ ++ (cW_ T ad K n σ ++ [(o, oE_ T f)])) rfl ?_
  refine go_fmV (C := rn_H) (ci := 0) (i := 0) (n := 0) (rest := []) X hN hH ml_L_108 im_H_used sl_H_Hused ik_H co_H_used ⟨rfl, by decide, by decide, by decide +kernel⟩ ⟨rfl, rfl, by decide, by decide⟩ rfl cw_h rfl rfl (Nat.le_of_ble_eq_true rfl) dw_703 hcs (cw_adr T ad K n σ σ') ?_
  refine go_eqw (w' := [] ++ (mW_ T am K n ρ ++ hW_ T ad K n σ' o f)) rfl ?_
  refine go_aload_n (i := 2) X rfl rfl dw_706 ?_
  refine go_fmV (C := rn_M) (ci := 7) (i := 0) (n := 0) (rest := [.int x]) X hN hM ml_L_111 im_M_used sl_M_Mused ik_M co_M_used ⟨rfl, by decide, by decide, by decide +kernel⟩ ⟨rfl, rfl, by decide, by decide⟩ rfl (wl_at (by decide)) rfl rfl (Nat.le_of_ble_eq_true rfl) dw_707 hcs (mw_adr T am K n ρ ρ') ?_
  refine go_icmp_eq (tgt := 888) X dw_710 (by decide) (fun _ => ?_) (fun h => absurd hxy h)
  exact kk
set_option maxHeartbeats 4000000 in
set_option maxRecDepth 20000 in
theorem lc_cut (X : Cx_ p l e room_1 s m args below meth c cd_L_law 7 rn_L D cl_ (tys_ T) TG_) (hN : NW_ nw s) (hTw : Tw_ s.heap.size s) (hNc : Nc_ s) (hX : va_X b Ls xs s s.heap) (hbl : b < s.heap.size) (hLs : Ls < 1000000) (hI : I + 4 < Ls) {x y : Int32} (hH : cc_ l D T ad K n (in_w (cW_ T ad K n σ)) nw yn_H_cut (.code yn_H_cut cd_H_cut 1 (some .int)) 2 [.ref (ad 0)] σ σ' (some (.int x)))
    (hM : cm_ l D T am K n (in_w (mW_ T am K n ρ)) nw yn_M_cut (.code yn_M_cut cd_M_cut 6 (some .int)) 1 [] ρ ρ' (some (.int y))) (hxy : x = y) (hcs : cells + 1 ≤ room_1.cells ∧ slots + 6 ≤ room_1.slots)
    (kk : Go_ p l e room_1 s m args below meth c D cl_ (fun q => s.heap.size ≤ q) 7 (cells + 1) (slots + 6) Q (lW_ T am ad K n σ' ρ' o f) 888 (lL_ b ad am o I) []) : Go_ p l e room_1 s m args below meth c D cl_ (fun q => s.heap.size ≤ q) 7 cells slots Q (lW_ T am ad K n σ ρ o f) 715 (lL_ b ad am o I) [] := by
  refine go_widen (Nat.le_succ cells) (Nat.le_add_right slots 6) ?_
  refine go_aload_n (i := 1) X rfl rfl dw_715 ?_
  refine go_eqw (w' := mW_ T am K n ρ ++ (cW_ T ad K n σ ++ [(o, oE_ T f)])) rfl ?_
  refine go_fmV (C := rn_H) (ci := 0) (i := 0) (n := 0) (rest := []) X hN hH ml_L_112 im_H_cut sl_H_Hcut ik_H co_H_cut ⟨rfl, by decide, by decide, by decide +kernel⟩ ⟨rfl, rfl, by decide, by decide⟩ rfl cw_h rfl rfl (Nat.le_of_ble_eq_true rfl) dw_716 hcs (cw_adr T ad K n σ σ') ?_
  refine go_eqw (w' := [] ++ (mW_ T am K n ρ ++ hW_ T ad K n σ' o f)) rfl ?_
  refine go_aload_n (i := 2) X rfl rfl dw_719 ?_
  refine go_fmV (C := rn_M) (ci := 7) (i := 0) (n := 0) (rest := [.int x]) X hN hM ml_L_115 im_M_cut sl_M_Mcut ik_M co_M_cut ⟨rfl, by decide, by decide, by decide +kernel⟩ ⟨rfl, rfl, by decide, by decide⟩ rfl (wl_at (by decide)) rfl rfl (Nat.le_of_ble_eq_true rfl) dw_720 hcs (mw_adr T am K n ρ ρ') ?_
  refine go_icmp_eq (tgt := 888) X dw_723 (by decide) (fun _ => ?_) (fun h => absurd hxy h)
  exact kk
set_option maxHeartbeats 4000000 in
set_option maxRecDepth 20000 in
theorem lc_peek (X : Cx_ p l e room_1 s m args below meth c cd_L_law 7 rn_L D cl_ (tys_ T) TG_) (hN : NW_ nw s) (hTw : Tw_ s.heap.size s) (hNc : Nc_ s) (hX : va_X b Ls xs s s.heap) (hbl : b < s.heap.size) (hLs : Ls < 1000000) (hI : I + 4 < Ls) (d : Nat) (hd6 : d ≤ 6) {k bm : Int32} (hH : Hl_ l D cl_ (tys_ T) (in_w (hW_ T ad K n σ o f)) nw s.heap.size yn_L_peek (.codeWith yn_L_peek cd_L_peek 6 (some .int) xh_L_peek :: TG_) [.ref (ad 0), .int (xs (I + 1)), .int (xs (I + 2)), .int (xs (I + 3)), .ref o] (hW_ T ad K n σ o f) (hW_ T ad K n σ' o f') (some (.int k)))
    (hM : cm_ l D T am K n (in_w (mW_ T am K n ρ)) nw yn_M_peek (.code yn_M_peek cd_M_peek 4 (some .int)) d [.int (xs (I + 1)), .int (xs (I + 2)), .int (xs (I + 3))] ρ ρ' (some (.int bm))) (hk : ρ' 0 0 = k) (hv : k = 0 → f' 0 = bm.toInt64) (hcs : cells + 1 ≤ room_1.cells ∧ slots + 6 ≤ room_1.slots)
    (kk : Go_ p l e room_1 s m args below meth c D cl_ (fun q => s.heap.size ≤ q) 7 (cells + 1) (slots + 6) Q (lW_ T am ad K n σ' ρ' o f') 888 (lL_ b ad am o I) []) : Go_ p l e room_1 s m args below meth c D cl_ (fun q => s.heap.size ≤ q) 7 cells slots Q (lW_ T am ad K n σ ρ o f) 728 (lL_ b ad am o I) [] := by
  refine go_aload_n (i := 1) X rfl rfl dw_728 ?_
  refine go_arg (c0 := 1) X hX hbl (Nat.not_le.mpr hbl) hLs (by omega) rfl rfl (by decide) dw_729 dw_730 dw_732 dw_733 dw_734 ?_
  refine go_arg (c0 := 2) X hX hbl (Nat.not_le.mpr hbl) hLs (by omega) rfl rfl (by decide) dw_735 dw_736 dw_738 dw_739 dw_740 ?_
  refine go_arg (c0 := 3) X hX hbl (Nat.not_le.mpr hbl) hLs (by omega) rfl rfl (by decide) dw_741 dw_742 dw_744 dw_745 dw_746 ?_
  refine go_aload_n (i := 3) X rfl rfl dw_747 ?_
  refine go_eqw (w' := mW_ T am K n ρ ++ (hW_ T ad K n σ o f ++ [])) (by rw [List.append_nil]; rfl) ?_
  refine go_hlp (n := 5) (rest := []) X hN hTw hNc (fun _ h => h) hH ml_L_116 sm_L_peek ik_L cx_L_peek ⟨by decide, by decide, by decide +kernel⟩ ⟨by decide, by decide⟩ rfl rfl (Nat.le_of_ble_eq_true rfl) dw_748 hcs (hw_adr T ad K n σ σ' o f f') ?_
  refine go_istore (i := 5) X (by decide) dw_751 ?_
  refine go_eqw (w' := [] ++ (mW_ T am K n ρ ++ hW_ T ad K n σ' o f')) (by rw [List.append_nil]; rfl) ?_
  refine go_aload_n (i := 2) X rfl rfl dw_753 ?_
  refine go_arg (c0 := 1) X hX hbl (Nat.not_le.mpr hbl) hLs (by omega) rfl rfl (by decide) dw_754 dw_755 dw_757 dw_758 dw_759 ?_
  refine go_arg (c0 := 2) X hX hbl (Nat.not_le.mpr hbl) hLs (by omega) rfl rfl (by decide) dw_760 dw_761 dw_763 dw_764 dw_765 ?_
  refine go_arg (c0 := 3) X hX hbl (Nat.not_le.mpr hbl) hLs (by omega) rfl rfl (by decide) dw_766 dw_767 dw_769 dw_770 dw_771 ?_
  refine go_fmV (C := rn_M) (ci := 7) (i := 0) (n := 3) (rest := []) X hN hM ml_L_119 im_M_peek sl_M_Mpeek ik_M co_M_peek ⟨rfl, by decide, by decide, by decide +kernel⟩ ⟨rfl, rfl, by show d + 1 ≤ 11; omega, by show 8 + (4 + 11) + 30 * d ≤ 392; omega⟩ rfl (wl_at (by decide)) rfl rfl (Nat.le_of_ble_eq_true rfl) dw_772 hcs (mw_adr T am K n ρ ρ') ?_
  refine go_istore (i := 6) X (by decide) dw_775 ?_
  refine go_aload_n (i := 2) X rfl rfl dw_777 ?_
  refine go_fmV (C := rn_M) (ci := 7) (i := 0) (n := 0) (rest := []) X hN (tm_thrown l D T am (in_w (mW_ T am K n ρ')) nw K n (ρ := ρ')) ml_L_70 im_M_thrown sl_M_Mthrown ik_M co_M_thrown ⟨rfl, by decide, by decide, by decide +kernel⟩ ⟨rfl, rfl, by decide, by decide⟩ rfl (wl_at (by decide)) rfl rfl (Nat.le_of_ble_eq_true rfl) dw_778 hcs rfl ?_
  refine go_iload (i := 5) X rfl dw_781 ?_
  refine go_icmp_eq (tgt := 788) X dw_783 (by decide) (fun _ => ?_) (fun h => absurd hk h)
  refine go_iload (i := 5) X rfl dw_788 ?_
  refine go_if_ne (tgt := 805) X dw_790 (by decide) (fun h => ?_) (fun h => ?_)
  · refine go_goto (tgt := 888) X dw_805 (by decide) ?_
    refine go_loc (L' := lL_ b ad am o I) rfl ?_
    exact kk
  · refine go_aload_n (i := 3) X rfl rfl dw_793 ?_
    refine go_iconst (v := 0) X (by decide) dw_794 ?_
    refine go_lald (i := 26 + (41 + n)) (t0 := 2) (n := 1) (f := f') (j' := 0) (cA := T 2) X (lw_o T am ad K n σ' ρ' o f') rfl vin0 (by decide) dw_795 ?_
    refine go_iload (i := 6) X rfl dw_796 ?_
    refine go_i2l X dw_798 ?_
    refine go_lcmp X (hv h) dw_799 ?_
    refine go_if_eq (tgt := 805) X dw_800 (by decide) (fun _ => ?_) (fun h0 => absurd rfl h0)
    refine go_goto (tgt := 888) X dw_805 (by decide) ?_
    refine go_loc (L' := lL_ b ad am o I) rfl ?_
    exact kk
set_option maxHeartbeats 4000000 in
set_option maxRecDepth 20000 in
theorem lc_plain (X : Cx_ p l e room_1 s m args below meth c cd_L_law 7 rn_L D cl_ (tys_ T) TG_) (hN : NW_ nw s) (hTw : Tw_ s.heap.size s) (hNc : Nc_ s) (hX : va_X b Ls xs s s.heap) (hbl : b < s.heap.size) (hLs : Ls < 1000000) (hI : I + 4 < Ls) (d : Nat) (hd6 : d ≤ 6) {k bm : Int32} (hH : Hl_ l D cl_ (tys_ T) (in_w (hW_ T ad K n σ o f)) nw s.heap.size yn_L_plain (.codeWith yn_L_plain cd_L_plain 6 (some .int) xh_L_plain :: TG_) [.ref (ad 0), .int (xs (I + 1)), .int (xs (I + 2)), .int (xs (I + 3)), .ref o] (hW_ T ad K n σ o f) (hW_ T ad K n σ' o f') (some (.int k)))
    (hM : cm_ l D T am K n (in_w (mW_ T am K n ρ)) nw yn_M_plain (.code yn_M_plain cd_M_plain 6 (some .int)) d [.int (xs (I + 1)), .int (xs (I + 2)), .int (xs (I + 3))] ρ ρ' (some (.int bm))) (hk : ρ' 0 0 = k) (hv : k = 0 → f' 0 = bm.toInt64) (hcs : cells + 1 ≤ room_1.cells ∧ slots + 6 ≤ room_1.slots)
    (kk : Go_ p l e room_1 s m args below meth c D cl_ (fun q => s.heap.size ≤ q) 7 (cells + 1) (slots + 6) Q (lW_ T am ad K n σ' ρ' o f') 888 (lL_ b ad am o I) []) : Go_ p l e room_1 s m args below meth c D cl_ (fun q => s.heap.size ≤ q) 7 cells slots Q (lW_ T am ad K n σ ρ o f) 808 (lL_ b ad am o I) [] := by
  refine go_aload_n (i := 1) X rfl rfl dw_808 ?_
  refine go_arg (c0 := 1) X hX hbl (Nat.not_le.mpr hbl) hLs (by omega) rfl rfl (by decide) dw_809 dw_810 dw_812 dw_813 dw_814 ?_
  refine go_arg (c0 := 2) X hX hbl (Nat.not_le.mpr hbl) hLs (by omega) rfl rfl (by decide) dw_815 dw_816 dw_818 dw_819 dw_820 ?_
  refine go_arg (c0 := 3) X hX hbl (Nat.not_le.mpr hbl) hLs (by omega) rfl rfl (by decide) dw_821 dw_822 dw_824 dw_825 dw_826 ?_
  refine go_aload_n (i := 3) X rfl rfl dw_827 ?_
  refine go_eqw (w' := mW_ T am K n ρ ++ (hW_ T ad K n σ o f ++ [])) (by rw [List.append_nil]; rfl) ?_
  refine go_hlp (n := 5) (rest := []) X hN hTw hNc (fun _ h => h) hH ml_L_120 sm_L_plain ik_L cx_L_plain ⟨by decide, by decide, by decide +kernel⟩ ⟨by decide, by decide⟩ rfl rfl (Nat.le_of_ble_eq_true rfl) dw_828 hcs (hw_adr T ad K n σ σ' o f f') ?_
  refine go_istore (i := 5) X (by decide) dw_831 ?_
  refine go_eqw (w' := [] ++ (mW_ T am K n ρ ++ hW_ T ad K n σ' o f')) (by rw [List.append_nil]; rfl) ?_
  refine go_aload_n (i := 2) X rfl rfl dw_833 ?_
  refine go_arg (c0 := 1) X hX hbl (Nat.not_le.mpr hbl) hLs (by omega) rfl rfl (by decide) dw_834 dw_835 dw_837 dw_838 dw_839 ?_
  refine go_arg (c0 := 2) X hX hbl (Nat.not_le.mpr hbl) hLs (by omega) rfl rfl (by decide) dw_840 dw_841 dw_843 dw_844 dw_845 ?_
  refine go_arg (c0 := 3) X hX hbl (Nat.not_le.mpr hbl) hLs (by omega) rfl rfl (by decide) dw_846 dw_847 dw_849 dw_850 dw_851 ?_
  refine go_fmV (C := rn_M) (ci := 7) (i := 0) (n := 3) (rest := []) X hN hM ml_L_122 im_M_plain sl_M_Mplain ik_M co_M_plain ⟨rfl, by decide, by decide, by decide +kernel⟩ ⟨rfl, rfl, by show d + 1 ≤ 11; omega, by show 8 + (6 + 11) + 30 * d ≤ 392; omega⟩ rfl (wl_at (by decide)) rfl rfl (Nat.le_of_ble_eq_true rfl) dw_852 hcs (mw_adr T am K n ρ ρ') ?_
  refine go_istore (i := 6) X (by decide) dw_855 ?_
  refine go_aload_n (i := 2) X rfl rfl dw_857 ?_
  refine go_fmV (C := rn_M) (ci := 7) (i := 0) (n := 0) (rest := []) X hN (tm_thrown l D T am (in_w (mW_ T am K n ρ')) nw K n (ρ := ρ')) ml_L_70 im_M_thrown sl_M_Mthrown ik_M co_M_thrown ⟨rfl, by decide, by decide, by decide +kernel⟩ ⟨rfl, rfl, by decide, by decide⟩ rfl (wl_at (by decide)) rfl rfl (Nat.le_of_ble_eq_true rfl) dw_858 hcs rfl ?_
  refine go_iload (i := 5) X rfl dw_861 ?_
  refine go_icmp_eq (tgt := 868) X dw_863 (by decide) (fun _ => ?_) (fun h => absurd hk h)
  refine go_iload (i := 5) X rfl dw_868 ?_
  refine go_if_ne (tgt := 885) X dw_870 (by decide) (fun h => ?_) (fun h => ?_)
  · refine go_goto (tgt := 888) X dw_885 (by decide) ?_
    refine go_loc (L' := lL_ b ad am o I) rfl ?_
    exact kk
  · refine go_aload_n (i := 3) X rfl rfl dw_873 ?_
    refine go_iconst (v := 0) X (by decide) dw_874 ?_
    refine go_lald (i := 26 + (41 + n)) (t0 := 2) (n := 1) (f := f') (j' := 0) (cA := T 2) X (lw_o T am ad K n σ' ρ' o f') rfl vin0 (by decide) dw_875 ?_
    refine go_iload (i := 6) X rfl dw_876 ?_
    refine go_i2l X dw_878 ?_
    refine go_lcmp X (hv h) dw_879 ?_
    refine go_if_eq (tgt := 885) X dw_880 (by decide) (fun _ => ?_) (fun h0 => absurd rfl h0)
    refine go_goto (tgt := 888) X dw_885 (by decide) ?_
    refine go_loc (L' := lL_ b ad am o I) rfl ?_
    exact kk
end LC_B

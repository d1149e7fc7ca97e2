/-! ===== the law's cases: one call, then the end of the loop's turn ===== -/
set_option maxHeartbeats 4000000 in
set_option maxRecDepth 100000 in
theorem t_0 {p : Program} {l : Launch} (hlt : l.stackTraces = false) {e : Env} {s : State} {m : MethodId} {args : Array Value} {below : List Frame} {meth : Method} {c : Code} {H : Heap} {locs : List Loc} {Q : State → Prop} {ls : Array Slot} {G : dG} {J : mG} {cL : ClassId} {a b : Nat} {f : Nat → Int64} {xs : Nat → Int32} (B : lB p s m args c G J cL a b xs) (hD : dM G nu0 H) (hM : mM J (oF 0) H) (hO : oM G cL a f H) (hS : pS G s.heap H locs) (hl : lv_has ls 9 [(4, .int 0), (3, .ref a), (2, .ref (ja J 0)), (1, .ref (ra G 0)), (0, .ref b)])
  (hF : ∀ (ls : Array Slot) (H : Heap) (locs : List Loc), pS G s.heap H locs → lv_has ls 9 [(4, .int 0), (0, .ref b)] → W p l e room_1 s m args below meth c H locs 300 5000 Q (F0 m 1432 ls [])) : W p l e room_1 s m args below meth c H locs 200 2000 Q (F0 m 148 ls []) := by
  have X := B.1
  refine lv_aload_n X.1 X.2.1 dL_law_148 rfl (lv_at hl 3 rfl) ?_
  refine lv_aload_n X.1 X.2.1 dL_law_149 rfl (lv_at hl 4 rfl) ?_
  refine lv_iload X.1 X.2.1 dL_law_150 (lv_at hl 0 rfl) ?_
  refine lv_iconst (v := 1) X.1 X.2.1 dL_law_152 (by decide) ?_
  refine lv_iadd X.1 X.2.1 dL_law_153 ?_
  refine r_as (b := 1) (by decide) ?_
  refine z_sld (i := 1) B hS (by decide) dL_law_154 ?_
  refine lv_aload_n X.1 X.2.1 dL_law_155 rfl (lv_at hl 4 rfl) ?_
  refine lv_iload X.1 X.2.1 dL_law_156 (lv_at hl 0 rfl) ?_
  refine lv_iconst (v := 2) X.1 X.2.1 dL_law_158 (by decide) ?_
  refine lv_iadd X.1 X.2.1 dL_law_159 ?_
  refine r_as (b := 2) (by decide) ?_
  refine z_sld (i := 2) B hS (by decide) dL_law_160 ?_
  refine lv_aload_n X.1 X.2.1 dL_law_161 rfl (lv_at hl 1 rfl) ?_
  refine kZW (As := [_, _, _, _]) B hD hM hO hS hl.1 (w_L_addArticle hlt (by have := B.2.2.2.2.2.2.1; omega)) rfl kl_L_78 mc_L_addArticle ⟨Nat.le_of_ble_eq_true rfl, Nat.le_of_ble_eq_true rfl⟩ ⟨Nat.le_of_ble_eq_true rfl, Nat.le_of_ble_eq_true rfl⟩ rfl (Nat.le_of_ble_eq_true rfl) dL_law_162 (fun r f H locs er hv hM hO hS => ?_)
  refine lv_istore X.1 X.2.1 dL_law_165 hl (by decide) rfl (fun ls hl => ?_)
  replace hl : lv_has ls 9 [(5, _), (4, _), (3, _), (2, _), (1, _), (0, _)] := hl
  refine lv_aload_n X.1 X.2.1 dL_law_167 rfl (lv_at hl 3 rfl) ?_
  refine lv_aload_n X.1 X.2.1 dL_law_168 rfl (lv_at hl 5 rfl) ?_
  refine lv_iload X.1 X.2.1 dL_law_169 (lv_at hl 1 rfl) ?_
  refine lv_iconst (v := 1) X.1 X.2.1 dL_law_171 (by decide) ?_
  refine lv_iadd X.1 X.2.1 dL_law_172 ?_
  refine r_as (b := 1) (by decide) ?_
  refine z_sld (i := 1) B hS (by decide) dL_law_173 ?_
  refine lv_aload_n X.1 X.2.1 dL_law_174 rfl (lv_at hl 5 rfl) ?_
  refine lv_iload X.1 X.2.1 dL_law_175 (lv_at hl 1 rfl) ?_
  refine lv_iconst (v := 2) X.1 X.2.1 dL_law_177 (by decide) ?_
  refine lv_iadd X.1 X.2.1 dL_law_178 ?_
  refine r_as (b := 2) (by decide) ?_
  refine z_sld (i := 2) B hS (by decide) dL_law_179 ?_
  refine kZM (As := [_, _]) B hM hO hS hl.1 c_X6_addArticle rfl kl_L_83 mf_X6_addArticle ⟨Nat.le_of_ble_eq_true rfl, Nat.le_of_ble_eq_true rfl⟩ ⟨Nat.le_of_ble_eq_true rfl, Nat.le_of_ble_eq_true rfl⟩ rfl (Nat.le_of_ble_eq_true rfl) dL_law_180 (fun r2 o H locs hp hM hO hS => ?_)
  refine lv_istore X.1 X.2.1 dL_law_183 hl (by decide) rfl (fun ls hl => ?_)
  replace hl : lv_has ls 9 [(6, _), (5, _), (4, _), (3, _), (2, _), (1, _), (0, _)] := hl
  refine lv_aload_n X.1 X.2.1 dL_law_185 rfl (lv_at hl 4 rfl) ?_
  refine kZM (As := []) B hM hO hS hl.1 c_X6_thrown rfl kl_L_84 mf_X6_thrown ⟨Nat.le_of_ble_eq_true rfl, Nat.le_of_ble_eq_true rfl⟩ ⟨Nat.le_of_ble_eq_true rfl, Nat.le_of_ble_eq_true rfl⟩ rfl (Nat.le_of_ble_eq_true rfl) dL_law_186 (fun r3 o3 H locs hp3 hM hO hS => ?_)
  obtain ⟨e3, -⟩ := hp3
  rw [hp.1] at e3
  refine lv_iload X.1 X.2.1 dL_law_189 (lv_at hl 1 rfl) ?_
  refine lv_icmp_eq (tgt := 196) X.1 X.2.1 dL_law_191 (by decide) (fun _ => ?_) (fun h => absurd (e3.trans er.symm) h)
  refine lv_iload X.1 X.2.1 dL_law_196 (lv_at hl 1 rfl) ?_
  refine lv_if_ne (tgt := 213) X.1 X.2.1 dL_law_198 (by decide) (fun h0 => ?_) (fun h0 => ?_)
  · refine lv_goto (tgt := 1432) X.1 X.2.1 dL_law_213 (by decide) ?_
    refine W.widen (k := 300) (n := 5000) (Nat.le_of_ble_eq_true rfl) (Nat.le_of_ble_eq_true rfl) ?_
    exact hF ls H locs hS (lv_sub hl [2, 6] rfl)
  · have k0 := er.symm.trans h0
    have hv := hv k0
    have e2 := hp.2 k0
    clear hp
    subst e2
    refine lv_aload_n X.1 X.2.1 dL_law_201 rfl (lv_at hl 3 rfl) ?_
    refine lv_iconst (v := 0) X.1 X.2.1 dL_law_202 (by decide) ?_
    refine z_lald B hO hv dL_law_203 ?_
    refine lv_iload X.1 X.2.1 dL_law_204 (lv_at hl 0 rfl) ?_
    refine lv_i2l X.1 X.2.1 dL_law_206 rfl ?_
    refine z_cmp B (by decide) dL_law_207 ?_
    refine lv_if_eq (tgt := 213) X.1 X.2.1 dL_law_208 (by decide) (fun h208 => ?_) (fun h208 => absurd (by decide) h208)
    refine lv_goto (tgt := 1432) X.1 X.2.1 dL_law_213 (by decide) ?_
    refine W.widen (k := 300) (n := 5000) (Nat.le_of_ble_eq_true rfl) (Nat.le_of_ble_eq_true rfl) ?_
    exact hF ls H locs hS (lv_sub hl [2, 6] rfl)

set_option maxHeartbeats 4000000 in
set_option maxRecDepth 100000 in
theorem t_1 {p : Program} {l : Launch} (hlt : l.stackTraces = false) {e : Env} {s : State} {m : MethodId} {args : Array Value} {below : List Frame} {meth : Method} {c : Code} {H : Heap} {locs : List Loc} {Q : State → Prop} {ls : Array Slot} {G : dG} {J : mG} {cL : ClassId} {a b : Nat} {f : Nat → Int64} {xs : Nat → Int32} (B : lB p s m args c G J cL a b xs) (hD : dM G nu0 H) (hM : mM J (oF 0) H) (hO : oM G cL a f H) (hS : pS G s.heap H locs) (hl : lv_has ls 9 [(4, .int 0), (3, .ref a), (2, .ref (ja J 0)), (1, .ref (ra G 0)), (0, .ref b)])
  (hF : ∀ (ls : Array Slot) (H : Heap) (locs : List Loc), pS G s.heap H locs → lv_has ls 9 [(4, .int 0), (0, .ref b)] → W p l e room_1 s m args below meth c H locs 300 5000 Q (F0 m 1432 ls [])) : W p l e room_1 s m args below meth c H locs 200 2000 Q (F0 m 216 ls []) := by
  have X := B.1
  refine lv_aload_n X.1 X.2.1 dL_law_216 rfl (lv_at hl 3 rfl) ?_
  refine lv_aload_n X.1 X.2.1 dL_law_217 rfl (lv_at hl 4 rfl) ?_
  refine lv_iload X.1 X.2.1 dL_law_218 (lv_at hl 0 rfl) ?_
  refine lv_iconst (v := 1) X.1 X.2.1 dL_law_220 (by decide) ?_
  refine lv_iadd X.1 X.2.1 dL_law_221 ?_
  refine r_as (b := 1) (by decide) ?_
  refine z_sld (i := 1) B hS (by decide) dL_law_222 ?_
  refine lv_aload_n X.1 X.2.1 dL_law_223 rfl (lv_at hl 4 rfl) ?_
  refine lv_iload X.1 X.2.1 dL_law_224 (lv_at hl 0 rfl) ?_
  refine lv_iconst (v := 2) X.1 X.2.1 dL_law_226 (by decide) ?_
  refine lv_iadd X.1 X.2.1 dL_law_227 ?_
  refine r_as (b := 2) (by decide) ?_
  refine z_sld (i := 2) B hS (by decide) dL_law_228 ?_
  refine lv_aload_n X.1 X.2.1 dL_law_229 rfl (lv_at hl 1 rfl) ?_
  refine kZW (As := [_, _, _, _]) B hD hM hO hS hl.1 (w_L_setPrice hlt (by have := B.2.2.2.2.2.2.1; omega)) rfl kl_L_88 mc_L_setPrice ⟨Nat.le_of_ble_eq_true rfl, Nat.le_of_ble_eq_true rfl⟩ ⟨Nat.le_of_ble_eq_true rfl, Nat.le_of_ble_eq_true rfl⟩ rfl (Nat.le_of_ble_eq_true rfl) dL_law_230 (fun r f H locs er hv hM hO hS => ?_)
  subst er
  refine lv_istore X.1 X.2.1 dL_law_233 hl (by decide) rfl (fun ls hl => ?_)
  replace hl : lv_has ls 9 [(5, _), (4, _), (3, _), (2, _), (1, _), (0, _)] := hl
  refine lv_aload_n X.1 X.2.1 dL_law_235 rfl (lv_at hl 3 rfl) ?_
  refine lv_aload_n X.1 X.2.1 dL_law_236 rfl (lv_at hl 5 rfl) ?_
  refine lv_iload X.1 X.2.1 dL_law_237 (lv_at hl 1 rfl) ?_
  refine lv_iconst (v := 1) X.1 X.2.1 dL_law_239 (by decide) ?_
  refine lv_iadd X.1 X.2.1 dL_law_240 ?_
  refine r_as (b := 1) (by decide) ?_
  refine z_sld (i := 1) B hS (by decide) dL_law_241 ?_
  refine lv_aload_n X.1 X.2.1 dL_law_242 rfl (lv_at hl 5 rfl) ?_
  refine lv_iload X.1 X.2.1 dL_law_243 (lv_at hl 1 rfl) ?_
  refine lv_iconst (v := 2) X.1 X.2.1 dL_law_245 (by decide) ?_
  refine lv_iadd X.1 X.2.1 dL_law_246 ?_
  refine r_as (b := 2) (by decide) ?_
  refine z_sld (i := 2) B hS (by decide) dL_law_247 ?_
  refine kZM (As := [_, _]) B hM hO hS hl.1 c_X6_setPrice rfl kl_L_90 mf_X6_setPrice ⟨Nat.le_of_ble_eq_true rfl, Nat.le_of_ble_eq_true rfl⟩ ⟨Nat.le_of_ble_eq_true rfl, Nat.le_of_ble_eq_true rfl⟩ rfl (Nat.le_of_ble_eq_true rfl) dL_law_248 (fun r2 o H locs hp hM hO hS => ?_)
  refine lv_istore X.1 X.2.1 dL_law_251 hl (by decide) rfl (fun ls hl => ?_)
  replace hl : lv_has ls 9 [(6, _), (5, _), (4, _), (3, _), (2, _), (1, _), (0, _)] := hl
  refine lv_aload_n X.1 X.2.1 dL_law_253 rfl (lv_at hl 4 rfl) ?_
  refine kZM (As := []) B hM hO hS hl.1 c_X6_thrown rfl kl_L_84 mf_X6_thrown ⟨Nat.le_of_ble_eq_true rfl, Nat.le_of_ble_eq_true rfl⟩ ⟨Nat.le_of_ble_eq_true rfl, Nat.le_of_ble_eq_true rfl⟩ rfl (Nat.le_of_ble_eq_true rfl) dL_law_254 (fun r3 o3 H locs hp3 hM hO hS => ?_)
  obtain ⟨e3, -⟩ := hp3
  rw [hp.1] at e3
  subst e3
  refine lv_iload X.1 X.2.1 dL_law_257 (lv_at hl 1 rfl) ?_
  refine lv_icmp_eq (tgt := 264) X.1 X.2.1 dL_law_259 (by decide) (fun h259 => ?_) (fun h259 => absurd (by decide) h259)
  refine lv_iload X.1 X.2.1 dL_law_264 (lv_at hl 1 rfl) ?_
  refine lv_if_ne (tgt := 281) X.1 X.2.1 dL_law_266 (by decide) (fun h266 => ?_) (fun h266 => absurd h266 (by decide))
  refine lv_goto (tgt := 1432) X.1 X.2.1 dL_law_281 (by decide) ?_
  refine W.widen (k := 300) (n := 5000) (Nat.le_of_ble_eq_true rfl) (Nat.le_of_ble_eq_true rfl) ?_
  exact hF ls H locs hS (lv_sub hl [2, 6] rfl)

set_option maxHeartbeats 4000000 in
set_option maxRecDepth 100000 in
theorem t_2 {p : Program} {l : Launch} (hlt : l.stackTraces = false) {e : Env} {s : State} {m : MethodId} {args : Array Value} {below : List Frame} {meth : Method} {c : Code} {H : Heap} {locs : List Loc} {Q : State → Prop} {ls : Array Slot} {G : dG} {J : mG} {cL : ClassId} {a b : Nat} {f : Nat → Int64} {xs : Nat → Int32} (B : lB p s m args c G J cL a b xs) (hD : dM G nu0 H) (hM : mM J (oF 0) H) (hO : oM G cL a f H) (hS : pS G s.heap H locs) (hl : lv_has ls 9 [(4, .int 0), (3, .ref a), (2, .ref (ja J 0)), (1, .ref (ra G 0)), (0, .ref b)])
  (hF : ∀ (ls : Array Slot) (H : Heap) (locs : List Loc), pS G s.heap H locs → lv_has ls 9 [(4, .int 0), (0, .ref b)] → W p l e room_1 s m args below meth c H locs 300 5000 Q (F0 m 1432 ls [])) : W p l e room_1 s m args below meth c H locs 200 2000 Q (F0 m 284 ls []) := by
  have X := B.1
  refine lv_aload_n X.1 X.2.1 dL_law_284 rfl (lv_at hl 3 rfl) ?_
  refine lv_aload_n X.1 X.2.1 dL_law_285 rfl (lv_at hl 4 rfl) ?_
  refine lv_iload X.1 X.2.1 dL_law_286 (lv_at hl 0 rfl) ?_
  refine lv_iconst (v := 1) X.1 X.2.1 dL_law_288 (by decide) ?_
  refine lv_iadd X.1 X.2.1 dL_law_289 ?_
  refine r_as (b := 1) (by decide) ?_
  refine z_sld (i := 1) B hS (by decide) dL_law_290 ?_
  refine lv_aload_n X.1 X.2.1 dL_law_291 rfl (lv_at hl 4 rfl) ?_
  refine lv_iload X.1 X.2.1 dL_law_292 (lv_at hl 0 rfl) ?_
  refine lv_iconst (v := 2) X.1 X.2.1 dL_law_294 (by decide) ?_
  refine lv_iadd X.1 X.2.1 dL_law_295 ?_
  refine r_as (b := 2) (by decide) ?_
  refine z_sld (i := 2) B hS (by decide) dL_law_296 ?_
  refine lv_aload_n X.1 X.2.1 dL_law_297 rfl (lv_at hl 1 rfl) ?_
  refine kZW (As := [_, _, _, _]) B hD hM hO hS hl.1 (w_L_put hlt (by have := B.2.2.2.2.2.2.1; omega)) rfl kl_L_91 mc_L_put ⟨Nat.le_of_ble_eq_true rfl, Nat.le_of_ble_eq_true rfl⟩ ⟨Nat.le_of_ble_eq_true rfl, Nat.le_of_ble_eq_true rfl⟩ rfl (Nat.le_of_ble_eq_true rfl) dL_law_298 (fun r f H locs er hv hM hO hS => ?_)
  subst er
  refine lv_istore X.1 X.2.1 dL_law_301 hl (by decide) rfl (fun ls hl => ?_)
  replace hl : lv_has ls 9 [(5, _), (4, _), (3, _), (2, _), (1, _), (0, _)] := hl
  refine lv_aload_n X.1 X.2.1 dL_law_303 rfl (lv_at hl 3 rfl) ?_
  refine lv_aload_n X.1 X.2.1 dL_law_304 rfl (lv_at hl 5 rfl) ?_
  refine lv_iload X.1 X.2.1 dL_law_305 (lv_at hl 1 rfl) ?_
  refine lv_iconst (v := 1) X.1 X.2.1 dL_law_307 (by decide) ?_
  refine lv_iadd X.1 X.2.1 dL_law_308 ?_
  refine r_as (b := 1) (by decide) ?_
  refine z_sld (i := 1) B hS (by decide) dL_law_309 ?_
  refine lv_aload_n X.1 X.2.1 dL_law_310 rfl (lv_at hl 5 rfl) ?_
  refine lv_iload X.1 X.2.1 dL_law_311 (lv_at hl 1 rfl) ?_
  refine lv_iconst (v := 2) X.1 X.2.1 dL_law_313 (by decide) ?_
  refine lv_iadd X.1 X.2.1 dL_law_314 ?_
  refine r_as (b := 2) (by decide) ?_
  refine z_sld (i := 2) B hS (by decide) dL_law_315 ?_
  refine kZM (As := [_, _]) B hM hO hS hl.1 c_X6_put rfl kl_L_93 mf_X6_put ⟨Nat.le_of_ble_eq_true rfl, Nat.le_of_ble_eq_true rfl⟩ ⟨Nat.le_of_ble_eq_true rfl, Nat.le_of_ble_eq_true rfl⟩ rfl (Nat.le_of_ble_eq_true rfl) dL_law_316 (fun r2 o H locs hp hM hO hS => ?_)
  refine lv_istore X.1 X.2.1 dL_law_319 hl (by decide) rfl (fun ls hl => ?_)
  replace hl : lv_has ls 9 [(6, _), (5, _), (4, _), (3, _), (2, _), (1, _), (0, _)] := hl
  refine lv_aload_n X.1 X.2.1 dL_law_321 rfl (lv_at hl 4 rfl) ?_
  refine kZM (As := []) B hM hO hS hl.1 c_X6_thrown rfl kl_L_84 mf_X6_thrown ⟨Nat.le_of_ble_eq_true rfl, Nat.le_of_ble_eq_true rfl⟩ ⟨Nat.le_of_ble_eq_true rfl, Nat.le_of_ble_eq_true rfl⟩ rfl (Nat.le_of_ble_eq_true rfl) dL_law_322 (fun r3 o3 H locs hp3 hM hO hS => ?_)
  obtain ⟨e3, -⟩ := hp3
  rw [hp.1] at e3
  subst e3
  refine lv_iload X.1 X.2.1 dL_law_325 (lv_at hl 1 rfl) ?_
  refine lv_icmp_eq (tgt := 332) X.1 X.2.1 dL_law_327 (by decide) (fun h327 => ?_) (fun h327 => absurd (by decide) h327)
  refine lv_iload X.1 X.2.1 dL_law_332 (lv_at hl 1 rfl) ?_
  refine lv_if_ne (tgt := 349) X.1 X.2.1 dL_law_334 (by decide) (fun h334 => ?_) (fun h334 => absurd h334 (by decide))
  refine lv_goto (tgt := 1432) X.1 X.2.1 dL_law_349 (by decide) ?_
  refine W.widen (k := 300) (n := 5000) (Nat.le_of_ble_eq_true rfl) (Nat.le_of_ble_eq_true rfl) ?_
  exact hF ls H locs hS (lv_sub hl [2, 6] rfl)

set_option maxHeartbeats 4000000 in
set_option maxRecDepth 100000 in
theorem t_3 {p : Program} {l : Launch} (hlt : l.stackTraces = false) {e : Env} {s : State} {m : MethodId} {args : Array Value} {below : List Frame} {meth : Method} {c : Code} {H : Heap} {locs : List Loc} {Q : State → Prop} {ls : Array Slot} {G : dG} {J : mG} {cL : ClassId} {a b : Nat} {f : Nat → Int64} {xs : Nat → Int32} (B : lB p s m args c G J cL a b xs) (hD : dM G nu0 H) (hM : mM J (oF 0) H) (hO : oM G cL a f H) (hS : pS G s.heap H locs) (hl : lv_has ls 9 [(4, .int 0), (3, .ref a), (2, .ref (ja J 0)), (1, .ref (ra G 0)), (0, .ref b)])
  (hF : ∀ (ls : Array Slot) (H : Heap) (locs : List Loc), pS G s.heap H locs → lv_has ls 9 [(4, .int 0), (0, .ref b)] → W p l e room_1 s m args below meth c H locs 300 5000 Q (F0 m 1432 ls [])) : W p l e room_1 s m args below meth c H locs 200 2000 Q (F0 m 352 ls []) := by
  have X := B.1
  refine lv_aload_n X.1 X.2.1 dL_law_352 rfl (lv_at hl 3 rfl) ?_
  refine kZD (As := []) B hD hM hO hS hl.1 (c_X5_value nu0_WD) rfl kl_L_94 mf_X5_value ⟨Nat.le_of_ble_eq_true rfl, Nat.le_of_ble_eq_true rfl⟩ ⟨Nat.le_of_ble_eq_true rfl, Nat.le_of_ble_eq_true rfl⟩ rfl (Nat.le_of_ble_eq_true rfl) dL_law_353 (fun r ν H locs hp hM hO hS => ?_)
  obtain ⟨rfl, -⟩ := hp
  refine r_as (b := 0) nu0_val ?_
  refine lv_aload_n X.1 X.2.1 dL_law_356 rfl (lv_at hl 2 rfl) ?_
  refine kZM (As := []) B hM hO hS hl.1 c_X6_value rfl kl_L_97 mf_X6_value ⟨Nat.le_of_ble_eq_true rfl, Nat.le_of_ble_eq_true rfl⟩ ⟨Nat.le_of_ble_eq_true rfl, Nat.le_of_ble_eq_true rfl⟩ rfl (Nat.le_of_ble_eq_true rfl) dL_law_357 (fun r2 o H locs hp hM hO hS => ?_)
  obtain rfl := hp.2 rfl
  refine lv_icmp_eq (tgt := 1432) X.1 X.2.1 dL_law_360 (by decide) (fun h360 => ?_) (fun h360 => absurd (by decide) h360)
  refine W.widen (k := 300) (n := 5000) (Nat.le_of_ble_eq_true rfl) (Nat.le_of_ble_eq_true rfl) ?_
  exact hF ls H locs hS (lv_sub hl [0, 4] rfl)

set_option maxHeartbeats 4000000 in
set_option maxRecDepth 100000 in
theorem t_4 {p : Program} {l : Launch} (hlt : l.stackTraces = false) {e : Env} {s : State} {m : MethodId} {args : Array Value} {below : List Frame} {meth : Method} {c : Code} {H : Heap} {locs : List Loc} {Q : State → Prop} {ls : Array Slot} {G : dG} {J : mG} {cL : ClassId} {a b : Nat} {f : Nat → Int64} {xs : Nat → Int32} (B : lB p s m args c G J cL a b xs) (hD : dM G nu0 H) (hM : mM J (oF 0) H) (hO : oM G cL a f H) (hS : pS G s.heap H locs) (hl : lv_has ls 9 [(4, .int 0), (3, .ref a), (2, .ref (ja J 0)), (1, .ref (ra G 0)), (0, .ref b)])
  (hF : ∀ (ls : Array Slot) (H : Heap) (locs : List Loc), pS G s.heap H locs → lv_has ls 9 [(4, .int 0), (0, .ref b)] → W p l e room_1 s m args below meth c H locs 300 5000 Q (F0 m 1432 ls [])) : W p l e room_1 s m args below meth c H locs 200 2000 Q (F0 m 365 ls []) := by
  have X := B.1
  refine lv_aload_n X.1 X.2.1 dL_law_365 rfl (lv_at hl 3 rfl) ?_
  refine lv_aload_n X.1 X.2.1 dL_law_366 rfl (lv_at hl 4 rfl) ?_
  refine lv_iload X.1 X.2.1 dL_law_367 (lv_at hl 0 rfl) ?_
  refine lv_iconst (v := 1) X.1 X.2.1 dL_law_369 (by decide) ?_
  refine lv_iadd X.1 X.2.1 dL_law_370 ?_
  refine r_as (b := 1) (by decide) ?_
  refine z_sld (i := 1) B hS (by decide) dL_law_371 ?_
  refine lv_aload_n X.1 X.2.1 dL_law_372 rfl (lv_at hl 4 rfl) ?_
  refine lv_iload X.1 X.2.1 dL_law_373 (lv_at hl 0 rfl) ?_
  refine lv_iconst (v := 2) X.1 X.2.1 dL_law_375 (by decide) ?_
  refine lv_iadd X.1 X.2.1 dL_law_376 ?_
  refine r_as (b := 2) (by decide) ?_
  refine z_sld (i := 2) B hS (by decide) dL_law_377 ?_
  refine lv_aload_n X.1 X.2.1 dL_law_378 rfl (lv_at hl 1 rfl) ?_
  refine kZW (As := [_, _, _, _]) B hD hM hO hS hl.1 (w_L_setShipping hlt (by have := B.2.2.2.2.2.2.1; omega)) rfl kl_L_98 mc_L_setShipping ⟨Nat.le_of_ble_eq_true rfl, Nat.le_of_ble_eq_true rfl⟩ ⟨Nat.le_of_ble_eq_true rfl, Nat.le_of_ble_eq_true rfl⟩ rfl (Nat.le_of_ble_eq_true rfl) dL_law_379 (fun r f H locs er hv hM hO hS => ?_)
  refine lv_istore X.1 X.2.1 dL_law_382 hl (by decide) rfl (fun ls hl => ?_)
  replace hl : lv_has ls 9 [(5, _), (4, _), (3, _), (2, _), (1, _), (0, _)] := hl
  refine lv_aload_n X.1 X.2.1 dL_law_384 rfl (lv_at hl 3 rfl) ?_
  refine lv_aload_n X.1 X.2.1 dL_law_385 rfl (lv_at hl 5 rfl) ?_
  refine lv_iload X.1 X.2.1 dL_law_386 (lv_at hl 1 rfl) ?_
  refine lv_iconst (v := 1) X.1 X.2.1 dL_law_388 (by decide) ?_
  refine lv_iadd X.1 X.2.1 dL_law_389 ?_
  refine r_as (b := 1) (by decide) ?_
  refine z_sld (i := 1) B hS (by decide) dL_law_390 ?_
  refine lv_aload_n X.1 X.2.1 dL_law_391 rfl (lv_at hl 5 rfl) ?_
  refine lv_iload X.1 X.2.1 dL_law_392 (lv_at hl 1 rfl) ?_
  refine lv_iconst (v := 2) X.1 X.2.1 dL_law_394 (by decide) ?_
  refine lv_iadd X.1 X.2.1 dL_law_395 ?_
  refine r_as (b := 2) (by decide) ?_
  refine z_sld (i := 2) B hS (by decide) dL_law_396 ?_
  refine kZM (As := [_, _]) B hM hO hS hl.1 c_X6_setShipping rfl kl_L_100 mf_X6_setShipping ⟨Nat.le_of_ble_eq_true rfl, Nat.le_of_ble_eq_true rfl⟩ ⟨Nat.le_of_ble_eq_true rfl, Nat.le_of_ble_eq_true rfl⟩ rfl (Nat.le_of_ble_eq_true rfl) dL_law_397 (fun r2 o H locs hp hM hO hS => ?_)
  refine lv_istore X.1 X.2.1 dL_law_400 hl (by decide) rfl (fun ls hl => ?_)
  replace hl : lv_has ls 9 [(6, _), (5, _), (4, _), (3, _), (2, _), (1, _), (0, _)] := hl
  refine lv_aload_n X.1 X.2.1 dL_law_402 rfl (lv_at hl 4 rfl) ?_
  refine kZM (As := []) B hM hO hS hl.1 c_X6_thrown rfl kl_L_84 mf_X6_thrown ⟨Nat.le_of_ble_eq_true rfl, Nat.le_of_ble_eq_true rfl⟩ ⟨Nat.le_of_ble_eq_true rfl, Nat.le_of_ble_eq_true rfl⟩ rfl (Nat.le_of_ble_eq_true rfl) dL_law_403 (fun r3 o3 H locs hp3 hM hO hS => ?_)
  obtain ⟨e3, -⟩ := hp3
  rw [hp.1] at e3
  refine lv_iload X.1 X.2.1 dL_law_406 (lv_at hl 1 rfl) ?_
  refine lv_icmp_eq (tgt := 413) X.1 X.2.1 dL_law_408 (by decide) (fun _ => ?_) (fun h => absurd (e3.trans er.symm) h)
  refine lv_iload X.1 X.2.1 dL_law_413 (lv_at hl 1 rfl) ?_
  refine lv_if_ne (tgt := 430) X.1 X.2.1 dL_law_415 (by decide) (fun h0 => ?_) (fun h0 => ?_)
  · refine lv_goto (tgt := 1432) X.1 X.2.1 dL_law_430 (by decide) ?_
    refine W.widen (k := 300) (n := 5000) (Nat.le_of_ble_eq_true rfl) (Nat.le_of_ble_eq_true rfl) ?_
    exact hF ls H locs hS (lv_sub hl [2, 6] rfl)
  · have k0 := er.symm.trans h0
    have hv := hv k0
    have e2 := hp.2 k0
    clear hp
    subst e2
    refine lv_aload_n X.1 X.2.1 dL_law_418 rfl (lv_at hl 3 rfl) ?_
    refine lv_iconst (v := 0) X.1 X.2.1 dL_law_419 (by decide) ?_
    refine z_lald B hO hv dL_law_420 ?_
    refine lv_iload X.1 X.2.1 dL_law_421 (lv_at hl 0 rfl) ?_
    refine lv_i2l X.1 X.2.1 dL_law_423 rfl ?_
    refine z_cmp B (by decide) dL_law_424 ?_
    refine lv_if_eq (tgt := 430) X.1 X.2.1 dL_law_425 (by decide) (fun h425 => ?_) (fun h425 => absurd (by decide) h425)
    refine lv_goto (tgt := 1432) X.1 X.2.1 dL_law_430 (by decide) ?_
    refine W.widen (k := 300) (n := 5000) (Nat.le_of_ble_eq_true rfl) (Nat.le_of_ble_eq_true rfl) ?_
    exact hF ls H locs hS (lv_sub hl [2, 6] rfl)

set_option maxHeartbeats 4000000 in
set_option maxRecDepth 100000 in
theorem t_5 {p : Program} {l : Launch} (hlt : l.stackTraces = false) {e : Env} {s : State} {m : MethodId} {args : Array Value} {below : List Frame} {meth : Method} {c : Code} {H : Heap} {locs : List Loc} {Q : State → Prop} {ls : Array Slot} {G : dG} {J : mG} {cL : ClassId} {a b : Nat} {f : Nat → Int64} {xs : Nat → Int32} (B : lB p s m args c G J cL a b xs) (hD : dM G nu0 H) (hM : mM J (oF 0) H) (hO : oM G cL a f H) (hS : pS G s.heap H locs) (hl : lv_has ls 9 [(4, .int 0), (3, .ref a), (2, .ref (ja J 0)), (1, .ref (ra G 0)), (0, .ref b)])
  (hF : ∀ (ls : Array Slot) (H : Heap) (locs : List Loc), pS G s.heap H locs → lv_has ls 9 [(4, .int 0), (0, .ref b)] → W p l e room_1 s m args below meth c H locs 300 5000 Q (F0 m 1432 ls [])) : W p l e room_1 s m args below meth c H locs 200 2000 Q (F0 m 433 ls []) := by
  have X := B.1
  refine lv_aload_n X.1 X.2.1 dL_law_433 rfl (lv_at hl 3 rfl) ?_
  refine lv_aload_n X.1 X.2.1 dL_law_434 rfl (lv_at hl 4 rfl) ?_
  refine lv_iload X.1 X.2.1 dL_law_435 (lv_at hl 0 rfl) ?_
  refine lv_iconst (v := 1) X.1 X.2.1 dL_law_437 (by decide) ?_
  refine lv_iadd X.1 X.2.1 dL_law_438 ?_
  refine r_as (b := 1) (by decide) ?_
  refine z_sld (i := 1) B hS (by decide) dL_law_439 ?_
  refine lv_aload_n X.1 X.2.1 dL_law_440 rfl (lv_at hl 4 rfl) ?_
  refine lv_iload X.1 X.2.1 dL_law_441 (lv_at hl 0 rfl) ?_
  refine lv_iconst (v := 2) X.1 X.2.1 dL_law_443 (by decide) ?_
  refine lv_iadd X.1 X.2.1 dL_law_444 ?_
  refine r_as (b := 2) (by decide) ?_
  refine z_sld (i := 2) B hS (by decide) dL_law_445 ?_
  refine lv_aload_n X.1 X.2.1 dL_law_446 rfl (lv_at hl 4 rfl) ?_
  refine lv_iload X.1 X.2.1 dL_law_447 (lv_at hl 0 rfl) ?_
  refine lv_iconst (v := 3) X.1 X.2.1 dL_law_449 (by decide) ?_
  refine lv_iadd X.1 X.2.1 dL_law_450 ?_
  refine r_as (b := 3) (by decide) ?_
  refine z_sld (i := 3) B hS (by decide) dL_law_451 ?_
  refine lv_aload_n X.1 X.2.1 dL_law_452 rfl (lv_at hl 4 rfl) ?_
  refine lv_iload X.1 X.2.1 dL_law_453 (lv_at hl 0 rfl) ?_
  refine lv_iconst (v := 4) X.1 X.2.1 dL_law_455 (by decide) ?_
  refine lv_iadd X.1 X.2.1 dL_law_456 ?_
  refine r_as (b := 4) (by decide) ?_
  refine z_sld (i := 4) B hS (by decide) dL_law_457 ?_
  refine lv_aload_n X.1 X.2.1 dL_law_458 rfl (lv_at hl 4 rfl) ?_
  refine lv_iload X.1 X.2.1 dL_law_459 (lv_at hl 0 rfl) ?_
  refine lv_iconst (v := 5) X.1 X.2.1 dL_law_461 (by decide) ?_
  refine lv_iadd X.1 X.2.1 dL_law_462 ?_
  refine r_as (b := 5) (by decide) ?_
  refine z_sld (i := 5) B hS (by decide) dL_law_463 ?_
  refine lv_aload_n X.1 X.2.1 dL_law_464 rfl (lv_at hl 1 rfl) ?_
  refine kZW (As := [_, _, _, _, _, _, _]) B hD hM hO hS hl.1 (w_L_addCoupon hlt (by have := B.2.2.2.2.2.2.1; omega)) rfl kl_L_101 mc_L_addCoupon ⟨Nat.le_of_ble_eq_true rfl, Nat.le_of_ble_eq_true rfl⟩ ⟨Nat.le_of_ble_eq_true rfl, Nat.le_of_ble_eq_true rfl⟩ rfl (Nat.le_of_ble_eq_true rfl) dL_law_465 (fun r f H locs er hv hM hO hS => ?_)
  refine lv_istore X.1 X.2.1 dL_law_468 hl (by decide) rfl (fun ls hl => ?_)
  replace hl : lv_has ls 9 [(5, _), (4, _), (3, _), (2, _), (1, _), (0, _)] := hl
  refine lv_aload_n X.1 X.2.1 dL_law_470 rfl (lv_at hl 3 rfl) ?_
  refine lv_aload_n X.1 X.2.1 dL_law_471 rfl (lv_at hl 5 rfl) ?_
  refine lv_iload X.1 X.2.1 dL_law_472 (lv_at hl 1 rfl) ?_
  refine lv_iconst (v := 1) X.1 X.2.1 dL_law_474 (by decide) ?_
  refine lv_iadd X.1 X.2.1 dL_law_475 ?_
  refine r_as (b := 1) (by decide) ?_
  refine z_sld (i := 1) B hS (by decide) dL_law_476 ?_
  refine lv_aload_n X.1 X.2.1 dL_law_477 rfl (lv_at hl 5 rfl) ?_
  refine lv_iload X.1 X.2.1 dL_law_478 (lv_at hl 1 rfl) ?_
  refine lv_iconst (v := 2) X.1 X.2.1 dL_law_480 (by decide) ?_
  refine lv_iadd X.1 X.2.1 dL_law_481 ?_
  refine r_as (b := 2) (by decide) ?_
  refine z_sld (i := 2) B hS (by decide) dL_law_482 ?_
  refine lv_aload_n X.1 X.2.1 dL_law_483 rfl (lv_at hl 5 rfl) ?_
  refine lv_iload X.1 X.2.1 dL_law_484 (lv_at hl 1 rfl) ?_
  refine lv_iconst (v := 3) X.1 X.2.1 dL_law_486 (by decide) ?_
  refine lv_iadd X.1 X.2.1 dL_law_487 ?_
  refine r_as (b := 3) (by decide) ?_
  refine z_sld (i := 3) B hS (by decide) dL_law_488 ?_
  refine lv_aload_n X.1 X.2.1 dL_law_489 rfl (lv_at hl 5 rfl) ?_
  refine lv_iload X.1 X.2.1 dL_law_490 (lv_at hl 1 rfl) ?_
  refine lv_iconst (v := 4) X.1 X.2.1 dL_law_492 (by decide) ?_
  refine lv_iadd X.1 X.2.1 dL_law_493 ?_
  refine r_as (b := 4) (by decide) ?_
  refine z_sld (i := 4) B hS (by decide) dL_law_494 ?_
  refine lv_aload_n X.1 X.2.1 dL_law_495 rfl (lv_at hl 5 rfl) ?_
  refine lv_iload X.1 X.2.1 dL_law_496 (lv_at hl 1 rfl) ?_
  refine lv_iconst (v := 5) X.1 X.2.1 dL_law_498 (by decide) ?_
  refine lv_iadd X.1 X.2.1 dL_law_499 ?_
  refine r_as (b := 5) (by decide) ?_
  refine z_sld (i := 5) B hS (by decide) dL_law_500 ?_
  refine kZM (As := [_, _, _, _, _]) B hM hO hS hl.1 c_X6_addCoupon rfl kl_L_104 mf_X6_addCoupon ⟨Nat.le_of_ble_eq_true rfl, Nat.le_of_ble_eq_true rfl⟩ ⟨Nat.le_of_ble_eq_true rfl, Nat.le_of_ble_eq_true rfl⟩ rfl (Nat.le_of_ble_eq_true rfl) dL_law_501 (fun r2 o H locs hp hM hO hS => ?_)
  refine lv_istore X.1 X.2.1 dL_law_504 hl (by decide) rfl (fun ls hl => ?_)
  replace hl : lv_has ls 9 [(6, _), (5, _), (4, _), (3, _), (2, _), (1, _), (0, _)] := hl
  refine lv_aload_n X.1 X.2.1 dL_law_506 rfl (lv_at hl 4 rfl) ?_
  refine kZM (As := []) B hM hO hS hl.1 c_X6_thrown rfl kl_L_84 mf_X6_thrown ⟨Nat.le_of_ble_eq_true rfl, Nat.le_of_ble_eq_true rfl⟩ ⟨Nat.le_of_ble_eq_true rfl, Nat.le_of_ble_eq_true rfl⟩ rfl (Nat.le_of_ble_eq_true rfl) dL_law_507 (fun r3 o3 H locs hp3 hM hO hS => ?_)
  obtain ⟨e3, -⟩ := hp3
  rw [hp.1] at e3
  refine lv_iload X.1 X.2.1 dL_law_510 (lv_at hl 1 rfl) ?_
  refine lv_icmp_eq (tgt := 517) X.1 X.2.1 dL_law_512 (by decide) (fun _ => ?_) (fun h => absurd (e3.trans er.symm) h)
  refine lv_iload X.1 X.2.1 dL_law_517 (lv_at hl 1 rfl) ?_
  refine lv_if_ne (tgt := 534) X.1 X.2.1 dL_law_519 (by decide) (fun h0 => ?_) (fun h0 => ?_)
  · refine lv_goto (tgt := 1432) X.1 X.2.1 dL_law_534 (by decide) ?_
    refine W.widen (k := 300) (n := 5000) (Nat.le_of_ble_eq_true rfl) (Nat.le_of_ble_eq_true rfl) ?_
    exact hF ls H locs hS (lv_sub hl [2, 6] rfl)
  · have k0 := er.symm.trans h0
    have hv := hv k0
    have e2 := hp.2 k0
    clear hp
    subst e2
    refine lv_aload_n X.1 X.2.1 dL_law_522 rfl (lv_at hl 3 rfl) ?_
    refine lv_iconst (v := 0) X.1 X.2.1 dL_law_523 (by decide) ?_
    refine z_lald B hO hv dL_law_524 ?_
    refine lv_iload X.1 X.2.1 dL_law_525 (lv_at hl 0 rfl) ?_
    refine lv_i2l X.1 X.2.1 dL_law_527 rfl ?_
    refine z_cmp B (by decide) dL_law_528 ?_
    refine lv_if_eq (tgt := 534) X.1 X.2.1 dL_law_529 (by decide) (fun h529 => ?_) (fun h529 => absurd (by decide) h529)
    refine lv_goto (tgt := 1432) X.1 X.2.1 dL_law_534 (by decide) ?_
    refine W.widen (k := 300) (n := 5000) (Nat.le_of_ble_eq_true rfl) (Nat.le_of_ble_eq_true rfl) ?_
    exact hF ls H locs hS (lv_sub hl [2, 6] rfl)

set_option maxHeartbeats 4000000 in
set_option maxRecDepth 100000 in
theorem t_6 {p : Program} {l : Launch} (hlt : l.stackTraces = false) {e : Env} {s : State} {m : MethodId} {args : Array Value} {below : List Frame} {meth : Method} {c : Code} {H : Heap} {locs : List Loc} {Q : State → Prop} {ls : Array Slot} {G : dG} {J : mG} {cL : ClassId} {a b : Nat} {f : Nat → Int64} {xs : Nat → Int32} (B : lB p s m args c G J cL a b xs) (hD : dM G nu0 H) (hM : mM J (oF 0) H) (hO : oM G cL a f H) (hS : pS G s.heap H locs) (hl : lv_has ls 9 [(4, .int 0), (3, .ref a), (2, .ref (ja J 0)), (1, .ref (ra G 0)), (0, .ref b)])
  (hF : ∀ (ls : Array Slot) (H : Heap) (locs : List Loc), pS G s.heap H locs → lv_has ls 9 [(4, .int 0), (0, .ref b)] → W p l e room_1 s m args below meth c H locs 300 5000 Q (F0 m 1432 ls [])) : W p l e room_1 s m args below meth c H locs 200 2000 Q (F0 m 537 ls []) := by
  have X := B.1
  refine lv_aload_n X.1 X.2.1 dL_law_537 rfl (lv_at hl 3 rfl) ?_
  refine lv_aload_n X.1 X.2.1 dL_law_538 rfl (lv_at hl 4 rfl) ?_
  refine lv_iload X.1 X.2.1 dL_law_539 (lv_at hl 0 rfl) ?_
  refine lv_iconst (v := 1) X.1 X.2.1 dL_law_541 (by decide) ?_
  refine lv_iadd X.1 X.2.1 dL_law_542 ?_
  refine r_as (b := 1) (by decide) ?_
  refine z_sld (i := 1) B hS (by decide) dL_law_543 ?_
  refine lv_aload_n X.1 X.2.1 dL_law_544 rfl (lv_at hl 4 rfl) ?_
  refine lv_iload X.1 X.2.1 dL_law_545 (lv_at hl 0 rfl) ?_
  refine lv_iconst (v := 2) X.1 X.2.1 dL_law_547 (by decide) ?_
  refine lv_iadd X.1 X.2.1 dL_law_548 ?_
  refine r_as (b := 2) (by decide) ?_
  refine z_sld (i := 2) B hS (by decide) dL_law_549 ?_
  refine lv_aload_n X.1 X.2.1 dL_law_550 rfl (lv_at hl 1 rfl) ?_
  refine kZW (As := [_, _, _, _]) B hD hM hO hS hl.1 (w_L_setUses hlt (by have := B.2.2.2.2.2.2.1; omega)) rfl kl_L_105 mc_L_setUses ⟨Nat.le_of_ble_eq_true rfl, Nat.le_of_ble_eq_true rfl⟩ ⟨Nat.le_of_ble_eq_true rfl, Nat.le_of_ble_eq_true rfl⟩ rfl (Nat.le_of_ble_eq_true rfl) dL_law_551 (fun r f H locs er hv hM hO hS => ?_)
  subst er
  refine lv_istore X.1 X.2.1 dL_law_554 hl (by decide) rfl (fun ls hl => ?_)
  replace hl : lv_has ls 9 [(5, _), (4, _), (3, _), (2, _), (1, _), (0, _)] := hl
  refine lv_aload_n X.1 X.2.1 dL_law_556 rfl (lv_at hl 3 rfl) ?_
  refine lv_aload_n X.1 X.2.1 dL_law_557 rfl (lv_at hl 5 rfl) ?_
  refine lv_iload X.1 X.2.1 dL_law_558 (lv_at hl 1 rfl) ?_
  refine lv_iconst (v := 1) X.1 X.2.1 dL_law_560 (by decide) ?_
  refine lv_iadd X.1 X.2.1 dL_law_561 ?_
  refine r_as (b := 1) (by decide) ?_
  refine z_sld (i := 1) B hS (by decide) dL_law_562 ?_
  refine lv_aload_n X.1 X.2.1 dL_law_563 rfl (lv_at hl 5 rfl) ?_
  refine lv_iload X.1 X.2.1 dL_law_564 (lv_at hl 1 rfl) ?_
  refine lv_iconst (v := 2) X.1 X.2.1 dL_law_566 (by decide) ?_
  refine lv_iadd X.1 X.2.1 dL_law_567 ?_
  refine r_as (b := 2) (by decide) ?_
  refine z_sld (i := 2) B hS (by decide) dL_law_568 ?_
  refine kZM (As := [_, _]) B hM hO hS hl.1 c_X6_setUses rfl kl_L_107 mf_X6_setUses ⟨Nat.le_of_ble_eq_true rfl, Nat.le_of_ble_eq_true rfl⟩ ⟨Nat.le_of_ble_eq_true rfl, Nat.le_of_ble_eq_true rfl⟩ rfl (Nat.le_of_ble_eq_true rfl) dL_law_569 (fun r2 o H locs hp hM hO hS => ?_)
  refine lv_istore X.1 X.2.1 dL_law_572 hl (by decide) rfl (fun ls hl => ?_)
  replace hl : lv_has ls 9 [(6, _), (5, _), (4, _), (3, _), (2, _), (1, _), (0, _)] := hl
  refine lv_aload_n X.1 X.2.1 dL_law_574 rfl (lv_at hl 4 rfl) ?_
  refine kZM (As := []) B hM hO hS hl.1 c_X6_thrown rfl kl_L_84 mf_X6_thrown ⟨Nat.le_of_ble_eq_true rfl, Nat.le_of_ble_eq_true rfl⟩ ⟨Nat.le_of_ble_eq_true rfl, Nat.le_of_ble_eq_true rfl⟩ rfl (Nat.le_of_ble_eq_true rfl) dL_law_575 (fun r3 o3 H locs hp3 hM hO hS => ?_)
  obtain ⟨e3, -⟩ := hp3
  rw [hp.1] at e3
  subst e3
  refine lv_iload X.1 X.2.1 dL_law_578 (lv_at hl 1 rfl) ?_
  refine lv_icmp_eq (tgt := 585) X.1 X.2.1 dL_law_580 (by decide) (fun h580 => ?_) (fun h580 => absurd (by decide) h580)
  refine lv_iload X.1 X.2.1 dL_law_585 (lv_at hl 1 rfl) ?_
  refine lv_if_ne (tgt := 602) X.1 X.2.1 dL_law_587 (by decide) (fun h587 => ?_) (fun h587 => absurd h587 (by decide))
  refine lv_goto (tgt := 1432) X.1 X.2.1 dL_law_602 (by decide) ?_
  refine W.widen (k := 300) (n := 5000) (Nat.le_of_ble_eq_true rfl) (Nat.le_of_ble_eq_true rfl) ?_
  exact hF ls H locs hS (lv_sub hl [2, 6] rfl)

set_option maxHeartbeats 4000000 in
set_option maxRecDepth 100000 in
theorem t_7 {p : Program} {l : Launch} (hlt : l.stackTraces = false) {e : Env} {s : State} {m : MethodId} {args : Array Value} {below : List Frame} {meth : Method} {c : Code} {H : Heap} {locs : List Loc} {Q : State → Prop} {ls : Array Slot} {G : dG} {J : mG} {cL : ClassId} {a b : Nat} {f : Nat → Int64} {xs : Nat → Int32} (B : lB p s m args c G J cL a b xs) (hD : dM G nu0 H) (hM : mM J (oF 0) H) (hO : oM G cL a f H) (hS : pS G s.heap H locs) (hl : lv_has ls 9 [(4, .int 0), (3, .ref a), (2, .ref (ja J 0)), (1, .ref (ra G 0)), (0, .ref b)])
  (hF : ∀ (ls : Array Slot) (H : Heap) (locs : List Loc), pS G s.heap H locs → lv_has ls 9 [(4, .int 0), (0, .ref b)] → W p l e room_1 s m args below meth c H locs 300 5000 Q (F0 m 1432 ls [])) : W p l e room_1 s m args below meth c H locs 200 2000 Q (F0 m 605 ls []) := by
  have X := B.1
  refine lv_aload_n X.1 X.2.1 dL_law_605 rfl (lv_at hl 3 rfl) ?_
  refine lv_aload_n X.1 X.2.1 dL_law_606 rfl (lv_at hl 4 rfl) ?_
  refine lv_iload X.1 X.2.1 dL_law_607 (lv_at hl 0 rfl) ?_
  refine lv_iconst (v := 1) X.1 X.2.1 dL_law_609 (by decide) ?_
  refine lv_iadd X.1 X.2.1 dL_law_610 ?_
  refine r_as (b := 1) (by decide) ?_
  refine z_sld (i := 1) B hS (by decide) dL_law_611 ?_
  refine lv_aload_n X.1 X.2.1 dL_law_612 rfl (lv_at hl 1 rfl) ?_
  refine kZW (As := [_, _, _]) B hD hM hO hS hl.1 (w_L_matching hlt (by have := B.2.2.2.2.2.2.1; omega)) rfl kl_L_108 mc_L_matching ⟨Nat.le_of_ble_eq_true rfl, Nat.le_of_ble_eq_true rfl⟩ ⟨Nat.le_of_ble_eq_true rfl, Nat.le_of_ble_eq_true rfl⟩ rfl (Nat.le_of_ble_eq_true rfl) dL_law_613 (fun r f H locs er hv hM hO hS => ?_)
  subst er
  refine lv_istore X.1 X.2.1 dL_law_616 hl (by decide) rfl (fun ls hl => ?_)
  replace hl : lv_has ls 9 [(5, _), (4, _), (3, _), (2, _), (1, _), (0, _)] := hl
  refine lv_aload_n X.1 X.2.1 dL_law_618 rfl (lv_at hl 3 rfl) ?_
  refine lv_aload_n X.1 X.2.1 dL_law_619 rfl (lv_at hl 5 rfl) ?_
  refine lv_iload X.1 X.2.1 dL_law_620 (lv_at hl 1 rfl) ?_
  refine lv_iconst (v := 1) X.1 X.2.1 dL_law_622 (by decide) ?_
  refine lv_iadd X.1 X.2.1 dL_law_623 ?_
  refine r_as (b := 1) (by decide) ?_
  refine z_sld (i := 1) B hS (by decide) dL_law_624 ?_
  refine kZM (As := [_]) B hM hO hS hl.1 c_X6_matching rfl kl_L_111 mf_X6_matching ⟨Nat.le_of_ble_eq_true rfl, Nat.le_of_ble_eq_true rfl⟩ ⟨Nat.le_of_ble_eq_true rfl, Nat.le_of_ble_eq_true rfl⟩ rfl (Nat.le_of_ble_eq_true rfl) dL_law_625 (fun r2 o H locs hp hM hO hS => ?_)
  refine lv_istore X.1 X.2.1 dL_law_628 hl (by decide) rfl (fun ls hl => ?_)
  replace hl : lv_has ls 9 [(6, _), (5, _), (4, _), (3, _), (2, _), (1, _), (0, _)] := hl
  refine lv_aload_n X.1 X.2.1 dL_law_630 rfl (lv_at hl 4 rfl) ?_
  refine kZM (As := []) B hM hO hS hl.1 c_X6_thrown rfl kl_L_84 mf_X6_thrown ⟨Nat.le_of_ble_eq_true rfl, Nat.le_of_ble_eq_true rfl⟩ ⟨Nat.le_of_ble_eq_true rfl, Nat.le_of_ble_eq_true rfl⟩ rfl (Nat.le_of_ble_eq_true rfl) dL_law_631 (fun r3 o3 H locs hp3 hM hO hS => ?_)
  obtain ⟨e3, -⟩ := hp3
  rw [hp.1] at e3
  subst e3
  refine lv_iload X.1 X.2.1 dL_law_634 (lv_at hl 1 rfl) ?_
  refine lv_icmp_eq (tgt := 641) X.1 X.2.1 dL_law_636 (by decide) (fun h636 => ?_) (fun h636 => absurd (by decide) h636)
  refine lv_iload X.1 X.2.1 dL_law_641 (lv_at hl 1 rfl) ?_
  refine lv_if_ne (tgt := 658) X.1 X.2.1 dL_law_643 (by decide) (fun h643 => ?_) (fun h643 => absurd h643 (by decide))
  refine lv_goto (tgt := 1432) X.1 X.2.1 dL_law_658 (by decide) ?_
  refine W.widen (k := 300) (n := 5000) (Nat.le_of_ble_eq_true rfl) (Nat.le_of_ble_eq_true rfl) ?_
  exact hF ls H locs hS (lv_sub hl [2, 6] rfl)

set_option maxHeartbeats 4000000 in
set_option maxRecDepth 100000 in
theorem t_8 {p : Program} {l : Launch} (hlt : l.stackTraces = false) {e : Env} {s : State} {m : MethodId} {args : Array Value} {below : List Frame} {meth : Method} {c : Code} {H : Heap} {locs : List Loc} {Q : State → Prop} {ls : Array Slot} {G : dG} {J : mG} {cL : ClassId} {a b : Nat} {f : Nat → Int64} {xs : Nat → Int32} (B : lB p s m args c G J cL a b xs) (hD : dM G nu0 H) (hM : mM J (oF 0) H) (hO : oM G cL a f H) (hS : pS G s.heap H locs) (hl : lv_has ls 9 [(4, .int 0), (3, .ref a), (2, .ref (ja J 0)), (1, .ref (ra G 0)), (0, .ref b)])
  (hF : ∀ (ls : Array Slot) (H : Heap) (locs : List Loc), pS G s.heap H locs → lv_has ls 9 [(4, .int 0), (0, .ref b)] → W p l e room_1 s m args below meth c H locs 300 5000 Q (F0 m 1432 ls [])) : W p l e room_1 s m args below meth c H locs 200 2000 Q (F0 m 661 ls []) := by
  have X := B.1
  refine lv_aload_n X.1 X.2.1 dL_law_661 rfl (lv_at hl 3 rfl) ?_
  refine lv_aload_n X.1 X.2.1 dL_law_662 rfl (lv_at hl 4 rfl) ?_
  refine lv_iload X.1 X.2.1 dL_law_663 (lv_at hl 0 rfl) ?_
  refine lv_iconst (v := 1) X.1 X.2.1 dL_law_665 (by decide) ?_
  refine lv_iadd X.1 X.2.1 dL_law_666 ?_
  refine r_as (b := 1) (by decide) ?_
  refine z_sld (i := 1) B hS (by decide) dL_law_667 ?_
  refine lv_aload_n X.1 X.2.1 dL_law_668 rfl (lv_at hl 1 rfl) ?_
  refine kZW (As := [_, _, _]) B hD hM hO hS hl.1 (w_L_fits hlt (by have := B.2.2.2.2.2.2.1; omega)) rfl kl_L_112 mc_L_fits ⟨Nat.le_of_ble_eq_true rfl, Nat.le_of_ble_eq_true rfl⟩ ⟨Nat.le_of_ble_eq_true rfl, Nat.le_of_ble_eq_true rfl⟩ rfl (Nat.le_of_ble_eq_true rfl) dL_law_669 (fun r f H locs er hv hM hO hS => ?_)
  subst er
  refine lv_istore X.1 X.2.1 dL_law_672 hl (by decide) rfl (fun ls hl => ?_)
  replace hl : lv_has ls 9 [(5, _), (4, _), (3, _), (2, _), (1, _), (0, _)] := hl
  refine lv_aload_n X.1 X.2.1 dL_law_674 rfl (lv_at hl 3 rfl) ?_
  refine lv_aload_n X.1 X.2.1 dL_law_675 rfl (lv_at hl 5 rfl) ?_
  refine lv_iload X.1 X.2.1 dL_law_676 (lv_at hl 1 rfl) ?_
  refine lv_iconst (v := 1) X.1 X.2.1 dL_law_678 (by decide) ?_
  refine lv_iadd X.1 X.2.1 dL_law_679 ?_
  refine r_as (b := 1) (by decide) ?_
  refine z_sld (i := 1) B hS (by decide) dL_law_680 ?_
  refine kZM (As := [_]) B hM hO hS hl.1 c_X6_fits rfl kl_L_114 mf_X6_fits ⟨Nat.le_of_ble_eq_true rfl, Nat.le_of_ble_eq_true rfl⟩ ⟨Nat.le_of_ble_eq_true rfl, Nat.le_of_ble_eq_true rfl⟩ rfl (Nat.le_of_ble_eq_true rfl) dL_law_681 (fun r2 o H locs hp hM hO hS => ?_)
  refine lv_istore X.1 X.2.1 dL_law_684 hl (by decide) rfl (fun ls hl => ?_)
  replace hl : lv_has ls 9 [(6, _), (5, _), (4, _), (3, _), (2, _), (1, _), (0, _)] := hl
  refine lv_aload_n X.1 X.2.1 dL_law_686 rfl (lv_at hl 4 rfl) ?_
  refine kZM (As := []) B hM hO hS hl.1 c_X6_thrown rfl kl_L_84 mf_X6_thrown ⟨Nat.le_of_ble_eq_true rfl, Nat.le_of_ble_eq_true rfl⟩ ⟨Nat.le_of_ble_eq_true rfl, Nat.le_of_ble_eq_true rfl⟩ rfl (Nat.le_of_ble_eq_true rfl) dL_law_687 (fun r3 o3 H locs hp3 hM hO hS => ?_)
  obtain ⟨e3, -⟩ := hp3
  rw [hp.1] at e3
  subst e3
  refine lv_iload X.1 X.2.1 dL_law_690 (lv_at hl 1 rfl) ?_
  refine lv_icmp_eq (tgt := 697) X.1 X.2.1 dL_law_692 (by decide) (fun h692 => ?_) (fun h692 => absurd (by decide) h692)
  refine lv_iload X.1 X.2.1 dL_law_697 (lv_at hl 1 rfl) ?_
  refine lv_if_ne (tgt := 721) X.1 X.2.1 dL_law_699 (by decide) (fun h699 => ?_) (fun h699 => absurd h699 (by decide))
  refine lv_goto (tgt := 1432) X.1 X.2.1 dL_law_721 (by decide) ?_
  refine W.widen (k := 300) (n := 5000) (Nat.le_of_ble_eq_true rfl) (Nat.le_of_ble_eq_true rfl) ?_
  exact hF ls H locs hS (lv_sub hl [2, 6] rfl)

set_option maxHeartbeats 4000000 in
set_option maxRecDepth 100000 in
theorem t_9 {p : Program} {l : Launch} (hlt : l.stackTraces = false) {e : Env} {s : State} {m : MethodId} {args : Array Value} {below : List Frame} {meth : Method} {c : Code} {H : Heap} {locs : List Loc} {Q : State → Prop} {ls : Array Slot} {G : dG} {J : mG} {cL : ClassId} {a b : Nat} {f : Nat → Int64} {xs : Nat → Int32} (B : lB p s m args c G J cL a b xs) (hD : dM G nu0 H) (hM : mM J (oF 0) H) (hO : oM G cL a f H) (hS : pS G s.heap H locs) (hl : lv_has ls 9 [(4, .int 0), (3, .ref a), (2, .ref (ja J 0)), (1, .ref (ra G 0)), (0, .ref b)])
  (hF : ∀ (ls : Array Slot) (H : Heap) (locs : List Loc), pS G s.heap H locs → lv_has ls 9 [(4, .int 0), (0, .ref b)] → W p l e room_1 s m args below meth c H locs 300 5000 Q (F0 m 1432 ls [])) : W p l e room_1 s m args below meth c H locs 200 2000 Q (F0 m 724 ls []) := by
  have X := B.1
  refine lv_aload_n X.1 X.2.1 dL_law_724 rfl (lv_at hl 3 rfl) ?_
  refine lv_aload_n X.1 X.2.1 dL_law_725 rfl (lv_at hl 4 rfl) ?_
  refine lv_iload X.1 X.2.1 dL_law_726 (lv_at hl 0 rfl) ?_
  refine lv_iconst (v := 1) X.1 X.2.1 dL_law_728 (by decide) ?_
  refine lv_iadd X.1 X.2.1 dL_law_729 ?_
  refine r_as (b := 1) (by decide) ?_
  refine z_sld (i := 1) B hS (by decide) dL_law_730 ?_
  refine lv_aload_n X.1 X.2.1 dL_law_731 rfl (lv_at hl 1 rfl) ?_
  refine kZW (As := [_, _, _]) B hD hM hO hS hl.1 (w_L_missing hlt (by have := B.2.2.2.2.2.2.1; omega)) rfl kl_L_115 mc_L_missing ⟨Nat.le_of_ble_eq_true rfl, Nat.le_of_ble_eq_true rfl⟩ ⟨Nat.le_of_ble_eq_true rfl, Nat.le_of_ble_eq_true rfl⟩ rfl (Nat.le_of_ble_eq_true rfl) dL_law_732 (fun r f H locs er hv hM hO hS => ?_)
  subst er
  refine lv_istore X.1 X.2.1 dL_law_735 hl (by decide) rfl (fun ls hl => ?_)
  replace hl : lv_has ls 9 [(5, _), (4, _), (3, _), (2, _), (1, _), (0, _)] := hl
  refine lv_aload_n X.1 X.2.1 dL_law_737 rfl (lv_at hl 3 rfl) ?_
  refine lv_aload_n X.1 X.2.1 dL_law_738 rfl (lv_at hl 5 rfl) ?_
  refine lv_iload X.1 X.2.1 dL_law_739 (lv_at hl 1 rfl) ?_
  refine lv_iconst (v := 1) X.1 X.2.1 dL_law_741 (by decide) ?_
  refine lv_iadd X.1 X.2.1 dL_law_742 ?_
  refine r_as (b := 1) (by decide) ?_
  refine z_sld (i := 1) B hS (by decide) dL_law_743 ?_
  refine kZM (As := [_]) B hM hO hS hl.1 c_X6_missing rfl kl_L_117 mf_X6_missing ⟨Nat.le_of_ble_eq_true rfl, Nat.le_of_ble_eq_true rfl⟩ ⟨Nat.le_of_ble_eq_true rfl, Nat.le_of_ble_eq_true rfl⟩ rfl (Nat.le_of_ble_eq_true rfl) dL_law_744 (fun r2 o H locs hp hM hO hS => ?_)
  refine lv_istore X.1 X.2.1 dL_law_747 hl (by decide) rfl (fun ls hl => ?_)
  replace hl : lv_has ls 9 [(6, _), (5, _), (4, _), (3, _), (2, _), (1, _), (0, _)] := hl
  refine lv_aload_n X.1 X.2.1 dL_law_749 rfl (lv_at hl 4 rfl) ?_
  refine kZM (As := []) B hM hO hS hl.1 c_X6_thrown rfl kl_L_84 mf_X6_thrown ⟨Nat.le_of_ble_eq_true rfl, Nat.le_of_ble_eq_true rfl⟩ ⟨Nat.le_of_ble_eq_true rfl, Nat.le_of_ble_eq_true rfl⟩ rfl (Nat.le_of_ble_eq_true rfl) dL_law_750 (fun r3 o3 H locs hp3 hM hO hS => ?_)
  obtain ⟨e3, -⟩ := hp3
  rw [hp.1] at e3
  subst e3
  refine lv_iload X.1 X.2.1 dL_law_753 (lv_at hl 1 rfl) ?_
  refine lv_icmp_eq (tgt := 760) X.1 X.2.1 dL_law_755 (by decide) (fun h755 => ?_) (fun h755 => absurd (by decide) h755)
  refine lv_iload X.1 X.2.1 dL_law_760 (lv_at hl 1 rfl) ?_
  refine lv_if_ne (tgt := 777) X.1 X.2.1 dL_law_762 (by decide) (fun h762 => ?_) (fun h762 => absurd h762 (by decide))
  refine lv_goto (tgt := 1432) X.1 X.2.1 dL_law_777 (by decide) ?_
  refine W.widen (k := 300) (n := 5000) (Nat.le_of_ble_eq_true rfl) (Nat.le_of_ble_eq_true rfl) ?_
  exact hF ls H locs hS (lv_sub hl [2, 6] rfl)

set_option maxHeartbeats 4000000 in
set_option maxRecDepth 100000 in
theorem t_10 {p : Program} {l : Launch} (hlt : l.stackTraces = false) {e : Env} {s : State} {m : MethodId} {args : Array Value} {below : List Frame} {meth : Method} {c : Code} {H : Heap} {locs : List Loc} {Q : State → Prop} {ls : Array Slot} {G : dG} {J : mG} {cL : ClassId} {a b : Nat} {f : Nat → Int64} {xs : Nat → Int32} (B : lB p s m args c G J cL a b xs) (hD : dM G nu0 H) (hM : mM J (oF 0) H) (hO : oM G cL a f H) (hS : pS G s.heap H locs) (hl : lv_has ls 9 [(4, .int 0), (3, .ref a), (2, .ref (ja J 0)), (1, .ref (ra G 0)), (0, .ref b)])
  (hF : ∀ (ls : Array Slot) (H : Heap) (locs : List Loc), pS G s.heap H locs → lv_has ls 9 [(4, .int 0), (0, .ref b)] → W p l e room_1 s m args below meth c H locs 300 5000 Q (F0 m 1432 ls [])) : W p l e room_1 s m args below meth c H locs 200 2000 Q (F0 m 780 ls []) := by
  have X := B.1
  refine lv_aload_n X.1 X.2.1 dL_law_780 rfl (lv_at hl 3 rfl) ?_
  refine lv_aload_n X.1 X.2.1 dL_law_781 rfl (lv_at hl 4 rfl) ?_
  refine lv_iload X.1 X.2.1 dL_law_782 (lv_at hl 0 rfl) ?_
  refine lv_iconst (v := 1) X.1 X.2.1 dL_law_784 (by decide) ?_
  refine lv_iadd X.1 X.2.1 dL_law_785 ?_
  refine r_as (b := 1) (by decide) ?_
  refine z_sld (i := 1) B hS (by decide) dL_law_786 ?_
  refine lv_aload_n X.1 X.2.1 dL_law_787 rfl (lv_at hl 1 rfl) ?_
  refine kZW (As := [_, _, _]) B hD hM hO hS hl.1 (w_L_isAllowed hlt (by have := B.2.2.2.2.2.2.1; omega)) rfl kl_L_118 mc_L_isAllowed ⟨Nat.le_of_ble_eq_true rfl, Nat.le_of_ble_eq_true rfl⟩ ⟨Nat.le_of_ble_eq_true rfl, Nat.le_of_ble_eq_true rfl⟩ rfl (Nat.le_of_ble_eq_true rfl) dL_law_788 (fun r f H locs er hv hM hO hS => ?_)
  refine lv_istore X.1 X.2.1 dL_law_791 hl (by decide) rfl (fun ls hl => ?_)
  replace hl : lv_has ls 9 [(5, _), (4, _), (3, _), (2, _), (1, _), (0, _)] := hl
  refine lv_aload_n X.1 X.2.1 dL_law_793 rfl (lv_at hl 3 rfl) ?_
  refine lv_aload_n X.1 X.2.1 dL_law_794 rfl (lv_at hl 5 rfl) ?_
  refine lv_iload X.1 X.2.1 dL_law_795 (lv_at hl 1 rfl) ?_
  refine lv_iconst (v := 1) X.1 X.2.1 dL_law_797 (by decide) ?_
  refine lv_iadd X.1 X.2.1 dL_law_798 ?_
  refine r_as (b := 1) (by decide) ?_
  refine z_sld (i := 1) B hS (by decide) dL_law_799 ?_
  refine kZM (As := [_]) B hM hO hS hl.1 c_X6_isAllowed rfl kl_L_120 mf_X6_isAllowed ⟨Nat.le_of_ble_eq_true rfl, Nat.le_of_ble_eq_true rfl⟩ ⟨Nat.le_of_ble_eq_true rfl, Nat.le_of_ble_eq_true rfl⟩ rfl (Nat.le_of_ble_eq_true rfl) dL_law_800 (fun r2 o H locs hp hM hO hS => ?_)
  refine lv_istore X.1 X.2.1 dL_law_803 hl (by decide) rfl (fun ls hl => ?_)
  replace hl : lv_has ls 9 [(6, _), (5, _), (4, _), (3, _), (2, _), (1, _), (0, _)] := hl
  refine lv_aload_n X.1 X.2.1 dL_law_805 rfl (lv_at hl 4 rfl) ?_
  refine kZM (As := []) B hM hO hS hl.1 c_X6_thrown rfl kl_L_84 mf_X6_thrown ⟨Nat.le_of_ble_eq_true rfl, Nat.le_of_ble_eq_true rfl⟩ ⟨Nat.le_of_ble_eq_true rfl, Nat.le_of_ble_eq_true rfl⟩ rfl (Nat.le_of_ble_eq_true rfl) dL_law_806 (fun r3 o3 H locs hp3 hM hO hS => ?_)
  obtain ⟨e3, -⟩ := hp3
  rw [hp.1] at e3
  refine lv_iload X.1 X.2.1 dL_law_809 (lv_at hl 1 rfl) ?_
  refine lv_icmp_eq (tgt := 816) X.1 X.2.1 dL_law_811 (by decide) (fun _ => ?_) (fun h => absurd (e3.trans er.symm) h)
  refine lv_iload X.1 X.2.1 dL_law_816 (lv_at hl 1 rfl) ?_
  refine lv_if_ne (tgt := 840) X.1 X.2.1 dL_law_818 (by decide) (fun h0 => ?_) (fun h0 => ?_)
  · refine lv_goto (tgt := 1432) X.1 X.2.1 dL_law_840 (by decide) ?_
    refine W.widen (k := 300) (n := 5000) (Nat.le_of_ble_eq_true rfl) (Nat.le_of_ble_eq_true rfl) ?_
    exact hF ls H locs hS (lv_sub hl [2, 6] rfl)
  · have k0 := er.symm.trans h0
    have hv := hv k0
    have e2 := hp.2 k0
    clear hp
    subst e2
    refine lv_aload_n X.1 X.2.1 dL_law_821 rfl (lv_at hl 3 rfl) ?_
    refine lv_iconst (v := 0) X.1 X.2.1 dL_law_822 (by decide) ?_
    refine z_lald B hO hv dL_law_823 ?_
    refine lv_iload X.1 X.2.1 dL_law_824 (lv_at hl 0 rfl) ?_
    refine lv_if_eq (tgt := 833) X.1 X.2.1 dL_law_826 (by decide) (fun h826 => absurd h826 (by decide)) (fun h826 => ?_)
    refine lv_lconst (v := 1) X.1 X.2.1 dL_law_829 (by decide) ?_
    refine lv_goto (tgt := 834) X.1 X.2.1 dL_law_830 (by decide) ?_
    refine z_cmp B (by decide) dL_law_834 ?_
    refine lv_if_eq (tgt := 840) X.1 X.2.1 dL_law_835 (by decide) (fun h835 => ?_) (fun h835 => absurd (by decide) h835)
    refine lv_goto (tgt := 1432) X.1 X.2.1 dL_law_840 (by decide) ?_
    refine W.widen (k := 300) (n := 5000) (Nat.le_of_ble_eq_true rfl) (Nat.le_of_ble_eq_true rfl) ?_
    exact hF ls H locs hS (lv_sub hl [2, 6] rfl)

set_option maxHeartbeats 4000000 in
set_option maxRecDepth 100000 in
theorem t_11 {p : Program} {l : Launch} (hlt : l.stackTraces = false) {e : Env} {s : State} {m : MethodId} {args : Array Value} {below : List Frame} {meth : Method} {c : Code} {H : Heap} {locs : List Loc} {Q : State → Prop} {ls : Array Slot} {G : dG} {J : mG} {cL : ClassId} {a b : Nat} {f : Nat → Int64} {xs : Nat → Int32} (B : lB p s m args c G J cL a b xs) (hD : dM G nu0 H) (hM : mM J (oF 0) H) (hO : oM G cL a f H) (hS : pS G s.heap H locs) (hl : lv_has ls 9 [(4, .int 0), (3, .ref a), (2, .ref (ja J 0)), (1, .ref (ra G 0)), (0, .ref b)])
  (hF : ∀ (ls : Array Slot) (H : Heap) (locs : List Loc), pS G s.heap H locs → lv_has ls 9 [(4, .int 0), (0, .ref b)] → W p l e room_1 s m args below meth c H locs 300 5000 Q (F0 m 1432 ls [])) : W p l e room_1 s m args below meth c H locs 200 2000 Q (F0 m 843 ls []) := by
  have X := B.1
  refine lv_aload_n X.1 X.2.1 dL_law_843 rfl (lv_at hl 3 rfl) ?_
  refine lv_aload_n X.1 X.2.1 dL_law_844 rfl (lv_at hl 4 rfl) ?_
  refine lv_iload X.1 X.2.1 dL_law_845 (lv_at hl 0 rfl) ?_
  refine lv_iconst (v := 1) X.1 X.2.1 dL_law_847 (by decide) ?_
  refine lv_iadd X.1 X.2.1 dL_law_848 ?_
  refine r_as (b := 1) (by decide) ?_
  refine z_sld (i := 1) B hS (by decide) dL_law_849 ?_
  refine lv_aload_n X.1 X.2.1 dL_law_850 rfl (lv_at hl 1 rfl) ?_
  refine kZW (As := [_, _, _]) B hD hM hO hS hl.1 (w_L_goods hlt (by have := B.2.2.2.2.2.2.1; omega)) rfl kl_L_121 mc_L_goods ⟨Nat.le_of_ble_eq_true rfl, Nat.le_of_ble_eq_true rfl⟩ ⟨Nat.le_of_ble_eq_true rfl, Nat.le_of_ble_eq_true rfl⟩ rfl (Nat.le_of_ble_eq_true rfl) dL_law_851 (fun r f H locs er hv hM hO hS => ?_)
  refine lv_istore X.1 X.2.1 dL_law_854 hl (by decide) rfl (fun ls hl => ?_)
  replace hl : lv_has ls 9 [(5, _), (4, _), (3, _), (2, _), (1, _), (0, _)] := hl
  refine lv_aload_n X.1 X.2.1 dL_law_856 rfl (lv_at hl 3 rfl) ?_
  refine lv_aload_n X.1 X.2.1 dL_law_857 rfl (lv_at hl 5 rfl) ?_
  refine lv_iload X.1 X.2.1 dL_law_858 (lv_at hl 1 rfl) ?_
  refine lv_iconst (v := 1) X.1 X.2.1 dL_law_860 (by decide) ?_
  refine lv_iadd X.1 X.2.1 dL_law_861 ?_
  refine r_as (b := 1) (by decide) ?_
  refine z_sld (i := 1) B hS (by decide) dL_law_862 ?_
  refine kZM (As := [_]) B hM hO hS hl.1 c_X6_goods rfl kl_L_123 mf_X6_goods ⟨Nat.le_of_ble_eq_true rfl, Nat.le_of_ble_eq_true rfl⟩ ⟨Nat.le_of_ble_eq_true rfl, Nat.le_of_ble_eq_true rfl⟩ rfl (Nat.le_of_ble_eq_true rfl) dL_law_863 (fun r2 o H locs hp hM hO hS => ?_)
  refine lv_istore X.1 X.2.1 dL_law_866 hl (by decide) rfl (fun ls hl => ?_)
  replace hl : lv_has ls 9 [(6, _), (5, _), (4, _), (3, _), (2, _), (1, _), (0, _)] := hl
  refine lv_aload_n X.1 X.2.1 dL_law_868 rfl (lv_at hl 4 rfl) ?_
  refine kZM (As := []) B hM hO hS hl.1 c_X6_thrown rfl kl_L_84 mf_X6_thrown ⟨Nat.le_of_ble_eq_true rfl, Nat.le_of_ble_eq_true rfl⟩ ⟨Nat.le_of_ble_eq_true rfl, Nat.le_of_ble_eq_true rfl⟩ rfl (Nat.le_of_ble_eq_true rfl) dL_law_869 (fun r3 o3 H locs hp3 hM hO hS => ?_)
  obtain ⟨e3, -⟩ := hp3
  rw [hp.1] at e3
  refine lv_iload X.1 X.2.1 dL_law_872 (lv_at hl 1 rfl) ?_
  refine lv_icmp_eq (tgt := 879) X.1 X.2.1 dL_law_874 (by decide) (fun _ => ?_) (fun h => absurd (e3.trans er.symm) h)
  refine lv_iload X.1 X.2.1 dL_law_879 (lv_at hl 1 rfl) ?_
  refine lv_if_ne (tgt := 896) X.1 X.2.1 dL_law_881 (by decide) (fun h0 => ?_) (fun h0 => ?_)
  · refine lv_goto (tgt := 1432) X.1 X.2.1 dL_law_896 (by decide) ?_
    refine W.widen (k := 300) (n := 5000) (Nat.le_of_ble_eq_true rfl) (Nat.le_of_ble_eq_true rfl) ?_
    exact hF ls H locs hS (lv_sub hl [2, 6] rfl)
  · have k0 := er.symm.trans h0
    have hv := hv k0
    have e2 := hp.2 k0
    clear hp
    subst e2
    refine lv_aload_n X.1 X.2.1 dL_law_884 rfl (lv_at hl 3 rfl) ?_
    refine lv_iconst (v := 0) X.1 X.2.1 dL_law_885 (by decide) ?_
    refine z_lald B hO hv dL_law_886 ?_
    refine lv_iload X.1 X.2.1 dL_law_887 (lv_at hl 0 rfl) ?_
    refine lv_i2l X.1 X.2.1 dL_law_889 rfl ?_
    refine z_cmp B (by decide) dL_law_890 ?_
    refine lv_if_eq (tgt := 896) X.1 X.2.1 dL_law_891 (by decide) (fun h891 => ?_) (fun h891 => absurd (by decide) h891)
    refine lv_goto (tgt := 1432) X.1 X.2.1 dL_law_896 (by decide) ?_
    refine W.widen (k := 300) (n := 5000) (Nat.le_of_ble_eq_true rfl) (Nat.le_of_ble_eq_true rfl) ?_
    exact hF ls H locs hS (lv_sub hl [2, 6] rfl)

set_option maxHeartbeats 4000000 in
set_option maxRecDepth 100000 in
theorem t_12 {p : Program} {l : Launch} (hlt : l.stackTraces = false) {e : Env} {s : State} {m : MethodId} {args : Array Value} {below : List Frame} {meth : Method} {c : Code} {H : Heap} {locs : List Loc} {Q : State → Prop} {ls : Array Slot} {G : dG} {J : mG} {cL : ClassId} {a b : Nat} {f : Nat → Int64} {xs : Nat → Int32} (B : lB p s m args c G J cL a b xs) (hD : dM G nu0 H) (hM : mM J (oF 0) H) (hO : oM G cL a f H) (hS : pS G s.heap H locs) (hl : lv_has ls 9 [(4, .int 0), (3, .ref a), (2, .ref (ja J 0)), (1, .ref (ra G 0)), (0, .ref b)])
  (hF : ∀ (ls : Array Slot) (H : Heap) (locs : List Loc), pS G s.heap H locs → lv_has ls 9 [(4, .int 0), (0, .ref b)] → W p l e room_1 s m args below meth c H locs 300 5000 Q (F0 m 1432 ls [])) : W p l e room_1 s m args below meth c H locs 200 2000 Q (F0 m 899 ls []) := by
  have X := B.1
  refine lv_aload_n X.1 X.2.1 dL_law_899 rfl (lv_at hl 3 rfl) ?_
  refine lv_aload_n X.1 X.2.1 dL_law_900 rfl (lv_at hl 4 rfl) ?_
  refine lv_iload X.1 X.2.1 dL_law_901 (lv_at hl 0 rfl) ?_
  refine lv_iconst (v := 1) X.1 X.2.1 dL_law_903 (by decide) ?_
  refine lv_iadd X.1 X.2.1 dL_law_904 ?_
  refine r_as (b := 1) (by decide) ?_
  refine z_sld (i := 1) B hS (by decide) dL_law_905 ?_
  refine lv_aload_n X.1 X.2.1 dL_law_906 rfl (lv_at hl 1 rfl) ?_
  refine kZW (As := [_, _, _]) B hD hM hO hS hl.1 (w_L_total hlt (by have := B.2.2.2.2.2.2.1; omega)) rfl kl_L_124 mc_L_total ⟨Nat.le_of_ble_eq_true rfl, Nat.le_of_ble_eq_true rfl⟩ ⟨Nat.le_of_ble_eq_true rfl, Nat.le_of_ble_eq_true rfl⟩ rfl (Nat.le_of_ble_eq_true rfl) dL_law_907 (fun r f H locs er hv hM hO hS => ?_)
  refine lv_istore X.1 X.2.1 dL_law_910 hl (by decide) rfl (fun ls hl => ?_)
  replace hl : lv_has ls 9 [(5, _), (4, _), (3, _), (2, _), (1, _), (0, _)] := hl
  refine lv_aload_n X.1 X.2.1 dL_law_912 rfl (lv_at hl 3 rfl) ?_
  refine lv_aload_n X.1 X.2.1 dL_law_913 rfl (lv_at hl 5 rfl) ?_
  refine lv_iload X.1 X.2.1 dL_law_914 (lv_at hl 1 rfl) ?_
  refine lv_iconst (v := 1) X.1 X.2.1 dL_law_916 (by decide) ?_
  refine lv_iadd X.1 X.2.1 dL_law_917 ?_
  refine r_as (b := 1) (by decide) ?_
  refine z_sld (i := 1) B hS (by decide) dL_law_918 ?_
  refine kZM (As := [_]) B hM hO hS hl.1 c_X6_total rfl kl_L_126 mf_X6_total ⟨Nat.le_of_ble_eq_true rfl, Nat.le_of_ble_eq_true rfl⟩ ⟨Nat.le_of_ble_eq_true rfl, Nat.le_of_ble_eq_true rfl⟩ rfl (Nat.le_of_ble_eq_true rfl) dL_law_919 (fun r2 o H locs hp hM hO hS => ?_)
  refine lv_istore X.1 X.2.1 dL_law_922 hl (by decide) rfl (fun ls hl => ?_)
  replace hl : lv_has ls 9 [(6, _), (5, _), (4, _), (3, _), (2, _), (1, _), (0, _)] := hl
  refine lv_aload_n X.1 X.2.1 dL_law_924 rfl (lv_at hl 4 rfl) ?_
  refine kZM (As := []) B hM hO hS hl.1 c_X6_thrown rfl kl_L_84 mf_X6_thrown ⟨Nat.le_of_ble_eq_true rfl, Nat.le_of_ble_eq_true rfl⟩ ⟨Nat.le_of_ble_eq_true rfl, Nat.le_of_ble_eq_true rfl⟩ rfl (Nat.le_of_ble_eq_true rfl) dL_law_925 (fun r3 o3 H locs hp3 hM hO hS => ?_)
  obtain ⟨e3, -⟩ := hp3
  rw [hp.1] at e3
  refine lv_iload X.1 X.2.1 dL_law_928 (lv_at hl 1 rfl) ?_
  refine lv_icmp_eq (tgt := 935) X.1 X.2.1 dL_law_930 (by decide) (fun _ => ?_) (fun h => absurd (e3.trans er.symm) h)
  refine lv_iload X.1 X.2.1 dL_law_935 (lv_at hl 1 rfl) ?_
  refine lv_if_ne (tgt := 952) X.1 X.2.1 dL_law_937 (by decide) (fun h0 => ?_) (fun h0 => ?_)
  · refine lv_goto (tgt := 1432) X.1 X.2.1 dL_law_952 (by decide) ?_
    refine W.widen (k := 300) (n := 5000) (Nat.le_of_ble_eq_true rfl) (Nat.le_of_ble_eq_true rfl) ?_
    exact hF ls H locs hS (lv_sub hl [2, 6] rfl)
  · have k0 := er.symm.trans h0
    have hv := hv k0
    have e2 := hp.2 k0
    clear hp
    subst e2
    refine lv_aload_n X.1 X.2.1 dL_law_940 rfl (lv_at hl 3 rfl) ?_
    refine lv_iconst (v := 0) X.1 X.2.1 dL_law_941 (by decide) ?_
    refine z_lald B hO hv dL_law_942 ?_
    refine lv_iload X.1 X.2.1 dL_law_943 (lv_at hl 0 rfl) ?_
    refine lv_i2l X.1 X.2.1 dL_law_945 rfl ?_
    refine z_cmp B (by decide) dL_law_946 ?_
    refine lv_if_eq (tgt := 952) X.1 X.2.1 dL_law_947 (by decide) (fun h947 => ?_) (fun h947 => absurd (by decide) h947)
    refine lv_goto (tgt := 1432) X.1 X.2.1 dL_law_952 (by decide) ?_
    refine W.widen (k := 300) (n := 5000) (Nat.le_of_ble_eq_true rfl) (Nat.le_of_ble_eq_true rfl) ?_
    exact hF ls H locs hS (lv_sub hl [2, 6] rfl)

set_option maxHeartbeats 4000000 in
set_option maxRecDepth 100000 in
theorem t_13 {p : Program} {l : Launch} (hlt : l.stackTraces = false) {e : Env} {s : State} {m : MethodId} {args : Array Value} {below : List Frame} {meth : Method} {c : Code} {H : Heap} {locs : List Loc} {Q : State → Prop} {ls : Array Slot} {G : dG} {J : mG} {cL : ClassId} {a b : Nat} {f : Nat → Int64} {xs : Nat → Int32} (B : lB p s m args c G J cL a b xs) (hD : dM G nu0 H) (hM : mM J (oF 0) H) (hO : oM G cL a f H) (hS : pS G s.heap H locs) (hl : lv_has ls 9 [(4, .int 0), (3, .ref a), (2, .ref (ja J 0)), (1, .ref (ra G 0)), (0, .ref b)])
  (hF : ∀ (ls : Array Slot) (H : Heap) (locs : List Loc), pS G s.heap H locs → lv_has ls 9 [(4, .int 0), (0, .ref b)] → W p l e room_1 s m args below meth c H locs 300 5000 Q (F0 m 1432 ls [])) : W p l e room_1 s m args below meth c H locs 200 2000 Q (F0 m 955 ls []) := by
  have X := B.1
  refine lv_aload_n X.1 X.2.1 dL_law_955 rfl (lv_at hl 3 rfl) ?_
  refine lv_aload_n X.1 X.2.1 dL_law_956 rfl (lv_at hl 4 rfl) ?_
  refine lv_iload X.1 X.2.1 dL_law_957 (lv_at hl 0 rfl) ?_
  refine lv_iconst (v := 1) X.1 X.2.1 dL_law_959 (by decide) ?_
  refine lv_iadd X.1 X.2.1 dL_law_960 ?_
  refine r_as (b := 1) (by decide) ?_
  refine z_sld (i := 1) B hS (by decide) dL_law_961 ?_
  refine lv_aload_n X.1 X.2.1 dL_law_962 rfl (lv_at hl 4 rfl) ?_
  refine lv_iload X.1 X.2.1 dL_law_963 (lv_at hl 0 rfl) ?_
  refine lv_iconst (v := 2) X.1 X.2.1 dL_law_965 (by decide) ?_
  refine lv_iadd X.1 X.2.1 dL_law_966 ?_
  refine r_as (b := 2) (by decide) ?_
  refine z_sld (i := 2) B hS (by decide) dL_law_967 ?_
  refine lv_aload_n X.1 X.2.1 dL_law_968 rfl (lv_at hl 1 rfl) ?_
  refine kZW (As := [_, _, _, _]) B hD hM hO hS hl.1 (w_L_rest hlt (by have := B.2.2.2.2.2.2.1; omega)) rfl kl_L_127 mc_L_rest ⟨Nat.le_of_ble_eq_true rfl, Nat.le_of_ble_eq_true rfl⟩ ⟨Nat.le_of_ble_eq_true rfl, Nat.le_of_ble_eq_true rfl⟩ rfl (Nat.le_of_ble_eq_true rfl) dL_law_969 (fun r f H locs er hv hM hO hS => ?_)
  refine lv_istore X.1 X.2.1 dL_law_972 hl (by decide) rfl (fun ls hl => ?_)
  replace hl : lv_has ls 9 [(5, _), (4, _), (3, _), (2, _), (1, _), (0, _)] := hl
  refine lv_aload_n X.1 X.2.1 dL_law_974 rfl (lv_at hl 3 rfl) ?_
  refine lv_aload_n X.1 X.2.1 dL_law_975 rfl (lv_at hl 5 rfl) ?_
  refine lv_iload X.1 X.2.1 dL_law_976 (lv_at hl 1 rfl) ?_
  refine lv_iconst (v := 1) X.1 X.2.1 dL_law_978 (by decide) ?_
  refine lv_iadd X.1 X.2.1 dL_law_979 ?_
  refine r_as (b := 1) (by decide) ?_
  refine z_sld (i := 1) B hS (by decide) dL_law_980 ?_
  refine lv_aload_n X.1 X.2.1 dL_law_981 rfl (lv_at hl 5 rfl) ?_
  refine lv_iload X.1 X.2.1 dL_law_982 (lv_at hl 1 rfl) ?_
  refine lv_iconst (v := 2) X.1 X.2.1 dL_law_984 (by decide) ?_
  refine lv_iadd X.1 X.2.1 dL_law_985 ?_
  refine r_as (b := 2) (by decide) ?_
  refine z_sld (i := 2) B hS (by decide) dL_law_986 ?_
  refine kZM (As := [_, _]) B hM hO hS hl.1 c_X6_rest rfl kl_L_129 mf_X6_rest ⟨Nat.le_of_ble_eq_true rfl, Nat.le_of_ble_eq_true rfl⟩ ⟨Nat.le_of_ble_eq_true rfl, Nat.le_of_ble_eq_true rfl⟩ rfl (Nat.le_of_ble_eq_true rfl) dL_law_987 (fun r2 o H locs hp hM hO hS => ?_)
  refine lv_istore X.1 X.2.1 dL_law_990 hl (by decide) rfl (fun ls hl => ?_)
  replace hl : lv_has ls 9 [(6, _), (5, _), (4, _), (3, _), (2, _), (1, _), (0, _)] := hl
  refine lv_aload_n X.1 X.2.1 dL_law_992 rfl (lv_at hl 4 rfl) ?_
  refine kZM (As := []) B hM hO hS hl.1 c_X6_thrown rfl kl_L_84 mf_X6_thrown ⟨Nat.le_of_ble_eq_true rfl, Nat.le_of_ble_eq_true rfl⟩ ⟨Nat.le_of_ble_eq_true rfl, Nat.le_of_ble_eq_true rfl⟩ rfl (Nat.le_of_ble_eq_true rfl) dL_law_993 (fun r3 o3 H locs hp3 hM hO hS => ?_)
  obtain ⟨e3, -⟩ := hp3
  rw [hp.1] at e3
  refine lv_iload X.1 X.2.1 dL_law_996 (lv_at hl 1 rfl) ?_
  refine lv_icmp_eq (tgt := 1003) X.1 X.2.1 dL_law_998 (by decide) (fun _ => ?_) (fun h => absurd (e3.trans er.symm) h)
  refine lv_iload X.1 X.2.1 dL_law_1003 (lv_at hl 1 rfl) ?_
  refine lv_if_ne (tgt := 1020) X.1 X.2.1 dL_law_1005 (by decide) (fun h0 => ?_) (fun h0 => ?_)
  · refine lv_goto (tgt := 1432) X.1 X.2.1 dL_law_1020 (by decide) ?_
    refine W.widen (k := 300) (n := 5000) (Nat.le_of_ble_eq_true rfl) (Nat.le_of_ble_eq_true rfl) ?_
    exact hF ls H locs hS (lv_sub hl [2, 6] rfl)
  · have k0 := er.symm.trans h0
    have hv := hv k0
    have e2 := hp.2 k0
    clear hp
    subst e2
    refine lv_aload_n X.1 X.2.1 dL_law_1008 rfl (lv_at hl 3 rfl) ?_
    refine lv_iconst (v := 0) X.1 X.2.1 dL_law_1009 (by decide) ?_
    refine z_lald B hO hv dL_law_1010 ?_
    refine lv_iload X.1 X.2.1 dL_law_1011 (lv_at hl 0 rfl) ?_
    refine lv_i2l X.1 X.2.1 dL_law_1013 rfl ?_
    refine z_cmp B (by decide) dL_law_1014 ?_
    refine lv_if_eq (tgt := 1020) X.1 X.2.1 dL_law_1015 (by decide) (fun h1015 => ?_) (fun h1015 => absurd (by decide) h1015)
    refine lv_goto (tgt := 1432) X.1 X.2.1 dL_law_1020 (by decide) ?_
    refine W.widen (k := 300) (n := 5000) (Nat.le_of_ble_eq_true rfl) (Nat.le_of_ble_eq_true rfl) ?_
    exact hF ls H locs hS (lv_sub hl [2, 6] rfl)

set_option maxHeartbeats 4000000 in
set_option maxRecDepth 100000 in
theorem t_14 {p : Program} {l : Launch} (hlt : l.stackTraces = false) {e : Env} {s : State} {m : MethodId} {args : Array Value} {below : List Frame} {meth : Method} {c : Code} {H : Heap} {locs : List Loc} {Q : State → Prop} {ls : Array Slot} {G : dG} {J : mG} {cL : ClassId} {a b : Nat} {f : Nat → Int64} {xs : Nat → Int32} (B : lB p s m args c G J cL a b xs) (hD : dM G nu0 H) (hM : mM J (oF 0) H) (hO : oM G cL a f H) (hS : pS G s.heap H locs) (hl : lv_has ls 9 [(4, .int 0), (3, .ref a), (2, .ref (ja J 0)), (1, .ref (ra G 0)), (0, .ref b)])
  (hF : ∀ (ls : Array Slot) (H : Heap) (locs : List Loc), pS G s.heap H locs → lv_has ls 9 [(4, .int 0), (0, .ref b)] → W p l e room_1 s m args below meth c H locs 300 5000 Q (F0 m 1432 ls [])) : W p l e room_1 s m args below meth c H locs 200 2000 Q (F0 m 1023 ls []) := by
  have X := B.1
  refine lv_aload_n X.1 X.2.1 dL_law_1023 rfl (lv_at hl 3 rfl) ?_
  refine kZD (As := []) B hD hM hO hS hl.1 (c_X5_best nu0_WD) rfl kl_L_130 mf_X5_best ⟨Nat.le_of_ble_eq_true rfl, Nat.le_of_ble_eq_true rfl⟩ ⟨Nat.le_of_ble_eq_true rfl, Nat.le_of_ble_eq_true rfl⟩ rfl (Nat.le_of_ble_eq_true rfl) dL_law_1024 (fun r ν H locs hp hM hO hS => ?_)
  obtain ⟨rfl, -⟩ := hp
  refine r_as (b := 0) nu0_best ?_
  refine lv_aload_n X.1 X.2.1 dL_law_1027 rfl (lv_at hl 2 rfl) ?_
  refine kZM (As := []) B hM hO hS hl.1 c_X6_best rfl kl_L_133 mf_X6_best ⟨Nat.le_of_ble_eq_true rfl, Nat.le_of_ble_eq_true rfl⟩ ⟨Nat.le_of_ble_eq_true rfl, Nat.le_of_ble_eq_true rfl⟩ rfl (Nat.le_of_ble_eq_true rfl) dL_law_1028 (fun r2 o H locs hp hM hO hS => ?_)
  obtain rfl := hp.2 rfl
  refine lv_icmp_eq (tgt := 1432) X.1 X.2.1 dL_law_1031 (by decide) (fun h1031 => ?_) (fun h1031 => absurd (by decide) h1031)
  refine W.widen (k := 300) (n := 5000) (Nat.le_of_ble_eq_true rfl) (Nat.le_of_ble_eq_true rfl) ?_
  exact hF ls H locs hS (lv_sub hl [0, 4] rfl)

set_option maxHeartbeats 4000000 in
set_option maxRecDepth 100000 in
theorem t_15 {p : Program} {l : Launch} (hlt : l.stackTraces = false) {e : Env} {s : State} {m : MethodId} {args : Array Value} {below : List Frame} {meth : Method} {c : Code} {H : Heap} {locs : List Loc} {Q : State → Prop} {ls : Array Slot} {G : dG} {J : mG} {cL : ClassId} {a b : Nat} {f : Nat → Int64} {xs : Nat → Int32} (B : lB p s m args c G J cL a b xs) (hD : dM G nu0 H) (hM : mM J (oF 0) H) (hO : oM G cL a f H) (hS : pS G s.heap H locs) (hl : lv_has ls 9 [(4, .int 0), (3, .ref a), (2, .ref (ja J 0)), (1, .ref (ra G 0)), (0, .ref b)])
  (hF : ∀ (ls : Array Slot) (H : Heap) (locs : List Loc), pS G s.heap H locs → lv_has ls 9 [(4, .int 0), (0, .ref b)] → W p l e room_1 s m args below meth c H locs 300 5000 Q (F0 m 1432 ls [])) : W p l e room_1 s m args below meth c H locs 200 2000 Q (F0 m 1036 ls []) := by
  have X := B.1
  refine lv_aload_n X.1 X.2.1 dL_law_1036 rfl (lv_at hl 3 rfl) ?_
  refine lv_aload_n X.1 X.2.1 dL_law_1037 rfl (lv_at hl 4 rfl) ?_
  refine lv_iload X.1 X.2.1 dL_law_1038 (lv_at hl 0 rfl) ?_
  refine lv_iconst (v := 1) X.1 X.2.1 dL_law_1040 (by decide) ?_
  refine lv_iadd X.1 X.2.1 dL_law_1041 ?_
  refine r_as (b := 1) (by decide) ?_
  refine z_sld (i := 1) B hS (by decide) dL_law_1042 ?_
  refine lv_aload_n X.1 X.2.1 dL_law_1043 rfl (lv_at hl 1 rfl) ?_
  refine kZW (As := [_, _, _]) B hD hM hO hS hl.1 (w_L_worth hlt (by have := B.2.2.2.2.2.2.1; omega)) rfl kl_L_134 mc_L_worth ⟨Nat.le_of_ble_eq_true rfl, Nat.le_of_ble_eq_true rfl⟩ ⟨Nat.le_of_ble_eq_true rfl, Nat.le_of_ble_eq_true rfl⟩ rfl (Nat.le_of_ble_eq_true rfl) dL_law_1044 (fun r f H locs er hv hM hO hS => ?_)
  subst er
  refine lv_istore X.1 X.2.1 dL_law_1047 hl (by decide) rfl (fun ls hl => ?_)
  replace hl : lv_has ls 9 [(5, _), (4, _), (3, _), (2, _), (1, _), (0, _)] := hl
  refine lv_aload_n X.1 X.2.1 dL_law_1049 rfl (lv_at hl 3 rfl) ?_
  refine lv_aload_n X.1 X.2.1 dL_law_1050 rfl (lv_at hl 5 rfl) ?_
  refine lv_iload X.1 X.2.1 dL_law_1051 (lv_at hl 1 rfl) ?_
  refine lv_iconst (v := 1) X.1 X.2.1 dL_law_1053 (by decide) ?_
  refine lv_iadd X.1 X.2.1 dL_law_1054 ?_
  refine r_as (b := 1) (by decide) ?_
  refine z_sld (i := 1) B hS (by decide) dL_law_1055 ?_
  refine kZM (As := [_]) B hM hO hS hl.1 c_X6_worth rfl kl_L_136 mf_X6_worth ⟨Nat.le_of_ble_eq_true rfl, Nat.le_of_ble_eq_true rfl⟩ ⟨Nat.le_of_ble_eq_true rfl, Nat.le_of_ble_eq_true rfl⟩ rfl (Nat.le_of_ble_eq_true rfl) dL_law_1056 (fun r2 o H locs hp hM hO hS => ?_)
  refine lv_istore X.1 X.2.1 dL_law_1059 hl (by decide) rfl (fun ls hl => ?_)
  replace hl : lv_has ls 9 [(6, _), (5, _), (4, _), (3, _), (2, _), (1, _), (0, _)] := hl
  refine lv_aload_n X.1 X.2.1 dL_law_1061 rfl (lv_at hl 4 rfl) ?_
  refine kZM (As := []) B hM hO hS hl.1 c_X6_thrown rfl kl_L_84 mf_X6_thrown ⟨Nat.le_of_ble_eq_true rfl, Nat.le_of_ble_eq_true rfl⟩ ⟨Nat.le_of_ble_eq_true rfl, Nat.le_of_ble_eq_true rfl⟩ rfl (Nat.le_of_ble_eq_true rfl) dL_law_1062 (fun r3 o3 H locs hp3 hM hO hS => ?_)
  obtain ⟨e3, -⟩ := hp3
  rw [hp.1] at e3
  subst e3
  refine lv_iload X.1 X.2.1 dL_law_1065 (lv_at hl 1 rfl) ?_
  refine lv_icmp_eq (tgt := 1072) X.1 X.2.1 dL_law_1067 (by decide) (fun h1067 => ?_) (fun h1067 => absurd (by decide) h1067)
  refine lv_iload X.1 X.2.1 dL_law_1072 (lv_at hl 1 rfl) ?_
  refine lv_if_ne (tgt := 1089) X.1 X.2.1 dL_law_1074 (by decide) (fun h1074 => ?_) (fun h1074 => absurd h1074 (by decide))
  refine lv_goto (tgt := 1432) X.1 X.2.1 dL_law_1089 (by decide) ?_
  refine W.widen (k := 300) (n := 5000) (Nat.le_of_ble_eq_true rfl) (Nat.le_of_ble_eq_true rfl) ?_
  exact hF ls H locs hS (lv_sub hl [2, 6] rfl)

set_option maxHeartbeats 4000000 in
set_option maxRecDepth 100000 in
theorem t_16 {p : Program} {l : Launch} (hlt : l.stackTraces = false) {e : Env} {s : State} {m : MethodId} {args : Array Value} {below : List Frame} {meth : Method} {c : Code} {H : Heap} {locs : List Loc} {Q : State → Prop} {ls : Array Slot} {G : dG} {J : mG} {cL : ClassId} {a b : Nat} {f : Nat → Int64} {xs : Nat → Int32} (B : lB p s m args c G J cL a b xs) (hD : dM G nu0 H) (hM : mM J (oF 0) H) (hO : oM G cL a f H) (hS : pS G s.heap H locs) (hl : lv_has ls 9 [(4, .int 0), (3, .ref a), (2, .ref (ja J 0)), (1, .ref (ra G 0)), (0, .ref b)])
  (hF : ∀ (ls : Array Slot) (H : Heap) (locs : List Loc), pS G s.heap H locs → lv_has ls 9 [(4, .int 0), (0, .ref b)] → W p l e room_1 s m args below meth c H locs 300 5000 Q (F0 m 1432 ls [])) : W p l e room_1 s m args below meth c H locs 200 2000 Q (F0 m 1092 ls []) := by
  have X := B.1
  refine lv_aload_n X.1 X.2.1 dL_law_1092 rfl (lv_at hl 3 rfl) ?_
  refine lv_aload_n X.1 X.2.1 dL_law_1093 rfl (lv_at hl 4 rfl) ?_
  refine lv_iload X.1 X.2.1 dL_law_1094 (lv_at hl 0 rfl) ?_
  refine lv_iconst (v := 1) X.1 X.2.1 dL_law_1096 (by decide) ?_
  refine lv_iadd X.1 X.2.1 dL_law_1097 ?_
  refine r_as (b := 1) (by decide) ?_
  refine z_sld (i := 1) B hS (by decide) dL_law_1098 ?_
  refine lv_aload_n X.1 X.2.1 dL_law_1099 rfl (lv_at hl 1 rfl) ?_
  refine kZW (As := [_, _, _]) B hD hM hO hS hl.1 (w_L_buy hlt (by have := B.2.2.2.2.2.2.1; omega)) rfl kl_L_137 mc_L_buy ⟨Nat.le_of_ble_eq_true rfl, Nat.le_of_ble_eq_true rfl⟩ ⟨Nat.le_of_ble_eq_true rfl, Nat.le_of_ble_eq_true rfl⟩ rfl (Nat.le_of_ble_eq_true rfl) dL_law_1100 (fun r f H locs er hv hM hO hS => ?_)
  refine lv_istore X.1 X.2.1 dL_law_1103 hl (by decide) rfl (fun ls hl => ?_)
  replace hl : lv_has ls 9 [(5, _), (4, _), (3, _), (2, _), (1, _), (0, _)] := hl
  refine lv_aload_n X.1 X.2.1 dL_law_1105 rfl (lv_at hl 3 rfl) ?_
  refine lv_aload_n X.1 X.2.1 dL_law_1106 rfl (lv_at hl 5 rfl) ?_
  refine lv_iload X.1 X.2.1 dL_law_1107 (lv_at hl 1 rfl) ?_
  refine lv_iconst (v := 1) X.1 X.2.1 dL_law_1109 (by decide) ?_
  refine lv_iadd X.1 X.2.1 dL_law_1110 ?_
  refine r_as (b := 1) (by decide) ?_
  refine z_sld (i := 1) B hS (by decide) dL_law_1111 ?_
  refine kZM (As := [_]) B hM hO hS hl.1 c_X6_buy rfl kl_L_139 mf_X6_buy ⟨Nat.le_of_ble_eq_true rfl, Nat.le_of_ble_eq_true rfl⟩ ⟨Nat.le_of_ble_eq_true rfl, Nat.le_of_ble_eq_true rfl⟩ rfl (Nat.le_of_ble_eq_true rfl) dL_law_1112 (fun r2 o H locs hp hM hO hS => ?_)
  refine lv_istore X.1 X.2.1 dL_law_1115 hl (by decide) rfl (fun ls hl => ?_)
  replace hl : lv_has ls 9 [(6, _), (5, _), (4, _), (3, _), (2, _), (1, _), (0, _)] := hl
  refine lv_aload_n X.1 X.2.1 dL_law_1117 rfl (lv_at hl 4 rfl) ?_
  refine kZM (As := []) B hM hO hS hl.1 c_X6_thrown rfl kl_L_84 mf_X6_thrown ⟨Nat.le_of_ble_eq_true rfl, Nat.le_of_ble_eq_true rfl⟩ ⟨Nat.le_of_ble_eq_true rfl, Nat.le_of_ble_eq_true rfl⟩ rfl (Nat.le_of_ble_eq_true rfl) dL_law_1118 (fun r3 o3 H locs hp3 hM hO hS => ?_)
  obtain ⟨e3, -⟩ := hp3
  rw [hp.1] at e3
  refine lv_iload X.1 X.2.1 dL_law_1121 (lv_at hl 1 rfl) ?_
  refine lv_icmp_eq (tgt := 1128) X.1 X.2.1 dL_law_1123 (by decide) (fun _ => ?_) (fun h => absurd (e3.trans er.symm) h)
  refine lv_iload X.1 X.2.1 dL_law_1128 (lv_at hl 1 rfl) ?_
  refine lv_if_ne (tgt := 1145) X.1 X.2.1 dL_law_1130 (by decide) (fun h0 => ?_) (fun h0 => ?_)
  · refine lv_goto (tgt := 1432) X.1 X.2.1 dL_law_1145 (by decide) ?_
    refine W.widen (k := 300) (n := 5000) (Nat.le_of_ble_eq_true rfl) (Nat.le_of_ble_eq_true rfl) ?_
    exact hF ls H locs hS (lv_sub hl [2, 6] rfl)
  · have k0 := er.symm.trans h0
    have hv := hv k0
    have e2 := hp.2 k0
    clear hp
    subst e2
    refine lv_aload_n X.1 X.2.1 dL_law_1133 rfl (lv_at hl 3 rfl) ?_
    refine lv_iconst (v := 0) X.1 X.2.1 dL_law_1134 (by decide) ?_
    refine z_lald B hO hv dL_law_1135 ?_
    refine lv_iload X.1 X.2.1 dL_law_1136 (lv_at hl 0 rfl) ?_
    refine lv_i2l X.1 X.2.1 dL_law_1138 rfl ?_
    refine z_cmp B (by decide) dL_law_1139 ?_
    refine lv_if_eq (tgt := 1145) X.1 X.2.1 dL_law_1140 (by decide) (fun h1140 => ?_) (fun h1140 => absurd (by decide) h1140)
    refine lv_goto (tgt := 1432) X.1 X.2.1 dL_law_1145 (by decide) ?_
    refine W.widen (k := 300) (n := 5000) (Nat.le_of_ble_eq_true rfl) (Nat.le_of_ble_eq_true rfl) ?_
    exact hF ls H locs hS (lv_sub hl [2, 6] rfl)

set_option maxHeartbeats 4000000 in
set_option maxRecDepth 100000 in
theorem t_17 {p : Program} {l : Launch} (hlt : l.stackTraces = false) {e : Env} {s : State} {m : MethodId} {args : Array Value} {below : List Frame} {meth : Method} {c : Code} {H : Heap} {locs : List Loc} {Q : State → Prop} {ls : Array Slot} {G : dG} {J : mG} {cL : ClassId} {a b : Nat} {f : Nat → Int64} {xs : Nat → Int32} (B : lB p s m args c G J cL a b xs) (hD : dM G nu0 H) (hM : mM J (oF 0) H) (hO : oM G cL a f H) (hS : pS G s.heap H locs) (hl : lv_has ls 9 [(4, .int 0), (3, .ref a), (2, .ref (ja J 0)), (1, .ref (ra G 0)), (0, .ref b)])
  (hF : ∀ (ls : Array Slot) (H : Heap) (locs : List Loc), pS G s.heap H locs → lv_has ls 9 [(4, .int 0), (0, .ref b)] → W p l e room_1 s m args below meth c H locs 300 5000 Q (F0 m 1432 ls [])) : W p l e room_1 s m args below meth c H locs 200 2000 Q (F0 m 1148 ls []) := by
  have X := B.1
  refine lv_aload_n X.1 X.2.1 dL_law_1148 rfl (lv_at hl 3 rfl) ?_
  refine lv_aload_n X.1 X.2.1 dL_law_1149 rfl (lv_at hl 4 rfl) ?_
  refine lv_iload X.1 X.2.1 dL_law_1150 (lv_at hl 0 rfl) ?_
  refine lv_iconst (v := 1) X.1 X.2.1 dL_law_1152 (by decide) ?_
  refine lv_iadd X.1 X.2.1 dL_law_1153 ?_
  refine r_as (b := 1) (by decide) ?_
  refine z_sld (i := 1) B hS (by decide) dL_law_1154 ?_
  refine lv_aload_n X.1 X.2.1 dL_law_1155 rfl (lv_at hl 4 rfl) ?_
  refine lv_iload X.1 X.2.1 dL_law_1156 (lv_at hl 0 rfl) ?_
  refine lv_iconst (v := 2) X.1 X.2.1 dL_law_1158 (by decide) ?_
  refine lv_iadd X.1 X.2.1 dL_law_1159 ?_
  refine r_as (b := 2) (by decide) ?_
  refine z_sld (i := 2) B hS (by decide) dL_law_1160 ?_
  refine lv_aload_n X.1 X.2.1 dL_law_1161 rfl (lv_at hl 4 rfl) ?_
  refine lv_iload X.1 X.2.1 dL_law_1162 (lv_at hl 0 rfl) ?_
  refine lv_iconst (v := 3) X.1 X.2.1 dL_law_1164 (by decide) ?_
  refine lv_iadd X.1 X.2.1 dL_law_1165 ?_
  refine r_as (b := 3) (by decide) ?_
  refine z_sld (i := 3) B hS (by decide) dL_law_1166 ?_
  refine lv_aload_n X.1 X.2.1 dL_law_1167 rfl (lv_at hl 1 rfl) ?_
  refine kZW (As := [_, _, _, _, _]) B hD hM hO hS hl.1 (w_L_giveBack hlt (by have := B.2.2.2.2.2.2.1; omega)) rfl kl_L_140 mc_L_giveBack ⟨Nat.le_of_ble_eq_true rfl, Nat.le_of_ble_eq_true rfl⟩ ⟨Nat.le_of_ble_eq_true rfl, Nat.le_of_ble_eq_true rfl⟩ rfl (Nat.le_of_ble_eq_true rfl) dL_law_1168 (fun r f H locs er hv hM hO hS => ?_)
  subst er
  refine lv_istore X.1 X.2.1 dL_law_1171 hl (by decide) rfl (fun ls hl => ?_)
  replace hl : lv_has ls 9 [(5, _), (4, _), (3, _), (2, _), (1, _), (0, _)] := hl
  refine lv_aload_n X.1 X.2.1 dL_law_1173 rfl (lv_at hl 3 rfl) ?_
  refine lv_aload_n X.1 X.2.1 dL_law_1174 rfl (lv_at hl 5 rfl) ?_
  refine lv_iload X.1 X.2.1 dL_law_1175 (lv_at hl 1 rfl) ?_
  refine lv_iconst (v := 1) X.1 X.2.1 dL_law_1177 (by decide) ?_
  refine lv_iadd X.1 X.2.1 dL_law_1178 ?_
  refine r_as (b := 1) (by decide) ?_
  refine z_sld (i := 1) B hS (by decide) dL_law_1179 ?_
  refine lv_aload_n X.1 X.2.1 dL_law_1180 rfl (lv_at hl 5 rfl) ?_
  refine lv_iload X.1 X.2.1 dL_law_1181 (lv_at hl 1 rfl) ?_
  refine lv_iconst (v := 2) X.1 X.2.1 dL_law_1183 (by decide) ?_
  refine lv_iadd X.1 X.2.1 dL_law_1184 ?_
  refine r_as (b := 2) (by decide) ?_
  refine z_sld (i := 2) B hS (by decide) dL_law_1185 ?_
  refine lv_aload_n X.1 X.2.1 dL_law_1186 rfl (lv_at hl 5 rfl) ?_
  refine lv_iload X.1 X.2.1 dL_law_1187 (lv_at hl 1 rfl) ?_
  refine lv_iconst (v := 3) X.1 X.2.1 dL_law_1189 (by decide) ?_
  refine lv_iadd X.1 X.2.1 dL_law_1190 ?_
  refine r_as (b := 3) (by decide) ?_
  refine z_sld (i := 3) B hS (by decide) dL_law_1191 ?_
  refine kZM (As := [_, _, _]) B hM hO hS hl.1 c_X6_giveBack rfl kl_L_143 mf_X6_giveBack ⟨Nat.le_of_ble_eq_true rfl, Nat.le_of_ble_eq_true rfl⟩ ⟨Nat.le_of_ble_eq_true rfl, Nat.le_of_ble_eq_true rfl⟩ rfl (Nat.le_of_ble_eq_true rfl) dL_law_1192 (fun r2 o H locs hp hM hO hS => ?_)
  refine lv_istore X.1 X.2.1 dL_law_1195 hl (by decide) rfl (fun ls hl => ?_)
  replace hl : lv_has ls 9 [(6, _), (5, _), (4, _), (3, _), (2, _), (1, _), (0, _)] := hl
  refine lv_aload_n X.1 X.2.1 dL_law_1197 rfl (lv_at hl 4 rfl) ?_
  refine kZM (As := []) B hM hO hS hl.1 c_X6_thrown rfl kl_L_84 mf_X6_thrown ⟨Nat.le_of_ble_eq_true rfl, Nat.le_of_ble_eq_true rfl⟩ ⟨Nat.le_of_ble_eq_true rfl, Nat.le_of_ble_eq_true rfl⟩ rfl (Nat.le_of_ble_eq_true rfl) dL_law_1198 (fun r3 o3 H locs hp3 hM hO hS => ?_)
  obtain ⟨e3, -⟩ := hp3
  rw [hp.1] at e3
  subst e3
  refine lv_iload X.1 X.2.1 dL_law_1201 (lv_at hl 1 rfl) ?_
  refine lv_icmp_eq (tgt := 1208) X.1 X.2.1 dL_law_1203 (by decide) (fun h1203 => ?_) (fun h1203 => absurd (by decide) h1203)
  refine lv_iload X.1 X.2.1 dL_law_1208 (lv_at hl 1 rfl) ?_
  refine lv_if_ne (tgt := 1225) X.1 X.2.1 dL_law_1210 (by decide) (fun h1210 => ?_) (fun h1210 => absurd h1210 (by decide))
  refine lv_goto (tgt := 1432) X.1 X.2.1 dL_law_1225 (by decide) ?_
  refine W.widen (k := 300) (n := 5000) (Nat.le_of_ble_eq_true rfl) (Nat.le_of_ble_eq_true rfl) ?_
  exact hF ls H locs hS (lv_sub hl [2, 6] rfl)

set_option maxHeartbeats 4000000 in
set_option maxRecDepth 100000 in
theorem t_18 {p : Program} {l : Launch} (hlt : l.stackTraces = false) {e : Env} {s : State} {m : MethodId} {args : Array Value} {below : List Frame} {meth : Method} {c : Code} {H : Heap} {locs : List Loc} {Q : State → Prop} {ls : Array Slot} {G : dG} {J : mG} {cL : ClassId} {a b : Nat} {f : Nat → Int64} {xs : Nat → Int32} (B : lB p s m args c G J cL a b xs) (hD : dM G nu0 H) (hM : mM J (oF 0) H) (hO : oM G cL a f H) (hS : pS G s.heap H locs) (hl : lv_has ls 9 [(4, .int 0), (3, .ref a), (2, .ref (ja J 0)), (1, .ref (ra G 0)), (0, .ref b)])
  (hF : ∀ (ls : Array Slot) (H : Heap) (locs : List Loc), pS G s.heap H locs → lv_has ls 9 [(4, .int 0), (0, .ref b)] → W p l e room_1 s m args below meth c H locs 300 5000 Q (F0 m 1432 ls [])) : W p l e room_1 s m args below meth c H locs 200 2000 Q (F0 m 1228 ls []) := by
  have X := B.1
  refine lv_aload_n X.1 X.2.1 dL_law_1228 rfl (lv_at hl 3 rfl) ?_
  refine kZD (As := []) B hD hM hO hS hl.1 c_X5_orderCount rfl kl_L_144 mf_X5_orderCount ⟨Nat.le_of_ble_eq_true rfl, Nat.le_of_ble_eq_true rfl⟩ ⟨Nat.le_of_ble_eq_true rfl, Nat.le_of_ble_eq_true rfl⟩ rfl (Nat.le_of_ble_eq_true rfl) dL_law_1229 (fun r ν H locs hp hM hO hS => ?_)
  obtain ⟨rfl, -⟩ := hp
  refine r_as (b := 0) rfl ?_
  refine lv_aload_n X.1 X.2.1 dL_law_1232 rfl (lv_at hl 2 rfl) ?_
  refine kZM (As := []) B hM hO hS hl.1 c_X6_orderCount rfl kl_L_147 mf_X6_orderCount ⟨Nat.le_of_ble_eq_true rfl, Nat.le_of_ble_eq_true rfl⟩ ⟨Nat.le_of_ble_eq_true rfl, Nat.le_of_ble_eq_true rfl⟩ rfl (Nat.le_of_ble_eq_true rfl) dL_law_1233 (fun r2 o H locs hp hM hO hS => ?_)
  obtain rfl := hp.2 rfl
  refine lv_icmp_eq (tgt := 1432) X.1 X.2.1 dL_law_1236 (by decide) (fun h1236 => ?_) (fun h1236 => absurd (by decide) h1236)
  refine W.widen (k := 300) (n := 5000) (Nat.le_of_ble_eq_true rfl) (Nat.le_of_ble_eq_true rfl) ?_
  exact hF ls H locs hS (lv_sub hl [0, 4] rfl)

set_option maxHeartbeats 4000000 in
set_option maxRecDepth 100000 in
theorem t_19 {p : Program} {l : Launch} (hlt : l.stackTraces = false) {e : Env} {s : State} {m : MethodId} {args : Array Value} {below : List Frame} {meth : Method} {c : Code} {H : Heap} {locs : List Loc} {Q : State → Prop} {ls : Array Slot} {G : dG} {J : mG} {cL : ClassId} {a b : Nat} {f : Nat → Int64} {xs : Nat → Int32} (B : lB p s m args c G J cL a b xs) (hD : dM G nu0 H) (hM : mM J (oF 0) H) (hO : oM G cL a f H) (hS : pS G s.heap H locs) (hl : lv_has ls 9 [(4, .int 0), (3, .ref a), (2, .ref (ja J 0)), (1, .ref (ra G 0)), (0, .ref b)])
  (hF : ∀ (ls : Array Slot) (H : Heap) (locs : List Loc), pS G s.heap H locs → lv_has ls 9 [(4, .int 0), (0, .ref b)] → W p l e room_1 s m args below meth c H locs 300 5000 Q (F0 m 1432 ls [])) : W p l e room_1 s m args below meth c H locs 200 2000 Q (F0 m 1241 ls []) := by
  have X := B.1
  refine lv_aload_n X.1 X.2.1 dL_law_1241 rfl (lv_at hl 3 rfl) ?_
  refine lv_aload_n X.1 X.2.1 dL_law_1242 rfl (lv_at hl 4 rfl) ?_
  refine lv_iload X.1 X.2.1 dL_law_1243 (lv_at hl 0 rfl) ?_
  refine lv_iconst (v := 1) X.1 X.2.1 dL_law_1245 (by decide) ?_
  refine lv_iadd X.1 X.2.1 dL_law_1246 ?_
  refine r_as (b := 1) (by decide) ?_
  refine z_sld (i := 1) B hS (by decide) dL_law_1247 ?_
  refine lv_aload_n X.1 X.2.1 dL_law_1248 rfl (lv_at hl 4 rfl) ?_
  refine lv_iload X.1 X.2.1 dL_law_1249 (lv_at hl 0 rfl) ?_
  refine lv_iconst (v := 2) X.1 X.2.1 dL_law_1251 (by decide) ?_
  refine lv_iadd X.1 X.2.1 dL_law_1252 ?_
  refine r_as (b := 2) (by decide) ?_
  refine z_sld (i := 2) B hS (by decide) dL_law_1253 ?_
  refine lv_aload_n X.1 X.2.1 dL_law_1254 rfl (lv_at hl 1 rfl) ?_
  refine kZW (As := [_, _, _, _]) B hD hM hO hS hl.1 (w_L_order hlt (by have := B.2.2.2.2.2.2.1; omega)) rfl kl_L_148 mc_L_order ⟨Nat.le_of_ble_eq_true rfl, Nat.le_of_ble_eq_true rfl⟩ ⟨Nat.le_of_ble_eq_true rfl, Nat.le_of_ble_eq_true rfl⟩ rfl (Nat.le_of_ble_eq_true rfl) dL_law_1255 (fun r f H locs er hv hM hO hS => ?_)
  subst er
  refine lv_istore X.1 X.2.1 dL_law_1258 hl (by decide) rfl (fun ls hl => ?_)
  replace hl : lv_has ls 9 [(5, _), (4, _), (3, _), (2, _), (1, _), (0, _)] := hl
  refine lv_aload_n X.1 X.2.1 dL_law_1260 rfl (lv_at hl 3 rfl) ?_
  refine lv_aload_n X.1 X.2.1 dL_law_1261 rfl (lv_at hl 5 rfl) ?_
  refine lv_iload X.1 X.2.1 dL_law_1262 (lv_at hl 1 rfl) ?_
  refine lv_iconst (v := 1) X.1 X.2.1 dL_law_1264 (by decide) ?_
  refine lv_iadd X.1 X.2.1 dL_law_1265 ?_
  refine r_as (b := 1) (by decide) ?_
  refine z_sld (i := 1) B hS (by decide) dL_law_1266 ?_
  refine lv_aload_n X.1 X.2.1 dL_law_1267 rfl (lv_at hl 5 rfl) ?_
  refine lv_iload X.1 X.2.1 dL_law_1268 (lv_at hl 1 rfl) ?_
  refine lv_iconst (v := 2) X.1 X.2.1 dL_law_1270 (by decide) ?_
  refine lv_iadd X.1 X.2.1 dL_law_1271 ?_
  refine r_as (b := 2) (by decide) ?_
  refine z_sld (i := 2) B hS (by decide) dL_law_1272 ?_
  refine kZM (As := [_, _]) B hM hO hS hl.1 c_X6_order rfl kl_L_150 mf_X6_order ⟨Nat.le_of_ble_eq_true rfl, Nat.le_of_ble_eq_true rfl⟩ ⟨Nat.le_of_ble_eq_true rfl, Nat.le_of_ble_eq_true rfl⟩ rfl (Nat.le_of_ble_eq_true rfl) dL_law_1273 (fun r2 o H locs hp hM hO hS => ?_)
  refine lv_istore X.1 X.2.1 dL_law_1276 hl (by decide) rfl (fun ls hl => ?_)
  replace hl : lv_has ls 9 [(6, _), (5, _), (4, _), (3, _), (2, _), (1, _), (0, _)] := hl
  refine lv_aload_n X.1 X.2.1 dL_law_1278 rfl (lv_at hl 4 rfl) ?_
  refine kZM (As := []) B hM hO hS hl.1 c_X6_thrown rfl kl_L_84 mf_X6_thrown ⟨Nat.le_of_ble_eq_true rfl, Nat.le_of_ble_eq_true rfl⟩ ⟨Nat.le_of_ble_eq_true rfl, Nat.le_of_ble_eq_true rfl⟩ rfl (Nat.le_of_ble_eq_true rfl) dL_law_1279 (fun r3 o3 H locs hp3 hM hO hS => ?_)
  obtain ⟨e3, -⟩ := hp3
  rw [hp.1] at e3
  subst e3
  refine lv_iload X.1 X.2.1 dL_law_1282 (lv_at hl 1 rfl) ?_
  refine lv_icmp_eq (tgt := 1289) X.1 X.2.1 dL_law_1284 (by decide) (fun h1284 => ?_) (fun h1284 => absurd (by decide) h1284)
  refine lv_iload X.1 X.2.1 dL_law_1289 (lv_at hl 1 rfl) ?_
  refine lv_if_ne (tgt := 1306) X.1 X.2.1 dL_law_1291 (by decide) (fun h1291 => ?_) (fun h1291 => absurd h1291 (by decide))
  refine lv_goto (tgt := 1432) X.1 X.2.1 dL_law_1306 (by decide) ?_
  refine W.widen (k := 300) (n := 5000) (Nat.le_of_ble_eq_true rfl) (Nat.le_of_ble_eq_true rfl) ?_
  exact hF ls H locs hS (lv_sub hl [2, 6] rfl)

set_option maxHeartbeats 4000000 in
set_option maxRecDepth 100000 in
theorem t_20 {p : Program} {l : Launch} (hlt : l.stackTraces = false) {e : Env} {s : State} {m : MethodId} {args : Array Value} {below : List Frame} {meth : Method} {c : Code} {H : Heap} {locs : List Loc} {Q : State → Prop} {ls : Array Slot} {G : dG} {J : mG} {cL : ClassId} {a b : Nat} {f : Nat → Int64} {xs : Nat → Int32} (B : lB p s m args c G J cL a b xs) (hD : dM G nu0 H) (hM : mM J (oF 0) H) (hO : oM G cL a f H) (hS : pS G s.heap H locs) (hl : lv_has ls 9 [(4, .int 0), (3, .ref a), (2, .ref (ja J 0)), (1, .ref (ra G 0)), (0, .ref b)])
  (hF : ∀ (ls : Array Slot) (H : Heap) (locs : List Loc), pS G s.heap H locs → lv_has ls 9 [(4, .int 0), (0, .ref b)] → W p l e room_1 s m args below meth c H locs 300 5000 Q (F0 m 1432 ls [])) : W p l e room_1 s m args below meth c H locs 200 2000 Q (F0 m 1309 ls []) := by
  have X := B.1
  refine lv_aload_n X.1 X.2.1 dL_law_1309 rfl (lv_at hl 3 rfl) ?_
  refine lv_aload_n X.1 X.2.1 dL_law_1310 rfl (lv_at hl 4 rfl) ?_
  refine lv_iload X.1 X.2.1 dL_law_1311 (lv_at hl 0 rfl) ?_
  refine lv_iconst (v := 1) X.1 X.2.1 dL_law_1313 (by decide) ?_
  refine lv_iadd X.1 X.2.1 dL_law_1314 ?_
  refine r_as (b := 1) (by decide) ?_
  refine z_sld (i := 1) B hS (by decide) dL_law_1315 ?_
  refine lv_aload_n X.1 X.2.1 dL_law_1316 rfl (lv_at hl 4 rfl) ?_
  refine lv_iload X.1 X.2.1 dL_law_1317 (lv_at hl 0 rfl) ?_
  refine lv_iconst (v := 2) X.1 X.2.1 dL_law_1319 (by decide) ?_
  refine lv_iadd X.1 X.2.1 dL_law_1320 ?_
  refine r_as (b := 2) (by decide) ?_
  refine z_sld (i := 2) B hS (by decide) dL_law_1321 ?_
  refine lv_aload_n X.1 X.2.1 dL_law_1322 rfl (lv_at hl 1 rfl) ?_
  refine kZW (As := [_, _, _, _]) B hD hM hO hS hl.1 (w_L_pieces hlt (by have := B.2.2.2.2.2.2.1; omega)) rfl kl_L_151 mc_L_pieces ⟨Nat.le_of_ble_eq_true rfl, Nat.le_of_ble_eq_true rfl⟩ ⟨Nat.le_of_ble_eq_true rfl, Nat.le_of_ble_eq_true rfl⟩ rfl (Nat.le_of_ble_eq_true rfl) dL_law_1323 (fun r f H locs er hv hM hO hS => ?_)
  subst er
  refine lv_istore X.1 X.2.1 dL_law_1326 hl (by decide) rfl (fun ls hl => ?_)
  replace hl : lv_has ls 9 [(5, _), (4, _), (3, _), (2, _), (1, _), (0, _)] := hl
  refine lv_aload_n X.1 X.2.1 dL_law_1328 rfl (lv_at hl 3 rfl) ?_
  refine lv_aload_n X.1 X.2.1 dL_law_1329 rfl (lv_at hl 5 rfl) ?_
  refine lv_iload X.1 X.2.1 dL_law_1330 (lv_at hl 1 rfl) ?_
  refine lv_iconst (v := 1) X.1 X.2.1 dL_law_1332 (by decide) ?_
  refine lv_iadd X.1 X.2.1 dL_law_1333 ?_
  refine r_as (b := 1) (by decide) ?_
  refine z_sld (i := 1) B hS (by decide) dL_law_1334 ?_
  refine lv_aload_n X.1 X.2.1 dL_law_1335 rfl (lv_at hl 5 rfl) ?_
  refine lv_iload X.1 X.2.1 dL_law_1336 (lv_at hl 1 rfl) ?_
  refine lv_iconst (v := 2) X.1 X.2.1 dL_law_1338 (by decide) ?_
  refine lv_iadd X.1 X.2.1 dL_law_1339 ?_
  refine r_as (b := 2) (by decide) ?_
  refine z_sld (i := 2) B hS (by decide) dL_law_1340 ?_
  refine kZM (As := [_, _]) B hM hO hS hl.1 c_X6_pieces rfl kl_L_153 mf_X6_pieces ⟨Nat.le_of_ble_eq_true rfl, Nat.le_of_ble_eq_true rfl⟩ ⟨Nat.le_of_ble_eq_true rfl, Nat.le_of_ble_eq_true rfl⟩ rfl (Nat.le_of_ble_eq_true rfl) dL_law_1341 (fun r2 o H locs hp hM hO hS => ?_)
  refine lv_istore X.1 X.2.1 dL_law_1344 hl (by decide) rfl (fun ls hl => ?_)
  replace hl : lv_has ls 9 [(6, _), (5, _), (4, _), (3, _), (2, _), (1, _), (0, _)] := hl
  refine lv_aload_n X.1 X.2.1 dL_law_1346 rfl (lv_at hl 4 rfl) ?_
  refine kZM (As := []) B hM hO hS hl.1 c_X6_thrown rfl kl_L_84 mf_X6_thrown ⟨Nat.le_of_ble_eq_true rfl, Nat.le_of_ble_eq_true rfl⟩ ⟨Nat.le_of_ble_eq_true rfl, Nat.le_of_ble_eq_true rfl⟩ rfl (Nat.le_of_ble_eq_true rfl) dL_law_1347 (fun r3 o3 H locs hp3 hM hO hS => ?_)
  obtain ⟨e3, -⟩ := hp3
  rw [hp.1] at e3
  subst e3
  refine lv_iload X.1 X.2.1 dL_law_1350 (lv_at hl 1 rfl) ?_
  refine lv_icmp_eq (tgt := 1357) X.1 X.2.1 dL_law_1352 (by decide) (fun h1352 => ?_) (fun h1352 => absurd (by decide) h1352)
  refine lv_iload X.1 X.2.1 dL_law_1357 (lv_at hl 1 rfl) ?_
  refine lv_if_ne (tgt := 1374) X.1 X.2.1 dL_law_1359 (by decide) (fun h1359 => ?_) (fun h1359 => absurd h1359 (by decide))
  refine lv_goto (tgt := 1432) X.1 X.2.1 dL_law_1374 (by decide) ?_
  refine W.widen (k := 300) (n := 5000) (Nat.le_of_ble_eq_true rfl) (Nat.le_of_ble_eq_true rfl) ?_
  exact hF ls H locs hS (lv_sub hl [2, 6] rfl)

set_option maxHeartbeats 4000000 in
set_option maxRecDepth 100000 in
theorem t_21 {p : Program} {l : Launch} (hlt : l.stackTraces = false) {e : Env} {s : State} {m : MethodId} {args : Array Value} {below : List Frame} {meth : Method} {c : Code} {H : Heap} {locs : List Loc} {Q : State → Prop} {ls : Array Slot} {G : dG} {J : mG} {cL : ClassId} {a b : Nat} {f : Nat → Int64} {xs : Nat → Int32} (B : lB p s m args c G J cL a b xs) (hD : dM G nu0 H) (hM : mM J (oF 0) H) (hO : oM G cL a f H) (hS : pS G s.heap H locs) (hl : lv_has ls 9 [(4, .int 0), (3, .ref a), (2, .ref (ja J 0)), (1, .ref (ra G 0)), (0, .ref b)])
  (hF : ∀ (ls : Array Slot) (H : Heap) (locs : List Loc), pS G s.heap H locs → lv_has ls 9 [(4, .int 0), (0, .ref b)] → W p l e room_1 s m args below meth c H locs 300 5000 Q (F0 m 1432 ls [])) : W p l e room_1 s m args below meth c H locs 200 2000 Q (F0 m 1377 ls []) := by
  have X := B.1
  refine lv_aload_n X.1 X.2.1 dL_law_1377 rfl (lv_at hl 3 rfl) ?_
  refine kZDd (As := []) B hD hM hO hS hl.1 c_X5_level rfl kl_L_154 mf_X5_level ⟨Nat.le_of_ble_eq_true rfl, Nat.le_of_ble_eq_true rfl⟩ ⟨Nat.le_of_ble_eq_true rfl, Nat.le_of_ble_eq_true rfl⟩ rfl (Nat.le_of_ble_eq_true rfl) dL_law_1378 (fun H locs hM hO hS => ?_)
  refine lv_dstore X.1 X.2.1 dL_law_1381 hl (by decide) rfl (fun ls hl => ?_)
  replace hl : lv_has ls 9 [(5, _), (4, _), (3, _), (2, _), (1, _), (0, _)] := hl
  refine lv_aload_n X.1 X.2.1 dL_law_1383 rfl (lv_at hl 3 rfl) ?_
  refine kZMd (As := []) B hM hO hS hl.1 c_X6_level rfl kl_L_158 mf_X6_level ⟨Nat.le_of_ble_eq_true rfl, Nat.le_of_ble_eq_true rfl⟩ ⟨Nat.le_of_ble_eq_true rfl, Nat.le_of_ble_eq_true rfl⟩ rfl (Nat.le_of_ble_eq_true rfl) dL_law_1384 (fun r o H locs hp hM hO hS => ?_)
  subst hp
  refine lv_dstore X.1 X.2.1 dL_law_1387 hl (by decide) rfl (fun ls hl => ?_)
  replace hl : lv_has ls 9 [(7, _), (5, _), (4, _), (3, _), (2, _), (1, _), (0, _)] := hl
  refine lv_dload X.1 X.2.1 dL_law_1389 (lv_at hl 1 rfl) ?_
  refine lv_dload X.1 X.2.1 dL_law_1391 (lv_at hl 0 rfl) ?_
  refine lv_dcmp X.1 X.2.1 dL_law_1393 ?_
  refine r_as (b := 0) (by decide +kernel) ?_
  refine lv_if_eq (tgt := 1415) X.1 X.2.1 dL_law_1394 (by decide) (fun h1394 => ?_) (fun h1394 => absurd (by decide) h1394)
  refine lv_goto (tgt := 1432) X.1 X.2.1 dL_law_1415 (by decide) ?_
  refine W.widen (k := 300) (n := 5000) (Nat.le_of_ble_eq_true rfl) (Nat.le_of_ble_eq_true rfl) ?_
  exact hF ls H locs hS (lv_sub hl [2, 6] rfl)

set_option maxHeartbeats 4000000 in
set_option maxRecDepth 100000 in
theorem t_22 {p : Program} {l : Launch} (hlt : l.stackTraces = false) {e : Env} {s : State} {m : MethodId} {args : Array Value} {below : List Frame} {meth : Method} {c : Code} {H : Heap} {locs : List Loc} {Q : State → Prop} {ls : Array Slot} {G : dG} {J : mG} {cL : ClassId} {a b : Nat} {f : Nat → Int64} {xs : Nat → Int32} (B : lB p s m args c G J cL a b xs) (hD : dM G nu0 H) (hM : mM J (oF 0) H) (hO : oM G cL a f H) (hS : pS G s.heap H locs) (hl : lv_has ls 9 [(4, .int 0), (3, .ref a), (2, .ref (ja J 0)), (1, .ref (ra G 0)), (0, .ref b)])
  (hF : ∀ (ls : Array Slot) (H : Heap) (locs : List Loc), pS G s.heap H locs → lv_has ls 9 [(4, .int 0), (0, .ref b)] → W p l e room_1 s m args below meth c H locs 300 5000 Q (F0 m 1432 ls [])) : W p l e room_1 s m args below meth c H locs 200 2000 Q (F0 m 1418 ls []) := by
  have X := B.1
  refine lv_aload_n X.1 X.2.1 dL_law_1418 rfl (lv_at hl 3 rfl) ?_
  refine kZDl (As := []) B hD hM hO hS hl.1 c_X5_digest rfl kl_L_159 mf_X5_digest ⟨Nat.le_of_ble_eq_true rfl, Nat.le_of_ble_eq_true rfl⟩ ⟨Nat.le_of_ble_eq_true rfl, Nat.le_of_ble_eq_true rfl⟩ rfl (Nat.le_of_ble_eq_true rfl) dL_law_1419 (fun H locs hM hO hS => ?_)
  refine lv_aload_n X.1 X.2.1 dL_law_1422 rfl (lv_at hl 2 rfl) ?_
  refine kZMl (As := []) B hM hO hS hl.1 c_X6_digest rfl kl_L_163 mf_X6_digest ⟨Nat.le_of_ble_eq_true rfl, Nat.le_of_ble_eq_true rfl⟩ ⟨Nat.le_of_ble_eq_true rfl, Nat.le_of_ble_eq_true rfl⟩ rfl (Nat.le_of_ble_eq_true rfl) dL_law_1423 (fun r o H locs hp hM hO hS => ?_)
  subst hp
  refine z_cmp B (by decide) dL_law_1426 ?_
  refine lv_if_eq (tgt := 1432) X.1 X.2.1 dL_law_1427 (by decide) (fun h1427 => ?_) (fun h1427 => absurd (by decide) h1427)
  refine W.widen (k := 300) (n := 5000) (Nat.le_of_ble_eq_true rfl) (Nat.le_of_ble_eq_true rfl) ?_
  exact hF ls H locs hS (lv_sub hl [0, 4] rfl)

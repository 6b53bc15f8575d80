theorem lg_cmp_self (x : Int64) : lg_cmp x x = 0 := by
  simp [lg_cmp]
section LAW1
variable {p : Program} {l : Launch} {e : Env} {s : State} {m : MethodId} {args : Array Value} {below : List Frame} {meth : Method} {c : Code} {Q : State → Prop} {g : GG} {ad : Nat → Nat} {I : HI} {J : HJ} {pc : Nat} {lv : List (Nat × Value)} {st : List Value} {N b L : Nat} {xs : Nat → Int32}
theorem r_scld (C : Cx p s m args meth c RL code 4 g (AW ad nO)) (hX : va_X b L xs s s.heap) (hbl : b < s.heap.size) (hbA : ¬ AW ad nO b) {i : Int32} (hin : vp_in i L) (hdg : decode code pc = .ok (.iaload, 1)) (kk : V p l e room_1 s m args below meth c Q 4 600000 7302250 g (AW ad nO) ad nO oR I J (pc + 1) lv (.int (xs i.toNatClampNeg) :: st)) : V p l e room_1 s m args below meth c Q 4 600000 7302250 g (AW ad nO) ad nO oR I J pc lv (.int i :: .ref b :: st) := fun H locs ls hP hS hl hV =>
  va_sld C.1 C.2.1 hX hbl hbA hS hin hdg (kk H locs ls hP hS hl hV)
theorem r_sclen (C : Cx p s m args meth c RL code 4 g (AW ad nO)) (hX : va_X b L xs s s.heap) (hbl : b < s.heap.size) (hbA : ¬ AW ad nO b) (hdg : decode code pc = .ok (.arraylength, 1)) (kk : V p l e room_1 s m args below meth c Q 4 600000 7302250 g (AW ad nO) ad nO oR I J (pc + 1) lv (.int (Int32.ofNat L) :: st)) : V p l e room_1 s m args below meth c Q 4 600000 7302250 g (AW ad nO) ad nO oR I J pc lv (.ref b :: st) := fun H locs ls hP hS hl hV =>
  va_slen C.1 C.2.1 hX hbl hbA hS hdg (kk H locs ls hP hS hl hV)
end LAW1
set_option maxHeartbeats 4000000 in
set_option maxRecDepth 100000 in
theorem lb_begin {p : Program} {l : Launch} {e : Env} {s : State} {m : MethodId} {args : Array Value} {below : List Frame} {meth : Method} {c : Code} {Q : State → Prop} {g : GG} {ad : Nat → Nat} {I : HI} {J : HJ} {N b L : Nat} {xs : Nat → Int32} {i : Int32} (C : Cx p s m args meth c RL code 4 g (AW ad nO)) (hX : va_X b L xs s s.heap) (hbl : b < s.heap.size) (hbA : ¬ AW ad nO b) (hi1 : vp_in (i + 1) L) (hi2 : vp_in (i + 2) L) (hi3 : vp_in (i + 3) L) (hN : N ≤ 1000000) (hR : Rel N I J) (kk : ∀ I J, Rel (N + 400) I J → V p l e room_1 s m args below meth c Q 4 600000 7302250 g (AW ad nO) ad nO oR I J 1400 [(3, .int i), (0, .ref b), (1, .ref (ad 0)), (2, .ref (ad 98))] []) : V p l e room_1 s m args below meth c Q 4 600000 7302250 g (AW ad nO) ad nO oR I J 220 [(3, .int i), (0, .ref b), (1, .ref (ad 0)), (2, .ref (ad 98))] [] := by
  obtain ⟨r, I1, J1, I2, J2, h1, h2, hR2⟩ := sim_begin hN hR (xs (i + 1).toNatClampNeg) (xs (i + 2).toNatClampNeg) (xs (i + 3).toNatClampNeg)
  refine r_aload_n C 2 rfl rfl dL_law_220 ?_
  refine r_aload_n C 1 rfl rfl dL_law_221 ?_
  refine r_iload_n C 0 rfl rfl dL_law_222 ?_
  refine r_iconst C (v := 1) (by decide) dL_law_223 ?_
  refine r_iadd C dL_law_224 ?_
  refine r_pc (pc1 := 225) rfl ?_
  refine r_scld C hX hbl hbA hi1 dL_law_225 ?_
  refine r_aload_n C 1 rfl rfl dL_law_226 ?_
  refine r_iload_n C 0 rfl rfl dL_law_227 ?_
  refine r_iconst C (v := 2) (by decide) dL_law_228 ?_
  refine r_iadd C dL_law_229 ?_
  refine r_scld C hX hbl hbA hi2 dL_law_230 ?_
  refine r_pc (pc1 := 231) rfl ?_
  refine r_aload_n C 1 rfl rfl dL_law_231 ?_
  refine r_iload_n C 0 rfl rfl dL_law_232 ?_
  refine r_iconst C (v := 3) (by decide) dL_law_233 ?_
  refine r_iadd C dL_law_234 ?_
  refine r_scld C hX hbl hbA hi3 dL_law_235 ?_
  refine r_cvi C (rest := []) (c_X10_begin h1) fm_X10_begin lk_L_13 o_0 ⟨_, ct_9 o_0.1⟩ rfl rfl ⟨rfl, rfl, Nat.le_of_ble_eq_true rfl, Nat.le_of_ble_eq_true rfl⟩ (Nat.le_of_ble_eq_true rfl) rfl dL_law_236 ?_
  refine r_pc (pc1 := 239) rfl ?_
  refine r_aload_n C 3 rfl rfl dL_law_239 ?_
  refine r_aload_n C 1 rfl rfl dL_law_240 ?_
  refine r_iload_n C 0 rfl rfl dL_law_241 ?_
  refine r_iconst C (v := 1) (by decide) dL_law_242 ?_
  refine r_iadd C dL_law_243 ?_
  refine r_scld C hX hbl hbA hi1 dL_law_244 ?_
  refine r_pc (pc1 := 245) rfl ?_
  refine r_aload_n C 1 rfl rfl dL_law_245 ?_
  refine r_iload_n C 0 rfl rfl dL_law_246 ?_
  refine r_iconst C (v := 2) (by decide) dL_law_247 ?_
  refine r_iadd C dL_law_248 ?_
  refine r_scld C hX hbl hbA hi2 dL_law_249 ?_
  refine r_aload_n C 1 rfl rfl dL_law_250 ?_
  refine r_pc (pc1 := 251) rfl ?_
  refine r_iload_n C 0 rfl rfl dL_law_251 ?_
  refine r_iconst C (v := 3) (by decide) dL_law_252 ?_
  refine r_iadd C dL_law_253 ?_
  refine r_scld C hX hbl hbA hi3 dL_law_254 ?_
  refine r_cvi C (rest := [.int r]) (c_X11_begin h2) fm_X11_begin lk_L_17 o_98 ⟨_, ct_10 o_98.1⟩ rfl rfl ⟨rfl, rfl, Nat.le_of_ble_eq_true rfl, Nat.le_of_ble_eq_true rfl⟩ (Nat.le_of_ble_eq_true rfl) rfl dL_law_255 ?_
  refine r_icmp_eq (XA := true) (XB := false) (z := true) C (tgt := 1400) (by rw [if_pos rfl]) dL_law_258 (by decide) (fun _ => ?_) (fun h => by cases h)
  exact kk _ _ hR2
set_option maxHeartbeats 4000000 in
set_option maxRecDepth 100000 in
theorem lb_set {p : Program} {l : Launch} {e : Env} {s : State} {m : MethodId} {args : Array Value} {below : List Frame} {meth : Method} {c : Code} {Q : State → Prop} {g : GG} {ad : Nat → Nat} {I : HI} {J : HJ} {N b L : Nat} {xs : Nat → Int32} {i : Int32} (C : Cx p s m args meth c RL code 4 g (AW ad nO)) (hX : va_X b L xs s s.heap) (hbl : b < s.heap.size) (hbA : ¬ AW ad nO b) (hi1 : vp_in (i + 1) L) (hi2 : vp_in (i + 2) L) (hi3 : vp_in (i + 3) L) (hN : N ≤ 1000000) (hR : Rel N I J) (kk : ∀ I J, Rel (N + 400) I J → V p l e room_1 s m args below meth c Q 4 600000 7302250 g (AW ad nO) ad nO oR I J 1400 [(3, .int i), (0, .ref b), (1, .ref (ad 0)), (2, .ref (ad 98))] []) : V p l e room_1 s m args below meth c Q 4 600000 7302250 g (AW ad nO) ad nO oR I J 263 [(3, .int i), (0, .ref b), (1, .ref (ad 0)), (2, .ref (ad 98))] [] := by
  obtain ⟨r, I1, I2, h1, h2, hR2⟩ := sim_set hN hR (xs (i + 1).toNatClampNeg) (xs (i + 2).toNatClampNeg)
  refine r_aload_n C 2 rfl rfl dL_law_263 ?_
  refine r_aload_n C 1 rfl rfl dL_law_264 ?_
  refine r_iload_n C 0 rfl rfl dL_law_265 ?_
  refine r_iconst C (v := 1) (by decide) dL_law_266 ?_
  refine r_iadd C dL_law_267 ?_
  refine r_pc (pc1 := 268) rfl ?_
  refine r_scld C hX hbl hbA hi1 dL_law_268 ?_
  refine r_aload_n C 1 rfl rfl dL_law_269 ?_
  refine r_iload_n C 0 rfl rfl dL_law_270 ?_
  refine r_iconst C (v := 2) (by decide) dL_law_271 ?_
  refine r_iadd C dL_law_272 ?_
  refine r_scld C hX hbl hbA hi2 dL_law_273 ?_
  refine r_pc (pc1 := 274) rfl ?_
  refine r_cvi C (rest := []) (c_X10_set h1) fm_X10_set lk_L_18 o_0 ⟨_, ct_9 o_0.1⟩ rfl rfl ⟨rfl, rfl, Nat.le_of_ble_eq_true rfl, Nat.le_of_ble_eq_true rfl⟩ (Nat.le_of_ble_eq_true rfl) rfl dL_law_274 ?_
  refine r_aload_n C 3 rfl rfl dL_law_277 ?_
  refine r_aload_n C 1 rfl rfl dL_law_278 ?_
  refine r_iload_n C 0 rfl rfl dL_law_279 ?_
  refine r_iconst C (v := 1) (by decide) dL_law_280 ?_
  refine r_iadd C dL_law_281 ?_
  refine r_pc (pc1 := 282) rfl ?_
  refine r_scld C hX hbl hbA hi1 dL_law_282 ?_
  refine r_aload_n C 1 rfl rfl dL_law_283 ?_
  refine r_iload_n C 0 rfl rfl dL_law_284 ?_
  refine r_iconst C (v := 2) (by decide) dL_law_285 ?_
  refine r_iadd C dL_law_286 ?_
  refine r_scld C hX hbl hbA hi2 dL_law_287 ?_
  refine r_pc (pc1 := 288) rfl ?_
  refine r_cvi C (rest := [.int r]) (c_X11_set h2) fm_X11_set lk_L_22 o_98 ⟨_, ct_10 o_98.1⟩ rfl rfl ⟨rfl, rfl, Nat.le_of_ble_eq_true rfl, Nat.le_of_ble_eq_true rfl⟩ (Nat.le_of_ble_eq_true rfl) rfl dL_law_288 ?_
  refine r_icmp_eq (XA := true) (XB := false) (z := true) C (tgt := 1400) (by rw [if_pos rfl]) dL_law_291 (by decide) (fun _ => ?_) (fun h => by cases h)
  exact kk _ _ hR2
set_option maxHeartbeats 4000000 in
set_option maxRecDepth 100000 in
theorem lb_seed {p : Program} {l : Launch} {e : Env} {s : State} {m : MethodId} {args : Array Value} {below : List Frame} {meth : Method} {c : Code} {Q : State → Prop} {g : GG} {ad : Nat → Nat} {I : HI} {J : HJ} {N b L : Nat} {xs : Nat → Int32} {i : Int32} (C : Cx p s m args meth c RL code 4 g (AW ad nO)) (hX : va_X b L xs s s.heap) (hbl : b < s.heap.size) (hbA : ¬ AW ad nO b) (hi1 : vp_in (i + 1) L) (hi2 : vp_in (i + 2) L) (hi3 : vp_in (i + 3) L) (hN : N ≤ 1000000) (hR : Rel N I J) (kk : ∀ I J, Rel (N + 400) I J → V p l e room_1 s m args below meth c Q 4 600000 7302250 g (AW ad nO) ad nO oR I J 1400 [(3, .int i), (0, .ref b), (1, .ref (ad 0)), (2, .ref (ad 98))] []) : V p l e room_1 s m args below meth c Q 4 600000 7302250 g (AW ad nO) ad nO oR I J 296 [(3, .int i), (0, .ref b), (1, .ref (ad 0)), (2, .ref (ad 98))] [] := by
  obtain ⟨r, I1, I2, h1, h2, hR2⟩ := sim_seed hN hR (xs (i + 1).toNatClampNeg)
  refine r_aload_n C 2 rfl rfl dL_law_296 ?_
  refine r_aload_n C 1 rfl rfl dL_law_297 ?_
  refine r_iload_n C 0 rfl rfl dL_law_298 ?_
  refine r_iconst C (v := 1) (by decide) dL_law_299 ?_
  refine r_iadd C dL_law_300 ?_
  refine r_pc (pc1 := 301) rfl ?_
  refine r_scld C hX hbl hbA hi1 dL_law_301 ?_
  refine r_cvi C (rest := []) (c_X10_seed h1) fm_X10_seed lk_L_23 o_0 ⟨_, ct_9 o_0.1⟩ rfl rfl ⟨rfl, rfl, Nat.le_of_ble_eq_true rfl, Nat.le_of_ble_eq_true rfl⟩ (Nat.le_of_ble_eq_true rfl) rfl dL_law_302 ?_
  refine r_aload_n C 3 rfl rfl dL_law_305 ?_
  refine r_aload_n C 1 rfl rfl dL_law_306 ?_
  refine r_iload_n C 0 rfl rfl dL_law_307 ?_
  refine r_iconst C (v := 1) (by decide) dL_law_308 ?_
  refine r_pc (pc1 := 309) rfl ?_
  refine r_iadd C dL_law_309 ?_
  refine r_scld C hX hbl hbA hi1 dL_law_310 ?_
  refine r_cvi C (rest := [.int r]) (c_X11_seed h2) fm_X11_seed lk_L_27 o_98 ⟨_, ct_10 o_98.1⟩ rfl rfl ⟨rfl, rfl, Nat.le_of_ble_eq_true rfl, Nat.le_of_ble_eq_true rfl⟩ (Nat.le_of_ble_eq_true rfl) rfl dL_law_311 ?_
  refine r_icmp_eq (XA := true) (XB := false) (z := true) C (tgt := 1400) (by rw [if_pos rfl]) dL_law_314 (by decide) (fun _ => ?_) (fun h => by cases h)
  exact kk _ _ hR2
set_option maxHeartbeats 4000000 in
set_option maxRecDepth 100000 in
theorem lb_run {p : Program} {l : Launch} {e : Env} {s : State} {m : MethodId} {args : Array Value} {below : List Frame} {meth : Method} {c : Code} {Q : State → Prop} {g : GG} {ad : Nat → Nat} {I : HI} {J : HJ} {N b L : Nat} {xs : Nat → Int32} {i : Int32} (C : Cx p s m args meth c RL code 4 g (AW ad nO)) (hX : va_X b L xs s s.heap) (hbl : b < s.heap.size) (hbA : ¬ AW ad nO b) (hi1 : vp_in (i + 1) L) (hi2 : vp_in (i + 2) L) (hi3 : vp_in (i + 3) L) (hN : N ≤ 1000000) (hR : Rel N I J) (kk : ∀ I J, Rel (N + 400) I J → V p l e room_1 s m args below meth c Q 4 600000 7302250 g (AW ad nO) ad nO oR I J 1400 [(3, .int i), (0, .ref b), (1, .ref (ad 0)), (2, .ref (ad 98))] []) : V p l e room_1 s m args below meth c Q 4 600000 7302250 g (AW ad nO) ad nO oR I J 319 [(3, .int i), (0, .ref b), (1, .ref (ad 0)), (2, .ref (ad 98))] [] := by
  obtain ⟨r, I1, J1, I2, J2, h1, h2, hR2⟩ := sim_run hN hR (xs (i + 1).toNatClampNeg)
  refine r_aload_n C 2 rfl rfl dL_law_319 ?_
  refine r_aload_n C 1 rfl rfl dL_law_320 ?_
  refine r_iload_n C 0 rfl rfl dL_law_321 ?_
  refine r_iconst C (v := 1) (by decide) dL_law_322 ?_
  refine r_iadd C dL_law_323 ?_
  refine r_pc (pc1 := 324) rfl ?_
  refine r_scld C hX hbl hbA hi1 dL_law_324 ?_
  refine r_cvi C (rest := []) (c_X10_run h1) fm_X10_run lk_L_28 o_0 ⟨_, ct_9 o_0.1⟩ rfl rfl ⟨rfl, rfl, Nat.le_of_ble_eq_true rfl, Nat.le_of_ble_eq_true rfl⟩ (Nat.le_of_ble_eq_true rfl) rfl dL_law_325 ?_
  refine r_aload_n C 3 rfl rfl dL_law_328 ?_
  refine r_aload_n C 1 rfl rfl dL_law_329 ?_
  refine r_iload_n C 0 rfl rfl dL_law_330 ?_
  refine r_iconst C (v := 1) (by decide) dL_law_331 ?_
  refine r_pc (pc1 := 332) rfl ?_
  refine r_iadd C dL_law_332 ?_
  refine r_scld C hX hbl hbA hi1 dL_law_333 ?_
  refine r_cvi C (rest := [.int r]) (c_X11_run h2) fm_X11_run lk_L_31 o_98 ⟨_, ct_10 o_98.1⟩ rfl rfl ⟨rfl, rfl, Nat.le_of_ble_eq_true rfl, Nat.le_of_ble_eq_true rfl⟩ (Nat.le_of_ble_eq_true rfl) rfl dL_law_334 ?_
  refine r_icmp_eq (XA := true) (XB := false) (z := true) C (tgt := 1400) (by rw [if_pos rfl]) dL_law_337 (by decide) (fun _ => ?_) (fun h => by cases h)
  exact kk _ _ hR2
set_option maxHeartbeats 4000000 in
set_option maxRecDepth 100000 in
theorem lb_tap {p : Program} {l : Launch} {e : Env} {s : State} {m : MethodId} {args : Array Value} {below : List Frame} {meth : Method} {c : Code} {Q : State → Prop} {g : GG} {ad : Nat → Nat} {I : HI} {J : HJ} {N b L : Nat} {xs : Nat → Int32} {i : Int32} (C : Cx p s m args meth c RL code 4 g (AW ad nO)) (hX : va_X b L xs s s.heap) (hbl : b < s.heap.size) (hbA : ¬ AW ad nO b) (hi1 : vp_in (i + 1) L) (hi2 : vp_in (i + 2) L) (hi3 : vp_in (i + 3) L) (hN : N ≤ 1000000) (hR : Rel N I J) (kk : ∀ I J, Rel (N + 400) I J → V p l e room_1 s m args below meth c Q 4 600000 7302250 g (AW ad nO) ad nO oR I J 1400 [(3, .int i), (0, .ref b), (1, .ref (ad 0)), (2, .ref (ad 98))] []) : V p l e room_1 s m args below meth c Q 4 600000 7302250 g (AW ad nO) ad nO oR I J 342 [(3, .int i), (0, .ref b), (1, .ref (ad 0)), (2, .ref (ad 98))] [] := by
  obtain ⟨r, h1, h2, hR2⟩ := sim_tap hN hR (xs (i + 1).toNatClampNeg)
  refine r_aload_n C 2 rfl rfl dL_law_342 ?_
  refine r_aload_n C 1 rfl rfl dL_law_343 ?_
  refine r_iload_n C 0 rfl rfl dL_law_344 ?_
  refine r_iconst C (v := 1) (by decide) dL_law_345 ?_
  refine r_iadd C dL_law_346 ?_
  refine r_pc (pc1 := 347) rfl ?_
  refine r_scld C hX hbl hbA hi1 dL_law_347 ?_
  refine r_cvi C (rest := []) (c_X10_tap h1) fm_X10_tap lk_L_32 o_0 ⟨_, ct_9 o_0.1⟩ rfl rfl ⟨rfl, rfl, Nat.le_of_ble_eq_true rfl, Nat.le_of_ble_eq_true rfl⟩ (Nat.le_of_ble_eq_true rfl) rfl dL_law_348 ?_
  refine r_aload_n C 3 rfl rfl dL_law_351 ?_
  refine r_aload_n C 1 rfl rfl dL_law_352 ?_
  refine r_iload_n C 0 rfl rfl dL_law_353 ?_
  refine r_iconst C (v := 1) (by decide) dL_law_354 ?_
  refine r_pc (pc1 := 355) rfl ?_
  refine r_iadd C dL_law_355 ?_
  refine r_scld C hX hbl hbA hi1 dL_law_356 ?_
  refine r_cvi C (rest := [.int r]) (c_X11_tap h2) fm_X11_tap lk_L_35 o_98 ⟨_, ct_10 o_98.1⟩ rfl rfl ⟨rfl, rfl, Nat.le_of_ble_eq_true rfl, Nat.le_of_ble_eq_true rfl⟩ (Nat.le_of_ble_eq_true rfl) rfl dL_law_357 ?_
  refine r_icmp_eq (XA := true) (XB := false) (z := true) C (tgt := 1400) (by rw [if_pos rfl]) dL_law_360 (by decide) (fun _ => ?_) (fun h => by cases h)
  exact kk _ _ hR2
set_option maxHeartbeats 4000000 in
set_option maxRecDepth 100000 in
theorem lb_water {p : Program} {l : Launch} {e : Env} {s : State} {m : MethodId} {args : Array Value} {below : List Frame} {meth : Method} {c : Code} {Q : State → Prop} {g : GG} {ad : Nat → Nat} {I : HI} {J : HJ} {N b L : Nat} {xs : Nat → Int32} {i : Int32} (C : Cx p s m args meth c RL code 4 g (AW ad nO)) (hX : va_X b L xs s s.heap) (hbl : b < s.heap.size) (hbA : ¬ AW ad nO b) (hi1 : vp_in (i + 1) L) (hi2 : vp_in (i + 2) L) (hi3 : vp_in (i + 3) L) (hN : N ≤ 1000000) (hR : Rel N I J) (kk : ∀ I J, Rel (N + 400) I J → V p l e room_1 s m args below meth c Q 4 600000 7302250 g (AW ad nO) ad nO oR I J 1400 [(3, .int i), (0, .ref b), (1, .ref (ad 0)), (2, .ref (ad 98))] []) : V p l e room_1 s m args below meth c Q 4 600000 7302250 g (AW ad nO) ad nO oR I J 365 [(3, .int i), (0, .ref b), (1, .ref (ad 0)), (2, .ref (ad 98))] [] := by
  obtain ⟨r, h1, h2, hR2⟩ := sim_water hN hR 
  refine r_aload_n C 2 rfl rfl dL_law_365 ?_
  refine r_cvl C (rest := []) (c_X10_water h1) fm_X10_water lk_L_36 o_0 ⟨_, ct_9 o_0.1⟩ rfl rfl ⟨rfl, rfl, Nat.le_of_ble_eq_true rfl, Nat.le_of_ble_eq_true rfl⟩ (Nat.le_of_ble_eq_true rfl) rfl dL_law_366 ?_
  refine r_aload_n C 3 rfl rfl dL_law_369 ?_
  refine r_cvl C (rest := [.long r]) (c_X11_water h2) fm_X11_water lk_L_40 o_98 ⟨_, ct_10 o_98.1⟩ rfl rfl ⟨rfl, rfl, Nat.le_of_ble_eq_true rfl, Nat.le_of_ble_eq_true rfl⟩ (Nat.le_of_ble_eq_true rfl) rfl dL_law_370 ?_
  refine r_lcmp C dL_law_373 ?_
  refine r_pc (pc1 := 374) rfl ?_
  refine r_if_eq (XA := true) (XB := false) (z := true) C (tgt := 1400) (by rw [if_pos (lg_cmp_self r)]) dL_law_374 (by decide) (fun _ => ?_) (fun h => by cases h)
  exact kk _ _ hR2
set_option maxHeartbeats 4000000 in
set_option maxRecDepth 100000 in
theorem lb_feed {p : Program} {l : Launch} {e : Env} {s : State} {m : MethodId} {args : Array Value} {below : List Frame} {meth : Method} {c : Code} {Q : State → Prop} {g : GG} {ad : Nat → Nat} {I : HI} {J : HJ} {N b L : Nat} {xs : Nat → Int32} {i : Int32} (C : Cx p s m args meth c RL code 4 g (AW ad nO)) (hX : va_X b L xs s s.heap) (hbl : b < s.heap.size) (hbA : ¬ AW ad nO b) (hi1 : vp_in (i + 1) L) (hi2 : vp_in (i + 2) L) (hi3 : vp_in (i + 3) L) (hN : N ≤ 1000000) (hR : Rel N I J) (kk : ∀ I J, Rel (N + 400) I J → V p l e room_1 s m args below meth c Q 4 600000 7302250 g (AW ad nO) ad nO oR I J 1400 [(3, .int i), (0, .ref b), (1, .ref (ad 0)), (2, .ref (ad 98))] []) : V p l e room_1 s m args below meth c Q 4 600000 7302250 g (AW ad nO) ad nO oR I J 379 [(3, .int i), (0, .ref b), (1, .ref (ad 0)), (2, .ref (ad 98))] [] := by
  obtain ⟨r, I1, I2, h1, h2, hR2⟩ := sim_feed hN hR ((jlshl (xs (i + 1).toNatClampNeg).toInt64 32) ||| ((xs (i + 2).toNatClampNeg).toInt64 &&& 4294967295)) (xs (i + 3).toNatClampNeg)
  refine r_aload_n C 2 rfl rfl dL_law_379 ?_
  refine r_aload_n C 1 rfl rfl dL_law_380 ?_
  refine r_iload_n C 0 rfl rfl dL_law_381 ?_
  refine r_iconst C (v := 1) (by decide) dL_law_382 ?_
  refine r_iadd C dL_law_383 ?_
  refine r_pc (pc1 := 384) rfl ?_
  refine r_scld C hX hbl hbA hi1 dL_law_384 ?_
  refine r_i2l C dL_law_385 ?_
  refine r_bipush C (v := 32) (by decide) dL_law_386 ?_
  refine r_lshl C dL_law_388 ?_
  refine r_aload_n C 1 rfl rfl dL_law_389 ?_
  refine r_iload_n C 0 rfl rfl dL_law_390 ?_
  refine r_pc (pc1 := 391) rfl ?_
  refine r_iconst C (v := 2) (by decide) dL_law_391 ?_
  refine r_iadd C dL_law_392 ?_
  refine r_scld C hX hbl hbA hi2 dL_law_393 ?_
  refine r_i2l C dL_law_394 ?_
  refine r_ldc2 C (v := 4294967295) lk_L_41 dL_law_395 ?_
  refine r_land C dL_law_398 ?_
  refine r_pc (pc1 := 399) rfl ?_
  refine r_lor C dL_law_399 ?_
  refine r_aload_n C 1 rfl rfl dL_law_400 ?_
  refine r_iload_n C 0 rfl rfl dL_law_401 ?_
  refine r_iconst C (v := 3) (by decide) dL_law_402 ?_
  refine r_iadd C dL_law_403 ?_
  refine r_scld C hX hbl hbA hi3 dL_law_404 ?_
  refine r_pc (pc1 := 405) rfl ?_
  refine r_cvi C (rest := []) (c_X10_feed h1) fm_X10_feed lk_L_43 o_0 ⟨_, ct_9 o_0.1⟩ rfl rfl ⟨rfl, rfl, Nat.le_of_ble_eq_true rfl, Nat.le_of_ble_eq_true rfl⟩ (Nat.le_of_ble_eq_true rfl) rfl dL_law_405 ?_
  refine r_aload_n C 3 rfl rfl dL_law_408 ?_
  refine r_aload_n C 1 rfl rfl dL_law_409 ?_
  refine r_iload_n C 0 rfl rfl dL_law_410 ?_
  refine r_iconst C (v := 1) (by decide) dL_law_411 ?_
  refine r_iadd C dL_law_412 ?_
  refine r_pc (pc1 := 413) rfl ?_
  refine r_scld C hX hbl hbA hi1 dL_law_413 ?_
  refine r_i2l C dL_law_414 ?_
  refine r_bipush C (v := 32) (by decide) dL_law_415 ?_
  refine r_lshl C dL_law_417 ?_
  refine r_aload_n C 1 rfl rfl dL_law_418 ?_
  refine r_iload_n C 0 rfl rfl dL_law_419 ?_
  refine r_pc (pc1 := 420) rfl ?_
  refine r_iconst C (v := 2) (by decide) dL_law_420 ?_
  refine r_iadd C dL_law_421 ?_
  refine r_scld C hX hbl hbA hi2 dL_law_422 ?_
  refine r_i2l C dL_law_423 ?_
  refine r_ldc2 C (v := 4294967295) lk_L_41 dL_law_424 ?_
  refine r_land C dL_law_427 ?_
  refine r_pc (pc1 := 428) rfl ?_
  refine r_lor C dL_law_428 ?_
  refine r_aload_n C 1 rfl rfl dL_law_429 ?_
  refine r_iload_n C 0 rfl rfl dL_law_430 ?_
  refine r_iconst C (v := 3) (by decide) dL_law_431 ?_
  refine r_iadd C dL_law_432 ?_
  refine r_scld C hX hbl hbA hi3 dL_law_433 ?_
  refine r_pc (pc1 := 434) rfl ?_
  refine r_cvi C (rest := [.int r]) (c_X11_feed h2) fm_X11_feed lk_L_47 o_98 ⟨_, ct_10 o_98.1⟩ rfl rfl ⟨rfl, rfl, Nat.le_of_ble_eq_true rfl, Nat.le_of_ble_eq_true rfl⟩ (Nat.le_of_ble_eq_true rfl) rfl dL_law_434 ?_
  refine r_icmp_eq (XA := true) (XB := false) (z := true) C (tgt := 1400) (by rw [if_pos rfl]) dL_law_437 (by decide) (fun _ => ?_) (fun h => by cases h)
  exact kk _ _ hR2
set_option maxHeartbeats 4000000 in
set_option maxRecDepth 100000 in
theorem lb_read {p : Program} {l : Launch} {e : Env} {s : State} {m : MethodId} {args : Array Value} {below : List Frame} {meth : Method} {c : Code} {Q : State → Prop} {g : GG} {ad : Nat → Nat} {I : HI} {J : HJ} {N b L : Nat} {xs : Nat → Int32} {i : Int32} (C : Cx p s m args meth c RL code 4 g (AW ad nO)) (hX : va_X b L xs s s.heap) (hbl : b < s.heap.size) (hbA : ¬ AW ad nO b) (hi1 : vp_in (i + 1) L) (hi2 : vp_in (i + 2) L) (hi3 : vp_in (i + 3) L) (hN : N ≤ 1000000) (hR : Rel N I J) (kk : ∀ I J, Rel (N + 400) I J → V p l e room_1 s m args below meth c Q 4 600000 7302250 g (AW ad nO) ad nO oR I J 1400 [(3, .int i), (0, .ref b), (1, .ref (ad 0)), (2, .ref (ad 98))] []) : V p l e room_1 s m args below meth c Q 4 600000 7302250 g (AW ad nO) ad nO oR I J 442 [(3, .int i), (0, .ref b), (1, .ref (ad 0)), (2, .ref (ad 98))] [] := by
  obtain ⟨r, I1, I2, h1, h2, hR2⟩ := sim_read hN hR 
  refine r_aload_n C 2 rfl rfl dL_law_442 ?_
  refine r_cvi C (rest := []) (c_X10_read h1) fm_X10_read lk_L_48 o_0 ⟨_, ct_9 o_0.1⟩ rfl rfl ⟨rfl, rfl, Nat.le_of_ble_eq_true rfl, Nat.le_of_ble_eq_true rfl⟩ (Nat.le_of_ble_eq_true rfl) rfl dL_law_443 ?_
  refine r_aload_n C 3 rfl rfl dL_law_446 ?_
  refine r_cvi C (rest := [.int r]) (c_X11_read h2) fm_X11_read lk_L_52 o_98 ⟨_, ct_10 o_98.1⟩ rfl rfl ⟨rfl, rfl, Nat.le_of_ble_eq_true rfl, Nat.le_of_ble_eq_true rfl⟩ (Nat.le_of_ble_eq_true rfl) rfl dL_law_447 ?_
  refine r_icmp_eq (XA := true) (XB := false) (z := true) C (tgt := 1400) (by rw [if_pos rfl]) dL_law_450 (by decide) (fun _ => ?_) (fun h => by cases h)
  exact kk _ _ hR2
set_option maxHeartbeats 4000000 in
set_option maxRecDepth 100000 in
theorem lb_says {p : Program} {l : Launch} {e : Env} {s : State} {m : MethodId} {args : Array Value} {below : List Frame} {meth : Method} {c : Code} {Q : State → Prop} {g : GG} {ad : Nat → Nat} {I : HI} {J : HJ} {N b L : Nat} {xs : Nat → Int32} {i : Int32} (C : Cx p s m args meth c RL code 4 g (AW ad nO)) (hX : va_X b L xs s s.heap) (hbl : b < s.heap.size) (hbA : ¬ AW ad nO b) (hi1 : vp_in (i + 1) L) (hi2 : vp_in (i + 2) L) (hi3 : vp_in (i + 3) L) (hN : N ≤ 1000000) (hR : Rel N I J) (kk : ∀ I J, Rel (N + 400) I J → V p l e room_1 s m args below meth c Q 4 600000 7302250 g (AW ad nO) ad nO oR I J 1400 [(3, .int i), (0, .ref b), (1, .ref (ad 0)), (2, .ref (ad 98))] []) : V p l e room_1 s m args below meth c Q 4 600000 7302250 g (AW ad nO) ad nO oR I J 455 [(3, .int i), (0, .ref b), (1, .ref (ad 0)), (2, .ref (ad 98))] [] := by
  obtain ⟨r, I1, I2, J2, h1, h2, hR2⟩ := sim_says hN hR (xs (i + 1).toNatClampNeg)
  refine r_aload_n C 2 rfl rfl dL_law_455 ?_
  refine r_aload_n C 1 rfl rfl dL_law_456 ?_
  refine r_iload_n C 0 rfl rfl dL_law_457 ?_
  refine r_iconst C (v := 1) (by decide) dL_law_458 ?_
  refine r_iadd C dL_law_459 ?_
  refine r_pc (pc1 := 460) rfl ?_
  refine r_scld C hX hbl hbA hi1 dL_law_460 ?_
  refine r_cvi C (rest := []) (c_X10_says h1) fm_X10_says lk_L_53 o_0 ⟨_, ct_9 o_0.1⟩ rfl rfl ⟨rfl, rfl, Nat.le_of_ble_eq_true rfl, Nat.le_of_ble_eq_true rfl⟩ (Nat.le_of_ble_eq_true rfl) rfl dL_law_461 ?_
  refine r_aload_n C 3 rfl rfl dL_law_464 ?_
  refine r_aload_n C 1 rfl rfl dL_law_465 ?_
  refine r_iload_n C 0 rfl rfl dL_law_466 ?_
  refine r_iconst C (v := 1) (by decide) dL_law_467 ?_
  refine r_pc (pc1 := 468) rfl ?_
  refine r_iadd C dL_law_468 ?_
  refine r_scld C hX hbl hbA hi1 dL_law_469 ?_
  refine r_cvi C (rest := [.int r]) (c_X11_says h2) fm_X11_says lk_L_56 o_98 ⟨_, ct_10 o_98.1⟩ rfl rfl ⟨rfl, rfl, Nat.le_of_ble_eq_true rfl, Nat.le_of_ble_eq_true rfl⟩ (Nat.le_of_ble_eq_true rfl) rfl dL_law_470 ?_
  refine r_icmp_eq (XA := true) (XB := false) (z := true) C (tgt := 1400) (by rw [if_pos rfl]) dL_law_473 (by decide) (fun _ => ?_) (fun h => by cases h)
  exact kk _ _ hR2
set_option maxHeartbeats 4000000 in
set_option maxRecDepth 100000 in
theorem lb_tell {p : Program} {l : Launch} {e : Env} {s : State} {m : MethodId} {args : Array Value} {below : List Frame} {meth : Method} {c : Code} {Q : State → Prop} {g : GG} {ad : Nat → Nat} {I : HI} {J : HJ} {N b L : Nat} {xs : Nat → Int32} {i : Int32} (C : Cx p s m args meth c RL code 4 g (AW ad nO)) (hX : va_X b L xs s s.heap) (hbl : b < s.heap.size) (hbA : ¬ AW ad nO b) (hi1 : vp_in (i + 1) L) (hi2 : vp_in (i + 2) L) (hi3 : vp_in (i + 3) L) (hN : N ≤ 1000000) (hR : Rel N I J) (kk : ∀ I J, Rel (N + 400) I J → V p l e room_1 s m args below meth c Q 4 600000 7302250 g (AW ad nO) ad nO oR I J 1400 [(3, .int i), (0, .ref b), (1, .ref (ad 0)), (2, .ref (ad 98))] []) : V p l e room_1 s m args below meth c Q 4 600000 7302250 g (AW ad nO) ad nO oR I J 478 [(3, .int i), (0, .ref b), (1, .ref (ad 0)), (2, .ref (ad 98))] [] := by
  obtain ⟨r, I1, I2, h1, h2, hR2⟩ := sim_tell hN hR (xs (i + 1).toNatClampNeg)
  refine r_aload_n C 2 rfl rfl dL_law_478 ?_
  refine r_aload_n C 1 rfl rfl dL_law_479 ?_
  refine r_iload_n C 0 rfl rfl dL_law_480 ?_
  refine r_iconst C (v := 1) (by decide) dL_law_481 ?_
  refine r_iadd C dL_law_482 ?_
  refine r_pc (pc1 := 483) rfl ?_
  refine r_scld C hX hbl hbA hi1 dL_law_483 ?_
  refine r_cvi C (rest := []) (c_X10_tell h1) fm_X10_tell lk_L_57 o_0 ⟨_, ct_9 o_0.1⟩ rfl rfl ⟨rfl, rfl, Nat.le_of_ble_eq_true rfl, Nat.le_of_ble_eq_true rfl⟩ (Nat.le_of_ble_eq_true rfl) rfl dL_law_484 ?_
  refine r_aload_n C 3 rfl rfl dL_law_487 ?_
  refine r_aload_n C 1 rfl rfl dL_law_488 ?_
  refine r_iload_n C 0 rfl rfl dL_law_489 ?_
  refine r_iconst C (v := 1) (by decide) dL_law_490 ?_
  refine r_pc (pc1 := 491) rfl ?_
  refine r_iadd C dL_law_491 ?_
  refine r_scld C hX hbl hbA hi1 dL_law_492 ?_
  refine r_cvi C (rest := [.int r]) (c_X11_tell h2) fm_X11_tell lk_L_60 o_98 ⟨_, ct_10 o_98.1⟩ rfl rfl ⟨rfl, rfl, Nat.le_of_ble_eq_true rfl, Nat.le_of_ble_eq_true rfl⟩ (Nat.le_of_ble_eq_true rfl) rfl dL_law_493 ?_
  refine r_icmp_eq (XA := true) (XB := false) (z := true) C (tgt := 1400) (by rw [if_pos rfl]) dL_law_496 (by decide) (fun _ => ?_) (fun h => by cases h)
  exact kk _ _ hR2
set_option maxHeartbeats 4000000 in
set_option maxRecDepth 100000 in
theorem lb_clear {p : Program} {l : Launch} {e : Env} {s : State} {m : MethodId} {args : Array Value} {below : List Frame} {meth : Method} {c : Code} {Q : State → Prop} {g : GG} {ad : Nat → Nat} {I : HI} {J : HJ} {N b L : Nat} {xs : Nat → Int32} {i : Int32} (C : Cx p s m args meth c RL code 4 g (AW ad nO)) (hX : va_X b L xs s s.heap) (hbl : b < s.heap.size) (hbA : ¬ AW ad nO b) (hi1 : vp_in (i + 1) L) (hi2 : vp_in (i + 2) L) (hi3 : vp_in (i + 3) L) (hN : N ≤ 1000000) (hR : Rel N I J) (kk : ∀ I J, Rel (N + 400) I J → V p l e room_1 s m args below meth c Q 4 600000 7302250 g (AW ad nO) ad nO oR I J 1400 [(3, .int i), (0, .ref b), (1, .ref (ad 0)), (2, .ref (ad 98))] []) : V p l e room_1 s m args below meth c Q 4 600000 7302250 g (AW ad nO) ad nO oR I J 501 [(3, .int i), (0, .ref b), (1, .ref (ad 0)), (2, .ref (ad 98))] [] := by
  obtain ⟨r, I1, I2, h1, h2, hR2⟩ := sim_clear hN hR 
  refine r_aload_n C 2 rfl rfl dL_law_501 ?_
  refine r_cvi C (rest := []) (c_X10_clear h1) fm_X10_clear lk_L_61 o_0 ⟨_, ct_9 o_0.1⟩ rfl rfl ⟨rfl, rfl, Nat.le_of_ble_eq_true rfl, Nat.le_of_ble_eq_true rfl⟩ (Nat.le_of_ble_eq_true rfl) rfl dL_law_502 ?_
  refine r_aload_n C 3 rfl rfl dL_law_505 ?_
  refine r_cvi C (rest := [.int r]) (c_X11_clear h2) fm_X11_clear lk_L_64 o_98 ⟨_, ct_10 o_98.1⟩ rfl rfl ⟨rfl, rfl, Nat.le_of_ble_eq_true rfl, Nat.le_of_ble_eq_true rfl⟩ (Nat.le_of_ble_eq_true rfl) rfl dL_law_506 ?_
  refine r_icmp_eq (XA := true) (XB := false) (z := true) C (tgt := 1400) (by rw [if_pos rfl]) dL_law_509 (by decide) (fun _ => ?_) (fun h => by cases h)
  exact kk _ _ hR2
set_option maxHeartbeats 4000000 in
set_option maxRecDepth 100000 in
theorem lb_time {p : Program} {l : Launch} {e : Env} {s : State} {m : MethodId} {args : Array Value} {below : List Frame} {meth : Method} {c : Code} {Q : State → Prop} {g : GG} {ad : Nat → Nat} {I : HI} {J : HJ} {N b L : Nat} {xs : Nat → Int32} {i : Int32} (C : Cx p s m args meth c RL code 4 g (AW ad nO)) (hX : va_X b L xs s s.heap) (hbl : b < s.heap.size) (hbA : ¬ AW ad nO b) (hi1 : vp_in (i + 1) L) (hi2 : vp_in (i + 2) L) (hi3 : vp_in (i + 3) L) (hN : N ≤ 1000000) (hR : Rel N I J) (kk : ∀ I J, Rel (N + 400) I J → V p l e room_1 s m args below meth c Q 4 600000 7302250 g (AW ad nO) ad nO oR I J 1400 [(3, .int i), (0, .ref b), (1, .ref (ad 0)), (2, .ref (ad 98))] []) : V p l e room_1 s m args below meth c Q 4 600000 7302250 g (AW ad nO) ad nO oR I J 514 [(3, .int i), (0, .ref b), (1, .ref (ad 0)), (2, .ref (ad 98))] [] := by
  obtain ⟨r, h1, h2, hR2⟩ := sim_time hN hR (xs (i + 1).toNatClampNeg)
  refine r_aload_n C 2 rfl rfl dL_law_514 ?_
  refine r_aload_n C 1 rfl rfl dL_law_515 ?_
  refine r_iload_n C 0 rfl rfl dL_law_516 ?_
  refine r_iconst C (v := 1) (by decide) dL_law_517 ?_
  refine r_iadd C dL_law_518 ?_
  refine r_pc (pc1 := 519) rfl ?_
  refine r_scld C hX hbl hbA hi1 dL_law_519 ?_
  refine r_cvi C (rest := []) (c_X10_time h1) fm_X10_time lk_L_65 o_0 ⟨_, ct_9 o_0.1⟩ rfl rfl ⟨rfl, rfl, Nat.le_of_ble_eq_true rfl, Nat.le_of_ble_eq_true rfl⟩ (Nat.le_of_ble_eq_true rfl) rfl dL_law_520 ?_
  refine r_aload_n C 3 rfl rfl dL_law_523 ?_
  refine r_aload_n C 1 rfl rfl dL_law_524 ?_
  refine r_iload_n C 0 rfl rfl dL_law_525 ?_
  refine r_iconst C (v := 1) (by decide) dL_law_526 ?_
  refine r_pc (pc1 := 527) rfl ?_
  refine r_iadd C dL_law_527 ?_
  refine r_scld C hX hbl hbA hi1 dL_law_528 ?_
  refine r_cvi C (rest := [.int r]) (c_X11_time h2) fm_X11_time lk_L_68 o_98 ⟨_, ct_10 o_98.1⟩ rfl rfl ⟨rfl, rfl, Nat.le_of_ble_eq_true rfl, Nat.le_of_ble_eq_true rfl⟩ (Nat.le_of_ble_eq_true rfl) rfl dL_law_529 ?_
  refine r_icmp_eq (XA := true) (XB := false) (z := true) C (tgt := 1400) (by rw [if_pos rfl]) dL_law_532 (by decide) (fun _ => ?_) (fun h => by cases h)
  exact kk _ _ hR2
set_option maxHeartbeats 4000000 in
set_option maxRecDepth 100000 in
theorem lb_period {p : Program} {l : Launch} {e : Env} {s : State} {m : MethodId} {args : Array Value} {below : List Frame} {meth : Method} {c : Code} {Q : State → Prop} {g : GG} {ad : Nat → Nat} {I : HI} {J : HJ} {N b L : Nat} {xs : Nat → Int32} {i : Int32} (C : Cx p s m args meth c RL code 4 g (AW ad nO)) (hX : va_X b L xs s s.heap) (hbl : b < s.heap.size) (hbA : ¬ AW ad nO b) (hi1 : vp_in (i + 1) L) (hi2 : vp_in (i + 2) L) (hi3 : vp_in (i + 3) L) (hN : N ≤ 1000000) (hR : Rel N I J) (kk : ∀ I J, Rel (N + 400) I J → V p l e room_1 s m args below meth c Q 4 600000 7302250 g (AW ad nO) ad nO oR I J 1400 [(3, .int i), (0, .ref b), (1, .ref (ad 0)), (2, .ref (ad 98))] []) : V p l e room_1 s m args below meth c Q 4 600000 7302250 g (AW ad nO) ad nO oR I J 537 [(3, .int i), (0, .ref b), (1, .ref (ad 0)), (2, .ref (ad 98))] [] := by
  obtain ⟨r, I2, h1, h2, hR2⟩ := sim_period hN hR 
  refine r_aload_n C 2 rfl rfl dL_law_537 ?_
  refine r_cvi C (rest := []) (c_X10_period h1) fm_X10_period lk_L_69 o_0 ⟨_, ct_9 o_0.1⟩ rfl rfl ⟨rfl, rfl, Nat.le_of_ble_eq_true rfl, Nat.le_of_ble_eq_true rfl⟩ (Nat.le_of_ble_eq_true rfl) rfl dL_law_538 ?_
  refine r_aload_n C 3 rfl rfl dL_law_541 ?_
  refine r_cvi C (rest := [.int r]) (c_X11_period h2) fm_X11_period lk_L_72 o_98 ⟨_, ct_10 o_98.1⟩ rfl rfl ⟨rfl, rfl, Nat.le_of_ble_eq_true rfl, Nat.le_of_ble_eq_true rfl⟩ (Nat.le_of_ble_eq_true rfl) rfl dL_law_542 ?_
  refine r_icmp_eq (XA := true) (XB := false) (z := true) C (tgt := 1400) (by rw [if_pos rfl]) dL_law_545 (by decide) (fun _ => ?_) (fun h => by cases h)
  exact kk _ _ hR2
set_option maxHeartbeats 4000000 in
set_option maxRecDepth 100000 in
theorem lb_kind {p : Program} {l : Launch} {e : Env} {s : State} {m : MethodId} {args : Array Value} {below : List Frame} {meth : Method} {c : Code} {Q : State → Prop} {g : GG} {ad : Nat → Nat} {I : HI} {J : HJ} {N b L : Nat} {xs : Nat → Int32} {i : Int32} (C : Cx p s m args meth c RL code 4 g (AW ad nO)) (hX : va_X b L xs s s.heap) (hbl : b < s.heap.size) (hbA : ¬ AW ad nO b) (hi1 : vp_in (i + 1) L) (hi2 : vp_in (i + 2) L) (hi3 : vp_in (i + 3) L) (hN : N ≤ 1000000) (hR : Rel N I J) (kk : ∀ I J, Rel (N + 400) I J → V p l e room_1 s m args below meth c Q 4 600000 7302250 g (AW ad nO) ad nO oR I J 1400 [(3, .int i), (0, .ref b), (1, .ref (ad 0)), (2, .ref (ad 98))] []) : V p l e room_1 s m args below meth c Q 4 600000 7302250 g (AW ad nO) ad nO oR I J 550 [(3, .int i), (0, .ref b), (1, .ref (ad 0)), (2, .ref (ad 98))] [] := by
  obtain ⟨r, I2, h1, h2, hR2⟩ := sim_kind hN hR 
  refine r_aload_n C 2 rfl rfl dL_law_550 ?_
  refine r_cvi C (rest := []) (c_X10_kind h1) fm_X10_kind lk_L_73 o_0 ⟨_, ct_9 o_0.1⟩ rfl rfl ⟨rfl, rfl, Nat.le_of_ble_eq_true rfl, Nat.le_of_ble_eq_true rfl⟩ (Nat.le_of_ble_eq_true rfl) rfl dL_law_551 ?_
  refine r_aload_n C 3 rfl rfl dL_law_554 ?_
  refine r_cvi C (rest := [.int r]) (c_X11_kind h2) fm_X11_kind lk_L_76 o_98 ⟨_, ct_10 o_98.1⟩ rfl rfl ⟨rfl, rfl, Nat.le_of_ble_eq_true rfl, Nat.le_of_ble_eq_true rfl⟩ (Nat.le_of_ble_eq_true rfl) rfl dL_law_555 ?_
  refine r_icmp_eq (XA := true) (XB := false) (z := true) C (tgt := 1400) (by rw [if_pos rfl]) dL_law_558 (by decide) (fun _ => ?_) (fun h => by cases h)
  exact kk _ _ hR2
set_option maxHeartbeats 4000000 in
set_option maxRecDepth 100000 in
theorem lb_order {p : Program} {l : Launch} {e : Env} {s : State} {m : MethodId} {args : Array Value} {below : List Frame} {meth : Method} {c : Code} {Q : State → Prop} {g : GG} {ad : Nat → Nat} {I : HI} {J : HJ} {N b L : Nat} {xs : Nat → Int32} {i : Int32} (C : Cx p s m args meth c RL code 4 g (AW ad nO)) (hX : va_X b L xs s s.heap) (hbl : b < s.heap.size) (hbA : ¬ AW ad nO b) (hi1 : vp_in (i + 1) L) (hi2 : vp_in (i + 2) L) (hi3 : vp_in (i + 3) L) (hN : N ≤ 1000000) (hR : Rel N I J) (kk : ∀ I J, Rel (N + 400) I J → V p l e room_1 s m args below meth c Q 4 600000 7302250 g (AW ad nO) ad nO oR I J 1400 [(3, .int i), (0, .ref b), (1, .ref (ad 0)), (2, .ref (ad 98))] []) : V p l e room_1 s m args below meth c Q 4 600000 7302250 g (AW ad nO) ad nO oR I J 563 [(3, .int i), (0, .ref b), (1, .ref (ad 0)), (2, .ref (ad 98))] [] := by
  obtain ⟨r, I2, h1, h2, hR2⟩ := sim_order hN hR 
  refine r_aload_n C 2 rfl rfl dL_law_563 ?_
  refine r_cvi C (rest := []) (c_X10_order h1) fm_X10_order lk_L_77 o_0 ⟨_, ct_9 o_0.1⟩ rfl rfl ⟨rfl, rfl, Nat.le_of_ble_eq_true rfl, Nat.le_of_ble_eq_true rfl⟩ (Nat.le_of_ble_eq_true rfl) rfl dL_law_564 ?_
  refine r_aload_n C 3 rfl rfl dL_law_567 ?_
  refine r_cvi C (rest := [.int r]) (c_X11_order h2) fm_X11_order lk_L_80 o_98 ⟨_, ct_10 o_98.1⟩ rfl rfl ⟨rfl, rfl, Nat.le_of_ble_eq_true rfl, Nat.le_of_ble_eq_true rfl⟩ (Nat.le_of_ble_eq_true rfl) rfl dL_law_568 ?_
  refine r_icmp_eq (XA := true) (XB := false) (z := true) C (tgt := 1400) (by rw [if_pos rfl]) dL_law_571 (by decide) (fun _ => ?_) (fun h => by cases h)
  exact kk _ _ hR2
set_option maxHeartbeats 4000000 in
set_option maxRecDepth 100000 in
theorem lb_hits {p : Program} {l : Launch} {e : Env} {s : State} {m : MethodId} {args : Array Value} {below : List Frame} {meth : Method} {c : Code} {Q : State → Prop} {g : GG} {ad : Nat → Nat} {I : HI} {J : HJ} {N b L : Nat} {xs : Nat → Int32} {i : Int32} (C : Cx p s m args meth c RL code 4 g (AW ad nO)) (hX : va_X b L xs s s.heap) (hbl : b < s.heap.size) (hbA : ¬ AW ad nO b) (hi1 : vp_in (i + 1) L) (hi2 : vp_in (i + 2) L) (hi3 : vp_in (i + 3) L) (hN : N ≤ 1000000) (hR : Rel N I J) (kk : ∀ I J, Rel (N + 400) I J → V p l e room_1 s m args below meth c Q 4 600000 7302250 g (AW ad nO) ad nO oR I J 1400 [(3, .int i), (0, .ref b), (1, .ref (ad 0)), (2, .ref (ad 98))] []) : V p l e room_1 s m args below meth c Q 4 600000 7302250 g (AW ad nO) ad nO oR I J 576 [(3, .int i), (0, .ref b), (1, .ref (ad 0)), (2, .ref (ad 98))] [] := by
  obtain ⟨r, I2, h1, h2, hR2⟩ := sim_hits hN hR (xs (i + 1).toNatClampNeg) (xs (i + 2).toNatClampNeg)
  refine r_aload_n C 2 rfl rfl dL_law_576 ?_
  refine r_aload_n C 1 rfl rfl dL_law_577 ?_
  refine r_iload_n C 0 rfl rfl dL_law_578 ?_
  refine r_iconst C (v := 1) (by decide) dL_law_579 ?_
  refine r_iadd C dL_law_580 ?_
  refine r_pc (pc1 := 581) rfl ?_
  refine r_scld C hX hbl hbA hi1 dL_law_581 ?_
  refine r_aload_n C 1 rfl rfl dL_law_582 ?_
  refine r_iload_n C 0 rfl rfl dL_law_583 ?_
  refine r_iconst C (v := 2) (by decide) dL_law_584 ?_
  refine r_iadd C dL_law_585 ?_
  refine r_scld C hX hbl hbA hi2 dL_law_586 ?_
  refine r_pc (pc1 := 587) rfl ?_
  refine r_cvi C (rest := []) (c_X10_hits h1) fm_X10_hits lk_L_81 o_0 ⟨_, ct_9 o_0.1⟩ rfl rfl ⟨rfl, rfl, Nat.le_of_ble_eq_true rfl, Nat.le_of_ble_eq_true rfl⟩ (Nat.le_of_ble_eq_true rfl) rfl dL_law_587 ?_
  refine r_aload_n C 3 rfl rfl dL_law_590 ?_
  refine r_aload_n C 1 rfl rfl dL_law_591 ?_
  refine r_iload_n C 0 rfl rfl dL_law_592 ?_
  refine r_iconst C (v := 1) (by decide) dL_law_593 ?_
  refine r_iadd C dL_law_594 ?_
  refine r_pc (pc1 := 595) rfl ?_
  refine r_scld C hX hbl hbA hi1 dL_law_595 ?_
  refine r_aload_n C 1 rfl rfl dL_law_596 ?_
  refine r_iload_n C 0 rfl rfl dL_law_597 ?_
  refine r_iconst C (v := 2) (by decide) dL_law_598 ?_
  refine r_iadd C dL_law_599 ?_
  refine r_scld C hX hbl hbA hi2 dL_law_600 ?_
  refine r_pc (pc1 := 601) rfl ?_
  refine r_cvi C (rest := [.int r]) (c_X11_hits h2) fm_X11_hits lk_L_84 o_98 ⟨_, ct_10 o_98.1⟩ rfl rfl ⟨rfl, rfl, Nat.le_of_ble_eq_true rfl, Nat.le_of_ble_eq_true rfl⟩ (Nat.le_of_ble_eq_true rfl) rfl dL_law_601 ?_
  refine r_icmp_eq (XA := true) (XB := false) (z := true) C (tgt := 1400) (by rw [if_pos rfl]) dL_law_604 (by decide) (fun _ => ?_) (fun h => by cases h)
  exact kk _ _ hR2
set_option maxHeartbeats 4000000 in
set_option maxRecDepth 100000 in
theorem lb_ahead {p : Program} {l : Launch} {e : Env} {s : State} {m : MethodId} {args : Array Value} {below : List Frame} {meth : Method} {c : Code} {Q : State → Prop} {g : GG} {ad : Nat → Nat} {I : HI} {J : HJ} {N b L : Nat} {xs : Nat → Int32} {i : Int32} (C : Cx p s m args meth c RL code 4 g (AW ad nO)) (hX : va_X b L xs s s.heap) (hbl : b < s.heap.size) (hbA : ¬ AW ad nO b) (hi1 : vp_in (i + 1) L) (hi2 : vp_in (i + 2) L) (hi3 : vp_in (i + 3) L) (hN : N ≤ 1000000) (hR : Rel N I J) (kk : ∀ I J, Rel (N + 400) I J → V p l e room_1 s m args below meth c Q 4 600000 7302250 g (AW ad nO) ad nO oR I J 1400 [(3, .int i), (0, .ref b), (1, .ref (ad 0)), (2, .ref (ad 98))] []) : V p l e room_1 s m args below meth c Q 4 600000 7302250 g (AW ad nO) ad nO oR I J 609 [(3, .int i), (0, .ref b), (1, .ref (ad 0)), (2, .ref (ad 98))] [] := by
  obtain ⟨r, I2, h1, h2, hR2⟩ := sim_ahead hN hR (xs (i + 1).toNatClampNeg)
  refine r_aload_n C 2 rfl rfl dL_law_609 ?_
  refine r_aload_n C 1 rfl rfl dL_law_610 ?_
  refine r_iload_n C 0 rfl rfl dL_law_611 ?_
  refine r_iconst C (v := 1) (by decide) dL_law_612 ?_
  refine r_iadd C dL_law_613 ?_
  refine r_pc (pc1 := 614) rfl ?_
  refine r_scld C hX hbl hbA hi1 dL_law_614 ?_
  refine r_cvi C (rest := []) (c_X10_ahead h1) fm_X10_ahead lk_L_85 o_0 ⟨_, ct_9 o_0.1⟩ rfl rfl ⟨rfl, rfl, Nat.le_of_ble_eq_true rfl, Nat.le_of_ble_eq_true rfl⟩ (Nat.le_of_ble_eq_true rfl) rfl dL_law_615 ?_
  refine r_aload_n C 3 rfl rfl dL_law_618 ?_
  refine r_aload_n C 1 rfl rfl dL_law_619 ?_
  refine r_iload_n C 0 rfl rfl dL_law_620 ?_
  refine r_iconst C (v := 1) (by decide) dL_law_621 ?_
  refine r_pc (pc1 := 622) rfl ?_
  refine r_iadd C dL_law_622 ?_
  refine r_scld C hX hbl hbA hi1 dL_law_623 ?_
  refine r_cvi C (rest := [.int r]) (c_X11_ahead h2) fm_X11_ahead lk_L_88 o_98 ⟨_, ct_10 o_98.1⟩ rfl rfl ⟨rfl, rfl, Nat.le_of_ble_eq_true rfl, Nat.le_of_ble_eq_true rfl⟩ (Nat.le_of_ble_eq_true rfl) rfl dL_law_624 ?_
  refine r_icmp_eq (XA := true) (XB := false) (z := true) C (tgt := 1400) (by rw [if_pos rfl]) dL_law_627 (by decide) (fun _ => ?_) (fun h => by cases h)
  exact kk _ _ hR2
set_option maxHeartbeats 4000000 in
set_option maxRecDepth 100000 in
theorem lb_rule {p : Program} {l : Launch} {e : Env} {s : State} {m : MethodId} {args : Array Value} {below : List Frame} {meth : Method} {c : Code} {Q : State → Prop} {g : GG} {ad : Nat → Nat} {I : HI} {J : HJ} {N b L : Nat} {xs : Nat → Int32} {i : Int32} (C : Cx p s m args meth c RL code 4 g (AW ad nO)) (hX : va_X b L xs s s.heap) (hbl : b < s.heap.size) (hbA : ¬ AW ad nO b) (hi1 : vp_in (i + 1) L) (hi2 : vp_in (i + 2) L) (hi3 : vp_in (i + 3) L) (hN : N ≤ 1000000) (hR : Rel N I J) (kk : ∀ I J, Rel (N + 400) I J → V p l e room_1 s m args below meth c Q 4 600000 7302250 g (AW ad nO) ad nO oR I J 1400 [(3, .int i), (0, .ref b), (1, .ref (ad 0)), (2, .ref (ad 98))] []) : V p l e room_1 s m args below meth c Q 4 600000 7302250 g (AW ad nO) ad nO oR I J 632 [(3, .int i), (0, .ref b), (1, .ref (ad 0)), (2, .ref (ad 98))] [] := by
  obtain ⟨r, I2, h1, h2, hR2⟩ := sim_rule hN hR (xs (i + 1).toNatClampNeg) (xs (i + 2).toNatClampNeg)
  refine r_aload_n C 2 rfl rfl dL_law_632 ?_
  refine r_aload_n C 1 rfl rfl dL_law_633 ?_
  refine r_iload_n C 0 rfl rfl dL_law_634 ?_
  refine r_iconst C (v := 1) (by decide) dL_law_635 ?_
  refine r_iadd C dL_law_636 ?_
  refine r_pc (pc1 := 637) rfl ?_
  refine r_scld C hX hbl hbA hi1 dL_law_637 ?_
  refine r_aload_n C 1 rfl rfl dL_law_638 ?_
  refine r_iload_n C 0 rfl rfl dL_law_639 ?_
  refine r_iconst C (v := 2) (by decide) dL_law_640 ?_
  refine r_iadd C dL_law_641 ?_
  refine r_scld C hX hbl hbA hi2 dL_law_642 ?_
  refine r_pc (pc1 := 643) rfl ?_
  refine r_cvi C (rest := []) (c_X10_rule h1) fm_X10_rule lk_L_89 o_0 ⟨_, ct_9 o_0.1⟩ rfl rfl ⟨rfl, rfl, Nat.le_of_ble_eq_true rfl, Nat.le_of_ble_eq_true rfl⟩ (Nat.le_of_ble_eq_true rfl) rfl dL_law_643 ?_
  refine r_aload_n C 3 rfl rfl dL_law_646 ?_
  refine r_aload_n C 1 rfl rfl dL_law_647 ?_
  refine r_iload_n C 0 rfl rfl dL_law_648 ?_
  refine r_iconst C (v := 1) (by decide) dL_law_649 ?_
  refine r_iadd C dL_law_650 ?_
  refine r_pc (pc1 := 651) rfl ?_
  refine r_scld C hX hbl hbA hi1 dL_law_651 ?_
  refine r_aload_n C 1 rfl rfl dL_law_652 ?_
  refine r_iload_n C 0 rfl rfl dL_law_653 ?_
  refine r_iconst C (v := 2) (by decide) dL_law_654 ?_
  refine r_iadd C dL_law_655 ?_
  refine r_scld C hX hbl hbA hi2 dL_law_656 ?_
  refine r_pc (pc1 := 657) rfl ?_
  refine r_cvi C (rest := [.int r]) (c_X11_rule h2) fm_X11_rule lk_L_92 o_98 ⟨_, ct_10 o_98.1⟩ rfl rfl ⟨rfl, rfl, Nat.le_of_ble_eq_true rfl, Nat.le_of_ble_eq_true rfl⟩ (Nat.le_of_ble_eq_true rfl) rfl dL_law_657 ?_
  refine r_icmp_eq (XA := true) (XB := false) (z := true) C (tgt := 1400) (by rw [if_pos rfl]) dL_law_660 (by decide) (fun _ => ?_) (fun h => by cases h)
  exact kk _ _ hR2
set_option maxHeartbeats 4000000 in
set_option maxRecDepth 100000 in
theorem lb_drift {p : Program} {l : Launch} {e : Env} {s : State} {m : MethodId} {args : Array Value} {below : List Frame} {meth : Method} {c : Code} {Q : State → Prop} {g : GG} {ad : Nat → Nat} {I : HI} {J : HJ} {N b L : Nat} {xs : Nat → Int32} {i : Int32} (C : Cx p s m args meth c RL code 4 g (AW ad nO)) (hX : va_X b L xs s s.heap) (hbl : b < s.heap.size) (hbA : ¬ AW ad nO b) (hi1 : vp_in (i + 1) L) (hi2 : vp_in (i + 2) L) (hi3 : vp_in (i + 3) L) (hN : N ≤ 1000000) (hR : Rel N I J) (kk : ∀ I J, Rel (N + 400) I J → V p l e room_1 s m args below meth c Q 4 600000 7302250 g (AW ad nO) ad nO oR I J 1400 [(3, .int i), (0, .ref b), (1, .ref (ad 0)), (2, .ref (ad 98))] []) : V p l e room_1 s m args below meth c Q 4 600000 7302250 g (AW ad nO) ad nO oR I J 665 [(3, .int i), (0, .ref b), (1, .ref (ad 0)), (2, .ref (ad 98))] [] := by
  obtain ⟨r, I2, h1, h2, hR2⟩ := sim_drift hN hR (xs (i + 1).toNatClampNeg)
  refine r_aload_n C 2 rfl rfl dL_law_665 ?_
  refine r_aload_n C 1 rfl rfl dL_law_666 ?_
  refine r_iload_n C 0 rfl rfl dL_law_667 ?_
  refine r_iconst C (v := 1) (by decide) dL_law_668 ?_
  refine r_iadd C dL_law_669 ?_
  refine r_pc (pc1 := 670) rfl ?_
  refine r_scld C hX hbl hbA hi1 dL_law_670 ?_
  refine r_cvi C (rest := []) (c_X10_drift h1) fm_X10_drift lk_L_93 o_0 ⟨_, ct_9 o_0.1⟩ rfl rfl ⟨rfl, rfl, Nat.le_of_ble_eq_true rfl, Nat.le_of_ble_eq_true rfl⟩ (Nat.le_of_ble_eq_true rfl) rfl dL_law_671 ?_
  refine r_aload_n C 3 rfl rfl dL_law_674 ?_
  refine r_aload_n C 1 rfl rfl dL_law_675 ?_
  refine r_iload_n C 0 rfl rfl dL_law_676 ?_
  refine r_iconst C (v := 1) (by decide) dL_law_677 ?_
  refine r_pc (pc1 := 678) rfl ?_
  refine r_iadd C dL_law_678 ?_
  refine r_scld C hX hbl hbA hi1 dL_law_679 ?_
  refine r_cvi C (rest := [.int r]) (c_X11_drift h2) fm_X11_drift lk_L_96 o_98 ⟨_, ct_10 o_98.1⟩ rfl rfl ⟨rfl, rfl, Nat.le_of_ble_eq_true rfl, Nat.le_of_ble_eq_true rfl⟩ (Nat.le_of_ble_eq_true rfl) rfl dL_law_680 ?_
  refine r_icmp_eq (XA := true) (XB := false) (z := true) C (tgt := 1400) (by rw [if_pos rfl]) dL_law_683 (by decide) (fun _ => ?_) (fun h => by cases h)
  exact kk _ _ hR2
set_option maxHeartbeats 4000000 in
set_option maxRecDepth 100000 in
theorem lb_span {p : Program} {l : Launch} {e : Env} {s : State} {m : MethodId} {args : Array Value} {below : List Frame} {meth : Method} {c : Code} {Q : State → Prop} {g : GG} {ad : Nat → Nat} {I : HI} {J : HJ} {N b L : Nat} {xs : Nat → Int32} {i : Int32} (C : Cx p s m args meth c RL code 4 g (AW ad nO)) (hX : va_X b L xs s s.heap) (hbl : b < s.heap.size) (hbA : ¬ AW ad nO b) (hi1 : vp_in (i + 1) L) (hi2 : vp_in (i + 2) L) (hi3 : vp_in (i + 3) L) (hN : N ≤ 1000000) (hR : Rel N I J) (kk : ∀ I J, Rel (N + 400) I J → V p l e room_1 s m args below meth c Q 4 600000 7302250 g (AW ad nO) ad nO oR I J 1400 [(3, .int i), (0, .ref b), (1, .ref (ad 0)), (2, .ref (ad 98))] []) : V p l e room_1 s m args below meth c Q 4 600000 7302250 g (AW ad nO) ad nO oR I J 688 [(3, .int i), (0, .ref b), (1, .ref (ad 0)), (2, .ref (ad 98))] [] := by
  obtain ⟨r, I2, h1, h2, hR2⟩ := sim_span hN hR (xs (i + 1).toNatClampNeg)
  refine r_aload_n C 2 rfl rfl dL_law_688 ?_
  refine r_aload_n C 1 rfl rfl dL_law_689 ?_
  refine r_iload_n C 0 rfl rfl dL_law_690 ?_
  refine r_iconst C (v := 1) (by decide) dL_law_691 ?_
  refine r_iadd C dL_law_692 ?_
  refine r_pc (pc1 := 693) rfl ?_
  refine r_scld C hX hbl hbA hi1 dL_law_693 ?_
  refine r_cvi C (rest := []) (c_X10_span h1) fm_X10_span lk_L_97 o_0 ⟨_, ct_9 o_0.1⟩ rfl rfl ⟨rfl, rfl, Nat.le_of_ble_eq_true rfl, Nat.le_of_ble_eq_true rfl⟩ (Nat.le_of_ble_eq_true rfl) rfl dL_law_694 ?_
  refine r_aload_n C 3 rfl rfl dL_law_697 ?_
  refine r_aload_n C 1 rfl rfl dL_law_698 ?_
  refine r_iload_n C 0 rfl rfl dL_law_699 ?_
  refine r_iconst C (v := 1) (by decide) dL_law_700 ?_
  refine r_pc (pc1 := 701) rfl ?_
  refine r_iadd C dL_law_701 ?_
  refine r_scld C hX hbl hbA hi1 dL_law_702 ?_
  refine r_cvi C (rest := [.int r]) (c_X11_span h2) fm_X11_span lk_L_100 o_98 ⟨_, ct_10 o_98.1⟩ rfl rfl ⟨rfl, rfl, Nat.le_of_ble_eq_true rfl, Nat.le_of_ble_eq_true rfl⟩ (Nat.le_of_ble_eq_true rfl) rfl dL_law_703 ?_
  refine r_icmp_eq (XA := true) (XB := false) (z := true) C (tgt := 1400) (by rw [if_pos rfl]) dL_law_706 (by decide) (fun _ => ?_) (fun h => by cases h)
  exact kk _ _ hR2
set_option maxHeartbeats 4000000 in
set_option maxRecDepth 100000 in
theorem lb_grid {p : Program} {l : Launch} {e : Env} {s : State} {m : MethodId} {args : Array Value} {below : List Frame} {meth : Method} {c : Code} {Q : State → Prop} {g : GG} {ad : Nat → Nat} {I : HI} {J : HJ} {N b L : Nat} {xs : Nat → Int32} {i : Int32} (C : Cx p s m args meth c RL code 4 g (AW ad nO)) (hX : va_X b L xs s s.heap) (hbl : b < s.heap.size) (hbA : ¬ AW ad nO b) (hi1 : vp_in (i + 1) L) (hi2 : vp_in (i + 2) L) (hi3 : vp_in (i + 3) L) (hN : N ≤ 1000000) (hR : Rel N I J) (kk : ∀ I J, Rel (N + 400) I J → V p l e room_1 s m args below meth c Q 4 600000 7302250 g (AW ad nO) ad nO oR I J 1400 [(3, .int i), (0, .ref b), (1, .ref (ad 0)), (2, .ref (ad 98))] []) : V p l e room_1 s m args below meth c Q 4 600000 7302250 g (AW ad nO) ad nO oR I J 711 [(3, .int i), (0, .ref b), (1, .ref (ad 0)), (2, .ref (ad 98))] [] := by
  obtain ⟨r, I1, J1, I2, J2, h1, h2, hR2⟩ := sim_grid hN hR (xs (i + 1).toNatClampNeg)
  refine r_aload_n C 2 rfl rfl dL_law_711 ?_
  refine r_aload_n C 1 rfl rfl dL_law_712 ?_
  refine r_iload_n C 0 rfl rfl dL_law_713 ?_
  refine r_iconst C (v := 1) (by decide) dL_law_714 ?_
  refine r_iadd C dL_law_715 ?_
  refine r_pc (pc1 := 716) rfl ?_
  refine r_scld C hX hbl hbA hi1 dL_law_716 ?_
  refine r_cvi C (rest := []) (c_X10_grid h1) fm_X10_grid lk_L_101 o_0 ⟨_, ct_9 o_0.1⟩ rfl rfl ⟨rfl, rfl, Nat.le_of_ble_eq_true rfl, Nat.le_of_ble_eq_true rfl⟩ (Nat.le_of_ble_eq_true rfl) rfl dL_law_717 ?_
  refine r_aload_n C 3 rfl rfl dL_law_720 ?_
  refine r_aload_n C 1 rfl rfl dL_law_721 ?_
  refine r_iload_n C 0 rfl rfl dL_law_722 ?_
  refine r_iconst C (v := 1) (by decide) dL_law_723 ?_
  refine r_pc (pc1 := 724) rfl ?_
  refine r_iadd C dL_law_724 ?_
  refine r_scld C hX hbl hbA hi1 dL_law_725 ?_
  refine r_cvi C (rest := [.int r]) (c_X11_grid h2) fm_X11_grid lk_L_104 o_98 ⟨_, ct_10 o_98.1⟩ rfl rfl ⟨rfl, rfl, Nat.le_of_ble_eq_true rfl, Nat.le_of_ble_eq_true rfl⟩ (Nat.le_of_ble_eq_true rfl) rfl dL_law_726 ?_
  refine r_icmp_eq (XA := true) (XB := false) (z := true) C (tgt := 1400) (by rw [if_pos rfl]) dL_law_729 (by decide) (fun _ => ?_) (fun h => by cases h)
  exact kk _ _ hR2
set_option maxHeartbeats 4000000 in
set_option maxRecDepth 100000 in
theorem lb_doubling {p : Program} {l : Launch} {e : Env} {s : State} {m : MethodId} {args : Array Value} {below : List Frame} {meth : Method} {c : Code} {Q : State → Prop} {g : GG} {ad : Nat → Nat} {I : HI} {J : HJ} {N b L : Nat} {xs : Nat → Int32} {i : Int32} (C : Cx p s m args meth c RL code 4 g (AW ad nO)) (hX : va_X b L xs s s.heap) (hbl : b < s.heap.size) (hbA : ¬ AW ad nO b) (hi1 : vp_in (i + 1) L) (hi2 : vp_in (i + 2) L) (hi3 : vp_in (i + 3) L) (hN : N ≤ 1000000) (hR : Rel N I J) (kk : ∀ I J, Rel (N + 400) I J → V p l e room_1 s m args below meth c Q 4 600000 7302250 g (AW ad nO) ad nO oR I J 1400 [(3, .int i), (0, .ref b), (1, .ref (ad 0)), (2, .ref (ad 98))] []) : V p l e room_1 s m args below meth c Q 4 600000 7302250 g (AW ad nO) ad nO oR I J 734 [(3, .int i), (0, .ref b), (1, .ref (ad 0)), (2, .ref (ad 98))] [] := by
  obtain ⟨r, I1, J1, I2, J2, h1, h2, hR2⟩ := sim_doubling hN hR (xs (i + 1).toNatClampNeg) (xs (i + 2).toNatClampNeg)
  refine r_aload_n C 2 rfl rfl dL_law_734 ?_
  refine r_aload_n C 1 rfl rfl dL_law_735 ?_
  refine r_iload_n C 0 rfl rfl dL_law_736 ?_
  refine r_iconst C (v := 1) (by decide) dL_law_737 ?_
  refine r_iadd C dL_law_738 ?_
  refine r_pc (pc1 := 739) rfl ?_
  refine r_scld C hX hbl hbA hi1 dL_law_739 ?_
  refine r_aload_n C 1 rfl rfl dL_law_740 ?_
  refine r_iload_n C 0 rfl rfl dL_law_741 ?_
  refine r_iconst C (v := 2) (by decide) dL_law_742 ?_
  refine r_iadd C dL_law_743 ?_
  refine r_scld C hX hbl hbA hi2 dL_law_744 ?_
  refine r_pc (pc1 := 745) rfl ?_
  refine r_cvi C (rest := []) (c_X10_doubling h1) fm_X10_doubling lk_L_105 o_0 ⟨_, ct_9 o_0.1⟩ rfl rfl ⟨rfl, rfl, Nat.le_of_ble_eq_true rfl, Nat.le_of_ble_eq_true rfl⟩ (Nat.le_of_ble_eq_true rfl) rfl dL_law_745 ?_
  refine r_aload_n C 3 rfl rfl dL_law_748 ?_
  refine r_aload_n C 1 rfl rfl dL_law_749 ?_
  refine r_iload_n C 0 rfl rfl dL_law_750 ?_
  refine r_iconst C (v := 1) (by decide) dL_law_751 ?_
  refine r_iadd C dL_law_752 ?_
  refine r_pc (pc1 := 753) rfl ?_
  refine r_scld C hX hbl hbA hi1 dL_law_753 ?_
  refine r_aload_n C 1 rfl rfl dL_law_754 ?_
  refine r_iload_n C 0 rfl rfl dL_law_755 ?_
  refine r_iconst C (v := 2) (by decide) dL_law_756 ?_
  refine r_iadd C dL_law_757 ?_
  refine r_scld C hX hbl hbA hi2 dL_law_758 ?_
  refine r_pc (pc1 := 759) rfl ?_
  refine r_cvi C (rest := [.int r]) (c_X11_doubling h2) fm_X11_doubling lk_L_108 o_98 ⟨_, ct_10 o_98.1⟩ rfl rfl ⟨rfl, rfl, Nat.le_of_ble_eq_true rfl, Nat.le_of_ble_eq_true rfl⟩ (Nat.le_of_ble_eq_true rfl) rfl dL_law_759 ?_
  refine r_icmp_eq (XA := true) (XB := false) (z := true) C (tgt := 1400) (by rw [if_pos rfl]) dL_law_762 (by decide) (fun _ => ?_) (fun h => by cases h)
  exact kk _ _ hR2
set_option maxHeartbeats 4000000 in
set_option maxRecDepth 100000 in
theorem lb_windows {p : Program} {l : Launch} {e : Env} {s : State} {m : MethodId} {args : Array Value} {below : List Frame} {meth : Method} {c : Code} {Q : State → Prop} {g : GG} {ad : Nat → Nat} {I : HI} {J : HJ} {N b L : Nat} {xs : Nat → Int32} {i : Int32} (C : Cx p s m args meth c RL code 4 g (AW ad nO)) (hX : va_X b L xs s s.heap) (hbl : b < s.heap.size) (hbA : ¬ AW ad nO b) (hi1 : vp_in (i + 1) L) (hi2 : vp_in (i + 2) L) (hi3 : vp_in (i + 3) L) (hN : N ≤ 1000000) (hR : Rel N I J) (kk : ∀ I J, Rel (N + 400) I J → V p l e room_1 s m args below meth c Q 4 600000 7302250 g (AW ad nO) ad nO oR I J 1400 [(3, .int i), (0, .ref b), (1, .ref (ad 0)), (2, .ref (ad 98))] []) : V p l e room_1 s m args below meth c Q 4 600000 7302250 g (AW ad nO) ad nO oR I J 767 [(3, .int i), (0, .ref b), (1, .ref (ad 0)), (2, .ref (ad 98))] [] := by
  obtain ⟨r, I1, J1, I2, J2, h1, h2, hR2⟩ := sim_windows hN hR (xs (i + 1).toNatClampNeg) (xs (i + 2).toNatClampNeg)
  refine r_aload_n C 2 rfl rfl dL_law_767 ?_
  refine r_aload_n C 1 rfl rfl dL_law_768 ?_
  refine r_iload_n C 0 rfl rfl dL_law_769 ?_
  refine r_iconst C (v := 1) (by decide) dL_law_770 ?_
  refine r_iadd C dL_law_771 ?_
  refine r_pc (pc1 := 772) rfl ?_
  refine r_scld C hX hbl hbA hi1 dL_law_772 ?_
  refine r_aload_n C 1 rfl rfl dL_law_773 ?_
  refine r_iload_n C 0 rfl rfl dL_law_774 ?_
  refine r_iconst C (v := 2) (by decide) dL_law_775 ?_
  refine r_iadd C dL_law_776 ?_
  refine r_scld C hX hbl hbA hi2 dL_law_777 ?_
  refine r_pc (pc1 := 778) rfl ?_
  refine r_cvi C (rest := []) (c_X10_windows h1) fm_X10_windows lk_L_109 o_0 ⟨_, ct_9 o_0.1⟩ rfl rfl ⟨rfl, rfl, Nat.le_of_ble_eq_true rfl, Nat.le_of_ble_eq_true rfl⟩ (Nat.le_of_ble_eq_true rfl) rfl dL_law_778 ?_
  refine r_aload_n C 3 rfl rfl dL_law_781 ?_
  refine r_aload_n C 1 rfl rfl dL_law_782 ?_
  refine r_iload_n C 0 rfl rfl dL_law_783 ?_
  refine r_iconst C (v := 1) (by decide) dL_law_784 ?_
  refine r_iadd C dL_law_785 ?_
  refine r_pc (pc1 := 786) rfl ?_
  refine r_scld C hX hbl hbA hi1 dL_law_786 ?_
  refine r_aload_n C 1 rfl rfl dL_law_787 ?_
  refine r_iload_n C 0 rfl rfl dL_law_788 ?_
  refine r_iconst C (v := 2) (by decide) dL_law_789 ?_
  refine r_iadd C dL_law_790 ?_
  refine r_scld C hX hbl hbA hi2 dL_law_791 ?_
  refine r_pc (pc1 := 792) rfl ?_
  refine r_cvi C (rest := [.int r]) (c_X11_windows h2) fm_X11_windows lk_L_112 o_98 ⟨_, ct_10 o_98.1⟩ rfl rfl ⟨rfl, rfl, Nat.le_of_ble_eq_true rfl, Nat.le_of_ble_eq_true rfl⟩ (Nat.le_of_ble_eq_true rfl) rfl dL_law_792 ?_
  refine r_icmp_eq (XA := true) (XB := false) (z := true) C (tgt := 1400) (by rw [if_pos rfl]) dL_law_795 (by decide) (fun _ => ?_) (fun h => by cases h)
  exact kk _ _ hR2
set_option maxHeartbeats 4000000 in
set_option maxRecDepth 100000 in
theorem lb_touch {p : Program} {l : Launch} {e : Env} {s : State} {m : MethodId} {args : Array Value} {below : List Frame} {meth : Method} {c : Code} {Q : State → Prop} {g : GG} {ad : Nat → Nat} {I : HI} {J : HJ} {N b L : Nat} {xs : Nat → Int32} {i : Int32} (C : Cx p s m args meth c RL code 4 g (AW ad nO)) (hX : va_X b L xs s s.heap) (hbl : b < s.heap.size) (hbA : ¬ AW ad nO b) (hi1 : vp_in (i + 1) L) (hi2 : vp_in (i + 2) L) (hi3 : vp_in (i + 3) L) (hN : N ≤ 1000000) (hR : Rel N I J) (kk : ∀ I J, Rel (N + 400) I J → V p l e room_1 s m args below meth c Q 4 600000 7302250 g (AW ad nO) ad nO oR I J 1400 [(3, .int i), (0, .ref b), (1, .ref (ad 0)), (2, .ref (ad 98))] []) : V p l e room_1 s m args below meth c Q 4 600000 7302250 g (AW ad nO) ad nO oR I J 800 [(3, .int i), (0, .ref b), (1, .ref (ad 0)), (2, .ref (ad 98))] [] := by
  obtain ⟨r, I1, J1, I2, J2, h1, h2, hR2⟩ := sim_touch hN hR (xs (i + 1).toNatClampNeg)
  refine r_aload_n C 2 rfl rfl dL_law_800 ?_
  refine r_aload_n C 1 rfl rfl dL_law_801 ?_
  refine r_iload_n C 0 rfl rfl dL_law_802 ?_
  refine r_iconst C (v := 1) (by decide) dL_law_803 ?_
  refine r_iadd C dL_law_804 ?_
  refine r_pc (pc1 := 805) rfl ?_
  refine r_scld C hX hbl hbA hi1 dL_law_805 ?_
  refine r_cvi C (rest := []) (c_X10_touch h1) fm_X10_touch lk_L_113 o_0 ⟨_, ct_9 o_0.1⟩ rfl rfl ⟨rfl, rfl, Nat.le_of_ble_eq_true rfl, Nat.le_of_ble_eq_true rfl⟩ (Nat.le_of_ble_eq_true rfl) rfl dL_law_806 ?_
  refine r_aload_n C 3 rfl rfl dL_law_809 ?_
  refine r_aload_n C 1 rfl rfl dL_law_810 ?_
  refine r_iload_n C 0 rfl rfl dL_law_811 ?_
  refine r_iconst C (v := 1) (by decide) dL_law_812 ?_
  refine r_pc (pc1 := 813) rfl ?_
  refine r_iadd C dL_law_813 ?_
  refine r_scld C hX hbl hbA hi1 dL_law_814 ?_
  refine r_cvi C (rest := [.int r]) (c_X11_touch h2) fm_X11_touch lk_L_116 o_98 ⟨_, ct_10 o_98.1⟩ rfl rfl ⟨rfl, rfl, Nat.le_of_ble_eq_true rfl, Nat.le_of_ble_eq_true rfl⟩ (Nat.le_of_ble_eq_true rfl) rfl dL_law_815 ?_
  refine r_icmp_eq (XA := true) (XB := false) (z := true) C (tgt := 1400) (by rw [if_pos rfl]) dL_law_818 (by decide) (fun _ => ?_) (fun h => by cases h)
  exact kk _ _ hR2
set_option maxHeartbeats 4000000 in
set_option maxRecDepth 100000 in
theorem lb_lost {p : Program} {l : Launch} {e : Env} {s : State} {m : MethodId} {args : Array Value} {below : List Frame} {meth : Method} {c : Code} {Q : State → Prop} {g : GG} {ad : Nat → Nat} {I : HI} {J : HJ} {N b L : Nat} {xs : Nat → Int32} {i : Int32} (C : Cx p s m args meth c RL code 4 g (AW ad nO)) (hX : va_X b L xs s s.heap) (hbl : b < s.heap.size) (hbA : ¬ AW ad nO b) (hi1 : vp_in (i + 1) L) (hi2 : vp_in (i + 2) L) (hi3 : vp_in (i + 3) L) (hN : N ≤ 1000000) (hR : Rel N I J) (kk : ∀ I J, Rel (N + 400) I J → V p l e room_1 s m args below meth c Q 4 600000 7302250 g (AW ad nO) ad nO oR I J 1400 [(3, .int i), (0, .ref b), (1, .ref (ad 0)), (2, .ref (ad 98))] []) : V p l e room_1 s m args below meth c Q 4 600000 7302250 g (AW ad nO) ad nO oR I J 823 [(3, .int i), (0, .ref b), (1, .ref (ad 0)), (2, .ref (ad 98))] [] := by
  obtain ⟨r, I1, J1, I2, J2, h1, h2, hR2⟩ := sim_lost hN hR (xs (i + 1).toNatClampNeg)
  refine r_aload_n C 2 rfl rfl dL_law_823 ?_
  refine r_aload_n C 1 rfl rfl dL_law_824 ?_
  refine r_iload_n C 0 rfl rfl dL_law_825 ?_
  refine r_iconst C (v := 1) (by decide) dL_law_826 ?_
  refine r_iadd C dL_law_827 ?_
  refine r_pc (pc1 := 828) rfl ?_
  refine r_scld C hX hbl hbA hi1 dL_law_828 ?_
  refine r_cvi C (rest := []) (c_X10_lost h1) fm_X10_lost lk_L_117 o_0 ⟨_, ct_9 o_0.1⟩ rfl rfl ⟨rfl, rfl, Nat.le_of_ble_eq_true rfl, Nat.le_of_ble_eq_true rfl⟩ (Nat.le_of_ble_eq_true rfl) rfl dL_law_829 ?_
  refine r_aload_n C 3 rfl rfl dL_law_832 ?_
  refine r_aload_n C 1 rfl rfl dL_law_833 ?_
  refine r_iload_n C 0 rfl rfl dL_law_834 ?_
  refine r_iconst C (v := 1) (by decide) dL_law_835 ?_
  refine r_pc (pc1 := 836) rfl ?_
  refine r_iadd C dL_law_836 ?_
  refine r_scld C hX hbl hbA hi1 dL_law_837 ?_
  refine r_cvi C (rest := [.int r]) (c_X11_lost h2) fm_X11_lost lk_L_120 o_98 ⟨_, ct_10 o_98.1⟩ rfl rfl ⟨rfl, rfl, Nat.le_of_ble_eq_true rfl, Nat.le_of_ble_eq_true rfl⟩ (Nat.le_of_ble_eq_true rfl) rfl dL_law_838 ?_
  refine r_icmp_eq (XA := true) (XB := false) (z := true) C (tgt := 1400) (by rw [if_pos rfl]) dL_law_841 (by decide) (fun _ => ?_) (fun h => by cases h)
  exact kk _ _ hR2
set_option maxHeartbeats 4000000 in
set_option maxRecDepth 100000 in
theorem lb_prove {p : Program} {l : Launch} {e : Env} {s : State} {m : MethodId} {args : Array Value} {below : List Frame} {meth : Method} {c : Code} {Q : State → Prop} {g : GG} {ad : Nat → Nat} {I : HI} {J : HJ} {N b L : Nat} {xs : Nat → Int32} {i : Int32} (C : Cx p s m args meth c RL code 4 g (AW ad nO)) (hX : va_X b L xs s s.heap) (hbl : b < s.heap.size) (hbA : ¬ AW ad nO b) (hi1 : vp_in (i + 1) L) (hi2 : vp_in (i + 2) L) (hi3 : vp_in (i + 3) L) (hN : N ≤ 1000000) (hR : Rel N I J) (kk : ∀ I J, Rel (N + 400) I J → V p l e room_1 s m args below meth c Q 4 600000 7302250 g (AW ad nO) ad nO oR I J 1400 [(3, .int i), (0, .ref b), (1, .ref (ad 0)), (2, .ref (ad 98))] []) : V p l e room_1 s m args below meth c Q 4 600000 7302250 g (AW ad nO) ad nO oR I J 846 [(3, .int i), (0, .ref b), (1, .ref (ad 0)), (2, .ref (ad 98))] [] := by
  obtain ⟨r, I1, J1, I2, J2, h1, h2, hR2⟩ := sim_prove hN hR (xs (i + 1).toNatClampNeg)
  refine r_aload_n C 2 rfl rfl dL_law_846 ?_
  refine r_aload_n C 1 rfl rfl dL_law_847 ?_
  refine r_iload_n C 0 rfl rfl dL_law_848 ?_
  refine r_iconst C (v := 1) (by decide) dL_law_849 ?_
  refine r_iadd C dL_law_850 ?_
  refine r_pc (pc1 := 851) rfl ?_
  refine r_scld C hX hbl hbA hi1 dL_law_851 ?_
  refine r_cvi C (rest := []) (c_X10_prove h1) fm_X10_prove lk_L_121 o_0 ⟨_, ct_9 o_0.1⟩ rfl rfl ⟨rfl, rfl, Nat.le_of_ble_eq_true rfl, Nat.le_of_ble_eq_true rfl⟩ (Nat.le_of_ble_eq_true rfl) rfl dL_law_852 ?_
  refine r_aload_n C 3 rfl rfl dL_law_855 ?_
  refine r_aload_n C 1 rfl rfl dL_law_856 ?_
  refine r_iload_n C 0 rfl rfl dL_law_857 ?_
  refine r_iconst C (v := 1) (by decide) dL_law_858 ?_
  refine r_pc (pc1 := 859) rfl ?_
  refine r_iadd C dL_law_859 ?_
  refine r_scld C hX hbl hbA hi1 dL_law_860 ?_
  refine r_cvi C (rest := [.int r]) (c_X11_prove h2) fm_X11_prove lk_L_124 o_98 ⟨_, ct_10 o_98.1⟩ rfl rfl ⟨rfl, rfl, Nat.le_of_ble_eq_true rfl, Nat.le_of_ble_eq_true rfl⟩ (Nat.le_of_ble_eq_true rfl) rfl dL_law_861 ?_
  refine r_icmp_eq (XA := true) (XB := false) (z := true) C (tgt := 1400) (by rw [if_pos rfl]) dL_law_864 (by decide) (fun _ => ?_) (fun h => by cases h)
  exact kk _ _ hR2
set_option maxHeartbeats 4000000 in
set_option maxRecDepth 100000 in
theorem lb_row {p : Program} {l : Launch} {e : Env} {s : State} {m : MethodId} {args : Array Value} {below : List Frame} {meth : Method} {c : Code} {Q : State → Prop} {g : GG} {ad : Nat → Nat} {I : HI} {J : HJ} {N b L : Nat} {xs : Nat → Int32} {i : Int32} (C : Cx p s m args meth c RL code 4 g (AW ad nO)) (hX : va_X b L xs s s.heap) (hbl : b < s.heap.size) (hbA : ¬ AW ad nO b) (hi1 : vp_in (i + 1) L) (hi2 : vp_in (i + 2) L) (hi3 : vp_in (i + 3) L) (hN : N ≤ 1000000) (hR : Rel N I J) (kk : ∀ I J, Rel (N + 400) I J → V p l e room_1 s m args below meth c Q 4 600000 7302250 g (AW ad nO) ad nO oR I J 1400 [(3, .int i), (0, .ref b), (1, .ref (ad 0)), (2, .ref (ad 98))] []) : V p l e room_1 s m args below meth c Q 4 600000 7302250 g (AW ad nO) ad nO oR I J 869 [(3, .int i), (0, .ref b), (1, .ref (ad 0)), (2, .ref (ad 98))] [] := by
  obtain ⟨r, h1, h2, hR2⟩ := sim_row hN hR (xs (i + 1).toNatClampNeg) (xs (i + 2).toNatClampNeg)
  refine r_aload_n C 2 rfl rfl dL_law_869 ?_
  refine r_aload_n C 1 rfl rfl dL_law_870 ?_
  refine r_iload_n C 0 rfl rfl dL_law_871 ?_
  refine r_iconst C (v := 1) (by decide) dL_law_872 ?_
  refine r_iadd C dL_law_873 ?_
  refine r_pc (pc1 := 874) rfl ?_
  refine r_scld C hX hbl hbA hi1 dL_law_874 ?_
  refine r_aload_n C 1 rfl rfl dL_law_875 ?_
  refine r_iload_n C 0 rfl rfl dL_law_876 ?_
  refine r_iconst C (v := 2) (by decide) dL_law_877 ?_
  refine r_iadd C dL_law_878 ?_
  refine r_scld C hX hbl hbA hi2 dL_law_879 ?_
  refine r_pc (pc1 := 880) rfl ?_
  refine r_cvi C (rest := []) (c_X10_row h1) fm_X10_row lk_L_125 o_0 ⟨_, ct_9 o_0.1⟩ rfl rfl ⟨rfl, rfl, Nat.le_of_ble_eq_true rfl, Nat.le_of_ble_eq_true rfl⟩ (Nat.le_of_ble_eq_true rfl) rfl dL_law_880 ?_
  refine r_aload_n C 3 rfl rfl dL_law_883 ?_
  refine r_aload_n C 1 rfl rfl dL_law_884 ?_
  refine r_iload_n C 0 rfl rfl dL_law_885 ?_
  refine r_iconst C (v := 1) (by decide) dL_law_886 ?_
  refine r_iadd C dL_law_887 ?_
  refine r_pc (pc1 := 888) rfl ?_
  refine r_scld C hX hbl hbA hi1 dL_law_888 ?_
  refine r_aload_n C 1 rfl rfl dL_law_889 ?_
  refine r_iload_n C 0 rfl rfl dL_law_890 ?_
  refine r_iconst C (v := 2) (by decide) dL_law_891 ?_
  refine r_iadd C dL_law_892 ?_
  refine r_scld C hX hbl hbA hi2 dL_law_893 ?_
  refine r_pc (pc1 := 894) rfl ?_
  refine r_cvi C (rest := [.int r]) (c_X11_row h2) fm_X11_row lk_L_128 o_98 ⟨_, ct_10 o_98.1⟩ rfl rfl ⟨rfl, rfl, Nat.le_of_ble_eq_true rfl, Nat.le_of_ble_eq_true rfl⟩ (Nat.le_of_ble_eq_true rfl) rfl dL_law_894 ?_
  refine r_icmp_eq (XA := true) (XB := false) (z := true) C (tgt := 1400) (by rw [if_pos rfl]) dL_law_897 (by decide) (fun _ => ?_) (fun h => by cases h)
  exact kk _ _ hR2
set_option maxHeartbeats 4000000 in
set_option maxRecDepth 100000 in
theorem lb_alterRow {p : Program} {l : Launch} {e : Env} {s : State} {m : MethodId} {args : Array Value} {below : List Frame} {meth : Method} {c : Code} {Q : State → Prop} {g : GG} {ad : Nat → Nat} {I : HI} {J : HJ} {N b L : Nat} {xs : Nat → Int32} {i : Int32} (C : Cx p s m args meth c RL code 4 g (AW ad nO)) (hX : va_X b L xs s s.heap) (hbl : b < s.heap.size) (hbA : ¬ AW ad nO b) (hi1 : vp_in (i + 1) L) (hi2 : vp_in (i + 2) L) (hi3 : vp_in (i + 3) L) (hN : N ≤ 1000000) (hR : Rel N I J) (kk : ∀ I J, Rel (N + 400) I J → V p l e room_1 s m args below meth c Q 4 600000 7302250 g (AW ad nO) ad nO oR I J 1400 [(3, .int i), (0, .ref b), (1, .ref (ad 0)), (2, .ref (ad 98))] []) : V p l e room_1 s m args below meth c Q 4 600000 7302250 g (AW ad nO) ad nO oR I J 902 [(3, .int i), (0, .ref b), (1, .ref (ad 0)), (2, .ref (ad 98))] [] := by
  obtain ⟨r, I1, I2, h1, h2, hR2⟩ := sim_alterRow hN hR (xs (i + 1).toNatClampNeg) (xs (i + 2).toNatClampNeg) (xs (i + 3).toNatClampNeg)
  refine r_aload_n C 2 rfl rfl dL_law_902 ?_
  refine r_aload_n C 1 rfl rfl dL_law_903 ?_
  refine r_iload_n C 0 rfl rfl dL_law_904 ?_
  refine r_iconst C (v := 1) (by decide) dL_law_905 ?_
  refine r_iadd C dL_law_906 ?_
  refine r_pc (pc1 := 907) rfl ?_
  refine r_scld C hX hbl hbA hi1 dL_law_907 ?_
  refine r_aload_n C 1 rfl rfl dL_law_908 ?_
  refine r_iload_n C 0 rfl rfl dL_law_909 ?_
  refine r_iconst C (v := 2) (by decide) dL_law_910 ?_
  refine r_iadd C dL_law_911 ?_
  refine r_scld C hX hbl hbA hi2 dL_law_912 ?_
  refine r_pc (pc1 := 913) rfl ?_
  refine r_aload_n C 1 rfl rfl dL_law_913 ?_
  refine r_iload_n C 0 rfl rfl dL_law_914 ?_
  refine r_iconst C (v := 3) (by decide) dL_law_915 ?_
  refine r_iadd C dL_law_916 ?_
  refine r_scld C hX hbl hbA hi3 dL_law_917 ?_
  refine r_cvi C (rest := []) (c_X10_alterRow h1) fm_X10_alterRow lk_L_129 o_0 ⟨_, ct_9 o_0.1⟩ rfl rfl ⟨rfl, rfl, Nat.le_of_ble_eq_true rfl, Nat.le_of_ble_eq_true rfl⟩ (Nat.le_of_ble_eq_true rfl) rfl dL_law_918 ?_
  refine r_pc (pc1 := 921) rfl ?_
  refine r_aload_n C 3 rfl rfl dL_law_921 ?_
  refine r_aload_n C 1 rfl rfl dL_law_922 ?_
  refine r_iload_n C 0 rfl rfl dL_law_923 ?_
  refine r_iconst C (v := 1) (by decide) dL_law_924 ?_
  refine r_iadd C dL_law_925 ?_
  refine r_scld C hX hbl hbA hi1 dL_law_926 ?_
  refine r_pc (pc1 := 927) rfl ?_
  refine r_aload_n C 1 rfl rfl dL_law_927 ?_
  refine r_iload_n C 0 rfl rfl dL_law_928 ?_
  refine r_iconst C (v := 2) (by decide) dL_law_929 ?_
  refine r_iadd C dL_law_930 ?_
  refine r_scld C hX hbl hbA hi2 dL_law_931 ?_
  refine r_aload_n C 1 rfl rfl dL_law_932 ?_
  refine r_pc (pc1 := 933) rfl ?_
  refine r_iload_n C 0 rfl rfl dL_law_933 ?_
  refine r_iconst C (v := 3) (by decide) dL_law_934 ?_
  refine r_iadd C dL_law_935 ?_
  refine r_scld C hX hbl hbA hi3 dL_law_936 ?_
  refine r_cvi C (rest := [.int r]) (c_X11_alterRow h2) fm_X11_alterRow lk_L_132 o_98 ⟨_, ct_10 o_98.1⟩ rfl rfl ⟨rfl, rfl, Nat.le_of_ble_eq_true rfl, Nat.le_of_ble_eq_true rfl⟩ (Nat.le_of_ble_eq_true rfl) rfl dL_law_937 ?_
  refine r_icmp_eq (XA := true) (XB := false) (z := true) C (tgt := 1400) (by rw [if_pos rfl]) dL_law_940 (by decide) (fun _ => ?_) (fun h => by cases h)
  exact kk _ _ hR2
set_option maxHeartbeats 4000000 in
set_option maxRecDepth 100000 in
theorem lb_judge {p : Program} {l : Launch} {e : Env} {s : State} {m : MethodId} {args : Array Value} {below : List Frame} {meth : Method} {c : Code} {Q : State → Prop} {g : GG} {ad : Nat → Nat} {I : HI} {J : HJ} {N b L : Nat} {xs : Nat → Int32} {i : Int32} (C : Cx p s m args meth c RL code 4 g (AW ad nO)) (hX : va_X b L xs s s.heap) (hbl : b < s.heap.size) (hbA : ¬ AW ad nO b) (hi1 : vp_in (i + 1) L) (hi2 : vp_in (i + 2) L) (hi3 : vp_in (i + 3) L) (hN : N ≤ 1000000) (hR : Rel N I J) (kk : ∀ I J, Rel (N + 400) I J → V p l e room_1 s m args below meth c Q 4 600000 7302250 g (AW ad nO) ad nO oR I J 1400 [(3, .int i), (0, .ref b), (1, .ref (ad 0)), (2, .ref (ad 98))] []) : V p l e room_1 s m args below meth c Q 4 600000 7302250 g (AW ad nO) ad nO oR I J 945 [(3, .int i), (0, .ref b), (1, .ref (ad 0)), (2, .ref (ad 98))] [] := by
  obtain ⟨r, I1, J1, I2, J2, h1, h2, hR2⟩ := sim_judge hN hR 
  refine r_aload_n C 2 rfl rfl dL_law_945 ?_
  refine r_cvi C (rest := []) (c_X10_judge h1) fm_X10_judge lk_L_133 o_0 ⟨_, ct_9 o_0.1⟩ rfl rfl ⟨rfl, rfl, Nat.le_of_ble_eq_true rfl, Nat.le_of_ble_eq_true rfl⟩ (Nat.le_of_ble_eq_true rfl) rfl dL_law_946 ?_
  refine r_aload_n C 3 rfl rfl dL_law_949 ?_
  refine r_cvi C (rest := [.int r]) (c_X11_judge h2) fm_X11_judge lk_L_136 o_98 ⟨_, ct_10 o_98.1⟩ rfl rfl ⟨rfl, rfl, Nat.le_of_ble_eq_true rfl, Nat.le_of_ble_eq_true rfl⟩ (Nat.le_of_ble_eq_true rfl) rfl dL_law_950 ?_
  refine r_icmp_eq (XA := true) (XB := false) (z := true) C (tgt := 1400) (by rw [if_pos rfl]) dL_law_953 (by decide) (fun _ => ?_) (fun h => by cases h)
  exact kk _ _ hR2
set_option maxHeartbeats 4000000 in
set_option maxRecDepth 100000 in
theorem lb_record {p : Program} {l : Launch} {e : Env} {s : State} {m : MethodId} {args : Array Value} {below : List Frame} {meth : Method} {c : Code} {Q : State → Prop} {g : GG} {ad : Nat → Nat} {I : HI} {J : HJ} {N b L : Nat} {xs : Nat → Int32} {i : Int32} (C : Cx p s m args meth c RL code 4 g (AW ad nO)) (hX : va_X b L xs s s.heap) (hbl : b < s.heap.size) (hbA : ¬ AW ad nO b) (hi1 : vp_in (i + 1) L) (hi2 : vp_in (i + 2) L) (hi3 : vp_in (i + 3) L) (hN : N ≤ 1000000) (hR : Rel N I J) (kk : ∀ I J, Rel (N + 400) I J → V p l e room_1 s m args below meth c Q 4 600000 7302250 g (AW ad nO) ad nO oR I J 1400 [(3, .int i), (0, .ref b), (1, .ref (ad 0)), (2, .ref (ad 98))] []) : V p l e room_1 s m args below meth c Q 4 600000 7302250 g (AW ad nO) ad nO oR I J 958 [(3, .int i), (0, .ref b), (1, .ref (ad 0)), (2, .ref (ad 98))] [] := by
  obtain ⟨r, I1, I2, h1, h2, hR2⟩ := sim_record hN hR 
  refine r_aload_n C 2 rfl rfl dL_law_958 ?_
  refine r_cvi C (rest := []) (c_X10_record h1) fm_X10_record lk_L_137 o_0 ⟨_, ct_9 o_0.1⟩ rfl rfl ⟨rfl, rfl, Nat.le_of_ble_eq_true rfl, Nat.le_of_ble_eq_true rfl⟩ (Nat.le_of_ble_eq_true rfl) rfl dL_law_959 ?_
  refine r_aload_n C 3 rfl rfl dL_law_962 ?_
  refine r_cvi C (rest := [.int r]) (c_X11_record h2) fm_X11_record lk_L_140 o_98 ⟨_, ct_10 o_98.1⟩ rfl rfl ⟨rfl, rfl, Nat.le_of_ble_eq_true rfl, Nat.le_of_ble_eq_true rfl⟩ (Nat.le_of_ble_eq_true rfl) rfl dL_law_963 ?_
  refine r_icmp_eq (XA := true) (XB := false) (z := true) C (tgt := 1400) (by rw [if_pos rfl]) dL_law_966 (by decide) (fun _ => ?_) (fun h => by cases h)
  exact kk _ _ hR2
set_option maxHeartbeats 4000000 in
set_option maxRecDepth 100000 in
theorem lb_recorded {p : Program} {l : Launch} {e : Env} {s : State} {m : MethodId} {args : Array Value} {below : List Frame} {meth : Method} {c : Code} {Q : State → Prop} {g : GG} {ad : Nat → Nat} {I : HI} {J : HJ} {N b L : Nat} {xs : Nat → Int32} {i : Int32} (C : Cx p s m args meth c RL code 4 g (AW ad nO)) (hX : va_X b L xs s s.heap) (hbl : b < s.heap.size) (hbA : ¬ AW ad nO b) (hi1 : vp_in (i + 1) L) (hi2 : vp_in (i + 2) L) (hi3 : vp_in (i + 3) L) (hN : N ≤ 1000000) (hR : Rel N I J) (kk : ∀ I J, Rel (N + 400) I J → V p l e room_1 s m args below meth c Q 4 600000 7302250 g (AW ad nO) ad nO oR I J 1400 [(3, .int i), (0, .ref b), (1, .ref (ad 0)), (2, .ref (ad 98))] []) : V p l e room_1 s m args below meth c Q 4 600000 7302250 g (AW ad nO) ad nO oR I J 971 [(3, .int i), (0, .ref b), (1, .ref (ad 0)), (2, .ref (ad 98))] [] := by
  obtain ⟨r, I2, h1, h2, hR2⟩ := sim_recorded hN hR (xs (i + 1).toNatClampNeg) (xs (i + 2).toNatClampNeg)
  refine r_aload_n C 2 rfl rfl dL_law_971 ?_
  refine r_aload_n C 1 rfl rfl dL_law_972 ?_
  refine r_iload_n C 0 rfl rfl dL_law_973 ?_
  refine r_iconst C (v := 1) (by decide) dL_law_974 ?_
  refine r_iadd C dL_law_975 ?_
  refine r_pc (pc1 := 976) rfl ?_
  refine r_scld C hX hbl hbA hi1 dL_law_976 ?_
  refine r_aload_n C 1 rfl rfl dL_law_977 ?_
  refine r_iload_n C 0 rfl rfl dL_law_978 ?_
  refine r_iconst C (v := 2) (by decide) dL_law_979 ?_
  refine r_iadd C dL_law_980 ?_
  refine r_scld C hX hbl hbA hi2 dL_law_981 ?_
  refine r_pc (pc1 := 982) rfl ?_
  refine r_cvi C (rest := []) (c_X10_recorded h1) fm_X10_recorded lk_L_141 o_0 ⟨_, ct_9 o_0.1⟩ rfl rfl ⟨rfl, rfl, Nat.le_of_ble_eq_true rfl, Nat.le_of_ble_eq_true rfl⟩ (Nat.le_of_ble_eq_true rfl) rfl dL_law_982 ?_
  refine r_aload_n C 3 rfl rfl dL_law_985 ?_
  refine r_aload_n C 1 rfl rfl dL_law_986 ?_
  refine r_iload_n C 0 rfl rfl dL_law_987 ?_
  refine r_iconst C (v := 1) (by decide) dL_law_988 ?_
  refine r_iadd C dL_law_989 ?_
  refine r_pc (pc1 := 990) rfl ?_
  refine r_scld C hX hbl hbA hi1 dL_law_990 ?_
  refine r_aload_n C 1 rfl rfl dL_law_991 ?_
  refine r_iload_n C 0 rfl rfl dL_law_992 ?_
  refine r_iconst C (v := 2) (by decide) dL_law_993 ?_
  refine r_iadd C dL_law_994 ?_
  refine r_scld C hX hbl hbA hi2 dL_law_995 ?_
  refine r_pc (pc1 := 996) rfl ?_
  refine r_cvi C (rest := [.int r]) (c_X11_recorded h2) fm_X11_recorded lk_L_144 o_98 ⟨_, ct_10 o_98.1⟩ rfl rfl ⟨rfl, rfl, Nat.le_of_ble_eq_true rfl, Nat.le_of_ble_eq_true rfl⟩ (Nat.le_of_ble_eq_true rfl) rfl dL_law_996 ?_
  refine r_icmp_eq (XA := true) (XB := false) (z := true) C (tgt := 1400) (by rw [if_pos rfl]) dL_law_999 (by decide) (fun _ => ?_) (fun h => by cases h)
  exact kk _ _ hR2
set_option maxHeartbeats 4000000 in
set_option maxRecDepth 100000 in
theorem lb_alike {p : Program} {l : Launch} {e : Env} {s : State} {m : MethodId} {args : Array Value} {below : List Frame} {meth : Method} {c : Code} {Q : State → Prop} {g : GG} {ad : Nat → Nat} {I : HI} {J : HJ} {N b L : Nat} {xs : Nat → Int32} {i : Int32} (C : Cx p s m args meth c RL code 4 g (AW ad nO)) (hX : va_X b L xs s s.heap) (hbl : b < s.heap.size) (hbA : ¬ AW ad nO b) (hi1 : vp_in (i + 1) L) (hi2 : vp_in (i + 2) L) (hi3 : vp_in (i + 3) L) (hN : N ≤ 1000000) (hR : Rel N I J) (kk : ∀ I J, Rel (N + 400) I J → V p l e room_1 s m args below meth c Q 4 600000 7302250 g (AW ad nO) ad nO oR I J 1400 [(3, .int i), (0, .ref b), (1, .ref (ad 0)), (2, .ref (ad 98))] []) : V p l e room_1 s m args below meth c Q 4 600000 7302250 g (AW ad nO) ad nO oR I J 1004 [(3, .int i), (0, .ref b), (1, .ref (ad 0)), (2, .ref (ad 98))] [] := by
  obtain ⟨r, h1, h2, hR2⟩ := sim_alike hN hR (xs (i + 1).toNatClampNeg) (xs (i + 2).toNatClampNeg)
  refine r_aload_n C 2 rfl rfl dL_law_1004 ?_
  refine r_aload_n C 1 rfl rfl dL_law_1005 ?_
  refine r_iload_n C 0 rfl rfl dL_law_1006 ?_
  refine r_iconst C (v := 1) (by decide) dL_law_1007 ?_
  refine r_iadd C dL_law_1008 ?_
  refine r_pc (pc1 := 1009) rfl ?_
  refine r_scld C hX hbl hbA hi1 dL_law_1009 ?_
  refine r_aload_n C 1 rfl rfl dL_law_1010 ?_
  refine r_iload_n C 0 rfl rfl dL_law_1011 ?_
  refine r_iconst C (v := 2) (by decide) dL_law_1012 ?_
  refine r_iadd C dL_law_1013 ?_
  refine r_scld C hX hbl hbA hi2 dL_law_1014 ?_
  refine r_pc (pc1 := 1015) rfl ?_
  refine r_cvi C (rest := []) (c_X10_alike h1) fm_X10_alike lk_L_145 o_0 ⟨_, ct_9 o_0.1⟩ rfl rfl ⟨rfl, rfl, Nat.le_of_ble_eq_true rfl, Nat.le_of_ble_eq_true rfl⟩ (Nat.le_of_ble_eq_true rfl) rfl dL_law_1015 ?_
  refine r_aload_n C 3 rfl rfl dL_law_1018 ?_
  refine r_aload_n C 1 rfl rfl dL_law_1019 ?_
  refine r_iload_n C 0 rfl rfl dL_law_1020 ?_
  refine r_iconst C (v := 1) (by decide) dL_law_1021 ?_
  refine r_iadd C dL_law_1022 ?_
  refine r_pc (pc1 := 1023) rfl ?_
  refine r_scld C hX hbl hbA hi1 dL_law_1023 ?_
  refine r_aload_n C 1 rfl rfl dL_law_1024 ?_
  refine r_iload_n C 0 rfl rfl dL_law_1025 ?_
  refine r_iconst C (v := 2) (by decide) dL_law_1026 ?_
  refine r_iadd C dL_law_1027 ?_
  refine r_scld C hX hbl hbA hi2 dL_law_1028 ?_
  refine r_pc (pc1 := 1029) rfl ?_
  refine r_cvi C (rest := [.int r]) (c_X11_alike h2) fm_X11_alike lk_L_148 o_98 ⟨_, ct_10 o_98.1⟩ rfl rfl ⟨rfl, rfl, Nat.le_of_ble_eq_true rfl, Nat.le_of_ble_eq_true rfl⟩ (Nat.le_of_ble_eq_true rfl) rfl dL_law_1029 ?_
  refine r_icmp_eq (XA := true) (XB := false) (z := true) C (tgt := 1400) (by rw [if_pos rfl]) dL_law_1032 (by decide) (fun _ => ?_) (fun h => by cases h)
  exact kk _ _ hR2
set_option maxHeartbeats 4000000 in
set_option maxRecDepth 100000 in
theorem lb_sheet {p : Program} {l : Launch} {e : Env} {s : State} {m : MethodId} {args : Array Value} {below : List Frame} {meth : Method} {c : Code} {Q : State → Prop} {g : GG} {ad : Nat → Nat} {I : HI} {J : HJ} {N b L : Nat} {xs : Nat → Int32} {i : Int32} (C : Cx p s m args meth c RL code 4 g (AW ad nO)) (hX : va_X b L xs s s.heap) (hbl : b < s.heap.size) (hbA : ¬ AW ad nO b) (hi1 : vp_in (i + 1) L) (hi2 : vp_in (i + 2) L) (hi3 : vp_in (i + 3) L) (hN : N ≤ 1000000) (hR : Rel N I J) (kk : ∀ I J, Rel (N + 400) I J → V p l e room_1 s m args below meth c Q 4 600000 7302250 g (AW ad nO) ad nO oR I J 1400 [(3, .int i), (0, .ref b), (1, .ref (ad 0)), (2, .ref (ad 98))] []) : V p l e room_1 s m args below meth c Q 4 600000 7302250 g (AW ad nO) ad nO oR I J 1037 [(3, .int i), (0, .ref b), (1, .ref (ad 0)), (2, .ref (ad 98))] [] := by
  obtain ⟨r, I1, I2, h1, h2, hR2⟩ := sim_sheet hN hR (xs (i + 1).toNatClampNeg) (xs (i + 2).toNatClampNeg) (xs (i + 3).toNatClampNeg)
  refine r_aload_n C 2 rfl rfl dL_law_1037 ?_
  refine r_aload_n C 1 rfl rfl dL_law_1038 ?_
  refine r_iload_n C 0 rfl rfl dL_law_1039 ?_
  refine r_iconst C (v := 1) (by decide) dL_law_1040 ?_
  refine r_iadd C dL_law_1041 ?_
  refine r_pc (pc1 := 1042) rfl ?_
  refine r_scld C hX hbl hbA hi1 dL_law_1042 ?_
  refine r_aload_n C 1 rfl rfl dL_law_1043 ?_
  refine r_iload_n C 0 rfl rfl dL_law_1044 ?_
  refine r_iconst C (v := 2) (by decide) dL_law_1045 ?_
  refine r_iadd C dL_law_1046 ?_
  refine r_scld C hX hbl hbA hi2 dL_law_1047 ?_
  refine r_pc (pc1 := 1048) rfl ?_
  refine r_aload_n C 1 rfl rfl dL_law_1048 ?_
  refine r_iload_n C 0 rfl rfl dL_law_1049 ?_
  refine r_iconst C (v := 3) (by decide) dL_law_1050 ?_
  refine r_iadd C dL_law_1051 ?_
  refine r_scld C hX hbl hbA hi3 dL_law_1052 ?_
  refine r_cvi C (rest := []) (c_X10_sheet h1) fm_X10_sheet lk_L_149 o_0 ⟨_, ct_9 o_0.1⟩ rfl rfl ⟨rfl, rfl, Nat.le_of_ble_eq_true rfl, Nat.le_of_ble_eq_true rfl⟩ (Nat.le_of_ble_eq_true rfl) rfl dL_law_1053 ?_
  refine r_pc (pc1 := 1056) rfl ?_
  refine r_aload_n C 3 rfl rfl dL_law_1056 ?_
  refine r_aload_n C 1 rfl rfl dL_law_1057 ?_
  refine r_iload_n C 0 rfl rfl dL_law_1058 ?_
  refine r_iconst C (v := 1) (by decide) dL_law_1059 ?_
  refine r_iadd C dL_law_1060 ?_
  refine r_scld C hX hbl hbA hi1 dL_law_1061 ?_
  refine r_pc (pc1 := 1062) rfl ?_
  refine r_aload_n C 1 rfl rfl dL_law_1062 ?_
  refine r_iload_n C 0 rfl rfl dL_law_1063 ?_
  refine r_iconst C (v := 2) (by decide) dL_law_1064 ?_
  refine r_iadd C dL_law_1065 ?_
  refine r_scld C hX hbl hbA hi2 dL_law_1066 ?_
  refine r_aload_n C 1 rfl rfl dL_law_1067 ?_
  refine r_pc (pc1 := 1068) rfl ?_
  refine r_iload_n C 0 rfl rfl dL_law_1068 ?_
  refine r_iconst C (v := 3) (by decide) dL_law_1069 ?_
  refine r_iadd C dL_law_1070 ?_
  refine r_scld C hX hbl hbA hi3 dL_law_1071 ?_
  refine r_cvi C (rest := [.int r]) (c_X11_sheet h2) fm_X11_sheet lk_L_152 o_98 ⟨_, ct_10 o_98.1⟩ rfl rfl ⟨rfl, rfl, Nat.le_of_ble_eq_true rfl, Nat.le_of_ble_eq_true rfl⟩ (Nat.le_of_ble_eq_true rfl) rfl dL_law_1072 ?_
  refine r_icmp_eq (XA := true) (XB := false) (z := true) C (tgt := 1400) (by rw [if_pos rfl]) dL_law_1075 (by decide) (fun _ => ?_) (fun h => by cases h)
  exact kk _ _ hR2
set_option maxHeartbeats 4000000 in
set_option maxRecDepth 100000 in
theorem lb_put {p : Program} {l : Launch} {e : Env} {s : State} {m : MethodId} {args : Array Value} {below : List Frame} {meth : Method} {c : Code} {Q : State → Prop} {g : GG} {ad : Nat → Nat} {I : HI} {J : HJ} {N b L : Nat} {xs : Nat → Int32} {i : Int32} (C : Cx p s m args meth c RL code 4 g (AW ad nO)) (hX : va_X b L xs s s.heap) (hbl : b < s.heap.size) (hbA : ¬ AW ad nO b) (hi1 : vp_in (i + 1) L) (hi2 : vp_in (i + 2) L) (hi3 : vp_in (i + 3) L) (hN : N ≤ 1000000) (hR : Rel N I J) (kk : ∀ I J, Rel (N + 400) I J → V p l e room_1 s m args below meth c Q 4 600000 7302250 g (AW ad nO) ad nO oR I J 1400 [(3, .int i), (0, .ref b), (1, .ref (ad 0)), (2, .ref (ad 98))] []) : V p l e room_1 s m args below meth c Q 4 600000 7302250 g (AW ad nO) ad nO oR I J 1080 [(3, .int i), (0, .ref b), (1, .ref (ad 0)), (2, .ref (ad 98))] [] := by
  obtain ⟨r, I1, I2, h1, h2, hR2⟩ := sim_put hN hR (xs (i + 1).toNatClampNeg) (xs (i + 2).toNatClampNeg) (xs (i + 3).toNatClampNeg)
  refine r_aload_n C 2 rfl rfl dL_law_1080 ?_
  refine r_aload_n C 1 rfl rfl dL_law_1081 ?_
  refine r_iload_n C 0 rfl rfl dL_law_1082 ?_
  refine r_iconst C (v := 1) (by decide) dL_law_1083 ?_
  refine r_iadd C dL_law_1084 ?_
  refine r_pc (pc1 := 1085) rfl ?_
  refine r_scld C hX hbl hbA hi1 dL_law_1085 ?_
  refine r_aload_n C 1 rfl rfl dL_law_1086 ?_
  refine r_iload_n C 0 rfl rfl dL_law_1087 ?_
  refine r_iconst C (v := 2) (by decide) dL_law_1088 ?_
  refine r_iadd C dL_law_1089 ?_
  refine r_scld C hX hbl hbA hi2 dL_law_1090 ?_
  refine r_pc (pc1 := 1091) rfl ?_
  refine r_aload_n C 1 rfl rfl dL_law_1091 ?_
  refine r_iload_n C 0 rfl rfl dL_law_1092 ?_
  refine r_iconst C (v := 3) (by decide) dL_law_1093 ?_
  refine r_iadd C dL_law_1094 ?_
  refine r_scld C hX hbl hbA hi3 dL_law_1095 ?_
  refine r_cvi C (rest := []) (c_X10_put h1) fm_X10_put lk_L_153 o_0 ⟨_, ct_9 o_0.1⟩ rfl rfl ⟨rfl, rfl, Nat.le_of_ble_eq_true rfl, Nat.le_of_ble_eq_true rfl⟩ (Nat.le_of_ble_eq_true rfl) rfl dL_law_1096 ?_
  refine r_pc (pc1 := 1099) rfl ?_
  refine r_aload_n C 3 rfl rfl dL_law_1099 ?_
  refine r_aload_n C 1 rfl rfl dL_law_1100 ?_
  refine r_iload_n C 0 rfl rfl dL_law_1101 ?_
  refine r_iconst C (v := 1) (by decide) dL_law_1102 ?_
  refine r_iadd C dL_law_1103 ?_
  refine r_scld C hX hbl hbA hi1 dL_law_1104 ?_
  refine r_pc (pc1 := 1105) rfl ?_
  refine r_aload_n C 1 rfl rfl dL_law_1105 ?_
  refine r_iload_n C 0 rfl rfl dL_law_1106 ?_
  refine r_iconst C (v := 2) (by decide) dL_law_1107 ?_
  refine r_iadd C dL_law_1108 ?_
  refine r_scld C hX hbl hbA hi2 dL_law_1109 ?_
  refine r_aload_n C 1 rfl rfl dL_law_1110 ?_
  refine r_pc (pc1 := 1111) rfl ?_
  refine r_iload_n C 0 rfl rfl dL_law_1111 ?_
  refine r_iconst C (v := 3) (by decide) dL_law_1112 ?_
  refine r_iadd C dL_law_1113 ?_
  refine r_scld C hX hbl hbA hi3 dL_law_1114 ?_
  refine r_cvi C (rest := [.int r]) (c_X11_put h2) fm_X11_put lk_L_156 o_98 ⟨_, ct_10 o_98.1⟩ rfl rfl ⟨rfl, rfl, Nat.le_of_ble_eq_true rfl, Nat.le_of_ble_eq_true rfl⟩ (Nat.le_of_ble_eq_true rfl) rfl dL_law_1115 ?_
  refine r_icmp_eq (XA := true) (XB := false) (z := true) C (tgt := 1400) (by rw [if_pos rfl]) dL_law_1118 (by decide) (fun _ => ?_) (fun h => by cases h)
  exact kk _ _ hR2
set_option maxHeartbeats 4000000 in
set_option maxRecDepth 100000 in
theorem lb_item {p : Program} {l : Launch} {e : Env} {s : State} {m : MethodId} {args : Array Value} {below : List Frame} {meth : Method} {c : Code} {Q : State → Prop} {g : GG} {ad : Nat → Nat} {I : HI} {J : HJ} {N b L : Nat} {xs : Nat → Int32} {i : Int32} (C : Cx p s m args meth c RL code 4 g (AW ad nO)) (hX : va_X b L xs s s.heap) (hbl : b < s.heap.size) (hbA : ¬ AW ad nO b) (hi1 : vp_in (i + 1) L) (hi2 : vp_in (i + 2) L) (hi3 : vp_in (i + 3) L) (hN : N ≤ 1000000) (hR : Rel N I J) (kk : ∀ I J, Rel (N + 400) I J → V p l e room_1 s m args below meth c Q 4 600000 7302250 g (AW ad nO) ad nO oR I J 1400 [(3, .int i), (0, .ref b), (1, .ref (ad 0)), (2, .ref (ad 98))] []) : V p l e room_1 s m args below meth c Q 4 600000 7302250 g (AW ad nO) ad nO oR I J 1123 [(3, .int i), (0, .ref b), (1, .ref (ad 0)), (2, .ref (ad 98))] [] := by
  obtain ⟨r, h1, h2, hR2⟩ := sim_item hN hR (xs (i + 1).toNatClampNeg) (xs (i + 2).toNatClampNeg) (xs (i + 3).toNatClampNeg)
  refine r_aload_n C 2 rfl rfl dL_law_1123 ?_
  refine r_aload_n C 1 rfl rfl dL_law_1124 ?_
  refine r_iload_n C 0 rfl rfl dL_law_1125 ?_
  refine r_iconst C (v := 1) (by decide) dL_law_1126 ?_
  refine r_iadd C dL_law_1127 ?_
  refine r_pc (pc1 := 1128) rfl ?_
  refine r_scld C hX hbl hbA hi1 dL_law_1128 ?_
  refine r_aload_n C 1 rfl rfl dL_law_1129 ?_
  refine r_iload_n C 0 rfl rfl dL_law_1130 ?_
  refine r_iconst C (v := 2) (by decide) dL_law_1131 ?_
  refine r_iadd C dL_law_1132 ?_
  refine r_scld C hX hbl hbA hi2 dL_law_1133 ?_
  refine r_pc (pc1 := 1134) rfl ?_
  refine r_aload_n C 1 rfl rfl dL_law_1134 ?_
  refine r_iload_n C 0 rfl rfl dL_law_1135 ?_
  refine r_iconst C (v := 3) (by decide) dL_law_1136 ?_
  refine r_iadd C dL_law_1137 ?_
  refine r_scld C hX hbl hbA hi3 dL_law_1138 ?_
  refine r_cvi C (rest := []) (c_X10_item h1) fm_X10_item lk_L_157 o_0 ⟨_, ct_9 o_0.1⟩ rfl rfl ⟨rfl, rfl, Nat.le_of_ble_eq_true rfl, Nat.le_of_ble_eq_true rfl⟩ (Nat.le_of_ble_eq_true rfl) rfl dL_law_1139 ?_
  refine r_pc (pc1 := 1142) rfl ?_
  refine r_aload_n C 3 rfl rfl dL_law_1142 ?_
  refine r_aload_n C 1 rfl rfl dL_law_1143 ?_
  refine r_iload_n C 0 rfl rfl dL_law_1144 ?_
  refine r_iconst C (v := 1) (by decide) dL_law_1145 ?_
  refine r_iadd C dL_law_1146 ?_
  refine r_scld C hX hbl hbA hi1 dL_law_1147 ?_
  refine r_pc (pc1 := 1148) rfl ?_
  refine r_aload_n C 1 rfl rfl dL_law_1148 ?_
  refine r_iload_n C 0 rfl rfl dL_law_1149 ?_
  refine r_iconst C (v := 2) (by decide) dL_law_1150 ?_
  refine r_iadd C dL_law_1151 ?_
  refine r_scld C hX hbl hbA hi2 dL_law_1152 ?_
  refine r_aload_n C 1 rfl rfl dL_law_1153 ?_
  refine r_pc (pc1 := 1154) rfl ?_
  refine r_iload_n C 0 rfl rfl dL_law_1154 ?_
  refine r_iconst C (v := 3) (by decide) dL_law_1155 ?_
  refine r_iadd C dL_law_1156 ?_
  refine r_scld C hX hbl hbA hi3 dL_law_1157 ?_
  refine r_cvi C (rest := [.int r]) (c_X11_item h2) fm_X11_item lk_L_160 o_98 ⟨_, ct_10 o_98.1⟩ rfl rfl ⟨rfl, rfl, Nat.le_of_ble_eq_true rfl, Nat.le_of_ble_eq_true rfl⟩ (Nat.le_of_ble_eq_true rfl) rfl dL_law_1158 ?_
  refine r_icmp_eq (XA := true) (XB := false) (z := true) C (tgt := 1400) (by rw [if_pos rfl]) dL_law_1161 (by decide) (fun _ => ?_) (fun h => by cases h)
  exact kk _ _ hR2
set_option maxHeartbeats 4000000 in
set_option maxRecDepth 100000 in
theorem lb_times {p : Program} {l : Launch} {e : Env} {s : State} {m : MethodId} {args : Array Value} {below : List Frame} {meth : Method} {c : Code} {Q : State → Prop} {g : GG} {ad : Nat → Nat} {I : HI} {J : HJ} {N b L : Nat} {xs : Nat → Int32} {i : Int32} (C : Cx p s m args meth c RL code 4 g (AW ad nO)) (hX : va_X b L xs s s.heap) (hbl : b < s.heap.size) (hbA : ¬ AW ad nO b) (hi1 : vp_in (i + 1) L) (hi2 : vp_in (i + 2) L) (hi3 : vp_in (i + 3) L) (hN : N ≤ 1000000) (hR : Rel N I J) (kk : ∀ I J, Rel (N + 400) I J → V p l e room_1 s m args below meth c Q 4 600000 7302250 g (AW ad nO) ad nO oR I J 1400 [(3, .int i), (0, .ref b), (1, .ref (ad 0)), (2, .ref (ad 98))] []) : V p l e room_1 s m args below meth c Q 4 600000 7302250 g (AW ad nO) ad nO oR I J 1166 [(3, .int i), (0, .ref b), (1, .ref (ad 0)), (2, .ref (ad 98))] [] := by
  obtain ⟨r, I1, I2, h1, h2, hR2⟩ := sim_times hN hR (xs (i + 1).toNatClampNeg) (xs (i + 2).toNatClampNeg) (xs (i + 3).toNatClampNeg)
  refine r_aload_n C 2 rfl rfl dL_law_1166 ?_
  refine r_aload_n C 1 rfl rfl dL_law_1167 ?_
  refine r_iload_n C 0 rfl rfl dL_law_1168 ?_
  refine r_iconst C (v := 1) (by decide) dL_law_1169 ?_
  refine r_iadd C dL_law_1170 ?_
  refine r_pc (pc1 := 1171) rfl ?_
  refine r_scld C hX hbl hbA hi1 dL_law_1171 ?_
  refine r_aload_n C 1 rfl rfl dL_law_1172 ?_
  refine r_iload_n C 0 rfl rfl dL_law_1173 ?_
  refine r_iconst C (v := 2) (by decide) dL_law_1174 ?_
  refine r_iadd C dL_law_1175 ?_
  refine r_scld C hX hbl hbA hi2 dL_law_1176 ?_
  refine r_pc (pc1 := 1177) rfl ?_
  refine r_aload_n C 1 rfl rfl dL_law_1177 ?_
  refine r_iload_n C 0 rfl rfl dL_law_1178 ?_
  refine r_iconst C (v := 3) (by decide) dL_law_1179 ?_
  refine r_iadd C dL_law_1180 ?_
  refine r_scld C hX hbl hbA hi3 dL_law_1181 ?_
  refine r_cvi C (rest := []) (c_X10_times h1) fm_X10_times lk_L_161 o_0 ⟨_, ct_9 o_0.1⟩ rfl rfl ⟨rfl, rfl, Nat.le_of_ble_eq_true rfl, Nat.le_of_ble_eq_true rfl⟩ (Nat.le_of_ble_eq_true rfl) rfl dL_law_1182 ?_
  refine r_pc (pc1 := 1185) rfl ?_
  refine r_aload_n C 3 rfl rfl dL_law_1185 ?_
  refine r_aload_n C 1 rfl rfl dL_law_1186 ?_
  refine r_iload_n C 0 rfl rfl dL_law_1187 ?_
  refine r_iconst C (v := 1) (by decide) dL_law_1188 ?_
  refine r_iadd C dL_law_1189 ?_
  refine r_scld C hX hbl hbA hi1 dL_law_1190 ?_
  refine r_pc (pc1 := 1191) rfl ?_
  refine r_aload_n C 1 rfl rfl dL_law_1191 ?_
  refine r_iload_n C 0 rfl rfl dL_law_1192 ?_
  refine r_iconst C (v := 2) (by decide) dL_law_1193 ?_
  refine r_iadd C dL_law_1194 ?_
  refine r_scld C hX hbl hbA hi2 dL_law_1195 ?_
  refine r_aload_n C 1 rfl rfl dL_law_1196 ?_
  refine r_pc (pc1 := 1197) rfl ?_
  refine r_iload_n C 0 rfl rfl dL_law_1197 ?_
  refine r_iconst C (v := 3) (by decide) dL_law_1198 ?_
  refine r_iadd C dL_law_1199 ?_
  refine r_scld C hX hbl hbA hi3 dL_law_1200 ?_
  refine r_cvi C (rest := [.int r]) (c_X11_times h2) fm_X11_times lk_L_164 o_98 ⟨_, ct_10 o_98.1⟩ rfl rfl ⟨rfl, rfl, Nat.le_of_ble_eq_true rfl, Nat.le_of_ble_eq_true rfl⟩ (Nat.le_of_ble_eq_true rfl) rfl dL_law_1201 ?_
  refine r_icmp_eq (XA := true) (XB := false) (z := true) C (tgt := 1400) (by rw [if_pos rfl]) dL_law_1204 (by decide) (fun _ => ?_) (fun h => by cases h)
  exact kk _ _ hR2
set_option maxHeartbeats 4000000 in
set_option maxRecDepth 100000 in
theorem lb_shelf {p : Program} {l : Launch} {e : Env} {s : State} {m : MethodId} {args : Array Value} {below : List Frame} {meth : Method} {c : Code} {Q : State → Prop} {g : GG} {ad : Nat → Nat} {I : HI} {J : HJ} {N b L : Nat} {xs : Nat → Int32} {i : Int32} (C : Cx p s m args meth c RL code 4 g (AW ad nO)) (hX : va_X b L xs s s.heap) (hbl : b < s.heap.size) (hbA : ¬ AW ad nO b) (hi1 : vp_in (i + 1) L) (hi2 : vp_in (i + 2) L) (hi3 : vp_in (i + 3) L) (hN : N ≤ 1000000) (hR : Rel N I J) (kk : ∀ I J, Rel (N + 400) I J → V p l e room_1 s m args below meth c Q 4 600000 7302250 g (AW ad nO) ad nO oR I J 1400 [(3, .int i), (0, .ref b), (1, .ref (ad 0)), (2, .ref (ad 98))] []) : V p l e room_1 s m args below meth c Q 4 600000 7302250 g (AW ad nO) ad nO oR I J 1209 [(3, .int i), (0, .ref b), (1, .ref (ad 0)), (2, .ref (ad 98))] [] := by
  obtain ⟨r, I1, I2, h1, h2, hR2⟩ := sim_shelf hN hR (xs (i + 1).toNatClampNeg) (xs (i + 2).toNatClampNeg) (xs (i + 3).toNatClampNeg)
  refine r_aload_n C 2 rfl rfl dL_law_1209 ?_
  refine r_aload_n C 1 rfl rfl dL_law_1210 ?_
  refine r_iload_n C 0 rfl rfl dL_law_1211 ?_
  refine r_iconst C (v := 1) (by decide) dL_law_1212 ?_
  refine r_iadd C dL_law_1213 ?_
  refine r_pc (pc1 := 1214) rfl ?_
  refine r_scld C hX hbl hbA hi1 dL_law_1214 ?_
  refine r_aload_n C 1 rfl rfl dL_law_1215 ?_
  refine r_iload_n C 0 rfl rfl dL_law_1216 ?_
  refine r_iconst C (v := 2) (by decide) dL_law_1217 ?_
  refine r_iadd C dL_law_1218 ?_
  refine r_scld C hX hbl hbA hi2 dL_law_1219 ?_
  refine r_pc (pc1 := 1220) rfl ?_
  refine r_aload_n C 1 rfl rfl dL_law_1220 ?_
  refine r_iload_n C 0 rfl rfl dL_law_1221 ?_
  refine r_iconst C (v := 3) (by decide) dL_law_1222 ?_
  refine r_iadd C dL_law_1223 ?_
  refine r_scld C hX hbl hbA hi3 dL_law_1224 ?_
  refine r_cvi C (rest := []) (c_X10_shelf h1) fm_X10_shelf lk_L_165 o_0 ⟨_, ct_9 o_0.1⟩ rfl rfl ⟨rfl, rfl, Nat.le_of_ble_eq_true rfl, Nat.le_of_ble_eq_true rfl⟩ (Nat.le_of_ble_eq_true rfl) rfl dL_law_1225 ?_
  refine r_pc (pc1 := 1228) rfl ?_
  refine r_aload_n C 3 rfl rfl dL_law_1228 ?_
  refine r_aload_n C 1 rfl rfl dL_law_1229 ?_
  refine r_iload_n C 0 rfl rfl dL_law_1230 ?_
  refine r_iconst C (v := 1) (by decide) dL_law_1231 ?_
  refine r_iadd C dL_law_1232 ?_
  refine r_scld C hX hbl hbA hi1 dL_law_1233 ?_
  refine r_pc (pc1 := 1234) rfl ?_
  refine r_aload_n C 1 rfl rfl dL_law_1234 ?_
  refine r_iload_n C 0 rfl rfl dL_law_1235 ?_
  refine r_iconst C (v := 2) (by decide) dL_law_1236 ?_
  refine r_iadd C dL_law_1237 ?_
  refine r_scld C hX hbl hbA hi2 dL_law_1238 ?_
  refine r_aload_n C 1 rfl rfl dL_law_1239 ?_
  refine r_pc (pc1 := 1240) rfl ?_
  refine r_iload_n C 0 rfl rfl dL_law_1240 ?_
  refine r_iconst C (v := 3) (by decide) dL_law_1241 ?_
  refine r_iadd C dL_law_1242 ?_
  refine r_scld C hX hbl hbA hi3 dL_law_1243 ?_
  refine r_cvi C (rest := [.int r]) (c_X11_shelf h2) fm_X11_shelf lk_L_168 o_98 ⟨_, ct_10 o_98.1⟩ rfl rfl ⟨rfl, rfl, Nat.le_of_ble_eq_true rfl, Nat.le_of_ble_eq_true rfl⟩ (Nat.le_of_ble_eq_true rfl) rfl dL_law_1244 ?_
  refine r_icmp_eq (XA := true) (XB := false) (z := true) C (tgt := 1400) (by rw [if_pos rfl]) dL_law_1247 (by decide) (fun _ => ?_) (fun h => by cases h)
  exact kk _ _ hR2
set_option maxHeartbeats 4000000 in
set_option maxRecDepth 100000 in
theorem lb_taken {p : Program} {l : Launch} {e : Env} {s : State} {m : MethodId} {args : Array Value} {below : List Frame} {meth : Method} {c : Code} {Q : State → Prop} {g : GG} {ad : Nat → Nat} {I : HI} {J : HJ} {N b L : Nat} {xs : Nat → Int32} {i : Int32} (C : Cx p s m args meth c RL code 4 g (AW ad nO)) (hX : va_X b L xs s s.heap) (hbl : b < s.heap.size) (hbA : ¬ AW ad nO b) (hi1 : vp_in (i + 1) L) (hi2 : vp_in (i + 2) L) (hi3 : vp_in (i + 3) L) (hN : N ≤ 1000000) (hR : Rel N I J) (kk : ∀ I J, Rel (N + 400) I J → V p l e room_1 s m args below meth c Q 4 600000 7302250 g (AW ad nO) ad nO oR I J 1400 [(3, .int i), (0, .ref b), (1, .ref (ad 0)), (2, .ref (ad 98))] []) : V p l e room_1 s m args below meth c Q 4 600000 7302250 g (AW ad nO) ad nO oR I J 1252 [(3, .int i), (0, .ref b), (1, .ref (ad 0)), (2, .ref (ad 98))] [] := by
  obtain ⟨r, I2, J2, h1, h2, hR2⟩ := sim_taken hN hR (xs (i + 1).toNatClampNeg) (xs (i + 2).toNatClampNeg)
  refine r_aload_n C 2 rfl rfl dL_law_1252 ?_
  refine r_aload_n C 1 rfl rfl dL_law_1253 ?_
  refine r_iload_n C 0 rfl rfl dL_law_1254 ?_
  refine r_iconst C (v := 1) (by decide) dL_law_1255 ?_
  refine r_iadd C dL_law_1256 ?_
  refine r_pc (pc1 := 1257) rfl ?_
  refine r_scld C hX hbl hbA hi1 dL_law_1257 ?_
  refine r_aload_n C 1 rfl rfl dL_law_1258 ?_
  refine r_iload_n C 0 rfl rfl dL_law_1259 ?_
  refine r_iconst C (v := 2) (by decide) dL_law_1260 ?_
  refine r_iadd C dL_law_1261 ?_
  refine r_scld C hX hbl hbA hi2 dL_law_1262 ?_
  refine r_pc (pc1 := 1263) rfl ?_
  refine r_cvi C (rest := []) (c_X10_taken h1) fm_X10_taken lk_L_169 o_0 ⟨_, ct_9 o_0.1⟩ rfl rfl ⟨rfl, rfl, Nat.le_of_ble_eq_true rfl, Nat.le_of_ble_eq_true rfl⟩ (Nat.le_of_ble_eq_true rfl) rfl dL_law_1263 ?_
  refine r_aload_n C 3 rfl rfl dL_law_1266 ?_
  refine r_aload_n C 1 rfl rfl dL_law_1267 ?_
  refine r_iload_n C 0 rfl rfl dL_law_1268 ?_
  refine r_iconst C (v := 1) (by decide) dL_law_1269 ?_
  refine r_iadd C dL_law_1270 ?_
  refine r_pc (pc1 := 1271) rfl ?_
  refine r_scld C hX hbl hbA hi1 dL_law_1271 ?_
  refine r_aload_n C 1 rfl rfl dL_law_1272 ?_
  refine r_iload_n C 0 rfl rfl dL_law_1273 ?_
  refine r_iconst C (v := 2) (by decide) dL_law_1274 ?_
  refine r_iadd C dL_law_1275 ?_
  refine r_scld C hX hbl hbA hi2 dL_law_1276 ?_
  refine r_pc (pc1 := 1277) rfl ?_
  refine r_cvi C (rest := [.int r]) (c_X11_taken h2) fm_X11_taken lk_L_172 o_98 ⟨_, ct_10 o_98.1⟩ rfl rfl ⟨rfl, rfl, Nat.le_of_ble_eq_true rfl, Nat.le_of_ble_eq_true rfl⟩ (Nat.le_of_ble_eq_true rfl) rfl dL_law_1277 ?_
  refine r_icmp_eq (XA := true) (XB := false) (z := true) C (tgt := 1400) (by rw [if_pos rfl]) dL_law_1280 (by decide) (fun _ => ?_) (fun h => by cases h)
  exact kk _ _ hR2
set_option maxHeartbeats 4000000 in
set_option maxRecDepth 100000 in
theorem lb_act {p : Program} {l : Launch} {e : Env} {s : State} {m : MethodId} {args : Array Value} {below : List Frame} {meth : Method} {c : Code} {Q : State → Prop} {g : GG} {ad : Nat → Nat} {I : HI} {J : HJ} {N b L : Nat} {xs : Nat → Int32} {i : Int32} (C : Cx p s m args meth c RL code 4 g (AW ad nO)) (hX : va_X b L xs s s.heap) (hbl : b < s.heap.size) (hbA : ¬ AW ad nO b) (hi1 : vp_in (i + 1) L) (hi2 : vp_in (i + 2) L) (hi3 : vp_in (i + 3) L) (hN : N ≤ 1000000) (hR : Rel N I J) (kk : ∀ I J, Rel (N + 400) I J → V p l e room_1 s m args below meth c Q 4 600000 7302250 g (AW ad nO) ad nO oR I J 1400 [(3, .int i), (0, .ref b), (1, .ref (ad 0)), (2, .ref (ad 98))] []) : V p l e room_1 s m args below meth c Q 4 600000 7302250 g (AW ad nO) ad nO oR I J 1285 [(3, .int i), (0, .ref b), (1, .ref (ad 0)), (2, .ref (ad 98))] [] := by
  obtain ⟨r, I1, I2, J2, h1, h2, hR2⟩ := sim_act hN hR (xs (i + 1).toNatClampNeg) (xs (i + 2).toNatClampNeg) (xs (i + 3).toNatClampNeg)
  refine r_aload_n C 2 rfl rfl dL_law_1285 ?_
  refine r_aload_n C 1 rfl rfl dL_law_1286 ?_
  refine r_iload_n C 0 rfl rfl dL_law_1287 ?_
  refine r_iconst C (v := 1) (by decide) dL_law_1288 ?_
  refine r_iadd C dL_law_1289 ?_
  refine r_pc (pc1 := 1290) rfl ?_
  refine r_scld C hX hbl hbA hi1 dL_law_1290 ?_
  refine r_aload_n C 1 rfl rfl dL_law_1291 ?_
  refine r_iload_n C 0 rfl rfl dL_law_1292 ?_
  refine r_iconst C (v := 2) (by decide) dL_law_1293 ?_
  refine r_iadd C dL_law_1294 ?_
  refine r_scld C hX hbl hbA hi2 dL_law_1295 ?_
  refine r_pc (pc1 := 1296) rfl ?_
  refine r_aload_n C 1 rfl rfl dL_law_1296 ?_
  refine r_iload_n C 0 rfl rfl dL_law_1297 ?_
  refine r_iconst C (v := 3) (by decide) dL_law_1298 ?_
  refine r_iadd C dL_law_1299 ?_
  refine r_scld C hX hbl hbA hi3 dL_law_1300 ?_
  refine r_cvi C (rest := []) (c_X10_act h1) fm_X10_act lk_L_173 o_0 ⟨_, ct_9 o_0.1⟩ rfl rfl ⟨rfl, rfl, Nat.le_of_ble_eq_true rfl, Nat.le_of_ble_eq_true rfl⟩ (Nat.le_of_ble_eq_true rfl) rfl dL_law_1301 ?_
  refine r_pc (pc1 := 1304) rfl ?_
  refine r_aload_n C 3 rfl rfl dL_law_1304 ?_
  refine r_aload_n C 1 rfl rfl dL_law_1305 ?_
  refine r_iload_n C 0 rfl rfl dL_law_1306 ?_
  refine r_iconst C (v := 1) (by decide) dL_law_1307 ?_
  refine r_iadd C dL_law_1308 ?_
  refine r_scld C hX hbl hbA hi1 dL_law_1309 ?_
  refine r_pc (pc1 := 1310) rfl ?_
  refine r_aload_n C 1 rfl rfl dL_law_1310 ?_
  refine r_iload_n C 0 rfl rfl dL_law_1311 ?_
  refine r_iconst C (v := 2) (by decide) dL_law_1312 ?_
  refine r_iadd C dL_law_1313 ?_
  refine r_scld C hX hbl hbA hi2 dL_law_1314 ?_
  refine r_aload_n C 1 rfl rfl dL_law_1315 ?_
  refine r_pc (pc1 := 1316) rfl ?_
  refine r_iload_n C 0 rfl rfl dL_law_1316 ?_
  refine r_iconst C (v := 3) (by decide) dL_law_1317 ?_
  refine r_iadd C dL_law_1318 ?_
  refine r_scld C hX hbl hbA hi3 dL_law_1319 ?_
  refine r_cvi C (rest := [.int r]) (c_X11_act h2) fm_X11_act lk_L_176 o_98 ⟨_, ct_10 o_98.1⟩ rfl rfl ⟨rfl, rfl, Nat.le_of_ble_eq_true rfl, Nat.le_of_ble_eq_true rfl⟩ (Nat.le_of_ble_eq_true rfl) rfl dL_law_1320 ?_
  refine r_icmp_eq (XA := true) (XB := false) (z := true) C (tgt := 1400) (by rw [if_pos rfl]) dL_law_1323 (by decide) (fun _ => ?_) (fun h => by cases h)
  exact kk _ _ hR2
set_option maxHeartbeats 4000000 in
set_option maxRecDepth 100000 in
theorem lb_trace {p : Program} {l : Launch} {e : Env} {s : State} {m : MethodId} {args : Array Value} {below : List Frame} {meth : Method} {c : Code} {Q : State → Prop} {g : GG} {ad : Nat → Nat} {I : HI} {J : HJ} {N b L : Nat} {xs : Nat → Int32} {i : Int32} (C : Cx p s m args meth c RL code 4 g (AW ad nO)) (hX : va_X b L xs s s.heap) (hbl : b < s.heap.size) (hbA : ¬ AW ad nO b) (hi1 : vp_in (i + 1) L) (hi2 : vp_in (i + 2) L) (hi3 : vp_in (i + 3) L) (hN : N ≤ 1000000) (hR : Rel N I J) (kk : ∀ I J, Rel (N + 400) I J → V p l e room_1 s m args below meth c Q 4 600000 7302250 g (AW ad nO) ad nO oR I J 1400 [(3, .int i), (0, .ref b), (1, .ref (ad 0)), (2, .ref (ad 98))] []) : V p l e room_1 s m args below meth c Q 4 600000 7302250 g (AW ad nO) ad nO oR I J 1328 [(3, .int i), (0, .ref b), (1, .ref (ad 0)), (2, .ref (ad 98))] [] := by
  obtain ⟨r, h1, h2, hR2⟩ := sim_trace hN hR (xs (i + 1).toNatClampNeg)
  refine r_aload_n C 2 rfl rfl dL_law_1328 ?_
  refine r_aload_n C 1 rfl rfl dL_law_1329 ?_
  refine r_iload_n C 0 rfl rfl dL_law_1330 ?_
  refine r_iconst C (v := 1) (by decide) dL_law_1331 ?_
  refine r_iadd C dL_law_1332 ?_
  refine r_pc (pc1 := 1333) rfl ?_
  refine r_scld C hX hbl hbA hi1 dL_law_1333 ?_
  refine r_cvi C (rest := []) (c_X10_trace h1) fm_X10_trace lk_L_177 o_0 ⟨_, ct_9 o_0.1⟩ rfl rfl ⟨rfl, rfl, Nat.le_of_ble_eq_true rfl, Nat.le_of_ble_eq_true rfl⟩ (Nat.le_of_ble_eq_true rfl) rfl dL_law_1334 ?_
  refine r_aload_n C 3 rfl rfl dL_law_1337 ?_
  refine r_aload_n C 1 rfl rfl dL_law_1338 ?_
  refine r_iload_n C 0 rfl rfl dL_law_1339 ?_
  refine r_iconst C (v := 1) (by decide) dL_law_1340 ?_
  refine r_pc (pc1 := 1341) rfl ?_
  refine r_iadd C dL_law_1341 ?_
  refine r_scld C hX hbl hbA hi1 dL_law_1342 ?_
  refine r_cvi C (rest := [.int r]) (c_X11_trace h2) fm_X11_trace lk_L_180 o_98 ⟨_, ct_10 o_98.1⟩ rfl rfl ⟨rfl, rfl, Nat.le_of_ble_eq_true rfl, Nat.le_of_ble_eq_true rfl⟩ (Nat.le_of_ble_eq_true rfl) rfl dL_law_1343 ?_
  refine r_icmp_eq (XA := true) (XB := false) (z := true) C (tgt := 1400) (by rw [if_pos rfl]) dL_law_1346 (by decide) (fun _ => ?_) (fun h => by cases h)
  exact kk _ _ hR2
set_option maxHeartbeats 4000000 in
set_option maxRecDepth 100000 in
theorem lb_many {p : Program} {l : Launch} {e : Env} {s : State} {m : MethodId} {args : Array Value} {below : List Frame} {meth : Method} {c : Code} {Q : State → Prop} {g : GG} {ad : Nat → Nat} {I : HI} {J : HJ} {N b L : Nat} {xs : Nat → Int32} {i : Int32} (C : Cx p s m args meth c RL code 4 g (AW ad nO)) (hX : va_X b L xs s s.heap) (hbl : b < s.heap.size) (hbA : ¬ AW ad nO b) (hi1 : vp_in (i + 1) L) (hi2 : vp_in (i + 2) L) (hi3 : vp_in (i + 3) L) (hN : N ≤ 1000000) (hR : Rel N I J) (kk : ∀ I J, Rel (N + 400) I J → V p l e room_1 s m args below meth c Q 4 600000 7302250 g (AW ad nO) ad nO oR I J 1400 [(3, .int i), (0, .ref b), (1, .ref (ad 0)), (2, .ref (ad 98))] []) : V p l e room_1 s m args below meth c Q 4 600000 7302250 g (AW ad nO) ad nO oR I J 1351 [(3, .int i), (0, .ref b), (1, .ref (ad 0)), (2, .ref (ad 98))] [] := by
  obtain ⟨r, h1, h2, hR2⟩ := sim_many hN hR (xs (i + 1).toNatClampNeg)
  refine r_aload_n C 2 rfl rfl dL_law_1351 ?_
  refine r_aload_n C 1 rfl rfl dL_law_1352 ?_
  refine r_iload_n C 0 rfl rfl dL_law_1353 ?_
  refine r_iconst C (v := 1) (by decide) dL_law_1354 ?_
  refine r_iadd C dL_law_1355 ?_
  refine r_pc (pc1 := 1356) rfl ?_
  refine r_scld C hX hbl hbA hi1 dL_law_1356 ?_
  refine r_cvi C (rest := []) (c_X10_many h1) fm_X10_many lk_L_181 o_0 ⟨_, ct_9 o_0.1⟩ rfl rfl ⟨rfl, rfl, Nat.le_of_ble_eq_true rfl, Nat.le_of_ble_eq_true rfl⟩ (Nat.le_of_ble_eq_true rfl) rfl dL_law_1357 ?_
  refine r_aload_n C 3 rfl rfl dL_law_1360 ?_
  refine r_aload_n C 1 rfl rfl dL_law_1361 ?_
  refine r_iload_n C 0 rfl rfl dL_law_1362 ?_
  refine r_iconst C (v := 1) (by decide) dL_law_1363 ?_
  refine r_pc (pc1 := 1364) rfl ?_
  refine r_iadd C dL_law_1364 ?_
  refine r_scld C hX hbl hbA hi1 dL_law_1365 ?_
  refine r_cvi C (rest := [.int r]) (c_X11_many h2) fm_X11_many lk_L_184 o_98 ⟨_, ct_10 o_98.1⟩ rfl rfl ⟨rfl, rfl, Nat.le_of_ble_eq_true rfl, Nat.le_of_ble_eq_true rfl⟩ (Nat.le_of_ble_eq_true rfl) rfl dL_law_1366 ?_
  refine r_icmp_eq (XA := true) (XB := false) (z := true) C (tgt := 1400) (by rw [if_pos rfl]) dL_law_1369 (by decide) (fun _ => ?_) (fun h => by cases h)
  exact kk _ _ hR2
set_option maxHeartbeats 4000000 in
set_option maxRecDepth 100000 in
theorem lb_keep {p : Program} {l : Launch} {e : Env} {s : State} {m : MethodId} {args : Array Value} {below : List Frame} {meth : Method} {c : Code} {Q : State → Prop} {g : GG} {ad : Nat → Nat} {I : HI} {J : HJ} {N b L : Nat} {xs : Nat → Int32} {i : Int32} (C : Cx p s m args meth c RL code 4 g (AW ad nO)) (hX : va_X b L xs s s.heap) (hbl : b < s.heap.size) (hbA : ¬ AW ad nO b) (hi1 : vp_in (i + 1) L) (hi2 : vp_in (i + 2) L) (hi3 : vp_in (i + 3) L) (hN : N ≤ 1000000) (hR : Rel N I J) (kk : ∀ I J, Rel (N + 400) I J → V p l e room_1 s m args below meth c Q 4 600000 7302250 g (AW ad nO) ad nO oR I J 1400 [(3, .int i), (0, .ref b), (1, .ref (ad 0)), (2, .ref (ad 98))] []) : V p l e room_1 s m args below meth c Q 4 600000 7302250 g (AW ad nO) ad nO oR I J 1374 [(3, .int i), (0, .ref b), (1, .ref (ad 0)), (2, .ref (ad 98))] [] := by
  obtain ⟨r, I1, J1, I2, J2, h1, h2, hR2⟩ := sim_keep hN hR 
  refine r_aload_n C 2 rfl rfl dL_law_1374 ?_
  refine r_cvi C (rest := []) (c_X10_keep h1) fm_X10_keep lk_L_185 o_0 ⟨_, ct_9 o_0.1⟩ rfl rfl ⟨rfl, rfl, Nat.le_of_ble_eq_true rfl, Nat.le_of_ble_eq_true rfl⟩ (Nat.le_of_ble_eq_true rfl) rfl dL_law_1375 ?_
  refine r_aload_n C 3 rfl rfl dL_law_1378 ?_
  refine r_cvi C (rest := [.int r]) (c_X11_keep h2) fm_X11_keep lk_L_188 o_98 ⟨_, ct_10 o_98.1⟩ rfl rfl ⟨rfl, rfl, Nat.le_of_ble_eq_true rfl, Nat.le_of_ble_eq_true rfl⟩ (Nat.le_of_ble_eq_true rfl) rfl dL_law_1379 ?_
  refine r_icmp_eq (XA := true) (XB := false) (z := true) C (tgt := 1400) (by rw [if_pos rfl]) dL_law_1382 (by decide) (fun _ => ?_) (fun h => by cases h)
  exact kk _ _ hR2
set_option maxHeartbeats 4000000 in
set_option maxRecDepth 100000 in
theorem lb_again {p : Program} {l : Launch} {e : Env} {s : State} {m : MethodId} {args : Array Value} {below : List Frame} {meth : Method} {c : Code} {Q : State → Prop} {g : GG} {ad : Nat → Nat} {I : HI} {J : HJ} {N b L : Nat} {xs : Nat → Int32} {i : Int32} (C : Cx p s m args meth c RL code 4 g (AW ad nO)) (hX : va_X b L xs s s.heap) (hbl : b < s.heap.size) (hbA : ¬ AW ad nO b) (hi1 : vp_in (i + 1) L) (hi2 : vp_in (i + 2) L) (hi3 : vp_in (i + 3) L) (hN : N ≤ 1000000) (hR : Rel N I J) (kk : ∀ I J, Rel (N + 400) I J → V p l e room_1 s m args below meth c Q 4 600000 7302250 g (AW ad nO) ad nO oR I J 1400 [(3, .int i), (0, .ref b), (1, .ref (ad 0)), (2, .ref (ad 98))] []) : V p l e room_1 s m args below meth c Q 4 600000 7302250 g (AW ad nO) ad nO oR I J 1387 [(3, .int i), (0, .ref b), (1, .ref (ad 0)), (2, .ref (ad 98))] [] := by
  obtain ⟨r, I1, J1, I2, J2, h1, h2, hR2⟩ := sim_again hN hR 
  refine r_aload_n C 2 rfl rfl dL_law_1387 ?_
  refine r_cvi C (rest := []) (c_X10_again h1) fm_X10_again lk_L_189 o_0 ⟨_, ct_9 o_0.1⟩ rfl rfl ⟨rfl, rfl, Nat.le_of_ble_eq_true rfl, Nat.le_of_ble_eq_true rfl⟩ (Nat.le_of_ble_eq_true rfl) rfl dL_law_1388 ?_
  refine r_aload_n C 3 rfl rfl dL_law_1391 ?_
  refine r_cvi C (rest := [.int r]) (c_X11_again h2) fm_X11_again lk_L_192 o_98 ⟨_, ct_10 o_98.1⟩ rfl rfl ⟨rfl, rfl, Nat.le_of_ble_eq_true rfl, Nat.le_of_ble_eq_true rfl⟩ (Nat.le_of_ble_eq_true rfl) rfl dL_law_1392 ?_
  refine r_icmp_eq (XA := true) (XB := false) (z := true) C (tgt := 1400) (by rw [if_pos rfl]) dL_law_1395 (by decide) (fun _ => ?_) (fun h => by cases h)
  exact kk _ _ hR2
set_option maxHeartbeats 4000000 in
set_option maxRecDepth 100000 in
theorem lb_body {p : Program} {l : Launch} {e : Env} {s : State} {m : MethodId} {args : Array Value} {below : List Frame} {meth : Method} {c : Code} {Q : State → Prop} {g : GG} {ad : Nat → Nat} {I : HI} {J : HJ} {N b L : Nat} {xs : Nat → Int32} {i : Int32} (C : Cx p s m args meth c RL code 4 g (AW ad nO)) (hX : va_X b L xs s s.heap) (hbl : b < s.heap.size) (hbA : ¬ AW ad nO b) (hi0 : vp_in i L) (hi1 : vp_in (i + 1) L) (hi2 : vp_in (i + 2) L) (hi3 : vp_in (i + 3) L) (hN : N ≤ 1000000) (hR : Rel N I J) (kk : ∀ I J, Rel (N + 400) I J → V p l e room_1 s m args below meth c Q 4 600000 7302250 g (AW ad nO) ad nO oR I J 1400 [(3, .int i), (0, .ref b), (1, .ref (ad 0)), (2, .ref (ad 98))] []) : V p l e room_1 s m args below meth c Q 4 600000 7302250 g (AW ad nO) ad nO oR I J 26 [(3, .int i), (0, .ref b), (1, .ref (ad 0)), (2, .ref (ad 98))] [] := by
  refine r_aload_n C 1 rfl rfl dL_law_26 ?_
  refine r_iload_n C 0 rfl rfl dL_law_27 ?_
  refine r_scld C hX hbl hbA hi0 dL_law_28 ?_
  refine r_bipush C (v := 63) (by decide) dL_law_29 ?_
  refine r_iand C dL_law_31 ?_
  generalize xs i.toNatClampNeg &&& 63 = w
  by_cases hc0 : w = 0
  · exact r_tabIn C (tgt := 220) 0 hc0 dL_law_32 (by decide) (by decide) rfl (by decide) (lb_begin C hX hbl hbA hi1 hi2 hi3 hN hR kk)
  by_cases hc1 : w = 1
  · exact r_tabIn C (tgt := 263) 1 hc1 dL_law_32 (by decide) (by decide) rfl (by decide) (lb_set C hX hbl hbA hi1 hi2 hi3 hN hR kk)
  by_cases hc2 : w = 2
  · exact r_tabIn C (tgt := 296) 2 hc2 dL_law_32 (by decide) (by decide) rfl (by decide) (lb_seed C hX hbl hbA hi1 hi2 hi3 hN hR kk)
  by_cases hc3 : w = 3
  · exact r_tabIn C (tgt := 319) 3 hc3 dL_law_32 (by decide) (by decide) rfl (by decide) (lb_run C hX hbl hbA hi1 hi2 hi3 hN hR kk)
  by_cases hc4 : w = 4
  · exact r_tabIn C (tgt := 342) 4 hc4 dL_law_32 (by decide) (by decide) rfl (by decide) (lb_tap C hX hbl hbA hi1 hi2 hi3 hN hR kk)
  by_cases hc5 : w = 5
  · exact r_tabIn C (tgt := 365) 5 hc5 dL_law_32 (by decide) (by decide) rfl (by decide) (lb_water C hX hbl hbA hi1 hi2 hi3 hN hR kk)
  by_cases hc6 : w = 6
  · exact r_tabIn C (tgt := 379) 6 hc6 dL_law_32 (by decide) (by decide) rfl (by decide) (lb_feed C hX hbl hbA hi1 hi2 hi3 hN hR kk)
  by_cases hc7 : w = 7
  · exact r_tabIn C (tgt := 442) 7 hc7 dL_law_32 (by decide) (by decide) rfl (by decide) (lb_read C hX hbl hbA hi1 hi2 hi3 hN hR kk)
  by_cases hc8 : w = 8
  · exact r_tabIn C (tgt := 455) 8 hc8 dL_law_32 (by decide) (by decide) rfl (by decide) (lb_says C hX hbl hbA hi1 hi2 hi3 hN hR kk)
  by_cases hc9 : w = 9
  · exact r_tabIn C (tgt := 478) 9 hc9 dL_law_32 (by decide) (by decide) rfl (by decide) (lb_tell C hX hbl hbA hi1 hi2 hi3 hN hR kk)
  by_cases hc10 : w = 10
  · exact r_tabIn C (tgt := 501) 10 hc10 dL_law_32 (by decide) (by decide) rfl (by decide) (lb_clear C hX hbl hbA hi1 hi2 hi3 hN hR kk)
  by_cases hc11 : w = 11
  · exact r_tabIn C (tgt := 514) 11 hc11 dL_law_32 (by decide) (by decide) rfl (by decide) (lb_time C hX hbl hbA hi1 hi2 hi3 hN hR kk)
  by_cases hc12 : w = 12
  · exact r_tabIn C (tgt := 537) 12 hc12 dL_law_32 (by decide) (by decide) rfl (by decide) (lb_period C hX hbl hbA hi1 hi2 hi3 hN hR kk)
  by_cases hc13 : w = 13
  · exact r_tabIn C (tgt := 550) 13 hc13 dL_law_32 (by decide) (by decide) rfl (by decide) (lb_kind C hX hbl hbA hi1 hi2 hi3 hN hR kk)
  by_cases hc14 : w = 14
  · exact r_tabIn C (tgt := 563) 14 hc14 dL_law_32 (by decide) (by decide) rfl (by decide) (lb_order C hX hbl hbA hi1 hi2 hi3 hN hR kk)
  by_cases hc15 : w = 15
  · exact r_tabIn C (tgt := 576) 15 hc15 dL_law_32 (by decide) (by decide) rfl (by decide) (lb_hits C hX hbl hbA hi1 hi2 hi3 hN hR kk)
  by_cases hc16 : w = 16
  · exact r_tabIn C (tgt := 609) 16 hc16 dL_law_32 (by decide) (by decide) rfl (by decide) (lb_ahead C hX hbl hbA hi1 hi2 hi3 hN hR kk)
  by_cases hc17 : w = 17
  · exact r_tabIn C (tgt := 632) 17 hc17 dL_law_32 (by decide) (by decide) rfl (by decide) (lb_rule C hX hbl hbA hi1 hi2 hi3 hN hR kk)
  by_cases hc18 : w = 18
  · exact r_tabIn C (tgt := 665) 18 hc18 dL_law_32 (by decide) (by decide) rfl (by decide) (lb_drift C hX hbl hbA hi1 hi2 hi3 hN hR kk)
  by_cases hc19 : w = 19
  · exact r_tabIn C (tgt := 688) 19 hc19 dL_law_32 (by decide) (by decide) rfl (by decide) (lb_span C hX hbl hbA hi1 hi2 hi3 hN hR kk)
  by_cases hc20 : w = 20
  · exact r_tabIn C (tgt := 711) 20 hc20 dL_law_32 (by decide) (by decide) rfl (by decide) (lb_grid C hX hbl hbA hi1 hi2 hi3 hN hR kk)
  by_cases hc21 : w = 21
  · exact r_tabIn C (tgt := 734) 21 hc21 dL_law_32 (by decide) (by decide) rfl (by decide) (lb_doubling C hX hbl hbA hi1 hi2 hi3 hN hR kk)
  by_cases hc22 : w = 22
  · exact r_tabIn C (tgt := 767) 22 hc22 dL_law_32 (by decide) (by decide) rfl (by decide) (lb_windows C hX hbl hbA hi1 hi2 hi3 hN hR kk)
  by_cases hc23 : w = 23
  · exact r_tabIn C (tgt := 800) 23 hc23 dL_law_32 (by decide) (by decide) rfl (by decide) (lb_touch C hX hbl hbA hi1 hi2 hi3 hN hR kk)
  by_cases hc24 : w = 24
  · exact r_tabIn C (tgt := 823) 24 hc24 dL_law_32 (by decide) (by decide) rfl (by decide) (lb_lost C hX hbl hbA hi1 hi2 hi3 hN hR kk)
  by_cases hc25 : w = 25
  · exact r_tabIn C (tgt := 846) 25 hc25 dL_law_32 (by decide) (by decide) rfl (by decide) (lb_prove C hX hbl hbA hi1 hi2 hi3 hN hR kk)
  by_cases hc26 : w = 26
  · exact r_tabIn C (tgt := 869) 26 hc26 dL_law_32 (by decide) (by decide) rfl (by decide) (lb_row C hX hbl hbA hi1 hi2 hi3 hN hR kk)
  by_cases hc27 : w = 27
  · exact r_tabIn C (tgt := 902) 27 hc27 dL_law_32 (by decide) (by decide) rfl (by decide) (lb_alterRow C hX hbl hbA hi1 hi2 hi3 hN hR kk)
  by_cases hc28 : w = 28
  · exact r_tabIn C (tgt := 945) 28 hc28 dL_law_32 (by decide) (by decide) rfl (by decide) (lb_judge C hX hbl hbA hi1 hi2 hi3 hN hR kk)
  by_cases hc29 : w = 29
  · exact r_tabIn C (tgt := 958) 29 hc29 dL_law_32 (by decide) (by decide) rfl (by decide) (lb_record C hX hbl hbA hi1 hi2 hi3 hN hR kk)
  by_cases hc30 : w = 30
  · exact r_tabIn C (tgt := 971) 30 hc30 dL_law_32 (by decide) (by decide) rfl (by decide) (lb_recorded C hX hbl hbA hi1 hi2 hi3 hN hR kk)
  by_cases hc31 : w = 31
  · exact r_tabIn C (tgt := 1004) 31 hc31 dL_law_32 (by decide) (by decide) rfl (by decide) (lb_alike C hX hbl hbA hi1 hi2 hi3 hN hR kk)
  by_cases hc32 : w = 32
  · exact r_tabIn C (tgt := 1037) 32 hc32 dL_law_32 (by decide) (by decide) rfl (by decide) (lb_sheet C hX hbl hbA hi1 hi2 hi3 hN hR kk)
  by_cases hc33 : w = 33
  · exact r_tabIn C (tgt := 1080) 33 hc33 dL_law_32 (by decide) (by decide) rfl (by decide) (lb_put C hX hbl hbA hi1 hi2 hi3 hN hR kk)
  by_cases hc34 : w = 34
  · exact r_tabIn C (tgt := 1123) 34 hc34 dL_law_32 (by decide) (by decide) rfl (by decide) (lb_item C hX hbl hbA hi1 hi2 hi3 hN hR kk)
  by_cases hc35 : w = 35
  · exact r_tabIn C (tgt := 1166) 35 hc35 dL_law_32 (by decide) (by decide) rfl (by decide) (lb_times C hX hbl hbA hi1 hi2 hi3 hN hR kk)
  by_cases hc36 : w = 36
  · exact r_tabIn C (tgt := 1209) 36 hc36 dL_law_32 (by decide) (by decide) rfl (by decide) (lb_shelf C hX hbl hbA hi1 hi2 hi3 hN hR kk)
  by_cases hc37 : w = 37
  · exact r_tabIn C (tgt := 1252) 37 hc37 dL_law_32 (by decide) (by decide) rfl (by decide) (lb_taken C hX hbl hbA hi1 hi2 hi3 hN hR kk)
  by_cases hc38 : w = 38
  · exact r_tabIn C (tgt := 1285) 38 hc38 dL_law_32 (by decide) (by decide) rfl (by decide) (lb_act C hX hbl hbA hi1 hi2 hi3 hN hR kk)
  by_cases hc39 : w = 39
  · exact r_tabIn C (tgt := 1328) 39 hc39 dL_law_32 (by decide) (by decide) rfl (by decide) (lb_trace C hX hbl hbA hi1 hi2 hi3 hN hR kk)
  by_cases hc40 : w = 40
  · exact r_tabIn C (tgt := 1351) 40 hc40 dL_law_32 (by decide) (by decide) rfl (by decide) (lb_many C hX hbl hbA hi1 hi2 hi3 hN hR kk)
  by_cases hc41 : w = 41
  · exact r_tabIn C (tgt := 1374) 41 hc41 dL_law_32 (by decide) (by decide) rfl (by decide) (lb_keep C hX hbl hbA hi1 hi2 hi3 hN hR kk)
  by_cases hc42 : w = 42
  · exact r_tabIn C (tgt := 1387) 42 hc42 dL_law_32 (by decide) (by decide) rfl (by decide) (lb_again C hX hbl hbA hi1 hi2 hi3 hN hR kk)
  refine r_tabD C (tgt := 1400) [0, 1, 2, 3, 4, 5, 6, 7, 8, 9, 10, 11, 12, 13, 14, 15, 16, 17, 18, 19, 20, 21, 22, 23, 24, 25, 26, 27, 28, 29, 30, 31, 32, 33, 34, 35, 36, 37, 38, 39, 40, 41, 42] (r_nc hc0 rfl (r_nc hc1 rfl (r_nc hc2 rfl (r_nc hc3 rfl (r_nc hc4 rfl (r_nc hc5 rfl (r_nc hc6 rfl (r_nc hc7 rfl (r_nc hc8 rfl (r_nc hc9 rfl (r_nc hc10 rfl (r_nc hc11 rfl (r_nc hc12 rfl (r_nc hc13 rfl (r_nc hc14 rfl (r_nc hc15 rfl (r_nc hc16 rfl (r_nc hc17 rfl (r_nc hc18 rfl (r_nc hc19 rfl (r_nc hc20 rfl (r_nc hc21 rfl (r_nc hc22 rfl (r_nc hc23 rfl (r_nc hc24 rfl (r_nc hc25 rfl (r_nc hc26 rfl (r_nc hc27 rfl (r_nc hc28 rfl (r_nc hc29 rfl (r_nc hc30 rfl (r_nc hc31 rfl (r_nc hc32 rfl (r_nc hc33 rfl (r_nc hc34 rfl (r_nc hc35 rfl (r_nc hc36 rfl (r_nc hc37 rfl (r_nc hc38 rfl (r_nc hc39 rfl (r_nc hc40 rfl (r_nc hc41 rfl (r_nc hc42 rfl r_nc0))))))))))))))))))))))))))))))))))))))))))) dL_law_32 rfl (by decide) (by decide) ?_
  exact kk _ _ (hR.mono (Nat.le_add_right _ _))
set_option maxHeartbeats 4000000 in
set_option maxRecDepth 100000 in
theorem lb_loop {p : Program} {l : Launch} {e : Env} {s : State} {m : MethodId} {args : Array Value} {below : List Frame} {meth : Method} {c : Code} {Q : State → Prop} {g : GG} {ad : Nat → Nat} {b L : Nat} {xs : Nat → Int32} (C : Cx p s m args meth c RL code 4 g (AW ad nO)) (hX : va_X b L xs s s.heap) (hbl : b < s.heap.size) (hbA : ¬ AW ad nO b) (hL : L ≤ 2048) (hend : ∀ I J i, V p l e room_1 s m args below meth c Q 4 600000 7302250 g (AW ad nO) ad nO oR I J 1406 [(3, .int i), (0, .ref b), (1, .ref (ad 0)), (2, .ref (ad 98))] []) : ∀ (f j : Nat), j ≤ L → L - j < f → ∀ (I : HI) (J : HJ), Rel (100 * j) I J → ∀ i, i = nI j → V p l e room_1 s m args below meth c Q 4 600000 7302250 g (AW ad nO) ad nO oR I J 18 [(3, .int i), (0, .ref b), (1, .ref (ad 0)), (2, .ref (ad 98))] [] := by
  intro f
  induction f with
  | zero => intro j _ h; omega
  | succ f ih =>
    intro j hj hf I J hR i hij
    refine r_iload_n C 0 rfl rfl dL_law_18 ?_
    refine r_aload_n C 1 rfl rfl dL_law_19 ?_
    refine r_sclen C hX hbl hbA dL_law_20 ?_
    refine r_iconst C (v := 4) (by decide) dL_law_21 ?_
    refine r_isub C dL_law_22 ?_
    refine r_icmp_gt (XA := false) (XB := true) (z := decide (¬ (Int32.ofNat L - 4 < i))) C (tgt := 1406) (by by_cases h : Int32.ofNat L - 4 < i <;> simp [h]) dL_law_23 (by decide) (fun _ => hend _ _ _) (fun h => ?_)
    have h1 : ¬ (Int32.ofNat L - 4 < i) := by simpa using h.symm
    have e1 : (Int32.ofNat L - 4).toInt = (L : Int) - 4 := pk_sub_toInt (a := L) (b := 4) (by omega) (by omega)
    have e2 : i.toInt = (j : Int) := by rw [hij]; exact nI_toInt (by omega)
    have h2 : (j : Int) ≤ (L : Int) - 4 := by
      have h3 := Int32.le_iff_toInt_le.mp (Int32.not_lt.mp h1)
      rw [e1, e2] at h3
      exact h3
    have h3 : j + 4 ≤ L := by omega
    have v0 : vp_in i L := by rw [hij]; exact vp_in_nI (by omega) (by omega)
    have v1 : vp_in (i + 1) L := by rw [hij, show (1 : Int32) = nI 1 from rfl, nI_add]; exact vp_in_nI (by omega) (by omega)
    have v2 : vp_in (i + 2) L := by rw [hij, show (2 : Int32) = nI 2 from rfl, nI_add]; exact vp_in_nI (by omega) (by omega)
    have v3 : vp_in (i + 3) L := by rw [hij, show (3 : Int32) = nI 3 from rfl, nI_add]; exact vp_in_nI (by omega) (by omega)
    refine lb_body C hX hbl hbA v0 v1 v2 v3 (show 100 * j ≤ 1000000 by omega) hR (fun I1 J1 hR1 => ?_)
    refine r_iinc (v := i + 4) (lv1 := [(3, .int (i + 4)), (0, .ref b), (1, .ref (ad 0)), (2, .ref (ad 98))]) C (k := 0) rfl rfl (by decide) rfl dL_law_1400 ?_
    refine r_goto C (tgt := 18) dL_law_1403 (by decide) ?_
    exact ih (j + 4) h3 (by omega) I1 J1 (by rw [show 100 * (j + 4) = 100 * j + 400 by omega]; exact hR1) (i + 4) (by rw [hij, show (4 : Int32) = nI 4 from rfl, nI_add])

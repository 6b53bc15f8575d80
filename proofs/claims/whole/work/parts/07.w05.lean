set_option maxHeartbeats 4000000 in
set_option maxRecDepth 100000 in
theorem w_X10_record {l : Launch} {g : GG} {ad : Nat → Nat} {p : Program} {e : Env} {s : State} {m : MethodId} {args : Array Value} {below : List Frame} {meth : Method} {c : Code} {z : Int32 × HI} (C : Cx p s m args meth c RX10 cX10_record 1 g (AW ad nO)) (hr : meth.sig.returnType = (some .int)) {I : HI} {J : HJ} (h : f_X10_record I J = some z) : V p l e (rmk 6 192) s m args below meth c (MQ below (QAi g ad nO oR z.1 z.2 J) args s 0 0 (AW ad nO)) 1 0 0 g (AW ad nO) ad nO oR I J 0 [(0, .ref (ad 0))] [] := by
  unfold f_X10_record at h
  refine r_aload_n C 0 rfl rfl dX10_record_0 ?_
  refine gf_X10_26 C rf0 o_0 (q := 13) rfl dX10_record_1 ?_
  refine r_aload_n C 0 rfl rfl dX10_record_4 ?_
  refine gf_X10_10 C rf0 o_0 (q := 1) rfl dX10_record_5 ?_
  refine gf_X10_162 C rf0 o_1 (q := 2) rfl dX10_record_8 ?_
  refine r_pc (pc1 := 11) rfl ?_
  obtain ⟨r6, I7, hq8, h⟩ := bd2_ h
  refine r_cvi C (rest := []) (c_X4_add o_13 o_2 hq8) fm_X4_add lk_X10_264 o_13 ⟨_, ct_3 o_13.1⟩ rfl rfl ⟨rfl, rfl, Nat.le_of_ble_eq_true rfl, Nat.le_of_ble_eq_true rfl⟩ (Nat.le_of_ble_eq_true rfl) rfl dX10_record_11 ?_
  refine r_if_eq C (tgt := 29) h dX10_record_14 (by decide) (fun h => ?_) (fun h => ?_)
  · refine r_bipush C (v := -2) (by decide) dX10_record_29 ?_
    have hz9 := Option.some.inj h
    subst hz9
    exact r_iret C hr dX10_record_31
  · refine r_aload_n C 0 rfl rfl dX10_record_17 ?_
    refine gf_X10_26 C rf0 o_0 (q := 13) rfl dX10_record_18 ?_
    obtain ⟨r9, hq10, h⟩ := bd1_ h
    refine r_cvi C (rest := []) (c_X4_size o_13 hq10) fm_X4_size lk_X10_267 o_13 ⟨_, ct_3 o_13.1⟩ rfl rfl ⟨rfl, rfl, Nat.le_of_ble_eq_true rfl, Nat.le_of_ble_eq_true rfl⟩ (Nat.le_of_ble_eq_true rfl) rfl dX10_record_21 ?_
    refine r_iconst C (v := 1) (by decide) dX10_record_24 ?_
    refine r_isub C dX10_record_25 ?_
    refine r_goto C (tgt := 31) dX10_record_26 (by decide) ?_
    have hz9 := Option.some.inj h
    subst hz9
    exact r_iret C hr dX10_record_31
set_option maxHeartbeats 4000000 in
set_option maxRecDepth 100000 in
theorem c_X10_record {l : Launch} {g : GG} {ad : Nat → Nat} {I : HI} {J : HJ} {r : Int32} {I1 : HI} (h : f_X10_record I J = some (r, I1)) : CM l yX10_record cX10_record 1 (some .int) (rmk 6 192) g ad nO oR [.ref (ad 0)] I J (QAi g ad nO oR r I1 J) :=
  CM_of (by decide +kernel) (Nat.le_of_ble_eq_true rfl) (fun p e s m args below meth c C hr => w_X10_record C hr h)
set_option maxHeartbeats 4000000 in
set_option maxRecDepth 100000 in
theorem w_X10_recorded {l : Launch} {g : GG} {ad : Nat → Nat} {p : Program} {e : Env} {s : State} {m : MethodId} {args : Array Value} {below : List Frame} {meth : Method} {c : Code} {a0 : Int32} {a1 : Int32} {z : Int32} (C : Cx p s m args meth c RX10 cX10_recorded 4 g (AW ad nO)) (hr : meth.sig.returnType = (some .int)) {I : HI} {J : HJ} (h : f_X10_recorded a0 a1 I J = some z) : V p l e (rmk 5 107) s m args below meth c (MQ below (QAi g ad nO oR z I J) args s 0 0 (AW ad nO)) 4 0 0 g (AW ad nO) ad nO oR I J 0 [(0, .ref (ad 0)), (1, .int a0), (2, .int a1)] [] := by
  unfold f_X10_recorded at h
  refine r_aload_n C 0 rfl rfl dX10_recorded_0 ?_
  refine gf_X10_26 C rf0 o_0 (q := 13) rfl dX10_recorded_1 ?_
  refine r_iload_n C 1 rfl rfl dX10_recorded_4 ?_
  obtain ⟨r18, hq19, h⟩ := bd1_ h
  refine r_cve C (rest := []) (c_X4_at o_13 hq19) fm_X4_at lk_X10_268 o_13 ⟨_, ct_3 o_13.1⟩ rfl rfl ⟨rfl, rfl, Nat.le_of_ble_eq_true rfl, Nat.le_of_ble_eq_true rfl⟩ (Nat.le_of_ble_eq_true rfl) rfl dX10_recorded_5 ?_
  cases r18 with
  | none =>
    replace h := oel_n h
    refine r_astore_nN C (lv1 := [(3, .null), (0, .ref (ad 0)), (1, .int a0), (2, .int a1)]) rfl (by decide) rfl dX10_recorded_8 ?_
    refine r_aload_nN C 0 rfl rfl dX10_recorded_9 ?_
    refine r_ifnonnullN C dX10_recorded_10 ?_
    refine r_iconst C (v := -1) (by decide) dX10_recorded_13 ?_
    have hz9 := Option.some.inj h
    subst hz9
    exact r_iret C hr dX10_recorded_14
  | some q20 =>
    replace h := oel_s h
    obtain ⟨hz21, h⟩ := ck h
    refine r_astore_n C (lv1 := [(3, .ref (ad q20)), (0, .ref (ad 0)), (1, .int a0), (2, .int a1)]) rfl (by decide) rfl dX10_recorded_8 ?_
    refine r_aload_n C 0 rfl rfl dX10_recorded_9 ?_
    refine r_ifnonnull C (tgt := 15) dX10_recorded_10 (by decide) ?_
    refine r_iload_n C 3 rfl rfl dX10_recorded_15 ?_
    refine r_case h (fun hc22 h => ?_) (fun hc22 h => ?_)
    · refine r_tabIn C (tgt := 44) 0 hc22 dX10_recorded_16 (by decide) (by decide) rfl (by decide) ?_
      refine r_aload_n C 0 rfl rfl dX10_recorded_44 ?_
      obtain ⟨r23, hq24, h⟩ := bd1_ h
      refine r_cvi C (rest := []) (c_X9_findKind (ob_of hz21) hq24) fm_X9_findKind lk_X10_186 (ob_of hz21) ⟨_, ct_8 (ob_of hz21).1⟩ rfl rfl ⟨rfl, rfl, Nat.le_of_ble_eq_true rfl, Nat.le_of_ble_eq_true rfl⟩ (Nat.le_of_ble_eq_true rfl) rfl dX10_recorded_45 ?_
      have hz9 := Option.some.inj h
      subst hz9
      exact r_iret C hr dX10_recorded_48
    refine r_case h (fun hc25 h => ?_) (fun hc25 h => ?_)
    · refine r_tabIn C (tgt := 49) 1 hc25 dX10_recorded_16 (by decide) (by decide) rfl (by decide) ?_
      refine r_aload_n C 0 rfl rfl dX10_recorded_49 ?_
      obtain ⟨r26, hq27, h⟩ := bd1_ h
      refine r_cvi C (rest := []) (c_X9_size (ob_of hz21) hq27) fm_X9_size lk_X10_172 (ob_of hz21) ⟨_, ct_8 (ob_of hz21).1⟩ rfl rfl ⟨rfl, rfl, Nat.le_of_ble_eq_true rfl, Nat.le_of_ble_eq_true rfl⟩ (Nat.le_of_ble_eq_true rfl) rfl dX10_recorded_50 ?_
      have hz9 := Option.some.inj h
      subst hz9
      exact r_iret C hr dX10_recorded_53
    refine r_case h (fun hc28 h => ?_) (fun hc28 h => ?_)
    · refine r_tabIn C (tgt := 54) 2 hc28 dX10_recorded_16 (by decide) (by decide) rfl (by decide) ?_
      refine r_aload_n C 0 rfl rfl dX10_recorded_54 ?_
      obtain ⟨r29, hq30, h⟩ := bd1_ h
      refine r_cvi C (rest := []) (c_X9_findPeriod (ob_of hz21) hq30) fm_X9_findPeriod lk_X10_183 (ob_of hz21) ⟨_, ct_8 (ob_of hz21).1⟩ rfl rfl ⟨rfl, rfl, Nat.le_of_ble_eq_true rfl, Nat.le_of_ble_eq_true rfl⟩ (Nat.le_of_ble_eq_true rfl) rfl dX10_recorded_55 ?_
      have hz9 := Option.some.inj h
      subst hz9
      exact r_iret C hr dX10_recorded_58
    refine r_tabD C (tgt := 59) [0, 1, 2] (r_nc hc22 rfl (r_nc hc25 rfl (r_nc hc28 rfl r_nc0))) dX10_recorded_16 rfl (by decide) (by decide) ?_
    refine r_iload_n C 3 rfl rfl dX10_recorded_59 ?_
    refine r_iconst C (v := 3) (by decide) dX10_recorded_60 ?_
    refine r_icmp_lt C (tgt := 84) h dX10_recorded_61 (by decide) (fun h => ?_) (fun h => ?_)
    · refine r_iconst C (v := -1) (by decide) dX10_recorded_84 ?_
      have hz9 := Option.some.inj h
      subst hz9
      exact r_iret C hr dX10_recorded_85
    · refine r_aload_n C 0 rfl rfl dX10_recorded_64 ?_
      refine r_iload_n C 3 rfl rfl dX10_recorded_65 ?_
      refine r_iconst C (v := 3) (by decide) dX10_recorded_66 ?_
      refine r_isub C dX10_recorded_67 ?_
      obtain ⟨r31, hq32, h⟩ := bd1_ h
      refine r_cvi C (rest := []) (c_X9_has (ob_of hz21) hq32) fm_X9_has lk_X10_176 (ob_of hz21) ⟨_, ct_8 (ob_of hz21).1⟩ rfl rfl ⟨rfl, rfl, Nat.le_of_ble_eq_true rfl, Nat.le_of_ble_eq_true rfl⟩ (Nat.le_of_ble_eq_true rfl) rfl dX10_recorded_68 ?_
      refine r_if_eq C (tgt := 84) h dX10_recorded_71 (by decide) (fun h => ?_) (fun h => ?_)
      · refine r_iconst C (v := -1) (by decide) dX10_recorded_84 ?_
        have hz9 := Option.some.inj h
        subst hz9
        exact r_iret C hr dX10_recorded_85
      · refine r_aload_n C 0 rfl rfl dX10_recorded_74 ?_
        refine r_iload_n C 3 rfl rfl dX10_recorded_75 ?_
        refine r_iconst C (v := 3) (by decide) dX10_recorded_76 ?_
        refine r_isub C dX10_recorded_77 ?_
        obtain ⟨r33, hq34, h⟩ := bd1_ h
        refine r_cvi C (rest := []) (c_X9_at (ob_of hz21) hq34) fm_X9_at lk_X10_179 (ob_of hz21) ⟨_, ct_8 (ob_of hz21).1⟩ rfl rfl ⟨rfl, rfl, Nat.le_of_ble_eq_true rfl, Nat.le_of_ble_eq_true rfl⟩ (Nat.le_of_ble_eq_true rfl) rfl dX10_recorded_78 ?_
        refine r_goto C (tgt := 85) dX10_recorded_81 (by decide) ?_
        have hz9 := Option.some.inj h
        subst hz9
        exact r_iret C hr dX10_recorded_85
set_option maxHeartbeats 4000000 in
set_option maxRecDepth 100000 in
theorem c_X10_recorded {l : Launch} {g : GG} {ad : Nat → Nat} {a0 : Int32} {a1 : Int32} {I : HI} {J : HJ} {r : Int32} (h : f_X10_recorded a0 a1 I J = some r) : CM l yX10_recorded cX10_recorded 4 (some .int) (rmk 5 107) g ad nO oR [.ref (ad 0), .int a0, .int a1] I J (QAi g ad nO oR r I J) :=
  CM_of (by decide +kernel) (Nat.le_of_ble_eq_true rfl) (fun p e s m args below meth c C hr => w_X10_recorded C hr h)
set_option maxHeartbeats 4000000 in
set_option maxRecDepth 100000 in
theorem wB_X10_alike_28 {l : Launch} {g : GG} {ad : Nat → Nat} {p : Program} {e : Env} {s : State} {m : MethodId} {args : Array Value} {below : List Frame} {meth : Method} {c : Code} {a0 : Int32} {a1 : Int32} {z : Int32} (C : Cx p s m args meth c RX10 cX10_alike 5 g (AW ad nO)) (hr : meth.sig.returnType = (some .int)) {I : HI} {J : HJ}  (h : fB_X10_alike_28 a0 a1 I J = some z) : V p l e (rmk 3 65) s m args below meth c (MQ below (QAi g ad nO oR z I J) args s 0 0 (AW ad nO)) 5 0 0 g (AW ad nO) ad nO oR I J 28 [] [] := by
  unfold fB_X10_alike_28 at h
  refine r_iconst C (v := -1) (by decide) dX10_alike_28 ?_
  refine r_goto C (tgt := 38) dX10_alike_29 (by decide) ?_
  have hz9 := Option.some.inj h
  subst hz9
  exact r_iret C hr dX10_alike_38
set_option maxHeartbeats 4000000 in
set_option maxRecDepth 100000 in
theorem w_X10_alike {l : Launch} {g : GG} {ad : Nat → Nat} {p : Program} {e : Env} {s : State} {m : MethodId} {args : Array Value} {below : List Frame} {meth : Method} {c : Code} {a0 : Int32} {a1 : Int32} {z : Int32} (C : Cx p s m args meth c RX10 cX10_alike 5 g (AW ad nO)) (hr : meth.sig.returnType = (some .int)) {I : HI} {J : HJ} (h : f_X10_alike a0 a1 I J = some z) : V p l e (rmk 3 65) s m args below meth c (MQ below (QAi g ad nO oR z I J) args s 0 0 (AW ad nO)) 5 0 0 g (AW ad nO) ad nO oR I J 0 [(0, .ref (ad 0)), (1, .int a0), (2, .int a1)] [] := by
  unfold f_X10_alike at h
  refine r_aload_n C 0 rfl rfl dX10_alike_0 ?_
  refine gf_X10_26 C rf0 o_0 (q := 13) rfl dX10_alike_1 ?_
  refine r_iload_n C 1 rfl rfl dX10_alike_4 ?_
  obtain ⟨r15, hq16, h⟩ := bd1_ h
  refine r_cve C (rest := []) (c_X4_at o_13 hq16) fm_X4_at lk_X10_268 o_13 ⟨_, ct_3 o_13.1⟩ rfl rfl ⟨rfl, rfl, Nat.le_of_ble_eq_true rfl, Nat.le_of_ble_eq_true rfl⟩ (Nat.le_of_ble_eq_true rfl) rfl dX10_alike_5 ?_
  cases r15 with
  | none =>
    replace h := oel_n h
    refine r_astore_nN C (lv1 := [(3, .null), (0, .ref (ad 0)), (1, .int a0), (2, .int a1)]) rfl (by decide) rfl dX10_alike_8 ?_
    refine r_aload_n C 1 rfl rfl dX10_alike_9 ?_
    refine gf_X10_26 C rf0 o_0 (q := 13) rfl dX10_alike_10 ?_
    refine r_iload_n C 3 rfl rfl dX10_alike_13 ?_
    obtain ⟨r18, hq19, h⟩ := bd1_ h
    refine r_cve C (rest := []) (c_X4_at o_13 hq19) fm_X4_at lk_X10_268 o_13 ⟨_, ct_3 o_13.1⟩ rfl rfl ⟨rfl, rfl, Nat.le_of_ble_eq_true rfl, Nat.le_of_ble_eq_true rfl⟩ (Nat.le_of_ble_eq_true rfl) rfl dX10_alike_14 ?_
    cases r18 with
    | none =>
      replace h := oel_n h
      refine r_astoreN C (lv1 := [(4, .null), (3, .null), (0, .ref (ad 0)), (1, .int a0), (2, .int a1)]) (by decide) rfl dX10_alike_17 ?_
      refine r_aload_nN C 1 rfl rfl dX10_alike_19 ?_
      refine r_ifnullN C (tgt := 28) dX10_alike_20 (by decide) ?_
      exact r_sub [] rfl (wB_X10_alike_28 C hr  h)
    | some q20 =>
      replace h := oel_s h
      obtain ⟨hz21, h⟩ := ck h
      refine r_astore C (lv1 := [(4, .ref (ad q20)), (3, .null), (0, .ref (ad 0)), (1, .int a0), (2, .int a1)]) (by decide) rfl dX10_alike_17 ?_
      refine r_aload_nN C 1 rfl rfl dX10_alike_19 ?_
      refine r_ifnullN C (tgt := 28) dX10_alike_20 (by decide) ?_
      exact r_sub [] rfl (wB_X10_alike_28 C hr  h)
  | some q17 =>
    replace h := oel_s h
    obtain ⟨hz22, h⟩ := ck h
    refine r_astore_n C (lv1 := [(3, .ref (ad q17)), (0, .ref (ad 0)), (1, .int a0), (2, .int a1)]) rfl (by decide) rfl dX10_alike_8 ?_
    refine r_aload_n C 1 rfl rfl dX10_alike_9 ?_
    refine gf_X10_26 C rf0 o_0 (q := 13) rfl dX10_alike_10 ?_
    refine r_iload_n C 3 rfl rfl dX10_alike_13 ?_
    obtain ⟨r23, hq24, h⟩ := bd1_ h
    refine r_cve C (rest := []) (c_X4_at o_13 hq24) fm_X4_at lk_X10_268 o_13 ⟨_, ct_3 o_13.1⟩ rfl rfl ⟨rfl, rfl, Nat.le_of_ble_eq_true rfl, Nat.le_of_ble_eq_true rfl⟩ (Nat.le_of_ble_eq_true rfl) rfl dX10_alike_14 ?_
    cases r23 with
    | none =>
      replace h := oel_n h
      refine r_astoreN C (lv1 := [(4, .null), (3, .ref (ad q17)), (0, .ref (ad 0)), (1, .int a0), (2, .int a1)]) (by decide) rfl dX10_alike_17 ?_
      refine r_aload_n C 1 rfl rfl dX10_alike_19 ?_
      refine r_ifnull C dX10_alike_20 ?_
      refine r_aloadN C 0 rfl dX10_alike_23 ?_
      refine r_ifnonnullN C dX10_alike_25 ?_
      exact r_sub [] rfl (wB_X10_alike_28 C hr  h)
    | some q25 =>
      replace h := oel_s h
      obtain ⟨hz26, h⟩ := ck h
      refine r_astore C (lv1 := [(4, .ref (ad q25)), (3, .ref (ad q17)), (0, .ref (ad 0)), (1, .int a0), (2, .int a1)]) (by decide) rfl dX10_alike_17 ?_
      refine r_aload_n C 1 rfl rfl dX10_alike_19 ?_
      refine r_ifnull C dX10_alike_20 ?_
      refine r_aload C 0 rfl dX10_alike_23 ?_
      refine r_ifnonnull C (tgt := 32) dX10_alike_25 (by decide) ?_
      refine r_aload_n C 1 rfl rfl dX10_alike_32 ?_
      refine r_aload C 0 rfl dX10_alike_33 ?_
      obtain ⟨r27, hq28, h⟩ := bd1_ h
      refine r_cvi C (rest := []) (c_X9_countAlike (ob_of hz22) (ob_of hz26) hq28) fm_X9_countAlike lk_X10_271 (ob_of hz22) ⟨_, ct_8 (ob_of hz22).1⟩ rfl rfl ⟨rfl, rfl, Nat.le_of_ble_eq_true rfl, Nat.le_of_ble_eq_true rfl⟩ (Nat.le_of_ble_eq_true rfl) rfl dX10_alike_35 ?_
      have hz9 := Option.some.inj h
      subst hz9
      exact r_iret C hr dX10_alike_38
set_option maxHeartbeats 4000000 in
set_option maxRecDepth 100000 in
theorem c_X10_alike {l : Launch} {g : GG} {ad : Nat → Nat} {a0 : Int32} {a1 : Int32} {I : HI} {J : HJ} {r : Int32} (h : f_X10_alike a0 a1 I J = some r) : CM l yX10_alike cX10_alike 5 (some .int) (rmk 3 65) g ad nO oR [.ref (ad 0), .int a0, .int a1] I J (QAi g ad nO oR r I J) :=
  CM_of (by decide +kernel) (Nat.le_of_ble_eq_true rfl) (fun p e s m args below meth c C hr => w_X10_alike C hr h)
set_option maxHeartbeats 4000000 in
set_option maxRecDepth 100000 in
theorem w_X10_sheet {l : Launch} {g : GG} {ad : Nat → Nat} {p : Program} {e : Env} {s : State} {m : MethodId} {args : Array Value} {below : List Frame} {meth : Method} {c : Code} {a0 : Int32} {a1 : Int32} {a2 : Int32} {z : Int32 × HI} (C : Cx p s m args meth c RX10 cX10_sheet 4 g (AW ad nO)) (hr : meth.sig.returnType = (some .int)) {I : HI} {J : HJ} (h : f_X10_sheet a0 a1 a2 I J = some z) : V p l e (rmk 2 45) s m args below meth c (MQ below (QAi g ad nO oR z.1 z.2 J) args s 0 0 (AW ad nO)) 4 0 0 g (AW ad nO) ad nO oR I J 0 [(0, .ref (ad 0)), (1, .int a0), (2, .int a1), (3, .int a2)] [] := by
  unfold f_X10_sheet at h
  refine r_aload_n C 0 rfl rfl dX10_sheet_0 ?_
  refine gf_X10_62 C rf0 o_0 (q := 84) rfl dX10_sheet_1 ?_
  refine r_iload_n C 1 rfl rfl dX10_sheet_4 ?_
  obtain ⟨r9, hq10, h⟩ := bd1_ h
  refine r_cvi C (rest := []) (c_X5_isSheet  hq10) fm_X5_isSheet lk_X10_274 o_84 ⟨_, ct_4 o_84.1⟩ rfl rfl ⟨rfl, rfl, Nat.le_of_ble_eq_true rfl, Nat.le_of_ble_eq_true rfl⟩ (Nat.le_of_ble_eq_true rfl) rfl dX10_sheet_5 ?_
  refine r_if_eq C (tgt := 20) h dX10_sheet_8 (by decide) (fun h => ?_) (fun h => ?_)
  · refine r_iconst C (v := -1) (by decide) dX10_sheet_20 ?_
    have hz9 := Option.some.inj h
    subst hz9
    exact r_iret C hr dX10_sheet_21
  · refine r_iload_n C 2 rfl rfl dX10_sheet_11 ?_
    refine r_iconst C (v := -1) (by decide) dX10_sheet_12 ?_
    refine r_iconst C (v := 4) (by decide) dX10_sheet_13 ?_
    obtain ⟨r11, hq12, h⟩ := bd1_ h
    refine r_csi C (rest := []) (c_X10_isWithin  hq12) fm_X10_isWithin lk_X10_80 rfl ⟨rfl, rfl, Nat.le_of_ble_eq_true rfl, Nat.le_of_ble_eq_true rfl⟩ (Nat.le_of_ble_eq_true rfl) rfl dX10_sheet_14 ?_
    refine r_if_ne C (tgt := 22) h dX10_sheet_17 (by decide) (fun h => ?_) (fun h => ?_)
    · refine r_iload_n C 2 rfl rfl dX10_sheet_22 ?_
      refine r_iconst C (v := -1) (by decide) dX10_sheet_23 ?_
      refine r_icmp_ne C (tgt := 37) h dX10_sheet_24 (by decide) (fun h => ?_) (fun h => ?_)
      · refine r_iload_n C 3 rfl rfl dX10_sheet_37 ?_
        refine r_bipush C (v := 40) (by decide) dX10_sheet_38 ?_
        refine r_icmp_le C (tgt := 45) h dX10_sheet_40 (by decide) (fun h => ?_) (fun h => ?_)
        · refine r_iload_n C 3 rfl rfl dX10_sheet_45 ?_
          refine r_if_ge C (tgt := 52) h dX10_sheet_46 (by decide) (fun h => ?_) (fun h => ?_)
          · refine r_aload_n C 0 rfl rfl dX10_sheet_52 ?_
            refine gf_X10_62 C rf0 o_0 (q := 84) rfl dX10_sheet_53 ?_
            refine r_iload_n C 1 rfl rfl dX10_sheet_56 ?_
            refine r_iload_n C 2 rfl rfl dX10_sheet_57 ?_
            refine r_iload_n C 3 rfl rfl dX10_sheet_58 ?_
            refine r_pc (pc1 := 59) rfl ?_
            obtain ⟨I13, hq14, h⟩ := bd1_ h
            refine r_cvv C (rest := []) (c_X5_becomeRow  hq14) fm_X5_becomeRow lk_X10_280 o_84 ⟨_, ct_4 o_84.1⟩ rfl rfl ⟨rfl, rfl, Nat.le_of_ble_eq_true rfl, Nat.le_of_ble_eq_true rfl⟩ (Nat.le_of_ble_eq_true rfl) rfl dX10_sheet_59 ?_
            refine r_iconst C (v := 1) (by decide) dX10_sheet_62 ?_
            have hz9 := Option.some.inj h
            subst hz9
            exact r_iret C hr dX10_sheet_63
          · refine r_bipush C (v := -14) (by decide) dX10_sheet_49 ?_
            have hz9 := Option.some.inj h
            subst hz9
            exact r_iret C hr dX10_sheet_51
        · refine r_iconst C (v := -1) (by decide) dX10_sheet_43 ?_
          have hz9 := Option.some.inj h
          subst hz9
          exact r_iret C hr dX10_sheet_44
      · refine r_aload_n C 0 rfl rfl dX10_sheet_27 ?_
        refine gf_X10_62 C rf0 o_0 (q := 84) rfl dX10_sheet_28 ?_
        refine r_iload_n C 1 rfl rfl dX10_sheet_31 ?_
        obtain ⟨I15, hq16, h⟩ := bd1_ h
        refine r_cvv C (rest := []) (c_X5_becomeMissing  hq16) fm_X5_becomeMissing lk_X10_277 o_84 ⟨_, ct_4 o_84.1⟩ rfl rfl ⟨rfl, rfl, Nat.le_of_ble_eq_true rfl, Nat.le_of_ble_eq_true rfl⟩ (Nat.le_of_ble_eq_true rfl) rfl dX10_sheet_32 ?_
        refine r_iconst C (v := 1) (by decide) dX10_sheet_35 ?_
        have hz9 := Option.some.inj h
        subst hz9
        exact r_iret C hr dX10_sheet_36
    · refine r_iconst C (v := -1) (by decide) dX10_sheet_20 ?_
      have hz9 := Option.some.inj h
      subst hz9
      exact r_iret C hr dX10_sheet_21
set_option maxHeartbeats 4000000 in
set_option maxRecDepth 100000 in
theorem c_X10_sheet {l : Launch} {g : GG} {ad : Nat → Nat} {a0 : Int32} {a1 : Int32} {a2 : Int32} {I : HI} {J : HJ} {r : Int32} {I1 : HI} (h : f_X10_sheet a0 a1 a2 I J = some (r, I1)) : CM l yX10_sheet cX10_sheet 4 (some .int) (rmk 2 45) g ad nO oR [.ref (ad 0), .int a0, .int a1, .int a2] I J (QAi g ad nO oR r I1 J) :=
  CM_of (by decide +kernel) (Nat.le_of_ble_eq_true rfl) (fun p e s m args below meth c C hr => w_X10_sheet C hr h)
set_option maxHeartbeats 4000000 in
set_option maxRecDepth 100000 in
theorem w_X10_put {l : Launch} {g : GG} {ad : Nat → Nat} {p : Program} {e : Env} {s : State} {m : MethodId} {args : Array Value} {below : List Frame} {meth : Method} {c : Code} {a0 : Int32} {a1 : Int32} {a2 : Int32} {z : Int32 × HI} (C : Cx p s m args meth c RX10 cX10_put 4 g (AW ad nO)) (hr : meth.sig.returnType = (some .int)) {I : HI} {J : HJ} (h : f_X10_put a0 a1 a2 I J = some z) : V p l e (rmk 3 67) s m args below meth c (MQ below (QAi g ad nO oR z.1 z.2 J) args s 0 0 (AW ad nO)) 4 0 0 g (AW ad nO) ad nO oR I J 0 [(0, .ref (ad 0)), (1, .int a0), (2, .int a1), (3, .int a2)] [] := by
  unfold f_X10_put at h
  refine r_aload_n C 0 rfl rfl dX10_put_0 ?_
  refine gf_X10_62 C rf0 o_0 (q := 84) rfl dX10_put_1 ?_
  refine r_iload_n C 1 rfl rfl dX10_put_4 ?_
  obtain ⟨r9, hq10, h⟩ := bd1_ h
  refine r_cvi C (rest := []) (c_X5_isSheet  hq10) fm_X5_isSheet lk_X10_274 o_84 ⟨_, ct_4 o_84.1⟩ rfl rfl ⟨rfl, rfl, Nat.le_of_ble_eq_true rfl, Nat.le_of_ble_eq_true rfl⟩ (Nat.le_of_ble_eq_true rfl) rfl dX10_put_5 ?_
  refine r_if_ne C (tgt := 13) h dX10_put_8 (by decide) (fun h => ?_) (fun h => ?_)
  · refine r_aload_n C 0 rfl rfl dX10_put_13 ?_
    refine gf_X10_62 C rf0 o_0 (q := 84) rfl dX10_put_14 ?_
    refine r_iload_n C 1 rfl rfl dX10_put_17 ?_
    obtain ⟨r11, hq12, h⟩ := bd1_ h
    refine r_cvi C (rest := []) (c_X5_sortOf  hq12) fm_X5_sortOf lk_X10_283 o_84 ⟨_, ct_4 o_84.1⟩ rfl rfl ⟨rfl, rfl, Nat.le_of_ble_eq_true rfl, Nat.le_of_ble_eq_true rfl⟩ (Nat.le_of_ble_eq_true rfl) rfl dX10_put_18 ?_
    refine r_iconst C (v := -1) (by decide) dX10_put_21 ?_
    refine r_icmp_ne C (tgt := 28) h dX10_put_22 (by decide) (fun h => ?_) (fun h => ?_)
    · refine r_aload_n C 0 rfl rfl dX10_put_28 ?_
      refine gf_X10_62 C rf0 o_0 (q := 84) rfl dX10_put_29 ?_
      refine r_iload_n C 1 rfl rfl dX10_put_32 ?_
      refine r_iload_n C 2 rfl rfl dX10_put_33 ?_
      obtain ⟨r13, hq14, h⟩ := bd1_ h
      refine r_cvi C (rest := []) (c_X5_has  hq14) fm_X5_has lk_X10_286 o_84 ⟨_, ct_4 o_84.1⟩ rfl rfl ⟨rfl, rfl, Nat.le_of_ble_eq_true rfl, Nat.le_of_ble_eq_true rfl⟩ (Nat.le_of_ble_eq_true rfl) rfl dX10_put_34 ?_
      refine r_if_ne C (tgt := 43) h dX10_put_37 (by decide) (fun h => ?_) (fun h => ?_)
      · refine r_aload_n C 0 rfl rfl dX10_put_43 ?_
        refine gf_X10_62 C rf0 o_0 (q := 84) rfl dX10_put_44 ?_
        refine r_iload_n C 1 rfl rfl dX10_put_47 ?_
        refine r_iload_n C 2 rfl rfl dX10_put_48 ?_
        refine r_iload_n C 3 rfl rfl dX10_put_49 ?_
        refine r_pc (pc1 := 50) rfl ?_
        obtain ⟨I15, hq16, h⟩ := bd1_ h
        refine r_cvv C (rest := []) (c_X5_putNarrowed  hq16) fm_X5_putNarrowed lk_X10_287 o_84 ⟨_, ct_4 o_84.1⟩ rfl rfl ⟨rfl, rfl, Nat.le_of_ble_eq_true rfl, Nat.le_of_ble_eq_true rfl⟩ (Nat.le_of_ble_eq_true rfl) rfl dX10_put_50 ?_
        refine r_iconst C (v := 1) (by decide) dX10_put_53 ?_
        have hz9 := Option.some.inj h
        subst hz9
        exact r_iret C hr dX10_put_54
      · refine r_bipush C (v := -12) (by decide) dX10_put_40 ?_
        have hz9 := Option.some.inj h
        subst hz9
        exact r_iret C hr dX10_put_42
    · refine r_bipush C (v := -11) (by decide) dX10_put_25 ?_
      have hz9 := Option.some.inj h
      subst hz9
      exact r_iret C hr dX10_put_27
  · refine r_iconst C (v := -1) (by decide) dX10_put_11 ?_
    have hz9 := Option.some.inj h
    subst hz9
    exact r_iret C hr dX10_put_12
set_option maxHeartbeats 4000000 in
set_option maxRecDepth 100000 in
theorem c_X10_put {l : Launch} {g : GG} {ad : Nat → Nat} {a0 : Int32} {a1 : Int32} {a2 : Int32} {I : HI} {J : HJ} {r : Int32} {I1 : HI} (h : f_X10_put a0 a1 a2 I J = some (r, I1)) : CM l yX10_put cX10_put 4 (some .int) (rmk 3 67) g ad nO oR [.ref (ad 0), .int a0, .int a1, .int a2] I J (QAi g ad nO oR r I1 J) :=
  CM_of (by decide +kernel) (Nat.le_of_ble_eq_true rfl) (fun p e s m args below meth c C hr => w_X10_put C hr h)
set_option maxHeartbeats 4000000 in
set_option maxRecDepth 100000 in
theorem w_X10_refusalOfSort {l : Launch} {g : GG} {ad : Nat → Nat} {p : Program} {e : Env} {s : State} {m : MethodId} {args : Array Value} {below : List Frame} {meth : Method} {c : Code} {a0 : Int32} {a1 : Int32} {z : Int32} (C : Cx p s m args meth c RX10 cX10_refusalOfSort 4 g (AW ad nO)) (hr : meth.sig.returnType = (some .int)) {I : HI} {J : HJ} (h : f_X10_refusalOfSort a0 a1 I J = some z) : V p l e (rmk 2 42) s m args below meth c (MQ below (QAi g ad nO oR z I J) args s 0 0 (AW ad nO)) 4 0 0 g (AW ad nO) ad nO oR I J 0 [(0, .ref (ad 0)), (1, .int a0), (2, .int a1)] [] := by
  unfold f_X10_refusalOfSort at h
  refine r_aload_n C 0 rfl rfl dX10_refusalOfSort_0 ?_
  refine gf_X10_62 C rf0 o_0 (q := 84) rfl dX10_refusalOfSort_1 ?_
  refine r_iload_n C 1 rfl rfl dX10_refusalOfSort_4 ?_
  obtain ⟨r3, hq4, h⟩ := bd1_ h
  refine r_cvi C (rest := []) (c_X5_sortOf  hq4) fm_X5_sortOf lk_X10_283 o_84 ⟨_, ct_4 o_84.1⟩ rfl rfl ⟨rfl, rfl, Nat.le_of_ble_eq_true rfl, Nat.le_of_ble_eq_true rfl⟩ (Nat.le_of_ble_eq_true rfl) rfl dX10_refusalOfSort_5 ?_
  refine r_istore_n C (lv1 := [(3, .int r3), (0, .ref (ad 0)), (1, .int a0), (2, .int a1)]) rfl (by decide) rfl dX10_refusalOfSort_8 ?_
  refine r_iload_n C 0 rfl rfl dX10_refusalOfSort_9 ?_
  refine r_iconst C (v := -1) (by decide) dX10_refusalOfSort_10 ?_
  refine r_icmp_ne C (tgt := 17) h dX10_refusalOfSort_11 (by decide) (fun h => ?_) (fun h => ?_)
  · refine r_iload_n C 0 rfl rfl dX10_refusalOfSort_17 ?_
    refine r_iload_n C 3 rfl rfl dX10_refusalOfSort_18 ?_
    refine r_icmp_ne C (tgt := 26) h dX10_refusalOfSort_19 (by decide) (fun h => ?_) (fun h => ?_)
    · refine r_bipush C (v := -13) (by decide) dX10_refusalOfSort_26 ?_
      have hz9 := Option.some.inj h
      subst hz9
      exact r_iret C hr dX10_refusalOfSort_28
    · refine r_iconst C (v := 0) (by decide) dX10_refusalOfSort_22 ?_
      refine r_goto C (tgt := 28) dX10_refusalOfSort_23 (by decide) ?_
      have hz9 := Option.some.inj h
      subst hz9
      exact r_iret C hr dX10_refusalOfSort_28
  · refine r_bipush C (v := -11) (by decide) dX10_refusalOfSort_14 ?_
    have hz9 := Option.some.inj h
    subst hz9
    exact r_iret C hr dX10_refusalOfSort_16
set_option maxHeartbeats 4000000 in
set_option maxRecDepth 100000 in
theorem c_X10_refusalOfSort {l : Launch} {g : GG} {ad : Nat → Nat} {a0 : Int32} {a1 : Int32} {I : HI} {J : HJ} {r : Int32} (h : f_X10_refusalOfSort a0 a1 I J = some r) : CM l yX10_refusalOfSort cX10_refusalOfSort 4 (some .int) (rmk 2 42) g ad nO oR [.ref (ad 0), .int a0, .int a1] I J (QAi g ad nO oR r I J) :=
  CM_of (by decide +kernel) (Nat.le_of_ble_eq_true rfl) (fun p e s m args below meth c C hr => w_X10_refusalOfSort C hr h)
set_option maxHeartbeats 4000000 in
set_option maxRecDepth 100000 in
theorem w_X10_item {l : Launch} {g : GG} {ad : Nat → Nat} {p : Program} {e : Env} {s : State} {m : MethodId} {args : Array Value} {below : List Frame} {meth : Method} {c : Code} {a0 : Int32} {a1 : Int32} {a2 : Int32} {z : Int32} (C : Cx p s m args meth c RX10 cX10_item 5 g (AW ad nO)) (hr : meth.sig.returnType = (some .int)) {I : HI} {J : HJ} (h : f_X10_item a0 a1 a2 I J = some z) : V p l e (rmk 3 66) s m args below meth c (MQ below (QAi g ad nO oR z I J) args s 0 0 (AW ad nO)) 5 0 0 g (AW ad nO) ad nO oR I J 0 [(0, .ref (ad 0)), (1, .int a0), (2, .int a1), (3, .int a2)] [] := by
  unfold f_X10_item at h
  refine r_aload_n C 0 rfl rfl dX10_item_0 ?_
  refine gf_X10_62 C rf0 o_0 (q := 84) rfl dX10_item_1 ?_
  refine r_iload_n C 1 rfl rfl dX10_item_4 ?_
  obtain ⟨r11, hq12, h⟩ := bd1_ h
  refine r_cvi C (rest := []) (c_X5_isSheet  hq12) fm_X5_isSheet lk_X10_274 o_84 ⟨_, ct_4 o_84.1⟩ rfl rfl ⟨rfl, rfl, Nat.le_of_ble_eq_true rfl, Nat.le_of_ble_eq_true rfl⟩ (Nat.le_of_ble_eq_true rfl) rfl dX10_item_5 ?_
  refine r_if_eq C (tgt := 20) h dX10_item_8 (by decide) (fun h => ?_) (fun h => ?_)
  · refine r_iconst C (v := -1) (by decide) dX10_item_20 ?_
    have hz9 := Option.some.inj h
    subst hz9
    exact r_iret C hr dX10_item_21
  · refine r_iload_n C 2 rfl rfl dX10_item_11 ?_
    refine r_iconst C (v := 0) (by decide) dX10_item_12 ?_
    refine r_iconst C (v := 4) (by decide) dX10_item_13 ?_
    obtain ⟨r13, hq14, h⟩ := bd1_ h
    refine r_csi C (rest := []) (c_X10_isWithin  hq14) fm_X10_isWithin lk_X10_80 rfl ⟨rfl, rfl, Nat.le_of_ble_eq_true rfl, Nat.le_of_ble_eq_true rfl⟩ (Nat.le_of_ble_eq_true rfl) rfl dX10_item_14 ?_
    refine r_if_ne C (tgt := 22) h dX10_item_17 (by decide) (fun h => ?_) (fun h => ?_)
    · refine r_aload_n C 0 rfl rfl dX10_item_22 ?_
      refine r_iload_n C 1 rfl rfl dX10_item_23 ?_
      refine r_iload_n C 2 rfl rfl dX10_item_24 ?_
      obtain ⟨r15, hq16, h⟩ := bd1_ h
      refine r_cvi C (rest := []) (c_X10_refusalOfSort  hq16) fm_X10_refusalOfSort lk_X10_290 o_0 ⟨_, ct_9 o_0.1⟩ rfl rfl ⟨rfl, rfl, Nat.le_of_ble_eq_true rfl, Nat.le_of_ble_eq_true rfl⟩ (Nat.le_of_ble_eq_true rfl) rfl dX10_item_25 ?_
      refine r_istore C (lv1 := [(4, .int r15), (0, .ref (ad 0)), (1, .int a0), (2, .int a1), (3, .int a2)]) (by decide) rfl dX10_item_28 ?_
      refine r_iload C 0 rfl dX10_item_30 ?_
      refine r_if_eq C (tgt := 38) h dX10_item_32 (by decide) (fun h => ?_) (fun h => ?_)
      · refine r_aload_n C 1 rfl rfl dX10_item_38 ?_
        refine gf_X10_62 C rf0 o_0 (q := 84) rfl dX10_item_39 ?_
        refine r_iload_n C 2 rfl rfl dX10_item_42 ?_
        refine r_iload_n C 4 rfl rfl dX10_item_43 ?_
        obtain ⟨r17, hq18, h⟩ := bd1_ h
        refine r_cvi C (rest := []) (c_X5_has  hq18) fm_X5_has lk_X10_286 o_84 ⟨_, ct_4 o_84.1⟩ rfl rfl ⟨rfl, rfl, Nat.le_of_ble_eq_true rfl, Nat.le_of_ble_eq_true rfl⟩ (Nat.le_of_ble_eq_true rfl) rfl dX10_item_44 ?_
        refine r_if_eq C (tgt := 62) h dX10_item_47 (by decide) (fun h => ?_) (fun h => ?_)
        · refine r_bipush C (v := -12) (by decide) dX10_item_62 ?_
          have hz9 := Option.some.inj h
          subst hz9
          exact r_iret C hr dX10_item_64
        · refine r_aload_n C 1 rfl rfl dX10_item_50 ?_
          refine gf_X10_62 C rf0 o_0 (q := 84) rfl dX10_item_51 ?_
          refine r_iload_n C 2 rfl rfl dX10_item_54 ?_
          refine r_iload_n C 4 rfl rfl dX10_item_55 ?_
          obtain ⟨r19, hq20, h⟩ := bd1_ h
          refine r_cvi C (rest := []) (c_X5_at  hq20) fm_X5_at lk_X10_293 o_84 ⟨_, ct_4 o_84.1⟩ rfl rfl ⟨rfl, rfl, Nat.le_of_ble_eq_true rfl, Nat.le_of_ble_eq_true rfl⟩ (Nat.le_of_ble_eq_true rfl) rfl dX10_item_56 ?_
          refine r_goto C (tgt := 64) dX10_item_59 (by decide) ?_
          have hz9 := Option.some.inj h
          subst hz9
          exact r_iret C hr dX10_item_64
      · refine r_iload C 0 rfl dX10_item_35 ?_
        have hz9 := Option.some.inj h
        subst hz9
        exact r_iret C hr dX10_item_37
    · refine r_iconst C (v := -1) (by decide) dX10_item_20 ?_
      have hz9 := Option.some.inj h
      subst hz9
      exact r_iret C hr dX10_item_21
set_option maxHeartbeats 4000000 in
set_option maxRecDepth 100000 in
theorem c_X10_item {l : Launch} {g : GG} {ad : Nat → Nat} {a0 : Int32} {a1 : Int32} {a2 : Int32} {I : HI} {J : HJ} {r : Int32} (h : f_X10_item a0 a1 a2 I J = some r) : CM l yX10_item cX10_item 5 (some .int) (rmk 3 66) g ad nO oR [.ref (ad 0), .int a0, .int a1, .int a2] I J (QAi g ad nO oR r I J) :=
  CM_of (by decide +kernel) (Nat.le_of_ble_eq_true rfl) (fun p e s m args below meth c C hr => w_X10_item C hr h)
set_option maxHeartbeats 4000000 in
set_option maxRecDepth 100000 in
theorem wB_X10_times_91 {l : Launch} {g : GG} {ad : Nat → Nat} {p : Program} {e : Env} {s : State} {m : MethodId} {args : Array Value} {below : List Frame} {meth : Method} {c : Code} {a0 : Int32} {a1 : Int32} {a2 : Int32} {z : Int32 × HI} (C : Cx p s m args meth c RX10 cX10_times 7 g (AW ad nO)) (hr : meth.sig.returnType = (some .int)) {r_45 : Int32 → Int32 → HI → HJ → Option (Int32 × HI)} {J : HJ} (hr_45 : ∀ {x5 : Int32} {x6 : Int32} {I : HI}, r_45 x5 x6 I J = some z → V p l e (rmk 3 66) s m args below meth c (MQ below (QAi g ad nO oR z.1 z.2 J) args s 0 0 (AW ad nO)) 7 0 0 g (AW ad nO) ad nO oR I J 45 [(0, .ref (ad 0)), (1, .int a0), (2, .int a1), (3, .int a2), (5, .int x5), (6, .int x6)] []) {x5 : Int32} {x6 : Int32} {I : HI} (h : fB_X10_times_91 a0 a1 a2 r_45 x5 x6 I J = some z) : V p l e (rmk 3 66) s m args below meth c (MQ below (QAi g ad nO oR z.1 z.2 J) args s 0 0 (AW ad nO)) 7 0 0 g (AW ad nO) ad nO oR I J 91 [(0, .ref (ad 0)), (1, .int a0), (2, .int a1), (3, .int a2), (5, .int x5), (6, .int x6)] [] := by
  unfold fB_X10_times_91 at h
  refine r_iincN C h (k := 5) (zz := 1) rfl rfl (by decide) (lv1 := fun v16 => [(6, .int v16), (0, .ref (ad 0)), (1, .int a0), (2, .int a1), (3, .int a2), (5, .int x5)]) (fun _ => rfl) dX10_times_91 (fun v16 h => ?_)
  refine r_goto C (tgt := 45) dX10_times_94 (by decide) ?_
  exact r_sub [1, 2, 3, 4, 5, 0] rfl (hr_45  h)
set_option maxHeartbeats 4000000 in
set_option maxRecDepth 100000 in
theorem wLB_X10_times_45 {l : Launch} {g : GG} {ad : Nat → Nat} {p : Program} {e : Env} {s : State} {m : MethodId} {args : Array Value} {below : List Frame} {meth : Method} {c : Code} {a0 : Int32} {a1 : Int32} {a2 : Int32} {z : Int32 × HI} (C : Cx p s m args meth c RX10 cX10_times 7 g (AW ad nO)) (hr : meth.sig.returnType = (some .int)) {J : HJ}  {r_45 : Int32 → Int32 → HI → HJ → Option (Int32 × HI)} (hr_45 : ∀ {x5 : Int32} {x6 : Int32} {I : HI}, r_45 x5 x6 I J = some z → V p l e (rmk 3 66) s m args below meth c (MQ below (QAi g ad nO oR z.1 z.2 J) args s 0 0 (AW ad nO)) 7 0 0 g (AW ad nO) ad nO oR I J 45 [(0, .ref (ad 0)), (1, .int a0), (2, .int a1), (3, .int a2), (5, .int x5), (6, .int x6)] []) {x5 : Int32} {x6 : Int32} {I : HI} (h : fLB_X10_times_45 a0 a1 a2 r_45 x5 x6 I J = some z) : V p l e (rmk 3 66) s m args below meth c (MQ below (QAi g ad nO oR z.1 z.2 J) args s 0 0 (AW ad nO)) 7 0 0 g (AW ad nO) ad nO oR I J 45 [(0, .ref (ad 0)), (1, .int a0), (2, .int a1), (3, .int a2), (5, .int x5), (6, .int x6)] [] := by
  unfold fLB_X10_times_45 at h
  refine r_iload C 5 rfl dX10_times_45 ?_
  refine r_iload_n C 3 rfl rfl dX10_times_47 ?_
  refine r_icmp_ge C (tgt := 97) h dX10_times_48 (by decide) (fun h => ?_) (fun h => ?_)
  · refine r_iload C 4 rfl dX10_times_97 ?_
    have hz9 := Option.some.inj h
    subst hz9
    exact r_iret C hr dX10_times_99
  · refine r_aload_n C 0 rfl rfl dX10_times_51 ?_
    refine gf_X10_62 C rf0 o_0 (q := 84) rfl dX10_times_52 ?_
    refine r_iload_n C 1 rfl rfl dX10_times_55 ?_
    refine r_iload_n C 2 rfl rfl dX10_times_56 ?_
    refine r_iload C 5 rfl dX10_times_57 ?_
    refine r_pc (pc1 := 59) rfl ?_
    refine r_iadd C dX10_times_59 ?_
    obtain ⟨r17, hq18, h⟩ := bd1_ h
    refine r_cvi C (rest := []) (c_X5_has  hq18) fm_X5_has lk_X10_286 o_84 ⟨_, ct_4 o_84.1⟩ rfl rfl ⟨rfl, rfl, Nat.le_of_ble_eq_true rfl, Nat.le_of_ble_eq_true rfl⟩ (Nat.le_of_ble_eq_true rfl) rfl dX10_times_60 ?_
    refine r_if_ne C (tgt := 69) h dX10_times_63 (by decide) (fun h => ?_) (fun h => ?_)
    · refine r_aload_n C 0 rfl rfl dX10_times_69 ?_
      refine r_aload_n C 0 rfl rfl dX10_times_70 ?_
      refine gf_X10_62 C rf0 o_0 (q := 84) rfl dX10_times_71 ?_
      refine r_iload_n C 1 rfl rfl dX10_times_74 ?_
      refine r_iload_n C 2 rfl rfl dX10_times_75 ?_
      refine r_pc (pc1 := 76) rfl ?_
      refine r_iload C 5 rfl dX10_times_76 ?_
      refine r_iadd C dX10_times_78 ?_
      obtain ⟨r19, hq20, h⟩ := bd1_ h
      refine r_cvi C (rest := [.ref (ad 0)]) (c_X5_at  hq20) fm_X5_at lk_X10_293 o_84 ⟨_, ct_4 o_84.1⟩ rfl rfl ⟨rfl, rfl, Nat.le_of_ble_eq_true rfl, Nat.le_of_ble_eq_true rfl⟩ (Nat.le_of_ble_eq_true rfl) rfl dX10_times_79 ?_
      obtain ⟨r21, I22, hq23, h⟩ := bd2_ h
      refine r_cvi C (rest := []) (c_X10_tell  hq23) fm_X10_tell lk_X10_294 o_0 ⟨_, ct_9 o_0.1⟩ rfl rfl ⟨rfl, rfl, Nat.le_of_ble_eq_true rfl, Nat.le_of_ble_eq_true rfl⟩ (Nat.le_of_ble_eq_true rfl) rfl dX10_times_82 ?_
      refine r_if_le C (tgt := 91) h dX10_times_85 (by decide) (fun h => ?_) (fun h => ?_)
      · exact wB_X10_times_91 C hr hr_45  h
      · refine r_iincN C h (k := 4) (zz := 1) rfl rfl (by decide) (lv1 := fun v24 => [(5, .int v24), (0, .ref (ad 0)), (1, .int a0), (2, .int a1), (3, .int a2), (6, .int x6)]) (fun _ => rfl) dX10_times_88 (fun v24 h => ?_)
        exact r_sub [1, 2, 3, 4, 0, 5] rfl (wB_X10_times_91 C hr hr_45  h)
    · refine r_bipush C (v := -12) (by decide) dX10_times_66 ?_
      have hz9 := Option.some.inj h
      subst hz9
      exact r_iret C hr dX10_times_68
set_option maxHeartbeats 4000000 in
set_option maxRecDepth 100000 in
theorem wL_X10_times_45 {l : Launch} {g : GG} {ad : Nat → Nat} {p : Program} {e : Env} {s : State} {m : MethodId} {args : Array Value} {below : List Frame} {meth : Method} {c : Code} {a0 : Int32} {a1 : Int32} {a2 : Int32} {z : Int32 × HI} (C : Cx p s m args meth c RX10 cX10_times 7 g (AW ad nO)) (hr : meth.sig.returnType = (some .int)) {J : HJ}  : ∀ (f : Nat) {x5 : Int32} {x6 : Int32} {I : HI}, fL_X10_times_45 a0 a1 a2 f x5 x6 I J = some z → V p l e (rmk 3 66) s m args below meth c (MQ below (QAi g ad nO oR z.1 z.2 J) args s 0 0 (AW ad nO)) 7 0 0 g (AW ad nO) ad nO oR I J 45 [(0, .ref (ad 0)), (1, .int a0), (2, .int a1), (3, .int a2), (5, .int x5), (6, .int x6)] [] := by
  intro f
  induction f with
  | zero =>
    intro _ _ _  h
    have h0 : (none : Option (Int32 × HI)) = some z := h
    cases h0
  | succ f ih =>
    intro _ _ _  h
    exact wLB_X10_times_45 C hr ih  h
set_option maxHeartbeats 4000000 in
set_option maxRecDepth 100000 in
theorem w_X10_times {l : Launch} {g : GG} {ad : Nat → Nat} {p : Program} {e : Env} {s : State} {m : MethodId} {args : Array Value} {below : List Frame} {meth : Method} {c : Code} {a0 : Int32} {a1 : Int32} {a2 : Int32} {z : Int32 × HI} (C : Cx p s m args meth c RX10 cX10_times 7 g (AW ad nO)) (hr : meth.sig.returnType = (some .int)) {I : HI} {J : HJ} (h : f_X10_times a0 a1 a2 I J = some z) : V p l e (rmk 3 66) s m args below meth c (MQ below (QAi g ad nO oR z.1 z.2 J) args s 0 0 (AW ad nO)) 7 0 0 g (AW ad nO) ad nO oR I J 0 [(0, .ref (ad 0)), (1, .int a0), (2, .int a1), (3, .int a2)] [] := by
  unfold f_X10_times at h
  refine r_aload_n C 0 rfl rfl dX10_times_0 ?_
  refine gf_X10_62 C rf0 o_0 (q := 84) rfl dX10_times_1 ?_
  refine r_iload_n C 1 rfl rfl dX10_times_4 ?_
  obtain ⟨r25, hq26, h⟩ := bd1_ h
  refine r_cvi C (rest := []) (c_X5_isSheet  hq26) fm_X5_isSheet lk_X10_274 o_84 ⟨_, ct_4 o_84.1⟩ rfl rfl ⟨rfl, rfl, Nat.le_of_ble_eq_true rfl, Nat.le_of_ble_eq_true rfl⟩ (Nat.le_of_ble_eq_true rfl) rfl dX10_times_5 ?_
  refine r_if_eq C (tgt := 21) h dX10_times_8 (by decide) (fun h => ?_) (fun h => ?_)
  · refine r_iconst C (v := -1) (by decide) dX10_times_21 ?_
    have hz9 := Option.some.inj h
    subst hz9
    exact r_iret C hr dX10_times_22
  · refine r_iload_n C 3 rfl rfl dX10_times_11 ?_
    refine r_iconst C (v := 0) (by decide) dX10_times_12 ?_
    refine r_bipush C (v := 40) (by decide) dX10_times_13 ?_
    obtain ⟨r27, hq28, h⟩ := bd1_ h
    refine r_csi C (rest := []) (c_X10_isWithin  hq28) fm_X10_isWithin lk_X10_80 rfl ⟨rfl, rfl, Nat.le_of_ble_eq_true rfl, Nat.le_of_ble_eq_true rfl⟩ (Nat.le_of_ble_eq_true rfl) rfl dX10_times_15 ?_
    refine r_if_ne C (tgt := 23) h dX10_times_18 (by decide) (fun h => ?_) (fun h => ?_)
    · refine r_aload_n C 0 rfl rfl dX10_times_23 ?_
      refine r_iload_n C 1 rfl rfl dX10_times_24 ?_
      refine r_iconst C (v := 1) (by decide) dX10_times_25 ?_
      obtain ⟨r29, hq30, h⟩ := bd1_ h
      refine r_cvi C (rest := []) (c_X10_refusalOfSort  hq30) fm_X10_refusalOfSort lk_X10_290 o_0 ⟨_, ct_9 o_0.1⟩ rfl rfl ⟨rfl, rfl, Nat.le_of_ble_eq_true rfl, Nat.le_of_ble_eq_true rfl⟩ (Nat.le_of_ble_eq_true rfl) rfl dX10_times_26 ?_
      refine r_istore C (lv1 := [(4, .int r29), (0, .ref (ad 0)), (1, .int a0), (2, .int a1), (3, .int a2)]) (by decide) rfl dX10_times_29 ?_
      refine r_iload C 0 rfl dX10_times_31 ?_
      refine r_if_eq C (tgt := 39) h dX10_times_33 (by decide) (fun h => ?_) (fun h => ?_)
      · refine r_iconst C (v := 0) (by decide) dX10_times_39 ?_
        refine r_istore C (lv1 := [(5, .int (0 : Int32)), (4, .int r29), (0, .ref (ad 0)), (1, .int a0), (2, .int a1), (3, .int a2)]) (by decide) rfl dX10_times_40 ?_
        refine r_iconst C (v := 0) (by decide) dX10_times_42 ?_
        refine r_istore C (lv1 := [(6, .int (0 : Int32)), (5, .int (0 : Int32)), (4, .int r29), (0, .ref (ad 0)), (1, .int a0), (2, .int a1), (3, .int a2)]) (by decide) rfl dX10_times_43 ?_
        exact r_sub [3, 4, 5, 6, 1, 0] rfl (wL_X10_times_45 C hr _  h)
      · refine r_iload C 0 rfl dX10_times_36 ?_
        have hz9 := Option.some.inj h
        subst hz9
        exact r_iret C hr dX10_times_38
    · refine r_iconst C (v := -1) (by decide) dX10_times_21 ?_
      have hz9 := Option.some.inj h
      subst hz9
      exact r_iret C hr dX10_times_22
set_option maxHeartbeats 4000000 in
set_option maxRecDepth 100000 in
theorem c_X10_times {l : Launch} {g : GG} {ad : Nat → Nat} {a0 : Int32} {a1 : Int32} {a2 : Int32} {I : HI} {J : HJ} {r : Int32} {I1 : HI} (h : f_X10_times a0 a1 a2 I J = some (r, I1)) : CM l yX10_times cX10_times 7 (some .int) (rmk 3 66) g ad nO oR [.ref (ad 0), .int a0, .int a1, .int a2] I J (QAi g ad nO oR r I1 J) :=
  CM_of (by decide +kernel) (Nat.le_of_ble_eq_true rfl) (fun p e s m args below meth c C hr => w_X10_times C hr h)
set_option maxHeartbeats 4000000 in
set_option maxRecDepth 100000 in
theorem w_X10_shelveRow {l : Launch} {g : GG} {ad : Nat → Nat} {p : Program} {e : Env} {s : State} {m : MethodId} {args : Array Value} {below : List Frame} {meth : Method} {c : Code} {a0 : Int32} {a1 : Int32} {z : Int32 × HI} (C : Cx p s m args meth c RX10 cX10_shelveRow 4 g (AW ad nO)) (hr : meth.sig.returnType = (some .int)) {I : HI} {J : HJ} (h : f_X10_shelveRow a0 a1 I J = some z) : V p l e (rmk 2 45) s m args below meth c (MQ below (QAi g ad nO oR z.1 z.2 J) args s 0 0 (AW ad nO)) 4 0 0 g (AW ad nO) ad nO oR I J 0 [(0, .ref (ad 0)), (1, .int a0), (2, .int a1)] [] := by
  unfold f_X10_shelveRow at h
  refine r_aload_n C 0 rfl rfl dX10_shelveRow_0 ?_
  refine gf_X10_62 C rf0 o_0 (q := 84) rfl dX10_shelveRow_1 ?_
  refine r_iload_n C 2 rfl rfl dX10_shelveRow_4 ?_
  obtain ⟨r11, hq12, h⟩ := bd1_ h
  refine r_cvi C (rest := []) (c_X5_sortOf  hq12) fm_X5_sortOf lk_X10_283 o_84 ⟨_, ct_4 o_84.1⟩ rfl rfl ⟨rfl, rfl, Nat.le_of_ble_eq_true rfl, Nat.le_of_ble_eq_true rfl⟩ (Nat.le_of_ble_eq_true rfl) rfl dX10_shelveRow_5 ?_
  refine r_istore_n C (lv1 := [(3, .int r11), (0, .ref (ad 0)), (1, .int a0), (2, .int a1)]) rfl (by decide) rfl dX10_shelveRow_8 ?_
  refine r_iload_n C 0 rfl rfl dX10_shelveRow_9 ?_
  refine r_iconst C (v := -1) (by decide) dX10_shelveRow_10 ?_
  refine r_icmp_ne C (tgt := 26) h dX10_shelveRow_11 (by decide) (fun h => ?_) (fun h => ?_)
  · refine r_aload_n C 1 rfl rfl dX10_shelveRow_26 ?_
    refine gf_X10_69 C rf0 o_0 (q := 92) rfl dX10_shelveRow_27 ?_
    refine r_iload_n C 2 rfl rfl dX10_shelveRow_30 ?_
    refine r_iconst C (v := 2) (by decide) dX10_shelveRow_31 ?_
    refine r_iload_n C 0 rfl rfl dX10_shelveRow_32 ?_
    refine r_pc (pc1 := 33) rfl ?_
    refine r_aload_n C 1 rfl rfl dX10_shelveRow_33 ?_
    refine gf_X10_62 C rf0 o_0 (q := 84) rfl dX10_shelveRow_34 ?_
    refine r_iload_n C 3 rfl rfl dX10_shelveRow_37 ?_
    obtain ⟨r13, hq14, h⟩ := bd1_ h
    refine r_cvi C (rest := [.int r11, .int (2 : Int32), .int a0, .ref (ad 92)]) (c_X5_sizeOf  hq14) fm_X5_sizeOf lk_X10_310 o_84 ⟨_, ct_4 o_84.1⟩ rfl rfl ⟨rfl, rfl, Nat.le_of_ble_eq_true rfl, Nat.le_of_ble_eq_true rfl⟩ (Nat.le_of_ble_eq_true rfl) rfl dX10_shelveRow_38 ?_
    obtain ⟨r15, I16, hq17, h⟩ := bd2_ h
    refine r_cvi C (rest := []) (c_X6_hold  hq17) fm_X6_hold lk_X10_300 o_92 ⟨_, ct_5 o_92.1⟩ rfl rfl ⟨rfl, rfl, Nat.le_of_ble_eq_true rfl, Nat.le_of_ble_eq_true rfl⟩ (Nat.le_of_ble_eq_true rfl) rfl dX10_shelveRow_41 ?_
    have hz9 := Option.some.inj h
    subst hz9
    exact r_iret C hr dX10_shelveRow_44
  · refine r_aload_n C 1 rfl rfl dX10_shelveRow_14 ?_
    refine gf_X10_69 C rf0 o_0 (q := 92) rfl dX10_shelveRow_15 ?_
    refine r_iload_n C 2 rfl rfl dX10_shelveRow_18 ?_
    refine r_iconst C (v := 3) (by decide) dX10_shelveRow_19 ?_
    refine r_iconst C (v := 0) (by decide) dX10_shelveRow_20 ?_
    refine r_pc (pc1 := 21) rfl ?_
    refine r_iconst C (v := 0) (by decide) dX10_shelveRow_21 ?_
    obtain ⟨r18, I19, hq20, h⟩ := bd2_ h
    refine r_cvi C (rest := []) (c_X6_hold  hq20) fm_X6_hold lk_X10_300 o_92 ⟨_, ct_5 o_92.1⟩ rfl rfl ⟨rfl, rfl, Nat.le_of_ble_eq_true rfl, Nat.le_of_ble_eq_true rfl⟩ (Nat.le_of_ble_eq_true rfl) rfl dX10_shelveRow_22 ?_
    have hz9 := Option.some.inj h
    subst hz9
    exact r_iret C hr dX10_shelveRow_25
set_option maxHeartbeats 4000000 in
set_option maxRecDepth 100000 in
theorem c_X10_shelveRow {l : Launch} {g : GG} {ad : Nat → Nat} {a0 : Int32} {a1 : Int32} {I : HI} {J : HJ} {r : Int32} {I1 : HI} (h : f_X10_shelveRow a0 a1 I J = some (r, I1)) : CM l yX10_shelveRow cX10_shelveRow 4 (some .int) (rmk 2 45) g ad nO oR [.ref (ad 0), .int a0, .int a1] I J (QAi g ad nO oR r I1 J) :=
  CM_of (by decide +kernel) (Nat.le_of_ble_eq_true rfl) (fun p e s m args below meth c C hr => w_X10_shelveRow C hr h)
set_option maxHeartbeats 4000000 in
set_option maxRecDepth 100000 in
theorem w_X10_shelf {l : Launch} {g : GG} {ad : Nat → Nat} {p : Program} {e : Env} {s : State} {m : MethodId} {args : Array Value} {below : List Frame} {meth : Method} {c : Code} {a0 : Int32} {a1 : Int32} {a2 : Int32} {z : Int32 × HI} (C : Cx p s m args meth c RX10 cX10_shelf 4 g (AW ad nO)) (hr : meth.sig.returnType = (some .int)) {I : HI} {J : HJ} (h : f_X10_shelf a0 a1 a2 I J = some z) : V p l e (rmk 3 68) s m args below meth c (MQ below (QAi g ad nO oR z.1 z.2 J) args s 0 0 (AW ad nO)) 4 0 0 g (AW ad nO) ad nO oR I J 0 [(0, .ref (ad 0)), (1, .int a0), (2, .int a1), (3, .int a2)] [] := by
  unfold f_X10_shelf at h
  refine r_aload_n C 0 rfl rfl dX10_shelf_0 ?_
  refine gf_X10_69 C rf0 o_0 (q := 92) rfl dX10_shelf_1 ?_
  refine r_iload_n C 1 rfl rfl dX10_shelf_4 ?_
  obtain ⟨r27, hq28, h⟩ := bd1_ h
  refine r_cvi C (rest := []) (c_X6_isShelf  hq28) fm_X6_isShelf lk_X10_297 o_92 ⟨_, ct_5 o_92.1⟩ rfl rfl ⟨rfl, rfl, Nat.le_of_ble_eq_true rfl, Nat.le_of_ble_eq_true rfl⟩ (Nat.le_of_ble_eq_true rfl) rfl dX10_shelf_5 ?_
  refine r_if_ne C (tgt := 13) h dX10_shelf_8 (by decide) (fun h => ?_) (fun h => ?_)
  · refine r_iload_n C 2 rfl rfl dX10_shelf_13 ?_
    refine r_case h (fun hc29 h => ?_) (fun hc29 h => ?_)
    · refine r_tabIn C (tgt := 44) 0 hc29 dX10_shelf_14 (by decide) (by decide) rfl (by decide) ?_
      refine r_aload_n C 0 rfl rfl dX10_shelf_44 ?_
      refine gf_X10_26 C rf0 o_0 (q := 13) rfl dX10_shelf_45 ?_
      refine r_iload_n C 3 rfl rfl dX10_shelf_48 ?_
      obtain ⟨r30, hq31, h⟩ := bd1_ h
      refine r_cve C (rest := []) (c_X4_at o_13 hq31) fm_X4_at lk_X10_268 o_13 ⟨_, ct_3 o_13.1⟩ rfl rfl ⟨rfl, rfl, Nat.le_of_ble_eq_true rfl, Nat.le_of_ble_eq_true rfl⟩ (Nat.le_of_ble_eq_true rfl) rfl dX10_shelf_49 ?_
      cases r30 with
      | none =>
        replace h := oel_n h
        refine r_ifnonnullN C dX10_shelf_52 ?_
        refine r_iconst C (v := -1) (by decide) dX10_shelf_55 ?_
        refine r_goto C (tgt := 70) dX10_shelf_56 (by decide) ?_
        have hz9 := Option.some.inj h
        subst hz9
        exact r_iret C hr dX10_shelf_70
      | some q32 =>
        replace h := oel_s h
        obtain ⟨hz33, h⟩ := ck h
        refine r_ifnonnull C (tgt := 59) dX10_shelf_52 (by decide) ?_
        refine r_aload_n C 0 rfl rfl dX10_shelf_59 ?_
        refine gf_X10_69 C rf0 o_0 (q := 92) rfl dX10_shelf_60 ?_
        refine r_iload_n C 1 rfl rfl dX10_shelf_63 ?_
        refine r_iload_n C 2 rfl rfl dX10_shelf_64 ?_
        refine r_iload_n C 3 rfl rfl dX10_shelf_65 ?_
        refine r_pc (pc1 := 66) rfl ?_
        refine r_iconst C (v := 0) (by decide) dX10_shelf_66 ?_
        obtain ⟨r34, I35, hq36, h⟩ := bd2_ h
        refine r_cvi C (rest := []) (c_X6_hold  hq36) fm_X6_hold lk_X10_300 o_92 ⟨_, ct_5 o_92.1⟩ rfl rfl ⟨rfl, rfl, Nat.le_of_ble_eq_true rfl, Nat.le_of_ble_eq_true rfl⟩ (Nat.le_of_ble_eq_true rfl) rfl dX10_shelf_67 ?_
        have hz9 := Option.some.inj h
        subst hz9
        exact r_iret C hr dX10_shelf_70
    refine r_case h (fun hc37 h => ?_) (fun hc37 h => ?_)
    · refine r_tabIn C (tgt := 71) 1 hc37 dX10_shelf_14 (by decide) (by decide) rfl (by decide) ?_
      refine r_aload_n C 0 rfl rfl dX10_shelf_71 ?_
      refine gf_X10_19 C rf0 o_0 (q := 4) rfl dX10_shelf_72 ?_
      refine r_iload_n C 3 rfl rfl dX10_shelf_75 ?_
      obtain ⟨r38, hq39, h⟩ := bd1_ h
      refine r_cvi C (rest := []) (c_X2_isKey rf0 o_4 hq39) fm_X2_isKey lk_X10_304 o_4 ⟨_, ct_1 o_4.1⟩ rfl rfl ⟨rfl, rfl, Nat.le_of_ble_eq_true rfl, Nat.le_of_ble_eq_true rfl⟩ (Nat.le_of_ble_eq_true rfl) rfl dX10_shelf_76 ?_
      refine r_if_eq C (tgt := 96) h dX10_shelf_79 (by decide) (fun h => ?_) (fun h => ?_)
      · refine r_iconst C (v := -1) (by decide) dX10_shelf_96 ?_
        have hz9 := Option.some.inj h
        subst hz9
        exact r_iret C hr dX10_shelf_97
      · refine r_aload_n C 0 rfl rfl dX10_shelf_82 ?_
        refine gf_X10_69 C rf0 o_0 (q := 92) rfl dX10_shelf_83 ?_
        refine r_iload_n C 1 rfl rfl dX10_shelf_86 ?_
        refine r_iload_n C 2 rfl rfl dX10_shelf_87 ?_
        refine r_iload_n C 3 rfl rfl dX10_shelf_88 ?_
        refine r_pc (pc1 := 89) rfl ?_
        refine r_iconst C (v := 0) (by decide) dX10_shelf_89 ?_
        obtain ⟨r40, I41, hq42, h⟩ := bd2_ h
        refine r_cvi C (rest := []) (c_X6_hold  hq42) fm_X6_hold lk_X10_300 o_92 ⟨_, ct_5 o_92.1⟩ rfl rfl ⟨rfl, rfl, Nat.le_of_ble_eq_true rfl, Nat.le_of_ble_eq_true rfl⟩ (Nat.le_of_ble_eq_true rfl) rfl dX10_shelf_90 ?_
        refine r_goto C (tgt := 97) dX10_shelf_93 (by decide) ?_
        have hz9 := Option.some.inj h
        subst hz9
        exact r_iret C hr dX10_shelf_97
    refine r_case h (fun hc43 h => ?_) (fun hc43 h => ?_)
    · refine r_tabIn C (tgt := 98) 2 hc43 dX10_shelf_14 (by decide) (by decide) rfl (by decide) ?_
      refine r_aload_n C 0 rfl rfl dX10_shelf_98 ?_
      refine gf_X10_62 C rf0 o_0 (q := 84) rfl dX10_shelf_99 ?_
      refine r_iload_n C 3 rfl rfl dX10_shelf_102 ?_
      obtain ⟨r44, hq45, h⟩ := bd1_ h
      refine r_cvi C (rest := []) (c_X5_isSheet  hq45) fm_X5_isSheet lk_X10_274 o_84 ⟨_, ct_4 o_84.1⟩ rfl rfl ⟨rfl, rfl, Nat.le_of_ble_eq_true rfl, Nat.le_of_ble_eq_true rfl⟩ (Nat.le_of_ble_eq_true rfl) rfl dX10_shelf_103 ?_
      refine r_if_eq C (tgt := 118) h dX10_shelf_106 (by decide) (fun h => ?_) (fun h => ?_)
      · refine r_iconst C (v := -1) (by decide) dX10_shelf_118 ?_
        have hz9 := Option.some.inj h
        subst hz9
        exact r_iret C hr dX10_shelf_119
      · refine r_aload_n C 0 rfl rfl dX10_shelf_109 ?_
        refine r_iload_n C 1 rfl rfl dX10_shelf_110 ?_
        refine r_iload_n C 3 rfl rfl dX10_shelf_111 ?_
        obtain ⟨r46, I47, hq48, h⟩ := bd2_ h
        refine r_cvi C (rest := []) (c_X10_shelveRow  hq48) fm_X10_shelveRow lk_X10_307 o_0 ⟨_, ct_9 o_0.1⟩ rfl rfl ⟨rfl, rfl, Nat.le_of_ble_eq_true rfl, Nat.le_of_ble_eq_true rfl⟩ (Nat.le_of_ble_eq_true rfl) rfl dX10_shelf_112 ?_
        refine r_goto C (tgt := 119) dX10_shelf_115 (by decide) ?_
        have hz9 := Option.some.inj h
        subst hz9
        exact r_iret C hr dX10_shelf_119
    refine r_case h (fun hc49 h => ?_) (fun hc49 h => ?_)
    · refine r_tabIn C (tgt := 120) 3 hc49 dX10_shelf_14 (by decide) (by decide) rfl (by decide) ?_
      refine r_aload_n C 0 rfl rfl dX10_shelf_120 ?_
      refine gf_X10_69 C rf0 o_0 (q := 92) rfl dX10_shelf_121 ?_
      refine r_iload_n C 1 rfl rfl dX10_shelf_124 ?_
      refine r_iload_n C 2 rfl rfl dX10_shelf_125 ?_
      refine r_iconst C (v := 0) (by decide) dX10_shelf_126 ?_
      refine r_pc (pc1 := 127) rfl ?_
      refine r_iconst C (v := 0) (by decide) dX10_shelf_127 ?_
      obtain ⟨r50, I51, hq52, h⟩ := bd2_ h
      refine r_cvi C (rest := []) (c_X6_hold  hq52) fm_X6_hold lk_X10_300 o_92 ⟨_, ct_5 o_92.1⟩ rfl rfl ⟨rfl, rfl, Nat.le_of_ble_eq_true rfl, Nat.le_of_ble_eq_true rfl⟩ (Nat.le_of_ble_eq_true rfl) rfl dX10_shelf_128 ?_
      have hz9 := Option.some.inj h
      subst hz9
      exact r_iret C hr dX10_shelf_131
    refine r_tabD C (tgt := 132) [0, 1, 2, 3] (r_nc hc29 rfl (r_nc hc37 rfl (r_nc hc43 rfl (r_nc hc49 rfl r_nc0)))) dX10_shelf_14 rfl (by decide) (by decide) ?_
    refine r_iconst C (v := -1) (by decide) dX10_shelf_132 ?_
    have hz9 := Option.some.inj h
    subst hz9
    exact r_iret C hr dX10_shelf_133
  · refine r_iconst C (v := -1) (by decide) dX10_shelf_11 ?_
    have hz9 := Option.some.inj h
    subst hz9
    exact r_iret C hr dX10_shelf_12
set_option maxHeartbeats 4000000 in
set_option maxRecDepth 100000 in
theorem c_X10_shelf {l : Launch} {g : GG} {ad : Nat → Nat} {a0 : Int32} {a1 : Int32} {a2 : Int32} {I : HI} {J : HJ} {r : Int32} {I1 : HI} (h : f_X10_shelf a0 a1 a2 I J = some (r, I1)) : CM l yX10_shelf cX10_shelf 4 (some .int) (rmk 3 68) g ad nO oR [.ref (ad 0), .int a0, .int a1, .int a2] I J (QAi g ad nO oR r I1 J) :=
  CM_of (by decide +kernel) (Nat.le_of_ble_eq_true rfl) (fun p e s m args below meth c C hr => w_X10_shelf C hr h)
set_option maxHeartbeats 4000000 in
set_option maxRecDepth 100000 in
theorem wB_X10_heldOn_36 {l : Launch} {g : GG} {ad : Nat → Nat} {p : Program} {e : Env} {s : State} {m : MethodId} {args : Array Value} {below : List Frame} {meth : Method} {c : Code} {a0 : Int32} {z : Int32} (C : Cx p s m args meth c RX10 cX10_heldOn 4 g (AW ad nO)) (hr : meth.sig.returnType = (some .int)) {I : HI} {J : HJ}  {x2 : Int32} {s0 : Int32} (h : fB_X10_heldOn_36 a0 x2 s0 I J = some z) : V p l e (rmk 2 42) s m args below meth c (MQ below (QAi g ad nO oR z I J) args s 0 0 (AW ad nO)) 4 0 0 g (AW ad nO) ad nO oR I J 36 [(2, .int x2)] [.int s0] := by
  unfold fB_X10_heldOn_36 at h
  refine r_istore_n C (lv1 := [(3, .int s0), (2, .int x2)]) rfl (by decide) rfl dX10_heldOn_36 ?_
  refine r_iload_n C 0 rfl rfl dX10_heldOn_37 ?_
  refine r_if_eq C (tgt := 45) h dX10_heldOn_38 (by decide) (fun h => ?_) (fun h => ?_)
  · refine r_iload_n C 1 rfl rfl dX10_heldOn_45 ?_
    have hz9 := Option.some.inj h
    subst hz9
    exact r_iret C hr dX10_heldOn_46
  · refine r_iconst C (v := 3) (by decide) dX10_heldOn_41 ?_
    refine r_goto C (tgt := 46) dX10_heldOn_42 (by decide) ?_
    have hz9 := Option.some.inj h
    subst hz9
    exact r_iret C hr dX10_heldOn_46
set_option maxHeartbeats 4000000 in
set_option maxRecDepth 100000 in
theorem wB_X10_heldOn_35 {l : Launch} {g : GG} {ad : Nat → Nat} {p : Program} {e : Env} {s : State} {m : MethodId} {args : Array Value} {below : List Frame} {meth : Method} {c : Code} {a0 : Int32} {z : Int32} (C : Cx p s m args meth c RX10 cX10_heldOn 4 g (AW ad nO)) (hr : meth.sig.returnType = (some .int)) {I : HI} {J : HJ}  {x2 : Int32} (h : fB_X10_heldOn_35 a0 x2 I J = some z) : V p l e (rmk 2 42) s m args below meth c (MQ below (QAi g ad nO oR z I J) args s 0 0 (AW ad nO)) 4 0 0 g (AW ad nO) ad nO oR I J 35 [(2, .int x2)] [] := by
  unfold fB_X10_heldOn_35 at h
  refine r_iconst C (v := 0) (by decide) dX10_heldOn_35 ?_
  exact wB_X10_heldOn_36 C hr  h
set_option maxHeartbeats 4000000 in
set_option maxRecDepth 100000 in
theorem w_X10_heldOn {l : Launch} {g : GG} {ad : Nat → Nat} {p : Program} {e : Env} {s : State} {m : MethodId} {args : Array Value} {below : List Frame} {meth : Method} {c : Code} {a0 : Int32} {z : Int32} (C : Cx p s m args meth c RX10 cX10_heldOn 4 g (AW ad nO)) (hr : meth.sig.returnType = (some .int)) {I : HI} {J : HJ} (h : f_X10_heldOn a0 I J = some z) : V p l e (rmk 2 42) s m args below meth c (MQ below (QAi g ad nO oR z I J) args s 0 0 (AW ad nO)) 4 0 0 g (AW ad nO) ad nO oR I J 0 [(0, .ref (ad 0)), (1, .int a0)] [] := by
  unfold f_X10_heldOn at h
  refine r_aload_n C 0 rfl rfl dX10_heldOn_0 ?_
  refine gf_X10_69 C rf0 o_0 (q := 92) rfl dX10_heldOn_1 ?_
  refine r_iload_n C 1 rfl rfl dX10_heldOn_4 ?_
  obtain ⟨r9, hq10, h⟩ := bd1_ h
  refine r_cvi C (rest := []) (c_X6_whatOn  hq10) fm_X6_whatOn lk_X10_328 o_92 ⟨_, ct_5 o_92.1⟩ rfl rfl ⟨rfl, rfl, Nat.le_of_ble_eq_true rfl, Nat.le_of_ble_eq_true rfl⟩ (Nat.le_of_ble_eq_true rfl) rfl dX10_heldOn_5 ?_
  refine r_istore_n C (lv1 := [(2, .int r9), (0, .ref (ad 0)), (1, .int a0)]) rfl (by decide) rfl dX10_heldOn_8 ?_
  refine r_iload_n C 0 rfl rfl dX10_heldOn_9 ?_
  refine r_if_ne C (tgt := 35) h dX10_heldOn_10 (by decide) (fun h => ?_) (fun h => ?_)
  · exact r_sub [0] rfl (wB_X10_heldOn_35 C hr  h)
  · refine r_aload_n C 1 rfl rfl dX10_heldOn_13 ?_
    refine gf_X10_26 C rf0 o_0 (q := 13) rfl dX10_heldOn_14 ?_
    refine r_aload_n C 1 rfl rfl dX10_heldOn_17 ?_
    refine gf_X10_69 C rf0 o_0 (q := 92) rfl dX10_heldOn_18 ?_
    refine r_iload_n C 2 rfl rfl dX10_heldOn_21 ?_
    refine r_pc (pc1 := 22) rfl ?_
    obtain ⟨r11, hq12, h⟩ := bd1_ h
    refine r_cvi C (rest := [.ref (ad 13)]) (c_X6_numberOn  hq12) fm_X6_numberOn lk_X10_313 o_92 ⟨_, ct_5 o_92.1⟩ rfl rfl ⟨rfl, rfl, Nat.le_of_ble_eq_true rfl, Nat.le_of_ble_eq_true rfl⟩ (Nat.le_of_ble_eq_true rfl) rfl dX10_heldOn_22 ?_
    obtain ⟨r13, hq14, h⟩ := bd1_ h
    refine r_cve C (rest := []) (c_X4_at o_13 hq14) fm_X4_at lk_X10_268 o_13 ⟨_, ct_3 o_13.1⟩ rfl rfl ⟨rfl, rfl, Nat.le_of_ble_eq_true rfl, Nat.le_of_ble_eq_true rfl⟩ (Nat.le_of_ble_eq_true rfl) rfl dX10_heldOn_25 ?_
    cases r13 with
    | none =>
      replace h := oel_n h
      refine r_ifnonnullN C dX10_heldOn_28 ?_
      refine r_iconst C (v := 1) (by decide) dX10_heldOn_31 ?_
      refine r_goto C (tgt := 36) dX10_heldOn_32 (by decide) ?_
      exact r_sub [0] rfl (wB_X10_heldOn_36 C hr  h)
    | some q15 =>
      replace h := oel_s h
      obtain ⟨hz16, h⟩ := ck h
      refine r_ifnonnull C (tgt := 35) dX10_heldOn_28 (by decide) ?_
      exact r_sub [0] rfl (wB_X10_heldOn_35 C hr  h)
set_option maxHeartbeats 4000000 in
set_option maxRecDepth 100000 in
theorem c_X10_heldOn {l : Launch} {g : GG} {ad : Nat → Nat} {a0 : Int32} {I : HI} {J : HJ} {r : Int32} (h : f_X10_heldOn a0 I J = some r) : CM l yX10_heldOn cX10_heldOn 4 (some .int) (rmk 2 42) g ad nO oR [.ref (ad 0), .int a0] I J (QAi g ad nO oR r I J) :=
  CM_of (by decide +kernel) (Nat.le_of_ble_eq_true rfl) (fun p e s m args below meth c C hr => w_X10_heldOn C hr h)
set_option maxHeartbeats 4000000 in
set_option maxRecDepth 100000 in
theorem w_X10_kindOn {l : Launch} {g : GG} {ad : Nat → Nat} {p : Program} {e : Env} {s : State} {m : MethodId} {args : Array Value} {below : List Frame} {meth : Method} {c : Code} {a0 : Int32} {z : Int32} (C : Cx p s m args meth c RX10 cX10_kindOn 3 g (AW ad nO)) (hr : meth.sig.returnType = (some .int)) {I : HI} {J : HJ} (h : f_X10_kindOn a0 I J = some z) : V p l e (rmk 5 107) s m args below meth c (MQ below (QAi g ad nO oR z I J) args s 0 0 (AW ad nO)) 3 0 0 g (AW ad nO) ad nO oR I J 0 [(0, .ref (ad 0)), (1, .int a0)] [] := by
  unfold f_X10_kindOn at h
  refine r_aload_n C 0 rfl rfl dX10_kindOn_0 ?_
  refine gf_X10_69 C rf0 o_0 (q := 92) rfl dX10_kindOn_1 ?_
  refine r_iload_n C 1 rfl rfl dX10_kindOn_4 ?_
  obtain ⟨r11, hq12, h⟩ := bd1_ h
  refine r_cvi C (rest := []) (c_X6_whatOn  hq12) fm_X6_whatOn lk_X10_328 o_92 ⟨_, ct_5 o_92.1⟩ rfl rfl ⟨rfl, rfl, Nat.le_of_ble_eq_true rfl, Nat.le_of_ble_eq_true rfl⟩ (Nat.le_of_ble_eq_true rfl) rfl dX10_kindOn_5 ?_
  refine r_iconst C (v := 1) (by decide) dX10_kindOn_8 ?_
  refine r_icmp_ne C (tgt := 15) h dX10_kindOn_9 (by decide) (fun h => ?_) (fun h => ?_)
  · refine r_aload_n C 0 rfl rfl dX10_kindOn_15 ?_
    refine gf_X10_26 C rf0 o_0 (q := 13) rfl dX10_kindOn_16 ?_
    refine r_aload_n C 0 rfl rfl dX10_kindOn_19 ?_
    refine gf_X10_69 C rf0 o_0 (q := 92) rfl dX10_kindOn_20 ?_
    refine r_iload_n C 1 rfl rfl dX10_kindOn_23 ?_
    refine r_pc (pc1 := 24) rfl ?_
    obtain ⟨r13, hq14, h⟩ := bd1_ h
    refine r_cvi C (rest := [.ref (ad 13)]) (c_X6_numberOn  hq14) fm_X6_numberOn lk_X10_313 o_92 ⟨_, ct_5 o_92.1⟩ rfl rfl ⟨rfl, rfl, Nat.le_of_ble_eq_true rfl, Nat.le_of_ble_eq_true rfl⟩ (Nat.le_of_ble_eq_true rfl) rfl dX10_kindOn_24 ?_
    obtain ⟨r15, hq16, h⟩ := bd1_ h
    refine r_cve C (rest := []) (c_X4_at o_13 hq16) fm_X4_at lk_X10_268 o_13 ⟨_, ct_3 o_13.1⟩ rfl rfl ⟨rfl, rfl, Nat.le_of_ble_eq_true rfl, Nat.le_of_ble_eq_true rfl⟩ (Nat.le_of_ble_eq_true rfl) rfl dX10_kindOn_27 ?_
    cases r15 with
    | none =>
      replace h := oel_n h
      refine r_astore_nN C (lv1 := [(2, .null), (0, .ref (ad 0)), (1, .int a0)]) rfl (by decide) rfl dX10_kindOn_30 ?_
      refine r_aload_nN C 0 rfl rfl dX10_kindOn_31 ?_
      refine r_ifnonnullN C dX10_kindOn_32 ?_
      refine r_iconst C (v := -1) (by decide) dX10_kindOn_35 ?_
      refine r_goto C (tgt := 43) dX10_kindOn_36 (by decide) ?_
      have hz9 := Option.some.inj h
      subst hz9
      exact r_iret C hr dX10_kindOn_43
    | some q17 =>
      replace h := oel_s h
      obtain ⟨hz18, h⟩ := ck h
      refine r_astore_n C (lv1 := [(2, .ref (ad q17)), (0, .ref (ad 0)), (1, .int a0)]) rfl (by decide) rfl dX10_kindOn_30 ?_
      refine r_aload_n C 0 rfl rfl dX10_kindOn_31 ?_
      refine r_ifnonnull C (tgt := 39) dX10_kindOn_32 (by decide) ?_
      refine r_aload_n C 0 rfl rfl dX10_kindOn_39 ?_
      obtain ⟨r19, hq20, h⟩ := bd1_ h
      refine r_cvi C (rest := []) (c_X9_findKind (ob_of hz18) hq20) fm_X9_findKind lk_X10_186 (ob_of hz18) ⟨_, ct_8 (ob_of hz18).1⟩ rfl rfl ⟨rfl, rfl, Nat.le_of_ble_eq_true rfl, Nat.le_of_ble_eq_true rfl⟩ (Nat.le_of_ble_eq_true rfl) rfl dX10_kindOn_40 ?_
      have hz9 := Option.some.inj h
      subst hz9
      exact r_iret C hr dX10_kindOn_43
  · refine r_bipush C (v := 7) (by decide) dX10_kindOn_12 ?_
    have hz9 := Option.some.inj h
    subst hz9
    exact r_iret C hr dX10_kindOn_14
set_option maxHeartbeats 4000000 in
set_option maxRecDepth 100000 in
theorem c_X10_kindOn {l : Launch} {g : GG} {ad : Nat → Nat} {a0 : Int32} {I : HI} {J : HJ} {r : Int32} (h : f_X10_kindOn a0 I J = some r) : CM l yX10_kindOn cX10_kindOn 3 (some .int) (rmk 5 107) g ad nO oR [.ref (ad 0), .int a0] I J (QAi g ad nO oR r I J) :=
  CM_of (by decide +kernel) (Nat.le_of_ble_eq_true rfl) (fun p e s m args below meth c C hr => w_X10_kindOn C hr h)
set_option maxHeartbeats 4000000 in
set_option maxRecDepth 100000 in
theorem wB_X10_taken_34 {l : Launch} {g : GG} {ad : Nat → Nat} {p : Program} {e : Env} {s : State} {m : MethodId} {args : Array Value} {below : List Frame} {meth : Method} {c : Code} {a0 : Int32} {a1 : Int32} {z : Int32} (C : Cx p s m args meth c RX10 cX10_taken 4 g (AW ad nO)) (hr : meth.sig.returnType = (some .int)) {I : HI} {J : HJ}  (h : fB_X10_taken_34 a0 a1 I J = some z) : V p l e (rmk 6 129) s m args below meth c (MQ below (QAi g ad nO oR z I J) args s 0 0 (AW ad nO)) 4 0 0 g (AW ad nO) ad nO oR I J 34 [(0, .ref (ad 0)), (1, .int a0), (2, .int a1)] [] := by
  unfold fB_X10_taken_34 at h
  refine r_aload_n C 0 rfl rfl dX10_taken_34 ?_
  refine gf_X10_69 C rf0 o_0 (q := 92) rfl dX10_taken_35 ?_
  refine r_iload_n C 1 rfl rfl dX10_taken_38 ?_
  obtain ⟨r24, hq25, h⟩ := bd1_ h
  refine r_cvi C (rest := []) (c_X6_numberOn  hq25) fm_X6_numberOn lk_X10_313 o_92 ⟨_, ct_5 o_92.1⟩ rfl rfl ⟨rfl, rfl, Nat.le_of_ble_eq_true rfl, Nat.le_of_ble_eq_true rfl⟩ (Nat.le_of_ble_eq_true rfl) rfl dX10_taken_39 ?_
  refine r_istore_n C (lv1 := [(3, .int r24), (0, .ref (ad 0)), (1, .int a0), (2, .int a1)]) rfl (by decide) rfl dX10_taken_42 ?_
  refine r_aload_n C 1 rfl rfl dX10_taken_43 ?_
  refine r_iload_n C 2 rfl rfl dX10_taken_44 ?_
  obtain ⟨r26, hq27, h⟩ := bd1_ h
  refine r_cvi C (rest := []) (c_X10_heldOn  hq27) fm_X10_heldOn lk_X10_316 o_0 ⟨_, ct_9 o_0.1⟩ rfl rfl ⟨rfl, rfl, Nat.le_of_ble_eq_true rfl, Nat.le_of_ble_eq_true rfl⟩ (Nat.le_of_ble_eq_true rfl) rfl dX10_taken_45 ?_
  refine r_case h (fun hc28 h => ?_) (fun hc28 h => ?_)
  · refine r_tabIn C (tgt := 76) 0 hc28 dX10_taken_48 (by decide) (by decide) rfl (by decide) ?_
    refine r_aload_n C 1 rfl rfl dX10_taken_76 ?_
    refine r_iload_n C 2 rfl rfl dX10_taken_77 ?_
    obtain ⟨r29, hq30, h⟩ := bd1_ h
    refine r_cvi C (rest := []) (c_X10_kindOn  hq30) fm_X10_kindOn lk_X10_319 o_0 ⟨_, ct_9 o_0.1⟩ rfl rfl ⟨rfl, rfl, Nat.le_of_ble_eq_true rfl, Nat.le_of_ble_eq_true rfl⟩ (Nat.le_of_ble_eq_true rfl) rfl dX10_taken_78 ?_
    refine r_iload_n C 3 rfl rfl dX10_taken_81 ?_
    obtain ⟨r31, hq32, h⟩ := bd1_ h
    refine r_csi C (rest := []) (c_X1_isUnder  hq32) fm_X1_isUnder lk_X10_322 rfl ⟨rfl, rfl, Nat.le_of_ble_eq_true rfl, Nat.le_of_ble_eq_true rfl⟩ (Nat.le_of_ble_eq_true rfl) rfl dX10_taken_82 ?_
    refine r_if_eq C (tgt := 92) h dX10_taken_85 (by decide) (fun h => ?_) (fun h => ?_)
    · refine r_bipush C (v := -13) (by decide) dX10_taken_92 ?_
      have hz9 := Option.some.inj h
      subst hz9
      exact r_iret C hr dX10_taken_94
    · refine r_iload_n C 0 rfl rfl dX10_taken_88 ?_
      refine r_goto C (tgt := 94) dX10_taken_89 (by decide) ?_
      have hz9 := Option.some.inj h
      subst hz9
      exact r_iret C hr dX10_taken_94
  refine r_case h (fun hc33 h => ?_) (fun hc33 h => ?_)
  · refine r_tabIn C (tgt := 76) 1 hc33 dX10_taken_48 (by decide) (by decide) rfl (by decide) ?_
    refine r_aload_n C 1 rfl rfl dX10_taken_76 ?_
    refine r_iload_n C 2 rfl rfl dX10_taken_77 ?_
    obtain ⟨r34, hq35, h⟩ := bd1_ h
    refine r_cvi C (rest := []) (c_X10_kindOn  hq35) fm_X10_kindOn lk_X10_319 o_0 ⟨_, ct_9 o_0.1⟩ rfl rfl ⟨rfl, rfl, Nat.le_of_ble_eq_true rfl, Nat.le_of_ble_eq_true rfl⟩ (Nat.le_of_ble_eq_true rfl) rfl dX10_taken_78 ?_
    refine r_iload_n C 3 rfl rfl dX10_taken_81 ?_
    obtain ⟨r36, hq37, h⟩ := bd1_ h
    refine r_csi C (rest := []) (c_X1_isUnder  hq37) fm_X1_isUnder lk_X10_322 rfl ⟨rfl, rfl, Nat.le_of_ble_eq_true rfl, Nat.le_of_ble_eq_true rfl⟩ (Nat.le_of_ble_eq_true rfl) rfl dX10_taken_82 ?_
    refine r_if_eq C (tgt := 92) h dX10_taken_85 (by decide) (fun h => ?_) (fun h => ?_)
    · refine r_bipush C (v := -13) (by decide) dX10_taken_92 ?_
      have hz9 := Option.some.inj h
      subst hz9
      exact r_iret C hr dX10_taken_94
    · refine r_iload_n C 0 rfl rfl dX10_taken_88 ?_
      refine r_goto C (tgt := 94) dX10_taken_89 (by decide) ?_
      have hz9 := Option.some.inj h
      subst hz9
      exact r_iret C hr dX10_taken_94
  refine r_case h (fun hc38 h => ?_) (fun hc38 h => ?_)
  · refine r_tabIn C (tgt := 95) 2 hc38 dX10_taken_48 (by decide) (by decide) rfl (by decide) ?_
    refine r_iload_n C 3 rfl rfl dX10_taken_95 ?_
    refine r_bipush C (v := 10) (by decide) dX10_taken_96 ?_
    refine r_isub C dX10_taken_98 ?_
    refine r_iload_n C 0 rfl rfl dX10_taken_99 ?_
    refine r_icmp_ne C (tgt := 114) h dX10_taken_100 (by decide) (fun h => ?_) (fun h => ?_)
    · refine r_bipush C (v := -13) (by decide) dX10_taken_114 ?_
      have hz9 := Option.some.inj h
      subst hz9
      exact r_iret C hr dX10_taken_116
    · refine r_aload_n C 1 rfl rfl dX10_taken_103 ?_
      refine gf_X10_69 C rf0 o_0 (q := 92) rfl dX10_taken_104 ?_
      refine r_iload_n C 2 rfl rfl dX10_taken_107 ?_
      obtain ⟨r39, hq40, h⟩ := bd1_ h
      refine r_cvi C (rest := []) (c_X6_itemsOn  hq40) fm_X6_itemsOn lk_X10_325 o_92 ⟨_, ct_5 o_92.1⟩ rfl rfl ⟨rfl, rfl, Nat.le_of_ble_eq_true rfl, Nat.le_of_ble_eq_true rfl⟩ (Nat.le_of_ble_eq_true rfl) rfl dX10_taken_108 ?_
      refine r_goto C (tgt := 116) dX10_taken_111 (by decide) ?_
      have hz9 := Option.some.inj h
      subst hz9
      exact r_iret C hr dX10_taken_116
  refine r_tabD C (tgt := 117) [0, 1, 2] (r_nc hc28 rfl (r_nc hc33 rfl (r_nc hc38 rfl r_nc0))) dX10_taken_48 rfl (by decide) (by decide) ?_
  refine r_bipush C (v := -11) (by decide) dX10_taken_117 ?_
  have hz9 := Option.some.inj h
  subst hz9
  exact r_iret C hr dX10_taken_119
set_option maxHeartbeats 4000000 in
set_option maxRecDepth 100000 in
theorem w_X10_taken {l : Launch} {g : GG} {ad : Nat → Nat} {p : Program} {e : Env} {s : State} {m : MethodId} {args : Array Value} {below : List Frame} {meth : Method} {c : Code} {a0 : Int32} {a1 : Int32} {z : Int32} (C : Cx p s m args meth c RX10 cX10_taken 4 g (AW ad nO)) (hr : meth.sig.returnType = (some .int)) {I : HI} {J : HJ} (h : f_X10_taken a0 a1 I J = some z) : V p l e (rmk 6 129) s m args below meth c (MQ below (QAi g ad nO oR z I J) args s 0 0 (AW ad nO)) 4 0 0 g (AW ad nO) ad nO oR I J 0 [(0, .ref (ad 0)), (1, .int a0), (2, .int a1)] [] := by
  unfold f_X10_taken at h
  refine r_aload_n C 0 rfl rfl dX10_taken_0 ?_
  refine gf_X10_69 C rf0 o_0 (q := 92) rfl dX10_taken_1 ?_
  refine r_iload_n C 1 rfl rfl dX10_taken_4 ?_
  obtain ⟨r41, hq42, h⟩ := bd1_ h
  refine r_cvi C (rest := []) (c_X6_isShelf  hq42) fm_X6_isShelf lk_X10_297 o_92 ⟨_, ct_5 o_92.1⟩ rfl rfl ⟨rfl, rfl, Nat.le_of_ble_eq_true rfl, Nat.le_of_ble_eq_true rfl⟩ (Nat.le_of_ble_eq_true rfl) rfl dX10_taken_5 ?_
  refine r_if_eq C (tgt := 32) h dX10_taken_8 (by decide) (fun h => ?_) (fun h => ?_)
  · refine r_iconst C (v := -1) (by decide) dX10_taken_32 ?_
    have hz9 := Option.some.inj h
    subst hz9
    exact r_iret C hr dX10_taken_33
  · refine r_iload_n C 2 rfl rfl dX10_taken_11 ?_
    refine r_iconst C (v := 0) (by decide) dX10_taken_12 ?_
    refine r_bipush C (v := 7) (by decide) dX10_taken_13 ?_
    obtain ⟨r43, hq44, h⟩ := bd1_ h
    refine r_csi C (rest := []) (c_X10_isWithin  hq44) fm_X10_isWithin lk_X10_80 rfl ⟨rfl, rfl, Nat.le_of_ble_eq_true rfl, Nat.le_of_ble_eq_true rfl⟩ (Nat.le_of_ble_eq_true rfl) rfl dX10_taken_15 ?_
    refine r_if_ne C (tgt := 34) h dX10_taken_18 (by decide) (fun h => ?_) (fun h => ?_)
    · exact wB_X10_taken_34 C hr  h
    · refine r_iload_n C 2 rfl rfl dX10_taken_21 ?_
      refine r_bipush C (v := 10) (by decide) dX10_taken_22 ?_
      refine r_bipush C (v := 14) (by decide) dX10_taken_24 ?_
      obtain ⟨r45, hq46, h⟩ := bd1_ h
      refine r_csi C (rest := []) (c_X10_isWithin  hq46) fm_X10_isWithin lk_X10_80 rfl ⟨rfl, rfl, Nat.le_of_ble_eq_true rfl, Nat.le_of_ble_eq_true rfl⟩ (Nat.le_of_ble_eq_true rfl) rfl dX10_taken_26 ?_
      refine r_if_ne C (tgt := 34) h dX10_taken_29 (by decide) (fun h => ?_) (fun h => ?_)
      · exact wB_X10_taken_34 C hr  h
      · refine r_iconst C (v := -1) (by decide) dX10_taken_32 ?_
        have hz9 := Option.some.inj h
        subst hz9
        exact r_iret C hr dX10_taken_33
set_option maxHeartbeats 4000000 in
set_option maxRecDepth 100000 in
theorem c_X10_taken {l : Launch} {g : GG} {ad : Nat → Nat} {a0 : Int32} {a1 : Int32} {I : HI} {J : HJ} {r : Int32} (h : f_X10_taken a0 a1 I J = some r) : CM l yX10_taken cX10_taken 4 (some .int) (rmk 6 129) g ad nO oR [.ref (ad 0), .int a0, .int a1] I J (QAi g ad nO oR r I J) :=
  CM_of (by decide +kernel) (Nat.le_of_ble_eq_true rfl) (fun p e s m args below meth c C hr => w_X10_taken C hr h)
set_option maxHeartbeats 4000000 in
set_option maxRecDepth 100000 in
theorem wB_X10_act_108 {l : Launch} {g : GG} {ad : Nat → Nat} {p : Program} {e : Env} {s : State} {m : MethodId} {args : Array Value} {below : List Frame} {meth : Method} {c : Code} {a0 : Int32} {a1 : Int32} {a2 : Int32} {z : Int32 × HI} (C : Cx p s m args meth c RX10 cX10_act 6 g (AW ad nO)) (hr : meth.sig.returnType = (some .int)) {J : HJ}  {s0 : Int32} {s1 : Int32} {s2 : Int32} {I : HI} (h : fB_X10_act_108 a0 a1 a2 s0 s1 s2 I J = some z) : V p l e (rmk 126 4937) s m args below meth c (MQ below (QAi g ad nO oR z.1 z.2 J) args s 0 0 (AW ad nO)) 6 0 0 g (AW ad nO) ad nO oR I J 108 [(0, .ref (ad 0)), (2, .int a1), (3, .int a2)] [.int s0, .int s1, .int s2, .ref (ad 96)] := by
  unfold fB_X10_act_108 at h
  obtain ⟨I36, hq37, h⟩ := bd1_ h
  refine r_cvv C (rest := []) (c_X0_takeThing  hq37) fm_X0_takeThing lk_X10_334 o_96 ⟨_, ct_0 o_96.1⟩ rfl rfl ⟨rfl, rfl, Nat.le_of_ble_eq_true rfl, Nat.le_of_ble_eq_true rfl⟩ (Nat.le_of_ble_eq_true rfl) rfl dX10_act_108 ?_
  refine r_aload_n C 0 rfl rfl dX10_act_111 ?_
  refine gf_X10_76 C rf0 o_0 (q := 96) rfl dX10_act_112 ?_
  refine r_iload_n C 1 rfl rfl dX10_act_115 ?_
  refine r_iload_n C 2 rfl rfl dX10_act_116 ?_
  obtain ⟨r38, I39, hq40, h⟩ := bd2_ h
  refine r_cvi C (rest := []) (c_X0_answer  hq40) fm_X0_answer lk_X10_337 o_96 ⟨_, ct_0 o_96.1⟩ rfl rfl ⟨rfl, rfl, Nat.le_of_ble_eq_true rfl, Nat.le_of_ble_eq_true rfl⟩ (Nat.le_of_ble_eq_true rfl) rfl dX10_act_117 ?_
  have hz9 := Option.some.inj h
  subst hz9
  exact r_iret C hr dX10_act_120
set_option maxHeartbeats 4000000 in
set_option maxRecDepth 100000 in
theorem w_X10_act {l : Launch} {g : GG} {ad : Nat → Nat} {p : Program} {e : Env} {s : State} {m : MethodId} {args : Array Value} {below : List Frame} {meth : Method} {c : Code} {a0 : Int32} {a1 : Int32} {a2 : Int32} {z : Int32 × HI} (C : Cx p s m args meth c RX10 cX10_act 6 g (AW ad nO)) (hr : meth.sig.returnType = (some .int)) {I : HI} {J : HJ} (h : f_X10_act a0 a1 a2 I J = some z) : V p l e (rmk 126 4937) s m args below meth c (MQ below (QAi g ad nO oR z.1 z.2 J) args s 0 0 (AW ad nO)) 6 0 0 g (AW ad nO) ad nO oR I J 0 [(0, .ref (ad 0)), (1, .int a0), (2, .int a1), (3, .int a2)] [] := by
  unfold f_X10_act at h
  refine r_aload_n C 0 rfl rfl dX10_act_0 ?_
  refine gf_X10_76 C rf0 o_0 (q := 96) rfl dX10_act_1 ?_
  obtain ⟨I41, hq42, h⟩ := bd1_ h
  refine r_cvv C (rest := []) (c_X0_forget  hq42) fm_X0_forget lk_X10_331 o_96 ⟨_, ct_0 o_96.1⟩ rfl rfl ⟨rfl, rfl, Nat.le_of_ble_eq_true rfl, Nat.le_of_ble_eq_true rfl⟩ (Nat.le_of_ble_eq_true rfl) rfl dX10_act_4 ?_
  refine r_aload_n C 0 rfl rfl dX10_act_7 ?_
  refine gf_X10_69 C rf0 o_0 (q := 92) rfl dX10_act_8 ?_
  refine r_iload_n C 1 rfl rfl dX10_act_11 ?_
  obtain ⟨r43, hq44, h⟩ := bd1_ h
  refine r_cvi C (rest := []) (c_X6_isShelf  hq44) fm_X6_isShelf lk_X10_297 o_92 ⟨_, ct_5 o_92.1⟩ rfl rfl ⟨rfl, rfl, Nat.le_of_ble_eq_true rfl, Nat.le_of_ble_eq_true rfl⟩ (Nat.le_of_ble_eq_true rfl) rfl dX10_act_12 ?_
  refine r_if_eq C (tgt := 27) h dX10_act_15 (by decide) (fun h => ?_) (fun h => ?_)
  · refine r_iconst C (v := 0) (by decide) dX10_act_27 ?_
    have hz9 := Option.some.inj h
    subst hz9
    exact r_iret C hr dX10_act_28
  · refine r_iload_n C 2 rfl rfl dX10_act_18 ?_
    refine r_iconst C (v := 0) (by decide) dX10_act_19 ?_
    refine r_iconst C (v := 3) (by decide) dX10_act_20 ?_
    obtain ⟨r45, hq46, h⟩ := bd1_ h
    refine r_csi C (rest := []) (c_X10_isWithin  hq46) fm_X10_isWithin lk_X10_80 rfl ⟨rfl, rfl, Nat.le_of_ble_eq_true rfl, Nat.le_of_ble_eq_true rfl⟩ (Nat.le_of_ble_eq_true rfl) rfl dX10_act_21 ?_
    refine r_if_ne C (tgt := 29) h dX10_act_24 (by decide) (fun h => ?_) (fun h => ?_)
    · refine r_aload_n C 0 rfl rfl dX10_act_29 ?_
      refine gf_X10_69 C rf0 o_0 (q := 92) rfl dX10_act_30 ?_
      refine r_iload_n C 1 rfl rfl dX10_act_33 ?_
      obtain ⟨r47, hq48, h⟩ := bd1_ h
      refine r_cvi C (rest := []) (c_X6_numberOn  hq48) fm_X6_numberOn lk_X10_313 o_92 ⟨_, ct_5 o_92.1⟩ rfl rfl ⟨rfl, rfl, Nat.le_of_ble_eq_true rfl, Nat.le_of_ble_eq_true rfl⟩ (Nat.le_of_ble_eq_true rfl) rfl dX10_act_34 ?_
      refine r_istore C (lv1 := [(4, .int r47), (0, .ref (ad 0)), (1, .int a0), (2, .int a1), (3, .int a2)]) (by decide) rfl dX10_act_37 ?_
      refine r_aload_n C 1 rfl rfl dX10_act_39 ?_
      refine r_iload_n C 2 rfl rfl dX10_act_40 ?_
      obtain ⟨r49, hq50, h⟩ := bd1_ h
      refine r_cvi C (rest := []) (c_X10_heldOn  hq50) fm_X10_heldOn lk_X10_316 o_0 ⟨_, ct_9 o_0.1⟩ rfl rfl ⟨rfl, rfl, Nat.le_of_ble_eq_true rfl, Nat.le_of_ble_eq_true rfl⟩ (Nat.le_of_ble_eq_true rfl) rfl dX10_act_41 ?_
      refine r_case h (fun hc51 h => ?_) (fun hc51 h => ?_)
      · refine r_look C (tgt := 72) (off := 28) dX10_act_44 rfl (by rw [hc51]; try rfl) (by decide) ?_
        refine r_aload_n C 1 rfl rfl dX10_act_72 ?_
        refine gf_X10_26 C rf0 o_0 (q := 13) rfl dX10_act_73 ?_
        refine r_iload C 0 rfl dX10_act_76 ?_
        obtain ⟨r52, hq53, h⟩ := bd1_ h
        refine r_cve C (rest := []) (c_X4_at o_13 hq53) fm_X4_at lk_X10_268 o_13 ⟨_, ct_3 o_13.1⟩ rfl rfl ⟨rfl, rfl, Nat.le_of_ble_eq_true rfl, Nat.le_of_ble_eq_true rfl⟩ (Nat.le_of_ble_eq_true rfl) rfl dX10_act_78 ?_
        cases r52 with
        | none =>
          replace h := oel_n h
          refine r_astoreN C (lv1 := [(5, .null), (4, .int r47), (0, .ref (ad 0)), (1, .int a0), (2, .int a1), (3, .int a2)]) (by decide) rfl dX10_act_81 ?_
          refine r_aload_n C 2 rfl rfl dX10_act_83 ?_
          refine gf_X10_76 C rf0 o_0 (q := 96) rfl dX10_act_84 ?_
          refine r_aload_n C 2 rfl rfl dX10_act_87 ?_
          refine r_iload_n C 3 rfl rfl dX10_act_88 ?_
          obtain ⟨r55, hq56, h⟩ := bd1_ h
          refine r_cvi C (rest := [.ref (ad 96)]) (c_X10_kindOn  hq56) fm_X10_kindOn lk_X10_319 o_0 ⟨_, ct_9 o_0.1⟩ rfl rfl ⟨rfl, rfl, Nat.le_of_ble_eq_true rfl, Nat.le_of_ble_eq_true rfl⟩ (Nat.le_of_ble_eq_true rfl) rfl dX10_act_89 ?_
          refine r_iload C 1 rfl dX10_act_92 ?_
          refine r_aloadN C 0 rfl dX10_act_94 ?_
          refine r_ifnonnullN C dX10_act_96 ?_
          refine r_iconst C (v := 0) (by decide) dX10_act_99 ?_
          refine r_goto C (tgt := 108) dX10_act_100 (by decide) ?_
          exact r_sub [2, 4, 5] rfl (wB_X10_act_108 C hr  h)
        | some q54 =>
          replace h := oel_s h
          obtain ⟨hz57, h⟩ := ck h
          refine r_astore C (lv1 := [(5, .ref (ad q54)), (4, .int r47), (0, .ref (ad 0)), (1, .int a0), (2, .int a1), (3, .int a2)]) (by decide) rfl dX10_act_81 ?_
          refine r_aload_n C 2 rfl rfl dX10_act_83 ?_
          refine gf_X10_76 C rf0 o_0 (q := 96) rfl dX10_act_84 ?_
          refine r_aload_n C 2 rfl rfl dX10_act_87 ?_
          refine r_iload_n C 3 rfl rfl dX10_act_88 ?_
          obtain ⟨r58, hq59, h⟩ := bd1_ h
          refine r_cvi C (rest := [.ref (ad 96)]) (c_X10_kindOn  hq59) fm_X10_kindOn lk_X10_319 o_0 ⟨_, ct_9 o_0.1⟩ rfl rfl ⟨rfl, rfl, Nat.le_of_ble_eq_true rfl, Nat.le_of_ble_eq_true rfl⟩ (Nat.le_of_ble_eq_true rfl) rfl dX10_act_89 ?_
          refine r_iload C 1 rfl dX10_act_92 ?_
          refine r_aload C 0 rfl dX10_act_94 ?_
          refine r_ifnonnull C (tgt := 103) dX10_act_96 (by decide) ?_
          refine r_aload C 0 rfl dX10_act_103 ?_
          obtain ⟨r60, hq61, h⟩ := bd1_ h
          refine r_cvi C (rest := [.int r47, .int r58, .ref (ad 96)]) (c_X9_size (ob_of hz57) hq61) fm_X9_size lk_X10_172 (ob_of hz57) ⟨_, ct_8 (ob_of hz57).1⟩ rfl rfl ⟨rfl, rfl, Nat.le_of_ble_eq_true rfl, Nat.le_of_ble_eq_true rfl⟩ (Nat.le_of_ble_eq_true rfl) rfl dX10_act_105 ?_
          exact r_sub [2, 4, 5] rfl (wB_X10_act_108 C hr  h)
      refine r_case h (fun hc62 h => ?_) (fun hc62 h => ?_)
      · refine r_look C (tgt := 121) (off := 77) dX10_act_44 rfl (by rw [hc62]; try rfl) (by decide) ?_
        refine r_aload_n C 1 rfl rfl dX10_act_121 ?_
        refine gf_X10_76 C rf0 o_0 (q := 96) rfl dX10_act_122 ?_
        refine r_bipush C (v := 7) (by decide) dX10_act_125 ?_
        refine r_iload C 0 rfl dX10_act_127 ?_
        refine r_aload_n C 1 rfl rfl dX10_act_129 ?_
        refine r_pc (pc1 := 130) rfl ?_
        refine gf_X10_19 C rf0 o_0 (q := 4) rfl dX10_act_130 ?_
        refine r_iload C 0 rfl dX10_act_133 ?_
        refine r_aload_n C 1 rfl rfl dX10_act_135 ?_
        refine gf_X10_10 C rf0 o_0 (q := 1) rfl dX10_act_136 ?_
        obtain ⟨r63, I64, hq65, h⟩ := bd2_ h
        refine r_cvi C (rest := [.int r47, .int (7 : Int32), .ref (ad 96)]) (c_X2_worth o_4 o_1 hq65) fm_X2_worth lk_X10_158 o_4 ⟨_, ct_1 o_4.1⟩ rfl rfl ⟨rfl, rfl, Nat.le_of_ble_eq_true rfl, Nat.le_of_ble_eq_true rfl⟩ (Nat.le_of_ble_eq_true rfl) rfl dX10_act_139 ?_
        obtain ⟨I66, hq67, h⟩ := bd1_ h
        refine r_cvv C (rest := []) (c_X0_takeThing  hq67) fm_X0_takeThing lk_X10_334 o_96 ⟨_, ct_0 o_96.1⟩ rfl rfl ⟨rfl, rfl, Nat.le_of_ble_eq_true rfl, Nat.le_of_ble_eq_true rfl⟩ (Nat.le_of_ble_eq_true rfl) rfl dX10_act_142 ?_
        refine r_aload_n C 1 rfl rfl dX10_act_145 ?_
        refine gf_X10_76 C rf0 o_0 (q := 96) rfl dX10_act_146 ?_
        refine r_iload_n C 3 rfl rfl dX10_act_149 ?_
        refine r_iload_n C 4 rfl rfl dX10_act_150 ?_
        obtain ⟨r68, I69, hq70, h⟩ := bd2_ h
        refine r_cvi C (rest := []) (c_X0_answer  hq70) fm_X0_answer lk_X10_337 o_96 ⟨_, ct_0 o_96.1⟩ rfl rfl ⟨rfl, rfl, Nat.le_of_ble_eq_true rfl, Nat.le_of_ble_eq_true rfl⟩ (Nat.le_of_ble_eq_true rfl) rfl dX10_act_151 ?_
        have hz9 := Option.some.inj h
        subst hz9
        exact r_iret C hr dX10_act_154
      refine r_look C (tgt := 155) (off := 111) dX10_act_44 rfl ((lv_osw hc51 rfl).trans ((lv_osw hc62 rfl).trans rfl)) (by decide) ?_
      refine r_iconst C (v := 0) (by decide) dX10_act_155 ?_
      have hz9 := Option.some.inj h
      subst hz9
      exact r_iret C hr dX10_act_156
    · refine r_iconst C (v := 0) (by decide) dX10_act_27 ?_
      have hz9 := Option.some.inj h
      subst hz9
      exact r_iret C hr dX10_act_28
set_option maxHeartbeats 4000000 in
set_option maxRecDepth 100000 in
theorem c_X10_act {l : Launch} {g : GG} {ad : Nat → Nat} {a0 : Int32} {a1 : Int32} {a2 : Int32} {I : HI} {J : HJ} {r : Int32} {I1 : HI} (h : f_X10_act a0 a1 a2 I J = some (r, I1)) : CM l yX10_act cX10_act 6 (some .int) (rmk 126 4937) g ad nO oR [.ref (ad 0), .int a0, .int a1, .int a2] I J (QAi g ad nO oR r I1 J) :=
  CM_of (by decide +kernel) (Nat.le_of_ble_eq_true rfl) (fun p e s m args below meth c C hr => w_X10_act C hr h)
set_option maxHeartbeats 4000000 in
set_option maxRecDepth 100000 in
theorem w_X10_trace {l : Launch} {g : GG} {ad : Nat → Nat} {p : Program} {e : Env} {s : State} {m : MethodId} {args : Array Value} {below : List Frame} {meth : Method} {c : Code} {a0 : Int32} {z : Int32} (C : Cx p s m args meth c RX10 cX10_trace 2 g (AW ad nO)) (hr : meth.sig.returnType = (some .int)) {I : HI} {J : HJ} (h : f_X10_trace a0 I J = some z) : V p l e (rmk 2 42) s m args below meth c (MQ below (QAi g ad nO oR z I J) args s 0 0 (AW ad nO)) 2 0 0 g (AW ad nO) ad nO oR I J 0 [(0, .ref (ad 0)), (1, .int a0)] [] := by
  unfold f_X10_trace at h
  refine r_aload_n C 0 rfl rfl dX10_trace_0 ?_
  refine gf_X10_76 C rf0 o_0 (q := 96) rfl dX10_trace_1 ?_
  refine r_iload_n C 1 rfl rfl dX10_trace_4 ?_
  obtain ⟨r5, hq6, h⟩ := bd1_ h
  refine r_cvi C (rest := []) (c_X0_has  hq6) fm_X0_has lk_X10_340 o_96 ⟨_, ct_0 o_96.1⟩ rfl rfl ⟨rfl, rfl, Nat.le_of_ble_eq_true rfl, Nat.le_of_ble_eq_true rfl⟩ (Nat.le_of_ble_eq_true rfl) rfl dX10_trace_5 ?_
  refine r_if_eq C (tgt := 22) h dX10_trace_8 (by decide) (fun h => ?_) (fun h => ?_)
  · refine r_bipush C (v := -3) (by decide) dX10_trace_22 ?_
    have hz9 := Option.some.inj h
    subst hz9
    exact r_iret C hr dX10_trace_24
  · refine r_aload_n C 0 rfl rfl dX10_trace_11 ?_
    refine gf_X10_76 C rf0 o_0 (q := 96) rfl dX10_trace_12 ?_
    refine r_iload_n C 1 rfl rfl dX10_trace_15 ?_
    obtain ⟨r7, hq8, h⟩ := bd1_ h
    refine r_cvi C (rest := []) (c_X0_bodyAt  hq8) fm_X0_bodyAt lk_X10_341 o_96 ⟨_, ct_0 o_96.1⟩ rfl rfl ⟨rfl, rfl, Nat.le_of_ble_eq_true rfl, Nat.le_of_ble_eq_true rfl⟩ (Nat.le_of_ble_eq_true rfl) rfl dX10_trace_16 ?_
    refine r_goto C (tgt := 24) dX10_trace_19 (by decide) ?_
    have hz9 := Option.some.inj h
    subst hz9
    exact r_iret C hr dX10_trace_24
set_option maxHeartbeats 4000000 in
set_option maxRecDepth 100000 in
theorem c_X10_trace {l : Launch} {g : GG} {ad : Nat → Nat} {a0 : Int32} {I : HI} {J : HJ} {r : Int32} (h : f_X10_trace a0 I J = some r) : CM l yX10_trace cX10_trace 2 (some .int) (rmk 2 42) g ad nO oR [.ref (ad 0), .int a0] I J (QAi g ad nO oR r I J) :=
  CM_of (by decide +kernel) (Nat.le_of_ble_eq_true rfl) (fun p e s m args below meth c C hr => w_X10_trace C hr h)
set_option maxHeartbeats 4000000 in
set_option maxRecDepth 100000 in
theorem w_X10_many {l : Launch} {g : GG} {ad : Nat → Nat} {p : Program} {e : Env} {s : State} {m : MethodId} {args : Array Value} {below : List Frame} {meth : Method} {c : Code} {a0 : Int32} {z : Int32} (C : Cx p s m args meth c RX10 cX10_many 2 g (AW ad nO)) (hr : meth.sig.returnType = (some .int)) {I : HI} {J : HJ} (h : f_X10_many a0 I J = some z) : V p l e (rmk 1 22) s m args below meth c (MQ below (QAi g ad nO oR z I J) args s 0 0 (AW ad nO)) 2 0 0 g (AW ad nO) ad nO oR I J 0 [(0, .ref (ad 0)), (1, .int a0)] [] := by
  unfold f_X10_many at h
  refine r_iload_n C 1 rfl rfl dX10_many_0 ?_
  refine r_case h (fun hc19 h => ?_) (fun hc19 h => ?_)
  · refine r_tabIn C (tgt := 40) 0 hc19 dX10_many_1 (by decide) (by decide) rfl (by decide) ?_
    refine r_aload_n C 0 rfl rfl dX10_many_40 ?_
    refine gf_X10_10 C rf0 o_0 (q := 1) rfl dX10_many_41 ?_
    refine gf_X10_162 C rf0 o_1 (q := 2) rfl dX10_many_44 ?_
    obtain ⟨r20, hq21, h⟩ := bd1_ h
    refine r_cvi C (rest := []) (c_X9_size o_2 hq21) fm_X9_size lk_X10_172 o_2 ⟨_, ct_8 o_2.1⟩ rfl rfl ⟨rfl, rfl, Nat.le_of_ble_eq_true rfl, Nat.le_of_ble_eq_true rfl⟩ (Nat.le_of_ble_eq_true rfl) rfl dX10_many_47 ?_
    have hz9 := Option.some.inj h
    subst hz9
    exact r_iret C hr dX10_many_50
  refine r_case h (fun hc22 h => ?_) (fun hc22 h => ?_)
  · refine r_tabIn C (tgt := 51) 1 hc22 dX10_many_1 (by decide) (by decide) rfl (by decide) ?_
    refine r_aload_n C 0 rfl rfl dX10_many_51 ?_
    refine gf_X10_26 C rf0 o_0 (q := 13) rfl dX10_many_52 ?_
    obtain ⟨r23, hq24, h⟩ := bd1_ h
    refine r_cvi C (rest := []) (c_X4_size o_13 hq24) fm_X4_size lk_X10_267 o_13 ⟨_, ct_3 o_13.1⟩ rfl rfl ⟨rfl, rfl, Nat.le_of_ble_eq_true rfl, Nat.le_of_ble_eq_true rfl⟩ (Nat.le_of_ble_eq_true rfl) rfl dX10_many_55 ?_
    have hz9 := Option.some.inj h
    subst hz9
    exact r_iret C hr dX10_many_58
  refine r_case h (fun hc25 h => ?_) (fun hc25 h => ?_)
  · refine r_tabIn C (tgt := 59) 2 hc25 dX10_many_1 (by decide) (by decide) rfl (by decide) ?_
    refine r_aload_n C 0 rfl rfl dX10_many_59 ?_
    refine gf_X10_55 C rf0 o_0 (q := 70) rfl dX10_many_60 ?_
    obtain ⟨r26, hq27, h⟩ := bd1_ h
    refine r_cvi C (rest := []) (c_X3_size  hq27) fm_X3_size lk_X10_244 o_70 ⟨_, ct_2 o_70.1⟩ rfl rfl ⟨rfl, rfl, Nat.le_of_ble_eq_true rfl, Nat.le_of_ble_eq_true rfl⟩ (Nat.le_of_ble_eq_true rfl) rfl dX10_many_63 ?_
    have hz9 := Option.some.inj h
    subst hz9
    exact r_iret C hr dX10_many_66
  refine r_case h (fun hc28 h => ?_) (fun hc28 h => ?_)
  · refine r_tabIn C (tgt := 67) 3 hc28 dX10_many_1 (by decide) (by decide) rfl (by decide) ?_
    refine r_aload_n C 0 rfl rfl dX10_many_67 ?_
    refine gf_X10_48 C rf0 o_0 (q := 59) rfl dX10_many_68 ?_
    obtain ⟨r29, hq30, h⟩ := bd1_ h
    refine r_cvi C (rest := []) (c_X8_size  hq30) fm_X8_size lk_X10_134 o_59 ⟨_, ct_7 o_59.1⟩ rfl rfl ⟨rfl, rfl, Nat.le_of_ble_eq_true rfl, Nat.le_of_ble_eq_true rfl⟩ (Nat.le_of_ble_eq_true rfl) rfl dX10_many_71 ?_
    have hz9 := Option.some.inj h
    subst hz9
    exact r_iret C hr dX10_many_74
  refine r_case h (fun hc31 h => ?_) (fun hc31 h => ?_)
  · refine r_tabIn C (tgt := 75) 4 hc31 dX10_many_1 (by decide) (by decide) rfl (by decide) ?_
    refine r_aload_n C 0 rfl rfl dX10_many_75 ?_
    refine gf_X10_76 C rf0 o_0 (q := 96) rfl dX10_many_76 ?_
    obtain ⟨r32, hq33, h⟩ := bd1_ h
    refine r_cvi C (rest := []) (c_X0_size  hq33) fm_X0_size lk_X10_344 o_96 ⟨_, ct_0 o_96.1⟩ rfl rfl ⟨rfl, rfl, Nat.le_of_ble_eq_true rfl, Nat.le_of_ble_eq_true rfl⟩ (Nat.le_of_ble_eq_true rfl) rfl dX10_many_79 ?_
    have hz9 := Option.some.inj h
    subst hz9
    exact r_iret C hr dX10_many_82
  refine r_case h (fun hc34 h => ?_) (fun hc34 h => ?_)
  · refine r_tabIn C (tgt := 83) 5 hc34 dX10_many_1 (by decide) (by decide) rfl (by decide) ?_
    refine r_aload_n C 0 rfl rfl dX10_many_83 ?_
    refine gf_X10_19 C rf0 o_0 (q := 4) rfl dX10_many_84 ?_
    obtain ⟨r35, hq36, h⟩ := bd1_ h
    refine r_cvi C (rest := []) (c_X2_howManyTold o_4 hq36) fm_X2_howManyTold lk_X10_155 o_4 ⟨_, ct_1 o_4.1⟩ rfl rfl ⟨rfl, rfl, Nat.le_of_ble_eq_true rfl, Nat.le_of_ble_eq_true rfl⟩ (Nat.le_of_ble_eq_true rfl) rfl dX10_many_87 ?_
    have hz9 := Option.some.inj h
    subst hz9
    exact r_iret C hr dX10_many_90
  refine r_tabD C (tgt := 91) [0, 1, 2, 3, 4, 5] (r_nc hc19 rfl (r_nc hc22 rfl (r_nc hc25 rfl (r_nc hc28 rfl (r_nc hc31 rfl (r_nc hc34 rfl r_nc0)))))) dX10_many_1 rfl (by decide) (by decide) ?_
  refine r_iconst C (v := -1) (by decide) dX10_many_91 ?_
  have hz9 := Option.some.inj h
  subst hz9
  exact r_iret C hr dX10_many_92
set_option maxHeartbeats 4000000 in
set_option maxRecDepth 100000 in
theorem c_X10_many {l : Launch} {g : GG} {ad : Nat → Nat} {a0 : Int32} {I : HI} {J : HJ} {r : Int32} (h : f_X10_many a0 I J = some r) : CM l yX10_many cX10_many 2 (some .int) (rmk 1 22) g ad nO oR [.ref (ad 0), .int a0] I J (QAi g ad nO oR r I J) :=
  CM_of (by decide +kernel) (Nat.le_of_ble_eq_true rfl) (fun p e s m args below meth c C hr => w_X10_many C hr h)
set_option maxHeartbeats 4000000 in
set_option maxRecDepth 100000 in
theorem w_X10_keep {l : Launch} {g : GG} {ad : Nat → Nat} {p : Program} {e : Env} {s : State} {m : MethodId} {args : Array Value} {below : List Frame} {meth : Method} {c : Code} {z : Int32 × HI × HJ} (C : Cx p s m args meth c RX10 cX10_keep 1 g (AW ad nO)) (hr : meth.sig.returnType = (some .int)) {I : HI} {J : HJ} (h : f_X10_keep I J = some z) : V p l e (rmk 7 215) s m args below meth c (MQ below (QAi g ad nO oR z.1 z.2.1 z.2.2) args s 0 0 (AW ad nO)) 1 0 0 g (AW ad nO) ad nO oR I J 0 [(0, .ref (ad 0))] [] := by
  unfold f_X10_keep at h
  refine r_aload_n C 0 rfl rfl dX10_keep_0 ?_
  refine gf_X10_30 C rf0 o_0 (q := 27) rfl dX10_keep_1 ?_
  refine r_aload_n C 0 rfl rfl dX10_keep_4 ?_
  refine gf_X10_10 C rf0 o_0 (q := 1) rfl dX10_keep_5 ?_
  obtain ⟨I9, J10, hq11, h⟩ := bd2_ h
  refine r_cvv C (rest := []) (c_X7_becomeLike o_27 o_1 hq11) fm_X7_becomeLike lk_X10_345 o_27 ⟨_, ct_6 o_27.1⟩ rfl rfl ⟨rfl, rfl, Nat.le_of_ble_eq_true rfl, Nat.le_of_ble_eq_true rfl⟩ (Nat.le_of_ble_eq_true rfl) rfl dX10_keep_8 ?_
  refine r_aload_n C 0 rfl rfl dX10_keep_11 ?_
  refine gf_X10_33 C rf0 o_0 (q := 30) rfl dX10_keep_12 ?_
  refine r_aload_n C 0 rfl rfl dX10_keep_15 ?_
  refine gf_X10_19 C rf0 o_0 (q := 4) rfl dX10_keep_16 ?_
  obtain ⟨I12, hq13, h⟩ := bd1_ h
  refine r_cvv C (rest := []) (c_X2_becomeLike o_30 o_4 hq13) fm_X2_becomeLike lk_X10_151 o_30 ⟨_, ct_1 o_30.1⟩ rfl rfl ⟨rfl, rfl, Nat.le_of_ble_eq_true rfl, Nat.le_of_ble_eq_true rfl⟩ (Nat.le_of_ble_eq_true rfl) rfl dX10_keep_19 ?_
  refine r_aload_n C 0 rfl rfl dX10_keep_22 ?_
  refine gf_X10_36 C rf0 o_0 (q := 39) rfl dX10_keep_23 ?_
  refine r_aload_n C 0 rfl rfl dX10_keep_26 ?_
  refine gf_X10_26 C rf0 o_0 (q := 13) rfl dX10_keep_27 ?_
  obtain ⟨I14, hq15, h⟩ := bd1_ h
  refine r_cvv C (rest := []) (c_X4_becomeLike o_39 o_13 hq15) fm_X4_becomeLike lk_X10_347 o_39 ⟨_, ct_3 o_39.1⟩ rfl rfl ⟨rfl, rfl, Nat.le_of_ble_eq_true rfl, Nat.le_of_ble_eq_true rfl⟩ (Nat.le_of_ble_eq_true rfl) rfl dX10_keep_30 ?_
  refine r_aload_n C 0 rfl rfl dX10_keep_33 ?_
  refine r_iconst C (v := 1) (by decide) dX10_keep_34 ?_
  refine pf_X10_350 C rfl o_0 dX10_keep_35 ?_
  refine r_nmI h (fun I16 h => ?_)
  refine r_iconst C (v := 1) (by decide) dX10_keep_38 ?_
  have hz9 := Option.some.inj h
  subst hz9
  exact r_iret C hr dX10_keep_39
set_option maxHeartbeats 4000000 in
set_option maxRecDepth 100000 in
theorem c_X10_keep {l : Launch} {g : GG} {ad : Nat → Nat} {I : HI} {J : HJ} {r : Int32} {I1 : HI} {J1 : HJ} (h : f_X10_keep I J = some (r, I1, J1)) : CM l yX10_keep cX10_keep 1 (some .int) (rmk 7 215) g ad nO oR [.ref (ad 0)] I J (QAi g ad nO oR r I1 J1) :=
  CM_of (by decide +kernel) (Nat.le_of_ble_eq_true rfl) (fun p e s m args below meth c C hr => w_X10_keep C hr h)
set_option maxHeartbeats 4000000 in
set_option maxRecDepth 100000 in
theorem w_X10_again {l : Launch} {g : GG} {ad : Nat → Nat} {p : Program} {e : Env} {s : State} {m : MethodId} {args : Array Value} {below : List Frame} {meth : Method} {c : Code} {z : Int32 × HI × HJ} (C : Cx p s m args meth c RX10 cX10_again 1 g (AW ad nO)) (hr : meth.sig.returnType = (some .int)) {I : HI} {J : HJ} (h : f_X10_again I J = some z) : V p l e (rmk 7 215) s m args below meth c (MQ below (QAi g ad nO oR z.1 z.2.1 z.2.2) args s 0 0 (AW ad nO)) 1 0 0 g (AW ad nO) ad nO oR I J 0 [(0, .ref (ad 0))] [] := by
  unfold f_X10_again at h
  refine r_aload_n C 0 rfl rfl dX10_again_0 ?_
  refine gf_X10_350 C o_0 dX10_again_1 ?_
  refine r_if_ne C (tgt := 10) h dX10_again_4 (by decide) (fun h => ?_) (fun h => ?_)
  · refine r_aload_n C 0 rfl rfl dX10_again_10 ?_
    refine gf_X10_10 C rf0 o_0 (q := 1) rfl dX10_again_11 ?_
    refine r_aload_n C 0 rfl rfl dX10_again_14 ?_
    refine gf_X10_30 C rf0 o_0 (q := 27) rfl dX10_again_15 ?_
    obtain ⟨I8, J9, hq10, h⟩ := bd2_ h
    refine r_cvv C (rest := []) (c_X7_becomeLike o_1 o_27 hq10) fm_X7_becomeLike lk_X10_345 o_1 ⟨_, ct_6 o_1.1⟩ rfl rfl ⟨rfl, rfl, Nat.le_of_ble_eq_true rfl, Nat.le_of_ble_eq_true rfl⟩ (Nat.le_of_ble_eq_true rfl) rfl dX10_again_18 ?_
    refine r_aload_n C 0 rfl rfl dX10_again_21 ?_
    refine gf_X10_19 C rf0 o_0 (q := 4) rfl dX10_again_22 ?_
    refine r_aload_n C 0 rfl rfl dX10_again_25 ?_
    refine gf_X10_33 C rf0 o_0 (q := 30) rfl dX10_again_26 ?_
    obtain ⟨I11, hq12, h⟩ := bd1_ h
    refine r_cvv C (rest := []) (c_X2_becomeLike o_4 o_30 hq12) fm_X2_becomeLike lk_X10_151 o_4 ⟨_, ct_1 o_4.1⟩ rfl rfl ⟨rfl, rfl, Nat.le_of_ble_eq_true rfl, Nat.le_of_ble_eq_true rfl⟩ (Nat.le_of_ble_eq_true rfl) rfl dX10_again_29 ?_
    refine r_aload_n C 0 rfl rfl dX10_again_32 ?_
    refine gf_X10_26 C rf0 o_0 (q := 13) rfl dX10_again_33 ?_
    refine r_aload_n C 0 rfl rfl dX10_again_36 ?_
    refine gf_X10_36 C rf0 o_0 (q := 39) rfl dX10_again_37 ?_
    obtain ⟨I13, hq14, h⟩ := bd1_ h
    refine r_cvv C (rest := []) (c_X4_becomeLike o_13 o_39 hq14) fm_X4_becomeLike lk_X10_347 o_13 ⟨_, ct_3 o_13.1⟩ rfl rfl ⟨rfl, rfl, Nat.le_of_ble_eq_true rfl, Nat.le_of_ble_eq_true rfl⟩ (Nat.le_of_ble_eq_true rfl) rfl dX10_again_40 ?_
    refine r_iconst C (v := 1) (by decide) dX10_again_43 ?_
    have hz9 := Option.some.inj h
    subst hz9
    exact r_iret C hr dX10_again_44
  · refine r_bipush C (v := -3) (by decide) dX10_again_7 ?_
    have hz9 := Option.some.inj h
    subst hz9
    exact r_iret C hr dX10_again_9
set_option maxHeartbeats 4000000 in
set_option maxRecDepth 100000 in
theorem c_X10_again {l : Launch} {g : GG} {ad : Nat → Nat} {I : HI} {J : HJ} {r : Int32} {I1 : HI} {J1 : HJ} (h : f_X10_again I J = some (r, I1, J1)) : CM l yX10_again cX10_again 1 (some .int) (rmk 7 215) g ad nO oR [.ref (ad 0)] I J (QAi g ad nO oR r I1 J1) :=
  CM_of (by decide +kernel) (Nat.le_of_ble_eq_true rfl) (fun p e s m args below meth c C hr => w_X10_again C hr h)
set_option maxHeartbeats 4000000 in
set_option maxRecDepth 100000 in
theorem wLB_X11_laws_43 {l : Launch} {g : GG} {ad : Nat → Nat} {p : Program} {e : Env} {s : State} {m : MethodId} {args : Array Value} {below : List Frame} {meth : Method} {c : Code} {z : HI} (C : Cx p s m args meth c RX11 cX11_laws 2 g (AW ad nO)) (hr : meth.sig.returnType = none) {J : HJ}  {r_43 : Int32 → HI → HJ → Option (HI)} (hr_43 : ∀ {x1 : Int32} {I : HI}, r_43 x1 I J = some z → V p l e (rmk 0 0) s m args below meth c (MQ below (QAv g ad nO oR z J) args s 0 0 (AW ad nO)) 2 0 0 g (AW ad nO) ad nO oR I J 43 [(0, .ref (ad 98)), (1, .int x1)] []) {x1 : Int32} {I : HI} (h : fLB_X11_laws_43 r_43 x1 I J = some z) : V p l e (rmk 0 0) s m args below meth c (MQ below (QAv g ad nO oR z J) args s 0 0 (AW ad nO)) 2 0 0 g (AW ad nO) ad nO oR I J 43 [(0, .ref (ad 98)), (1, .int x1)] [] := by
  unfold fLB_X11_laws_43 at h
  refine r_iload_n C 1 rfl rfl dX11_laws_43 ?_
  refine r_iconst C (v := 4) (by decide) dX11_laws_44 ?_
  refine r_icmp_ge C (tgt := 92) h dX11_laws_45 (by decide) (fun h => ?_) (fun h => ?_)
  · refine r_aload_n C 0 rfl rfl dX11_laws_92 ?_
    refine gf_X11_7 C rf0 o_98 (q := 99) rfl dX11_laws_93 ?_
    refine r_bipush C (v := 11) (by decide) dX11_laws_96 ?_
    refine r_iconst C (v := 0) (by decide) dX11_laws_98 ?_
    refine r_iast C o_99 h dX11_laws_99 (fun h => ?_)
    refine r_nmI h (fun I7 h => ?_)
    have hz9 := Option.some.inj h
    subst hz9
    exact r_vret C hr dX11_laws_100
  · refine r_aload_n C 0 rfl rfl dX11_laws_48 ?_
    refine gf_X11_7 C rf0 o_98 (q := 99) rfl dX11_laws_49 ?_
    refine r_sipush C (v := 438) (by decide) dX11_laws_52 ?_
    refine r_iconst C (v := 2) (by decide) dX11_laws_55 ?_
    refine r_iload_n C 1 rfl rfl dX11_laws_56 ?_
    refine r_pc (pc1 := 57) rfl ?_
    refine r_imul C dX11_laws_57 ?_
    refine r_iadd C dX11_laws_58 ?_
    refine r_aload_n C 0 rfl rfl dX11_laws_59 ?_
    refine gf_X11_26 C rf0 o_98 (q := 104) rfl dX11_laws_60 ?_
    refine r_iload_n C 1 rfl rfl dX11_laws_63 ?_
    refine r_iald C o_104 h dX11_laws_64 (fun h => ?_)
    refine r_iast C o_99 h dX11_laws_65 (fun h => ?_)
    refine r_nmI h (fun I8 h => ?_)
    refine r_aload_n C 0 rfl rfl dX11_laws_66 ?_
    refine gf_X11_7 C rf0 o_98 (q := 99) rfl dX11_laws_67 ?_
    refine r_sipush C (v := 438) (by decide) dX11_laws_70 ?_
    refine r_iconst C (v := 2) (by decide) dX11_laws_73 ?_
    refine r_iload_n C 1 rfl rfl dX11_laws_74 ?_
    refine r_pc (pc1 := 75) rfl ?_
    refine r_imul C dX11_laws_75 ?_
    refine r_iadd C dX11_laws_76 ?_
    refine r_iconst C (v := 1) (by decide) dX11_laws_77 ?_
    refine r_iadd C dX11_laws_78 ?_
    refine r_aload_n C 0 rfl rfl dX11_laws_79 ?_
    refine gf_X11_29 C rf0 o_98 (q := 105) rfl dX11_laws_80 ?_
    refine r_pc (pc1 := 83) rfl ?_
    refine r_iload_n C 1 rfl rfl dX11_laws_83 ?_
    refine r_iald C o_105 h dX11_laws_84 (fun h => ?_)
    refine r_iast C o_99 h dX11_laws_85 (fun h => ?_)
    refine r_nmI h (fun I9 h => ?_)
    refine r_iincN C h (k := 1) (zz := 1) rfl rfl (by decide) (lv1 := fun v10 => [(1, .int v10), (0, .ref (ad 98))]) (fun _ => rfl) dX11_laws_86 (fun v10 h => ?_)
    refine r_goto C (tgt := 43) dX11_laws_89 (by decide) ?_
    exact r_sub [1, 0] rfl (hr_43  h)
set_option maxHeartbeats 4000000 in
set_option maxRecDepth 100000 in
theorem wL_X11_laws_43 {l : Launch} {g : GG} {ad : Nat → Nat} {p : Program} {e : Env} {s : State} {m : MethodId} {args : Array Value} {below : List Frame} {meth : Method} {c : Code} {z : HI} (C : Cx p s m args meth c RX11 cX11_laws 2 g (AW ad nO)) (hr : meth.sig.returnType = none) {J : HJ}  : ∀ (f : Nat) {x1 : Int32} {I : HI}, fL_X11_laws_43 f x1 I J = some z → V p l e (rmk 0 0) s m args below meth c (MQ below (QAv g ad nO oR z J) args s 0 0 (AW ad nO)) 2 0 0 g (AW ad nO) ad nO oR I J 43 [(0, .ref (ad 98)), (1, .int x1)] [] := by
  intro f
  induction f with
  | zero =>
    intro _ _  h
    have h0 : (none : Option (HI)) = some z := h
    cases h0
  | succ f ih =>
    intro _ _  h
    exact wLB_X11_laws_43 C hr ih  h
set_option maxHeartbeats 4000000 in
set_option maxRecDepth 100000 in
theorem wB_X11_laws_34 {l : Launch} {g : GG} {ad : Nat → Nat} {p : Program} {e : Env} {s : State} {m : MethodId} {args : Array Value} {below : List Frame} {meth : Method} {c : Code} {z : HI} (C : Cx p s m args meth c RX11 cX11_laws 2 g (AW ad nO)) (hr : meth.sig.returnType = none) {r_2 : Int32 → HI → HJ → Option (HI)} {J : HJ} (hr_2 : ∀ {x1 : Int32} {I : HI}, r_2 x1 I J = some z → V p l e (rmk 0 0) s m args below meth c (MQ below (QAv g ad nO oR z J) args s 0 0 (AW ad nO)) 2 0 0 g (AW ad nO) ad nO oR I J 2 [(0, .ref (ad 98)), (1, .int x1)] []) {x1 : Int32} {s0 : Int32} {s1 : Int32} {I : HI} (h : fB_X11_laws_34 r_2 x1 s0 s1 I J = some z) : V p l e (rmk 0 0) s m args below meth c (MQ below (QAv g ad nO oR z J) args s 0 0 (AW ad nO)) 2 0 0 g (AW ad nO) ad nO oR I J 34 [(0, .ref (ad 98)), (1, .int x1)] [.int s0, .int s1, .ref (ad 99)] := by
  unfold fB_X11_laws_34 at h
  refine r_iast C o_99 h dX11_laws_34 (fun h => ?_)
  refine r_nmI h (fun I11 h => ?_)
  refine r_iincN C h (k := 1) (zz := 1) rfl rfl (by decide) (lv1 := fun v12 => [(1, .int v12), (0, .ref (ad 98))]) (fun _ => rfl) dX11_laws_35 (fun v12 h => ?_)
  refine r_goto C (tgt := 2) dX11_laws_38 (by decide) ?_
  exact r_sub [1, 0] rfl (hr_2  h)
set_option maxHeartbeats 4000000 in
set_option maxRecDepth 100000 in
theorem wLB_X11_laws_2 {l : Launch} {g : GG} {ad : Nat → Nat} {p : Program} {e : Env} {s : State} {m : MethodId} {args : Array Value} {below : List Frame} {meth : Method} {c : Code} {z : HI} (C : Cx p s m args meth c RX11 cX11_laws 2 g (AW ad nO)) (hr : meth.sig.returnType = none) {J : HJ}  {r_2 : Int32 → HI → HJ → Option (HI)} (hr_2 : ∀ {x1 : Int32} {I : HI}, r_2 x1 I J = some z → V p l e (rmk 0 0) s m args below meth c (MQ below (QAv g ad nO oR z J) args s 0 0 (AW ad nO)) 2 0 0 g (AW ad nO) ad nO oR I J 2 [(0, .ref (ad 98)), (1, .int x1)] []) {x1 : Int32} {I : HI} (h : fLB_X11_laws_2 r_2 x1 I J = some z) : V p l e (rmk 0 0) s m args below meth c (MQ below (QAv g ad nO oR z J) args s 0 0 (AW ad nO)) 2 0 0 g (AW ad nO) ad nO oR I J 2 [(0, .ref (ad 98)), (1, .int x1)] [] := by
  unfold fLB_X11_laws_2 at h
  refine r_iload_n C 1 rfl rfl dX11_laws_2 ?_
  refine r_sipush C (v := 220) (by decide) dX11_laws_3 ?_
  refine r_icmp_ge C (tgt := 41) h dX11_laws_6 (by decide) (fun h => ?_) (fun h => ?_)
  · refine r_iconst C (v := 0) (by decide) dX11_laws_41 ?_
    refine r_istore_n C (lv1 := [(1, .int (0 : Int32)), (0, .ref (ad 98))]) rfl (by decide) rfl dX11_laws_42 ?_
    exact r_sub [1, 0] rfl (wL_X11_laws_43 C hr _  h)
  · refine r_aload_n C 0 rfl rfl dX11_laws_9 ?_
    refine gf_X11_7 C rf0 o_98 (q := 99) rfl dX11_laws_10 ?_
    refine r_sipush C (v := 446) (by decide) dX11_laws_13 ?_
    refine r_iload_n C 1 rfl rfl dX11_laws_16 ?_
    refine r_iadd C dX11_laws_17 ?_
    refine r_pc (pc1 := 18) rfl ?_
    refine r_iload_n C 1 rfl rfl dX11_laws_18 ?_
    refine r_bipush C (v := 12) (by decide) dX11_laws_19 ?_
    refine r_icmp_ge C (tgt := 33) h dX11_laws_21 (by decide) (fun h => ?_) (fun h => ?_)
    · refine r_iconst C (v := 0) (by decide) dX11_laws_33 ?_
      exact wB_X11_laws_34 C hr hr_2  h
    · refine r_aload_n C 0 rfl rfl dX11_laws_24 ?_
      refine gf_X11_23 C rf0 o_98 (q := 103) rfl dX11_laws_25 ?_
      refine r_iload_n C 1 rfl rfl dX11_laws_28 ?_
      refine r_iald C o_103 h dX11_laws_29 (fun h => ?_)
      refine r_goto C (tgt := 34) dX11_laws_30 (by decide) ?_
      exact wB_X11_laws_34 C hr hr_2  h
set_option maxHeartbeats 4000000 in
set_option maxRecDepth 100000 in
theorem wL_X11_laws_2 {l : Launch} {g : GG} {ad : Nat → Nat} {p : Program} {e : Env} {s : State} {m : MethodId} {args : Array Value} {below : List Frame} {meth : Method} {c : Code} {z : HI} (C : Cx p s m args meth c RX11 cX11_laws 2 g (AW ad nO)) (hr : meth.sig.returnType = none) {J : HJ}  : ∀ (f : Nat) {x1 : Int32} {I : HI}, fL_X11_laws_2 f x1 I J = some z → V p l e (rmk 0 0) s m args below meth c (MQ below (QAv g ad nO oR z J) args s 0 0 (AW ad nO)) 2 0 0 g (AW ad nO) ad nO oR I J 2 [(0, .ref (ad 98)), (1, .int x1)] [] := by
  intro f
  induction f with
  | zero =>
    intro _ _  h
    have h0 : (none : Option (HI)) = some z := h
    cases h0
  | succ f ih =>
    intro _ _  h
    exact wLB_X11_laws_2 C hr ih  h
set_option maxHeartbeats 4000000 in
set_option maxRecDepth 100000 in
theorem w_X11_laws {l : Launch} {g : GG} {ad : Nat → Nat} {p : Program} {e : Env} {s : State} {m : MethodId} {args : Array Value} {below : List Frame} {meth : Method} {c : Code} {z : HI} (C : Cx p s m args meth c RX11 cX11_laws 2 g (AW ad nO)) (hr : meth.sig.returnType = none) {I : HI} {J : HJ} (h : f_X11_laws I J = some z) : V p l e (rmk 0 0) s m args below meth c (MQ below (QAv g ad nO oR z J) args s 0 0 (AW ad nO)) 2 0 0 g (AW ad nO) ad nO oR I J 0 [(0, .ref (ad 98))] [] := by
  unfold f_X11_laws at h
  refine r_iconst C (v := 0) (by decide) dX11_laws_0 ?_
  refine r_istore_n C (lv1 := [(1, .int (0 : Int32)), (0, .ref (ad 98))]) rfl (by decide) rfl dX11_laws_1 ?_
  exact r_sub [1, 0] rfl (wL_X11_laws_2 C hr _  h)
set_option maxHeartbeats 4000000 in
set_option maxRecDepth 100000 in
theorem c_X11_laws {l : Launch} {g : GG} {ad : Nat → Nat} {I : HI} {J : HJ} {I1 : HI} (h : f_X11_laws I J = some I1) : CM l yX11_laws cX11_laws 2 none (rmk 0 0) g ad nO oR [.ref (ad 98)] I J (QAv g ad nO oR I1 J) :=
  CM_of (by decide +kernel) (Nat.le_of_ble_eq_true rfl) (fun p e s m args below meth c C hr => w_X11_laws C hr h)
set_option maxHeartbeats 4000000 in
set_option maxRecDepth 100000 in
theorem w_X11_in {l : Launch} {g : GG} {ad : Nat → Nat} {p : Program} {e : Env} {s : State} {m : MethodId} {args : Array Value} {below : List Frame} {meth : Method} {c : Code} {a0 : Int64} {a1 : Int64} {a2 : Int64} {z : Int32} (C : Cx p s m args meth c RX11 cX11_in 6 g (AW ad nO)) (hr : meth.sig.returnType = (some .boolean)) {I : HI} {J : HJ} (h : f_X11_in a0 a1 a2 = some z) : V p l e (rmk 0 0) s m args below meth c (MQ below (QAi g ad nO oR z I J) args s 0 0 (AW ad nO)) 6 0 0 g (AW ad nO) ad nO oR I J 0 [(0, .long a0), (2, .long a1), (4, .long a2)] [] := by
  unfold f_X11_in at h
  refine r_lload_n C 0 rfl rfl dX11_in_0 ?_
  refine r_lload_n C 1 rfl rfl dX11_in_1 ?_
  refine r_lcmp C dX11_in_2 ?_
  refine r_if_lt C (tgt := 17) h dX11_in_3 (by decide) (fun h => ?_) (fun h => ?_)
  · refine r_iconst C (v := 0) (by decide) dX11_in_17 ?_
    have hz9 := Option.some.inj h
    subst hz9
    exact r_zret C (v := (0 : Int32)) rfl hr dX11_in_18
  · refine r_lload_n C 0 rfl rfl dX11_in_6 ?_
    refine r_lload C 2 rfl dX11_in_7 ?_
    refine r_lcmp C dX11_in_9 ?_
    refine r_if_gt C (tgt := 17) h dX11_in_10 (by decide) (fun h => ?_) (fun h => ?_)
    · refine r_iconst C (v := 0) (by decide) dX11_in_17 ?_
      have hz9 := Option.some.inj h
      subst hz9
      exact r_zret C (v := (0 : Int32)) rfl hr dX11_in_18
    · refine r_iconst C (v := 1) (by decide) dX11_in_13 ?_
      refine r_goto C (tgt := 18) dX11_in_14 (by decide) ?_
      have hz9 := Option.some.inj h
      subst hz9
      exact r_zret C (v := (1 : Int32)) rfl hr dX11_in_18
set_option maxHeartbeats 4000000 in
set_option maxRecDepth 100000 in
theorem c_X11_in {l : Launch} {g : GG} {ad : Nat → Nat} {a0 : Int64} {a1 : Int64} {a2 : Int64} {I : HI} {J : HJ} {r : Int32} (h : f_X11_in a0 a1 a2 = some r) : CM l yX11_in cX11_in 6 (some .boolean) (rmk 0 0) g ad nO oR [.long a0, .long a1, .long a2] I J (QAi g ad nO oR r I J) :=
  CM_of (by decide +kernel) (Nat.le_of_ble_eq_true rfl) (fun p e s m args below meth c C hr => w_X11_in C hr h)
set_option maxHeartbeats 4000000 in
set_option maxRecDepth 100000 in
theorem w_X11_held {l : Launch} {g : GG} {ad : Nat → Nat} {p : Program} {e : Env} {s : State} {m : MethodId} {args : Array Value} {below : List Frame} {meth : Method} {c : Code} {a0 : Int32} {a1 : Int32} {a2 : Int32} {z : Int32} (C : Cx p s m args meth c RX11 cX11_held 3 g (AW ad nO)) (hr : meth.sig.returnType = (some .int)) {I : HI} {J : HJ} (h : f_X11_held a0 a1 a2 = some z) : V p l e (rmk 0 0) s m args below meth c (MQ below (QAi g ad nO oR z I J) args s 0 0 (AW ad nO)) 3 0 0 g (AW ad nO) ad nO oR I J 0 [(0, .int a0), (1, .int a1), (2, .int a2)] [] := by
  unfold f_X11_held at h
  refine r_iload_n C 0 rfl rfl dX11_held_0 ?_
  refine r_iload_n C 1 rfl rfl dX11_held_1 ?_
  refine r_icmp_ge C (tgt := 9) h dX11_held_2 (by decide) (fun h => ?_) (fun h => ?_)
  · refine r_iload_n C 0 rfl rfl dX11_held_9 ?_
    refine r_iload_n C 2 rfl rfl dX11_held_10 ?_
    refine r_icmp_le C (tgt := 18) h dX11_held_11 (by decide) (fun h => ?_) (fun h => ?_)
    · refine r_iload_n C 0 rfl rfl dX11_held_18 ?_
      have hz9 := Option.some.inj h
      subst hz9
      exact r_iret C hr dX11_held_19
    · refine r_iload_n C 2 rfl rfl dX11_held_14 ?_
      refine r_goto C (tgt := 19) dX11_held_15 (by decide) ?_
      have hz9 := Option.some.inj h
      subst hz9
      exact r_iret C hr dX11_held_19
  · refine r_iload_n C 1 rfl rfl dX11_held_5 ?_
    refine r_goto C (tgt := 19) dX11_held_6 (by decide) ?_
    have hz9 := Option.some.inj h
    subst hz9
    exact r_iret C hr dX11_held_19
set_option maxHeartbeats 4000000 in
set_option maxRecDepth 100000 in
theorem c_X11_held {l : Launch} {g : GG} {ad : Nat → Nat} {a0 : Int32} {a1 : Int32} {a2 : Int32} {I : HI} {J : HJ} {r : Int32} (h : f_X11_held a0 a1 a2 = some r) : CM l yX11_held cX11_held 3 (some .int) (rmk 0 0) g ad nO oR [.int a0, .int a1, .int a2] I J (QAi g ad nO oR r I J) :=
  CM_of (by decide +kernel) (Nat.le_of_ble_eq_true rfl) (fun p e s m args below meth c C hr => w_X11_held C hr h)
set_option maxHeartbeats 4000000 in
set_option maxRecDepth 100000 in
theorem wLB_X11_opens_2 {l : Launch} {g : GG} {ad : Nat → Nat} {p : Program} {e : Env} {s : State} {m : MethodId} {args : Array Value} {below : List Frame} {meth : Method} {c : Code} {z : HI × HJ} (C : Cx p s m args meth c RX11 cX11_opens 2 g (AW ad nO)) (hr : meth.sig.returnType = none)  {r_2 : Int32 → HI → HJ → Option (HI × HJ)} (hr_2 : ∀ {x1 : Int32} {I : HI} {J : HJ}, r_2 x1 I J = some z → V p l e (rmk 0 0) s m args below meth c (MQ below (QAv g ad nO oR z.1 z.2) args s 0 0 (AW ad nO)) 2 0 0 g (AW ad nO) ad nO oR I J 2 [(0, .ref (ad 98)), (1, .int x1)] []) {x1 : Int32} {I : HI} {J : HJ} (h : fLB_X11_opens_2 r_2 x1 I J = some z) : V p l e (rmk 0 0) s m args below meth c (MQ below (QAv g ad nO oR z.1 z.2) args s 0 0 (AW ad nO)) 2 0 0 g (AW ad nO) ad nO oR I J 2 [(0, .ref (ad 98)), (1, .int x1)] [] := by
  unfold fLB_X11_opens_2 at h
  refine r_iload_n C 1 rfl rfl dX11_opens_2 ?_
  refine r_bipush C (v := 9) (by decide) dX11_opens_3 ?_
  refine r_icmp_ge C (tgt := 26) h dX11_opens_5 (by decide) (fun h => ?_) (fun h => ?_)
  · refine r_aload_n C 0 rfl rfl dX11_opens_26 ?_
    refine r_iconst C (v := 0) (by decide) dX11_opens_27 ?_
    refine pf_X11_86 C o_98 dX11_opens_28 ?_
    refine r_nmI h (fun I6 h => ?_)
    refine r_aload_n C 0 rfl rfl dX11_opens_31 ?_
    refine r_lconst C (v := 0) (by decide) dX11_opens_32 ?_
    refine pf_X11_90 C o_98 dX11_opens_33 ?_
    refine r_nmJ h (fun J7 h => ?_)
    refine r_aload_n C 0 rfl rfl dX11_opens_36 ?_
    refine r_lconst C (v := 0) (by decide) dX11_opens_37 ?_
    refine pf_X11_94 C o_98 dX11_opens_38 ?_
    refine r_nmJ h (fun J8 h => ?_)
    have hz9 := Option.some.inj h
    subst hz9
    exact r_vret C hr dX11_opens_41
  · refine r_aload_n C 0 rfl rfl dX11_opens_8 ?_
    refine gf_X11_32 C rf0 o_98 (q := 106) rfl dX11_opens_9 ?_
    refine r_iload_n C 1 rfl rfl dX11_opens_12 ?_
    refine r_aload_n C 0 rfl rfl dX11_opens_13 ?_
    refine gf_X11_7 C rf0 o_98 (q := 99) rfl dX11_opens_14 ?_
    refine r_pc (pc1 := 17) rfl ?_
    refine r_iload_n C 1 rfl rfl dX11_opens_17 ?_
    refine r_iald C o_99 h dX11_opens_18 (fun h => ?_)
    refine r_iast C o_106 h dX11_opens_19 (fun h => ?_)
    refine r_nmI h (fun I9 h => ?_)
    refine r_iincN C h (k := 1) (zz := 1) rfl rfl (by decide) (lv1 := fun v10 => [(1, .int v10), (0, .ref (ad 98))]) (fun _ => rfl) dX11_opens_20 (fun v10 h => ?_)
    refine r_goto C (tgt := 2) dX11_opens_23 (by decide) ?_
    exact r_sub [1, 0] rfl (hr_2  h)
set_option maxHeartbeats 4000000 in
set_option maxRecDepth 100000 in
theorem wL_X11_opens_2 {l : Launch} {g : GG} {ad : Nat → Nat} {p : Program} {e : Env} {s : State} {m : MethodId} {args : Array Value} {below : List Frame} {meth : Method} {c : Code} {z : HI × HJ} (C : Cx p s m args meth c RX11 cX11_opens 2 g (AW ad nO)) (hr : meth.sig.returnType = none)  : ∀ (f : Nat) {x1 : Int32} {I : HI} {J : HJ}, fL_X11_opens_2 f x1 I J = some z → V p l e (rmk 0 0) s m args below meth c (MQ below (QAv g ad nO oR z.1 z.2) args s 0 0 (AW ad nO)) 2 0 0 g (AW ad nO) ad nO oR I J 2 [(0, .ref (ad 98)), (1, .int x1)] [] := by
  intro f
  induction f with
  | zero =>
    intro _ _ _  h
    have h0 : (none : Option (HI × HJ)) = some z := h
    cases h0
  | succ f ih =>
    intro _ _ _  h
    exact wLB_X11_opens_2 C hr ih  h
set_option maxHeartbeats 4000000 in
set_option maxRecDepth 100000 in
theorem w_X11_opens {l : Launch} {g : GG} {ad : Nat → Nat} {p : Program} {e : Env} {s : State} {m : MethodId} {args : Array Value} {below : List Frame} {meth : Method} {c : Code} {z : HI × HJ} (C : Cx p s m args meth c RX11 cX11_opens 2 g (AW ad nO)) (hr : meth.sig.returnType = none) {I : HI} {J : HJ} (h : f_X11_opens I J = some z) : V p l e (rmk 0 0) s m args below meth c (MQ below (QAv g ad nO oR z.1 z.2) args s 0 0 (AW ad nO)) 2 0 0 g (AW ad nO) ad nO oR I J 0 [(0, .ref (ad 98))] [] := by
  unfold f_X11_opens at h
  refine r_iconst C (v := 0) (by decide) dX11_opens_0 ?_
  refine r_istore_n C (lv1 := [(1, .int (0 : Int32)), (0, .ref (ad 98))]) rfl (by decide) rfl dX11_opens_1 ?_
  exact r_sub [1, 0] rfl (wL_X11_opens_2 C hr _  h)
set_option maxHeartbeats 4000000 in
set_option maxRecDepth 100000 in
theorem c_X11_opens {l : Launch} {g : GG} {ad : Nat → Nat} {I : HI} {J : HJ} {I1 : HI} {J1 : HJ} (h : f_X11_opens I J = some (I1, J1)) : CM l yX11_opens cX11_opens 2 none (rmk 0 0) g ad nO oR [.ref (ad 98)] I J (QAv g ad nO oR I1 J1) :=
  CM_of (by decide +kernel) (Nat.le_of_ble_eq_true rfl) (fun p e s m args below meth c C hr => w_X11_opens C hr h)
set_option maxHeartbeats 4000000 in
set_option maxRecDepth 100000 in
theorem w_X11_both {l : Launch} {g : GG} {ad : Nat → Nat} {p : Program} {e : Env} {s : State} {m : MethodId} {args : Array Value} {below : List Frame} {meth : Method} {c : Code} {a0 : Int32} {a1 : Int32} {a2 : Int32} {z : Int32} (C : Cx p s m args meth c RX11 cX11_both 3 g (AW ad nO)) (hr : meth.sig.returnType = (some .int)) {I : HI} {J : HJ} (h : f_X11_both a0 a1 a2 = some z) : V p l e (rmk 0 0) s m args below meth c (MQ below (QAi g ad nO oR z I J) args s 0 0 (AW ad nO)) 3 0 0 g (AW ad nO) ad nO oR I J 0 [(0, .int a0), (1, .int a1), (2, .int a2)] [] := by
  unfold f_X11_both at h
  refine r_iload_n C 0 rfl rfl dX11_both_0 ?_
  refine r_case h (fun hc8 h => ?_) (fun hc8 h => ?_)
  · refine r_tabIn C (tgt := 44) 10011 hc8 dX11_both_1 (by decide) (by decide) rfl (by decide) ?_
    refine r_iload_n C 1 rfl rfl dX11_both_44 ?_
    refine r_iload_n C 2 rfl rfl dX11_both_45 ?_
    refine r_iadd C dX11_both_46 ?_
    have hz9 := Option.some.inj h
    subst hz9
    exact r_iret C hr dX11_both_47
  refine r_case h (fun hc9 h => ?_) (fun hc9 h => ?_)
  · refine r_tabIn C (tgt := 48) 10012 hc9 dX11_both_1 (by decide) (by decide) rfl (by decide) ?_
    refine r_iload_n C 1 rfl rfl dX11_both_48 ?_
    refine r_iload_n C 2 rfl rfl dX11_both_49 ?_
    refine r_isub C dX11_both_50 ?_
    have hz9 := Option.some.inj h
    subst hz9
    exact r_iret C hr dX11_both_51
  refine r_case h (fun hc10 h => ?_) (fun hc10 h => ?_)
  · refine r_tabIn C (tgt := 52) 10013 hc10 dX11_both_1 (by decide) (by decide) rfl (by decide) ?_
    refine r_iload_n C 1 rfl rfl dX11_both_52 ?_
    refine r_iload_n C 2 rfl rfl dX11_both_53 ?_
    refine r_imul C dX11_both_54 ?_
    have hz9 := Option.some.inj h
    subst hz9
    exact r_iret C hr dX11_both_55
  refine r_case h (fun hc11 h => ?_) (fun hc11 h => ?_)
  · refine r_tabIn C (tgt := 56) 10014 hc11 dX11_both_1 (by decide) (by decide) rfl (by decide) ?_
    refine r_iload_n C 2 rfl rfl dX11_both_56 ?_
    refine r_if_ne C (tgt := 64) h dX11_both_57 (by decide) (fun h => ?_) (fun h => ?_)
    · refine r_iload_n C 1 rfl rfl dX11_both_64 ?_
      refine r_iload_n C 2 rfl rfl dX11_both_65 ?_
      refine r_idiv C h dX11_both_66 (fun h => ?_)
      have hz9 := Option.some.inj h
      subst hz9
      exact r_iret C hr dX11_both_67
    · refine r_iconst C (v := 0) (by decide) dX11_both_60 ?_
      refine r_goto C (tgt := 67) dX11_both_61 (by decide) ?_
      have hz9 := Option.some.inj h
      subst hz9
      exact r_iret C hr dX11_both_67
  refine r_case h (fun hc12 h => ?_) (fun hc12 h => ?_)
  · refine r_tabIn C (tgt := 68) 10015 hc12 dX11_both_1 (by decide) (by decide) rfl (by decide) ?_
    refine r_iload_n C 2 rfl rfl dX11_both_68 ?_
    refine r_if_ne C (tgt := 76) h dX11_both_69 (by decide) (fun h => ?_) (fun h => ?_)
    · refine r_iload_n C 1 rfl rfl dX11_both_76 ?_
      refine r_iload_n C 2 rfl rfl dX11_both_77 ?_
      refine r_irem C h dX11_both_78 (fun h => ?_)
      have hz9 := Option.some.inj h
      subst hz9
      exact r_iret C hr dX11_both_79
    · refine r_iconst C (v := 0) (by decide) dX11_both_72 ?_
      refine r_goto C (tgt := 79) dX11_both_73 (by decide) ?_
      have hz9 := Option.some.inj h
      subst hz9
      exact r_iret C hr dX11_both_79
  refine r_case h (fun hc13 h => ?_) (fun hc13 h => ?_)
  · refine r_tabIn C (tgt := 80) 10016 hc13 dX11_both_1 (by decide) (by decide) rfl (by decide) ?_
    refine r_iload_n C 1 rfl rfl dX11_both_80 ?_
    refine r_iload_n C 2 rfl rfl dX11_both_81 ?_
    refine r_icmp_ge C (tgt := 89) h dX11_both_82 (by decide) (fun h => ?_) (fun h => ?_)
    · refine r_iconst C (v := 0) (by decide) dX11_both_89 ?_
      have hz9 := Option.some.inj h
      subst hz9
      exact r_iret C hr dX11_both_90
    · refine r_iconst C (v := 1) (by decide) dX11_both_85 ?_
      refine r_goto C (tgt := 90) dX11_both_86 (by decide) ?_
      have hz9 := Option.some.inj h
      subst hz9
      exact r_iret C hr dX11_both_90
  refine r_case h (fun hc14 h => ?_) (fun hc14 h => ?_)
  · refine r_tabIn C (tgt := 91) 10017 hc14 dX11_both_1 (by decide) (by decide) rfl (by decide) ?_
    refine r_iload_n C 1 rfl rfl dX11_both_91 ?_
    refine r_iload_n C 2 rfl rfl dX11_both_92 ?_
    refine r_icmp_ne C (tgt := 100) h dX11_both_93 (by decide) (fun h => ?_) (fun h => ?_)
    · refine r_iconst C (v := 0) (by decide) dX11_both_100 ?_
      have hz9 := Option.some.inj h
      subst hz9
      exact r_iret C hr dX11_both_101
    · refine r_iconst C (v := 1) (by decide) dX11_both_96 ?_
      refine r_goto C (tgt := 101) dX11_both_97 (by decide) ?_
      have hz9 := Option.some.inj h
      subst hz9
      exact r_iret C hr dX11_both_101
  refine r_tabD C (tgt := 102) [10011, 10012, 10013, 10014, 10015, 10016, 10017] (r_nc hc8 rfl (r_nc hc9 rfl (r_nc hc10 rfl (r_nc hc11 rfl (r_nc hc12 rfl (r_nc hc13 rfl (r_nc hc14 rfl r_nc0))))))) dX11_both_1 rfl (by decide) (by decide) ?_
  refine r_iload_n C 1 rfl rfl dX11_both_102 ?_
  refine r_iload_n C 2 rfl rfl dX11_both_103 ?_
  refine r_icmp_le C (tgt := 111) h dX11_both_104 (by decide) (fun h => ?_) (fun h => ?_)
  · refine r_iconst C (v := 0) (by decide) dX11_both_111 ?_
    have hz9 := Option.some.inj h
    subst hz9
    exact r_iret C hr dX11_both_112
  · refine r_iconst C (v := 1) (by decide) dX11_both_107 ?_
    refine r_goto C (tgt := 112) dX11_both_108 (by decide) ?_
    have hz9 := Option.some.inj h
    subst hz9
    exact r_iret C hr dX11_both_112
set_option maxHeartbeats 4000000 in
set_option maxRecDepth 100000 in
theorem c_X11_both {l : Launch} {g : GG} {ad : Nat → Nat} {a0 : Int32} {a1 : Int32} {a2 : Int32} {I : HI} {J : HJ} {r : Int32} (h : f_X11_both a0 a1 a2 = some r) : CM l yX11_both cX11_both 3 (some .int) (rmk 0 0) g ad nO oR [.int a0, .int a1, .int a2] I J (QAi g ad nO oR r I J) :=
  CM_of (by decide +kernel) (Nat.le_of_ble_eq_true rfl) (fun p e s m args below meth c C hr => w_X11_both C hr h)

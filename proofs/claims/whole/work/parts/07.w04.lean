set_option maxHeartbeats 4000000 in
set_option maxRecDepth 100000 in
theorem w_X10_tap {l : Launch} {g : GG} {ad : Nat → Nat} {p : Program} {e : Env} {s : State} {m : MethodId} {args : Array Value} {below : List Frame} {meth : Method} {c : Code} {a0 : Int32} {z : Int32} (C : Cx p s m args meth c RX10 cX10_tap 2 g (AW ad nO)) (hr : meth.sig.returnType = (some .int)) {I : HI} {J : HJ} (h : f_X10_tap a0 I J = some z) : V p l e (rmk 0 0) s m args below meth c (MQ below (QAi g ad nO oR z I J) args s 0 0 (AW ad nO)) 2 0 0 g (AW ad nO) ad nO oR I J 0 [(0, .ref (ad 0)), (1, .int a0)] [] := by
  unfold f_X10_tap at h
  refine r_iload_n C 1 rfl rfl dX10_tap_0 ?_
  refine r_case h (fun hc9 h => ?_) (fun hc9 h => ?_)
  · refine r_tabIn C (tgt := 48) 0 hc9 dX10_tap_1 (by decide) (by decide) rfl (by decide) ?_
    refine r_aload_n C 0 rfl rfl dX10_tap_48 ?_
    refine gf_X10_10 C rf0 o_0 (q := 1) rfl dX10_tap_49 ?_
    refine gf_X10_105 C o_1 dX10_tap_52 ?_
    have hz9 := Option.some.inj h
    subst hz9
    exact r_iret C hr dX10_tap_55
  refine r_case h (fun hc10 h => ?_) (fun hc10 h => ?_)
  · refine r_tabIn C (tgt := 56) 1 hc10 dX10_tap_1 (by decide) (by decide) rfl (by decide) ?_
    refine r_aload_n C 0 rfl rfl dX10_tap_56 ?_
    refine gf_X10_10 C rf0 o_0 (q := 1) rfl dX10_tap_57 ?_
    refine gf_X10_108 C o_1 dX10_tap_60 ?_
    refine r_sipush C (v := 10000) (by decide) dX10_tap_63 ?_
    refine r_iadd C dX10_tap_66 ?_
    refine r_pc (pc1 := 67) rfl ?_
    have hz9 := Option.some.inj h
    subst hz9
    exact r_iret C hr dX10_tap_67
  refine r_case h (fun hc11 h => ?_) (fun hc11 h => ?_)
  · refine r_tabIn C (tgt := 68) 2 hc11 dX10_tap_1 (by decide) (by decide) rfl (by decide) ?_
    refine r_aload_n C 0 rfl rfl dX10_tap_68 ?_
    refine gf_X10_10 C rf0 o_0 (q := 1) rfl dX10_tap_69 ?_
    refine gf_X10_111 C o_1 dX10_tap_72 ?_
    refine r_sipush C (v := 10000) (by decide) dX10_tap_75 ?_
    refine r_iadd C dX10_tap_78 ?_
    refine r_pc (pc1 := 79) rfl ?_
    have hz9 := Option.some.inj h
    subst hz9
    exact r_iret C hr dX10_tap_79
  refine r_case h (fun hc12 h => ?_) (fun hc12 h => ?_)
  · refine r_tabIn C (tgt := 80) 3 hc12 dX10_tap_1 (by decide) (by decide) rfl (by decide) ?_
    refine r_aload_n C 0 rfl rfl dX10_tap_80 ?_
    refine gf_X10_10 C rf0 o_0 (q := 1) rfl dX10_tap_81 ?_
    refine gf_X10_114 C o_1 dX10_tap_84 ?_
    have hz9 := Option.some.inj h
    subst hz9
    exact r_iret C hr dX10_tap_87
  refine r_case h (fun hc13 h => ?_) (fun hc13 h => ?_)
  · refine r_tabIn C (tgt := 88) 4 hc13 dX10_tap_1 (by decide) (by decide) rfl (by decide) ?_
    refine r_aload_n C 0 rfl rfl dX10_tap_88 ?_
    refine gf_X10_10 C rf0 o_0 (q := 1) rfl dX10_tap_89 ?_
    refine gf_X10_117 C o_1 dX10_tap_92 ?_
    have hz9 := Option.some.inj h
    subst hz9
    exact r_iret C hr dX10_tap_95
  refine r_case h (fun hc14 h => ?_) (fun hc14 h => ?_)
  · refine r_tabIn C (tgt := 96) 5 hc14 dX10_tap_1 (by decide) (by decide) rfl (by decide) ?_
    refine r_aload_n C 0 rfl rfl dX10_tap_96 ?_
    refine gf_X10_10 C rf0 o_0 (q := 1) rfl dX10_tap_97 ?_
    refine gf_X10_98 C o_1 dX10_tap_100 ?_
    have hz9 := Option.some.inj h
    subst hz9
    exact r_iret C hr dX10_tap_103
  refine r_case h (fun hc15 h => ?_) (fun hc15 h => ?_)
  · refine r_tabIn C (tgt := 104) 6 hc15 dX10_tap_1 (by decide) (by decide) rfl (by decide) ?_
    refine r_aload_n C 0 rfl rfl dX10_tap_104 ?_
    refine gf_X10_10 C rf0 o_0 (q := 1) rfl dX10_tap_105 ?_
    refine gf_X10_88 C o_1 dX10_tap_108 ?_
    have hz9 := Option.some.inj h
    subst hz9
    exact r_iret C hr dX10_tap_111
  refine r_case h (fun hc16 h => ?_) (fun hc16 h => ?_)
  · refine r_tabIn C (tgt := 112) 7 hc16 dX10_tap_1 (by decide) (by decide) rfl (by decide) ?_
    refine r_aload_n C 0 rfl rfl dX10_tap_112 ?_
    refine gf_X10_10 C rf0 o_0 (q := 1) rfl dX10_tap_113 ?_
    refine gf_X10_92 C o_1 dX10_tap_116 ?_
    have hz9 := Option.some.inj h
    subst hz9
    exact r_iret C hr dX10_tap_119
  refine r_tabD C (tgt := 120) [0, 1, 2, 3, 4, 5, 6, 7] (r_nc hc9 rfl (r_nc hc10 rfl (r_nc hc11 rfl (r_nc hc12 rfl (r_nc hc13 rfl (r_nc hc14 rfl (r_nc hc15 rfl (r_nc hc16 rfl r_nc0)))))))) dX10_tap_1 rfl (by decide) (by decide) ?_
  refine r_iconst C (v := -1) (by decide) dX10_tap_120 ?_
  have hz9 := Option.some.inj h
  subst hz9
  exact r_iret C hr dX10_tap_121
set_option maxHeartbeats 4000000 in
set_option maxRecDepth 100000 in
theorem c_X10_tap {l : Launch} {g : GG} {ad : Nat → Nat} {a0 : Int32} {I : HI} {J : HJ} {r : Int32} (h : f_X10_tap a0 I J = some r) : CM l yX10_tap cX10_tap 2 (some .int) (rmk 0 0) g ad nO oR [.ref (ad 0), .int a0] I J (QAi g ad nO oR r I J) :=
  CM_of (by decide +kernel) (Nat.le_of_ble_eq_true rfl) (fun p e s m args below meth c C hr => w_X10_tap C hr h)
set_option maxHeartbeats 4000000 in
set_option maxRecDepth 100000 in
theorem w_X10_water {l : Launch} {g : GG} {ad : Nat → Nat} {p : Program} {e : Env} {s : State} {m : MethodId} {args : Array Value} {below : List Frame} {meth : Method} {c : Code} {z : Int64} (C : Cx p s m args meth c RX10 cX10_water 1 g (AW ad nO)) (hr : meth.sig.returnType = (some .long)) {I : HI} {J : HJ} (h : f_X10_water I J = some z) : V p l e (rmk 0 0) s m args below meth c (MQ below (QAl g ad nO oR z I J) args s 0 0 (AW ad nO)) 1 0 0 g (AW ad nO) ad nO oR I J 0 [(0, .ref (ad 0))] [] := by
  unfold f_X10_water at h
  refine r_aload_n C 0 rfl rfl dX10_water_0 ?_
  refine gf_X10_10 C rf0 o_0 (q := 1) rfl dX10_water_1 ?_
  refine gf_X10_120 C o_1 dX10_water_4 ?_
  refine r_aload_n C 0 rfl rfl dX10_water_7 ?_
  refine gf_X10_10 C rf0 o_0 (q := 1) rfl dX10_water_8 ?_
  refine r_pc (pc1 := 11) rfl ?_
  refine gf_X10_124 C o_1 dX10_water_11 ?_
  refine r_lsub C dX10_water_14 ?_
  refine r_aload_n C 0 rfl rfl dX10_water_15 ?_
  refine gf_X10_10 C rf0 o_0 (q := 1) rfl dX10_water_16 ?_
  refine gf_X10_105 C o_1 dX10_water_19 ?_
  refine r_i2l C dX10_water_22 ?_
  refine r_pc (pc1 := 23) rfl ?_
  refine r_lsub C dX10_water_23 ?_
  refine r_aload_n C 0 rfl rfl dX10_water_24 ?_
  refine gf_X10_10 C rf0 o_0 (q := 1) rfl dX10_water_25 ?_
  refine gf_X10_127 C o_1 dX10_water_28 ?_
  refine r_i2l C dX10_water_31 ?_
  refine r_ladd C dX10_water_32 ?_
  refine r_pc (pc1 := 33) rfl ?_
  have hz9 := Option.some.inj h
  subst hz9
  exact r_lret C hr dX10_water_33
set_option maxHeartbeats 4000000 in
set_option maxRecDepth 100000 in
theorem c_X10_water {l : Launch} {g : GG} {ad : Nat → Nat} {I : HI} {J : HJ} {r : Int64} (h : f_X10_water I J = some r) : CM l yX10_water cX10_water 1 (some .long) (rmk 0 0) g ad nO oR [.ref (ad 0)] I J (QAl g ad nO oR r I J) :=
  CM_of (by decide +kernel) (Nat.le_of_ble_eq_true rfl) (fun p e s m args below meth c C hr => w_X10_water C hr h)
set_option maxHeartbeats 4000000 in
set_option maxRecDepth 100000 in
theorem w_X10_feed {l : Launch} {g : GG} {ad : Nat → Nat} {p : Program} {e : Env} {s : State} {m : MethodId} {args : Array Value} {below : List Frame} {meth : Method} {c : Code} {a0 : Int64} {a1 : Int32} {z : Int32 × HI} (C : Cx p s m args meth c RX10 cX10_feed 4 g (AW ad nO)) (hr : meth.sig.returnType = (some .int)) {I : HI} {J : HJ} (h : f_X10_feed a0 a1 I J = some z) : V p l e (rmk 1 24) s m args below meth c (MQ below (QAi g ad nO oR z.1 z.2 J) args s 0 0 (AW ad nO)) 4 0 0 g (AW ad nO) ad nO oR I J 0 [(0, .ref (ad 0)), (1, .long a0), (3, .int a1)] [] := by
  unfold f_X10_feed at h
  refine r_iload_n C 2 rfl rfl dX10_feed_0 ?_
  refine r_iconst C (v := 1) (by decide) dX10_feed_1 ?_
  refine r_bipush C (v := 8) (by decide) dX10_feed_2 ?_
  obtain ⟨r8, hq9, h⟩ := bd1_ h
  refine r_csi C (rest := []) (c_X10_isWithin  hq9) fm_X10_isWithin lk_X10_80 rfl ⟨rfl, rfl, Nat.le_of_ble_eq_true rfl, Nat.le_of_ble_eq_true rfl⟩ (Nat.le_of_ble_eq_true rfl) rfl dX10_feed_4 ?_
  refine r_if_ne C (tgt := 12) h dX10_feed_7 (by decide) (fun h => ?_) (fun h => ?_)
  · refine r_aload_n C 0 rfl rfl dX10_feed_12 ?_
    refine gf_X10_48 C rf0 o_0 (q := 59) rfl dX10_feed_13 ?_
    refine r_lload_n C 1 rfl rfl dX10_feed_16 ?_
    refine r_iload_n C 2 rfl rfl dX10_feed_17 ?_
    obtain ⟨r10, I11, hq12, h⟩ := bd2_ h
    refine r_cvi C (rest := []) (c_X8_takeBytes  hq12) fm_X8_takeBytes lk_X10_130 o_59 ⟨_, ct_7 o_59.1⟩ rfl rfl ⟨rfl, rfl, Nat.le_of_ble_eq_true rfl, Nat.le_of_ble_eq_true rfl⟩ (Nat.le_of_ble_eq_true rfl) rfl dX10_feed_18 ?_
    refine r_if_eq C (tgt := 34) h dX10_feed_21 (by decide) (fun h => ?_) (fun h => ?_)
    · refine r_bipush C (v := -2) (by decide) dX10_feed_34 ?_
      have hz9 := Option.some.inj h
      subst hz9
      exact r_iret C hr dX10_feed_36
    · refine r_aload_n C 0 rfl rfl dX10_feed_24 ?_
      refine gf_X10_48 C rf0 o_0 (q := 59) rfl dX10_feed_25 ?_
      obtain ⟨r13, hq14, h⟩ := bd1_ h
      refine r_cvi C (rest := []) (c_X8_size  hq14) fm_X8_size lk_X10_134 o_59 ⟨_, ct_7 o_59.1⟩ rfl rfl ⟨rfl, rfl, Nat.le_of_ble_eq_true rfl, Nat.le_of_ble_eq_true rfl⟩ (Nat.le_of_ble_eq_true rfl) rfl dX10_feed_28 ?_
      refine r_goto C (tgt := 36) dX10_feed_31 (by decide) ?_
      have hz9 := Option.some.inj h
      subst hz9
      exact r_iret C hr dX10_feed_36
  · refine r_iconst C (v := -1) (by decide) dX10_feed_10 ?_
    have hz9 := Option.some.inj h
    subst hz9
    exact r_iret C hr dX10_feed_11
set_option maxHeartbeats 4000000 in
set_option maxRecDepth 100000 in
theorem c_X10_feed {l : Launch} {g : GG} {ad : Nat → Nat} {a0 : Int64} {a1 : Int32} {I : HI} {J : HJ} {r : Int32} {I1 : HI} (h : f_X10_feed a0 a1 I J = some (r, I1)) : CM l yX10_feed cX10_feed 4 (some .int) (rmk 1 24) g ad nO oR [.ref (ad 0), .long a0, .int a1] I J (QAi g ad nO oR r I1 J) :=
  CM_of (by decide +kernel) (Nat.le_of_ble_eq_true rfl) (fun p e s m args below meth c C hr => w_X10_feed C hr h)
set_option maxHeartbeats 4000000 in
set_option maxRecDepth 100000 in
theorem w_X10_read {l : Launch} {g : GG} {ad : Nat → Nat} {p : Program} {e : Env} {s : State} {m : MethodId} {args : Array Value} {below : List Frame} {meth : Method} {c : Code} {z : Int32 × HI} (C : Cx p s m args meth c RX10 cX10_read 3 g (AW ad nO)) (hr : meth.sig.returnType = (some .int)) {I : HI} {J : HJ} (h : f_X10_read I J = some z) : V p l e (rmk 49 1863) s m args below meth c (MQ below (QAi g ad nO oR z.1 z.2 J) args s 0 0 (AW ad nO)) 3 0 0 g (AW ad nO) ad nO oR I J 0 [(0, .ref (ad 0))] [] := by
  unfold f_X10_read at h
  refine r_aload_n C 0 rfl rfl dX10_read_0 ?_
  refine gf_X10_48 C rf0 o_0 (q := 59) rfl dX10_read_1 ?_
  obtain ⟨r12, I13, hq14, h⟩ := bd2_ h
  refine r_cvi C (rest := []) (c_X8_tellsLaws  hq14) fm_X8_tellsLaws lk_X10_138 o_59 ⟨_, ct_7 o_59.1⟩ rfl rfl ⟨rfl, rfl, Nat.le_of_ble_eq_true rfl, Nat.le_of_ble_eq_true rfl⟩ (Nat.le_of_ble_eq_true rfl) rfl dX10_read_4 ?_
  refine r_istore_n C (lv1 := [(1, .int r12), (0, .ref (ad 0))]) rfl (by decide) rfl dX10_read_7 ?_
  refine r_aload_n C 1 rfl rfl dX10_read_8 ?_
  refine gf_X10_48 C rf0 o_0 (q := 59) rfl dX10_read_9 ?_
  obtain ⟨r15, hq16, h⟩ := bd1_ h
  refine r_cvi C (rest := []) (c_X8_faultPlace  hq16) fm_X8_faultPlace lk_X10_142 o_59 ⟨_, ct_7 o_59.1⟩ rfl rfl ⟨rfl, rfl, Nat.le_of_ble_eq_true rfl, Nat.le_of_ble_eq_true rfl⟩ (Nat.le_of_ble_eq_true rfl) rfl dX10_read_12 ?_
  refine r_istore_n C (lv1 := [(2, .int r15), (1, .int r12), (0, .ref (ad 0))]) rfl (by decide) rfl dX10_read_15 ?_
  refine r_aload_n C 2 rfl rfl dX10_read_16 ?_
  refine gf_X10_48 C rf0 o_0 (q := 59) rfl dX10_read_17 ?_
  obtain ⟨I17, hq18, h⟩ := bd1_ h
  refine r_cvv C (rest := []) (c_X8_useUp  hq18) fm_X8_useUp lk_X10_145 o_59 ⟨_, ct_7 o_59.1⟩ rfl rfl ⟨rfl, rfl, Nat.le_of_ble_eq_true rfl, Nat.le_of_ble_eq_true rfl⟩ (Nat.le_of_ble_eq_true rfl) rfl dX10_read_20 ?_
  refine r_iload_n C 1 rfl rfl dX10_read_23 ?_
  refine r_if_ne C (tgt := 32) h dX10_read_24 (by decide) (fun h => ?_) (fun h => ?_)
  · refine r_aload_n C 2 rfl rfl dX10_read_32 ?_
    refine gf_X10_19 C rf0 o_0 (q := 4) rfl dX10_read_33 ?_
    refine r_aload_n C 2 rfl rfl dX10_read_36 ?_
    refine gf_X10_48 C rf0 o_0 (q := 59) rfl dX10_read_37 ?_
    refine gf_X10_148 C rf0 o_59 (q := 60) rfl dX10_read_40 ?_
    refine r_pc (pc1 := 43) rfl ?_
    obtain ⟨I19, hq20, h⟩ := bd1_ h
    refine r_cvv C (rest := []) (c_X2_becomeLike o_4 o_60 hq20) fm_X2_becomeLike lk_X10_151 o_4 ⟨_, ct_1 o_4.1⟩ rfl rfl ⟨rfl, rfl, Nat.le_of_ble_eq_true rfl, Nat.le_of_ble_eq_true rfl⟩ (Nat.le_of_ble_eq_true rfl) rfl dX10_read_43 ?_
    refine r_aload_n C 2 rfl rfl dX10_read_46 ?_
    refine gf_X10_19 C rf0 o_0 (q := 4) rfl dX10_read_47 ?_
    obtain ⟨r21, hq22, h⟩ := bd1_ h
    refine r_cvi C (rest := []) (c_X2_howManyTold o_4 hq22) fm_X2_howManyTold lk_X10_155 o_4 ⟨_, ct_1 o_4.1⟩ rfl rfl ⟨rfl, rfl, Nat.le_of_ble_eq_true rfl, Nat.le_of_ble_eq_true rfl⟩ (Nat.le_of_ble_eq_true rfl) rfl dX10_read_50 ?_
    have hz9 := Option.some.inj h
    subst hz9
    exact r_iret C hr dX10_read_53
  · refine r_bipush C (v := -100) (by decide) dX10_read_27 ?_
    refine r_iload_n C 0 rfl rfl dX10_read_29 ?_
    refine r_isub C dX10_read_30 ?_
    have hz9 := Option.some.inj h
    subst hz9
    exact r_iret C hr dX10_read_31
set_option maxHeartbeats 4000000 in
set_option maxRecDepth 100000 in
theorem c_X10_read {l : Launch} {g : GG} {ad : Nat → Nat} {I : HI} {J : HJ} {r : Int32} {I1 : HI} (h : f_X10_read I J = some (r, I1)) : CM l yX10_read cX10_read 3 (some .int) (rmk 49 1863) g ad nO oR [.ref (ad 0)] I J (QAi g ad nO oR r I1 J) :=
  CM_of (by decide +kernel) (Nat.le_of_ble_eq_true rfl) (fun p e s m args below meth c C hr => w_X10_read C hr h)
set_option maxHeartbeats 4000000 in
set_option maxRecDepth 100000 in
theorem w_X10_says {l : Launch} {g : GG} {ad : Nat → Nat} {p : Program} {e : Env} {s : State} {m : MethodId} {args : Array Value} {below : List Frame} {meth : Method} {c : Code} {a0 : Int32} {z : Int32 × HI} (C : Cx p s m args meth c RX10 cX10_says 2 g (AW ad nO)) (hr : meth.sig.returnType = (some .int)) {I : HI} {J : HJ} (h : f_X10_says a0 I J = some z) : V p l e (rmk 3 69) s m args below meth c (MQ below (QAi g ad nO oR z.1 z.2 J) args s 0 0 (AW ad nO)) 2 0 0 g (AW ad nO) ad nO oR I J 0 [(0, .ref (ad 0)), (1, .int a0)] [] := by
  unfold f_X10_says at h
  refine r_aload_n C 0 rfl rfl dX10_says_0 ?_
  refine gf_X10_19 C rf0 o_0 (q := 4) rfl dX10_says_1 ?_
  refine r_iload_n C 1 rfl rfl dX10_says_4 ?_
  refine r_aload_n C 0 rfl rfl dX10_says_5 ?_
  refine gf_X10_10 C rf0 o_0 (q := 1) rfl dX10_says_6 ?_
  refine r_pc (pc1 := 9) rfl ?_
  obtain ⟨r4, I5, hq6, h⟩ := bd2_ h
  refine r_cvi C (rest := []) (c_X2_worth o_4 o_1 hq6) fm_X2_worth lk_X10_158 o_4 ⟨_, ct_1 o_4.1⟩ rfl rfl ⟨rfl, rfl, Nat.le_of_ble_eq_true rfl, Nat.le_of_ble_eq_true rfl⟩ (Nat.le_of_ble_eq_true rfl) rfl dX10_says_9 ?_
  have hz9 := Option.some.inj h
  subst hz9
  exact r_iret C hr dX10_says_12
set_option maxHeartbeats 4000000 in
set_option maxRecDepth 100000 in
theorem c_X10_says {l : Launch} {g : GG} {ad : Nat → Nat} {a0 : Int32} {I : HI} {J : HJ} {r : Int32} {I1 : HI} (h : f_X10_says a0 I J = some (r, I1)) : CM l yX10_says cX10_says 2 (some .int) (rmk 3 69) g ad nO oR [.ref (ad 0), .int a0] I J (QAi g ad nO oR r I1 J) :=
  CM_of (by decide +kernel) (Nat.le_of_ble_eq_true rfl) (fun p e s m args below meth c C hr => w_X10_says C hr h)
set_option maxHeartbeats 4000000 in
set_option maxRecDepth 100000 in
theorem w_X10_tell {l : Launch} {g : GG} {ad : Nat → Nat} {p : Program} {e : Env} {s : State} {m : MethodId} {args : Array Value} {below : List Frame} {meth : Method} {c : Code} {a0 : Int32} {z : Int32 × HI} (C : Cx p s m args meth c RX10 cX10_tell 2 g (AW ad nO)) (hr : meth.sig.returnType = (some .int)) {I : HI} {J : HJ} (h : f_X10_tell a0 I J = some z) : V p l e (rmk 2 41) s m args below meth c (MQ below (QAi g ad nO oR z.1 z.2 J) args s 0 0 (AW ad nO)) 2 0 0 g (AW ad nO) ad nO oR I J 0 [(0, .ref (ad 0)), (1, .int a0)] [] := by
  unfold f_X10_tell at h
  refine r_iload_n C 1 rfl rfl dX10_tell_0 ?_
  refine r_iconst C (v := 1) (by decide) dX10_tell_1 ?_
  refine r_sipush C (v := 9999) (by decide) dX10_tell_2 ?_
  obtain ⟨r8, hq9, h⟩ := bd1_ h
  refine r_csi C (rest := []) (c_X10_isWithin  hq9) fm_X10_isWithin lk_X10_80 rfl ⟨rfl, rfl, Nat.le_of_ble_eq_true rfl, Nat.le_of_ble_eq_true rfl⟩ (Nat.le_of_ble_eq_true rfl) rfl dX10_tell_5 ?_
  refine r_if_ne C (tgt := 13) h dX10_tell_8 (by decide) (fun h => ?_) (fun h => ?_)
  · refine r_aload_n C 0 rfl rfl dX10_tell_13 ?_
    refine gf_X10_10 C rf0 o_0 (q := 1) rfl dX10_tell_14 ?_
    refine gf_X10_162 C rf0 o_1 (q := 2) rfl dX10_tell_17 ?_
    refine r_iload_n C 1 rfl rfl dX10_tell_20 ?_
    obtain ⟨r10, I11, hq12, h⟩ := bd2_ h
    refine r_cvi C (rest := []) (c_X9_add o_2 hq12) fm_X9_add lk_X10_166 o_2 ⟨_, ct_8 o_2.1⟩ rfl rfl ⟨rfl, rfl, Nat.le_of_ble_eq_true rfl, Nat.le_of_ble_eq_true rfl⟩ (Nat.le_of_ble_eq_true rfl) rfl dX10_tell_21 ?_
    refine r_if_eq C (tgt := 40) h dX10_tell_24 (by decide) (fun h => ?_) (fun h => ?_)
    · refine r_bipush C (v := -2) (by decide) dX10_tell_40 ?_
      have hz9 := Option.some.inj h
      subst hz9
      exact r_iret C hr dX10_tell_42
    · refine r_aload_n C 0 rfl rfl dX10_tell_27 ?_
      refine gf_X10_10 C rf0 o_0 (q := 1) rfl dX10_tell_28 ?_
      refine gf_X10_162 C rf0 o_1 (q := 2) rfl dX10_tell_31 ?_
      obtain ⟨r13, hq14, h⟩ := bd1_ h
      refine r_cvi C (rest := []) (c_X9_size o_2 hq14) fm_X9_size lk_X10_172 o_2 ⟨_, ct_8 o_2.1⟩ rfl rfl ⟨rfl, rfl, Nat.le_of_ble_eq_true rfl, Nat.le_of_ble_eq_true rfl⟩ (Nat.le_of_ble_eq_true rfl) rfl dX10_tell_34 ?_
      refine r_goto C (tgt := 42) dX10_tell_37 (by decide) ?_
      have hz9 := Option.some.inj h
      subst hz9
      exact r_iret C hr dX10_tell_42
  · refine r_iconst C (v := -1) (by decide) dX10_tell_11 ?_
    have hz9 := Option.some.inj h
    subst hz9
    exact r_iret C hr dX10_tell_12
set_option maxHeartbeats 4000000 in
set_option maxRecDepth 100000 in
theorem c_X10_tell {l : Launch} {g : GG} {ad : Nat → Nat} {a0 : Int32} {I : HI} {J : HJ} {r : Int32} {I1 : HI} (h : f_X10_tell a0 I J = some (r, I1)) : CM l yX10_tell cX10_tell 2 (some .int) (rmk 2 41) g ad nO oR [.ref (ad 0), .int a0] I J (QAi g ad nO oR r I1 J) :=
  CM_of (by decide +kernel) (Nat.le_of_ble_eq_true rfl) (fun p e s m args below meth c C hr => w_X10_tell C hr h)
set_option maxHeartbeats 4000000 in
set_option maxRecDepth 100000 in
theorem w_X10_clear {l : Launch} {g : GG} {ad : Nat → Nat} {p : Program} {e : Env} {s : State} {m : MethodId} {args : Array Value} {below : List Frame} {meth : Method} {c : Code} {z : Int32 × HI} (C : Cx p s m args meth c RX10 cX10_clear 2 g (AW ad nO)) (hr : meth.sig.returnType = (some .int)) {I : HI} {J : HJ} (h : f_X10_clear I J = some z) : V p l e (rmk 1 20) s m args below meth c (MQ below (QAi g ad nO oR z.1 z.2 J) args s 0 0 (AW ad nO)) 2 0 0 g (AW ad nO) ad nO oR I J 0 [(0, .ref (ad 0))] [] := by
  unfold f_X10_clear at h
  refine r_aload_n C 0 rfl rfl dX10_clear_0 ?_
  refine gf_X10_10 C rf0 o_0 (q := 1) rfl dX10_clear_1 ?_
  refine gf_X10_162 C rf0 o_1 (q := 2) rfl dX10_clear_4 ?_
  obtain ⟨r5, hq6, h⟩ := bd1_ h
  refine r_cvi C (rest := []) (c_X9_size o_2 hq6) fm_X9_size lk_X10_172 o_2 ⟨_, ct_8 o_2.1⟩ rfl rfl ⟨rfl, rfl, Nat.le_of_ble_eq_true rfl, Nat.le_of_ble_eq_true rfl⟩ (Nat.le_of_ble_eq_true rfl) rfl dX10_clear_7 ?_
  refine r_istore_n C (lv1 := [(1, .int r5), (0, .ref (ad 0))]) rfl (by decide) rfl dX10_clear_10 ?_
  refine r_aload_n C 1 rfl rfl dX10_clear_11 ?_
  refine gf_X10_10 C rf0 o_0 (q := 1) rfl dX10_clear_12 ?_
  refine gf_X10_162 C rf0 o_1 (q := 2) rfl dX10_clear_15 ?_
  obtain ⟨I7, hq8, h⟩ := bd1_ h
  refine r_cvv C (rest := []) (c_X9_becomeEmpty o_2 hq8) fm_X9_becomeEmpty lk_X10_173 o_2 ⟨_, ct_8 o_2.1⟩ rfl rfl ⟨rfl, rfl, Nat.le_of_ble_eq_true rfl, Nat.le_of_ble_eq_true rfl⟩ (Nat.le_of_ble_eq_true rfl) rfl dX10_clear_18 ?_
  refine r_iload_n C 0 rfl rfl dX10_clear_21 ?_
  have hz9 := Option.some.inj h
  subst hz9
  exact r_iret C hr dX10_clear_22
set_option maxHeartbeats 4000000 in
set_option maxRecDepth 100000 in
theorem c_X10_clear {l : Launch} {g : GG} {ad : Nat → Nat} {I : HI} {J : HJ} {r : Int32} {I1 : HI} (h : f_X10_clear I J = some (r, I1)) : CM l yX10_clear cX10_clear 2 (some .int) (rmk 1 20) g ad nO oR [.ref (ad 0)] I J (QAi g ad nO oR r I1 J) :=
  CM_of (by decide +kernel) (Nat.le_of_ble_eq_true rfl) (fun p e s m args below meth c C hr => w_X10_clear C hr h)
set_option maxHeartbeats 4000000 in
set_option maxRecDepth 100000 in
theorem w_X10_time {l : Launch} {g : GG} {ad : Nat → Nat} {p : Program} {e : Env} {s : State} {m : MethodId} {args : Array Value} {below : List Frame} {meth : Method} {c : Code} {a0 : Int32} {z : Int32} (C : Cx p s m args meth c RX10 cX10_time 2 g (AW ad nO)) (hr : meth.sig.returnType = (some .int)) {I : HI} {J : HJ} (h : f_X10_time a0 I J = some z) : V p l e (rmk 2 42) s m args below meth c (MQ below (QAi g ad nO oR z I J) args s 0 0 (AW ad nO)) 2 0 0 g (AW ad nO) ad nO oR I J 0 [(0, .ref (ad 0)), (1, .int a0)] [] := by
  unfold f_X10_time at h
  refine r_aload_n C 0 rfl rfl dX10_time_0 ?_
  refine gf_X10_10 C rf0 o_0 (q := 1) rfl dX10_time_1 ?_
  refine gf_X10_162 C rf0 o_1 (q := 2) rfl dX10_time_4 ?_
  refine r_iload_n C 1 rfl rfl dX10_time_7 ?_
  obtain ⟨r5, hq6, h⟩ := bd1_ h
  refine r_cvi C (rest := []) (c_X9_has o_2 hq6) fm_X9_has lk_X10_176 o_2 ⟨_, ct_8 o_2.1⟩ rfl rfl ⟨rfl, rfl, Nat.le_of_ble_eq_true rfl, Nat.le_of_ble_eq_true rfl⟩ (Nat.le_of_ble_eq_true rfl) rfl dX10_time_8 ?_
  refine r_if_eq C (tgt := 28) h dX10_time_11 (by decide) (fun h => ?_) (fun h => ?_)
  · refine r_bipush C (v := -3) (by decide) dX10_time_28 ?_
    have hz9 := Option.some.inj h
    subst hz9
    exact r_iret C hr dX10_time_30
  · refine r_aload_n C 0 rfl rfl dX10_time_14 ?_
    refine gf_X10_10 C rf0 o_0 (q := 1) rfl dX10_time_15 ?_
    refine gf_X10_162 C rf0 o_1 (q := 2) rfl dX10_time_18 ?_
    refine r_iload_n C 1 rfl rfl dX10_time_21 ?_
    obtain ⟨r7, hq8, h⟩ := bd1_ h
    refine r_cvi C (rest := []) (c_X9_at o_2 hq8) fm_X9_at lk_X10_179 o_2 ⟨_, ct_8 o_2.1⟩ rfl rfl ⟨rfl, rfl, Nat.le_of_ble_eq_true rfl, Nat.le_of_ble_eq_true rfl⟩ (Nat.le_of_ble_eq_true rfl) rfl dX10_time_22 ?_
    refine r_goto C (tgt := 30) dX10_time_25 (by decide) ?_
    have hz9 := Option.some.inj h
    subst hz9
    exact r_iret C hr dX10_time_30
set_option maxHeartbeats 4000000 in
set_option maxRecDepth 100000 in
theorem c_X10_time {l : Launch} {g : GG} {ad : Nat → Nat} {a0 : Int32} {I : HI} {J : HJ} {r : Int32} (h : f_X10_time a0 I J = some r) : CM l yX10_time cX10_time 2 (some .int) (rmk 2 42) g ad nO oR [.ref (ad 0), .int a0] I J (QAi g ad nO oR r I J) :=
  CM_of (by decide +kernel) (Nat.le_of_ble_eq_true rfl) (fun p e s m args below meth c C hr => w_X10_time C hr h)
set_option maxHeartbeats 4000000 in
set_option maxRecDepth 100000 in
theorem w_X10_period {l : Launch} {g : GG} {ad : Nat → Nat} {p : Program} {e : Env} {s : State} {m : MethodId} {args : Array Value} {below : List Frame} {meth : Method} {c : Code} {z : Int32} (C : Cx p s m args meth c RX10 cX10_period 1 g (AW ad nO)) (hr : meth.sig.returnType = (some .int)) {I : HI} {J : HJ} (h : f_X10_period I J = some z) : V p l e (rmk 4 87) s m args below meth c (MQ below (QAi g ad nO oR z I J) args s 0 0 (AW ad nO)) 1 0 0 g (AW ad nO) ad nO oR I J 0 [(0, .ref (ad 0))] [] := by
  unfold f_X10_period at h
  refine r_aload_n C 0 rfl rfl dX10_period_0 ?_
  refine gf_X10_10 C rf0 o_0 (q := 1) rfl dX10_period_1 ?_
  refine gf_X10_162 C rf0 o_1 (q := 2) rfl dX10_period_4 ?_
  obtain ⟨r3, hq4, h⟩ := bd1_ h
  refine r_cvi C (rest := []) (c_X9_findPeriod o_2 hq4) fm_X9_findPeriod lk_X10_183 o_2 ⟨_, ct_8 o_2.1⟩ rfl rfl ⟨rfl, rfl, Nat.le_of_ble_eq_true rfl, Nat.le_of_ble_eq_true rfl⟩ (Nat.le_of_ble_eq_true rfl) rfl dX10_period_7 ?_
  have hz9 := Option.some.inj h
  subst hz9
  exact r_iret C hr dX10_period_10
set_option maxHeartbeats 4000000 in
set_option maxRecDepth 100000 in
theorem c_X10_period {l : Launch} {g : GG} {ad : Nat → Nat} {I : HI} {J : HJ} {r : Int32} (h : f_X10_period I J = some r) : CM l yX10_period cX10_period 1 (some .int) (rmk 4 87) g ad nO oR [.ref (ad 0)] I J (QAi g ad nO oR r I J) :=
  CM_of (by decide +kernel) (Nat.le_of_ble_eq_true rfl) (fun p e s m args below meth c C hr => w_X10_period C hr h)
set_option maxHeartbeats 4000000 in
set_option maxRecDepth 100000 in
theorem w_X10_kind {l : Launch} {g : GG} {ad : Nat → Nat} {p : Program} {e : Env} {s : State} {m : MethodId} {args : Array Value} {below : List Frame} {meth : Method} {c : Code} {z : Int32} (C : Cx p s m args meth c RX10 cX10_kind 1 g (AW ad nO)) (hr : meth.sig.returnType = (some .int)) {I : HI} {J : HJ} (h : f_X10_kind I J = some z) : V p l e (rmk 5 107) s m args below meth c (MQ below (QAi g ad nO oR z I J) args s 0 0 (AW ad nO)) 1 0 0 g (AW ad nO) ad nO oR I J 0 [(0, .ref (ad 0))] [] := by
  unfold f_X10_kind at h
  refine r_aload_n C 0 rfl rfl dX10_kind_0 ?_
  refine gf_X10_10 C rf0 o_0 (q := 1) rfl dX10_kind_1 ?_
  refine gf_X10_162 C rf0 o_1 (q := 2) rfl dX10_kind_4 ?_
  obtain ⟨r3, hq4, h⟩ := bd1_ h
  refine r_cvi C (rest := []) (c_X9_findKind o_2 hq4) fm_X9_findKind lk_X10_186 o_2 ⟨_, ct_8 o_2.1⟩ rfl rfl ⟨rfl, rfl, Nat.le_of_ble_eq_true rfl, Nat.le_of_ble_eq_true rfl⟩ (Nat.le_of_ble_eq_true rfl) rfl dX10_kind_7 ?_
  have hz9 := Option.some.inj h
  subst hz9
  exact r_iret C hr dX10_kind_10
set_option maxHeartbeats 4000000 in
set_option maxRecDepth 100000 in
theorem c_X10_kind {l : Launch} {g : GG} {ad : Nat → Nat} {I : HI} {J : HJ} {r : Int32} (h : f_X10_kind I J = some r) : CM l yX10_kind cX10_kind 1 (some .int) (rmk 5 107) g ad nO oR [.ref (ad 0)] I J (QAi g ad nO oR r I J) :=
  CM_of (by decide +kernel) (Nat.le_of_ble_eq_true rfl) (fun p e s m args below meth c C hr => w_X10_kind C hr h)
set_option maxHeartbeats 4000000 in
set_option maxRecDepth 100000 in
theorem w_X10_order {l : Launch} {g : GG} {ad : Nat → Nat} {p : Program} {e : Env} {s : State} {m : MethodId} {args : Array Value} {below : List Frame} {meth : Method} {c : Code} {z : Int32} (C : Cx p s m args meth c RX10 cX10_order 1 g (AW ad nO)) (hr : meth.sig.returnType = (some .int)) {I : HI} {J : HJ} (h : f_X10_order I J = some z) : V p l e (rmk 5 110) s m args below meth c (MQ below (QAi g ad nO oR z I J) args s 0 0 (AW ad nO)) 1 0 0 g (AW ad nO) ad nO oR I J 0 [(0, .ref (ad 0))] [] := by
  unfold f_X10_order at h
  refine r_aload_n C 0 rfl rfl dX10_order_0 ?_
  refine gf_X10_10 C rf0 o_0 (q := 1) rfl dX10_order_1 ?_
  refine gf_X10_162 C rf0 o_1 (q := 2) rfl dX10_order_4 ?_
  obtain ⟨r3, hq4, h⟩ := bd1_ h
  refine r_cvi C (rest := []) (c_X9_findOrder o_2 hq4) fm_X9_findOrder lk_X10_189 o_2 ⟨_, ct_8 o_2.1⟩ rfl rfl ⟨rfl, rfl, Nat.le_of_ble_eq_true rfl, Nat.le_of_ble_eq_true rfl⟩ (Nat.le_of_ble_eq_true rfl) rfl dX10_order_7 ?_
  have hz9 := Option.some.inj h
  subst hz9
  exact r_iret C hr dX10_order_10
set_option maxHeartbeats 4000000 in
set_option maxRecDepth 100000 in
theorem c_X10_order {l : Launch} {g : GG} {ad : Nat → Nat} {I : HI} {J : HJ} {r : Int32} (h : f_X10_order I J = some r) : CM l yX10_order cX10_order 1 (some .int) (rmk 5 110) g ad nO oR [.ref (ad 0)] I J (QAi g ad nO oR r I J) :=
  CM_of (by decide +kernel) (Nat.le_of_ble_eq_true rfl) (fun p e s m args below meth c C hr => w_X10_order C hr h)
set_option maxHeartbeats 4000000 in
set_option maxRecDepth 100000 in
theorem w_X10_hits {l : Launch} {g : GG} {ad : Nat → Nat} {p : Program} {e : Env} {s : State} {m : MethodId} {args : Array Value} {below : List Frame} {meth : Method} {c : Code} {a0 : Int32} {a1 : Int32} {z : Int32} (C : Cx p s m args meth c RX10 cX10_hits 3 g (AW ad nO)) (hr : meth.sig.returnType = (some .int)) {I : HI} {J : HJ} (h : f_X10_hits a0 a1 I J = some z) : V p l e (rmk 7 222) s m args below meth c (MQ below (QAi g ad nO oR z I J) args s 0 0 (AW ad nO)) 3 0 0 g (AW ad nO) ad nO oR I J 0 [(0, .ref (ad 0)), (1, .int a0), (2, .int a1)] [] := by
  unfold f_X10_hits at h
  refine r_iload_n C 1 rfl rfl dX10_hits_0 ?_
  refine r_iconst C (v := 1) (by decide) dX10_hits_1 ?_
  refine r_bipush C (v := 9) (by decide) dX10_hits_2 ?_
  obtain ⟨r7, hq8, h⟩ := bd1_ h
  refine r_csi C (rest := []) (c_X10_isWithin  hq8) fm_X10_isWithin lk_X10_80 rfl ⟨rfl, rfl, Nat.le_of_ble_eq_true rfl, Nat.le_of_ble_eq_true rfl⟩ (Nat.le_of_ble_eq_true rfl) rfl dX10_hits_4 ?_
  refine r_if_eq C (tgt := 21) h dX10_hits_7 (by decide) (fun h => ?_) (fun h => ?_)
  · refine r_iconst C (v := -1) (by decide) dX10_hits_21 ?_
    have hz9 := Option.some.inj h
    subst hz9
    exact r_iret C hr dX10_hits_22
  · refine r_iload_n C 2 rfl rfl dX10_hits_10 ?_
    refine r_iconst C (v := 0) (by decide) dX10_hits_11 ?_
    refine r_sipush C (v := 9999) (by decide) dX10_hits_12 ?_
    obtain ⟨r9, hq10, h⟩ := bd1_ h
    refine r_csi C (rest := []) (c_X10_isWithin  hq10) fm_X10_isWithin lk_X10_80 rfl ⟨rfl, rfl, Nat.le_of_ble_eq_true rfl, Nat.le_of_ble_eq_true rfl⟩ (Nat.le_of_ble_eq_true rfl) rfl dX10_hits_15 ?_
    refine r_if_ne C (tgt := 23) h dX10_hits_18 (by decide) (fun h => ?_) (fun h => ?_)
    · refine r_aload_n C 0 rfl rfl dX10_hits_23 ?_
      refine gf_X10_10 C rf0 o_0 (q := 1) rfl dX10_hits_24 ?_
      refine gf_X10_162 C rf0 o_1 (q := 2) rfl dX10_hits_27 ?_
      refine r_iload_n C 1 rfl rfl dX10_hits_30 ?_
      refine r_iload_n C 2 rfl rfl dX10_hits_31 ?_
      refine r_pc (pc1 := 32) rfl ?_
      obtain ⟨r11, hq12, h⟩ := bd1_ h
      refine r_cvi C (rest := []) (c_X9_countHits o_2 hq12) fm_X9_countHits lk_X10_192 o_2 ⟨_, ct_8 o_2.1⟩ rfl rfl ⟨rfl, rfl, Nat.le_of_ble_eq_true rfl, Nat.le_of_ble_eq_true rfl⟩ (Nat.le_of_ble_eq_true rfl) rfl dX10_hits_32 ?_
      have hz9 := Option.some.inj h
      subst hz9
      exact r_iret C hr dX10_hits_35
    · refine r_iconst C (v := -1) (by decide) dX10_hits_21 ?_
      have hz9 := Option.some.inj h
      subst hz9
      exact r_iret C hr dX10_hits_22
set_option maxHeartbeats 4000000 in
set_option maxRecDepth 100000 in
theorem c_X10_hits {l : Launch} {g : GG} {ad : Nat → Nat} {a0 : Int32} {a1 : Int32} {I : HI} {J : HJ} {r : Int32} (h : f_X10_hits a0 a1 I J = some r) : CM l yX10_hits cX10_hits 3 (some .int) (rmk 7 222) g ad nO oR [.ref (ad 0), .int a0, .int a1] I J (QAi g ad nO oR r I J) :=
  CM_of (by decide +kernel) (Nat.le_of_ble_eq_true rfl) (fun p e s m args below meth c C hr => w_X10_hits C hr h)
set_option maxHeartbeats 4000000 in
set_option maxRecDepth 100000 in
theorem w_X10_ahead {l : Launch} {g : GG} {ad : Nat → Nat} {p : Program} {e : Env} {s : State} {m : MethodId} {args : Array Value} {below : List Frame} {meth : Method} {c : Code} {a0 : Int32} {z : Int32} (C : Cx p s m args meth c RX10 cX10_ahead 3 g (AW ad nO)) (hr : meth.sig.returnType = (some .int)) {I : HI} {J : HJ} (h : f_X10_ahead a0 I J = some z) : V p l e (rmk 6 198) s m args below meth c (MQ below (QAi g ad nO oR z I J) args s 0 0 (AW ad nO)) 3 0 0 g (AW ad nO) ad nO oR I J 0 [(0, .ref (ad 0)), (1, .int a0)] [] := by
  unfold f_X10_ahead at h
  refine r_iload_n C 1 rfl rfl dX10_ahead_0 ?_
  refine r_iconst C (v := 1) (by decide) dX10_ahead_1 ?_
  refine r_bipush C (v := 9) (by decide) dX10_ahead_2 ?_
  obtain ⟨r7, hq8, h⟩ := bd1_ h
  refine r_csi C (rest := []) (c_X10_isWithin  hq8) fm_X10_isWithin lk_X10_80 rfl ⟨rfl, rfl, Nat.le_of_ble_eq_true rfl, Nat.le_of_ble_eq_true rfl⟩ (Nat.le_of_ble_eq_true rfl) rfl dX10_ahead_4 ?_
  refine r_if_ne C (tgt := 12) h dX10_ahead_7 (by decide) (fun h => ?_) (fun h => ?_)
  · refine r_aload_n C 0 rfl rfl dX10_ahead_12 ?_
    refine gf_X10_10 C rf0 o_0 (q := 1) rfl dX10_ahead_13 ?_
    refine gf_X10_162 C rf0 o_1 (q := 2) rfl dX10_ahead_16 ?_
    obtain ⟨r9, hq10, h⟩ := bd1_ h
    refine r_cvi C (rest := []) (c_X9_size o_2 hq10) fm_X9_size lk_X10_172 o_2 ⟨_, ct_8 o_2.1⟩ rfl rfl ⟨rfl, rfl, Nat.le_of_ble_eq_true rfl, Nat.le_of_ble_eq_true rfl⟩ (Nat.le_of_ble_eq_true rfl) rfl dX10_ahead_19 ?_
    refine r_istore_n C (lv1 := [(2, .int r9), (0, .ref (ad 0)), (1, .int a0)]) rfl (by decide) rfl dX10_ahead_22 ?_
    refine r_iload_n C 0 rfl rfl dX10_ahead_23 ?_
    refine r_iconst C (v := 2) (by decide) dX10_ahead_24 ?_
    refine r_icmp_ge C (tgt := 33) h dX10_ahead_25 (by decide) (fun h => ?_) (fun h => ?_)
    · refine r_aload_n C 1 rfl rfl dX10_ahead_33 ?_
      refine gf_X10_10 C rf0 o_0 (q := 1) rfl dX10_ahead_34 ?_
      refine gf_X10_162 C rf0 o_1 (q := 2) rfl dX10_ahead_37 ?_
      refine r_iload_n C 0 rfl rfl dX10_ahead_40 ?_
      refine r_iconst C (v := 1) (by decide) dX10_ahead_41 ?_
      refine r_pc (pc1 := 42) rfl ?_
      refine r_isub C dX10_ahead_42 ?_
      refine r_iload_n C 2 rfl rfl dX10_ahead_43 ?_
      obtain ⟨r11, hq12, h⟩ := bd1_ h
      refine r_cvi C (rest := []) (c_X9_toldAhead o_2 hq12) fm_X9_toldAhead lk_X10_196 o_2 ⟨_, ct_8 o_2.1⟩ rfl rfl ⟨rfl, rfl, Nat.le_of_ble_eq_true rfl, Nat.le_of_ble_eq_true rfl⟩ (Nat.le_of_ble_eq_true rfl) rfl dX10_ahead_44 ?_
      have hz9 := Option.some.inj h
      subst hz9
      exact r_iret C hr dX10_ahead_47
    · refine r_bipush C (v := -3) (by decide) dX10_ahead_28 ?_
      refine r_goto C (tgt := 47) dX10_ahead_30 (by decide) ?_
      have hz9 := Option.some.inj h
      subst hz9
      exact r_iret C hr dX10_ahead_47
  · refine r_iconst C (v := -1) (by decide) dX10_ahead_10 ?_
    have hz9 := Option.some.inj h
    subst hz9
    exact r_iret C hr dX10_ahead_11
set_option maxHeartbeats 4000000 in
set_option maxRecDepth 100000 in
theorem c_X10_ahead {l : Launch} {g : GG} {ad : Nat → Nat} {a0 : Int32} {I : HI} {J : HJ} {r : Int32} (h : f_X10_ahead a0 I J = some r) : CM l yX10_ahead cX10_ahead 3 (some .int) (rmk 6 198) g ad nO oR [.ref (ad 0), .int a0] I J (QAi g ad nO oR r I J) :=
  CM_of (by decide +kernel) (Nat.le_of_ble_eq_true rfl) (fun p e s m args below meth c C hr => w_X10_ahead C hr h)
set_option maxHeartbeats 4000000 in
set_option maxRecDepth 100000 in
theorem wLB_X10_commonMeasure_7 {l : Launch} {g : GG} {ad : Nat → Nat} {p : Program} {e : Env} {s : State} {m : MethodId} {args : Array Value} {below : List Frame} {meth : Method} {c : Code} {a0 : Int32} {a1 : Int32} {z : Int32} (C : Cx p s m args meth c RX10 cX10_commonMeasure 6 g (AW ad nO)) (hr : meth.sig.returnType = (some .int)) {I : HI} {J : HJ}  {r_7 : Int32 → Int32 → Int32 → Option (Int32)} (hr_7 : ∀ {x2 : Int32} {x3 : Int32} {x4 : Int32}, r_7 x2 x3 x4 = some z → V p l e (rmk 0 0) s m args below meth c (MQ below (QAi g ad nO oR z I J) args s 0 0 (AW ad nO)) 6 0 0 g (AW ad nO) ad nO oR I J 7 [(2, .int x2), (3, .int x3), (4, .int x4)] []) {x2 : Int32} {x3 : Int32} {x4 : Int32} (h : fLB_X10_commonMeasure_7 a0 a1 r_7 x2 x3 x4 = some z) : V p l e (rmk 0 0) s m args below meth c (MQ below (QAi g ad nO oR z I J) args s 0 0 (AW ad nO)) 6 0 0 g (AW ad nO) ad nO oR I J 7 [(2, .int x2), (3, .int x3), (4, .int x4)] [] := by
  unfold fLB_X10_commonMeasure_7 at h
  refine r_iload C 2 rfl dX10_commonMeasure_7 ?_
  refine r_bipush C (v := 50) (by decide) dX10_commonMeasure_9 ?_
  refine r_icmp_ge C (tgt := 34) h dX10_commonMeasure_11 (by decide) (fun h => ?_) (fun h => ?_)
  · refine r_iload_n C 0 rfl rfl dX10_commonMeasure_34 ?_
    have hz9 := Option.some.inj h
    subst hz9
    exact r_iret C hr dX10_commonMeasure_35
  · refine r_iload_n C 1 rfl rfl dX10_commonMeasure_14 ?_
    refine r_if_eq C (tgt := 34) h dX10_commonMeasure_15 (by decide) (fun h => ?_) (fun h => ?_)
    · refine r_iload_n C 0 rfl rfl dX10_commonMeasure_34 ?_
      have hz9 := Option.some.inj h
      subst hz9
      exact r_iret C hr dX10_commonMeasure_35
    · refine r_iload_n C 0 rfl rfl dX10_commonMeasure_18 ?_
      refine r_iload_n C 1 rfl rfl dX10_commonMeasure_19 ?_
      refine r_irem C h dX10_commonMeasure_20 (fun h => ?_)
      refine r_nmi h (fun v3 h => ?_)
      refine r_istore C (lv1 := [(5, .int v3), (2, .int x2), (3, .int x3), (4, .int x4)]) (by decide) rfl dX10_commonMeasure_21 ?_
      refine r_iload_n C 2 rfl rfl dX10_commonMeasure_23 ?_
      refine r_istore_n C (lv1 := [(2, .int x3), (5, .int v3), (3, .int x3), (4, .int x4)]) rfl (by decide) rfl dX10_commonMeasure_24 ?_
      refine r_iload C 1 rfl dX10_commonMeasure_25 ?_
      refine r_istore_n C (lv1 := [(3, .int v3), (2, .int x3), (5, .int v3), (4, .int x4)]) rfl (by decide) rfl dX10_commonMeasure_27 ?_
      refine r_iincN C h (k := 3) (zz := 1) rfl rfl (by decide) (lv1 := fun v4 => [(4, .int v4), (3, .int v3), (2, .int x3), (5, .int v3)]) (fun _ => rfl) dX10_commonMeasure_28 (fun v4 h => ?_)
      refine r_goto C (tgt := 7) dX10_commonMeasure_31 (by decide) ?_
      exact r_sub [2, 1, 0] rfl (hr_7  h)
set_option maxHeartbeats 4000000 in
set_option maxRecDepth 100000 in
theorem wL_X10_commonMeasure_7 {l : Launch} {g : GG} {ad : Nat → Nat} {p : Program} {e : Env} {s : State} {m : MethodId} {args : Array Value} {below : List Frame} {meth : Method} {c : Code} {a0 : Int32} {a1 : Int32} {z : Int32} (C : Cx p s m args meth c RX10 cX10_commonMeasure 6 g (AW ad nO)) (hr : meth.sig.returnType = (some .int)) {I : HI} {J : HJ}  : ∀ (f : Nat) {x2 : Int32} {x3 : Int32} {x4 : Int32}, fL_X10_commonMeasure_7 a0 a1 f x2 x3 x4 = some z → V p l e (rmk 0 0) s m args below meth c (MQ below (QAi g ad nO oR z I J) args s 0 0 (AW ad nO)) 6 0 0 g (AW ad nO) ad nO oR I J 7 [(2, .int x2), (3, .int x3), (4, .int x4)] [] := by
  intro f
  induction f with
  | zero =>
    intro _ _ _  h
    have h0 : (none : Option (Int32)) = some z := h
    cases h0
  | succ f ih =>
    intro _ _ _  h
    exact wLB_X10_commonMeasure_7 C hr ih  h
set_option maxHeartbeats 4000000 in
set_option maxRecDepth 100000 in
theorem w_X10_commonMeasure {l : Launch} {g : GG} {ad : Nat → Nat} {p : Program} {e : Env} {s : State} {m : MethodId} {args : Array Value} {below : List Frame} {meth : Method} {c : Code} {a0 : Int32} {a1 : Int32} {z : Int32} (C : Cx p s m args meth c RX10 cX10_commonMeasure 6 g (AW ad nO)) (hr : meth.sig.returnType = (some .int)) {I : HI} {J : HJ} (h : f_X10_commonMeasure a0 a1 = some z) : V p l e (rmk 0 0) s m args below meth c (MQ below (QAi g ad nO oR z I J) args s 0 0 (AW ad nO)) 6 0 0 g (AW ad nO) ad nO oR I J 0 [(0, .int a0), (1, .int a1)] [] := by
  unfold f_X10_commonMeasure at h
  refine r_iload_n C 0 rfl rfl dX10_commonMeasure_0 ?_
  refine r_istore_n C (lv1 := [(2, .int a0), (0, .int a0), (1, .int a1)]) rfl (by decide) rfl dX10_commonMeasure_1 ?_
  refine r_iload_n C 2 rfl rfl dX10_commonMeasure_2 ?_
  refine r_istore_n C (lv1 := [(3, .int a1), (2, .int a0), (0, .int a0), (1, .int a1)]) rfl (by decide) rfl dX10_commonMeasure_3 ?_
  refine r_iconst C (v := 0) (by decide) dX10_commonMeasure_4 ?_
  refine r_istore C (lv1 := [(4, .int (0 : Int32)), (3, .int a1), (2, .int a0), (0, .int a0), (1, .int a1)]) (by decide) rfl dX10_commonMeasure_5 ?_
  exact r_sub [2, 1, 0] rfl (wL_X10_commonMeasure_7 C hr _  h)
set_option maxHeartbeats 4000000 in
set_option maxRecDepth 100000 in
theorem c_X10_commonMeasure {l : Launch} {g : GG} {ad : Nat → Nat} {a0 : Int32} {a1 : Int32} {I : HI} {J : HJ} {r : Int32} (h : f_X10_commonMeasure a0 a1 = some r) : CM l yX10_commonMeasure cX10_commonMeasure 6 (some .int) (rmk 0 0) g ad nO oR [.int a0, .int a1] I J (QAi g ad nO oR r I J) :=
  CM_of (by decide +kernel) (Nat.le_of_ble_eq_true rfl) (fun p e s m args below meth c C hr => w_X10_commonMeasure C hr h)
set_option maxHeartbeats 4000000 in
set_option maxRecDepth 100000 in
theorem wB_X10_rule_82 {l : Launch} {g : GG} {ad : Nat → Nat} {p : Program} {e : Env} {s : State} {m : MethodId} {args : Array Value} {below : List Frame} {meth : Method} {c : Code} {a0 : Int32} {a1 : Int32} {z : Int32} (C : Cx p s m args meth c RX10 cX10_rule 6 g (AW ad nO)) (hr : meth.sig.returnType = (some .int)) {I : HI} {J : HJ}  {x5 : Int32} {s0 : Int32} (h : fB_X10_rule_82 a0 a1 x5 s0 I J = some z) : V p l e (rmk 6 198) s m args below meth c (MQ below (QAi g ad nO oR z I J) args s 0 0 (AW ad nO)) 6 0 0 g (AW ad nO) ad nO oR I J 82 [(5, .int x5)] [.int s0] := by
  unfold fB_X10_rule_82 at h
  refine r_iload C 0 rfl dX10_rule_82 ?_
  refine r_idiv C h dX10_rule_84 (fun h => ?_)
  have hz9 := Option.some.inj h
  subst hz9
  exact r_iret C hr dX10_rule_85
set_option maxHeartbeats 4000000 in
set_option maxRecDepth 100000 in
theorem w_X10_rule {l : Launch} {g : GG} {ad : Nat → Nat} {p : Program} {e : Env} {s : State} {m : MethodId} {args : Array Value} {below : List Frame} {meth : Method} {c : Code} {a0 : Int32} {a1 : Int32} {z : Int32} (C : Cx p s m args meth c RX10 cX10_rule 6 g (AW ad nO)) (hr : meth.sig.returnType = (some .int)) {I : HI} {J : HJ} (h : f_X10_rule a0 a1 I J = some z) : V p l e (rmk 6 198) s m args below meth c (MQ below (QAi g ad nO oR z I J) args s 0 0 (AW ad nO)) 6 0 0 g (AW ad nO) ad nO oR I J 0 [(0, .ref (ad 0)), (1, .int a0), (2, .int a1)] [] := by
  unfold f_X10_rule at h
  refine r_iload_n C 1 rfl rfl dX10_rule_0 ?_
  refine r_iconst C (v := 0) (by decide) dX10_rule_1 ?_
  refine r_sipush C (v := 9999) (by decide) dX10_rule_2 ?_
  obtain ⟨r11, hq12, h⟩ := bd1_ h
  refine r_csi C (rest := []) (c_X10_isWithin  hq12) fm_X10_isWithin lk_X10_80 rfl ⟨rfl, rfl, Nat.le_of_ble_eq_true rfl, Nat.le_of_ble_eq_true rfl⟩ (Nat.le_of_ble_eq_true rfl) rfl dX10_rule_5 ?_
  refine r_if_eq C (tgt := 20) h dX10_rule_8 (by decide) (fun h => ?_) (fun h => ?_)
  · refine r_iconst C (v := -1) (by decide) dX10_rule_20 ?_
    have hz9 := Option.some.inj h
    subst hz9
    exact r_iret C hr dX10_rule_21
  · refine r_iload_n C 2 rfl rfl dX10_rule_11 ?_
    refine r_iconst C (v := 0) (by decide) dX10_rule_12 ?_
    refine r_iconst C (v := 1) (by decide) dX10_rule_13 ?_
    obtain ⟨r13, hq14, h⟩ := bd1_ h
    refine r_csi C (rest := []) (c_X10_isWithin  hq14) fm_X10_isWithin lk_X10_80 rfl ⟨rfl, rfl, Nat.le_of_ble_eq_true rfl, Nat.le_of_ble_eq_true rfl⟩ (Nat.le_of_ble_eq_true rfl) rfl dX10_rule_14 ?_
    refine r_if_ne C (tgt := 22) h dX10_rule_17 (by decide) (fun h => ?_) (fun h => ?_)
    · refine r_aload_n C 0 rfl rfl dX10_rule_22 ?_
      refine gf_X10_10 C rf0 o_0 (q := 1) rfl dX10_rule_23 ?_
      refine gf_X10_162 C rf0 o_1 (q := 2) rfl dX10_rule_26 ?_
      refine r_iload_n C 1 rfl rfl dX10_rule_29 ?_
      refine r_iconst C (v := 0) (by decide) dX10_rule_30 ?_
      refine r_pc (pc1 := 31) rfl ?_
      obtain ⟨r15, hq16, h⟩ := bd1_ h
      refine r_cvi C (rest := []) (c_X9_countTwos o_2 hq16) fm_X9_countTwos lk_X10_199 o_2 ⟨_, ct_8 o_2.1⟩ rfl rfl ⟨rfl, rfl, Nat.le_of_ble_eq_true rfl, Nat.le_of_ble_eq_true rfl⟩ (Nat.le_of_ble_eq_true rfl) rfl dX10_rule_31 ?_
      refine r_istore_n C (lv1 := [(3, .int r15), (0, .ref (ad 0)), (1, .int a0), (2, .int a1)]) rfl (by decide) rfl dX10_rule_34 ?_
      refine r_iload_n C 0 rfl rfl dX10_rule_35 ?_
      refine r_if_ne C (tgt := 42) h dX10_rule_36 (by decide) (fun h => ?_) (fun h => ?_)
      · refine r_aload_n C 1 rfl rfl dX10_rule_42 ?_
        refine gf_X10_10 C rf0 o_0 (q := 1) rfl dX10_rule_43 ?_
        refine gf_X10_162 C rf0 o_1 (q := 2) rfl dX10_rule_46 ?_
        refine r_iload_n C 2 rfl rfl dX10_rule_49 ?_
        refine r_iconst C (v := 1) (by decide) dX10_rule_50 ?_
        refine r_pc (pc1 := 51) rfl ?_
        obtain ⟨r17, hq18, h⟩ := bd1_ h
        refine r_cvi C (rest := []) (c_X9_countTwos o_2 hq18) fm_X9_countTwos lk_X10_199 o_2 ⟨_, ct_8 o_2.1⟩ rfl rfl ⟨rfl, rfl, Nat.le_of_ble_eq_true rfl, Nat.le_of_ble_eq_true rfl⟩ (Nat.le_of_ble_eq_true rfl) rfl dX10_rule_51 ?_
        refine r_istore C (lv1 := [(4, .int r17), (3, .int r15), (0, .ref (ad 0)), (1, .int a0), (2, .int a1)]) (by decide) rfl dX10_rule_54 ?_
        refine r_iload C 0 rfl dX10_rule_56 ?_
        refine r_iload_n C 1 rfl rfl dX10_rule_58 ?_
        obtain ⟨r19, hq20, h⟩ := bd1_ h
        refine r_csi C (rest := []) (c_X10_commonMeasure  hq20) fm_X10_commonMeasure lk_X10_203 rfl ⟨rfl, rfl, Nat.le_of_ble_eq_true rfl, Nat.le_of_ble_eq_true rfl⟩ (Nat.le_of_ble_eq_true rfl) rfl dX10_rule_59 ?_
        refine r_istore C (lv1 := [(5, .int r19), (4, .int r17), (3, .int r15), (0, .ref (ad 0)), (1, .int a0), (2, .int a1)]) (by decide) rfl dX10_rule_62 ?_
        refine r_iload C 0 rfl dX10_rule_64 ?_
        refine r_if_ne C (tgt := 72) h dX10_rule_66 (by decide) (fun h => ?_) (fun h => ?_)
        · refine r_iload_n C 5 rfl rfl dX10_rule_72 ?_
          refine r_if_ne C (tgt := 81) h dX10_rule_73 (by decide) (fun h => ?_) (fun h => ?_)
          · refine r_iload_n C 2 rfl rfl dX10_rule_81 ?_
            exact r_sub [0] rfl (wB_X10_rule_82 C hr  h)
          · refine r_iload C 1 rfl dX10_rule_76 ?_
            refine r_goto C (tgt := 82) dX10_rule_78 (by decide) ?_
            exact r_sub [0] rfl (wB_X10_rule_82 C hr  h)
        · refine r_bipush C (v := -3) (by decide) dX10_rule_69 ?_
          have hz9 := Option.some.inj h
          subst hz9
          exact r_iret C hr dX10_rule_71
      · refine r_bipush C (v := -3) (by decide) dX10_rule_39 ?_
        have hz9 := Option.some.inj h
        subst hz9
        exact r_iret C hr dX10_rule_41
    · refine r_iconst C (v := -1) (by decide) dX10_rule_20 ?_
      have hz9 := Option.some.inj h
      subst hz9
      exact r_iret C hr dX10_rule_21
set_option maxHeartbeats 4000000 in
set_option maxRecDepth 100000 in
theorem c_X10_rule {l : Launch} {g : GG} {ad : Nat → Nat} {a0 : Int32} {a1 : Int32} {I : HI} {J : HJ} {r : Int32} (h : f_X10_rule a0 a1 I J = some r) : CM l yX10_rule cX10_rule 6 (some .int) (rmk 6 198) g ad nO oR [.ref (ad 0), .int a0, .int a1] I J (QAi g ad nO oR r I J) :=
  CM_of (by decide +kernel) (Nat.le_of_ble_eq_true rfl) (fun p e s m args below meth c C hr => w_X10_rule C hr h)
set_option maxHeartbeats 4000000 in
set_option maxRecDepth 100000 in
theorem w_X10_drift {l : Launch} {g : GG} {ad : Nat → Nat} {p : Program} {e : Env} {s : State} {m : MethodId} {args : Array Value} {below : List Frame} {meth : Method} {c : Code} {a0 : Int32} {z : Int32} (C : Cx p s m args meth c RX10 cX10_drift 5 g (AW ad nO)) (hr : meth.sig.returnType = (some .int)) {I : HI} {J : HJ} (h : f_X10_drift a0 I J = some z) : V p l e (rmk 2 42) s m args below meth c (MQ below (QAi g ad nO oR z I J) args s 0 0 (AW ad nO)) 5 0 0 g (AW ad nO) ad nO oR I J 0 [(0, .ref (ad 0)), (1, .int a0)] [] := by
  unfold f_X10_drift at h
  refine r_aload_n C 0 rfl rfl dX10_drift_0 ?_
  refine gf_X10_10 C rf0 o_0 (q := 1) rfl dX10_drift_1 ?_
  refine gf_X10_162 C rf0 o_1 (q := 2) rfl dX10_drift_4 ?_
  obtain ⟨r12, hq13, h⟩ := bd1_ h
  refine r_cvi C (rest := []) (c_X9_size o_2 hq13) fm_X9_size lk_X10_172 o_2 ⟨_, ct_8 o_2.1⟩ rfl rfl ⟨rfl, rfl, Nat.le_of_ble_eq_true rfl, Nat.le_of_ble_eq_true rfl⟩ (Nat.le_of_ble_eq_true rfl) rfl dX10_drift_7 ?_
  refine r_istore_n C (lv1 := [(2, .int r12), (0, .ref (ad 0)), (1, .int a0)]) rfl (by decide) rfl dX10_drift_10 ?_
  refine r_iload_n C 0 rfl rfl dX10_drift_11 ?_
  refine r_iconst C (v := 2) (by decide) dX10_drift_12 ?_
  refine r_icmp_lt C (tgt := 30) h dX10_drift_13 (by decide) (fun h => ?_) (fun h => ?_)
  · refine r_bipush C (v := -3) (by decide) dX10_drift_30 ?_
    have hz9 := Option.some.inj h
    subst hz9
    exact r_iret C hr dX10_drift_32
  · refine r_aload_n C 1 rfl rfl dX10_drift_16 ?_
    refine gf_X10_10 C rf0 o_0 (q := 1) rfl dX10_drift_17 ?_
    refine gf_X10_162 C rf0 o_1 (q := 2) rfl dX10_drift_20 ?_
    refine r_iload_n C 2 rfl rfl dX10_drift_23 ?_
    obtain ⟨r14, hq15, h⟩ := bd1_ h
    refine r_cvi C (rest := []) (c_X9_has o_2 hq15) fm_X9_has lk_X10_176 o_2 ⟨_, ct_8 o_2.1⟩ rfl rfl ⟨rfl, rfl, Nat.le_of_ble_eq_true rfl, Nat.le_of_ble_eq_true rfl⟩ (Nat.le_of_ble_eq_true rfl) rfl dX10_drift_24 ?_
    refine r_if_ne C (tgt := 33) h dX10_drift_27 (by decide) (fun h => ?_) (fun h => ?_)
    · refine r_aload_n C 1 rfl rfl dX10_drift_33 ?_
      refine gf_X10_10 C rf0 o_0 (q := 1) rfl dX10_drift_34 ?_
      refine gf_X10_162 C rf0 o_1 (q := 2) rfl dX10_drift_37 ?_
      refine r_iconst C (v := 0) (by decide) dX10_drift_40 ?_
      obtain ⟨r16, hq17, h⟩ := bd1_ h
      refine r_cvi C (rest := []) (c_X9_at o_2 hq17) fm_X9_at lk_X10_179 o_2 ⟨_, ct_8 o_2.1⟩ rfl rfl ⟨rfl, rfl, Nat.le_of_ble_eq_true rfl, Nat.le_of_ble_eq_true rfl⟩ (Nat.le_of_ble_eq_true rfl) rfl dX10_drift_41 ?_
      refine r_istore_n C (lv1 := [(3, .int r16), (2, .int r12), (0, .ref (ad 0)), (1, .int a0)]) rfl (by decide) rfl dX10_drift_44 ?_
      refine r_aload_n C 2 rfl rfl dX10_drift_45 ?_
      refine gf_X10_10 C rf0 o_0 (q := 1) rfl dX10_drift_46 ?_
      refine gf_X10_162 C rf0 o_1 (q := 2) rfl dX10_drift_49 ?_
      refine r_iload_n C 1 rfl rfl dX10_drift_52 ?_
      refine r_iconst C (v := 1) (by decide) dX10_drift_53 ?_
      refine r_pc (pc1 := 54) rfl ?_
      refine r_isub C dX10_drift_54 ?_
      obtain ⟨r18, hq19, h⟩ := bd1_ h
      refine r_cvi C (rest := []) (c_X9_at o_2 hq19) fm_X9_at lk_X10_179 o_2 ⟨_, ct_8 o_2.1⟩ rfl rfl ⟨rfl, rfl, Nat.le_of_ble_eq_true rfl, Nat.le_of_ble_eq_true rfl⟩ (Nat.le_of_ble_eq_true rfl) rfl dX10_drift_55 ?_
      refine r_iload_n C 0 rfl rfl dX10_drift_58 ?_
      refine r_isub C dX10_drift_59 ?_
      refine r_nmi h (fun v20 h => ?_)
      refine r_istore C (lv1 := [(4, .int v20), (3, .int r16), (2, .int r12), (0, .ref (ad 0)), (1, .int a0)]) (by decide) rfl dX10_drift_60 ?_
      refine r_aload_n C 3 rfl rfl dX10_drift_62 ?_
      refine gf_X10_10 C rf0 o_0 (q := 1) rfl dX10_drift_63 ?_
      refine gf_X10_162 C rf0 o_1 (q := 2) rfl dX10_drift_66 ?_
      refine r_iload_n C 4 rfl rfl dX10_drift_69 ?_
      obtain ⟨r21, hq22, h⟩ := bd1_ h
      refine r_cvi C (rest := []) (c_X9_at o_2 hq22) fm_X9_at lk_X10_179 o_2 ⟨_, ct_8 o_2.1⟩ rfl rfl ⟨rfl, rfl, Nat.le_of_ble_eq_true rfl, Nat.le_of_ble_eq_true rfl⟩ (Nat.le_of_ble_eq_true rfl) rfl dX10_drift_70 ?_
      refine r_iload_n C 1 rfl rfl dX10_drift_73 ?_
      refine r_isub C dX10_drift_74 ?_
      refine r_iload C 0 rfl dX10_drift_75 ?_
      refine r_iload_n C 4 rfl rfl dX10_drift_77 ?_
      refine r_imul C dX10_drift_78 ?_
      refine r_pc (pc1 := 79) rfl ?_
      refine r_iload_n C 2 rfl rfl dX10_drift_79 ?_
      refine r_iconst C (v := 1) (by decide) dX10_drift_80 ?_
      refine r_isub C dX10_drift_81 ?_
      refine r_idiv C h dX10_drift_82 (fun h => ?_)
      refine r_isub C dX10_drift_83 ?_
      refine r_sipush C (v := 20000) (by decide) dX10_drift_84 ?_
      refine r_iadd C dX10_drift_87 ?_
      have hz9 := Option.some.inj h
      subst hz9
      exact r_iret C hr dX10_drift_88
    · refine r_bipush C (v := -3) (by decide) dX10_drift_30 ?_
      have hz9 := Option.some.inj h
      subst hz9
      exact r_iret C hr dX10_drift_32
set_option maxHeartbeats 4000000 in
set_option maxRecDepth 100000 in
theorem c_X10_drift {l : Launch} {g : GG} {ad : Nat → Nat} {a0 : Int32} {I : HI} {J : HJ} {r : Int32} (h : f_X10_drift a0 I J = some r) : CM l yX10_drift cX10_drift 5 (some .int) (rmk 2 42) g ad nO oR [.ref (ad 0), .int a0] I J (QAi g ad nO oR r I J) :=
  CM_of (by decide +kernel) (Nat.le_of_ble_eq_true rfl) (fun p e s m args below meth c C hr => w_X10_drift C hr h)
set_option maxHeartbeats 4000000 in
set_option maxRecDepth 100000 in
theorem w_X10_span {l : Launch} {g : GG} {ad : Nat → Nat} {p : Program} {e : Env} {s : State} {m : MethodId} {args : Array Value} {below : List Frame} {meth : Method} {c : Code} {a0 : Int32} {z : Int32} (C : Cx p s m args meth c RX10 cX10_span 2 g (AW ad nO)) (hr : meth.sig.returnType = (some .int)) {I : HI} {J : HJ} (h : f_X10_span a0 I J = some z) : V p l e (rmk 5 172) s m args below meth c (MQ below (QAi g ad nO oR z I J) args s 0 0 (AW ad nO)) 2 0 0 g (AW ad nO) ad nO oR I J 0 [(0, .ref (ad 0)), (1, .int a0)] [] := by
  unfold f_X10_span at h
  refine r_iload_n C 1 rfl rfl dX10_span_0 ?_
  refine r_iconst C (v := 0) (by decide) dX10_span_1 ?_
  refine r_iconst C (v := 2) (by decide) dX10_span_2 ?_
  obtain ⟨r13, hq14, h⟩ := bd1_ h
  refine r_csi C (rest := []) (c_X10_isWithin  hq14) fm_X10_isWithin lk_X10_80 rfl ⟨rfl, rfl, Nat.le_of_ble_eq_true rfl, Nat.le_of_ble_eq_true rfl⟩ (Nat.le_of_ble_eq_true rfl) rfl dX10_span_3 ?_
  refine r_if_ne C (tgt := 11) h dX10_span_6 (by decide) (fun h => ?_) (fun h => ?_)
  · refine r_aload_n C 0 rfl rfl dX10_span_11 ?_
    refine gf_X10_10 C rf0 o_0 (q := 1) rfl dX10_span_12 ?_
    refine gf_X10_162 C rf0 o_1 (q := 2) rfl dX10_span_15 ?_
    obtain ⟨r15, hq16, h⟩ := bd1_ h
    refine r_cvi C (rest := []) (c_X9_size o_2 hq16) fm_X9_size lk_X10_172 o_2 ⟨_, ct_8 o_2.1⟩ rfl rfl ⟨rfl, rfl, Nat.le_of_ble_eq_true rfl, Nat.le_of_ble_eq_true rfl⟩ (Nat.le_of_ble_eq_true rfl) rfl dX10_span_18 ?_
    refine r_if_ne C (tgt := 27) h dX10_span_21 (by decide) (fun h => ?_) (fun h => ?_)
    · refine r_iload_n C 1 rfl rfl dX10_span_27 ?_
      refine r_case h (fun hc17 h => ?_) (fun hc17 h => ?_)
      · refine r_look C (tgt := 56) (off := 28) dX10_span_28 rfl (by rw [hc17]; try rfl) (by decide) ?_
        refine r_aload_n C 0 rfl rfl dX10_span_56 ?_
        refine gf_X10_10 C rf0 o_0 (q := 1) rfl dX10_span_57 ?_
        refine gf_X10_162 C rf0 o_1 (q := 2) rfl dX10_span_60 ?_
        obtain ⟨r18, hq19, h⟩ := bd1_ h
        refine r_cvi C (rest := []) (c_X9_least o_2 hq19) fm_X9_least lk_X10_206 o_2 ⟨_, ct_8 o_2.1⟩ rfl rfl ⟨rfl, rfl, Nat.le_of_ble_eq_true rfl, Nat.le_of_ble_eq_true rfl⟩ (Nat.le_of_ble_eq_true rfl) rfl dX10_span_63 ?_
        have hz9 := Option.some.inj h
        subst hz9
        exact r_iret C hr dX10_span_66
      refine r_case h (fun hc20 h => ?_) (fun hc20 h => ?_)
      · refine r_look C (tgt := 67) (off := 39) dX10_span_28 rfl (by rw [hc20]; try rfl) (by decide) ?_
        refine r_aload_n C 0 rfl rfl dX10_span_67 ?_
        refine gf_X10_10 C rf0 o_0 (q := 1) rfl dX10_span_68 ?_
        refine gf_X10_162 C rf0 o_1 (q := 2) rfl dX10_span_71 ?_
        obtain ⟨r21, hq22, h⟩ := bd1_ h
        refine r_cvi C (rest := []) (c_X9_greatest o_2 hq22) fm_X9_greatest lk_X10_209 o_2 ⟨_, ct_8 o_2.1⟩ rfl rfl ⟨rfl, rfl, Nat.le_of_ble_eq_true rfl, Nat.le_of_ble_eq_true rfl⟩ (Nat.le_of_ble_eq_true rfl) rfl dX10_span_74 ?_
        have hz9 := Option.some.inj h
        subst hz9
        exact r_iret C hr dX10_span_77
      refine r_look C (tgt := 78) (off := 50) dX10_span_28 rfl ((lv_osw hc17 rfl).trans ((lv_osw hc20 rfl).trans rfl)) (by decide) ?_
      refine r_aload_n C 0 rfl rfl dX10_span_78 ?_
      refine gf_X10_10 C rf0 o_0 (q := 1) rfl dX10_span_79 ?_
      refine gf_X10_162 C rf0 o_1 (q := 2) rfl dX10_span_82 ?_
      obtain ⟨r23, hq24, h⟩ := bd1_ h
      refine r_cvi C (rest := []) (c_X9_sum o_2 hq24) fm_X9_sum lk_X10_212 o_2 ⟨_, ct_8 o_2.1⟩ rfl rfl ⟨rfl, rfl, Nat.le_of_ble_eq_true rfl, Nat.le_of_ble_eq_true rfl⟩ (Nat.le_of_ble_eq_true rfl) rfl dX10_span_85 ?_
      have hz9 := Option.some.inj h
      subst hz9
      exact r_iret C hr dX10_span_88
    · refine r_bipush C (v := -3) (by decide) dX10_span_24 ?_
      have hz9 := Option.some.inj h
      subst hz9
      exact r_iret C hr dX10_span_26
  · refine r_iconst C (v := -1) (by decide) dX10_span_9 ?_
    have hz9 := Option.some.inj h
    subst hz9
    exact r_iret C hr dX10_span_10
set_option maxHeartbeats 4000000 in
set_option maxRecDepth 100000 in
theorem c_X10_span {l : Launch} {g : GG} {ad : Nat → Nat} {a0 : Int32} {I : HI} {J : HJ} {r : Int32} (h : f_X10_span a0 I J = some r) : CM l yX10_span cX10_span 2 (some .int) (rmk 5 172) g ad nO oR [.ref (ad 0), .int a0] I J (QAi g ad nO oR r I J) :=
  CM_of (by decide +kernel) (Nat.le_of_ble_eq_true rfl) (fun p e s m args below meth c C hr => w_X10_span C hr h)
set_option maxHeartbeats 4000000 in
set_option maxRecDepth 100000 in
theorem w_X10_periodWith {l : Launch} {g : GG} {ad : Nat → Nat} {p : Program} {e : Env} {s : State} {m : MethodId} {args : Array Value} {below : List Frame} {meth : Method} {c : Code} {a0 : Int32} {z : Int32 × HI × HJ} (C : Cx p s m args meth c RX10 cX10_periodWith 2 g (AW ad nO)) (hr : meth.sig.returnType = (some .int)) {I : HI} {J : HJ} (h : f_X10_periodWith a0 I J = some z) : V p l e (rmk 8 237) s m args below meth c (MQ below (QAi g ad nO oR z.1 z.2.1 z.2.2) args s 0 0 (AW ad nO)) 2 0 0 g (AW ad nO) ad nO oR I J 0 [(0, .ref (ad 0)), (1, .int a0)] [] := by
  unfold f_X10_periodWith at h
  refine r_aload_n C 0 rfl rfl dX10_periodWith_0 ?_
  refine gf_X10_39 C rf0 o_0 (q := 53) rfl dX10_periodWith_1 ?_
  refine r_aload_n C 0 rfl rfl dX10_periodWith_4 ?_
  refine gf_X10_10 C rf0 o_0 (q := 1) rfl dX10_periodWith_5 ?_
  obtain ⟨I10, J11, hq12, h⟩ := bd2_ h
  refine r_cvv C (rest := []) (c_X7_goOnFrom o_53 o_1 hq12) fm_X7_goOnFrom lk_X10_225 o_53 ⟨_, ct_6 o_53.1⟩ rfl rfl ⟨rfl, rfl, Nat.le_of_ble_eq_true rfl, Nat.le_of_ble_eq_true rfl⟩ (Nat.le_of_ble_eq_true rfl) rfl dX10_periodWith_8 ?_
  refine r_aload_n C 0 rfl rfl dX10_periodWith_11 ?_
  refine gf_X10_39 C rf0 o_0 (q := 53) rfl dX10_periodWith_12 ?_
  refine r_iload_n C 1 rfl rfl dX10_periodWith_15 ?_
  refine pf_X10_88 C o_53 dX10_periodWith_16 ?_
  refine r_nmI h (fun I13 h => ?_)
  refine r_aload_n C 0 rfl rfl dX10_periodWith_19 ?_
  refine gf_X10_39 C rf0 o_0 (q := 53) rfl dX10_periodWith_20 ?_
  refine r_sipush C (v := 400) (by decide) dX10_periodWith_23 ?_
  refine r_aload_n C 0 rfl rfl dX10_periodWith_26 ?_
  refine gf_X10_19 C rf0 o_0 (q := 4) rfl dX10_periodWith_27 ?_
  refine r_pc (pc1 := 30) rfl ?_
  obtain ⟨I14, J15, hq16, h⟩ := bd2_ h
  refine r_cvv C (rest := []) (c_X7_fillRow o_53 o_4 hq16) fm_X7_fillRow lk_X10_229 o_53 ⟨_, ct_6 o_53.1⟩ rfl rfl ⟨rfl, rfl, Nat.le_of_ble_eq_true rfl, Nat.le_of_ble_eq_true rfl⟩ (Nat.le_of_ble_eq_true rfl) rfl dX10_periodWith_30 ?_
  refine r_aload_n C 0 rfl rfl dX10_periodWith_33 ?_
  refine gf_X10_39 C rf0 o_0 (q := 53) rfl dX10_periodWith_34 ?_
  refine gf_X10_162 C rf0 o_53 (q := 54) rfl dX10_periodWith_37 ?_
  obtain ⟨r17, hq18, h⟩ := bd1_ h
  refine r_cvi C (rest := []) (c_X9_findPeriod o_54 hq18) fm_X9_findPeriod lk_X10_183 o_54 ⟨_, ct_8 o_54.1⟩ rfl rfl ⟨rfl, rfl, Nat.le_of_ble_eq_true rfl, Nat.le_of_ble_eq_true rfl⟩ (Nat.le_of_ble_eq_true rfl) rfl dX10_periodWith_40 ?_
  have hz9 := Option.some.inj h
  subst hz9
  exact r_iret C hr dX10_periodWith_43
set_option maxHeartbeats 4000000 in
set_option maxRecDepth 100000 in
theorem c_X10_periodWith {l : Launch} {g : GG} {ad : Nat → Nat} {a0 : Int32} {I : HI} {J : HJ} {r : Int32} {I1 : HI} {J1 : HJ} (h : f_X10_periodWith a0 I J = some (r, I1, J1)) : CM l yX10_periodWith cX10_periodWith 2 (some .int) (rmk 8 237) g ad nO oR [.ref (ad 0), .int a0] I J (QAi g ad nO oR r I1 J1) :=
  CM_of (by decide +kernel) (Nat.le_of_ble_eq_true rfl) (fun p e s m args below meth c C hr => w_X10_periodWith C hr h)
set_option maxHeartbeats 4000000 in
set_option maxRecDepth 100000 in
theorem w_X10_grid {l : Launch} {g : GG} {ad : Nat → Nat} {p : Program} {e : Env} {s : State} {m : MethodId} {args : Array Value} {below : List Frame} {meth : Method} {c : Code} {a0 : Int32} {z : Int32 × HI × HJ} (C : Cx p s m args meth c RX10 cX10_grid 2 g (AW ad nO)) (hr : meth.sig.returnType = (some .int)) {I : HI} {J : HJ} (h : f_X10_grid a0 I J = some z) : V p l e (rmk 9 258) s m args below meth c (MQ below (QAi g ad nO oR z.1 z.2.1 z.2.2) args s 0 0 (AW ad nO)) 2 0 0 g (AW ad nO) ad nO oR I J 0 [(0, .ref (ad 0)), (1, .int a0)] [] := by
  unfold f_X10_grid at h
  refine r_iload_n C 1 rfl rfl dX10_grid_0 ?_
  refine r_iconst C (v := 0) (by decide) dX10_grid_1 ?_
  refine r_bipush C (v := 99) (by decide) dX10_grid_2 ?_
  obtain ⟨r7, hq8, h⟩ := bd1_ h
  refine r_csi C (rest := []) (c_X10_isWithin  hq8) fm_X10_isWithin lk_X10_80 rfl ⟨rfl, rfl, Nat.le_of_ble_eq_true rfl, Nat.le_of_ble_eq_true rfl⟩ (Nat.le_of_ble_eq_true rfl) rfl dX10_grid_4 ?_
  refine r_if_eq C (tgt := 18) h dX10_grid_7 (by decide) (fun h => ?_) (fun h => ?_)
  · refine r_iconst C (v := -1) (by decide) dX10_grid_18 ?_
    have hz9 := Option.some.inj h
    subst hz9
    exact r_iret C hr dX10_grid_19
  · refine r_aload_n C 0 rfl rfl dX10_grid_10 ?_
    refine r_iload_n C 1 rfl rfl dX10_grid_11 ?_
    obtain ⟨r9, I10, J11, hq12, h⟩ := bd3_ h
    refine r_cvi C (rest := []) (c_X10_periodWith  hq12) fm_X10_periodWith lk_X10_215 o_0 ⟨_, ct_9 o_0.1⟩ rfl rfl ⟨rfl, rfl, Nat.le_of_ble_eq_true rfl, Nat.le_of_ble_eq_true rfl⟩ (Nat.le_of_ble_eq_true rfl) rfl dX10_grid_12 ?_
    refine r_goto C (tgt := 19) dX10_grid_15 (by decide) ?_
    have hz9 := Option.some.inj h
    subst hz9
    exact r_iret C hr dX10_grid_19
set_option maxHeartbeats 4000000 in
set_option maxRecDepth 100000 in
theorem c_X10_grid {l : Launch} {g : GG} {ad : Nat → Nat} {a0 : Int32} {I : HI} {J : HJ} {r : Int32} {I1 : HI} {J1 : HJ} (h : f_X10_grid a0 I J = some (r, I1, J1)) : CM l yX10_grid cX10_grid 2 (some .int) (rmk 9 258) g ad nO oR [.ref (ad 0), .int a0] I J (QAi g ad nO oR r I1 J1) :=
  CM_of (by decide +kernel) (Nat.le_of_ble_eq_true rfl) (fun p e s m args below meth c C hr => w_X10_grid C hr h)
set_option maxHeartbeats 4000000 in
set_option maxRecDepth 100000 in
theorem w_X10_isSpanOfKnobs {l : Launch} {g : GG} {ad : Nat → Nat} {p : Program} {e : Env} {s : State} {m : MethodId} {args : Array Value} {below : List Frame} {meth : Method} {c : Code} {a0 : Int32} {a1 : Int32} {z : Int32} (C : Cx p s m args meth c RX10 cX10_isSpanOfKnobs 2 g (AW ad nO)) (hr : meth.sig.returnType = (some .boolean)) {I : HI} {J : HJ} (h : f_X10_isSpanOfKnobs a0 a1 = some z) : V p l e (rmk 1 22) s m args below meth c (MQ below (QAi g ad nO oR z I J) args s 0 0 (AW ad nO)) 2 0 0 g (AW ad nO) ad nO oR I J 0 [(0, .int a0), (1, .int a1)] [] := by
  unfold f_X10_isSpanOfKnobs at h
  refine r_iload_n C 0 rfl rfl dX10_isSpanOfKnobs_0 ?_
  refine r_iconst C (v := 0) (by decide) dX10_isSpanOfKnobs_1 ?_
  refine r_bipush C (v := 99) (by decide) dX10_isSpanOfKnobs_2 ?_
  obtain ⟨r5, hq6, h⟩ := bd1_ h
  refine r_csi C (rest := []) (c_X10_isWithin  hq6) fm_X10_isWithin lk_X10_80 rfl ⟨rfl, rfl, Nat.le_of_ble_eq_true rfl, Nat.le_of_ble_eq_true rfl⟩ (Nat.le_of_ble_eq_true rfl) rfl dX10_isSpanOfKnobs_4 ?_
  refine r_if_eq C (tgt := 32) h dX10_isSpanOfKnobs_7 (by decide) (fun h => ?_) (fun h => ?_)
  · refine r_iconst C (v := 0) (by decide) dX10_isSpanOfKnobs_32 ?_
    have hz9 := Option.some.inj h
    subst hz9
    exact r_zret C (v := (0 : Int32)) rfl hr dX10_isSpanOfKnobs_33
  · refine r_iload_n C 1 rfl rfl dX10_isSpanOfKnobs_10 ?_
    refine r_iload_n C 0 rfl rfl dX10_isSpanOfKnobs_11 ?_
    refine r_bipush C (v := 99) (by decide) dX10_isSpanOfKnobs_12 ?_
    obtain ⟨r7, hq8, h⟩ := bd1_ h
    refine r_csi C (rest := []) (c_X10_isWithin  hq8) fm_X10_isWithin lk_X10_80 rfl ⟨rfl, rfl, Nat.le_of_ble_eq_true rfl, Nat.le_of_ble_eq_true rfl⟩ (Nat.le_of_ble_eq_true rfl) rfl dX10_isSpanOfKnobs_14 ?_
    refine r_if_eq C (tgt := 32) h dX10_isSpanOfKnobs_17 (by decide) (fun h => ?_) (fun h => ?_)
    · refine r_iconst C (v := 0) (by decide) dX10_isSpanOfKnobs_32 ?_
      have hz9 := Option.some.inj h
      subst hz9
      exact r_zret C (v := (0 : Int32)) rfl hr dX10_isSpanOfKnobs_33
    · refine r_iload_n C 1 rfl rfl dX10_isSpanOfKnobs_20 ?_
      refine r_iload_n C 0 rfl rfl dX10_isSpanOfKnobs_21 ?_
      refine r_isub C dX10_isSpanOfKnobs_22 ?_
      refine r_bipush C (v := 20) (by decide) dX10_isSpanOfKnobs_23 ?_
      refine r_icmp_gt C (tgt := 32) h dX10_isSpanOfKnobs_25 (by decide) (fun h => ?_) (fun h => ?_)
      · refine r_iconst C (v := 0) (by decide) dX10_isSpanOfKnobs_32 ?_
        have hz9 := Option.some.inj h
        subst hz9
        exact r_zret C (v := (0 : Int32)) rfl hr dX10_isSpanOfKnobs_33
      · refine r_iconst C (v := 1) (by decide) dX10_isSpanOfKnobs_28 ?_
        refine r_goto C (tgt := 33) dX10_isSpanOfKnobs_29 (by decide) ?_
        have hz9 := Option.some.inj h
        subst hz9
        exact r_zret C (v := (1 : Int32)) rfl hr dX10_isSpanOfKnobs_33
set_option maxHeartbeats 4000000 in
set_option maxRecDepth 100000 in
theorem c_X10_isSpanOfKnobs {l : Launch} {g : GG} {ad : Nat → Nat} {a0 : Int32} {a1 : Int32} {I : HI} {J : HJ} {r : Int32} (h : f_X10_isSpanOfKnobs a0 a1 = some r) : CM l yX10_isSpanOfKnobs cX10_isSpanOfKnobs 2 (some .boolean) (rmk 1 22) g ad nO oR [.int a0, .int a1] I J (QAi g ad nO oR r I J) :=
  CM_of (by decide +kernel) (Nat.le_of_ble_eq_true rfl) (fun p e s m args below meth c C hr => w_X10_isSpanOfKnobs C hr h)
set_option maxHeartbeats 4000000 in
set_option maxRecDepth 100000 in
theorem wB_X10_doubling_50 {l : Launch} {g : GG} {ad : Nat → Nat} {p : Program} {e : Env} {s : State} {m : MethodId} {args : Array Value} {below : List Frame} {meth : Method} {c : Code} {a0 : Int32} {a1 : Int32} {z : Int32 × HI × HJ} (C : Cx p s m args meth c RX10 cX10_doubling 6 g (AW ad nO)) (hr : meth.sig.returnType = (some .int)) {r_21 : Int32 → Int32 → HI → HJ → Option (Int32 × HI × HJ)} (hr_21 : ∀ {x3 : Int32} {x4 : Int32} {I : HI} {J : HJ}, r_21 x3 x4 I J = some z → V p l e (rmk 9 258) s m args below meth c (MQ below (QAi g ad nO oR z.1 z.2.1 z.2.2) args s 0 0 (AW ad nO)) 6 0 0 g (AW ad nO) ad nO oR I J 21 [(0, .ref (ad 0)), (2, .int a1), (3, .int x3), (4, .int x4)] []) {x4 : Int32} {x5 : Int32} {I : HI} {J : HJ} (h : fB_X10_doubling_50 a0 a1 r_21 x4 x5 I J = some z) : V p l e (rmk 9 258) s m args below meth c (MQ below (QAi g ad nO oR z.1 z.2.1 z.2.2) args s 0 0 (AW ad nO)) 6 0 0 g (AW ad nO) ad nO oR I J 50 [(0, .ref (ad 0)), (2, .int a1), (4, .int x4), (5, .int x5)] [] := by
  unfold fB_X10_doubling_50 at h
  refine r_iload C 3 rfl dX10_doubling_50 ?_
  refine r_istore_n C (lv1 := [(3, .int x5), (0, .ref (ad 0)), (2, .int a1), (4, .int x4), (5, .int x5)]) rfl (by decide) rfl dX10_doubling_52 ?_
  refine r_iincN C h (k := 3) (zz := 1) rfl rfl (by decide) (lv1 := fun v13 => [(4, .int v13), (3, .int x5), (0, .ref (ad 0)), (2, .int a1), (5, .int x5)]) (fun _ => rfl) dX10_doubling_53 (fun v13 h => ?_)
  refine r_goto C (tgt := 21) dX10_doubling_56 (by decide) ?_
  exact r_sub [2, 3, 1, 0] rfl (hr_21  h)
set_option maxHeartbeats 4000000 in
set_option maxRecDepth 100000 in
theorem wLB_X10_doubling_21 {l : Launch} {g : GG} {ad : Nat → Nat} {p : Program} {e : Env} {s : State} {m : MethodId} {args : Array Value} {below : List Frame} {meth : Method} {c : Code} {a0 : Int32} {a1 : Int32} {z : Int32 × HI × HJ} (C : Cx p s m args meth c RX10 cX10_doubling 6 g (AW ad nO)) (hr : meth.sig.returnType = (some .int))  {r_21 : Int32 → Int32 → HI → HJ → Option (Int32 × HI × HJ)} (hr_21 : ∀ {x3 : Int32} {x4 : Int32} {I : HI} {J : HJ}, r_21 x3 x4 I J = some z → V p l e (rmk 9 258) s m args below meth c (MQ below (QAi g ad nO oR z.1 z.2.1 z.2.2) args s 0 0 (AW ad nO)) 6 0 0 g (AW ad nO) ad nO oR I J 21 [(0, .ref (ad 0)), (2, .int a1), (3, .int x3), (4, .int x4)] []) {x3 : Int32} {x4 : Int32} {I : HI} {J : HJ} (h : fLB_X10_doubling_21 a0 a1 r_21 x3 x4 I J = some z) : V p l e (rmk 9 258) s m args below meth c (MQ below (QAi g ad nO oR z.1 z.2.1 z.2.2) args s 0 0 (AW ad nO)) 6 0 0 g (AW ad nO) ad nO oR I J 21 [(0, .ref (ad 0)), (2, .int a1), (3, .int x3), (4, .int x4)] [] := by
  unfold fLB_X10_doubling_21 at h
  refine r_iload C 3 rfl dX10_doubling_21 ?_
  refine r_iload_n C 1 rfl rfl dX10_doubling_23 ?_
  refine r_icmp_gt C (tgt := 59) h dX10_doubling_24 (by decide) (fun h => ?_) (fun h => ?_)
  · refine r_bipush C (v := -3) (by decide) dX10_doubling_59 ?_
    have hz9 := Option.some.inj h
    subst hz9
    exact r_iret C hr dX10_doubling_61
  · refine r_aload_n C 0 rfl rfl dX10_doubling_27 ?_
    refine r_iload C 3 rfl dX10_doubling_28 ?_
    obtain ⟨r14, I15, J16, hq17, h⟩ := bd3_ h
    refine r_cvi C (rest := []) (c_X10_periodWith  hq17) fm_X10_periodWith lk_X10_215 o_0 ⟨_, ct_9 o_0.1⟩ rfl rfl ⟨rfl, rfl, Nat.le_of_ble_eq_true rfl, Nat.le_of_ble_eq_true rfl⟩ (Nat.le_of_ble_eq_true rfl) rfl dX10_doubling_30 ?_
    refine r_istore C (lv1 := [(5, .int r14), (0, .ref (ad 0)), (2, .int a1), (3, .int x3), (4, .int x4)]) (by decide) rfl dX10_doubling_33 ?_
    refine r_iload_n C 3 rfl rfl dX10_doubling_35 ?_
    refine r_if_le C (tgt := 50) h dX10_doubling_36 (by decide) (fun h => ?_) (fun h => ?_)
    · exact r_sub [1, 2, 4, 0] rfl (wB_X10_doubling_50 C hr hr_21  h)
    · refine r_iload C 0 rfl dX10_doubling_39 ?_
      refine r_iconst C (v := 2) (by decide) dX10_doubling_41 ?_
      refine r_iload_n C 3 rfl rfl dX10_doubling_42 ?_
      refine r_imul C dX10_doubling_43 ?_
      refine r_icmp_ne C (tgt := 50) h dX10_doubling_44 (by decide) (fun h => ?_) (fun h => ?_)
      · exact r_sub [1, 2, 4, 0] rfl (wB_X10_doubling_50 C hr hr_21  h)
      · refine r_iload C 4 rfl dX10_doubling_47 ?_
        have hz9 := Option.some.inj h
        subst hz9
        exact r_iret C hr dX10_doubling_49
set_option maxHeartbeats 4000000 in
set_option maxRecDepth 100000 in
theorem wL_X10_doubling_21 {l : Launch} {g : GG} {ad : Nat → Nat} {p : Program} {e : Env} {s : State} {m : MethodId} {args : Array Value} {below : List Frame} {meth : Method} {c : Code} {a0 : Int32} {a1 : Int32} {z : Int32 × HI × HJ} (C : Cx p s m args meth c RX10 cX10_doubling 6 g (AW ad nO)) (hr : meth.sig.returnType = (some .int))  : ∀ (f : Nat) {x3 : Int32} {x4 : Int32} {I : HI} {J : HJ}, fL_X10_doubling_21 a0 a1 f x3 x4 I J = some z → V p l e (rmk 9 258) s m args below meth c (MQ below (QAi g ad nO oR z.1 z.2.1 z.2.2) args s 0 0 (AW ad nO)) 6 0 0 g (AW ad nO) ad nO oR I J 21 [(0, .ref (ad 0)), (2, .int a1), (3, .int x3), (4, .int x4)] [] := by
  intro f
  induction f with
  | zero =>
    intro _ _ _ _  h
    have h0 : (none : Option (Int32 × HI × HJ)) = some z := h
    cases h0
  | succ f ih =>
    intro _ _ _ _  h
    exact wLB_X10_doubling_21 C hr ih  h
set_option maxHeartbeats 4000000 in
set_option maxRecDepth 100000 in
theorem w_X10_doubling {l : Launch} {g : GG} {ad : Nat → Nat} {p : Program} {e : Env} {s : State} {m : MethodId} {args : Array Value} {below : List Frame} {meth : Method} {c : Code} {a0 : Int32} {a1 : Int32} {z : Int32 × HI × HJ} (C : Cx p s m args meth c RX10 cX10_doubling 6 g (AW ad nO)) (hr : meth.sig.returnType = (some .int)) {I : HI} {J : HJ} (h : f_X10_doubling a0 a1 I J = some z) : V p l e (rmk 9 258) s m args below meth c (MQ below (QAi g ad nO oR z.1 z.2.1 z.2.2) args s 0 0 (AW ad nO)) 6 0 0 g (AW ad nO) ad nO oR I J 0 [(0, .ref (ad 0)), (1, .int a0), (2, .int a1)] [] := by
  unfold f_X10_doubling at h
  refine r_iload_n C 1 rfl rfl dX10_doubling_0 ?_
  refine r_iload_n C 2 rfl rfl dX10_doubling_1 ?_
  obtain ⟨r18, hq19, h⟩ := bd1_ h
  refine r_csi C (rest := []) (c_X10_isSpanOfKnobs  hq19) fm_X10_isSpanOfKnobs lk_X10_218 rfl ⟨rfl, rfl, Nat.le_of_ble_eq_true rfl, Nat.le_of_ble_eq_true rfl⟩ (Nat.le_of_ble_eq_true rfl) rfl dX10_doubling_2 ?_
  refine r_if_ne C (tgt := 10) h dX10_doubling_5 (by decide) (fun h => ?_) (fun h => ?_)
  · refine r_aload_n C 0 rfl rfl dX10_doubling_10 ?_
    refine r_iload_n C 1 rfl rfl dX10_doubling_11 ?_
    obtain ⟨r20, I21, J22, hq23, h⟩ := bd3_ h
    refine r_cvi C (rest := []) (c_X10_periodWith  hq23) fm_X10_periodWith lk_X10_215 o_0 ⟨_, ct_9 o_0.1⟩ rfl rfl ⟨rfl, rfl, Nat.le_of_ble_eq_true rfl, Nat.le_of_ble_eq_true rfl⟩ (Nat.le_of_ble_eq_true rfl) rfl dX10_doubling_12 ?_
    refine r_istore_n C (lv1 := [(3, .int r20), (0, .ref (ad 0)), (1, .int a0), (2, .int a1)]) rfl (by decide) rfl dX10_doubling_15 ?_
    refine r_iload_n C 2 rfl rfl dX10_doubling_16 ?_
    refine r_iconst C (v := 1) (by decide) dX10_doubling_17 ?_
    refine r_iadd C dX10_doubling_18 ?_
    refine r_nmi h (fun v24 h => ?_)
    refine r_istore C (lv1 := [(4, .int v24), (3, .int r20), (0, .ref (ad 0)), (1, .int a0), (2, .int a1)]) (by decide) rfl dX10_doubling_19 ?_
    exact r_sub [2, 4, 1, 0] rfl (wL_X10_doubling_21 C hr _  h)
  · refine r_iconst C (v := -1) (by decide) dX10_doubling_8 ?_
    have hz9 := Option.some.inj h
    subst hz9
    exact r_iret C hr dX10_doubling_9
set_option maxHeartbeats 4000000 in
set_option maxRecDepth 100000 in
theorem c_X10_doubling {l : Launch} {g : GG} {ad : Nat → Nat} {a0 : Int32} {a1 : Int32} {I : HI} {J : HJ} {r : Int32} {I1 : HI} {J1 : HJ} (h : f_X10_doubling a0 a1 I J = some (r, I1, J1)) : CM l yX10_doubling cX10_doubling 6 (some .int) (rmk 9 258) g ad nO oR [.ref (ad 0), .int a0, .int a1] I J (QAi g ad nO oR r I1 J1) :=
  CM_of (by decide +kernel) (Nat.le_of_ble_eq_true rfl) (fun p e s m args below meth c C hr => w_X10_doubling C hr h)
set_option maxHeartbeats 4000000 in
set_option maxRecDepth 100000 in
theorem wB_X10_windows_34 {l : Launch} {g : GG} {ad : Nat → Nat} {p : Program} {e : Env} {s : State} {m : MethodId} {args : Array Value} {below : List Frame} {meth : Method} {c : Code} {a0 : Int32} {a1 : Int32} {z : Int32 × HI × HJ} (C : Cx p s m args meth c RX10 cX10_windows 5 g (AW ad nO)) (hr : meth.sig.returnType = (some .int)) {r_15 : Int32 → Int32 → HI → HJ → Option (Int32 × HI × HJ)} (hr_15 : ∀ {x3 : Int32} {x4 : Int32} {I : HI} {J : HJ}, r_15 x3 x4 I J = some z → V p l e (rmk 9 258) s m args below meth c (MQ below (QAi g ad nO oR z.1 z.2.1 z.2.2) args s 0 0 (AW ad nO)) 5 0 0 g (AW ad nO) ad nO oR I J 15 [(0, .ref (ad 0)), (2, .int a1), (3, .int x3), (4, .int x4)] []) {x3 : Int32} {x4 : Int32} {I : HI} {J : HJ} (h : fB_X10_windows_34 a0 a1 r_15 x3 x4 I J = some z) : V p l e (rmk 9 258) s m args below meth c (MQ below (QAi g ad nO oR z.1 z.2.1 z.2.2) args s 0 0 (AW ad nO)) 5 0 0 g (AW ad nO) ad nO oR I J 34 [(0, .ref (ad 0)), (2, .int a1), (3, .int x3), (4, .int x4)] [] := by
  unfold fB_X10_windows_34 at h
  refine r_iincN C h (k := 3) (zz := 1) rfl rfl (by decide) (lv1 := fun v9 => [(4, .int v9), (0, .ref (ad 0)), (2, .int a1), (3, .int x3)]) (fun _ => rfl) dX10_windows_34 (fun v9 h => ?_)
  refine r_goto C (tgt := 15) dX10_windows_37 (by decide) ?_
  exact r_sub [1, 2, 3, 0] rfl (hr_15  h)
set_option maxHeartbeats 4000000 in
set_option maxRecDepth 100000 in
theorem wLB_X10_windows_15 {l : Launch} {g : GG} {ad : Nat → Nat} {p : Program} {e : Env} {s : State} {m : MethodId} {args : Array Value} {below : List Frame} {meth : Method} {c : Code} {a0 : Int32} {a1 : Int32} {z : Int32 × HI × HJ} (C : Cx p s m args meth c RX10 cX10_windows 5 g (AW ad nO)) (hr : meth.sig.returnType = (some .int))  {r_15 : Int32 → Int32 → HI → HJ → Option (Int32 × HI × HJ)} (hr_15 : ∀ {x3 : Int32} {x4 : Int32} {I : HI} {J : HJ}, r_15 x3 x4 I J = some z → V p l e (rmk 9 258) s m args below meth c (MQ below (QAi g ad nO oR z.1 z.2.1 z.2.2) args s 0 0 (AW ad nO)) 5 0 0 g (AW ad nO) ad nO oR I J 15 [(0, .ref (ad 0)), (2, .int a1), (3, .int x3), (4, .int x4)] []) {x3 : Int32} {x4 : Int32} {I : HI} {J : HJ} (h : fLB_X10_windows_15 a0 a1 r_15 x3 x4 I J = some z) : V p l e (rmk 9 258) s m args below meth c (MQ below (QAi g ad nO oR z.1 z.2.1 z.2.2) args s 0 0 (AW ad nO)) 5 0 0 g (AW ad nO) ad nO oR I J 15 [(0, .ref (ad 0)), (2, .int a1), (3, .int x3), (4, .int x4)] [] := by
  unfold fLB_X10_windows_15 at h
  refine r_iload C 3 rfl dX10_windows_15 ?_
  refine r_iload_n C 1 rfl rfl dX10_windows_17 ?_
  refine r_icmp_gt C (tgt := 40) h dX10_windows_18 (by decide) (fun h => ?_) (fun h => ?_)
  · refine r_iload_n C 2 rfl rfl dX10_windows_40 ?_
    have hz9 := Option.some.inj h
    subst hz9
    exact r_iret C hr dX10_windows_41
  · refine r_aload_n C 0 rfl rfl dX10_windows_21 ?_
    refine r_iload C 3 rfl dX10_windows_22 ?_
    obtain ⟨r10, I11, J12, hq13, h⟩ := bd3_ h
    refine r_cvi C (rest := []) (c_X10_periodWith  hq13) fm_X10_periodWith lk_X10_215 o_0 ⟨_, ct_9 o_0.1⟩ rfl rfl ⟨rfl, rfl, Nat.le_of_ble_eq_true rfl, Nat.le_of_ble_eq_true rfl⟩ (Nat.le_of_ble_eq_true rfl) rfl dX10_windows_24 ?_
    refine r_iconst C (v := 3) (by decide) dX10_windows_27 ?_
    refine r_icmp_ne C (tgt := 34) h dX10_windows_28 (by decide) (fun h => ?_) (fun h => ?_)
    · exact wB_X10_windows_34 C hr hr_15  h
    · refine r_iincN C h (k := 2) (zz := 1) rfl rfl (by decide) (lv1 := fun v14 => [(3, .int v14), (0, .ref (ad 0)), (2, .int a1), (4, .int x4)]) (fun _ => rfl) dX10_windows_31 (fun v14 h => ?_)
      exact r_sub [1, 2, 0, 3] rfl (wB_X10_windows_34 C hr hr_15  h)
set_option maxHeartbeats 4000000 in
set_option maxRecDepth 100000 in
theorem wL_X10_windows_15 {l : Launch} {g : GG} {ad : Nat → Nat} {p : Program} {e : Env} {s : State} {m : MethodId} {args : Array Value} {below : List Frame} {meth : Method} {c : Code} {a0 : Int32} {a1 : Int32} {z : Int32 × HI × HJ} (C : Cx p s m args meth c RX10 cX10_windows 5 g (AW ad nO)) (hr : meth.sig.returnType = (some .int))  : ∀ (f : Nat) {x3 : Int32} {x4 : Int32} {I : HI} {J : HJ}, fL_X10_windows_15 a0 a1 f x3 x4 I J = some z → V p l e (rmk 9 258) s m args below meth c (MQ below (QAi g ad nO oR z.1 z.2.1 z.2.2) args s 0 0 (AW ad nO)) 5 0 0 g (AW ad nO) ad nO oR I J 15 [(0, .ref (ad 0)), (2, .int a1), (3, .int x3), (4, .int x4)] [] := by
  intro f
  induction f with
  | zero =>
    intro _ _ _ _  h
    have h0 : (none : Option (Int32 × HI × HJ)) = some z := h
    cases h0
  | succ f ih =>
    intro _ _ _ _  h
    exact wLB_X10_windows_15 C hr ih  h
set_option maxHeartbeats 4000000 in
set_option maxRecDepth 100000 in
theorem w_X10_windows {l : Launch} {g : GG} {ad : Nat → Nat} {p : Program} {e : Env} {s : State} {m : MethodId} {args : Array Value} {below : List Frame} {meth : Method} {c : Code} {a0 : Int32} {a1 : Int32} {z : Int32 × HI × HJ} (C : Cx p s m args meth c RX10 cX10_windows 5 g (AW ad nO)) (hr : meth.sig.returnType = (some .int)) {I : HI} {J : HJ} (h : f_X10_windows a0 a1 I J = some z) : V p l e (rmk 9 258) s m args below meth c (MQ below (QAi g ad nO oR z.1 z.2.1 z.2.2) args s 0 0 (AW ad nO)) 5 0 0 g (AW ad nO) ad nO oR I J 0 [(0, .ref (ad 0)), (1, .int a0), (2, .int a1)] [] := by
  unfold f_X10_windows at h
  refine r_iload_n C 1 rfl rfl dX10_windows_0 ?_
  refine r_iload_n C 2 rfl rfl dX10_windows_1 ?_
  obtain ⟨r15, hq16, h⟩ := bd1_ h
  refine r_csi C (rest := []) (c_X10_isSpanOfKnobs  hq16) fm_X10_isSpanOfKnobs lk_X10_218 rfl ⟨rfl, rfl, Nat.le_of_ble_eq_true rfl, Nat.le_of_ble_eq_true rfl⟩ (Nat.le_of_ble_eq_true rfl) rfl dX10_windows_2 ?_
  refine r_if_ne C (tgt := 10) h dX10_windows_5 (by decide) (fun h => ?_) (fun h => ?_)
  · refine r_iconst C (v := 0) (by decide) dX10_windows_10 ?_
    refine r_istore_n C (lv1 := [(3, .int (0 : Int32)), (0, .ref (ad 0)), (1, .int a0), (2, .int a1)]) rfl (by decide) rfl dX10_windows_11 ?_
    refine r_iload_n C 2 rfl rfl dX10_windows_12 ?_
    refine r_istore C (lv1 := [(4, .int a0), (3, .int (0 : Int32)), (0, .ref (ad 0)), (1, .int a0), (2, .int a1)]) (by decide) rfl dX10_windows_13 ?_
    exact r_sub [2, 4, 1, 0] rfl (wL_X10_windows_15 C hr _  h)
  · refine r_iconst C (v := -1) (by decide) dX10_windows_8 ?_
    have hz9 := Option.some.inj h
    subst hz9
    exact r_iret C hr dX10_windows_9
set_option maxHeartbeats 4000000 in
set_option maxRecDepth 100000 in
theorem c_X10_windows {l : Launch} {g : GG} {ad : Nat → Nat} {a0 : Int32} {a1 : Int32} {I : HI} {J : HJ} {r : Int32} {I1 : HI} {J1 : HJ} (h : f_X10_windows a0 a1 I J = some (r, I1, J1)) : CM l yX10_windows cX10_windows 5 (some .int) (rmk 9 258) g ad nO oR [.ref (ad 0), .int a0, .int a1] I J (QAi g ad nO oR r I1 J1) :=
  CM_of (by decide +kernel) (Nat.le_of_ble_eq_true rfl) (fun p e s m args below meth c C hr => w_X10_windows C hr h)
set_option maxHeartbeats 4000000 in
set_option maxRecDepth 100000 in
theorem w_X10_isEvenWith {l : Launch} {g : GG} {ad : Nat → Nat} {p : Program} {e : Env} {s : State} {m : MethodId} {args : Array Value} {below : List Frame} {meth : Method} {c : Code} {a0 : Int32} {a1 : Int32} {z : Int32 × HI × HJ} (C : Cx p s m args meth c RX10 cX10_isEvenWith 3 g (AW ad nO)) (hr : meth.sig.returnType = (some .boolean)) {I : HI} {J : HJ} (h : f_X10_isEvenWith a0 a1 I J = some z) : V p l e (rmk 8 237) s m args below meth c (MQ below (QAi g ad nO oR z.1 z.2.1 z.2.2) args s 0 0 (AW ad nO)) 3 0 0 g (AW ad nO) ad nO oR I J 0 [(0, .ref (ad 0)), (1, .int a0), (2, .int a1)] [] := by
  unfold f_X10_isEvenWith at h
  refine r_aload_n C 0 rfl rfl dX10_isEvenWith_0 ?_
  refine gf_X10_39 C rf0 o_0 (q := 53) rfl dX10_isEvenWith_1 ?_
  refine r_aload_n C 0 rfl rfl dX10_isEvenWith_4 ?_
  refine gf_X10_10 C rf0 o_0 (q := 1) rfl dX10_isEvenWith_5 ?_
  obtain ⟨I10, J11, hq12, h⟩ := bd2_ h
  refine r_cvv C (rest := []) (c_X7_goOnFrom o_53 o_1 hq12) fm_X7_goOnFrom lk_X10_225 o_53 ⟨_, ct_6 o_53.1⟩ rfl rfl ⟨rfl, rfl, Nat.le_of_ble_eq_true rfl, Nat.le_of_ble_eq_true rfl⟩ (Nat.le_of_ble_eq_true rfl) rfl dX10_isEvenWith_8 ?_
  refine r_aload_n C 0 rfl rfl dX10_isEvenWith_11 ?_
  refine gf_X10_39 C rf0 o_0 (q := 53) rfl dX10_isEvenWith_12 ?_
  refine r_dup C rfl dX10_isEvenWith_15 ?_
  refine gf_X10_111 C o_53 dX10_isEvenWith_16 ?_
  refine r_iload_n C 1 rfl rfl dX10_isEvenWith_19 ?_
  refine r_pc (pc1 := 20) rfl ?_
  refine r_iadd C dX10_isEvenWith_20 ?_
  refine pf_X10_111 C o_53 dX10_isEvenWith_21 ?_
  refine r_nmI h (fun I13 h => ?_)
  refine r_aload_n C 0 rfl rfl dX10_isEvenWith_24 ?_
  refine gf_X10_39 C rf0 o_0 (q := 53) rfl dX10_isEvenWith_25 ?_
  refine r_iload_n C 2 rfl rfl dX10_isEvenWith_28 ?_
  refine r_aload_n C 0 rfl rfl dX10_isEvenWith_29 ?_
  refine gf_X10_19 C rf0 o_0 (q := 4) rfl dX10_isEvenWith_30 ?_
  refine r_pc (pc1 := 33) rfl ?_
  obtain ⟨I14, J15, hq16, h⟩ := bd2_ h
  refine r_cvv C (rest := []) (c_X7_fillRow o_53 o_4 hq16) fm_X7_fillRow lk_X10_229 o_53 ⟨_, ct_6 o_53.1⟩ rfl rfl ⟨rfl, rfl, Nat.le_of_ble_eq_true rfl, Nat.le_of_ble_eq_true rfl⟩ (Nat.le_of_ble_eq_true rfl) rfl dX10_isEvenWith_33 ?_
  refine r_aload_n C 0 rfl rfl dX10_isEvenWith_36 ?_
  refine gf_X10_39 C rf0 o_0 (q := 53) rfl dX10_isEvenWith_37 ?_
  refine gf_X10_162 C rf0 o_53 (q := 54) rfl dX10_isEvenWith_40 ?_
  obtain ⟨r17, hq18, h⟩ := bd1_ h
  refine r_cvi C (rest := []) (c_X9_findKind o_54 hq18) fm_X9_findKind lk_X10_186 o_54 ⟨_, ct_8 o_54.1⟩ rfl rfl ⟨rfl, rfl, Nat.le_of_ble_eq_true rfl, Nat.le_of_ble_eq_true rfl⟩ (Nat.le_of_ble_eq_true rfl) rfl dX10_isEvenWith_43 ?_
  refine r_iconst C (v := 1) (by decide) dX10_isEvenWith_46 ?_
  refine r_icmp_ne C (tgt := 54) h dX10_isEvenWith_47 (by decide) (fun h => ?_) (fun h => ?_)
  · refine r_iconst C (v := 0) (by decide) dX10_isEvenWith_54 ?_
    have hz9 := Option.some.inj h
    subst hz9
    exact r_zret C (v := (0 : Int32)) rfl hr dX10_isEvenWith_55
  · refine r_iconst C (v := 1) (by decide) dX10_isEvenWith_50 ?_
    refine r_goto C (tgt := 55) dX10_isEvenWith_51 (by decide) ?_
    have hz9 := Option.some.inj h
    subst hz9
    exact r_zret C (v := (1 : Int32)) rfl hr dX10_isEvenWith_55
set_option maxHeartbeats 4000000 in
set_option maxRecDepth 100000 in
theorem c_X10_isEvenWith {l : Launch} {g : GG} {ad : Nat → Nat} {a0 : Int32} {a1 : Int32} {I : HI} {J : HJ} {r : Int32} {I1 : HI} {J1 : HJ} (h : f_X10_isEvenWith a0 a1 I J = some (r, I1, J1)) : CM l yX10_isEvenWith cX10_isEvenWith 3 (some .boolean) (rmk 8 237) g ad nO oR [.ref (ad 0), .int a0, .int a1] I J (QAi g ad nO oR r I1 J1) :=
  CM_of (by decide +kernel) (Nat.le_of_ble_eq_true rfl) (fun p e s m args below meth c C hr => w_X10_isEvenWith C hr h)
set_option maxHeartbeats 4000000 in
set_option maxRecDepth 100000 in
theorem wLB_X10_touch_15 {l : Launch} {g : GG} {ad : Nat → Nat} {p : Program} {e : Env} {s : State} {m : MethodId} {args : Array Value} {below : List Frame} {meth : Method} {c : Code} {a0 : Int32} {z : Int32 × HI × HJ} (C : Cx p s m args meth c RX10 cX10_touch 3 g (AW ad nO)) (hr : meth.sig.returnType = (some .int))  {r_15 : Int32 → HI → HJ → Option (Int32 × HI × HJ)} (hr_15 : ∀ {x2 : Int32} {I : HI} {J : HJ}, r_15 x2 I J = some z → V p l e (rmk 9 259) s m args below meth c (MQ below (QAi g ad nO oR z.1 z.2.1 z.2.2) args s 0 0 (AW ad nO)) 3 0 0 g (AW ad nO) ad nO oR I J 15 [(0, .ref (ad 0)), (1, .int a0), (2, .int x2)] []) {x2 : Int32} {I : HI} {J : HJ} (h : fLB_X10_touch_15 a0 r_15 x2 I J = some z) : V p l e (rmk 9 259) s m args below meth c (MQ below (QAi g ad nO oR z.1 z.2.1 z.2.2) args s 0 0 (AW ad nO)) 3 0 0 g (AW ad nO) ad nO oR I J 15 [(0, .ref (ad 0)), (1, .int a0), (2, .int x2)] [] := by
  unfold fLB_X10_touch_15 at h
  refine r_iload_n C 2 rfl rfl dX10_touch_15 ?_
  refine r_bipush C (v := 30) (by decide) dX10_touch_16 ?_
  refine r_icmp_gt C (tgt := 56) h dX10_touch_18 (by decide) (fun h => ?_) (fun h => ?_)
  · refine r_bipush C (v := -3) (by decide) dX10_touch_56 ?_
    have hz9 := Option.some.inj h
    subst hz9
    exact r_iret C hr dX10_touch_58
  · refine r_aload_n C 0 rfl rfl dX10_touch_21 ?_
    refine r_iload_n C 2 rfl rfl dX10_touch_22 ?_
    refine r_iload_n C 1 rfl rfl dX10_touch_23 ?_
    obtain ⟨r12, I13, J14, hq15, h⟩ := bd3_ h
    refine r_cvi C (rest := []) (c_X10_isEvenWith  hq15) fm_X10_isEvenWith lk_X10_222 o_0 ⟨_, ct_9 o_0.1⟩ rfl rfl ⟨rfl, rfl, Nat.le_of_ble_eq_true rfl, Nat.le_of_ble_eq_true rfl⟩ (Nat.le_of_ble_eq_true rfl) rfl dX10_touch_24 ?_
    refine r_if_eq C (tgt := 35) h dX10_touch_27 (by decide) (fun h => ?_) (fun h => ?_)
    · refine r_aload_n C 0 rfl rfl dX10_touch_35 ?_
      refine r_iload_n C 2 rfl rfl dX10_touch_36 ?_
      refine r_ineg C dX10_touch_37 ?_
      refine r_iload_n C 1 rfl rfl dX10_touch_38 ?_
      obtain ⟨r16, I17, J18, hq19, h⟩ := bd3_ h
      refine r_cvi C (rest := []) (c_X10_isEvenWith  hq19) fm_X10_isEvenWith lk_X10_222 o_0 ⟨_, ct_9 o_0.1⟩ rfl rfl ⟨rfl, rfl, Nat.le_of_ble_eq_true rfl, Nat.le_of_ble_eq_true rfl⟩ (Nat.le_of_ble_eq_true rfl) rfl dX10_touch_39 ?_
      refine r_if_eq C (tgt := 50) h dX10_touch_42 (by decide) (fun h => ?_) (fun h => ?_)
      · refine r_iincN C h (k := 2) (zz := 1) rfl rfl (by decide) (lv1 := fun v20 => [(2, .int v20), (0, .ref (ad 0)), (1, .int a0)]) (fun _ => rfl) dX10_touch_50 (fun v20 h => ?_)
        refine r_goto C (tgt := 15) dX10_touch_53 (by decide) ?_
        exact r_sub [1, 2, 0] rfl (hr_15  h)
      · refine r_bipush C (v := 100) (by decide) dX10_touch_45 ?_
        refine r_iload_n C 2 rfl rfl dX10_touch_47 ?_
        refine r_isub C dX10_touch_48 ?_
        have hz9 := Option.some.inj h
        subst hz9
        exact r_iret C hr dX10_touch_49
    · refine r_bipush C (v := 100) (by decide) dX10_touch_30 ?_
      refine r_iload_n C 2 rfl rfl dX10_touch_32 ?_
      refine r_iadd C dX10_touch_33 ?_
      have hz9 := Option.some.inj h
      subst hz9
      exact r_iret C hr dX10_touch_34
set_option maxHeartbeats 4000000 in
set_option maxRecDepth 100000 in
theorem wL_X10_touch_15 {l : Launch} {g : GG} {ad : Nat → Nat} {p : Program} {e : Env} {s : State} {m : MethodId} {args : Array Value} {below : List Frame} {meth : Method} {c : Code} {a0 : Int32} {z : Int32 × HI × HJ} (C : Cx p s m args meth c RX10 cX10_touch 3 g (AW ad nO)) (hr : meth.sig.returnType = (some .int))  : ∀ (f : Nat) {x2 : Int32} {I : HI} {J : HJ}, fL_X10_touch_15 a0 f x2 I J = some z → V p l e (rmk 9 259) s m args below meth c (MQ below (QAi g ad nO oR z.1 z.2.1 z.2.2) args s 0 0 (AW ad nO)) 3 0 0 g (AW ad nO) ad nO oR I J 15 [(0, .ref (ad 0)), (1, .int a0), (2, .int x2)] [] := by
  intro f
  induction f with
  | zero =>
    intro _ _ _  h
    have h0 : (none : Option (Int32 × HI × HJ)) = some z := h
    cases h0
  | succ f ih =>
    intro _ _ _  h
    exact wLB_X10_touch_15 C hr ih  h
set_option maxHeartbeats 4000000 in
set_option maxRecDepth 100000 in
theorem w_X10_touch {l : Launch} {g : GG} {ad : Nat → Nat} {p : Program} {e : Env} {s : State} {m : MethodId} {args : Array Value} {below : List Frame} {meth : Method} {c : Code} {a0 : Int32} {z : Int32 × HI × HJ} (C : Cx p s m args meth c RX10 cX10_touch 3 g (AW ad nO)) (hr : meth.sig.returnType = (some .int)) {I : HI} {J : HJ} (h : f_X10_touch a0 I J = some z) : V p l e (rmk 9 259) s m args below meth c (MQ below (QAi g ad nO oR z.1 z.2.1 z.2.2) args s 0 0 (AW ad nO)) 3 0 0 g (AW ad nO) ad nO oR I J 0 [(0, .ref (ad 0)), (1, .int a0)] [] := by
  unfold f_X10_touch at h
  refine r_iload_n C 1 rfl rfl dX10_touch_0 ?_
  refine r_iconst C (v := 1) (by decide) dX10_touch_1 ?_
  refine r_sipush C (v := 400) (by decide) dX10_touch_2 ?_
  obtain ⟨r21, hq22, h⟩ := bd1_ h
  refine r_csi C (rest := []) (c_X10_isWithin  hq22) fm_X10_isWithin lk_X10_80 rfl ⟨rfl, rfl, Nat.le_of_ble_eq_true rfl, Nat.le_of_ble_eq_true rfl⟩ (Nat.le_of_ble_eq_true rfl) rfl dX10_touch_5 ?_
  refine r_if_ne C (tgt := 13) h dX10_touch_8 (by decide) (fun h => ?_) (fun h => ?_)
  · refine r_iconst C (v := 0) (by decide) dX10_touch_13 ?_
    refine r_istore_n C (lv1 := [(2, .int (0 : Int32)), (0, .ref (ad 0)), (1, .int a0)]) rfl (by decide) rfl dX10_touch_14 ?_
    exact r_sub [1, 2, 0] rfl (wL_X10_touch_15 C hr _  h)
  · refine r_iconst C (v := -1) (by decide) dX10_touch_11 ?_
    have hz9 := Option.some.inj h
    subst hz9
    exact r_iret C hr dX10_touch_12
set_option maxHeartbeats 4000000 in
set_option maxRecDepth 100000 in
theorem c_X10_touch {l : Launch} {g : GG} {ad : Nat → Nat} {a0 : Int32} {I : HI} {J : HJ} {r : Int32} {I1 : HI} {J1 : HJ} (h : f_X10_touch a0 I J = some (r, I1, J1)) : CM l yX10_touch cX10_touch 3 (some .int) (rmk 9 259) g ad nO oR [.ref (ad 0), .int a0] I J (QAi g ad nO oR r I1 J1) :=
  CM_of (by decide +kernel) (Nat.le_of_ble_eq_true rfl) (fun p e s m args below meth c C hr => w_X10_touch C hr h)
set_option maxHeartbeats 4000000 in
set_option maxRecDepth 100000 in
theorem w_X10_lost {l : Launch} {g : GG} {ad : Nat → Nat} {p : Program} {e : Env} {s : State} {m : MethodId} {args : Array Value} {below : List Frame} {meth : Method} {c : Code} {a0 : Int32} {z : Int32 × HI × HJ} (C : Cx p s m args meth c RX10 cX10_lost 3 g (AW ad nO)) (hr : meth.sig.returnType = (some .int)) {I : HI} {J : HJ} (h : f_X10_lost a0 I J = some z) : V p l e (rmk 8 237) s m args below meth c (MQ below (QAi g ad nO oR z.1 z.2.1 z.2.2) args s 0 0 (AW ad nO)) 3 0 0 g (AW ad nO) ad nO oR I J 0 [(0, .ref (ad 0)), (1, .int a0)] [] := by
  unfold f_X10_lost at h
  refine r_iload_n C 1 rfl rfl dX10_lost_0 ?_
  refine r_iconst C (v := 0) (by decide) dX10_lost_1 ?_
  refine r_sipush C (v := 999) (by decide) dX10_lost_2 ?_
  obtain ⟨r19, hq20, h⟩ := bd1_ h
  refine r_csi C (rest := []) (c_X10_isWithin  hq20) fm_X10_isWithin lk_X10_80 rfl ⟨rfl, rfl, Nat.le_of_ble_eq_true rfl, Nat.le_of_ble_eq_true rfl⟩ (Nat.le_of_ble_eq_true rfl) rfl dX10_lost_5 ?_
  refine r_if_ne C (tgt := 13) h dX10_lost_8 (by decide) (fun h => ?_) (fun h => ?_)
  · refine r_aload_n C 0 rfl rfl dX10_lost_13 ?_
    refine gf_X10_39 C rf0 o_0 (q := 53) rfl dX10_lost_14 ?_
    refine r_aload_n C 0 rfl rfl dX10_lost_17 ?_
    refine gf_X10_10 C rf0 o_0 (q := 1) rfl dX10_lost_18 ?_
    obtain ⟨I21, J22, hq23, h⟩ := bd2_ h
    refine r_cvv C (rest := []) (c_X7_goOnFrom o_53 o_1 hq23) fm_X7_goOnFrom lk_X10_225 o_53 ⟨_, ct_6 o_53.1⟩ rfl rfl ⟨rfl, rfl, Nat.le_of_ble_eq_true rfl, Nat.le_of_ble_eq_true rfl⟩ (Nat.le_of_ble_eq_true rfl) rfl dX10_lost_21 ?_
    refine r_aload_n C 0 rfl rfl dX10_lost_24 ?_
    refine gf_X10_39 C rf0 o_0 (q := 53) rfl dX10_lost_25 ?_
    refine r_sipush C (v := 400) (by decide) dX10_lost_28 ?_
    refine r_aload_n C 0 rfl rfl dX10_lost_31 ?_
    refine gf_X10_19 C rf0 o_0 (q := 4) rfl dX10_lost_32 ?_
    refine r_pc (pc1 := 35) rfl ?_
    obtain ⟨I24, J25, hq26, h⟩ := bd2_ h
    refine r_cvv C (rest := []) (c_X7_fillRow o_53 o_4 hq26) fm_X7_fillRow lk_X10_229 o_53 ⟨_, ct_6 o_53.1⟩ rfl rfl ⟨rfl, rfl, Nat.le_of_ble_eq_true rfl, Nat.le_of_ble_eq_true rfl⟩ (Nat.le_of_ble_eq_true rfl) rfl dX10_lost_35 ?_
    refine r_aload_n C 0 rfl rfl dX10_lost_38 ?_
    refine gf_X10_42 C rf0 o_0 (q := 56) rfl dX10_lost_39 ?_
    refine r_aload_n C 0 rfl rfl dX10_lost_42 ?_
    refine gf_X10_10 C rf0 o_0 (q := 1) rfl dX10_lost_43 ?_
    obtain ⟨I27, J28, hq29, h⟩ := bd2_ h
    refine r_cvv C (rest := []) (c_X7_goOnFrom o_56 o_1 hq29) fm_X7_goOnFrom lk_X10_225 o_56 ⟨_, ct_6 o_56.1⟩ rfl rfl ⟨rfl, rfl, Nat.le_of_ble_eq_true rfl, Nat.le_of_ble_eq_true rfl⟩ (Nat.le_of_ble_eq_true rfl) rfl dX10_lost_46 ?_
    refine r_aload_n C 0 rfl rfl dX10_lost_49 ?_
    refine gf_X10_42 C rf0 o_0 (q := 56) rfl dX10_lost_50 ?_
    refine r_iload_n C 1 rfl rfl dX10_lost_53 ?_
    obtain ⟨I30, hq31, h⟩ := bd1_ h
    refine r_cvv C (rest := []) (c_X7_addWeight o_56 hq31) fm_X7_addWeight lk_X10_233 o_56 ⟨_, ct_6 o_56.1⟩ rfl rfl ⟨rfl, rfl, Nat.le_of_ble_eq_true rfl, Nat.le_of_ble_eq_true rfl⟩ (Nat.le_of_ble_eq_true rfl) rfl dX10_lost_54 ?_
    refine r_aload_n C 0 rfl rfl dX10_lost_57 ?_
    refine gf_X10_42 C rf0 o_0 (q := 56) rfl dX10_lost_58 ?_
    refine r_sipush C (v := 400) (by decide) dX10_lost_61 ?_
    refine r_aload_n C 0 rfl rfl dX10_lost_64 ?_
    refine gf_X10_19 C rf0 o_0 (q := 4) rfl dX10_lost_65 ?_
    refine r_pc (pc1 := 68) rfl ?_
    obtain ⟨I32, J33, hq34, h⟩ := bd2_ h
    refine r_cvv C (rest := []) (c_X7_fillRow o_56 o_4 hq34) fm_X7_fillRow lk_X10_229 o_56 ⟨_, ct_6 o_56.1⟩ rfl rfl ⟨rfl, rfl, Nat.le_of_ble_eq_true rfl, Nat.le_of_ble_eq_true rfl⟩ (Nat.le_of_ble_eq_true rfl) rfl dX10_lost_68 ?_
    refine r_aload_n C 0 rfl rfl dX10_lost_71 ?_
    refine gf_X10_39 C rf0 o_0 (q := 53) rfl dX10_lost_72 ?_
    refine gf_X10_162 C rf0 o_53 (q := 54) rfl dX10_lost_75 ?_
    refine r_aload_n C 0 rfl rfl dX10_lost_78 ?_
    refine gf_X10_42 C rf0 o_0 (q := 56) rfl dX10_lost_79 ?_
    refine r_pc (pc1 := 82) rfl ?_
    refine gf_X10_162 C rf0 o_56 (q := 57) rfl dX10_lost_82 ?_
    obtain ⟨r35, hq36, h⟩ := bd1_ h
    refine r_cvi C (rest := []) (c_X9_firstUnlike o_54 o_57 hq36) fm_X9_firstUnlike lk_X10_237 o_54 ⟨_, ct_8 o_54.1⟩ rfl rfl ⟨rfl, rfl, Nat.le_of_ble_eq_true rfl, Nat.le_of_ble_eq_true rfl⟩ (Nat.le_of_ble_eq_true rfl) rfl dX10_lost_85 ?_
    refine r_istore_n C (lv1 := [(2, .int r35), (0, .ref (ad 0)), (1, .int a0)]) rfl (by decide) rfl dX10_lost_88 ?_
    refine r_iload_n C 0 rfl rfl dX10_lost_89 ?_
    refine r_if_ge C (tgt := 98) h dX10_lost_90 (by decide) (fun h => ?_) (fun h => ?_)
    · refine r_iload_n C 0 rfl rfl dX10_lost_98 ?_
      have hz9 := Option.some.inj h
      subst hz9
      exact r_iret C hr dX10_lost_99
    · refine r_bipush C (v := -3) (by decide) dX10_lost_93 ?_
      refine r_goto C (tgt := 99) dX10_lost_95 (by decide) ?_
      have hz9 := Option.some.inj h
      subst hz9
      exact r_iret C hr dX10_lost_99
  · refine r_iconst C (v := -1) (by decide) dX10_lost_11 ?_
    have hz9 := Option.some.inj h
    subst hz9
    exact r_iret C hr dX10_lost_12
set_option maxHeartbeats 4000000 in
set_option maxRecDepth 100000 in
theorem c_X10_lost {l : Launch} {g : GG} {ad : Nat → Nat} {a0 : Int32} {I : HI} {J : HJ} {r : Int32} {I1 : HI} {J1 : HJ} (h : f_X10_lost a0 I J = some (r, I1, J1)) : CM l yX10_lost cX10_lost 3 (some .int) (rmk 8 237) g ad nO oR [.ref (ad 0), .int a0] I J (QAi g ad nO oR r I1 J1) :=
  CM_of (by decide +kernel) (Nat.le_of_ble_eq_true rfl) (fun p e s m args below meth c C hr => w_X10_lost C hr h)
set_option maxHeartbeats 4000000 in
set_option maxRecDepth 100000 in
theorem wB_X10_prove_91 {l : Launch} {g : GG} {ad : Nat → Nat} {p : Program} {e : Env} {s : State} {m : MethodId} {args : Array Value} {below : List Frame} {meth : Method} {c : Code} {a0 : Int32} {z : Int32 × HI × HJ} (C : Cx p s m args meth c RX10 cX10_prove 3 g (AW ad nO)) (hr : meth.sig.returnType = (some .int))  {I : HI} {J : HJ} (h : fB_X10_prove_91 a0 I J = some z) : V p l e (rmk 7 214) s m args below meth c (MQ below (QAi g ad nO oR z.1 z.2.1 z.2.2) args s 0 0 (AW ad nO)) 3 0 0 g (AW ad nO) ad nO oR I J 91 [(0, .ref (ad 0))] [] := by
  unfold fB_X10_prove_91 at h
  refine r_aload_n C 0 rfl rfl dX10_prove_91 ?_
  refine gf_X10_55 C rf0 o_0 (q := 70) rfl dX10_prove_92 ?_
  obtain ⟨r19, hq20, h⟩ := bd1_ h
  refine r_cvi C (rest := []) (c_X3_size  hq20) fm_X3_size lk_X10_244 o_70 ⟨_, ct_2 o_70.1⟩ rfl rfl ⟨rfl, rfl, Nat.le_of_ble_eq_true rfl, Nat.le_of_ble_eq_true rfl⟩ (Nat.le_of_ble_eq_true rfl) rfl dX10_prove_95 ?_
  have hz9 := Option.some.inj h
  subst hz9
  exact r_iret C hr dX10_prove_98
set_option maxHeartbeats 4000000 in
set_option maxRecDepth 100000 in
theorem wB_X10_prove_85 {l : Launch} {g : GG} {ad : Nat → Nat} {p : Program} {e : Env} {s : State} {m : MethodId} {args : Array Value} {below : List Frame} {meth : Method} {c : Code} {a0 : Int32} {z : Int32 × HI × HJ} (C : Cx p s m args meth c RX10 cX10_prove 3 g (AW ad nO)) (hr : meth.sig.returnType = (some .int)) {r_32 : Int32 → HI → HJ → Option (Int32 × HI × HJ)} (hr_32 : ∀ {x2 : Int32} {I : HI} {J : HJ}, r_32 x2 I J = some z → V p l e (rmk 7 214) s m args below meth c (MQ below (QAi g ad nO oR z.1 z.2.1 z.2.2) args s 0 0 (AW ad nO)) 3 0 0 g (AW ad nO) ad nO oR I J 32 [(0, .ref (ad 0)), (1, .int a0), (2, .int x2)] []) {x2 : Int32} {I : HI} {J : HJ} (h : fB_X10_prove_85 a0 r_32 x2 I J = some z) : V p l e (rmk 7 214) s m args below meth c (MQ below (QAi g ad nO oR z.1 z.2.1 z.2.2) args s 0 0 (AW ad nO)) 3 0 0 g (AW ad nO) ad nO oR I J 85 [(0, .ref (ad 0)), (1, .int a0), (2, .int x2)] [] := by
  unfold fB_X10_prove_85 at h
  refine r_iincN C h (k := 2) (zz := 1) rfl rfl (by decide) (lv1 := fun v21 => [(2, .int v21), (0, .ref (ad 0)), (1, .int a0)]) (fun _ => rfl) dX10_prove_85 (fun v21 h => ?_)
  refine r_goto C (tgt := 32) dX10_prove_88 (by decide) ?_
  exact r_sub [1, 2, 0] rfl (hr_32  h)
set_option maxHeartbeats 4000000 in
set_option maxRecDepth 100000 in
theorem wLB_X10_prove_32 {l : Launch} {g : GG} {ad : Nat → Nat} {p : Program} {e : Env} {s : State} {m : MethodId} {args : Array Value} {below : List Frame} {meth : Method} {c : Code} {a0 : Int32} {z : Int32 × HI × HJ} (C : Cx p s m args meth c RX10 cX10_prove 3 g (AW ad nO)) (hr : meth.sig.returnType = (some .int))  {r_32 : Int32 → HI → HJ → Option (Int32 × HI × HJ)} (hr_32 : ∀ {x2 : Int32} {I : HI} {J : HJ}, r_32 x2 I J = some z → V p l e (rmk 7 214) s m args below meth c (MQ below (QAi g ad nO oR z.1 z.2.1 z.2.2) args s 0 0 (AW ad nO)) 3 0 0 g (AW ad nO) ad nO oR I J 32 [(0, .ref (ad 0)), (1, .int a0), (2, .int x2)] []) {x2 : Int32} {I : HI} {J : HJ} (h : fLB_X10_prove_32 a0 r_32 x2 I J = some z) : V p l e (rmk 7 214) s m args below meth c (MQ below (QAi g ad nO oR z.1 z.2.1 z.2.2) args s 0 0 (AW ad nO)) 3 0 0 g (AW ad nO) ad nO oR I J 32 [(0, .ref (ad 0)), (1, .int a0), (2, .int x2)] [] := by
  unfold fLB_X10_prove_32 at h
  refine r_iload_n C 2 rfl rfl dX10_prove_32 ?_
  refine r_sipush C (v := 400) (by decide) dX10_prove_33 ?_
  refine r_icmp_ge C (tgt := 91) h dX10_prove_36 (by decide) (fun h => ?_) (fun h => ?_)
  · exact r_sub [0] rfl (wB_X10_prove_91 C hr  h)
  · refine r_aload_n C 0 rfl rfl dX10_prove_39 ?_
    refine gf_X10_55 C rf0 o_0 (q := 70) rfl dX10_prove_40 ?_
    obtain ⟨r22, hq23, h⟩ := bd1_ h
    refine r_cvi C (rest := []) (c_X3_size  hq23) fm_X3_size lk_X10_244 o_70 ⟨_, ct_2 o_70.1⟩ rfl rfl ⟨rfl, rfl, Nat.le_of_ble_eq_true rfl, Nat.le_of_ble_eq_true rfl⟩ (Nat.le_of_ble_eq_true rfl) rfl dX10_prove_43 ?_
    refine r_iload_n C 1 rfl rfl dX10_prove_46 ?_
    refine r_icmp_ge C (tgt := 91) h dX10_prove_47 (by decide) (fun h => ?_) (fun h => ?_)
    · exact r_sub [0] rfl (wB_X10_prove_91 C hr  h)
    · refine r_aload_n C 0 rfl rfl dX10_prove_50 ?_
      refine gf_X10_39 C rf0 o_0 (q := 53) rfl dX10_prove_51 ?_
      refine r_aload_n C 0 rfl rfl dX10_prove_54 ?_
      refine gf_X10_19 C rf0 o_0 (q := 4) rfl dX10_prove_55 ?_
      obtain ⟨r24, I25, J26, hq27, h⟩ := bd3_ h
      refine r_cvi C (rest := []) (c_X7_goOneTick o_53 o_4 hq27) fm_X7_goOneTick lk_X10_101 o_53 ⟨_, ct_6 o_53.1⟩ rfl rfl ⟨rfl, rfl, Nat.le_of_ble_eq_true rfl, Nat.le_of_ble_eq_true rfl⟩ (Nat.le_of_ble_eq_true rfl) rfl dX10_prove_58 ?_
      refine r_if_eq C (tgt := 85) h dX10_prove_61 (by decide) (fun h => ?_) (fun h => ?_)
      · exact wB_X10_prove_85 C hr hr_32  h
      · refine r_aload_n C 0 rfl rfl dX10_prove_64 ?_
        refine gf_X10_55 C rf0 o_0 (q := 70) rfl dX10_prove_65 ?_
        refine r_aload_n C 0 rfl rfl dX10_prove_68 ?_
        refine gf_X10_39 C rf0 o_0 (q := 53) rfl dX10_prove_69 ?_
        refine gf_X10_245 C o_53 dX10_prove_72 ?_
        refine r_pc (pc1 := 75) rfl ?_
        refine r_aload_n C 0 rfl rfl dX10_prove_75 ?_
        refine gf_X10_39 C rf0 o_0 (q := 53) rfl dX10_prove_76 ?_
        refine gf_X10_248 C o_53 dX10_prove_79 ?_
        obtain ⟨I28, hq29, h⟩ := bd1_ h
        refine r_cvv C (rest := []) (c_X3_add  hq29) fm_X3_add lk_X10_251 o_70 ⟨_, ct_2 o_70.1⟩ rfl rfl ⟨rfl, rfl, Nat.le_of_ble_eq_true rfl, Nat.le_of_ble_eq_true rfl⟩ (Nat.le_of_ble_eq_true rfl) rfl dX10_prove_82 ?_
        exact wB_X10_prove_85 C hr hr_32  h
set_option maxHeartbeats 4000000 in
set_option maxRecDepth 100000 in
theorem wL_X10_prove_32 {l : Launch} {g : GG} {ad : Nat → Nat} {p : Program} {e : Env} {s : State} {m : MethodId} {args : Array Value} {below : List Frame} {meth : Method} {c : Code} {a0 : Int32} {z : Int32 × HI × HJ} (C : Cx p s m args meth c RX10 cX10_prove 3 g (AW ad nO)) (hr : meth.sig.returnType = (some .int))  : ∀ (f : Nat) {x2 : Int32} {I : HI} {J : HJ}, fL_X10_prove_32 a0 f x2 I J = some z → V p l e (rmk 7 214) s m args below meth c (MQ below (QAi g ad nO oR z.1 z.2.1 z.2.2) args s 0 0 (AW ad nO)) 3 0 0 g (AW ad nO) ad nO oR I J 32 [(0, .ref (ad 0)), (1, .int a0), (2, .int x2)] [] := by
  intro f
  induction f with
  | zero =>
    intro _ _ _  h
    have h0 : (none : Option (Int32 × HI × HJ)) = some z := h
    cases h0
  | succ f ih =>
    intro _ _ _  h
    exact wLB_X10_prove_32 C hr ih  h
set_option maxHeartbeats 4000000 in
set_option maxRecDepth 100000 in
theorem w_X10_prove {l : Launch} {g : GG} {ad : Nat → Nat} {p : Program} {e : Env} {s : State} {m : MethodId} {args : Array Value} {below : List Frame} {meth : Method} {c : Code} {a0 : Int32} {z : Int32 × HI × HJ} (C : Cx p s m args meth c RX10 cX10_prove 3 g (AW ad nO)) (hr : meth.sig.returnType = (some .int)) {I : HI} {J : HJ} (h : f_X10_prove a0 I J = some z) : V p l e (rmk 7 214) s m args below meth c (MQ below (QAi g ad nO oR z.1 z.2.1 z.2.2) args s 0 0 (AW ad nO)) 3 0 0 g (AW ad nO) ad nO oR I J 0 [(0, .ref (ad 0)), (1, .int a0)] [] := by
  unfold f_X10_prove at h
  refine r_iload_n C 1 rfl rfl dX10_prove_0 ?_
  refine r_iconst C (v := 1) (by decide) dX10_prove_1 ?_
  refine r_bipush C (v := 12) (by decide) dX10_prove_2 ?_
  obtain ⟨r30, hq31, h⟩ := bd1_ h
  refine r_csi C (rest := []) (c_X10_isWithin  hq31) fm_X10_isWithin lk_X10_80 rfl ⟨rfl, rfl, Nat.le_of_ble_eq_true rfl, Nat.le_of_ble_eq_true rfl⟩ (Nat.le_of_ble_eq_true rfl) rfl dX10_prove_4 ?_
  refine r_if_ne C (tgt := 12) h dX10_prove_7 (by decide) (fun h => ?_) (fun h => ?_)
  · refine r_aload_n C 0 rfl rfl dX10_prove_12 ?_
    refine gf_X10_55 C rf0 o_0 (q := 70) rfl dX10_prove_13 ?_
    obtain ⟨I32, hq33, h⟩ := bd1_ h
    refine r_cvv C (rest := []) (c_X3_becomeEmpty  hq33) fm_X3_becomeEmpty lk_X10_243 o_70 ⟨_, ct_2 o_70.1⟩ rfl rfl ⟨rfl, rfl, Nat.le_of_ble_eq_true rfl, Nat.le_of_ble_eq_true rfl⟩ (Nat.le_of_ble_eq_true rfl) rfl dX10_prove_16 ?_
    refine r_aload_n C 0 rfl rfl dX10_prove_19 ?_
    refine gf_X10_39 C rf0 o_0 (q := 53) rfl dX10_prove_20 ?_
    refine r_aload_n C 0 rfl rfl dX10_prove_23 ?_
    refine gf_X10_10 C rf0 o_0 (q := 1) rfl dX10_prove_24 ?_
    obtain ⟨I34, J35, hq36, h⟩ := bd2_ h
    refine r_cvv C (rest := []) (c_X7_goOnFrom o_53 o_1 hq36) fm_X7_goOnFrom lk_X10_225 o_53 ⟨_, ct_6 o_53.1⟩ rfl rfl ⟨rfl, rfl, Nat.le_of_ble_eq_true rfl, Nat.le_of_ble_eq_true rfl⟩ (Nat.le_of_ble_eq_true rfl) rfl dX10_prove_27 ?_
    refine r_iconst C (v := 0) (by decide) dX10_prove_30 ?_
    refine r_istore_n C (lv1 := [(2, .int (0 : Int32)), (0, .ref (ad 0)), (1, .int a0)]) rfl (by decide) rfl dX10_prove_31 ?_
    exact r_sub [1, 2, 0] rfl (wL_X10_prove_32 C hr _  h)
  · refine r_iconst C (v := -1) (by decide) dX10_prove_10 ?_
    have hz9 := Option.some.inj h
    subst hz9
    exact r_iret C hr dX10_prove_11
set_option maxHeartbeats 4000000 in
set_option maxRecDepth 100000 in
theorem c_X10_prove {l : Launch} {g : GG} {ad : Nat → Nat} {a0 : Int32} {I : HI} {J : HJ} {r : Int32} {I1 : HI} {J1 : HJ} (h : f_X10_prove a0 I J = some (r, I1, J1)) : CM l yX10_prove cX10_prove 3 (some .int) (rmk 7 214) g ad nO oR [.ref (ad 0), .int a0] I J (QAi g ad nO oR r I1 J1) :=
  CM_of (by decide +kernel) (Nat.le_of_ble_eq_true rfl) (fun p e s m args below meth c C hr => w_X10_prove C hr h)
set_option maxHeartbeats 4000000 in
set_option maxRecDepth 100000 in
theorem w_X10_row {l : Launch} {g : GG} {ad : Nat → Nat} {p : Program} {e : Env} {s : State} {m : MethodId} {args : Array Value} {below : List Frame} {meth : Method} {c : Code} {a0 : Int32} {a1 : Int32} {z : Int32} (C : Cx p s m args meth c RX10 cX10_row 3 g (AW ad nO)) (hr : meth.sig.returnType = (some .int)) {I : HI} {J : HJ} (h : f_X10_row a0 a1 I J = some z) : V p l e (rmk 3 66) s m args below meth c (MQ below (QAi g ad nO oR z I J) args s 0 0 (AW ad nO)) 3 0 0 g (AW ad nO) ad nO oR I J 0 [(0, .ref (ad 0)), (1, .int a0), (2, .int a1)] [] := by
  unfold f_X10_row at h
  refine r_aload_n C 0 rfl rfl dX10_row_0 ?_
  refine gf_X10_55 C rf0 o_0 (q := 70) rfl dX10_row_1 ?_
  refine r_iload_n C 1 rfl rfl dX10_row_4 ?_
  refine r_iload_n C 2 rfl rfl dX10_row_5 ?_
  obtain ⟨r5, hq6, h⟩ := bd1_ h
  refine r_cvi C (rest := []) (c_X3_has  hq6) fm_X3_has lk_X10_254 o_70 ⟨_, ct_2 o_70.1⟩ rfl rfl ⟨rfl, rfl, Nat.le_of_ble_eq_true rfl, Nat.le_of_ble_eq_true rfl⟩ (Nat.le_of_ble_eq_true rfl) rfl dX10_row_6 ?_
  refine r_if_eq C (tgt := 24) h dX10_row_9 (by decide) (fun h => ?_) (fun h => ?_)
  · refine r_bipush C (v := -9) (by decide) dX10_row_24 ?_
    have hz9 := Option.some.inj h
    subst hz9
    exact r_iret C hr dX10_row_26
  · refine r_aload_n C 0 rfl rfl dX10_row_12 ?_
    refine gf_X10_55 C rf0 o_0 (q := 70) rfl dX10_row_13 ?_
    refine r_iload_n C 1 rfl rfl dX10_row_16 ?_
    refine r_iload_n C 2 rfl rfl dX10_row_17 ?_
    obtain ⟨r7, hq8, h⟩ := bd1_ h
    refine r_cvi C (rest := []) (c_X3_at  hq8) fm_X3_at lk_X10_256 o_70 ⟨_, ct_2 o_70.1⟩ rfl rfl ⟨rfl, rfl, Nat.le_of_ble_eq_true rfl, Nat.le_of_ble_eq_true rfl⟩ (Nat.le_of_ble_eq_true rfl) rfl dX10_row_18 ?_
    refine r_goto C (tgt := 26) dX10_row_21 (by decide) ?_
    have hz9 := Option.some.inj h
    subst hz9
    exact r_iret C hr dX10_row_26
set_option maxHeartbeats 4000000 in
set_option maxRecDepth 100000 in
theorem c_X10_row {l : Launch} {g : GG} {ad : Nat → Nat} {a0 : Int32} {a1 : Int32} {I : HI} {J : HJ} {r : Int32} (h : f_X10_row a0 a1 I J = some r) : CM l yX10_row cX10_row 3 (some .int) (rmk 3 66) g ad nO oR [.ref (ad 0), .int a0, .int a1] I J (QAi g ad nO oR r I J) :=
  CM_of (by decide +kernel) (Nat.le_of_ble_eq_true rfl) (fun p e s m args below meth c C hr => w_X10_row C hr h)
set_option maxHeartbeats 4000000 in
set_option maxRecDepth 100000 in
theorem w_X10_alterRow {l : Launch} {g : GG} {ad : Nat → Nat} {p : Program} {e : Env} {s : State} {m : MethodId} {args : Array Value} {below : List Frame} {meth : Method} {c : Code} {a0 : Int32} {a1 : Int32} {a2 : Int32} {z : Int32 × HI} (C : Cx p s m args meth c RX10 cX10_alterRow 5 g (AW ad nO)) (hr : meth.sig.returnType = (some .int)) {I : HI} {J : HJ} (h : f_X10_alterRow a0 a1 a2 I J = some z) : V p l e (rmk 3 67) s m args below meth c (MQ below (QAi g ad nO oR z.1 z.2 J) args s 0 0 (AW ad nO)) 5 0 0 g (AW ad nO) ad nO oR I J 0 [(0, .ref (ad 0)), (1, .int a0), (2, .int a1), (3, .int a2)] [] := by
  unfold f_X10_alterRow at h
  refine r_aload_n C 0 rfl rfl dX10_alterRow_0 ?_
  refine gf_X10_55 C rf0 o_0 (q := 70) rfl dX10_alterRow_1 ?_
  refine r_iload_n C 1 rfl rfl dX10_alterRow_4 ?_
  refine r_iload_n C 2 rfl rfl dX10_alterRow_5 ?_
  obtain ⟨r7, hq8, h⟩ := bd1_ h
  refine r_cvi C (rest := []) (c_X3_has  hq8) fm_X3_has lk_X10_254 o_70 ⟨_, ct_2 o_70.1⟩ rfl rfl ⟨rfl, rfl, Nat.le_of_ble_eq_true rfl, Nat.le_of_ble_eq_true rfl⟩ (Nat.le_of_ble_eq_true rfl) rfl dX10_alterRow_6 ?_
  refine r_if_ne C (tgt := 15) h dX10_alterRow_9 (by decide) (fun h => ?_) (fun h => ?_)
  · refine r_aload_n C 0 rfl rfl dX10_alterRow_15 ?_
    refine gf_X10_55 C rf0 o_0 (q := 70) rfl dX10_alterRow_16 ?_
    refine r_iload_n C 1 rfl rfl dX10_alterRow_19 ?_
    refine r_iload_n C 2 rfl rfl dX10_alterRow_20 ?_
    obtain ⟨r9, hq10, h⟩ := bd1_ h
    refine r_cvi C (rest := []) (c_X3_at  hq10) fm_X3_at lk_X10_256 o_70 ⟨_, ct_2 o_70.1⟩ rfl rfl ⟨rfl, rfl, Nat.le_of_ble_eq_true rfl, Nat.le_of_ble_eq_true rfl⟩ (Nat.le_of_ble_eq_true rfl) rfl dX10_alterRow_21 ?_
    refine r_istore C (lv1 := [(4, .int r9), (0, .ref (ad 0)), (1, .int a0), (2, .int a1), (3, .int a2)]) (by decide) rfl dX10_alterRow_24 ?_
    refine r_aload_n C 1 rfl rfl dX10_alterRow_26 ?_
    refine gf_X10_55 C rf0 o_0 (q := 70) rfl dX10_alterRow_27 ?_
    refine r_iload_n C 2 rfl rfl dX10_alterRow_30 ?_
    refine r_iload_n C 3 rfl rfl dX10_alterRow_31 ?_
    refine r_iload_n C 4 rfl rfl dX10_alterRow_32 ?_
    refine r_pc (pc1 := 33) rfl ?_
    obtain ⟨I11, hq12, h⟩ := bd1_ h
    refine r_cvv C (rest := []) (c_X3_alter  hq12) fm_X3_alter lk_X10_258 o_70 ⟨_, ct_2 o_70.1⟩ rfl rfl ⟨rfl, rfl, Nat.le_of_ble_eq_true rfl, Nat.le_of_ble_eq_true rfl⟩ (Nat.le_of_ble_eq_true rfl) rfl dX10_alterRow_33 ?_
    refine r_iload C 0 rfl dX10_alterRow_36 ?_
    have hz9 := Option.some.inj h
    subst hz9
    exact r_iret C hr dX10_alterRow_38
  · refine r_bipush C (v := -9) (by decide) dX10_alterRow_12 ?_
    have hz9 := Option.some.inj h
    subst hz9
    exact r_iret C hr dX10_alterRow_14
set_option maxHeartbeats 4000000 in
set_option maxRecDepth 100000 in
theorem c_X10_alterRow {l : Launch} {g : GG} {ad : Nat → Nat} {a0 : Int32} {a1 : Int32} {a2 : Int32} {I : HI} {J : HJ} {r : Int32} {I1 : HI} (h : f_X10_alterRow a0 a1 a2 I J = some (r, I1)) : CM l yX10_alterRow cX10_alterRow 5 (some .int) (rmk 3 67) g ad nO oR [.ref (ad 0), .int a0, .int a1, .int a2] I J (QAi g ad nO oR r I1 J) :=
  CM_of (by decide +kernel) (Nat.le_of_ble_eq_true rfl) (fun p e s m args below meth c C hr => w_X10_alterRow C hr h)
set_option maxHeartbeats 4000000 in
set_option maxRecDepth 100000 in
theorem wB_X10_judge_85 {l : Launch} {g : GG} {ad : Nat → Nat} {p : Program} {e : Env} {s : State} {m : MethodId} {args : Array Value} {below : List Frame} {meth : Method} {c : Code} {z : Int32 × HI × HJ} (C : Cx p s m args meth c RX10 cX10_judge 3 g (AW ad nO)) (hr : meth.sig.returnType = (some .int))  {x1 : Int32} {I : HI} {J : HJ} (h : fB_X10_judge_85 x1 I J = some z) : V p l e (rmk 7 214) s m args below meth c (MQ below (QAi g ad nO oR z.1 z.2.1 z.2.2) args s 0 0 (AW ad nO)) 3 0 0 g (AW ad nO) ad nO oR I J 85 [(0, .ref (ad 0)), (1, .int x1)] [] := by
  unfold fB_X10_judge_85 at h
  refine r_iload_n C 1 rfl rfl dX10_judge_85 ?_
  refine r_aload_n C 0 rfl rfl dX10_judge_86 ?_
  refine gf_X10_55 C rf0 o_0 (q := 70) rfl dX10_judge_87 ?_
  obtain ⟨r16, hq17, h⟩ := bd1_ h
  refine r_cvi C (rest := [.int x1]) (c_X3_size  hq17) fm_X3_size lk_X10_244 o_70 ⟨_, ct_2 o_70.1⟩ rfl rfl ⟨rfl, rfl, Nat.le_of_ble_eq_true rfl, Nat.le_of_ble_eq_true rfl⟩ (Nat.le_of_ble_eq_true rfl) rfl dX10_judge_90 ?_
  refine r_icmp_ge C (tgt := 102) h dX10_judge_93 (by decide) (fun h => ?_) (fun h => ?_)
  · refine r_iconst C (v := 0) (by decide) dX10_judge_102 ?_
    have hz9 := Option.some.inj h
    subst hz9
    exact r_iret C hr dX10_judge_103
  · refine r_iload_n C 1 rfl rfl dX10_judge_96 ?_
    refine r_iconst C (v := 1) (by decide) dX10_judge_97 ?_
    refine r_iadd C dX10_judge_98 ?_
    refine r_goto C (tgt := 103) dX10_judge_99 (by decide) ?_
    have hz9 := Option.some.inj h
    subst hz9
    exact r_iret C hr dX10_judge_103
set_option maxHeartbeats 4000000 in
set_option maxRecDepth 100000 in
theorem wB_X10_judge_79 {l : Launch} {g : GG} {ad : Nat → Nat} {p : Program} {e : Env} {s : State} {m : MethodId} {args : Array Value} {below : List Frame} {meth : Method} {c : Code} {z : Int32 × HI × HJ} (C : Cx p s m args meth c RX10 cX10_judge 3 g (AW ad nO)) (hr : meth.sig.returnType = (some .int)) {r_15 : Int32 → Int32 → HI → HJ → Option (Int32 × HI × HJ)} (hr_15 : ∀ {x1 : Int32} {x2 : Int32} {I : HI} {J : HJ}, r_15 x1 x2 I J = some z → V p l e (rmk 7 214) s m args below meth c (MQ below (QAi g ad nO oR z.1 z.2.1 z.2.2) args s 0 0 (AW ad nO)) 3 0 0 g (AW ad nO) ad nO oR I J 15 [(0, .ref (ad 0)), (1, .int x1), (2, .int x2)] []) {x1 : Int32} {x2 : Int32} {I : HI} {J : HJ} (h : fB_X10_judge_79 r_15 x1 x2 I J = some z) : V p l e (rmk 7 214) s m args below meth c (MQ below (QAi g ad nO oR z.1 z.2.1 z.2.2) args s 0 0 (AW ad nO)) 3 0 0 g (AW ad nO) ad nO oR I J 79 [(0, .ref (ad 0)), (1, .int x1), (2, .int x2)] [] := by
  unfold fB_X10_judge_79 at h
  refine r_iincN C h (k := 2) (zz := 1) rfl rfl (by decide) (lv1 := fun v18 => [(2, .int v18), (0, .ref (ad 0)), (1, .int x1)]) (fun _ => rfl) dX10_judge_79 (fun v18 h => ?_)
  refine r_goto C (tgt := 15) dX10_judge_82 (by decide) ?_
  exact r_sub [1, 2, 0] rfl (hr_15  h)
set_option maxHeartbeats 4000000 in
set_option maxRecDepth 100000 in
theorem wLB_X10_judge_15 {l : Launch} {g : GG} {ad : Nat → Nat} {p : Program} {e : Env} {s : State} {m : MethodId} {args : Array Value} {below : List Frame} {meth : Method} {c : Code} {z : Int32 × HI × HJ} (C : Cx p s m args meth c RX10 cX10_judge 3 g (AW ad nO)) (hr : meth.sig.returnType = (some .int))  {r_15 : Int32 → Int32 → HI → HJ → Option (Int32 × HI × HJ)} (hr_15 : ∀ {x1 : Int32} {x2 : Int32} {I : HI} {J : HJ}, r_15 x1 x2 I J = some z → V p l e (rmk 7 214) s m args below meth c (MQ below (QAi g ad nO oR z.1 z.2.1 z.2.2) args s 0 0 (AW ad nO)) 3 0 0 g (AW ad nO) ad nO oR I J 15 [(0, .ref (ad 0)), (1, .int x1), (2, .int x2)] []) {x1 : Int32} {x2 : Int32} {I : HI} {J : HJ} (h : fLB_X10_judge_15 r_15 x1 x2 I J = some z) : V p l e (rmk 7 214) s m args below meth c (MQ below (QAi g ad nO oR z.1 z.2.1 z.2.2) args s 0 0 (AW ad nO)) 3 0 0 g (AW ad nO) ad nO oR I J 15 [(0, .ref (ad 0)), (1, .int x1), (2, .int x2)] [] := by
  unfold fLB_X10_judge_15 at h
  refine r_iload_n C 2 rfl rfl dX10_judge_15 ?_
  refine r_sipush C (v := 400) (by decide) dX10_judge_16 ?_
  refine r_icmp_ge C (tgt := 85) h dX10_judge_19 (by decide) (fun h => ?_) (fun h => ?_)
  · exact r_sub [0, 1] rfl (wB_X10_judge_85 C hr  h)
  · refine r_iload_n C 1 rfl rfl dX10_judge_22 ?_
    refine r_aload_n C 0 rfl rfl dX10_judge_23 ?_
    refine gf_X10_55 C rf0 o_0 (q := 70) rfl dX10_judge_24 ?_
    obtain ⟨r19, hq20, h⟩ := bd1_ h
    refine r_cvi C (rest := [.int x1]) (c_X3_size  hq20) fm_X3_size lk_X10_244 o_70 ⟨_, ct_2 o_70.1⟩ rfl rfl ⟨rfl, rfl, Nat.le_of_ble_eq_true rfl, Nat.le_of_ble_eq_true rfl⟩ (Nat.le_of_ble_eq_true rfl) rfl dX10_judge_27 ?_
    refine r_icmp_ge C (tgt := 85) h dX10_judge_30 (by decide) (fun h => ?_) (fun h => ?_)
    · exact r_sub [0, 1] rfl (wB_X10_judge_85 C hr  h)
    · refine r_aload_n C 0 rfl rfl dX10_judge_33 ?_
      refine gf_X10_39 C rf0 o_0 (q := 53) rfl dX10_judge_34 ?_
      refine r_aload_n C 0 rfl rfl dX10_judge_37 ?_
      refine gf_X10_19 C rf0 o_0 (q := 4) rfl dX10_judge_38 ?_
      obtain ⟨r21, I22, J23, hq24, h⟩ := bd3_ h
      refine r_cvi C (rest := []) (c_X7_goOneTick o_53 o_4 hq24) fm_X7_goOneTick lk_X10_101 o_53 ⟨_, ct_6 o_53.1⟩ rfl rfl ⟨rfl, rfl, Nat.le_of_ble_eq_true rfl, Nat.le_of_ble_eq_true rfl⟩ (Nat.le_of_ble_eq_true rfl) rfl dX10_judge_41 ?_
      refine r_if_eq C (tgt := 79) h dX10_judge_44 (by decide) (fun h => ?_) (fun h => ?_)
      · exact wB_X10_judge_79 C hr hr_15  h
      · refine r_aload_n C 0 rfl rfl dX10_judge_47 ?_
        refine gf_X10_55 C rf0 o_0 (q := 70) rfl dX10_judge_48 ?_
        refine r_iload_n C 1 rfl rfl dX10_judge_51 ?_
        refine r_aload_n C 0 rfl rfl dX10_judge_52 ?_
        refine gf_X10_39 C rf0 o_0 (q := 53) rfl dX10_judge_53 ?_
        refine r_pc (pc1 := 56) rfl ?_
        refine gf_X10_245 C o_53 dX10_judge_56 ?_
        refine r_aload_n C 0 rfl rfl dX10_judge_59 ?_
        refine gf_X10_39 C rf0 o_0 (q := 53) rfl dX10_judge_60 ?_
        refine gf_X10_248 C o_53 dX10_judge_63 ?_
        obtain ⟨r25, hq26, h⟩ := bd1_ h
        refine r_cvi C (rest := []) (c_X3_tells  hq26) fm_X3_tells lk_X10_261 o_70 ⟨_, ct_2 o_70.1⟩ rfl rfl ⟨rfl, rfl, Nat.le_of_ble_eq_true rfl, Nat.le_of_ble_eq_true rfl⟩ (Nat.le_of_ble_eq_true rfl) rfl dX10_judge_66 ?_
        refine r_if_ne C (tgt := 76) h dX10_judge_69 (by decide) (fun h => ?_) (fun h => ?_)
        · refine r_iincN C h (k := 1) (zz := 1) rfl rfl (by decide) (lv1 := fun v27 => [(1, .int v27), (0, .ref (ad 0)), (2, .int x2)]) (fun _ => rfl) dX10_judge_76 (fun v27 h => ?_)
          exact r_sub [1, 0, 2] rfl (wB_X10_judge_79 C hr hr_15  h)
        · refine r_iload_n C 1 rfl rfl dX10_judge_72 ?_
          refine r_iconst C (v := 1) (by decide) dX10_judge_73 ?_
          refine r_iadd C dX10_judge_74 ?_
          have hz9 := Option.some.inj h
          subst hz9
          exact r_iret C hr dX10_judge_75
set_option maxHeartbeats 4000000 in
set_option maxRecDepth 100000 in
theorem wL_X10_judge_15 {l : Launch} {g : GG} {ad : Nat → Nat} {p : Program} {e : Env} {s : State} {m : MethodId} {args : Array Value} {below : List Frame} {meth : Method} {c : Code} {z : Int32 × HI × HJ} (C : Cx p s m args meth c RX10 cX10_judge 3 g (AW ad nO)) (hr : meth.sig.returnType = (some .int))  : ∀ (f : Nat) {x1 : Int32} {x2 : Int32} {I : HI} {J : HJ}, fL_X10_judge_15 f x1 x2 I J = some z → V p l e (rmk 7 214) s m args below meth c (MQ below (QAi g ad nO oR z.1 z.2.1 z.2.2) args s 0 0 (AW ad nO)) 3 0 0 g (AW ad nO) ad nO oR I J 15 [(0, .ref (ad 0)), (1, .int x1), (2, .int x2)] [] := by
  intro f
  induction f with
  | zero =>
    intro _ _ _ _  h
    have h0 : (none : Option (Int32 × HI × HJ)) = some z := h
    cases h0
  | succ f ih =>
    intro _ _ _ _  h
    exact wLB_X10_judge_15 C hr ih  h
set_option maxHeartbeats 4000000 in
set_option maxRecDepth 100000 in
theorem w_X10_judge {l : Launch} {g : GG} {ad : Nat → Nat} {p : Program} {e : Env} {s : State} {m : MethodId} {args : Array Value} {below : List Frame} {meth : Method} {c : Code} {z : Int32 × HI × HJ} (C : Cx p s m args meth c RX10 cX10_judge 3 g (AW ad nO)) (hr : meth.sig.returnType = (some .int)) {I : HI} {J : HJ} (h : f_X10_judge I J = some z) : V p l e (rmk 7 214) s m args below meth c (MQ below (QAi g ad nO oR z.1 z.2.1 z.2.2) args s 0 0 (AW ad nO)) 3 0 0 g (AW ad nO) ad nO oR I J 0 [(0, .ref (ad 0))] [] := by
  unfold f_X10_judge at h
  refine r_iconst C (v := 0) (by decide) dX10_judge_0 ?_
  refine r_istore_n C (lv1 := [(1, .int (0 : Int32)), (0, .ref (ad 0))]) rfl (by decide) rfl dX10_judge_1 ?_
  refine r_aload_n C 1 rfl rfl dX10_judge_2 ?_
  refine gf_X10_39 C rf0 o_0 (q := 53) rfl dX10_judge_3 ?_
  refine r_aload_n C 1 rfl rfl dX10_judge_6 ?_
  refine gf_X10_10 C rf0 o_0 (q := 1) rfl dX10_judge_7 ?_
  obtain ⟨I28, J29, hq30, h⟩ := bd2_ h
  refine r_cvv C (rest := []) (c_X7_goOnFrom o_53 o_1 hq30) fm_X7_goOnFrom lk_X10_225 o_53 ⟨_, ct_6 o_53.1⟩ rfl rfl ⟨rfl, rfl, Nat.le_of_ble_eq_true rfl, Nat.le_of_ble_eq_true rfl⟩ (Nat.le_of_ble_eq_true rfl) rfl dX10_judge_10 ?_
  refine r_iconst C (v := 0) (by decide) dX10_judge_13 ?_
  refine r_istore_n C (lv1 := [(2, .int (0 : Int32)), (1, .int (0 : Int32)), (0, .ref (ad 0))]) rfl (by decide) rfl dX10_judge_14 ?_
  exact r_sub [2, 1, 0] rfl (wL_X10_judge_15 C hr _  h)
set_option maxHeartbeats 4000000 in
set_option maxRecDepth 100000 in
theorem c_X10_judge {l : Launch} {g : GG} {ad : Nat → Nat} {I : HI} {J : HJ} {r : Int32} {I1 : HI} {J1 : HJ} (h : f_X10_judge I J = some (r, I1, J1)) : CM l yX10_judge cX10_judge 3 (some .int) (rmk 7 214) g ad nO oR [.ref (ad 0)] I J (QAi g ad nO oR r I1 J1) :=
  CM_of (by decide +kernel) (Nat.le_of_ble_eq_true rfl) (fun p e s m args below meth c C hr => w_X10_judge C hr h)

set_option maxHeartbeats 4000000 in
set_option maxRecDepth 100000 in
theorem w_X0_size {l : Launch} {g : GG} {ad : Nat → Nat} {p : Program} {e : Env} {s : State} {m : MethodId} {args : Array Value} {below : List Frame} {meth : Method} {c : Code} {z : Int32} (C : Cx p s m args meth c RX0 cX0_size 1 g (AW ad nO)) (hr : meth.sig.returnType = (some .int)) {I : HI} {J : HJ} (h : f_X0_size I J = some z) : V p l e (rmk 0 0) s m args below meth c (MQ below (QAi g ad nO oR z I J) args s 0 0 (AW ad nO)) 1 0 0 g (AW ad nO) ad nO oR I J 0 [(0, .ref (ad 96))] [] := by
  unfold f_X0_size at h
  refine r_aload_n C 0 rfl rfl dX0_size_0 ?_
  refine gf_X0_21 C o_96 dX0_size_1 ?_
  have hz9 := Option.some.inj h
  subst hz9
  exact r_iret C hr dX0_size_4
set_option maxHeartbeats 4000000 in
set_option maxRecDepth 100000 in
theorem c_X0_size {l : Launch} {g : GG} {ad : Nat → Nat} {I : HI} {J : HJ} {r : Int32} (h : f_X0_size I J = some r) : CM l yX0_size cX0_size 1 (some .int) (rmk 0 0) g ad nO oR [.ref (ad 96)] I J (QAi g ad nO oR r I J) :=
  CM_of (by decide +kernel) (Nat.le_of_ble_eq_true rfl) (fun p e s m args below meth c C hr => w_X0_size C hr h)
set_option maxHeartbeats 4000000 in
set_option maxRecDepth 100000 in
theorem w_X0_has {l : Launch} {g : GG} {ad : Nat → Nat} {p : Program} {e : Env} {s : State} {m : MethodId} {args : Array Value} {below : List Frame} {meth : Method} {c : Code} {a0 : Int32} {z : Int32} (C : Cx p s m args meth c RX0 cX0_has 2 g (AW ad nO)) (hr : meth.sig.returnType = (some .boolean)) {I : HI} {J : HJ} (h : f_X0_has a0 I J = some z) : V p l e (rmk 0 0) s m args below meth c (MQ below (QAi g ad nO oR z I J) args s 0 0 (AW ad nO)) 2 0 0 g (AW ad nO) ad nO oR I J 0 [(0, .ref (ad 96)), (1, .int a0)] [] := by
  unfold f_X0_has at h
  refine r_iload_n C 1 rfl rfl dX0_has_0 ?_
  refine r_if_lt C (tgt := 16) h dX0_has_1 (by decide) (fun h => ?_) (fun h => ?_)
  · refine r_iconst C (v := 0) (by decide) dX0_has_16 ?_
    have hz9 := Option.some.inj h
    subst hz9
    exact r_zret C (v := (0 : Int32)) rfl hr dX0_has_17
  · refine r_iload_n C 1 rfl rfl dX0_has_4 ?_
    refine r_aload_n C 0 rfl rfl dX0_has_5 ?_
    refine gf_X0_21 C o_96 dX0_has_6 ?_
    refine r_icmp_ge C (tgt := 16) h dX0_has_9 (by decide) (fun h => ?_) (fun h => ?_)
    · refine r_iconst C (v := 0) (by decide) dX0_has_16 ?_
      have hz9 := Option.some.inj h
      subst hz9
      exact r_zret C (v := (0 : Int32)) rfl hr dX0_has_17
    · refine r_iconst C (v := 1) (by decide) dX0_has_12 ?_
      refine r_goto C (tgt := 17) dX0_has_13 (by decide) ?_
      have hz9 := Option.some.inj h
      subst hz9
      exact r_zret C (v := (1 : Int32)) rfl hr dX0_has_17
set_option maxHeartbeats 4000000 in
set_option maxRecDepth 100000 in
theorem c_X0_has {l : Launch} {g : GG} {ad : Nat → Nat} {a0 : Int32} {I : HI} {J : HJ} {r : Int32} (h : f_X0_has a0 I J = some r) : CM l yX0_has cX0_has 2 (some .boolean) (rmk 0 0) g ad nO oR [.ref (ad 96), .int a0] I J (QAi g ad nO oR r I J) :=
  CM_of (by decide +kernel) (Nat.le_of_ble_eq_true rfl) (fun p e s m args below meth c C hr => w_X0_has C hr h)
set_option maxHeartbeats 4000000 in
set_option maxRecDepth 100000 in
theorem w_X0_bodyAt {l : Launch} {g : GG} {ad : Nat → Nat} {p : Program} {e : Env} {s : State} {m : MethodId} {args : Array Value} {below : List Frame} {meth : Method} {c : Code} {a0 : Int32} {z : Int32} (C : Cx p s m args meth c RX0 cX0_bodyAt 2 g (AW ad nO)) (hr : meth.sig.returnType = (some .int)) {I : HI} {J : HJ} (h : f_X0_bodyAt a0 I J = some z) : V p l e (rmk 1 21) s m args below meth c (MQ below (QAi g ad nO oR z I J) args s 0 0 (AW ad nO)) 2 0 0 g (AW ad nO) ad nO oR I J 0 [(0, .ref (ad 96)), (1, .int a0)] [] := by
  unfold f_X0_bodyAt at h
  refine r_aload_n C 0 rfl rfl dX0_bodyAt_0 ?_
  refine r_iload_n C 1 rfl rfl dX0_bodyAt_1 ?_
  obtain ⟨r3, hq4, h⟩ := bd1_ h
  refine r_cvi C (rest := []) (c_X0_has  hq4) fm_X0_has lk_X0_24 o_96 ⟨_, ct_0 o_96.1⟩ rfl rfl ⟨rfl, rfl, Nat.le_of_ble_eq_true rfl, Nat.le_of_ble_eq_true rfl⟩ (Nat.le_of_ble_eq_true rfl) rfl dX0_bodyAt_2 ?_
  refine r_if_eq C (tgt := 23) h dX0_bodyAt_5 (by decide) (fun h => ?_) (fun h => ?_)
  · refine r_iconst C (v := 0) (by decide) dX0_bodyAt_23 ?_
    have hz9 := Option.some.inj h
    subst hz9
    exact r_iret C hr dX0_bodyAt_24
  · refine r_iload_n C 1 rfl rfl dX0_bodyAt_8 ?_
    refine r_bipush C (v := 30) (by decide) dX0_bodyAt_9 ?_
    refine r_icmp_ge C (tgt := 23) h dX0_bodyAt_11 (by decide) (fun h => ?_) (fun h => ?_)
    · refine r_iconst C (v := 0) (by decide) dX0_bodyAt_23 ?_
      have hz9 := Option.some.inj h
      subst hz9
      exact r_iret C hr dX0_bodyAt_24
    · refine r_aload_n C 0 rfl rfl dX0_bodyAt_14 ?_
      refine gf_X0_11 C rf0 o_96 (q := 97) rfl dX0_bodyAt_15 ?_
      refine r_iload_n C 1 rfl rfl dX0_bodyAt_18 ?_
      refine r_iald C o_97 h dX0_bodyAt_19 (fun h => ?_)
      refine r_goto C (tgt := 24) dX0_bodyAt_20 (by decide) ?_
      have hz9 := Option.some.inj h
      subst hz9
      exact r_iret C hr dX0_bodyAt_24
set_option maxHeartbeats 4000000 in
set_option maxRecDepth 100000 in
theorem c_X0_bodyAt {l : Launch} {g : GG} {ad : Nat → Nat} {a0 : Int32} {I : HI} {J : HJ} {r : Int32} (h : f_X0_bodyAt a0 I J = some r) : CM l yX0_bodyAt cX0_bodyAt 2 (some .int) (rmk 1 21) g ad nO oR [.ref (ad 96), .int a0] I J (QAi g ad nO oR r I J) :=
  CM_of (by decide +kernel) (Nat.le_of_ble_eq_true rfl) (fun p e s m args below meth c C hr => w_X0_bodyAt C hr h)
set_option maxHeartbeats 4000000 in
set_option maxRecDepth 100000 in
theorem w_X0_forget {l : Launch} {g : GG} {ad : Nat → Nat} {p : Program} {e : Env} {s : State} {m : MethodId} {args : Array Value} {below : List Frame} {meth : Method} {c : Code} {z : HI} (C : Cx p s m args meth c RX0 cX0_forget 1 g (AW ad nO)) (hr : meth.sig.returnType = none) {I : HI} {J : HJ} (h : f_X0_forget I J = some z) : V p l e (rmk 0 0) s m args below meth c (MQ below (QAv g ad nO oR z J) args s 0 0 (AW ad nO)) 1 0 0 g (AW ad nO) ad nO oR I J 0 [(0, .ref (ad 96))] [] := by
  unfold f_X0_forget at h
  refine r_aload_n C 0 rfl rfl dX0_forget_0 ?_
  refine r_iconst C (v := 0) (by decide) dX0_forget_1 ?_
  refine pf_X0_21 C o_96 dX0_forget_2 ?_
  refine r_nmI h (fun I3 h => ?_)
  refine r_aload_n C 0 rfl rfl dX0_forget_5 ?_
  refine r_iconst C (v := 0) (by decide) dX0_forget_6 ?_
  refine pf_X0_28 C rfl o_96 dX0_forget_7 ?_
  refine r_nmI h (fun I4 h => ?_)
  have hz9 := Option.some.inj h
  subst hz9
  exact r_vret C hr dX0_forget_10
set_option maxHeartbeats 4000000 in
set_option maxRecDepth 100000 in
theorem c_X0_forget {l : Launch} {g : GG} {ad : Nat → Nat} {I : HI} {J : HJ} {I1 : HI} (h : f_X0_forget I J = some I1) : CM l yX0_forget cX0_forget 1 none (rmk 0 0) g ad nO oR [.ref (ad 96)] I J (QAv g ad nO oR I1 J) :=
  CM_of (by decide +kernel) (Nat.le_of_ble_eq_true rfl) (fun p e s m args below meth c C hr => w_X0_forget C hr h)
set_option maxHeartbeats 4000000 in
set_option maxRecDepth 100000 in
theorem w_X0_takeThing {l : Launch} {g : GG} {ad : Nat → Nat} {p : Program} {e : Env} {s : State} {m : MethodId} {args : Array Value} {below : List Frame} {meth : Method} {c : Code} {a0 : Int32} {a1 : Int32} {a2 : Int32} {z : HI} (C : Cx p s m args meth c RX0 cX0_takeThing 4 g (AW ad nO)) (hr : meth.sig.returnType = none) {I : HI} {J : HJ} (h : f_X0_takeThing a0 a1 a2 I J = some z) : V p l e (rmk 0 0) s m args below meth c (MQ below (QAv g ad nO oR z J) args s 0 0 (AW ad nO)) 4 0 0 g (AW ad nO) ad nO oR I J 0 [(0, .ref (ad 96)), (1, .int a0), (2, .int a1), (3, .int a2)] [] := by
  unfold f_X0_takeThing at h
  refine r_aload_n C 0 rfl rfl dX0_takeThing_0 ?_
  refine r_iload_n C 1 rfl rfl dX0_takeThing_1 ?_
  refine pf_X0_17 C o_96 dX0_takeThing_2 ?_
  refine r_nmI h (fun I4 h => ?_)
  refine r_aload_n C 0 rfl rfl dX0_takeThing_5 ?_
  refine r_iload_n C 2 rfl rfl dX0_takeThing_6 ?_
  refine pf_X0_32 C o_96 dX0_takeThing_7 ?_
  refine r_nmI h (fun I5 h => ?_)
  refine r_aload_n C 0 rfl rfl dX0_takeThing_10 ?_
  refine r_iload_n C 3 rfl rfl dX0_takeThing_11 ?_
  refine pf_X0_35 C o_96 dX0_takeThing_12 ?_
  refine r_nmI h (fun I6 h => ?_)
  have hz9 := Option.some.inj h
  subst hz9
  exact r_vret C hr dX0_takeThing_15
set_option maxHeartbeats 4000000 in
set_option maxRecDepth 100000 in
theorem c_X0_takeThing {l : Launch} {g : GG} {ad : Nat → Nat} {a0 : Int32} {a1 : Int32} {a2 : Int32} {I : HI} {J : HJ} {I1 : HI} (h : f_X0_takeThing a0 a1 a2 I J = some I1) : CM l yX0_takeThing cX0_takeThing 4 none (rmk 0 0) g ad nO oR [.ref (ad 96), .int a0, .int a1, .int a2] I J (QAv g ad nO oR I1 J) :=
  CM_of (by decide +kernel) (Nat.le_of_ble_eq_true rfl) (fun p e s m args below meth c C hr => w_X0_takeThing C hr h)
set_option maxHeartbeats 4000000 in
set_option maxRecDepth 100000 in
theorem w_X0_beginBody {l : Launch} {g : GG} {ad : Nat → Nat} {p : Program} {e : Env} {s : State} {m : MethodId} {args : Array Value} {below : List Frame} {meth : Method} {c : Code} {a0 : Int32} {z : HI} (C : Cx p s m args meth c RX0 cX0_beginBody 2 g (AW ad nO)) (hr : meth.sig.returnType = none) {I : HI} {J : HJ} (h : f_X0_beginBody a0 I J = some z) : V p l e (rmk 0 0) s m args below meth c (MQ below (QAv g ad nO oR z J) args s 0 0 (AW ad nO)) 2 0 0 g (AW ad nO) ad nO oR I J 0 [(0, .ref (ad 96)), (1, .int a0)] [] := by
  unfold f_X0_beginBody at h
  refine r_aload_n C 0 rfl rfl dX0_beginBody_0 ?_
  refine gf_X0_21 C o_96 dX0_beginBody_1 ?_
  refine r_if_lt C (tgt := 36) h dX0_beginBody_4 (by decide) (fun h => ?_) (fun h => ?_)
  · have hz9 := Option.some.inj h
    subst hz9
    exact r_vret C hr dX0_beginBody_36
  · refine r_aload_n C 0 rfl rfl dX0_beginBody_7 ?_
    refine gf_X0_21 C o_96 dX0_beginBody_8 ?_
    refine r_bipush C (v := 30) (by decide) dX0_beginBody_11 ?_
    refine r_icmp_ge C (tgt := 36) h dX0_beginBody_13 (by decide) (fun h => ?_) (fun h => ?_)
    · have hz9 := Option.some.inj h
      subst hz9
      exact r_vret C hr dX0_beginBody_36
    · refine r_aload_n C 0 rfl rfl dX0_beginBody_16 ?_
      refine gf_X0_11 C rf0 o_96 (q := 97) rfl dX0_beginBody_17 ?_
      refine r_aload_n C 0 rfl rfl dX0_beginBody_20 ?_
      refine gf_X0_21 C o_96 dX0_beginBody_21 ?_
      refine r_iload_n C 1 rfl rfl dX0_beginBody_24 ?_
      refine r_pc (pc1 := 25) rfl ?_
      refine r_iast C o_97 h dX0_beginBody_25 (fun h => ?_)
      refine r_nmI h (fun I3 h => ?_)
      refine r_aload_n C 0 rfl rfl dX0_beginBody_26 ?_
      refine r_dup C rfl dX0_beginBody_27 ?_
      refine gf_X0_21 C o_96 dX0_beginBody_28 ?_
      refine r_iconst C (v := 1) (by decide) dX0_beginBody_31 ?_
      refine r_iadd C dX0_beginBody_32 ?_
      refine r_pc (pc1 := 33) rfl ?_
      refine pf_X0_21 C o_96 dX0_beginBody_33 ?_
      refine r_nmI h (fun I4 h => ?_)
      have hz9 := Option.some.inj h
      subst hz9
      exact r_vret C hr dX0_beginBody_36
set_option maxHeartbeats 4000000 in
set_option maxRecDepth 100000 in
theorem c_X0_beginBody {l : Launch} {g : GG} {ad : Nat → Nat} {a0 : Int32} {I : HI} {J : HJ} {I1 : HI} (h : f_X0_beginBody a0 I J = some I1) : CM l yX0_beginBody cX0_beginBody 2 none (rmk 0 0) g ad nO oR [.ref (ad 96), .int a0] I J (QAv g ad nO oR I1 J) :=
  CM_of (by decide +kernel) (Nat.le_of_ble_eq_true rfl) (fun p e s m args below meth c C hr => w_X0_beginBody C hr h)
set_option maxHeartbeats 4000000 in
set_option maxRecDepth 100000 in
theorem w_X1_above {l : Launch} {g : GG} {ad : Nat → Nat} {p : Program} {e : Env} {s : State} {m : MethodId} {args : Array Value} {below : List Frame} {meth : Method} {c : Code} {a0 : Int32} {z : Int32} (C : Cx p s m args meth c RX1 cX1_above 1 g (AW ad nO)) (hr : meth.sig.returnType = (some .int)) {I : HI} {J : HJ} (h : f_X1_above a0 = some z) : V p l e (rmk 0 0) s m args below meth c (MQ below (QAi g ad nO oR z I J) args s 0 0 (AW ad nO)) 1 0 0 g (AW ad nO) ad nO oR I J 0 [(0, .int a0)] [] := by
  unfold f_X1_above at h
  refine r_iload_n C 0 rfl rfl dX1_above_0 ?_
  refine r_if_lt C (tgt := 20) h dX1_above_1 (by decide) (fun h => ?_) (fun h => ?_)
  · refine r_iconst C (v := -1) (by decide) dX1_above_20 ?_
    have hz9 := Option.some.inj h
    subst hz9
    exact r_iret C hr dX1_above_21
  · refine r_iload_n C 0 rfl rfl dX1_above_4 ?_
    refine r_gets C (t := 4) (by decide) lk_X1_7 dX1_above_5 ?_
    refine r_slen C (by decide) dX1_above_8 ?_
    refine r_icmp_ge C (tgt := 20) h dX1_above_9 (by decide) (fun h => ?_) (fun h => ?_)
    · refine r_iconst C (v := -1) (by decide) dX1_above_20 ?_
      have hz9 := Option.some.inj h
      subst hz9
      exact r_iret C hr dX1_above_21
    · refine r_gets C (t := 4) (by decide) lk_X1_7 dX1_above_12 ?_
      refine r_iload_n C 0 rfl rfl dX1_above_15 ?_
      refine r_sald C (by decide) h dX1_above_16 (fun h => ?_)
      refine r_goto C (tgt := 21) dX1_above_17 (by decide) ?_
      have hz9 := Option.some.inj h
      subst hz9
      exact r_iret C hr dX1_above_21
set_option maxHeartbeats 4000000 in
set_option maxRecDepth 100000 in
theorem c_X1_above {l : Launch} {g : GG} {ad : Nat → Nat} {a0 : Int32} {I : HI} {J : HJ} {r : Int32} (h : f_X1_above a0 = some r) : CM l yX1_above cX1_above 1 (some .int) (rmk 0 0) g ad nO oR [.int a0] I J (QAi g ad nO oR r I J) :=
  CM_of (by decide +kernel) (Nat.le_of_ble_eq_true rfl) (fun p e s m args below meth c C hr => w_X1_above C hr h)
set_option maxHeartbeats 4000000 in
set_option maxRecDepth 100000 in
theorem w_X0_grows {l : Launch} {g : GG} {ad : Nat → Nat} {p : Program} {e : Env} {s : State} {m : MethodId} {args : Array Value} {below : List Frame} {meth : Method} {c : Code} {d : Nat} {g_grows : Int32 → Int32 → Int32 → HI → HJ → Option (Int32 × HI)} {a0 : Int32} {a1 : Int32} {a2 : Int32} {z : Int32 × HI} (C : Cx p s m args meth c RX0 cX0_grows 4 g (AW ad nO)) (hr : meth.sig.returnType = (some .int)) (H_grows : ∀ {a0 : Int32} {a1 : Int32} {a2 : Int32} {I : HI} {J : HJ} {r : Int32} {I1 : HI}, g_grows a0 a1 a2 I J = some (r, I1) → CM l yX0_grows cX0_grows 4 (some .int) (rmk (1 + d) (21 + 40 * d)) g ad nO oR [.ref (ad 96), .int a0, .int a1, .int a2] I J (QAi g ad nO oR r I1 J)) {I : HI} {J : HJ} (h : fb_X0_grows g_grows a0 a1 a2 I J = some z) : V p l e (rmk (1 + (d + 1)) (21 + 40 * (d + 1))) s m args below meth c (MQ below (QAi g ad nO oR z.1 z.2 J) args s 0 0 (AW ad nO)) 4 0 0 g (AW ad nO) ad nO oR I J 0 [(0, .ref (ad 96)), (1, .int a0), (2, .int a1), (3, .int a2)] [] := by
  unfold fb_X0_grows at h
  refine r_iload_n C 3 rfl rfl dX0_grows_0 ?_
  refine r_bipush C (v := 20) (by decide) dX0_grows_1 ?_
  refine r_icmp_le C (tgt := 8) h dX0_grows_3 (by decide) (fun h => ?_) (fun h => ?_)
  · refine r_iload_n C 1 rfl rfl dX0_grows_8 ?_
    refine r_case h (fun hc36 h => ?_) (fun hc36 h => ?_)
    · refine r_tabIn C (tgt := 56) 0 hc36 dX0_grows_9 (by decide) (by decide) rfl (by decide) ?_
      refine r_aload_n C 0 rfl rfl dX0_grows_56 ?_
      refine r_bipush C (v := 10) (by decide) dX0_grows_57 ?_
      obtain ⟨I37, hq38, h⟩ := bd1_ h
      refine r_cvv C (rest := []) (c_X0_beginBody  hq38) fm_X0_beginBody lk_X0_55 o_96 ⟨_, ct_0 o_96.1⟩ rfl rfl (RO_base (by decide) (by decide)) (Nat.le_of_ble_eq_true rfl) rfl dX0_grows_59 ?_
      refine r_iload_n C 2 rfl rfl dX0_grows_62 ?_
      refine r_aload_n C 0 rfl rfl dX0_grows_63 ?_
      refine gf_X0_35 C o_96 dX0_grows_64 ?_
      refine r_iadd C dX0_grows_67 ?_
      have hz9 := Option.some.inj h
      subst hz9
      exact r_iret C hr dX0_grows_68
    refine r_case h (fun hc39 h => ?_) (fun hc39 h => ?_)
    · refine r_tabIn C (tgt := 69) 2 hc39 dX0_grows_9 (by decide) (by decide) rfl (by decide) ?_
      refine r_aload_n C 0 rfl rfl dX0_grows_69 ?_
      refine r_bipush C (v := 30) (by decide) dX0_grows_70 ?_
      obtain ⟨I40, hq41, h⟩ := bd1_ h
      refine r_cvv C (rest := []) (c_X0_beginBody  hq41) fm_X0_beginBody lk_X0_55 o_96 ⟨_, ct_0 o_96.1⟩ rfl rfl (RO_base (by decide) (by decide)) (Nat.le_of_ble_eq_true rfl) rfl dX0_grows_72 ?_
      refine r_aload_n C 0 rfl rfl dX0_grows_75 ?_
      refine r_iload_n C 1 rfl rfl dX0_grows_76 ?_
      obtain ⟨r42, hq43, h⟩ := bd1_ h
      refine r_csi C (rest := [.ref (ad 96)]) (c_X1_above  hq43) fm_X1_above lk_X0_59 rfl (RO_base (by decide) (by decide)) (Nat.le_of_ble_eq_true rfl) rfl dX0_grows_77 ?_
      refine r_iload_n C 2 rfl rfl dX0_grows_80 ?_
      refine r_iload_n C 3 rfl rfl dX0_grows_81 ?_
      refine r_iconst C (v := 1) (by decide) dX0_grows_82 ?_
      refine r_iadd C dX0_grows_83 ?_
      obtain ⟨r44, I45, hq46, h⟩ := bd2_ h
      refine r_cvi C (rest := []) (H_grows  hq46) fm_X0_grows lk_X0_42 o_96 ⟨_, ct_0 o_96.1⟩ rfl rfl (RO_rec (by decide)) (Nat.le_of_ble_eq_true rfl) rfl dX0_grows_84 ?_
      refine r_iconst C (v := 5) (by decide) dX0_grows_87 ?_
      refine r_imul C dX0_grows_88 ?_
      have hz9 := Option.some.inj h
      subst hz9
      exact r_iret C hr dX0_grows_89
    refine r_case h (fun hc47 h => ?_) (fun hc47 h => ?_)
    · refine r_tabIn C (tgt := 90) 3 hc47 dX0_grows_9 (by decide) (by decide) rfl (by decide) ?_
      refine r_aload_n C 0 rfl rfl dX0_grows_90 ?_
      refine r_bipush C (v := 40) (by decide) dX0_grows_91 ?_
      obtain ⟨I48, hq49, h⟩ := bd1_ h
      refine r_cvv C (rest := []) (c_X0_beginBody  hq49) fm_X0_beginBody lk_X0_55 o_96 ⟨_, ct_0 o_96.1⟩ rfl rfl (RO_base (by decide) (by decide)) (Nat.le_of_ble_eq_true rfl) rfl dX0_grows_93 ?_
      refine r_aload_n C 0 rfl rfl dX0_grows_96 ?_
      refine r_iload_n C 1 rfl rfl dX0_grows_97 ?_
      obtain ⟨r50, hq51, h⟩ := bd1_ h
      refine r_csi C (rest := [.ref (ad 96)]) (c_X1_above  hq51) fm_X1_above lk_X0_59 rfl (RO_base (by decide) (by decide)) (Nat.le_of_ble_eq_true rfl) rfl dX0_grows_98 ?_
      refine r_iload_n C 2 rfl rfl dX0_grows_101 ?_
      refine r_iload_n C 3 rfl rfl dX0_grows_102 ?_
      refine r_iconst C (v := 1) (by decide) dX0_grows_103 ?_
      refine r_iadd C dX0_grows_104 ?_
      obtain ⟨r52, I53, hq54, h⟩ := bd2_ h
      refine r_cvi C (rest := []) (H_grows  hq54) fm_X0_grows lk_X0_42 o_96 ⟨_, ct_0 o_96.1⟩ rfl rfl (RO_rec (by decide)) (Nat.le_of_ble_eq_true rfl) rfl dX0_grows_105 ?_
      refine r_aload_n C 0 rfl rfl dX0_grows_108 ?_
      refine gf_X0_35 C o_96 dX0_grows_109 ?_
      refine r_ixor C dX0_grows_112 ?_
      have hz9 := Option.some.inj h
      subst hz9
      exact r_iret C hr dX0_grows_113
    refine r_case h (fun hc55 h => ?_) (fun hc55 h => ?_)
    · refine r_tabIn C (tgt := 114) 6 hc55 dX0_grows_9 (by decide) (by decide) rfl (by decide) ?_
      refine r_aload_n C 0 rfl rfl dX0_grows_114 ?_
      refine r_bipush C (v := 70) (by decide) dX0_grows_115 ?_
      obtain ⟨I56, hq57, h⟩ := bd1_ h
      refine r_cvv C (rest := []) (c_X0_beginBody  hq57) fm_X0_beginBody lk_X0_55 o_96 ⟨_, ct_0 o_96.1⟩ rfl rfl (RO_base (by decide) (by decide)) (Nat.le_of_ble_eq_true rfl) rfl dX0_grows_117 ?_
      refine r_aload_n C 0 rfl rfl dX0_grows_120 ?_
      refine r_iload_n C 1 rfl rfl dX0_grows_121 ?_
      obtain ⟨r58, hq59, h⟩ := bd1_ h
      refine r_csi C (rest := [.ref (ad 96)]) (c_X1_above  hq59) fm_X1_above lk_X0_59 rfl (RO_base (by decide) (by decide)) (Nat.le_of_ble_eq_true rfl) rfl dX0_grows_122 ?_
      refine r_iload_n C 2 rfl rfl dX0_grows_125 ?_
      refine r_iload_n C 3 rfl rfl dX0_grows_126 ?_
      refine r_iconst C (v := 1) (by decide) dX0_grows_127 ?_
      refine r_iadd C dX0_grows_128 ?_
      obtain ⟨r60, I61, hq62, h⟩ := bd2_ h
      refine r_cvi C (rest := []) (H_grows  hq62) fm_X0_grows lk_X0_42 o_96 ⟨_, ct_0 o_96.1⟩ rfl rfl (RO_rec (by decide)) (Nat.le_of_ble_eq_true rfl) rfl dX0_grows_129 ?_
      refine r_bipush C (v := 6) (by decide) dX0_grows_132 ?_
      refine r_isub C dX0_grows_134 ?_
      have hz9 := Option.some.inj h
      subst hz9
      exact r_iret C hr dX0_grows_135
    refine r_case h (fun hc63 h => ?_) (fun hc63 h => ?_)
    · refine r_tabIn C (tgt := 136) 7 hc63 dX0_grows_9 (by decide) (by decide) rfl (by decide) ?_
      refine r_aload_n C 0 rfl rfl dX0_grows_136 ?_
      refine r_bipush C (v := 80) (by decide) dX0_grows_137 ?_
      obtain ⟨I64, hq65, h⟩ := bd1_ h
      refine r_cvv C (rest := []) (c_X0_beginBody  hq65) fm_X0_beginBody lk_X0_55 o_96 ⟨_, ct_0 o_96.1⟩ rfl rfl (RO_base (by decide) (by decide)) (Nat.le_of_ble_eq_true rfl) rfl dX0_grows_139 ?_
      refine r_aload_n C 0 rfl rfl dX0_grows_142 ?_
      refine gf_X0_35 C o_96 dX0_grows_143 ?_
      refine r_iload_n C 2 rfl rfl dX0_grows_146 ?_
      refine r_isub C dX0_grows_147 ?_
      have hz9 := Option.some.inj h
      subst hz9
      exact r_iret C hr dX0_grows_148
    refine r_tabD C (tgt := 149) [0, 2, 3, 6, 7] (r_nc hc36 rfl (r_nc hc39 rfl (r_nc hc47 rfl (r_nc hc55 rfl (r_nc hc63 rfl r_nc0))))) dX0_grows_9 rfl (by decide) (by decide) ?_
    refine r_aload_n C 0 rfl rfl dX0_grows_149 ?_
    refine r_iload_n C 1 rfl rfl dX0_grows_150 ?_
    obtain ⟨r66, hq67, h⟩ := bd1_ h
    refine r_csi C (rest := [.ref (ad 96)]) (c_X1_above  hq67) fm_X1_above lk_X0_59 rfl (RO_base (by decide) (by decide)) (Nat.le_of_ble_eq_true rfl) rfl dX0_grows_151 ?_
    refine r_iload_n C 2 rfl rfl dX0_grows_154 ?_
    refine r_iload_n C 3 rfl rfl dX0_grows_155 ?_
    refine r_iconst C (v := 1) (by decide) dX0_grows_156 ?_
    refine r_iadd C dX0_grows_157 ?_
    obtain ⟨r68, I69, hq70, h⟩ := bd2_ h
    refine r_cvi C (rest := []) (H_grows  hq70) fm_X0_grows lk_X0_42 o_96 ⟨_, ct_0 o_96.1⟩ rfl rfl (RO_rec (by decide)) (Nat.le_of_ble_eq_true rfl) rfl dX0_grows_158 ?_
    have hz9 := Option.some.inj h
    subst hz9
    exact r_iret C hr dX0_grows_161
  · refine r_iconst C (v := 0) (by decide) dX0_grows_6 ?_
    have hz9 := Option.some.inj h
    subst hz9
    exact r_iret C hr dX0_grows_7
set_option maxHeartbeats 4000000 in
set_option maxRecDepth 100000 in
theorem gc_X0_grows {l : Launch} {g : GG} {ad : Nat → Nat} : ∀ d : Nat, (∀ {a0 : Int32} {a1 : Int32} {a2 : Int32} {I : HI} {J : HJ} {r : Int32} {I1 : HI}, f_X0_grows d a0 a1 a2 I J = some (r, I1) → CM l yX0_grows cX0_grows 4 (some .int) (rmk (1 + d) (21 + 40 * d)) g ad nO oR [.ref (ad 96), .int a0, .int a1, .int a2] I J (QAi g ad nO oR r I1 J)) := by
  intro d
  induction d with
  | zero =>
    exact fun {_} {_} {_} {_} {_} {_} {_}  h => by
          have h0 : (none : Option (Int32 × HI)) = some _ := h
          cases h0
  | succ d ih =>
    exact fun {_} {_} {_} {_} {_} {_} {_}  h => CM_of (by decide +kernel) (Nat.le_of_ble_eq_true rfl) (fun p e s m args below meth c C hr => w_X0_grows C hr ih h)
set_option maxHeartbeats 4000000 in
set_option maxRecDepth 100000 in
theorem c_X0_grows {l : Launch} {g : GG} {ad : Nat → Nat} {a0 : Int32} {a1 : Int32} {a2 : Int32} {I : HI} {J : HJ} {r : Int32} {I1 : HI} (h : f_X0_grows 40 a0 a1 a2 I J = some (r, I1)) : CM l yX0_grows cX0_grows 4 (some .int) (rmk 41 1621) g ad nO oR [.ref (ad 96), .int a0, .int a1, .int a2] I J (QAi g ad nO oR r I1 J) := (gc_X0_grows 40) h
set_option maxHeartbeats 4000000 in
set_option maxRecDepth 100000 in
theorem w_X0_swings {l : Launch} {g : GG} {ad : Nat → Nat} {p : Program} {e : Env} {s : State} {m : MethodId} {args : Array Value} {below : List Frame} {meth : Method} {c : Code} {d : Nat} {g_swings : Int32 → Int32 → Int32 → HI → HJ → Option (Int32 × HI)} {a0 : Int32} {a1 : Int32} {a2 : Int32} {z : Int32 × HI} (C : Cx p s m args meth c RX0 cX0_swings 4 g (AW ad nO)) (hr : meth.sig.returnType = (some .int)) (H_swings : ∀ {a0 : Int32} {a1 : Int32} {a2 : Int32} {I : HI} {J : HJ} {r : Int32} {I1 : HI}, g_swings a0 a1 a2 I J = some (r, I1) → CM l yX0_swings cX0_swings 4 (some .int) (rmk (42 + d) (1644 + 40 * d)) g ad nO oR [.ref (ad 96), .int a0, .int a1, .int a2] I J (QAi g ad nO oR r I1 J)) {I : HI} {J : HJ} (h : fb_X0_swings g_swings a0 a1 a2 I J = some z) : V p l e (rmk (42 + (d + 1)) (1644 + 40 * (d + 1))) s m args below meth c (MQ below (QAi g ad nO oR z.1 z.2 J) args s 0 0 (AW ad nO)) 4 0 0 g (AW ad nO) ad nO oR I J 0 [(0, .ref (ad 96)), (1, .int a0), (2, .int a1), (3, .int a2)] [] := by
  unfold fb_X0_swings at h
  refine r_iload_n C 3 rfl rfl dX0_swings_0 ?_
  refine r_bipush C (v := 20) (by decide) dX0_swings_1 ?_
  refine r_icmp_le C (tgt := 8) h dX0_swings_3 (by decide) (fun h => ?_) (fun h => ?_)
  · refine r_iload_n C 1 rfl rfl dX0_swings_8 ?_
    refine r_case h (fun hc34 h => ?_) (fun hc34 h => ?_)
    · refine r_tabIn C (tgt := 56) 0 hc34 dX0_swings_9 (by decide) (by decide) rfl (by decide) ?_
      refine r_aload_n C 0 rfl rfl dX0_swings_56 ?_
      refine r_bipush C (v := 11) (by decide) dX0_swings_57 ?_
      obtain ⟨I35, hq36, h⟩ := bd1_ h
      refine r_cvv C (rest := []) (c_X0_beginBody  hq36) fm_X0_beginBody lk_X0_55 o_96 ⟨_, ct_0 o_96.1⟩ rfl rfl (RO_base (by decide) (by decide)) (Nat.le_of_ble_eq_true rfl) rfl dX0_swings_59 ?_
      refine r_aload_n C 0 rfl rfl dX0_swings_62 ?_
      refine r_aload_n C 0 rfl rfl dX0_swings_63 ?_
      refine gf_X0_17 C o_96 dX0_swings_64 ?_
      refine r_iload_n C 2 rfl rfl dX0_swings_67 ?_
      refine r_iload_n C 3 rfl rfl dX0_swings_68 ?_
      refine r_pc (pc1 := 69) rfl ?_
      refine r_iconst C (v := 1) (by decide) dX0_swings_69 ?_
      refine r_iadd C dX0_swings_70 ?_
      obtain ⟨r37, I38, hq39, h⟩ := bd2_ h
      refine r_cvi C (rest := []) (c_X0_grows  hq39) fm_X0_grows lk_X0_42 o_96 ⟨_, ct_0 o_96.1⟩ rfl rfl (RO_base (by decide) (by decide)) (Nat.le_of_ble_eq_true rfl) rfl dX0_swings_71 ?_
      refine r_iconst C (v := 2) (by decide) dX0_swings_74 ?_
      refine r_imul C dX0_swings_75 ?_
      have hz9 := Option.some.inj h
      subst hz9
      exact r_iret C hr dX0_swings_76
    refine r_case h (fun hc40 h => ?_) (fun hc40 h => ?_)
    · refine r_tabIn C (tgt := 77) 1 hc40 dX0_swings_9 (by decide) (by decide) rfl (by decide) ?_
      refine r_aload_n C 0 rfl rfl dX0_swings_77 ?_
      refine r_bipush C (v := 20) (by decide) dX0_swings_78 ?_
      obtain ⟨I41, hq42, h⟩ := bd1_ h
      refine r_cvv C (rest := []) (c_X0_beginBody  hq42) fm_X0_beginBody lk_X0_55 o_96 ⟨_, ct_0 o_96.1⟩ rfl rfl (RO_base (by decide) (by decide)) (Nat.le_of_ble_eq_true rfl) rfl dX0_swings_80 ?_
      refine r_aload_n C 0 rfl rfl dX0_swings_83 ?_
      refine r_iload_n C 1 rfl rfl dX0_swings_84 ?_
      obtain ⟨r43, hq44, h⟩ := bd1_ h
      refine r_csi C (rest := [.ref (ad 96)]) (c_X1_above  hq44) fm_X1_above lk_X0_59 rfl (RO_base (by decide) (by decide)) (Nat.le_of_ble_eq_true rfl) rfl dX0_swings_85 ?_
      refine r_iload_n C 2 rfl rfl dX0_swings_88 ?_
      refine r_iload_n C 3 rfl rfl dX0_swings_89 ?_
      refine r_iconst C (v := 1) (by decide) dX0_swings_90 ?_
      refine r_iadd C dX0_swings_91 ?_
      obtain ⟨r45, I46, hq47, h⟩ := bd2_ h
      refine r_cvi C (rest := []) (H_swings  hq47) fm_X0_swings lk_X0_46 o_96 ⟨_, ct_0 o_96.1⟩ rfl rfl (RO_rec (by decide)) (Nat.le_of_ble_eq_true rfl) rfl dX0_swings_92 ?_
      refine r_iconst C (v := 3) (by decide) dX0_swings_95 ?_
      refine r_isub C dX0_swings_96 ?_
      have hz9 := Option.some.inj h
      subst hz9
      exact r_iret C hr dX0_swings_97
    refine r_case h (fun hc48 h => ?_) (fun hc48 h => ?_)
    · refine r_tabIn C (tgt := 98) 4 hc48 dX0_swings_9 (by decide) (by decide) rfl (by decide) ?_
      refine r_aload_n C 0 rfl rfl dX0_swings_98 ?_
      refine r_bipush C (v := 50) (by decide) dX0_swings_99 ?_
      obtain ⟨I49, hq50, h⟩ := bd1_ h
      refine r_cvv C (rest := []) (c_X0_beginBody  hq50) fm_X0_beginBody lk_X0_55 o_96 ⟨_, ct_0 o_96.1⟩ rfl rfl (RO_base (by decide) (by decide)) (Nat.le_of_ble_eq_true rfl) rfl dX0_swings_101 ?_
      refine r_iconst C (v := 0) (by decide) dX0_swings_104 ?_
      refine r_aload_n C 0 rfl rfl dX0_swings_105 ?_
      refine r_iload_n C 1 rfl rfl dX0_swings_106 ?_
      obtain ⟨r51, hq52, h⟩ := bd1_ h
      refine r_csi C (rest := [.ref (ad 96), .int (0 : Int32)]) (c_X1_above  hq52) fm_X1_above lk_X0_59 rfl (RO_base (by decide) (by decide)) (Nat.le_of_ble_eq_true rfl) rfl dX0_swings_107 ?_
      refine r_iload_n C 2 rfl rfl dX0_swings_110 ?_
      refine r_iload_n C 3 rfl rfl dX0_swings_111 ?_
      refine r_iconst C (v := 1) (by decide) dX0_swings_112 ?_
      refine r_iadd C dX0_swings_113 ?_
      obtain ⟨r53, I54, hq55, h⟩ := bd2_ h
      refine r_cvi C (rest := [.int (0 : Int32)]) (H_swings  hq55) fm_X0_swings lk_X0_46 o_96 ⟨_, ct_0 o_96.1⟩ rfl rfl (RO_rec (by decide)) (Nat.le_of_ble_eq_true rfl) rfl dX0_swings_114 ?_
      refine r_isub C dX0_swings_117 ?_
      have hz9 := Option.some.inj h
      subst hz9
      exact r_iret C hr dX0_swings_118
    refine r_case h (fun hc56 h => ?_) (fun hc56 h => ?_)
    · refine r_tabIn C (tgt := 119) 7 hc56 dX0_swings_9 (by decide) (by decide) rfl (by decide) ?_
      refine r_aload_n C 0 rfl rfl dX0_swings_119 ?_
      refine r_bipush C (v := 81) (by decide) dX0_swings_120 ?_
      obtain ⟨I57, hq58, h⟩ := bd1_ h
      refine r_cvv C (rest := []) (c_X0_beginBody  hq58) fm_X0_beginBody lk_X0_55 o_96 ⟨_, ct_0 o_96.1⟩ rfl rfl (RO_base (by decide) (by decide)) (Nat.le_of_ble_eq_true rfl) rfl dX0_swings_122 ?_
      refine r_aload_n C 0 rfl rfl dX0_swings_125 ?_
      refine r_aload_n C 0 rfl rfl dX0_swings_126 ?_
      refine gf_X0_17 C o_96 dX0_swings_127 ?_
      refine r_iload_n C 2 rfl rfl dX0_swings_130 ?_
      refine r_iload_n C 3 rfl rfl dX0_swings_131 ?_
      refine r_pc (pc1 := 132) rfl ?_
      refine r_iconst C (v := 1) (by decide) dX0_swings_132 ?_
      refine r_iadd C dX0_swings_133 ?_
      obtain ⟨r59, I60, hq61, h⟩ := bd2_ h
      refine r_cvi C (rest := []) (c_X0_grows  hq61) fm_X0_grows lk_X0_42 o_96 ⟨_, ct_0 o_96.1⟩ rfl rfl (RO_base (by decide) (by decide)) (Nat.le_of_ble_eq_true rfl) rfl dX0_swings_134 ?_
      refine r_aload_n C 0 rfl rfl dX0_swings_137 ?_
      refine gf_X0_32 C o_96 dX0_swings_138 ?_
      refine r_imul C dX0_swings_141 ?_
      have hz9 := Option.some.inj h
      subst hz9
      exact r_iret C hr dX0_swings_142
    refine r_tabD C (tgt := 143) [0, 1, 4, 7] (r_nc hc34 rfl (r_nc hc40 rfl (r_nc hc48 rfl (r_nc hc56 rfl r_nc0)))) dX0_swings_9 rfl (by decide) (by decide) ?_
    refine r_aload_n C 0 rfl rfl dX0_swings_143 ?_
    refine r_iload_n C 1 rfl rfl dX0_swings_144 ?_
    obtain ⟨r62, hq63, h⟩ := bd1_ h
    refine r_csi C (rest := [.ref (ad 96)]) (c_X1_above  hq63) fm_X1_above lk_X0_59 rfl (RO_base (by decide) (by decide)) (Nat.le_of_ble_eq_true rfl) rfl dX0_swings_145 ?_
    refine r_iload_n C 2 rfl rfl dX0_swings_148 ?_
    refine r_iload_n C 3 rfl rfl dX0_swings_149 ?_
    refine r_iconst C (v := 1) (by decide) dX0_swings_150 ?_
    refine r_iadd C dX0_swings_151 ?_
    obtain ⟨r64, I65, hq66, h⟩ := bd2_ h
    refine r_cvi C (rest := []) (H_swings  hq66) fm_X0_swings lk_X0_46 o_96 ⟨_, ct_0 o_96.1⟩ rfl rfl (RO_rec (by decide)) (Nat.le_of_ble_eq_true rfl) rfl dX0_swings_152 ?_
    have hz9 := Option.some.inj h
    subst hz9
    exact r_iret C hr dX0_swings_155
  · refine r_iconst C (v := 0) (by decide) dX0_swings_6 ?_
    have hz9 := Option.some.inj h
    subst hz9
    exact r_iret C hr dX0_swings_7
set_option maxHeartbeats 4000000 in
set_option maxRecDepth 100000 in
theorem gc_X0_swings {l : Launch} {g : GG} {ad : Nat → Nat} : ∀ d : Nat, (∀ {a0 : Int32} {a1 : Int32} {a2 : Int32} {I : HI} {J : HJ} {r : Int32} {I1 : HI}, f_X0_swings d a0 a1 a2 I J = some (r, I1) → CM l yX0_swings cX0_swings 4 (some .int) (rmk (42 + d) (1644 + 40 * d)) g ad nO oR [.ref (ad 96), .int a0, .int a1, .int a2] I J (QAi g ad nO oR r I1 J)) := by
  intro d
  induction d with
  | zero =>
    exact fun {_} {_} {_} {_} {_} {_} {_}  h => by
          have h0 : (none : Option (Int32 × HI)) = some _ := h
          cases h0
  | succ d ih =>
    exact fun {_} {_} {_} {_} {_} {_} {_}  h => CM_of (by decide +kernel) (Nat.le_of_ble_eq_true rfl) (fun p e s m args below meth c C hr => w_X0_swings C hr ih h)
set_option maxHeartbeats 4000000 in
set_option maxRecDepth 100000 in
theorem c_X0_swings {l : Launch} {g : GG} {ad : Nat → Nat} {a0 : Int32} {a1 : Int32} {a2 : Int32} {I : HI} {J : HJ} {r : Int32} {I1 : HI} (h : f_X0_swings 40 a0 a1 a2 I J = some (r, I1)) : CM l yX0_swings cX0_swings 4 (some .int) (rmk 82 3244) g ad nO oR [.ref (ad 96), .int a0, .int a1, .int a2] I J (QAi g ad nO oR r I1 J) := (gc_X0_swings 40) h
set_option maxHeartbeats 4000000 in
set_option maxRecDepth 100000 in
theorem w_X0_partedBy {l : Launch} {g : GG} {ad : Nat → Nat} {p : Program} {e : Env} {s : State} {m : MethodId} {args : Array Value} {below : List Frame} {meth : Method} {c : Code} {a0 : Int32} {a1 : Int32} {z : Int32 × HI} (C : Cx p s m args meth c RX0 cX0_partedBy 3 g (AW ad nO)) (hr : meth.sig.returnType = (some .int)) {I : HI} {J : HJ} (h : f_X0_partedBy a0 a1 I J = some z) : V p l e (rmk 0 0) s m args below meth c (MQ below (QAi g ad nO oR z.1 z.2 J) args s 0 0 (AW ad nO)) 3 0 0 g (AW ad nO) ad nO oR I J 0 [(0, .ref (ad 96)), (1, .int a0), (2, .int a1)] [] := by
  unfold f_X0_partedBy at h
  refine r_iload_n C 1 rfl rfl dX0_partedBy_0 ?_
  refine r_if_ne C (tgt := 11) h dX0_partedBy_1 (by decide) (fun h => ?_) (fun h => ?_)
  · refine r_iload_n C 2 rfl rfl dX0_partedBy_11 ?_
    refine r_iload_n C 1 rfl rfl dX0_partedBy_12 ?_
    refine r_idiv C h dX0_partedBy_13 (fun h => ?_)
    have hz9 := Option.some.inj h
    subst hz9
    exact r_iret C hr dX0_partedBy_14
  · refine r_aload_n C 0 rfl rfl dX0_partedBy_4 ?_
    refine r_iconst C (v := 1) (by decide) dX0_partedBy_5 ?_
    refine pf_X0_28 C rfl o_96 dX0_partedBy_6 ?_
    refine r_nmI h (fun I2 h => ?_)
    refine r_iconst C (v := 0) (by decide) dX0_partedBy_9 ?_
    have hz9 := Option.some.inj h
    subst hz9
    exact r_iret C hr dX0_partedBy_10
set_option maxHeartbeats 4000000 in
set_option maxRecDepth 100000 in
theorem c_X0_partedBy {l : Launch} {g : GG} {ad : Nat → Nat} {a0 : Int32} {a1 : Int32} {I : HI} {J : HJ} {r : Int32} {I1 : HI} (h : f_X0_partedBy a0 a1 I J = some (r, I1)) : CM l yX0_partedBy cX0_partedBy 3 (some .int) (rmk 0 0) g ad nO oR [.ref (ad 96), .int a0, .int a1] I J (QAi g ad nO oR r I1 J) :=
  CM_of (by decide +kernel) (Nat.le_of_ble_eq_true rfl) (fun p e s m args below meth c C hr => w_X0_partedBy C hr h)
set_option maxHeartbeats 4000000 in
set_option maxRecDepth 100000 in
theorem w_X0_parts {l : Launch} {g : GG} {ad : Nat → Nat} {p : Program} {e : Env} {s : State} {m : MethodId} {args : Array Value} {below : List Frame} {meth : Method} {c : Code} {d : Nat} {g_parts : Int32 → Int32 → Int32 → HI → HJ → Option (Int32 × HI)} {a0 : Int32} {a1 : Int32} {a2 : Int32} {z : Int32 × HI} (C : Cx p s m args meth c RX0 cX0_parts 4 g (AW ad nO)) (hr : meth.sig.returnType = (some .int)) (H_parts : ∀ {a0 : Int32} {a1 : Int32} {a2 : Int32} {I : HI} {J : HJ} {r : Int32} {I1 : HI}, g_parts a0 a1 a2 I J = some (r, I1) → CM l yX0_parts cX0_parts 4 (some .int) (rmk (1 + d) (22 + 40 * d)) g ad nO oR [.ref (ad 96), .int a0, .int a1, .int a2] I J (QAi g ad nO oR r I1 J)) {I : HI} {J : HJ} (h : fb_X0_parts g_parts a0 a1 a2 I J = some z) : V p l e (rmk (1 + (d + 1)) (22 + 40 * (d + 1))) s m args below meth c (MQ below (QAi g ad nO oR z.1 z.2 J) args s 0 0 (AW ad nO)) 4 0 0 g (AW ad nO) ad nO oR I J 0 [(0, .ref (ad 96)), (1, .int a0), (2, .int a1), (3, .int a2)] [] := by
  unfold fb_X0_parts at h
  refine r_iload_n C 3 rfl rfl dX0_parts_0 ?_
  refine r_bipush C (v := 20) (by decide) dX0_parts_1 ?_
  refine r_icmp_le C (tgt := 8) h dX0_parts_3 (by decide) (fun h => ?_) (fun h => ?_)
  · refine r_iload_n C 1 rfl rfl dX0_parts_8 ?_
    refine r_case h (fun hc39 h => ?_) (fun hc39 h => ?_)
    · refine r_tabIn C (tgt := 56) 0 hc39 dX0_parts_9 (by decide) (by decide) rfl (by decide) ?_
      refine r_aload_n C 0 rfl rfl dX0_parts_56 ?_
      refine r_bipush C (v := 12) (by decide) dX0_parts_57 ?_
      obtain ⟨I40, hq41, h⟩ := bd1_ h
      refine r_cvv C (rest := []) (c_X0_beginBody  hq41) fm_X0_beginBody lk_X0_55 o_96 ⟨_, ct_0 o_96.1⟩ rfl rfl (RO_base (by decide) (by decide)) (Nat.le_of_ble_eq_true rfl) rfl dX0_parts_59 ?_
      refine r_aload_n C 0 rfl rfl dX0_parts_62 ?_
      refine r_aload_n C 0 rfl rfl dX0_parts_63 ?_
      refine gf_X0_35 C o_96 dX0_parts_64 ?_
      refine r_aload_n C 0 rfl rfl dX0_parts_67 ?_
      refine gf_X0_32 C o_96 dX0_parts_68 ?_
      refine r_pc (pc1 := 71) rfl ?_
      refine r_isub C dX0_parts_71 ?_
      refine r_iload_n C 2 rfl rfl dX0_parts_72 ?_
      obtain ⟨r42, I43, hq44, h⟩ := bd2_ h
      refine r_cvi C (rest := []) (c_X0_partedBy  hq44) fm_X0_partedBy lk_X0_63 o_96 ⟨_, ct_0 o_96.1⟩ rfl rfl (RO_base (by decide) (by decide)) (Nat.le_of_ble_eq_true rfl) rfl dX0_parts_73 ?_
      have hz9 := Option.some.inj h
      subst hz9
      exact r_iret C hr dX0_parts_76
    refine r_case h (fun hc45 h => ?_) (fun hc45 h => ?_)
    · refine r_tabIn C (tgt := 77) 3 hc45 dX0_parts_9 (by decide) (by decide) rfl (by decide) ?_
      refine r_aload_n C 0 rfl rfl dX0_parts_77 ?_
      refine r_bipush C (v := 41) (by decide) dX0_parts_78 ?_
      obtain ⟨I46, hq47, h⟩ := bd1_ h
      refine r_cvv C (rest := []) (c_X0_beginBody  hq47) fm_X0_beginBody lk_X0_55 o_96 ⟨_, ct_0 o_96.1⟩ rfl rfl (RO_base (by decide) (by decide)) (Nat.le_of_ble_eq_true rfl) rfl dX0_parts_80 ?_
      refine r_aload_n C 0 rfl rfl dX0_parts_83 ?_
      refine r_iload_n C 1 rfl rfl dX0_parts_84 ?_
      obtain ⟨r48, hq49, h⟩ := bd1_ h
      refine r_csi C (rest := [.ref (ad 96)]) (c_X1_above  hq49) fm_X1_above lk_X0_59 rfl (RO_base (by decide) (by decide)) (Nat.le_of_ble_eq_true rfl) rfl dX0_parts_85 ?_
      refine r_iload_n C 2 rfl rfl dX0_parts_88 ?_
      refine r_iconst C (v := 1) (by decide) dX0_parts_89 ?_
      refine r_iadd C dX0_parts_90 ?_
      refine r_iload_n C 3 rfl rfl dX0_parts_91 ?_
      refine r_iconst C (v := 1) (by decide) dX0_parts_92 ?_
      refine r_pc (pc1 := 93) rfl ?_
      refine r_iadd C dX0_parts_93 ?_
      obtain ⟨r50, I51, hq52, h⟩ := bd2_ h
      refine r_cvi C (rest := []) (H_parts  hq52) fm_X0_parts lk_X0_49 o_96 ⟨_, ct_0 o_96.1⟩ rfl rfl (RO_rec (by decide)) (Nat.le_of_ble_eq_true rfl) rfl dX0_parts_94 ?_
      have hz9 := Option.some.inj h
      subst hz9
      exact r_iret C hr dX0_parts_97
    refine r_case h (fun hc53 h => ?_) (fun hc53 h => ?_)
    · refine r_tabIn C (tgt := 98) 5 hc53 dX0_parts_9 (by decide) (by decide) rfl (by decide) ?_
      refine r_aload_n C 0 rfl rfl dX0_parts_98 ?_
      refine r_bipush C (v := 61) (by decide) dX0_parts_99 ?_
      obtain ⟨I54, hq55, h⟩ := bd1_ h
      refine r_cvv C (rest := []) (c_X0_beginBody  hq55) fm_X0_beginBody lk_X0_55 o_96 ⟨_, ct_0 o_96.1⟩ rfl rfl (RO_base (by decide) (by decide)) (Nat.le_of_ble_eq_true rfl) rfl dX0_parts_101 ?_
      refine r_aload_n C 0 rfl rfl dX0_parts_104 ?_
      refine r_iload_n C 1 rfl rfl dX0_parts_105 ?_
      obtain ⟨r56, hq57, h⟩ := bd1_ h
      refine r_csi C (rest := [.ref (ad 96)]) (c_X1_above  hq57) fm_X1_above lk_X0_59 rfl (RO_base (by decide) (by decide)) (Nat.le_of_ble_eq_true rfl) rfl dX0_parts_106 ?_
      refine r_iload_n C 2 rfl rfl dX0_parts_109 ?_
      refine r_iconst C (v := 1) (by decide) dX0_parts_110 ?_
      refine r_isub C dX0_parts_111 ?_
      refine r_iload_n C 3 rfl rfl dX0_parts_112 ?_
      refine r_iconst C (v := 1) (by decide) dX0_parts_113 ?_
      refine r_pc (pc1 := 114) rfl ?_
      refine r_iadd C dX0_parts_114 ?_
      obtain ⟨r58, I59, hq60, h⟩ := bd2_ h
      refine r_cvi C (rest := []) (H_parts  hq60) fm_X0_parts lk_X0_49 o_96 ⟨_, ct_0 o_96.1⟩ rfl rfl (RO_rec (by decide)) (Nat.le_of_ble_eq_true rfl) rfl dX0_parts_115 ?_
      have hz9 := Option.some.inj h
      subst hz9
      exact r_iret C hr dX0_parts_118
    refine r_case h (fun hc61 h => ?_) (fun hc61 h => ?_)
    · refine r_tabIn C (tgt := 119) 6 hc61 dX0_parts_9 (by decide) (by decide) rfl (by decide) ?_
      refine r_aload_n C 0 rfl rfl dX0_parts_119 ?_
      refine r_bipush C (v := 71) (by decide) dX0_parts_120 ?_
      obtain ⟨I62, hq63, h⟩ := bd1_ h
      refine r_cvv C (rest := []) (c_X0_beginBody  hq63) fm_X0_beginBody lk_X0_55 o_96 ⟨_, ct_0 o_96.1⟩ rfl rfl (RO_base (by decide) (by decide)) (Nat.le_of_ble_eq_true rfl) rfl dX0_parts_122 ?_
      refine r_aload_n C 0 rfl rfl dX0_parts_125 ?_
      refine r_iload_n C 1 rfl rfl dX0_parts_126 ?_
      obtain ⟨r64, hq65, h⟩ := bd1_ h
      refine r_csi C (rest := [.ref (ad 96)]) (c_X1_above  hq65) fm_X1_above lk_X0_59 rfl (RO_base (by decide) (by decide)) (Nat.le_of_ble_eq_true rfl) rfl dX0_parts_127 ?_
      refine r_iload_n C 2 rfl rfl dX0_parts_130 ?_
      refine r_iload_n C 3 rfl rfl dX0_parts_131 ?_
      refine r_iconst C (v := 1) (by decide) dX0_parts_132 ?_
      refine r_iadd C dX0_parts_133 ?_
      obtain ⟨r66, I67, hq68, h⟩ := bd2_ h
      refine r_cvi C (rest := []) (H_parts  hq68) fm_X0_parts lk_X0_49 o_96 ⟨_, ct_0 o_96.1⟩ rfl rfl (RO_rec (by decide)) (Nat.le_of_ble_eq_true rfl) rfl dX0_parts_134 ?_
      refine r_iconst C (v := 1) (by decide) dX0_parts_137 ?_
      refine r_ixor C dX0_parts_138 ?_
      have hz9 := Option.some.inj h
      subst hz9
      exact r_iret C hr dX0_parts_139
    refine r_case h (fun hc69 h => ?_) (fun hc69 h => ?_)
    · refine r_tabIn C (tgt := 140) 7 hc69 dX0_parts_9 (by decide) (by decide) rfl (by decide) ?_
      refine r_aload_n C 0 rfl rfl dX0_parts_140 ?_
      refine r_bipush C (v := 82) (by decide) dX0_parts_141 ?_
      obtain ⟨I70, hq71, h⟩ := bd1_ h
      refine r_cvv C (rest := []) (c_X0_beginBody  hq71) fm_X0_beginBody lk_X0_55 o_96 ⟨_, ct_0 o_96.1⟩ rfl rfl (RO_base (by decide) (by decide)) (Nat.le_of_ble_eq_true rfl) rfl dX0_parts_143 ?_
      refine r_iload_n C 2 rfl rfl dX0_parts_146 ?_
      refine r_aload_n C 0 rfl rfl dX0_parts_147 ?_
      refine gf_X0_35 C o_96 dX0_parts_148 ?_
      refine r_iand C dX0_parts_151 ?_
      have hz9 := Option.some.inj h
      subst hz9
      exact r_iret C hr dX0_parts_152
    refine r_tabD C (tgt := 153) [0, 3, 5, 6, 7] (r_nc hc39 rfl (r_nc hc45 rfl (r_nc hc53 rfl (r_nc hc61 rfl (r_nc hc69 rfl r_nc0))))) dX0_parts_9 rfl (by decide) (by decide) ?_
    refine r_aload_n C 0 rfl rfl dX0_parts_153 ?_
    refine r_iload_n C 1 rfl rfl dX0_parts_154 ?_
    obtain ⟨r72, hq73, h⟩ := bd1_ h
    refine r_csi C (rest := [.ref (ad 96)]) (c_X1_above  hq73) fm_X1_above lk_X0_59 rfl (RO_base (by decide) (by decide)) (Nat.le_of_ble_eq_true rfl) rfl dX0_parts_155 ?_
    refine r_iload_n C 2 rfl rfl dX0_parts_158 ?_
    refine r_iload_n C 3 rfl rfl dX0_parts_159 ?_
    refine r_iconst C (v := 1) (by decide) dX0_parts_160 ?_
    refine r_iadd C dX0_parts_161 ?_
    obtain ⟨r74, I75, hq76, h⟩ := bd2_ h
    refine r_cvi C (rest := []) (H_parts  hq76) fm_X0_parts lk_X0_49 o_96 ⟨_, ct_0 o_96.1⟩ rfl rfl (RO_rec (by decide)) (Nat.le_of_ble_eq_true rfl) rfl dX0_parts_162 ?_
    have hz9 := Option.some.inj h
    subst hz9
    exact r_iret C hr dX0_parts_165
  · refine r_iconst C (v := 0) (by decide) dX0_parts_6 ?_
    have hz9 := Option.some.inj h
    subst hz9
    exact r_iret C hr dX0_parts_7
set_option maxHeartbeats 4000000 in
set_option maxRecDepth 100000 in
theorem gc_X0_parts {l : Launch} {g : GG} {ad : Nat → Nat} : ∀ d : Nat, (∀ {a0 : Int32} {a1 : Int32} {a2 : Int32} {I : HI} {J : HJ} {r : Int32} {I1 : HI}, f_X0_parts d a0 a1 a2 I J = some (r, I1) → CM l yX0_parts cX0_parts 4 (some .int) (rmk (1 + d) (22 + 40 * d)) g ad nO oR [.ref (ad 96), .int a0, .int a1, .int a2] I J (QAi g ad nO oR r I1 J)) := by
  intro d
  induction d with
  | zero =>
    exact fun {_} {_} {_} {_} {_} {_} {_}  h => by
          have h0 : (none : Option (Int32 × HI)) = some _ := h
          cases h0
  | succ d ih =>
    exact fun {_} {_} {_} {_} {_} {_} {_}  h => CM_of (by decide +kernel) (Nat.le_of_ble_eq_true rfl) (fun p e s m args below meth c C hr => w_X0_parts C hr ih h)
set_option maxHeartbeats 4000000 in
set_option maxRecDepth 100000 in
theorem c_X0_parts {l : Launch} {g : GG} {ad : Nat → Nat} {a0 : Int32} {a1 : Int32} {a2 : Int32} {I : HI} {J : HJ} {r : Int32} {I1 : HI} (h : f_X0_parts 40 a0 a1 a2 I J = some (r, I1)) : CM l yX0_parts cX0_parts 4 (some .int) (rmk 41 1622) g ad nO oR [.ref (ad 96), .int a0, .int a1, .int a2] I J (QAi g ad nO oR r I1 J) := (gc_X0_parts 40) h
set_option maxHeartbeats 4000000 in
set_option maxRecDepth 100000 in
theorem w_X0_tells {l : Launch} {g : GG} {ad : Nat → Nat} {p : Program} {e : Env} {s : State} {m : MethodId} {args : Array Value} {below : List Frame} {meth : Method} {c : Code} {d : Nat} {g_tells : Int32 → Int32 → Int32 → HI → HJ → Option (Int32 × HI)} {a0 : Int32} {a1 : Int32} {a2 : Int32} {z : Int32 × HI} (C : Cx p s m args meth c RX0 cX0_tells 6 g (AW ad nO)) (hr : meth.sig.returnType = (some .int)) (H_tells : ∀ {a0 : Int32} {a1 : Int32} {a2 : Int32} {I : HI} {J : HJ} {r : Int32} {I1 : HI}, g_tells a0 a1 a2 I J = some (r, I1) → CM l yX0_tells cX0_tells 6 (some .int) (rmk (83 + d) (3267 + 40 * d)) g ad nO oR [.ref (ad 96), .int a0, .int a1, .int a2] I J (QAi g ad nO oR r I1 J)) {I : HI} {J : HJ} (h : fb_X0_tells g_tells a0 a1 a2 I J = some z) : V p l e (rmk (83 + (d + 1)) (3267 + 40 * (d + 1))) s m args below meth c (MQ below (QAi g ad nO oR z.1 z.2 J) args s 0 0 (AW ad nO)) 6 0 0 g (AW ad nO) ad nO oR I J 0 [(0, .ref (ad 96)), (1, .int a0), (2, .int a1), (3, .int a2)] [] := by
  unfold fb_X0_tells at h
  refine r_iload_n C 3 rfl rfl dX0_tells_0 ?_
  refine r_bipush C (v := 20) (by decide) dX0_tells_1 ?_
  refine r_icmp_le C (tgt := 8) h dX0_tells_3 (by decide) (fun h => ?_) (fun h => ?_)
  · refine r_iload_n C 1 rfl rfl dX0_tells_8 ?_
    refine r_case h (fun hc40 h => ?_) (fun hc40 h => ?_)
    · refine r_tabIn C (tgt := 56) 0 hc40 dX0_tells_9 (by decide) (by decide) rfl (by decide) ?_
      refine r_aload_n C 0 rfl rfl dX0_tells_56 ?_
      refine r_bipush C (v := 13) (by decide) dX0_tells_57 ?_
      obtain ⟨I41, hq42, h⟩ := bd1_ h
      refine r_cvv C (rest := []) (c_X0_beginBody  hq42) fm_X0_beginBody lk_X0_55 o_96 ⟨_, ct_0 o_96.1⟩ rfl rfl (RO_base (by decide) (by decide)) (Nat.le_of_ble_eq_true rfl) rfl dX0_tells_59 ?_
      refine r_aload_n C 0 rfl rfl dX0_tells_62 ?_
      refine r_aload_n C 0 rfl rfl dX0_tells_63 ?_
      refine gf_X0_17 C o_96 dX0_tells_64 ?_
      refine r_iload_n C 2 rfl rfl dX0_tells_67 ?_
      refine r_iload_n C 3 rfl rfl dX0_tells_68 ?_
      refine r_pc (pc1 := 69) rfl ?_
      refine r_iconst C (v := 1) (by decide) dX0_tells_69 ?_
      refine r_iadd C dX0_tells_70 ?_
      obtain ⟨r43, I44, hq45, h⟩ := bd2_ h
      refine r_cvi C (rest := []) (c_X0_swings  hq45) fm_X0_swings lk_X0_46 o_96 ⟨_, ct_0 o_96.1⟩ rfl rfl (RO_base (by decide) (by decide)) (Nat.le_of_ble_eq_true rfl) rfl dX0_tells_71 ?_
      refine r_aload_n C 0 rfl rfl dX0_tells_74 ?_
      refine gf_X0_32 C o_96 dX0_tells_75 ?_
      refine r_ixor C dX0_tells_78 ?_
      have hz9 := Option.some.inj h
      subst hz9
      exact r_iret C hr dX0_tells_79
    refine r_case h (fun hc46 h => ?_) (fun hc46 h => ?_)
    · refine r_tabIn C (tgt := 80) 2 hc46 dX0_tells_9 (by decide) (by decide) rfl (by decide) ?_
      refine r_aload_n C 0 rfl rfl dX0_tells_80 ?_
      refine r_bipush C (v := 31) (by decide) dX0_tells_81 ?_
      obtain ⟨I47, hq48, h⟩ := bd1_ h
      refine r_cvv C (rest := []) (c_X0_beginBody  hq48) fm_X0_beginBody lk_X0_55 o_96 ⟨_, ct_0 o_96.1⟩ rfl rfl (RO_base (by decide) (by decide)) (Nat.le_of_ble_eq_true rfl) rfl dX0_tells_83 ?_
      refine r_aload_n C 0 rfl rfl dX0_tells_86 ?_
      refine r_iload_n C 1 rfl rfl dX0_tells_87 ?_
      obtain ⟨r49, hq50, h⟩ := bd1_ h
      refine r_csi C (rest := [.ref (ad 96)]) (c_X1_above  hq50) fm_X1_above lk_X0_59 rfl (RO_base (by decide) (by decide)) (Nat.le_of_ble_eq_true rfl) rfl dX0_tells_88 ?_
      refine r_iload_n C 2 rfl rfl dX0_tells_91 ?_
      refine r_iload_n C 3 rfl rfl dX0_tells_92 ?_
      refine r_iconst C (v := 1) (by decide) dX0_tells_93 ?_
      refine r_iadd C dX0_tells_94 ?_
      obtain ⟨r51, I52, hq53, h⟩ := bd2_ h
      refine r_cvi C (rest := []) (H_tells  hq53) fm_X0_tells lk_X0_52 o_96 ⟨_, ct_0 o_96.1⟩ rfl rfl (RO_rec (by decide)) (Nat.le_of_ble_eq_true rfl) rfl dX0_tells_95 ?_
      refine r_istore C (lv1 := [(4, .int r51), (0, .ref (ad 96)), (1, .int a0), (2, .int a1), (3, .int a2)]) (by decide) rfl dX0_tells_98 ?_
      refine r_iload C 0 rfl dX0_tells_100 ?_
      refine r_aload_n C 1 rfl rfl dX0_tells_102 ?_
      refine r_aload_n C 1 rfl rfl dX0_tells_103 ?_
      refine gf_X0_17 C o_96 dX0_tells_104 ?_
      refine r_aload_n C 1 rfl rfl dX0_tells_107 ?_
      refine r_pc (pc1 := 108) rfl ?_
      refine gf_X0_32 C o_96 dX0_tells_108 ?_
      refine r_iload_n C 4 rfl rfl dX0_tells_111 ?_
      refine r_iconst C (v := 1) (by decide) dX0_tells_112 ?_
      refine r_iadd C dX0_tells_113 ?_
      obtain ⟨r54, I55, hq56, h⟩ := bd2_ h
      refine r_cvi C (rest := [.int r51]) (c_X0_parts  hq56) fm_X0_parts lk_X0_49 o_96 ⟨_, ct_0 o_96.1⟩ rfl rfl (RO_base (by decide) (by decide)) (Nat.le_of_ble_eq_true rfl) rfl dX0_tells_114 ?_
      refine r_iadd C dX0_tells_117 ?_
      have hz9 := Option.some.inj h
      subst hz9
      exact r_iret C hr dX0_tells_118
    refine r_case h (fun hc57 h => ?_) (fun hc57 h => ?_)
    · refine r_tabIn C (tgt := 119) 5 hc57 dX0_tells_9 (by decide) (by decide) rfl (by decide) ?_
      refine r_aload_n C 0 rfl rfl dX0_tells_119 ?_
      refine r_bipush C (v := 60) (by decide) dX0_tells_120 ?_
      obtain ⟨I58, hq59, h⟩ := bd1_ h
      refine r_cvv C (rest := []) (c_X0_beginBody  hq59) fm_X0_beginBody lk_X0_55 o_96 ⟨_, ct_0 o_96.1⟩ rfl rfl (RO_base (by decide) (by decide)) (Nat.le_of_ble_eq_true rfl) rfl dX0_tells_122 ?_
      refine r_aload_n C 0 rfl rfl dX0_tells_125 ?_
      refine r_iload_n C 1 rfl rfl dX0_tells_126 ?_
      obtain ⟨r60, hq61, h⟩ := bd1_ h
      refine r_csi C (rest := [.ref (ad 96)]) (c_X1_above  hq61) fm_X1_above lk_X0_59 rfl (RO_base (by decide) (by decide)) (Nat.le_of_ble_eq_true rfl) rfl dX0_tells_127 ?_
      refine r_iload_n C 2 rfl rfl dX0_tells_130 ?_
      refine r_iload_n C 3 rfl rfl dX0_tells_131 ?_
      refine r_iconst C (v := 1) (by decide) dX0_tells_132 ?_
      refine r_iadd C dX0_tells_133 ?_
      obtain ⟨r62, I63, hq64, h⟩ := bd2_ h
      refine r_cvi C (rest := []) (H_tells  hq64) fm_X0_tells lk_X0_52 o_96 ⟨_, ct_0 o_96.1⟩ rfl rfl (RO_rec (by decide)) (Nat.le_of_ble_eq_true rfl) rfl dX0_tells_134 ?_
      refine r_iconst C (v := 2) (by decide) dX0_tells_137 ?_
      refine r_imul C dX0_tells_138 ?_
      have hz9 := Option.some.inj h
      subst hz9
      exact r_iret C hr dX0_tells_139
    refine r_case h (fun hc65 h => ?_) (fun hc65 h => ?_)
    · refine r_tabIn C (tgt := 140) 7 hc65 dX0_tells_9 (by decide) (by decide) rfl (by decide) ?_
      refine r_aload_n C 0 rfl rfl dX0_tells_140 ?_
      refine r_bipush C (v := 83) (by decide) dX0_tells_141 ?_
      obtain ⟨I66, hq67, h⟩ := bd1_ h
      refine r_cvv C (rest := []) (c_X0_beginBody  hq67) fm_X0_beginBody lk_X0_55 o_96 ⟨_, ct_0 o_96.1⟩ rfl rfl (RO_base (by decide) (by decide)) (Nat.le_of_ble_eq_true rfl) rfl dX0_tells_143 ?_
      refine r_aload_n C 0 rfl rfl dX0_tells_146 ?_
      refine r_aload_n C 0 rfl rfl dX0_tells_147 ?_
      refine gf_X0_17 C o_96 dX0_tells_148 ?_
      refine r_iload_n C 2 rfl rfl dX0_tells_151 ?_
      refine r_iload_n C 3 rfl rfl dX0_tells_152 ?_
      refine r_pc (pc1 := 153) rfl ?_
      refine r_iconst C (v := 1) (by decide) dX0_tells_153 ?_
      refine r_iadd C dX0_tells_154 ?_
      obtain ⟨r68, I69, hq70, h⟩ := bd2_ h
      refine r_cvi C (rest := []) (c_X0_swings  hq70) fm_X0_swings lk_X0_46 o_96 ⟨_, ct_0 o_96.1⟩ rfl rfl (RO_base (by decide) (by decide)) (Nat.le_of_ble_eq_true rfl) rfl dX0_tells_155 ?_
      refine r_istore C (lv1 := [(5, .int r68), (0, .ref (ad 96)), (1, .int a0), (2, .int a1), (3, .int a2)]) (by decide) rfl dX0_tells_158 ?_
      refine r_iload C 0 rfl dX0_tells_160 ?_
      refine r_aload_n C 1 rfl rfl dX0_tells_162 ?_
      refine r_aload_n C 1 rfl rfl dX0_tells_163 ?_
      refine gf_X0_17 C o_96 dX0_tells_164 ?_
      refine r_aload_n C 1 rfl rfl dX0_tells_167 ?_
      refine r_pc (pc1 := 168) rfl ?_
      refine gf_X0_32 C o_96 dX0_tells_168 ?_
      refine r_iload_n C 4 rfl rfl dX0_tells_171 ?_
      refine r_iconst C (v := 1) (by decide) dX0_tells_172 ?_
      refine r_iadd C dX0_tells_173 ?_
      obtain ⟨r71, I72, hq73, h⟩ := bd2_ h
      refine r_cvi C (rest := [.int r68]) (c_X0_parts  hq73) fm_X0_parts lk_X0_49 o_96 ⟨_, ct_0 o_96.1⟩ rfl rfl (RO_base (by decide) (by decide)) (Nat.le_of_ble_eq_true rfl) rfl dX0_tells_174 ?_
      refine r_isub C dX0_tells_177 ?_
      have hz9 := Option.some.inj h
      subst hz9
      exact r_iret C hr dX0_tells_178
    refine r_tabD C (tgt := 179) [0, 2, 5, 7] (r_nc hc40 rfl (r_nc hc46 rfl (r_nc hc57 rfl (r_nc hc65 rfl r_nc0)))) dX0_tells_9 rfl (by decide) (by decide) ?_
    refine r_aload_n C 0 rfl rfl dX0_tells_179 ?_
    refine r_iload_n C 1 rfl rfl dX0_tells_180 ?_
    obtain ⟨r74, hq75, h⟩ := bd1_ h
    refine r_csi C (rest := [.ref (ad 96)]) (c_X1_above  hq75) fm_X1_above lk_X0_59 rfl (RO_base (by decide) (by decide)) (Nat.le_of_ble_eq_true rfl) rfl dX0_tells_181 ?_
    refine r_iload_n C 2 rfl rfl dX0_tells_184 ?_
    refine r_iload_n C 3 rfl rfl dX0_tells_185 ?_
    refine r_iconst C (v := 1) (by decide) dX0_tells_186 ?_
    refine r_iadd C dX0_tells_187 ?_
    obtain ⟨r76, I77, hq78, h⟩ := bd2_ h
    refine r_cvi C (rest := []) (H_tells  hq78) fm_X0_tells lk_X0_52 o_96 ⟨_, ct_0 o_96.1⟩ rfl rfl (RO_rec (by decide)) (Nat.le_of_ble_eq_true rfl) rfl dX0_tells_188 ?_
    have hz9 := Option.some.inj h
    subst hz9
    exact r_iret C hr dX0_tells_191
  · refine r_iconst C (v := 0) (by decide) dX0_tells_6 ?_
    have hz9 := Option.some.inj h
    subst hz9
    exact r_iret C hr dX0_tells_7
set_option maxHeartbeats 4000000 in
set_option maxRecDepth 100000 in
theorem gc_X0_tells {l : Launch} {g : GG} {ad : Nat → Nat} : ∀ d : Nat, (∀ {a0 : Int32} {a1 : Int32} {a2 : Int32} {I : HI} {J : HJ} {r : Int32} {I1 : HI}, f_X0_tells d a0 a1 a2 I J = some (r, I1) → CM l yX0_tells cX0_tells 6 (some .int) (rmk (83 + d) (3267 + 40 * d)) g ad nO oR [.ref (ad 96), .int a0, .int a1, .int a2] I J (QAi g ad nO oR r I1 J)) := by
  intro d
  induction d with
  | zero =>
    exact fun {_} {_} {_} {_} {_} {_} {_}  h => by
          have h0 : (none : Option (Int32 × HI)) = some _ := h
          cases h0
  | succ d ih =>
    exact fun {_} {_} {_} {_} {_} {_} {_}  h => CM_of (by decide +kernel) (Nat.le_of_ble_eq_true rfl) (fun p e s m args below meth c C hr => w_X0_tells C hr ih h)
set_option maxHeartbeats 4000000 in
set_option maxRecDepth 100000 in
theorem c_X0_tells {l : Launch} {g : GG} {ad : Nat → Nat} {a0 : Int32} {a1 : Int32} {a2 : Int32} {I : HI} {J : HJ} {r : Int32} {I1 : HI} (h : f_X0_tells 40 a0 a1 a2 I J = some (r, I1)) : CM l yX0_tells cX0_tells 6 (some .int) (rmk 123 4867) g ad nO oR [.ref (ad 96), .int a0, .int a1, .int a2] I J (QAi g ad nO oR r I1 J) := (gc_X0_tells 40) h
set_option maxHeartbeats 4000000 in
set_option maxRecDepth 100000 in
theorem w_X0_byAct {l : Launch} {g : GG} {ad : Nat → Nat} {p : Program} {e : Env} {s : State} {m : MethodId} {args : Array Value} {below : List Frame} {meth : Method} {c : Code} {a0 : Int32} {a1 : Int32} {z : Int32 × HI} (C : Cx p s m args meth c RX0 cX0_byAct 3 g (AW ad nO)) (hr : meth.sig.returnType = (some .int)) {I : HI} {J : HJ} (h : f_X0_byAct a0 a1 I J = some z) : V p l e (rmk 124 4892) s m args below meth c (MQ below (QAi g ad nO oR z.1 z.2 J) args s 0 0 (AW ad nO)) 3 0 0 g (AW ad nO) ad nO oR I J 0 [(0, .ref (ad 96)), (1, .int a0), (2, .int a1)] [] := by
  unfold f_X0_byAct at h
  refine r_iload_n C 1 rfl rfl dX0_byAct_0 ?_
  refine r_case h (fun hc17 h => ?_) (fun hc17 h => ?_)
  · refine r_tabIn C (tgt := 32) 0 hc17 dX0_byAct_1 (by decide) (by decide) rfl (by decide) ?_
    refine r_aload_n C 0 rfl rfl dX0_byAct_32 ?_
    refine r_aload_n C 0 rfl rfl dX0_byAct_33 ?_
    refine gf_X0_17 C o_96 dX0_byAct_34 ?_
    refine r_iload_n C 2 rfl rfl dX0_byAct_37 ?_
    refine r_iconst C (v := 0) (by decide) dX0_byAct_38 ?_
    refine r_pc (pc1 := 39) rfl ?_
    obtain ⟨r18, I19, hq20, h⟩ := bd2_ h
    refine r_cvi C (rest := []) (c_X0_grows  hq20) fm_X0_grows lk_X0_42 o_96 ⟨_, ct_0 o_96.1⟩ rfl rfl ⟨rfl, rfl, Nat.le_of_ble_eq_true rfl, Nat.le_of_ble_eq_true rfl⟩ (Nat.le_of_ble_eq_true rfl) rfl dX0_byAct_39 ?_
    have hz9 := Option.some.inj h
    subst hz9
    exact r_iret C hr dX0_byAct_42
  refine r_case h (fun hc21 h => ?_) (fun hc21 h => ?_)
  · refine r_tabIn C (tgt := 43) 1 hc21 dX0_byAct_1 (by decide) (by decide) rfl (by decide) ?_
    refine r_aload_n C 0 rfl rfl dX0_byAct_43 ?_
    refine r_aload_n C 0 rfl rfl dX0_byAct_44 ?_
    refine gf_X0_17 C o_96 dX0_byAct_45 ?_
    refine r_iload_n C 2 rfl rfl dX0_byAct_48 ?_
    refine r_iconst C (v := 0) (by decide) dX0_byAct_49 ?_
    refine r_pc (pc1 := 50) rfl ?_
    obtain ⟨r22, I23, hq24, h⟩ := bd2_ h
    refine r_cvi C (rest := []) (c_X0_swings  hq24) fm_X0_swings lk_X0_46 o_96 ⟨_, ct_0 o_96.1⟩ rfl rfl ⟨rfl, rfl, Nat.le_of_ble_eq_true rfl, Nat.le_of_ble_eq_true rfl⟩ (Nat.le_of_ble_eq_true rfl) rfl dX0_byAct_50 ?_
    have hz9 := Option.some.inj h
    subst hz9
    exact r_iret C hr dX0_byAct_53
  refine r_case h (fun hc25 h => ?_) (fun hc25 h => ?_)
  · refine r_tabIn C (tgt := 54) 2 hc25 dX0_byAct_1 (by decide) (by decide) rfl (by decide) ?_
    refine r_aload_n C 0 rfl rfl dX0_byAct_54 ?_
    refine r_aload_n C 0 rfl rfl dX0_byAct_55 ?_
    refine gf_X0_17 C o_96 dX0_byAct_56 ?_
    refine r_iload_n C 2 rfl rfl dX0_byAct_59 ?_
    refine r_iconst C (v := 0) (by decide) dX0_byAct_60 ?_
    refine r_pc (pc1 := 61) rfl ?_
    obtain ⟨r26, I27, hq28, h⟩ := bd2_ h
    refine r_cvi C (rest := []) (c_X0_parts  hq28) fm_X0_parts lk_X0_49 o_96 ⟨_, ct_0 o_96.1⟩ rfl rfl ⟨rfl, rfl, Nat.le_of_ble_eq_true rfl, Nat.le_of_ble_eq_true rfl⟩ (Nat.le_of_ble_eq_true rfl) rfl dX0_byAct_61 ?_
    have hz9 := Option.some.inj h
    subst hz9
    exact r_iret C hr dX0_byAct_64
  refine r_case h (fun hc29 h => ?_) (fun hc29 h => ?_)
  · refine r_tabIn C (tgt := 65) 3 hc29 dX0_byAct_1 (by decide) (by decide) rfl (by decide) ?_
    refine r_aload_n C 0 rfl rfl dX0_byAct_65 ?_
    refine r_aload_n C 0 rfl rfl dX0_byAct_66 ?_
    refine gf_X0_17 C o_96 dX0_byAct_67 ?_
    refine r_iload_n C 2 rfl rfl dX0_byAct_70 ?_
    refine r_iconst C (v := 0) (by decide) dX0_byAct_71 ?_
    refine r_pc (pc1 := 72) rfl ?_
    obtain ⟨r30, I31, hq32, h⟩ := bd2_ h
    refine r_cvi C (rest := []) (c_X0_tells  hq32) fm_X0_tells lk_X0_52 o_96 ⟨_, ct_0 o_96.1⟩ rfl rfl ⟨rfl, rfl, Nat.le_of_ble_eq_true rfl, Nat.le_of_ble_eq_true rfl⟩ (Nat.le_of_ble_eq_true rfl) rfl dX0_byAct_72 ?_
    have hz9 := Option.some.inj h
    subst hz9
    exact r_iret C hr dX0_byAct_75
  refine r_tabD C (tgt := 76) [0, 1, 2, 3] (r_nc hc17 rfl (r_nc hc21 rfl (r_nc hc25 rfl (r_nc hc29 rfl r_nc0)))) dX0_byAct_1 rfl (by decide) (by decide) ?_
  refine r_iconst C (v := 0) (by decide) dX0_byAct_76 ?_
  have hz9 := Option.some.inj h
  subst hz9
  exact r_iret C hr dX0_byAct_77
set_option maxHeartbeats 4000000 in
set_option maxRecDepth 100000 in
theorem c_X0_byAct {l : Launch} {g : GG} {ad : Nat → Nat} {a0 : Int32} {a1 : Int32} {I : HI} {J : HJ} {r : Int32} {I1 : HI} (h : f_X0_byAct a0 a1 I J = some (r, I1)) : CM l yX0_byAct cX0_byAct 3 (some .int) (rmk 124 4892) g ad nO oR [.ref (ad 96), .int a0, .int a1] I J (QAi g ad nO oR r I1 J) :=
  CM_of (by decide +kernel) (Nat.le_of_ble_eq_true rfl) (fun p e s m args below meth c C hr => w_X0_byAct C hr h)
set_option maxHeartbeats 4000000 in
set_option maxRecDepth 100000 in
theorem w_X0_answer {l : Launch} {g : GG} {ad : Nat → Nat} {p : Program} {e : Env} {s : State} {m : MethodId} {args : Array Value} {below : List Frame} {meth : Method} {c : Code} {a0 : Int32} {a1 : Int32} {z : Int32 × HI} (C : Cx p s m args meth c RX0 cX0_answer 4 g (AW ad nO)) (hr : meth.sig.returnType = (some .int)) {I : HI} {J : HJ} (h : f_X0_answer a0 a1 I J = some z) : V p l e (rmk 125 4914) s m args below meth c (MQ below (QAi g ad nO oR z.1 z.2 J) args s 0 0 (AW ad nO)) 4 0 0 g (AW ad nO) ad nO oR I J 0 [(0, .ref (ad 96)), (1, .int a0), (2, .int a1)] [] := by
  unfold f_X0_answer at h
  refine r_aload_n C 0 rfl rfl dX0_answer_0 ?_
  refine r_iload_n C 1 rfl rfl dX0_answer_1 ?_
  refine r_iload_n C 2 rfl rfl dX0_answer_2 ?_
  obtain ⟨r4, I5, hq6, h⟩ := bd2_ h
  refine r_cvi C (rest := []) (c_X0_byAct  hq6) fm_X0_byAct lk_X0_38 o_96 ⟨_, ct_0 o_96.1⟩ rfl rfl ⟨rfl, rfl, Nat.le_of_ble_eq_true rfl, Nat.le_of_ble_eq_true rfl⟩ (Nat.le_of_ble_eq_true rfl) rfl dX0_answer_3 ?_
  refine r_istore_n C (lv1 := [(3, .int r4), (0, .ref (ad 96)), (1, .int a0), (2, .int a1)]) rfl (by decide) rfl dX0_answer_6 ?_
  refine r_aload_n C 1 rfl rfl dX0_answer_7 ?_
  refine gf_X0_28 C o_96 dX0_answer_8 ?_
  refine r_if_eq C (tgt := 19) h dX0_answer_11 (by decide) (fun h => ?_) (fun h => ?_)
  · refine r_iload_n C 0 rfl rfl dX0_answer_19 ?_
    have hz9 := Option.some.inj h
    subst hz9
    exact r_iret C hr dX0_answer_20
  · refine r_bipush C (v := -15) (by decide) dX0_answer_14 ?_
    refine r_goto C (tgt := 20) dX0_answer_16 (by decide) ?_
    have hz9 := Option.some.inj h
    subst hz9
    exact r_iret C hr dX0_answer_20
set_option maxHeartbeats 4000000 in
set_option maxRecDepth 100000 in
theorem c_X0_answer {l : Launch} {g : GG} {ad : Nat → Nat} {a0 : Int32} {a1 : Int32} {I : HI} {J : HJ} {r : Int32} {I1 : HI} (h : f_X0_answer a0 a1 I J = some (r, I1)) : CM l yX0_answer cX0_answer 4 (some .int) (rmk 125 4914) g ad nO oR [.ref (ad 96), .int a0, .int a1] I J (QAi g ad nO oR r I1 J) :=
  CM_of (by decide +kernel) (Nat.le_of_ble_eq_true rfl) (fun p e s m args below meth c C hr => w_X0_answer C hr h)
set_option maxHeartbeats 4000000 in
set_option maxRecDepth 100000 in
theorem wLB_X1_isUnder_4 {l : Launch} {g : GG} {ad : Nat → Nat} {p : Program} {e : Env} {s : State} {m : MethodId} {args : Array Value} {below : List Frame} {meth : Method} {c : Code} {a0 : Int32} {a1 : Int32} {z : Int32} (C : Cx p s m args meth c RX1 cX1_isUnder 4 g (AW ad nO)) (hr : meth.sig.returnType = (some .boolean)) {I : HI} {J : HJ}  {r_4 : Int32 → Int32 → Option (Int32)} (hr_4 : ∀ {x2 : Int32} {x3 : Int32}, r_4 x2 x3 = some z → V p l e (rmk 1 20) s m args below meth c (MQ below (QAi g ad nO oR z I J) args s 0 0 (AW ad nO)) 4 0 0 g (AW ad nO) ad nO oR I J 4 [(1, .int a1), (2, .int x2), (3, .int x3)] []) {x2 : Int32} {x3 : Int32} (h : fLB_X1_isUnder_4 a0 a1 r_4 x2 x3 = some z) : V p l e (rmk 1 20) s m args below meth c (MQ below (QAi g ad nO oR z I J) args s 0 0 (AW ad nO)) 4 0 0 g (AW ad nO) ad nO oR I J 4 [(1, .int a1), (2, .int x2), (3, .int x3)] [] := by
  unfold fLB_X1_isUnder_4 at h
  refine r_iload_n C 2 rfl rfl dX1_isUnder_4 ?_
  refine r_gets C (t := 4) (by decide) lk_X1_7 dX1_isUnder_5 ?_
  refine r_slen C (by decide) dX1_isUnder_8 ?_
  refine r_icmp_ge C (tgt := 35) h dX1_isUnder_9 (by decide) (fun h => ?_) (fun h => ?_)
  · refine r_iconst C (v := 0) (by decide) dX1_isUnder_35 ?_
    have hz9 := Option.some.inj h
    subst hz9
    exact r_zret C (v := (0 : Int32)) rfl hr dX1_isUnder_36
  · refine r_iload_n C 1 rfl rfl dX1_isUnder_12 ?_
    refine r_iconst C (v := -1) (by decide) dX1_isUnder_13 ?_
    refine r_icmp_eq C (tgt := 35) h dX1_isUnder_14 (by decide) (fun h => ?_) (fun h => ?_)
    · refine r_iconst C (v := 0) (by decide) dX1_isUnder_35 ?_
      have hz9 := Option.some.inj h
      subst hz9
      exact r_zret C (v := (0 : Int32)) rfl hr dX1_isUnder_36
    · refine r_iload_n C 1 rfl rfl dX1_isUnder_17 ?_
      refine r_iload_n C 0 rfl rfl dX1_isUnder_18 ?_
      refine r_icmp_ne C (tgt := 24) h dX1_isUnder_19 (by decide) (fun h => ?_) (fun h => ?_)
      · refine r_iload_n C 1 rfl rfl dX1_isUnder_24 ?_
        obtain ⟨r4, hq5, h⟩ := bd1_ h
        refine r_csi C (rest := []) (c_X1_above  hq5) fm_X1_above lk_X1_13 rfl ⟨rfl, rfl, Nat.le_of_ble_eq_true rfl, Nat.le_of_ble_eq_true rfl⟩ (Nat.le_of_ble_eq_true rfl) rfl dX1_isUnder_25 ?_
        refine r_istore_n C (lv1 := [(2, .int r4), (1, .int a1), (3, .int x3)]) rfl (by decide) rfl dX1_isUnder_28 ?_
        refine r_iincN C h (k := 2) (zz := 1) rfl rfl (by decide) (lv1 := fun v6 => [(3, .int v6), (2, .int r4), (1, .int a1)]) (fun _ => rfl) dX1_isUnder_29 (fun v6 h => ?_)
        refine r_goto C (tgt := 4) dX1_isUnder_32 (by decide) ?_
        exact r_sub [2, 1, 0] rfl (hr_4  h)
      · refine r_iconst C (v := 1) (by decide) dX1_isUnder_22 ?_
        have hz9 := Option.some.inj h
        subst hz9
        exact r_zret C (v := (1 : Int32)) rfl hr dX1_isUnder_23
set_option maxHeartbeats 4000000 in
set_option maxRecDepth 100000 in
theorem wL_X1_isUnder_4 {l : Launch} {g : GG} {ad : Nat → Nat} {p : Program} {e : Env} {s : State} {m : MethodId} {args : Array Value} {below : List Frame} {meth : Method} {c : Code} {a0 : Int32} {a1 : Int32} {z : Int32} (C : Cx p s m args meth c RX1 cX1_isUnder 4 g (AW ad nO)) (hr : meth.sig.returnType = (some .boolean)) {I : HI} {J : HJ}  : ∀ (f : Nat) {x2 : Int32} {x3 : Int32}, fL_X1_isUnder_4 a0 a1 f x2 x3 = some z → V p l e (rmk 1 20) s m args below meth c (MQ below (QAi g ad nO oR z I J) args s 0 0 (AW ad nO)) 4 0 0 g (AW ad nO) ad nO oR I J 4 [(1, .int a1), (2, .int x2), (3, .int x3)] [] := by
  intro f
  induction f with
  | zero =>
    intro _ _  h
    have h0 : (none : Option (Int32)) = some z := h
    cases h0
  | succ f ih =>
    intro _ _  h
    exact wLB_X1_isUnder_4 C hr ih  h
set_option maxHeartbeats 4000000 in
set_option maxRecDepth 100000 in
theorem w_X1_isUnder {l : Launch} {g : GG} {ad : Nat → Nat} {p : Program} {e : Env} {s : State} {m : MethodId} {args : Array Value} {below : List Frame} {meth : Method} {c : Code} {a0 : Int32} {a1 : Int32} {z : Int32} (C : Cx p s m args meth c RX1 cX1_isUnder 4 g (AW ad nO)) (hr : meth.sig.returnType = (some .boolean)) {I : HI} {J : HJ} (h : f_X1_isUnder a0 a1 = some z) : V p l e (rmk 1 20) s m args below meth c (MQ below (QAi g ad nO oR z I J) args s 0 0 (AW ad nO)) 4 0 0 g (AW ad nO) ad nO oR I J 0 [(0, .int a0), (1, .int a1)] [] := by
  unfold f_X1_isUnder at h
  refine r_iload_n C 0 rfl rfl dX1_isUnder_0 ?_
  refine r_istore_n C (lv1 := [(2, .int a0), (0, .int a0), (1, .int a1)]) rfl (by decide) rfl dX1_isUnder_1 ?_
  refine r_iconst C (v := 0) (by decide) dX1_isUnder_2 ?_
  refine r_istore_n C (lv1 := [(3, .int (0 : Int32)), (2, .int a0), (0, .int a0), (1, .int a1)]) rfl (by decide) rfl dX1_isUnder_3 ?_
  exact r_sub [3, 1, 0] rfl (wL_X1_isUnder_4 C hr _  h)
set_option maxHeartbeats 4000000 in
set_option maxRecDepth 100000 in
theorem c_X1_isUnder {l : Launch} {g : GG} {ad : Nat → Nat} {a0 : Int32} {a1 : Int32} {I : HI} {J : HJ} {r : Int32} (h : f_X1_isUnder a0 a1 = some r) : CM l yX1_isUnder cX1_isUnder 4 (some .boolean) (rmk 1 20) g ad nO oR [.int a0, .int a1] I J (QAi g ad nO oR r I J) :=
  CM_of (by decide +kernel) (Nat.le_of_ble_eq_true rfl) (fun p e s m args below meth c C hr => w_X1_isUnder C hr h)
set_option maxHeartbeats 4000000 in
set_option maxRecDepth 100000 in
theorem w_X2_isKey {l : Launch} {g : GG} {ad : Nat → Nat} {n : Nat} {R : HR} {p : Program} {e : Env} {s : State} {m : MethodId} {args : Array Value} {below : List Frame} {meth : Method} {c : Code} {k : Nat} {a0 : Int32} {z : Int32} (hRF : RF n R) (C : Cx p s m args meth c RX2 cX2_isKey 2 g (AW ad n)) (hr : meth.sig.returnType = (some .boolean)) (hk : OB n k 1) {I : HI} {J : HJ} (h : f_X2_isKey k a0 = some z) : V p l e (rmk 0 0) s m args below meth c (MQ below (QAi g ad n R z I J) args s 0 0 (AW ad n)) 2 0 0 g (AW ad n) ad n R I J 0 [(0, .ref (ad k)), (1, .int a0)] [] := by
  unfold f_X2_isKey at h
  refine r_iload_n C 1 rfl rfl dX2_isKey_0 ?_
  refine r_if_lt C (tgt := 13) h dX2_isKey_1 (by decide) (fun h => ?_) (fun h => ?_)
  · refine r_iconst C (v := 0) (by decide) dX2_isKey_13 ?_
    have hz9 := Option.some.inj h
    subst hz9
    exact r_zret C (v := (0 : Int32)) rfl hr dX2_isKey_14
  · refine r_iload_n C 1 rfl rfl dX2_isKey_4 ?_
    refine r_iconst C (v := 4) (by decide) dX2_isKey_5 ?_
    refine r_icmp_ge C (tgt := 13) h dX2_isKey_6 (by decide) (fun h => ?_) (fun h => ?_)
    · refine r_iconst C (v := 0) (by decide) dX2_isKey_13 ?_
      have hz9 := Option.some.inj h
      subst hz9
      exact r_zret C (v := (0 : Int32)) rfl hr dX2_isKey_14
    · refine r_iconst C (v := 1) (by decide) dX2_isKey_9 ?_
      refine r_goto C (tgt := 14) dX2_isKey_10 (by decide) ?_
      have hz9 := Option.some.inj h
      subst hz9
      exact r_zret C (v := (1 : Int32)) rfl hr dX2_isKey_14
set_option maxHeartbeats 4000000 in
set_option maxRecDepth 100000 in
theorem c_X2_isKey {l : Launch} {g : GG} {ad : Nat → Nat} {n : Nat} {R : HR} {k : Nat} {a0 : Int32} {I : HI} {J : HJ} {r : Int32} (hRF : RF n R) (hk : OB n k 1) (h : f_X2_isKey k a0 = some r) : CM l yX2_isKey cX2_isKey 2 (some .boolean) (rmk 0 0) g ad n R [.ref (ad k), .int a0] I J (QAi g ad n R r I J) :=
  CM_of (by decide +kernel) (Nat.le_of_ble_eq_true rfl) (fun p e s m args below meth c C hr => w_X2_isKey hRF C hr hk h)
set_option maxHeartbeats 4000000 in
set_option maxRecDepth 100000 in
theorem wB_X2_howManyTold_21 {l : Launch} {g : GG} {ad : Nat → Nat} {p : Program} {e : Env} {s : State} {m : MethodId} {args : Array Value} {below : List Frame} {meth : Method} {c : Code} {k : Nat} {z : Int32} (C : Cx p s m args meth c RX2 cX2_howManyTold 3 g (AW ad nO)) (hr : meth.sig.returnType = (some .int)) (hk : OB nO k 1) {r_4 : Int32 → Int32 → HI → HJ → Option (Int32)} {I : HI} {J : HJ} (hr_4 : ∀ {x1 : Int32} {x2 : Int32}, r_4 x1 x2 I J = some z → V p l e (rmk 0 0) s m args below meth c (MQ below (QAi g ad nO oR z I J) args s 0 0 (AW ad nO)) 3 0 0 g (AW ad nO) ad nO oR I J 4 [(0, .ref (ad k)), (1, .int x1), (2, .int x2)] []) {x1 : Int32} {x2 : Int32} (h : fB_X2_howManyTold_21 k r_4 x1 x2 I J = some z) : V p l e (rmk 0 0) s m args below meth c (MQ below (QAi g ad nO oR z I J) args s 0 0 (AW ad nO)) 3 0 0 g (AW ad nO) ad nO oR I J 21 [(0, .ref (ad k)), (1, .int x1), (2, .int x2)] [] := by
  unfold fB_X2_howManyTold_21 at h
  refine r_iincN C h (k := 2) (zz := 1) rfl rfl (by decide) (lv1 := fun v3 => [(2, .int v3), (0, .ref (ad k)), (1, .int x1)]) (fun _ => rfl) dX2_howManyTold_21 (fun v3 h => ?_)
  refine r_goto C (tgt := 4) dX2_howManyTold_24 (by decide) ?_
  exact r_sub [1, 2, 0] rfl (hr_4  h)
set_option maxHeartbeats 4000000 in
set_option maxRecDepth 100000 in
theorem wLB_X2_howManyTold_4 {l : Launch} {g : GG} {ad : Nat → Nat} {p : Program} {e : Env} {s : State} {m : MethodId} {args : Array Value} {below : List Frame} {meth : Method} {c : Code} {k : Nat} {z : Int32} (C : Cx p s m args meth c RX2 cX2_howManyTold 3 g (AW ad nO)) (hr : meth.sig.returnType = (some .int)) (hk : OB nO k 1) {I : HI} {J : HJ}  {r_4 : Int32 → Int32 → HI → HJ → Option (Int32)} (hr_4 : ∀ {x1 : Int32} {x2 : Int32}, r_4 x1 x2 I J = some z → V p l e (rmk 0 0) s m args below meth c (MQ below (QAi g ad nO oR z I J) args s 0 0 (AW ad nO)) 3 0 0 g (AW ad nO) ad nO oR I J 4 [(0, .ref (ad k)), (1, .int x1), (2, .int x2)] []) {x1 : Int32} {x2 : Int32} (h : fLB_X2_howManyTold_4 k r_4 x1 x2 I J = some z) : V p l e (rmk 0 0) s m args below meth c (MQ below (QAi g ad nO oR z I J) args s 0 0 (AW ad nO)) 3 0 0 g (AW ad nO) ad nO oR I J 4 [(0, .ref (ad k)), (1, .int x1), (2, .int x2)] [] := by
  unfold fLB_X2_howManyTold_4 at h
  refine r_iload_n C 2 rfl rfl dX2_howManyTold_4 ?_
  refine r_iconst C (v := 4) (by decide) dX2_howManyTold_5 ?_
  refine r_icmp_ge C (tgt := 27) h dX2_howManyTold_6 (by decide) (fun h => ?_) (fun h => ?_)
  · refine r_iload_n C 1 rfl rfl dX2_howManyTold_27 ?_
    have hz9 := Option.some.inj h
    subst hz9
    exact r_iret C hr dX2_howManyTold_28
  · refine r_aload_n C 0 rfl rfl dX2_howManyTold_9 ?_
    refine gf_X2_20 C rf0 hk (q := (rfn k 2)) rfl dX2_howManyTold_10 ?_
    refine r_iload_n C 2 rfl rfl dX2_howManyTold_13 ?_
    refine r_zald C (ob_1_2 rf0 hk) h dX2_howManyTold_14 (fun h => ?_)
    refine r_if_eq C (tgt := 21) h dX2_howManyTold_15 (by decide) (fun h => ?_) (fun h => ?_)
    · exact wB_X2_howManyTold_21 C hr hk hr_4  h
    · refine r_iincN C h (k := 1) (zz := 1) rfl rfl (by decide) (lv1 := fun v4 => [(1, .int v4), (0, .ref (ad k)), (2, .int x2)]) (fun _ => rfl) dX2_howManyTold_18 (fun v4 h => ?_)
      exact r_sub [1, 0, 2] rfl (wB_X2_howManyTold_21 C hr hk hr_4  h)
set_option maxHeartbeats 4000000 in
set_option maxRecDepth 100000 in
theorem wL_X2_howManyTold_4 {l : Launch} {g : GG} {ad : Nat → Nat} {p : Program} {e : Env} {s : State} {m : MethodId} {args : Array Value} {below : List Frame} {meth : Method} {c : Code} {k : Nat} {z : Int32} (C : Cx p s m args meth c RX2 cX2_howManyTold 3 g (AW ad nO)) (hr : meth.sig.returnType = (some .int)) (hk : OB nO k 1) {I : HI} {J : HJ}  : ∀ (f : Nat) {x1 : Int32} {x2 : Int32}, fL_X2_howManyTold_4 k f x1 x2 I J = some z → V p l e (rmk 0 0) s m args below meth c (MQ below (QAi g ad nO oR z I J) args s 0 0 (AW ad nO)) 3 0 0 g (AW ad nO) ad nO oR I J 4 [(0, .ref (ad k)), (1, .int x1), (2, .int x2)] [] := by
  intro f
  induction f with
  | zero =>
    intro _ _  h
    have h0 : (none : Option (Int32)) = some z := h
    cases h0
  | succ f ih =>
    intro _ _  h
    exact wLB_X2_howManyTold_4 C hr hk ih  h
set_option maxHeartbeats 4000000 in
set_option maxRecDepth 100000 in
theorem w_X2_howManyTold {l : Launch} {g : GG} {ad : Nat → Nat} {p : Program} {e : Env} {s : State} {m : MethodId} {args : Array Value} {below : List Frame} {meth : Method} {c : Code} {k : Nat} {z : Int32} (C : Cx p s m args meth c RX2 cX2_howManyTold 3 g (AW ad nO)) (hr : meth.sig.returnType = (some .int)) (hk : OB nO k 1) {I : HI} {J : HJ} (h : f_X2_howManyTold k I J = some z) : V p l e (rmk 0 0) s m args below meth c (MQ below (QAi g ad nO oR z I J) args s 0 0 (AW ad nO)) 3 0 0 g (AW ad nO) ad nO oR I J 0 [(0, .ref (ad k))] [] := by
  unfold f_X2_howManyTold at h
  refine r_iconst C (v := 0) (by decide) dX2_howManyTold_0 ?_
  refine r_istore_n C (lv1 := [(1, .int (0 : Int32)), (0, .ref (ad k))]) rfl (by decide) rfl dX2_howManyTold_1 ?_
  refine r_iconst C (v := 0) (by decide) dX2_howManyTold_2 ?_
  refine r_istore_n C (lv1 := [(2, .int (0 : Int32)), (1, .int (0 : Int32)), (0, .ref (ad k))]) rfl (by decide) rfl dX2_howManyTold_3 ?_
  exact r_sub [2, 1, 0] rfl (wL_X2_howManyTold_4 C hr hk _  h)
set_option maxHeartbeats 4000000 in
set_option maxRecDepth 100000 in
theorem c_X2_howManyTold {l : Launch} {g : GG} {ad : Nat → Nat} {k : Nat} {I : HI} {J : HJ} {r : Int32} (hk : OB nO k 1) (h : f_X2_howManyTold k I J = some r) : CM l yX2_howManyTold cX2_howManyTold 3 (some .int) (rmk 0 0) g ad nO oR [.ref (ad k)] I J (QAi g ad nO oR r I J) :=
  CM_of (by decide +kernel) (Nat.le_of_ble_eq_true rfl) (fun p e s m args below meth c C hr => w_X2_howManyTold C hr hk h)
set_option maxHeartbeats 4000000 in
set_option maxRecDepth 100000 in
theorem w_X2_tellAnew {l : Launch} {g : GG} {ad : Nat → Nat} {n : Nat} {R : HR} {p : Program} {e : Env} {s : State} {m : MethodId} {args : Array Value} {below : List Frame} {meth : Method} {c : Code} {k : Nat} {a0 : Int32} {z : HI} (hRF : RF n R) (C : Cx p s m args meth c RX2 cX2_tellAnew 2 g (AW ad n)) (hr : meth.sig.returnType = none) (hk : OB n k 1) {I : HI} {J : HJ} (h : f_X2_tellAnew k a0 I J = some z) : V p l e (rmk 1 21) s m args below meth c (MQ below (QAv g ad n R z J) args s 0 0 (AW ad n)) 2 0 0 g (AW ad n) ad n R I J 0 [(0, .ref (ad k)), (1, .int a0)] [] := by
  unfold f_X2_tellAnew at h
  refine r_aload_n C 0 rfl rfl dX2_tellAnew_0 ?_
  refine r_iload_n C 1 rfl rfl dX2_tellAnew_1 ?_
  obtain ⟨r5, hq6, h⟩ := bd1_ h
  refine r_cvi C (rest := []) (c_X2_isKey hRF hk hq6) fm_X2_isKey lk_X2_60 hk ⟨_, ct_1 hk.1⟩ rfl rfl ⟨rfl, rfl, Nat.le_of_ble_eq_true rfl, Nat.le_of_ble_eq_true rfl⟩ (Nat.le_of_ble_eq_true rfl) rfl dX2_tellAnew_2 ?_
  refine r_if_eq C (tgt := 22) h dX2_tellAnew_5 (by decide) (fun h => ?_) (fun h => ?_)
  · have hz9 := Option.some.inj h
    subst hz9
    exact r_vret C hr dX2_tellAnew_22
  · refine r_aload_n C 0 rfl rfl dX2_tellAnew_8 ?_
    refine gf_X2_16 C hRF hk (q := (rfn k 1)) rfl dX2_tellAnew_9 ?_
    refine r_iload_n C 1 rfl rfl dX2_tellAnew_12 ?_
    refine r_iconst C (v := 0) (by decide) dX2_tellAnew_13 ?_
    refine r_iast C (ob_1_1 hRF hk) h dX2_tellAnew_14 (fun h => ?_)
    refine r_nmI h (fun I7 h => ?_)
    refine r_aload_n C 0 rfl rfl dX2_tellAnew_15 ?_
    refine gf_X2_20 C hRF hk (q := (rfn k 2)) rfl dX2_tellAnew_16 ?_
    refine r_iload_n C 1 rfl rfl dX2_tellAnew_19 ?_
    refine r_iconst C (v := 1) (by decide) dX2_tellAnew_20 ?_
    refine r_zast C (ob_1_2 hRF hk) rfl h dX2_tellAnew_21 (fun h => ?_)
    refine r_nmI h (fun I8 h => ?_)
    have hz9 := Option.some.inj h
    subst hz9
    exact r_vret C hr dX2_tellAnew_22
set_option maxHeartbeats 4000000 in
set_option maxRecDepth 100000 in
theorem c_X2_tellAnew {l : Launch} {g : GG} {ad : Nat → Nat} {n : Nat} {R : HR} {k : Nat} {a0 : Int32} {I : HI} {J : HJ} {I1 : HI} (hRF : RF n R) (hk : OB n k 1) (h : f_X2_tellAnew k a0 I J = some I1) : CM l yX2_tellAnew cX2_tellAnew 2 none (rmk 1 21) g ad n R [.ref (ad k), .int a0] I J (QAv g ad n R I1 J) :=
  CM_of (by decide +kernel) (Nat.le_of_ble_eq_true rfl) (fun p e s m args below meth c C hr => w_X2_tellAnew hRF C hr hk h)
set_option maxHeartbeats 4000000 in
set_option maxRecDepth 100000 in
theorem w_X2_add {l : Launch} {g : GG} {ad : Nat → Nat} {n : Nat} {R : HR} {p : Program} {e : Env} {s : State} {m : MethodId} {args : Array Value} {below : List Frame} {meth : Method} {c : Code} {k : Nat} {a0 : Int32} {a1 : Int32} {z : HI} (hRF : RF n R) (C : Cx p s m args meth c RX2 cX2_add 3 g (AW ad n)) (hr : meth.sig.returnType = none) (hk : OB n k 1) {I : HI} {J : HJ} (h : f_X2_add k a0 a1 I J = some z) : V p l e (rmk 1 21) s m args below meth c (MQ below (QAv g ad n R z J) args s 0 0 (AW ad n)) 3 0 0 g (AW ad n) ad n R I J 0 [(0, .ref (ad k)), (1, .int a0), (2, .int a1)] [] := by
  unfold f_X2_add at h
  refine r_aload_n C 0 rfl rfl dX2_add_0 ?_
  refine r_iload_n C 1 rfl rfl dX2_add_1 ?_
  obtain ⟨r6, hq7, h⟩ := bd1_ h
  refine r_cvi C (rest := []) (c_X2_isKey hRF hk hq7) fm_X2_isKey lk_X2_60 hk ⟨_, ct_1 hk.1⟩ rfl rfl ⟨rfl, rfl, Nat.le_of_ble_eq_true rfl, Nat.le_of_ble_eq_true rfl⟩ (Nat.le_of_ble_eq_true rfl) rfl dX2_add_2 ?_
  refine r_if_eq C (tgt := 44) h dX2_add_5 (by decide) (fun h => ?_) (fun h => ?_)
  · have hz9 := Option.some.inj h
    subst hz9
    exact r_vret C hr dX2_add_44
  · refine r_aload_n C 0 rfl rfl dX2_add_8 ?_
    refine gf_X2_16 C hRF hk (q := (rfn k 1)) rfl dX2_add_9 ?_
    refine r_iload_n C 1 rfl rfl dX2_add_12 ?_
    refine r_iald C (ob_1_1 hRF hk) h dX2_add_13 (fun h => ?_)
    refine r_sipush C (v := 200) (by decide) dX2_add_14 ?_
    refine r_icmp_ge C (tgt := 44) h dX2_add_17 (by decide) (fun h => ?_) (fun h => ?_)
    · have hz9 := Option.some.inj h
      subst hz9
      exact r_vret C hr dX2_add_44
    · refine r_aload_n C 0 rfl rfl dX2_add_20 ?_
      refine gf_X2_13 C hRF hk (q := (rfn k 0)) rfl dX2_add_21 ?_
      refine r_iload_n C 1 rfl rfl dX2_add_24 ?_
      have hv8 := (ck h).1
      refine r_aald C (ob_1_0 hRF hk) (Or.inr rfl) (hRF _ (ob_1_0 hRF hk).2.1 (Or.inl (by rw [(ob_1_0 hRF hk).1]; decide))).1 h (fun hv => ((oi_1_0 hRF hk) _ (vin_lt hv)).1) dX2_add_25 (fun h => ?_)
      refine r_aload_n C 0 rfl rfl dX2_add_26 ?_
      refine gf_X2_16 C hRF hk (q := (rfn k 1)) rfl dX2_add_27 ?_
      refine r_iload_n C 1 rfl rfl dX2_add_30 ?_
      refine r_iald C (ob_1_1 hRF hk) h dX2_add_31 (fun h => ?_)
      refine r_iload_n C 2 rfl rfl dX2_add_32 ?_
      refine r_iast C ((oi_1_0 hRF hk) _ (vin_lt hv8)).2 h dX2_add_33 (fun h => ?_)
      refine r_nmI h (fun I9 h => ?_)
      refine r_aload_n C 0 rfl rfl dX2_add_34 ?_
      refine gf_X2_16 C hRF hk (q := (rfn k 1)) rfl dX2_add_35 ?_
      refine r_iload_n C 1 rfl rfl dX2_add_38 ?_
      refine r_dup2 C rfl rfl dX2_add_39 ?_
      refine r_iald C (ob_1_1 hRF hk) h dX2_add_40 (fun h => ?_)
      refine r_iconst C (v := 1) (by decide) dX2_add_41 ?_
      refine r_iadd C dX2_add_42 ?_
      refine r_iast C (ob_1_1 hRF hk) h dX2_add_43 (fun h => ?_)
      refine r_nmI h (fun I10 h => ?_)
      have hz9 := Option.some.inj h
      subst hz9
      exact r_vret C hr dX2_add_44
set_option maxHeartbeats 4000000 in
set_option maxRecDepth 100000 in
theorem c_X2_add {l : Launch} {g : GG} {ad : Nat → Nat} {n : Nat} {R : HR} {k : Nat} {a0 : Int32} {a1 : Int32} {I : HI} {J : HJ} {I1 : HI} (hRF : RF n R) (hk : OB n k 1) (h : f_X2_add k a0 a1 I J = some I1) : CM l yX2_add cX2_add 3 none (rmk 1 21) g ad n R [.ref (ad k), .int a0, .int a1] I J (QAv g ad n R I1 J) :=
  CM_of (by decide +kernel) (Nat.le_of_ble_eq_true rfl) (fun p e s m args below meth c C hr => w_X2_add hRF C hr hk h)
set_option maxHeartbeats 4000000 in
set_option maxRecDepth 100000 in
theorem wLB_X2_write_7 {l : Launch} {g : GG} {ad : Nat → Nat} {n : Nat} {R : HR} {p : Program} {e : Env} {s : State} {m : MethodId} {args : Array Value} {below : List Frame} {meth : Method} {c : Code} {k : Nat} {a0 : Int32} {a1 : Nat} {z : HI} (hRF : RF n R) (C : Cx p s m args meth c RX2 cX2_write 4 g (AW ad n)) (hr : meth.sig.returnType = none) (hk : OB n k 1) (ha1 : a1 < 5) {J : HJ}  {r_7 : Int32 → HI → HJ → Option (HI)} (hr_7 : ∀ {x3 : Int32} {I : HI}, r_7 x3 I J = some z → V p l e (rmk 2 43) s m args below meth c (MQ below (QAv g ad n R z J) args s 0 0 (AW ad n)) 4 0 0 g (AW ad n) ad n R I J 7 [(0, .ref (ad k)), (1, .int a0), (2, .ref (g.2.2.1 a1)), (3, .int x3)] []) {x3 : Int32} {I : HI} (h : fLB_X2_write_7 k a0 a1 r_7 x3 I J = some z) : V p l e (rmk 2 43) s m args below meth c (MQ below (QAv g ad n R z J) args s 0 0 (AW ad n)) 4 0 0 g (AW ad n) ad n R I J 7 [(0, .ref (ad k)), (1, .int a0), (2, .ref (g.2.2.1 a1)), (3, .int x3)] [] := by
  unfold fLB_X2_write_7 at h
  refine r_iload_n C 3 rfl rfl dX2_write_7 ?_
  refine r_aload_n C 2 rfl rfl dX2_write_8 ?_
  refine r_slen C ha1 dX2_write_9 ?_
  refine r_icmp_ge C (tgt := 27) h dX2_write_10 (by decide) (fun h => ?_) (fun h => ?_)
  · refine r_aload_n C 0 rfl rfl dX2_write_27 ?_
    refine gf_X2_20 C hRF hk (q := (rfn k 2)) rfl dX2_write_28 ?_
    refine r_iload_n C 1 rfl rfl dX2_write_31 ?_
    refine r_iconst C (v := 0) (by decide) dX2_write_32 ?_
    refine r_zast C (ob_1_2 hRF hk) rfl h dX2_write_33 (fun h => ?_)
    refine r_nmI h (fun I7 h => ?_)
    have hz9 := Option.some.inj h
    subst hz9
    exact r_vret C hr dX2_write_34
  · refine r_aload_n C 0 rfl rfl dX2_write_13 ?_
    refine r_iload_n C 1 rfl rfl dX2_write_14 ?_
    refine r_aload_n C 2 rfl rfl dX2_write_15 ?_
    refine r_iload_n C 3 rfl rfl dX2_write_16 ?_
    refine r_sald C ha1 h dX2_write_17 (fun h => ?_)
    obtain ⟨I8, hq9, h⟩ := bd1_ h
    refine r_cvv C (rest := []) (c_X2_add hRF hk hq9) fm_X2_add lk_X2_50 hk ⟨_, ct_1 hk.1⟩ rfl rfl ⟨rfl, rfl, Nat.le_of_ble_eq_true rfl, Nat.le_of_ble_eq_true rfl⟩ (Nat.le_of_ble_eq_true rfl) rfl dX2_write_18 ?_
    refine r_iincN C h (k := 3) (zz := 1) rfl rfl (by decide) (lv1 := fun v10 => [(3, .int v10), (0, .ref (ad k)), (1, .int a0), (2, .ref (g.2.2.1 a1))]) (fun _ => rfl) dX2_write_21 (fun v10 h => ?_)
    refine r_goto C (tgt := 7) dX2_write_24 (by decide) ?_
    exact r_sub [1, 2, 3, 0] rfl (hr_7  h)
set_option maxHeartbeats 4000000 in
set_option maxRecDepth 100000 in
theorem wL_X2_write_7 {l : Launch} {g : GG} {ad : Nat → Nat} {n : Nat} {R : HR} {p : Program} {e : Env} {s : State} {m : MethodId} {args : Array Value} {below : List Frame} {meth : Method} {c : Code} {k : Nat} {a0 : Int32} {a1 : Nat} {z : HI} (hRF : RF n R) (C : Cx p s m args meth c RX2 cX2_write 4 g (AW ad n)) (hr : meth.sig.returnType = none) (hk : OB n k 1) (ha1 : a1 < 5) {J : HJ}  : ∀ (f : Nat) {x3 : Int32} {I : HI}, fL_X2_write_7 k a0 a1 f x3 I J = some z → V p l e (rmk 2 43) s m args below meth c (MQ below (QAv g ad n R z J) args s 0 0 (AW ad n)) 4 0 0 g (AW ad n) ad n R I J 7 [(0, .ref (ad k)), (1, .int a0), (2, .ref (g.2.2.1 a1)), (3, .int x3)] [] := by
  intro f
  induction f with
  | zero =>
    intro _ _  h
    have h0 : (none : Option (HI)) = some z := h
    cases h0
  | succ f ih =>
    intro _ _  h
    exact wLB_X2_write_7 hRF C hr hk ha1 ih  h
set_option maxHeartbeats 4000000 in
set_option maxRecDepth 100000 in
theorem w_X2_write {l : Launch} {g : GG} {ad : Nat → Nat} {n : Nat} {R : HR} {p : Program} {e : Env} {s : State} {m : MethodId} {args : Array Value} {below : List Frame} {meth : Method} {c : Code} {k : Nat} {a0 : Int32} {a1 : Nat} {z : HI} (hRF : RF n R) (C : Cx p s m args meth c RX2 cX2_write 4 g (AW ad n)) (hr : meth.sig.returnType = none) (hk : OB n k 1) (ha1 : a1 < 5) {I : HI} {J : HJ} (h : f_X2_write k a0 a1 I J = some z) : V p l e (rmk 2 43) s m args below meth c (MQ below (QAv g ad n R z J) args s 0 0 (AW ad n)) 4 0 0 g (AW ad n) ad n R I J 0 [(0, .ref (ad k)), (1, .int a0), (2, .ref (g.2.2.1 a1))] [] := by
  unfold f_X2_write at h
  refine r_aload_n C 0 rfl rfl dX2_write_0 ?_
  refine r_iload_n C 1 rfl rfl dX2_write_1 ?_
  obtain ⟨I11, hq12, h⟩ := bd1_ h
  refine r_cvv C (rest := []) (c_X2_tellAnew hRF hk hq12) fm_X2_tellAnew lk_X2_46 hk ⟨_, ct_1 hk.1⟩ rfl rfl ⟨rfl, rfl, Nat.le_of_ble_eq_true rfl, Nat.le_of_ble_eq_true rfl⟩ (Nat.le_of_ble_eq_true rfl) rfl dX2_write_2 ?_
  refine r_iconst C (v := 0) (by decide) dX2_write_5 ?_
  refine r_istore_n C (lv1 := [(3, .int (0 : Int32)), (0, .ref (ad k)), (1, .int a0), (2, .ref (g.2.2.1 a1))]) rfl (by decide) rfl dX2_write_6 ?_
  exact r_sub [1, 2, 3, 0] rfl (wL_X2_write_7 hRF C hr hk ha1 _  h)
set_option maxHeartbeats 4000000 in
set_option maxRecDepth 100000 in
theorem c_X2_write {l : Launch} {g : GG} {ad : Nat → Nat} {n : Nat} {R : HR} {k : Nat} {a0 : Int32} {a1 : Nat} {I : HI} {J : HJ} {I1 : HI} (hRF : RF n R) (hk : OB n k 1) (ha1 : a1 < 5) (h : f_X2_write k a0 a1 I J = some I1) : CM l yX2_write cX2_write 4 none (rmk 2 43) g ad n R [.ref (ad k), .int a0, .ref (g.2.2.1 a1)] I J (QAv g ad n R I1 J) :=
  CM_of (by decide +kernel) (Nat.le_of_ble_eq_true rfl) (fun p e s m args below meth c C hr => w_X2_write hRF C hr hk ha1 h)
set_option maxHeartbeats 4000000 in
set_option maxRecDepth 100000 in
theorem w_X2_becomeAsAtFirst {l : Launch} {g : GG} {ad : Nat → Nat} {n : Nat} {R : HR} {p : Program} {e : Env} {s : State} {m : MethodId} {args : Array Value} {below : List Frame} {meth : Method} {c : Code} {k : Nat} {z : HI} (hRF : RF n R) (C : Cx p s m args meth c RX2 cX2_becomeAsAtFirst 1 g (AW ad n)) (hr : meth.sig.returnType = none) (hk : OB n k 1) {I : HI} {J : HJ} (h : f_X2_becomeAsAtFirst k I J = some z) : V p l e (rmk 3 66) s m args below meth c (MQ below (QAv g ad n R z J) args s 0 0 (AW ad n)) 1 0 0 g (AW ad n) ad n R I J 0 [(0, .ref (ad k))] [] := by
  unfold f_X2_becomeAsAtFirst at h
  refine r_aload_n C 0 rfl rfl dX2_becomeAsAtFirst_0 ?_
  refine r_iconst C (v := 0) (by decide) dX2_becomeAsAtFirst_1 ?_
  refine r_gets C (t := 0) (by decide) lk_X2_30 dX2_becomeAsAtFirst_2 ?_
  obtain ⟨I9, hq10, h⟩ := bd1_ h
  refine r_cvv C (rest := []) (c_X2_write hRF hk (by decide) hq10) fm_X2_write lk_X2_33 hk ⟨_, ct_1 hk.1⟩ rfl rfl ⟨rfl, rfl, Nat.le_of_ble_eq_true rfl, Nat.le_of_ble_eq_true rfl⟩ (Nat.le_of_ble_eq_true rfl) rfl dX2_becomeAsAtFirst_5 ?_
  refine r_aload_n C 0 rfl rfl dX2_becomeAsAtFirst_8 ?_
  refine r_iconst C (v := 1) (by decide) dX2_becomeAsAtFirst_9 ?_
  refine r_gets C (t := 1) (by decide) lk_X2_37 dX2_becomeAsAtFirst_10 ?_
  obtain ⟨I11, hq12, h⟩ := bd1_ h
  refine r_cvv C (rest := []) (c_X2_write hRF hk (by decide) hq12) fm_X2_write lk_X2_33 hk ⟨_, ct_1 hk.1⟩ rfl rfl ⟨rfl, rfl, Nat.le_of_ble_eq_true rfl, Nat.le_of_ble_eq_true rfl⟩ (Nat.le_of_ble_eq_true rfl) rfl dX2_becomeAsAtFirst_13 ?_
  refine r_aload_n C 0 rfl rfl dX2_becomeAsAtFirst_16 ?_
  refine r_iconst C (v := 2) (by decide) dX2_becomeAsAtFirst_17 ?_
  refine r_gets C (t := 2) (by decide) lk_X2_40 dX2_becomeAsAtFirst_18 ?_
  obtain ⟨I13, hq14, h⟩ := bd1_ h
  refine r_cvv C (rest := []) (c_X2_write hRF hk (by decide) hq14) fm_X2_write lk_X2_33 hk ⟨_, ct_1 hk.1⟩ rfl rfl ⟨rfl, rfl, Nat.le_of_ble_eq_true rfl, Nat.le_of_ble_eq_true rfl⟩ (Nat.le_of_ble_eq_true rfl) rfl dX2_becomeAsAtFirst_21 ?_
  refine r_aload_n C 0 rfl rfl dX2_becomeAsAtFirst_24 ?_
  refine r_iconst C (v := 3) (by decide) dX2_becomeAsAtFirst_25 ?_
  refine r_gets C (t := 3) (by decide) lk_X2_43 dX2_becomeAsAtFirst_26 ?_
  obtain ⟨I15, hq16, h⟩ := bd1_ h
  refine r_cvv C (rest := []) (c_X2_write hRF hk (by decide) hq16) fm_X2_write lk_X2_33 hk ⟨_, ct_1 hk.1⟩ rfl rfl ⟨rfl, rfl, Nat.le_of_ble_eq_true rfl, Nat.le_of_ble_eq_true rfl⟩ (Nat.le_of_ble_eq_true rfl) rfl dX2_becomeAsAtFirst_29 ?_
  have hz9 := Option.some.inj h
  subst hz9
  exact r_vret C hr dX2_becomeAsAtFirst_32
set_option maxHeartbeats 4000000 in
set_option maxRecDepth 100000 in
theorem c_X2_becomeAsAtFirst {l : Launch} {g : GG} {ad : Nat → Nat} {n : Nat} {R : HR} {k : Nat} {I : HI} {J : HJ} {I1 : HI} (hRF : RF n R) (hk : OB n k 1) (h : f_X2_becomeAsAtFirst k I J = some I1) : CM l yX2_becomeAsAtFirst cX2_becomeAsAtFirst 1 none (rmk 3 66) g ad n R [.ref (ad k)] I J (QAv g ad n R I1 J) :=
  CM_of (by decide +kernel) (Nat.le_of_ble_eq_true rfl) (fun p e s m args below meth c C hr => w_X2_becomeAsAtFirst hRF C hr hk h)
set_option maxHeartbeats 4000000 in
set_option maxRecDepth 100000 in
theorem wLB_X2_becomeLike_2 {l : Launch} {g : GG} {ad : Nat → Nat} {p : Program} {e : Env} {s : State} {m : MethodId} {args : Array Value} {below : List Frame} {meth : Method} {c : Code} {k : Nat} {a0 : Nat} {z : HI} (C : Cx p s m args meth c RX2 cX2_becomeLike 3 g (AW ad nO)) (hr : meth.sig.returnType = none) (hk : OB nO k 1) (ha0 : OB nO a0 1) {J : HJ}  {r_2 : Int32 → HI → HJ → Option (HI)} (hr_2 : ∀ {x2 : Int32} {I : HI}, r_2 x2 I J = some z → V p l e (rmk 4 150) s m args below meth c (MQ below (QAv g ad nO oR z J) args s 0 0 (AW ad nO)) 3 0 0 g (AW ad nO) ad nO oR I J 2 [(0, .ref (ad k)), (1, .ref (ad a0)), (2, .int x2)] []) {x2 : Int32} {I : HI} (h : fLB_X2_becomeLike_2 k a0 r_2 x2 I J = some z) : V p l e (rmk 4 150) s m args below meth c (MQ below (QAv g ad nO oR z J) args s 0 0 (AW ad nO)) 3 0 0 g (AW ad nO) ad nO oR I J 2 [(0, .ref (ad k)), (1, .ref (ad a0)), (2, .int x2)] [] := by
  unfold fLB_X2_becomeLike_2 at h
  refine r_iload_n C 2 rfl rfl dX2_becomeLike_2 ?_
  refine r_iconst C (v := 4) (by decide) dX2_becomeLike_3 ?_
  refine r_icmp_ge C (tgt := 57) h dX2_becomeLike_4 (by decide) (fun h => ?_) (fun h => ?_)
  · have hz9 := Option.some.inj h
    subst hz9
    exact r_vret C hr dX2_becomeLike_57
  · refine r_aload_n C 0 rfl rfl dX2_becomeLike_7 ?_
    refine gf_X2_16 C rf0 hk (q := (rfn k 1)) rfl dX2_becomeLike_8 ?_
    refine r_iload_n C 2 rfl rfl dX2_becomeLike_11 ?_
    refine r_aload_n C 1 rfl rfl dX2_becomeLike_12 ?_
    refine gf_X2_16 C rf0 ha0 (q := (rfn a0 1)) rfl dX2_becomeLike_13 ?_
    refine r_pc (pc1 := 16) rfl ?_
    refine r_iload_n C 2 rfl rfl dX2_becomeLike_16 ?_
    refine r_iald C (ob_1_1 rf0 ha0) h dX2_becomeLike_17 (fun h => ?_)
    refine r_iast C (ob_1_1 rf0 hk) h dX2_becomeLike_18 (fun h => ?_)
    refine r_nmI h (fun I7 h => ?_)
    refine r_aload_n C 0 rfl rfl dX2_becomeLike_19 ?_
    refine gf_X2_20 C rf0 hk (q := (rfn k 2)) rfl dX2_becomeLike_20 ?_
    refine r_iload_n C 2 rfl rfl dX2_becomeLike_23 ?_
    refine r_aload_n C 1 rfl rfl dX2_becomeLike_24 ?_
    refine gf_X2_20 C rf0 ha0 (q := (rfn a0 2)) rfl dX2_becomeLike_25 ?_
    refine r_pc (pc1 := 28) rfl ?_
    refine r_iload_n C 2 rfl rfl dX2_becomeLike_28 ?_
    refine r_zald C (ob_1_2 rf0 ha0) h dX2_becomeLike_29 (fun h => ?_)
    obtain ⟨hz, h⟩ := ck h
    refine r_zast C (ob_1_2 rf0 hk) (zb_vp hz) h dX2_becomeLike_30 (fun h => ?_)
    refine r_nmI h (fun I8 h => ?_)
    refine r_aload_n C 1 rfl rfl dX2_becomeLike_31 ?_
    refine gf_X2_13 C rf0 ha0 (q := (rfn a0 0)) rfl dX2_becomeLike_32 ?_
    refine r_iload_n C 2 rfl rfl dX2_becomeLike_35 ?_
    have hv9 := (ck h).1
    refine r_aald C (ob_1_0 rf0 ha0) (Or.inr rfl) (rf0 _ (ob_1_0 rf0 ha0).2.1 (Or.inl (by rw [(ob_1_0 rf0 ha0).1]; decide))).1 h (fun hv => ((oi_1_0 rf0 ha0) _ (vin_lt hv)).1) dX2_becomeLike_36 (fun h => ?_)
    refine r_iconst C (v := 0) (by decide) dX2_becomeLike_37 ?_
    refine r_aload_n C 0 rfl rfl dX2_becomeLike_38 ?_
    refine gf_X2_13 C rf0 hk (q := (rfn k 0)) rfl dX2_becomeLike_39 ?_
    refine r_iload_n C 2 rfl rfl dX2_becomeLike_42 ?_
    have hv10 := (ck h).1
    refine r_aald C (ob_1_0 rf0 hk) (Or.inr rfl) (rf0 _ (ob_1_0 rf0 hk).2.1 (Or.inl (by rw [(ob_1_0 rf0 hk).1]; decide))).1 h (fun hv => ((oi_1_0 rf0 hk) _ (vin_lt hv)).1) dX2_becomeLike_43 (fun h => ?_)
    refine r_iconst C (v := 0) (by decide) dX2_becomeLike_44 ?_
    refine r_sipush C (v := 200) (by decide) dX2_becomeLike_45 ?_
    refine r_copy C ((oi_1_0 rf0 ha0) _ (vin_lt hv9)).2 ((oi_1_0 rf0 hk) _ (vin_lt hv10)).2 h lk_X2_54 (Nat.le_of_ble_eq_true rfl) (Nat.le_of_ble_eq_true rfl) dX2_becomeLike_48 (fun h => ?_)
    refine r_nmI h (fun I11 h => ?_)
    refine r_iincN C h (k := 2) (zz := 1) rfl rfl (by decide) (lv1 := fun v12 => [(2, .int v12), (0, .ref (ad k)), (1, .ref (ad a0))]) (fun _ => rfl) dX2_becomeLike_51 (fun v12 h => ?_)
    refine r_goto C (tgt := 2) dX2_becomeLike_54 (by decide) ?_
    exact r_sub [1, 2, 0] rfl (hr_2  h)
set_option maxHeartbeats 4000000 in
set_option maxRecDepth 100000 in
theorem wL_X2_becomeLike_2 {l : Launch} {g : GG} {ad : Nat → Nat} {p : Program} {e : Env} {s : State} {m : MethodId} {args : Array Value} {below : List Frame} {meth : Method} {c : Code} {k : Nat} {a0 : Nat} {z : HI} (C : Cx p s m args meth c RX2 cX2_becomeLike 3 g (AW ad nO)) (hr : meth.sig.returnType = none) (hk : OB nO k 1) (ha0 : OB nO a0 1) {J : HJ}  : ∀ (f : Nat) {x2 : Int32} {I : HI}, fL_X2_becomeLike_2 k a0 f x2 I J = some z → V p l e (rmk 4 150) s m args below meth c (MQ below (QAv g ad nO oR z J) args s 0 0 (AW ad nO)) 3 0 0 g (AW ad nO) ad nO oR I J 2 [(0, .ref (ad k)), (1, .ref (ad a0)), (2, .int x2)] [] := by
  intro f
  induction f with
  | zero =>
    intro _ _  h
    have h0 : (none : Option (HI)) = some z := h
    cases h0
  | succ f ih =>
    intro _ _  h
    exact wLB_X2_becomeLike_2 C hr hk ha0 ih  h
set_option maxHeartbeats 4000000 in
set_option maxRecDepth 100000 in
theorem w_X2_becomeLike {l : Launch} {g : GG} {ad : Nat → Nat} {p : Program} {e : Env} {s : State} {m : MethodId} {args : Array Value} {below : List Frame} {meth : Method} {c : Code} {k : Nat} {a0 : Nat} {z : HI} (C : Cx p s m args meth c RX2 cX2_becomeLike 3 g (AW ad nO)) (hr : meth.sig.returnType = none) (hk : OB nO k 1) (ha0 : OB nO a0 1) {I : HI} {J : HJ} (h : f_X2_becomeLike k a0 I J = some z) : V p l e (rmk 4 150) s m args below meth c (MQ below (QAv g ad nO oR z J) args s 0 0 (AW ad nO)) 3 0 0 g (AW ad nO) ad nO oR I J 0 [(0, .ref (ad k)), (1, .ref (ad a0))] [] := by
  unfold f_X2_becomeLike at h
  refine r_iconst C (v := 0) (by decide) dX2_becomeLike_0 ?_
  refine r_istore_n C (lv1 := [(2, .int (0 : Int32)), (0, .ref (ad k)), (1, .ref (ad a0))]) rfl (by decide) rfl dX2_becomeLike_1 ?_
  exact r_sub [1, 2, 0] rfl (wL_X2_becomeLike_2 C hr hk ha0 _  h)
set_option maxHeartbeats 4000000 in
set_option maxRecDepth 100000 in
theorem c_X2_becomeLike {l : Launch} {g : GG} {ad : Nat → Nat} {k : Nat} {a0 : Nat} {I : HI} {J : HJ} {I1 : HI} (hk : OB nO k 1) (ha0 : OB nO a0 1) (h : f_X2_becomeLike k a0 I J = some I1) : CM l yX2_becomeLike cX2_becomeLike 3 none (rmk 4 150) g ad nO oR [.ref (ad k), .ref (ad a0)] I J (QAv g ad nO oR I1 J) :=
  CM_of (by decide +kernel) (Nat.le_of_ble_eq_true rfl) (fun p e s m args below meth c C hr => w_X2_becomeLike C hr hk ha0 h)
set_option maxHeartbeats 4000000 in
set_option maxRecDepth 100000 in
theorem w_X2_negateTop {l : Launch} {g : GG} {ad : Nat → Nat} {p : Program} {e : Env} {s : State} {m : MethodId} {args : Array Value} {below : List Frame} {meth : Method} {c : Code} {k : Nat} {a0 : Int32} {z : HI} (C : Cx p s m args meth c RX2 cX2_negateTop 2 g (AW ad nO)) (hr : meth.sig.returnType = none) (hk : OB nO k 1) {I : HI} {J : HJ} (h : f_X2_negateTop k a0 I J = some z) : V p l e (rmk 0 0) s m args below meth c (MQ below (QAv g ad nO oR z J) args s 0 0 (AW ad nO)) 2 0 0 g (AW ad nO) ad nO oR I J 0 [(0, .ref (ad k)), (1, .int a0)] [] := by
  unfold f_X2_negateTop at h
  refine r_iload_n C 1 rfl rfl dX2_negateTop_0 ?_
  refine r_if_le C (tgt := 30) h dX2_negateTop_1 (by decide) (fun h => ?_) (fun h => ?_)
  · have hz9 := Option.some.inj h
    subst hz9
    exact r_vret C hr dX2_negateTop_30
  · refine r_iload_n C 1 rfl rfl dX2_negateTop_4 ?_
    refine r_aload_n C 0 rfl rfl dX2_negateTop_5 ?_
    refine gf_X2_24 C rf0 hk (q := (rfn k 3)) rfl dX2_negateTop_6 ?_
    refine r_alen C (v := 32) (ob_1_3 rf0 hk) rfl dX2_negateTop_9 ?_
    refine r_icmp_gt C (tgt := 30) h dX2_negateTop_10 (by decide) (fun h => ?_) (fun h => ?_)
    · have hz9 := Option.some.inj h
      subst hz9
      exact r_vret C hr dX2_negateTop_30
    · refine r_aload_n C 0 rfl rfl dX2_negateTop_13 ?_
      refine gf_X2_24 C rf0 hk (q := (rfn k 3)) rfl dX2_negateTop_14 ?_
      refine r_iload_n C 1 rfl rfl dX2_negateTop_17 ?_
      refine r_iconst C (v := 1) (by decide) dX2_negateTop_18 ?_
      refine r_isub C dX2_negateTop_19 ?_
      refine r_pc (pc1 := 20) rfl ?_
      refine r_aload_n C 0 rfl rfl dX2_negateTop_20 ?_
      refine gf_X2_24 C rf0 hk (q := (rfn k 3)) rfl dX2_negateTop_21 ?_
      refine r_iload_n C 1 rfl rfl dX2_negateTop_24 ?_
      refine r_iconst C (v := 1) (by decide) dX2_negateTop_25 ?_
      refine r_isub C dX2_negateTop_26 ?_
      refine r_iald C (ob_1_3 rf0 hk) h dX2_negateTop_27 (fun h => ?_)
      refine r_ineg C dX2_negateTop_28 ?_
      refine r_iast C (ob_1_3 rf0 hk) h dX2_negateTop_29 (fun h => ?_)
      refine r_nmI h (fun I2 h => ?_)
      have hz9 := Option.some.inj h
      subst hz9
      exact r_vret C hr dX2_negateTop_30
set_option maxHeartbeats 4000000 in
set_option maxRecDepth 100000 in
theorem c_X2_negateTop {l : Launch} {g : GG} {ad : Nat → Nat} {k : Nat} {a0 : Int32} {I : HI} {J : HJ} {I1 : HI} (hk : OB nO k 1) (h : f_X2_negateTop k a0 I J = some I1) : CM l yX2_negateTop cX2_negateTop 2 none (rmk 0 0) g ad nO oR [.ref (ad k), .int a0] I J (QAv g ad nO oR I1 J) :=
  CM_of (by decide +kernel) (Nat.le_of_ble_eq_true rfl) (fun p e s m args below meth c C hr => w_X2_negateTop C hr hk h)
set_option maxHeartbeats 4000000 in
set_option maxRecDepth 100000 in
theorem w_X2_joined {l : Launch} {g : GG} {ad : Nat → Nat} {p : Program} {e : Env} {s : State} {m : MethodId} {args : Array Value} {below : List Frame} {meth : Method} {c : Code} {a0 : Int32} {a1 : Int32} {a2 : Int32} {z : Int32} (C : Cx p s m args meth c RX2 cX2_joined 3 g (AW ad nO)) (hr : meth.sig.returnType = (some .int)) {I : HI} {J : HJ} (h : f_X2_joined a0 a1 a2 = some z) : V p l e (rmk 0 0) s m args below meth c (MQ below (QAi g ad nO oR z I J) args s 0 0 (AW ad nO)) 3 0 0 g (AW ad nO) ad nO oR I J 0 [(0, .int a0), (1, .int a1), (2, .int a2)] [] := by
  unfold f_X2_joined at h
  refine r_iload_n C 1 rfl rfl dX2_joined_0 ?_
  refine r_case h (fun hc9 h => ?_) (fun hc9 h => ?_)
  · refine r_tabIn C (tgt := 144) 37 hc9 dX2_joined_1 (by decide) (by decide) rfl (by decide) ?_
    refine r_iload_n C 2 rfl rfl dX2_joined_144 ?_
    refine r_if_ne C (tgt := 152) h dX2_joined_145 (by decide) (fun h => ?_) (fun h => ?_)
    · refine r_iload_n C 0 rfl rfl dX2_joined_152 ?_
      refine r_iload_n C 2 rfl rfl dX2_joined_153 ?_
      refine r_irem C h dX2_joined_154 (fun h => ?_)
      have hz9 := Option.some.inj h
      subst hz9
      exact r_iret C hr dX2_joined_155
    · refine r_iconst C (v := 0) (by decide) dX2_joined_148 ?_
      refine r_goto C (tgt := 155) dX2_joined_149 (by decide) ?_
      have hz9 := Option.some.inj h
      subst hz9
      exact r_iret C hr dX2_joined_155
  refine r_case h (fun hc10 h => ?_) (fun hc10 h => ?_)
  · refine r_tabIn C (tgt := 128) 42 hc10 dX2_joined_1 (by decide) (by decide) rfl (by decide) ?_
    refine r_iload_n C 0 rfl rfl dX2_joined_128 ?_
    refine r_iload_n C 2 rfl rfl dX2_joined_129 ?_
    refine r_imul C dX2_joined_130 ?_
    have hz9 := Option.some.inj h
    subst hz9
    exact r_iret C hr dX2_joined_131
  refine r_case h (fun hc11 h => ?_) (fun hc11 h => ?_)
  · refine r_tabIn C (tgt := 120) 43 hc11 dX2_joined_1 (by decide) (by decide) rfl (by decide) ?_
    refine r_iload_n C 0 rfl rfl dX2_joined_120 ?_
    refine r_iload_n C 2 rfl rfl dX2_joined_121 ?_
    refine r_iadd C dX2_joined_122 ?_
    have hz9 := Option.some.inj h
    subst hz9
    exact r_iret C hr dX2_joined_123
  refine r_case h (fun hc12 h => ?_) (fun hc12 h => ?_)
  · refine r_tabIn C (tgt := 124) 45 hc12 dX2_joined_1 (by decide) (by decide) rfl (by decide) ?_
    refine r_iload_n C 0 rfl rfl dX2_joined_124 ?_
    refine r_iload_n C 2 rfl rfl dX2_joined_125 ?_
    refine r_isub C dX2_joined_126 ?_
    have hz9 := Option.some.inj h
    subst hz9
    exact r_iret C hr dX2_joined_127
  refine r_case h (fun hc13 h => ?_) (fun hc13 h => ?_)
  · refine r_tabIn C (tgt := 132) 47 hc13 dX2_joined_1 (by decide) (by decide) rfl (by decide) ?_
    refine r_iload_n C 2 rfl rfl dX2_joined_132 ?_
    refine r_if_ne C (tgt := 140) h dX2_joined_133 (by decide) (fun h => ?_) (fun h => ?_)
    · refine r_iload_n C 0 rfl rfl dX2_joined_140 ?_
      refine r_iload_n C 2 rfl rfl dX2_joined_141 ?_
      refine r_idiv C h dX2_joined_142 (fun h => ?_)
      have hz9 := Option.some.inj h
      subst hz9
      exact r_iret C hr dX2_joined_143
    · refine r_iconst C (v := 0) (by decide) dX2_joined_136 ?_
      refine r_goto C (tgt := 143) dX2_joined_137 (by decide) ?_
      have hz9 := Option.some.inj h
      subst hz9
      exact r_iret C hr dX2_joined_143
  refine r_case h (fun hc14 h => ?_) (fun hc14 h => ?_)
  · refine r_tabIn C (tgt := 156) 60 hc14 dX2_joined_1 (by decide) (by decide) rfl (by decide) ?_
    refine r_iload_n C 0 rfl rfl dX2_joined_156 ?_
    refine r_iload_n C 2 rfl rfl dX2_joined_157 ?_
    refine r_icmp_ge C (tgt := 165) h dX2_joined_158 (by decide) (fun h => ?_) (fun h => ?_)
    · refine r_iconst C (v := 0) (by decide) dX2_joined_165 ?_
      have hz9 := Option.some.inj h
      subst hz9
      exact r_iret C hr dX2_joined_166
    · refine r_iconst C (v := 1) (by decide) dX2_joined_161 ?_
      refine r_goto C (tgt := 166) dX2_joined_162 (by decide) ?_
      have hz9 := Option.some.inj h
      subst hz9
      exact r_iret C hr dX2_joined_166
  refine r_case h (fun hc15 h => ?_) (fun hc15 h => ?_)
  · refine r_tabIn C (tgt := 167) 61 hc15 dX2_joined_1 (by decide) (by decide) rfl (by decide) ?_
    refine r_iload_n C 0 rfl rfl dX2_joined_167 ?_
    refine r_iload_n C 2 rfl rfl dX2_joined_168 ?_
    refine r_icmp_ne C (tgt := 176) h dX2_joined_169 (by decide) (fun h => ?_) (fun h => ?_)
    · refine r_iconst C (v := 0) (by decide) dX2_joined_176 ?_
      have hz9 := Option.some.inj h
      subst hz9
      exact r_iret C hr dX2_joined_177
    · refine r_iconst C (v := 1) (by decide) dX2_joined_172 ?_
      refine r_goto C (tgt := 177) dX2_joined_173 (by decide) ?_
      have hz9 := Option.some.inj h
      subst hz9
      exact r_iret C hr dX2_joined_177
  refine r_case h (fun hc16 h => ?_) (fun hc16 h => ?_)
  · refine r_tabIn C (tgt := 178) 62 hc16 dX2_joined_1 (by decide) (by decide) rfl (by decide) ?_
    refine r_iload_n C 0 rfl rfl dX2_joined_178 ?_
    refine r_iload_n C 2 rfl rfl dX2_joined_179 ?_
    refine r_icmp_le C (tgt := 187) h dX2_joined_180 (by decide) (fun h => ?_) (fun h => ?_)
    · refine r_iconst C (v := 0) (by decide) dX2_joined_187 ?_
      have hz9 := Option.some.inj h
      subst hz9
      exact r_iret C hr dX2_joined_188
    · refine r_iconst C (v := 1) (by decide) dX2_joined_183 ?_
      refine r_goto C (tgt := 188) dX2_joined_184 (by decide) ?_
      have hz9 := Option.some.inj h
      subst hz9
      exact r_iret C hr dX2_joined_188
  refine r_tabD C (tgt := 189) [37, 42, 43, 45, 47, 60, 61, 62] (r_nc hc9 rfl (r_nc hc10 rfl (r_nc hc11 rfl (r_nc hc12 rfl (r_nc hc13 rfl (r_nc hc14 rfl (r_nc hc15 rfl (r_nc hc16 rfl r_nc0)))))))) dX2_joined_1 rfl (by decide) (by decide) ?_
  refine r_iconst C (v := 0) (by decide) dX2_joined_189 ?_
  have hz9 := Option.some.inj h
  subst hz9
  exact r_iret C hr dX2_joined_190
set_option maxHeartbeats 4000000 in
set_option maxRecDepth 100000 in
theorem c_X2_joined {l : Launch} {g : GG} {ad : Nat → Nat} {a0 : Int32} {a1 : Int32} {a2 : Int32} {I : HI} {J : HJ} {r : Int32} (h : f_X2_joined a0 a1 a2 = some r) : CM l yX2_joined cX2_joined 3 (some .int) (rmk 0 0) g ad nO oR [.int a0, .int a1, .int a2] I J (QAi g ad nO oR r I J) :=
  CM_of (by decide +kernel) (Nat.le_of_ble_eq_true rfl) (fun p e s m args below meth c C hr => w_X2_joined C hr h)
set_option maxHeartbeats 4000000 in
set_option maxRecDepth 100000 in
theorem w_X2_join {l : Launch} {g : GG} {ad : Nat → Nat} {p : Program} {e : Env} {s : State} {m : MethodId} {args : Array Value} {below : List Frame} {meth : Method} {c : Code} {k : Nat} {a0 : Int32} {a1 : Int32} {z : Int32 × HI} (C : Cx p s m args meth c RX2 cX2_join 3 g (AW ad nO)) (hr : meth.sig.returnType = (some .int)) (hk : OB nO k 1) {I : HI} {J : HJ} (h : f_X2_join k a0 a1 I J = some z) : V p l e (rmk 1 22) s m args below meth c (MQ below (QAi g ad nO oR z.1 z.2 J) args s 0 0 (AW ad nO)) 3 0 0 g (AW ad nO) ad nO oR I J 0 [(0, .ref (ad k)), (1, .int a0), (2, .int a1)] [] := by
  unfold f_X2_join at h
  refine r_iload_n C 1 rfl rfl dX2_join_0 ?_
  refine r_iconst C (v := 2) (by decide) dX2_join_1 ?_
  refine r_icmp_lt C (tgt := 14) h dX2_join_2 (by decide) (fun h => ?_) (fun h => ?_)
  · refine r_iload_n C 1 rfl rfl dX2_join_14 ?_
    have hz9 := Option.some.inj h
    subst hz9
    exact r_iret C hr dX2_join_15
  · refine r_iload_n C 1 rfl rfl dX2_join_5 ?_
    refine r_aload_n C 0 rfl rfl dX2_join_6 ?_
    refine gf_X2_24 C rf0 hk (q := (rfn k 3)) rfl dX2_join_7 ?_
    refine r_alen C (v := 32) (ob_1_3 rf0 hk) rfl dX2_join_10 ?_
    refine r_icmp_le C (tgt := 16) h dX2_join_11 (by decide) (fun h => ?_) (fun h => ?_)
    · refine r_aload_n C 0 rfl rfl dX2_join_16 ?_
      refine gf_X2_24 C rf0 hk (q := (rfn k 3)) rfl dX2_join_17 ?_
      refine r_iload_n C 1 rfl rfl dX2_join_20 ?_
      refine r_iconst C (v := 2) (by decide) dX2_join_21 ?_
      refine r_isub C dX2_join_22 ?_
      refine r_pc (pc1 := 23) rfl ?_
      refine r_aload_n C 0 rfl rfl dX2_join_23 ?_
      refine gf_X2_24 C rf0 hk (q := (rfn k 3)) rfl dX2_join_24 ?_
      refine r_iload_n C 1 rfl rfl dX2_join_27 ?_
      refine r_iconst C (v := 2) (by decide) dX2_join_28 ?_
      refine r_isub C dX2_join_29 ?_
      refine r_iald C (ob_1_3 rf0 hk) h dX2_join_30 (fun h => ?_)
      refine r_iload_n C 2 rfl rfl dX2_join_31 ?_
      refine r_aload_n C 0 rfl rfl dX2_join_32 ?_
      refine gf_X2_24 C rf0 hk (q := (rfn k 3)) rfl dX2_join_33 ?_
      refine r_iload_n C 1 rfl rfl dX2_join_36 ?_
      refine r_iconst C (v := 1) (by decide) dX2_join_37 ?_
      refine r_pc (pc1 := 38) rfl ?_
      refine r_isub C dX2_join_38 ?_
      refine r_iald C (ob_1_3 rf0 hk) h dX2_join_39 (fun h => ?_)
      obtain ⟨r4, hq5, h⟩ := bd1_ h
      refine r_csi C (rest := [.int (a0 - (2 : Int32)), .ref (ad (rfn k 3))]) (c_X2_joined  hq5) fm_X2_joined lk_X2_80 rfl ⟨rfl, rfl, Nat.le_of_ble_eq_true rfl, Nat.le_of_ble_eq_true rfl⟩ (Nat.le_of_ble_eq_true rfl) rfl dX2_join_40 ?_
      refine r_iast C (ob_1_3 rf0 hk) h dX2_join_43 (fun h => ?_)
      refine r_nmI h (fun I6 h => ?_)
      refine r_iload_n C 1 rfl rfl dX2_join_44 ?_
      refine r_iconst C (v := 1) (by decide) dX2_join_45 ?_
      refine r_isub C dX2_join_46 ?_
      have hz9 := Option.some.inj h
      subst hz9
      exact r_iret C hr dX2_join_47
    · refine r_iload_n C 1 rfl rfl dX2_join_14 ?_
      have hz9 := Option.some.inj h
      subst hz9
      exact r_iret C hr dX2_join_15
set_option maxHeartbeats 4000000 in
set_option maxRecDepth 100000 in
theorem c_X2_join {l : Launch} {g : GG} {ad : Nat → Nat} {k : Nat} {a0 : Int32} {a1 : Int32} {I : HI} {J : HJ} {r : Int32} {I1 : HI} (hk : OB nO k 1) (h : f_X2_join k a0 a1 I J = some (r, I1)) : CM l yX2_join cX2_join 3 (some .int) (rmk 1 22) g ad nO oR [.ref (ad k), .int a0, .int a1] I J (QAi g ad nO oR r I1 J) :=
  CM_of (by decide +kernel) (Nat.le_of_ble_eq_true rfl) (fun p e s m args below meth c C hr => w_X2_join C hr hk h)
set_option maxHeartbeats 4000000 in
set_option maxRecDepth 100000 in
theorem w_X7_named {l : Launch} {g : GG} {ad : Nat → Nat} {p : Program} {e : Env} {s : State} {m : MethodId} {args : Array Value} {below : List Frame} {meth : Method} {c : Code} {k : Nat} {a0 : Int32} {z : Int32} (C : Cx p s m args meth c RX7 cX7_named 2 g (AW ad nO)) (hr : meth.sig.returnType = (some .int)) (hk : OB nO k 6) {I : HI} {J : HJ} (h : f_X7_named k a0 I J = some z) : V p l e (rmk 0 0) s m args below meth c (MQ below (QAi g ad nO oR z I J) args s 0 0 (AW ad nO)) 2 0 0 g (AW ad nO) ad nO oR I J 0 [(0, .ref (ad k)), (1, .int a0)] [] := by
  unfold f_X7_named at h
  refine r_iload_n C 1 rfl rfl dX7_named_0 ?_
  refine r_case h (fun hc8 h => ?_) (fun hc8 h => ?_)
  · refine r_tabIn C (tgt := 44) 0 hc8 dX7_named_1 (by decide) (by decide) rfl (by decide) ?_
    refine r_aload_n C 0 rfl rfl dX7_named_44 ?_
    refine gf_X7_23 C hk dX7_named_45 ?_
    have hz9 := Option.some.inj h
    subst hz9
    exact r_iret C hr dX7_named_48
  refine r_case h (fun hc9 h => ?_) (fun hc9 h => ?_)
  · refine r_tabIn C (tgt := 49) 1 hc9 dX7_named_1 (by decide) (by decide) rfl (by decide) ?_
    refine r_aload_n C 0 rfl rfl dX7_named_49 ?_
    refine gf_X7_26 C hk dX7_named_50 ?_
    have hz9 := Option.some.inj h
    subst hz9
    exact r_iret C hr dX7_named_53
  refine r_case h (fun hc10 h => ?_) (fun hc10 h => ?_)
  · refine r_tabIn C (tgt := 54) 2 hc10 dX7_named_1 (by decide) (by decide) rfl (by decide) ?_
    refine r_aload_n C 0 rfl rfl dX7_named_54 ?_
    refine gf_X7_29 C hk dX7_named_55 ?_
    have hz9 := Option.some.inj h
    subst hz9
    exact r_iret C hr dX7_named_58
  refine r_case h (fun hc11 h => ?_) (fun hc11 h => ?_)
  · refine r_tabIn C (tgt := 59) 3 hc11 dX7_named_1 (by decide) (by decide) rfl (by decide) ?_
    refine r_aload_n C 0 rfl rfl dX7_named_59 ?_
    refine gf_X7_32 C hk dX7_named_60 ?_
    have hz9 := Option.some.inj h
    subst hz9
    exact r_iret C hr dX7_named_63
  refine r_case h (fun hc12 h => ?_) (fun hc12 h => ?_)
  · refine r_tabIn C (tgt := 64) 4 hc12 dX7_named_1 (by decide) (by decide) rfl (by decide) ?_
    refine r_aload_n C 0 rfl rfl dX7_named_64 ?_
    refine gf_X7_35 C hk dX7_named_65 ?_
    have hz9 := Option.some.inj h
    subst hz9
    exact r_iret C hr dX7_named_68
  refine r_case h (fun hc13 h => ?_) (fun hc13 h => ?_)
  · refine r_tabIn C (tgt := 69) 5 hc13 dX7_named_1 (by decide) (by decide) rfl (by decide) ?_
    refine r_aload_n C 0 rfl rfl dX7_named_69 ?_
    refine gf_X7_38 C hk dX7_named_70 ?_
    have hz9 := Option.some.inj h
    subst hz9
    exact r_iret C hr dX7_named_73
  refine r_case h (fun hc14 h => ?_) (fun hc14 h => ?_)
  · refine r_tabIn C (tgt := 74) 6 hc14 dX7_named_1 (by decide) (by decide) rfl (by decide) ?_
    refine r_aload_n C 0 rfl rfl dX7_named_74 ?_
    refine gf_X7_16 C hk dX7_named_75 ?_
    have hz9 := Option.some.inj h
    subst hz9
    exact r_iret C hr dX7_named_78
  refine r_tabD C (tgt := 79) [0, 1, 2, 3, 4, 5, 6] (r_nc hc8 rfl (r_nc hc9 rfl (r_nc hc10 rfl (r_nc hc11 rfl (r_nc hc12 rfl (r_nc hc13 rfl (r_nc hc14 rfl r_nc0))))))) dX7_named_1 rfl (by decide) (by decide) ?_
  refine r_iconst C (v := 0) (by decide) dX7_named_79 ?_
  have hz9 := Option.some.inj h
  subst hz9
  exact r_iret C hr dX7_named_80
set_option maxHeartbeats 4000000 in
set_option maxRecDepth 100000 in
theorem c_X7_named {l : Launch} {g : GG} {ad : Nat → Nat} {k : Nat} {a0 : Int32} {I : HI} {J : HJ} {r : Int32} (hk : OB nO k 6) (h : f_X7_named k a0 I J = some r) : CM l yX7_named cX7_named 2 (some .int) (rmk 0 0) g ad nO oR [.ref (ad k), .int a0] I J (QAi g ad nO oR r I J) :=
  CM_of (by decide +kernel) (Nat.le_of_ble_eq_true rfl) (fun p e s m args below meth c C hr => w_X7_named C hr hk h)
set_option maxHeartbeats 4000000 in
set_option maxRecDepth 100000 in
theorem w_X2_push {l : Launch} {g : GG} {ad : Nat → Nat} {p : Program} {e : Env} {s : State} {m : MethodId} {args : Array Value} {below : List Frame} {meth : Method} {c : Code} {k : Nat} {a0 : Int32} {a1 : Int32} {z : Int32 × HI} (C : Cx p s m args meth c RX2 cX2_push 3 g (AW ad nO)) (hr : meth.sig.returnType = (some .int)) (hk : OB nO k 1) {I : HI} {J : HJ} (h : f_X2_push k a0 a1 I J = some z) : V p l e (rmk 0 0) s m args below meth c (MQ below (QAi g ad nO oR z.1 z.2 J) args s 0 0 (AW ad nO)) 3 0 0 g (AW ad nO) ad nO oR I J 0 [(0, .ref (ad k)), (1, .int a0), (2, .int a1)] [] := by
  unfold f_X2_push at h
  refine r_iload_n C 1 rfl rfl dX2_push_0 ?_
  refine r_if_lt C (tgt := 13) h dX2_push_1 (by decide) (fun h => ?_) (fun h => ?_)
  · refine r_iload_n C 1 rfl rfl dX2_push_13 ?_
    have hz9 := Option.some.inj h
    subst hz9
    exact r_iret C hr dX2_push_14
  · refine r_iload_n C 1 rfl rfl dX2_push_4 ?_
    refine r_aload_n C 0 rfl rfl dX2_push_5 ?_
    refine gf_X2_24 C rf0 hk (q := (rfn k 3)) rfl dX2_push_6 ?_
    refine r_alen C (v := 32) (ob_1_3 rf0 hk) rfl dX2_push_9 ?_
    refine r_icmp_lt C (tgt := 15) h dX2_push_10 (by decide) (fun h => ?_) (fun h => ?_)
    · refine r_aload_n C 0 rfl rfl dX2_push_15 ?_
      refine gf_X2_24 C rf0 hk (q := (rfn k 3)) rfl dX2_push_16 ?_
      refine r_iload_n C 1 rfl rfl dX2_push_19 ?_
      refine r_iload_n C 2 rfl rfl dX2_push_20 ?_
      refine r_iast C (ob_1_3 rf0 hk) h dX2_push_21 (fun h => ?_)
      refine r_nmI h (fun I2 h => ?_)
      refine r_iload_n C 1 rfl rfl dX2_push_22 ?_
      refine r_iconst C (v := 1) (by decide) dX2_push_23 ?_
      refine r_iadd C dX2_push_24 ?_
      have hz9 := Option.some.inj h
      subst hz9
      exact r_iret C hr dX2_push_25
    · refine r_iload_n C 1 rfl rfl dX2_push_13 ?_
      have hz9 := Option.some.inj h
      subst hz9
      exact r_iret C hr dX2_push_14
set_option maxHeartbeats 4000000 in
set_option maxRecDepth 100000 in
theorem c_X2_push {l : Launch} {g : GG} {ad : Nat → Nat} {k : Nat} {a0 : Int32} {a1 : Int32} {I : HI} {J : HJ} {r : Int32} {I1 : HI} (hk : OB nO k 1) (h : f_X2_push k a0 a1 I J = some (r, I1)) : CM l yX2_push cX2_push 3 (some .int) (rmk 0 0) g ad nO oR [.ref (ad k), .int a0, .int a1] I J (QAi g ad nO oR r I1 J) :=
  CM_of (by decide +kernel) (Nat.le_of_ble_eq_true rfl) (fun p e s m args below meth c C hr => w_X2_push C hr hk h)

set_option maxHeartbeats 4000000 in
set_option maxRecDepth 100000 in
theorem w_X11_put {l : Launch} {g : GG} {ad : Nat → Nat} {p : Program} {e : Env} {s : State} {m : MethodId} {args : Array Value} {below : List Frame} {meth : Method} {c : Code} {a0 : Int32} {a1 : Int32} {a2 : Int32} {z : Int32 × HI} (C : Cx p s m args meth c RX11 cX11_put 4 g (AW ad nO)) (hr : meth.sig.returnType = (some .int)) {I : HI} {J : HJ} (h : f_X11_put a0 a1 a2 I J = some z) : V p l e (rmk 2 45) s m args below meth c (MQ below (QAi g ad nO oR z.1 z.2 J) args s 0 0 (AW ad nO)) 4 0 0 g (AW ad nO) ad nO oR I J 0 [(0, .ref (ad 98)), (1, .int a0), (2, .int a1), (3, .int a2)] [] := by
  unfold f_X11_put at h
  refine r_iload_n C 1 rfl rfl dX11_put_0 ?_
  obtain ⟨r8, hq9, h⟩ := bd1_ h
  refine r_csi C (rest := []) (c_X11_isOne  hq9) fm_X11_isOne lk_X11_286 rfl ⟨rfl, rfl, Nat.le_of_ble_eq_true rfl, Nat.le_of_ble_eq_true rfl⟩ (Nat.le_of_ble_eq_true rfl) rfl dX11_put_1 ?_
  refine r_if_ne C (tgt := 9) h dX11_put_4 (by decide) (fun h => ?_) (fun h => ?_)
  · refine r_aload_n C 0 rfl rfl dX11_put_9 ?_
    refine gf_X11_62 C rf0 o_98 (q := 116) rfl dX11_put_10 ?_
    refine r_iload_n C 1 rfl rfl dX11_put_13 ?_
    refine r_iald C o_116 h dX11_put_14 (fun h => ?_)
    refine r_if_ge C (tgt := 21) h dX11_put_15 (by decide) (fun h => ?_) (fun h => ?_)
    · refine r_iload_n C 2 rfl rfl dX11_put_21 ?_
      refine r_i2l C dX11_put_22 ?_
      refine r_lconst C (v := 0) (by decide) dX11_put_23 ?_
      refine r_aload_n C 0 rfl rfl dX11_put_24 ?_
      refine gf_X11_65 C rf0 o_98 (q := 117) rfl dX11_put_25 ?_
      refine r_pc (pc1 := 28) rfl ?_
      refine r_iload_n C 1 rfl rfl dX11_put_28 ?_
      refine r_iald C o_117 h dX11_put_29 (fun h => ?_)
      refine r_iconst C (v := 1) (by decide) dX11_put_30 ?_
      refine r_isub C dX11_put_31 ?_
      refine r_i2l C dX11_put_32 ?_
      obtain ⟨r10, hq11, h⟩ := bd1_ h
      refine r_csi C (rest := []) (c_X11_in  hq11) fm_X11_in lk_X11_114 rfl ⟨rfl, rfl, Nat.le_of_ble_eq_true rfl, Nat.le_of_ble_eq_true rfl⟩ (Nat.le_of_ble_eq_true rfl) rfl dX11_put_33 ?_
      refine r_if_ne C (tgt := 42) h dX11_put_36 (by decide) (fun h => ?_) (fun h => ?_)
      · refine r_aload_n C 0 rfl rfl dX11_put_42 ?_
        refine gf_X11_68 C rf0 o_98 (q := 118) rfl dX11_put_43 ?_
        refine r_bipush C (v := 40) (by decide) dX11_put_46 ?_
        refine r_iload_n C 1 rfl rfl dX11_put_48 ?_
        refine r_imul C dX11_put_49 ?_
        refine r_pc (pc1 := 50) rfl ?_
        refine r_iload_n C 2 rfl rfl dX11_put_50 ?_
        refine r_iadd C dX11_put_51 ?_
        refine r_aload_n C 0 rfl rfl dX11_put_52 ?_
        refine gf_X11_62 C rf0 o_98 (q := 116) rfl dX11_put_53 ?_
        refine r_iload_n C 1 rfl rfl dX11_put_56 ?_
        refine r_iald C o_116 h dX11_put_57 (fun h => ?_)
        refine r_iload_n C 3 rfl rfl dX11_put_58 ?_
        obtain ⟨r12, hq13, h⟩ := bd1_ h
        refine r_csi C (rest := [.int (((40 : Int32) * a0) + a1), .ref (ad 118)]) (c_X11_narrowed  hq13) fm_X11_narrowed lk_X11_293 rfl ⟨rfl, rfl, Nat.le_of_ble_eq_true rfl, Nat.le_of_ble_eq_true rfl⟩ (Nat.le_of_ble_eq_true rfl) rfl dX11_put_59 ?_
        refine r_iast C o_118 h dX11_put_62 (fun h => ?_)
        refine r_nmI h (fun I14 h => ?_)
        refine r_iconst C (v := 1) (by decide) dX11_put_63 ?_
        have hz9 := Option.some.inj h
        subst hz9
        exact r_iret C hr dX11_put_64
      · refine r_bipush C (v := -12) (by decide) dX11_put_39 ?_
        have hz9 := Option.some.inj h
        subst hz9
        exact r_iret C hr dX11_put_41
    · refine r_bipush C (v := -11) (by decide) dX11_put_18 ?_
      have hz9 := Option.some.inj h
      subst hz9
      exact r_iret C hr dX11_put_20
  · refine r_iconst C (v := -1) (by decide) dX11_put_7 ?_
    have hz9 := Option.some.inj h
    subst hz9
    exact r_iret C hr dX11_put_8
set_option maxHeartbeats 4000000 in
set_option maxRecDepth 100000 in
theorem c_X11_put {l : Launch} {g : GG} {ad : Nat → Nat} {a0 : Int32} {a1 : Int32} {a2 : Int32} {I : HI} {J : HJ} {r : Int32} {I1 : HI} (h : f_X11_put a0 a1 a2 I J = some (r, I1)) : CM l yX11_put cX11_put 4 (some .int) (rmk 2 45) g ad nO oR [.ref (ad 98), .int a0, .int a1, .int a2] I J (QAi g ad nO oR r I1 J) :=
  CM_of (by decide +kernel) (Nat.le_of_ble_eq_true rfl) (fun p e s m args below meth c C hr => w_X11_put C hr h)
set_option maxHeartbeats 4000000 in
set_option maxRecDepth 100000 in
theorem w_X11_taking {l : Launch} {g : GG} {ad : Nat → Nat} {p : Program} {e : Env} {s : State} {m : MethodId} {args : Array Value} {below : List Frame} {meth : Method} {c : Code} {a0 : Int32} {a1 : Int32} {z : Int32} (C : Cx p s m args meth c RX11 cX11_taking 3 g (AW ad nO)) (hr : meth.sig.returnType = (some .int)) {I : HI} {J : HJ} (h : f_X11_taking a0 a1 I J = some z) : V p l e (rmk 0 0) s m args below meth c (MQ below (QAi g ad nO oR z I J) args s 0 0 (AW ad nO)) 3 0 0 g (AW ad nO) ad nO oR I J 0 [(0, .ref (ad 98)), (1, .int a0), (2, .int a1)] [] := by
  unfold f_X11_taking at h
  refine r_aload_n C 0 rfl rfl dX11_taking_0 ?_
  refine gf_X11_62 C rf0 o_98 (q := 116) rfl dX11_taking_1 ?_
  refine r_iload_n C 1 rfl rfl dX11_taking_4 ?_
  refine r_iald C o_116 h dX11_taking_5 (fun h => ?_)
  refine r_if_ge C (tgt := 14) h dX11_taking_6 (by decide) (fun h => ?_) (fun h => ?_)
  · refine r_aload_n C 0 rfl rfl dX11_taking_14 ?_
    refine gf_X11_62 C rf0 o_98 (q := 116) rfl dX11_taking_15 ?_
    refine r_iload_n C 1 rfl rfl dX11_taking_18 ?_
    refine r_iald C o_116 h dX11_taking_19 (fun h => ?_)
    refine r_iload_n C 2 rfl rfl dX11_taking_20 ?_
    refine r_icmp_eq C (tgt := 29) h dX11_taking_21 (by decide) (fun h => ?_) (fun h => ?_)
    · refine r_iconst C (v := 0) (by decide) dX11_taking_29 ?_
      have hz9 := Option.some.inj h
      subst hz9
      exact r_iret C hr dX11_taking_30
    · refine r_bipush C (v := -13) (by decide) dX11_taking_24 ?_
      refine r_goto C (tgt := 30) dX11_taking_26 (by decide) ?_
      have hz9 := Option.some.inj h
      subst hz9
      exact r_iret C hr dX11_taking_30
  · refine r_bipush C (v := -11) (by decide) dX11_taking_9 ?_
    refine r_goto C (tgt := 30) dX11_taking_11 (by decide) ?_
    have hz9 := Option.some.inj h
    subst hz9
    exact r_iret C hr dX11_taking_30
set_option maxHeartbeats 4000000 in
set_option maxRecDepth 100000 in
theorem c_X11_taking {l : Launch} {g : GG} {ad : Nat → Nat} {a0 : Int32} {a1 : Int32} {I : HI} {J : HJ} {r : Int32} (h : f_X11_taking a0 a1 I J = some r) : CM l yX11_taking cX11_taking 3 (some .int) (rmk 0 0) g ad nO oR [.ref (ad 98), .int a0, .int a1] I J (QAi g ad nO oR r I J) :=
  CM_of (by decide +kernel) (Nat.le_of_ble_eq_true rfl) (fun p e s m args below meth c C hr => w_X11_taking C hr h)
set_option maxHeartbeats 4000000 in
set_option maxRecDepth 100000 in
theorem w_X11_item {l : Launch} {g : GG} {ad : Nat → Nat} {p : Program} {e : Env} {s : State} {m : MethodId} {args : Array Value} {below : List Frame} {meth : Method} {c : Code} {a0 : Int32} {a1 : Int32} {a2 : Int32} {z : Int32} (C : Cx p s m args meth c RX11 cX11_item 5 g (AW ad nO)) (hr : meth.sig.returnType = (some .int)) {I : HI} {J : HJ} (h : f_X11_item a0 a1 a2 I J = some z) : V p l e (rmk 2 45) s m args below meth c (MQ below (QAi g ad nO oR z I J) args s 0 0 (AW ad nO)) 5 0 0 g (AW ad nO) ad nO oR I J 0 [(0, .ref (ad 98)), (1, .int a0), (2, .int a1), (3, .int a2)] [] := by
  unfold f_X11_item at h
  refine r_iload_n C 1 rfl rfl dX11_item_0 ?_
  obtain ⟨r9, hq10, h⟩ := bd1_ h
  refine r_csi C (rest := []) (c_X11_isOne  hq10) fm_X11_isOne lk_X11_286 rfl ⟨rfl, rfl, Nat.le_of_ble_eq_true rfl, Nat.le_of_ble_eq_true rfl⟩ (Nat.le_of_ble_eq_true rfl) rfl dX11_item_1 ?_
  refine r_if_eq C (tgt := 19) h dX11_item_4 (by decide) (fun h => ?_) (fun h => ?_)
  · refine r_iconst C (v := -1) (by decide) dX11_item_19 ?_
    have hz9 := Option.some.inj h
    subst hz9
    exact r_iret C hr dX11_item_20
  · refine r_iload_n C 2 rfl rfl dX11_item_7 ?_
    refine r_i2l C dX11_item_8 ?_
    refine r_lconst C (v := 0) (by decide) dX11_item_9 ?_
    refine r_ldc2 C (v := 4) lk_X11_291 dX11_item_10 ?_
    obtain ⟨r11, hq12, h⟩ := bd1_ h
    refine r_csi C (rest := []) (c_X11_in  hq12) fm_X11_in lk_X11_114 rfl ⟨rfl, rfl, Nat.le_of_ble_eq_true rfl, Nat.le_of_ble_eq_true rfl⟩ (Nat.le_of_ble_eq_true rfl) rfl dX11_item_13 ?_
    refine r_if_ne C (tgt := 21) h dX11_item_16 (by decide) (fun h => ?_) (fun h => ?_)
    · refine r_aload_n C 0 rfl rfl dX11_item_21 ?_
      refine r_iload_n C 1 rfl rfl dX11_item_22 ?_
      refine r_iload_n C 2 rfl rfl dX11_item_23 ?_
      obtain ⟨r13, hq14, h⟩ := bd1_ h
      refine r_cvi C (rest := []) (c_X11_taking  hq14) fm_X11_taking lk_X11_296 o_98 ⟨_, ct_10 o_98.1⟩ rfl rfl ⟨rfl, rfl, Nat.le_of_ble_eq_true rfl, Nat.le_of_ble_eq_true rfl⟩ (Nat.le_of_ble_eq_true rfl) rfl dX11_item_24 ?_
      refine r_istore C (lv1 := [(4, .int r13), (0, .ref (ad 98)), (1, .int a0), (2, .int a1), (3, .int a2)]) (by decide) rfl dX11_item_27 ?_
      refine r_iload C 0 rfl dX11_item_29 ?_
      refine r_if_eq C (tgt := 37) h dX11_item_31 (by decide) (fun h => ?_) (fun h => ?_)
      · refine r_iload_n C 4 rfl rfl dX11_item_37 ?_
        refine r_i2l C dX11_item_38 ?_
        refine r_lconst C (v := 0) (by decide) dX11_item_39 ?_
        refine r_aload_n C 1 rfl rfl dX11_item_40 ?_
        refine gf_X11_65 C rf0 o_98 (q := 117) rfl dX11_item_41 ?_
        refine r_pc (pc1 := 44) rfl ?_
        refine r_iload_n C 2 rfl rfl dX11_item_44 ?_
        refine r_iald C o_117 h dX11_item_45 (fun h => ?_)
        refine r_iconst C (v := 1) (by decide) dX11_item_46 ?_
        refine r_isub C dX11_item_47 ?_
        refine r_i2l C dX11_item_48 ?_
        obtain ⟨r15, hq16, h⟩ := bd1_ h
        refine r_csi C (rest := []) (c_X11_in  hq16) fm_X11_in lk_X11_114 rfl ⟨rfl, rfl, Nat.le_of_ble_eq_true rfl, Nat.le_of_ble_eq_true rfl⟩ (Nat.le_of_ble_eq_true rfl) rfl dX11_item_49 ?_
        refine r_if_eq C (tgt := 69) h dX11_item_52 (by decide) (fun h => ?_) (fun h => ?_)
        · refine r_bipush C (v := -12) (by decide) dX11_item_69 ?_
          have hz9 := Option.some.inj h
          subst hz9
          exact r_iret C hr dX11_item_71
        · refine r_aload_n C 1 rfl rfl dX11_item_55 ?_
          refine gf_X11_68 C rf0 o_98 (q := 118) rfl dX11_item_56 ?_
          refine r_bipush C (v := 40) (by decide) dX11_item_59 ?_
          refine r_iload_n C 2 rfl rfl dX11_item_61 ?_
          refine r_imul C dX11_item_62 ?_
          refine r_pc (pc1 := 63) rfl ?_
          refine r_iload_n C 4 rfl rfl dX11_item_63 ?_
          refine r_iadd C dX11_item_64 ?_
          refine r_iald C o_118 h dX11_item_65 (fun h => ?_)
          refine r_goto C (tgt := 71) dX11_item_66 (by decide) ?_
          have hz9 := Option.some.inj h
          subst hz9
          exact r_iret C hr dX11_item_71
      · refine r_iload C 0 rfl dX11_item_34 ?_
        have hz9 := Option.some.inj h
        subst hz9
        exact r_iret C hr dX11_item_36
    · refine r_iconst C (v := -1) (by decide) dX11_item_19 ?_
      have hz9 := Option.some.inj h
      subst hz9
      exact r_iret C hr dX11_item_20
set_option maxHeartbeats 4000000 in
set_option maxRecDepth 100000 in
theorem c_X11_item {l : Launch} {g : GG} {ad : Nat → Nat} {a0 : Int32} {a1 : Int32} {a2 : Int32} {I : HI} {J : HJ} {r : Int32} (h : f_X11_item a0 a1 a2 I J = some r) : CM l yX11_item cX11_item 5 (some .int) (rmk 2 45) g ad nO oR [.ref (ad 98), .int a0, .int a1, .int a2] I J (QAi g ad nO oR r I J) :=
  CM_of (by decide +kernel) (Nat.le_of_ble_eq_true rfl) (fun p e s m args below meth c C hr => w_X11_item C hr h)
set_option maxHeartbeats 4000000 in
set_option maxRecDepth 100000 in
theorem wB_X11_times_105 {l : Launch} {g : GG} {ad : Nat → Nat} {p : Program} {e : Env} {s : State} {m : MethodId} {args : Array Value} {below : List Frame} {meth : Method} {c : Code} {a0 : Int32} {a1 : Int32} {a2 : Int32} {z : Int32 × HI} (C : Cx p s m args meth c RX11 cX11_times 9 g (AW ad nO)) (hr : meth.sig.returnType = (some .int)) {r_43 : Int32 → Int32 → HI → HJ → Option (Int32 × HI)} {J : HJ} (hr_43 : ∀ {x5 : Int32} {x6 : Int32} {I : HI}, r_43 x5 x6 I J = some z → V p l e (rmk 2 46) s m args below meth c (MQ below (QAi g ad nO oR z.1 z.2 J) args s 0 0 (AW ad nO)) 9 0 0 g (AW ad nO) ad nO oR I J 43 [(0, .ref (ad 98)), (1, .int a0), (2, .int a1), (3, .int a2), (5, .int x5), (6, .int x6)] []) {x6 : Int32} {s0 : Int32} {s1 : Int32} {I : HI} (h : fB_X11_times_105 a0 a1 a2 r_43 x6 s0 s1 I J = some z) : V p l e (rmk 2 46) s m args below meth c (MQ below (QAi g ad nO oR z.1 z.2 J) args s 0 0 (AW ad nO)) 9 0 0 g (AW ad nO) ad nO oR I J 105 [(0, .ref (ad 98)), (1, .int a0), (2, .int a1), (3, .int a2), (6, .int x6)] [.int s0, .int s1] := by
  unfold fB_X11_times_105 at h
  refine r_iadd C dX11_times_105 ?_
  refine r_nmi h (fun v15 h => ?_)
  refine r_istore C (lv1 := [(5, .int v15), (0, .ref (ad 98)), (1, .int a0), (2, .int a1), (3, .int a2), (6, .int x6)]) (by decide) rfl dX11_times_106 ?_
  refine r_iincN C h (k := 5) (zz := 1) rfl rfl (by decide) (lv1 := fun v16 => [(6, .int v16), (5, .int v15), (0, .ref (ad 98)), (1, .int a0), (2, .int a1), (3, .int a2)]) (fun _ => rfl) dX11_times_108 (fun v16 h => ?_)
  refine r_goto C (tgt := 43) dX11_times_111 (by decide) ?_
  exact r_sub [2, 3, 4, 5, 1, 0] rfl (hr_43  h)
set_option maxHeartbeats 4000000 in
set_option maxRecDepth 100000 in
theorem wLB_X11_times_43 {l : Launch} {g : GG} {ad : Nat → Nat} {p : Program} {e : Env} {s : State} {m : MethodId} {args : Array Value} {below : List Frame} {meth : Method} {c : Code} {a0 : Int32} {a1 : Int32} {a2 : Int32} {z : Int32 × HI} (C : Cx p s m args meth c RX11 cX11_times 9 g (AW ad nO)) (hr : meth.sig.returnType = (some .int)) {J : HJ}  {r_43 : Int32 → Int32 → HI → HJ → Option (Int32 × HI)} (hr_43 : ∀ {x5 : Int32} {x6 : Int32} {I : HI}, r_43 x5 x6 I J = some z → V p l e (rmk 2 46) s m args below meth c (MQ below (QAi g ad nO oR z.1 z.2 J) args s 0 0 (AW ad nO)) 9 0 0 g (AW ad nO) ad nO oR I J 43 [(0, .ref (ad 98)), (1, .int a0), (2, .int a1), (3, .int a2), (5, .int x5), (6, .int x6)] []) {x5 : Int32} {x6 : Int32} {I : HI} (h : fLB_X11_times_43 a0 a1 a2 r_43 x5 x6 I J = some z) : V p l e (rmk 2 46) s m args below meth c (MQ below (QAi g ad nO oR z.1 z.2 J) args s 0 0 (AW ad nO)) 9 0 0 g (AW ad nO) ad nO oR I J 43 [(0, .ref (ad 98)), (1, .int a0), (2, .int a1), (3, .int a2), (5, .int x5), (6, .int x6)] [] := by
  unfold fLB_X11_times_43 at h
  refine r_iload C 5 rfl dX11_times_43 ?_
  refine r_iload_n C 3 rfl rfl dX11_times_45 ?_
  refine r_icmp_ge C (tgt := 114) h dX11_times_46 (by decide) (fun h => ?_) (fun h => ?_)
  · refine r_iload C 4 rfl dX11_times_114 ?_
    have hz9 := Option.some.inj h
    subst hz9
    exact r_iret C hr dX11_times_116
  · refine r_iload_n C 2 rfl rfl dX11_times_49 ?_
    refine r_i2l C dX11_times_50 ?_
    refine r_iload C 5 rfl dX11_times_51 ?_
    refine r_i2l C dX11_times_53 ?_
    refine r_ladd C dX11_times_54 ?_
    refine r_pc (pc1 := 55) rfl ?_
    refine r_nml h (fun v17 h => ?_)
    refine r_lstore C (lv1 := [(7, .long v17), (0, .ref (ad 98)), (1, .int a0), (2, .int a1), (3, .int a2), (5, .int x5), (6, .int x6)]) (by decide) rfl dX11_times_55 ?_
    refine r_lload C 0 rfl dX11_times_57 ?_
    refine r_lconst C (v := 0) (by decide) dX11_times_59 ?_
    refine r_aload_n C 1 rfl rfl dX11_times_60 ?_
    refine gf_X11_65 C rf0 o_98 (q := 117) rfl dX11_times_61 ?_
    refine r_iload_n C 2 rfl rfl dX11_times_64 ?_
    refine r_pc (pc1 := 65) rfl ?_
    refine r_iald C o_117 h dX11_times_65 (fun h => ?_)
    refine r_iconst C (v := 1) (by decide) dX11_times_66 ?_
    refine r_isub C dX11_times_67 ?_
    refine r_i2l C dX11_times_68 ?_
    obtain ⟨r18, hq19, h⟩ := bd1_ h
    refine r_csi C (rest := []) (c_X11_in  hq19) fm_X11_in lk_X11_114 rfl ⟨rfl, rfl, Nat.le_of_ble_eq_true rfl, Nat.le_of_ble_eq_true rfl⟩ (Nat.le_of_ble_eq_true rfl) rfl dX11_times_69 ?_
    refine r_if_ne C (tgt := 78) h dX11_times_72 (by decide) (fun h => ?_) (fun h => ?_)
    · refine r_iload C 5 rfl dX11_times_78 ?_
      refine r_aload_n C 1 rfl rfl dX11_times_80 ?_
      refine r_aload_n C 1 rfl rfl dX11_times_81 ?_
      refine gf_X11_68 C rf0 o_98 (q := 118) rfl dX11_times_82 ?_
      refine r_bipush C (v := 40) (by decide) dX11_times_85 ?_
      refine r_pc (pc1 := 87) rfl ?_
      refine r_iload_n C 2 rfl rfl dX11_times_87 ?_
      refine r_imul C dX11_times_88 ?_
      refine r_lload C 0 rfl dX11_times_89 ?_
      refine r_l2i C dX11_times_91 ?_
      refine r_iadd C dX11_times_92 ?_
      refine r_iald C o_118 h dX11_times_93 (fun h => ?_)
      obtain ⟨r20, I21, hq22, h⟩ := bd2_ h
      refine r_cvi C (rest := [.int x5]) (c_X11_tell  hq22) fm_X11_tell lk_X11_301 o_98 ⟨_, ct_10 o_98.1⟩ rfl rfl ⟨rfl, rfl, Nat.le_of_ble_eq_true rfl, Nat.le_of_ble_eq_true rfl⟩ (Nat.le_of_ble_eq_true rfl) rfl dX11_times_94 ?_
      refine r_if_le C (tgt := 104) h dX11_times_97 (by decide) (fun h => ?_) (fun h => ?_)
      · refine r_iconst C (v := 0) (by decide) dX11_times_104 ?_
        exact r_sub [1, 2, 3, 4, 6] rfl (wB_X11_times_105 C hr hr_43  h)
      · refine r_iconst C (v := 1) (by decide) dX11_times_100 ?_
        refine r_goto C (tgt := 105) dX11_times_101 (by decide) ?_
        exact r_sub [1, 2, 3, 4, 6] rfl (wB_X11_times_105 C hr hr_43  h)
    · refine r_bipush C (v := -12) (by decide) dX11_times_75 ?_
      have hz9 := Option.some.inj h
      subst hz9
      exact r_iret C hr dX11_times_77
set_option maxHeartbeats 4000000 in
set_option maxRecDepth 100000 in
theorem wL_X11_times_43 {l : Launch} {g : GG} {ad : Nat → Nat} {p : Program} {e : Env} {s : State} {m : MethodId} {args : Array Value} {below : List Frame} {meth : Method} {c : Code} {a0 : Int32} {a1 : Int32} {a2 : Int32} {z : Int32 × HI} (C : Cx p s m args meth c RX11 cX11_times 9 g (AW ad nO)) (hr : meth.sig.returnType = (some .int)) {J : HJ}  : ∀ (f : Nat) {x5 : Int32} {x6 : Int32} {I : HI}, fL_X11_times_43 a0 a1 a2 f x5 x6 I J = some z → V p l e (rmk 2 46) s m args below meth c (MQ below (QAi g ad nO oR z.1 z.2 J) args s 0 0 (AW ad nO)) 9 0 0 g (AW ad nO) ad nO oR I J 43 [(0, .ref (ad 98)), (1, .int a0), (2, .int a1), (3, .int a2), (5, .int x5), (6, .int x6)] [] := by
  intro f
  induction f with
  | zero =>
    intro _ _ _  h
    have h0 : (none : Option (Int32 × HI)) = some z := h
    cases h0
  | succ f ih =>
    intro _ _ _  h
    exact wLB_X11_times_43 C hr ih  h
set_option maxHeartbeats 4000000 in
set_option maxRecDepth 100000 in
theorem w_X11_times {l : Launch} {g : GG} {ad : Nat → Nat} {p : Program} {e : Env} {s : State} {m : MethodId} {args : Array Value} {below : List Frame} {meth : Method} {c : Code} {a0 : Int32} {a1 : Int32} {a2 : Int32} {z : Int32 × HI} (C : Cx p s m args meth c RX11 cX11_times 9 g (AW ad nO)) (hr : meth.sig.returnType = (some .int)) {I : HI} {J : HJ} (h : f_X11_times a0 a1 a2 I J = some z) : V p l e (rmk 2 46) s m args below meth c (MQ below (QAi g ad nO oR z.1 z.2 J) args s 0 0 (AW ad nO)) 9 0 0 g (AW ad nO) ad nO oR I J 0 [(0, .ref (ad 98)), (1, .int a0), (2, .int a1), (3, .int a2)] [] := by
  unfold f_X11_times at h
  refine r_iload_n C 1 rfl rfl dX11_times_0 ?_
  obtain ⟨r23, hq24, h⟩ := bd1_ h
  refine r_csi C (rest := []) (c_X11_isOne  hq24) fm_X11_isOne lk_X11_286 rfl ⟨rfl, rfl, Nat.le_of_ble_eq_true rfl, Nat.le_of_ble_eq_true rfl⟩ (Nat.le_of_ble_eq_true rfl) rfl dX11_times_1 ?_
  refine r_if_eq C (tgt := 19) h dX11_times_4 (by decide) (fun h => ?_) (fun h => ?_)
  · refine r_iconst C (v := -1) (by decide) dX11_times_19 ?_
    have hz9 := Option.some.inj h
    subst hz9
    exact r_iret C hr dX11_times_20
  · refine r_iload_n C 3 rfl rfl dX11_times_7 ?_
    refine r_i2l C dX11_times_8 ?_
    refine r_lconst C (v := 0) (by decide) dX11_times_9 ?_
    refine r_ldc2 C (v := 40) lk_X11_299 dX11_times_10 ?_
    obtain ⟨r25, hq26, h⟩ := bd1_ h
    refine r_csi C (rest := []) (c_X11_in  hq26) fm_X11_in lk_X11_114 rfl ⟨rfl, rfl, Nat.le_of_ble_eq_true rfl, Nat.le_of_ble_eq_true rfl⟩ (Nat.le_of_ble_eq_true rfl) rfl dX11_times_13 ?_
    refine r_if_ne C (tgt := 21) h dX11_times_16 (by decide) (fun h => ?_) (fun h => ?_)
    · refine r_aload_n C 0 rfl rfl dX11_times_21 ?_
      refine r_iload_n C 1 rfl rfl dX11_times_22 ?_
      refine r_iconst C (v := 1) (by decide) dX11_times_23 ?_
      obtain ⟨r27, hq28, h⟩ := bd1_ h
      refine r_cvi C (rest := []) (c_X11_taking  hq28) fm_X11_taking lk_X11_296 o_98 ⟨_, ct_10 o_98.1⟩ rfl rfl ⟨rfl, rfl, Nat.le_of_ble_eq_true rfl, Nat.le_of_ble_eq_true rfl⟩ (Nat.le_of_ble_eq_true rfl) rfl dX11_times_24 ?_
      refine r_istore C (lv1 := [(4, .int r27), (0, .ref (ad 98)), (1, .int a0), (2, .int a1), (3, .int a2)]) (by decide) rfl dX11_times_27 ?_
      refine r_iload C 0 rfl dX11_times_29 ?_
      refine r_if_eq C (tgt := 37) h dX11_times_31 (by decide) (fun h => ?_) (fun h => ?_)
      · refine r_iconst C (v := 0) (by decide) dX11_times_37 ?_
        refine r_istore C (lv1 := [(5, .int (0 : Int32)), (4, .int r27), (0, .ref (ad 98)), (1, .int a0), (2, .int a1), (3, .int a2)]) (by decide) rfl dX11_times_38 ?_
        refine r_iconst C (v := 0) (by decide) dX11_times_40 ?_
        refine r_istore C (lv1 := [(6, .int (0 : Int32)), (5, .int (0 : Int32)), (4, .int r27), (0, .ref (ad 98)), (1, .int a0), (2, .int a1), (3, .int a2)]) (by decide) rfl dX11_times_41 ?_
        exact r_sub [3, 4, 5, 6, 1, 0] rfl (wL_X11_times_43 C hr _  h)
      · refine r_iload C 0 rfl dX11_times_34 ?_
        have hz9 := Option.some.inj h
        subst hz9
        exact r_iret C hr dX11_times_36
    · refine r_iconst C (v := -1) (by decide) dX11_times_19 ?_
      have hz9 := Option.some.inj h
      subst hz9
      exact r_iret C hr dX11_times_20
set_option maxHeartbeats 4000000 in
set_option maxRecDepth 100000 in
theorem c_X11_times {l : Launch} {g : GG} {ad : Nat → Nat} {a0 : Int32} {a1 : Int32} {a2 : Int32} {I : HI} {J : HJ} {r : Int32} {I1 : HI} (h : f_X11_times a0 a1 a2 I J = some (r, I1)) : CM l yX11_times cX11_times 9 (some .int) (rmk 2 46) g ad nO oR [.ref (ad 98), .int a0, .int a1, .int a2] I J (QAi g ad nO oR r I1 J) :=
  CM_of (by decide +kernel) (Nat.le_of_ble_eq_true rfl) (fun p e s m args below meth c C hr => w_X11_times C hr h)
set_option maxHeartbeats 4000000 in
set_option maxRecDepth 100000 in
theorem wB_X11_shelf_145 {l : Launch} {g : GG} {ad : Nat → Nat} {p : Program} {e : Env} {s : State} {m : MethodId} {args : Array Value} {below : List Frame} {meth : Method} {c : Code} {a0 : Int32} {a1 : Int32} {a2 : Int32} {z : Int32 × HI} (C : Cx p s m args meth c RX11 cX11_shelf 5 g (AW ad nO)) (hr : meth.sig.returnType = (some .int)) {J : HJ}  {s0 : Int32} {s1 : Int32} {I : HI} (h : fB_X11_shelf_145 a0 a1 a2 s0 s1 I J = some z) : V p l e (rmk 2 46) s m args below meth c (MQ below (QAi g ad nO oR z.1 z.2 J) args s 0 0 (AW ad nO)) 5 0 0 g (AW ad nO) ad nO oR I J 145 [] [.int s0, .int s1, .ref (ad 121)] := by
  unfold fB_X11_shelf_145 at h
  refine r_iast C o_121 h dX11_shelf_145 (fun h => ?_)
  refine r_nmI h (fun I14 h => ?_)
  refine r_iconst C (v := 1) (by decide) dX11_shelf_146 ?_
  have hz9 := Option.some.inj h
  subst hz9
  exact r_iret C hr dX11_shelf_147
set_option maxHeartbeats 4000000 in
set_option maxRecDepth 100000 in
theorem wB_X11_shelf_124 {l : Launch} {g : GG} {ad : Nat → Nat} {p : Program} {e : Env} {s : State} {m : MethodId} {args : Array Value} {below : List Frame} {meth : Method} {c : Code} {a0 : Int32} {a1 : Int32} {a2 : Int32} {z : Int32 × HI} (C : Cx p s m args meth c RX11 cX11_shelf 5 g (AW ad nO)) (hr : meth.sig.returnType = (some .int)) {J : HJ}  {x4 : Int32} {s0 : Int32} {s1 : Int32} {I : HI} (h : fB_X11_shelf_124 a0 a1 a2 x4 s0 s1 I J = some z) : V p l e (rmk 2 46) s m args below meth c (MQ below (QAi g ad nO oR z.1 z.2 J) args s 0 0 (AW ad nO)) 5 0 0 g (AW ad nO) ad nO oR I J 124 [(0, .ref (ad 98)), (1, .int a0), (3, .int a2), (4, .int x4)] [.int s0, .int s1, .ref (ad 120)] := by
  unfold fB_X11_shelf_124 at h
  refine r_iast C o_120 h dX11_shelf_124 (fun h => ?_)
  refine r_nmI h (fun I15 h => ?_)
  refine r_aload_n C 0 rfl rfl dX11_shelf_125 ?_
  refine gf_X11_77 C rf0 o_98 (q := 121) rfl dX11_shelf_126 ?_
  refine r_iload_n C 1 rfl rfl dX11_shelf_129 ?_
  refine r_iload C 3 rfl dX11_shelf_130 ?_
  refine r_if_eq C (tgt := 144) h dX11_shelf_132 (by decide) (fun h => ?_) (fun h => ?_)
  · refine r_iconst C (v := 0) (by decide) dX11_shelf_144 ?_
    exact r_sub [] rfl (wB_X11_shelf_145 C hr  h)
  · refine r_aload_n C 0 rfl rfl dX11_shelf_135 ?_
    refine gf_X11_65 C rf0 o_98 (q := 117) rfl dX11_shelf_136 ?_
    refine r_iload_n C 2 rfl rfl dX11_shelf_139 ?_
    refine r_iald C o_117 h dX11_shelf_140 (fun h => ?_)
    refine r_goto C (tgt := 145) dX11_shelf_141 (by decide) ?_
    exact r_sub [] rfl (wB_X11_shelf_145 C hr  h)
set_option maxHeartbeats 4000000 in
set_option maxRecDepth 100000 in
theorem wB_X11_shelf_103 {l : Launch} {g : GG} {ad : Nat → Nat} {p : Program} {e : Env} {s : State} {m : MethodId} {args : Array Value} {below : List Frame} {meth : Method} {c : Code} {a0 : Int32} {a1 : Int32} {a2 : Int32} {z : Int32 × HI} (C : Cx p s m args meth c RX11 cX11_shelf 5 g (AW ad nO)) (hr : meth.sig.returnType = (some .int)) {J : HJ}  {x4 : Int32} {s0 : Int32} {s1 : Int32} {I : HI} (h : fB_X11_shelf_103 a0 a1 a2 x4 s0 s1 I J = some z) : V p l e (rmk 2 46) s m args below meth c (MQ below (QAi g ad nO oR z.1 z.2 J) args s 0 0 (AW ad nO)) 5 0 0 g (AW ad nO) ad nO oR I J 103 [(0, .ref (ad 98)), (1, .int a0), (3, .int a2), (4, .int x4)] [.int s0, .int s1, .ref (ad 119)] := by
  unfold fB_X11_shelf_103 at h
  refine r_iast C o_119 h dX11_shelf_103 (fun h => ?_)
  refine r_nmI h (fun I16 h => ?_)
  refine r_aload_n C 0 rfl rfl dX11_shelf_104 ?_
  refine gf_X11_74 C rf0 o_98 (q := 120) rfl dX11_shelf_105 ?_
  refine r_iload_n C 1 rfl rfl dX11_shelf_108 ?_
  refine r_iload C 3 rfl dX11_shelf_109 ?_
  refine r_if_eq C (tgt := 123) h dX11_shelf_111 (by decide) (fun h => ?_) (fun h => ?_)
  · refine r_iload_n C 2 rfl rfl dX11_shelf_123 ?_
    exact wB_X11_shelf_124 C hr  h
  · refine r_aload_n C 0 rfl rfl dX11_shelf_114 ?_
    refine gf_X11_62 C rf0 o_98 (q := 116) rfl dX11_shelf_115 ?_
    refine r_iload_n C 2 rfl rfl dX11_shelf_118 ?_
    refine r_iald C o_116 h dX11_shelf_119 (fun h => ?_)
    refine r_goto C (tgt := 124) dX11_shelf_120 (by decide) ?_
    exact wB_X11_shelf_124 C hr  h
set_option maxHeartbeats 4000000 in
set_option maxRecDepth 100000 in
theorem wB_X11_shelf_102 {l : Launch} {g : GG} {ad : Nat → Nat} {p : Program} {e : Env} {s : State} {m : MethodId} {args : Array Value} {below : List Frame} {meth : Method} {c : Code} {a0 : Int32} {a1 : Int32} {a2 : Int32} {z : Int32 × HI} (C : Cx p s m args meth c RX11 cX11_shelf 5 g (AW ad nO)) (hr : meth.sig.returnType = (some .int)) {J : HJ}  {x4 : Int32} {s0 : Int32} {I : HI} (h : fB_X11_shelf_102 a0 a1 a2 x4 s0 I J = some z) : V p l e (rmk 2 46) s m args below meth c (MQ below (QAi g ad nO oR z.1 z.2 J) args s 0 0 (AW ad nO)) 5 0 0 g (AW ad nO) ad nO oR I J 102 [(0, .ref (ad 98)), (1, .int a0), (2, .int a1), (3, .int a2), (4, .int x4)] [.int s0, .ref (ad 119)] := by
  unfold fB_X11_shelf_102 at h
  refine r_iload_n C 2 rfl rfl dX11_shelf_102 ?_
  exact r_sub [0, 1, 3, 4] rfl (wB_X11_shelf_103 C hr  h)
set_option maxHeartbeats 4000000 in
set_option maxRecDepth 100000 in
theorem wB_X11_shelf_81 {l : Launch} {g : GG} {ad : Nat → Nat} {p : Program} {e : Env} {s : State} {m : MethodId} {args : Array Value} {below : List Frame} {meth : Method} {c : Code} {a0 : Int32} {a1 : Int32} {a2 : Int32} {z : Int32 × HI} (C : Cx p s m args meth c RX11 cX11_shelf 5 g (AW ad nO)) (hr : meth.sig.returnType = (some .int)) {J : HJ}  {s0 : Int32} {I : HI} (h : fB_X11_shelf_81 a0 a1 a2 s0 I J = some z) : V p l e (rmk 2 46) s m args below meth c (MQ below (QAi g ad nO oR z.1 z.2 J) args s 0 0 (AW ad nO)) 5 0 0 g (AW ad nO) ad nO oR I J 81 [(0, .ref (ad 98)), (1, .int a0), (2, .int a1), (3, .int a2)] [.int s0] := by
  unfold fB_X11_shelf_81 at h
  refine r_istore C (lv1 := [(4, .int s0), (0, .ref (ad 98)), (1, .int a0), (2, .int a1), (3, .int a2)]) (by decide) rfl dX11_shelf_81 ?_
  refine r_aload_n C 1 rfl rfl dX11_shelf_83 ?_
  refine gf_X11_71 C rf0 o_98 (q := 119) rfl dX11_shelf_84 ?_
  refine r_iload_n C 2 rfl rfl dX11_shelf_87 ?_
  refine r_iload_n C 3 rfl rfl dX11_shelf_88 ?_
  refine r_iconst C (v := 2) (by decide) dX11_shelf_89 ?_
  refine r_pc (pc1 := 90) rfl ?_
  refine r_icmp_ne C (tgt := 102) h dX11_shelf_90 (by decide) (fun h => ?_) (fun h => ?_)
  · exact r_sub [1, 2, 3, 4, 0] rfl (wB_X11_shelf_102 C hr  h)
  · refine r_iload C 0 rfl dX11_shelf_93 ?_
    refine r_if_ne C (tgt := 102) h dX11_shelf_95 (by decide) (fun h => ?_) (fun h => ?_)
    · exact r_sub [1, 2, 3, 4, 0] rfl (wB_X11_shelf_102 C hr  h)
    · refine r_iconst C (v := 3) (by decide) dX11_shelf_98 ?_
      refine r_goto C (tgt := 103) dX11_shelf_99 (by decide) ?_
      exact r_sub [1, 2, 4, 0] rfl (wB_X11_shelf_103 C hr  h)
set_option maxHeartbeats 4000000 in
set_option maxRecDepth 100000 in
theorem wB_X11_shelf_80 {l : Launch} {g : GG} {ad : Nat → Nat} {p : Program} {e : Env} {s : State} {m : MethodId} {args : Array Value} {below : List Frame} {meth : Method} {c : Code} {a0 : Int32} {a1 : Int32} {a2 : Int32} {z : Int32 × HI} (C : Cx p s m args meth c RX11 cX11_shelf 5 g (AW ad nO)) (hr : meth.sig.returnType = (some .int)) {J : HJ}  {I : HI} (h : fB_X11_shelf_80 a0 a1 a2 I J = some z) : V p l e (rmk 2 46) s m args below meth c (MQ below (QAi g ad nO oR z.1 z.2 J) args s 0 0 (AW ad nO)) 5 0 0 g (AW ad nO) ad nO oR I J 80 [(0, .ref (ad 98)), (1, .int a0), (2, .int a1), (3, .int a2)] [] := by
  unfold fB_X11_shelf_80 at h
  refine r_iconst C (v := 0) (by decide) dX11_shelf_80 ?_
  exact wB_X11_shelf_81 C hr  h
set_option maxHeartbeats 4000000 in
set_option maxRecDepth 100000 in
theorem wB_X11_shelf_62 {l : Launch} {g : GG} {ad : Nat → Nat} {p : Program} {e : Env} {s : State} {m : MethodId} {args : Array Value} {below : List Frame} {meth : Method} {c : Code} {a0 : Int32} {a1 : Int32} {a2 : Int32} {z : Int32 × HI} (C : Cx p s m args meth c RX11 cX11_shelf 5 g (AW ad nO)) (hr : meth.sig.returnType = (some .int)) {J : HJ}  {I : HI} (h : fB_X11_shelf_62 a0 a1 a2 I J = some z) : V p l e (rmk 2 46) s m args below meth c (MQ below (QAi g ad nO oR z.1 z.2 J) args s 0 0 (AW ad nO)) 5 0 0 g (AW ad nO) ad nO oR I J 62 [(0, .ref (ad 98)), (1, .int a0), (2, .int a1), (3, .int a2)] [] := by
  unfold fB_X11_shelf_62 at h
  refine r_iload_n C 2 rfl rfl dX11_shelf_62 ?_
  refine r_iconst C (v := 2) (by decide) dX11_shelf_63 ?_
  refine r_icmp_ne C (tgt := 80) h dX11_shelf_64 (by decide) (fun h => ?_) (fun h => ?_)
  · exact wB_X11_shelf_80 C hr  h
  · refine r_aload_n C 0 rfl rfl dX11_shelf_67 ?_
    refine gf_X11_62 C rf0 o_98 (q := 116) rfl dX11_shelf_68 ?_
    refine r_iload_n C 3 rfl rfl dX11_shelf_71 ?_
    refine r_iald C o_116 h dX11_shelf_72 (fun h => ?_)
    refine r_if_lt C (tgt := 80) h dX11_shelf_73 (by decide) (fun h => ?_) (fun h => ?_)
    · exact wB_X11_shelf_80 C hr  h
    · refine r_iconst C (v := 1) (by decide) dX11_shelf_76 ?_
      refine r_goto C (tgt := 81) dX11_shelf_77 (by decide) ?_
      exact wB_X11_shelf_81 C hr  h
set_option maxHeartbeats 4000000 in
set_option maxRecDepth 100000 in
theorem wB_X11_shelf_48 {l : Launch} {g : GG} {ad : Nat → Nat} {p : Program} {e : Env} {s : State} {m : MethodId} {args : Array Value} {below : List Frame} {meth : Method} {c : Code} {a0 : Int32} {a1 : Int32} {a2 : Int32} {z : Int32 × HI} (C : Cx p s m args meth c RX11 cX11_shelf 5 g (AW ad nO)) (hr : meth.sig.returnType = (some .int)) {J : HJ}  {I : HI} (h : fB_X11_shelf_48 a0 a1 a2 I J = some z) : V p l e (rmk 2 46) s m args below meth c (MQ below (QAi g ad nO oR z.1 z.2 J) args s 0 0 (AW ad nO)) 5 0 0 g (AW ad nO) ad nO oR I J 48 [(0, .ref (ad 98)), (1, .int a0), (2, .int a1), (3, .int a2)] [] := by
  unfold fB_X11_shelf_48 at h
  refine r_iload_n C 2 rfl rfl dX11_shelf_48 ?_
  refine r_iconst C (v := 2) (by decide) dX11_shelf_49 ?_
  refine r_icmp_ne C (tgt := 62) h dX11_shelf_50 (by decide) (fun h => ?_) (fun h => ?_)
  · exact wB_X11_shelf_62 C hr  h
  · refine r_iload_n C 3 rfl rfl dX11_shelf_53 ?_
    obtain ⟨r17, hq18, h⟩ := bd1_ h
    refine r_csi C (rest := []) (c_X11_isOne  hq18) fm_X11_isOne lk_X11_286 rfl ⟨rfl, rfl, Nat.le_of_ble_eq_true rfl, Nat.le_of_ble_eq_true rfl⟩ (Nat.le_of_ble_eq_true rfl) rfl dX11_shelf_54 ?_
    refine r_if_ne C (tgt := 62) h dX11_shelf_57 (by decide) (fun h => ?_) (fun h => ?_)
    · exact wB_X11_shelf_62 C hr  h
    · refine r_iconst C (v := -1) (by decide) dX11_shelf_60 ?_
      have hz9 := Option.some.inj h
      subst hz9
      exact r_iret C hr dX11_shelf_61
set_option maxHeartbeats 4000000 in
set_option maxRecDepth 100000 in
theorem wB_X11_shelf_31 {l : Launch} {g : GG} {ad : Nat → Nat} {p : Program} {e : Env} {s : State} {m : MethodId} {args : Array Value} {below : List Frame} {meth : Method} {c : Code} {a0 : Int32} {a1 : Int32} {a2 : Int32} {z : Int32 × HI} (C : Cx p s m args meth c RX11 cX11_shelf 5 g (AW ad nO)) (hr : meth.sig.returnType = (some .int)) {J : HJ}  {I : HI} (h : fB_X11_shelf_31 a0 a1 a2 I J = some z) : V p l e (rmk 2 46) s m args below meth c (MQ below (QAi g ad nO oR z.1 z.2 J) args s 0 0 (AW ad nO)) 5 0 0 g (AW ad nO) ad nO oR I J 31 [(0, .ref (ad 98)), (1, .int a0), (2, .int a1), (3, .int a2)] [] := by
  unfold fB_X11_shelf_31 at h
  refine r_iload_n C 2 rfl rfl dX11_shelf_31 ?_
  refine r_iconst C (v := 1) (by decide) dX11_shelf_32 ?_
  refine r_icmp_ne C (tgt := 48) h dX11_shelf_33 (by decide) (fun h => ?_) (fun h => ?_)
  · exact wB_X11_shelf_48 C hr  h
  · refine r_iload_n C 3 rfl rfl dX11_shelf_36 ?_
    refine r_i2l C dX11_shelf_37 ?_
    refine r_lconst C (v := 0) (by decide) dX11_shelf_38 ?_
    refine r_ldc2 C (v := 3) lk_X11_226 dX11_shelf_39 ?_
    obtain ⟨r19, hq20, h⟩ := bd1_ h
    refine r_csi C (rest := []) (c_X11_in  hq20) fm_X11_in lk_X11_114 rfl ⟨rfl, rfl, Nat.le_of_ble_eq_true rfl, Nat.le_of_ble_eq_true rfl⟩ (Nat.le_of_ble_eq_true rfl) rfl dX11_shelf_42 ?_
    refine r_if_eq C (tgt := 60) h dX11_shelf_45 (by decide) (fun h => ?_) (fun h => ?_)
    · refine r_iconst C (v := -1) (by decide) dX11_shelf_60 ?_
      have hz9 := Option.some.inj h
      subst hz9
      exact r_iret C hr dX11_shelf_61
    · exact wB_X11_shelf_48 C hr  h
set_option maxHeartbeats 4000000 in
set_option maxRecDepth 100000 in
theorem w_X11_shelf {l : Launch} {g : GG} {ad : Nat → Nat} {p : Program} {e : Env} {s : State} {m : MethodId} {args : Array Value} {below : List Frame} {meth : Method} {c : Code} {a0 : Int32} {a1 : Int32} {a2 : Int32} {z : Int32 × HI} (C : Cx p s m args meth c RX11 cX11_shelf 5 g (AW ad nO)) (hr : meth.sig.returnType = (some .int)) {I : HI} {J : HJ} (h : f_X11_shelf a0 a1 a2 I J = some z) : V p l e (rmk 2 46) s m args below meth c (MQ below (QAi g ad nO oR z.1 z.2 J) args s 0 0 (AW ad nO)) 5 0 0 g (AW ad nO) ad nO oR I J 0 [(0, .ref (ad 98)), (1, .int a0), (2, .int a1), (3, .int a2)] [] := by
  unfold f_X11_shelf at h
  refine r_iload_n C 1 rfl rfl dX11_shelf_0 ?_
  obtain ⟨r21, hq22, h⟩ := bd1_ h
  refine r_csi C (rest := []) (c_X11_isOne  hq22) fm_X11_isOne lk_X11_286 rfl ⟨rfl, rfl, Nat.le_of_ble_eq_true rfl, Nat.le_of_ble_eq_true rfl⟩ (Nat.le_of_ble_eq_true rfl) rfl dX11_shelf_1 ?_
  refine r_if_eq C (tgt := 60) h dX11_shelf_4 (by decide) (fun h => ?_) (fun h => ?_)
  · refine r_iconst C (v := -1) (by decide) dX11_shelf_60 ?_
    have hz9 := Option.some.inj h
    subst hz9
    exact r_iret C hr dX11_shelf_61
  · refine r_iload_n C 2 rfl rfl dX11_shelf_7 ?_
    refine r_i2l C dX11_shelf_8 ?_
    refine r_lconst C (v := 0) (by decide) dX11_shelf_9 ?_
    refine r_ldc2 C (v := 3) lk_X11_226 dX11_shelf_10 ?_
    obtain ⟨r23, hq24, h⟩ := bd1_ h
    refine r_csi C (rest := []) (c_X11_in  hq24) fm_X11_in lk_X11_114 rfl ⟨rfl, rfl, Nat.le_of_ble_eq_true rfl, Nat.le_of_ble_eq_true rfl⟩ (Nat.le_of_ble_eq_true rfl) rfl dX11_shelf_13 ?_
    refine r_if_eq C (tgt := 60) h dX11_shelf_16 (by decide) (fun h => ?_) (fun h => ?_)
    · refine r_iconst C (v := -1) (by decide) dX11_shelf_60 ?_
      have hz9 := Option.some.inj h
      subst hz9
      exact r_iret C hr dX11_shelf_61
    · refine r_iload_n C 2 rfl rfl dX11_shelf_19 ?_
      refine r_if_ne C (tgt := 31) h dX11_shelf_20 (by decide) (fun h => ?_) (fun h => ?_)
      · exact wB_X11_shelf_31 C hr  h
      · refine r_aload_n C 0 rfl rfl dX11_shelf_23 ?_
        refine r_iload_n C 3 rfl rfl dX11_shelf_24 ?_
        obtain ⟨r25, hq26, h⟩ := bd1_ h
        refine r_cvi C (rest := []) (c_X11_isRecord  hq26) fm_X11_isRecord lk_X11_280 o_98 ⟨_, ct_10 o_98.1⟩ rfl rfl ⟨rfl, rfl, Nat.le_of_ble_eq_true rfl, Nat.le_of_ble_eq_true rfl⟩ (Nat.le_of_ble_eq_true rfl) rfl dX11_shelf_25 ?_
        refine r_if_eq C (tgt := 60) h dX11_shelf_28 (by decide) (fun h => ?_) (fun h => ?_)
        · refine r_iconst C (v := -1) (by decide) dX11_shelf_60 ?_
          have hz9 := Option.some.inj h
          subst hz9
          exact r_iret C hr dX11_shelf_61
        · exact wB_X11_shelf_31 C hr  h
set_option maxHeartbeats 4000000 in
set_option maxRecDepth 100000 in
theorem c_X11_shelf {l : Launch} {g : GG} {ad : Nat → Nat} {a0 : Int32} {a1 : Int32} {a2 : Int32} {I : HI} {J : HJ} {r : Int32} {I1 : HI} (h : f_X11_shelf a0 a1 a2 I J = some (r, I1)) : CM l yX11_shelf cX11_shelf 5 (some .int) (rmk 2 46) g ad nO oR [.ref (ad 98), .int a0, .int a1, .int a2] I J (QAi g ad nO oR r I1 J) :=
  CM_of (by decide +kernel) (Nat.le_of_ble_eq_true rfl) (fun p e s m args below meth c C hr => w_X11_shelf C hr h)
set_option maxHeartbeats 4000000 in
set_option maxRecDepth 100000 in
theorem wB_X11_takes_58 {l : Launch} {g : GG} {ad : Nat → Nat} {p : Program} {e : Env} {s : State} {m : MethodId} {args : Array Value} {below : List Frame} {meth : Method} {c : Code} {a0 : Int32} {z : HI × HJ} (C : Cx p s m args meth c RX11 cX11_takes 3 g (AW ad nO)) (hr : meth.sig.returnType = none)  {x2 : Int32} {I : HI} {J : HJ} (h : fB_X11_takes_58 a0 x2 I J = some z) : V p l e (rmk 3 67) s m args below meth c (MQ below (QAv g ad nO oR z.1 z.2) args s 0 0 (AW ad nO)) 3 0 0 g (AW ad nO) ad nO oR I J 58 [(0, .ref (ad 98)), (1, .int a0), (2, .int x2)] [] := by
  unfold fB_X11_takes_58 at h
  refine r_aload_n C 0 rfl rfl dX11_takes_58 ?_
  refine gf_X11_71 C rf0 o_98 (q := 119) rfl dX11_takes_59 ?_
  refine r_iload_n C 1 rfl rfl dX11_takes_62 ?_
  refine r_iald C o_119 h dX11_takes_63 (fun h => ?_)
  refine r_iconst C (v := 1) (by decide) dX11_takes_64 ?_
  refine r_icmp_ne C (tgt := 83) h dX11_takes_65 (by decide) (fun h => ?_) (fun h => ?_)
  · have hz9 := Option.some.inj h
    subst hz9
    exact r_vret C hr dX11_takes_83
  · refine r_aload_n C 0 rfl rfl dX11_takes_68 ?_
    refine r_bipush C (v := 7) (by decide) dX11_takes_69 ?_
    refine pf_X11_304 C o_98 dX11_takes_71 ?_
    refine r_nmI h (fun I18 h => ?_)
    refine r_aload_n C 0 rfl rfl dX11_takes_74 ?_
    refine r_aload_n C 0 rfl rfl dX11_takes_75 ?_
    refine r_iload_n C 2 rfl rfl dX11_takes_76 ?_
    obtain ⟨r19, I20, J21, hq22, h⟩ := bd3_ h
    refine r_cvi C (rest := [.ref (ad 98)]) (c_X11_says  hq22) fm_X11_says lk_X11_312 o_98 ⟨_, ct_10 o_98.1⟩ rfl rfl ⟨rfl, rfl, Nat.le_of_ble_eq_true rfl, Nat.le_of_ble_eq_true rfl⟩ (Nat.le_of_ble_eq_true rfl) rfl dX11_takes_77 ?_
    refine pf_X11_309 C o_98 dX11_takes_80 ?_
    refine r_nmI h (fun I23 h => ?_)
    have hz9 := Option.some.inj h
    subst hz9
    exact r_vret C hr dX11_takes_83
set_option maxHeartbeats 4000000 in
set_option maxRecDepth 100000 in
theorem w_X11_takes {l : Launch} {g : GG} {ad : Nat → Nat} {p : Program} {e : Env} {s : State} {m : MethodId} {args : Array Value} {below : List Frame} {meth : Method} {c : Code} {a0 : Int32} {z : HI × HJ} (C : Cx p s m args meth c RX11 cX11_takes 3 g (AW ad nO)) (hr : meth.sig.returnType = none) {I : HI} {J : HJ} (h : f_X11_takes a0 I J = some z) : V p l e (rmk 3 67) s m args below meth c (MQ below (QAv g ad nO oR z.1 z.2) args s 0 0 (AW ad nO)) 3 0 0 g (AW ad nO) ad nO oR I J 0 [(0, .ref (ad 98)), (1, .int a0)] [] := by
  unfold f_X11_takes at h
  refine r_aload_n C 0 rfl rfl dX11_takes_0 ?_
  refine gf_X11_74 C rf0 o_98 (q := 120) rfl dX11_takes_1 ?_
  refine r_iload_n C 1 rfl rfl dX11_takes_4 ?_
  refine r_iald C o_120 h dX11_takes_5 (fun h => ?_)
  refine r_nmi h (fun v24 h => ?_)
  refine r_istore_n C (lv1 := [(2, .int v24), (0, .ref (ad 98)), (1, .int a0)]) rfl (by decide) rfl dX11_takes_6 ?_
  refine r_aload_n C 1 rfl rfl dX11_takes_7 ?_
  refine r_iconst C (v := -1) (by decide) dX11_takes_8 ?_
  refine pf_X11_304 C o_98 dX11_takes_9 ?_
  refine r_nmI h (fun I25 h => ?_)
  refine r_aload_n C 1 rfl rfl dX11_takes_12 ?_
  refine r_iload_n C 0 rfl rfl dX11_takes_13 ?_
  refine pf_X11_307 C o_98 dX11_takes_14 ?_
  refine r_nmI h (fun I26 h => ?_)
  refine r_aload_n C 1 rfl rfl dX11_takes_17 ?_
  refine gf_X11_71 C rf0 o_98 (q := 119) rfl dX11_takes_18 ?_
  refine r_iload_n C 2 rfl rfl dX11_takes_21 ?_
  refine r_iald C o_119 h dX11_takes_22 (fun h => ?_)
  refine r_if_ne C (tgt := 58) h dX11_takes_23 (by decide) (fun h => ?_) (fun h => ?_)
  · exact r_sub [1, 2, 0] rfl (wB_X11_takes_58 C hr  h)
  · refine r_aload_n C 1 rfl rfl dX11_takes_26 ?_
    refine r_iload_n C 0 rfl rfl dX11_takes_27 ?_
    obtain ⟨r27, hq28, h⟩ := bd1_ h
    refine r_cvi C (rest := []) (c_X11_isRecord  hq28) fm_X11_isRecord lk_X11_280 o_98 ⟨_, ct_10 o_98.1⟩ rfl rfl ⟨rfl, rfl, Nat.le_of_ble_eq_true rfl, Nat.le_of_ble_eq_true rfl⟩ (Nat.le_of_ble_eq_true rfl) rfl dX11_takes_28 ?_
    refine r_if_eq C (tgt := 58) h dX11_takes_31 (by decide) (fun h => ?_) (fun h => ?_)
    · exact r_sub [1, 2, 0] rfl (wB_X11_takes_58 C hr  h)
    · refine r_aload_n C 1 rfl rfl dX11_takes_34 ?_
      refine r_iload_n C 0 rfl rfl dX11_takes_35 ?_
      obtain ⟨I29, hq30, h⟩ := bd1_ h
      refine r_cvv C (rest := []) (c_X11_looksAtRecord  hq30) fm_X11_looksAtRecord lk_X11_283 o_98 ⟨_, ct_10 o_98.1⟩ rfl rfl ⟨rfl, rfl, Nat.le_of_ble_eq_true rfl, Nat.le_of_ble_eq_true rfl⟩ (Nat.le_of_ble_eq_true rfl) rfl dX11_takes_36 ?_
      refine r_aload_n C 1 rfl rfl dX11_takes_39 ?_
      refine r_aload_n C 1 rfl rfl dX11_takes_40 ?_
      obtain ⟨r31, hq32, h⟩ := bd1_ h
      refine r_cvi C (rest := [.ref (ad 98)]) (c_X11_kindOf  hq32) fm_X11_kindOf lk_X11_240 o_98 ⟨_, ct_10 o_98.1⟩ rfl rfl ⟨rfl, rfl, Nat.le_of_ble_eq_true rfl, Nat.le_of_ble_eq_true rfl⟩ (Nat.le_of_ble_eq_true rfl) rfl dX11_takes_41 ?_
      refine pf_X11_304 C o_98 dX11_takes_44 ?_
      refine r_nmI h (fun I33 h => ?_)
      refine r_aload_n C 1 rfl rfl dX11_takes_47 ?_
      refine r_aload_n C 1 rfl rfl dX11_takes_48 ?_
      refine gf_X11_228 C o_98 dX11_takes_49 ?_
      refine pf_X11_309 C o_98 dX11_takes_52 ?_
      refine r_nmI h (fun I34 h => ?_)
      refine r_goto C (tgt := 83) dX11_takes_55 (by decide) ?_
      have hz9 := Option.some.inj h
      subst hz9
      exact r_vret C hr dX11_takes_83
set_option maxHeartbeats 4000000 in
set_option maxRecDepth 100000 in
theorem c_X11_takes {l : Launch} {g : GG} {ad : Nat → Nat} {a0 : Int32} {I : HI} {J : HJ} {I1 : HI} {J1 : HJ} (h : f_X11_takes a0 I J = some (I1, J1)) : CM l yX11_takes cX11_takes 3 none (rmk 3 67) g ad nO oR [.ref (ad 98), .int a0] I J (QAv g ad nO oR I1 J1) :=
  CM_of (by decide +kernel) (Nat.le_of_ble_eq_true rfl) (fun p e s m args below meth c C hr => w_X11_takes C hr h)
set_option maxHeartbeats 4000000 in
set_option maxRecDepth 100000 in
theorem wB_X11_isUnder_36 {l : Launch} {g : GG} {ad : Nat → Nat} {p : Program} {e : Env} {s : State} {m : MethodId} {args : Array Value} {below : List Frame} {meth : Method} {c : Code} {a0 : Int32} {a1 : Int32} {z : Int32} (C : Cx p s m args meth c RX11 cX11_isUnder 2 g (AW ad nO)) (hr : meth.sig.returnType = (some .boolean)) {I : HI} {J : HJ}  (h : fB_X11_isUnder_36 a0 a1 = some z) : V p l e (rmk 0 0) s m args below meth c (MQ below (QAi g ad nO oR z I J) args s 0 0 (AW ad nO)) 2 0 0 g (AW ad nO) ad nO oR I J 36 [] [] := by
  unfold fB_X11_isUnder_36 at h
  refine r_iconst C (v := 1) (by decide) dX11_isUnder_36 ?_
  refine r_goto C (tgt := 41) dX11_isUnder_37 (by decide) ?_
  have hz9 := Option.some.inj h
  subst hz9
  exact r_zret C (v := (1 : Int32)) rfl hr dX11_isUnder_41
set_option maxHeartbeats 4000000 in
set_option maxRecDepth 100000 in
theorem wB_X11_isUnder_25 {l : Launch} {g : GG} {ad : Nat → Nat} {p : Program} {e : Env} {s : State} {m : MethodId} {args : Array Value} {below : List Frame} {meth : Method} {c : Code} {a0 : Int32} {a1 : Int32} {z : Int32} (C : Cx p s m args meth c RX11 cX11_isUnder 2 g (AW ad nO)) (hr : meth.sig.returnType = (some .boolean)) {I : HI} {J : HJ}  (h : fB_X11_isUnder_25 a0 a1 = some z) : V p l e (rmk 0 0) s m args below meth c (MQ below (QAi g ad nO oR z I J) args s 0 0 (AW ad nO)) 2 0 0 g (AW ad nO) ad nO oR I J 25 [(0, .int a0), (1, .int a1)] [] := by
  unfold fB_X11_isUnder_25 at h
  refine r_iload_n C 1 rfl rfl dX11_isUnder_25 ?_
  refine r_iconst C (v := 5) (by decide) dX11_isUnder_26 ?_
  refine r_icmp_ne C (tgt := 40) h dX11_isUnder_27 (by decide) (fun h => ?_) (fun h => ?_)
  · refine r_iconst C (v := 0) (by decide) dX11_isUnder_40 ?_
    have hz9 := Option.some.inj h
    subst hz9
    exact r_zret C (v := (0 : Int32)) rfl hr dX11_isUnder_41
  · refine r_iload_n C 0 rfl rfl dX11_isUnder_30 ?_
    refine r_bipush C (v := 6) (by decide) dX11_isUnder_31 ?_
    refine r_icmp_ne C (tgt := 40) h dX11_isUnder_33 (by decide) (fun h => ?_) (fun h => ?_)
    · refine r_iconst C (v := 0) (by decide) dX11_isUnder_40 ?_
      have hz9 := Option.some.inj h
      subst hz9
      exact r_zret C (v := (0 : Int32)) rfl hr dX11_isUnder_41
    · exact r_sub [] rfl (wB_X11_isUnder_36 C hr  h)
set_option maxHeartbeats 4000000 in
set_option maxRecDepth 100000 in
theorem wB_X11_isUnder_15 {l : Launch} {g : GG} {ad : Nat → Nat} {p : Program} {e : Env} {s : State} {m : MethodId} {args : Array Value} {below : List Frame} {meth : Method} {c : Code} {a0 : Int32} {a1 : Int32} {z : Int32} (C : Cx p s m args meth c RX11 cX11_isUnder 2 g (AW ad nO)) (hr : meth.sig.returnType = (some .boolean)) {I : HI} {J : HJ}  (h : fB_X11_isUnder_15 a0 a1 = some z) : V p l e (rmk 0 0) s m args below meth c (MQ below (QAi g ad nO oR z I J) args s 0 0 (AW ad nO)) 2 0 0 g (AW ad nO) ad nO oR I J 15 [(0, .int a0), (1, .int a1)] [] := by
  unfold fB_X11_isUnder_15 at h
  refine r_iload_n C 1 rfl rfl dX11_isUnder_15 ?_
  refine r_iconst C (v := 2) (by decide) dX11_isUnder_16 ?_
  refine r_icmp_ne C (tgt := 25) h dX11_isUnder_17 (by decide) (fun h => ?_) (fun h => ?_)
  · exact wB_X11_isUnder_25 C hr  h
  · refine r_iload_n C 0 rfl rfl dX11_isUnder_20 ?_
    refine r_iconst C (v := 3) (by decide) dX11_isUnder_21 ?_
    refine r_icmp_eq C (tgt := 36) h dX11_isUnder_22 (by decide) (fun h => ?_) (fun h => ?_)
    · exact r_sub [] rfl (wB_X11_isUnder_36 C hr  h)
    · exact wB_X11_isUnder_25 C hr  h
set_option maxHeartbeats 4000000 in
set_option maxRecDepth 100000 in
theorem w_X11_isUnder {l : Launch} {g : GG} {ad : Nat → Nat} {p : Program} {e : Env} {s : State} {m : MethodId} {args : Array Value} {below : List Frame} {meth : Method} {c : Code} {a0 : Int32} {a1 : Int32} {z : Int32} (C : Cx p s m args meth c RX11 cX11_isUnder 2 g (AW ad nO)) (hr : meth.sig.returnType = (some .boolean)) {I : HI} {J : HJ} (h : f_X11_isUnder a0 a1 = some z) : V p l e (rmk 0 0) s m args below meth c (MQ below (QAi g ad nO oR z I J) args s 0 0 (AW ad nO)) 2 0 0 g (AW ad nO) ad nO oR I J 0 [(0, .int a0), (1, .int a1)] [] := by
  unfold f_X11_isUnder at h
  refine r_iload_n C 0 rfl rfl dX11_isUnder_0 ?_
  refine r_iload_n C 1 rfl rfl dX11_isUnder_1 ?_
  refine r_icmp_eq C (tgt := 36) h dX11_isUnder_2 (by decide) (fun h => ?_) (fun h => ?_)
  · exact r_sub [] rfl (wB_X11_isUnder_36 C hr  h)
  · refine r_iload_n C 1 rfl rfl dX11_isUnder_5 ?_
    refine r_if_ne C (tgt := 15) h dX11_isUnder_6 (by decide) (fun h => ?_) (fun h => ?_)
    · exact wB_X11_isUnder_15 C hr  h
    · refine r_iload_n C 0 rfl rfl dX11_isUnder_9 ?_
      refine r_bipush C (v := 7) (by decide) dX11_isUnder_10 ?_
      refine r_icmp_lt C (tgt := 36) h dX11_isUnder_12 (by decide) (fun h => ?_) (fun h => ?_)
      · exact r_sub [] rfl (wB_X11_isUnder_36 C hr  h)
      · exact wB_X11_isUnder_15 C hr  h
set_option maxHeartbeats 4000000 in
set_option maxRecDepth 100000 in
theorem c_X11_isUnder {l : Launch} {g : GG} {ad : Nat → Nat} {a0 : Int32} {a1 : Int32} {I : HI} {J : HJ} {r : Int32} (h : f_X11_isUnder a0 a1 = some r) : CM l yX11_isUnder cX11_isUnder 2 (some .boolean) (rmk 0 0) g ad nO oR [.int a0, .int a1] I J (QAi g ad nO oR r I J) :=
  CM_of (by decide +kernel) (Nat.le_of_ble_eq_true rfl) (fun p e s m args below meth c C hr => w_X11_isUnder C hr h)
set_option maxHeartbeats 4000000 in
set_option maxRecDepth 100000 in
theorem wB_X11_taken_70 {l : Launch} {g : GG} {ad : Nat → Nat} {p : Program} {e : Env} {s : State} {m : MethodId} {args : Array Value} {below : List Frame} {meth : Method} {c : Code} {a0 : Int32} {a1 : Int32} {z : Int32 × HI × HJ} (C : Cx p s m args meth c RX11 cX11_taken 4 g (AW ad nO)) (hr : meth.sig.returnType = (some .int))  {x3 : Int32} {I : HI} {J : HJ} (h : fB_X11_taken_70 a0 a1 x3 I J = some z) : V p l e (rmk 4 89) s m args below meth c (MQ below (QAi g ad nO oR z.1 z.2.1 z.2.2) args s 0 0 (AW ad nO)) 4 0 0 g (AW ad nO) ad nO oR I J 70 [(0, .ref (ad 98)), (1, .int a0), (2, .int a1), (3, .int x3)] [] := by
  unfold fB_X11_taken_70 at h
  refine r_iload_n C 2 rfl rfl dX11_taken_70 ?_
  refine r_bipush C (v := 10) (by decide) dX11_taken_71 ?_
  refine r_icmp_lt C (tgt := 105) h dX11_taken_73 (by decide) (fun h => ?_) (fun h => ?_)
  · refine r_iload_n C 3 rfl rfl dX11_taken_105 ?_
    refine r_if_ne C (tgt := 127) h dX11_taken_106 (by decide) (fun h => ?_) (fun h => ?_)
    · refine r_bipush C (v := -13) (by decide) dX11_taken_127 ?_
      have hz9 := Option.some.inj h
      subst hz9
      exact r_iret C hr dX11_taken_129
    · refine r_aload_n C 0 rfl rfl dX11_taken_109 ?_
      refine gf_X11_304 C o_98 dX11_taken_110 ?_
      refine r_iload_n C 2 rfl rfl dX11_taken_113 ?_
      obtain ⟨r12, hq13, h⟩ := bd1_ h
      refine r_csi C (rest := []) (c_X11_isUnder  hq13) fm_X11_isUnder lk_X11_322 rfl ⟨rfl, rfl, Nat.le_of_ble_eq_true rfl, Nat.le_of_ble_eq_true rfl⟩ (Nat.le_of_ble_eq_true rfl) rfl dX11_taken_114 ?_
      refine r_if_eq C (tgt := 127) h dX11_taken_117 (by decide) (fun h => ?_) (fun h => ?_)
      · refine r_bipush C (v := -13) (by decide) dX11_taken_127 ?_
        have hz9 := Option.some.inj h
        subst hz9
        exact r_iret C hr dX11_taken_129
      · refine r_aload_n C 0 rfl rfl dX11_taken_120 ?_
        refine gf_X11_307 C o_98 dX11_taken_121 ?_
        refine r_goto C (tgt := 129) dX11_taken_124 (by decide) ?_
        have hz9 := Option.some.inj h
        subst hz9
        exact r_iret C hr dX11_taken_129
  · refine r_iload_n C 3 rfl rfl dX11_taken_76 ?_
    refine r_if_eq C (tgt := 102) h dX11_taken_77 (by decide) (fun h => ?_) (fun h => ?_)
    · refine r_bipush C (v := -13) (by decide) dX11_taken_102 ?_
      have hz9 := Option.some.inj h
      subst hz9
      exact r_iret C hr dX11_taken_104
    · refine r_aload_n C 0 rfl rfl dX11_taken_80 ?_
      refine gf_X11_74 C rf0 o_98 (q := 120) rfl dX11_taken_81 ?_
      refine r_iload_n C 1 rfl rfl dX11_taken_84 ?_
      refine r_iald C o_120 h dX11_taken_85 (fun h => ?_)
      refine r_iload_n C 2 rfl rfl dX11_taken_86 ?_
      refine r_bipush C (v := 10) (by decide) dX11_taken_87 ?_
      refine r_isub C dX11_taken_89 ?_
      refine r_icmp_ne C (tgt := 102) h dX11_taken_90 (by decide) (fun h => ?_) (fun h => ?_)
      · refine r_bipush C (v := -13) (by decide) dX11_taken_102 ?_
        have hz9 := Option.some.inj h
        subst hz9
        exact r_iret C hr dX11_taken_104
      · refine r_aload_n C 0 rfl rfl dX11_taken_93 ?_
        refine gf_X11_77 C rf0 o_98 (q := 121) rfl dX11_taken_94 ?_
        refine r_iload_n C 1 rfl rfl dX11_taken_97 ?_
        refine r_iald C o_121 h dX11_taken_98 (fun h => ?_)
        refine r_goto C (tgt := 104) dX11_taken_99 (by decide) ?_
        have hz9 := Option.some.inj h
        subst hz9
        exact r_iret C hr dX11_taken_104
set_option maxHeartbeats 4000000 in
set_option maxRecDepth 100000 in
theorem wB_X11_taken_55 {l : Launch} {g : GG} {ad : Nat → Nat} {p : Program} {e : Env} {s : State} {m : MethodId} {args : Array Value} {below : List Frame} {meth : Method} {c : Code} {a0 : Int32} {a1 : Int32} {z : Int32 × HI × HJ} (C : Cx p s m args meth c RX11 cX11_taken 4 g (AW ad nO)) (hr : meth.sig.returnType = (some .int))  {s0 : Int32} {I : HI} {J : HJ} (h : fB_X11_taken_55 a0 a1 s0 I J = some z) : V p l e (rmk 4 89) s m args below meth c (MQ below (QAi g ad nO oR z.1 z.2.1 z.2.2) args s 0 0 (AW ad nO)) 4 0 0 g (AW ad nO) ad nO oR I J 55 [(0, .ref (ad 98)), (1, .int a0), (2, .int a1)] [.int s0] := by
  unfold fB_X11_taken_55 at h
  refine r_istore_n C (lv1 := [(3, .int s0), (0, .ref (ad 98)), (1, .int a0), (2, .int a1)]) rfl (by decide) rfl dX11_taken_55 ?_
  refine r_iload_n C 0 rfl rfl dX11_taken_56 ?_
  refine r_if_ne C (tgt := 70) h dX11_taken_57 (by decide) (fun h => ?_) (fun h => ?_)
  · exact r_sub [1, 2, 3, 0] rfl (wB_X11_taken_70 C hr  h)
  · refine r_aload_n C 1 rfl rfl dX11_taken_60 ?_
    refine gf_X11_304 C o_98 dX11_taken_61 ?_
    refine r_if_ge C (tgt := 70) h dX11_taken_64 (by decide) (fun h => ?_) (fun h => ?_)
    · exact r_sub [1, 2, 3, 0] rfl (wB_X11_taken_70 C hr  h)
    · refine r_bipush C (v := -11) (by decide) dX11_taken_67 ?_
      have hz9 := Option.some.inj h
      subst hz9
      exact r_iret C hr dX11_taken_69
set_option maxHeartbeats 4000000 in
set_option maxRecDepth 100000 in
theorem wB_X11_taken_35 {l : Launch} {g : GG} {ad : Nat → Nat} {p : Program} {e : Env} {s : State} {m : MethodId} {args : Array Value} {below : List Frame} {meth : Method} {c : Code} {a0 : Int32} {a1 : Int32} {z : Int32 × HI × HJ} (C : Cx p s m args meth c RX11 cX11_taken 4 g (AW ad nO)) (hr : meth.sig.returnType = (some .int))  {I : HI} {J : HJ} (h : fB_X11_taken_35 a0 a1 I J = some z) : V p l e (rmk 4 89) s m args below meth c (MQ below (QAi g ad nO oR z.1 z.2.1 z.2.2) args s 0 0 (AW ad nO)) 4 0 0 g (AW ad nO) ad nO oR I J 35 [(0, .ref (ad 98)), (1, .int a0), (2, .int a1)] [] := by
  unfold fB_X11_taken_35 at h
  refine r_aload_n C 0 rfl rfl dX11_taken_35 ?_
  refine r_iload_n C 1 rfl rfl dX11_taken_36 ?_
  obtain ⟨I14, J15, hq16, h⟩ := bd2_ h
  refine r_cvv C (rest := []) (c_X11_takes  hq16) fm_X11_takes lk_X11_319 o_98 ⟨_, ct_10 o_98.1⟩ rfl rfl ⟨rfl, rfl, Nat.le_of_ble_eq_true rfl, Nat.le_of_ble_eq_true rfl⟩ (Nat.le_of_ble_eq_true rfl) rfl dX11_taken_37 ?_
  refine r_aload_n C 0 rfl rfl dX11_taken_40 ?_
  refine gf_X11_71 C rf0 o_98 (q := 119) rfl dX11_taken_41 ?_
  refine r_iload_n C 1 rfl rfl dX11_taken_44 ?_
  refine r_iald C o_119 h dX11_taken_45 (fun h => ?_)
  refine r_iconst C (v := 2) (by decide) dX11_taken_46 ?_
  refine r_icmp_ne C (tgt := 54) h dX11_taken_47 (by decide) (fun h => ?_) (fun h => ?_)
  · refine r_iconst C (v := 0) (by decide) dX11_taken_54 ?_
    exact wB_X11_taken_55 C hr  h
  · refine r_iconst C (v := 1) (by decide) dX11_taken_50 ?_
    refine r_goto C (tgt := 55) dX11_taken_51 (by decide) ?_
    exact wB_X11_taken_55 C hr  h
set_option maxHeartbeats 4000000 in
set_option maxRecDepth 100000 in
theorem w_X11_taken {l : Launch} {g : GG} {ad : Nat → Nat} {p : Program} {e : Env} {s : State} {m : MethodId} {args : Array Value} {below : List Frame} {meth : Method} {c : Code} {a0 : Int32} {a1 : Int32} {z : Int32 × HI × HJ} (C : Cx p s m args meth c RX11 cX11_taken 4 g (AW ad nO)) (hr : meth.sig.returnType = (some .int)) {I : HI} {J : HJ} (h : f_X11_taken a0 a1 I J = some z) : V p l e (rmk 4 89) s m args below meth c (MQ below (QAi g ad nO oR z.1 z.2.1 z.2.2) args s 0 0 (AW ad nO)) 4 0 0 g (AW ad nO) ad nO oR I J 0 [(0, .ref (ad 98)), (1, .int a0), (2, .int a1)] [] := by
  unfold f_X11_taken at h
  refine r_iload_n C 1 rfl rfl dX11_taken_0 ?_
  obtain ⟨r17, hq18, h⟩ := bd1_ h
  refine r_csi C (rest := []) (c_X11_isOne  hq18) fm_X11_isOne lk_X11_286 rfl ⟨rfl, rfl, Nat.le_of_ble_eq_true rfl, Nat.le_of_ble_eq_true rfl⟩ (Nat.le_of_ble_eq_true rfl) rfl dX11_taken_1 ?_
  refine r_if_eq C (tgt := 33) h dX11_taken_4 (by decide) (fun h => ?_) (fun h => ?_)
  · refine r_iconst C (v := -1) (by decide) dX11_taken_33 ?_
    have hz9 := Option.some.inj h
    subst hz9
    exact r_iret C hr dX11_taken_34
  · refine r_iload_n C 2 rfl rfl dX11_taken_7 ?_
    refine r_i2l C dX11_taken_8 ?_
    refine r_lconst C (v := 0) (by decide) dX11_taken_9 ?_
    refine r_ldc2 C (v := 7) lk_X11_133 dX11_taken_10 ?_
    obtain ⟨r19, hq20, h⟩ := bd1_ h
    refine r_csi C (rest := []) (c_X11_in  hq20) fm_X11_in lk_X11_114 rfl ⟨rfl, rfl, Nat.le_of_ble_eq_true rfl, Nat.le_of_ble_eq_true rfl⟩ (Nat.le_of_ble_eq_true rfl) rfl dX11_taken_13 ?_
    refine r_if_ne C (tgt := 35) h dX11_taken_16 (by decide) (fun h => ?_) (fun h => ?_)
    · exact wB_X11_taken_35 C hr  h
    · refine r_iload_n C 2 rfl rfl dX11_taken_19 ?_
      refine r_i2l C dX11_taken_20 ?_
      refine r_ldc2 C (v := 10) lk_X11_315 dX11_taken_21 ?_
      refine r_ldc2 C (v := 14) lk_X11_317 dX11_taken_24 ?_
      obtain ⟨r21, hq22, h⟩ := bd1_ h
      refine r_csi C (rest := []) (c_X11_in  hq22) fm_X11_in lk_X11_114 rfl ⟨rfl, rfl, Nat.le_of_ble_eq_true rfl, Nat.le_of_ble_eq_true rfl⟩ (Nat.le_of_ble_eq_true rfl) rfl dX11_taken_27 ?_
      refine r_if_ne C (tgt := 35) h dX11_taken_30 (by decide) (fun h => ?_) (fun h => ?_)
      · exact wB_X11_taken_35 C hr  h
      · refine r_iconst C (v := -1) (by decide) dX11_taken_33 ?_
        have hz9 := Option.some.inj h
        subst hz9
        exact r_iret C hr dX11_taken_34
set_option maxHeartbeats 4000000 in
set_option maxRecDepth 100000 in
theorem c_X11_taken {l : Launch} {g : GG} {ad : Nat → Nat} {a0 : Int32} {a1 : Int32} {I : HI} {J : HJ} {r : Int32} {I1 : HI} {J1 : HJ} (h : f_X11_taken a0 a1 I J = some (r, I1, J1)) : CM l yX11_taken cX11_taken 4 (some .int) (rmk 4 89) g ad nO oR [.ref (ad 98), .int a0, .int a1] I J (QAi g ad nO oR r I1 J1) :=
  CM_of (by decide +kernel) (Nat.le_of_ble_eq_true rfl) (fun p e s m args below meth c C hr => w_X11_taken C hr h)
set_option maxHeartbeats 4000000 in
set_option maxRecDepth 100000 in
theorem w_X11_ran {l : Launch} {g : GG} {ad : Nat → Nat} {p : Program} {e : Env} {s : State} {m : MethodId} {args : Array Value} {below : List Frame} {meth : Method} {c : Code} {a0 : Int32} {z : HI} (C : Cx p s m args meth c RX11 cX11_ran 2 g (AW ad nO)) (hr : meth.sig.returnType = none) {I : HI} {J : HJ} (h : f_X11_ran a0 I J = some z) : V p l e (rmk 0 0) s m args below meth c (MQ below (QAv g ad nO oR z J) args s 0 0 (AW ad nO)) 2 0 0 g (AW ad nO) ad nO oR I J 0 [(0, .ref (ad 98)), (1, .int a0)] [] := by
  unfold f_X11_ran at h
  refine r_aload_n C 0 rfl rfl dX11_ran_0 ?_
  refine gf_X11_325 C o_98 dX11_ran_1 ?_
  refine r_bipush C (v := 30) (by decide) dX11_ran_4 ?_
  refine r_icmp_ge C (tgt := 29) h dX11_ran_6 (by decide) (fun h => ?_) (fun h => ?_)
  · have hz9 := Option.some.inj h
    subst hz9
    exact r_vret C hr dX11_ran_29
  · refine r_aload_n C 0 rfl rfl dX11_ran_9 ?_
    refine gf_X11_80 C rf0 o_98 (q := 122) rfl dX11_ran_10 ?_
    refine r_aload_n C 0 rfl rfl dX11_ran_13 ?_
    refine gf_X11_325 C o_98 dX11_ran_14 ?_
    refine r_iload_n C 1 rfl rfl dX11_ran_17 ?_
    refine r_pc (pc1 := 18) rfl ?_
    refine r_iast C o_122 h dX11_ran_18 (fun h => ?_)
    refine r_nmI h (fun I3 h => ?_)
    refine r_aload_n C 0 rfl rfl dX11_ran_19 ?_
    refine r_dup C rfl dX11_ran_20 ?_
    refine gf_X11_325 C o_98 dX11_ran_21 ?_
    refine r_iconst C (v := 1) (by decide) dX11_ran_24 ?_
    refine r_iadd C dX11_ran_25 ?_
    refine r_pc (pc1 := 26) rfl ?_
    refine pf_X11_325 C o_98 dX11_ran_26 ?_
    refine r_nmI h (fun I4 h => ?_)
    have hz9 := Option.some.inj h
    subst hz9
    exact r_vret C hr dX11_ran_29
set_option maxHeartbeats 4000000 in
set_option maxRecDepth 100000 in
theorem c_X11_ran {l : Launch} {g : GG} {ad : Nat → Nat} {a0 : Int32} {I : HI} {J : HJ} {I1 : HI} (h : f_X11_ran a0 I J = some I1) : CM l yX11_ran cX11_ran 2 none (rmk 0 0) g ad nO oR [.ref (ad 98), .int a0] I J (QAv g ad nO oR I1 J) :=
  CM_of (by decide +kernel) (Nat.le_of_ble_eq_true rfl) (fun p e s m args below meth c C hr => w_X11_ran C hr h)
set_option maxHeartbeats 4000000 in
set_option maxRecDepth 100000 in
theorem w_X11_anyGrows {l : Launch} {g : GG} {ad : Nat → Nat} {p : Program} {e : Env} {s : State} {m : MethodId} {args : Array Value} {below : List Frame} {meth : Method} {c : Code} {a0 : Int32} {z : Int32 × HI} (C : Cx p s m args meth c RX11 cX11_anyGrows 2 g (AW ad nO)) (hr : meth.sig.returnType = (some .int)) {I : HI} {J : HJ} (h : f_X11_anyGrows a0 I J = some z) : V p l e (rmk 1 21) s m args below meth c (MQ below (QAi g ad nO oR z.1 z.2 J) args s 0 0 (AW ad nO)) 2 0 0 g (AW ad nO) ad nO oR I J 0 [(0, .ref (ad 98)), (1, .int a0)] [] := by
  unfold f_X11_anyGrows at h
  refine r_aload_n C 0 rfl rfl dX11_anyGrows_0 ?_
  refine r_bipush C (v := 10) (by decide) dX11_anyGrows_1 ?_
  obtain ⟨I3, hq4, h⟩ := bd1_ h
  refine r_cvv C (rest := []) (c_X11_ran  hq4) fm_X11_ran lk_X11_328 o_98 ⟨_, ct_10 o_98.1⟩ rfl rfl ⟨rfl, rfl, Nat.le_of_ble_eq_true rfl, Nat.le_of_ble_eq_true rfl⟩ (Nat.le_of_ble_eq_true rfl) rfl dX11_anyGrows_3 ?_
  refine r_iload_n C 1 rfl rfl dX11_anyGrows_6 ?_
  refine r_aload_n C 0 rfl rfl dX11_anyGrows_7 ?_
  refine gf_X11_309 C o_98 dX11_anyGrows_8 ?_
  refine r_iadd C dX11_anyGrows_11 ?_
  have hz9 := Option.some.inj h
  subst hz9
  exact r_iret C hr dX11_anyGrows_12
set_option maxHeartbeats 4000000 in
set_option maxRecDepth 100000 in
theorem c_X11_anyGrows {l : Launch} {g : GG} {ad : Nat → Nat} {a0 : Int32} {I : HI} {J : HJ} {r : Int32} {I1 : HI} (h : f_X11_anyGrows a0 I J = some (r, I1)) : CM l yX11_anyGrows cX11_anyGrows 2 (some .int) (rmk 1 21) g ad nO oR [.ref (ad 98), .int a0] I J (QAi g ad nO oR r I1 J) :=
  CM_of (by decide +kernel) (Nat.le_of_ble_eq_true rfl) (fun p e s m args below meth c C hr => w_X11_anyGrows C hr h)
set_option maxHeartbeats 4000000 in
set_option maxRecDepth 100000 in
theorem w_X11_twosGrows {l : Launch} {g : GG} {ad : Nat → Nat} {p : Program} {e : Env} {s : State} {m : MethodId} {args : Array Value} {below : List Frame} {meth : Method} {c : Code} {a0 : Int32} {z : Int32 × HI} (C : Cx p s m args meth c RX11 cX11_twosGrows 2 g (AW ad nO)) (hr : meth.sig.returnType = (some .int)) {I : HI} {J : HJ} (h : f_X11_twosGrows a0 I J = some z) : V p l e (rmk 2 42) s m args below meth c (MQ below (QAi g ad nO oR z.1 z.2 J) args s 0 0 (AW ad nO)) 2 0 0 g (AW ad nO) ad nO oR I J 0 [(0, .ref (ad 98)), (1, .int a0)] [] := by
  unfold f_X11_twosGrows at h
  refine r_aload_n C 0 rfl rfl dX11_twosGrows_0 ?_
  refine r_bipush C (v := 30) (by decide) dX11_twosGrows_1 ?_
  obtain ⟨I6, hq7, h⟩ := bd1_ h
  refine r_cvv C (rest := []) (c_X11_ran  hq7) fm_X11_ran lk_X11_328 o_98 ⟨_, ct_10 o_98.1⟩ rfl rfl ⟨rfl, rfl, Nat.le_of_ble_eq_true rfl, Nat.le_of_ble_eq_true rfl⟩ (Nat.le_of_ble_eq_true rfl) rfl dX11_twosGrows_3 ?_
  refine r_aload_n C 0 rfl rfl dX11_twosGrows_6 ?_
  refine r_iload_n C 1 rfl rfl dX11_twosGrows_7 ?_
  obtain ⟨r8, I9, hq10, h⟩ := bd2_ h
  refine r_cvi C (rest := []) (c_X11_anyGrows  hq10) fm_X11_anyGrows lk_X11_331 o_98 ⟨_, ct_10 o_98.1⟩ rfl rfl ⟨rfl, rfl, Nat.le_of_ble_eq_true rfl, Nat.le_of_ble_eq_true rfl⟩ (Nat.le_of_ble_eq_true rfl) rfl dX11_twosGrows_8 ?_
  refine r_iconst C (v := 5) (by decide) dX11_twosGrows_11 ?_
  refine r_imul C dX11_twosGrows_12 ?_
  have hz9 := Option.some.inj h
  subst hz9
  exact r_iret C hr dX11_twosGrows_13
set_option maxHeartbeats 4000000 in
set_option maxRecDepth 100000 in
theorem c_X11_twosGrows {l : Launch} {g : GG} {ad : Nat → Nat} {a0 : Int32} {I : HI} {J : HJ} {r : Int32} {I1 : HI} (h : f_X11_twosGrows a0 I J = some (r, I1)) : CM l yX11_twosGrows cX11_twosGrows 2 (some .int) (rmk 2 42) g ad nO oR [.ref (ad 98), .int a0] I J (QAi g ad nO oR r I1 J) :=
  CM_of (by decide +kernel) (Nat.le_of_ble_eq_true rfl) (fun p e s m args below meth c C hr => w_X11_twosGrows C hr h)
set_option maxHeartbeats 4000000 in
set_option maxRecDepth 100000 in
theorem w_X11_grows {l : Launch} {g : GG} {ad : Nat → Nat} {p : Program} {e : Env} {s : State} {m : MethodId} {args : Array Value} {below : List Frame} {meth : Method} {c : Code} {a0 : Int32} {z : Int32 × HI} (C : Cx p s m args meth c RX11 cX11_grows 2 g (AW ad nO)) (hr : meth.sig.returnType = (some .int)) {I : HI} {J : HJ} (h : f_X11_grows a0 I J = some z) : V p l e (rmk 3 63) s m args below meth c (MQ below (QAi g ad nO oR z.1 z.2 J) args s 0 0 (AW ad nO)) 2 0 0 g (AW ad nO) ad nO oR I J 0 [(0, .ref (ad 98)), (1, .int a0)] [] := by
  unfold f_X11_grows at h
  refine r_aload_n C 0 rfl rfl dX11_grows_0 ?_
  refine gf_X11_304 C o_98 dX11_grows_1 ?_
  refine r_nmi h (fun v24 h => ?_)
  refine r_case h (fun hc25 h => ?_) (fun hc25 h => ?_)
  · refine r_tabIn C (tgt := 44) 2 hc25 dX11_grows_4 (by decide) (by decide) rfl (by decide) ?_
    refine r_aload_n C 0 rfl rfl dX11_grows_44 ?_
    refine r_iload_n C 1 rfl rfl dX11_grows_45 ?_
    obtain ⟨r26, I27, hq28, h⟩ := bd2_ h
    refine r_cvi C (rest := []) (c_X11_twosGrows  hq28) fm_X11_twosGrows lk_X11_334 o_98 ⟨_, ct_10 o_98.1⟩ rfl rfl ⟨rfl, rfl, Nat.le_of_ble_eq_true rfl, Nat.le_of_ble_eq_true rfl⟩ (Nat.le_of_ble_eq_true rfl) rfl dX11_grows_46 ?_
    have hz9 := Option.some.inj h
    subst hz9
    exact r_iret C hr dX11_grows_49
  refine r_case h (fun hc29 h => ?_) (fun hc29 h => ?_)
  · refine r_tabIn C (tgt := 50) 3 hc29 dX11_grows_4 (by decide) (by decide) rfl (by decide) ?_
    refine r_aload_n C 0 rfl rfl dX11_grows_50 ?_
    refine r_bipush C (v := 40) (by decide) dX11_grows_51 ?_
    obtain ⟨I30, hq31, h⟩ := bd1_ h
    refine r_cvv C (rest := []) (c_X11_ran  hq31) fm_X11_ran lk_X11_328 o_98 ⟨_, ct_10 o_98.1⟩ rfl rfl ⟨rfl, rfl, Nat.le_of_ble_eq_true rfl, Nat.le_of_ble_eq_true rfl⟩ (Nat.le_of_ble_eq_true rfl) rfl dX11_grows_53 ?_
    refine r_aload_n C 0 rfl rfl dX11_grows_56 ?_
    refine r_iload_n C 1 rfl rfl dX11_grows_57 ?_
    obtain ⟨r32, I33, hq34, h⟩ := bd2_ h
    refine r_cvi C (rest := []) (c_X11_twosGrows  hq34) fm_X11_twosGrows lk_X11_334 o_98 ⟨_, ct_10 o_98.1⟩ rfl rfl ⟨rfl, rfl, Nat.le_of_ble_eq_true rfl, Nat.le_of_ble_eq_true rfl⟩ (Nat.le_of_ble_eq_true rfl) rfl dX11_grows_58 ?_
    refine r_aload_n C 0 rfl rfl dX11_grows_61 ?_
    refine gf_X11_309 C o_98 dX11_grows_62 ?_
    refine r_ixor C dX11_grows_65 ?_
    have hz9 := Option.some.inj h
    subst hz9
    exact r_iret C hr dX11_grows_66
  refine r_case h (fun hc35 h => ?_) (fun hc35 h => ?_)
  · refine r_tabIn C (tgt := 67) 6 hc35 dX11_grows_4 (by decide) (by decide) rfl (by decide) ?_
    refine r_aload_n C 0 rfl rfl dX11_grows_67 ?_
    refine r_bipush C (v := 70) (by decide) dX11_grows_68 ?_
    obtain ⟨I36, hq37, h⟩ := bd1_ h
    refine r_cvv C (rest := []) (c_X11_ran  hq37) fm_X11_ran lk_X11_328 o_98 ⟨_, ct_10 o_98.1⟩ rfl rfl ⟨rfl, rfl, Nat.le_of_ble_eq_true rfl, Nat.le_of_ble_eq_true rfl⟩ (Nat.le_of_ble_eq_true rfl) rfl dX11_grows_70 ?_
    refine r_aload_n C 0 rfl rfl dX11_grows_73 ?_
    refine r_iload_n C 1 rfl rfl dX11_grows_74 ?_
    obtain ⟨r38, I39, hq40, h⟩ := bd2_ h
    refine r_cvi C (rest := []) (c_X11_anyGrows  hq40) fm_X11_anyGrows lk_X11_331 o_98 ⟨_, ct_10 o_98.1⟩ rfl rfl ⟨rfl, rfl, Nat.le_of_ble_eq_true rfl, Nat.le_of_ble_eq_true rfl⟩ (Nat.le_of_ble_eq_true rfl) rfl dX11_grows_75 ?_
    refine r_bipush C (v := 6) (by decide) dX11_grows_78 ?_
    refine r_isub C dX11_grows_80 ?_
    have hz9 := Option.some.inj h
    subst hz9
    exact r_iret C hr dX11_grows_81
  refine r_case h (fun hc41 h => ?_) (fun hc41 h => ?_)
  · refine r_tabIn C (tgt := 82) 7 hc41 dX11_grows_4 (by decide) (by decide) rfl (by decide) ?_
    refine r_aload_n C 0 rfl rfl dX11_grows_82 ?_
    refine r_bipush C (v := 80) (by decide) dX11_grows_83 ?_
    obtain ⟨I42, hq43, h⟩ := bd1_ h
    refine r_cvv C (rest := []) (c_X11_ran  hq43) fm_X11_ran lk_X11_328 o_98 ⟨_, ct_10 o_98.1⟩ rfl rfl ⟨rfl, rfl, Nat.le_of_ble_eq_true rfl, Nat.le_of_ble_eq_true rfl⟩ (Nat.le_of_ble_eq_true rfl) rfl dX11_grows_85 ?_
    refine r_aload_n C 0 rfl rfl dX11_grows_88 ?_
    refine gf_X11_309 C o_98 dX11_grows_89 ?_
    refine r_iload_n C 1 rfl rfl dX11_grows_92 ?_
    refine r_isub C dX11_grows_93 ?_
    have hz9 := Option.some.inj h
    subst hz9
    exact r_iret C hr dX11_grows_94
  refine r_tabD C (tgt := 95) [2, 3, 6, 7] (r_nc hc25 rfl (r_nc hc29 rfl (r_nc hc35 rfl (r_nc hc41 rfl r_nc0)))) dX11_grows_4 rfl (by decide) (by decide) ?_
  refine r_aload_n C 0 rfl rfl dX11_grows_95 ?_
  refine r_iload_n C 1 rfl rfl dX11_grows_96 ?_
  obtain ⟨r44, I45, hq46, h⟩ := bd2_ h
  refine r_cvi C (rest := []) (c_X11_anyGrows  hq46) fm_X11_anyGrows lk_X11_331 o_98 ⟨_, ct_10 o_98.1⟩ rfl rfl ⟨rfl, rfl, Nat.le_of_ble_eq_true rfl, Nat.le_of_ble_eq_true rfl⟩ (Nat.le_of_ble_eq_true rfl) rfl dX11_grows_97 ?_
  have hz9 := Option.some.inj h
  subst hz9
  exact r_iret C hr dX11_grows_100
set_option maxHeartbeats 4000000 in
set_option maxRecDepth 100000 in
theorem c_X11_grows {l : Launch} {g : GG} {ad : Nat → Nat} {a0 : Int32} {I : HI} {J : HJ} {r : Int32} {I1 : HI} (h : f_X11_grows a0 I J = some (r, I1)) : CM l yX11_grows cX11_grows 2 (some .int) (rmk 3 63) g ad nO oR [.ref (ad 98), .int a0] I J (QAi g ad nO oR r I1 J) :=
  CM_of (by decide +kernel) (Nat.le_of_ble_eq_true rfl) (fun p e s m args below meth c C hr => w_X11_grows C hr h)
set_option maxHeartbeats 4000000 in
set_option maxRecDepth 100000 in
theorem w_X11_anySwings {l : Launch} {g : GG} {ad : Nat → Nat} {p : Program} {e : Env} {s : State} {m : MethodId} {args : Array Value} {below : List Frame} {meth : Method} {c : Code} {a0 : Int32} {z : Int32 × HI} (C : Cx p s m args meth c RX11 cX11_anySwings 2 g (AW ad nO)) (hr : meth.sig.returnType = (some .int)) {I : HI} {J : HJ} (h : f_X11_anySwings a0 I J = some z) : V p l e (rmk 4 84) s m args below meth c (MQ below (QAi g ad nO oR z.1 z.2 J) args s 0 0 (AW ad nO)) 2 0 0 g (AW ad nO) ad nO oR I J 0 [(0, .ref (ad 98)), (1, .int a0)] [] := by
  unfold f_X11_anySwings at h
  refine r_aload_n C 0 rfl rfl dX11_anySwings_0 ?_
  refine r_bipush C (v := 11) (by decide) dX11_anySwings_1 ?_
  obtain ⟨I6, hq7, h⟩ := bd1_ h
  refine r_cvv C (rest := []) (c_X11_ran  hq7) fm_X11_ran lk_X11_328 o_98 ⟨_, ct_10 o_98.1⟩ rfl rfl ⟨rfl, rfl, Nat.le_of_ble_eq_true rfl, Nat.le_of_ble_eq_true rfl⟩ (Nat.le_of_ble_eq_true rfl) rfl dX11_anySwings_3 ?_
  refine r_aload_n C 0 rfl rfl dX11_anySwings_6 ?_
  refine r_iload_n C 1 rfl rfl dX11_anySwings_7 ?_
  obtain ⟨r8, I9, hq10, h⟩ := bd2_ h
  refine r_cvi C (rest := []) (c_X11_grows  hq10) fm_X11_grows lk_X11_337 o_98 ⟨_, ct_10 o_98.1⟩ rfl rfl ⟨rfl, rfl, Nat.le_of_ble_eq_true rfl, Nat.le_of_ble_eq_true rfl⟩ (Nat.le_of_ble_eq_true rfl) rfl dX11_anySwings_8 ?_
  refine r_iconst C (v := 2) (by decide) dX11_anySwings_11 ?_
  refine r_imul C dX11_anySwings_12 ?_
  have hz9 := Option.some.inj h
  subst hz9
  exact r_iret C hr dX11_anySwings_13
set_option maxHeartbeats 4000000 in
set_option maxRecDepth 100000 in
theorem c_X11_anySwings {l : Launch} {g : GG} {ad : Nat → Nat} {a0 : Int32} {I : HI} {J : HJ} {r : Int32} {I1 : HI} (h : f_X11_anySwings a0 I J = some (r, I1)) : CM l yX11_anySwings cX11_anySwings 2 (some .int) (rmk 4 84) g ad nO oR [.ref (ad 98), .int a0] I J (QAi g ad nO oR r I1 J) :=
  CM_of (by decide +kernel) (Nat.le_of_ble_eq_true rfl) (fun p e s m args below meth c C hr => w_X11_anySwings C hr h)
set_option maxHeartbeats 4000000 in
set_option maxRecDepth 100000 in
theorem w_X11_swings {l : Launch} {g : GG} {ad : Nat → Nat} {p : Program} {e : Env} {s : State} {m : MethodId} {args : Array Value} {below : List Frame} {meth : Method} {c : Code} {a0 : Int32} {z : Int32 × HI} (C : Cx p s m args meth c RX11 cX11_swings 2 g (AW ad nO)) (hr : meth.sig.returnType = (some .int)) {I : HI} {J : HJ} (h : f_X11_swings a0 I J = some z) : V p l e (rmk 5 105) s m args below meth c (MQ below (QAi g ad nO oR z.1 z.2 J) args s 0 0 (AW ad nO)) 2 0 0 g (AW ad nO) ad nO oR I J 0 [(0, .ref (ad 98)), (1, .int a0)] [] := by
  unfold f_X11_swings at h
  refine r_aload_n C 0 rfl rfl dX11_swings_0 ?_
  refine gf_X11_304 C o_98 dX11_swings_1 ?_
  refine r_nmi h (fun v23 h => ?_)
  refine r_case h (fun hc24 h => ?_) (fun hc24 h => ?_)
  · refine r_look C (tgt := 40) (off := 36) dX11_swings_4 rfl (by rw [hc24]; try rfl) (by decide) ?_
    refine r_aload_n C 0 rfl rfl dX11_swings_40 ?_
    refine r_bipush C (v := 20) (by decide) dX11_swings_41 ?_
    obtain ⟨I25, hq26, h⟩ := bd1_ h
    refine r_cvv C (rest := []) (c_X11_ran  hq26) fm_X11_ran lk_X11_328 o_98 ⟨_, ct_10 o_98.1⟩ rfl rfl ⟨rfl, rfl, Nat.le_of_ble_eq_true rfl, Nat.le_of_ble_eq_true rfl⟩ (Nat.le_of_ble_eq_true rfl) rfl dX11_swings_43 ?_
    refine r_aload_n C 0 rfl rfl dX11_swings_46 ?_
    refine r_iload_n C 1 rfl rfl dX11_swings_47 ?_
    obtain ⟨r27, I28, hq29, h⟩ := bd2_ h
    refine r_cvi C (rest := []) (c_X11_anySwings  hq29) fm_X11_anySwings lk_X11_340 o_98 ⟨_, ct_10 o_98.1⟩ rfl rfl ⟨rfl, rfl, Nat.le_of_ble_eq_true rfl, Nat.le_of_ble_eq_true rfl⟩ (Nat.le_of_ble_eq_true rfl) rfl dX11_swings_48 ?_
    refine r_iconst C (v := 3) (by decide) dX11_swings_51 ?_
    refine r_isub C dX11_swings_52 ?_
    have hz9 := Option.some.inj h
    subst hz9
    exact r_iret C hr dX11_swings_53
  refine r_case h (fun hc30 h => ?_) (fun hc30 h => ?_)
  · refine r_look C (tgt := 54) (off := 50) dX11_swings_4 rfl (by rw [hc30]; try rfl) (by decide) ?_
    refine r_aload_n C 0 rfl rfl dX11_swings_54 ?_
    refine r_bipush C (v := 50) (by decide) dX11_swings_55 ?_
    obtain ⟨I31, hq32, h⟩ := bd1_ h
    refine r_cvv C (rest := []) (c_X11_ran  hq32) fm_X11_ran lk_X11_328 o_98 ⟨_, ct_10 o_98.1⟩ rfl rfl ⟨rfl, rfl, Nat.le_of_ble_eq_true rfl, Nat.le_of_ble_eq_true rfl⟩ (Nat.le_of_ble_eq_true rfl) rfl dX11_swings_57 ?_
    refine r_iconst C (v := 0) (by decide) dX11_swings_60 ?_
    refine r_aload_n C 0 rfl rfl dX11_swings_61 ?_
    refine r_iload_n C 1 rfl rfl dX11_swings_62 ?_
    obtain ⟨r33, I34, hq35, h⟩ := bd2_ h
    refine r_cvi C (rest := [.int (0 : Int32)]) (c_X11_anySwings  hq35) fm_X11_anySwings lk_X11_340 o_98 ⟨_, ct_10 o_98.1⟩ rfl rfl ⟨rfl, rfl, Nat.le_of_ble_eq_true rfl, Nat.le_of_ble_eq_true rfl⟩ (Nat.le_of_ble_eq_true rfl) rfl dX11_swings_63 ?_
    refine r_isub C dX11_swings_66 ?_
    have hz9 := Option.some.inj h
    subst hz9
    exact r_iret C hr dX11_swings_67
  refine r_case h (fun hc36 h => ?_) (fun hc36 h => ?_)
  · refine r_look C (tgt := 68) (off := 64) dX11_swings_4 rfl (by rw [hc36]; try rfl) (by decide) ?_
    refine r_aload_n C 0 rfl rfl dX11_swings_68 ?_
    refine r_bipush C (v := 81) (by decide) dX11_swings_69 ?_
    obtain ⟨I37, hq38, h⟩ := bd1_ h
    refine r_cvv C (rest := []) (c_X11_ran  hq38) fm_X11_ran lk_X11_328 o_98 ⟨_, ct_10 o_98.1⟩ rfl rfl ⟨rfl, rfl, Nat.le_of_ble_eq_true rfl, Nat.le_of_ble_eq_true rfl⟩ (Nat.le_of_ble_eq_true rfl) rfl dX11_swings_71 ?_
    refine r_aload_n C 0 rfl rfl dX11_swings_74 ?_
    refine r_iload_n C 1 rfl rfl dX11_swings_75 ?_
    obtain ⟨r39, I40, hq41, h⟩ := bd2_ h
    refine r_cvi C (rest := []) (c_X11_grows  hq41) fm_X11_grows lk_X11_337 o_98 ⟨_, ct_10 o_98.1⟩ rfl rfl ⟨rfl, rfl, Nat.le_of_ble_eq_true rfl, Nat.le_of_ble_eq_true rfl⟩ (Nat.le_of_ble_eq_true rfl) rfl dX11_swings_76 ?_
    refine r_aload_n C 0 rfl rfl dX11_swings_79 ?_
    refine gf_X11_307 C o_98 dX11_swings_80 ?_
    refine r_imul C dX11_swings_83 ?_
    have hz9 := Option.some.inj h
    subst hz9
    exact r_iret C hr dX11_swings_84
  refine r_look C (tgt := 85) (off := 81) dX11_swings_4 rfl ((lv_osw hc24 rfl).trans ((lv_osw hc30 rfl).trans ((lv_osw hc36 rfl).trans rfl))) (by decide) ?_
  refine r_aload_n C 0 rfl rfl dX11_swings_85 ?_
  refine r_iload_n C 1 rfl rfl dX11_swings_86 ?_
  obtain ⟨r42, I43, hq44, h⟩ := bd2_ h
  refine r_cvi C (rest := []) (c_X11_anySwings  hq44) fm_X11_anySwings lk_X11_340 o_98 ⟨_, ct_10 o_98.1⟩ rfl rfl ⟨rfl, rfl, Nat.le_of_ble_eq_true rfl, Nat.le_of_ble_eq_true rfl⟩ (Nat.le_of_ble_eq_true rfl) rfl dX11_swings_87 ?_
  have hz9 := Option.some.inj h
  subst hz9
  exact r_iret C hr dX11_swings_90
set_option maxHeartbeats 4000000 in
set_option maxRecDepth 100000 in
theorem c_X11_swings {l : Launch} {g : GG} {ad : Nat → Nat} {a0 : Int32} {I : HI} {J : HJ} {r : Int32} {I1 : HI} (h : f_X11_swings a0 I J = some (r, I1)) : CM l yX11_swings cX11_swings 2 (some .int) (rmk 5 105) g ad nO oR [.ref (ad 98), .int a0] I J (QAi g ad nO oR r I1 J) :=
  CM_of (by decide +kernel) (Nat.le_of_ble_eq_true rfl) (fun p e s m args below meth c C hr => w_X11_swings C hr h)
set_option maxHeartbeats 4000000 in
set_option maxRecDepth 100000 in
theorem wB_X11_anyParts_23 {l : Launch} {g : GG} {ad : Nat → Nat} {p : Program} {e : Env} {s : State} {m : MethodId} {args : Array Value} {below : List Frame} {meth : Method} {c : Code} {a0 : Int32} {z : Int32 × HI} (C : Cx p s m args meth c RX11 cX11_anyParts 2 g (AW ad nO)) (hr : meth.sig.returnType = (some .int)) {J : HJ}  {s0 : Int32} {I : HI} (h : fB_X11_anyParts_23 a0 s0 I J = some z) : V p l e (rmk 1 21) s m args below meth c (MQ below (QAi g ad nO oR z.1 z.2 J) args s 0 0 (AW ad nO)) 2 0 0 g (AW ad nO) ad nO oR I J 23 [(0, .ref (ad 98)), (1, .int a0)] [.int s0, .ref (ad 98)] := by
  unfold fB_X11_anyParts_23 at h
  obtain ⟨hz, h⟩ := ck h
  refine pf_X11_343 C hz o_98 dX11_anyParts_23 ?_
  refine r_nmI h (fun I4 h => ?_)
  refine r_aload_n C 0 rfl rfl dX11_anyParts_26 ?_
  refine gf_X11_343 C o_98 dX11_anyParts_27 ?_
  refine r_if_eq C (tgt := 37) h dX11_anyParts_30 (by decide) (fun h => ?_) (fun h => ?_)
  · refine r_iload_n C 1 rfl rfl dX11_anyParts_37 ?_
    refine r_aload_n C 0 rfl rfl dX11_anyParts_38 ?_
    refine gf_X11_309 C o_98 dX11_anyParts_39 ?_
    refine r_aload_n C 0 rfl rfl dX11_anyParts_42 ?_
    refine gf_X11_307 C o_98 dX11_anyParts_43 ?_
    refine r_pc (pc1 := 46) rfl ?_
    refine r_isub C dX11_anyParts_46 ?_
    refine r_idiv C h dX11_anyParts_47 (fun h => ?_)
    have hz9 := Option.some.inj h
    subst hz9
    exact r_iret C hr dX11_anyParts_48
  · refine r_iconst C (v := 0) (by decide) dX11_anyParts_33 ?_
    refine r_goto C (tgt := 48) dX11_anyParts_34 (by decide) ?_
    have hz9 := Option.some.inj h
    subst hz9
    exact r_iret C hr dX11_anyParts_48
set_option maxHeartbeats 4000000 in
set_option maxRecDepth 100000 in
theorem w_X11_anyParts {l : Launch} {g : GG} {ad : Nat → Nat} {p : Program} {e : Env} {s : State} {m : MethodId} {args : Array Value} {below : List Frame} {meth : Method} {c : Code} {a0 : Int32} {z : Int32 × HI} (C : Cx p s m args meth c RX11 cX11_anyParts 2 g (AW ad nO)) (hr : meth.sig.returnType = (some .int)) {I : HI} {J : HJ} (h : f_X11_anyParts a0 I J = some z) : V p l e (rmk 1 21) s m args below meth c (MQ below (QAi g ad nO oR z.1 z.2 J) args s 0 0 (AW ad nO)) 2 0 0 g (AW ad nO) ad nO oR I J 0 [(0, .ref (ad 98)), (1, .int a0)] [] := by
  unfold f_X11_anyParts at h
  refine r_aload_n C 0 rfl rfl dX11_anyParts_0 ?_
  refine r_bipush C (v := 12) (by decide) dX11_anyParts_1 ?_
  obtain ⟨I5, hq6, h⟩ := bd1_ h
  refine r_cvv C (rest := []) (c_X11_ran  hq6) fm_X11_ran lk_X11_328 o_98 ⟨_, ct_10 o_98.1⟩ rfl rfl ⟨rfl, rfl, Nat.le_of_ble_eq_true rfl, Nat.le_of_ble_eq_true rfl⟩ (Nat.le_of_ble_eq_true rfl) rfl dX11_anyParts_3 ?_
  refine r_aload_n C 0 rfl rfl dX11_anyParts_6 ?_
  refine r_aload_n C 0 rfl rfl dX11_anyParts_7 ?_
  refine gf_X11_309 C o_98 dX11_anyParts_8 ?_
  refine r_aload_n C 0 rfl rfl dX11_anyParts_11 ?_
  refine gf_X11_307 C o_98 dX11_anyParts_12 ?_
  refine r_pc (pc1 := 15) rfl ?_
  refine r_icmp_ne C (tgt := 22) h dX11_anyParts_15 (by decide) (fun h => ?_) (fun h => ?_)
  · refine r_iconst C (v := 0) (by decide) dX11_anyParts_22 ?_
    exact wB_X11_anyParts_23 C hr  h
  · refine r_iconst C (v := 1) (by decide) dX11_anyParts_18 ?_
    refine r_goto C (tgt := 23) dX11_anyParts_19 (by decide) ?_
    exact wB_X11_anyParts_23 C hr  h
set_option maxHeartbeats 4000000 in
set_option maxRecDepth 100000 in
theorem c_X11_anyParts {l : Launch} {g : GG} {ad : Nat → Nat} {a0 : Int32} {I : HI} {J : HJ} {r : Int32} {I1 : HI} (h : f_X11_anyParts a0 I J = some (r, I1)) : CM l yX11_anyParts cX11_anyParts 2 (some .int) (rmk 1 21) g ad nO oR [.ref (ad 98), .int a0] I J (QAi g ad nO oR r I1 J) :=
  CM_of (by decide +kernel) (Nat.le_of_ble_eq_true rfl) (fun p e s m args below meth c C hr => w_X11_anyParts C hr h)
set_option maxHeartbeats 4000000 in
set_option maxRecDepth 100000 in
theorem w_X11_mudParts {l : Launch} {g : GG} {ad : Nat → Nat} {p : Program} {e : Env} {s : State} {m : MethodId} {args : Array Value} {below : List Frame} {meth : Method} {c : Code} {a0 : Int32} {z : Int32 × HI} (C : Cx p s m args meth c RX11 cX11_mudParts 2 g (AW ad nO)) (hr : meth.sig.returnType = (some .int)) {I : HI} {J : HJ} (h : f_X11_mudParts a0 I J = some z) : V p l e (rmk 2 42) s m args below meth c (MQ below (QAi g ad nO oR z.1 z.2 J) args s 0 0 (AW ad nO)) 2 0 0 g (AW ad nO) ad nO oR I J 0 [(0, .ref (ad 98)), (1, .int a0)] [] := by
  unfold f_X11_mudParts at h
  refine r_aload_n C 0 rfl rfl dX11_mudParts_0 ?_
  refine r_bipush C (v := 61) (by decide) dX11_mudParts_1 ?_
  obtain ⟨I6, hq7, h⟩ := bd1_ h
  refine r_cvv C (rest := []) (c_X11_ran  hq7) fm_X11_ran lk_X11_328 o_98 ⟨_, ct_10 o_98.1⟩ rfl rfl ⟨rfl, rfl, Nat.le_of_ble_eq_true rfl, Nat.le_of_ble_eq_true rfl⟩ (Nat.le_of_ble_eq_true rfl) rfl dX11_mudParts_3 ?_
  refine r_aload_n C 0 rfl rfl dX11_mudParts_6 ?_
  refine r_iload_n C 1 rfl rfl dX11_mudParts_7 ?_
  refine r_iconst C (v := 1) (by decide) dX11_mudParts_8 ?_
  refine r_isub C dX11_mudParts_9 ?_
  obtain ⟨r8, I9, hq10, h⟩ := bd2_ h
  refine r_cvi C (rest := []) (c_X11_anyParts  hq10) fm_X11_anyParts lk_X11_346 o_98 ⟨_, ct_10 o_98.1⟩ rfl rfl ⟨rfl, rfl, Nat.le_of_ble_eq_true rfl, Nat.le_of_ble_eq_true rfl⟩ (Nat.le_of_ble_eq_true rfl) rfl dX11_mudParts_10 ?_
  have hz9 := Option.some.inj h
  subst hz9
  exact r_iret C hr dX11_mudParts_13
set_option maxHeartbeats 4000000 in
set_option maxRecDepth 100000 in
theorem c_X11_mudParts {l : Launch} {g : GG} {ad : Nat → Nat} {a0 : Int32} {I : HI} {J : HJ} {r : Int32} {I1 : HI} (h : f_X11_mudParts a0 I J = some (r, I1)) : CM l yX11_mudParts cX11_mudParts 2 (some .int) (rmk 2 42) g ad nO oR [.ref (ad 98), .int a0] I J (QAi g ad nO oR r I1 J) :=
  CM_of (by decide +kernel) (Nat.le_of_ble_eq_true rfl) (fun p e s m args below meth c C hr => w_X11_mudParts C hr h)
set_option maxHeartbeats 4000000 in
set_option maxRecDepth 100000 in
theorem w_X11_parts {l : Launch} {g : GG} {ad : Nat → Nat} {p : Program} {e : Env} {s : State} {m : MethodId} {args : Array Value} {below : List Frame} {meth : Method} {c : Code} {a0 : Int32} {z : Int32 × HI} (C : Cx p s m args meth c RX11 cX11_parts 2 g (AW ad nO)) (hr : meth.sig.returnType = (some .int)) {I : HI} {J : HJ} (h : f_X11_parts a0 I J = some z) : V p l e (rmk 3 63) s m args below meth c (MQ below (QAi g ad nO oR z.1 z.2 J) args s 0 0 (AW ad nO)) 2 0 0 g (AW ad nO) ad nO oR I J 0 [(0, .ref (ad 98)), (1, .int a0)] [] := by
  unfold f_X11_parts at h
  refine r_aload_n C 0 rfl rfl dX11_parts_0 ?_
  refine gf_X11_304 C o_98 dX11_parts_1 ?_
  refine r_nmi h (fun v24 h => ?_)
  refine r_case h (fun hc25 h => ?_) (fun hc25 h => ?_)
  · refine r_tabIn C (tgt := 40) 3 hc25 dX11_parts_4 (by decide) (by decide) rfl (by decide) ?_
    refine r_aload_n C 0 rfl rfl dX11_parts_40 ?_
    refine r_bipush C (v := 41) (by decide) dX11_parts_41 ?_
    obtain ⟨I26, hq27, h⟩ := bd1_ h
    refine r_cvv C (rest := []) (c_X11_ran  hq27) fm_X11_ran lk_X11_328 o_98 ⟨_, ct_10 o_98.1⟩ rfl rfl ⟨rfl, rfl, Nat.le_of_ble_eq_true rfl, Nat.le_of_ble_eq_true rfl⟩ (Nat.le_of_ble_eq_true rfl) rfl dX11_parts_43 ?_
    refine r_aload_n C 0 rfl rfl dX11_parts_46 ?_
    refine r_iload_n C 1 rfl rfl dX11_parts_47 ?_
    refine r_iconst C (v := 1) (by decide) dX11_parts_48 ?_
    refine r_iadd C dX11_parts_49 ?_
    obtain ⟨r28, I29, hq30, h⟩ := bd2_ h
    refine r_cvi C (rest := []) (c_X11_anyParts  hq30) fm_X11_anyParts lk_X11_346 o_98 ⟨_, ct_10 o_98.1⟩ rfl rfl ⟨rfl, rfl, Nat.le_of_ble_eq_true rfl, Nat.le_of_ble_eq_true rfl⟩ (Nat.le_of_ble_eq_true rfl) rfl dX11_parts_50 ?_
    have hz9 := Option.some.inj h
    subst hz9
    exact r_iret C hr dX11_parts_53
  refine r_case h (fun hc31 h => ?_) (fun hc31 h => ?_)
  · refine r_tabIn C (tgt := 54) 5 hc31 dX11_parts_4 (by decide) (by decide) rfl (by decide) ?_
    refine r_aload_n C 0 rfl rfl dX11_parts_54 ?_
    refine r_iload_n C 1 rfl rfl dX11_parts_55 ?_
    obtain ⟨r32, I33, hq34, h⟩ := bd2_ h
    refine r_cvi C (rest := []) (c_X11_mudParts  hq34) fm_X11_mudParts lk_X11_349 o_98 ⟨_, ct_10 o_98.1⟩ rfl rfl ⟨rfl, rfl, Nat.le_of_ble_eq_true rfl, Nat.le_of_ble_eq_true rfl⟩ (Nat.le_of_ble_eq_true rfl) rfl dX11_parts_56 ?_
    have hz9 := Option.some.inj h
    subst hz9
    exact r_iret C hr dX11_parts_59
  refine r_case h (fun hc35 h => ?_) (fun hc35 h => ?_)
  · refine r_tabIn C (tgt := 60) 6 hc35 dX11_parts_4 (by decide) (by decide) rfl (by decide) ?_
    refine r_aload_n C 0 rfl rfl dX11_parts_60 ?_
    refine r_bipush C (v := 71) (by decide) dX11_parts_61 ?_
    obtain ⟨I36, hq37, h⟩ := bd1_ h
    refine r_cvv C (rest := []) (c_X11_ran  hq37) fm_X11_ran lk_X11_328 o_98 ⟨_, ct_10 o_98.1⟩ rfl rfl ⟨rfl, rfl, Nat.le_of_ble_eq_true rfl, Nat.le_of_ble_eq_true rfl⟩ (Nat.le_of_ble_eq_true rfl) rfl dX11_parts_63 ?_
    refine r_aload_n C 0 rfl rfl dX11_parts_66 ?_
    refine r_iload_n C 1 rfl rfl dX11_parts_67 ?_
    obtain ⟨r38, I39, hq40, h⟩ := bd2_ h
    refine r_cvi C (rest := []) (c_X11_mudParts  hq40) fm_X11_mudParts lk_X11_349 o_98 ⟨_, ct_10 o_98.1⟩ rfl rfl ⟨rfl, rfl, Nat.le_of_ble_eq_true rfl, Nat.le_of_ble_eq_true rfl⟩ (Nat.le_of_ble_eq_true rfl) rfl dX11_parts_68 ?_
    refine r_iconst C (v := 1) (by decide) dX11_parts_71 ?_
    refine r_ixor C dX11_parts_72 ?_
    have hz9 := Option.some.inj h
    subst hz9
    exact r_iret C hr dX11_parts_73
  refine r_case h (fun hc41 h => ?_) (fun hc41 h => ?_)
  · refine r_tabIn C (tgt := 74) 7 hc41 dX11_parts_4 (by decide) (by decide) rfl (by decide) ?_
    refine r_aload_n C 0 rfl rfl dX11_parts_74 ?_
    refine r_bipush C (v := 82) (by decide) dX11_parts_75 ?_
    obtain ⟨I42, hq43, h⟩ := bd1_ h
    refine r_cvv C (rest := []) (c_X11_ran  hq43) fm_X11_ran lk_X11_328 o_98 ⟨_, ct_10 o_98.1⟩ rfl rfl ⟨rfl, rfl, Nat.le_of_ble_eq_true rfl, Nat.le_of_ble_eq_true rfl⟩ (Nat.le_of_ble_eq_true rfl) rfl dX11_parts_77 ?_
    refine r_iload_n C 1 rfl rfl dX11_parts_80 ?_
    refine r_aload_n C 0 rfl rfl dX11_parts_81 ?_
    refine gf_X11_309 C o_98 dX11_parts_82 ?_
    refine r_iand C dX11_parts_85 ?_
    have hz9 := Option.some.inj h
    subst hz9
    exact r_iret C hr dX11_parts_86
  refine r_tabD C (tgt := 87) [3, 5, 6, 7] (r_nc hc25 rfl (r_nc hc31 rfl (r_nc hc35 rfl (r_nc hc41 rfl r_nc0)))) dX11_parts_4 rfl (by decide) (by decide) ?_
  refine r_aload_n C 0 rfl rfl dX11_parts_87 ?_
  refine r_iload_n C 1 rfl rfl dX11_parts_88 ?_
  obtain ⟨r44, I45, hq46, h⟩ := bd2_ h
  refine r_cvi C (rest := []) (c_X11_anyParts  hq46) fm_X11_anyParts lk_X11_346 o_98 ⟨_, ct_10 o_98.1⟩ rfl rfl ⟨rfl, rfl, Nat.le_of_ble_eq_true rfl, Nat.le_of_ble_eq_true rfl⟩ (Nat.le_of_ble_eq_true rfl) rfl dX11_parts_89 ?_
  have hz9 := Option.some.inj h
  subst hz9
  exact r_iret C hr dX11_parts_92
set_option maxHeartbeats 4000000 in
set_option maxRecDepth 100000 in
theorem c_X11_parts {l : Launch} {g : GG} {ad : Nat → Nat} {a0 : Int32} {I : HI} {J : HJ} {r : Int32} {I1 : HI} (h : f_X11_parts a0 I J = some (r, I1)) : CM l yX11_parts cX11_parts 2 (some .int) (rmk 3 63) g ad nO oR [.ref (ad 98), .int a0] I J (QAi g ad nO oR r I1 J) :=
  CM_of (by decide +kernel) (Nat.le_of_ble_eq_true rfl) (fun p e s m args below meth c C hr => w_X11_parts C hr h)
set_option maxHeartbeats 4000000 in
set_option maxRecDepth 100000 in
theorem w_X11_anyTells {l : Launch} {g : GG} {ad : Nat → Nat} {p : Program} {e : Env} {s : State} {m : MethodId} {args : Array Value} {below : List Frame} {meth : Method} {c : Code} {a0 : Int32} {z : Int32 × HI} (C : Cx p s m args meth c RX11 cX11_anyTells 2 g (AW ad nO)) (hr : meth.sig.returnType = (some .int)) {I : HI} {J : HJ} (h : f_X11_anyTells a0 I J = some z) : V p l e (rmk 6 126) s m args below meth c (MQ below (QAi g ad nO oR z.1 z.2 J) args s 0 0 (AW ad nO)) 2 0 0 g (AW ad nO) ad nO oR I J 0 [(0, .ref (ad 98)), (1, .int a0)] [] := by
  unfold f_X11_anyTells at h
  refine r_aload_n C 0 rfl rfl dX11_anyTells_0 ?_
  refine r_bipush C (v := 13) (by decide) dX11_anyTells_1 ?_
  obtain ⟨I6, hq7, h⟩ := bd1_ h
  refine r_cvv C (rest := []) (c_X11_ran  hq7) fm_X11_ran lk_X11_328 o_98 ⟨_, ct_10 o_98.1⟩ rfl rfl ⟨rfl, rfl, Nat.le_of_ble_eq_true rfl, Nat.le_of_ble_eq_true rfl⟩ (Nat.le_of_ble_eq_true rfl) rfl dX11_anyTells_3 ?_
  refine r_aload_n C 0 rfl rfl dX11_anyTells_6 ?_
  refine r_iload_n C 1 rfl rfl dX11_anyTells_7 ?_
  obtain ⟨r8, I9, hq10, h⟩ := bd2_ h
  refine r_cvi C (rest := []) (c_X11_swings  hq10) fm_X11_swings lk_X11_352 o_98 ⟨_, ct_10 o_98.1⟩ rfl rfl ⟨rfl, rfl, Nat.le_of_ble_eq_true rfl, Nat.le_of_ble_eq_true rfl⟩ (Nat.le_of_ble_eq_true rfl) rfl dX11_anyTells_8 ?_
  refine r_aload_n C 0 rfl rfl dX11_anyTells_11 ?_
  refine gf_X11_307 C o_98 dX11_anyTells_12 ?_
  refine r_ixor C dX11_anyTells_15 ?_
  have hz9 := Option.some.inj h
  subst hz9
  exact r_iret C hr dX11_anyTells_16
set_option maxHeartbeats 4000000 in
set_option maxRecDepth 100000 in
theorem c_X11_anyTells {l : Launch} {g : GG} {ad : Nat → Nat} {a0 : Int32} {I : HI} {J : HJ} {r : Int32} {I1 : HI} (h : f_X11_anyTells a0 I J = some (r, I1)) : CM l yX11_anyTells cX11_anyTells 2 (some .int) (rmk 6 126) g ad nO oR [.ref (ad 98), .int a0] I J (QAi g ad nO oR r I1 J) :=
  CM_of (by decide +kernel) (Nat.le_of_ble_eq_true rfl) (fun p e s m args below meth c C hr => w_X11_anyTells C hr h)
set_option maxHeartbeats 4000000 in
set_option maxRecDepth 100000 in
theorem w_X11_tells {l : Launch} {g : GG} {ad : Nat → Nat} {p : Program} {e : Env} {s : State} {m : MethodId} {args : Array Value} {below : List Frame} {meth : Method} {c : Code} {a0 : Int32} {z : Int32 × HI} (C : Cx p s m args meth c RX11 cX11_tells 3 g (AW ad nO)) (hr : meth.sig.returnType = (some .int)) {I : HI} {J : HJ} (h : f_X11_tells a0 I J = some z) : V p l e (rmk 7 147) s m args below meth c (MQ below (QAi g ad nO oR z.1 z.2 J) args s 0 0 (AW ad nO)) 3 0 0 g (AW ad nO) ad nO oR I J 0 [(0, .ref (ad 98)), (1, .int a0)] [] := by
  unfold f_X11_tells at h
  refine r_aload_n C 0 rfl rfl dX11_tells_0 ?_
  refine gf_X11_304 C o_98 dX11_tells_1 ?_
  refine r_nmi h (fun v44 h => ?_)
  refine r_case h (fun hc45 h => ?_) (fun hc45 h => ?_)
  · refine r_tabIn C (tgt := 44) 2 hc45 dX11_tells_4 (by decide) (by decide) rfl (by decide) ?_
    refine r_aload_n C 0 rfl rfl dX11_tells_44 ?_
    refine r_bipush C (v := 31) (by decide) dX11_tells_45 ?_
    obtain ⟨I46, hq47, h⟩ := bd1_ h
    refine r_cvv C (rest := []) (c_X11_ran  hq47) fm_X11_ran lk_X11_328 o_98 ⟨_, ct_10 o_98.1⟩ rfl rfl ⟨rfl, rfl, Nat.le_of_ble_eq_true rfl, Nat.le_of_ble_eq_true rfl⟩ (Nat.le_of_ble_eq_true rfl) rfl dX11_tells_47 ?_
    refine r_aload_n C 0 rfl rfl dX11_tells_50 ?_
    refine r_iload_n C 1 rfl rfl dX11_tells_51 ?_
    obtain ⟨r48, I49, hq50, h⟩ := bd2_ h
    refine r_cvi C (rest := []) (c_X11_anyTells  hq50) fm_X11_anyTells lk_X11_355 o_98 ⟨_, ct_10 o_98.1⟩ rfl rfl ⟨rfl, rfl, Nat.le_of_ble_eq_true rfl, Nat.le_of_ble_eq_true rfl⟩ (Nat.le_of_ble_eq_true rfl) rfl dX11_tells_52 ?_
    refine r_istore_n C (lv1 := [(2, .int r48), (0, .ref (ad 98)), (1, .int a0)]) rfl (by decide) rfl dX11_tells_55 ?_
    refine r_iload_n C 0 rfl rfl dX11_tells_56 ?_
    refine r_aload_n C 1 rfl rfl dX11_tells_57 ?_
    refine r_aload_n C 1 rfl rfl dX11_tells_58 ?_
    refine gf_X11_307 C o_98 dX11_tells_59 ?_
    obtain ⟨r51, I52, hq53, h⟩ := bd2_ h
    refine r_cvi C (rest := [.int r48]) (c_X11_parts  hq53) fm_X11_parts lk_X11_358 o_98 ⟨_, ct_10 o_98.1⟩ rfl rfl ⟨rfl, rfl, Nat.le_of_ble_eq_true rfl, Nat.le_of_ble_eq_true rfl⟩ (Nat.le_of_ble_eq_true rfl) rfl dX11_tells_62 ?_
    refine r_iadd C dX11_tells_65 ?_
    have hz9 := Option.some.inj h
    subst hz9
    exact r_iret C hr dX11_tells_66
  refine r_case h (fun hc54 h => ?_) (fun hc54 h => ?_)
  · refine r_tabIn C (tgt := 44) 3 hc54 dX11_tells_4 (by decide) (by decide) rfl (by decide) ?_
    refine r_aload_n C 0 rfl rfl dX11_tells_44 ?_
    refine r_bipush C (v := 31) (by decide) dX11_tells_45 ?_
    obtain ⟨I55, hq56, h⟩ := bd1_ h
    refine r_cvv C (rest := []) (c_X11_ran  hq56) fm_X11_ran lk_X11_328 o_98 ⟨_, ct_10 o_98.1⟩ rfl rfl ⟨rfl, rfl, Nat.le_of_ble_eq_true rfl, Nat.le_of_ble_eq_true rfl⟩ (Nat.le_of_ble_eq_true rfl) rfl dX11_tells_47 ?_
    refine r_aload_n C 0 rfl rfl dX11_tells_50 ?_
    refine r_iload_n C 1 rfl rfl dX11_tells_51 ?_
    obtain ⟨r57, I58, hq59, h⟩ := bd2_ h
    refine r_cvi C (rest := []) (c_X11_anyTells  hq59) fm_X11_anyTells lk_X11_355 o_98 ⟨_, ct_10 o_98.1⟩ rfl rfl ⟨rfl, rfl, Nat.le_of_ble_eq_true rfl, Nat.le_of_ble_eq_true rfl⟩ (Nat.le_of_ble_eq_true rfl) rfl dX11_tells_52 ?_
    refine r_istore_n C (lv1 := [(2, .int r57), (0, .ref (ad 98)), (1, .int a0)]) rfl (by decide) rfl dX11_tells_55 ?_
    refine r_iload_n C 0 rfl rfl dX11_tells_56 ?_
    refine r_aload_n C 1 rfl rfl dX11_tells_57 ?_
    refine r_aload_n C 1 rfl rfl dX11_tells_58 ?_
    refine gf_X11_307 C o_98 dX11_tells_59 ?_
    obtain ⟨r60, I61, hq62, h⟩ := bd2_ h
    refine r_cvi C (rest := [.int r57]) (c_X11_parts  hq62) fm_X11_parts lk_X11_358 o_98 ⟨_, ct_10 o_98.1⟩ rfl rfl ⟨rfl, rfl, Nat.le_of_ble_eq_true rfl, Nat.le_of_ble_eq_true rfl⟩ (Nat.le_of_ble_eq_true rfl) rfl dX11_tells_62 ?_
    refine r_iadd C dX11_tells_65 ?_
    have hz9 := Option.some.inj h
    subst hz9
    exact r_iret C hr dX11_tells_66
  refine r_case h (fun hc63 h => ?_) (fun hc63 h => ?_)
  · refine r_tabIn C (tgt := 67) 5 hc63 dX11_tells_4 (by decide) (by decide) rfl (by decide) ?_
    refine r_aload_n C 0 rfl rfl dX11_tells_67 ?_
    refine r_bipush C (v := 60) (by decide) dX11_tells_68 ?_
    obtain ⟨I64, hq65, h⟩ := bd1_ h
    refine r_cvv C (rest := []) (c_X11_ran  hq65) fm_X11_ran lk_X11_328 o_98 ⟨_, ct_10 o_98.1⟩ rfl rfl ⟨rfl, rfl, Nat.le_of_ble_eq_true rfl, Nat.le_of_ble_eq_true rfl⟩ (Nat.le_of_ble_eq_true rfl) rfl dX11_tells_70 ?_
    refine r_aload_n C 0 rfl rfl dX11_tells_73 ?_
    refine r_iload_n C 1 rfl rfl dX11_tells_74 ?_
    obtain ⟨r66, I67, hq68, h⟩ := bd2_ h
    refine r_cvi C (rest := []) (c_X11_anyTells  hq68) fm_X11_anyTells lk_X11_355 o_98 ⟨_, ct_10 o_98.1⟩ rfl rfl ⟨rfl, rfl, Nat.le_of_ble_eq_true rfl, Nat.le_of_ble_eq_true rfl⟩ (Nat.le_of_ble_eq_true rfl) rfl dX11_tells_75 ?_
    refine r_iconst C (v := 2) (by decide) dX11_tells_78 ?_
    refine r_imul C dX11_tells_79 ?_
    have hz9 := Option.some.inj h
    subst hz9
    exact r_iret C hr dX11_tells_80
  refine r_case h (fun hc69 h => ?_) (fun hc69 h => ?_)
  · refine r_tabIn C (tgt := 67) 6 hc69 dX11_tells_4 (by decide) (by decide) rfl (by decide) ?_
    refine r_aload_n C 0 rfl rfl dX11_tells_67 ?_
    refine r_bipush C (v := 60) (by decide) dX11_tells_68 ?_
    obtain ⟨I70, hq71, h⟩ := bd1_ h
    refine r_cvv C (rest := []) (c_X11_ran  hq71) fm_X11_ran lk_X11_328 o_98 ⟨_, ct_10 o_98.1⟩ rfl rfl ⟨rfl, rfl, Nat.le_of_ble_eq_true rfl, Nat.le_of_ble_eq_true rfl⟩ (Nat.le_of_ble_eq_true rfl) rfl dX11_tells_70 ?_
    refine r_aload_n C 0 rfl rfl dX11_tells_73 ?_
    refine r_iload_n C 1 rfl rfl dX11_tells_74 ?_
    obtain ⟨r72, I73, hq74, h⟩ := bd2_ h
    refine r_cvi C (rest := []) (c_X11_anyTells  hq74) fm_X11_anyTells lk_X11_355 o_98 ⟨_, ct_10 o_98.1⟩ rfl rfl ⟨rfl, rfl, Nat.le_of_ble_eq_true rfl, Nat.le_of_ble_eq_true rfl⟩ (Nat.le_of_ble_eq_true rfl) rfl dX11_tells_75 ?_
    refine r_iconst C (v := 2) (by decide) dX11_tells_78 ?_
    refine r_imul C dX11_tells_79 ?_
    have hz9 := Option.some.inj h
    subst hz9
    exact r_iret C hr dX11_tells_80
  refine r_case h (fun hc75 h => ?_) (fun hc75 h => ?_)
  · refine r_tabIn C (tgt := 81) 7 hc75 dX11_tells_4 (by decide) (by decide) rfl (by decide) ?_
    refine r_aload_n C 0 rfl rfl dX11_tells_81 ?_
    refine r_bipush C (v := 83) (by decide) dX11_tells_82 ?_
    obtain ⟨I76, hq77, h⟩ := bd1_ h
    refine r_cvv C (rest := []) (c_X11_ran  hq77) fm_X11_ran lk_X11_328 o_98 ⟨_, ct_10 o_98.1⟩ rfl rfl ⟨rfl, rfl, Nat.le_of_ble_eq_true rfl, Nat.le_of_ble_eq_true rfl⟩ (Nat.le_of_ble_eq_true rfl) rfl dX11_tells_84 ?_
    refine r_aload_n C 0 rfl rfl dX11_tells_87 ?_
    refine r_iload_n C 1 rfl rfl dX11_tells_88 ?_
    obtain ⟨r78, I79, hq80, h⟩ := bd2_ h
    refine r_cvi C (rest := []) (c_X11_swings  hq80) fm_X11_swings lk_X11_352 o_98 ⟨_, ct_10 o_98.1⟩ rfl rfl ⟨rfl, rfl, Nat.le_of_ble_eq_true rfl, Nat.le_of_ble_eq_true rfl⟩ (Nat.le_of_ble_eq_true rfl) rfl dX11_tells_89 ?_
    refine r_istore_n C (lv1 := [(2, .int r78), (0, .ref (ad 98)), (1, .int a0)]) rfl (by decide) rfl dX11_tells_92 ?_
    refine r_iload_n C 0 rfl rfl dX11_tells_93 ?_
    refine r_aload_n C 1 rfl rfl dX11_tells_94 ?_
    refine r_aload_n C 1 rfl rfl dX11_tells_95 ?_
    refine gf_X11_307 C o_98 dX11_tells_96 ?_
    obtain ⟨r81, I82, hq83, h⟩ := bd2_ h
    refine r_cvi C (rest := [.int r78]) (c_X11_parts  hq83) fm_X11_parts lk_X11_358 o_98 ⟨_, ct_10 o_98.1⟩ rfl rfl ⟨rfl, rfl, Nat.le_of_ble_eq_true rfl, Nat.le_of_ble_eq_true rfl⟩ (Nat.le_of_ble_eq_true rfl) rfl dX11_tells_99 ?_
    refine r_isub C dX11_tells_102 ?_
    have hz9 := Option.some.inj h
    subst hz9
    exact r_iret C hr dX11_tells_103
  refine r_tabD C (tgt := 104) [2, 3, 5, 6, 7] (r_nc hc45 rfl (r_nc hc54 rfl (r_nc hc63 rfl (r_nc hc69 rfl (r_nc hc75 rfl r_nc0))))) dX11_tells_4 rfl (by decide) (by decide) ?_
  refine r_aload_n C 0 rfl rfl dX11_tells_104 ?_
  refine r_iload_n C 1 rfl rfl dX11_tells_105 ?_
  obtain ⟨r84, I85, hq86, h⟩ := bd2_ h
  refine r_cvi C (rest := []) (c_X11_anyTells  hq86) fm_X11_anyTells lk_X11_355 o_98 ⟨_, ct_10 o_98.1⟩ rfl rfl ⟨rfl, rfl, Nat.le_of_ble_eq_true rfl, Nat.le_of_ble_eq_true rfl⟩ (Nat.le_of_ble_eq_true rfl) rfl dX11_tells_106 ?_
  have hz9 := Option.some.inj h
  subst hz9
  exact r_iret C hr dX11_tells_109
set_option maxHeartbeats 4000000 in
set_option maxRecDepth 100000 in
theorem c_X11_tells {l : Launch} {g : GG} {ad : Nat → Nat} {a0 : Int32} {I : HI} {J : HJ} {r : Int32} {I1 : HI} (h : f_X11_tells a0 I J = some (r, I1)) : CM l yX11_tells cX11_tells 3 (some .int) (rmk 7 147) g ad nO oR [.ref (ad 98), .int a0] I J (QAi g ad nO oR r I1 J) :=
  CM_of (by decide +kernel) (Nat.le_of_ble_eq_true rfl) (fun p e s m args below meth c C hr => w_X11_tells C hr h)
set_option maxHeartbeats 4000000 in
set_option maxRecDepth 100000 in
theorem wB_X11_act_88 {l : Launch} {g : GG} {ad : Nat → Nat} {p : Program} {e : Env} {s : State} {m : MethodId} {args : Array Value} {below : List Frame} {meth : Method} {c : Code} {a0 : Int32} {a1 : Int32} {a2 : Int32} {z : Int32 × HI × HJ} (C : Cx p s m args meth c RX11 cX11_act 5 g (AW ad nO)) (hr : meth.sig.returnType = (some .int))  {s0 : Int32} {I : HI} {J : HJ} (h : fB_X11_act_88 a0 a1 a2 s0 I J = some z) : V p l e (rmk 8 169) s m args below meth c (MQ below (QAi g ad nO oR z.1 z.2.1 z.2.2) args s 0 0 (AW ad nO)) 5 0 0 g (AW ad nO) ad nO oR I J 88 [(0, .ref (ad 98))] [.int s0] := by
  unfold fB_X11_act_88 at h
  refine r_istore C (lv1 := [(4, .int s0), (0, .ref (ad 98))]) (by decide) rfl dX11_act_88 ?_
  refine r_aload_n C 1 rfl rfl dX11_act_90 ?_
  refine gf_X11_343 C o_98 dX11_act_91 ?_
  refine r_if_eq C (tgt := 102) h dX11_act_94 (by decide) (fun h => ?_) (fun h => ?_)
  · refine r_iload C 0 rfl dX11_act_102 ?_
    have hz9 := Option.some.inj h
    subst hz9
    exact r_iret C hr dX11_act_104
  · refine r_bipush C (v := -15) (by decide) dX11_act_97 ?_
    refine r_goto C (tgt := 104) dX11_act_99 (by decide) ?_
    have hz9 := Option.some.inj h
    subst hz9
    exact r_iret C hr dX11_act_104
set_option maxHeartbeats 4000000 in
set_option maxRecDepth 100000 in
theorem w_X11_act {l : Launch} {g : GG} {ad : Nat → Nat} {p : Program} {e : Env} {s : State} {m : MethodId} {args : Array Value} {below : List Frame} {meth : Method} {c : Code} {a0 : Int32} {a1 : Int32} {a2 : Int32} {z : Int32 × HI × HJ} (C : Cx p s m args meth c RX11 cX11_act 5 g (AW ad nO)) (hr : meth.sig.returnType = (some .int)) {I : HI} {J : HJ} (h : f_X11_act a0 a1 a2 I J = some z) : V p l e (rmk 8 169) s m args below meth c (MQ below (QAi g ad nO oR z.1 z.2.1 z.2.2) args s 0 0 (AW ad nO)) 5 0 0 g (AW ad nO) ad nO oR I J 0 [(0, .ref (ad 98)), (1, .int a0), (2, .int a1), (3, .int a2)] [] := by
  unfold f_X11_act at h
  refine r_aload_n C 0 rfl rfl dX11_act_0 ?_
  refine r_iconst C (v := 0) (by decide) dX11_act_1 ?_
  refine pf_X11_325 C o_98 dX11_act_2 ?_
  refine r_nmI h (fun I22 h => ?_)
  refine r_iload_n C 1 rfl rfl dX11_act_5 ?_
  obtain ⟨r23, hq24, h⟩ := bd1_ h
  refine r_csi C (rest := []) (c_X11_isOne  hq24) fm_X11_isOne lk_X11_286 rfl ⟨rfl, rfl, Nat.le_of_ble_eq_true rfl, Nat.le_of_ble_eq_true rfl⟩ (Nat.le_of_ble_eq_true rfl) rfl dX11_act_6 ?_
  refine r_if_eq C (tgt := 24) h dX11_act_9 (by decide) (fun h => ?_) (fun h => ?_)
  · refine r_iconst C (v := 0) (by decide) dX11_act_24 ?_
    have hz9 := Option.some.inj h
    subst hz9
    exact r_iret C hr dX11_act_25
  · refine r_iload_n C 2 rfl rfl dX11_act_12 ?_
    refine r_i2l C dX11_act_13 ?_
    refine r_lconst C (v := 0) (by decide) dX11_act_14 ?_
    refine r_ldc2 C (v := 3) lk_X11_226 dX11_act_15 ?_
    obtain ⟨r25, hq26, h⟩ := bd1_ h
    refine r_csi C (rest := []) (c_X11_in  hq26) fm_X11_in lk_X11_114 rfl ⟨rfl, rfl, Nat.le_of_ble_eq_true rfl, Nat.le_of_ble_eq_true rfl⟩ (Nat.le_of_ble_eq_true rfl) rfl dX11_act_18 ?_
    refine r_if_ne C (tgt := 26) h dX11_act_21 (by decide) (fun h => ?_) (fun h => ?_)
    · refine r_aload_n C 0 rfl rfl dX11_act_26 ?_
      refine r_iload_n C 1 rfl rfl dX11_act_27 ?_
      obtain ⟨I27, J28, hq29, h⟩ := bd2_ h
      refine r_cvv C (rest := []) (c_X11_takes  hq29) fm_X11_takes lk_X11_319 o_98 ⟨_, ct_10 o_98.1⟩ rfl rfl ⟨rfl, rfl, Nat.le_of_ble_eq_true rfl, Nat.le_of_ble_eq_true rfl⟩ (Nat.le_of_ble_eq_true rfl) rfl dX11_act_28 ?_
      refine r_aload_n C 0 rfl rfl dX11_act_31 ?_
      refine gf_X11_304 C o_98 dX11_act_32 ?_
      refine r_if_ge C (tgt := 40) h dX11_act_35 (by decide) (fun h => ?_) (fun h => ?_)
      · refine r_aload_n C 0 rfl rfl dX11_act_40 ?_
        refine r_iconst C (v := 0) (by decide) dX11_act_41 ?_
        refine pf_X11_343 C rfl o_98 dX11_act_42 ?_
        refine r_nmI h (fun I30 h => ?_)
        refine r_iload_n C 2 rfl rfl dX11_act_45 ?_
        refine r_if_ne C (tgt := 57) h dX11_act_46 (by decide) (fun h => ?_) (fun h => ?_)
        · refine r_iload_n C 2 rfl rfl dX11_act_57 ?_
          refine r_iconst C (v := 1) (by decide) dX11_act_58 ?_
          refine r_icmp_ne C (tgt := 70) h dX11_act_59 (by decide) (fun h => ?_) (fun h => ?_)
          · refine r_iload_n C 2 rfl rfl dX11_act_70 ?_
            refine r_iconst C (v := 2) (by decide) dX11_act_71 ?_
            refine r_icmp_ne C (tgt := 83) h dX11_act_72 (by decide) (fun h => ?_) (fun h => ?_)
            · refine r_aload_n C 0 rfl rfl dX11_act_83 ?_
              refine r_iload_n C 3 rfl rfl dX11_act_84 ?_
              obtain ⟨r31, I32, hq33, h⟩ := bd2_ h
              refine r_cvi C (rest := []) (c_X11_tells  hq33) fm_X11_tells lk_X11_361 o_98 ⟨_, ct_10 o_98.1⟩ rfl rfl ⟨rfl, rfl, Nat.le_of_ble_eq_true rfl, Nat.le_of_ble_eq_true rfl⟩ (Nat.le_of_ble_eq_true rfl) rfl dX11_act_85 ?_
              exact r_sub [0] rfl (wB_X11_act_88 C hr  h)
            · refine r_aload_n C 0 rfl rfl dX11_act_75 ?_
              refine r_iload_n C 3 rfl rfl dX11_act_76 ?_
              obtain ⟨r34, I35, hq36, h⟩ := bd2_ h
              refine r_cvi C (rest := []) (c_X11_parts  hq36) fm_X11_parts lk_X11_358 o_98 ⟨_, ct_10 o_98.1⟩ rfl rfl ⟨rfl, rfl, Nat.le_of_ble_eq_true rfl, Nat.le_of_ble_eq_true rfl⟩ (Nat.le_of_ble_eq_true rfl) rfl dX11_act_77 ?_
              refine r_goto C (tgt := 88) dX11_act_80 (by decide) ?_
              exact r_sub [0] rfl (wB_X11_act_88 C hr  h)
          · refine r_aload_n C 0 rfl rfl dX11_act_62 ?_
            refine r_iload_n C 3 rfl rfl dX11_act_63 ?_
            obtain ⟨r37, I38, hq39, h⟩ := bd2_ h
            refine r_cvi C (rest := []) (c_X11_swings  hq39) fm_X11_swings lk_X11_352 o_98 ⟨_, ct_10 o_98.1⟩ rfl rfl ⟨rfl, rfl, Nat.le_of_ble_eq_true rfl, Nat.le_of_ble_eq_true rfl⟩ (Nat.le_of_ble_eq_true rfl) rfl dX11_act_64 ?_
            refine r_goto C (tgt := 88) dX11_act_67 (by decide) ?_
            exact r_sub [0] rfl (wB_X11_act_88 C hr  h)
        · refine r_aload_n C 0 rfl rfl dX11_act_49 ?_
          refine r_iload_n C 3 rfl rfl dX11_act_50 ?_
          obtain ⟨r40, I41, hq42, h⟩ := bd2_ h
          refine r_cvi C (rest := []) (c_X11_grows  hq42) fm_X11_grows lk_X11_337 o_98 ⟨_, ct_10 o_98.1⟩ rfl rfl ⟨rfl, rfl, Nat.le_of_ble_eq_true rfl, Nat.le_of_ble_eq_true rfl⟩ (Nat.le_of_ble_eq_true rfl) rfl dX11_act_51 ?_
          refine r_goto C (tgt := 88) dX11_act_54 (by decide) ?_
          exact r_sub [0] rfl (wB_X11_act_88 C hr  h)
      · refine r_iconst C (v := 0) (by decide) dX11_act_38 ?_
        have hz9 := Option.some.inj h
        subst hz9
        exact r_iret C hr dX11_act_39
    · refine r_iconst C (v := 0) (by decide) dX11_act_24 ?_
      have hz9 := Option.some.inj h
      subst hz9
      exact r_iret C hr dX11_act_25
set_option maxHeartbeats 4000000 in
set_option maxRecDepth 100000 in
theorem c_X11_act {l : Launch} {g : GG} {ad : Nat → Nat} {a0 : Int32} {a1 : Int32} {a2 : Int32} {I : HI} {J : HJ} {r : Int32} {I1 : HI} {J1 : HJ} (h : f_X11_act a0 a1 a2 I J = some (r, I1, J1)) : CM l yX11_act cX11_act 5 (some .int) (rmk 8 169) g ad nO oR [.ref (ad 98), .int a0, .int a1, .int a2] I J (QAi g ad nO oR r I1 J1) :=
  CM_of (by decide +kernel) (Nat.le_of_ble_eq_true rfl) (fun p e s m args below meth c C hr => w_X11_act C hr h)
set_option maxHeartbeats 4000000 in
set_option maxRecDepth 100000 in
theorem w_X11_trace {l : Launch} {g : GG} {ad : Nat → Nat} {p : Program} {e : Env} {s : State} {m : MethodId} {args : Array Value} {below : List Frame} {meth : Method} {c : Code} {a0 : Int32} {z : Int32} (C : Cx p s m args meth c RX11 cX11_trace 2 g (AW ad nO)) (hr : meth.sig.returnType = (some .int)) {I : HI} {J : HJ} (h : f_X11_trace a0 I J = some z) : V p l e (rmk 1 25) s m args below meth c (MQ below (QAi g ad nO oR z I J) args s 0 0 (AW ad nO)) 2 0 0 g (AW ad nO) ad nO oR I J 0 [(0, .ref (ad 98)), (1, .int a0)] [] := by
  unfold f_X11_trace at h
  refine r_iload_n C 1 rfl rfl dX11_trace_0 ?_
  refine r_i2l C dX11_trace_1 ?_
  refine r_lconst C (v := 0) (by decide) dX11_trace_2 ?_
  refine r_aload_n C 0 rfl rfl dX11_trace_3 ?_
  refine gf_X11_325 C o_98 dX11_trace_4 ?_
  refine r_pc (pc1 := 7) rfl ?_
  refine r_iconst C (v := 1) (by decide) dX11_trace_7 ?_
  refine r_isub C dX11_trace_8 ?_
  refine r_i2l C dX11_trace_9 ?_
  obtain ⟨r3, hq4, h⟩ := bd1_ h
  refine r_csi C (rest := []) (c_X11_in  hq4) fm_X11_in lk_X11_114 rfl ⟨rfl, rfl, Nat.le_of_ble_eq_true rfl, Nat.le_of_ble_eq_true rfl⟩ (Nat.le_of_ble_eq_true rfl) rfl dX11_trace_10 ?_
  refine r_if_eq C (tgt := 25) h dX11_trace_13 (by decide) (fun h => ?_) (fun h => ?_)
  · refine r_bipush C (v := -3) (by decide) dX11_trace_25 ?_
    have hz9 := Option.some.inj h
    subst hz9
    exact r_iret C hr dX11_trace_27
  · refine r_aload_n C 0 rfl rfl dX11_trace_16 ?_
    refine gf_X11_80 C rf0 o_98 (q := 122) rfl dX11_trace_17 ?_
    refine r_iload_n C 1 rfl rfl dX11_trace_20 ?_
    refine r_iald C o_122 h dX11_trace_21 (fun h => ?_)
    refine r_goto C (tgt := 27) dX11_trace_22 (by decide) ?_
    have hz9 := Option.some.inj h
    subst hz9
    exact r_iret C hr dX11_trace_27
set_option maxHeartbeats 4000000 in
set_option maxRecDepth 100000 in
theorem c_X11_trace {l : Launch} {g : GG} {ad : Nat → Nat} {a0 : Int32} {I : HI} {J : HJ} {r : Int32} (h : f_X11_trace a0 I J = some r) : CM l yX11_trace cX11_trace 2 (some .int) (rmk 1 25) g ad nO oR [.ref (ad 98), .int a0] I J (QAi g ad nO oR r I J) :=
  CM_of (by decide +kernel) (Nat.le_of_ble_eq_true rfl) (fun p e s m args below meth c C hr => w_X11_trace C hr h)
set_option maxHeartbeats 4000000 in
set_option maxRecDepth 100000 in
theorem w_X11_many {l : Launch} {g : GG} {ad : Nat → Nat} {p : Program} {e : Env} {s : State} {m : MethodId} {args : Array Value} {below : List Frame} {meth : Method} {c : Code} {a0 : Int32} {z : Int32} (C : Cx p s m args meth c RX11 cX11_many 2 g (AW ad nO)) (hr : meth.sig.returnType = (some .int)) {I : HI} {J : HJ} (h : f_X11_many a0 I J = some z) : V p l e (rmk 0 0) s m args below meth c (MQ below (QAi g ad nO oR z I J) args s 0 0 (AW ad nO)) 2 0 0 g (AW ad nO) ad nO oR I J 0 [(0, .ref (ad 98)), (1, .int a0)] [] := by
  unfold f_X11_many at h
  refine r_iload_n C 1 rfl rfl dX11_many_0 ?_
  refine r_case h (fun hc7 h => ?_) (fun hc7 h => ?_)
  · refine r_tabIn C (tgt := 40) 0 hc7 dX11_many_1 (by decide) (by decide) rfl (by decide) ?_
    refine r_aload_n C 0 rfl rfl dX11_many_40 ?_
    refine gf_X11_7 C rf0 o_98 (q := 99) rfl dX11_many_41 ?_
    refine r_bipush C (v := 9) (by decide) dX11_many_44 ?_
    refine r_iald C o_99 h dX11_many_46 (fun h => ?_)
    have hz9 := Option.some.inj h
    subst hz9
    exact r_iret C hr dX11_many_47
  refine r_case h (fun hc8 h => ?_) (fun hc8 h => ?_)
  · refine r_tabIn C (tgt := 48) 1 hc8 dX11_many_1 (by decide) (by decide) rfl (by decide) ?_
    refine r_aload_n C 0 rfl rfl dX11_many_48 ?_
    refine gf_X11_7 C rf0 o_98 (q := 99) rfl dX11_many_49 ?_
    refine r_bipush C (v := 10) (by decide) dX11_many_52 ?_
    refine r_iald C o_99 h dX11_many_54 (fun h => ?_)
    have hz9 := Option.some.inj h
    subst hz9
    exact r_iret C hr dX11_many_55
  refine r_case h (fun hc9 h => ?_) (fun hc9 h => ?_)
  · refine r_tabIn C (tgt := 56) 2 hc9 dX11_many_1 (by decide) (by decide) rfl (by decide) ?_
    refine r_aload_n C 0 rfl rfl dX11_many_56 ?_
    refine gf_X11_277 C o_98 dX11_many_57 ?_
    have hz9 := Option.some.inj h
    subst hz9
    exact r_iret C hr dX11_many_60
  refine r_case h (fun hc10 h => ?_) (fun hc10 h => ?_)
  · refine r_tabIn C (tgt := 61) 3 hc10 dX11_many_1 (by decide) (by decide) rfl (by decide) ?_
    refine r_aload_n C 0 rfl rfl dX11_many_61 ?_
    refine gf_X11_137 C o_98 dX11_many_62 ?_
    have hz9 := Option.some.inj h
    subst hz9
    exact r_iret C hr dX11_many_65
  refine r_case h (fun hc11 h => ?_) (fun hc11 h => ?_)
  · refine r_tabIn C (tgt := 66) 4 hc11 dX11_many_1 (by decide) (by decide) rfl (by decide) ?_
    refine r_aload_n C 0 rfl rfl dX11_many_66 ?_
    refine gf_X11_325 C o_98 dX11_many_67 ?_
    have hz9 := Option.some.inj h
    subst hz9
    exact r_iret C hr dX11_many_70
  refine r_case h (fun hc12 h => ?_) (fun hc12 h => ?_)
  · refine r_tabIn C (tgt := 71) 5 hc12 dX11_many_1 (by decide) (by decide) rfl (by decide) ?_
    refine r_aload_n C 0 rfl rfl dX11_many_71 ?_
    refine gf_X11_7 C rf0 o_98 (q := 99) rfl dX11_many_72 ?_
    refine r_bipush C (v := 11) (by decide) dX11_many_75 ?_
    refine r_iald C o_99 h dX11_many_77 (fun h => ?_)
    have hz9 := Option.some.inj h
    subst hz9
    exact r_iret C hr dX11_many_78
  refine r_tabD C (tgt := 79) [0, 1, 2, 3, 4, 5] (r_nc hc7 rfl (r_nc hc8 rfl (r_nc hc9 rfl (r_nc hc10 rfl (r_nc hc11 rfl (r_nc hc12 rfl r_nc0)))))) dX11_many_1 rfl (by decide) (by decide) ?_
  refine r_iconst C (v := -1) (by decide) dX11_many_79 ?_
  have hz9 := Option.some.inj h
  subst hz9
  exact r_iret C hr dX11_many_80
set_option maxHeartbeats 4000000 in
set_option maxRecDepth 100000 in
theorem c_X11_many {l : Launch} {g : GG} {ad : Nat → Nat} {a0 : Int32} {I : HI} {J : HJ} {r : Int32} (h : f_X11_many a0 I J = some r) : CM l yX11_many cX11_many 2 (some .int) (rmk 0 0) g ad nO oR [.ref (ad 98), .int a0] I J (QAi g ad nO oR r I J) :=
  CM_of (by decide +kernel) (Nat.le_of_ble_eq_true rfl) (fun p e s m args below meth c C hr => w_X11_many C hr h)
set_option maxHeartbeats 4000000 in
set_option maxRecDepth 100000 in
theorem wLB_X11_keep_29 {l : Launch} {g : GG} {ad : Nat → Nat} {p : Program} {e : Env} {s : State} {m : MethodId} {args : Array Value} {below : List Frame} {meth : Method} {c : Code} {z : Int32 × HI × HJ} (C : Cx p s m args meth c RX11 cX11_keep 2 g (AW ad nO)) (hr : meth.sig.returnType = (some .int))  {r_29 : Int32 → HI → HJ → Option (Int32 × HI × HJ)} (hr_29 : ∀ {x1 : Int32} {I : HI} {J : HJ}, r_29 x1 I J = some z → V p l e (rmk 0 0) s m args below meth c (MQ below (QAi g ad nO oR z.1 z.2.1 z.2.2) args s 0 0 (AW ad nO)) 2 0 0 g (AW ad nO) ad nO oR I J 29 [(0, .ref (ad 98)), (1, .int x1)] []) {x1 : Int32} {I : HI} {J : HJ} (h : fLB_X11_keep_29 r_29 x1 I J = some z) : V p l e (rmk 0 0) s m args below meth c (MQ below (QAi g ad nO oR z.1 z.2.1 z.2.2) args s 0 0 (AW ad nO)) 2 0 0 g (AW ad nO) ad nO oR I J 29 [(0, .ref (ad 98)), (1, .int x1)] [] := by
  unfold fLB_X11_keep_29 at h
  refine r_iload_n C 1 rfl rfl dX11_keep_29 ?_
  refine r_iconst C (v := 3) (by decide) dX11_keep_30 ?_
  refine r_icmp_ge C (tgt := 52) h dX11_keep_31 (by decide) (fun h => ?_) (fun h => ?_)
  · refine r_aload_n C 0 rfl rfl dX11_keep_52 ?_
    refine r_iconst C (v := 1) (by decide) dX11_keep_53 ?_
    refine pf_X11_364 C rfl o_98 dX11_keep_54 ?_
    refine r_nmI h (fun I6 h => ?_)
    refine r_iconst C (v := 1) (by decide) dX11_keep_57 ?_
    have hz9 := Option.some.inj h
    subst hz9
    exact r_iret C hr dX11_keep_58
  · refine r_aload_n C 0 rfl rfl dX11_keep_34 ?_
    refine gf_X11_20 C rf0 o_98 (q := 102) rfl dX11_keep_35 ?_
    refine r_iload_n C 1 rfl rfl dX11_keep_38 ?_
    refine r_aload_n C 0 rfl rfl dX11_keep_39 ?_
    refine gf_X11_16 C rf0 o_98 (q := 101) rfl dX11_keep_40 ?_
    refine r_pc (pc1 := 43) rfl ?_
    refine r_iload_n C 1 rfl rfl dX11_keep_43 ?_
    refine r_lald C o_101 h dX11_keep_44 (fun h => ?_)
    refine r_last C o_102 h dX11_keep_45 (fun h => ?_)
    refine r_nmJ h (fun J7 h => ?_)
    refine r_iincN C h (k := 1) (zz := 1) rfl rfl (by decide) (lv1 := fun v8 => [(1, .int v8), (0, .ref (ad 98))]) (fun _ => rfl) dX11_keep_46 (fun v8 h => ?_)
    refine r_goto C (tgt := 29) dX11_keep_49 (by decide) ?_
    exact r_sub [1, 0] rfl (hr_29  h)
set_option maxHeartbeats 4000000 in
set_option maxRecDepth 100000 in
theorem wL_X11_keep_29 {l : Launch} {g : GG} {ad : Nat → Nat} {p : Program} {e : Env} {s : State} {m : MethodId} {args : Array Value} {below : List Frame} {meth : Method} {c : Code} {z : Int32 × HI × HJ} (C : Cx p s m args meth c RX11 cX11_keep 2 g (AW ad nO)) (hr : meth.sig.returnType = (some .int))  : ∀ (f : Nat) {x1 : Int32} {I : HI} {J : HJ}, fL_X11_keep_29 f x1 I J = some z → V p l e (rmk 0 0) s m args below meth c (MQ below (QAi g ad nO oR z.1 z.2.1 z.2.2) args s 0 0 (AW ad nO)) 2 0 0 g (AW ad nO) ad nO oR I J 29 [(0, .ref (ad 98)), (1, .int x1)] [] := by
  intro f
  induction f with
  | zero =>
    intro _ _ _  h
    have h0 : (none : Option (Int32 × HI × HJ)) = some z := h
    cases h0
  | succ f ih =>
    intro _ _ _  h
    exact wLB_X11_keep_29 C hr ih  h
set_option maxHeartbeats 4000000 in
set_option maxRecDepth 100000 in
theorem wLB_X11_keep_2 {l : Launch} {g : GG} {ad : Nat → Nat} {p : Program} {e : Env} {s : State} {m : MethodId} {args : Array Value} {below : List Frame} {meth : Method} {c : Code} {z : Int32 × HI × HJ} (C : Cx p s m args meth c RX11 cX11_keep 2 g (AW ad nO)) (hr : meth.sig.returnType = (some .int))  {r_2 : Int32 → HI → HJ → Option (Int32 × HI × HJ)} (hr_2 : ∀ {x1 : Int32} {I : HI} {J : HJ}, r_2 x1 I J = some z → V p l e (rmk 0 0) s m args below meth c (MQ below (QAi g ad nO oR z.1 z.2.1 z.2.2) args s 0 0 (AW ad nO)) 2 0 0 g (AW ad nO) ad nO oR I J 2 [(0, .ref (ad 98)), (1, .int x1)] []) {x1 : Int32} {I : HI} {J : HJ} (h : fLB_X11_keep_2 r_2 x1 I J = some z) : V p l e (rmk 0 0) s m args below meth c (MQ below (QAi g ad nO oR z.1 z.2.1 z.2.2) args s 0 0 (AW ad nO)) 2 0 0 g (AW ad nO) ad nO oR I J 2 [(0, .ref (ad 98)), (1, .int x1)] [] := by
  unfold fLB_X11_keep_2 at h
  refine r_iload_n C 1 rfl rfl dX11_keep_2 ?_
  refine r_sipush C (v := 666) (by decide) dX11_keep_3 ?_
  refine r_icmp_ge C (tgt := 27) h dX11_keep_6 (by decide) (fun h => ?_) (fun h => ?_)
  · refine r_iconst C (v := 0) (by decide) dX11_keep_27 ?_
    refine r_istore_n C (lv1 := [(1, .int (0 : Int32)), (0, .ref (ad 98))]) rfl (by decide) rfl dX11_keep_28 ?_
    exact r_sub [1, 0] rfl (wL_X11_keep_29 C hr _  h)
  · refine r_aload_n C 0 rfl rfl dX11_keep_9 ?_
    refine gf_X11_13 C rf0 o_98 (q := 100) rfl dX11_keep_10 ?_
    refine r_iload_n C 1 rfl rfl dX11_keep_13 ?_
    refine r_aload_n C 0 rfl rfl dX11_keep_14 ?_
    refine gf_X11_7 C rf0 o_98 (q := 99) rfl dX11_keep_15 ?_
    refine r_pc (pc1 := 18) rfl ?_
    refine r_iload_n C 1 rfl rfl dX11_keep_18 ?_
    refine r_iald C o_99 h dX11_keep_19 (fun h => ?_)
    refine r_iast C o_100 h dX11_keep_20 (fun h => ?_)
    refine r_nmI h (fun I9 h => ?_)
    refine r_iincN C h (k := 1) (zz := 1) rfl rfl (by decide) (lv1 := fun v10 => [(1, .int v10), (0, .ref (ad 98))]) (fun _ => rfl) dX11_keep_21 (fun v10 h => ?_)
    refine r_goto C (tgt := 2) dX11_keep_24 (by decide) ?_
    exact r_sub [1, 0] rfl (hr_2  h)
set_option maxHeartbeats 4000000 in
set_option maxRecDepth 100000 in
theorem wL_X11_keep_2 {l : Launch} {g : GG} {ad : Nat → Nat} {p : Program} {e : Env} {s : State} {m : MethodId} {args : Array Value} {below : List Frame} {meth : Method} {c : Code} {z : Int32 × HI × HJ} (C : Cx p s m args meth c RX11 cX11_keep 2 g (AW ad nO)) (hr : meth.sig.returnType = (some .int))  : ∀ (f : Nat) {x1 : Int32} {I : HI} {J : HJ}, fL_X11_keep_2 f x1 I J = some z → V p l e (rmk 0 0) s m args below meth c (MQ below (QAi g ad nO oR z.1 z.2.1 z.2.2) args s 0 0 (AW ad nO)) 2 0 0 g (AW ad nO) ad nO oR I J 2 [(0, .ref (ad 98)), (1, .int x1)] [] := by
  intro f
  induction f with
  | zero =>
    intro _ _ _  h
    have h0 : (none : Option (Int32 × HI × HJ)) = some z := h
    cases h0
  | succ f ih =>
    intro _ _ _  h
    exact wLB_X11_keep_2 C hr ih  h
set_option maxHeartbeats 4000000 in
set_option maxRecDepth 100000 in
theorem w_X11_keep {l : Launch} {g : GG} {ad : Nat → Nat} {p : Program} {e : Env} {s : State} {m : MethodId} {args : Array Value} {below : List Frame} {meth : Method} {c : Code} {z : Int32 × HI × HJ} (C : Cx p s m args meth c RX11 cX11_keep 2 g (AW ad nO)) (hr : meth.sig.returnType = (some .int)) {I : HI} {J : HJ} (h : f_X11_keep I J = some z) : V p l e (rmk 0 0) s m args below meth c (MQ below (QAi g ad nO oR z.1 z.2.1 z.2.2) args s 0 0 (AW ad nO)) 2 0 0 g (AW ad nO) ad nO oR I J 0 [(0, .ref (ad 98))] [] := by
  unfold f_X11_keep at h
  refine r_iconst C (v := 0) (by decide) dX11_keep_0 ?_
  refine r_istore_n C (lv1 := [(1, .int (0 : Int32)), (0, .ref (ad 98))]) rfl (by decide) rfl dX11_keep_1 ?_
  exact r_sub [1, 0] rfl (wL_X11_keep_2 C hr _  h)
set_option maxHeartbeats 4000000 in
set_option maxRecDepth 100000 in
theorem c_X11_keep {l : Launch} {g : GG} {ad : Nat → Nat} {I : HI} {J : HJ} {r : Int32} {I1 : HI} {J1 : HJ} (h : f_X11_keep I J = some (r, I1, J1)) : CM l yX11_keep cX11_keep 2 (some .int) (rmk 0 0) g ad nO oR [.ref (ad 98)] I J (QAi g ad nO oR r I1 J1) :=
  CM_of (by decide +kernel) (Nat.le_of_ble_eq_true rfl) (fun p e s m args below meth c C hr => w_X11_keep C hr h)

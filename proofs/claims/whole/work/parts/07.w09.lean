set_option maxHeartbeats 4000000 in
set_option maxRecDepth 100000 in
theorem wB_X11_span_102 {l : Launch} {g : GG} {ad : Nat → Nat} {p : Program} {e : Env} {s : State} {m : MethodId} {args : Array Value} {below : List Frame} {meth : Method} {c : Code} {a0 : Int32} {z : Int32 × HI} (C : Cx p s m args meth c RX11 cX11_span 6 g (AW ad nO)) (hr : meth.sig.returnType = (some .int)) {r_48 : Int32 → Int32 → Int32 → Int32 → HI → HJ → Option (Int32 × HI)} {J : HJ} (hr_48 : ∀ {x2 : Int32} {x3 : Int32} {x4 : Int32} {x5 : Int32} {I : HI}, r_48 x2 x3 x4 x5 I J = some z → V p l e (rmk 1 25) s m args below meth c (MQ below (QAi g ad nO oR z.1 z.2 J) args s 0 0 (AW ad nO)) 6 0 0 g (AW ad nO) ad nO oR I J 48 [(0, .ref (ad 98)), (1, .int a0), (2, .int x2), (3, .int x3), (4, .int x4), (5, .int x5)] []) {x2 : Int32} {x4 : Int32} {x5 : Int32} {s0 : Int32} {I : HI} (h : fB_X11_span_102 a0 r_48 x2 x4 x5 s0 I J = some z) : V p l e (rmk 1 25) s m args below meth c (MQ below (QAi g ad nO oR z.1 z.2 J) args s 0 0 (AW ad nO)) 6 0 0 g (AW ad nO) ad nO oR I J 102 [(0, .ref (ad 98)), (1, .int a0), (2, .int x2), (4, .int x4), (5, .int x5)] [.int s0] := by
  unfold fB_X11_span_102 at h
  refine r_istore_n C (lv1 := [(3, .int s0), (0, .ref (ad 98)), (1, .int a0), (2, .int x2), (4, .int x4), (5, .int x5)]) rfl (by decide) rfl dX11_span_102 ?_
  refine r_iload C 4 rfl dX11_span_103 ?_
  refine r_aload_n C 1 rfl rfl dX11_span_105 ?_
  refine gf_X11_56 C rf0 o_98 (q := 114) rfl dX11_span_106 ?_
  refine r_iload C 5 rfl dX11_span_109 ?_
  refine r_iald C o_114 h dX11_span_111 (fun h => ?_)
  refine r_iadd C dX11_span_112 ?_
  refine r_nmi h (fun v9 h => ?_)
  refine r_istore C (lv1 := [(4, .int v9), (3, .int s0), (0, .ref (ad 98)), (1, .int a0), (2, .int x2), (5, .int x5)]) (by decide) rfl dX11_span_113 ?_
  refine r_iincN C h (k := 5) (zz := 1) rfl rfl (by decide) (lv1 := fun v10 => [(5, .int v10), (4, .int v9), (3, .int s0), (0, .ref (ad 98)), (1, .int a0), (2, .int x2)]) (fun _ => rfl) dX11_span_115 (fun v10 h => ?_)
  refine r_goto C (tgt := 48) dX11_span_118 (by decide) ?_
  exact r_sub [3, 4, 5, 2, 1, 0] rfl (hr_48  h)
set_option maxHeartbeats 4000000 in
set_option maxRecDepth 100000 in
theorem wB_X11_span_79 {l : Launch} {g : GG} {ad : Nat → Nat} {p : Program} {e : Env} {s : State} {m : MethodId} {args : Array Value} {below : List Frame} {meth : Method} {c : Code} {a0 : Int32} {z : Int32 × HI} (C : Cx p s m args meth c RX11 cX11_span 6 g (AW ad nO)) (hr : meth.sig.returnType = (some .int)) {r_48 : Int32 → Int32 → Int32 → Int32 → HI → HJ → Option (Int32 × HI)} {J : HJ} (hr_48 : ∀ {x2 : Int32} {x3 : Int32} {x4 : Int32} {x5 : Int32} {I : HI}, r_48 x2 x3 x4 x5 I J = some z → V p l e (rmk 1 25) s m args below meth c (MQ below (QAi g ad nO oR z.1 z.2 J) args s 0 0 (AW ad nO)) 6 0 0 g (AW ad nO) ad nO oR I J 48 [(0, .ref (ad 98)), (1, .int a0), (2, .int x2), (3, .int x3), (4, .int x4), (5, .int x5)] []) {x3 : Int32} {x4 : Int32} {x5 : Int32} {s0 : Int32} {I : HI} (h : fB_X11_span_79 a0 r_48 x3 x4 x5 s0 I J = some z) : V p l e (rmk 1 25) s m args below meth c (MQ below (QAi g ad nO oR z.1 z.2 J) args s 0 0 (AW ad nO)) 6 0 0 g (AW ad nO) ad nO oR I J 79 [(0, .ref (ad 98)), (1, .int a0), (3, .int x3), (4, .int x4), (5, .int x5)] [.int s0] := by
  unfold fB_X11_span_79 at h
  refine r_istore_n C (lv1 := [(2, .int s0), (0, .ref (ad 98)), (1, .int a0), (3, .int x3), (4, .int x4), (5, .int x5)]) rfl (by decide) rfl dX11_span_79 ?_
  refine r_aload_n C 1 rfl rfl dX11_span_80 ?_
  refine gf_X11_56 C rf0 o_98 (q := 114) rfl dX11_span_81 ?_
  refine r_iload C 5 rfl dX11_span_84 ?_
  refine r_iald C o_114 h dX11_span_86 (fun h => ?_)
  refine r_iload_n C 3 rfl rfl dX11_span_87 ?_
  refine r_icmp_le C (tgt := 101) h dX11_span_88 (by decide) (fun h => ?_) (fun h => ?_)
  · refine r_iload_n C 3 rfl rfl dX11_span_101 ?_
    exact r_sub [1, 2, 0, 4, 5] rfl (wB_X11_span_102 C hr hr_48  h)
  · refine r_aload_n C 1 rfl rfl dX11_span_91 ?_
    refine gf_X11_56 C rf0 o_98 (q := 114) rfl dX11_span_92 ?_
    refine r_iload C 5 rfl dX11_span_95 ?_
    refine r_iald C o_114 h dX11_span_97 (fun h => ?_)
    refine r_goto C (tgt := 102) dX11_span_98 (by decide) ?_
    exact r_sub [1, 2, 0, 4, 5] rfl (wB_X11_span_102 C hr hr_48  h)
set_option maxHeartbeats 4000000 in
set_option maxRecDepth 100000 in
theorem wLB_X11_span_48 {l : Launch} {g : GG} {ad : Nat → Nat} {p : Program} {e : Env} {s : State} {m : MethodId} {args : Array Value} {below : List Frame} {meth : Method} {c : Code} {a0 : Int32} {z : Int32 × HI} (C : Cx p s m args meth c RX11 cX11_span 6 g (AW ad nO)) (hr : meth.sig.returnType = (some .int)) {J : HJ}  {r_48 : Int32 → Int32 → Int32 → Int32 → HI → HJ → Option (Int32 × HI)} (hr_48 : ∀ {x2 : Int32} {x3 : Int32} {x4 : Int32} {x5 : Int32} {I : HI}, r_48 x2 x3 x4 x5 I J = some z → V p l e (rmk 1 25) s m args below meth c (MQ below (QAi g ad nO oR z.1 z.2 J) args s 0 0 (AW ad nO)) 6 0 0 g (AW ad nO) ad nO oR I J 48 [(0, .ref (ad 98)), (1, .int a0), (2, .int x2), (3, .int x3), (4, .int x4), (5, .int x5)] []) {x2 : Int32} {x3 : Int32} {x4 : Int32} {x5 : Int32} {I : HI} (h : fLB_X11_span_48 a0 r_48 x2 x3 x4 x5 I J = some z) : V p l e (rmk 1 25) s m args below meth c (MQ below (QAi g ad nO oR z.1 z.2 J) args s 0 0 (AW ad nO)) 6 0 0 g (AW ad nO) ad nO oR I J 48 [(0, .ref (ad 98)), (1, .int a0), (2, .int x2), (3, .int x3), (4, .int x4), (5, .int x5)] [] := by
  unfold fLB_X11_span_48 at h
  refine r_iload C 5 rfl dX11_span_48 ?_
  refine r_aload_n C 0 rfl rfl dX11_span_50 ?_
  refine gf_X11_228 C o_98 dX11_span_51 ?_
  refine r_icmp_ge C (tgt := 121) h dX11_span_54 (by decide) (fun h => ?_) (fun h => ?_)
  · refine r_iload_n C 1 rfl rfl dX11_span_121 ?_
    refine r_if_ne C (tgt := 129) h dX11_span_122 (by decide) (fun h => ?_) (fun h => ?_)
    · refine r_iload_n C 1 rfl rfl dX11_span_129 ?_
      refine r_iconst C (v := 1) (by decide) dX11_span_130 ?_
      refine r_icmp_ne C (tgt := 138) h dX11_span_131 (by decide) (fun h => ?_) (fun h => ?_)
      · refine r_iload C 4 rfl dX11_span_138 ?_
        have hz9 := Option.some.inj h
        subst hz9
        exact r_iret C hr dX11_span_140
      · refine r_iload_n C 3 rfl rfl dX11_span_134 ?_
        refine r_goto C (tgt := 140) dX11_span_135 (by decide) ?_
        have hz9 := Option.some.inj h
        subst hz9
        exact r_iret C hr dX11_span_140
    · refine r_iload_n C 2 rfl rfl dX11_span_125 ?_
      refine r_goto C (tgt := 140) dX11_span_126 (by decide) ?_
      have hz9 := Option.some.inj h
      subst hz9
      exact r_iret C hr dX11_span_140
  · refine r_aload_n C 0 rfl rfl dX11_span_57 ?_
    refine gf_X11_56 C rf0 o_98 (q := 114) rfl dX11_span_58 ?_
    refine r_iload C 5 rfl dX11_span_61 ?_
    refine r_iald C o_114 h dX11_span_63 (fun h => ?_)
    refine r_iload_n C 2 rfl rfl dX11_span_64 ?_
    refine r_icmp_ge C (tgt := 78) h dX11_span_65 (by decide) (fun h => ?_) (fun h => ?_)
    · refine r_iload_n C 2 rfl rfl dX11_span_78 ?_
      exact r_sub [0, 1, 3, 4, 5] rfl (wB_X11_span_79 C hr hr_48  h)
    · refine r_aload_n C 0 rfl rfl dX11_span_68 ?_
      refine gf_X11_56 C rf0 o_98 (q := 114) rfl dX11_span_69 ?_
      refine r_iload C 5 rfl dX11_span_72 ?_
      refine r_iald C o_114 h dX11_span_74 (fun h => ?_)
      refine r_goto C (tgt := 79) dX11_span_75 (by decide) ?_
      exact r_sub [0, 1, 3, 4, 5] rfl (wB_X11_span_79 C hr hr_48  h)
set_option maxHeartbeats 4000000 in
set_option maxRecDepth 100000 in
theorem wL_X11_span_48 {l : Launch} {g : GG} {ad : Nat → Nat} {p : Program} {e : Env} {s : State} {m : MethodId} {args : Array Value} {below : List Frame} {meth : Method} {c : Code} {a0 : Int32} {z : Int32 × HI} (C : Cx p s m args meth c RX11 cX11_span 6 g (AW ad nO)) (hr : meth.sig.returnType = (some .int)) {J : HJ}  : ∀ (f : Nat) {x2 : Int32} {x3 : Int32} {x4 : Int32} {x5 : Int32} {I : HI}, fL_X11_span_48 a0 f x2 x3 x4 x5 I J = some z → V p l e (rmk 1 25) s m args below meth c (MQ below (QAi g ad nO oR z.1 z.2 J) args s 0 0 (AW ad nO)) 6 0 0 g (AW ad nO) ad nO oR I J 48 [(0, .ref (ad 98)), (1, .int a0), (2, .int x2), (3, .int x3), (4, .int x4), (5, .int x5)] [] := by
  intro f
  induction f with
  | zero =>
    intro _ _ _ _ _  h
    have h0 : (none : Option (Int32 × HI)) = some z := h
    cases h0
  | succ f ih =>
    intro _ _ _ _ _  h
    exact wLB_X11_span_48 C hr ih  h
set_option maxHeartbeats 4000000 in
set_option maxRecDepth 100000 in
theorem w_X11_span {l : Launch} {g : GG} {ad : Nat → Nat} {p : Program} {e : Env} {s : State} {m : MethodId} {args : Array Value} {below : List Frame} {meth : Method} {c : Code} {a0 : Int32} {z : Int32 × HI} (C : Cx p s m args meth c RX11 cX11_span 6 g (AW ad nO)) (hr : meth.sig.returnType = (some .int)) {I : HI} {J : HJ} (h : f_X11_span a0 I J = some z) : V p l e (rmk 1 25) s m args below meth c (MQ below (QAi g ad nO oR z.1 z.2 J) args s 0 0 (AW ad nO)) 6 0 0 g (AW ad nO) ad nO oR I J 0 [(0, .ref (ad 98)), (1, .int a0)] [] := by
  unfold f_X11_span at h
  refine r_iload_n C 1 rfl rfl dX11_span_0 ?_
  refine r_i2l C dX11_span_1 ?_
  refine r_lconst C (v := 0) (by decide) dX11_span_2 ?_
  refine r_ldc2 C (v := 2) lk_X11_258 dX11_span_3 ?_
  obtain ⟨r11, hq12, h⟩ := bd1_ h
  refine r_csi C (rest := []) (c_X11_in  hq12) fm_X11_in lk_X11_114 rfl ⟨rfl, rfl, Nat.le_of_ble_eq_true rfl, Nat.le_of_ble_eq_true rfl⟩ (Nat.le_of_ble_eq_true rfl) rfl dX11_span_6 ?_
  refine r_if_ne C (tgt := 14) h dX11_span_9 (by decide) (fun h => ?_) (fun h => ?_)
  · refine r_aload_n C 0 rfl rfl dX11_span_14 ?_
    obtain ⟨I13, hq14, h⟩ := bd1_ h
    refine r_cvv C (rest := []) (c_X11_looks  hq14) fm_X11_looks lk_X11_237 o_98 ⟨_, ct_10 o_98.1⟩ rfl rfl ⟨rfl, rfl, Nat.le_of_ble_eq_true rfl, Nat.le_of_ble_eq_true rfl⟩ (Nat.le_of_ble_eq_true rfl) rfl dX11_span_15 ?_
    refine r_aload_n C 0 rfl rfl dX11_span_18 ?_
    refine gf_X11_228 C o_98 dX11_span_19 ?_
    refine r_if_ne C (tgt := 28) h dX11_span_22 (by decide) (fun h => ?_) (fun h => ?_)
    · refine r_aload_n C 0 rfl rfl dX11_span_28 ?_
      refine gf_X11_56 C rf0 o_98 (q := 114) rfl dX11_span_29 ?_
      refine r_iconst C (v := 0) (by decide) dX11_span_32 ?_
      refine r_iald C o_114 h dX11_span_33 (fun h => ?_)
      refine r_nmi h (fun v15 h => ?_)
      refine r_istore_n C (lv1 := [(2, .int v15), (0, .ref (ad 98)), (1, .int a0)]) rfl (by decide) rfl dX11_span_34 ?_
      refine r_aload_n C 1 rfl rfl dX11_span_35 ?_
      refine gf_X11_56 C rf0 o_98 (q := 114) rfl dX11_span_36 ?_
      refine r_iconst C (v := 0) (by decide) dX11_span_39 ?_
      refine r_iald C o_114 h dX11_span_40 (fun h => ?_)
      refine r_nmi h (fun v16 h => ?_)
      refine r_istore_n C (lv1 := [(3, .int v16), (2, .int v15), (0, .ref (ad 98)), (1, .int a0)]) rfl (by decide) rfl dX11_span_41 ?_
      refine r_iconst C (v := 0) (by decide) dX11_span_42 ?_
      refine r_istore C (lv1 := [(4, .int (0 : Int32)), (3, .int v16), (2, .int v15), (0, .ref (ad 98)), (1, .int a0)]) (by decide) rfl dX11_span_43 ?_
      refine r_iconst C (v := 0) (by decide) dX11_span_45 ?_
      refine r_istore C (lv1 := [(5, .int (0 : Int32)), (4, .int (0 : Int32)), (3, .int v16), (2, .int v15), (0, .ref (ad 98)), (1, .int a0)]) (by decide) rfl dX11_span_46 ?_
      exact r_sub [4, 5, 3, 2, 1, 0] rfl (wL_X11_span_48 C hr _  h)
    · refine r_bipush C (v := -3) (by decide) dX11_span_25 ?_
      have hz9 := Option.some.inj h
      subst hz9
      exact r_iret C hr dX11_span_27
  · refine r_iconst C (v := -1) (by decide) dX11_span_12 ?_
    have hz9 := Option.some.inj h
    subst hz9
    exact r_iret C hr dX11_span_13
set_option maxHeartbeats 4000000 in
set_option maxRecDepth 100000 in
theorem c_X11_span {l : Launch} {g : GG} {ad : Nat → Nat} {a0 : Int32} {I : HI} {J : HJ} {r : Int32} {I1 : HI} (h : f_X11_span a0 I J = some (r, I1)) : CM l yX11_span cX11_span 6 (some .int) (rmk 1 25) g ad nO oR [.ref (ad 98), .int a0] I J (QAi g ad nO oR r I1 J) :=
  CM_of (by decide +kernel) (Nat.le_of_ble_eq_true rfl) (fun p e s m args below meth c C hr => w_X11_span C hr h)
set_option maxHeartbeats 4000000 in
set_option maxRecDepth 100000 in
theorem w_X11_gridOf {l : Launch} {g : GG} {ad : Nat → Nat} {p : Program} {e : Env} {s : State} {m : MethodId} {args : Array Value} {below : List Frame} {meth : Method} {c : Code} {a0 : Int32} {z : Int32 × HI × HJ} (C : Cx p s m args meth c RX11 cX11_gridOf 2 g (AW ad nO)) (hr : meth.sig.returnType = (some .int)) {I : HI} {J : HJ} (h : f_X11_gridOf a0 I J = some z) : V p l e (rmk 5 110) s m args below meth c (MQ below (QAi g ad nO oR z.1 z.2.1 z.2.2) args s 0 0 (AW ad nO)) 2 0 0 g (AW ad nO) ad nO oR I J 0 [(0, .ref (ad 98)), (1, .int a0)] [] := by
  unfold f_X11_gridOf at h
  refine r_aload_n C 0 rfl rfl dX11_gridOf_0 ?_
  obtain ⟨I12, J13, hq14, h⟩ := bd2_ h
  refine r_cvv C (rest := []) (c_X11_opens  hq14) fm_X11_opens lk_X11_130 o_98 ⟨_, ct_10 o_98.1⟩ rfl rfl ⟨rfl, rfl, Nat.le_of_ble_eq_true rfl, Nat.le_of_ble_eq_true rfl⟩ (Nat.le_of_ble_eq_true rfl) rfl dX11_gridOf_1 ?_
  refine r_aload_n C 0 rfl rfl dX11_gridOf_4 ?_
  refine gf_X11_32 C rf0 o_98 (q := 106) rfl dX11_gridOf_5 ?_
  refine r_bipush C (v := 6) (by decide) dX11_gridOf_8 ?_
  refine r_iload_n C 1 rfl rfl dX11_gridOf_10 ?_
  refine r_iast C o_106 h dX11_gridOf_11 (fun h => ?_)
  refine r_nmI h (fun I15 h => ?_)
  refine r_aload_n C 0 rfl rfl dX11_gridOf_12 ?_
  refine r_sipush C (v := 400) (by decide) dX11_gridOf_13 ?_
  obtain ⟨I16, J17, hq18, h⟩ := bd2_ h
  refine r_cvv C (rest := []) (c_X11_trial  hq18) fm_X11_trial lk_X11_260 o_98 ⟨_, ct_10 o_98.1⟩ rfl rfl ⟨rfl, rfl, Nat.le_of_ble_eq_true rfl, Nat.le_of_ble_eq_true rfl⟩ (Nat.le_of_ble_eq_true rfl) rfl dX11_gridOf_16 ?_
  refine r_aload_n C 0 rfl rfl dX11_gridOf_19 ?_
  obtain ⟨I19, hq20, h⟩ := bd1_ h
  refine r_cvv C (rest := []) (c_X11_looksAtTrial  hq20) fm_X11_looksAtTrial lk_X11_263 o_98 ⟨_, ct_10 o_98.1⟩ rfl rfl ⟨rfl, rfl, Nat.le_of_ble_eq_true rfl, Nat.le_of_ble_eq_true rfl⟩ (Nat.le_of_ble_eq_true rfl) rfl dX11_gridOf_20 ?_
  refine r_aload_n C 0 rfl rfl dX11_gridOf_23 ?_
  obtain ⟨r21, hq22, h⟩ := bd1_ h
  refine r_cvi C (rest := []) (c_X11_periodOf  hq22) fm_X11_periodOf lk_X11_234 o_98 ⟨_, ct_10 o_98.1⟩ rfl rfl ⟨rfl, rfl, Nat.le_of_ble_eq_true rfl, Nat.le_of_ble_eq_true rfl⟩ (Nat.le_of_ble_eq_true rfl) rfl dX11_gridOf_24 ?_
  have hz9 := Option.some.inj h
  subst hz9
  exact r_iret C hr dX11_gridOf_27
set_option maxHeartbeats 4000000 in
set_option maxRecDepth 100000 in
theorem c_X11_gridOf {l : Launch} {g : GG} {ad : Nat → Nat} {a0 : Int32} {I : HI} {J : HJ} {r : Int32} {I1 : HI} {J1 : HJ} (h : f_X11_gridOf a0 I J = some (r, I1, J1)) : CM l yX11_gridOf cX11_gridOf 2 (some .int) (rmk 5 110) g ad nO oR [.ref (ad 98), .int a0] I J (QAi g ad nO oR r I1 J1) :=
  CM_of (by decide +kernel) (Nat.le_of_ble_eq_true rfl) (fun p e s m args below meth c C hr => w_X11_gridOf C hr h)
set_option maxHeartbeats 4000000 in
set_option maxRecDepth 100000 in
theorem w_X11_grid {l : Launch} {g : GG} {ad : Nat → Nat} {p : Program} {e : Env} {s : State} {m : MethodId} {args : Array Value} {below : List Frame} {meth : Method} {c : Code} {a0 : Int32} {z : Int32 × HI × HJ} (C : Cx p s m args meth c RX11 cX11_grid 2 g (AW ad nO)) (hr : meth.sig.returnType = (some .int)) {I : HI} {J : HJ} (h : f_X11_grid a0 I J = some z) : V p l e (rmk 6 131) s m args below meth c (MQ below (QAi g ad nO oR z.1 z.2.1 z.2.2) args s 0 0 (AW ad nO)) 2 0 0 g (AW ad nO) ad nO oR I J 0 [(0, .ref (ad 98)), (1, .int a0)] [] := by
  unfold f_X11_grid at h
  refine r_iload_n C 1 rfl rfl dX11_grid_0 ?_
  refine r_i2l C dX11_grid_1 ?_
  refine r_lconst C (v := 0) (by decide) dX11_grid_2 ?_
  refine r_ldc2 C (v := 99) lk_X11_126 dX11_grid_3 ?_
  obtain ⟨r7, hq8, h⟩ := bd1_ h
  refine r_csi C (rest := []) (c_X11_in  hq8) fm_X11_in lk_X11_114 rfl ⟨rfl, rfl, Nat.le_of_ble_eq_true rfl, Nat.le_of_ble_eq_true rfl⟩ (Nat.le_of_ble_eq_true rfl) rfl dX11_grid_6 ?_
  refine r_if_eq C (tgt := 20) h dX11_grid_9 (by decide) (fun h => ?_) (fun h => ?_)
  · refine r_iconst C (v := -1) (by decide) dX11_grid_20 ?_
    have hz9 := Option.some.inj h
    subst hz9
    exact r_iret C hr dX11_grid_21
  · refine r_aload_n C 0 rfl rfl dX11_grid_12 ?_
    refine r_iload_n C 1 rfl rfl dX11_grid_13 ?_
    obtain ⟨r9, I10, J11, hq12, h⟩ := bd3_ h
    refine r_cvi C (rest := []) (c_X11_gridOf  hq12) fm_X11_gridOf lk_X11_266 o_98 ⟨_, ct_10 o_98.1⟩ rfl rfl ⟨rfl, rfl, Nat.le_of_ble_eq_true rfl, Nat.le_of_ble_eq_true rfl⟩ (Nat.le_of_ble_eq_true rfl) rfl dX11_grid_14 ?_
    refine r_goto C (tgt := 21) dX11_grid_17 (by decide) ?_
    have hz9 := Option.some.inj h
    subst hz9
    exact r_iret C hr dX11_grid_21
set_option maxHeartbeats 4000000 in
set_option maxRecDepth 100000 in
theorem c_X11_grid {l : Launch} {g : GG} {ad : Nat → Nat} {a0 : Int32} {I : HI} {J : HJ} {r : Int32} {I1 : HI} {J1 : HJ} (h : f_X11_grid a0 I J = some (r, I1, J1)) : CM l yX11_grid cX11_grid 2 (some .int) (rmk 6 131) g ad nO oR [.ref (ad 98), .int a0] I J (QAi g ad nO oR r I1 J1) :=
  CM_of (by decide +kernel) (Nat.le_of_ble_eq_true rfl) (fun p e s m args below meth c C hr => w_X11_grid C hr h)
set_option maxHeartbeats 4000000 in
set_option maxRecDepth 100000 in
theorem w_X11_isSpan {l : Launch} {g : GG} {ad : Nat → Nat} {p : Program} {e : Env} {s : State} {m : MethodId} {args : Array Value} {below : List Frame} {meth : Method} {c : Code} {a0 : Int32} {a1 : Int32} {z : Int32} (C : Cx p s m args meth c RX11 cX11_isSpan 2 g (AW ad nO)) (hr : meth.sig.returnType = (some .boolean)) {I : HI} {J : HJ} (h : f_X11_isSpan a0 a1 = some z) : V p l e (rmk 1 25) s m args below meth c (MQ below (QAi g ad nO oR z I J) args s 0 0 (AW ad nO)) 2 0 0 g (AW ad nO) ad nO oR I J 0 [(0, .int a0), (1, .int a1)] [] := by
  unfold f_X11_isSpan at h
  refine r_iload_n C 0 rfl rfl dX11_isSpan_0 ?_
  refine r_i2l C dX11_isSpan_1 ?_
  refine r_lconst C (v := 0) (by decide) dX11_isSpan_2 ?_
  refine r_ldc2 C (v := 99) lk_X11_126 dX11_isSpan_3 ?_
  obtain ⟨r5, hq6, h⟩ := bd1_ h
  refine r_csi C (rest := []) (c_X11_in  hq6) fm_X11_in lk_X11_114 rfl ⟨rfl, rfl, Nat.le_of_ble_eq_true rfl, Nat.le_of_ble_eq_true rfl⟩ (Nat.le_of_ble_eq_true rfl) rfl dX11_isSpan_6 ?_
  refine r_if_eq C (tgt := 37) h dX11_isSpan_9 (by decide) (fun h => ?_) (fun h => ?_)
  · refine r_iconst C (v := 0) (by decide) dX11_isSpan_37 ?_
    have hz9 := Option.some.inj h
    subst hz9
    exact r_zret C (v := (0 : Int32)) rfl hr dX11_isSpan_38
  · refine r_iload_n C 1 rfl rfl dX11_isSpan_12 ?_
    refine r_i2l C dX11_isSpan_13 ?_
    refine r_iload_n C 0 rfl rfl dX11_isSpan_14 ?_
    refine r_i2l C dX11_isSpan_15 ?_
    refine r_ldc2 C (v := 99) lk_X11_126 dX11_isSpan_16 ?_
    refine r_pc (pc1 := 19) rfl ?_
    obtain ⟨r7, hq8, h⟩ := bd1_ h
    refine r_csi C (rest := []) (c_X11_in  hq8) fm_X11_in lk_X11_114 rfl ⟨rfl, rfl, Nat.le_of_ble_eq_true rfl, Nat.le_of_ble_eq_true rfl⟩ (Nat.le_of_ble_eq_true rfl) rfl dX11_isSpan_19 ?_
    refine r_if_eq C (tgt := 37) h dX11_isSpan_22 (by decide) (fun h => ?_) (fun h => ?_)
    · refine r_iconst C (v := 0) (by decide) dX11_isSpan_37 ?_
      have hz9 := Option.some.inj h
      subst hz9
      exact r_zret C (v := (0 : Int32)) rfl hr dX11_isSpan_38
    · refine r_iload_n C 1 rfl rfl dX11_isSpan_25 ?_
      refine r_iload_n C 0 rfl rfl dX11_isSpan_26 ?_
      refine r_isub C dX11_isSpan_27 ?_
      refine r_bipush C (v := 20) (by decide) dX11_isSpan_28 ?_
      refine r_icmp_gt C (tgt := 37) h dX11_isSpan_30 (by decide) (fun h => ?_) (fun h => ?_)
      · refine r_iconst C (v := 0) (by decide) dX11_isSpan_37 ?_
        have hz9 := Option.some.inj h
        subst hz9
        exact r_zret C (v := (0 : Int32)) rfl hr dX11_isSpan_38
      · refine r_iconst C (v := 1) (by decide) dX11_isSpan_33 ?_
        refine r_goto C (tgt := 38) dX11_isSpan_34 (by decide) ?_
        have hz9 := Option.some.inj h
        subst hz9
        exact r_zret C (v := (1 : Int32)) rfl hr dX11_isSpan_38
set_option maxHeartbeats 4000000 in
set_option maxRecDepth 100000 in
theorem c_X11_isSpan {l : Launch} {g : GG} {ad : Nat → Nat} {a0 : Int32} {a1 : Int32} {I : HI} {J : HJ} {r : Int32} (h : f_X11_isSpan a0 a1 = some r) : CM l yX11_isSpan cX11_isSpan 2 (some .boolean) (rmk 1 25) g ad nO oR [.int a0, .int a1] I J (QAi g ad nO oR r I J) :=
  CM_of (by decide +kernel) (Nat.le_of_ble_eq_true rfl) (fun p e s m args below meth c C hr => w_X11_isSpan C hr h)
set_option maxHeartbeats 4000000 in
set_option maxRecDepth 100000 in
theorem wB_X11_doubling_50 {l : Launch} {g : GG} {ad : Nat → Nat} {p : Program} {e : Env} {s : State} {m : MethodId} {args : Array Value} {below : List Frame} {meth : Method} {c : Code} {a0 : Int32} {a1 : Int32} {z : Int32 × HI × HJ} (C : Cx p s m args meth c RX11 cX11_doubling 6 g (AW ad nO)) (hr : meth.sig.returnType = (some .int)) {r_21 : Int32 → Int32 → HI → HJ → Option (Int32 × HI × HJ)} (hr_21 : ∀ {x3 : Int32} {x4 : Int32} {I : HI} {J : HJ}, r_21 x3 x4 I J = some z → V p l e (rmk 6 131) s m args below meth c (MQ below (QAi g ad nO oR z.1 z.2.1 z.2.2) args s 0 0 (AW ad nO)) 6 0 0 g (AW ad nO) ad nO oR I J 21 [(0, .ref (ad 98)), (2, .int a1), (3, .int x3), (4, .int x4)] []) {x4 : Int32} {x5 : Int32} {I : HI} {J : HJ} (h : fB_X11_doubling_50 a0 a1 r_21 x4 x5 I J = some z) : V p l e (rmk 6 131) s m args below meth c (MQ below (QAi g ad nO oR z.1 z.2.1 z.2.2) args s 0 0 (AW ad nO)) 6 0 0 g (AW ad nO) ad nO oR I J 50 [(0, .ref (ad 98)), (2, .int a1), (4, .int x4), (5, .int x5)] [] := by
  unfold fB_X11_doubling_50 at h
  refine r_iload C 3 rfl dX11_doubling_50 ?_
  refine r_istore_n C (lv1 := [(3, .int x5), (0, .ref (ad 98)), (2, .int a1), (4, .int x4), (5, .int x5)]) rfl (by decide) rfl dX11_doubling_52 ?_
  refine r_iincN C h (k := 3) (zz := 1) rfl rfl (by decide) (lv1 := fun v13 => [(4, .int v13), (3, .int x5), (0, .ref (ad 98)), (2, .int a1), (5, .int x5)]) (fun _ => rfl) dX11_doubling_53 (fun v13 h => ?_)
  refine r_goto C (tgt := 21) dX11_doubling_56 (by decide) ?_
  exact r_sub [2, 3, 1, 0] rfl (hr_21  h)
set_option maxHeartbeats 4000000 in
set_option maxRecDepth 100000 in
theorem wLB_X11_doubling_21 {l : Launch} {g : GG} {ad : Nat → Nat} {p : Program} {e : Env} {s : State} {m : MethodId} {args : Array Value} {below : List Frame} {meth : Method} {c : Code} {a0 : Int32} {a1 : Int32} {z : Int32 × HI × HJ} (C : Cx p s m args meth c RX11 cX11_doubling 6 g (AW ad nO)) (hr : meth.sig.returnType = (some .int))  {r_21 : Int32 → Int32 → HI → HJ → Option (Int32 × HI × HJ)} (hr_21 : ∀ {x3 : Int32} {x4 : Int32} {I : HI} {J : HJ}, r_21 x3 x4 I J = some z → V p l e (rmk 6 131) s m args below meth c (MQ below (QAi g ad nO oR z.1 z.2.1 z.2.2) args s 0 0 (AW ad nO)) 6 0 0 g (AW ad nO) ad nO oR I J 21 [(0, .ref (ad 98)), (2, .int a1), (3, .int x3), (4, .int x4)] []) {x3 : Int32} {x4 : Int32} {I : HI} {J : HJ} (h : fLB_X11_doubling_21 a0 a1 r_21 x3 x4 I J = some z) : V p l e (rmk 6 131) s m args below meth c (MQ below (QAi g ad nO oR z.1 z.2.1 z.2.2) args s 0 0 (AW ad nO)) 6 0 0 g (AW ad nO) ad nO oR I J 21 [(0, .ref (ad 98)), (2, .int a1), (3, .int x3), (4, .int x4)] [] := by
  unfold fLB_X11_doubling_21 at h
  refine r_iload C 3 rfl dX11_doubling_21 ?_
  refine r_iload_n C 1 rfl rfl dX11_doubling_23 ?_
  refine r_icmp_gt C (tgt := 59) h dX11_doubling_24 (by decide) (fun h => ?_) (fun h => ?_)
  · refine r_bipush C (v := -3) (by decide) dX11_doubling_59 ?_
    have hz9 := Option.some.inj h
    subst hz9
    exact r_iret C hr dX11_doubling_61
  · refine r_aload_n C 0 rfl rfl dX11_doubling_27 ?_
    refine r_iload C 3 rfl dX11_doubling_28 ?_
    obtain ⟨r14, I15, J16, hq17, h⟩ := bd3_ h
    refine r_cvi C (rest := []) (c_X11_gridOf  hq17) fm_X11_gridOf lk_X11_266 o_98 ⟨_, ct_10 o_98.1⟩ rfl rfl ⟨rfl, rfl, Nat.le_of_ble_eq_true rfl, Nat.le_of_ble_eq_true rfl⟩ (Nat.le_of_ble_eq_true rfl) rfl dX11_doubling_30 ?_
    refine r_istore C (lv1 := [(5, .int r14), (0, .ref (ad 98)), (2, .int a1), (3, .int x3), (4, .int x4)]) (by decide) rfl dX11_doubling_33 ?_
    refine r_iload_n C 3 rfl rfl dX11_doubling_35 ?_
    refine r_if_le C (tgt := 50) h dX11_doubling_36 (by decide) (fun h => ?_) (fun h => ?_)
    · exact r_sub [1, 2, 4, 0] rfl (wB_X11_doubling_50 C hr hr_21  h)
    · refine r_iload C 0 rfl dX11_doubling_39 ?_
      refine r_iconst C (v := 2) (by decide) dX11_doubling_41 ?_
      refine r_iload_n C 3 rfl rfl dX11_doubling_42 ?_
      refine r_imul C dX11_doubling_43 ?_
      refine r_icmp_ne C (tgt := 50) h dX11_doubling_44 (by decide) (fun h => ?_) (fun h => ?_)
      · exact r_sub [1, 2, 4, 0] rfl (wB_X11_doubling_50 C hr hr_21  h)
      · refine r_iload C 4 rfl dX11_doubling_47 ?_
        have hz9 := Option.some.inj h
        subst hz9
        exact r_iret C hr dX11_doubling_49
set_option maxHeartbeats 4000000 in
set_option maxRecDepth 100000 in
theorem wL_X11_doubling_21 {l : Launch} {g : GG} {ad : Nat → Nat} {p : Program} {e : Env} {s : State} {m : MethodId} {args : Array Value} {below : List Frame} {meth : Method} {c : Code} {a0 : Int32} {a1 : Int32} {z : Int32 × HI × HJ} (C : Cx p s m args meth c RX11 cX11_doubling 6 g (AW ad nO)) (hr : meth.sig.returnType = (some .int))  : ∀ (f : Nat) {x3 : Int32} {x4 : Int32} {I : HI} {J : HJ}, fL_X11_doubling_21 a0 a1 f x3 x4 I J = some z → V p l e (rmk 6 131) s m args below meth c (MQ below (QAi g ad nO oR z.1 z.2.1 z.2.2) args s 0 0 (AW ad nO)) 6 0 0 g (AW ad nO) ad nO oR I J 21 [(0, .ref (ad 98)), (2, .int a1), (3, .int x3), (4, .int x4)] [] := by
  intro f
  induction f with
  | zero =>
    intro _ _ _ _  h
    have h0 : (none : Option (Int32 × HI × HJ)) = some z := h
    cases h0
  | succ f ih =>
    intro _ _ _ _  h
    exact wLB_X11_doubling_21 C hr ih  h
set_option maxHeartbeats 4000000 in
set_option maxRecDepth 100000 in
theorem w_X11_doubling {l : Launch} {g : GG} {ad : Nat → Nat} {p : Program} {e : Env} {s : State} {m : MethodId} {args : Array Value} {below : List Frame} {meth : Method} {c : Code} {a0 : Int32} {a1 : Int32} {z : Int32 × HI × HJ} (C : Cx p s m args meth c RX11 cX11_doubling 6 g (AW ad nO)) (hr : meth.sig.returnType = (some .int)) {I : HI} {J : HJ} (h : f_X11_doubling a0 a1 I J = some z) : V p l e (rmk 6 131) s m args below meth c (MQ below (QAi g ad nO oR z.1 z.2.1 z.2.2) args s 0 0 (AW ad nO)) 6 0 0 g (AW ad nO) ad nO oR I J 0 [(0, .ref (ad 98)), (1, .int a0), (2, .int a1)] [] := by
  unfold f_X11_doubling at h
  refine r_iload_n C 1 rfl rfl dX11_doubling_0 ?_
  refine r_iload_n C 2 rfl rfl dX11_doubling_1 ?_
  obtain ⟨r18, hq19, h⟩ := bd1_ h
  refine r_csi C (rest := []) (c_X11_isSpan  hq19) fm_X11_isSpan lk_X11_269 rfl ⟨rfl, rfl, Nat.le_of_ble_eq_true rfl, Nat.le_of_ble_eq_true rfl⟩ (Nat.le_of_ble_eq_true rfl) rfl dX11_doubling_2 ?_
  refine r_if_ne C (tgt := 10) h dX11_doubling_5 (by decide) (fun h => ?_) (fun h => ?_)
  · refine r_aload_n C 0 rfl rfl dX11_doubling_10 ?_
    refine r_iload_n C 1 rfl rfl dX11_doubling_11 ?_
    obtain ⟨r20, I21, J22, hq23, h⟩ := bd3_ h
    refine r_cvi C (rest := []) (c_X11_gridOf  hq23) fm_X11_gridOf lk_X11_266 o_98 ⟨_, ct_10 o_98.1⟩ rfl rfl ⟨rfl, rfl, Nat.le_of_ble_eq_true rfl, Nat.le_of_ble_eq_true rfl⟩ (Nat.le_of_ble_eq_true rfl) rfl dX11_doubling_12 ?_
    refine r_istore_n C (lv1 := [(3, .int r20), (0, .ref (ad 98)), (1, .int a0), (2, .int a1)]) rfl (by decide) rfl dX11_doubling_15 ?_
    refine r_iload_n C 2 rfl rfl dX11_doubling_16 ?_
    refine r_iconst C (v := 1) (by decide) dX11_doubling_17 ?_
    refine r_iadd C dX11_doubling_18 ?_
    refine r_nmi h (fun v24 h => ?_)
    refine r_istore C (lv1 := [(4, .int v24), (3, .int r20), (0, .ref (ad 98)), (1, .int a0), (2, .int a1)]) (by decide) rfl dX11_doubling_19 ?_
    exact r_sub [2, 4, 1, 0] rfl (wL_X11_doubling_21 C hr _  h)
  · refine r_iconst C (v := -1) (by decide) dX11_doubling_8 ?_
    have hz9 := Option.some.inj h
    subst hz9
    exact r_iret C hr dX11_doubling_9
set_option maxHeartbeats 4000000 in
set_option maxRecDepth 100000 in
theorem c_X11_doubling {l : Launch} {g : GG} {ad : Nat → Nat} {a0 : Int32} {a1 : Int32} {I : HI} {J : HJ} {r : Int32} {I1 : HI} {J1 : HJ} (h : f_X11_doubling a0 a1 I J = some (r, I1, J1)) : CM l yX11_doubling cX11_doubling 6 (some .int) (rmk 6 131) g ad nO oR [.ref (ad 98), .int a0, .int a1] I J (QAi g ad nO oR r I1 J1) :=
  CM_of (by decide +kernel) (Nat.le_of_ble_eq_true rfl) (fun p e s m args below meth c C hr => w_X11_doubling C hr h)
set_option maxHeartbeats 4000000 in
set_option maxRecDepth 100000 in
theorem wB_X11_windows_37 {l : Launch} {g : GG} {ad : Nat → Nat} {p : Program} {e : Env} {s : State} {m : MethodId} {args : Array Value} {below : List Frame} {meth : Method} {c : Code} {a0 : Int32} {a1 : Int32} {z : Int32 × HI × HJ} (C : Cx p s m args meth c RX11 cX11_windows 5 g (AW ad nO)) (hr : meth.sig.returnType = (some .int)) {r_15 : Int32 → Int32 → HI → HJ → Option (Int32 × HI × HJ)} (hr_15 : ∀ {x3 : Int32} {x4 : Int32} {I : HI} {J : HJ}, r_15 x3 x4 I J = some z → V p l e (rmk 6 131) s m args below meth c (MQ below (QAi g ad nO oR z.1 z.2.1 z.2.2) args s 0 0 (AW ad nO)) 5 0 0 g (AW ad nO) ad nO oR I J 15 [(0, .ref (ad 98)), (2, .int a1), (3, .int x3), (4, .int x4)] []) {x4 : Int32} {s0 : Int32} {s1 : Int32} {I : HI} {J : HJ} (h : fB_X11_windows_37 a0 a1 r_15 x4 s0 s1 I J = some z) : V p l e (rmk 6 131) s m args below meth c (MQ below (QAi g ad nO oR z.1 z.2.1 z.2.2) args s 0 0 (AW ad nO)) 5 0 0 g (AW ad nO) ad nO oR I J 37 [(0, .ref (ad 98)), (2, .int a1), (4, .int x4)] [.int s0, .int s1] := by
  unfold fB_X11_windows_37 at h
  refine r_iadd C dX11_windows_37 ?_
  refine r_nmi h (fun v9 h => ?_)
  refine r_istore_n C (lv1 := [(3, .int v9), (0, .ref (ad 98)), (2, .int a1), (4, .int x4)]) rfl (by decide) rfl dX11_windows_38 ?_
  refine r_iincN C h (k := 3) (zz := 1) rfl rfl (by decide) (lv1 := fun v10 => [(4, .int v10), (3, .int v9), (0, .ref (ad 98)), (2, .int a1)]) (fun _ => rfl) dX11_windows_39 (fun v10 h => ?_)
  refine r_goto C (tgt := 15) dX11_windows_42 (by decide) ?_
  exact r_sub [2, 3, 1, 0] rfl (hr_15  h)
set_option maxHeartbeats 4000000 in
set_option maxRecDepth 100000 in
theorem wLB_X11_windows_15 {l : Launch} {g : GG} {ad : Nat → Nat} {p : Program} {e : Env} {s : State} {m : MethodId} {args : Array Value} {below : List Frame} {meth : Method} {c : Code} {a0 : Int32} {a1 : Int32} {z : Int32 × HI × HJ} (C : Cx p s m args meth c RX11 cX11_windows 5 g (AW ad nO)) (hr : meth.sig.returnType = (some .int))  {r_15 : Int32 → Int32 → HI → HJ → Option (Int32 × HI × HJ)} (hr_15 : ∀ {x3 : Int32} {x4 : Int32} {I : HI} {J : HJ}, r_15 x3 x4 I J = some z → V p l e (rmk 6 131) s m args below meth c (MQ below (QAi g ad nO oR z.1 z.2.1 z.2.2) args s 0 0 (AW ad nO)) 5 0 0 g (AW ad nO) ad nO oR I J 15 [(0, .ref (ad 98)), (2, .int a1), (3, .int x3), (4, .int x4)] []) {x3 : Int32} {x4 : Int32} {I : HI} {J : HJ} (h : fLB_X11_windows_15 a0 a1 r_15 x3 x4 I J = some z) : V p l e (rmk 6 131) s m args below meth c (MQ below (QAi g ad nO oR z.1 z.2.1 z.2.2) args s 0 0 (AW ad nO)) 5 0 0 g (AW ad nO) ad nO oR I J 15 [(0, .ref (ad 98)), (2, .int a1), (3, .int x3), (4, .int x4)] [] := by
  unfold fLB_X11_windows_15 at h
  refine r_iload C 3 rfl dX11_windows_15 ?_
  refine r_iload_n C 1 rfl rfl dX11_windows_17 ?_
  refine r_icmp_gt C (tgt := 45) h dX11_windows_18 (by decide) (fun h => ?_) (fun h => ?_)
  · refine r_iload_n C 2 rfl rfl dX11_windows_45 ?_
    have hz9 := Option.some.inj h
    subst hz9
    exact r_iret C hr dX11_windows_46
  · refine r_iload_n C 2 rfl rfl dX11_windows_21 ?_
    refine r_aload_n C 0 rfl rfl dX11_windows_22 ?_
    refine r_iload C 3 rfl dX11_windows_23 ?_
    obtain ⟨r11, I12, J13, hq14, h⟩ := bd3_ h
    refine r_cvi C (rest := [.int x3]) (c_X11_gridOf  hq14) fm_X11_gridOf lk_X11_266 o_98 ⟨_, ct_10 o_98.1⟩ rfl rfl ⟨rfl, rfl, Nat.le_of_ble_eq_true rfl, Nat.le_of_ble_eq_true rfl⟩ (Nat.le_of_ble_eq_true rfl) rfl dX11_windows_25 ?_
    refine r_iconst C (v := 3) (by decide) dX11_windows_28 ?_
    refine r_icmp_ne C (tgt := 36) h dX11_windows_29 (by decide) (fun h => ?_) (fun h => ?_)
    · refine r_iconst C (v := 0) (by decide) dX11_windows_36 ?_
      exact r_sub [0, 1, 3] rfl (wB_X11_windows_37 C hr hr_15  h)
    · refine r_iconst C (v := 1) (by decide) dX11_windows_32 ?_
      refine r_goto C (tgt := 37) dX11_windows_33 (by decide) ?_
      exact r_sub [0, 1, 3] rfl (wB_X11_windows_37 C hr hr_15  h)
set_option maxHeartbeats 4000000 in
set_option maxRecDepth 100000 in
theorem wL_X11_windows_15 {l : Launch} {g : GG} {ad : Nat → Nat} {p : Program} {e : Env} {s : State} {m : MethodId} {args : Array Value} {below : List Frame} {meth : Method} {c : Code} {a0 : Int32} {a1 : Int32} {z : Int32 × HI × HJ} (C : Cx p s m args meth c RX11 cX11_windows 5 g (AW ad nO)) (hr : meth.sig.returnType = (some .int))  : ∀ (f : Nat) {x3 : Int32} {x4 : Int32} {I : HI} {J : HJ}, fL_X11_windows_15 a0 a1 f x3 x4 I J = some z → V p l e (rmk 6 131) s m args below meth c (MQ below (QAi g ad nO oR z.1 z.2.1 z.2.2) args s 0 0 (AW ad nO)) 5 0 0 g (AW ad nO) ad nO oR I J 15 [(0, .ref (ad 98)), (2, .int a1), (3, .int x3), (4, .int x4)] [] := by
  intro f
  induction f with
  | zero =>
    intro _ _ _ _  h
    have h0 : (none : Option (Int32 × HI × HJ)) = some z := h
    cases h0
  | succ f ih =>
    intro _ _ _ _  h
    exact wLB_X11_windows_15 C hr ih  h
set_option maxHeartbeats 4000000 in
set_option maxRecDepth 100000 in
theorem w_X11_windows {l : Launch} {g : GG} {ad : Nat → Nat} {p : Program} {e : Env} {s : State} {m : MethodId} {args : Array Value} {below : List Frame} {meth : Method} {c : Code} {a0 : Int32} {a1 : Int32} {z : Int32 × HI × HJ} (C : Cx p s m args meth c RX11 cX11_windows 5 g (AW ad nO)) (hr : meth.sig.returnType = (some .int)) {I : HI} {J : HJ} (h : f_X11_windows a0 a1 I J = some z) : V p l e (rmk 6 131) s m args below meth c (MQ below (QAi g ad nO oR z.1 z.2.1 z.2.2) args s 0 0 (AW ad nO)) 5 0 0 g (AW ad nO) ad nO oR I J 0 [(0, .ref (ad 98)), (1, .int a0), (2, .int a1)] [] := by
  unfold f_X11_windows at h
  refine r_iload_n C 1 rfl rfl dX11_windows_0 ?_
  refine r_iload_n C 2 rfl rfl dX11_windows_1 ?_
  obtain ⟨r15, hq16, h⟩ := bd1_ h
  refine r_csi C (rest := []) (c_X11_isSpan  hq16) fm_X11_isSpan lk_X11_269 rfl ⟨rfl, rfl, Nat.le_of_ble_eq_true rfl, Nat.le_of_ble_eq_true rfl⟩ (Nat.le_of_ble_eq_true rfl) rfl dX11_windows_2 ?_
  refine r_if_ne C (tgt := 10) h dX11_windows_5 (by decide) (fun h => ?_) (fun h => ?_)
  · refine r_iconst C (v := 0) (by decide) dX11_windows_10 ?_
    refine r_istore_n C (lv1 := [(3, .int (0 : Int32)), (0, .ref (ad 98)), (1, .int a0), (2, .int a1)]) rfl (by decide) rfl dX11_windows_11 ?_
    refine r_iload_n C 2 rfl rfl dX11_windows_12 ?_
    refine r_istore C (lv1 := [(4, .int a0), (3, .int (0 : Int32)), (0, .ref (ad 98)), (1, .int a0), (2, .int a1)]) (by decide) rfl dX11_windows_13 ?_
    exact r_sub [2, 4, 1, 0] rfl (wL_X11_windows_15 C hr _  h)
  · refine r_iconst C (v := -1) (by decide) dX11_windows_8 ?_
    have hz9 := Option.some.inj h
    subst hz9
    exact r_iret C hr dX11_windows_9
set_option maxHeartbeats 4000000 in
set_option maxRecDepth 100000 in
theorem c_X11_windows {l : Launch} {g : GG} {ad : Nat → Nat} {a0 : Int32} {a1 : Int32} {I : HI} {J : HJ} {r : Int32} {I1 : HI} {J1 : HJ} (h : f_X11_windows a0 a1 I J = some (r, I1, J1)) : CM l yX11_windows cX11_windows 5 (some .int) (rmk 6 131) g ad nO oR [.ref (ad 98), .int a0, .int a1] I J (QAi g ad nO oR r I1 J1) :=
  CM_of (by decide +kernel) (Nat.le_of_ble_eq_true rfl) (fun p e s m args below meth c C hr => w_X11_windows C hr h)
set_option maxHeartbeats 4000000 in
set_option maxRecDepth 100000 in
theorem w_X11_isEvenBy {l : Launch} {g : GG} {ad : Nat → Nat} {p : Program} {e : Env} {s : State} {m : MethodId} {args : Array Value} {below : List Frame} {meth : Method} {c : Code} {a0 : Int32} {a1 : Int32} {z : Int32 × HI × HJ} (C : Cx p s m args meth c RX11 cX11_isEvenBy 3 g (AW ad nO)) (hr : meth.sig.returnType = (some .boolean)) {I : HI} {J : HJ} (h : f_X11_isEvenBy a0 a1 I J = some z) : V p l e (rmk 5 110) s m args below meth c (MQ below (QAi g ad nO oR z.1 z.2.1 z.2.2) args s 0 0 (AW ad nO)) 3 0 0 g (AW ad nO) ad nO oR I J 0 [(0, .ref (ad 98)), (1, .int a0), (2, .int a1)] [] := by
  unfold f_X11_isEvenBy at h
  refine r_aload_n C 0 rfl rfl dX11_isEvenBy_0 ?_
  obtain ⟨I12, J13, hq14, h⟩ := bd2_ h
  refine r_cvv C (rest := []) (c_X11_opens  hq14) fm_X11_opens lk_X11_130 o_98 ⟨_, ct_10 o_98.1⟩ rfl rfl ⟨rfl, rfl, Nat.le_of_ble_eq_true rfl, Nat.le_of_ble_eq_true rfl⟩ (Nat.le_of_ble_eq_true rfl) rfl dX11_isEvenBy_1 ?_
  refine r_aload_n C 0 rfl rfl dX11_isEvenBy_4 ?_
  refine gf_X11_32 C rf0 o_98 (q := 106) rfl dX11_isEvenBy_5 ?_
  refine r_iconst C (v := 2) (by decide) dX11_isEvenBy_8 ?_
  refine r_dup2 C rfl rfl dX11_isEvenBy_9 ?_
  refine r_iald C o_106 h dX11_isEvenBy_10 (fun h => ?_)
  refine r_iload_n C 1 rfl rfl dX11_isEvenBy_11 ?_
  refine r_iadd C dX11_isEvenBy_12 ?_
  refine r_iast C o_106 h dX11_isEvenBy_13 (fun h => ?_)
  refine r_nmI h (fun I15 h => ?_)
  refine r_aload_n C 0 rfl rfl dX11_isEvenBy_14 ?_
  refine r_iload_n C 2 rfl rfl dX11_isEvenBy_15 ?_
  obtain ⟨I16, J17, hq18, h⟩ := bd2_ h
  refine r_cvv C (rest := []) (c_X11_trial  hq18) fm_X11_trial lk_X11_260 o_98 ⟨_, ct_10 o_98.1⟩ rfl rfl ⟨rfl, rfl, Nat.le_of_ble_eq_true rfl, Nat.le_of_ble_eq_true rfl⟩ (Nat.le_of_ble_eq_true rfl) rfl dX11_isEvenBy_16 ?_
  refine r_aload_n C 0 rfl rfl dX11_isEvenBy_19 ?_
  obtain ⟨I19, hq20, h⟩ := bd1_ h
  refine r_cvv C (rest := []) (c_X11_looksAtTrial  hq20) fm_X11_looksAtTrial lk_X11_263 o_98 ⟨_, ct_10 o_98.1⟩ rfl rfl ⟨rfl, rfl, Nat.le_of_ble_eq_true rfl, Nat.le_of_ble_eq_true rfl⟩ (Nat.le_of_ble_eq_true rfl) rfl dX11_isEvenBy_20 ?_
  refine r_aload_n C 0 rfl rfl dX11_isEvenBy_23 ?_
  obtain ⟨r21, hq22, h⟩ := bd1_ h
  refine r_cvi C (rest := []) (c_X11_kindOf  hq22) fm_X11_kindOf lk_X11_240 o_98 ⟨_, ct_10 o_98.1⟩ rfl rfl ⟨rfl, rfl, Nat.le_of_ble_eq_true rfl, Nat.le_of_ble_eq_true rfl⟩ (Nat.le_of_ble_eq_true rfl) rfl dX11_isEvenBy_24 ?_
  refine r_iconst C (v := 1) (by decide) dX11_isEvenBy_27 ?_
  refine r_icmp_ne C (tgt := 35) h dX11_isEvenBy_28 (by decide) (fun h => ?_) (fun h => ?_)
  · refine r_iconst C (v := 0) (by decide) dX11_isEvenBy_35 ?_
    have hz9 := Option.some.inj h
    subst hz9
    exact r_zret C (v := (0 : Int32)) rfl hr dX11_isEvenBy_36
  · refine r_iconst C (v := 1) (by decide) dX11_isEvenBy_31 ?_
    refine r_goto C (tgt := 36) dX11_isEvenBy_32 (by decide) ?_
    have hz9 := Option.some.inj h
    subst hz9
    exact r_zret C (v := (1 : Int32)) rfl hr dX11_isEvenBy_36
set_option maxHeartbeats 4000000 in
set_option maxRecDepth 100000 in
theorem c_X11_isEvenBy {l : Launch} {g : GG} {ad : Nat → Nat} {a0 : Int32} {a1 : Int32} {I : HI} {J : HJ} {r : Int32} {I1 : HI} {J1 : HJ} (h : f_X11_isEvenBy a0 a1 I J = some (r, I1, J1)) : CM l yX11_isEvenBy cX11_isEvenBy 3 (some .boolean) (rmk 5 110) g ad nO oR [.ref (ad 98), .int a0, .int a1] I J (QAi g ad nO oR r I1 J1) :=
  CM_of (by decide +kernel) (Nat.le_of_ble_eq_true rfl) (fun p e s m args below meth c C hr => w_X11_isEvenBy C hr h)
set_option maxHeartbeats 4000000 in
set_option maxRecDepth 100000 in
theorem wB_X11_touch_56 {l : Launch} {g : GG} {ad : Nat → Nat} {p : Program} {e : Env} {s : State} {m : MethodId} {args : Array Value} {below : List Frame} {meth : Method} {c : Code} {a0 : Int32} {z : Int32 × HI × HJ} (C : Cx p s m args meth c RX11 cX11_touch 3 g (AW ad nO)) (hr : meth.sig.returnType = (some .int)) {r_16 : Int32 → HI → HJ → Option (Int32 × HI × HJ)} (hr_16 : ∀ {x2 : Int32} {I : HI} {J : HJ}, r_16 x2 I J = some z → V p l e (rmk 6 132) s m args below meth c (MQ below (QAi g ad nO oR z.1 z.2.1 z.2.2) args s 0 0 (AW ad nO)) 3 0 0 g (AW ad nO) ad nO oR I J 16 [(0, .ref (ad 98)), (1, .int a0), (2, .int x2)] []) {x2 : Int32} {I : HI} {J : HJ} (h : fB_X11_touch_56 a0 r_16 x2 I J = some z) : V p l e (rmk 6 132) s m args below meth c (MQ below (QAi g ad nO oR z.1 z.2.1 z.2.2) args s 0 0 (AW ad nO)) 3 0 0 g (AW ad nO) ad nO oR I J 56 [(0, .ref (ad 98)), (1, .int a0), (2, .int x2)] [] := by
  unfold fB_X11_touch_56 at h
  refine r_iincN C h (k := 2) (zz := 1) rfl rfl (by decide) (lv1 := fun v12 => [(2, .int v12), (0, .ref (ad 98)), (1, .int a0)]) (fun _ => rfl) dX11_touch_56 (fun v12 h => ?_)
  refine r_goto C (tgt := 16) dX11_touch_59 (by decide) ?_
  exact r_sub [1, 2, 0] rfl (hr_16  h)
set_option maxHeartbeats 4000000 in
set_option maxRecDepth 100000 in
theorem wLB_X11_touch_16 {l : Launch} {g : GG} {ad : Nat → Nat} {p : Program} {e : Env} {s : State} {m : MethodId} {args : Array Value} {below : List Frame} {meth : Method} {c : Code} {a0 : Int32} {z : Int32 × HI × HJ} (C : Cx p s m args meth c RX11 cX11_touch 3 g (AW ad nO)) (hr : meth.sig.returnType = (some .int))  {r_16 : Int32 → HI → HJ → Option (Int32 × HI × HJ)} (hr_16 : ∀ {x2 : Int32} {I : HI} {J : HJ}, r_16 x2 I J = some z → V p l e (rmk 6 132) s m args below meth c (MQ below (QAi g ad nO oR z.1 z.2.1 z.2.2) args s 0 0 (AW ad nO)) 3 0 0 g (AW ad nO) ad nO oR I J 16 [(0, .ref (ad 98)), (1, .int a0), (2, .int x2)] []) {x2 : Int32} {I : HI} {J : HJ} (h : fLB_X11_touch_16 a0 r_16 x2 I J = some z) : V p l e (rmk 6 132) s m args below meth c (MQ below (QAi g ad nO oR z.1 z.2.1 z.2.2) args s 0 0 (AW ad nO)) 3 0 0 g (AW ad nO) ad nO oR I J 16 [(0, .ref (ad 98)), (1, .int a0), (2, .int x2)] [] := by
  unfold fLB_X11_touch_16 at h
  refine r_iload_n C 2 rfl rfl dX11_touch_16 ?_
  refine r_bipush C (v := 30) (by decide) dX11_touch_17 ?_
  refine r_icmp_gt C (tgt := 62) h dX11_touch_19 (by decide) (fun h => ?_) (fun h => ?_)
  · refine r_bipush C (v := -3) (by decide) dX11_touch_62 ?_
    have hz9 := Option.some.inj h
    subst hz9
    exact r_iret C hr dX11_touch_64
  · refine r_aload_n C 0 rfl rfl dX11_touch_22 ?_
    refine r_iload_n C 2 rfl rfl dX11_touch_23 ?_
    refine r_iload_n C 1 rfl rfl dX11_touch_24 ?_
    obtain ⟨r13, I14, J15, hq16, h⟩ := bd3_ h
    refine r_cvi C (rest := []) (c_X11_isEvenBy  hq16) fm_X11_isEvenBy lk_X11_272 o_98 ⟨_, ct_10 o_98.1⟩ rfl rfl ⟨rfl, rfl, Nat.le_of_ble_eq_true rfl, Nat.le_of_ble_eq_true rfl⟩ (Nat.le_of_ble_eq_true rfl) rfl dX11_touch_25 ?_
    refine r_if_eq C (tgt := 36) h dX11_touch_28 (by decide) (fun h => ?_) (fun h => ?_)
    · refine r_iload_n C 2 rfl rfl dX11_touch_36 ?_
      refine r_if_le C (tgt := 56) h dX11_touch_37 (by decide) (fun h => ?_) (fun h => ?_)
      · exact wB_X11_touch_56 C hr hr_16  h
      · refine r_aload_n C 0 rfl rfl dX11_touch_40 ?_
        refine r_iconst C (v := 0) (by decide) dX11_touch_41 ?_
        refine r_iload_n C 2 rfl rfl dX11_touch_42 ?_
        refine r_isub C dX11_touch_43 ?_
        refine r_iload_n C 1 rfl rfl dX11_touch_44 ?_
        refine r_pc (pc1 := 45) rfl ?_
        obtain ⟨r17, I18, J19, hq20, h⟩ := bd3_ h
        refine r_cvi C (rest := []) (c_X11_isEvenBy  hq20) fm_X11_isEvenBy lk_X11_272 o_98 ⟨_, ct_10 o_98.1⟩ rfl rfl ⟨rfl, rfl, Nat.le_of_ble_eq_true rfl, Nat.le_of_ble_eq_true rfl⟩ (Nat.le_of_ble_eq_true rfl) rfl dX11_touch_45 ?_
        refine r_if_eq C (tgt := 56) h dX11_touch_48 (by decide) (fun h => ?_) (fun h => ?_)
        · exact wB_X11_touch_56 C hr hr_16  h
        · refine r_bipush C (v := 100) (by decide) dX11_touch_51 ?_
          refine r_iload_n C 2 rfl rfl dX11_touch_53 ?_
          refine r_isub C dX11_touch_54 ?_
          have hz9 := Option.some.inj h
          subst hz9
          exact r_iret C hr dX11_touch_55
    · refine r_bipush C (v := 100) (by decide) dX11_touch_31 ?_
      refine r_iload_n C 2 rfl rfl dX11_touch_33 ?_
      refine r_iadd C dX11_touch_34 ?_
      have hz9 := Option.some.inj h
      subst hz9
      exact r_iret C hr dX11_touch_35
set_option maxHeartbeats 4000000 in
set_option maxRecDepth 100000 in
theorem wL_X11_touch_16 {l : Launch} {g : GG} {ad : Nat → Nat} {p : Program} {e : Env} {s : State} {m : MethodId} {args : Array Value} {below : List Frame} {meth : Method} {c : Code} {a0 : Int32} {z : Int32 × HI × HJ} (C : Cx p s m args meth c RX11 cX11_touch 3 g (AW ad nO)) (hr : meth.sig.returnType = (some .int))  : ∀ (f : Nat) {x2 : Int32} {I : HI} {J : HJ}, fL_X11_touch_16 a0 f x2 I J = some z → V p l e (rmk 6 132) s m args below meth c (MQ below (QAi g ad nO oR z.1 z.2.1 z.2.2) args s 0 0 (AW ad nO)) 3 0 0 g (AW ad nO) ad nO oR I J 16 [(0, .ref (ad 98)), (1, .int a0), (2, .int x2)] [] := by
  intro f
  induction f with
  | zero =>
    intro _ _ _  h
    have h0 : (none : Option (Int32 × HI × HJ)) = some z := h
    cases h0
  | succ f ih =>
    intro _ _ _  h
    exact wLB_X11_touch_16 C hr ih  h
set_option maxHeartbeats 4000000 in
set_option maxRecDepth 100000 in
theorem w_X11_touch {l : Launch} {g : GG} {ad : Nat → Nat} {p : Program} {e : Env} {s : State} {m : MethodId} {args : Array Value} {below : List Frame} {meth : Method} {c : Code} {a0 : Int32} {z : Int32 × HI × HJ} (C : Cx p s m args meth c RX11 cX11_touch 3 g (AW ad nO)) (hr : meth.sig.returnType = (some .int)) {I : HI} {J : HJ} (h : f_X11_touch a0 I J = some z) : V p l e (rmk 6 132) s m args below meth c (MQ below (QAi g ad nO oR z.1 z.2.1 z.2.2) args s 0 0 (AW ad nO)) 3 0 0 g (AW ad nO) ad nO oR I J 0 [(0, .ref (ad 98)), (1, .int a0)] [] := by
  unfold f_X11_touch at h
  refine r_iload_n C 1 rfl rfl dX11_touch_0 ?_
  refine r_i2l C dX11_touch_1 ?_
  refine r_lconst C (v := 1) (by decide) dX11_touch_2 ?_
  refine r_ldc2 C (v := 400) lk_X11_128 dX11_touch_3 ?_
  obtain ⟨r21, hq22, h⟩ := bd1_ h
  refine r_csi C (rest := []) (c_X11_in  hq22) fm_X11_in lk_X11_114 rfl ⟨rfl, rfl, Nat.le_of_ble_eq_true rfl, Nat.le_of_ble_eq_true rfl⟩ (Nat.le_of_ble_eq_true rfl) rfl dX11_touch_6 ?_
  refine r_if_ne C (tgt := 14) h dX11_touch_9 (by decide) (fun h => ?_) (fun h => ?_)
  · refine r_iconst C (v := 0) (by decide) dX11_touch_14 ?_
    refine r_istore_n C (lv1 := [(2, .int (0 : Int32)), (0, .ref (ad 98)), (1, .int a0)]) rfl (by decide) rfl dX11_touch_15 ?_
    exact r_sub [1, 2, 0] rfl (wL_X11_touch_16 C hr _  h)
  · refine r_iconst C (v := -1) (by decide) dX11_touch_12 ?_
    have hz9 := Option.some.inj h
    subst hz9
    exact r_iret C hr dX11_touch_13
set_option maxHeartbeats 4000000 in
set_option maxRecDepth 100000 in
theorem c_X11_touch {l : Launch} {g : GG} {ad : Nat → Nat} {a0 : Int32} {I : HI} {J : HJ} {r : Int32} {I1 : HI} {J1 : HJ} (h : f_X11_touch a0 I J = some (r, I1, J1)) : CM l yX11_touch cX11_touch 3 (some .int) (rmk 6 132) g ad nO oR [.ref (ad 98), .int a0] I J (QAi g ad nO oR r I1 J1) :=
  CM_of (by decide +kernel) (Nat.le_of_ble_eq_true rfl) (fun p e s m args below meth c C hr => w_X11_touch C hr h)
set_option maxHeartbeats 4000000 in
set_option maxRecDepth 100000 in
theorem wB_X11_lost_68 {l : Launch} {g : GG} {ad : Nat → Nat} {p : Program} {e : Env} {s : State} {m : MethodId} {args : Array Value} {below : List Frame} {meth : Method} {c : Code} {a0 : Int32} {z : Int32 × HI × HJ} (C : Cx p s m args meth c RX11 cX11_lost 3 g (AW ad nO)) (hr : meth.sig.returnType = (some .int)) {r_52 : Int32 → HI → HJ → Option (Int32 × HI × HJ)} (hr_52 : ∀ {x2 : Int32} {I : HI} {J : HJ}, r_52 x2 I J = some z → V p l e (rmk 5 110) s m args below meth c (MQ below (QAi g ad nO oR z.1 z.2.1 z.2.2) args s 0 0 (AW ad nO)) 3 0 0 g (AW ad nO) ad nO oR I J 52 [(0, .ref (ad 98)), (2, .int x2)] []) {x2 : Int32} {I : HI} {J : HJ} (h : fB_X11_lost_68 a0 r_52 x2 I J = some z) : V p l e (rmk 5 110) s m args below meth c (MQ below (QAi g ad nO oR z.1 z.2.1 z.2.2) args s 0 0 (AW ad nO)) 3 0 0 g (AW ad nO) ad nO oR I J 68 [(0, .ref (ad 98)), (2, .int x2)] [] := by
  unfold fB_X11_lost_68 at h
  refine r_iload_n C 1 rfl rfl dX11_lost_68 ?_
  refine r_aload_n C 0 rfl rfl dX11_lost_69 ?_
  refine gf_X11_228 C o_98 dX11_lost_70 ?_
  refine r_icmp_ge C (tgt := 99) h dX11_lost_73 (by decide) (fun h => ?_) (fun h => ?_)
  · refine r_iload_n C 1 rfl rfl dX11_lost_99 ?_
    have hz9 := Option.some.inj h
    subst hz9
    exact r_iret C hr dX11_lost_100
  · refine r_iload_n C 1 rfl rfl dX11_lost_76 ?_
    refine r_aload_n C 0 rfl rfl dX11_lost_77 ?_
    refine gf_X11_86 C o_98 dX11_lost_78 ?_
    refine r_icmp_ge C (tgt := 99) h dX11_lost_81 (by decide) (fun h => ?_) (fun h => ?_)
    · refine r_iload_n C 1 rfl rfl dX11_lost_99 ?_
      have hz9 := Option.some.inj h
      subst hz9
      exact r_iret C hr dX11_lost_100
    · refine r_aload_n C 0 rfl rfl dX11_lost_84 ?_
      refine gf_X11_56 C rf0 o_98 (q := 114) rfl dX11_lost_85 ?_
      refine r_iload_n C 1 rfl rfl dX11_lost_88 ?_
      refine r_iald C o_114 h dX11_lost_89 (fun h => ?_)
      refine r_aload_n C 0 rfl rfl dX11_lost_90 ?_
      refine gf_X11_35 C rf0 o_98 (q := 107) rfl dX11_lost_91 ?_
      refine r_iload_n C 1 rfl rfl dX11_lost_94 ?_
      refine r_iald C o_107 h dX11_lost_95 (fun h => ?_)
      refine r_icmp_eq C (tgt := 101) h dX11_lost_96 (by decide) (fun h => ?_) (fun h => ?_)
      · refine r_iincN C h (k := 1) (zz := 1) rfl rfl (by decide) (lv1 := fun v19 => [(2, .int v19), (0, .ref (ad 98))]) (fun _ => rfl) dX11_lost_101 (fun v19 h => ?_)
        refine r_goto C (tgt := 52) dX11_lost_104 (by decide) ?_
        exact r_sub [1, 0] rfl (hr_52  h)
      · refine r_iload_n C 1 rfl rfl dX11_lost_99 ?_
        have hz9 := Option.some.inj h
        subst hz9
        exact r_iret C hr dX11_lost_100
set_option maxHeartbeats 4000000 in
set_option maxRecDepth 100000 in
theorem wLB_X11_lost_52 {l : Launch} {g : GG} {ad : Nat → Nat} {p : Program} {e : Env} {s : State} {m : MethodId} {args : Array Value} {below : List Frame} {meth : Method} {c : Code} {a0 : Int32} {z : Int32 × HI × HJ} (C : Cx p s m args meth c RX11 cX11_lost 3 g (AW ad nO)) (hr : meth.sig.returnType = (some .int))  {r_52 : Int32 → HI → HJ → Option (Int32 × HI × HJ)} (hr_52 : ∀ {x2 : Int32} {I : HI} {J : HJ}, r_52 x2 I J = some z → V p l e (rmk 5 110) s m args below meth c (MQ below (QAi g ad nO oR z.1 z.2.1 z.2.2) args s 0 0 (AW ad nO)) 3 0 0 g (AW ad nO) ad nO oR I J 52 [(0, .ref (ad 98)), (2, .int x2)] []) {x2 : Int32} {I : HI} {J : HJ} (h : fLB_X11_lost_52 a0 r_52 x2 I J = some z) : V p l e (rmk 5 110) s m args below meth c (MQ below (QAi g ad nO oR z.1 z.2.1 z.2.2) args s 0 0 (AW ad nO)) 3 0 0 g (AW ad nO) ad nO oR I J 52 [(0, .ref (ad 98)), (2, .int x2)] [] := by
  unfold fLB_X11_lost_52 at h
  refine r_iload_n C 1 rfl rfl dX11_lost_52 ?_
  refine r_aload_n C 0 rfl rfl dX11_lost_53 ?_
  refine gf_X11_228 C o_98 dX11_lost_54 ?_
  refine r_icmp_lt C (tgt := 68) h dX11_lost_57 (by decide) (fun h => ?_) (fun h => ?_)
  · exact wB_X11_lost_68 C hr hr_52  h
  · refine r_iload_n C 1 rfl rfl dX11_lost_60 ?_
    refine r_aload_n C 0 rfl rfl dX11_lost_61 ?_
    refine gf_X11_86 C o_98 dX11_lost_62 ?_
    refine r_icmp_ge C (tgt := 107) h dX11_lost_65 (by decide) (fun h => ?_) (fun h => ?_)
    · refine r_bipush C (v := -3) (by decide) dX11_lost_107 ?_
      have hz9 := Option.some.inj h
      subst hz9
      exact r_iret C hr dX11_lost_109
    · exact wB_X11_lost_68 C hr hr_52  h
set_option maxHeartbeats 4000000 in
set_option maxRecDepth 100000 in
theorem wL_X11_lost_52 {l : Launch} {g : GG} {ad : Nat → Nat} {p : Program} {e : Env} {s : State} {m : MethodId} {args : Array Value} {below : List Frame} {meth : Method} {c : Code} {a0 : Int32} {z : Int32 × HI × HJ} (C : Cx p s m args meth c RX11 cX11_lost 3 g (AW ad nO)) (hr : meth.sig.returnType = (some .int))  : ∀ (f : Nat) {x2 : Int32} {I : HI} {J : HJ}, fL_X11_lost_52 a0 f x2 I J = some z → V p l e (rmk 5 110) s m args below meth c (MQ below (QAi g ad nO oR z.1 z.2.1 z.2.2) args s 0 0 (AW ad nO)) 3 0 0 g (AW ad nO) ad nO oR I J 52 [(0, .ref (ad 98)), (2, .int x2)] [] := by
  intro f
  induction f with
  | zero =>
    intro _ _ _  h
    have h0 : (none : Option (Int32 × HI × HJ)) = some z := h
    cases h0
  | succ f ih =>
    intro _ _ _  h
    exact wLB_X11_lost_52 C hr ih  h
set_option maxHeartbeats 4000000 in
set_option maxRecDepth 100000 in
theorem w_X11_lost {l : Launch} {g : GG} {ad : Nat → Nat} {p : Program} {e : Env} {s : State} {m : MethodId} {args : Array Value} {below : List Frame} {meth : Method} {c : Code} {a0 : Int32} {z : Int32 × HI × HJ} (C : Cx p s m args meth c RX11 cX11_lost 3 g (AW ad nO)) (hr : meth.sig.returnType = (some .int)) {I : HI} {J : HJ} (h : f_X11_lost a0 I J = some z) : V p l e (rmk 5 110) s m args below meth c (MQ below (QAi g ad nO oR z.1 z.2.1 z.2.2) args s 0 0 (AW ad nO)) 3 0 0 g (AW ad nO) ad nO oR I J 0 [(0, .ref (ad 98)), (1, .int a0)] [] := by
  unfold f_X11_lost at h
  refine r_iload_n C 1 rfl rfl dX11_lost_0 ?_
  refine r_i2l C dX11_lost_1 ?_
  refine r_lconst C (v := 0) (by decide) dX11_lost_2 ?_
  refine r_ldc2 C (v := 999) lk_X11_112 dX11_lost_3 ?_
  obtain ⟨r20, hq21, h⟩ := bd1_ h
  refine r_csi C (rest := []) (c_X11_in  hq21) fm_X11_in lk_X11_114 rfl ⟨rfl, rfl, Nat.le_of_ble_eq_true rfl, Nat.le_of_ble_eq_true rfl⟩ (Nat.le_of_ble_eq_true rfl) rfl dX11_lost_6 ?_
  refine r_if_ne C (tgt := 14) h dX11_lost_9 (by decide) (fun h => ?_) (fun h => ?_)
  · refine r_aload_n C 0 rfl rfl dX11_lost_14 ?_
    obtain ⟨I22, J23, hq24, h⟩ := bd2_ h
    refine r_cvv C (rest := []) (c_X11_opens  hq24) fm_X11_opens lk_X11_130 o_98 ⟨_, ct_10 o_98.1⟩ rfl rfl ⟨rfl, rfl, Nat.le_of_ble_eq_true rfl, Nat.le_of_ble_eq_true rfl⟩ (Nat.le_of_ble_eq_true rfl) rfl dX11_lost_15 ?_
    refine r_aload_n C 0 rfl rfl dX11_lost_18 ?_
    refine r_sipush C (v := 400) (by decide) dX11_lost_19 ?_
    obtain ⟨I25, J26, hq27, h⟩ := bd2_ h
    refine r_cvv C (rest := []) (c_X11_trial  hq27) fm_X11_trial lk_X11_260 o_98 ⟨_, ct_10 o_98.1⟩ rfl rfl ⟨rfl, rfl, Nat.le_of_ble_eq_true rfl, Nat.le_of_ble_eq_true rfl⟩ (Nat.le_of_ble_eq_true rfl) rfl dX11_lost_22 ?_
    refine r_aload_n C 0 rfl rfl dX11_lost_25 ?_
    obtain ⟨I28, hq29, h⟩ := bd1_ h
    refine r_cvv C (rest := []) (c_X11_looksAtTrial  hq29) fm_X11_looksAtTrial lk_X11_263 o_98 ⟨_, ct_10 o_98.1⟩ rfl rfl ⟨rfl, rfl, Nat.le_of_ble_eq_true rfl, Nat.le_of_ble_eq_true rfl⟩ (Nat.le_of_ble_eq_true rfl) rfl dX11_lost_26 ?_
    refine r_aload_n C 0 rfl rfl dX11_lost_29 ?_
    obtain ⟨I30, J31, hq32, h⟩ := bd2_ h
    refine r_cvv C (rest := []) (c_X11_opens  hq32) fm_X11_opens lk_X11_130 o_98 ⟨_, ct_10 o_98.1⟩ rfl rfl ⟨rfl, rfl, Nat.le_of_ble_eq_true rfl, Nat.le_of_ble_eq_true rfl⟩ (Nat.le_of_ble_eq_true rfl) rfl dX11_lost_30 ?_
    refine r_aload_n C 0 rfl rfl dX11_lost_33 ?_
    refine gf_X11_32 C rf0 o_98 (q := 106) rfl dX11_lost_34 ?_
    refine r_iconst C (v := 0) (by decide) dX11_lost_37 ?_
    refine r_dup2 C rfl rfl dX11_lost_38 ?_
    refine r_iald C o_106 h dX11_lost_39 (fun h => ?_)
    refine r_iload_n C 1 rfl rfl dX11_lost_40 ?_
    refine r_iadd C dX11_lost_41 ?_
    refine r_iast C o_106 h dX11_lost_42 (fun h => ?_)
    refine r_nmI h (fun I33 h => ?_)
    refine r_aload_n C 0 rfl rfl dX11_lost_43 ?_
    refine r_sipush C (v := 400) (by decide) dX11_lost_44 ?_
    obtain ⟨I34, J35, hq36, h⟩ := bd2_ h
    refine r_cvv C (rest := []) (c_X11_trial  hq36) fm_X11_trial lk_X11_260 o_98 ⟨_, ct_10 o_98.1⟩ rfl rfl ⟨rfl, rfl, Nat.le_of_ble_eq_true rfl, Nat.le_of_ble_eq_true rfl⟩ (Nat.le_of_ble_eq_true rfl) rfl dX11_lost_47 ?_
    refine r_iconst C (v := 0) (by decide) dX11_lost_50 ?_
    refine r_istore_n C (lv1 := [(2, .int (0 : Int32)), (0, .ref (ad 98)), (1, .int a0)]) rfl (by decide) rfl dX11_lost_51 ?_
    exact r_sub [1, 0] rfl (wL_X11_lost_52 C hr _  h)
  · refine r_iconst C (v := -1) (by decide) dX11_lost_12 ?_
    have hz9 := Option.some.inj h
    subst hz9
    exact r_iret C hr dX11_lost_13
set_option maxHeartbeats 4000000 in
set_option maxRecDepth 100000 in
theorem c_X11_lost {l : Launch} {g : GG} {ad : Nat → Nat} {a0 : Int32} {I : HI} {J : HJ} {r : Int32} {I1 : HI} {J1 : HJ} (h : f_X11_lost a0 I J = some (r, I1, J1)) : CM l yX11_lost cX11_lost 3 (some .int) (rmk 5 110) g ad nO oR [.ref (ad 98), .int a0] I J (QAi g ad nO oR r I1 J1) :=
  CM_of (by decide +kernel) (Nat.le_of_ble_eq_true rfl) (fun p e s m args below meth c C hr => w_X11_lost C hr h)
set_option maxHeartbeats 4000000 in
set_option maxRecDepth 100000 in
theorem wLB_X11_prove_47 {l : Launch} {g : GG} {ad : Nat → Nat} {p : Program} {e : Env} {s : State} {m : MethodId} {args : Array Value} {below : List Frame} {meth : Method} {c : Code} {a0 : Int32} {z : Int32 × HI × HJ} (C : Cx p s m args meth c RX11 cX11_prove 3 g (AW ad nO)) (hr : meth.sig.returnType = (some .int))  {r_47 : Int32 → HI → HJ → Option (Int32 × HI × HJ)} (hr_47 : ∀ {x2 : Int32} {I : HI} {J : HJ}, r_47 x2 I J = some z → V p l e (rmk 5 110) s m args below meth c (MQ below (QAi g ad nO oR z.1 z.2.1 z.2.2) args s 0 0 (AW ad nO)) 3 0 0 g (AW ad nO) ad nO oR I J 47 [(0, .ref (ad 98)), (2, .int x2)] []) {x2 : Int32} {I : HI} {J : HJ} (h : fLB_X11_prove_47 a0 r_47 x2 I J = some z) : V p l e (rmk 5 110) s m args below meth c (MQ below (QAi g ad nO oR z.1 z.2.1 z.2.2) args s 0 0 (AW ad nO)) 3 0 0 g (AW ad nO) ad nO oR I J 47 [(0, .ref (ad 98)), (2, .int x2)] [] := by
  unfold fLB_X11_prove_47 at h
  refine r_iload_n C 1 rfl rfl dX11_prove_47 ?_
  refine r_aload_n C 0 rfl rfl dX11_prove_48 ?_
  refine gf_X11_277 C o_98 dX11_prove_49 ?_
  refine r_icmp_ge C (tgt := 91) h dX11_prove_52 (by decide) (fun h => ?_) (fun h => ?_)
  · refine r_aload_n C 0 rfl rfl dX11_prove_91 ?_
    refine gf_X11_277 C o_98 dX11_prove_92 ?_
    have hz9 := Option.some.inj h
    subst hz9
    exact r_iret C hr dX11_prove_95
  · refine r_aload_n C 0 rfl rfl dX11_prove_55 ?_
    refine gf_X11_59 C rf0 o_98 (q := 115) rfl dX11_prove_56 ?_
    refine r_iconst C (v := 2) (by decide) dX11_prove_59 ?_
    refine r_iload_n C 1 rfl rfl dX11_prove_60 ?_
    refine r_imul C dX11_prove_61 ?_
    refine r_pc (pc1 := 62) rfl ?_
    refine r_aload_n C 0 rfl rfl dX11_prove_62 ?_
    refine gf_X11_35 C rf0 o_98 (q := 107) rfl dX11_prove_63 ?_
    refine r_iload_n C 1 rfl rfl dX11_prove_66 ?_
    refine r_iald C o_107 h dX11_prove_67 (fun h => ?_)
    refine r_iast C o_115 h dX11_prove_68 (fun h => ?_)
    refine r_nmI h (fun I13 h => ?_)
    refine r_aload_n C 0 rfl rfl dX11_prove_69 ?_
    refine gf_X11_59 C rf0 o_98 (q := 115) rfl dX11_prove_70 ?_
    refine r_iconst C (v := 2) (by decide) dX11_prove_73 ?_
    refine r_iload_n C 1 rfl rfl dX11_prove_74 ?_
    refine r_imul C dX11_prove_75 ?_
    refine r_pc (pc1 := 76) rfl ?_
    refine r_iconst C (v := 1) (by decide) dX11_prove_76 ?_
    refine r_iadd C dX11_prove_77 ?_
    refine r_aload_n C 0 rfl rfl dX11_prove_78 ?_
    refine gf_X11_38 C rf0 o_98 (q := 108) rfl dX11_prove_79 ?_
    refine r_iload_n C 1 rfl rfl dX11_prove_82 ?_
    refine r_iald C o_108 h dX11_prove_83 (fun h => ?_)
    refine r_iast C o_115 h dX11_prove_84 (fun h => ?_)
    refine r_nmI h (fun I14 h => ?_)
    refine r_iincN C h (k := 1) (zz := 1) rfl rfl (by decide) (lv1 := fun v15 => [(2, .int v15), (0, .ref (ad 98))]) (fun _ => rfl) dX11_prove_85 (fun v15 h => ?_)
    refine r_goto C (tgt := 47) dX11_prove_88 (by decide) ?_
    exact r_sub [1, 0] rfl (hr_47  h)
set_option maxHeartbeats 4000000 in
set_option maxRecDepth 100000 in
theorem wL_X11_prove_47 {l : Launch} {g : GG} {ad : Nat → Nat} {p : Program} {e : Env} {s : State} {m : MethodId} {args : Array Value} {below : List Frame} {meth : Method} {c : Code} {a0 : Int32} {z : Int32 × HI × HJ} (C : Cx p s m args meth c RX11 cX11_prove 3 g (AW ad nO)) (hr : meth.sig.returnType = (some .int))  : ∀ (f : Nat) {x2 : Int32} {I : HI} {J : HJ}, fL_X11_prove_47 a0 f x2 I J = some z → V p l e (rmk 5 110) s m args below meth c (MQ below (QAi g ad nO oR z.1 z.2.1 z.2.2) args s 0 0 (AW ad nO)) 3 0 0 g (AW ad nO) ad nO oR I J 47 [(0, .ref (ad 98)), (2, .int x2)] [] := by
  intro f
  induction f with
  | zero =>
    intro _ _ _  h
    have h0 : (none : Option (Int32 × HI × HJ)) = some z := h
    cases h0
  | succ f ih =>
    intro _ _ _  h
    exact wLB_X11_prove_47 C hr ih  h
set_option maxHeartbeats 4000000 in
set_option maxRecDepth 100000 in
theorem wB_X11_prove_42 {l : Launch} {g : GG} {ad : Nat → Nat} {p : Program} {e : Env} {s : State} {m : MethodId} {args : Array Value} {below : List Frame} {meth : Method} {c : Code} {a0 : Int32} {z : Int32 × HI × HJ} (C : Cx p s m args meth c RX11 cX11_prove 3 g (AW ad nO)) (hr : meth.sig.returnType = (some .int))  {s0 : Int32} {I : HI} {J : HJ} (h : fB_X11_prove_42 a0 s0 I J = some z) : V p l e (rmk 5 110) s m args below meth c (MQ below (QAi g ad nO oR z.1 z.2.1 z.2.2) args s 0 0 (AW ad nO)) 3 0 0 g (AW ad nO) ad nO oR I J 42 [(0, .ref (ad 98))] [.int s0, .ref (ad 98)] := by
  unfold fB_X11_prove_42 at h
  refine pf_X11_277 C o_98 dX11_prove_42 ?_
  refine r_nmI h (fun I16 h => ?_)
  refine r_iconst C (v := 0) (by decide) dX11_prove_45 ?_
  refine r_istore_n C (lv1 := [(2, .int (0 : Int32)), (0, .ref (ad 98))]) rfl (by decide) rfl dX11_prove_46 ?_
  exact r_sub [1, 0] rfl (wL_X11_prove_47 C hr _  h)
set_option maxHeartbeats 4000000 in
set_option maxRecDepth 100000 in
theorem w_X11_prove {l : Launch} {g : GG} {ad : Nat → Nat} {p : Program} {e : Env} {s : State} {m : MethodId} {args : Array Value} {below : List Frame} {meth : Method} {c : Code} {a0 : Int32} {z : Int32 × HI × HJ} (C : Cx p s m args meth c RX11 cX11_prove 3 g (AW ad nO)) (hr : meth.sig.returnType = (some .int)) {I : HI} {J : HJ} (h : f_X11_prove a0 I J = some z) : V p l e (rmk 5 110) s m args below meth c (MQ below (QAi g ad nO oR z.1 z.2.1 z.2.2) args s 0 0 (AW ad nO)) 3 0 0 g (AW ad nO) ad nO oR I J 0 [(0, .ref (ad 98)), (1, .int a0)] [] := by
  unfold f_X11_prove at h
  refine r_iload_n C 1 rfl rfl dX11_prove_0 ?_
  refine r_i2l C dX11_prove_1 ?_
  refine r_lconst C (v := 1) (by decide) dX11_prove_2 ?_
  refine r_ldc2 C (v := 12) lk_X11_275 dX11_prove_3 ?_
  obtain ⟨r17, hq18, h⟩ := bd1_ h
  refine r_csi C (rest := []) (c_X11_in  hq18) fm_X11_in lk_X11_114 rfl ⟨rfl, rfl, Nat.le_of_ble_eq_true rfl, Nat.le_of_ble_eq_true rfl⟩ (Nat.le_of_ble_eq_true rfl) rfl dX11_prove_6 ?_
  refine r_if_ne C (tgt := 14) h dX11_prove_9 (by decide) (fun h => ?_) (fun h => ?_)
  · refine r_aload_n C 0 rfl rfl dX11_prove_14 ?_
    obtain ⟨I19, J20, hq21, h⟩ := bd2_ h
    refine r_cvv C (rest := []) (c_X11_opens  hq21) fm_X11_opens lk_X11_130 o_98 ⟨_, ct_10 o_98.1⟩ rfl rfl ⟨rfl, rfl, Nat.le_of_ble_eq_true rfl, Nat.le_of_ble_eq_true rfl⟩ (Nat.le_of_ble_eq_true rfl) rfl dX11_prove_15 ?_
    refine r_aload_n C 0 rfl rfl dX11_prove_18 ?_
    refine r_sipush C (v := 400) (by decide) dX11_prove_19 ?_
    obtain ⟨I22, J23, hq24, h⟩ := bd2_ h
    refine r_cvv C (rest := []) (c_X11_trial  hq24) fm_X11_trial lk_X11_260 o_98 ⟨_, ct_10 o_98.1⟩ rfl rfl ⟨rfl, rfl, Nat.le_of_ble_eq_true rfl, Nat.le_of_ble_eq_true rfl⟩ (Nat.le_of_ble_eq_true rfl) rfl dX11_prove_22 ?_
    refine r_aload_n C 0 rfl rfl dX11_prove_25 ?_
    refine r_aload_n C 0 rfl rfl dX11_prove_26 ?_
    refine gf_X11_86 C o_98 dX11_prove_27 ?_
    refine r_iload_n C 1 rfl rfl dX11_prove_30 ?_
    refine r_icmp_ge C (tgt := 41) h dX11_prove_31 (by decide) (fun h => ?_) (fun h => ?_)
    · refine r_iload_n C 1 rfl rfl dX11_prove_41 ?_
      exact r_sub [0] rfl (wB_X11_prove_42 C hr  h)
    · refine r_aload_n C 0 rfl rfl dX11_prove_34 ?_
      refine gf_X11_86 C o_98 dX11_prove_35 ?_
      refine r_goto C (tgt := 42) dX11_prove_38 (by decide) ?_
      exact r_sub [0] rfl (wB_X11_prove_42 C hr  h)
  · refine r_iconst C (v := -1) (by decide) dX11_prove_12 ?_
    have hz9 := Option.some.inj h
    subst hz9
    exact r_iret C hr dX11_prove_13
set_option maxHeartbeats 4000000 in
set_option maxRecDepth 100000 in
theorem c_X11_prove {l : Launch} {g : GG} {ad : Nat → Nat} {a0 : Int32} {I : HI} {J : HJ} {r : Int32} {I1 : HI} {J1 : HJ} (h : f_X11_prove a0 I J = some (r, I1, J1)) : CM l yX11_prove cX11_prove 3 (some .int) (rmk 5 110) g ad nO oR [.ref (ad 98), .int a0] I J (QAi g ad nO oR r I1 J1) :=
  CM_of (by decide +kernel) (Nat.le_of_ble_eq_true rfl) (fun p e s m args below meth c C hr => w_X11_prove C hr h)
set_option maxHeartbeats 4000000 in
set_option maxRecDepth 100000 in
theorem w_X11_row {l : Launch} {g : GG} {ad : Nat → Nat} {p : Program} {e : Env} {s : State} {m : MethodId} {args : Array Value} {below : List Frame} {meth : Method} {c : Code} {a0 : Int32} {a1 : Int32} {z : Int32} (C : Cx p s m args meth c RX11 cX11_row 3 g (AW ad nO)) (hr : meth.sig.returnType = (some .int)) {I : HI} {J : HJ} (h : f_X11_row a0 a1 I J = some z) : V p l e (rmk 1 25) s m args below meth c (MQ below (QAi g ad nO oR z I J) args s 0 0 (AW ad nO)) 3 0 0 g (AW ad nO) ad nO oR I J 0 [(0, .ref (ad 98)), (1, .int a0), (2, .int a1)] [] := by
  unfold f_X11_row at h
  refine r_iload_n C 1 rfl rfl dX11_row_0 ?_
  refine r_i2l C dX11_row_1 ?_
  refine r_lconst C (v := 0) (by decide) dX11_row_2 ?_
  refine r_aload_n C 0 rfl rfl dX11_row_3 ?_
  refine gf_X11_277 C o_98 dX11_row_4 ?_
  refine r_pc (pc1 := 7) rfl ?_
  refine r_iconst C (v := 1) (by decide) dX11_row_7 ?_
  refine r_isub C dX11_row_8 ?_
  refine r_i2l C dX11_row_9 ?_
  obtain ⟨r5, hq6, h⟩ := bd1_ h
  refine r_csi C (rest := []) (c_X11_in  hq6) fm_X11_in lk_X11_114 rfl ⟨rfl, rfl, Nat.le_of_ble_eq_true rfl, Nat.le_of_ble_eq_true rfl⟩ (Nat.le_of_ble_eq_true rfl) rfl dX11_row_10 ?_
  refine r_if_eq C (tgt := 39) h dX11_row_13 (by decide) (fun h => ?_) (fun h => ?_)
  · refine r_bipush C (v := -9) (by decide) dX11_row_39 ?_
    have hz9 := Option.some.inj h
    subst hz9
    exact r_iret C hr dX11_row_41
  · refine r_iload_n C 2 rfl rfl dX11_row_16 ?_
    refine r_i2l C dX11_row_17 ?_
    refine r_lconst C (v := 0) (by decide) dX11_row_18 ?_
    refine r_lconst C (v := 1) (by decide) dX11_row_19 ?_
    obtain ⟨r7, hq8, h⟩ := bd1_ h
    refine r_csi C (rest := []) (c_X11_in  hq8) fm_X11_in lk_X11_114 rfl ⟨rfl, rfl, Nat.le_of_ble_eq_true rfl, Nat.le_of_ble_eq_true rfl⟩ (Nat.le_of_ble_eq_true rfl) rfl dX11_row_20 ?_
    refine r_if_eq C (tgt := 39) h dX11_row_23 (by decide) (fun h => ?_) (fun h => ?_)
    · refine r_bipush C (v := -9) (by decide) dX11_row_39 ?_
      have hz9 := Option.some.inj h
      subst hz9
      exact r_iret C hr dX11_row_41
    · refine r_aload_n C 0 rfl rfl dX11_row_26 ?_
      refine gf_X11_59 C rf0 o_98 (q := 115) rfl dX11_row_27 ?_
      refine r_iconst C (v := 2) (by decide) dX11_row_30 ?_
      refine r_iload_n C 1 rfl rfl dX11_row_31 ?_
      refine r_imul C dX11_row_32 ?_
      refine r_pc (pc1 := 33) rfl ?_
      refine r_iload_n C 2 rfl rfl dX11_row_33 ?_
      refine r_iadd C dX11_row_34 ?_
      refine r_iald C o_115 h dX11_row_35 (fun h => ?_)
      refine r_goto C (tgt := 41) dX11_row_36 (by decide) ?_
      have hz9 := Option.some.inj h
      subst hz9
      exact r_iret C hr dX11_row_41
set_option maxHeartbeats 4000000 in
set_option maxRecDepth 100000 in
theorem c_X11_row {l : Launch} {g : GG} {ad : Nat → Nat} {a0 : Int32} {a1 : Int32} {I : HI} {J : HJ} {r : Int32} (h : f_X11_row a0 a1 I J = some r) : CM l yX11_row cX11_row 3 (some .int) (rmk 1 25) g ad nO oR [.ref (ad 98), .int a0, .int a1] I J (QAi g ad nO oR r I J) :=
  CM_of (by decide +kernel) (Nat.le_of_ble_eq_true rfl) (fun p e s m args below meth c C hr => w_X11_row C hr h)
set_option maxHeartbeats 4000000 in
set_option maxRecDepth 100000 in
theorem w_X11_alterRow {l : Launch} {g : GG} {ad : Nat → Nat} {p : Program} {e : Env} {s : State} {m : MethodId} {args : Array Value} {below : List Frame} {meth : Method} {c : Code} {a0 : Int32} {a1 : Int32} {a2 : Int32} {z : Int32 × HI} (C : Cx p s m args meth c RX11 cX11_alterRow 5 g (AW ad nO)) (hr : meth.sig.returnType = (some .int)) {I : HI} {J : HJ} (h : f_X11_alterRow a0 a1 a2 I J = some z) : V p l e (rmk 1 25) s m args below meth c (MQ below (QAi g ad nO oR z.1 z.2 J) args s 0 0 (AW ad nO)) 5 0 0 g (AW ad nO) ad nO oR I J 0 [(0, .ref (ad 98)), (1, .int a0), (2, .int a1), (3, .int a2)] [] := by
  unfold f_X11_alterRow at h
  refine r_iload_n C 1 rfl rfl dX11_alterRow_0 ?_
  refine r_i2l C dX11_alterRow_1 ?_
  refine r_lconst C (v := 0) (by decide) dX11_alterRow_2 ?_
  refine r_aload_n C 0 rfl rfl dX11_alterRow_3 ?_
  refine gf_X11_277 C o_98 dX11_alterRow_4 ?_
  refine r_pc (pc1 := 7) rfl ?_
  refine r_iconst C (v := 1) (by decide) dX11_alterRow_7 ?_
  refine r_isub C dX11_alterRow_8 ?_
  refine r_i2l C dX11_alterRow_9 ?_
  obtain ⟨r7, hq8, h⟩ := bd1_ h
  refine r_csi C (rest := []) (c_X11_in  hq8) fm_X11_in lk_X11_114 rfl ⟨rfl, rfl, Nat.le_of_ble_eq_true rfl, Nat.le_of_ble_eq_true rfl⟩ (Nat.le_of_ble_eq_true rfl) rfl dX11_alterRow_10 ?_
  refine r_if_eq C (tgt := 26) h dX11_alterRow_13 (by decide) (fun h => ?_) (fun h => ?_)
  · refine r_bipush C (v := -9) (by decide) dX11_alterRow_26 ?_
    have hz9 := Option.some.inj h
    subst hz9
    exact r_iret C hr dX11_alterRow_28
  · refine r_iload_n C 2 rfl rfl dX11_alterRow_16 ?_
    refine r_i2l C dX11_alterRow_17 ?_
    refine r_lconst C (v := 0) (by decide) dX11_alterRow_18 ?_
    refine r_lconst C (v := 1) (by decide) dX11_alterRow_19 ?_
    obtain ⟨r9, hq10, h⟩ := bd1_ h
    refine r_csi C (rest := []) (c_X11_in  hq10) fm_X11_in lk_X11_114 rfl ⟨rfl, rfl, Nat.le_of_ble_eq_true rfl, Nat.le_of_ble_eq_true rfl⟩ (Nat.le_of_ble_eq_true rfl) rfl dX11_alterRow_20 ?_
    refine r_if_ne C (tgt := 29) h dX11_alterRow_23 (by decide) (fun h => ?_) (fun h => ?_)
    · refine r_aload_n C 0 rfl rfl dX11_alterRow_29 ?_
      refine gf_X11_59 C rf0 o_98 (q := 115) rfl dX11_alterRow_30 ?_
      refine r_iconst C (v := 2) (by decide) dX11_alterRow_33 ?_
      refine r_iload_n C 1 rfl rfl dX11_alterRow_34 ?_
      refine r_imul C dX11_alterRow_35 ?_
      refine r_pc (pc1 := 36) rfl ?_
      refine r_iload_n C 2 rfl rfl dX11_alterRow_36 ?_
      refine r_iadd C dX11_alterRow_37 ?_
      refine r_iald C o_115 h dX11_alterRow_38 (fun h => ?_)
      refine r_nmi h (fun v11 h => ?_)
      refine r_istore C (lv1 := [(4, .int v11), (0, .ref (ad 98)), (1, .int a0), (2, .int a1), (3, .int a2)]) (by decide) rfl dX11_alterRow_39 ?_
      refine r_aload_n C 1 rfl rfl dX11_alterRow_41 ?_
      refine gf_X11_59 C rf0 o_98 (q := 115) rfl dX11_alterRow_42 ?_
      refine r_iconst C (v := 2) (by decide) dX11_alterRow_45 ?_
      refine r_iload_n C 2 rfl rfl dX11_alterRow_46 ?_
      refine r_imul C dX11_alterRow_47 ?_
      refine r_pc (pc1 := 48) rfl ?_
      refine r_iload_n C 3 rfl rfl dX11_alterRow_48 ?_
      refine r_iadd C dX11_alterRow_49 ?_
      refine r_iload_n C 4 rfl rfl dX11_alterRow_50 ?_
      refine r_iast C o_115 h dX11_alterRow_51 (fun h => ?_)
      refine r_nmI h (fun I12 h => ?_)
      refine r_iload C 0 rfl dX11_alterRow_52 ?_
      have hz9 := Option.some.inj h
      subst hz9
      exact r_iret C hr dX11_alterRow_54
    · refine r_bipush C (v := -9) (by decide) dX11_alterRow_26 ?_
      have hz9 := Option.some.inj h
      subst hz9
      exact r_iret C hr dX11_alterRow_28
set_option maxHeartbeats 4000000 in
set_option maxRecDepth 100000 in
theorem c_X11_alterRow {l : Launch} {g : GG} {ad : Nat → Nat} {a0 : Int32} {a1 : Int32} {a2 : Int32} {I : HI} {J : HJ} {r : Int32} {I1 : HI} (h : f_X11_alterRow a0 a1 a2 I J = some (r, I1)) : CM l yX11_alterRow cX11_alterRow 5 (some .int) (rmk 1 25) g ad nO oR [.ref (ad 98), .int a0, .int a1, .int a2] I J (QAi g ad nO oR r I1 J) :=
  CM_of (by decide +kernel) (Nat.le_of_ble_eq_true rfl) (fun p e s m args below meth c C hr => w_X11_alterRow C hr h)
set_option maxHeartbeats 4000000 in
set_option maxRecDepth 100000 in
theorem wLB_X11_judge_13 {l : Launch} {g : GG} {ad : Nat → Nat} {p : Program} {e : Env} {s : State} {m : MethodId} {args : Array Value} {below : List Frame} {meth : Method} {c : Code} {z : Int32 × HI × HJ} (C : Cx p s m args meth c RX11 cX11_judge 2 g (AW ad nO)) (hr : meth.sig.returnType = (some .int))  {r_13 : Int32 → HI → HJ → Option (Int32 × HI × HJ)} (hr_13 : ∀ {x1 : Int32} {I : HI} {J : HJ}, r_13 x1 I J = some z → V p l e (rmk 5 110) s m args below meth c (MQ below (QAi g ad nO oR z.1 z.2.1 z.2.2) args s 0 0 (AW ad nO)) 2 0 0 g (AW ad nO) ad nO oR I J 13 [(0, .ref (ad 98)), (1, .int x1)] []) {x1 : Int32} {I : HI} {J : HJ} (h : fLB_X11_judge_13 r_13 x1 I J = some z) : V p l e (rmk 5 110) s m args below meth c (MQ below (QAi g ad nO oR z.1 z.2.1 z.2.2) args s 0 0 (AW ad nO)) 2 0 0 g (AW ad nO) ad nO oR I J 13 [(0, .ref (ad 98)), (1, .int x1)] [] := by
  unfold fLB_X11_judge_13 at h
  refine r_iload_n C 1 rfl rfl dX11_judge_13 ?_
  refine r_aload_n C 0 rfl rfl dX11_judge_14 ?_
  refine gf_X11_277 C o_98 dX11_judge_15 ?_
  refine r_icmp_ge C (tgt := 75) h dX11_judge_18 (by decide) (fun h => ?_) (fun h => ?_)
  · refine r_iconst C (v := 0) (by decide) dX11_judge_75 ?_
    have hz9 := Option.some.inj h
    subst hz9
    exact r_iret C hr dX11_judge_76
  · refine r_iload_n C 1 rfl rfl dX11_judge_21 ?_
    refine r_aload_n C 0 rfl rfl dX11_judge_22 ?_
    refine gf_X11_86 C o_98 dX11_judge_23 ?_
    refine r_icmp_ge C (tgt := 65) h dX11_judge_26 (by decide) (fun h => ?_) (fun h => ?_)
    · refine r_iload_n C 1 rfl rfl dX11_judge_65 ?_
      refine r_iconst C (v := 1) (by decide) dX11_judge_66 ?_
      refine r_iadd C dX11_judge_67 ?_
      have hz9 := Option.some.inj h
      subst hz9
      exact r_iret C hr dX11_judge_68
    · refine r_aload_n C 0 rfl rfl dX11_judge_29 ?_
      refine gf_X11_59 C rf0 o_98 (q := 115) rfl dX11_judge_30 ?_
      refine r_iconst C (v := 2) (by decide) dX11_judge_33 ?_
      refine r_iload_n C 1 rfl rfl dX11_judge_34 ?_
      refine r_imul C dX11_judge_35 ?_
      refine r_pc (pc1 := 36) rfl ?_
      refine r_iald C o_115 h dX11_judge_36 (fun h => ?_)
      refine r_aload_n C 0 rfl rfl dX11_judge_37 ?_
      refine gf_X11_35 C rf0 o_98 (q := 107) rfl dX11_judge_38 ?_
      refine r_iload_n C 1 rfl rfl dX11_judge_41 ?_
      refine r_iald C o_107 h dX11_judge_42 (fun h => ?_)
      refine r_icmp_ne C (tgt := 65) h dX11_judge_43 (by decide) (fun h => ?_) (fun h => ?_)
      · refine r_iload_n C 1 rfl rfl dX11_judge_65 ?_
        refine r_iconst C (v := 1) (by decide) dX11_judge_66 ?_
        refine r_iadd C dX11_judge_67 ?_
        have hz9 := Option.some.inj h
        subst hz9
        exact r_iret C hr dX11_judge_68
      · refine r_aload_n C 0 rfl rfl dX11_judge_46 ?_
        refine gf_X11_59 C rf0 o_98 (q := 115) rfl dX11_judge_47 ?_
        refine r_iconst C (v := 2) (by decide) dX11_judge_50 ?_
        refine r_iload_n C 1 rfl rfl dX11_judge_51 ?_
        refine r_imul C dX11_judge_52 ?_
        refine r_pc (pc1 := 53) rfl ?_
        refine r_iconst C (v := 1) (by decide) dX11_judge_53 ?_
        refine r_iadd C dX11_judge_54 ?_
        refine r_iald C o_115 h dX11_judge_55 (fun h => ?_)
        refine r_aload_n C 0 rfl rfl dX11_judge_56 ?_
        refine gf_X11_38 C rf0 o_98 (q := 108) rfl dX11_judge_57 ?_
        refine r_iload_n C 1 rfl rfl dX11_judge_60 ?_
        refine r_iald C o_108 h dX11_judge_61 (fun h => ?_)
        refine r_icmp_eq C (tgt := 69) h dX11_judge_62 (by decide) (fun h => ?_) (fun h => ?_)
        · refine r_iincN C h (k := 1) (zz := 1) rfl rfl (by decide) (lv1 := fun v8 => [(1, .int v8), (0, .ref (ad 98))]) (fun _ => rfl) dX11_judge_69 (fun v8 h => ?_)
          refine r_goto C (tgt := 13) dX11_judge_72 (by decide) ?_
          exact r_sub [1, 0] rfl (hr_13  h)
        · refine r_iload_n C 1 rfl rfl dX11_judge_65 ?_
          refine r_iconst C (v := 1) (by decide) dX11_judge_66 ?_
          refine r_iadd C dX11_judge_67 ?_
          have hz9 := Option.some.inj h
          subst hz9
          exact r_iret C hr dX11_judge_68
set_option maxHeartbeats 4000000 in
set_option maxRecDepth 100000 in
theorem wL_X11_judge_13 {l : Launch} {g : GG} {ad : Nat → Nat} {p : Program} {e : Env} {s : State} {m : MethodId} {args : Array Value} {below : List Frame} {meth : Method} {c : Code} {z : Int32 × HI × HJ} (C : Cx p s m args meth c RX11 cX11_judge 2 g (AW ad nO)) (hr : meth.sig.returnType = (some .int))  : ∀ (f : Nat) {x1 : Int32} {I : HI} {J : HJ}, fL_X11_judge_13 f x1 I J = some z → V p l e (rmk 5 110) s m args below meth c (MQ below (QAi g ad nO oR z.1 z.2.1 z.2.2) args s 0 0 (AW ad nO)) 2 0 0 g (AW ad nO) ad nO oR I J 13 [(0, .ref (ad 98)), (1, .int x1)] [] := by
  intro f
  induction f with
  | zero =>
    intro _ _ _  h
    have h0 : (none : Option (Int32 × HI × HJ)) = some z := h
    cases h0
  | succ f ih =>
    intro _ _ _  h
    exact wLB_X11_judge_13 C hr ih  h
set_option maxHeartbeats 4000000 in
set_option maxRecDepth 100000 in
theorem w_X11_judge {l : Launch} {g : GG} {ad : Nat → Nat} {p : Program} {e : Env} {s : State} {m : MethodId} {args : Array Value} {below : List Frame} {meth : Method} {c : Code} {z : Int32 × HI × HJ} (C : Cx p s m args meth c RX11 cX11_judge 2 g (AW ad nO)) (hr : meth.sig.returnType = (some .int)) {I : HI} {J : HJ} (h : f_X11_judge I J = some z) : V p l e (rmk 5 110) s m args below meth c (MQ below (QAi g ad nO oR z.1 z.2.1 z.2.2) args s 0 0 (AW ad nO)) 2 0 0 g (AW ad nO) ad nO oR I J 0 [(0, .ref (ad 98))] [] := by
  unfold f_X11_judge at h
  refine r_aload_n C 0 rfl rfl dX11_judge_0 ?_
  obtain ⟨I9, J10, hq11, h⟩ := bd2_ h
  refine r_cvv C (rest := []) (c_X11_opens  hq11) fm_X11_opens lk_X11_130 o_98 ⟨_, ct_10 o_98.1⟩ rfl rfl ⟨rfl, rfl, Nat.le_of_ble_eq_true rfl, Nat.le_of_ble_eq_true rfl⟩ (Nat.le_of_ble_eq_true rfl) rfl dX11_judge_1 ?_
  refine r_aload_n C 0 rfl rfl dX11_judge_4 ?_
  refine r_sipush C (v := 400) (by decide) dX11_judge_5 ?_
  obtain ⟨I12, J13, hq14, h⟩ := bd2_ h
  refine r_cvv C (rest := []) (c_X11_trial  hq14) fm_X11_trial lk_X11_260 o_98 ⟨_, ct_10 o_98.1⟩ rfl rfl ⟨rfl, rfl, Nat.le_of_ble_eq_true rfl, Nat.le_of_ble_eq_true rfl⟩ (Nat.le_of_ble_eq_true rfl) rfl dX11_judge_8 ?_
  refine r_iconst C (v := 0) (by decide) dX11_judge_11 ?_
  refine r_istore_n C (lv1 := [(1, .int (0 : Int32)), (0, .ref (ad 98))]) rfl (by decide) rfl dX11_judge_12 ?_
  exact r_sub [1, 0] rfl (wL_X11_judge_13 C hr _  h)
set_option maxHeartbeats 4000000 in
set_option maxRecDepth 100000 in
theorem c_X11_judge {l : Launch} {g : GG} {ad : Nat → Nat} {I : HI} {J : HJ} {r : Int32} {I1 : HI} {J1 : HJ} (h : f_X11_judge I J = some (r, I1, J1)) : CM l yX11_judge cX11_judge 2 (some .int) (rmk 5 110) g ad nO oR [.ref (ad 98)] I J (QAi g ad nO oR r I1 J1) :=
  CM_of (by decide +kernel) (Nat.le_of_ble_eq_true rfl) (fun p e s m args below meth c C hr => w_X11_judge C hr h)
set_option maxHeartbeats 4000000 in
set_option maxRecDepth 100000 in
theorem w_X11_isRecord {l : Launch} {g : GG} {ad : Nat → Nat} {p : Program} {e : Env} {s : State} {m : MethodId} {args : Array Value} {below : List Frame} {meth : Method} {c : Code} {a0 : Int32} {z : Int32} (C : Cx p s m args meth c RX11 cX11_isRecord 2 g (AW ad nO)) (hr : meth.sig.returnType = (some .boolean)) {I : HI} {J : HJ} (h : f_X11_isRecord a0 I J = some z) : V p l e (rmk 1 25) s m args below meth c (MQ below (QAi g ad nO oR z I J) args s 0 0 (AW ad nO)) 2 0 0 g (AW ad nO) ad nO oR I J 0 [(0, .ref (ad 98)), (1, .int a0)] [] := by
  unfold f_X11_isRecord at h
  refine r_iload_n C 1 rfl rfl dX11_isRecord_0 ?_
  refine r_i2l C dX11_isRecord_1 ?_
  refine r_lconst C (v := 0) (by decide) dX11_isRecord_2 ?_
  refine r_aload_n C 0 rfl rfl dX11_isRecord_3 ?_
  refine gf_X11_7 C rf0 o_98 (q := 99) rfl dX11_isRecord_4 ?_
  refine r_pc (pc1 := 7) rfl ?_
  refine r_bipush C (v := 10) (by decide) dX11_isRecord_7 ?_
  refine r_iald C o_99 h dX11_isRecord_9 (fun h => ?_)
  refine r_iconst C (v := 1) (by decide) dX11_isRecord_10 ?_
  refine r_isub C dX11_isRecord_11 ?_
  refine r_i2l C dX11_isRecord_12 ?_
  obtain ⟨r3, hq4, h⟩ := bd1_ h
  refine r_csi C (rest := []) (c_X11_in  hq4) fm_X11_in lk_X11_114 rfl ⟨rfl, rfl, Nat.le_of_ble_eq_true rfl, Nat.le_of_ble_eq_true rfl⟩ (Nat.le_of_ble_eq_true rfl) rfl dX11_isRecord_13 ?_
  obtain ⟨hz, h⟩ := ck h
  have hz9 := Option.some.inj h
  subst hz9
  exact r_zret C (zb_nar hz) hr dX11_isRecord_16
set_option maxHeartbeats 4000000 in
set_option maxRecDepth 100000 in
theorem c_X11_isRecord {l : Launch} {g : GG} {ad : Nat → Nat} {a0 : Int32} {I : HI} {J : HJ} {r : Int32} (h : f_X11_isRecord a0 I J = some r) : CM l yX11_isRecord cX11_isRecord 2 (some .boolean) (rmk 1 25) g ad nO oR [.ref (ad 98), .int a0] I J (QAi g ad nO oR r I J) :=
  CM_of (by decide +kernel) (Nat.le_of_ble_eq_true rfl) (fun p e s m args below meth c C hr => w_X11_isRecord C hr h)
set_option maxHeartbeats 4000000 in
set_option maxRecDepth 100000 in
theorem wB_X11_record_83 {l : Launch} {g : GG} {ad : Nat → Nat} {p : Program} {e : Env} {s : State} {m : MethodId} {args : Array Value} {below : List Frame} {meth : Method} {c : Code} {z : Int32 × HI} (C : Cx p s m args meth c RX11 cX11_record 3 g (AW ad nO)) (hr : meth.sig.returnType = (some .int)) {r_44 : Int32 → Int32 → HI → HJ → Option (Int32 × HI)} {J : HJ} (hr_44 : ∀ {x1 : Int32} {x2 : Int32} {I : HI}, r_44 x1 x2 I J = some z → V p l e (rmk 0 0) s m args below meth c (MQ below (QAi g ad nO oR z.1 z.2 J) args s 0 0 (AW ad nO)) 3 0 0 g (AW ad nO) ad nO oR I J 44 [(0, .ref (ad 98)), (1, .int x1), (2, .int x2)] []) {x1 : Int32} {x2 : Int32} {s0 : Int32} {s1 : Int32} {I : HI} (h : fB_X11_record_83 r_44 x1 x2 s0 s1 I J = some z) : V p l e (rmk 0 0) s m args below meth c (MQ below (QAi g ad nO oR z.1 z.2 J) args s 0 0 (AW ad nO)) 3 0 0 g (AW ad nO) ad nO oR I J 83 [(0, .ref (ad 98)), (1, .int x1), (2, .int x2)] [.int s0, .int s1, .ref (ad 99)] := by
  unfold fB_X11_record_83 at h
  refine r_iast C o_99 h dX11_record_83 (fun h => ?_)
  refine r_nmI h (fun I6 h => ?_)
  refine r_iincN C h (k := 2) (zz := 1) rfl rfl (by decide) (lv1 := fun v7 => [(2, .int v7), (0, .ref (ad 98)), (1, .int x1)]) (fun _ => rfl) dX11_record_84 (fun v7 h => ?_)
  refine r_goto C (tgt := 44) dX11_record_87 (by decide) ?_
  exact r_sub [1, 2, 0] rfl (hr_44  h)
set_option maxHeartbeats 4000000 in
set_option maxRecDepth 100000 in
theorem wLB_X11_record_44 {l : Launch} {g : GG} {ad : Nat → Nat} {p : Program} {e : Env} {s : State} {m : MethodId} {args : Array Value} {below : List Frame} {meth : Method} {c : Code} {z : Int32 × HI} (C : Cx p s m args meth c RX11 cX11_record 3 g (AW ad nO)) (hr : meth.sig.returnType = (some .int)) {J : HJ}  {r_44 : Int32 → Int32 → HI → HJ → Option (Int32 × HI)} (hr_44 : ∀ {x1 : Int32} {x2 : Int32} {I : HI}, r_44 x1 x2 I J = some z → V p l e (rmk 0 0) s m args below meth c (MQ below (QAi g ad nO oR z.1 z.2 J) args s 0 0 (AW ad nO)) 3 0 0 g (AW ad nO) ad nO oR I J 44 [(0, .ref (ad 98)), (1, .int x1), (2, .int x2)] []) {x1 : Int32} {x2 : Int32} {I : HI} (h : fLB_X11_record_44 r_44 x1 x2 I J = some z) : V p l e (rmk 0 0) s m args below meth c (MQ below (QAi g ad nO oR z.1 z.2 J) args s 0 0 (AW ad nO)) 3 0 0 g (AW ad nO) ad nO oR I J 44 [(0, .ref (ad 98)), (1, .int x1), (2, .int x2)] [] := by
  unfold fLB_X11_record_44 at h
  refine r_iload_n C 2 rfl rfl dX11_record_44 ?_
  refine r_bipush C (v := 60) (by decide) dX11_record_45 ?_
  refine r_icmp_ge C (tgt := 90) h dX11_record_47 (by decide) (fun h => ?_) (fun h => ?_)
  · refine r_aload_n C 0 rfl rfl dX11_record_90 ?_
    refine gf_X11_7 C rf0 o_98 (q := 99) rfl dX11_record_91 ?_
    refine r_bipush C (v := 10) (by decide) dX11_record_94 ?_
    refine r_dup2 C rfl rfl dX11_record_96 ?_
    refine r_iald C o_99 h dX11_record_97 (fun h => ?_)
    refine r_iconst C (v := 1) (by decide) dX11_record_98 ?_
    refine r_iadd C dX11_record_99 ?_
    refine r_iast C o_99 h dX11_record_100 (fun h => ?_)
    refine r_nmI h (fun I8 h => ?_)
    refine r_aload_n C 0 rfl rfl dX11_record_101 ?_
    refine gf_X11_7 C rf0 o_98 (q := 99) rfl dX11_record_102 ?_
    refine r_bipush C (v := 10) (by decide) dX11_record_105 ?_
    refine r_iald C o_99 h dX11_record_107 (fun h => ?_)
    refine r_iconst C (v := 1) (by decide) dX11_record_108 ?_
    refine r_isub C dX11_record_109 ?_
    have hz9 := Option.some.inj h
    subst hz9
    exact r_iret C hr dX11_record_110
  · refine r_aload_n C 0 rfl rfl dX11_record_50 ?_
    refine gf_X11_7 C rf0 o_98 (q := 99) rfl dX11_record_51 ?_
    refine r_iload_n C 1 rfl rfl dX11_record_54 ?_
    refine r_iconst C (v := 1) (by decide) dX11_record_55 ?_
    refine r_iadd C dX11_record_56 ?_
    refine r_pc (pc1 := 57) rfl ?_
    refine r_iload_n C 2 rfl rfl dX11_record_57 ?_
    refine r_iadd C dX11_record_58 ?_
    refine r_iload_n C 2 rfl rfl dX11_record_59 ?_
    refine r_aload_n C 0 rfl rfl dX11_record_60 ?_
    refine gf_X11_7 C rf0 o_98 (q := 99) rfl dX11_record_61 ?_
    refine r_bipush C (v := 9) (by decide) dX11_record_64 ?_
    refine r_pc (pc1 := 66) rfl ?_
    refine r_iald C o_99 h dX11_record_66 (fun h => ?_)
    refine r_icmp_ge C (tgt := 82) h dX11_record_67 (by decide) (fun h => ?_) (fun h => ?_)
    · refine r_iconst C (v := 0) (by decide) dX11_record_82 ?_
      exact wB_X11_record_83 C hr hr_44  h
    · refine r_aload_n C 0 rfl rfl dX11_record_70 ?_
      refine gf_X11_7 C rf0 o_98 (q := 99) rfl dX11_record_71 ?_
      refine r_bipush C (v := 12) (by decide) dX11_record_74 ?_
      refine r_iload_n C 2 rfl rfl dX11_record_76 ?_
      refine r_iadd C dX11_record_77 ?_
      refine r_pc (pc1 := 78) rfl ?_
      refine r_iald C o_99 h dX11_record_78 (fun h => ?_)
      refine r_goto C (tgt := 83) dX11_record_79 (by decide) ?_
      exact wB_X11_record_83 C hr hr_44  h
set_option maxHeartbeats 4000000 in
set_option maxRecDepth 100000 in
theorem wL_X11_record_44 {l : Launch} {g : GG} {ad : Nat → Nat} {p : Program} {e : Env} {s : State} {m : MethodId} {args : Array Value} {below : List Frame} {meth : Method} {c : Code} {z : Int32 × HI} (C : Cx p s m args meth c RX11 cX11_record 3 g (AW ad nO)) (hr : meth.sig.returnType = (some .int)) {J : HJ}  : ∀ (f : Nat) {x1 : Int32} {x2 : Int32} {I : HI}, fL_X11_record_44 f x1 x2 I J = some z → V p l e (rmk 0 0) s m args below meth c (MQ below (QAi g ad nO oR z.1 z.2 J) args s 0 0 (AW ad nO)) 3 0 0 g (AW ad nO) ad nO oR I J 44 [(0, .ref (ad 98)), (1, .int x1), (2, .int x2)] [] := by
  intro f
  induction f with
  | zero =>
    intro _ _ _  h
    have h0 : (none : Option (Int32 × HI)) = some z := h
    cases h0
  | succ f ih =>
    intro _ _ _  h
    exact wLB_X11_record_44 C hr ih  h
set_option maxHeartbeats 4000000 in
set_option maxRecDepth 100000 in
theorem w_X11_record {l : Launch} {g : GG} {ad : Nat → Nat} {p : Program} {e : Env} {s : State} {m : MethodId} {args : Array Value} {below : List Frame} {meth : Method} {c : Code} {z : Int32 × HI} (C : Cx p s m args meth c RX11 cX11_record 3 g (AW ad nO)) (hr : meth.sig.returnType = (some .int)) {I : HI} {J : HJ} (h : f_X11_record I J = some z) : V p l e (rmk 0 0) s m args below meth c (MQ below (QAi g ad nO oR z.1 z.2 J) args s 0 0 (AW ad nO)) 3 0 0 g (AW ad nO) ad nO oR I J 0 [(0, .ref (ad 98))] [] := by
  unfold f_X11_record at h
  refine r_aload_n C 0 rfl rfl dX11_record_0 ?_
  refine gf_X11_7 C rf0 o_98 (q := 99) rfl dX11_record_1 ?_
  refine r_bipush C (v := 10) (by decide) dX11_record_4 ?_
  refine r_iald C o_99 h dX11_record_6 (fun h => ?_)
  refine r_bipush C (v := 6) (by decide) dX11_record_7 ?_
  refine r_icmp_ne C (tgt := 15) h dX11_record_9 (by decide) (fun h => ?_) (fun h => ?_)
  · refine r_bipush C (v := 72) (by decide) dX11_record_15 ?_
    refine r_bipush C (v := 61) (by decide) dX11_record_17 ?_
    refine r_aload_n C 0 rfl rfl dX11_record_19 ?_
    refine gf_X11_7 C rf0 o_98 (q := 99) rfl dX11_record_20 ?_
    refine r_bipush C (v := 10) (by decide) dX11_record_23 ?_
    refine r_pc (pc1 := 25) rfl ?_
    refine r_iald C o_99 h dX11_record_25 (fun h => ?_)
    refine r_imul C dX11_record_26 ?_
    refine r_iadd C dX11_record_27 ?_
    refine r_nmi h (fun v9 h => ?_)
    refine r_istore_n C (lv1 := [(1, .int v9), (0, .ref (ad 98))]) rfl (by decide) rfl dX11_record_28 ?_
    refine r_aload_n C 1 rfl rfl dX11_record_29 ?_
    refine gf_X11_7 C rf0 o_98 (q := 99) rfl dX11_record_30 ?_
    refine r_iload_n C 0 rfl rfl dX11_record_33 ?_
    refine r_aload_n C 1 rfl rfl dX11_record_34 ?_
    refine gf_X11_7 C rf0 o_98 (q := 99) rfl dX11_record_35 ?_
    refine r_pc (pc1 := 38) rfl ?_
    refine r_bipush C (v := 9) (by decide) dX11_record_38 ?_
    refine r_iald C o_99 h dX11_record_40 (fun h => ?_)
    refine r_iast C o_99 h dX11_record_41 (fun h => ?_)
    refine r_nmI h (fun I10 h => ?_)
    refine r_iconst C (v := 0) (by decide) dX11_record_42 ?_
    refine r_istore_n C (lv1 := [(2, .int (0 : Int32)), (1, .int v9), (0, .ref (ad 98))]) rfl (by decide) rfl dX11_record_43 ?_
    exact r_sub [2, 1, 0] rfl (wL_X11_record_44 C hr _  h)
  · refine r_bipush C (v := -2) (by decide) dX11_record_12 ?_
    have hz9 := Option.some.inj h
    subst hz9
    exact r_iret C hr dX11_record_14
set_option maxHeartbeats 4000000 in
set_option maxRecDepth 100000 in
theorem c_X11_record {l : Launch} {g : GG} {ad : Nat → Nat} {I : HI} {J : HJ} {r : Int32} {I1 : HI} (h : f_X11_record I J = some (r, I1)) : CM l yX11_record cX11_record 3 (some .int) (rmk 0 0) g ad nO oR [.ref (ad 98)] I J (QAi g ad nO oR r I1 J) :=
  CM_of (by decide +kernel) (Nat.le_of_ble_eq_true rfl) (fun p e s m args below meth c C hr => w_X11_record C hr h)
set_option maxHeartbeats 4000000 in
set_option maxRecDepth 100000 in
theorem w_X11_recorded {l : Launch} {g : GG} {ad : Nat → Nat} {p : Program} {e : Env} {s : State} {m : MethodId} {args : Array Value} {below : List Frame} {meth : Method} {c : Code} {a0 : Int32} {a1 : Int32} {z : Int32 × HI} (C : Cx p s m args meth c RX11 cX11_recorded 3 g (AW ad nO)) (hr : meth.sig.returnType = (some .int)) {I : HI} {J : HJ} (h : f_X11_recorded a0 a1 I J = some z) : V p l e (rmk 3 67) s m args below meth c (MQ below (QAi g ad nO oR z.1 z.2 J) args s 0 0 (AW ad nO)) 3 0 0 g (AW ad nO) ad nO oR I J 0 [(0, .ref (ad 98)), (1, .int a0), (2, .int a1)] [] := by
  unfold f_X11_recorded at h
  refine r_aload_n C 0 rfl rfl dX11_recorded_0 ?_
  refine r_iload_n C 1 rfl rfl dX11_recorded_1 ?_
  obtain ⟨r11, hq12, h⟩ := bd1_ h
  refine r_cvi C (rest := []) (c_X11_isRecord  hq12) fm_X11_isRecord lk_X11_280 o_98 ⟨_, ct_10 o_98.1⟩ rfl rfl ⟨rfl, rfl, Nat.le_of_ble_eq_true rfl, Nat.le_of_ble_eq_true rfl⟩ (Nat.le_of_ble_eq_true rfl) rfl dX11_recorded_2 ?_
  refine r_if_eq C (tgt := 32) h dX11_recorded_5 (by decide) (fun h => ?_) (fun h => ?_)
  · refine r_iconst C (v := -1) (by decide) dX11_recorded_32 ?_
    have hz9 := Option.some.inj h
    subst hz9
    exact r_iret C hr dX11_recorded_33
  · refine r_iload_n C 2 rfl rfl dX11_recorded_8 ?_
    refine r_i2l C dX11_recorded_9 ?_
    refine r_lconst C (v := 0) (by decide) dX11_recorded_10 ?_
    refine r_iconst C (v := 2) (by decide) dX11_recorded_11 ?_
    refine r_aload_n C 0 rfl rfl dX11_recorded_12 ?_
    refine r_pc (pc1 := 13) rfl ?_
    refine gf_X11_7 C rf0 o_98 (q := 99) rfl dX11_recorded_13 ?_
    refine r_bipush C (v := 72) (by decide) dX11_recorded_16 ?_
    refine r_bipush C (v := 61) (by decide) dX11_recorded_18 ?_
    refine r_iload_n C 1 rfl rfl dX11_recorded_20 ?_
    refine r_imul C dX11_recorded_21 ?_
    refine r_iadd C dX11_recorded_22 ?_
    refine r_pc (pc1 := 23) rfl ?_
    refine r_iald C o_99 h dX11_recorded_23 (fun h => ?_)
    refine r_iadd C dX11_recorded_24 ?_
    refine r_i2l C dX11_recorded_25 ?_
    obtain ⟨r13, hq14, h⟩ := bd1_ h
    refine r_csi C (rest := []) (c_X11_in  hq14) fm_X11_in lk_X11_114 rfl ⟨rfl, rfl, Nat.le_of_ble_eq_true rfl, Nat.le_of_ble_eq_true rfl⟩ (Nat.le_of_ble_eq_true rfl) rfl dX11_recorded_26 ?_
    refine r_if_ne C (tgt := 34) h dX11_recorded_29 (by decide) (fun h => ?_) (fun h => ?_)
    · refine r_aload_n C 0 rfl rfl dX11_recorded_34 ?_
      refine r_iload_n C 1 rfl rfl dX11_recorded_35 ?_
      obtain ⟨I15, hq16, h⟩ := bd1_ h
      refine r_cvv C (rest := []) (c_X11_looksAtRecord  hq16) fm_X11_looksAtRecord lk_X11_283 o_98 ⟨_, ct_10 o_98.1⟩ rfl rfl ⟨rfl, rfl, Nat.le_of_ble_eq_true rfl, Nat.le_of_ble_eq_true rfl⟩ (Nat.le_of_ble_eq_true rfl) rfl dX11_recorded_36 ?_
      refine r_iload_n C 2 rfl rfl dX11_recorded_39 ?_
      refine r_if_ne C (tgt := 50) h dX11_recorded_40 (by decide) (fun h => ?_) (fun h => ?_)
      · refine r_iload_n C 2 rfl rfl dX11_recorded_50 ?_
        refine r_iconst C (v := 1) (by decide) dX11_recorded_51 ?_
        refine r_icmp_ne C (tgt := 62) h dX11_recorded_52 (by decide) (fun h => ?_) (fun h => ?_)
        · refine r_iload_n C 2 rfl rfl dX11_recorded_62 ?_
          refine r_iconst C (v := 2) (by decide) dX11_recorded_63 ?_
          refine r_icmp_ne C (tgt := 74) h dX11_recorded_64 (by decide) (fun h => ?_) (fun h => ?_)
          · refine r_aload_n C 0 rfl rfl dX11_recorded_74 ?_
            refine gf_X11_56 C rf0 o_98 (q := 114) rfl dX11_recorded_75 ?_
            refine r_iload_n C 2 rfl rfl dX11_recorded_78 ?_
            refine r_iconst C (v := 3) (by decide) dX11_recorded_79 ?_
            refine r_isub C dX11_recorded_80 ?_
            refine r_pc (pc1 := 81) rfl ?_
            refine r_iald C o_114 h dX11_recorded_81 (fun h => ?_)
            have hz9 := Option.some.inj h
            subst hz9
            exact r_iret C hr dX11_recorded_82
          · refine r_aload_n C 0 rfl rfl dX11_recorded_67 ?_
            obtain ⟨r17, hq18, h⟩ := bd1_ h
            refine r_cvi C (rest := []) (c_X11_periodOf  hq18) fm_X11_periodOf lk_X11_234 o_98 ⟨_, ct_10 o_98.1⟩ rfl rfl ⟨rfl, rfl, Nat.le_of_ble_eq_true rfl, Nat.le_of_ble_eq_true rfl⟩ (Nat.le_of_ble_eq_true rfl) rfl dX11_recorded_68 ?_
            refine r_goto C (tgt := 82) dX11_recorded_71 (by decide) ?_
            have hz9 := Option.some.inj h
            subst hz9
            exact r_iret C hr dX11_recorded_82
        · refine r_aload_n C 0 rfl rfl dX11_recorded_55 ?_
          refine gf_X11_228 C o_98 dX11_recorded_56 ?_
          refine r_goto C (tgt := 82) dX11_recorded_59 (by decide) ?_
          have hz9 := Option.some.inj h
          subst hz9
          exact r_iret C hr dX11_recorded_82
      · refine r_aload_n C 0 rfl rfl dX11_recorded_43 ?_
        obtain ⟨r19, hq20, h⟩ := bd1_ h
        refine r_cvi C (rest := []) (c_X11_kindOf  hq20) fm_X11_kindOf lk_X11_240 o_98 ⟨_, ct_10 o_98.1⟩ rfl rfl ⟨rfl, rfl, Nat.le_of_ble_eq_true rfl, Nat.le_of_ble_eq_true rfl⟩ (Nat.le_of_ble_eq_true rfl) rfl dX11_recorded_44 ?_
        refine r_goto C (tgt := 82) dX11_recorded_47 (by decide) ?_
        have hz9 := Option.some.inj h
        subst hz9
        exact r_iret C hr dX11_recorded_82
    · refine r_iconst C (v := -1) (by decide) dX11_recorded_32 ?_
      have hz9 := Option.some.inj h
      subst hz9
      exact r_iret C hr dX11_recorded_33
set_option maxHeartbeats 4000000 in
set_option maxRecDepth 100000 in
theorem c_X11_recorded {l : Launch} {g : GG} {ad : Nat → Nat} {a0 : Int32} {a1 : Int32} {I : HI} {J : HJ} {r : Int32} {I1 : HI} (h : f_X11_recorded a0 a1 I J = some (r, I1)) : CM l yX11_recorded cX11_recorded 3 (some .int) (rmk 3 67) g ad nO oR [.ref (ad 98), .int a0, .int a1] I J (QAi g ad nO oR r I1 J) :=
  CM_of (by decide +kernel) (Nat.le_of_ble_eq_true rfl) (fun p e s m args below meth c C hr => w_X11_recorded C hr h)
set_option maxHeartbeats 4000000 in
set_option maxRecDepth 100000 in
theorem wB_X11_alike_100 {l : Launch} {g : GG} {ad : Nat → Nat} {p : Program} {e : Env} {s : State} {m : MethodId} {args : Array Value} {below : List Frame} {meth : Method} {c : Code} {a0 : Int32} {a1 : Int32} {z : Int32} (C : Cx p s m args meth c RX11 cX11_alike 5 g (AW ad nO)) (hr : meth.sig.returnType = (some .int)) {r_23 : Int32 → Int32 → HI → HJ → Option (Int32)} {I : HI} {J : HJ} (hr_23 : ∀ {x3 : Int32} {x4 : Int32}, r_23 x3 x4 I J = some z → V p l e (rmk 2 46) s m args below meth c (MQ below (QAi g ad nO oR z I J) args s 0 0 (AW ad nO)) 5 0 0 g (AW ad nO) ad nO oR I J 23 [(0, .ref (ad 98)), (1, .int a0), (2, .int a1), (3, .int x3), (4, .int x4)] []) {x4 : Int32} {s0 : Int32} {s1 : Int32} (h : fB_X11_alike_100 a0 a1 r_23 x4 s0 s1 I J = some z) : V p l e (rmk 2 46) s m args below meth c (MQ below (QAi g ad nO oR z I J) args s 0 0 (AW ad nO)) 5 0 0 g (AW ad nO) ad nO oR I J 100 [(0, .ref (ad 98)), (1, .int a0), (2, .int a1), (4, .int x4)] [.int s0, .int s1] := by
  unfold fB_X11_alike_100 at h
  refine r_iadd C dX11_alike_100 ?_
  refine r_nmi h (fun v7 h => ?_)
  refine r_istore_n C (lv1 := [(3, .int v7), (0, .ref (ad 98)), (1, .int a0), (2, .int a1), (4, .int x4)]) rfl (by decide) rfl dX11_alike_101 ?_
  refine r_iincN C h (k := 4) (zz := 1) rfl rfl (by decide) (lv1 := fun v8 => [(4, .int v8), (3, .int v7), (0, .ref (ad 98)), (1, .int a0), (2, .int a1)]) (fun _ => rfl) dX11_alike_102 (fun v8 h => ?_)
  refine r_goto C (tgt := 23) dX11_alike_105 (by decide) ?_
  exact r_sub [2, 3, 4, 1, 0] rfl (hr_23  h)
set_option maxHeartbeats 4000000 in
set_option maxRecDepth 100000 in
theorem wLB_X11_alike_23 {l : Launch} {g : GG} {ad : Nat → Nat} {p : Program} {e : Env} {s : State} {m : MethodId} {args : Array Value} {below : List Frame} {meth : Method} {c : Code} {a0 : Int32} {a1 : Int32} {z : Int32} (C : Cx p s m args meth c RX11 cX11_alike 5 g (AW ad nO)) (hr : meth.sig.returnType = (some .int)) {I : HI} {J : HJ}  {r_23 : Int32 → Int32 → HI → HJ → Option (Int32)} (hr_23 : ∀ {x3 : Int32} {x4 : Int32}, r_23 x3 x4 I J = some z → V p l e (rmk 2 46) s m args below meth c (MQ below (QAi g ad nO oR z I J) args s 0 0 (AW ad nO)) 5 0 0 g (AW ad nO) ad nO oR I J 23 [(0, .ref (ad 98)), (1, .int a0), (2, .int a1), (3, .int x3), (4, .int x4)] []) {x3 : Int32} {x4 : Int32} (h : fLB_X11_alike_23 a0 a1 r_23 x3 x4 I J = some z) : V p l e (rmk 2 46) s m args below meth c (MQ below (QAi g ad nO oR z I J) args s 0 0 (AW ad nO)) 5 0 0 g (AW ad nO) ad nO oR I J 23 [(0, .ref (ad 98)), (1, .int a0), (2, .int a1), (3, .int x3), (4, .int x4)] [] := by
  unfold fLB_X11_alike_23 at h
  refine r_iload C 4 rfl dX11_alike_23 ?_
  refine r_aload_n C 0 rfl rfl dX11_alike_25 ?_
  refine gf_X11_7 C rf0 o_98 (q := 99) rfl dX11_alike_26 ?_
  refine r_bipush C (v := 72) (by decide) dX11_alike_29 ?_
  refine r_bipush C (v := 61) (by decide) dX11_alike_31 ?_
  refine r_pc (pc1 := 33) rfl ?_
  refine r_iload_n C 1 rfl rfl dX11_alike_33 ?_
  refine r_imul C dX11_alike_34 ?_
  refine r_iadd C dX11_alike_35 ?_
  refine r_iald C o_99 h dX11_alike_36 (fun h => ?_)
  refine r_icmp_ge C (tgt := 108) h dX11_alike_37 (by decide) (fun h => ?_) (fun h => ?_)
  · refine r_iload_n C 3 rfl rfl dX11_alike_108 ?_
    have hz9 := Option.some.inj h
    subst hz9
    exact r_iret C hr dX11_alike_109
  · refine r_iload C 4 rfl dX11_alike_40 ?_
    refine r_aload_n C 0 rfl rfl dX11_alike_42 ?_
    refine gf_X11_7 C rf0 o_98 (q := 99) rfl dX11_alike_43 ?_
    refine r_bipush C (v := 72) (by decide) dX11_alike_46 ?_
    refine r_bipush C (v := 61) (by decide) dX11_alike_48 ?_
    refine r_pc (pc1 := 50) rfl ?_
    refine r_iload_n C 2 rfl rfl dX11_alike_50 ?_
    refine r_imul C dX11_alike_51 ?_
    refine r_iadd C dX11_alike_52 ?_
    refine r_iald C o_99 h dX11_alike_53 (fun h => ?_)
    refine r_icmp_ge C (tgt := 108) h dX11_alike_54 (by decide) (fun h => ?_) (fun h => ?_)
    · refine r_iload_n C 3 rfl rfl dX11_alike_108 ?_
      have hz9 := Option.some.inj h
      subst hz9
      exact r_iret C hr dX11_alike_109
    · refine r_iload_n C 3 rfl rfl dX11_alike_57 ?_
      refine r_aload_n C 0 rfl rfl dX11_alike_58 ?_
      refine gf_X11_7 C rf0 o_98 (q := 99) rfl dX11_alike_59 ?_
      refine r_bipush C (v := 72) (by decide) dX11_alike_62 ?_
      refine r_bipush C (v := 61) (by decide) dX11_alike_64 ?_
      refine r_pc (pc1 := 66) rfl ?_
      refine r_iload_n C 1 rfl rfl dX11_alike_66 ?_
      refine r_imul C dX11_alike_67 ?_
      refine r_iadd C dX11_alike_68 ?_
      refine r_iconst C (v := 1) (by decide) dX11_alike_69 ?_
      refine r_iadd C dX11_alike_70 ?_
      refine r_iload C 4 rfl dX11_alike_71 ?_
      refine r_pc (pc1 := 73) rfl ?_
      refine r_iadd C dX11_alike_73 ?_
      refine r_iald C o_99 h dX11_alike_74 (fun h => ?_)
      refine r_aload_n C 0 rfl rfl dX11_alike_75 ?_
      refine gf_X11_7 C rf0 o_98 (q := 99) rfl dX11_alike_76 ?_
      refine r_bipush C (v := 72) (by decide) dX11_alike_79 ?_
      refine r_bipush C (v := 61) (by decide) dX11_alike_81 ?_
      refine r_iload_n C 2 rfl rfl dX11_alike_83 ?_
      refine r_pc (pc1 := 84) rfl ?_
      refine r_imul C dX11_alike_84 ?_
      refine r_iadd C dX11_alike_85 ?_
      refine r_iconst C (v := 1) (by decide) dX11_alike_86 ?_
      refine r_iadd C dX11_alike_87 ?_
      refine r_iload C 4 rfl dX11_alike_88 ?_
      refine r_iadd C dX11_alike_90 ?_
      refine r_pc (pc1 := 91) rfl ?_
      refine r_iald C o_99 h dX11_alike_91 (fun h => ?_)
      refine r_icmp_ne C (tgt := 99) h dX11_alike_92 (by decide) (fun h => ?_) (fun h => ?_)
      · refine r_iconst C (v := 0) (by decide) dX11_alike_99 ?_
        exact r_sub [0, 1, 2, 4] rfl (wB_X11_alike_100 C hr hr_23  h)
      · refine r_iconst C (v := 1) (by decide) dX11_alike_95 ?_
        refine r_goto C (tgt := 100) dX11_alike_96 (by decide) ?_
        exact r_sub [0, 1, 2, 4] rfl (wB_X11_alike_100 C hr hr_23  h)
set_option maxHeartbeats 4000000 in
set_option maxRecDepth 100000 in
theorem wL_X11_alike_23 {l : Launch} {g : GG} {ad : Nat → Nat} {p : Program} {e : Env} {s : State} {m : MethodId} {args : Array Value} {below : List Frame} {meth : Method} {c : Code} {a0 : Int32} {a1 : Int32} {z : Int32} (C : Cx p s m args meth c RX11 cX11_alike 5 g (AW ad nO)) (hr : meth.sig.returnType = (some .int)) {I : HI} {J : HJ}  : ∀ (f : Nat) {x3 : Int32} {x4 : Int32}, fL_X11_alike_23 a0 a1 f x3 x4 I J = some z → V p l e (rmk 2 46) s m args below meth c (MQ below (QAi g ad nO oR z I J) args s 0 0 (AW ad nO)) 5 0 0 g (AW ad nO) ad nO oR I J 23 [(0, .ref (ad 98)), (1, .int a0), (2, .int a1), (3, .int x3), (4, .int x4)] [] := by
  intro f
  induction f with
  | zero =>
    intro _ _  h
    have h0 : (none : Option (Int32)) = some z := h
    cases h0
  | succ f ih =>
    intro _ _  h
    exact wLB_X11_alike_23 C hr ih  h
set_option maxHeartbeats 4000000 in
set_option maxRecDepth 100000 in
theorem w_X11_alike {l : Launch} {g : GG} {ad : Nat → Nat} {p : Program} {e : Env} {s : State} {m : MethodId} {args : Array Value} {below : List Frame} {meth : Method} {c : Code} {a0 : Int32} {a1 : Int32} {z : Int32} (C : Cx p s m args meth c RX11 cX11_alike 5 g (AW ad nO)) (hr : meth.sig.returnType = (some .int)) {I : HI} {J : HJ} (h : f_X11_alike a0 a1 I J = some z) : V p l e (rmk 2 46) s m args below meth c (MQ below (QAi g ad nO oR z I J) args s 0 0 (AW ad nO)) 5 0 0 g (AW ad nO) ad nO oR I J 0 [(0, .ref (ad 98)), (1, .int a0), (2, .int a1)] [] := by
  unfold f_X11_alike at h
  refine r_aload_n C 0 rfl rfl dX11_alike_0 ?_
  refine r_iload_n C 1 rfl rfl dX11_alike_1 ?_
  obtain ⟨r9, hq10, h⟩ := bd1_ h
  refine r_cvi C (rest := []) (c_X11_isRecord  hq10) fm_X11_isRecord lk_X11_280 o_98 ⟨_, ct_10 o_98.1⟩ rfl rfl ⟨rfl, rfl, Nat.le_of_ble_eq_true rfl, Nat.le_of_ble_eq_true rfl⟩ (Nat.le_of_ble_eq_true rfl) rfl dX11_alike_2 ?_
  refine r_if_eq C (tgt := 16) h dX11_alike_5 (by decide) (fun h => ?_) (fun h => ?_)
  · refine r_iconst C (v := -1) (by decide) dX11_alike_16 ?_
    have hz9 := Option.some.inj h
    subst hz9
    exact r_iret C hr dX11_alike_17
  · refine r_aload_n C 0 rfl rfl dX11_alike_8 ?_
    refine r_iload_n C 2 rfl rfl dX11_alike_9 ?_
    obtain ⟨r11, hq12, h⟩ := bd1_ h
    refine r_cvi C (rest := []) (c_X11_isRecord  hq12) fm_X11_isRecord lk_X11_280 o_98 ⟨_, ct_10 o_98.1⟩ rfl rfl ⟨rfl, rfl, Nat.le_of_ble_eq_true rfl, Nat.le_of_ble_eq_true rfl⟩ (Nat.le_of_ble_eq_true rfl) rfl dX11_alike_10 ?_
    refine r_if_ne C (tgt := 18) h dX11_alike_13 (by decide) (fun h => ?_) (fun h => ?_)
    · refine r_iconst C (v := 0) (by decide) dX11_alike_18 ?_
      refine r_istore_n C (lv1 := [(3, .int (0 : Int32)), (0, .ref (ad 98)), (1, .int a0), (2, .int a1)]) rfl (by decide) rfl dX11_alike_19 ?_
      refine r_iconst C (v := 0) (by decide) dX11_alike_20 ?_
      refine r_istore C (lv1 := [(4, .int (0 : Int32)), (3, .int (0 : Int32)), (0, .ref (ad 98)), (1, .int a0), (2, .int a1)]) (by decide) rfl dX11_alike_21 ?_
      exact r_sub [2, 3, 4, 1, 0] rfl (wL_X11_alike_23 C hr _  h)
    · refine r_iconst C (v := -1) (by decide) dX11_alike_16 ?_
      have hz9 := Option.some.inj h
      subst hz9
      exact r_iret C hr dX11_alike_17
set_option maxHeartbeats 4000000 in
set_option maxRecDepth 100000 in
theorem c_X11_alike {l : Launch} {g : GG} {ad : Nat → Nat} {a0 : Int32} {a1 : Int32} {I : HI} {J : HJ} {r : Int32} (h : f_X11_alike a0 a1 I J = some r) : CM l yX11_alike cX11_alike 5 (some .int) (rmk 2 46) g ad nO oR [.ref (ad 98), .int a0, .int a1] I J (QAi g ad nO oR r I J) :=
  CM_of (by decide +kernel) (Nat.le_of_ble_eq_true rfl) (fun p e s m args below meth c C hr => w_X11_alike C hr h)
set_option maxHeartbeats 4000000 in
set_option maxRecDepth 100000 in
theorem w_X11_isOne {l : Launch} {g : GG} {ad : Nat → Nat} {p : Program} {e : Env} {s : State} {m : MethodId} {args : Array Value} {below : List Frame} {meth : Method} {c : Code} {a0 : Int32} {z : Int32} (C : Cx p s m args meth c RX11 cX11_isOne 1 g (AW ad nO)) (hr : meth.sig.returnType = (some .boolean)) {I : HI} {J : HJ} (h : f_X11_isOne a0 = some z) : V p l e (rmk 1 25) s m args below meth c (MQ below (QAi g ad nO oR z I J) args s 0 0 (AW ad nO)) 1 0 0 g (AW ad nO) ad nO oR I J 0 [(0, .int a0)] [] := by
  unfold f_X11_isOne at h
  refine r_iload_n C 0 rfl rfl dX11_isOne_0 ?_
  refine r_i2l C dX11_isOne_1 ?_
  refine r_lconst C (v := 0) (by decide) dX11_isOne_2 ?_
  refine r_ldc2 C (v := 3) lk_X11_226 dX11_isOne_3 ?_
  obtain ⟨r3, hq4, h⟩ := bd1_ h
  refine r_csi C (rest := []) (c_X11_in  hq4) fm_X11_in lk_X11_114 rfl ⟨rfl, rfl, Nat.le_of_ble_eq_true rfl, Nat.le_of_ble_eq_true rfl⟩ (Nat.le_of_ble_eq_true rfl) rfl dX11_isOne_6 ?_
  obtain ⟨hz, h⟩ := ck h
  have hz9 := Option.some.inj h
  subst hz9
  exact r_zret C (zb_nar hz) hr dX11_isOne_9
set_option maxHeartbeats 4000000 in
set_option maxRecDepth 100000 in
theorem c_X11_isOne {l : Launch} {g : GG} {ad : Nat → Nat} {a0 : Int32} {I : HI} {J : HJ} {r : Int32} (h : f_X11_isOne a0 = some r) : CM l yX11_isOne cX11_isOne 1 (some .boolean) (rmk 1 25) g ad nO oR [.int a0] I J (QAi g ad nO oR r I J) :=
  CM_of (by decide +kernel) (Nat.le_of_ble_eq_true rfl) (fun p e s m args below meth c C hr => w_X11_isOne C hr h)
set_option maxHeartbeats 4000000 in
set_option maxRecDepth 100000 in
theorem wLB_X11_sheet_69 {l : Launch} {g : GG} {ad : Nat → Nat} {p : Program} {e : Env} {s : State} {m : MethodId} {args : Array Value} {below : List Frame} {meth : Method} {c : Code} {a0 : Int32} {a1 : Int32} {a2 : Int32} {z : Int32 × HI} (C : Cx p s m args meth c RX11 cX11_sheet 5 g (AW ad nO)) (hr : meth.sig.returnType = (some .int)) {J : HJ}  {r_69 : Int32 → HI → HJ → Option (Int32 × HI)} (hr_69 : ∀ {x4 : Int32} {I : HI}, r_69 x4 I J = some z → V p l e (rmk 2 45) s m args below meth c (MQ below (QAi g ad nO oR z.1 z.2 J) args s 0 0 (AW ad nO)) 5 0 0 g (AW ad nO) ad nO oR I J 69 [(0, .ref (ad 98)), (1, .int a0), (4, .int x4)] []) {x4 : Int32} {I : HI} (h : fLB_X11_sheet_69 a0 a1 a2 r_69 x4 I J = some z) : V p l e (rmk 2 45) s m args below meth c (MQ below (QAi g ad nO oR z.1 z.2 J) args s 0 0 (AW ad nO)) 5 0 0 g (AW ad nO) ad nO oR I J 69 [(0, .ref (ad 98)), (1, .int a0), (4, .int x4)] [] := by
  unfold fLB_X11_sheet_69 at h
  refine r_iload C 2 rfl dX11_sheet_69 ?_
  refine r_bipush C (v := 40) (by decide) dX11_sheet_71 ?_
  refine r_icmp_ge C (tgt := 95) h dX11_sheet_73 (by decide) (fun h => ?_) (fun h => ?_)
  · refine r_iconst C (v := 1) (by decide) dX11_sheet_95 ?_
    have hz9 := Option.some.inj h
    subst hz9
    exact r_iret C hr dX11_sheet_96
  · refine r_aload_n C 0 rfl rfl dX11_sheet_76 ?_
    refine gf_X11_68 C rf0 o_98 (q := 118) rfl dX11_sheet_77 ?_
    refine r_bipush C (v := 40) (by decide) dX11_sheet_80 ?_
    refine r_iload_n C 1 rfl rfl dX11_sheet_82 ?_
    refine r_imul C dX11_sheet_83 ?_
    refine r_pc (pc1 := 84) rfl ?_
    refine r_iload C 2 rfl dX11_sheet_84 ?_
    refine r_iadd C dX11_sheet_86 ?_
    refine r_iconst C (v := 0) (by decide) dX11_sheet_87 ?_
    refine r_iast C o_118 h dX11_sheet_88 (fun h => ?_)
    refine r_nmI h (fun I9 h => ?_)
    refine r_iincN C h (k := 2) (zz := 1) rfl rfl (by decide) (lv1 := fun v10 => [(4, .int v10), (0, .ref (ad 98)), (1, .int a0)]) (fun _ => rfl) dX11_sheet_89 (fun v10 h => ?_)
    refine r_goto C (tgt := 69) dX11_sheet_92 (by decide) ?_
    exact r_sub [1, 2, 0] rfl (hr_69  h)
set_option maxHeartbeats 4000000 in
set_option maxRecDepth 100000 in
theorem wL_X11_sheet_69 {l : Launch} {g : GG} {ad : Nat → Nat} {p : Program} {e : Env} {s : State} {m : MethodId} {args : Array Value} {below : List Frame} {meth : Method} {c : Code} {a0 : Int32} {a1 : Int32} {a2 : Int32} {z : Int32 × HI} (C : Cx p s m args meth c RX11 cX11_sheet 5 g (AW ad nO)) (hr : meth.sig.returnType = (some .int)) {J : HJ}  : ∀ (f : Nat) {x4 : Int32} {I : HI}, fL_X11_sheet_69 a0 a1 a2 f x4 I J = some z → V p l e (rmk 2 45) s m args below meth c (MQ below (QAi g ad nO oR z.1 z.2 J) args s 0 0 (AW ad nO)) 5 0 0 g (AW ad nO) ad nO oR I J 69 [(0, .ref (ad 98)), (1, .int a0), (4, .int x4)] [] := by
  intro f
  induction f with
  | zero =>
    intro _ _  h
    have h0 : (none : Option (Int32 × HI)) = some z := h
    cases h0
  | succ f ih =>
    intro _ _  h
    exact wLB_X11_sheet_69 C hr ih  h
set_option maxHeartbeats 4000000 in
set_option maxRecDepth 100000 in
theorem wB_X11_sheet_65 {l : Launch} {g : GG} {ad : Nat → Nat} {p : Program} {e : Env} {s : State} {m : MethodId} {args : Array Value} {below : List Frame} {meth : Method} {c : Code} {a0 : Int32} {a1 : Int32} {a2 : Int32} {z : Int32 × HI} (C : Cx p s m args meth c RX11 cX11_sheet 5 g (AW ad nO)) (hr : meth.sig.returnType = (some .int)) {J : HJ}  {s0 : Int32} {s1 : Int32} {I : HI} (h : fB_X11_sheet_65 a0 a1 a2 s0 s1 I J = some z) : V p l e (rmk 2 45) s m args below meth c (MQ below (QAi g ad nO oR z.1 z.2 J) args s 0 0 (AW ad nO)) 5 0 0 g (AW ad nO) ad nO oR I J 65 [(0, .ref (ad 98)), (1, .int a0)] [.int s0, .int s1, .ref (ad 117)] := by
  unfold fB_X11_sheet_65 at h
  refine r_iast C o_117 h dX11_sheet_65 (fun h => ?_)
  refine r_nmI h (fun I11 h => ?_)
  refine r_iconst C (v := 0) (by decide) dX11_sheet_66 ?_
  refine r_istore C (lv1 := [(4, .int (0 : Int32)), (0, .ref (ad 98)), (1, .int a0)]) (by decide) rfl dX11_sheet_67 ?_
  exact r_sub [1, 2, 0] rfl (wL_X11_sheet_69 C hr _  h)
set_option maxHeartbeats 4000000 in
set_option maxRecDepth 100000 in
theorem wB_X11_sheet_44 {l : Launch} {g : GG} {ad : Nat → Nat} {p : Program} {e : Env} {s : State} {m : MethodId} {args : Array Value} {below : List Frame} {meth : Method} {c : Code} {a0 : Int32} {a1 : Int32} {a2 : Int32} {z : Int32 × HI} (C : Cx p s m args meth c RX11 cX11_sheet 5 g (AW ad nO)) (hr : meth.sig.returnType = (some .int)) {J : HJ}  {I : HI} (h : fB_X11_sheet_44 a0 a1 a2 I J = some z) : V p l e (rmk 2 45) s m args below meth c (MQ below (QAi g ad nO oR z.1 z.2 J) args s 0 0 (AW ad nO)) 5 0 0 g (AW ad nO) ad nO oR I J 44 [(0, .ref (ad 98)), (1, .int a0), (2, .int a1), (3, .int a2)] [] := by
  unfold fB_X11_sheet_44 at h
  refine r_aload_n C 0 rfl rfl dX11_sheet_44 ?_
  refine gf_X11_62 C rf0 o_98 (q := 116) rfl dX11_sheet_45 ?_
  refine r_iload_n C 1 rfl rfl dX11_sheet_48 ?_
  refine r_iload_n C 2 rfl rfl dX11_sheet_49 ?_
  refine r_iast C o_116 h dX11_sheet_50 (fun h => ?_)
  refine r_nmI h (fun I12 h => ?_)
  refine r_aload_n C 0 rfl rfl dX11_sheet_51 ?_
  refine gf_X11_65 C rf0 o_98 (q := 117) rfl dX11_sheet_52 ?_
  refine r_iload_n C 1 rfl rfl dX11_sheet_55 ?_
  refine r_iload_n C 2 rfl rfl dX11_sheet_56 ?_
  refine r_if_ge C (tgt := 64) h dX11_sheet_57 (by decide) (fun h => ?_) (fun h => ?_)
  · refine r_iload_n C 3 rfl rfl dX11_sheet_64 ?_
    exact r_sub [0, 1] rfl (wB_X11_sheet_65 C hr  h)
  · refine r_iconst C (v := 0) (by decide) dX11_sheet_60 ?_
    refine r_goto C (tgt := 65) dX11_sheet_61 (by decide) ?_
    exact r_sub [0, 1] rfl (wB_X11_sheet_65 C hr  h)
set_option maxHeartbeats 4000000 in
set_option maxRecDepth 100000 in
theorem wB_X11_sheet_33 {l : Launch} {g : GG} {ad : Nat → Nat} {p : Program} {e : Env} {s : State} {m : MethodId} {args : Array Value} {below : List Frame} {meth : Method} {c : Code} {a0 : Int32} {a1 : Int32} {a2 : Int32} {z : Int32 × HI} (C : Cx p s m args meth c RX11 cX11_sheet 5 g (AW ad nO)) (hr : meth.sig.returnType = (some .int)) {J : HJ}  {I : HI} (h : fB_X11_sheet_33 a0 a1 a2 I J = some z) : V p l e (rmk 2 45) s m args below meth c (MQ below (QAi g ad nO oR z.1 z.2 J) args s 0 0 (AW ad nO)) 5 0 0 g (AW ad nO) ad nO oR I J 33 [(0, .ref (ad 98)), (1, .int a0), (2, .int a1), (3, .int a2)] [] := by
  unfold fB_X11_sheet_33 at h
  refine r_iload_n C 2 rfl rfl dX11_sheet_33 ?_
  refine r_if_lt C (tgt := 44) h dX11_sheet_34 (by decide) (fun h => ?_) (fun h => ?_)
  · exact wB_X11_sheet_44 C hr  h
  · refine r_iload_n C 3 rfl rfl dX11_sheet_37 ?_
    refine r_if_ge C (tgt := 44) h dX11_sheet_38 (by decide) (fun h => ?_) (fun h => ?_)
    · exact wB_X11_sheet_44 C hr  h
    · refine r_bipush C (v := -14) (by decide) dX11_sheet_41 ?_
      have hz9 := Option.some.inj h
      subst hz9
      exact r_iret C hr dX11_sheet_43
set_option maxHeartbeats 4000000 in
set_option maxRecDepth 100000 in
theorem w_X11_sheet {l : Launch} {g : GG} {ad : Nat → Nat} {p : Program} {e : Env} {s : State} {m : MethodId} {args : Array Value} {below : List Frame} {meth : Method} {c : Code} {a0 : Int32} {a1 : Int32} {a2 : Int32} {z : Int32 × HI} (C : Cx p s m args meth c RX11 cX11_sheet 5 g (AW ad nO)) (hr : meth.sig.returnType = (some .int)) {I : HI} {J : HJ} (h : f_X11_sheet a0 a1 a2 I J = some z) : V p l e (rmk 2 45) s m args below meth c (MQ below (QAi g ad nO oR z.1 z.2 J) args s 0 0 (AW ad nO)) 5 0 0 g (AW ad nO) ad nO oR I J 0 [(0, .ref (ad 98)), (1, .int a0), (2, .int a1), (3, .int a2)] [] := by
  unfold f_X11_sheet at h
  refine r_iload_n C 1 rfl rfl dX11_sheet_0 ?_
  obtain ⟨r13, hq14, h⟩ := bd1_ h
  refine r_csi C (rest := []) (c_X11_isOne  hq14) fm_X11_isOne lk_X11_286 rfl ⟨rfl, rfl, Nat.le_of_ble_eq_true rfl, Nat.le_of_ble_eq_true rfl⟩ (Nat.le_of_ble_eq_true rfl) rfl dX11_sheet_1 ?_
  refine r_if_eq C (tgt := 31) h dX11_sheet_4 (by decide) (fun h => ?_) (fun h => ?_)
  · refine r_iconst C (v := -1) (by decide) dX11_sheet_31 ?_
    have hz9 := Option.some.inj h
    subst hz9
    exact r_iret C hr dX11_sheet_32
  · refine r_iload_n C 2 rfl rfl dX11_sheet_7 ?_
    refine r_i2l C dX11_sheet_8 ?_
    refine r_ldc2 C (v := -1) lk_X11_289 dX11_sheet_9 ?_
    refine r_ldc2 C (v := 4) lk_X11_291 dX11_sheet_12 ?_
    obtain ⟨r15, hq16, h⟩ := bd1_ h
    refine r_csi C (rest := []) (c_X11_in  hq16) fm_X11_in lk_X11_114 rfl ⟨rfl, rfl, Nat.le_of_ble_eq_true rfl, Nat.le_of_ble_eq_true rfl⟩ (Nat.le_of_ble_eq_true rfl) rfl dX11_sheet_15 ?_
    refine r_if_eq C (tgt := 31) h dX11_sheet_18 (by decide) (fun h => ?_) (fun h => ?_)
    · refine r_iconst C (v := -1) (by decide) dX11_sheet_31 ?_
      have hz9 := Option.some.inj h
      subst hz9
      exact r_iret C hr dX11_sheet_32
    · refine r_iload_n C 2 rfl rfl dX11_sheet_21 ?_
      refine r_if_lt C (tgt := 33) h dX11_sheet_22 (by decide) (fun h => ?_) (fun h => ?_)
      · exact wB_X11_sheet_33 C hr  h
      · refine r_iload_n C 3 rfl rfl dX11_sheet_25 ?_
        refine r_bipush C (v := 40) (by decide) dX11_sheet_26 ?_
        refine r_icmp_le C (tgt := 33) h dX11_sheet_28 (by decide) (fun h => ?_) (fun h => ?_)
        · exact wB_X11_sheet_33 C hr  h
        · refine r_iconst C (v := -1) (by decide) dX11_sheet_31 ?_
          have hz9 := Option.some.inj h
          subst hz9
          exact r_iret C hr dX11_sheet_32
set_option maxHeartbeats 4000000 in
set_option maxRecDepth 100000 in
theorem c_X11_sheet {l : Launch} {g : GG} {ad : Nat → Nat} {a0 : Int32} {a1 : Int32} {a2 : Int32} {I : HI} {J : HJ} {r : Int32} {I1 : HI} (h : f_X11_sheet a0 a1 a2 I J = some (r, I1)) : CM l yX11_sheet cX11_sheet 5 (some .int) (rmk 2 45) g ad nO oR [.ref (ad 98), .int a0, .int a1, .int a2] I J (QAi g ad nO oR r I1 J) :=
  CM_of (by decide +kernel) (Nat.le_of_ble_eq_true rfl) (fun p e s m args below meth c C hr => w_X11_sheet C hr h)
set_option maxHeartbeats 4000000 in
set_option maxRecDepth 100000 in
theorem w_X11_narrowed {l : Launch} {g : GG} {ad : Nat → Nat} {p : Program} {e : Env} {s : State} {m : MethodId} {args : Array Value} {below : List Frame} {meth : Method} {c : Code} {a0 : Int32} {a1 : Int32} {z : Int32} (C : Cx p s m args meth c RX11 cX11_narrowed 2 g (AW ad nO)) (hr : meth.sig.returnType = (some .int)) {I : HI} {J : HJ} (h : f_X11_narrowed a0 a1 = some z) : V p l e (rmk 0 0) s m args below meth c (MQ below (QAi g ad nO oR z I J) args s 0 0 (AW ad nO)) 2 0 0 g (AW ad nO) ad nO oR I J 0 [(0, .int a0), (1, .int a1)] [] := by
  unfold f_X11_narrowed at h
  refine r_iload_n C 0 rfl rfl dX11_narrowed_0 ?_
  refine r_if_ne C (tgt := 9) h dX11_narrowed_1 (by decide) (fun h => ?_) (fun h => ?_)
  · refine r_iload_n C 0 rfl rfl dX11_narrowed_9 ?_
    refine r_iconst C (v := 1) (by decide) dX11_narrowed_10 ?_
    refine r_icmp_ne C (tgt := 19) h dX11_narrowed_11 (by decide) (fun h => ?_) (fun h => ?_)
    · refine r_iload_n C 0 rfl rfl dX11_narrowed_19 ?_
      refine r_iconst C (v := 4) (by decide) dX11_narrowed_20 ?_
      refine r_icmp_ne C (tgt := 36) h dX11_narrowed_21 (by decide) (fun h => ?_) (fun h => ?_)
      · refine r_iload_n C 1 rfl rfl dX11_narrowed_36 ?_
        have hz9 := Option.some.inj h
        subst hz9
        exact r_iret C hr dX11_narrowed_37
      · refine r_iload_n C 1 rfl rfl dX11_narrowed_24 ?_
        refine r_if_ne C (tgt := 32) h dX11_narrowed_25 (by decide) (fun h => ?_) (fun h => ?_)
        · refine r_iconst C (v := 1) (by decide) dX11_narrowed_32 ?_
          refine r_goto C (tgt := 37) dX11_narrowed_33 (by decide) ?_
          have hz9 := Option.some.inj h
          subst hz9
          exact r_iret C hr dX11_narrowed_37
        · refine r_iconst C (v := 0) (by decide) dX11_narrowed_28 ?_
          refine r_goto C (tgt := 37) dX11_narrowed_29 (by decide) ?_
          have hz9 := Option.some.inj h
          subst hz9
          exact r_iret C hr dX11_narrowed_37
    · refine r_iload_n C 1 rfl rfl dX11_narrowed_14 ?_
      refine r_i2s C dX11_narrowed_15 ?_
      refine r_goto C (tgt := 37) dX11_narrowed_16 (by decide) ?_
      have hz9 := Option.some.inj h
      subst hz9
      exact r_iret C hr dX11_narrowed_37
  · refine r_iload_n C 1 rfl rfl dX11_narrowed_4 ?_
    refine r_i2b C dX11_narrowed_5 ?_
    refine r_goto C (tgt := 37) dX11_narrowed_6 (by decide) ?_
    have hz9 := Option.some.inj h
    subst hz9
    exact r_iret C hr dX11_narrowed_37
set_option maxHeartbeats 4000000 in
set_option maxRecDepth 100000 in
theorem c_X11_narrowed {l : Launch} {g : GG} {ad : Nat → Nat} {a0 : Int32} {a1 : Int32} {I : HI} {J : HJ} {r : Int32} (h : f_X11_narrowed a0 a1 = some r) : CM l yX11_narrowed cX11_narrowed 2 (some .int) (rmk 0 0) g ad nO oR [.int a0, .int a1] I J (QAi g ad nO oR r I J) :=
  CM_of (by decide +kernel) (Nat.le_of_ble_eq_true rfl) (fun p e s m args below meth c C hr => w_X11_narrowed C hr h)

set_option maxHeartbeats 4000000 in
set_option maxRecDepth 100000 in
theorem wB_X11_worth_148 {l : Launch} {g : GG} {ad : Nat → Nat} {p : Program} {e : Env} {s : State} {m : MethodId} {args : Array Value} {below : List Frame} {meth : Method} {c : Code} {a0 : Int32} {z : Int32 × HI} (C : Cx p s m args meth c RX11 cX11_worth 5 g (AW ad nO)) (hr : meth.sig.returnType = (some .int)) {r_15 : Int32 → Int32 → HI → HJ → Option (Int32 × HI)} {J : HJ} (hr_15 : ∀ {x2 : Int32} {x3 : Int32} {I : HI}, r_15 x2 x3 I J = some z → V p l e (rmk 1 22) s m args below meth c (MQ below (QAi g ad nO oR z.1 z.2 J) args s 0 0 (AW ad nO)) 5 0 0 g (AW ad nO) ad nO oR I J 15 [(0, .ref (ad 98)), (1, .int a0), (2, .int x2), (3, .int x3)] []) {x2 : Int32} {x3 : Int32} {I : HI} (h : fB_X11_worth_148 a0 r_15 x2 x3 I J = some z) : V p l e (rmk 1 22) s m args below meth c (MQ below (QAi g ad nO oR z.1 z.2 J) args s 0 0 (AW ad nO)) 5 0 0 g (AW ad nO) ad nO oR I J 148 [(0, .ref (ad 98)), (1, .int a0), (2, .int x2), (3, .int x3)] [] := by
  unfold fB_X11_worth_148 at h
  refine r_iincN C h (k := 3) (zz := 1) rfl rfl (by decide) (lv1 := fun v11 => [(3, .int v11), (0, .ref (ad 98)), (1, .int a0), (2, .int x2)]) (fun _ => rfl) dX11_worth_148 (fun v11 h => ?_)
  refine r_goto C (tgt := 15) dX11_worth_151 (by decide) ?_
  exact r_sub [1, 2, 3, 0] rfl (hr_15  h)
set_option maxHeartbeats 4000000 in
set_option maxRecDepth 100000 in
theorem wB_X11_worth_82 {l : Launch} {g : GG} {ad : Nat → Nat} {p : Program} {e : Env} {s : State} {m : MethodId} {args : Array Value} {below : List Frame} {meth : Method} {c : Code} {a0 : Int32} {z : Int32 × HI} (C : Cx p s m args meth c RX11 cX11_worth 5 g (AW ad nO)) (hr : meth.sig.returnType = (some .int)) {r_15 : Int32 → Int32 → HI → HJ → Option (Int32 × HI)} {J : HJ} (hr_15 : ∀ {x2 : Int32} {x3 : Int32} {I : HI}, r_15 x2 x3 I J = some z → V p l e (rmk 1 22) s m args below meth c (MQ below (QAi g ad nO oR z.1 z.2 J) args s 0 0 (AW ad nO)) 5 0 0 g (AW ad nO) ad nO oR I J 15 [(0, .ref (ad 98)), (1, .int a0), (2, .int x2), (3, .int x3)] []) {x2 : Int32} {x3 : Int32} {s0 : Int32} {s1 : Int32} {I : HI} (h : fB_X11_worth_82 a0 r_15 x2 x3 s0 s1 I J = some z) : V p l e (rmk 1 22) s m args below meth c (MQ below (QAi g ad nO oR z.1 z.2 J) args s 0 0 (AW ad nO)) 5 0 0 g (AW ad nO) ad nO oR I J 82 [(0, .ref (ad 98)), (1, .int a0), (2, .int x2), (3, .int x3)] [.int s0, .int s1, .ref (ad 109)] := by
  unfold fB_X11_worth_82 at h
  refine r_iast C o_109 h dX11_worth_82 (fun h => ?_)
  refine r_nmI h (fun I12 h => ?_)
  refine r_iincN C h (k := 2) (zz := 1) rfl rfl (by decide) (lv1 := fun v13 => [(2, .int v13), (0, .ref (ad 98)), (1, .int a0), (3, .int x3)]) (fun _ => rfl) dX11_worth_83 (fun v13 h => ?_)
  refine r_goto C (tgt := 148) dX11_worth_86 (by decide) ?_
  exact r_sub [1, 2, 0, 3] rfl (wB_X11_worth_148 C hr hr_15  h)
set_option maxHeartbeats 4000000 in
set_option maxRecDepth 100000 in
theorem wLB_X11_worth_15 {l : Launch} {g : GG} {ad : Nat → Nat} {p : Program} {e : Env} {s : State} {m : MethodId} {args : Array Value} {below : List Frame} {meth : Method} {c : Code} {a0 : Int32} {z : Int32 × HI} (C : Cx p s m args meth c RX11 cX11_worth 5 g (AW ad nO)) (hr : meth.sig.returnType = (some .int)) {J : HJ}  {r_15 : Int32 → Int32 → HI → HJ → Option (Int32 × HI)} (hr_15 : ∀ {x2 : Int32} {x3 : Int32} {I : HI}, r_15 x2 x3 I J = some z → V p l e (rmk 1 22) s m args below meth c (MQ below (QAi g ad nO oR z.1 z.2 J) args s 0 0 (AW ad nO)) 5 0 0 g (AW ad nO) ad nO oR I J 15 [(0, .ref (ad 98)), (1, .int a0), (2, .int x2), (3, .int x3)] []) {x2 : Int32} {x3 : Int32} {I : HI} (h : fLB_X11_worth_15 a0 r_15 x2 x3 I J = some z) : V p l e (rmk 1 22) s m args below meth c (MQ below (QAi g ad nO oR z.1 z.2 J) args s 0 0 (AW ad nO)) 5 0 0 g (AW ad nO) ad nO oR I J 15 [(0, .ref (ad 98)), (1, .int a0), (2, .int x2), (3, .int x3)] [] := by
  unfold fLB_X11_worth_15 at h
  refine r_iload_n C 3 rfl rfl dX11_worth_15 ?_
  refine r_aload_n C 0 rfl rfl dX11_worth_16 ?_
  refine gf_X11_7 C rf0 o_98 (q := 99) rfl dX11_worth_17 ?_
  refine r_sipush C (v := 438) (by decide) dX11_worth_20 ?_
  refine r_iconst C (v := 2) (by decide) dX11_worth_23 ?_
  refine r_pc (pc1 := 24) rfl ?_
  refine r_iload_n C 1 rfl rfl dX11_worth_24 ?_
  refine r_imul C dX11_worth_25 ?_
  refine r_iadd C dX11_worth_26 ?_
  refine r_iconst C (v := 1) (by decide) dX11_worth_27 ?_
  refine r_iadd C dX11_worth_28 ?_
  refine r_iald C o_99 h dX11_worth_29 (fun h => ?_)
  refine r_icmp_ge C (tgt := 154) h dX11_worth_30 (by decide) (fun h => ?_) (fun h => ?_)
  · refine r_aload_n C 0 rfl rfl dX11_worth_154 ?_
    refine gf_X11_41 C rf0 o_98 (q := 109) rfl dX11_worth_155 ?_
    refine r_iconst C (v := 0) (by decide) dX11_worth_158 ?_
    refine r_iald C o_109 h dX11_worth_159 (fun h => ?_)
    have hz9 := Option.some.inj h
    subst hz9
    exact r_iret C hr dX11_worth_160
  · refine r_aload_n C 0 rfl rfl dX11_worth_33 ?_
    refine gf_X11_7 C rf0 o_98 (q := 99) rfl dX11_worth_34 ?_
    refine r_sipush C (v := 446) (by decide) dX11_worth_37 ?_
    refine r_iload_n C 3 rfl rfl dX11_worth_40 ?_
    refine r_iadd C dX11_worth_41 ?_
    refine r_pc (pc1 := 42) rfl ?_
    refine r_iald C o_99 h dX11_worth_42 (fun h => ?_)
    refine r_nmi h (fun v14 h => ?_)
    refine r_istore C (lv1 := [(4, .int v14), (0, .ref (ad 98)), (1, .int a0), (2, .int x2), (3, .int x3)]) (by decide) rfl dX11_worth_43 ?_
    refine r_iload C 0 rfl dX11_worth_45 ?_
    refine r_sipush C (v := 10010) (by decide) dX11_worth_47 ?_
    refine r_icmp_ge C (tgt := 89) h dX11_worth_50 (by decide) (fun h => ?_) (fun h => ?_)
    · refine r_iload C 0 rfl dX11_worth_89 ?_
      refine r_sipush C (v := 10010) (by decide) dX11_worth_91 ?_
      refine r_icmp_ne C (tgt := 118) h dX11_worth_94 (by decide) (fun h => ?_) (fun h => ?_)
      · refine r_iincN C h (k := 3) (zz := (-1)) rfl (by rw [show Int32.ofInt (-1) = (-1 : Int32) from by decide]) (by decide) (lv1 := fun v15 => [(2, .int v15), (4, .int v14), (0, .ref (ad 98)), (1, .int a0), (3, .int x3)]) (fun _ => rfl) dX11_worth_118 (fun v15 h => ?_)
        refine r_aload_n C 2 rfl rfl dX11_worth_121 ?_
        refine gf_X11_41 C rf0 o_98 (q := 109) rfl dX11_worth_122 ?_
        refine r_iload_n C 0 rfl rfl dX11_worth_125 ?_
        refine r_iconst C (v := 1) (by decide) dX11_worth_126 ?_
        refine r_isub C dX11_worth_127 ?_
        refine r_pc (pc1 := 128) rfl ?_
        refine r_iload C 1 rfl dX11_worth_128 ?_
        refine r_aload_n C 2 rfl rfl dX11_worth_130 ?_
        refine gf_X11_41 C rf0 o_98 (q := 109) rfl dX11_worth_131 ?_
        refine r_iload_n C 0 rfl rfl dX11_worth_134 ?_
        refine r_iconst C (v := 1) (by decide) dX11_worth_135 ?_
        refine r_isub C dX11_worth_136 ?_
        refine r_pc (pc1 := 137) rfl ?_
        refine r_iald C o_109 h dX11_worth_137 (fun h => ?_)
        refine r_aload_n C 2 rfl rfl dX11_worth_138 ?_
        refine gf_X11_41 C rf0 o_98 (q := 109) rfl dX11_worth_139 ?_
        refine r_iload_n C 0 rfl rfl dX11_worth_142 ?_
        refine r_iald C o_109 h dX11_worth_143 (fun h => ?_)
        obtain ⟨r16, hq17, h⟩ := bd1_ h
        refine r_csi C (rest := [.int (v15 - (1 : Int32)), .ref (ad 109)]) (c_X11_both  hq17) fm_X11_both lk_X11_97 rfl ⟨rfl, rfl, Nat.le_of_ble_eq_true rfl, Nat.le_of_ble_eq_true rfl⟩ (Nat.le_of_ble_eq_true rfl) rfl dX11_worth_144 ?_
        refine r_iast C o_109 h dX11_worth_147 (fun h => ?_)
        refine r_nmI h (fun I18 h => ?_)
        exact r_sub [2, 3, 0, 4] rfl (wB_X11_worth_148 C hr hr_15  h)
      · refine r_aload_n C 1 rfl rfl dX11_worth_97 ?_
        refine gf_X11_41 C rf0 o_98 (q := 109) rfl dX11_worth_98 ?_
        refine r_iload_n C 3 rfl rfl dX11_worth_101 ?_
        refine r_iconst C (v := 1) (by decide) dX11_worth_102 ?_
        refine r_isub C dX11_worth_103 ?_
        refine r_pc (pc1 := 104) rfl ?_
        refine r_iconst C (v := 0) (by decide) dX11_worth_104 ?_
        refine r_aload_n C 1 rfl rfl dX11_worth_105 ?_
        refine gf_X11_41 C rf0 o_98 (q := 109) rfl dX11_worth_106 ?_
        refine r_iload_n C 3 rfl rfl dX11_worth_109 ?_
        refine r_iconst C (v := 1) (by decide) dX11_worth_110 ?_
        refine r_isub C dX11_worth_111 ?_
        refine r_pc (pc1 := 112) rfl ?_
        refine r_iald C o_109 h dX11_worth_112 (fun h => ?_)
        refine r_isub C dX11_worth_113 ?_
        refine r_iast C o_109 h dX11_worth_114 (fun h => ?_)
        refine r_nmI h (fun I19 h => ?_)
        refine r_goto C (tgt := 148) dX11_worth_115 (by decide) ?_
        exact r_sub [1, 2, 3, 4] rfl (wB_X11_worth_148 C hr hr_15  h)
    · refine r_aload_n C 1 rfl rfl dX11_worth_53 ?_
      refine gf_X11_41 C rf0 o_98 (q := 109) rfl dX11_worth_54 ?_
      refine r_iload_n C 3 rfl rfl dX11_worth_57 ?_
      refine r_iload C 0 rfl dX11_worth_58 ?_
      refine r_sipush C (v := 10000) (by decide) dX11_worth_60 ?_
      refine r_pc (pc1 := 63) rfl ?_
      refine r_icmp_ge C (tgt := 71) h dX11_worth_63 (by decide) (fun h => ?_) (fun h => ?_)
      · refine r_aload_n C 1 rfl rfl dX11_worth_71 ?_
        refine gf_X11_32 C rf0 o_98 (q := 106) rfl dX11_worth_72 ?_
        refine r_iload C 0 rfl dX11_worth_75 ?_
        refine r_sipush C (v := 10000) (by decide) dX11_worth_77 ?_
        refine r_isub C dX11_worth_80 ?_
        refine r_pc (pc1 := 81) rfl ?_
        refine r_iald C o_106 h dX11_worth_81 (fun h => ?_)
        exact r_sub [1, 2, 3, 4] rfl (wB_X11_worth_82 C hr hr_15  h)
      · refine r_iload C 0 rfl dX11_worth_66 ?_
        refine r_goto C (tgt := 82) dX11_worth_68 (by decide) ?_
        exact r_sub [1, 2, 3, 4] rfl (wB_X11_worth_82 C hr hr_15  h)
set_option maxHeartbeats 4000000 in
set_option maxRecDepth 100000 in
theorem wL_X11_worth_15 {l : Launch} {g : GG} {ad : Nat → Nat} {p : Program} {e : Env} {s : State} {m : MethodId} {args : Array Value} {below : List Frame} {meth : Method} {c : Code} {a0 : Int32} {z : Int32 × HI} (C : Cx p s m args meth c RX11 cX11_worth 5 g (AW ad nO)) (hr : meth.sig.returnType = (some .int)) {J : HJ}  : ∀ (f : Nat) {x2 : Int32} {x3 : Int32} {I : HI}, fL_X11_worth_15 a0 f x2 x3 I J = some z → V p l e (rmk 1 22) s m args below meth c (MQ below (QAi g ad nO oR z.1 z.2 J) args s 0 0 (AW ad nO)) 5 0 0 g (AW ad nO) ad nO oR I J 15 [(0, .ref (ad 98)), (1, .int a0), (2, .int x2), (3, .int x3)] [] := by
  intro f
  induction f with
  | zero =>
    intro _ _ _  h
    have h0 : (none : Option (Int32 × HI)) = some z := h
    cases h0
  | succ f ih =>
    intro _ _ _  h
    exact wLB_X11_worth_15 C hr ih  h
set_option maxHeartbeats 4000000 in
set_option maxRecDepth 100000 in
theorem w_X11_worth {l : Launch} {g : GG} {ad : Nat → Nat} {p : Program} {e : Env} {s : State} {m : MethodId} {args : Array Value} {below : List Frame} {meth : Method} {c : Code} {a0 : Int32} {z : Int32 × HI} (C : Cx p s m args meth c RX11 cX11_worth 5 g (AW ad nO)) (hr : meth.sig.returnType = (some .int)) {I : HI} {J : HJ} (h : f_X11_worth a0 I J = some z) : V p l e (rmk 1 22) s m args below meth c (MQ below (QAi g ad nO oR z.1 z.2 J) args s 0 0 (AW ad nO)) 5 0 0 g (AW ad nO) ad nO oR I J 0 [(0, .ref (ad 98)), (1, .int a0)] [] := by
  unfold f_X11_worth at h
  refine r_iconst C (v := 0) (by decide) dX11_worth_0 ?_
  refine r_istore_n C (lv1 := [(2, .int (0 : Int32)), (0, .ref (ad 98)), (1, .int a0)]) rfl (by decide) rfl dX11_worth_1 ?_
  refine r_aload_n C 1 rfl rfl dX11_worth_2 ?_
  refine gf_X11_7 C rf0 o_98 (q := 99) rfl dX11_worth_3 ?_
  refine r_sipush C (v := 438) (by decide) dX11_worth_6 ?_
  refine r_iconst C (v := 2) (by decide) dX11_worth_9 ?_
  refine r_iload_n C 2 rfl rfl dX11_worth_10 ?_
  refine r_pc (pc1 := 11) rfl ?_
  refine r_imul C dX11_worth_11 ?_
  refine r_iadd C dX11_worth_12 ?_
  refine r_iald C o_99 h dX11_worth_13 (fun h => ?_)
  refine r_nmi h (fun v20 h => ?_)
  refine r_istore_n C (lv1 := [(3, .int v20), (2, .int (0 : Int32)), (0, .ref (ad 98)), (1, .int a0)]) rfl (by decide) rfl dX11_worth_14 ?_
  exact r_sub [2, 3, 1, 0] rfl (wL_X11_worth_15 C hr _  h)
set_option maxHeartbeats 4000000 in
set_option maxRecDepth 100000 in
theorem c_X11_worth {l : Launch} {g : GG} {ad : Nat → Nat} {a0 : Int32} {I : HI} {J : HJ} {r : Int32} {I1 : HI} (h : f_X11_worth a0 I J = some (r, I1)) : CM l yX11_worth cX11_worth 5 (some .int) (rmk 1 22) g ad nO oR [.ref (ad 98), .int a0] I J (QAi g ad nO oR r I1 J) :=
  CM_of (by decide +kernel) (Nat.le_of_ble_eq_true rfl) (fun p e s m args below meth c C hr => w_X11_worth C hr h)
set_option maxHeartbeats 4000000 in
set_option maxRecDepth 100000 in
theorem wB_X11_drops_67 {l : Launch} {g : GG} {ad : Nat → Nat} {p : Program} {e : Env} {s : State} {m : MethodId} {args : Array Value} {below : List Frame} {meth : Method} {c : Code} {z : HI × HJ} (C : Cx p s m args meth c RX11 cX11_drops 2 g (AW ad nO)) (hr : meth.sig.returnType = none)  {x1 : Int32} {I : HI} {J : HJ} (h : fB_X11_drops_67 x1 I J = some z) : V p l e (rmk 2 46) s m args below meth c (MQ below (QAv g ad nO oR z.1 z.2) args s 0 0 (AW ad nO)) 2 0 0 g (AW ad nO) ad nO oR I J 67 [(0, .ref (ad 98)), (1, .int x1)] [] := by
  unfold fB_X11_drops_67 at h
  refine r_aload_n C 0 rfl rfl dX11_drops_67 ?_
  refine r_dup C rfl dX11_drops_68 ?_
  refine gf_X11_94 C o_98 dX11_drops_69 ?_
  refine r_aload_n C 0 rfl rfl dX11_drops_72 ?_
  refine gf_X11_32 C rf0 o_98 (q := 106) rfl dX11_drops_73 ?_
  refine r_pc (pc1 := 76) rfl ?_
  refine r_iconst C (v := 0) (by decide) dX11_drops_76 ?_
  refine r_iald C o_106 h dX11_drops_77 (fun h => ?_)
  refine r_iload_n C 1 rfl rfl dX11_drops_78 ?_
  refine r_isub C dX11_drops_79 ?_
  refine r_i2l C dX11_drops_80 ?_
  refine r_ladd C dX11_drops_81 ?_
  refine pf_X11_94 C o_98 dX11_drops_82 ?_
  refine r_nmJ h (fun J15 h => ?_)
  refine r_aload_n C 0 rfl rfl dX11_drops_85 ?_
  refine gf_X11_32 C rf0 o_98 (q := 106) rfl dX11_drops_86 ?_
  refine r_iconst C (v := 0) (by decide) dX11_drops_89 ?_
  refine r_iload_n C 1 rfl rfl dX11_drops_90 ?_
  refine r_iast C o_106 h dX11_drops_91 (fun h => ?_)
  refine r_nmI h (fun I16 h => ?_)
  refine r_aload_n C 0 rfl rfl dX11_drops_92 ?_
  refine gf_X11_32 C rf0 o_98 (q := 106) rfl dX11_drops_93 ?_
  refine r_iconst C (v := 1) (by decide) dX11_drops_96 ?_
  refine r_iconst C (v := 0) (by decide) dX11_drops_97 ?_
  refine r_aload_n C 0 rfl rfl dX11_drops_98 ?_
  refine r_pc (pc1 := 99) rfl ?_
  refine gf_X11_32 C rf0 o_98 (q := 106) rfl dX11_drops_99 ?_
  refine r_iconst C (v := 1) (by decide) dX11_drops_102 ?_
  refine r_iald C o_106 h dX11_drops_103 (fun h => ?_)
  refine r_iconst C (v := 2) (by decide) dX11_drops_104 ?_
  refine r_idivN C (by decide) dX11_drops_105 ?_
  refine r_isub C dX11_drops_106 ?_
  refine r_iast C o_106 h dX11_drops_107 (fun h => ?_)
  refine r_nmI h (fun I17 h => ?_)
  refine r_aload_n C 0 rfl rfl dX11_drops_108 ?_
  refine gf_X11_32 C rf0 o_98 (q := 106) rfl dX11_drops_109 ?_
  refine r_iconst C (v := 2) (by decide) dX11_drops_112 ?_
  refine r_iconst C (v := 0) (by decide) dX11_drops_113 ?_
  refine r_aload_n C 0 rfl rfl dX11_drops_114 ?_
  refine r_pc (pc1 := 115) rfl ?_
  refine gf_X11_32 C rf0 o_98 (q := 106) rfl dX11_drops_115 ?_
  refine r_iconst C (v := 2) (by decide) dX11_drops_118 ?_
  refine r_iald C o_106 h dX11_drops_119 (fun h => ?_)
  refine r_iconst C (v := 2) (by decide) dX11_drops_120 ?_
  refine r_idivN C (by decide) dX11_drops_121 ?_
  refine r_isub C dX11_drops_122 ?_
  refine r_iast C o_106 h dX11_drops_123 (fun h => ?_)
  refine r_nmI h (fun I18 h => ?_)
  refine r_aload_n C 0 rfl rfl dX11_drops_124 ?_
  refine gf_X11_32 C rf0 o_98 (q := 106) rfl dX11_drops_125 ?_
  refine r_iconst C (v := 4) (by decide) dX11_drops_128 ?_
  refine r_iconst C (v := 0) (by decide) dX11_drops_129 ?_
  refine r_iast C o_106 h dX11_drops_130 (fun h => ?_)
  refine r_nmI h (fun I19 h => ?_)
  refine r_aload_n C 0 rfl rfl dX11_drops_131 ?_
  refine gf_X11_32 C rf0 o_98 (q := 106) rfl dX11_drops_132 ?_
  refine r_iconst C (v := 5) (by decide) dX11_drops_135 ?_
  refine r_dup2 C rfl rfl dX11_drops_136 ?_
  refine r_iald C o_106 h dX11_drops_137 (fun h => ?_)
  refine r_iconst C (v := 1) (by decide) dX11_drops_138 ?_
  refine r_iadd C dX11_drops_139 ?_
  refine r_iast C o_106 h dX11_drops_140 (fun h => ?_)
  refine r_nmI h (fun I20 h => ?_)
  have hz9 := Option.some.inj h
  subst hz9
  exact r_vret C hr dX11_drops_141
set_option maxHeartbeats 4000000 in
set_option maxRecDepth 100000 in
theorem w_X11_drops {l : Launch} {g : GG} {ad : Nat → Nat} {p : Program} {e : Env} {s : State} {m : MethodId} {args : Array Value} {below : List Frame} {meth : Method} {c : Code} {z : HI × HJ} (C : Cx p s m args meth c RX11 cX11_drops 2 g (AW ad nO)) (hr : meth.sig.returnType = none) {I : HI} {J : HJ} (h : f_X11_drops I J = some z) : V p l e (rmk 2 46) s m args below meth c (MQ below (QAv g ad nO oR z.1 z.2) args s 0 0 (AW ad nO)) 2 0 0 g (AW ad nO) ad nO oR I J 0 [(0, .ref (ad 98))] [] := by
  unfold f_X11_drops at h
  refine r_aload_n C 0 rfl rfl dX11_drops_0 ?_
  refine r_iconst C (v := 3) (by decide) dX11_drops_1 ?_
  obtain ⟨r21, I22, hq23, h⟩ := bd2_ h
  refine r_cvi C (rest := []) (c_X11_worth  hq23) fm_X11_worth lk_X11_101 o_98 ⟨_, ct_10 o_98.1⟩ rfl rfl ⟨rfl, rfl, Nat.le_of_ble_eq_true rfl, Nat.le_of_ble_eq_true rfl⟩ (Nat.le_of_ble_eq_true rfl) rfl dX11_drops_2 ?_
  refine r_iconst C (v := 0) (by decide) dX11_drops_5 ?_
  refine r_aload_n C 0 rfl rfl dX11_drops_6 ?_
  refine gf_X11_32 C rf0 o_98 (q := 106) rfl dX11_drops_7 ?_
  refine r_iconst C (v := 0) (by decide) dX11_drops_10 ?_
  refine r_iald C o_106 h dX11_drops_11 (fun h => ?_)
  obtain ⟨r24, hq25, h⟩ := bd1_ h
  refine r_csi C (rest := []) (c_X11_held  hq25) fm_X11_held lk_X11_105 rfl ⟨rfl, rfl, Nat.le_of_ble_eq_true rfl, Nat.le_of_ble_eq_true rfl⟩ (Nat.le_of_ble_eq_true rfl) rfl dX11_drops_12 ?_
  refine r_istore_n C (lv1 := [(1, .int r24), (0, .ref (ad 98))]) rfl (by decide) rfl dX11_drops_15 ?_
  refine r_aload_n C 1 rfl rfl dX11_drops_16 ?_
  refine gf_X11_86 C o_98 dX11_drops_17 ?_
  refine r_bipush C (v := 60) (by decide) dX11_drops_20 ?_
  refine r_icmp_ge C (tgt := 67) h dX11_drops_22 (by decide) (fun h => ?_) (fun h => ?_)
  · exact r_sub [1, 0] rfl (wB_X11_drops_67 C hr  h)
  · refine r_aload_n C 1 rfl rfl dX11_drops_25 ?_
    refine gf_X11_35 C rf0 o_98 (q := 107) rfl dX11_drops_26 ?_
    refine r_aload_n C 1 rfl rfl dX11_drops_29 ?_
    refine gf_X11_86 C o_98 dX11_drops_30 ?_
    refine r_aload_n C 1 rfl rfl dX11_drops_33 ?_
    refine r_pc (pc1 := 34) rfl ?_
    refine gf_X11_32 C rf0 o_98 (q := 106) rfl dX11_drops_34 ?_
    refine r_iconst C (v := 4) (by decide) dX11_drops_37 ?_
    refine r_iald C o_106 h dX11_drops_38 (fun h => ?_)
    refine r_iast C o_107 h dX11_drops_39 (fun h => ?_)
    refine r_nmI h (fun I26 h => ?_)
    refine r_aload_n C 1 rfl rfl dX11_drops_40 ?_
    refine gf_X11_38 C rf0 o_98 (q := 108) rfl dX11_drops_41 ?_
    refine r_aload_n C 1 rfl rfl dX11_drops_44 ?_
    refine gf_X11_86 C o_98 dX11_drops_45 ?_
    refine r_aload_n C 1 rfl rfl dX11_drops_48 ?_
    refine r_pc (pc1 := 49) rfl ?_
    refine gf_X11_32 C rf0 o_98 (q := 106) rfl dX11_drops_49 ?_
    refine r_iconst C (v := 0) (by decide) dX11_drops_52 ?_
    refine r_iald C o_106 h dX11_drops_53 (fun h => ?_)
    refine r_iload_n C 0 rfl rfl dX11_drops_54 ?_
    refine r_isub C dX11_drops_55 ?_
    refine r_iast C o_108 h dX11_drops_56 (fun h => ?_)
    refine r_nmI h (fun I27 h => ?_)
    refine r_aload_n C 1 rfl rfl dX11_drops_57 ?_
    refine r_dup C rfl dX11_drops_58 ?_
    refine gf_X11_86 C o_98 dX11_drops_59 ?_
    refine r_iconst C (v := 1) (by decide) dX11_drops_62 ?_
    refine r_iadd C dX11_drops_63 ?_
    refine r_pc (pc1 := 64) rfl ?_
    refine pf_X11_86 C o_98 dX11_drops_64 ?_
    refine r_nmI h (fun I28 h => ?_)
    exact r_sub [1, 0] rfl (wB_X11_drops_67 C hr  h)
set_option maxHeartbeats 4000000 in
set_option maxRecDepth 100000 in
theorem c_X11_drops {l : Launch} {g : GG} {ad : Nat → Nat} {I : HI} {J : HJ} {I1 : HI} {J1 : HJ} (h : f_X11_drops I J = some (I1, J1)) : CM l yX11_drops cX11_drops 2 none (rmk 2 46) g ad nO oR [.ref (ad 98)] I J (QAv g ad nO oR I1 J1) :=
  CM_of (by decide +kernel) (Nat.le_of_ble_eq_true rfl) (fun p e s m args below meth c C hr => w_X11_drops C hr h)
set_option maxHeartbeats 4000000 in
set_option maxRecDepth 100000 in
theorem wB_X11_ticks_240 {l : Launch} {g : GG} {ad : Nat → Nat} {p : Program} {e : Env} {s : State} {m : MethodId} {args : Array Value} {below : List Frame} {meth : Method} {c : Code} {z : HI × HJ} (C : Cx p s m args meth c RX11 cX11_ticks 2 g (AW ad nO)) (hr : meth.sig.returnType = none)  {I : HI} {J : HJ} (h : fB_X11_ticks_240 I J = some z) : V p l e (rmk 3 67) s m args below meth c (MQ below (QAv g ad nO oR z.1 z.2) args s 0 0 (AW ad nO)) 2 0 0 g (AW ad nO) ad nO oR I J 240 [(0, .ref (ad 98))] [] := by
  unfold fB_X11_ticks_240 at h
  refine r_aload_n C 0 rfl rfl dX11_ticks_240 ?_
  refine r_iconst C (v := 2) (by decide) dX11_ticks_241 ?_
  obtain ⟨r36, I37, hq38, h⟩ := bd2_ h
  refine r_cvi C (rest := []) (c_X11_worth  hq38) fm_X11_worth lk_X11_101 o_98 ⟨_, ct_10 o_98.1⟩ rfl rfl ⟨rfl, rfl, Nat.le_of_ble_eq_true rfl, Nat.le_of_ble_eq_true rfl⟩ (Nat.le_of_ble_eq_true rfl) rfl dX11_ticks_242 ?_
  refine r_if_eq C (tgt := 252) h dX11_ticks_245 (by decide) (fun h => ?_) (fun h => ?_)
  · have hz9 := Option.some.inj h
    subst hz9
    exact r_vret C hr dX11_ticks_252
  · refine r_aload_n C 0 rfl rfl dX11_ticks_248 ?_
    obtain ⟨I39, J40, hq41, h⟩ := bd2_ h
    refine r_cvv C (rest := []) (c_X11_drops  hq41) fm_X11_drops lk_X11_118 o_98 ⟨_, ct_10 o_98.1⟩ rfl rfl ⟨rfl, rfl, Nat.le_of_ble_eq_true rfl, Nat.le_of_ble_eq_true rfl⟩ (Nat.le_of_ble_eq_true rfl) rfl dX11_ticks_249 ?_
    have hz9 := Option.some.inj h
    subst hz9
    exact r_vret C hr dX11_ticks_252
set_option maxHeartbeats 4000000 in
set_option maxRecDepth 100000 in
theorem wB_X11_ticks_157 {l : Launch} {g : GG} {ad : Nat → Nat} {p : Program} {e : Env} {s : State} {m : MethodId} {args : Array Value} {below : List Frame} {meth : Method} {c : Code} {z : HI × HJ} (C : Cx p s m args meth c RX11 cX11_ticks 2 g (AW ad nO)) (hr : meth.sig.returnType = none)  {I : HI} {J : HJ} (h : fB_X11_ticks_157 I J = some z) : V p l e (rmk 3 67) s m args below meth c (MQ below (QAv g ad nO oR z.1 z.2) args s 0 0 (AW ad nO)) 2 0 0 g (AW ad nO) ad nO oR I J 157 [(0, .ref (ad 98))] [] := by
  unfold fB_X11_ticks_157 at h
  refine r_aload_n C 0 rfl rfl dX11_ticks_157 ?_
  refine gf_X11_32 C rf0 o_98 (q := 106) rfl dX11_ticks_158 ?_
  refine r_iconst C (v := 2) (by decide) dX11_ticks_161 ?_
  refine r_aload_n C 0 rfl rfl dX11_ticks_162 ?_
  refine gf_X11_32 C rf0 o_98 (q := 106) rfl dX11_ticks_163 ?_
  refine r_pc (pc1 := 166) rfl ?_
  refine r_iconst C (v := 2) (by decide) dX11_ticks_166 ?_
  refine r_iald C o_106 h dX11_ticks_167 (fun h => ?_)
  refine r_sipush C (v := -999) (by decide) dX11_ticks_168 ?_
  refine r_sipush C (v := 999) (by decide) dX11_ticks_171 ?_
  obtain ⟨r42, hq43, h⟩ := bd1_ h
  refine r_csi C (rest := [.int (2 : Int32), .ref (ad 106)]) (c_X11_held  hq43) fm_X11_held lk_X11_105 rfl ⟨rfl, rfl, Nat.le_of_ble_eq_true rfl, Nat.le_of_ble_eq_true rfl⟩ (Nat.le_of_ble_eq_true rfl) rfl dX11_ticks_174 ?_
  refine r_iast C o_106 h dX11_ticks_177 (fun h => ?_)
  refine r_nmI h (fun I44 h => ?_)
  refine r_aload_n C 0 rfl rfl dX11_ticks_178 ?_
  refine gf_X11_32 C rf0 o_98 (q := 106) rfl dX11_ticks_179 ?_
  refine r_iconst C (v := 1) (by decide) dX11_ticks_182 ?_
  refine r_dup2 C rfl rfl dX11_ticks_183 ?_
  refine r_iald C o_106 h dX11_ticks_184 (fun h => ?_)
  refine r_aload_n C 0 rfl rfl dX11_ticks_185 ?_
  refine gf_X11_32 C rf0 o_98 (q := 106) rfl dX11_ticks_186 ?_
  refine r_iconst C (v := 2) (by decide) dX11_ticks_189 ?_
  refine r_iald C o_106 h dX11_ticks_190 (fun h => ?_)
  refine r_iadd C dX11_ticks_191 ?_
  refine r_iast C o_106 h dX11_ticks_192 (fun h => ?_)
  refine r_nmI h (fun I45 h => ?_)
  refine r_aload_n C 0 rfl rfl dX11_ticks_193 ?_
  refine gf_X11_32 C rf0 o_98 (q := 106) rfl dX11_ticks_194 ?_
  refine r_iconst C (v := 1) (by decide) dX11_ticks_197 ?_
  refine r_iald C o_106 h dX11_ticks_198 (fun h => ?_)
  refine r_i2l C dX11_ticks_199 ?_
  refine r_ldc2 C (v := -999) lk_X11_110 dX11_ticks_200 ?_
  refine r_ldc2 C (v := 999) lk_X11_112 dX11_ticks_203 ?_
  obtain ⟨r46, hq47, h⟩ := bd1_ h
  refine r_csi C (rest := []) (c_X11_in  hq47) fm_X11_in lk_X11_114 rfl ⟨rfl, rfl, Nat.le_of_ble_eq_true rfl, Nat.le_of_ble_eq_true rfl⟩ (Nat.le_of_ble_eq_true rfl) rfl dX11_ticks_206 ?_
  refine r_if_ne C (tgt := 240) h dX11_ticks_209 (by decide) (fun h => ?_) (fun h => ?_)
  · exact wB_X11_ticks_240 C hr  h
  · refine r_aload_n C 0 rfl rfl dX11_ticks_212 ?_
    refine gf_X11_32 C rf0 o_98 (q := 106) rfl dX11_ticks_213 ?_
    refine r_iconst C (v := 1) (by decide) dX11_ticks_216 ?_
    refine r_aload_n C 0 rfl rfl dX11_ticks_217 ?_
    refine gf_X11_32 C rf0 o_98 (q := 106) rfl dX11_ticks_218 ?_
    refine r_pc (pc1 := 221) rfl ?_
    refine r_iconst C (v := 1) (by decide) dX11_ticks_221 ?_
    refine r_iald C o_106 h dX11_ticks_222 (fun h => ?_)
    refine r_sipush C (v := -999) (by decide) dX11_ticks_223 ?_
    refine r_sipush C (v := 999) (by decide) dX11_ticks_226 ?_
    obtain ⟨r48, hq49, h⟩ := bd1_ h
    refine r_csi C (rest := [.int (1 : Int32), .ref (ad 106)]) (c_X11_held  hq49) fm_X11_held lk_X11_105 rfl ⟨rfl, rfl, Nat.le_of_ble_eq_true rfl, Nat.le_of_ble_eq_true rfl⟩ (Nat.le_of_ble_eq_true rfl) rfl dX11_ticks_229 ?_
    refine r_iast C o_106 h dX11_ticks_232 (fun h => ?_)
    refine r_nmI h (fun I50 h => ?_)
    refine r_aload_n C 0 rfl rfl dX11_ticks_233 ?_
    refine gf_X11_32 C rf0 o_98 (q := 106) rfl dX11_ticks_234 ?_
    refine r_iconst C (v := 2) (by decide) dX11_ticks_237 ?_
    refine r_iconst C (v := 0) (by decide) dX11_ticks_238 ?_
    refine r_iast C o_106 h dX11_ticks_239 (fun h => ?_)
    refine r_nmI h (fun I51 h => ?_)
    exact wB_X11_ticks_240 C hr  h
set_option maxHeartbeats 4000000 in
set_option maxRecDepth 100000 in
theorem w_X11_ticks {l : Launch} {g : GG} {ad : Nat → Nat} {p : Program} {e : Env} {s : State} {m : MethodId} {args : Array Value} {below : List Frame} {meth : Method} {c : Code} {z : HI × HJ} (C : Cx p s m args meth c RX11 cX11_ticks 2 g (AW ad nO)) (hr : meth.sig.returnType = none) {I : HI} {J : HJ} (h : f_X11_ticks I J = some z) : V p l e (rmk 3 67) s m args below meth c (MQ below (QAv g ad nO oR z.1 z.2) args s 0 0 (AW ad nO)) 2 0 0 g (AW ad nO) ad nO oR I J 0 [(0, .ref (ad 98))] [] := by
  unfold f_X11_ticks at h
  refine r_aload_n C 0 rfl rfl dX11_ticks_0 ?_
  refine gf_X11_32 C rf0 o_98 (q := 106) rfl dX11_ticks_1 ?_
  refine r_iconst C (v := 3) (by decide) dX11_ticks_4 ?_
  refine r_dup2 C rfl rfl dX11_ticks_5 ?_
  refine r_iald C o_106 h dX11_ticks_6 (fun h => ?_)
  refine r_iconst C (v := 1) (by decide) dX11_ticks_7 ?_
  refine r_iadd C dX11_ticks_8 ?_
  refine r_iast C o_106 h dX11_ticks_9 (fun h => ?_)
  refine r_nmI h (fun I52 h => ?_)
  refine r_aload_n C 0 rfl rfl dX11_ticks_10 ?_
  refine gf_X11_32 C rf0 o_98 (q := 106) rfl dX11_ticks_11 ?_
  refine r_iconst C (v := 4) (by decide) dX11_ticks_14 ?_
  refine r_dup2 C rfl rfl dX11_ticks_15 ?_
  refine r_iald C o_106 h dX11_ticks_16 (fun h => ?_)
  refine r_iconst C (v := 1) (by decide) dX11_ticks_17 ?_
  refine r_iadd C dX11_ticks_18 ?_
  refine r_iast C o_106 h dX11_ticks_19 (fun h => ?_)
  refine r_nmI h (fun I53 h => ?_)
  refine r_aload_n C 0 rfl rfl dX11_ticks_20 ?_
  refine r_iconst C (v := 0) (by decide) dX11_ticks_21 ?_
  obtain ⟨r54, I55, hq56, h⟩ := bd2_ h
  refine r_cvi C (rest := []) (c_X11_worth  hq56) fm_X11_worth lk_X11_101 o_98 ⟨_, ct_10 o_98.1⟩ rfl rfl ⟨rfl, rfl, Nat.le_of_ble_eq_true rfl, Nat.le_of_ble_eq_true rfl⟩ (Nat.le_of_ble_eq_true rfl) rfl dX11_ticks_22 ?_
  refine r_iconst C (v := 0) (by decide) dX11_ticks_25 ?_
  refine r_sipush C (v := 999) (by decide) dX11_ticks_26 ?_
  obtain ⟨r57, hq58, h⟩ := bd1_ h
  refine r_csi C (rest := []) (c_X11_held  hq58) fm_X11_held lk_X11_105 rfl ⟨rfl, rfl, Nat.le_of_ble_eq_true rfl, Nat.le_of_ble_eq_true rfl⟩ (Nat.le_of_ble_eq_true rfl) rfl dX11_ticks_29 ?_
  refine r_istore_n C (lv1 := [(1, .int r57), (0, .ref (ad 98))]) rfl (by decide) rfl dX11_ticks_32 ?_
  refine r_aload_n C 1 rfl rfl dX11_ticks_33 ?_
  refine r_dup C rfl dX11_ticks_34 ?_
  refine gf_X11_90 C o_98 dX11_ticks_35 ?_
  refine r_iload_n C 0 rfl rfl dX11_ticks_38 ?_
  refine r_i2l C dX11_ticks_39 ?_
  refine r_pc (pc1 := 40) rfl ?_
  refine r_ladd C dX11_ticks_40 ?_
  refine pf_X11_90 C o_98 dX11_ticks_41 ?_
  refine r_nmJ h (fun J59 h => ?_)
  refine r_aload_n C 1 rfl rfl dX11_ticks_44 ?_
  refine gf_X11_32 C rf0 o_98 (q := 106) rfl dX11_ticks_45 ?_
  refine r_iconst C (v := 0) (by decide) dX11_ticks_48 ?_
  refine r_aload_n C 1 rfl rfl dX11_ticks_49 ?_
  refine gf_X11_32 C rf0 o_98 (q := 106) rfl dX11_ticks_50 ?_
  refine r_pc (pc1 := 53) rfl ?_
  refine r_iconst C (v := 0) (by decide) dX11_ticks_53 ?_
  refine r_iald C o_106 h dX11_ticks_54 (fun h => ?_)
  refine r_iload_n C 0 rfl rfl dX11_ticks_55 ?_
  refine r_iadd C dX11_ticks_56 ?_
  refine r_iconst C (v := 0) (by decide) dX11_ticks_57 ?_
  refine r_ldc C (v := 99999) lk_X11_108 dX11_ticks_58 ?_
  obtain ⟨r60, hq61, h⟩ := bd1_ h
  refine r_csi C (rest := [.int (0 : Int32), .ref (ad 106)]) (c_X11_held  hq61) fm_X11_held lk_X11_105 rfl ⟨rfl, rfl, Nat.le_of_ble_eq_true rfl, Nat.le_of_ble_eq_true rfl⟩ (Nat.le_of_ble_eq_true rfl) rfl dX11_ticks_60 ?_
  refine r_iast C o_106 h dX11_ticks_63 (fun h => ?_)
  refine r_nmI h (fun I62 h => ?_)
  refine r_aload_n C 1 rfl rfl dX11_ticks_64 ?_
  refine gf_X11_32 C rf0 o_98 (q := 106) rfl dX11_ticks_65 ?_
  refine r_iconst C (v := 2) (by decide) dX11_ticks_68 ?_
  refine r_dup2 C rfl rfl dX11_ticks_69 ?_
  refine r_iald C o_106 h dX11_ticks_70 (fun h => ?_)
  refine r_aload_n C 1 rfl rfl dX11_ticks_71 ?_
  refine r_iconst C (v := 1) (by decide) dX11_ticks_72 ?_
  obtain ⟨r63, I64, hq65, h⟩ := bd2_ h
  refine r_cvi C (rest := [.int (I62 106 (2 : Int32).toNatClampNeg), .int (2 : Int32), .ref (ad 106)]) (c_X11_worth  hq65) fm_X11_worth lk_X11_101 o_98 ⟨_, ct_10 o_98.1⟩ rfl rfl ⟨rfl, rfl, Nat.le_of_ble_eq_true rfl, Nat.le_of_ble_eq_true rfl⟩ (Nat.le_of_ble_eq_true rfl) rfl dX11_ticks_73 ?_
  refine r_sipush C (v := -999) (by decide) dX11_ticks_76 ?_
  refine r_sipush C (v := 999) (by decide) dX11_ticks_79 ?_
  obtain ⟨r66, hq67, h⟩ := bd1_ h
  refine r_csi C (rest := [.int (I62 106 (2 : Int32).toNatClampNeg), .int (2 : Int32), .ref (ad 106)]) (c_X11_held  hq67) fm_X11_held lk_X11_105 rfl ⟨rfl, rfl, Nat.le_of_ble_eq_true rfl, Nat.le_of_ble_eq_true rfl⟩ (Nat.le_of_ble_eq_true rfl) rfl dX11_ticks_82 ?_
  refine r_isub C dX11_ticks_85 ?_
  refine r_iast C o_106 h dX11_ticks_86 (fun h => ?_)
  refine r_nmI h (fun I68 h => ?_)
  refine r_aload_n C 1 rfl rfl dX11_ticks_87 ?_
  refine gf_X11_32 C rf0 o_98 (q := 106) rfl dX11_ticks_88 ?_
  refine r_bipush C (v := 7) (by decide) dX11_ticks_91 ?_
  refine r_iald C o_106 h dX11_ticks_93 (fun h => ?_)
  refine r_if_eq C (tgt := 157) h dX11_ticks_94 (by decide) (fun h => ?_) (fun h => ?_)
  · exact r_sub [1] rfl (wB_X11_ticks_157 C hr  h)
  · refine r_aload_n C 1 rfl rfl dX11_ticks_97 ?_
    refine gf_X11_32 C rf0 o_98 (q := 106) rfl dX11_ticks_98 ?_
    refine r_bipush C (v := 8) (by decide) dX11_ticks_101 ?_
    refine r_aload_n C 1 rfl rfl dX11_ticks_103 ?_
    refine gf_X11_32 C rf0 o_98 (q := 106) rfl dX11_ticks_104 ?_
    refine r_pc (pc1 := 107) rfl ?_
    refine r_bipush C (v := 8) (by decide) dX11_ticks_107 ?_
    refine r_iald C o_106 h dX11_ticks_109 (fun h => ?_)
    refine r_ldc C (v := 1103515245) lk_X11_109 dX11_ticks_110 ?_
    refine r_imul C dX11_ticks_112 ?_
    refine r_sipush C (v := 12345) (by decide) dX11_ticks_113 ?_
    refine r_iadd C dX11_ticks_116 ?_
    refine r_iast C o_106 h dX11_ticks_117 (fun h => ?_)
    refine r_nmI h (fun I69 h => ?_)
    refine r_aload_n C 1 rfl rfl dX11_ticks_118 ?_
    refine gf_X11_32 C rf0 o_98 (q := 106) rfl dX11_ticks_119 ?_
    refine r_iconst C (v := 2) (by decide) dX11_ticks_122 ?_
    refine r_dup2 C rfl rfl dX11_ticks_123 ?_
    refine r_iald C o_106 h dX11_ticks_124 (fun h => ?_)
    refine r_aload_n C 1 rfl rfl dX11_ticks_125 ?_
    refine gf_X11_32 C rf0 o_98 (q := 106) rfl dX11_ticks_126 ?_
    refine r_bipush C (v := 8) (by decide) dX11_ticks_129 ?_
    refine r_iald C o_106 h dX11_ticks_131 (fun h => ?_)
    refine r_bipush C (v := 16) (by decide) dX11_ticks_132 ?_
    refine r_iushr C dX11_ticks_134 ?_
    refine r_iconst C (v := 2) (by decide) dX11_ticks_135 ?_
    refine r_aload_n C 1 rfl rfl dX11_ticks_136 ?_
    refine gf_X11_32 C rf0 o_98 (q := 106) rfl dX11_ticks_137 ?_
    refine r_pc (pc1 := 140) rfl ?_
    refine r_bipush C (v := 7) (by decide) dX11_ticks_140 ?_
    refine r_iald C o_106 h dX11_ticks_142 (fun h => ?_)
    refine r_imul C dX11_ticks_143 ?_
    refine r_iconst C (v := 1) (by decide) dX11_ticks_144 ?_
    refine r_iadd C dX11_ticks_145 ?_
    refine r_irem C h dX11_ticks_146 (fun h => ?_)
    refine r_aload_n C 1 rfl rfl dX11_ticks_147 ?_
    refine gf_X11_32 C rf0 o_98 (q := 106) rfl dX11_ticks_148 ?_
    refine r_bipush C (v := 7) (by decide) dX11_ticks_151 ?_
    refine r_iald C o_106 h dX11_ticks_153 (fun h => ?_)
    refine r_isub C dX11_ticks_154 ?_
    refine r_iadd C dX11_ticks_155 ?_
    refine r_iast C o_106 h dX11_ticks_156 (fun h => ?_)
    refine r_nmI h (fun I70 h => ?_)
    exact r_sub [1] rfl (wB_X11_ticks_157 C hr  h)
set_option maxHeartbeats 4000000 in
set_option maxRecDepth 100000 in
theorem c_X11_ticks {l : Launch} {g : GG} {ad : Nat → Nat} {I : HI} {J : HJ} {I1 : HI} {J1 : HJ} (h : f_X11_ticks I J = some (I1, J1)) : CM l yX11_ticks cX11_ticks 2 none (rmk 3 67) g ad nO oR [.ref (ad 98)] I J (QAv g ad nO oR I1 J1) :=
  CM_of (by decide +kernel) (Nat.le_of_ble_eq_true rfl) (fun p e s m args below meth c C hr => w_X11_ticks C hr h)
set_option maxHeartbeats 4000000 in
set_option maxRecDepth 100000 in
theorem wLB_X11_trial_2 {l : Launch} {g : GG} {ad : Nat → Nat} {p : Program} {e : Env} {s : State} {m : MethodId} {args : Array Value} {below : List Frame} {meth : Method} {c : Code} {a0 : Int32} {z : HI × HJ} (C : Cx p s m args meth c RX11 cX11_trial 3 g (AW ad nO)) (hr : meth.sig.returnType = none)  {r_2 : Int32 → HI → HJ → Option (HI × HJ)} (hr_2 : ∀ {x2 : Int32} {I : HI} {J : HJ}, r_2 x2 I J = some z → V p l e (rmk 4 88) s m args below meth c (MQ below (QAv g ad nO oR z.1 z.2) args s 0 0 (AW ad nO)) 3 0 0 g (AW ad nO) ad nO oR I J 2 [(0, .ref (ad 98)), (1, .int a0), (2, .int x2)] []) {x2 : Int32} {I : HI} {J : HJ} (h : fLB_X11_trial_2 a0 r_2 x2 I J = some z) : V p l e (rmk 4 88) s m args below meth c (MQ below (QAv g ad nO oR z.1 z.2) args s 0 0 (AW ad nO)) 3 0 0 g (AW ad nO) ad nO oR I J 2 [(0, .ref (ad 98)), (1, .int a0), (2, .int x2)] [] := by
  unfold fLB_X11_trial_2 at h
  refine r_iload_n C 2 rfl rfl dX11_trial_2 ?_
  refine r_iload_n C 1 rfl rfl dX11_trial_3 ?_
  refine r_icmp_ge C (tgt := 17) h dX11_trial_4 (by decide) (fun h => ?_) (fun h => ?_)
  · have hz9 := Option.some.inj h
    subst hz9
    exact r_vret C hr dX11_trial_17
  · refine r_aload_n C 0 rfl rfl dX11_trial_7 ?_
    obtain ⟨I5, J6, hq7, h⟩ := bd2_ h
    refine r_cvv C (rest := []) (c_X11_ticks  hq7) fm_X11_ticks lk_X11_121 o_98 ⟨_, ct_10 o_98.1⟩ rfl rfl ⟨rfl, rfl, Nat.le_of_ble_eq_true rfl, Nat.le_of_ble_eq_true rfl⟩ (Nat.le_of_ble_eq_true rfl) rfl dX11_trial_8 ?_
    refine r_iincN C h (k := 2) (zz := 1) rfl rfl (by decide) (lv1 := fun v8 => [(2, .int v8), (0, .ref (ad 98)), (1, .int a0)]) (fun _ => rfl) dX11_trial_11 (fun v8 h => ?_)
    refine r_goto C (tgt := 2) dX11_trial_14 (by decide) ?_
    exact r_sub [1, 2, 0] rfl (hr_2  h)
set_option maxHeartbeats 4000000 in
set_option maxRecDepth 100000 in
theorem wL_X11_trial_2 {l : Launch} {g : GG} {ad : Nat → Nat} {p : Program} {e : Env} {s : State} {m : MethodId} {args : Array Value} {below : List Frame} {meth : Method} {c : Code} {a0 : Int32} {z : HI × HJ} (C : Cx p s m args meth c RX11 cX11_trial 3 g (AW ad nO)) (hr : meth.sig.returnType = none)  : ∀ (f : Nat) {x2 : Int32} {I : HI} {J : HJ}, fL_X11_trial_2 a0 f x2 I J = some z → V p l e (rmk 4 88) s m args below meth c (MQ below (QAv g ad nO oR z.1 z.2) args s 0 0 (AW ad nO)) 3 0 0 g (AW ad nO) ad nO oR I J 2 [(0, .ref (ad 98)), (1, .int a0), (2, .int x2)] [] := by
  intro f
  induction f with
  | zero =>
    intro _ _ _  h
    have h0 : (none : Option (HI × HJ)) = some z := h
    cases h0
  | succ f ih =>
    intro _ _ _  h
    exact wLB_X11_trial_2 C hr ih  h
set_option maxHeartbeats 4000000 in
set_option maxRecDepth 100000 in
theorem w_X11_trial {l : Launch} {g : GG} {ad : Nat → Nat} {p : Program} {e : Env} {s : State} {m : MethodId} {args : Array Value} {below : List Frame} {meth : Method} {c : Code} {a0 : Int32} {z : HI × HJ} (C : Cx p s m args meth c RX11 cX11_trial 3 g (AW ad nO)) (hr : meth.sig.returnType = none) {I : HI} {J : HJ} (h : f_X11_trial a0 I J = some z) : V p l e (rmk 4 88) s m args below meth c (MQ below (QAv g ad nO oR z.1 z.2) args s 0 0 (AW ad nO)) 3 0 0 g (AW ad nO) ad nO oR I J 0 [(0, .ref (ad 98)), (1, .int a0)] [] := by
  unfold f_X11_trial at h
  refine r_iconst C (v := 0) (by decide) dX11_trial_0 ?_
  refine r_istore_n C (lv1 := [(2, .int (0 : Int32)), (0, .ref (ad 98)), (1, .int a0)]) rfl (by decide) rfl dX11_trial_1 ?_
  exact r_sub [1, 2, 0] rfl (wL_X11_trial_2 C hr _  h)
set_option maxHeartbeats 4000000 in
set_option maxRecDepth 100000 in
theorem c_X11_trial {l : Launch} {g : GG} {ad : Nat → Nat} {a0 : Int32} {I : HI} {J : HJ} {I1 : HI} {J1 : HJ} (h : f_X11_trial a0 I J = some (I1, J1)) : CM l yX11_trial cX11_trial 3 none (rmk 4 88) g ad nO oR [.ref (ad 98), .int a0] I J (QAv g ad nO oR I1 J1) :=
  CM_of (by decide +kernel) (Nat.le_of_ble_eq_true rfl) (fun p e s m args below meth c C hr => w_X11_trial C hr h)
set_option maxHeartbeats 4000000 in
set_option maxRecDepth 100000 in
theorem wLB_X11_begin_45 {l : Launch} {g : GG} {ad : Nat → Nat} {p : Program} {e : Env} {s : State} {m : MethodId} {args : Array Value} {below : List Frame} {meth : Method} {c : Code} {a0 : Int32} {a1 : Int32} {a2 : Int32} {z : Int32 × HI × HJ} (C : Cx p s m args meth c RX11 cX11_begin 5 g (AW ad nO)) (hr : meth.sig.returnType = (some .int))  {r_45 : Int32 → HI → HJ → Option (Int32 × HI × HJ)} (hr_45 : ∀ {x4 : Int32} {I : HI} {J : HJ}, r_45 x4 I J = some z → V p l e (rmk 1 25) s m args below meth c (MQ below (QAi g ad nO oR z.1 z.2.1 z.2.2) args s 0 0 (AW ad nO)) 5 0 0 g (AW ad nO) ad nO oR I J 45 [(0, .ref (ad 98)), (1, .int a0), (2, .int a1), (3, .int a2), (4, .int x4)] []) {x4 : Int32} {I : HI} {J : HJ} (h : fLB_X11_begin_45 a0 a1 a2 r_45 x4 I J = some z) : V p l e (rmk 1 25) s m args below meth c (MQ below (QAi g ad nO oR z.1 z.2.1 z.2.2) args s 0 0 (AW ad nO)) 5 0 0 g (AW ad nO) ad nO oR I J 45 [(0, .ref (ad 98)), (1, .int a0), (2, .int a1), (3, .int a2), (4, .int x4)] [] := by
  unfold fLB_X11_begin_45 at h
  refine r_iload C 4 rfl dX11_begin_45 ?_
  refine r_bipush C (v := 6) (by decide) dX11_begin_47 ?_
  refine r_icmp_ge C (tgt := 66) h dX11_begin_49 (by decide) (fun h => ?_) (fun h => ?_)
  · refine r_aload_n C 0 rfl rfl dX11_begin_66 ?_
    refine gf_X11_7 C rf0 o_98 (q := 99) rfl dX11_begin_67 ?_
    refine r_iconst C (v := 0) (by decide) dX11_begin_70 ?_
    refine r_iload_n C 1 rfl rfl dX11_begin_71 ?_
    refine r_iast C o_99 h dX11_begin_72 (fun h => ?_)
    refine r_nmI h (fun I16 h => ?_)
    refine r_aload_n C 0 rfl rfl dX11_begin_73 ?_
    refine gf_X11_7 C rf0 o_98 (q := 99) rfl dX11_begin_74 ?_
    refine r_iconst C (v := 1) (by decide) dX11_begin_77 ?_
    refine r_iload_n C 2 rfl rfl dX11_begin_78 ?_
    refine r_iast C o_99 h dX11_begin_79 (fun h => ?_)
    refine r_nmI h (fun I17 h => ?_)
    refine r_aload_n C 0 rfl rfl dX11_begin_80 ?_
    refine gf_X11_7 C rf0 o_98 (q := 99) rfl dX11_begin_81 ?_
    refine r_iconst C (v := 2) (by decide) dX11_begin_84 ?_
    refine r_iload_n C 3 rfl rfl dX11_begin_85 ?_
    refine r_iast C o_99 h dX11_begin_86 (fun h => ?_)
    refine r_nmI h (fun I18 h => ?_)
    refine r_aload_n C 0 rfl rfl dX11_begin_87 ?_
    refine gf_X11_7 C rf0 o_98 (q := 99) rfl dX11_begin_88 ?_
    refine r_bipush C (v := 9) (by decide) dX11_begin_91 ?_
    refine r_iconst C (v := 0) (by decide) dX11_begin_93 ?_
    refine r_iast C o_99 h dX11_begin_94 (fun h => ?_)
    refine r_nmI h (fun I19 h => ?_)
    refine r_aload_n C 0 rfl rfl dX11_begin_95 ?_
    refine gf_X11_16 C rf0 o_98 (q := 101) rfl dX11_begin_96 ?_
    refine r_iconst C (v := 0) (by decide) dX11_begin_99 ?_
    refine r_lconst C (v := 0) (by decide) dX11_begin_100 ?_
    refine r_last C o_101 h dX11_begin_101 (fun h => ?_)
    refine r_nmJ h (fun J20 h => ?_)
    refine r_aload_n C 0 rfl rfl dX11_begin_102 ?_
    refine gf_X11_16 C rf0 o_98 (q := 101) rfl dX11_begin_103 ?_
    refine r_iconst C (v := 1) (by decide) dX11_begin_106 ?_
    refine r_lconst C (v := 0) (by decide) dX11_begin_107 ?_
    refine r_last C o_101 h dX11_begin_108 (fun h => ?_)
    refine r_nmJ h (fun J21 h => ?_)
    refine r_aload_n C 0 rfl rfl dX11_begin_109 ?_
    refine gf_X11_16 C rf0 o_98 (q := 101) rfl dX11_begin_110 ?_
    refine r_iconst C (v := 2) (by decide) dX11_begin_113 ?_
    refine r_iload_n C 1 rfl rfl dX11_begin_114 ?_
    refine r_i2l C dX11_begin_115 ?_
    refine r_pc (pc1 := 116) rfl ?_
    refine r_last C o_101 h dX11_begin_116 (fun h => ?_)
    refine r_nmJ h (fun J22 h => ?_)
    refine r_iconst C (v := 1) (by decide) dX11_begin_117 ?_
    have hz9 := Option.some.inj h
    subst hz9
    exact r_iret C hr dX11_begin_118
  · refine r_aload_n C 0 rfl rfl dX11_begin_52 ?_
    refine gf_X11_7 C rf0 o_98 (q := 99) rfl dX11_begin_53 ?_
    refine r_iload C 4 rfl dX11_begin_56 ?_
    refine r_iconst C (v := 0) (by decide) dX11_begin_58 ?_
    refine r_iast C o_99 h dX11_begin_59 (fun h => ?_)
    refine r_nmI h (fun I23 h => ?_)
    refine r_iincN C h (k := 4) (zz := 1) rfl rfl (by decide) (lv1 := fun v24 => [(4, .int v24), (0, .ref (ad 98)), (1, .int a0), (2, .int a1), (3, .int a2)]) (fun _ => rfl) dX11_begin_60 (fun v24 h => ?_)
    refine r_goto C (tgt := 45) dX11_begin_63 (by decide) ?_
    exact r_sub [1, 2, 3, 4, 0] rfl (hr_45  h)
set_option maxHeartbeats 4000000 in
set_option maxRecDepth 100000 in
theorem wL_X11_begin_45 {l : Launch} {g : GG} {ad : Nat → Nat} {p : Program} {e : Env} {s : State} {m : MethodId} {args : Array Value} {below : List Frame} {meth : Method} {c : Code} {a0 : Int32} {a1 : Int32} {a2 : Int32} {z : Int32 × HI × HJ} (C : Cx p s m args meth c RX11 cX11_begin 5 g (AW ad nO)) (hr : meth.sig.returnType = (some .int))  : ∀ (f : Nat) {x4 : Int32} {I : HI} {J : HJ}, fL_X11_begin_45 a0 a1 a2 f x4 I J = some z → V p l e (rmk 1 25) s m args below meth c (MQ below (QAi g ad nO oR z.1 z.2.1 z.2.2) args s 0 0 (AW ad nO)) 5 0 0 g (AW ad nO) ad nO oR I J 45 [(0, .ref (ad 98)), (1, .int a0), (2, .int a1), (3, .int a2), (4, .int x4)] [] := by
  intro f
  induction f with
  | zero =>
    intro _ _ _  h
    have h0 : (none : Option (Int32 × HI × HJ)) = some z := h
    cases h0
  | succ f ih =>
    intro _ _ _  h
    exact wLB_X11_begin_45 C hr ih  h
set_option maxHeartbeats 4000000 in
set_option maxRecDepth 100000 in
theorem w_X11_begin {l : Launch} {g : GG} {ad : Nat → Nat} {p : Program} {e : Env} {s : State} {m : MethodId} {args : Array Value} {below : List Frame} {meth : Method} {c : Code} {a0 : Int32} {a1 : Int32} {a2 : Int32} {z : Int32 × HI × HJ} (C : Cx p s m args meth c RX11 cX11_begin 5 g (AW ad nO)) (hr : meth.sig.returnType = (some .int)) {I : HI} {J : HJ} (h : f_X11_begin a0 a1 a2 I J = some z) : V p l e (rmk 1 25) s m args below meth c (MQ below (QAi g ad nO oR z.1 z.2.1 z.2.2) args s 0 0 (AW ad nO)) 5 0 0 g (AW ad nO) ad nO oR I J 0 [(0, .ref (ad 98)), (1, .int a0), (2, .int a1), (3, .int a2)] [] := by
  unfold f_X11_begin at h
  refine r_iload_n C 1 rfl rfl dX11_begin_0 ?_
  refine r_i2l C dX11_begin_1 ?_
  refine r_lconst C (v := 0) (by decide) dX11_begin_2 ?_
  refine r_ldc2 C (v := 9999) lk_X11_124 dX11_begin_3 ?_
  obtain ⟨r25, hq26, h⟩ := bd1_ h
  refine r_csi C (rest := []) (c_X11_in  hq26) fm_X11_in lk_X11_114 rfl ⟨rfl, rfl, Nat.le_of_ble_eq_true rfl, Nat.le_of_ble_eq_true rfl⟩ (Nat.le_of_ble_eq_true rfl) rfl dX11_begin_6 ?_
  refine r_if_eq C (tgt := 40) h dX11_begin_9 (by decide) (fun h => ?_) (fun h => ?_)
  · refine r_iconst C (v := -1) (by decide) dX11_begin_40 ?_
    have hz9 := Option.some.inj h
    subst hz9
    exact r_iret C hr dX11_begin_41
  · refine r_iload_n C 2 rfl rfl dX11_begin_12 ?_
    refine r_i2l C dX11_begin_13 ?_
    refine r_ldc2 C (v := -999) lk_X11_110 dX11_begin_14 ?_
    refine r_ldc2 C (v := 999) lk_X11_112 dX11_begin_17 ?_
    obtain ⟨r27, hq28, h⟩ := bd1_ h
    refine r_csi C (rest := []) (c_X11_in  hq28) fm_X11_in lk_X11_114 rfl ⟨rfl, rfl, Nat.le_of_ble_eq_true rfl, Nat.le_of_ble_eq_true rfl⟩ (Nat.le_of_ble_eq_true rfl) rfl dX11_begin_20 ?_
    refine r_if_eq C (tgt := 40) h dX11_begin_23 (by decide) (fun h => ?_) (fun h => ?_)
    · refine r_iconst C (v := -1) (by decide) dX11_begin_40 ?_
      have hz9 := Option.some.inj h
      subst hz9
      exact r_iret C hr dX11_begin_41
    · refine r_iload_n C 3 rfl rfl dX11_begin_26 ?_
      refine r_i2l C dX11_begin_27 ?_
      refine r_ldc2 C (v := -999) lk_X11_110 dX11_begin_28 ?_
      refine r_ldc2 C (v := 999) lk_X11_112 dX11_begin_31 ?_
      obtain ⟨r29, hq30, h⟩ := bd1_ h
      refine r_csi C (rest := []) (c_X11_in  hq30) fm_X11_in lk_X11_114 rfl ⟨rfl, rfl, Nat.le_of_ble_eq_true rfl, Nat.le_of_ble_eq_true rfl⟩ (Nat.le_of_ble_eq_true rfl) rfl dX11_begin_34 ?_
      refine r_if_ne C (tgt := 42) h dX11_begin_37 (by decide) (fun h => ?_) (fun h => ?_)
      · refine r_iconst C (v := 0) (by decide) dX11_begin_42 ?_
        refine r_istore C (lv1 := [(4, .int (0 : Int32)), (0, .ref (ad 98)), (1, .int a0), (2, .int a1), (3, .int a2)]) (by decide) rfl dX11_begin_43 ?_
        exact r_sub [1, 2, 3, 4, 0] rfl (wL_X11_begin_45 C hr _  h)
      · refine r_iconst C (v := -1) (by decide) dX11_begin_40 ?_
        have hz9 := Option.some.inj h
        subst hz9
        exact r_iret C hr dX11_begin_41
set_option maxHeartbeats 4000000 in
set_option maxRecDepth 100000 in
theorem c_X11_begin {l : Launch} {g : GG} {ad : Nat → Nat} {a0 : Int32} {a1 : Int32} {a2 : Int32} {I : HI} {J : HJ} {r : Int32} {I1 : HI} {J1 : HJ} (h : f_X11_begin a0 a1 a2 I J = some (r, I1, J1)) : CM l yX11_begin cX11_begin 5 (some .int) (rmk 1 25) g ad nO oR [.ref (ad 98), .int a0, .int a1, .int a2] I J (QAi g ad nO oR r I1 J1) :=
  CM_of (by decide +kernel) (Nat.le_of_ble_eq_true rfl) (fun p e s m args below meth c C hr => w_X11_begin C hr h)
set_option maxHeartbeats 4000000 in
set_option maxRecDepth 100000 in
theorem w_X11_set {l : Launch} {g : GG} {ad : Nat → Nat} {p : Program} {e : Env} {s : State} {m : MethodId} {args : Array Value} {below : List Frame} {meth : Method} {c : Code} {a0 : Int32} {a1 : Int32} {z : Int32 × HI} (C : Cx p s m args meth c RX11 cX11_set 4 g (AW ad nO)) (hr : meth.sig.returnType = (some .int)) {I : HI} {J : HJ} (h : f_X11_set a0 a1 I J = some z) : V p l e (rmk 1 25) s m args below meth c (MQ below (QAi g ad nO oR z.1 z.2 J) args s 0 0 (AW ad nO)) 4 0 0 g (AW ad nO) ad nO oR I J 0 [(0, .ref (ad 98)), (1, .int a0), (2, .int a1)] [] := by
  unfold f_X11_set at h
  refine r_iload_n C 1 rfl rfl dX11_set_0 ?_
  refine r_i2l C dX11_set_1 ?_
  refine r_lconst C (v := 0) (by decide) dX11_set_2 ?_
  refine r_lconst C (v := 1) (by decide) dX11_set_3 ?_
  obtain ⟨r7, hq8, h⟩ := bd1_ h
  refine r_csi C (rest := []) (c_X11_in  hq8) fm_X11_in lk_X11_114 rfl ⟨rfl, rfl, Nat.le_of_ble_eq_true rfl, Nat.le_of_ble_eq_true rfl⟩ (Nat.le_of_ble_eq_true rfl) rfl dX11_set_4 ?_
  refine r_if_eq C (tgt := 22) h dX11_set_7 (by decide) (fun h => ?_) (fun h => ?_)
  · refine r_iconst C (v := -1) (by decide) dX11_set_22 ?_
    have hz9 := Option.some.inj h
    subst hz9
    exact r_iret C hr dX11_set_23
  · refine r_iload_n C 2 rfl rfl dX11_set_10 ?_
    refine r_i2l C dX11_set_11 ?_
    refine r_lconst C (v := 0) (by decide) dX11_set_12 ?_
    refine r_ldc2 C (v := 99) lk_X11_126 dX11_set_13 ?_
    obtain ⟨r9, hq10, h⟩ := bd1_ h
    refine r_csi C (rest := []) (c_X11_in  hq10) fm_X11_in lk_X11_114 rfl ⟨rfl, rfl, Nat.le_of_ble_eq_true rfl, Nat.le_of_ble_eq_true rfl⟩ (Nat.le_of_ble_eq_true rfl) rfl dX11_set_16 ?_
    refine r_if_ne C (tgt := 24) h dX11_set_19 (by decide) (fun h => ?_) (fun h => ?_)
    · refine r_aload_n C 0 rfl rfl dX11_set_24 ?_
      refine gf_X11_7 C rf0 o_98 (q := 99) rfl dX11_set_25 ?_
      refine r_bipush C (v := 6) (by decide) dX11_set_28 ?_
      refine r_iload_n C 1 rfl rfl dX11_set_30 ?_
      refine r_iadd C dX11_set_31 ?_
      refine r_pc (pc1 := 32) rfl ?_
      refine r_iald C o_99 h dX11_set_32 (fun h => ?_)
      refine r_nmi h (fun v11 h => ?_)
      refine r_istore_n C (lv1 := [(3, .int v11), (0, .ref (ad 98)), (1, .int a0), (2, .int a1)]) rfl (by decide) rfl dX11_set_33 ?_
      refine r_aload_n C 1 rfl rfl dX11_set_34 ?_
      refine gf_X11_7 C rf0 o_98 (q := 99) rfl dX11_set_35 ?_
      refine r_bipush C (v := 6) (by decide) dX11_set_38 ?_
      refine r_iload_n C 2 rfl rfl dX11_set_40 ?_
      refine r_iadd C dX11_set_41 ?_
      refine r_pc (pc1 := 42) rfl ?_
      refine r_iload_n C 3 rfl rfl dX11_set_42 ?_
      refine r_iast C o_99 h dX11_set_43 (fun h => ?_)
      refine r_nmI h (fun I12 h => ?_)
      refine r_iload_n C 0 rfl rfl dX11_set_44 ?_
      have hz9 := Option.some.inj h
      subst hz9
      exact r_iret C hr dX11_set_45
    · refine r_iconst C (v := -1) (by decide) dX11_set_22 ?_
      have hz9 := Option.some.inj h
      subst hz9
      exact r_iret C hr dX11_set_23
set_option maxHeartbeats 4000000 in
set_option maxRecDepth 100000 in
theorem c_X11_set {l : Launch} {g : GG} {ad : Nat → Nat} {a0 : Int32} {a1 : Int32} {I : HI} {J : HJ} {r : Int32} {I1 : HI} (h : f_X11_set a0 a1 I J = some (r, I1)) : CM l yX11_set cX11_set 4 (some .int) (rmk 1 25) g ad nO oR [.ref (ad 98), .int a0, .int a1] I J (QAi g ad nO oR r I1 J) :=
  CM_of (by decide +kernel) (Nat.le_of_ble_eq_true rfl) (fun p e s m args below meth c C hr => w_X11_set C hr h)
set_option maxHeartbeats 4000000 in
set_option maxRecDepth 100000 in
theorem w_X11_seed {l : Launch} {g : GG} {ad : Nat → Nat} {p : Program} {e : Env} {s : State} {m : MethodId} {args : Array Value} {below : List Frame} {meth : Method} {c : Code} {a0 : Int32} {z : Int32 × HI} (C : Cx p s m args meth c RX11 cX11_seed 3 g (AW ad nO)) (hr : meth.sig.returnType = (some .int)) {I : HI} {J : HJ} (h : f_X11_seed a0 I J = some z) : V p l e (rmk 0 0) s m args below meth c (MQ below (QAi g ad nO oR z.1 z.2 J) args s 0 0 (AW ad nO)) 3 0 0 g (AW ad nO) ad nO oR I J 0 [(0, .ref (ad 98)), (1, .int a0)] [] := by
  unfold f_X11_seed at h
  refine r_aload_n C 0 rfl rfl dX11_seed_0 ?_
  refine gf_X11_7 C rf0 o_98 (q := 99) rfl dX11_seed_1 ?_
  refine r_bipush C (v := 8) (by decide) dX11_seed_4 ?_
  refine r_iald C o_99 h dX11_seed_6 (fun h => ?_)
  refine r_nmi h (fun v3 h => ?_)
  refine r_istore_n C (lv1 := [(2, .int v3), (0, .ref (ad 98)), (1, .int a0)]) rfl (by decide) rfl dX11_seed_7 ?_
  refine r_aload_n C 1 rfl rfl dX11_seed_8 ?_
  refine gf_X11_7 C rf0 o_98 (q := 99) rfl dX11_seed_9 ?_
  refine r_bipush C (v := 8) (by decide) dX11_seed_12 ?_
  refine r_iload_n C 2 rfl rfl dX11_seed_14 ?_
  refine r_iast C o_99 h dX11_seed_15 (fun h => ?_)
  refine r_nmI h (fun I4 h => ?_)
  refine r_iload_n C 0 rfl rfl dX11_seed_16 ?_
  have hz9 := Option.some.inj h
  subst hz9
  exact r_iret C hr dX11_seed_17
set_option maxHeartbeats 4000000 in
set_option maxRecDepth 100000 in
theorem c_X11_seed {l : Launch} {g : GG} {ad : Nat → Nat} {a0 : Int32} {I : HI} {J : HJ} {r : Int32} {I1 : HI} (h : f_X11_seed a0 I J = some (r, I1)) : CM l yX11_seed cX11_seed 3 (some .int) (rmk 0 0) g ad nO oR [.ref (ad 98), .int a0] I J (QAi g ad nO oR r I1 J) :=
  CM_of (by decide +kernel) (Nat.le_of_ble_eq_true rfl) (fun p e s m args below meth c C hr => w_X11_seed C hr h)
set_option maxHeartbeats 4000000 in
set_option maxRecDepth 100000 in
theorem wLB_X11_run_100 {l : Launch} {g : GG} {ad : Nat → Nat} {p : Program} {e : Env} {s : State} {m : MethodId} {args : Array Value} {below : List Frame} {meth : Method} {c : Code} {a0 : Int32} {z : Int32 × HI × HJ} (C : Cx p s m args meth c RX11 cX11_run 5 g (AW ad nO)) (hr : meth.sig.returnType = (some .int))  {r_100 : Int32 → Int32 → HI → HJ → Option (Int32 × HI × HJ)} (hr_100 : ∀ {x2 : Int32} {x4 : Int32} {I : HI} {J : HJ}, r_100 x2 x4 I J = some z → V p l e (rmk 4 88) s m args below meth c (MQ below (QAi g ad nO oR z.1 z.2.1 z.2.2) args s 0 0 (AW ad nO)) 5 0 0 g (AW ad nO) ad nO oR I J 100 [(0, .ref (ad 98)), (2, .int x2), (4, .int x4)] []) {x2 : Int32} {x4 : Int32} {I : HI} {J : HJ} (h : fLB_X11_run_100 a0 r_100 x2 x4 I J = some z) : V p l e (rmk 4 88) s m args below meth c (MQ below (QAi g ad nO oR z.1 z.2.1 z.2.2) args s 0 0 (AW ad nO)) 5 0 0 g (AW ad nO) ad nO oR I J 100 [(0, .ref (ad 98)), (2, .int x2), (4, .int x4)] [] := by
  unfold fLB_X11_run_100 at h
  refine r_iload C 2 rfl dX11_run_100 ?_
  refine r_bipush C (v := 9) (by decide) dX11_run_102 ?_
  refine r_icmp_ge C (tgt := 127) h dX11_run_104 (by decide) (fun h => ?_) (fun h => ?_)
  · refine r_aload_n C 0 rfl rfl dX11_run_127 ?_
    refine gf_X11_16 C rf0 o_98 (q := 101) rfl dX11_run_128 ?_
    refine r_iconst C (v := 0) (by decide) dX11_run_131 ?_
    refine r_dup2 C rfl rfl dX11_run_132 ?_
    refine r_lald C o_101 h dX11_run_133 (fun h => ?_)
    refine r_aload_n C 0 rfl rfl dX11_run_134 ?_
    refine gf_X11_90 C o_98 dX11_run_135 ?_
    refine r_ladd C dX11_run_138 ?_
    refine r_last C o_101 h dX11_run_139 (fun h => ?_)
    refine r_nmJ h (fun J18 h => ?_)
    refine r_aload_n C 0 rfl rfl dX11_run_140 ?_
    refine gf_X11_16 C rf0 o_98 (q := 101) rfl dX11_run_141 ?_
    refine r_iconst C (v := 1) (by decide) dX11_run_144 ?_
    refine r_dup2 C rfl rfl dX11_run_145 ?_
    refine r_lald C o_101 h dX11_run_146 (fun h => ?_)
    refine r_aload_n C 0 rfl rfl dX11_run_147 ?_
    refine gf_X11_94 C o_98 dX11_run_148 ?_
    refine r_ladd C dX11_run_151 ?_
    refine r_last C o_101 h dX11_run_152 (fun h => ?_)
    refine r_nmJ h (fun J19 h => ?_)
    refine r_aload_n C 0 rfl rfl dX11_run_153 ?_
    refine gf_X11_7 C rf0 o_98 (q := 99) rfl dX11_run_154 ?_
    refine r_iconst C (v := 5) (by decide) dX11_run_157 ?_
    refine r_iald C o_99 h dX11_run_158 (fun h => ?_)
    refine r_iload_n C 1 rfl rfl dX11_run_159 ?_
    refine r_isub C dX11_run_160 ?_
    have hz9 := Option.some.inj h
    subst hz9
    exact r_iret C hr dX11_run_161
  · refine r_aload_n C 0 rfl rfl dX11_run_107 ?_
    refine gf_X11_7 C rf0 o_98 (q := 99) rfl dX11_run_108 ?_
    refine r_iload C 2 rfl dX11_run_111 ?_
    refine r_aload_n C 0 rfl rfl dX11_run_113 ?_
    refine gf_X11_32 C rf0 o_98 (q := 106) rfl dX11_run_114 ?_
    refine r_pc (pc1 := 117) rfl ?_
    refine r_iload C 2 rfl dX11_run_117 ?_
    refine r_iald C o_106 h dX11_run_119 (fun h => ?_)
    refine r_iast C o_99 h dX11_run_120 (fun h => ?_)
    refine r_nmI h (fun I20 h => ?_)
    refine r_iincN C h (k := 2) (zz := 1) rfl rfl (by decide) (lv1 := fun v21 => [(4, .int v21), (0, .ref (ad 98)), (2, .int x2)]) (fun _ => rfl) dX11_run_121 (fun v21 h => ?_)
    refine r_goto C (tgt := 100) dX11_run_124 (by decide) ?_
    exact r_sub [1, 2, 0] rfl (hr_100  h)
set_option maxHeartbeats 4000000 in
set_option maxRecDepth 100000 in
theorem wL_X11_run_100 {l : Launch} {g : GG} {ad : Nat → Nat} {p : Program} {e : Env} {s : State} {m : MethodId} {args : Array Value} {below : List Frame} {meth : Method} {c : Code} {a0 : Int32} {z : Int32 × HI × HJ} (C : Cx p s m args meth c RX11 cX11_run 5 g (AW ad nO)) (hr : meth.sig.returnType = (some .int))  : ∀ (f : Nat) {x2 : Int32} {x4 : Int32} {I : HI} {J : HJ}, fL_X11_run_100 a0 f x2 x4 I J = some z → V p l e (rmk 4 88) s m args below meth c (MQ below (QAi g ad nO oR z.1 z.2.1 z.2.2) args s 0 0 (AW ad nO)) 5 0 0 g (AW ad nO) ad nO oR I J 100 [(0, .ref (ad 98)), (2, .int x2), (4, .int x4)] [] := by
  intro f
  induction f with
  | zero =>
    intro _ _ _ _  h
    have h0 : (none : Option (Int32 × HI × HJ)) = some z := h
    cases h0
  | succ f ih =>
    intro _ _ _ _  h
    exact wLB_X11_run_100 C hr ih  h
set_option maxHeartbeats 4000000 in
set_option maxRecDepth 100000 in
theorem wB_X11_run_89 {l : Launch} {g : GG} {ad : Nat → Nat} {p : Program} {e : Env} {s : State} {m : MethodId} {args : Array Value} {below : List Frame} {meth : Method} {c : Code} {a0 : Int32} {z : Int32 × HI × HJ} (C : Cx p s m args meth c RX11 cX11_run 5 g (AW ad nO)) (hr : meth.sig.returnType = (some .int)) {r_27 : Int32 → Int32 → HI → HJ → Option (Int32 × HI × HJ)} (hr_27 : ∀ {x2 : Int32} {x3 : Int32} {I : HI} {J : HJ}, r_27 x2 x3 I J = some z → V p l e (rmk 4 88) s m args below meth c (MQ below (QAi g ad nO oR z.1 z.2.1 z.2.2) args s 0 0 (AW ad nO)) 5 0 0 g (AW ad nO) ad nO oR I J 27 [(0, .ref (ad 98)), (2, .int x2), (3, .int x3)] []) {x2 : Int32} {x3 : Int32} {I : HI} {J : HJ} (h : fB_X11_run_89 a0 r_27 x2 x3 I J = some z) : V p l e (rmk 4 88) s m args below meth c (MQ below (QAi g ad nO oR z.1 z.2.1 z.2.2) args s 0 0 (AW ad nO)) 5 0 0 g (AW ad nO) ad nO oR I J 89 [(0, .ref (ad 98)), (2, .int x2), (3, .int x3)] [] := by
  unfold fB_X11_run_89 at h
  refine r_aload_n C 0 rfl rfl dX11_run_89 ?_
  refine r_iconst C (v := 0) (by decide) dX11_run_90 ?_
  refine pf_X11_86 C o_98 dX11_run_91 ?_
  refine r_nmI h (fun I22 h => ?_)
  refine r_goto C (tgt := 27) dX11_run_94 (by decide) ?_
  exact hr_27  h
set_option maxHeartbeats 4000000 in
set_option maxRecDepth 100000 in
theorem wLB_X11_run_27 {l : Launch} {g : GG} {ad : Nat → Nat} {p : Program} {e : Env} {s : State} {m : MethodId} {args : Array Value} {below : List Frame} {meth : Method} {c : Code} {a0 : Int32} {z : Int32 × HI × HJ} (C : Cx p s m args meth c RX11 cX11_run 5 g (AW ad nO)) (hr : meth.sig.returnType = (some .int))  {r_27 : Int32 → Int32 → HI → HJ → Option (Int32 × HI × HJ)} (hr_27 : ∀ {x2 : Int32} {x3 : Int32} {I : HI} {J : HJ}, r_27 x2 x3 I J = some z → V p l e (rmk 4 88) s m args below meth c (MQ below (QAi g ad nO oR z.1 z.2.1 z.2.2) args s 0 0 (AW ad nO)) 5 0 0 g (AW ad nO) ad nO oR I J 27 [(0, .ref (ad 98)), (2, .int x2), (3, .int x3)] []) {x2 : Int32} {x3 : Int32} {I : HI} {J : HJ} (h : fLB_X11_run_27 a0 r_27 x2 x3 I J = some z) : V p l e (rmk 4 88) s m args below meth c (MQ below (QAi g ad nO oR z.1 z.2.1 z.2.2) args s 0 0 (AW ad nO)) 5 0 0 g (AW ad nO) ad nO oR I J 27 [(0, .ref (ad 98)), (2, .int x2), (3, .int x3)] [] := by
  unfold fLB_X11_run_27 at h
  refine r_iload_n C 2 rfl rfl dX11_run_27 ?_
  refine r_if_le C (tgt := 97) h dX11_run_28 (by decide) (fun h => ?_) (fun h => ?_)
  · refine r_iconst C (v := 0) (by decide) dX11_run_97 ?_
    refine r_istore C (lv1 := [(4, .int (0 : Int32)), (0, .ref (ad 98)), (2, .int x2), (3, .int x3)]) (by decide) rfl dX11_run_98 ?_
    exact r_sub [1, 2, 0] rfl (wL_X11_run_100 C hr _  h)
  · refine r_aload_n C 0 rfl rfl dX11_run_31 ?_
    obtain ⟨I23, J24, hq25, h⟩ := bd2_ h
    refine r_cvv C (rest := []) (c_X11_ticks  hq25) fm_X11_ticks lk_X11_121 o_98 ⟨_, ct_10 o_98.1⟩ rfl rfl ⟨rfl, rfl, Nat.le_of_ble_eq_true rfl, Nat.le_of_ble_eq_true rfl⟩ (Nat.le_of_ble_eq_true rfl) rfl dX11_run_32 ?_
    refine r_iincN C h (k := 2) (zz := (-1)) rfl (by rw [show Int32.ofInt (-1) = (-1 : Int32) from by decide]) (by decide) (lv1 := fun v26 => [(3, .int v26), (0, .ref (ad 98)), (2, .int x2)]) (fun _ => rfl) dX11_run_35 (fun v26 h => ?_)
    refine r_aload_n C 1 rfl rfl dX11_run_38 ?_
    refine gf_X11_86 C o_98 dX11_run_39 ?_
    refine r_if_le C (tgt := 27) h dX11_run_42 (by decide) (fun h => ?_) (fun h => ?_)
    · exact r_sub [1, 2, 0] rfl (hr_27  h)
    · refine r_aload_n C 1 rfl rfl dX11_run_45 ?_
      refine gf_X11_7 C rf0 o_98 (q := 99) rfl dX11_run_46 ?_
      refine r_bipush C (v := 9) (by decide) dX11_run_49 ?_
      refine r_iald C o_99 h dX11_run_51 (fun h => ?_)
      refine r_bipush C (v := 60) (by decide) dX11_run_52 ?_
      refine r_icmp_ge C (tgt := 89) h dX11_run_54 (by decide) (fun h => ?_) (fun h => ?_)
      · exact r_sub [1, 2, 0] rfl (wB_X11_run_89 C hr hr_27  h)
      · refine r_aload_n C 1 rfl rfl dX11_run_57 ?_
        refine gf_X11_7 C rf0 o_98 (q := 99) rfl dX11_run_58 ?_
        refine r_bipush C (v := 12) (by decide) dX11_run_61 ?_
        refine r_aload_n C 1 rfl rfl dX11_run_63 ?_
        refine gf_X11_7 C rf0 o_98 (q := 99) rfl dX11_run_64 ?_
        refine r_pc (pc1 := 67) rfl ?_
        refine r_bipush C (v := 9) (by decide) dX11_run_67 ?_
        refine r_iald C o_99 h dX11_run_69 (fun h => ?_)
        refine r_iadd C dX11_run_70 ?_
        refine r_aload_n C 1 rfl rfl dX11_run_71 ?_
        refine gf_X11_35 C rf0 o_98 (q := 107) rfl dX11_run_72 ?_
        refine r_iconst C (v := 0) (by decide) dX11_run_75 ?_
        refine r_iald C o_107 h dX11_run_76 (fun h => ?_)
        refine r_iast C o_99 h dX11_run_77 (fun h => ?_)
        refine r_nmI h (fun I27 h => ?_)
        refine r_aload_n C 1 rfl rfl dX11_run_78 ?_
        refine gf_X11_7 C rf0 o_98 (q := 99) rfl dX11_run_79 ?_
        refine r_bipush C (v := 9) (by decide) dX11_run_82 ?_
        refine r_dup2 C rfl rfl dX11_run_84 ?_
        refine r_iald C o_99 h dX11_run_85 (fun h => ?_)
        refine r_iconst C (v := 1) (by decide) dX11_run_86 ?_
        refine r_iadd C dX11_run_87 ?_
        refine r_iast C o_99 h dX11_run_88 (fun h => ?_)
        refine r_nmI h (fun I28 h => ?_)
        exact r_sub [1, 2, 0] rfl (wB_X11_run_89 C hr hr_27  h)
set_option maxHeartbeats 4000000 in
set_option maxRecDepth 100000 in
theorem wL_X11_run_27 {l : Launch} {g : GG} {ad : Nat → Nat} {p : Program} {e : Env} {s : State} {m : MethodId} {args : Array Value} {below : List Frame} {meth : Method} {c : Code} {a0 : Int32} {z : Int32 × HI × HJ} (C : Cx p s m args meth c RX11 cX11_run 5 g (AW ad nO)) (hr : meth.sig.returnType = (some .int))  : ∀ (f : Nat) {x2 : Int32} {x3 : Int32} {I : HI} {J : HJ}, fL_X11_run_27 a0 f x2 x3 I J = some z → V p l e (rmk 4 88) s m args below meth c (MQ below (QAi g ad nO oR z.1 z.2.1 z.2.2) args s 0 0 (AW ad nO)) 5 0 0 g (AW ad nO) ad nO oR I J 27 [(0, .ref (ad 98)), (2, .int x2), (3, .int x3)] [] := by
  intro f
  induction f with
  | zero =>
    intro _ _ _ _  h
    have h0 : (none : Option (Int32 × HI × HJ)) = some z := h
    cases h0
  | succ f ih =>
    intro _ _ _ _  h
    exact wLB_X11_run_27 C hr ih  h
set_option maxHeartbeats 4000000 in
set_option maxRecDepth 100000 in
theorem w_X11_run {l : Launch} {g : GG} {ad : Nat → Nat} {p : Program} {e : Env} {s : State} {m : MethodId} {args : Array Value} {below : List Frame} {meth : Method} {c : Code} {a0 : Int32} {z : Int32 × HI × HJ} (C : Cx p s m args meth c RX11 cX11_run 5 g (AW ad nO)) (hr : meth.sig.returnType = (some .int)) {I : HI} {J : HJ} (h : f_X11_run a0 I J = some z) : V p l e (rmk 4 88) s m args below meth c (MQ below (QAi g ad nO oR z.1 z.2.1 z.2.2) args s 0 0 (AW ad nO)) 5 0 0 g (AW ad nO) ad nO oR I J 0 [(0, .ref (ad 98)), (1, .int a0)] [] := by
  unfold f_X11_run at h
  refine r_iload_n C 1 rfl rfl dX11_run_0 ?_
  refine r_i2l C dX11_run_1 ?_
  refine r_lconst C (v := 0) (by decide) dX11_run_2 ?_
  refine r_ldc2 C (v := 400) lk_X11_128 dX11_run_3 ?_
  obtain ⟨r29, hq30, h⟩ := bd1_ h
  refine r_csi C (rest := []) (c_X11_in  hq30) fm_X11_in lk_X11_114 rfl ⟨rfl, rfl, Nat.le_of_ble_eq_true rfl, Nat.le_of_ble_eq_true rfl⟩ (Nat.le_of_ble_eq_true rfl) rfl dX11_run_6 ?_
  refine r_if_ne C (tgt := 14) h dX11_run_9 (by decide) (fun h => ?_) (fun h => ?_)
  · refine r_aload_n C 0 rfl rfl dX11_run_14 ?_
    obtain ⟨I31, J32, hq33, h⟩ := bd2_ h
    refine r_cvv C (rest := []) (c_X11_opens  hq33) fm_X11_opens lk_X11_130 o_98 ⟨_, ct_10 o_98.1⟩ rfl rfl ⟨rfl, rfl, Nat.le_of_ble_eq_true rfl, Nat.le_of_ble_eq_true rfl⟩ (Nat.le_of_ble_eq_true rfl) rfl dX11_run_15 ?_
    refine r_aload_n C 0 rfl rfl dX11_run_18 ?_
    refine gf_X11_7 C rf0 o_98 (q := 99) rfl dX11_run_19 ?_
    refine r_iconst C (v := 5) (by decide) dX11_run_22 ?_
    refine r_iald C o_99 h dX11_run_23 (fun h => ?_)
    refine r_nmi h (fun v34 h => ?_)
    refine r_istore_n C (lv1 := [(2, .int v34), (0, .ref (ad 98)), (1, .int a0)]) rfl (by decide) rfl dX11_run_24 ?_
    refine r_iload_n C 2 rfl rfl dX11_run_25 ?_
    refine r_istore_n C (lv1 := [(3, .int a0), (2, .int v34), (0, .ref (ad 98)), (1, .int a0)]) rfl (by decide) rfl dX11_run_26 ?_
    exact r_sub [2, 1, 0] rfl (wL_X11_run_27 C hr _  h)
  · refine r_iconst C (v := -1) (by decide) dX11_run_12 ?_
    have hz9 := Option.some.inj h
    subst hz9
    exact r_iret C hr dX11_run_13
set_option maxHeartbeats 4000000 in
set_option maxRecDepth 100000 in
theorem c_X11_run {l : Launch} {g : GG} {ad : Nat → Nat} {a0 : Int32} {I : HI} {J : HJ} {r : Int32} {I1 : HI} {J1 : HJ} (h : f_X11_run a0 I J = some (r, I1, J1)) : CM l yX11_run cX11_run 5 (some .int) (rmk 4 88) g ad nO oR [.ref (ad 98), .int a0] I J (QAi g ad nO oR r I1 J1) :=
  CM_of (by decide +kernel) (Nat.le_of_ble_eq_true rfl) (fun p e s m args below meth c C hr => w_X11_run C hr h)
set_option maxHeartbeats 4000000 in
set_option maxRecDepth 100000 in
theorem wB_X11_tap_26 {l : Launch} {g : GG} {ad : Nat → Nat} {p : Program} {e : Env} {s : State} {m : MethodId} {args : Array Value} {below : List Frame} {meth : Method} {c : Code} {a0 : Int32} {z : Int32} (C : Cx p s m args meth c RX11 cX11_tap 2 g (AW ad nO)) (hr : meth.sig.returnType = (some .int)) {I : HI} {J : HJ}  (h : fB_X11_tap_26 a0 I J = some z) : V p l e (rmk 1 25) s m args below meth c (MQ below (QAi g ad nO oR z I J) args s 0 0 (AW ad nO)) 2 0 0 g (AW ad nO) ad nO oR I J 26 [(0, .ref (ad 98)), (1, .int a0)] [] := by
  unfold fB_X11_tap_26 at h
  refine r_aload_n C 0 rfl rfl dX11_tap_26 ?_
  refine gf_X11_7 C rf0 o_98 (q := 99) rfl dX11_tap_27 ?_
  refine r_iload_n C 1 rfl rfl dX11_tap_30 ?_
  refine r_iald C o_99 h dX11_tap_31 (fun h => ?_)
  refine r_sipush C (v := 10000) (by decide) dX11_tap_32 ?_
  refine r_iadd C dX11_tap_35 ?_
  refine r_goto C (tgt := 45) dX11_tap_36 (by decide) ?_
  have hz9 := Option.some.inj h
  subst hz9
  exact r_iret C hr dX11_tap_45
set_option maxHeartbeats 4000000 in
set_option maxRecDepth 100000 in
theorem w_X11_tap {l : Launch} {g : GG} {ad : Nat → Nat} {p : Program} {e : Env} {s : State} {m : MethodId} {args : Array Value} {below : List Frame} {meth : Method} {c : Code} {a0 : Int32} {z : Int32} (C : Cx p s m args meth c RX11 cX11_tap 2 g (AW ad nO)) (hr : meth.sig.returnType = (some .int)) {I : HI} {J : HJ} (h : f_X11_tap a0 I J = some z) : V p l e (rmk 1 25) s m args below meth c (MQ below (QAi g ad nO oR z I J) args s 0 0 (AW ad nO)) 2 0 0 g (AW ad nO) ad nO oR I J 0 [(0, .ref (ad 98)), (1, .int a0)] [] := by
  unfold f_X11_tap at h
  refine r_iload_n C 1 rfl rfl dX11_tap_0 ?_
  refine r_i2l C dX11_tap_1 ?_
  refine r_lconst C (v := 0) (by decide) dX11_tap_2 ?_
  refine r_ldc2 C (v := 7) lk_X11_133 dX11_tap_3 ?_
  obtain ⟨r3, hq4, h⟩ := bd1_ h
  refine r_csi C (rest := []) (c_X11_in  hq4) fm_X11_in lk_X11_114 rfl ⟨rfl, rfl, Nat.le_of_ble_eq_true rfl, Nat.le_of_ble_eq_true rfl⟩ (Nat.le_of_ble_eq_true rfl) rfl dX11_tap_6 ?_
  refine r_if_ne C (tgt := 16) h dX11_tap_9 (by decide) (fun h => ?_) (fun h => ?_)
  · refine r_iload_n C 1 rfl rfl dX11_tap_16 ?_
    refine r_iconst C (v := 1) (by decide) dX11_tap_17 ?_
    refine r_icmp_eq C (tgt := 26) h dX11_tap_18 (by decide) (fun h => ?_) (fun h => ?_)
    · exact wB_X11_tap_26 C hr  h
    · refine r_iload_n C 1 rfl rfl dX11_tap_21 ?_
      refine r_iconst C (v := 2) (by decide) dX11_tap_22 ?_
      refine r_icmp_ne C (tgt := 39) h dX11_tap_23 (by decide) (fun h => ?_) (fun h => ?_)
      · refine r_aload_n C 0 rfl rfl dX11_tap_39 ?_
        refine gf_X11_7 C rf0 o_98 (q := 99) rfl dX11_tap_40 ?_
        refine r_iload_n C 1 rfl rfl dX11_tap_43 ?_
        refine r_iald C o_99 h dX11_tap_44 (fun h => ?_)
        have hz9 := Option.some.inj h
        subst hz9
        exact r_iret C hr dX11_tap_45
      · exact wB_X11_tap_26 C hr  h
  · refine r_iconst C (v := -1) (by decide) dX11_tap_12 ?_
    refine r_goto C (tgt := 45) dX11_tap_13 (by decide) ?_
    have hz9 := Option.some.inj h
    subst hz9
    exact r_iret C hr dX11_tap_45
set_option maxHeartbeats 4000000 in
set_option maxRecDepth 100000 in
theorem c_X11_tap {l : Launch} {g : GG} {ad : Nat → Nat} {a0 : Int32} {I : HI} {J : HJ} {r : Int32} (h : f_X11_tap a0 I J = some r) : CM l yX11_tap cX11_tap 2 (some .int) (rmk 1 25) g ad nO oR [.ref (ad 98), .int a0] I J (QAi g ad nO oR r I J) :=
  CM_of (by decide +kernel) (Nat.le_of_ble_eq_true rfl) (fun p e s m args below meth c C hr => w_X11_tap C hr h)
set_option maxHeartbeats 4000000 in
set_option maxRecDepth 100000 in
theorem w_X11_water {l : Launch} {g : GG} {ad : Nat → Nat} {p : Program} {e : Env} {s : State} {m : MethodId} {args : Array Value} {below : List Frame} {meth : Method} {c : Code} {z : Int64} (C : Cx p s m args meth c RX11 cX11_water 1 g (AW ad nO)) (hr : meth.sig.returnType = (some .long)) {I : HI} {J : HJ} (h : f_X11_water I J = some z) : V p l e (rmk 0 0) s m args below meth c (MQ below (QAl g ad nO oR z I J) args s 0 0 (AW ad nO)) 1 0 0 g (AW ad nO) ad nO oR I J 0 [(0, .ref (ad 98))] [] := by
  unfold f_X11_water at h
  refine r_aload_n C 0 rfl rfl dX11_water_0 ?_
  refine gf_X11_16 C rf0 o_98 (q := 101) rfl dX11_water_1 ?_
  refine r_iconst C (v := 0) (by decide) dX11_water_4 ?_
  refine r_lald C o_101 h dX11_water_5 (fun h => ?_)
  refine r_aload_n C 0 rfl rfl dX11_water_6 ?_
  refine gf_X11_16 C rf0 o_98 (q := 101) rfl dX11_water_7 ?_
  refine r_iconst C (v := 1) (by decide) dX11_water_10 ?_
  refine r_lald C o_101 h dX11_water_11 (fun h => ?_)
  refine r_lsub C dX11_water_12 ?_
  refine r_aload_n C 0 rfl rfl dX11_water_13 ?_
  refine gf_X11_7 C rf0 o_98 (q := 99) rfl dX11_water_14 ?_
  refine r_iconst C (v := 0) (by decide) dX11_water_17 ?_
  refine r_iald C o_99 h dX11_water_18 (fun h => ?_)
  refine r_i2l C dX11_water_19 ?_
  refine r_lsub C dX11_water_20 ?_
  refine r_aload_n C 0 rfl rfl dX11_water_21 ?_
  refine gf_X11_16 C rf0 o_98 (q := 101) rfl dX11_water_22 ?_
  refine r_iconst C (v := 2) (by decide) dX11_water_25 ?_
  refine r_pc (pc1 := 26) rfl ?_
  refine r_lald C o_101 h dX11_water_26 (fun h => ?_)
  refine r_ladd C dX11_water_27 ?_
  have hz9 := Option.some.inj h
  subst hz9
  exact r_lret C hr dX11_water_28
set_option maxHeartbeats 4000000 in
set_option maxRecDepth 100000 in
theorem c_X11_water {l : Launch} {g : GG} {ad : Nat → Nat} {I : HI} {J : HJ} {r : Int64} (h : f_X11_water I J = some r) : CM l yX11_water cX11_water 1 (some .long) (rmk 0 0) g ad nO oR [.ref (ad 98)] I J (QAl g ad nO oR r I J) :=
  CM_of (by decide +kernel) (Nat.le_of_ble_eq_true rfl) (fun p e s m args below meth c C hr => w_X11_water C hr h)
set_option maxHeartbeats 4000000 in
set_option maxRecDepth 100000 in
theorem wLB_X11_feed_32 {l : Launch} {g : GG} {ad : Nat → Nat} {p : Program} {e : Env} {s : State} {m : MethodId} {args : Array Value} {below : List Frame} {meth : Method} {c : Code} {a0 : Int64} {a1 : Int32} {z : Int32 × HI} (C : Cx p s m args meth c RX11 cX11_feed 5 g (AW ad nO)) (hr : meth.sig.returnType = (some .int)) {J : HJ}  {r_32 : Int32 → HI → HJ → Option (Int32 × HI)} (hr_32 : ∀ {x4 : Int32} {I : HI}, r_32 x4 I J = some z → V p l e (rmk 1 25) s m args below meth c (MQ below (QAi g ad nO oR z.1 z.2 J) args s 0 0 (AW ad nO)) 5 0 0 g (AW ad nO) ad nO oR I J 32 [(0, .ref (ad 98)), (1, .long a0), (3, .int a1), (4, .int x4)] []) {x4 : Int32} {I : HI} (h : fLB_X11_feed_32 a0 a1 r_32 x4 I J = some z) : V p l e (rmk 1 25) s m args below meth c (MQ below (QAi g ad nO oR z.1 z.2 J) args s 0 0 (AW ad nO)) 5 0 0 g (AW ad nO) ad nO oR I J 32 [(0, .ref (ad 98)), (1, .long a0), (3, .int a1), (4, .int x4)] [] := by
  unfold fLB_X11_feed_32 at h
  refine r_iload C 3 rfl dX11_feed_32 ?_
  refine r_iload_n C 2 rfl rfl dX11_feed_34 ?_
  refine r_icmp_ge C (tgt := 75) h dX11_feed_35 (by decide) (fun h => ?_) (fun h => ?_)
  · refine r_aload_n C 0 rfl rfl dX11_feed_75 ?_
    refine gf_X11_137 C o_98 dX11_feed_76 ?_
    have hz9 := Option.some.inj h
    subst hz9
    exact r_iret C hr dX11_feed_79
  · refine r_aload_n C 0 rfl rfl dX11_feed_38 ?_
    refine gf_X11_44 C rf0 o_98 (q := 110) rfl dX11_feed_39 ?_
    refine r_aload_n C 0 rfl rfl dX11_feed_42 ?_
    refine gf_X11_137 C o_98 dX11_feed_43 ?_
    refine r_lload_n C 1 rfl rfl dX11_feed_46 ?_
    refine r_pc (pc1 := 47) rfl ?_
    refine r_bipush C (v := 8) (by decide) dX11_feed_47 ?_
    refine r_iload C 3 rfl dX11_feed_49 ?_
    refine r_imul C dX11_feed_51 ?_
    refine r_lshr C dX11_feed_52 ?_
    refine r_ldc2 C (v := 255) lk_X11_140 dX11_feed_53 ?_
    refine r_land C dX11_feed_56 ?_
    refine r_pc (pc1 := 57) rfl ?_
    refine r_l2i C dX11_feed_57 ?_
    refine r_iast C o_110 h dX11_feed_58 (fun h => ?_)
    refine r_nmI h (fun I6 h => ?_)
    refine r_aload_n C 0 rfl rfl dX11_feed_59 ?_
    refine r_dup C rfl dX11_feed_60 ?_
    refine gf_X11_137 C o_98 dX11_feed_61 ?_
    refine r_iconst C (v := 1) (by decide) dX11_feed_64 ?_
    refine r_iadd C dX11_feed_65 ?_
    refine r_pc (pc1 := 66) rfl ?_
    refine pf_X11_137 C o_98 dX11_feed_66 ?_
    refine r_nmI h (fun I7 h => ?_)
    refine r_iincN C h (k := 3) (zz := 1) rfl rfl (by decide) (lv1 := fun v8 => [(4, .int v8), (0, .ref (ad 98)), (1, .long a0), (3, .int a1)]) (fun _ => rfl) dX11_feed_69 (fun v8 h => ?_)
    refine r_goto C (tgt := 32) dX11_feed_72 (by decide) ?_
    exact r_sub [1, 2, 3, 0] rfl (hr_32  h)
set_option maxHeartbeats 4000000 in
set_option maxRecDepth 100000 in
theorem wL_X11_feed_32 {l : Launch} {g : GG} {ad : Nat → Nat} {p : Program} {e : Env} {s : State} {m : MethodId} {args : Array Value} {below : List Frame} {meth : Method} {c : Code} {a0 : Int64} {a1 : Int32} {z : Int32 × HI} (C : Cx p s m args meth c RX11 cX11_feed 5 g (AW ad nO)) (hr : meth.sig.returnType = (some .int)) {J : HJ}  : ∀ (f : Nat) {x4 : Int32} {I : HI}, fL_X11_feed_32 a0 a1 f x4 I J = some z → V p l e (rmk 1 25) s m args below meth c (MQ below (QAi g ad nO oR z.1 z.2 J) args s 0 0 (AW ad nO)) 5 0 0 g (AW ad nO) ad nO oR I J 32 [(0, .ref (ad 98)), (1, .long a0), (3, .int a1), (4, .int x4)] [] := by
  intro f
  induction f with
  | zero =>
    intro _ _  h
    have h0 : (none : Option (Int32 × HI)) = some z := h
    cases h0
  | succ f ih =>
    intro _ _  h
    exact wLB_X11_feed_32 C hr ih  h
set_option maxHeartbeats 4000000 in
set_option maxRecDepth 100000 in
theorem w_X11_feed {l : Launch} {g : GG} {ad : Nat → Nat} {p : Program} {e : Env} {s : State} {m : MethodId} {args : Array Value} {below : List Frame} {meth : Method} {c : Code} {a0 : Int64} {a1 : Int32} {z : Int32 × HI} (C : Cx p s m args meth c RX11 cX11_feed 5 g (AW ad nO)) (hr : meth.sig.returnType = (some .int)) {I : HI} {J : HJ} (h : f_X11_feed a0 a1 I J = some z) : V p l e (rmk 1 25) s m args below meth c (MQ below (QAi g ad nO oR z.1 z.2 J) args s 0 0 (AW ad nO)) 5 0 0 g (AW ad nO) ad nO oR I J 0 [(0, .ref (ad 98)), (1, .long a0), (3, .int a1)] [] := by
  unfold f_X11_feed at h
  refine r_iload_n C 2 rfl rfl dX11_feed_0 ?_
  refine r_i2l C dX11_feed_1 ?_
  refine r_lconst C (v := 1) (by decide) dX11_feed_2 ?_
  refine r_ldc2 C (v := 8) lk_X11_135 dX11_feed_3 ?_
  obtain ⟨r9, hq10, h⟩ := bd1_ h
  refine r_csi C (rest := []) (c_X11_in  hq10) fm_X11_in lk_X11_114 rfl ⟨rfl, rfl, Nat.le_of_ble_eq_true rfl, Nat.le_of_ble_eq_true rfl⟩ (Nat.le_of_ble_eq_true rfl) rfl dX11_feed_6 ?_
  refine r_if_ne C (tgt := 14) h dX11_feed_9 (by decide) (fun h => ?_) (fun h => ?_)
  · refine r_aload_n C 0 rfl rfl dX11_feed_14 ?_
    refine gf_X11_137 C o_98 dX11_feed_15 ?_
    refine r_iload_n C 2 rfl rfl dX11_feed_18 ?_
    refine r_iadd C dX11_feed_19 ?_
    refine r_sipush C (v := 200) (by decide) dX11_feed_20 ?_
    refine r_pc (pc1 := 23) rfl ?_
    refine r_icmp_le C (tgt := 29) h dX11_feed_23 (by decide) (fun h => ?_) (fun h => ?_)
    · refine r_iconst C (v := 0) (by decide) dX11_feed_29 ?_
      refine r_istore C (lv1 := [(4, .int (0 : Int32)), (0, .ref (ad 98)), (1, .long a0), (3, .int a1)]) (by decide) rfl dX11_feed_30 ?_
      exact r_sub [1, 2, 3, 0] rfl (wL_X11_feed_32 C hr _  h)
    · refine r_bipush C (v := -2) (by decide) dX11_feed_26 ?_
      have hz9 := Option.some.inj h
      subst hz9
      exact r_iret C hr dX11_feed_28
  · refine r_iconst C (v := -1) (by decide) dX11_feed_12 ?_
    have hz9 := Option.some.inj h
    subst hz9
    exact r_iret C hr dX11_feed_13
set_option maxHeartbeats 4000000 in
set_option maxRecDepth 100000 in
theorem c_X11_feed {l : Launch} {g : GG} {ad : Nat → Nat} {a0 : Int64} {a1 : Int32} {I : HI} {J : HJ} {r : Int32} {I1 : HI} (h : f_X11_feed a0 a1 I J = some (r, I1)) : CM l yX11_feed cX11_feed 5 (some .int) (rmk 1 25) g ad nO oR [.ref (ad 98), .long a0, .int a1] I J (QAi g ad nO oR r I1 J) :=
  CM_of (by decide +kernel) (Nat.le_of_ble_eq_true rfl) (fun p e s m args below meth c C hr => w_X11_feed C hr h)
set_option maxHeartbeats 4000000 in
set_option maxRecDepth 100000 in
theorem w_X11_byteAt {l : Launch} {g : GG} {ad : Nat → Nat} {p : Program} {e : Env} {s : State} {m : MethodId} {args : Array Value} {below : List Frame} {meth : Method} {c : Code} {a0 : Int32} {z : Int32} (C : Cx p s m args meth c RX11 cX11_byteAt 2 g (AW ad nO)) (hr : meth.sig.returnType = (some .int)) {I : HI} {J : HJ} (h : f_X11_byteAt a0 I J = some z) : V p l e (rmk 0 0) s m args below meth c (MQ below (QAi g ad nO oR z I J) args s 0 0 (AW ad nO)) 2 0 0 g (AW ad nO) ad nO oR I J 0 [(0, .ref (ad 98)), (1, .int a0)] [] := by
  unfold f_X11_byteAt at h
  refine r_iload_n C 1 rfl rfl dX11_byteAt_0 ?_
  refine r_aload_n C 0 rfl rfl dX11_byteAt_1 ?_
  refine gf_X11_137 C o_98 dX11_byteAt_2 ?_
  refine r_icmp_ge C (tgt := 17) h dX11_byteAt_5 (by decide) (fun h => ?_) (fun h => ?_)
  · refine r_iconst C (v := -1) (by decide) dX11_byteAt_17 ?_
    have hz9 := Option.some.inj h
    subst hz9
    exact r_iret C hr dX11_byteAt_18
  · refine r_aload_n C 0 rfl rfl dX11_byteAt_8 ?_
    refine gf_X11_44 C rf0 o_98 (q := 110) rfl dX11_byteAt_9 ?_
    refine r_iload_n C 1 rfl rfl dX11_byteAt_12 ?_
    refine r_iald C o_110 h dX11_byteAt_13 (fun h => ?_)
    refine r_goto C (tgt := 18) dX11_byteAt_14 (by decide) ?_
    have hz9 := Option.some.inj h
    subst hz9
    exact r_iret C hr dX11_byteAt_18
set_option maxHeartbeats 4000000 in
set_option maxRecDepth 100000 in
theorem c_X11_byteAt {l : Launch} {g : GG} {ad : Nat → Nat} {a0 : Int32} {I : HI} {J : HJ} {r : Int32} (h : f_X11_byteAt a0 I J = some r) : CM l yX11_byteAt cX11_byteAt 2 (some .int) (rmk 0 0) g ad nO oR [.ref (ad 98), .int a0] I J (QAi g ad nO oR r I J) :=
  CM_of (by decide +kernel) (Nat.le_of_ble_eq_true rfl) (fun p e s m args below meth c C hr => w_X11_byteAt C hr h)
set_option maxHeartbeats 4000000 in
set_option maxRecDepth 100000 in
theorem w_X11_isLetter {l : Launch} {g : GG} {ad : Nat → Nat} {p : Program} {e : Env} {s : State} {m : MethodId} {args : Array Value} {below : List Frame} {meth : Method} {c : Code} {a0 : Int32} {z : Int32} (C : Cx p s m args meth c RX11 cX11_isLetter 1 g (AW ad nO)) (hr : meth.sig.returnType = (some .boolean)) {I : HI} {J : HJ} (h : f_X11_isLetter a0 = some z) : V p l e (rmk 1 25) s m args below meth c (MQ below (QAi g ad nO oR z I J) args s 0 0 (AW ad nO)) 1 0 0 g (AW ad nO) ad nO oR I J 0 [(0, .int a0)] [] := by
  unfold f_X11_isLetter at h
  refine r_iload_n C 0 rfl rfl dX11_isLetter_0 ?_
  refine r_i2l C dX11_isLetter_1 ?_
  refine r_ldc2 C (v := 97) lk_X11_142 dX11_isLetter_2 ?_
  refine r_ldc2 C (v := 122) lk_X11_144 dX11_isLetter_5 ?_
  obtain ⟨r3, hq4, h⟩ := bd1_ h
  refine r_csi C (rest := []) (c_X11_in  hq4) fm_X11_in lk_X11_114 rfl ⟨rfl, rfl, Nat.le_of_ble_eq_true rfl, Nat.le_of_ble_eq_true rfl⟩ (Nat.le_of_ble_eq_true rfl) rfl dX11_isLetter_8 ?_
  obtain ⟨hz, h⟩ := ck h
  have hz9 := Option.some.inj h
  subst hz9
  exact r_zret C (zb_nar hz) hr dX11_isLetter_11
set_option maxHeartbeats 4000000 in
set_option maxRecDepth 100000 in
theorem c_X11_isLetter {l : Launch} {g : GG} {ad : Nat → Nat} {a0 : Int32} {I : HI} {J : HJ} {r : Int32} (h : f_X11_isLetter a0 = some r) : CM l yX11_isLetter cX11_isLetter 1 (some .boolean) (rmk 1 25) g ad nO oR [.int a0] I J (QAi g ad nO oR r I J) :=
  CM_of (by decide +kernel) (Nat.le_of_ble_eq_true rfl) (fun p e s m args below meth c C hr => w_X11_isLetter C hr h)
set_option maxHeartbeats 4000000 in
set_option maxRecDepth 100000 in
theorem w_X11_isDigit {l : Launch} {g : GG} {ad : Nat → Nat} {p : Program} {e : Env} {s : State} {m : MethodId} {args : Array Value} {below : List Frame} {meth : Method} {c : Code} {a0 : Int32} {z : Int32} (C : Cx p s m args meth c RX11 cX11_isDigit 1 g (AW ad nO)) (hr : meth.sig.returnType = (some .boolean)) {I : HI} {J : HJ} (h : f_X11_isDigit a0 = some z) : V p l e (rmk 1 25) s m args below meth c (MQ below (QAi g ad nO oR z I J) args s 0 0 (AW ad nO)) 1 0 0 g (AW ad nO) ad nO oR I J 0 [(0, .int a0)] [] := by
  unfold f_X11_isDigit at h
  refine r_iload_n C 0 rfl rfl dX11_isDigit_0 ?_
  refine r_i2l C dX11_isDigit_1 ?_
  refine r_ldc2 C (v := 48) lk_X11_146 dX11_isDigit_2 ?_
  refine r_ldc2 C (v := 57) lk_X11_148 dX11_isDigit_5 ?_
  obtain ⟨r3, hq4, h⟩ := bd1_ h
  refine r_csi C (rest := []) (c_X11_in  hq4) fm_X11_in lk_X11_114 rfl ⟨rfl, rfl, Nat.le_of_ble_eq_true rfl, Nat.le_of_ble_eq_true rfl⟩ (Nat.le_of_ble_eq_true rfl) rfl dX11_isDigit_8 ?_
  obtain ⟨hz, h⟩ := ck h
  have hz9 := Option.some.inj h
  subst hz9
  exact r_zret C (zb_nar hz) hr dX11_isDigit_11
set_option maxHeartbeats 4000000 in
set_option maxRecDepth 100000 in
theorem c_X11_isDigit {l : Launch} {g : GG} {ad : Nat → Nat} {a0 : Int32} {I : HI} {J : HJ} {r : Int32} (h : f_X11_isDigit a0 = some r) : CM l yX11_isDigit cX11_isDigit 1 (some .boolean) (rmk 1 25) g ad nO oR [.int a0] I J (QAi g ad nO oR r I J) :=
  CM_of (by decide +kernel) (Nat.le_of_ble_eq_true rfl) (fun p e s m args below meth c C hr => w_X11_isDigit C hr h)
set_option maxHeartbeats 4000000 in
set_option maxRecDepth 100000 in
theorem wB_X11_next_122 {l : Launch} {g : GG} {ad : Nat → Nat} {p : Program} {e : Env} {s : State} {m : MethodId} {args : Array Value} {below : List Frame} {meth : Method} {c : Code} {z : HI} (C : Cx p s m args meth c RX11 cX11_next 3 g (AW ad nO)) (hr : meth.sig.returnType = none) {r_86 : Int32 → Int32 → HI → HJ → Option (HI)} {J : HJ} (hr_86 : ∀ {x1 : Int32} {x2 : Int32} {I : HI}, r_86 x1 x2 I J = some z → V p l e (rmk 2 45) s m args below meth c (MQ below (QAv g ad nO oR z J) args s 0 0 (AW ad nO)) 3 0 0 g (AW ad nO) ad nO oR I J 86 [(0, .ref (ad 98)), (1, .int x1), (2, .int x2)] []) {x1 : Int32} {x2 : Int32} {I : HI} (h : fB_X11_next_122 r_86 x1 x2 I J = some z) : V p l e (rmk 2 45) s m args below meth c (MQ below (QAv g ad nO oR z J) args s 0 0 (AW ad nO)) 3 0 0 g (AW ad nO) ad nO oR I J 122 [(0, .ref (ad 98)), (1, .int x1), (2, .int x2)] [] := by
  unfold fB_X11_next_122 at h
  refine r_aload_n C 0 rfl rfl dX11_next_122 ?_
  refine r_dup C rfl dX11_next_123 ?_
  refine gf_X11_150 C o_98 dX11_next_124 ?_
  refine r_iconst C (v := 1) (by decide) dX11_next_127 ?_
  refine r_iadd C dX11_next_128 ?_
  refine r_pc (pc1 := 129) rfl ?_
  refine pf_X11_150 C o_98 dX11_next_129 ?_
  refine r_nmI h (fun I23 h => ?_)
  refine r_goto C (tgt := 86) dX11_next_132 (by decide) ?_
  exact hr_86  h
set_option maxHeartbeats 4000000 in
set_option maxRecDepth 100000 in
theorem wB_X11_next_104 {l : Launch} {g : GG} {ad : Nat → Nat} {p : Program} {e : Env} {s : State} {m : MethodId} {args : Array Value} {below : List Frame} {meth : Method} {c : Code} {z : HI} (C : Cx p s m args meth c RX11 cX11_next 3 g (AW ad nO)) (hr : meth.sig.returnType = none) {r_86 : Int32 → Int32 → HI → HJ → Option (HI)} {J : HJ} (hr_86 : ∀ {x1 : Int32} {x2 : Int32} {I : HI}, r_86 x1 x2 I J = some z → V p l e (rmk 2 45) s m args below meth c (MQ below (QAv g ad nO oR z J) args s 0 0 (AW ad nO)) 3 0 0 g (AW ad nO) ad nO oR I J 86 [(0, .ref (ad 98)), (1, .int x1), (2, .int x2)] []) {x1 : Int32} {x2 : Int32} {I : HI} (h : fB_X11_next_104 r_86 x1 x2 I J = some z) : V p l e (rmk 2 45) s m args below meth c (MQ below (QAv g ad nO oR z J) args s 0 0 (AW ad nO)) 3 0 0 g (AW ad nO) ad nO oR I J 104 [(0, .ref (ad 98)), (1, .int x1), (2, .int x2)] [] := by
  unfold fB_X11_next_104 at h
  refine r_iload_n C 2 rfl rfl dX11_next_104 ?_
  refine r_if_eq C (tgt := 135) h dX11_next_105 (by decide) (fun h => ?_) (fun h => ?_)
  · have hz9 := Option.some.inj h
    subst hz9
    exact r_vret C hr dX11_next_135
  · refine r_aload_n C 0 rfl rfl dX11_next_108 ?_
    refine r_aload_n C 0 rfl rfl dX11_next_109 ?_
    refine gf_X11_150 C o_98 dX11_next_110 ?_
    obtain ⟨r24, hq25, h⟩ := bd1_ h
    refine r_cvi C (rest := []) (c_X11_byteAt  hq25) fm_X11_byteAt lk_X11_156 o_98 ⟨_, ct_10 o_98.1⟩ rfl rfl ⟨rfl, rfl, Nat.le_of_ble_eq_true rfl, Nat.le_of_ble_eq_true rfl⟩ (Nat.le_of_ble_eq_true rfl) rfl dX11_next_113 ?_
    obtain ⟨r26, hq27, h⟩ := bd1_ h
    refine r_csi C (rest := []) (c_X11_isDigit  hq27) fm_X11_isDigit lk_X11_163 rfl ⟨rfl, rfl, Nat.le_of_ble_eq_true rfl, Nat.le_of_ble_eq_true rfl⟩ (Nat.le_of_ble_eq_true rfl) rfl dX11_next_116 ?_
    refine r_if_eq C (tgt := 135) h dX11_next_119 (by decide) (fun h => ?_) (fun h => ?_)
    · have hz9 := Option.some.inj h
      subst hz9
      exact r_vret C hr dX11_next_135
    · exact wB_X11_next_122 C hr hr_86  h
set_option maxHeartbeats 4000000 in
set_option maxRecDepth 100000 in
theorem wLB_X11_next_86 {l : Launch} {g : GG} {ad : Nat → Nat} {p : Program} {e : Env} {s : State} {m : MethodId} {args : Array Value} {below : List Frame} {meth : Method} {c : Code} {z : HI} (C : Cx p s m args meth c RX11 cX11_next 3 g (AW ad nO)) (hr : meth.sig.returnType = none) {J : HJ}  {r_86 : Int32 → Int32 → HI → HJ → Option (HI)} (hr_86 : ∀ {x1 : Int32} {x2 : Int32} {I : HI}, r_86 x1 x2 I J = some z → V p l e (rmk 2 45) s m args below meth c (MQ below (QAv g ad nO oR z J) args s 0 0 (AW ad nO)) 3 0 0 g (AW ad nO) ad nO oR I J 86 [(0, .ref (ad 98)), (1, .int x1), (2, .int x2)] []) {x1 : Int32} {x2 : Int32} {I : HI} (h : fLB_X11_next_86 r_86 x1 x2 I J = some z) : V p l e (rmk 2 45) s m args below meth c (MQ below (QAv g ad nO oR z J) args s 0 0 (AW ad nO)) 3 0 0 g (AW ad nO) ad nO oR I J 86 [(0, .ref (ad 98)), (1, .int x1), (2, .int x2)] [] := by
  unfold fLB_X11_next_86 at h
  refine r_iload_n C 1 rfl rfl dX11_next_86 ?_
  refine r_if_eq C (tgt := 104) h dX11_next_87 (by decide) (fun h => ?_) (fun h => ?_)
  · exact wB_X11_next_104 C hr hr_86  h
  · refine r_aload_n C 0 rfl rfl dX11_next_90 ?_
    refine r_aload_n C 0 rfl rfl dX11_next_91 ?_
    refine gf_X11_150 C o_98 dX11_next_92 ?_
    obtain ⟨r28, hq29, h⟩ := bd1_ h
    refine r_cvi C (rest := []) (c_X11_byteAt  hq29) fm_X11_byteAt lk_X11_156 o_98 ⟨_, ct_10 o_98.1⟩ rfl rfl ⟨rfl, rfl, Nat.le_of_ble_eq_true rfl, Nat.le_of_ble_eq_true rfl⟩ (Nat.le_of_ble_eq_true rfl) rfl dX11_next_95 ?_
    obtain ⟨r30, hq31, h⟩ := bd1_ h
    refine r_csi C (rest := []) (c_X11_isLetter  hq31) fm_X11_isLetter lk_X11_159 rfl ⟨rfl, rfl, Nat.le_of_ble_eq_true rfl, Nat.le_of_ble_eq_true rfl⟩ (Nat.le_of_ble_eq_true rfl) rfl dX11_next_98 ?_
    refine r_if_ne C (tgt := 122) h dX11_next_101 (by decide) (fun h => ?_) (fun h => ?_)
    · exact wB_X11_next_122 C hr hr_86  h
    · exact wB_X11_next_104 C hr hr_86  h
set_option maxHeartbeats 4000000 in
set_option maxRecDepth 100000 in
theorem wL_X11_next_86 {l : Launch} {g : GG} {ad : Nat → Nat} {p : Program} {e : Env} {s : State} {m : MethodId} {args : Array Value} {below : List Frame} {meth : Method} {c : Code} {z : HI} (C : Cx p s m args meth c RX11 cX11_next 3 g (AW ad nO)) (hr : meth.sig.returnType = none) {J : HJ}  : ∀ (f : Nat) {x1 : Int32} {x2 : Int32} {I : HI}, fL_X11_next_86 f x1 x2 I J = some z → V p l e (rmk 2 45) s m args below meth c (MQ below (QAv g ad nO oR z J) args s 0 0 (AW ad nO)) 3 0 0 g (AW ad nO) ad nO oR I J 86 [(0, .ref (ad 98)), (1, .int x1), (2, .int x2)] [] := by
  intro f
  induction f with
  | zero =>
    intro _ _ _  h
    have h0 : (none : Option (HI)) = some z := h
    cases h0
  | succ f ih =>
    intro _ _ _  h
    exact wLB_X11_next_86 C hr ih  h
set_option maxHeartbeats 4000000 in
set_option maxRecDepth 100000 in
theorem wB_X11_next_83 {l : Launch} {g : GG} {ad : Nat → Nat} {p : Program} {e : Env} {s : State} {m : MethodId} {args : Array Value} {below : List Frame} {meth : Method} {c : Code} {z : HI} (C : Cx p s m args meth c RX11 cX11_next 3 g (AW ad nO)) (hr : meth.sig.returnType = none) {J : HJ}  {x1 : Int32} {x2 : Int32} {s0 : Int32} {I : HI} (h : fB_X11_next_83 x1 x2 s0 I J = some z) : V p l e (rmk 2 45) s m args below meth c (MQ below (QAv g ad nO oR z J) args s 0 0 (AW ad nO)) 3 0 0 g (AW ad nO) ad nO oR I J 83 [(0, .ref (ad 98)), (1, .int x1), (2, .int x2)] [.int s0, .ref (ad 98)] := by
  unfold fB_X11_next_83 at h
  refine pf_X11_150 C o_98 dX11_next_83 ?_
  refine r_nmI h (fun I32 h => ?_)
  exact wL_X11_next_86 C hr _  h
set_option maxHeartbeats 4000000 in
set_option maxRecDepth 100000 in
theorem wLB_X11_next_8 {l : Launch} {g : GG} {ad : Nat → Nat} {p : Program} {e : Env} {s : State} {m : MethodId} {args : Array Value} {below : List Frame} {meth : Method} {c : Code} {z : HI} (C : Cx p s m args meth c RX11 cX11_next 3 g (AW ad nO)) (hr : meth.sig.returnType = none) {J : HJ}  {r_8 : HI → HJ → Option (HI)} (hr_8 : ∀ {I : HI}, r_8 I J = some z → V p l e (rmk 2 45) s m args below meth c (MQ below (QAv g ad nO oR z J) args s 0 0 (AW ad nO)) 3 0 0 g (AW ad nO) ad nO oR I J 8 [(0, .ref (ad 98))] []) {I : HI} (h : fLB_X11_next_8 r_8 I J = some z) : V p l e (rmk 2 45) s m args below meth c (MQ below (QAv g ad nO oR z J) args s 0 0 (AW ad nO)) 3 0 0 g (AW ad nO) ad nO oR I J 8 [(0, .ref (ad 98))] [] := by
  unfold fLB_X11_next_8 at h
  refine r_aload_n C 0 rfl rfl dX11_next_8 ?_
  refine r_aload_n C 0 rfl rfl dX11_next_9 ?_
  refine gf_X11_153 C o_98 dX11_next_10 ?_
  obtain ⟨r33, hq34, h⟩ := bd1_ h
  refine r_cvi C (rest := []) (c_X11_byteAt  hq34) fm_X11_byteAt lk_X11_156 o_98 ⟨_, ct_10 o_98.1⟩ rfl rfl ⟨rfl, rfl, Nat.le_of_ble_eq_true rfl, Nat.le_of_ble_eq_true rfl⟩ (Nat.le_of_ble_eq_true rfl) rfl dX11_next_13 ?_
  refine r_bipush C (v := 32) (by decide) dX11_next_16 ?_
  refine r_icmp_ne C (tgt := 34) h dX11_next_18 (by decide) (fun h => ?_) (fun h => ?_)
  · refine r_aload_n C 0 rfl rfl dX11_next_34 ?_
    refine r_aload_n C 0 rfl rfl dX11_next_35 ?_
    refine gf_X11_153 C o_98 dX11_next_36 ?_
    obtain ⟨r35, hq36, h⟩ := bd1_ h
    refine r_cvi C (rest := []) (c_X11_byteAt  hq36) fm_X11_byteAt lk_X11_156 o_98 ⟨_, ct_10 o_98.1⟩ rfl rfl ⟨rfl, rfl, Nat.le_of_ble_eq_true rfl, Nat.le_of_ble_eq_true rfl⟩ (Nat.le_of_ble_eq_true rfl) rfl dX11_next_39 ?_
    obtain ⟨r37, hq38, h⟩ := bd1_ h
    refine r_csi C (rest := []) (c_X11_isLetter  hq38) fm_X11_isLetter lk_X11_159 rfl ⟨rfl, rfl, Nat.le_of_ble_eq_true rfl, Nat.le_of_ble_eq_true rfl⟩ (Nat.le_of_ble_eq_true rfl) rfl dX11_next_42 ?_
    refine r_istore_n C (lv1 := [(1, .int r37), (0, .ref (ad 98))]) rfl (by decide) rfl dX11_next_45 ?_
    refine r_aload_n C 1 rfl rfl dX11_next_46 ?_
    refine r_aload_n C 1 rfl rfl dX11_next_47 ?_
    refine gf_X11_153 C o_98 dX11_next_48 ?_
    obtain ⟨r39, hq40, h⟩ := bd1_ h
    refine r_cvi C (rest := []) (c_X11_byteAt  hq40) fm_X11_byteAt lk_X11_156 o_98 ⟨_, ct_10 o_98.1⟩ rfl rfl ⟨rfl, rfl, Nat.le_of_ble_eq_true rfl, Nat.le_of_ble_eq_true rfl⟩ (Nat.le_of_ble_eq_true rfl) rfl dX11_next_51 ?_
    obtain ⟨r41, hq42, h⟩ := bd1_ h
    refine r_csi C (rest := []) (c_X11_isDigit  hq42) fm_X11_isDigit lk_X11_163 rfl ⟨rfl, rfl, Nat.le_of_ble_eq_true rfl, Nat.le_of_ble_eq_true rfl⟩ (Nat.le_of_ble_eq_true rfl) rfl dX11_next_54 ?_
    refine r_istore_n C (lv1 := [(2, .int r41), (1, .int r37), (0, .ref (ad 98))]) rfl (by decide) rfl dX11_next_57 ?_
    refine r_aload_n C 2 rfl rfl dX11_next_58 ?_
    refine r_aload_n C 2 rfl rfl dX11_next_59 ?_
    refine gf_X11_153 C o_98 dX11_next_60 ?_
    refine r_aload_n C 2 rfl rfl dX11_next_63 ?_
    refine gf_X11_137 C o_98 dX11_next_64 ?_
    refine r_pc (pc1 := 67) rfl ?_
    refine r_icmp_ge C (tgt := 79) h dX11_next_67 (by decide) (fun h => ?_) (fun h => ?_)
    · refine r_aload_n C 2 rfl rfl dX11_next_79 ?_
      refine gf_X11_153 C o_98 dX11_next_80 ?_
      exact r_sub [2, 1, 0] rfl (wB_X11_next_83 C hr  h)
    · refine r_aload_n C 2 rfl rfl dX11_next_70 ?_
      refine gf_X11_153 C o_98 dX11_next_71 ?_
      refine r_iconst C (v := 1) (by decide) dX11_next_74 ?_
      refine r_iadd C dX11_next_75 ?_
      refine r_goto C (tgt := 83) dX11_next_76 (by decide) ?_
      exact r_sub [2, 1, 0] rfl (wB_X11_next_83 C hr  h)
  · refine r_aload_n C 0 rfl rfl dX11_next_21 ?_
    refine r_dup C rfl dX11_next_22 ?_
    refine gf_X11_153 C o_98 dX11_next_23 ?_
    refine r_iconst C (v := 1) (by decide) dX11_next_26 ?_
    refine r_iadd C dX11_next_27 ?_
    refine r_pc (pc1 := 28) rfl ?_
    refine pf_X11_153 C o_98 dX11_next_28 ?_
    refine r_nmI h (fun I43 h => ?_)
    refine r_goto C (tgt := 8) dX11_next_31 (by decide) ?_
    exact hr_8  h
set_option maxHeartbeats 4000000 in
set_option maxRecDepth 100000 in
theorem wL_X11_next_8 {l : Launch} {g : GG} {ad : Nat → Nat} {p : Program} {e : Env} {s : State} {m : MethodId} {args : Array Value} {below : List Frame} {meth : Method} {c : Code} {z : HI} (C : Cx p s m args meth c RX11 cX11_next 3 g (AW ad nO)) (hr : meth.sig.returnType = none) {J : HJ}  : ∀ (f : Nat) {I : HI}, fL_X11_next_8 f I J = some z → V p l e (rmk 2 45) s m args below meth c (MQ below (QAv g ad nO oR z J) args s 0 0 (AW ad nO)) 3 0 0 g (AW ad nO) ad nO oR I J 8 [(0, .ref (ad 98))] [] := by
  intro f
  induction f with
  | zero =>
    intro _  h
    have h0 : (none : Option (HI)) = some z := h
    cases h0
  | succ f ih =>
    intro _  h
    exact wLB_X11_next_8 C hr ih  h
set_option maxHeartbeats 4000000 in
set_option maxRecDepth 100000 in
theorem w_X11_next {l : Launch} {g : GG} {ad : Nat → Nat} {p : Program} {e : Env} {s : State} {m : MethodId} {args : Array Value} {below : List Frame} {meth : Method} {c : Code} {z : HI} (C : Cx p s m args meth c RX11 cX11_next 3 g (AW ad nO)) (hr : meth.sig.returnType = none) {I : HI} {J : HJ} (h : f_X11_next I J = some z) : V p l e (rmk 2 45) s m args below meth c (MQ below (QAv g ad nO oR z J) args s 0 0 (AW ad nO)) 3 0 0 g (AW ad nO) ad nO oR I J 0 [(0, .ref (ad 98))] [] := by
  unfold f_X11_next at h
  refine r_aload_n C 0 rfl rfl dX11_next_0 ?_
  refine r_aload_n C 0 rfl rfl dX11_next_1 ?_
  refine gf_X11_150 C o_98 dX11_next_2 ?_
  refine pf_X11_153 C o_98 dX11_next_5 ?_
  refine r_nmI h (fun I44 h => ?_)
  exact wL_X11_next_8 C hr _  h
set_option maxHeartbeats 4000000 in
set_option maxRecDepth 100000 in
theorem c_X11_next {l : Launch} {g : GG} {ad : Nat → Nat} {I : HI} {J : HJ} {I1 : HI} (h : f_X11_next I J = some I1) : CM l yX11_next cX11_next 3 none (rmk 2 45) g ad nO oR [.ref (ad 98)] I J (QAv g ad nO oR I1 J) :=
  CM_of (by decide +kernel) (Nat.le_of_ble_eq_true rfl) (fun p e s m args below meth c C hr => w_X11_next C hr h)
set_option maxHeartbeats 4000000 in
set_option maxRecDepth 100000 in
theorem wB_X11_needs_17 {l : Launch} {g : GG} {ad : Nat → Nat} {p : Program} {e : Env} {s : State} {m : MethodId} {args : Array Value} {below : List Frame} {meth : Method} {c : Code} {a0 : Int32} {z : HI} (C : Cx p s m args meth c RX11 cX11_needs 2 g (AW ad nO)) (hr : meth.sig.returnType = none) {J : HJ}  {s0 : Int32} {I : HI} (h : fB_X11_needs_17 a0 s0 I J = some z) : V p l e (rmk 3 67) s m args below meth c (MQ below (QAv g ad nO oR z J) args s 0 0 (AW ad nO)) 2 0 0 g (AW ad nO) ad nO oR I J 17 [(0, .ref (ad 98))] [.int s0, .ref (ad 98)] := by
  unfold fB_X11_needs_17 at h
  obtain ⟨hz, h⟩ := ck h
  refine pf_X11_166 C hz o_98 dX11_needs_17 ?_
  refine r_nmI h (fun I4 h => ?_)
  refine r_aload_n C 0 rfl rfl dX11_needs_20 ?_
  refine gf_X11_166 C o_98 dX11_needs_21 ?_
  refine r_if_ne C (tgt := 31) h dX11_needs_24 (by decide) (fun h => ?_) (fun h => ?_)
  · have hz9 := Option.some.inj h
    subst hz9
    exact r_vret C hr dX11_needs_31
  · refine r_aload_n C 0 rfl rfl dX11_needs_27 ?_
    obtain ⟨I5, hq6, h⟩ := bd1_ h
    refine r_cvv C (rest := []) (c_X11_next  hq6) fm_X11_next lk_X11_170 o_98 ⟨_, ct_10 o_98.1⟩ rfl rfl ⟨rfl, rfl, Nat.le_of_ble_eq_true rfl, Nat.le_of_ble_eq_true rfl⟩ (Nat.le_of_ble_eq_true rfl) rfl dX11_needs_28 ?_
    have hz9 := Option.some.inj h
    subst hz9
    exact r_vret C hr dX11_needs_31
set_option maxHeartbeats 4000000 in
set_option maxRecDepth 100000 in
theorem wB_X11_needs_12 {l : Launch} {g : GG} {ad : Nat → Nat} {p : Program} {e : Env} {s : State} {m : MethodId} {args : Array Value} {below : List Frame} {meth : Method} {c : Code} {a0 : Int32} {z : HI} (C : Cx p s m args meth c RX11 cX11_needs 2 g (AW ad nO)) (hr : meth.sig.returnType = none) {J : HJ}  {I : HI} (h : fB_X11_needs_12 a0 I J = some z) : V p l e (rmk 3 67) s m args below meth c (MQ below (QAv g ad nO oR z J) args s 0 0 (AW ad nO)) 2 0 0 g (AW ad nO) ad nO oR I J 12 [(0, .ref (ad 98))] [.ref (ad 98)] := by
  unfold fB_X11_needs_12 at h
  refine r_iconst C (v := 1) (by decide) dX11_needs_12 ?_
  refine r_goto C (tgt := 17) dX11_needs_13 (by decide) ?_
  exact wB_X11_needs_17 C hr  h
set_option maxHeartbeats 4000000 in
set_option maxRecDepth 100000 in
theorem w_X11_needs {l : Launch} {g : GG} {ad : Nat → Nat} {p : Program} {e : Env} {s : State} {m : MethodId} {args : Array Value} {below : List Frame} {meth : Method} {c : Code} {a0 : Int32} {z : HI} (C : Cx p s m args meth c RX11 cX11_needs 2 g (AW ad nO)) (hr : meth.sig.returnType = none) {I : HI} {J : HJ} (h : f_X11_needs a0 I J = some z) : V p l e (rmk 3 67) s m args below meth c (MQ below (QAv g ad nO oR z J) args s 0 0 (AW ad nO)) 2 0 0 g (AW ad nO) ad nO oR I J 0 [(0, .ref (ad 98)), (1, .int a0)] [] := by
  unfold f_X11_needs at h
  refine r_aload_n C 0 rfl rfl dX11_needs_0 ?_
  refine r_aload_n C 0 rfl rfl dX11_needs_1 ?_
  refine gf_X11_166 C o_98 dX11_needs_2 ?_
  refine r_if_ne C (tgt := 12) h dX11_needs_5 (by decide) (fun h => ?_) (fun h => ?_)
  · exact r_sub [0] rfl (wB_X11_needs_12 C hr  h)
  · refine r_iload_n C 1 rfl rfl dX11_needs_8 ?_
    refine r_if_ne C (tgt := 16) h dX11_needs_9 (by decide) (fun h => ?_) (fun h => ?_)
    · refine r_iconst C (v := 0) (by decide) dX11_needs_16 ?_
      exact r_sub [0] rfl (wB_X11_needs_17 C hr  h)
    · exact r_sub [0] rfl (wB_X11_needs_12 C hr  h)
set_option maxHeartbeats 4000000 in
set_option maxRecDepth 100000 in
theorem c_X11_needs {l : Launch} {g : GG} {ad : Nat → Nat} {a0 : Int32} {I : HI} {J : HJ} {I1 : HI} (h : f_X11_needs a0 I J = some I1) : CM l yX11_needs cX11_needs 2 none (rmk 3 67) g ad nO oR [.ref (ad 98), .int a0] I J (QAv g ad nO oR I1 J) :=
  CM_of (by decide +kernel) (Nat.le_of_ble_eq_true rfl) (fun p e s m args below meth c C hr => w_X11_needs C hr h)
set_option maxHeartbeats 4000000 in
set_option maxRecDepth 100000 in
theorem w_X11_emits {l : Launch} {g : GG} {ad : Nat → Nat} {p : Program} {e : Env} {s : State} {m : MethodId} {args : Array Value} {below : List Frame} {meth : Method} {c : Code} {a0 : Int32} {z : HI} (C : Cx p s m args meth c RX11 cX11_emits 2 g (AW ad nO)) (hr : meth.sig.returnType = none) {I : HI} {J : HJ} (h : f_X11_emits a0 I J = some z) : V p l e (rmk 0 0) s m args below meth c (MQ below (QAv g ad nO oR z J) args s 0 0 (AW ad nO)) 2 0 0 g (AW ad nO) ad nO oR I J 0 [(0, .ref (ad 98)), (1, .int a0)] [] := by
  unfold f_X11_emits at h
  refine r_aload_n C 0 rfl rfl dX11_emits_0 ?_
  refine gf_X11_166 C o_98 dX11_emits_1 ?_
  refine r_if_ne C (tgt := 27) h dX11_emits_4 (by decide) (fun h => ?_) (fun h => ?_)
  · have hz9 := Option.some.inj h
    subst hz9
    exact r_vret C hr dX11_emits_27
  · refine r_aload_n C 0 rfl rfl dX11_emits_7 ?_
    refine gf_X11_47 C rf0 o_98 (q := 111) rfl dX11_emits_8 ?_
    refine r_aload_n C 0 rfl rfl dX11_emits_11 ?_
    refine gf_X11_173 C o_98 dX11_emits_12 ?_
    refine r_iload_n C 1 rfl rfl dX11_emits_15 ?_
    refine r_pc (pc1 := 16) rfl ?_
    refine r_iast C o_111 h dX11_emits_16 (fun h => ?_)
    refine r_nmI h (fun I3 h => ?_)
    refine r_aload_n C 0 rfl rfl dX11_emits_17 ?_
    refine r_dup C rfl dX11_emits_18 ?_
    refine gf_X11_173 C o_98 dX11_emits_19 ?_
    refine r_iconst C (v := 1) (by decide) dX11_emits_22 ?_
    refine r_iadd C dX11_emits_23 ?_
    refine r_pc (pc1 := 24) rfl ?_
    refine pf_X11_173 C o_98 dX11_emits_24 ?_
    refine r_nmI h (fun I4 h => ?_)
    have hz9 := Option.some.inj h
    subst hz9
    exact r_vret C hr dX11_emits_27
set_option maxHeartbeats 4000000 in
set_option maxRecDepth 100000 in
theorem c_X11_emits {l : Launch} {g : GG} {ad : Nat → Nat} {a0 : Int32} {I : HI} {J : HJ} {I1 : HI} (h : f_X11_emits a0 I J = some I1) : CM l yX11_emits cX11_emits 2 none (rmk 0 0) g ad nO oR [.ref (ad 98), .int a0] I J (QAv g ad nO oR I1 J) :=
  CM_of (by decide +kernel) (Nat.le_of_ble_eq_true rfl) (fun p e s m args below meth c C hr => w_X11_emits C hr h)
set_option maxHeartbeats 4000000 in
set_option maxRecDepth 100000 in
theorem wB_X11_isAt_18 {l : Launch} {g : GG} {ad : Nat → Nat} {p : Program} {e : Env} {s : State} {m : MethodId} {args : Array Value} {below : List Frame} {meth : Method} {c : Code} {a0 : Int32} {a1 : Int32} {z : Int32} (C : Cx p s m args meth c RX11 cX11_isAt 3 g (AW ad nO)) (hr : meth.sig.returnType = (some .boolean)) {I : HI} {J : HJ}  (h : fB_X11_isAt_18 a0 a1 I J = some z) : V p l e (rmk 1 21) s m args below meth c (MQ below (QAi g ad nO oR z I J) args s 0 0 (AW ad nO)) 3 0 0 g (AW ad nO) ad nO oR I J 18 [] [] := by
  unfold fB_X11_isAt_18 at h
  refine r_iconst C (v := 1) (by decide) dX11_isAt_18 ?_
  refine r_goto C (tgt := 23) dX11_isAt_19 (by decide) ?_
  have hz9 := Option.some.inj h
  subst hz9
  exact r_zret C (v := (1 : Int32)) rfl hr dX11_isAt_23
set_option maxHeartbeats 4000000 in
set_option maxRecDepth 100000 in
theorem w_X11_isAt {l : Launch} {g : GG} {ad : Nat → Nat} {p : Program} {e : Env} {s : State} {m : MethodId} {args : Array Value} {below : List Frame} {meth : Method} {c : Code} {a0 : Int32} {a1 : Int32} {z : Int32} (C : Cx p s m args meth c RX11 cX11_isAt 3 g (AW ad nO)) (hr : meth.sig.returnType = (some .boolean)) {I : HI} {J : HJ} (h : f_X11_isAt a0 a1 I J = some z) : V p l e (rmk 1 21) s m args below meth c (MQ below (QAi g ad nO oR z I J) args s 0 0 (AW ad nO)) 3 0 0 g (AW ad nO) ad nO oR I J 0 [(0, .ref (ad 98)), (1, .int a0), (2, .int a1)] [] := by
  unfold f_X11_isAt at h
  refine r_iload_n C 2 rfl rfl dX11_isAt_0 ?_
  refine r_if_eq C (tgt := 18) h dX11_isAt_1 (by decide) (fun h => ?_) (fun h => ?_)
  · exact r_sub [] rfl (wB_X11_isAt_18 C hr  h)
  · refine r_aload_n C 0 rfl rfl dX11_isAt_4 ?_
    refine r_aload_n C 0 rfl rfl dX11_isAt_5 ?_
    refine gf_X11_153 C o_98 dX11_isAt_6 ?_
    refine r_iload_n C 1 rfl rfl dX11_isAt_9 ?_
    refine r_iadd C dX11_isAt_10 ?_
    refine r_pc (pc1 := 11) rfl ?_
    obtain ⟨r3, hq4, h⟩ := bd1_ h
    refine r_cvi C (rest := []) (c_X11_byteAt  hq4) fm_X11_byteAt lk_X11_156 o_98 ⟨_, ct_10 o_98.1⟩ rfl rfl ⟨rfl, rfl, Nat.le_of_ble_eq_true rfl, Nat.le_of_ble_eq_true rfl⟩ (Nat.le_of_ble_eq_true rfl) rfl dX11_isAt_11 ?_
    refine r_iload_n C 2 rfl rfl dX11_isAt_14 ?_
    refine r_icmp_ne C (tgt := 22) h dX11_isAt_15 (by decide) (fun h => ?_) (fun h => ?_)
    · refine r_iconst C (v := 0) (by decide) dX11_isAt_22 ?_
      have hz9 := Option.some.inj h
      subst hz9
      exact r_zret C (v := (0 : Int32)) rfl hr dX11_isAt_23
    · exact r_sub [] rfl (wB_X11_isAt_18 C hr  h)
set_option maxHeartbeats 4000000 in
set_option maxRecDepth 100000 in
theorem c_X11_isAt {l : Launch} {g : GG} {ad : Nat → Nat} {a0 : Int32} {a1 : Int32} {I : HI} {J : HJ} {r : Int32} (h : f_X11_isAt a0 a1 I J = some r) : CM l yX11_isAt cX11_isAt 3 (some .boolean) (rmk 1 21) g ad nO oR [.ref (ad 98), .int a0, .int a1] I J (QAi g ad nO oR r I J) :=
  CM_of (by decide +kernel) (Nat.le_of_ble_eq_true rfl) (fun p e s m args below meth c C hr => w_X11_isAt C hr h)
set_option maxHeartbeats 4000000 in
set_option maxRecDepth 100000 in
theorem wB_X11_isName_20 {l : Launch} {g : GG} {ad : Nat → Nat} {p : Program} {e : Env} {s : State} {m : MethodId} {args : Array Value} {below : List Frame} {meth : Method} {c : Code} {a0 : Int32} {a1 : Int32} {a2 : Int32} {a3 : Int32} {a4 : Int32} {a5 : Int32} {z : Int32} (C : Cx p s m args meth c RX11 cX11_isName 8 g (AW ad nO)) (hr : meth.sig.returnType = (some .boolean)) {I : HI} {J : HJ}  {s0 : Int32} (h : fB_X11_isName_20 a0 a1 a2 a3 a4 a5 s0 I J = some z) : V p l e (rmk 2 43) s m args below meth c (MQ below (QAi g ad nO oR z I J) args s 0 0 (AW ad nO)) 8 0 0 g (AW ad nO) ad nO oR I J 20 [(0, .ref (ad 98)), (1, .int a0), (2, .int a1), (3, .int a2), (4, .int a3), (5, .int a4), (6, .int a5)] [.int s0] := by
  unfold fB_X11_isName_20 at h
  refine r_istore C (lv1 := [(7, .int s0), (0, .ref (ad 98)), (1, .int a0), (2, .int a1), (3, .int a2), (4, .int a3), (5, .int a4), (6, .int a5)]) (by decide) rfl dX11_isName_20 ?_
  refine r_aload_n C 1 rfl rfl dX11_isName_22 ?_
  refine gf_X11_150 C o_98 dX11_isName_23 ?_
  refine r_aload_n C 1 rfl rfl dX11_isName_26 ?_
  refine gf_X11_153 C o_98 dX11_isName_27 ?_
  refine r_isub C dX11_isName_30 ?_
  refine r_pc (pc1 := 31) rfl ?_
  refine r_iload C 0 rfl dX11_isName_31 ?_
  refine r_icmp_ne C (tgt := 97) h dX11_isName_33 (by decide) (fun h => ?_) (fun h => ?_)
  · refine r_iconst C (v := 0) (by decide) dX11_isName_97 ?_
    have hz9 := Option.some.inj h
    subst hz9
    exact r_zret C (v := (0 : Int32)) rfl hr dX11_isName_98
  · refine r_aload_n C 1 rfl rfl dX11_isName_36 ?_
    refine r_iconst C (v := 0) (by decide) dX11_isName_37 ?_
    refine r_iload_n C 2 rfl rfl dX11_isName_38 ?_
    obtain ⟨r13, hq14, h⟩ := bd1_ h
    refine r_cvi C (rest := []) (c_X11_isAt  hq14) fm_X11_isAt lk_X11_176 o_98 ⟨_, ct_10 o_98.1⟩ rfl rfl ⟨rfl, rfl, Nat.le_of_ble_eq_true rfl, Nat.le_of_ble_eq_true rfl⟩ (Nat.le_of_ble_eq_true rfl) rfl dX11_isName_39 ?_
    refine r_if_eq C (tgt := 97) h dX11_isName_42 (by decide) (fun h => ?_) (fun h => ?_)
    · refine r_iconst C (v := 0) (by decide) dX11_isName_97 ?_
      have hz9 := Option.some.inj h
      subst hz9
      exact r_zret C (v := (0 : Int32)) rfl hr dX11_isName_98
    · refine r_aload_n C 1 rfl rfl dX11_isName_45 ?_
      refine r_iconst C (v := 1) (by decide) dX11_isName_46 ?_
      refine r_iload_n C 3 rfl rfl dX11_isName_47 ?_
      obtain ⟨r15, hq16, h⟩ := bd1_ h
      refine r_cvi C (rest := []) (c_X11_isAt  hq16) fm_X11_isAt lk_X11_176 o_98 ⟨_, ct_10 o_98.1⟩ rfl rfl ⟨rfl, rfl, Nat.le_of_ble_eq_true rfl, Nat.le_of_ble_eq_true rfl⟩ (Nat.le_of_ble_eq_true rfl) rfl dX11_isName_48 ?_
      refine r_if_eq C (tgt := 97) h dX11_isName_51 (by decide) (fun h => ?_) (fun h => ?_)
      · refine r_iconst C (v := 0) (by decide) dX11_isName_97 ?_
        have hz9 := Option.some.inj h
        subst hz9
        exact r_zret C (v := (0 : Int32)) rfl hr dX11_isName_98
      · refine r_aload_n C 1 rfl rfl dX11_isName_54 ?_
        refine r_iconst C (v := 2) (by decide) dX11_isName_55 ?_
        refine r_iload_n C 4 rfl rfl dX11_isName_56 ?_
        obtain ⟨r17, hq18, h⟩ := bd1_ h
        refine r_cvi C (rest := []) (c_X11_isAt  hq18) fm_X11_isAt lk_X11_176 o_98 ⟨_, ct_10 o_98.1⟩ rfl rfl ⟨rfl, rfl, Nat.le_of_ble_eq_true rfl, Nat.le_of_ble_eq_true rfl⟩ (Nat.le_of_ble_eq_true rfl) rfl dX11_isName_57 ?_
        refine r_if_eq C (tgt := 97) h dX11_isName_60 (by decide) (fun h => ?_) (fun h => ?_)
        · refine r_iconst C (v := 0) (by decide) dX11_isName_97 ?_
          have hz9 := Option.some.inj h
          subst hz9
          exact r_zret C (v := (0 : Int32)) rfl hr dX11_isName_98
        · refine r_aload_n C 1 rfl rfl dX11_isName_63 ?_
          refine r_iconst C (v := 3) (by decide) dX11_isName_64 ?_
          refine r_iload C 5 rfl dX11_isName_65 ?_
          obtain ⟨r19, hq20, h⟩ := bd1_ h
          refine r_cvi C (rest := []) (c_X11_isAt  hq20) fm_X11_isAt lk_X11_176 o_98 ⟨_, ct_10 o_98.1⟩ rfl rfl ⟨rfl, rfl, Nat.le_of_ble_eq_true rfl, Nat.le_of_ble_eq_true rfl⟩ (Nat.le_of_ble_eq_true rfl) rfl dX11_isName_67 ?_
          refine r_if_eq C (tgt := 97) h dX11_isName_70 (by decide) (fun h => ?_) (fun h => ?_)
          · refine r_iconst C (v := 0) (by decide) dX11_isName_97 ?_
            have hz9 := Option.some.inj h
            subst hz9
            exact r_zret C (v := (0 : Int32)) rfl hr dX11_isName_98
          · refine r_aload_n C 1 rfl rfl dX11_isName_73 ?_
            refine r_iconst C (v := 4) (by decide) dX11_isName_74 ?_
            refine r_iload C 6 rfl dX11_isName_75 ?_
            obtain ⟨r21, hq22, h⟩ := bd1_ h
            refine r_cvi C (rest := []) (c_X11_isAt  hq22) fm_X11_isAt lk_X11_176 o_98 ⟨_, ct_10 o_98.1⟩ rfl rfl ⟨rfl, rfl, Nat.le_of_ble_eq_true rfl, Nat.le_of_ble_eq_true rfl⟩ (Nat.le_of_ble_eq_true rfl) rfl dX11_isName_77 ?_
            refine r_if_eq C (tgt := 97) h dX11_isName_80 (by decide) (fun h => ?_) (fun h => ?_)
            · refine r_iconst C (v := 0) (by decide) dX11_isName_97 ?_
              have hz9 := Option.some.inj h
              subst hz9
              exact r_zret C (v := (0 : Int32)) rfl hr dX11_isName_98
            · refine r_aload_n C 1 rfl rfl dX11_isName_83 ?_
              refine r_iconst C (v := 5) (by decide) dX11_isName_84 ?_
              refine r_iload C 7 rfl dX11_isName_85 ?_
              obtain ⟨r23, hq24, h⟩ := bd1_ h
              refine r_cvi C (rest := []) (c_X11_isAt  hq24) fm_X11_isAt lk_X11_176 o_98 ⟨_, ct_10 o_98.1⟩ rfl rfl ⟨rfl, rfl, Nat.le_of_ble_eq_true rfl, Nat.le_of_ble_eq_true rfl⟩ (Nat.le_of_ble_eq_true rfl) rfl dX11_isName_87 ?_
              refine r_if_eq C (tgt := 97) h dX11_isName_90 (by decide) (fun h => ?_) (fun h => ?_)
              · refine r_iconst C (v := 0) (by decide) dX11_isName_97 ?_
                have hz9 := Option.some.inj h
                subst hz9
                exact r_zret C (v := (0 : Int32)) rfl hr dX11_isName_98
              · refine r_iconst C (v := 1) (by decide) dX11_isName_93 ?_
                refine r_goto C (tgt := 98) dX11_isName_94 (by decide) ?_
                have hz9 := Option.some.inj h
                subst hz9
                exact r_zret C (v := (1 : Int32)) rfl hr dX11_isName_98
set_option maxHeartbeats 4000000 in
set_option maxRecDepth 100000 in
theorem w_X11_isName {l : Launch} {g : GG} {ad : Nat → Nat} {p : Program} {e : Env} {s : State} {m : MethodId} {args : Array Value} {below : List Frame} {meth : Method} {c : Code} {a0 : Int32} {a1 : Int32} {a2 : Int32} {a3 : Int32} {a4 : Int32} {a5 : Int32} {z : Int32} (C : Cx p s m args meth c RX11 cX11_isName 8 g (AW ad nO)) (hr : meth.sig.returnType = (some .boolean)) {I : HI} {J : HJ} (h : f_X11_isName a0 a1 a2 a3 a4 a5 I J = some z) : V p l e (rmk 2 43) s m args below meth c (MQ below (QAi g ad nO oR z I J) args s 0 0 (AW ad nO)) 8 0 0 g (AW ad nO) ad nO oR I J 0 [(0, .ref (ad 98)), (1, .int a0), (2, .int a1), (3, .int a2), (4, .int a3), (5, .int a4), (6, .int a5)] [] := by
  unfold f_X11_isName at h
  refine r_iload C 5 rfl dX11_isName_0 ?_
  refine r_if_ne C (tgt := 9) h dX11_isName_2 (by decide) (fun h => ?_) (fun h => ?_)
  · refine r_iload C 6 rfl dX11_isName_9 ?_
    refine r_if_ne C (tgt := 18) h dX11_isName_11 (by decide) (fun h => ?_) (fun h => ?_)
    · refine r_bipush C (v := 6) (by decide) dX11_isName_18 ?_
      exact wB_X11_isName_20 C hr  h
    · refine r_iconst C (v := 5) (by decide) dX11_isName_14 ?_
      refine r_goto C (tgt := 20) dX11_isName_15 (by decide) ?_
      exact wB_X11_isName_20 C hr  h
  · refine r_iconst C (v := 4) (by decide) dX11_isName_5 ?_
    refine r_goto C (tgt := 20) dX11_isName_6 (by decide) ?_
    exact wB_X11_isName_20 C hr  h
set_option maxHeartbeats 4000000 in
set_option maxRecDepth 100000 in
theorem c_X11_isName {l : Launch} {g : GG} {ad : Nat → Nat} {a0 : Int32} {a1 : Int32} {a2 : Int32} {a3 : Int32} {a4 : Int32} {a5 : Int32} {I : HI} {J : HJ} {r : Int32} (h : f_X11_isName a0 a1 a2 a3 a4 a5 I J = some r) : CM l yX11_isName cX11_isName 8 (some .boolean) (rmk 2 43) g ad nO oR [.ref (ad 98), .int a0, .int a1, .int a2, .int a3, .int a4, .int a5] I J (QAi g ad nO oR r I J) :=
  CM_of (by decide +kernel) (Nat.le_of_ble_eq_true rfl) (fun p e s m args below meth c C hr => w_X11_isName C hr h)
set_option maxHeartbeats 4000000 in
set_option maxRecDepth 100000 in
theorem w_X11_keyHere {l : Launch} {g : GG} {ad : Nat → Nat} {p : Program} {e : Env} {s : State} {m : MethodId} {args : Array Value} {below : List Frame} {meth : Method} {c : Code} {z : Int32} (C : Cx p s m args meth c RX11 cX11_keyHere 1 g (AW ad nO)) (hr : meth.sig.returnType = (some .int)) {I : HI} {J : HJ} (h : f_X11_keyHere I J = some z) : V p l e (rmk 3 70) s m args below meth c (MQ below (QAi g ad nO oR z I J) args s 0 0 (AW ad nO)) 1 0 0 g (AW ad nO) ad nO oR I J 0 [(0, .ref (ad 98))] [] := by
  unfold f_X11_keyHere at h
  refine r_aload_n C 0 rfl rfl dX11_keyHere_0 ?_
  refine r_bipush C (v := 102) (by decide) dX11_keyHere_1 ?_
  refine r_bipush C (v := 108) (by decide) dX11_keyHere_3 ?_
  refine r_bipush C (v := 111) (by decide) dX11_keyHere_5 ?_
  refine r_bipush C (v := 119) (by decide) dX11_keyHere_7 ?_
  refine r_pc (pc1 := 9) rfl ?_
  refine r_iconst C (v := 0) (by decide) dX11_keyHere_9 ?_
  refine r_iconst C (v := 0) (by decide) dX11_keyHere_10 ?_
  obtain ⟨r9, hq10, h⟩ := bd1_ h
  refine r_cvi C (rest := []) (c_X11_isName  hq10) fm_X11_isName lk_X11_180 o_98 ⟨_, ct_10 o_98.1⟩ rfl rfl ⟨rfl, rfl, Nat.le_of_ble_eq_true rfl, Nat.le_of_ble_eq_true rfl⟩ (Nat.le_of_ble_eq_true rfl) rfl dX11_keyHere_11 ?_
  refine r_if_eq C (tgt := 21) h dX11_keyHere_14 (by decide) (fun h => ?_) (fun h => ?_)
  · refine r_aload_n C 0 rfl rfl dX11_keyHere_21 ?_
    refine r_bipush C (v := 112) (by decide) dX11_keyHere_22 ?_
    refine r_bipush C (v := 117) (by decide) dX11_keyHere_24 ?_
    refine r_bipush C (v := 108) (by decide) dX11_keyHere_26 ?_
    refine r_bipush C (v := 108) (by decide) dX11_keyHere_28 ?_
    refine r_pc (pc1 := 30) rfl ?_
    refine r_iconst C (v := 0) (by decide) dX11_keyHere_30 ?_
    refine r_iconst C (v := 0) (by decide) dX11_keyHere_31 ?_
    obtain ⟨r11, hq12, h⟩ := bd1_ h
    refine r_cvi C (rest := []) (c_X11_isName  hq12) fm_X11_isName lk_X11_180 o_98 ⟨_, ct_10 o_98.1⟩ rfl rfl ⟨rfl, rfl, Nat.le_of_ble_eq_true rfl, Nat.le_of_ble_eq_true rfl⟩ (Nat.le_of_ble_eq_true rfl) rfl dX11_keyHere_32 ?_
    refine r_if_eq C (tgt := 42) h dX11_keyHere_35 (by decide) (fun h => ?_) (fun h => ?_)
    · refine r_aload_n C 0 rfl rfl dX11_keyHere_42 ?_
      refine r_bipush C (v := 103) (by decide) dX11_keyHere_43 ?_
      refine r_bipush C (v := 111) (by decide) dX11_keyHere_45 ?_
      refine r_bipush C (v := 101) (by decide) dX11_keyHere_47 ?_
      refine r_bipush C (v := 115) (by decide) dX11_keyHere_49 ?_
      refine r_pc (pc1 := 51) rfl ?_
      refine r_iconst C (v := 0) (by decide) dX11_keyHere_51 ?_
      refine r_iconst C (v := 0) (by decide) dX11_keyHere_52 ?_
      obtain ⟨r13, hq14, h⟩ := bd1_ h
      refine r_cvi C (rest := []) (c_X11_isName  hq14) fm_X11_isName lk_X11_180 o_98 ⟨_, ct_10 o_98.1⟩ rfl rfl ⟨rfl, rfl, Nat.le_of_ble_eq_true rfl, Nat.le_of_ble_eq_true rfl⟩ (Nat.le_of_ble_eq_true rfl) rfl dX11_keyHere_53 ?_
      refine r_if_eq C (tgt := 63) h dX11_keyHere_56 (by decide) (fun h => ?_) (fun h => ?_)
      · refine r_aload_n C 0 rfl rfl dX11_keyHere_63 ?_
        refine r_bipush C (v := 108) (by decide) dX11_keyHere_64 ?_
        refine r_bipush C (v := 101) (by decide) dX11_keyHere_66 ?_
        refine r_bipush C (v := 102) (by decide) dX11_keyHere_68 ?_
        refine r_bipush C (v := 116) (by decide) dX11_keyHere_70 ?_
        refine r_pc (pc1 := 72) rfl ?_
        refine r_iconst C (v := 0) (by decide) dX11_keyHere_72 ?_
        refine r_iconst C (v := 0) (by decide) dX11_keyHere_73 ?_
        obtain ⟨r15, hq16, h⟩ := bd1_ h
        refine r_cvi C (rest := []) (c_X11_isName  hq16) fm_X11_isName lk_X11_180 o_98 ⟨_, ct_10 o_98.1⟩ rfl rfl ⟨rfl, rfl, Nat.le_of_ble_eq_true rfl, Nat.le_of_ble_eq_true rfl⟩ (Nat.le_of_ble_eq_true rfl) rfl dX11_keyHere_74 ?_
        refine r_if_eq C (tgt := 84) h dX11_keyHere_77 (by decide) (fun h => ?_) (fun h => ?_)
        · refine r_iconst C (v := -1) (by decide) dX11_keyHere_84 ?_
          have hz9 := Option.some.inj h
          subst hz9
          exact r_iret C hr dX11_keyHere_85
        · refine r_iconst C (v := 3) (by decide) dX11_keyHere_80 ?_
          refine r_goto C (tgt := 85) dX11_keyHere_81 (by decide) ?_
          have hz9 := Option.some.inj h
          subst hz9
          exact r_iret C hr dX11_keyHere_85
      · refine r_iconst C (v := 2) (by decide) dX11_keyHere_59 ?_
        refine r_goto C (tgt := 85) dX11_keyHere_60 (by decide) ?_
        have hz9 := Option.some.inj h
        subst hz9
        exact r_iret C hr dX11_keyHere_85
    · refine r_iconst C (v := 1) (by decide) dX11_keyHere_38 ?_
      refine r_goto C (tgt := 85) dX11_keyHere_39 (by decide) ?_
      have hz9 := Option.some.inj h
      subst hz9
      exact r_iret C hr dX11_keyHere_85
  · refine r_iconst C (v := 0) (by decide) dX11_keyHere_17 ?_
    refine r_goto C (tgt := 85) dX11_keyHere_18 (by decide) ?_
    have hz9 := Option.some.inj h
    subst hz9
    exact r_iret C hr dX11_keyHere_85
set_option maxHeartbeats 4000000 in
set_option maxRecDepth 100000 in
theorem c_X11_keyHere {l : Launch} {g : GG} {ad : Nat → Nat} {I : HI} {J : HJ} {r : Int32} (h : f_X11_keyHere I J = some r) : CM l yX11_keyHere cX11_keyHere 1 (some .int) (rmk 3 70) g ad nO oR [.ref (ad 98)] I J (QAi g ad nO oR r I J) :=
  CM_of (by decide +kernel) (Nat.le_of_ble_eq_true rfl) (fun p e s m args below meth c C hr => w_X11_keyHere C hr h)

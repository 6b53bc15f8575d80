set_option maxHeartbeats 4000000 in
set_option maxRecDepth 100000 in
theorem wLB_X11_again_39 {l : Launch} {g : GG} {ad : Nat → Nat} {p : Program} {e : Env} {s : State} {m : MethodId} {args : Array Value} {below : List Frame} {meth : Method} {c : Code} {z : Int32 × HI × HJ} (C : Cx p s m args meth c RX11 cX11_again 2 g (AW ad nO)) (hr : meth.sig.returnType = (some .int))  {r_39 : Int32 → HI → HJ → Option (Int32 × HI × HJ)} (hr_39 : ∀ {x1 : Int32} {I : HI} {J : HJ}, r_39 x1 I J = some z → V p l e (rmk 0 0) s m args below meth c (MQ below (QAi g ad nO oR z.1 z.2.1 z.2.2) args s 0 0 (AW ad nO)) 2 0 0 g (AW ad nO) ad nO oR I J 39 [(0, .ref (ad 98)), (1, .int x1)] []) {x1 : Int32} {I : HI} {J : HJ} (h : fLB_X11_again_39 r_39 x1 I J = some z) : V p l e (rmk 0 0) s m args below meth c (MQ below (QAi g ad nO oR z.1 z.2.1 z.2.2) args s 0 0 (AW ad nO)) 2 0 0 g (AW ad nO) ad nO oR I J 39 [(0, .ref (ad 98)), (1, .int x1)] [] := by
  unfold fLB_X11_again_39 at h
  refine r_iload_n C 1 rfl rfl dX11_again_39 ?_
  refine r_iconst C (v := 3) (by decide) dX11_again_40 ?_
  refine r_icmp_ge C (tgt := 62) h dX11_again_41 (by decide) (fun h => ?_) (fun h => ?_)
  · refine r_iconst C (v := 1) (by decide) dX11_again_62 ?_
    have hz9 := Option.some.inj h
    subst hz9
    exact r_iret C hr dX11_again_63
  · refine r_aload_n C 0 rfl rfl dX11_again_44 ?_
    refine gf_X11_16 C rf0 o_98 (q := 101) rfl dX11_again_45 ?_
    refine r_iload_n C 1 rfl rfl dX11_again_48 ?_
    refine r_aload_n C 0 rfl rfl dX11_again_49 ?_
    refine gf_X11_20 C rf0 o_98 (q := 102) rfl dX11_again_50 ?_
    refine r_pc (pc1 := 53) rfl ?_
    refine r_iload_n C 1 rfl rfl dX11_again_53 ?_
    refine r_lald C o_102 h dX11_again_54 (fun h => ?_)
    refine r_last C o_101 h dX11_again_55 (fun h => ?_)
    refine r_nmJ h (fun J5 h => ?_)
    refine r_iincN C h (k := 1) (zz := 1) rfl rfl (by decide) (lv1 := fun v6 => [(1, .int v6), (0, .ref (ad 98))]) (fun _ => rfl) dX11_again_56 (fun v6 h => ?_)
    refine r_goto C (tgt := 39) dX11_again_59 (by decide) ?_
    exact r_sub [1, 0] rfl (hr_39  h)
set_option maxHeartbeats 4000000 in
set_option maxRecDepth 100000 in
theorem wL_X11_again_39 {l : Launch} {g : GG} {ad : Nat → Nat} {p : Program} {e : Env} {s : State} {m : MethodId} {args : Array Value} {below : List Frame} {meth : Method} {c : Code} {z : Int32 × HI × HJ} (C : Cx p s m args meth c RX11 cX11_again 2 g (AW ad nO)) (hr : meth.sig.returnType = (some .int))  : ∀ (f : Nat) {x1 : Int32} {I : HI} {J : HJ}, fL_X11_again_39 f x1 I J = some z → V p l e (rmk 0 0) s m args below meth c (MQ below (QAi g ad nO oR z.1 z.2.1 z.2.2) args s 0 0 (AW ad nO)) 2 0 0 g (AW ad nO) ad nO oR I J 39 [(0, .ref (ad 98)), (1, .int x1)] [] := by
  intro f
  induction f with
  | zero =>
    intro _ _ _  h
    have h0 : (none : Option (Int32 × HI × HJ)) = some z := h
    cases h0
  | succ f ih =>
    intro _ _ _  h
    exact wLB_X11_again_39 C hr ih  h
set_option maxHeartbeats 4000000 in
set_option maxRecDepth 100000 in
theorem wLB_X11_again_12 {l : Launch} {g : GG} {ad : Nat → Nat} {p : Program} {e : Env} {s : State} {m : MethodId} {args : Array Value} {below : List Frame} {meth : Method} {c : Code} {z : Int32 × HI × HJ} (C : Cx p s m args meth c RX11 cX11_again 2 g (AW ad nO)) (hr : meth.sig.returnType = (some .int))  {r_12 : Int32 → HI → HJ → Option (Int32 × HI × HJ)} (hr_12 : ∀ {x1 : Int32} {I : HI} {J : HJ}, r_12 x1 I J = some z → V p l e (rmk 0 0) s m args below meth c (MQ below (QAi g ad nO oR z.1 z.2.1 z.2.2) args s 0 0 (AW ad nO)) 2 0 0 g (AW ad nO) ad nO oR I J 12 [(0, .ref (ad 98)), (1, .int x1)] []) {x1 : Int32} {I : HI} {J : HJ} (h : fLB_X11_again_12 r_12 x1 I J = some z) : V p l e (rmk 0 0) s m args below meth c (MQ below (QAi g ad nO oR z.1 z.2.1 z.2.2) args s 0 0 (AW ad nO)) 2 0 0 g (AW ad nO) ad nO oR I J 12 [(0, .ref (ad 98)), (1, .int x1)] [] := by
  unfold fLB_X11_again_12 at h
  refine r_iload_n C 1 rfl rfl dX11_again_12 ?_
  refine r_sipush C (v := 666) (by decide) dX11_again_13 ?_
  refine r_icmp_ge C (tgt := 37) h dX11_again_16 (by decide) (fun h => ?_) (fun h => ?_)
  · refine r_iconst C (v := 0) (by decide) dX11_again_37 ?_
    refine r_istore_n C (lv1 := [(1, .int (0 : Int32)), (0, .ref (ad 98))]) rfl (by decide) rfl dX11_again_38 ?_
    exact r_sub [1, 0] rfl (wL_X11_again_39 C hr _  h)
  · refine r_aload_n C 0 rfl rfl dX11_again_19 ?_
    refine gf_X11_7 C rf0 o_98 (q := 99) rfl dX11_again_20 ?_
    refine r_iload_n C 1 rfl rfl dX11_again_23 ?_
    refine r_aload_n C 0 rfl rfl dX11_again_24 ?_
    refine gf_X11_13 C rf0 o_98 (q := 100) rfl dX11_again_25 ?_
    refine r_pc (pc1 := 28) rfl ?_
    refine r_iload_n C 1 rfl rfl dX11_again_28 ?_
    refine r_iald C o_100 h dX11_again_29 (fun h => ?_)
    refine r_iast C o_99 h dX11_again_30 (fun h => ?_)
    refine r_nmI h (fun I7 h => ?_)
    refine r_iincN C h (k := 1) (zz := 1) rfl rfl (by decide) (lv1 := fun v8 => [(1, .int v8), (0, .ref (ad 98))]) (fun _ => rfl) dX11_again_31 (fun v8 h => ?_)
    refine r_goto C (tgt := 12) dX11_again_34 (by decide) ?_
    exact r_sub [1, 0] rfl (hr_12  h)
set_option maxHeartbeats 4000000 in
set_option maxRecDepth 100000 in
theorem wL_X11_again_12 {l : Launch} {g : GG} {ad : Nat → Nat} {p : Program} {e : Env} {s : State} {m : MethodId} {args : Array Value} {below : List Frame} {meth : Method} {c : Code} {z : Int32 × HI × HJ} (C : Cx p s m args meth c RX11 cX11_again 2 g (AW ad nO)) (hr : meth.sig.returnType = (some .int))  : ∀ (f : Nat) {x1 : Int32} {I : HI} {J : HJ}, fL_X11_again_12 f x1 I J = some z → V p l e (rmk 0 0) s m args below meth c (MQ below (QAi g ad nO oR z.1 z.2.1 z.2.2) args s 0 0 (AW ad nO)) 2 0 0 g (AW ad nO) ad nO oR I J 12 [(0, .ref (ad 98)), (1, .int x1)] [] := by
  intro f
  induction f with
  | zero =>
    intro _ _ _  h
    have h0 : (none : Option (Int32 × HI × HJ)) = some z := h
    cases h0
  | succ f ih =>
    intro _ _ _  h
    exact wLB_X11_again_12 C hr ih  h
set_option maxHeartbeats 4000000 in
set_option maxRecDepth 100000 in
theorem w_X11_again {l : Launch} {g : GG} {ad : Nat → Nat} {p : Program} {e : Env} {s : State} {m : MethodId} {args : Array Value} {below : List Frame} {meth : Method} {c : Code} {z : Int32 × HI × HJ} (C : Cx p s m args meth c RX11 cX11_again 2 g (AW ad nO)) (hr : meth.sig.returnType = (some .int)) {I : HI} {J : HJ} (h : f_X11_again I J = some z) : V p l e (rmk 0 0) s m args below meth c (MQ below (QAi g ad nO oR z.1 z.2.1 z.2.2) args s 0 0 (AW ad nO)) 2 0 0 g (AW ad nO) ad nO oR I J 0 [(0, .ref (ad 98))] [] := by
  unfold f_X11_again at h
  refine r_aload_n C 0 rfl rfl dX11_again_0 ?_
  refine gf_X11_364 C o_98 dX11_again_1 ?_
  refine r_if_ne C (tgt := 10) h dX11_again_4 (by decide) (fun h => ?_) (fun h => ?_)
  · refine r_iconst C (v := 0) (by decide) dX11_again_10 ?_
    refine r_istore_n C (lv1 := [(1, .int (0 : Int32)), (0, .ref (ad 98))]) rfl (by decide) rfl dX11_again_11 ?_
    exact r_sub [1, 0] rfl (wL_X11_again_12 C hr _  h)
  · refine r_bipush C (v := -3) (by decide) dX11_again_7 ?_
    have hz9 := Option.some.inj h
    subst hz9
    exact r_iret C hr dX11_again_9
set_option maxHeartbeats 4000000 in
set_option maxRecDepth 100000 in
theorem c_X11_again {l : Launch} {g : GG} {ad : Nat → Nat} {I : HI} {J : HJ} {r : Int32} {I1 : HI} {J1 : HJ} (h : f_X11_again I J = some (r, I1, J1)) : CM l yX11_again cX11_again 2 (some .int) (rmk 0 0) g ad nO oR [.ref (ad 98)] I J (QAi g ad nO oR r I1 J1) :=
  CM_of (by decide +kernel) (Nat.le_of_ble_eq_true rfl) (fun p e s m args below meth c C hr => w_X11_again C hr h)

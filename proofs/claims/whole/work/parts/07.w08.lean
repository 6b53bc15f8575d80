set_option maxHeartbeats 4000000 in
set_option maxRecDepth 100000 in
theorem wLB_X11_looksAtRecord_18 {l : Launch} {g : GG} {ad : Nat → Nat} {p : Program} {e : Env} {s : State} {m : MethodId} {args : Array Value} {below : List Frame} {meth : Method} {c : Code} {a0 : Int32} {z : HI} (C : Cx p s m args meth c RX11 cX11_looksAtRecord 3 g (AW ad nO)) (hr : meth.sig.returnType = none) {J : HJ}  {r_18 : Int32 → HI → HJ → Option (HI)} (hr_18 : ∀ {x2 : Int32} {I : HI}, r_18 x2 I J = some z → V p l e (rmk 0 0) s m args below meth c (MQ below (QAv g ad nO oR z J) args s 0 0 (AW ad nO)) 3 0 0 g (AW ad nO) ad nO oR I J 18 [(0, .ref (ad 98)), (1, .int a0), (2, .int x2)] []) {x2 : Int32} {I : HI} (h : fLB_X11_looksAtRecord_18 a0 r_18 x2 I J = some z) : V p l e (rmk 0 0) s m args below meth c (MQ below (QAv g ad nO oR z J) args s 0 0 (AW ad nO)) 3 0 0 g (AW ad nO) ad nO oR I J 18 [(0, .ref (ad 98)), (1, .int a0), (2, .int x2)] [] := by
  unfold fLB_X11_looksAtRecord_18 at h
  refine r_iload_n C 2 rfl rfl dX11_looksAtRecord_18 ?_
  refine r_aload_n C 0 rfl rfl dX11_looksAtRecord_19 ?_
  refine gf_X11_228 C o_98 dX11_looksAtRecord_20 ?_
  refine r_icmp_ge C (tgt := 54) h dX11_looksAtRecord_23 (by decide) (fun h => ?_) (fun h => ?_)
  · have hz9 := Option.some.inj h
    subst hz9
    exact r_vret C hr dX11_looksAtRecord_54
  · refine r_aload_n C 0 rfl rfl dX11_looksAtRecord_26 ?_
    refine gf_X11_56 C rf0 o_98 (q := 114) rfl dX11_looksAtRecord_27 ?_
    refine r_iload_n C 2 rfl rfl dX11_looksAtRecord_30 ?_
    refine r_aload_n C 0 rfl rfl dX11_looksAtRecord_31 ?_
    refine gf_X11_7 C rf0 o_98 (q := 99) rfl dX11_looksAtRecord_32 ?_
    refine r_pc (pc1 := 35) rfl ?_
    refine r_bipush C (v := 72) (by decide) dX11_looksAtRecord_35 ?_
    refine r_bipush C (v := 61) (by decide) dX11_looksAtRecord_37 ?_
    refine r_iload_n C 1 rfl rfl dX11_looksAtRecord_39 ?_
    refine r_imul C dX11_looksAtRecord_40 ?_
    refine r_iadd C dX11_looksAtRecord_41 ?_
    refine r_iconst C (v := 1) (by decide) dX11_looksAtRecord_42 ?_
    refine r_pc (pc1 := 43) rfl ?_
    refine r_iadd C dX11_looksAtRecord_43 ?_
    refine r_iload_n C 2 rfl rfl dX11_looksAtRecord_44 ?_
    refine r_iadd C dX11_looksAtRecord_45 ?_
    refine r_iald C o_99 h dX11_looksAtRecord_46 (fun h => ?_)
    refine r_iast C o_114 h dX11_looksAtRecord_47 (fun h => ?_)
    refine r_nmI h (fun I4 h => ?_)
    refine r_iincN C h (k := 2) (zz := 1) rfl rfl (by decide) (lv1 := fun v5 => [(2, .int v5), (0, .ref (ad 98)), (1, .int a0)]) (fun _ => rfl) dX11_looksAtRecord_48 (fun v5 h => ?_)
    refine r_goto C (tgt := 18) dX11_looksAtRecord_51 (by decide) ?_
    exact r_sub [1, 2, 0] rfl (hr_18  h)
set_option maxHeartbeats 4000000 in
set_option maxRecDepth 100000 in
theorem wL_X11_looksAtRecord_18 {l : Launch} {g : GG} {ad : Nat → Nat} {p : Program} {e : Env} {s : State} {m : MethodId} {args : Array Value} {below : List Frame} {meth : Method} {c : Code} {a0 : Int32} {z : HI} (C : Cx p s m args meth c RX11 cX11_looksAtRecord 3 g (AW ad nO)) (hr : meth.sig.returnType = none) {J : HJ}  : ∀ (f : Nat) {x2 : Int32} {I : HI}, fL_X11_looksAtRecord_18 a0 f x2 I J = some z → V p l e (rmk 0 0) s m args below meth c (MQ below (QAv g ad nO oR z J) args s 0 0 (AW ad nO)) 3 0 0 g (AW ad nO) ad nO oR I J 18 [(0, .ref (ad 98)), (1, .int a0), (2, .int x2)] [] := by
  intro f
  induction f with
  | zero =>
    intro _ _  h
    have h0 : (none : Option (HI)) = some z := h
    cases h0
  | succ f ih =>
    intro _ _  h
    exact wLB_X11_looksAtRecord_18 C hr ih  h
set_option maxHeartbeats 4000000 in
set_option maxRecDepth 100000 in
theorem w_X11_looksAtRecord {l : Launch} {g : GG} {ad : Nat → Nat} {p : Program} {e : Env} {s : State} {m : MethodId} {args : Array Value} {below : List Frame} {meth : Method} {c : Code} {a0 : Int32} {z : HI} (C : Cx p s m args meth c RX11 cX11_looksAtRecord 3 g (AW ad nO)) (hr : meth.sig.returnType = none) {I : HI} {J : HJ} (h : f_X11_looksAtRecord a0 I J = some z) : V p l e (rmk 0 0) s m args below meth c (MQ below (QAv g ad nO oR z J) args s 0 0 (AW ad nO)) 3 0 0 g (AW ad nO) ad nO oR I J 0 [(0, .ref (ad 98)), (1, .int a0)] [] := by
  unfold f_X11_looksAtRecord at h
  refine r_aload_n C 0 rfl rfl dX11_looksAtRecord_0 ?_
  refine r_aload_n C 0 rfl rfl dX11_looksAtRecord_1 ?_
  refine gf_X11_7 C rf0 o_98 (q := 99) rfl dX11_looksAtRecord_2 ?_
  refine r_bipush C (v := 72) (by decide) dX11_looksAtRecord_5 ?_
  refine r_bipush C (v := 61) (by decide) dX11_looksAtRecord_7 ?_
  refine r_pc (pc1 := 9) rfl ?_
  refine r_iload_n C 1 rfl rfl dX11_looksAtRecord_9 ?_
  refine r_imul C dX11_looksAtRecord_10 ?_
  refine r_iadd C dX11_looksAtRecord_11 ?_
  refine r_iald C o_99 h dX11_looksAtRecord_12 (fun h => ?_)
  refine pf_X11_228 C o_98 dX11_looksAtRecord_13 ?_
  refine r_nmI h (fun I6 h => ?_)
  refine r_iconst C (v := 0) (by decide) dX11_looksAtRecord_16 ?_
  refine r_istore_n C (lv1 := [(2, .int (0 : Int32)), (0, .ref (ad 98)), (1, .int a0)]) rfl (by decide) rfl dX11_looksAtRecord_17 ?_
  exact r_sub [1, 2, 0] rfl (wL_X11_looksAtRecord_18 C hr _  h)
set_option maxHeartbeats 4000000 in
set_option maxRecDepth 100000 in
theorem c_X11_looksAtRecord {l : Launch} {g : GG} {ad : Nat → Nat} {a0 : Int32} {I : HI} {J : HJ} {I1 : HI} (h : f_X11_looksAtRecord a0 I J = some I1) : CM l yX11_looksAtRecord cX11_looksAtRecord 3 none (rmk 0 0) g ad nO oR [.ref (ad 98), .int a0] I J (QAv g ad nO oR I1 J) :=
  CM_of (by decide +kernel) (Nat.le_of_ble_eq_true rfl) (fun p e s m args below meth c C hr => w_X11_looksAtRecord C hr h)
set_option maxHeartbeats 4000000 in
set_option maxRecDepth 100000 in
theorem wB_X11_comesBy_45 {l : Launch} {g : GG} {ad : Nat → Nat} {p : Program} {e : Env} {s : State} {m : MethodId} {args : Array Value} {below : List Frame} {meth : Method} {c : Code} {a0 : Int32} {z : Int32} (C : Cx p s m args meth c RX11 cX11_comesBy 4 g (AW ad nO)) (hr : meth.sig.returnType = (some .boolean)) {r_11 : Int32 → Int32 → HI → HJ → Option (Int32)} {I : HI} {J : HJ} (hr_11 : ∀ {x2 : Int32} {x3 : Int32}, r_11 x2 x3 I J = some z → V p l e (rmk 0 0) s m args below meth c (MQ below (QAi g ad nO oR z I J) args s 0 0 (AW ad nO)) 4 0 0 g (AW ad nO) ad nO oR I J 11 [(0, .ref (ad 98)), (1, .int a0), (2, .int x2), (3, .int x3)] []) {x3 : Int32} {s0 : Int32} (h : fB_X11_comesBy_45 a0 r_11 x3 s0 I J = some z) : V p l e (rmk 0 0) s m args below meth c (MQ below (QAi g ad nO oR z I J) args s 0 0 (AW ad nO)) 4 0 0 g (AW ad nO) ad nO oR I J 45 [(0, .ref (ad 98)), (1, .int a0), (3, .int x3)] [.int s0] := by
  unfold fB_X11_comesBy_45 at h
  refine r_istore_n C (lv1 := [(2, .int s0), (0, .ref (ad 98)), (1, .int a0), (3, .int x3)]) rfl (by decide) rfl dX11_comesBy_45 ?_
  refine r_iincN C h (k := 3) (zz := 1) rfl rfl (by decide) (lv1 := fun v3 => [(3, .int v3), (2, .int s0), (0, .ref (ad 98)), (1, .int a0)]) (fun _ => rfl) dX11_comesBy_46 (fun v3 h => ?_)
  refine r_goto C (tgt := 11) dX11_comesBy_49 (by decide) ?_
  exact r_sub [2, 3, 1, 0] rfl (hr_11  h)
set_option maxHeartbeats 4000000 in
set_option maxRecDepth 100000 in
theorem wB_X11_comesBy_44 {l : Launch} {g : GG} {ad : Nat → Nat} {p : Program} {e : Env} {s : State} {m : MethodId} {args : Array Value} {below : List Frame} {meth : Method} {c : Code} {a0 : Int32} {z : Int32} (C : Cx p s m args meth c RX11 cX11_comesBy 4 g (AW ad nO)) (hr : meth.sig.returnType = (some .boolean)) {r_11 : Int32 → Int32 → HI → HJ → Option (Int32)} {I : HI} {J : HJ} (hr_11 : ∀ {x2 : Int32} {x3 : Int32}, r_11 x2 x3 I J = some z → V p l e (rmk 0 0) s m args below meth c (MQ below (QAi g ad nO oR z I J) args s 0 0 (AW ad nO)) 4 0 0 g (AW ad nO) ad nO oR I J 11 [(0, .ref (ad 98)), (1, .int a0), (2, .int x2), (3, .int x3)] []) {x3 : Int32} (h : fB_X11_comesBy_44 a0 r_11 x3 I J = some z) : V p l e (rmk 0 0) s m args below meth c (MQ below (QAi g ad nO oR z I J) args s 0 0 (AW ad nO)) 4 0 0 g (AW ad nO) ad nO oR I J 44 [(0, .ref (ad 98)), (1, .int a0), (3, .int x3)] [] := by
  unfold fB_X11_comesBy_44 at h
  refine r_iconst C (v := 0) (by decide) dX11_comesBy_44 ?_
  exact wB_X11_comesBy_45 C hr hr_11  h
set_option maxHeartbeats 4000000 in
set_option maxRecDepth 100000 in
theorem wLB_X11_comesBy_11 {l : Launch} {g : GG} {ad : Nat → Nat} {p : Program} {e : Env} {s : State} {m : MethodId} {args : Array Value} {below : List Frame} {meth : Method} {c : Code} {a0 : Int32} {z : Int32} (C : Cx p s m args meth c RX11 cX11_comesBy 4 g (AW ad nO)) (hr : meth.sig.returnType = (some .boolean)) {I : HI} {J : HJ}  {r_11 : Int32 → Int32 → HI → HJ → Option (Int32)} (hr_11 : ∀ {x2 : Int32} {x3 : Int32}, r_11 x2 x3 I J = some z → V p l e (rmk 0 0) s m args below meth c (MQ below (QAi g ad nO oR z I J) args s 0 0 (AW ad nO)) 4 0 0 g (AW ad nO) ad nO oR I J 11 [(0, .ref (ad 98)), (1, .int a0), (2, .int x2), (3, .int x3)] []) {x2 : Int32} {x3 : Int32} (h : fLB_X11_comesBy_11 a0 r_11 x2 x3 I J = some z) : V p l e (rmk 0 0) s m args below meth c (MQ below (QAi g ad nO oR z I J) args s 0 0 (AW ad nO)) 4 0 0 g (AW ad nO) ad nO oR I J 11 [(0, .ref (ad 98)), (1, .int a0), (2, .int x2), (3, .int x3)] [] := by
  unfold fLB_X11_comesBy_11 at h
  refine r_iload_n C 3 rfl rfl dX11_comesBy_11 ?_
  refine r_aload_n C 0 rfl rfl dX11_comesBy_12 ?_
  refine gf_X11_228 C o_98 dX11_comesBy_13 ?_
  refine r_icmp_ge C (tgt := 52) h dX11_comesBy_16 (by decide) (fun h => ?_) (fun h => ?_)
  · refine r_iload_n C 2 rfl rfl dX11_comesBy_52 ?_
    obtain ⟨hz, h⟩ := ck h
    have hz9 := Option.some.inj h
    subst hz9
    exact r_zret C (zb_nar hz) hr dX11_comesBy_53
  · refine r_iload_n C 2 rfl rfl dX11_comesBy_19 ?_
    refine r_if_eq C (tgt := 44) h dX11_comesBy_20 (by decide) (fun h => ?_) (fun h => ?_)
    · exact r_sub [0, 1, 3] rfl (wB_X11_comesBy_44 C hr hr_11  h)
    · refine r_aload_n C 0 rfl rfl dX11_comesBy_23 ?_
      refine gf_X11_56 C rf0 o_98 (q := 114) rfl dX11_comesBy_24 ?_
      refine r_iload_n C 3 rfl rfl dX11_comesBy_27 ?_
      refine r_iald C o_114 h dX11_comesBy_28 (fun h => ?_)
      refine r_aload_n C 0 rfl rfl dX11_comesBy_29 ?_
      refine gf_X11_56 C rf0 o_98 (q := 114) rfl dX11_comesBy_30 ?_
      refine r_iload_n C 3 rfl rfl dX11_comesBy_33 ?_
      refine r_iload_n C 1 rfl rfl dX11_comesBy_34 ?_
      refine r_isub C dX11_comesBy_35 ?_
      refine r_pc (pc1 := 36) rfl ?_
      refine r_iald C o_114 h dX11_comesBy_36 (fun h => ?_)
      refine r_icmp_ne C (tgt := 44) h dX11_comesBy_37 (by decide) (fun h => ?_) (fun h => ?_)
      · exact r_sub [0, 1, 3] rfl (wB_X11_comesBy_44 C hr hr_11  h)
      · refine r_iconst C (v := 1) (by decide) dX11_comesBy_40 ?_
        refine r_goto C (tgt := 45) dX11_comesBy_41 (by decide) ?_
        exact r_sub [0, 1, 3] rfl (wB_X11_comesBy_45 C hr hr_11  h)
set_option maxHeartbeats 4000000 in
set_option maxRecDepth 100000 in
theorem wL_X11_comesBy_11 {l : Launch} {g : GG} {ad : Nat → Nat} {p : Program} {e : Env} {s : State} {m : MethodId} {args : Array Value} {below : List Frame} {meth : Method} {c : Code} {a0 : Int32} {z : Int32} (C : Cx p s m args meth c RX11 cX11_comesBy 4 g (AW ad nO)) (hr : meth.sig.returnType = (some .boolean)) {I : HI} {J : HJ}  : ∀ (f : Nat) {x2 : Int32} {x3 : Int32}, fL_X11_comesBy_11 a0 f x2 x3 I J = some z → V p l e (rmk 0 0) s m args below meth c (MQ below (QAi g ad nO oR z I J) args s 0 0 (AW ad nO)) 4 0 0 g (AW ad nO) ad nO oR I J 11 [(0, .ref (ad 98)), (1, .int a0), (2, .int x2), (3, .int x3)] [] := by
  intro f
  induction f with
  | zero =>
    intro _ _  h
    have h0 : (none : Option (Int32)) = some z := h
    cases h0
  | succ f ih =>
    intro _ _  h
    exact wLB_X11_comesBy_11 C hr ih  h
set_option maxHeartbeats 4000000 in
set_option maxRecDepth 100000 in
theorem w_X11_comesBy {l : Launch} {g : GG} {ad : Nat → Nat} {p : Program} {e : Env} {s : State} {m : MethodId} {args : Array Value} {below : List Frame} {meth : Method} {c : Code} {a0 : Int32} {z : Int32} (C : Cx p s m args meth c RX11 cX11_comesBy 4 g (AW ad nO)) (hr : meth.sig.returnType = (some .boolean)) {I : HI} {J : HJ} (h : f_X11_comesBy a0 I J = some z) : V p l e (rmk 0 0) s m args below meth c (MQ below (QAi g ad nO oR z I J) args s 0 0 (AW ad nO)) 4 0 0 g (AW ad nO) ad nO oR I J 0 [(0, .ref (ad 98)), (1, .int a0)] [] := by
  unfold f_X11_comesBy at h
  refine r_iconst C (v := 1) (by decide) dX11_comesBy_0 ?_
  refine r_istore_n C (lv1 := [(2, .int (1 : Int32)), (0, .ref (ad 98)), (1, .int a0)]) rfl (by decide) rfl dX11_comesBy_1 ?_
  refine r_aload_n C 1 rfl rfl dX11_comesBy_2 ?_
  refine gf_X11_228 C o_98 dX11_comesBy_3 ?_
  refine r_iconst C (v := 2) (by decide) dX11_comesBy_6 ?_
  refine r_idivN C (by decide) dX11_comesBy_7 ?_
  refine r_iload_n C 2 rfl rfl dX11_comesBy_8 ?_
  refine r_pc (pc1 := 9) rfl ?_
  refine r_iadd C dX11_comesBy_9 ?_
  refine r_nmi h (fun v4 h => ?_)
  refine r_istore_n C (lv1 := [(3, .int v4), (2, .int (1 : Int32)), (0, .ref (ad 98)), (1, .int a0)]) rfl (by decide) rfl dX11_comesBy_10 ?_
  exact r_sub [2, 3, 1, 0] rfl (wL_X11_comesBy_11 C hr _  h)
set_option maxHeartbeats 4000000 in
set_option maxRecDepth 100000 in
theorem c_X11_comesBy {l : Launch} {g : GG} {ad : Nat → Nat} {a0 : Int32} {I : HI} {J : HJ} {r : Int32} (h : f_X11_comesBy a0 I J = some r) : CM l yX11_comesBy cX11_comesBy 4 (some .boolean) (rmk 0 0) g ad nO oR [.ref (ad 98), .int a0] I J (QAi g ad nO oR r I J) :=
  CM_of (by decide +kernel) (Nat.le_of_ble_eq_true rfl) (fun p e s m args below meth c C hr => w_X11_comesBy C hr h)
set_option maxHeartbeats 4000000 in
set_option maxRecDepth 100000 in
theorem wB_X11_periodOf_46 {l : Launch} {g : GG} {ad : Nat → Nat} {p : Program} {e : Env} {s : State} {m : MethodId} {args : Array Value} {below : List Frame} {meth : Method} {c : Code} {z : Int32} (C : Cx p s m args meth c RX11 cX11_periodOf 4 g (AW ad nO)) (hr : meth.sig.returnType = (some .int)) {r_29 : Int32 → Int32 → HI → HJ → Option (Int32)} {I : HI} {J : HJ} (hr_29 : ∀ {x2 : Int32} {x3 : Int32}, r_29 x2 x3 I J = some z → V p l e (rmk 1 23) s m args below meth c (MQ below (QAi g ad nO oR z I J) args s 0 0 (AW ad nO)) 4 0 0 g (AW ad nO) ad nO oR I J 29 [(0, .ref (ad 98)), (2, .int x2), (3, .int x3)] []) {x3 : Int32} {s0 : Int32} (h : fB_X11_periodOf_46 r_29 x3 s0 I J = some z) : V p l e (rmk 1 23) s m args below meth c (MQ below (QAi g ad nO oR z I J) args s 0 0 (AW ad nO)) 4 0 0 g (AW ad nO) ad nO oR I J 46 [(0, .ref (ad 98)), (3, .int x3)] [.int s0] := by
  unfold fB_X11_periodOf_46 at h
  refine r_istore_n C (lv1 := [(2, .int s0), (0, .ref (ad 98)), (3, .int x3)]) rfl (by decide) rfl dX11_periodOf_46 ?_
  refine r_iincN C h (k := 2) (zz := (-1)) rfl (by rw [show Int32.ofInt (-1) = (-1 : Int32) from by decide]) (by decide) (lv1 := fun v5 => [(3, .int v5), (2, .int s0), (0, .ref (ad 98))]) (fun _ => rfl) dX11_periodOf_47 (fun v5 h => ?_)
  refine r_goto C (tgt := 29) dX11_periodOf_50 (by decide) ?_
  exact r_sub [2, 1, 0] rfl (hr_29  h)
set_option maxHeartbeats 4000000 in
set_option maxRecDepth 100000 in
theorem wLB_X11_periodOf_29 {l : Launch} {g : GG} {ad : Nat → Nat} {p : Program} {e : Env} {s : State} {m : MethodId} {args : Array Value} {below : List Frame} {meth : Method} {c : Code} {z : Int32} (C : Cx p s m args meth c RX11 cX11_periodOf 4 g (AW ad nO)) (hr : meth.sig.returnType = (some .int)) {I : HI} {J : HJ}  {r_29 : Int32 → Int32 → HI → HJ → Option (Int32)} (hr_29 : ∀ {x2 : Int32} {x3 : Int32}, r_29 x2 x3 I J = some z → V p l e (rmk 1 23) s m args below meth c (MQ below (QAi g ad nO oR z I J) args s 0 0 (AW ad nO)) 4 0 0 g (AW ad nO) ad nO oR I J 29 [(0, .ref (ad 98)), (2, .int x2), (3, .int x3)] []) {x2 : Int32} {x3 : Int32} (h : fLB_X11_periodOf_29 r_29 x2 x3 I J = some z) : V p l e (rmk 1 23) s m args below meth c (MQ below (QAi g ad nO oR z I J) args s 0 0 (AW ad nO)) 4 0 0 g (AW ad nO) ad nO oR I J 29 [(0, .ref (ad 98)), (2, .int x2), (3, .int x3)] [] := by
  unfold fLB_X11_periodOf_29 at h
  refine r_iload_n C 2 rfl rfl dX11_periodOf_29 ?_
  refine r_if_le C (tgt := 53) h dX11_periodOf_30 (by decide) (fun h => ?_) (fun h => ?_)
  · refine r_iload_n C 1 rfl rfl dX11_periodOf_53 ?_
    have hz9 := Option.some.inj h
    subst hz9
    exact r_iret C hr dX11_periodOf_54
  · refine r_aload_n C 0 rfl rfl dX11_periodOf_33 ?_
    refine r_iload_n C 2 rfl rfl dX11_periodOf_34 ?_
    obtain ⟨r6, hq7, h⟩ := bd1_ h
    refine r_cvi C (rest := []) (c_X11_comesBy  hq7) fm_X11_comesBy lk_X11_231 o_98 ⟨_, ct_10 o_98.1⟩ rfl rfl ⟨rfl, rfl, Nat.le_of_ble_eq_true rfl, Nat.le_of_ble_eq_true rfl⟩ (Nat.le_of_ble_eq_true rfl) rfl dX11_periodOf_35 ?_
    refine r_if_eq C (tgt := 45) h dX11_periodOf_38 (by decide) (fun h => ?_) (fun h => ?_)
    · refine r_iload_n C 1 rfl rfl dX11_periodOf_45 ?_
      exact r_sub [0, 2] rfl (wB_X11_periodOf_46 C hr hr_29  h)
    · refine r_iload_n C 2 rfl rfl dX11_periodOf_41 ?_
      refine r_goto C (tgt := 46) dX11_periodOf_42 (by decide) ?_
      exact r_sub [0, 2] rfl (wB_X11_periodOf_46 C hr hr_29  h)
set_option maxHeartbeats 4000000 in
set_option maxRecDepth 100000 in
theorem wL_X11_periodOf_29 {l : Launch} {g : GG} {ad : Nat → Nat} {p : Program} {e : Env} {s : State} {m : MethodId} {args : Array Value} {below : List Frame} {meth : Method} {c : Code} {z : Int32} (C : Cx p s m args meth c RX11 cX11_periodOf 4 g (AW ad nO)) (hr : meth.sig.returnType = (some .int)) {I : HI} {J : HJ}  : ∀ (f : Nat) {x2 : Int32} {x3 : Int32}, fL_X11_periodOf_29 f x2 x3 I J = some z → V p l e (rmk 1 23) s m args below meth c (MQ below (QAi g ad nO oR z I J) args s 0 0 (AW ad nO)) 4 0 0 g (AW ad nO) ad nO oR I J 29 [(0, .ref (ad 98)), (2, .int x2), (3, .int x3)] [] := by
  intro f
  induction f with
  | zero =>
    intro _ _  h
    have h0 : (none : Option (Int32)) = some z := h
    cases h0
  | succ f ih =>
    intro _ _  h
    exact wLB_X11_periodOf_29 C hr ih  h
set_option maxHeartbeats 4000000 in
set_option maxRecDepth 100000 in
theorem wB_X11_periodOf_28 {l : Launch} {g : GG} {ad : Nat → Nat} {p : Program} {e : Env} {s : State} {m : MethodId} {args : Array Value} {below : List Frame} {meth : Method} {c : Code} {z : Int32} (C : Cx p s m args meth c RX11 cX11_periodOf 4 g (AW ad nO)) (hr : meth.sig.returnType = (some .int)) {I : HI} {J : HJ}  {x2 : Int32} {s0 : Int32} (h : fB_X11_periodOf_28 x2 s0 I J = some z) : V p l e (rmk 1 23) s m args below meth c (MQ below (QAi g ad nO oR z I J) args s 0 0 (AW ad nO)) 4 0 0 g (AW ad nO) ad nO oR I J 28 [(0, .ref (ad 98)), (2, .int x2)] [.int s0] := by
  unfold fB_X11_periodOf_28 at h
  refine r_istore_n C (lv1 := [(3, .int s0), (0, .ref (ad 98)), (2, .int x2)]) rfl (by decide) rfl dX11_periodOf_28 ?_
  exact r_sub [1, 2, 0] rfl (wL_X11_periodOf_29 C hr _  h)
set_option maxHeartbeats 4000000 in
set_option maxRecDepth 100000 in
theorem w_X11_periodOf {l : Launch} {g : GG} {ad : Nat → Nat} {p : Program} {e : Env} {s : State} {m : MethodId} {args : Array Value} {below : List Frame} {meth : Method} {c : Code} {z : Int32} (C : Cx p s m args meth c RX11 cX11_periodOf 4 g (AW ad nO)) (hr : meth.sig.returnType = (some .int)) {I : HI} {J : HJ} (h : f_X11_periodOf I J = some z) : V p l e (rmk 1 23) s m args below meth c (MQ below (QAi g ad nO oR z I J) args s 0 0 (AW ad nO)) 4 0 0 g (AW ad nO) ad nO oR I J 0 [(0, .ref (ad 98))] [] := by
  unfold f_X11_periodOf at h
  refine r_aload_n C 0 rfl rfl dX11_periodOf_0 ?_
  refine gf_X11_228 C o_98 dX11_periodOf_1 ?_
  refine r_aload_n C 0 rfl rfl dX11_periodOf_4 ?_
  refine gf_X11_228 C o_98 dX11_periodOf_5 ?_
  refine r_iconst C (v := 2) (by decide) dX11_periodOf_8 ?_
  refine r_pc (pc1 := 9) rfl ?_
  refine r_idivN C (by decide) dX11_periodOf_9 ?_
  refine r_isub C dX11_periodOf_10 ?_
  refine r_iconst C (v := 2) (by decide) dX11_periodOf_11 ?_
  refine r_idivN C (by decide) dX11_periodOf_12 ?_
  refine r_nmi h (fun v8 h => ?_)
  refine r_istore_n C (lv1 := [(1, .int v8), (0, .ref (ad 98))]) rfl (by decide) rfl dX11_periodOf_13 ?_
  refine r_iconst C (v := 0) (by decide) dX11_periodOf_14 ?_
  refine r_istore_n C (lv1 := [(2, .int (0 : Int32)), (1, .int v8), (0, .ref (ad 98))]) rfl (by decide) rfl dX11_periodOf_15 ?_
  refine r_iload_n C 1 rfl rfl dX11_periodOf_16 ?_
  refine r_bipush C (v := 8) (by decide) dX11_periodOf_17 ?_
  refine r_icmp_ge C (tgt := 26) h dX11_periodOf_19 (by decide) (fun h => ?_) (fun h => ?_)
  · refine r_bipush C (v := 8) (by decide) dX11_periodOf_26 ?_
    exact r_sub [2, 0] rfl (wB_X11_periodOf_28 C hr  h)
  · refine r_iload_n C 1 rfl rfl dX11_periodOf_22 ?_
    refine r_goto C (tgt := 28) dX11_periodOf_23 (by decide) ?_
    exact r_sub [2, 0] rfl (wB_X11_periodOf_28 C hr  h)
set_option maxHeartbeats 4000000 in
set_option maxRecDepth 100000 in
theorem c_X11_periodOf {l : Launch} {g : GG} {ad : Nat → Nat} {I : HI} {J : HJ} {r : Int32} (h : f_X11_periodOf I J = some r) : CM l yX11_periodOf cX11_periodOf 4 (some .int) (rmk 1 23) g ad nO oR [.ref (ad 98)] I J (QAi g ad nO oR r I J) :=
  CM_of (by decide +kernel) (Nat.le_of_ble_eq_true rfl) (fun p e s m args below meth c C hr => w_X11_periodOf C hr h)
set_option maxHeartbeats 4000000 in
set_option maxRecDepth 100000 in
theorem w_X11_kindOf {l : Launch} {g : GG} {ad : Nat → Nat} {p : Program} {e : Env} {s : State} {m : MethodId} {args : Array Value} {below : List Frame} {meth : Method} {c : Code} {z : Int32} (C : Cx p s m args meth c RX11 cX11_kindOf 2 g (AW ad nO)) (hr : meth.sig.returnType = (some .int)) {I : HI} {J : HJ} (h : f_X11_kindOf I J = some z) : V p l e (rmk 2 46) s m args below meth c (MQ below (QAi g ad nO oR z I J) args s 0 0 (AW ad nO)) 2 0 0 g (AW ad nO) ad nO oR I J 0 [(0, .ref (ad 98))] [] := by
  unfold f_X11_kindOf at h
  refine r_aload_n C 0 rfl rfl dX11_kindOf_0 ?_
  obtain ⟨r3, hq4, h⟩ := bd1_ h
  refine r_cvi C (rest := []) (c_X11_periodOf  hq4) fm_X11_periodOf lk_X11_234 o_98 ⟨_, ct_10 o_98.1⟩ rfl rfl ⟨rfl, rfl, Nat.le_of_ble_eq_true rfl, Nat.le_of_ble_eq_true rfl⟩ (Nat.le_of_ble_eq_true rfl) rfl dX11_kindOf_1 ?_
  refine r_istore_n C (lv1 := [(1, .int r3), (0, .ref (ad 98))]) rfl (by decide) rfl dX11_kindOf_4 ?_
  refine r_aload_n C 1 rfl rfl dX11_kindOf_5 ?_
  refine gf_X11_228 C o_98 dX11_kindOf_6 ?_
  refine r_if_ne C (tgt := 17) h dX11_kindOf_9 (by decide) (fun h => ?_) (fun h => ?_)
  · refine r_iload_n C 0 rfl rfl dX11_kindOf_17 ?_
    refine r_iconst C (v := 1) (by decide) dX11_kindOf_18 ?_
    refine r_icmp_ne C (tgt := 26) h dX11_kindOf_19 (by decide) (fun h => ?_) (fun h => ?_)
    · refine r_iload_n C 0 rfl rfl dX11_kindOf_26 ?_
      refine r_iconst C (v := 2) (by decide) dX11_kindOf_27 ?_
      refine r_icmp_ne C (tgt := 35) h dX11_kindOf_28 (by decide) (fun h => ?_) (fun h => ?_)
      · refine r_iload_n C 0 rfl rfl dX11_kindOf_35 ?_
        refine r_iconst C (v := 3) (by decide) dX11_kindOf_36 ?_
        refine r_icmp_ne C (tgt := 44) h dX11_kindOf_37 (by decide) (fun h => ?_) (fun h => ?_)
        · refine r_iload_n C 0 rfl rfl dX11_kindOf_44 ?_
          refine r_iconst C (v := 4) (by decide) dX11_kindOf_45 ?_
          refine r_icmp_ne C (tgt := 53) h dX11_kindOf_46 (by decide) (fun h => ?_) (fun h => ?_)
          · refine r_iconst C (v := 5) (by decide) dX11_kindOf_53 ?_
            have hz9 := Option.some.inj h
            subst hz9
            exact r_iret C hr dX11_kindOf_54
          · refine r_iconst C (v := 3) (by decide) dX11_kindOf_49 ?_
            refine r_goto C (tgt := 54) dX11_kindOf_50 (by decide) ?_
            have hz9 := Option.some.inj h
            subst hz9
            exact r_iret C hr dX11_kindOf_54
        · refine r_iconst C (v := 4) (by decide) dX11_kindOf_40 ?_
          refine r_goto C (tgt := 54) dX11_kindOf_41 (by decide) ?_
          have hz9 := Option.some.inj h
          subst hz9
          exact r_iret C hr dX11_kindOf_54
      · refine r_iconst C (v := 2) (by decide) dX11_kindOf_31 ?_
        refine r_goto C (tgt := 54) dX11_kindOf_32 (by decide) ?_
        have hz9 := Option.some.inj h
        subst hz9
        exact r_iret C hr dX11_kindOf_54
    · refine r_iconst C (v := 1) (by decide) dX11_kindOf_22 ?_
      refine r_goto C (tgt := 54) dX11_kindOf_23 (by decide) ?_
      have hz9 := Option.some.inj h
      subst hz9
      exact r_iret C hr dX11_kindOf_54
  · refine r_bipush C (v := 6) (by decide) dX11_kindOf_12 ?_
    refine r_goto C (tgt := 54) dX11_kindOf_14 (by decide) ?_
    have hz9 := Option.some.inj h
    subst hz9
    exact r_iret C hr dX11_kindOf_54
set_option maxHeartbeats 4000000 in
set_option maxRecDepth 100000 in
theorem c_X11_kindOf {l : Launch} {g : GG} {ad : Nat → Nat} {I : HI} {J : HJ} {r : Int32} (h : f_X11_kindOf I J = some r) : CM l yX11_kindOf cX11_kindOf 2 (some .int) (rmk 2 46) g ad nO oR [.ref (ad 98)] I J (QAi g ad nO oR r I J) :=
  CM_of (by decide +kernel) (Nat.le_of_ble_eq_true rfl) (fun p e s m args below meth c C hr => w_X11_kindOf C hr h)
set_option maxHeartbeats 4000000 in
set_option maxRecDepth 100000 in
theorem w_X11_tell {l : Launch} {g : GG} {ad : Nat → Nat} {p : Program} {e : Env} {s : State} {m : MethodId} {args : Array Value} {below : List Frame} {meth : Method} {c : Code} {a0 : Int32} {z : Int32 × HI} (C : Cx p s m args meth c RX11 cX11_tell 2 g (AW ad nO)) (hr : meth.sig.returnType = (some .int)) {I : HI} {J : HJ} (h : f_X11_tell a0 I J = some z) : V p l e (rmk 1 25) s m args below meth c (MQ below (QAi g ad nO oR z.1 z.2 J) args s 0 0 (AW ad nO)) 2 0 0 g (AW ad nO) ad nO oR I J 0 [(0, .ref (ad 98)), (1, .int a0)] [] := by
  unfold f_X11_tell at h
  refine r_iload_n C 1 rfl rfl dX11_tell_0 ?_
  refine r_i2l C dX11_tell_1 ?_
  refine r_lconst C (v := 1) (by decide) dX11_tell_2 ?_
  refine r_ldc2 C (v := 9999) lk_X11_124 dX11_tell_3 ?_
  obtain ⟨r5, hq6, h⟩ := bd1_ h
  refine r_csi C (rest := []) (c_X11_in  hq6) fm_X11_in lk_X11_114 rfl ⟨rfl, rfl, Nat.le_of_ble_eq_true rfl, Nat.le_of_ble_eq_true rfl⟩ (Nat.le_of_ble_eq_true rfl) rfl dX11_tell_6 ?_
  refine r_if_ne C (tgt := 14) h dX11_tell_9 (by decide) (fun h => ?_) (fun h => ?_)
  · refine r_aload_n C 0 rfl rfl dX11_tell_14 ?_
    refine gf_X11_7 C rf0 o_98 (q := 99) rfl dX11_tell_15 ?_
    refine r_bipush C (v := 9) (by decide) dX11_tell_18 ?_
    refine r_iald C o_99 h dX11_tell_20 (fun h => ?_)
    refine r_bipush C (v := 60) (by decide) dX11_tell_21 ?_
    refine r_icmp_ne C (tgt := 29) h dX11_tell_23 (by decide) (fun h => ?_) (fun h => ?_)
    · refine r_aload_n C 0 rfl rfl dX11_tell_29 ?_
      refine gf_X11_7 C rf0 o_98 (q := 99) rfl dX11_tell_30 ?_
      refine r_bipush C (v := 12) (by decide) dX11_tell_33 ?_
      refine r_aload_n C 0 rfl rfl dX11_tell_35 ?_
      refine gf_X11_7 C rf0 o_98 (q := 99) rfl dX11_tell_36 ?_
      refine r_pc (pc1 := 39) rfl ?_
      refine r_bipush C (v := 9) (by decide) dX11_tell_39 ?_
      refine r_iald C o_99 h dX11_tell_41 (fun h => ?_)
      refine r_iadd C dX11_tell_42 ?_
      refine r_iload_n C 1 rfl rfl dX11_tell_43 ?_
      refine r_iast C o_99 h dX11_tell_44 (fun h => ?_)
      refine r_nmI h (fun I7 h => ?_)
      refine r_aload_n C 0 rfl rfl dX11_tell_45 ?_
      refine gf_X11_7 C rf0 o_98 (q := 99) rfl dX11_tell_46 ?_
      refine r_bipush C (v := 9) (by decide) dX11_tell_49 ?_
      refine r_dup2 C rfl rfl dX11_tell_51 ?_
      refine r_iald C o_99 h dX11_tell_52 (fun h => ?_)
      refine r_iconst C (v := 1) (by decide) dX11_tell_53 ?_
      refine r_iadd C dX11_tell_54 ?_
      refine r_iast C o_99 h dX11_tell_55 (fun h => ?_)
      refine r_nmI h (fun I8 h => ?_)
      refine r_aload_n C 0 rfl rfl dX11_tell_56 ?_
      refine gf_X11_7 C rf0 o_98 (q := 99) rfl dX11_tell_57 ?_
      refine r_bipush C (v := 9) (by decide) dX11_tell_60 ?_
      refine r_iald C o_99 h dX11_tell_62 (fun h => ?_)
      have hz9 := Option.some.inj h
      subst hz9
      exact r_iret C hr dX11_tell_63
    · refine r_bipush C (v := -2) (by decide) dX11_tell_26 ?_
      have hz9 := Option.some.inj h
      subst hz9
      exact r_iret C hr dX11_tell_28
  · refine r_iconst C (v := -1) (by decide) dX11_tell_12 ?_
    have hz9 := Option.some.inj h
    subst hz9
    exact r_iret C hr dX11_tell_13
set_option maxHeartbeats 4000000 in
set_option maxRecDepth 100000 in
theorem c_X11_tell {l : Launch} {g : GG} {ad : Nat → Nat} {a0 : Int32} {I : HI} {J : HJ} {r : Int32} {I1 : HI} (h : f_X11_tell a0 I J = some (r, I1)) : CM l yX11_tell cX11_tell 2 (some .int) (rmk 1 25) g ad nO oR [.ref (ad 98), .int a0] I J (QAi g ad nO oR r I1 J) :=
  CM_of (by decide +kernel) (Nat.le_of_ble_eq_true rfl) (fun p e s m args below meth c C hr => w_X11_tell C hr h)
set_option maxHeartbeats 4000000 in
set_option maxRecDepth 100000 in
theorem w_X11_clear {l : Launch} {g : GG} {ad : Nat → Nat} {p : Program} {e : Env} {s : State} {m : MethodId} {args : Array Value} {below : List Frame} {meth : Method} {c : Code} {z : Int32 × HI} (C : Cx p s m args meth c RX11 cX11_clear 2 g (AW ad nO)) (hr : meth.sig.returnType = (some .int)) {I : HI} {J : HJ} (h : f_X11_clear I J = some z) : V p l e (rmk 0 0) s m args below meth c (MQ below (QAi g ad nO oR z.1 z.2 J) args s 0 0 (AW ad nO)) 2 0 0 g (AW ad nO) ad nO oR I J 0 [(0, .ref (ad 98))] [] := by
  unfold f_X11_clear at h
  refine r_aload_n C 0 rfl rfl dX11_clear_0 ?_
  refine gf_X11_7 C rf0 o_98 (q := 99) rfl dX11_clear_1 ?_
  refine r_bipush C (v := 9) (by decide) dX11_clear_4 ?_
  refine r_iald C o_99 h dX11_clear_6 (fun h => ?_)
  refine r_nmi h (fun v3 h => ?_)
  refine r_istore_n C (lv1 := [(1, .int v3), (0, .ref (ad 98))]) rfl (by decide) rfl dX11_clear_7 ?_
  refine r_aload_n C 1 rfl rfl dX11_clear_8 ?_
  refine gf_X11_7 C rf0 o_98 (q := 99) rfl dX11_clear_9 ?_
  refine r_bipush C (v := 9) (by decide) dX11_clear_12 ?_
  refine r_iconst C (v := 0) (by decide) dX11_clear_14 ?_
  refine r_iast C o_99 h dX11_clear_15 (fun h => ?_)
  refine r_nmI h (fun I4 h => ?_)
  refine r_iload_n C 0 rfl rfl dX11_clear_16 ?_
  have hz9 := Option.some.inj h
  subst hz9
  exact r_iret C hr dX11_clear_17
set_option maxHeartbeats 4000000 in
set_option maxRecDepth 100000 in
theorem c_X11_clear {l : Launch} {g : GG} {ad : Nat → Nat} {I : HI} {J : HJ} {r : Int32} {I1 : HI} (h : f_X11_clear I J = some (r, I1)) : CM l yX11_clear cX11_clear 2 (some .int) (rmk 0 0) g ad nO oR [.ref (ad 98)] I J (QAi g ad nO oR r I1 J) :=
  CM_of (by decide +kernel) (Nat.le_of_ble_eq_true rfl) (fun p e s m args below meth c C hr => w_X11_clear C hr h)
set_option maxHeartbeats 4000000 in
set_option maxRecDepth 100000 in
theorem w_X11_time {l : Launch} {g : GG} {ad : Nat → Nat} {p : Program} {e : Env} {s : State} {m : MethodId} {args : Array Value} {below : List Frame} {meth : Method} {c : Code} {a0 : Int32} {z : Int32} (C : Cx p s m args meth c RX11 cX11_time 2 g (AW ad nO)) (hr : meth.sig.returnType = (some .int)) {I : HI} {J : HJ} (h : f_X11_time a0 I J = some z) : V p l e (rmk 1 25) s m args below meth c (MQ below (QAi g ad nO oR z I J) args s 0 0 (AW ad nO)) 2 0 0 g (AW ad nO) ad nO oR I J 0 [(0, .ref (ad 98)), (1, .int a0)] [] := by
  unfold f_X11_time at h
  refine r_iload_n C 1 rfl rfl dX11_time_0 ?_
  refine r_i2l C dX11_time_1 ?_
  refine r_lconst C (v := 0) (by decide) dX11_time_2 ?_
  refine r_aload_n C 0 rfl rfl dX11_time_3 ?_
  refine gf_X11_7 C rf0 o_98 (q := 99) rfl dX11_time_4 ?_
  refine r_pc (pc1 := 7) rfl ?_
  refine r_bipush C (v := 9) (by decide) dX11_time_7 ?_
  refine r_iald C o_99 h dX11_time_9 (fun h => ?_)
  refine r_iconst C (v := 1) (by decide) dX11_time_10 ?_
  refine r_isub C dX11_time_11 ?_
  refine r_i2l C dX11_time_12 ?_
  obtain ⟨r3, hq4, h⟩ := bd1_ h
  refine r_csi C (rest := []) (c_X11_in  hq4) fm_X11_in lk_X11_114 rfl ⟨rfl, rfl, Nat.le_of_ble_eq_true rfl, Nat.le_of_ble_eq_true rfl⟩ (Nat.le_of_ble_eq_true rfl) rfl dX11_time_13 ?_
  refine r_if_eq C (tgt := 31) h dX11_time_16 (by decide) (fun h => ?_) (fun h => ?_)
  · refine r_bipush C (v := -3) (by decide) dX11_time_31 ?_
    have hz9 := Option.some.inj h
    subst hz9
    exact r_iret C hr dX11_time_33
  · refine r_aload_n C 0 rfl rfl dX11_time_19 ?_
    refine gf_X11_7 C rf0 o_98 (q := 99) rfl dX11_time_20 ?_
    refine r_bipush C (v := 12) (by decide) dX11_time_23 ?_
    refine r_iload_n C 1 rfl rfl dX11_time_25 ?_
    refine r_iadd C dX11_time_26 ?_
    refine r_pc (pc1 := 27) rfl ?_
    refine r_iald C o_99 h dX11_time_27 (fun h => ?_)
    refine r_goto C (tgt := 33) dX11_time_28 (by decide) ?_
    have hz9 := Option.some.inj h
    subst hz9
    exact r_iret C hr dX11_time_33
set_option maxHeartbeats 4000000 in
set_option maxRecDepth 100000 in
theorem c_X11_time {l : Launch} {g : GG} {ad : Nat → Nat} {a0 : Int32} {I : HI} {J : HJ} {r : Int32} (h : f_X11_time a0 I J = some r) : CM l yX11_time cX11_time 2 (some .int) (rmk 1 25) g ad nO oR [.ref (ad 98), .int a0] I J (QAi g ad nO oR r I J) :=
  CM_of (by decide +kernel) (Nat.le_of_ble_eq_true rfl) (fun p e s m args below meth c C hr => w_X11_time C hr h)
set_option maxHeartbeats 4000000 in
set_option maxRecDepth 100000 in
theorem w_X11_period {l : Launch} {g : GG} {ad : Nat → Nat} {p : Program} {e : Env} {s : State} {m : MethodId} {args : Array Value} {below : List Frame} {meth : Method} {c : Code} {z : Int32 × HI} (C : Cx p s m args meth c RX11 cX11_period 1 g (AW ad nO)) (hr : meth.sig.returnType = (some .int)) {I : HI} {J : HJ} (h : f_X11_period I J = some z) : V p l e (rmk 2 46) s m args below meth c (MQ below (QAi g ad nO oR z.1 z.2 J) args s 0 0 (AW ad nO)) 1 0 0 g (AW ad nO) ad nO oR I J 0 [(0, .ref (ad 98))] [] := by
  unfold f_X11_period at h
  refine r_aload_n C 0 rfl rfl dX11_period_0 ?_
  obtain ⟨I5, hq6, h⟩ := bd1_ h
  refine r_cvv C (rest := []) (c_X11_looks  hq6) fm_X11_looks lk_X11_237 o_98 ⟨_, ct_10 o_98.1⟩ rfl rfl ⟨rfl, rfl, Nat.le_of_ble_eq_true rfl, Nat.le_of_ble_eq_true rfl⟩ (Nat.le_of_ble_eq_true rfl) rfl dX11_period_1 ?_
  refine r_aload_n C 0 rfl rfl dX11_period_4 ?_
  obtain ⟨r7, hq8, h⟩ := bd1_ h
  refine r_cvi C (rest := []) (c_X11_periodOf  hq8) fm_X11_periodOf lk_X11_234 o_98 ⟨_, ct_10 o_98.1⟩ rfl rfl ⟨rfl, rfl, Nat.le_of_ble_eq_true rfl, Nat.le_of_ble_eq_true rfl⟩ (Nat.le_of_ble_eq_true rfl) rfl dX11_period_5 ?_
  have hz9 := Option.some.inj h
  subst hz9
  exact r_iret C hr dX11_period_8
set_option maxHeartbeats 4000000 in
set_option maxRecDepth 100000 in
theorem c_X11_period {l : Launch} {g : GG} {ad : Nat → Nat} {I : HI} {J : HJ} {r : Int32} {I1 : HI} (h : f_X11_period I J = some (r, I1)) : CM l yX11_period cX11_period 1 (some .int) (rmk 2 46) g ad nO oR [.ref (ad 98)] I J (QAi g ad nO oR r I1 J) :=
  CM_of (by decide +kernel) (Nat.le_of_ble_eq_true rfl) (fun p e s m args below meth c C hr => w_X11_period C hr h)
set_option maxHeartbeats 4000000 in
set_option maxRecDepth 100000 in
theorem w_X11_kind {l : Launch} {g : GG} {ad : Nat → Nat} {p : Program} {e : Env} {s : State} {m : MethodId} {args : Array Value} {below : List Frame} {meth : Method} {c : Code} {z : Int32 × HI} (C : Cx p s m args meth c RX11 cX11_kind 1 g (AW ad nO)) (hr : meth.sig.returnType = (some .int)) {I : HI} {J : HJ} (h : f_X11_kind I J = some z) : V p l e (rmk 3 67) s m args below meth c (MQ below (QAi g ad nO oR z.1 z.2 J) args s 0 0 (AW ad nO)) 1 0 0 g (AW ad nO) ad nO oR I J 0 [(0, .ref (ad 98))] [] := by
  unfold f_X11_kind at h
  refine r_aload_n C 0 rfl rfl dX11_kind_0 ?_
  obtain ⟨I5, hq6, h⟩ := bd1_ h
  refine r_cvv C (rest := []) (c_X11_looks  hq6) fm_X11_looks lk_X11_237 o_98 ⟨_, ct_10 o_98.1⟩ rfl rfl ⟨rfl, rfl, Nat.le_of_ble_eq_true rfl, Nat.le_of_ble_eq_true rfl⟩ (Nat.le_of_ble_eq_true rfl) rfl dX11_kind_1 ?_
  refine r_aload_n C 0 rfl rfl dX11_kind_4 ?_
  obtain ⟨r7, hq8, h⟩ := bd1_ h
  refine r_cvi C (rest := []) (c_X11_kindOf  hq8) fm_X11_kindOf lk_X11_240 o_98 ⟨_, ct_10 o_98.1⟩ rfl rfl ⟨rfl, rfl, Nat.le_of_ble_eq_true rfl, Nat.le_of_ble_eq_true rfl⟩ (Nat.le_of_ble_eq_true rfl) rfl dX11_kind_5 ?_
  have hz9 := Option.some.inj h
  subst hz9
  exact r_iret C hr dX11_kind_8
set_option maxHeartbeats 4000000 in
set_option maxRecDepth 100000 in
theorem c_X11_kind {l : Launch} {g : GG} {ad : Nat → Nat} {I : HI} {J : HJ} {r : Int32} {I1 : HI} (h : f_X11_kind I J = some (r, I1)) : CM l yX11_kind cX11_kind 1 (some .int) (rmk 3 67) g ad nO oR [.ref (ad 98)] I J (QAi g ad nO oR r I1 J) :=
  CM_of (by decide +kernel) (Nat.le_of_ble_eq_true rfl) (fun p e s m args below meth c C hr => w_X11_kind C hr h)
set_option maxHeartbeats 4000000 in
set_option maxRecDepth 100000 in
theorem w_X11_off {l : Launch} {g : GG} {ad : Nat → Nat} {p : Program} {e : Env} {s : State} {m : MethodId} {args : Array Value} {below : List Frame} {meth : Method} {c : Code} {a0 : Int32} {a1 : Int32} {z : Int32} (C : Cx p s m args meth c RX11 cX11_off 2 g (AW ad nO)) (hr : meth.sig.returnType = (some .int)) {I : HI} {J : HJ} (h : f_X11_off a0 a1 = some z) : V p l e (rmk 0 0) s m args below meth c (MQ below (QAi g ad nO oR z I J) args s 0 0 (AW ad nO)) 2 0 0 g (AW ad nO) ad nO oR I J 0 [(0, .int a0), (1, .int a1)] [] := by
  unfold f_X11_off at h
  refine r_iload_n C 0 rfl rfl dX11_off_0 ?_
  refine r_iload_n C 1 rfl rfl dX11_off_1 ?_
  refine r_icmp_ge C (tgt := 11) h dX11_off_2 (by decide) (fun h => ?_) (fun h => ?_)
  · refine r_iload_n C 0 rfl rfl dX11_off_11 ?_
    refine r_iload_n C 1 rfl rfl dX11_off_12 ?_
    refine r_isub C dX11_off_13 ?_
    have hz9 := Option.some.inj h
    subst hz9
    exact r_iret C hr dX11_off_14
  · refine r_iload_n C 1 rfl rfl dX11_off_5 ?_
    refine r_iload_n C 0 rfl rfl dX11_off_6 ?_
    refine r_isub C dX11_off_7 ?_
    refine r_goto C (tgt := 14) dX11_off_8 (by decide) ?_
    have hz9 := Option.some.inj h
    subst hz9
    exact r_iret C hr dX11_off_14
set_option maxHeartbeats 4000000 in
set_option maxRecDepth 100000 in
theorem c_X11_off {l : Launch} {g : GG} {ad : Nat → Nat} {a0 : Int32} {a1 : Int32} {I : HI} {J : HJ} {r : Int32} (h : f_X11_off a0 a1 = some r) : CM l yX11_off cX11_off 2 (some .int) (rmk 0 0) g ad nO oR [.int a0, .int a1] I J (QAi g ad nO oR r I J) :=
  CM_of (by decide +kernel) (Nat.le_of_ble_eq_true rfl) (fun p e s m args below meth c C hr => w_X11_off C hr h)
set_option maxHeartbeats 4000000 in
set_option maxRecDepth 100000 in
theorem wB_X11_isOrder_95 {l : Launch} {g : GG} {ad : Nat → Nat} {p : Program} {e : Env} {s : State} {m : MethodId} {args : Array Value} {below : List Frame} {meth : Method} {c : Code} {a0 : Int32} {z : Int32} (C : Cx p s m args meth c RX11 cX11_isOrder 6 g (AW ad nO)) (hr : meth.sig.returnType = (some .boolean)) {r_4 : Int32 → Int32 → HI → HJ → Option (Int32)} {r_17 : Int32 → Int32 → Int32 → HI → HJ → Option (Int32)} {I : HI} {J : HJ} (hr_4 : ∀ {x2 : Int32} {x3 : Int32}, r_4 x2 x3 I J = some z → V p l e (rmk 0 0) s m args below meth c (MQ below (QAi g ad nO oR z I J) args s 0 0 (AW ad nO)) 6 0 0 g (AW ad nO) ad nO oR I J 4 [(0, .ref (ad 98)), (1, .int a0), (2, .int x2), (3, .int x3)] []) (hr_17 : ∀ {x2 : Int32} {x3 : Int32} {x4 : Int32}, r_17 x2 x3 x4 I J = some z → V p l e (rmk 0 0) s m args below meth c (MQ below (QAi g ad nO oR z I J) args s 0 0 (AW ad nO)) 6 0 0 g (AW ad nO) ad nO oR I J 17 [(0, .ref (ad 98)), (1, .int a0), (2, .int x2), (3, .int x3), (4, .int x4)] []) {x3 : Int32} {x4 : Int32} {s0 : Int32} (h : fB_X11_isOrder_95 a0 r_4 r_17 x3 x4 s0 I J = some z) : V p l e (rmk 0 0) s m args below meth c (MQ below (QAi g ad nO oR z I J) args s 0 0 (AW ad nO)) 6 0 0 g (AW ad nO) ad nO oR I J 95 [(0, .ref (ad 98)), (1, .int a0), (3, .int x3), (4, .int x4)] [.int s0] := by
  unfold fB_X11_isOrder_95 at h
  refine r_istore_n C (lv1 := [(2, .int s0), (0, .ref (ad 98)), (1, .int a0), (3, .int x3), (4, .int x4)]) rfl (by decide) rfl dX11_isOrder_95 ?_
  refine r_iincN C h (k := 4) (zz := 1) rfl rfl (by decide) (lv1 := fun v4 => [(4, .int v4), (2, .int s0), (0, .ref (ad 98)), (1, .int a0), (3, .int x3)]) (fun _ => rfl) dX11_isOrder_96 (fun v4 h => ?_)
  refine r_goto C (tgt := 17) dX11_isOrder_99 (by decide) ?_
  exact r_sub [2, 3, 1, 4, 0] rfl (hr_17  h)
set_option maxHeartbeats 4000000 in
set_option maxRecDepth 100000 in
theorem wB_X11_isOrder_94 {l : Launch} {g : GG} {ad : Nat → Nat} {p : Program} {e : Env} {s : State} {m : MethodId} {args : Array Value} {below : List Frame} {meth : Method} {c : Code} {a0 : Int32} {z : Int32} (C : Cx p s m args meth c RX11 cX11_isOrder 6 g (AW ad nO)) (hr : meth.sig.returnType = (some .boolean)) {r_4 : Int32 → Int32 → HI → HJ → Option (Int32)} {r_17 : Int32 → Int32 → Int32 → HI → HJ → Option (Int32)} {I : HI} {J : HJ} (hr_4 : ∀ {x2 : Int32} {x3 : Int32}, r_4 x2 x3 I J = some z → V p l e (rmk 0 0) s m args below meth c (MQ below (QAi g ad nO oR z I J) args s 0 0 (AW ad nO)) 6 0 0 g (AW ad nO) ad nO oR I J 4 [(0, .ref (ad 98)), (1, .int a0), (2, .int x2), (3, .int x3)] []) (hr_17 : ∀ {x2 : Int32} {x3 : Int32} {x4 : Int32}, r_17 x2 x3 x4 I J = some z → V p l e (rmk 0 0) s m args below meth c (MQ below (QAi g ad nO oR z I J) args s 0 0 (AW ad nO)) 6 0 0 g (AW ad nO) ad nO oR I J 17 [(0, .ref (ad 98)), (1, .int a0), (2, .int x2), (3, .int x3), (4, .int x4)] []) {x3 : Int32} {x4 : Int32} (h : fB_X11_isOrder_94 a0 r_4 r_17 x3 x4 I J = some z) : V p l e (rmk 0 0) s m args below meth c (MQ below (QAi g ad nO oR z I J) args s 0 0 (AW ad nO)) 6 0 0 g (AW ad nO) ad nO oR I J 94 [(0, .ref (ad 98)), (1, .int a0), (3, .int x3), (4, .int x4)] [] := by
  unfold fB_X11_isOrder_94 at h
  refine r_iconst C (v := 0) (by decide) dX11_isOrder_94 ?_
  exact wB_X11_isOrder_95 C hr hr_4 hr_17  h
set_option maxHeartbeats 4000000 in
set_option maxRecDepth 100000 in
theorem wB_X11_isOrder_90 {l : Launch} {g : GG} {ad : Nat → Nat} {p : Program} {e : Env} {s : State} {m : MethodId} {args : Array Value} {below : List Frame} {meth : Method} {c : Code} {a0 : Int32} {z : Int32} (C : Cx p s m args meth c RX11 cX11_isOrder 6 g (AW ad nO)) (hr : meth.sig.returnType = (some .boolean)) {r_4 : Int32 → Int32 → HI → HJ → Option (Int32)} {r_17 : Int32 → Int32 → Int32 → HI → HJ → Option (Int32)} {I : HI} {J : HJ} (hr_4 : ∀ {x2 : Int32} {x3 : Int32}, r_4 x2 x3 I J = some z → V p l e (rmk 0 0) s m args below meth c (MQ below (QAi g ad nO oR z I J) args s 0 0 (AW ad nO)) 6 0 0 g (AW ad nO) ad nO oR I J 4 [(0, .ref (ad 98)), (1, .int a0), (2, .int x2), (3, .int x3)] []) (hr_17 : ∀ {x2 : Int32} {x3 : Int32} {x4 : Int32}, r_17 x2 x3 x4 I J = some z → V p l e (rmk 0 0) s m args below meth c (MQ below (QAi g ad nO oR z I J) args s 0 0 (AW ad nO)) 6 0 0 g (AW ad nO) ad nO oR I J 17 [(0, .ref (ad 98)), (1, .int a0), (2, .int x2), (3, .int x3), (4, .int x4)] []) {x3 : Int32} {x4 : Int32} (h : fB_X11_isOrder_90 a0 r_4 r_17 x3 x4 I J = some z) : V p l e (rmk 0 0) s m args below meth c (MQ below (QAi g ad nO oR z I J) args s 0 0 (AW ad nO)) 6 0 0 g (AW ad nO) ad nO oR I J 90 [(0, .ref (ad 98)), (1, .int a0), (3, .int x3), (4, .int x4)] [] := by
  unfold fB_X11_isOrder_90 at h
  refine r_iconst C (v := 1) (by decide) dX11_isOrder_90 ?_
  refine r_goto C (tgt := 95) dX11_isOrder_91 (by decide) ?_
  exact wB_X11_isOrder_95 C hr hr_4 hr_17  h
set_option maxHeartbeats 4000000 in
set_option maxRecDepth 100000 in
theorem wB_X11_isOrder_60 {l : Launch} {g : GG} {ad : Nat → Nat} {p : Program} {e : Env} {s : State} {m : MethodId} {args : Array Value} {below : List Frame} {meth : Method} {c : Code} {a0 : Int32} {z : Int32} (C : Cx p s m args meth c RX11 cX11_isOrder 6 g (AW ad nO)) (hr : meth.sig.returnType = (some .boolean)) {r_4 : Int32 → Int32 → HI → HJ → Option (Int32)} {r_17 : Int32 → Int32 → Int32 → HI → HJ → Option (Int32)} {I : HI} {J : HJ} (hr_4 : ∀ {x2 : Int32} {x3 : Int32}, r_4 x2 x3 I J = some z → V p l e (rmk 0 0) s m args below meth c (MQ below (QAi g ad nO oR z I J) args s 0 0 (AW ad nO)) 6 0 0 g (AW ad nO) ad nO oR I J 4 [(0, .ref (ad 98)), (1, .int a0), (2, .int x2), (3, .int x3)] []) (hr_17 : ∀ {x2 : Int32} {x3 : Int32} {x4 : Int32}, r_17 x2 x3 x4 I J = some z → V p l e (rmk 0 0) s m args below meth c (MQ below (QAi g ad nO oR z I J) args s 0 0 (AW ad nO)) 6 0 0 g (AW ad nO) ad nO oR I J 17 [(0, .ref (ad 98)), (1, .int a0), (2, .int x2), (3, .int x3), (4, .int x4)] []) {x2 : Int32} {x3 : Int32} {x4 : Int32} {x5 : Int32} (h : fB_X11_isOrder_60 a0 r_4 r_17 x2 x3 x4 x5 I J = some z) : V p l e (rmk 0 0) s m args below meth c (MQ below (QAi g ad nO oR z I J) args s 0 0 (AW ad nO)) 6 0 0 g (AW ad nO) ad nO oR I J 60 [(0, .ref (ad 98)), (1, .int a0), (2, .int x2), (3, .int x3), (4, .int x4), (5, .int x5)] [] := by
  unfold fB_X11_isOrder_60 at h
  refine r_iload_n C 2 rfl rfl dX11_isOrder_60 ?_
  refine r_if_eq C (tgt := 94) h dX11_isOrder_61 (by decide) (fun h => ?_) (fun h => ?_)
  · exact r_sub [0, 1, 3, 4] rfl (wB_X11_isOrder_94 C hr hr_4 hr_17  h)
  · refine r_iload C 5 rfl dX11_isOrder_64 ?_
    refine r_iload_n C 1 rfl rfl dX11_isOrder_66 ?_
    refine r_icmp_lt C (tgt := 90) h dX11_isOrder_67 (by decide) (fun h => ?_) (fun h => ?_)
    · exact r_sub [0, 1, 3, 4] rfl (wB_X11_isOrder_90 C hr hr_4 hr_17  h)
    · refine r_aload_n C 0 rfl rfl dX11_isOrder_70 ?_
      refine gf_X11_56 C rf0 o_98 (q := 114) rfl dX11_isOrder_71 ?_
      refine r_iload_n C 3 rfl rfl dX11_isOrder_74 ?_
      refine r_iload_n C 1 rfl rfl dX11_isOrder_75 ?_
      refine r_iadd C dX11_isOrder_76 ?_
      refine r_pc (pc1 := 77) rfl ?_
      refine r_iald C o_114 h dX11_isOrder_77 (fun h => ?_)
      refine r_aload_n C 0 rfl rfl dX11_isOrder_78 ?_
      refine gf_X11_56 C rf0 o_98 (q := 114) rfl dX11_isOrder_79 ?_
      refine r_iload C 4 rfl dX11_isOrder_82 ?_
      refine r_iload_n C 1 rfl rfl dX11_isOrder_84 ?_
      refine r_iadd C dX11_isOrder_85 ?_
      refine r_pc (pc1 := 86) rfl ?_
      refine r_iald C o_114 h dX11_isOrder_86 (fun h => ?_)
      refine r_icmp_ne C (tgt := 94) h dX11_isOrder_87 (by decide) (fun h => ?_) (fun h => ?_)
      · exact r_sub [0, 1, 3, 4] rfl (wB_X11_isOrder_94 C hr hr_4 hr_17  h)
      · exact r_sub [0, 1, 3, 4] rfl (wB_X11_isOrder_90 C hr hr_4 hr_17  h)
set_option maxHeartbeats 4000000 in
set_option maxRecDepth 100000 in
theorem wLB_X11_isOrder_26 {l : Launch} {g : GG} {ad : Nat → Nat} {p : Program} {e : Env} {s : State} {m : MethodId} {args : Array Value} {below : List Frame} {meth : Method} {c : Code} {a0 : Int32} {z : Int32} (C : Cx p s m args meth c RX11 cX11_isOrder 6 g (AW ad nO)) (hr : meth.sig.returnType = (some .boolean)) {r_4 : Int32 → Int32 → HI → HJ → Option (Int32)} {r_17 : Int32 → Int32 → Int32 → HI → HJ → Option (Int32)} {I : HI} {J : HJ} (hr_4 : ∀ {x2 : Int32} {x3 : Int32}, r_4 x2 x3 I J = some z → V p l e (rmk 0 0) s m args below meth c (MQ below (QAi g ad nO oR z I J) args s 0 0 (AW ad nO)) 6 0 0 g (AW ad nO) ad nO oR I J 4 [(0, .ref (ad 98)), (1, .int a0), (2, .int x2), (3, .int x3)] []) (hr_17 : ∀ {x2 : Int32} {x3 : Int32} {x4 : Int32}, r_17 x2 x3 x4 I J = some z → V p l e (rmk 0 0) s m args below meth c (MQ below (QAi g ad nO oR z I J) args s 0 0 (AW ad nO)) 6 0 0 g (AW ad nO) ad nO oR I J 17 [(0, .ref (ad 98)), (1, .int a0), (2, .int x2), (3, .int x3), (4, .int x4)] []) {r_26 : Int32 → Int32 → Int32 → Int32 → HI → HJ → Option (Int32)} (hr_26 : ∀ {x2 : Int32} {x3 : Int32} {x4 : Int32} {x5 : Int32}, r_26 x2 x3 x4 x5 I J = some z → V p l e (rmk 0 0) s m args below meth c (MQ below (QAi g ad nO oR z I J) args s 0 0 (AW ad nO)) 6 0 0 g (AW ad nO) ad nO oR I J 26 [(0, .ref (ad 98)), (1, .int a0), (2, .int x2), (3, .int x3), (4, .int x4), (5, .int x5)] []) {x2 : Int32} {x3 : Int32} {x4 : Int32} {x5 : Int32} (h : fLB_X11_isOrder_26 a0 r_4 r_17 r_26 x2 x3 x4 x5 I J = some z) : V p l e (rmk 0 0) s m args below meth c (MQ below (QAi g ad nO oR z I J) args s 0 0 (AW ad nO)) 6 0 0 g (AW ad nO) ad nO oR I J 26 [(0, .ref (ad 98)), (1, .int a0), (2, .int x2), (3, .int x3), (4, .int x4), (5, .int x5)] [] := by
  unfold fLB_X11_isOrder_26 at h
  refine r_iload C 5 rfl dX11_isOrder_26 ?_
  refine r_iload_n C 1 rfl rfl dX11_isOrder_28 ?_
  refine r_icmp_ge C (tgt := 60) h dX11_isOrder_29 (by decide) (fun h => ?_) (fun h => ?_)
  · exact wB_X11_isOrder_60 C hr hr_4 hr_17  h
  · refine r_aload_n C 0 rfl rfl dX11_isOrder_32 ?_
    refine gf_X11_56 C rf0 o_98 (q := 114) rfl dX11_isOrder_33 ?_
    refine r_iload_n C 3 rfl rfl dX11_isOrder_36 ?_
    refine r_iload C 5 rfl dX11_isOrder_37 ?_
    refine r_iadd C dX11_isOrder_39 ?_
    refine r_pc (pc1 := 40) rfl ?_
    refine r_iald C o_114 h dX11_isOrder_40 (fun h => ?_)
    refine r_aload_n C 0 rfl rfl dX11_isOrder_41 ?_
    refine gf_X11_56 C rf0 o_98 (q := 114) rfl dX11_isOrder_42 ?_
    refine r_iload C 4 rfl dX11_isOrder_45 ?_
    refine r_iload C 5 rfl dX11_isOrder_47 ?_
    refine r_iadd C dX11_isOrder_49 ?_
    refine r_pc (pc1 := 50) rfl ?_
    refine r_iald C o_114 h dX11_isOrder_50 (fun h => ?_)
    refine r_icmp_ne C (tgt := 60) h dX11_isOrder_51 (by decide) (fun h => ?_) (fun h => ?_)
    · exact wB_X11_isOrder_60 C hr hr_4 hr_17  h
    · refine r_iincN C h (k := 5) (zz := 1) rfl rfl (by decide) (lv1 := fun v5 => [(5, .int v5), (0, .ref (ad 98)), (1, .int a0), (2, .int x2), (3, .int x3), (4, .int x4)]) (fun _ => rfl) dX11_isOrder_54 (fun v5 h => ?_)
      refine r_goto C (tgt := 26) dX11_isOrder_57 (by decide) ?_
      exact r_sub [1, 2, 3, 4, 5, 0] rfl (hr_26  h)
set_option maxHeartbeats 4000000 in
set_option maxRecDepth 100000 in
theorem wL_X11_isOrder_26 {l : Launch} {g : GG} {ad : Nat → Nat} {p : Program} {e : Env} {s : State} {m : MethodId} {args : Array Value} {below : List Frame} {meth : Method} {c : Code} {a0 : Int32} {z : Int32} (C : Cx p s m args meth c RX11 cX11_isOrder 6 g (AW ad nO)) (hr : meth.sig.returnType = (some .boolean)) {r_4 : Int32 → Int32 → HI → HJ → Option (Int32)} {r_17 : Int32 → Int32 → Int32 → HI → HJ → Option (Int32)} {I : HI} {J : HJ} (hr_4 : ∀ {x2 : Int32} {x3 : Int32}, r_4 x2 x3 I J = some z → V p l e (rmk 0 0) s m args below meth c (MQ below (QAi g ad nO oR z I J) args s 0 0 (AW ad nO)) 6 0 0 g (AW ad nO) ad nO oR I J 4 [(0, .ref (ad 98)), (1, .int a0), (2, .int x2), (3, .int x3)] []) (hr_17 : ∀ {x2 : Int32} {x3 : Int32} {x4 : Int32}, r_17 x2 x3 x4 I J = some z → V p l e (rmk 0 0) s m args below meth c (MQ below (QAi g ad nO oR z I J) args s 0 0 (AW ad nO)) 6 0 0 g (AW ad nO) ad nO oR I J 17 [(0, .ref (ad 98)), (1, .int a0), (2, .int x2), (3, .int x3), (4, .int x4)] []) : ∀ (f : Nat) {x2 : Int32} {x3 : Int32} {x4 : Int32} {x5 : Int32}, fL_X11_isOrder_26 a0 r_4 r_17 f x2 x3 x4 x5 I J = some z → V p l e (rmk 0 0) s m args below meth c (MQ below (QAi g ad nO oR z I J) args s 0 0 (AW ad nO)) 6 0 0 g (AW ad nO) ad nO oR I J 26 [(0, .ref (ad 98)), (1, .int a0), (2, .int x2), (3, .int x3), (4, .int x4), (5, .int x5)] [] := by
  intro f
  induction f with
  | zero =>
    intro _ _ _ _  h
    have h0 : (none : Option (Int32)) = some z := h
    cases h0
  | succ f ih =>
    intro _ _ _ _  h
    exact wLB_X11_isOrder_26 C hr hr_4 hr_17 ih  h
set_option maxHeartbeats 4000000 in
set_option maxRecDepth 100000 in
theorem wLB_X11_isOrder_17 {l : Launch} {g : GG} {ad : Nat → Nat} {p : Program} {e : Env} {s : State} {m : MethodId} {args : Array Value} {below : List Frame} {meth : Method} {c : Code} {a0 : Int32} {z : Int32} (C : Cx p s m args meth c RX11 cX11_isOrder 6 g (AW ad nO)) (hr : meth.sig.returnType = (some .boolean)) {r_4 : Int32 → Int32 → HI → HJ → Option (Int32)} {I : HI} {J : HJ} (hr_4 : ∀ {x2 : Int32} {x3 : Int32}, r_4 x2 x3 I J = some z → V p l e (rmk 0 0) s m args below meth c (MQ below (QAi g ad nO oR z I J) args s 0 0 (AW ad nO)) 6 0 0 g (AW ad nO) ad nO oR I J 4 [(0, .ref (ad 98)), (1, .int a0), (2, .int x2), (3, .int x3)] []) {r_17 : Int32 → Int32 → Int32 → HI → HJ → Option (Int32)} (hr_17 : ∀ {x2 : Int32} {x3 : Int32} {x4 : Int32}, r_17 x2 x3 x4 I J = some z → V p l e (rmk 0 0) s m args below meth c (MQ below (QAi g ad nO oR z I J) args s 0 0 (AW ad nO)) 6 0 0 g (AW ad nO) ad nO oR I J 17 [(0, .ref (ad 98)), (1, .int a0), (2, .int x2), (3, .int x3), (4, .int x4)] []) {x2 : Int32} {x3 : Int32} {x4 : Int32} (h : fLB_X11_isOrder_17 a0 r_4 r_17 x2 x3 x4 I J = some z) : V p l e (rmk 0 0) s m args below meth c (MQ below (QAi g ad nO oR z I J) args s 0 0 (AW ad nO)) 6 0 0 g (AW ad nO) ad nO oR I J 17 [(0, .ref (ad 98)), (1, .int a0), (2, .int x2), (3, .int x3), (4, .int x4)] [] := by
  unfold fLB_X11_isOrder_17 at h
  refine r_iload C 4 rfl dX11_isOrder_17 ?_
  refine r_iload_n C 3 rfl rfl dX11_isOrder_19 ?_
  refine r_icmp_ge C (tgt := 102) h dX11_isOrder_20 (by decide) (fun h => ?_) (fun h => ?_)
  · refine r_iincN C h (k := 3) (zz := 1) rfl rfl (by decide) (lv1 := fun v6 => [(3, .int v6), (0, .ref (ad 98)), (1, .int a0), (2, .int x2), (4, .int x4)]) (fun _ => rfl) dX11_isOrder_102 (fun v6 h => ?_)
    refine r_goto C (tgt := 4) dX11_isOrder_105 (by decide) ?_
    exact r_sub [1, 2, 3, 0] rfl (hr_4  h)
  · refine r_iconst C (v := 0) (by decide) dX11_isOrder_23 ?_
    refine r_istore C (lv1 := [(5, .int (0 : Int32)), (0, .ref (ad 98)), (1, .int a0), (2, .int x2), (3, .int x3), (4, .int x4)]) (by decide) rfl dX11_isOrder_24 ?_
    exact r_sub [1, 2, 3, 4, 5, 0] rfl (wL_X11_isOrder_26 C hr hr_4 hr_17 _  h)
set_option maxHeartbeats 4000000 in
set_option maxRecDepth 100000 in
theorem wL_X11_isOrder_17 {l : Launch} {g : GG} {ad : Nat → Nat} {p : Program} {e : Env} {s : State} {m : MethodId} {args : Array Value} {below : List Frame} {meth : Method} {c : Code} {a0 : Int32} {z : Int32} (C : Cx p s m args meth c RX11 cX11_isOrder 6 g (AW ad nO)) (hr : meth.sig.returnType = (some .boolean)) {r_4 : Int32 → Int32 → HI → HJ → Option (Int32)} {I : HI} {J : HJ} (hr_4 : ∀ {x2 : Int32} {x3 : Int32}, r_4 x2 x3 I J = some z → V p l e (rmk 0 0) s m args below meth c (MQ below (QAi g ad nO oR z I J) args s 0 0 (AW ad nO)) 6 0 0 g (AW ad nO) ad nO oR I J 4 [(0, .ref (ad 98)), (1, .int a0), (2, .int x2), (3, .int x3)] []) : ∀ (f : Nat) {x2 : Int32} {x3 : Int32} {x4 : Int32}, fL_X11_isOrder_17 a0 r_4 f x2 x3 x4 I J = some z → V p l e (rmk 0 0) s m args below meth c (MQ below (QAi g ad nO oR z I J) args s 0 0 (AW ad nO)) 6 0 0 g (AW ad nO) ad nO oR I J 17 [(0, .ref (ad 98)), (1, .int a0), (2, .int x2), (3, .int x3), (4, .int x4)] [] := by
  intro f
  induction f with
  | zero =>
    intro _ _ _  h
    have h0 : (none : Option (Int32)) = some z := h
    cases h0
  | succ f ih =>
    intro _ _ _  h
    exact wLB_X11_isOrder_17 C hr hr_4 ih  h
set_option maxHeartbeats 4000000 in
set_option maxRecDepth 100000 in
theorem wLB_X11_isOrder_4 {l : Launch} {g : GG} {ad : Nat → Nat} {p : Program} {e : Env} {s : State} {m : MethodId} {args : Array Value} {below : List Frame} {meth : Method} {c : Code} {a0 : Int32} {z : Int32} (C : Cx p s m args meth c RX11 cX11_isOrder 6 g (AW ad nO)) (hr : meth.sig.returnType = (some .boolean)) {I : HI} {J : HJ}  {r_4 : Int32 → Int32 → HI → HJ → Option (Int32)} (hr_4 : ∀ {x2 : Int32} {x3 : Int32}, r_4 x2 x3 I J = some z → V p l e (rmk 0 0) s m args below meth c (MQ below (QAi g ad nO oR z I J) args s 0 0 (AW ad nO)) 6 0 0 g (AW ad nO) ad nO oR I J 4 [(0, .ref (ad 98)), (1, .int a0), (2, .int x2), (3, .int x3)] []) {x2 : Int32} {x3 : Int32} (h : fLB_X11_isOrder_4 a0 r_4 x2 x3 I J = some z) : V p l e (rmk 0 0) s m args below meth c (MQ below (QAi g ad nO oR z I J) args s 0 0 (AW ad nO)) 6 0 0 g (AW ad nO) ad nO oR I J 4 [(0, .ref (ad 98)), (1, .int a0), (2, .int x2), (3, .int x3)] [] := by
  unfold fLB_X11_isOrder_4 at h
  refine r_iload_n C 3 rfl rfl dX11_isOrder_4 ?_
  refine r_iload_n C 1 rfl rfl dX11_isOrder_5 ?_
  refine r_iadd C dX11_isOrder_6 ?_
  refine r_aload_n C 0 rfl rfl dX11_isOrder_7 ?_
  refine gf_X11_228 C o_98 dX11_isOrder_8 ?_
  refine r_pc (pc1 := 11) rfl ?_
  refine r_icmp_ge C (tgt := 108) h dX11_isOrder_11 (by decide) (fun h => ?_) (fun h => ?_)
  · refine r_iload_n C 2 rfl rfl dX11_isOrder_108 ?_
    obtain ⟨hz, h⟩ := ck h
    have hz9 := Option.some.inj h
    subst hz9
    exact r_zret C (zb_nar hz) hr dX11_isOrder_109
  · refine r_iconst C (v := 0) (by decide) dX11_isOrder_14 ?_
    refine r_istore C (lv1 := [(4, .int (0 : Int32)), (0, .ref (ad 98)), (1, .int a0), (2, .int x2), (3, .int x3)]) (by decide) rfl dX11_isOrder_15 ?_
    exact r_sub [1, 2, 3, 4, 0] rfl (wL_X11_isOrder_17 C hr hr_4 _  h)
set_option maxHeartbeats 4000000 in
set_option maxRecDepth 100000 in
theorem wL_X11_isOrder_4 {l : Launch} {g : GG} {ad : Nat → Nat} {p : Program} {e : Env} {s : State} {m : MethodId} {args : Array Value} {below : List Frame} {meth : Method} {c : Code} {a0 : Int32} {z : Int32} (C : Cx p s m args meth c RX11 cX11_isOrder 6 g (AW ad nO)) (hr : meth.sig.returnType = (some .boolean)) {I : HI} {J : HJ}  : ∀ (f : Nat) {x2 : Int32} {x3 : Int32}, fL_X11_isOrder_4 a0 f x2 x3 I J = some z → V p l e (rmk 0 0) s m args below meth c (MQ below (QAi g ad nO oR z I J) args s 0 0 (AW ad nO)) 6 0 0 g (AW ad nO) ad nO oR I J 4 [(0, .ref (ad 98)), (1, .int a0), (2, .int x2), (3, .int x3)] [] := by
  intro f
  induction f with
  | zero =>
    intro _ _  h
    have h0 : (none : Option (Int32)) = some z := h
    cases h0
  | succ f ih =>
    intro _ _  h
    exact wLB_X11_isOrder_4 C hr ih  h
set_option maxHeartbeats 4000000 in
set_option maxRecDepth 100000 in
theorem w_X11_isOrder {l : Launch} {g : GG} {ad : Nat → Nat} {p : Program} {e : Env} {s : State} {m : MethodId} {args : Array Value} {below : List Frame} {meth : Method} {c : Code} {a0 : Int32} {z : Int32} (C : Cx p s m args meth c RX11 cX11_isOrder 6 g (AW ad nO)) (hr : meth.sig.returnType = (some .boolean)) {I : HI} {J : HJ} (h : f_X11_isOrder a0 I J = some z) : V p l e (rmk 0 0) s m args below meth c (MQ below (QAi g ad nO oR z I J) args s 0 0 (AW ad nO)) 6 0 0 g (AW ad nO) ad nO oR I J 0 [(0, .ref (ad 98)), (1, .int a0)] [] := by
  unfold f_X11_isOrder at h
  refine r_iconst C (v := 1) (by decide) dX11_isOrder_0 ?_
  refine r_istore_n C (lv1 := [(2, .int (1 : Int32)), (0, .ref (ad 98)), (1, .int a0)]) rfl (by decide) rfl dX11_isOrder_1 ?_
  refine r_iconst C (v := 0) (by decide) dX11_isOrder_2 ?_
  refine r_istore_n C (lv1 := [(3, .int (0 : Int32)), (2, .int (1 : Int32)), (0, .ref (ad 98)), (1, .int a0)]) rfl (by decide) rfl dX11_isOrder_3 ?_
  exact r_sub [2, 3, 1, 0] rfl (wL_X11_isOrder_4 C hr _  h)
set_option maxHeartbeats 4000000 in
set_option maxRecDepth 100000 in
theorem c_X11_isOrder {l : Launch} {g : GG} {ad : Nat → Nat} {a0 : Int32} {I : HI} {J : HJ} {r : Int32} (h : f_X11_isOrder a0 I J = some r) : CM l yX11_isOrder cX11_isOrder 6 (some .boolean) (rmk 0 0) g ad nO oR [.ref (ad 98), .int a0] I J (QAi g ad nO oR r I J) :=
  CM_of (by decide +kernel) (Nat.le_of_ble_eq_true rfl) (fun p e s m args below meth c C hr => w_X11_isOrder C hr h)
set_option maxHeartbeats 4000000 in
set_option maxRecDepth 100000 in
theorem wB_X11_order_25 {l : Launch} {g : GG} {ad : Nat → Nat} {p : Program} {e : Env} {s : State} {m : MethodId} {args : Array Value} {below : List Frame} {meth : Method} {c : Code} {z : Int32 × HI} (C : Cx p s m args meth c RX11 cX11_order 3 g (AW ad nO)) (hr : meth.sig.returnType = (some .int)) {r_8 : Int32 → Int32 → HI → HJ → Option (Int32 × HI)} {J : HJ} (hr_8 : ∀ {x1 : Int32} {x2 : Int32} {I : HI}, r_8 x1 x2 I J = some z → V p l e (rmk 1 25) s m args below meth c (MQ below (QAi g ad nO oR z.1 z.2 J) args s 0 0 (AW ad nO)) 3 0 0 g (AW ad nO) ad nO oR I J 8 [(0, .ref (ad 98)), (1, .int x1), (2, .int x2)] []) {x2 : Int32} {s0 : Int32} {I : HI} (h : fB_X11_order_25 r_8 x2 s0 I J = some z) : V p l e (rmk 1 25) s m args below meth c (MQ below (QAi g ad nO oR z.1 z.2 J) args s 0 0 (AW ad nO)) 3 0 0 g (AW ad nO) ad nO oR I J 25 [(0, .ref (ad 98)), (2, .int x2)] [.int s0] := by
  unfold fB_X11_order_25 at h
  refine r_istore_n C (lv1 := [(1, .int s0), (0, .ref (ad 98)), (2, .int x2)]) rfl (by decide) rfl dX11_order_25 ?_
  refine r_iincN C h (k := 2) (zz := (-1)) rfl (by rw [show Int32.ofInt (-1) = (-1 : Int32) from by decide]) (by decide) (lv1 := fun v6 => [(2, .int v6), (1, .int s0), (0, .ref (ad 98))]) (fun _ => rfl) dX11_order_26 (fun v6 h => ?_)
  refine r_goto C (tgt := 8) dX11_order_29 (by decide) ?_
  exact r_sub [2, 1, 0] rfl (hr_8  h)
set_option maxHeartbeats 4000000 in
set_option maxRecDepth 100000 in
theorem wLB_X11_order_8 {l : Launch} {g : GG} {ad : Nat → Nat} {p : Program} {e : Env} {s : State} {m : MethodId} {args : Array Value} {below : List Frame} {meth : Method} {c : Code} {z : Int32 × HI} (C : Cx p s m args meth c RX11 cX11_order 3 g (AW ad nO)) (hr : meth.sig.returnType = (some .int)) {J : HJ}  {r_8 : Int32 → Int32 → HI → HJ → Option (Int32 × HI)} (hr_8 : ∀ {x1 : Int32} {x2 : Int32} {I : HI}, r_8 x1 x2 I J = some z → V p l e (rmk 1 25) s m args below meth c (MQ below (QAi g ad nO oR z.1 z.2 J) args s 0 0 (AW ad nO)) 3 0 0 g (AW ad nO) ad nO oR I J 8 [(0, .ref (ad 98)), (1, .int x1), (2, .int x2)] []) {x1 : Int32} {x2 : Int32} {I : HI} (h : fLB_X11_order_8 r_8 x1 x2 I J = some z) : V p l e (rmk 1 25) s m args below meth c (MQ below (QAi g ad nO oR z.1 z.2 J) args s 0 0 (AW ad nO)) 3 0 0 g (AW ad nO) ad nO oR I J 8 [(0, .ref (ad 98)), (1, .int x1), (2, .int x2)] [] := by
  unfold fLB_X11_order_8 at h
  refine r_iload_n C 2 rfl rfl dX11_order_8 ?_
  refine r_if_le C (tgt := 32) h dX11_order_9 (by decide) (fun h => ?_) (fun h => ?_)
  · refine r_iload_n C 1 rfl rfl dX11_order_32 ?_
    have hz9 := Option.some.inj h
    subst hz9
    exact r_iret C hr dX11_order_33
  · refine r_aload_n C 0 rfl rfl dX11_order_12 ?_
    refine r_iload_n C 2 rfl rfl dX11_order_13 ?_
    obtain ⟨r7, hq8, h⟩ := bd1_ h
    refine r_cvi C (rest := []) (c_X11_isOrder  hq8) fm_X11_isOrder lk_X11_243 o_98 ⟨_, ct_10 o_98.1⟩ rfl rfl ⟨rfl, rfl, Nat.le_of_ble_eq_true rfl, Nat.le_of_ble_eq_true rfl⟩ (Nat.le_of_ble_eq_true rfl) rfl dX11_order_14 ?_
    refine r_if_eq C (tgt := 24) h dX11_order_17 (by decide) (fun h => ?_) (fun h => ?_)
    · refine r_iload_n C 1 rfl rfl dX11_order_24 ?_
      exact r_sub [0, 2] rfl (wB_X11_order_25 C hr hr_8  h)
    · refine r_iload_n C 2 rfl rfl dX11_order_20 ?_
      refine r_goto C (tgt := 25) dX11_order_21 (by decide) ?_
      exact r_sub [0, 2] rfl (wB_X11_order_25 C hr hr_8  h)
set_option maxHeartbeats 4000000 in
set_option maxRecDepth 100000 in
theorem wL_X11_order_8 {l : Launch} {g : GG} {ad : Nat → Nat} {p : Program} {e : Env} {s : State} {m : MethodId} {args : Array Value} {below : List Frame} {meth : Method} {c : Code} {z : Int32 × HI} (C : Cx p s m args meth c RX11 cX11_order 3 g (AW ad nO)) (hr : meth.sig.returnType = (some .int)) {J : HJ}  : ∀ (f : Nat) {x1 : Int32} {x2 : Int32} {I : HI}, fL_X11_order_8 f x1 x2 I J = some z → V p l e (rmk 1 25) s m args below meth c (MQ below (QAi g ad nO oR z.1 z.2 J) args s 0 0 (AW ad nO)) 3 0 0 g (AW ad nO) ad nO oR I J 8 [(0, .ref (ad 98)), (1, .int x1), (2, .int x2)] [] := by
  intro f
  induction f with
  | zero =>
    intro _ _ _  h
    have h0 : (none : Option (Int32 × HI)) = some z := h
    cases h0
  | succ f ih =>
    intro _ _ _  h
    exact wLB_X11_order_8 C hr ih  h
set_option maxHeartbeats 4000000 in
set_option maxRecDepth 100000 in
theorem w_X11_order {l : Launch} {g : GG} {ad : Nat → Nat} {p : Program} {e : Env} {s : State} {m : MethodId} {args : Array Value} {below : List Frame} {meth : Method} {c : Code} {z : Int32 × HI} (C : Cx p s m args meth c RX11 cX11_order 3 g (AW ad nO)) (hr : meth.sig.returnType = (some .int)) {I : HI} {J : HJ} (h : f_X11_order I J = some z) : V p l e (rmk 1 25) s m args below meth c (MQ below (QAi g ad nO oR z.1 z.2 J) args s 0 0 (AW ad nO)) 3 0 0 g (AW ad nO) ad nO oR I J 0 [(0, .ref (ad 98))] [] := by
  unfold f_X11_order at h
  refine r_aload_n C 0 rfl rfl dX11_order_0 ?_
  obtain ⟨I9, hq10, h⟩ := bd1_ h
  refine r_cvv C (rest := []) (c_X11_looks  hq10) fm_X11_looks lk_X11_237 o_98 ⟨_, ct_10 o_98.1⟩ rfl rfl ⟨rfl, rfl, Nat.le_of_ble_eq_true rfl, Nat.le_of_ble_eq_true rfl⟩ (Nat.le_of_ble_eq_true rfl) rfl dX11_order_1 ?_
  refine r_iconst C (v := 0) (by decide) dX11_order_4 ?_
  refine r_istore_n C (lv1 := [(1, .int (0 : Int32)), (0, .ref (ad 98))]) rfl (by decide) rfl dX11_order_5 ?_
  refine r_iconst C (v := 4) (by decide) dX11_order_6 ?_
  refine r_istore_n C (lv1 := [(2, .int (4 : Int32)), (1, .int (0 : Int32)), (0, .ref (ad 98))]) rfl (by decide) rfl dX11_order_7 ?_
  exact r_sub [2, 1, 0] rfl (wL_X11_order_8 C hr _  h)
set_option maxHeartbeats 4000000 in
set_option maxRecDepth 100000 in
theorem c_X11_order {l : Launch} {g : GG} {ad : Nat → Nat} {I : HI} {J : HJ} {r : Int32} {I1 : HI} (h : f_X11_order I J = some (r, I1)) : CM l yX11_order cX11_order 3 (some .int) (rmk 1 25) g ad nO oR [.ref (ad 98)] I J (QAi g ad nO oR r I1 J) :=
  CM_of (by decide +kernel) (Nat.le_of_ble_eq_true rfl) (fun p e s m args below meth c C hr => w_X11_order C hr h)
set_option maxHeartbeats 4000000 in
set_option maxRecDepth 100000 in
theorem wB_X11_toldFrom_60 {l : Launch} {g : GG} {ad : Nat → Nat} {p : Program} {e : Env} {s : State} {m : MethodId} {args : Array Value} {below : List Frame} {meth : Method} {c : Code} {a0 : Int32} {a1 : Int32} {z : Int32} (C : Cx p s m args meth c RX11 cX11_toldFrom 7 g (AW ad nO)) (hr : meth.sig.returnType = (some .int)) {r_10 : Int32 → Int32 → HI → HJ → Option (Int32)} {r_22 : Int32 → Int32 → Int32 → Int32 → HI → HJ → Option (Int32)} {I : HI} {J : HJ} (hr_10 : ∀ {x3 : Int32} {x4 : Int32}, r_10 x3 x4 I J = some z → V p l e (rmk 1 21) s m args below meth c (MQ below (QAi g ad nO oR z I J) args s 0 0 (AW ad nO)) 7 0 0 g (AW ad nO) ad nO oR I J 10 [(0, .ref (ad 98)), (1, .int a0), (2, .int a1), (3, .int x3), (4, .int x4)] []) (hr_22 : ∀ {x3 : Int32} {x4 : Int32} {x5 : Int32} {x6 : Int32}, r_22 x3 x4 x5 x6 I J = some z → V p l e (rmk 1 21) s m args below meth c (MQ below (QAi g ad nO oR z I J) args s 0 0 (AW ad nO)) 7 0 0 g (AW ad nO) ad nO oR I J 22 [(0, .ref (ad 98)), (1, .int a0), (2, .int a1), (3, .int x3), (4, .int x4), (5, .int x5), (6, .int x6)] []) {x3 : Int32} {x4 : Int32} {x6 : Int32} {s0 : Int32} (h : fB_X11_toldFrom_60 a0 a1 r_10 r_22 x3 x4 x6 s0 I J = some z) : V p l e (rmk 1 21) s m args below meth c (MQ below (QAi g ad nO oR z I J) args s 0 0 (AW ad nO)) 7 0 0 g (AW ad nO) ad nO oR I J 60 [(0, .ref (ad 98)), (1, .int a0), (2, .int a1), (3, .int x3), (4, .int x4), (6, .int x6)] [.int s0] := by
  unfold fB_X11_toldFrom_60 at h
  refine r_istore C (lv1 := [(5, .int s0), (0, .ref (ad 98)), (1, .int a0), (2, .int a1), (3, .int x3), (4, .int x4), (6, .int x6)]) (by decide) rfl dX11_toldFrom_60 ?_
  refine r_iincN C h (k := 6) (zz := 1) rfl rfl (by decide) (lv1 := fun v9 => [(6, .int v9), (5, .int s0), (0, .ref (ad 98)), (1, .int a0), (2, .int a1), (3, .int x3), (4, .int x4)]) (fun _ => rfl) dX11_toldFrom_62 (fun v9 h => ?_)
  refine r_goto C (tgt := 22) dX11_toldFrom_65 (by decide) ?_
  exact r_sub [2, 3, 4, 5, 6, 1, 0] rfl (hr_22  h)
set_option maxHeartbeats 4000000 in
set_option maxRecDepth 100000 in
theorem wLB_X11_toldFrom_22 {l : Launch} {g : GG} {ad : Nat → Nat} {p : Program} {e : Env} {s : State} {m : MethodId} {args : Array Value} {below : List Frame} {meth : Method} {c : Code} {a0 : Int32} {a1 : Int32} {z : Int32} (C : Cx p s m args meth c RX11 cX11_toldFrom 7 g (AW ad nO)) (hr : meth.sig.returnType = (some .int)) {r_10 : Int32 → Int32 → HI → HJ → Option (Int32)} {I : HI} {J : HJ} (hr_10 : ∀ {x3 : Int32} {x4 : Int32}, r_10 x3 x4 I J = some z → V p l e (rmk 1 21) s m args below meth c (MQ below (QAi g ad nO oR z I J) args s 0 0 (AW ad nO)) 7 0 0 g (AW ad nO) ad nO oR I J 10 [(0, .ref (ad 98)), (1, .int a0), (2, .int a1), (3, .int x3), (4, .int x4)] []) {r_22 : Int32 → Int32 → Int32 → Int32 → HI → HJ → Option (Int32)} (hr_22 : ∀ {x3 : Int32} {x4 : Int32} {x5 : Int32} {x6 : Int32}, r_22 x3 x4 x5 x6 I J = some z → V p l e (rmk 1 21) s m args below meth c (MQ below (QAi g ad nO oR z I J) args s 0 0 (AW ad nO)) 7 0 0 g (AW ad nO) ad nO oR I J 22 [(0, .ref (ad 98)), (1, .int a0), (2, .int a1), (3, .int x3), (4, .int x4), (5, .int x5), (6, .int x6)] []) {x3 : Int32} {x4 : Int32} {x5 : Int32} {x6 : Int32} (h : fLB_X11_toldFrom_22 a0 a1 r_10 r_22 x3 x4 x5 x6 I J = some z) : V p l e (rmk 1 21) s m args below meth c (MQ below (QAi g ad nO oR z I J) args s 0 0 (AW ad nO)) 7 0 0 g (AW ad nO) ad nO oR I J 22 [(0, .ref (ad 98)), (1, .int a0), (2, .int a1), (3, .int x3), (4, .int x4), (5, .int x5), (6, .int x6)] [] := by
  unfold fLB_X11_toldFrom_22 at h
  refine r_iload C 6 rfl dX11_toldFrom_22 ?_
  refine r_iload_n C 1 rfl rfl dX11_toldFrom_24 ?_
  refine r_icmp_ge C (tgt := 68) h dX11_toldFrom_25 (by decide) (fun h => ?_) (fun h => ?_)
  · refine r_aload_n C 0 rfl rfl dX11_toldFrom_68 ?_
    refine gf_X11_56 C rf0 o_98 (q := 114) rfl dX11_toldFrom_69 ?_
    refine r_iload C 5 rfl dX11_toldFrom_72 ?_
    refine r_iconst C (v := 1) (by decide) dX11_toldFrom_74 ?_
    refine r_iadd C dX11_toldFrom_75 ?_
    refine r_pc (pc1 := 76) rfl ?_
    refine r_iald C o_114 h dX11_toldFrom_76 (fun h => ?_)
    refine r_nmi h (fun v10 h => ?_)
    refine r_istore_n C (lv1 := [(3, .int v10), (0, .ref (ad 98)), (1, .int a0), (2, .int a1), (4, .int x4), (5, .int x5), (6, .int x6)]) rfl (by decide) rfl dX11_toldFrom_77 ?_
    refine r_iincN C h (k := 4) (zz := 1) rfl rfl (by decide) (lv1 := fun v11 => [(4, .int v11), (3, .int v10), (0, .ref (ad 98)), (1, .int a0), (2, .int a1), (5, .int x5), (6, .int x6)]) (fun _ => rfl) dX11_toldFrom_78 (fun v11 h => ?_)
    refine r_goto C (tgt := 10) dX11_toldFrom_81 (by decide) ?_
    exact r_sub [2, 3, 4, 1, 0] rfl (hr_10  h)
  · refine r_aload_n C 0 rfl rfl dX11_toldFrom_28 ?_
    refine gf_X11_56 C rf0 o_98 (q := 114) rfl dX11_toldFrom_29 ?_
    refine r_iload C 6 rfl dX11_toldFrom_32 ?_
    refine r_iald C o_114 h dX11_toldFrom_34 (fun h => ?_)
    refine r_iload_n C 3 rfl rfl dX11_toldFrom_35 ?_
    obtain ⟨r12, hq13, h⟩ := bd1_ h
    refine r_csi C (rest := []) (c_X11_off  hq13) fm_X11_off lk_X11_246 rfl ⟨rfl, rfl, Nat.le_of_ble_eq_true rfl, Nat.le_of_ble_eq_true rfl⟩ (Nat.le_of_ble_eq_true rfl) rfl dX11_toldFrom_36 ?_
    refine r_aload_n C 0 rfl rfl dX11_toldFrom_39 ?_
    refine gf_X11_56 C rf0 o_98 (q := 114) rfl dX11_toldFrom_40 ?_
    refine r_iload C 5 rfl dX11_toldFrom_43 ?_
    refine r_iald C o_114 h dX11_toldFrom_45 (fun h => ?_)
    refine r_iload_n C 3 rfl rfl dX11_toldFrom_46 ?_
    obtain ⟨r14, hq15, h⟩ := bd1_ h
    refine r_csi C (rest := [.int r12]) (c_X11_off  hq15) fm_X11_off lk_X11_246 rfl ⟨rfl, rfl, Nat.le_of_ble_eq_true rfl, Nat.le_of_ble_eq_true rfl⟩ (Nat.le_of_ble_eq_true rfl) rfl dX11_toldFrom_47 ?_
    refine r_icmp_gt C (tgt := 58) h dX11_toldFrom_50 (by decide) (fun h => ?_) (fun h => ?_)
    · refine r_iload C 5 rfl dX11_toldFrom_58 ?_
      exact r_sub [0, 1, 2, 3, 4, 6] rfl (wB_X11_toldFrom_60 C hr hr_10 hr_22  h)
    · refine r_iload C 6 rfl dX11_toldFrom_53 ?_
      refine r_goto C (tgt := 60) dX11_toldFrom_55 (by decide) ?_
      exact r_sub [0, 1, 2, 3, 4, 6] rfl (wB_X11_toldFrom_60 C hr hr_10 hr_22  h)
set_option maxHeartbeats 4000000 in
set_option maxRecDepth 100000 in
theorem wL_X11_toldFrom_22 {l : Launch} {g : GG} {ad : Nat → Nat} {p : Program} {e : Env} {s : State} {m : MethodId} {args : Array Value} {below : List Frame} {meth : Method} {c : Code} {a0 : Int32} {a1 : Int32} {z : Int32} (C : Cx p s m args meth c RX11 cX11_toldFrom 7 g (AW ad nO)) (hr : meth.sig.returnType = (some .int)) {r_10 : Int32 → Int32 → HI → HJ → Option (Int32)} {I : HI} {J : HJ} (hr_10 : ∀ {x3 : Int32} {x4 : Int32}, r_10 x3 x4 I J = some z → V p l e (rmk 1 21) s m args below meth c (MQ below (QAi g ad nO oR z I J) args s 0 0 (AW ad nO)) 7 0 0 g (AW ad nO) ad nO oR I J 10 [(0, .ref (ad 98)), (1, .int a0), (2, .int a1), (3, .int x3), (4, .int x4)] []) : ∀ (f : Nat) {x3 : Int32} {x4 : Int32} {x5 : Int32} {x6 : Int32}, fL_X11_toldFrom_22 a0 a1 r_10 f x3 x4 x5 x6 I J = some z → V p l e (rmk 1 21) s m args below meth c (MQ below (QAi g ad nO oR z I J) args s 0 0 (AW ad nO)) 7 0 0 g (AW ad nO) ad nO oR I J 22 [(0, .ref (ad 98)), (1, .int a0), (2, .int a1), (3, .int x3), (4, .int x4), (5, .int x5), (6, .int x6)] [] := by
  intro f
  induction f with
  | zero =>
    intro _ _ _ _  h
    have h0 : (none : Option (Int32)) = some z := h
    cases h0
  | succ f ih =>
    intro _ _ _ _  h
    exact wLB_X11_toldFrom_22 C hr hr_10 ih  h
set_option maxHeartbeats 4000000 in
set_option maxRecDepth 100000 in
theorem wLB_X11_toldFrom_10 {l : Launch} {g : GG} {ad : Nat → Nat} {p : Program} {e : Env} {s : State} {m : MethodId} {args : Array Value} {below : List Frame} {meth : Method} {c : Code} {a0 : Int32} {a1 : Int32} {z : Int32} (C : Cx p s m args meth c RX11 cX11_toldFrom 7 g (AW ad nO)) (hr : meth.sig.returnType = (some .int)) {I : HI} {J : HJ}  {r_10 : Int32 → Int32 → HI → HJ → Option (Int32)} (hr_10 : ∀ {x3 : Int32} {x4 : Int32}, r_10 x3 x4 I J = some z → V p l e (rmk 1 21) s m args below meth c (MQ below (QAi g ad nO oR z I J) args s 0 0 (AW ad nO)) 7 0 0 g (AW ad nO) ad nO oR I J 10 [(0, .ref (ad 98)), (1, .int a0), (2, .int a1), (3, .int x3), (4, .int x4)] []) {x3 : Int32} {x4 : Int32} (h : fLB_X11_toldFrom_10 a0 a1 r_10 x3 x4 I J = some z) : V p l e (rmk 1 21) s m args below meth c (MQ below (QAi g ad nO oR z I J) args s 0 0 (AW ad nO)) 7 0 0 g (AW ad nO) ad nO oR I J 10 [(0, .ref (ad 98)), (1, .int a0), (2, .int a1), (3, .int x3), (4, .int x4)] [] := by
  unfold fLB_X11_toldFrom_10 at h
  refine r_iload C 4 rfl dX11_toldFrom_10 ?_
  refine r_iload_n C 2 rfl rfl dX11_toldFrom_12 ?_
  refine r_icmp_ge C (tgt := 84) h dX11_toldFrom_13 (by decide) (fun h => ?_) (fun h => ?_)
  · refine r_iload_n C 3 rfl rfl dX11_toldFrom_84 ?_
    have hz9 := Option.some.inj h
    subst hz9
    exact r_iret C hr dX11_toldFrom_85
  · refine r_iconst C (v := 0) (by decide) dX11_toldFrom_16 ?_
    refine r_istore C (lv1 := [(5, .int (0 : Int32)), (0, .ref (ad 98)), (1, .int a0), (2, .int a1), (3, .int x3), (4, .int x4)]) (by decide) rfl dX11_toldFrom_17 ?_
    refine r_iconst C (v := 1) (by decide) dX11_toldFrom_19 ?_
    refine r_istore C (lv1 := [(6, .int (1 : Int32)), (5, .int (0 : Int32)), (0, .ref (ad 98)), (1, .int a0), (2, .int a1), (3, .int x3), (4, .int x4)]) (by decide) rfl dX11_toldFrom_20 ?_
    exact r_sub [2, 3, 4, 5, 6, 1, 0] rfl (wL_X11_toldFrom_22 C hr hr_10 _  h)
set_option maxHeartbeats 4000000 in
set_option maxRecDepth 100000 in
theorem wL_X11_toldFrom_10 {l : Launch} {g : GG} {ad : Nat → Nat} {p : Program} {e : Env} {s : State} {m : MethodId} {args : Array Value} {below : List Frame} {meth : Method} {c : Code} {a0 : Int32} {a1 : Int32} {z : Int32} (C : Cx p s m args meth c RX11 cX11_toldFrom 7 g (AW ad nO)) (hr : meth.sig.returnType = (some .int)) {I : HI} {J : HJ}  : ∀ (f : Nat) {x3 : Int32} {x4 : Int32}, fL_X11_toldFrom_10 a0 a1 f x3 x4 I J = some z → V p l e (rmk 1 21) s m args below meth c (MQ below (QAi g ad nO oR z I J) args s 0 0 (AW ad nO)) 7 0 0 g (AW ad nO) ad nO oR I J 10 [(0, .ref (ad 98)), (1, .int a0), (2, .int a1), (3, .int x3), (4, .int x4)] [] := by
  intro f
  induction f with
  | zero =>
    intro _ _  h
    have h0 : (none : Option (Int32)) = some z := h
    cases h0
  | succ f ih =>
    intro _ _  h
    exact wLB_X11_toldFrom_10 C hr ih  h
set_option maxHeartbeats 4000000 in
set_option maxRecDepth 100000 in
theorem w_X11_toldFrom {l : Launch} {g : GG} {ad : Nat → Nat} {p : Program} {e : Env} {s : State} {m : MethodId} {args : Array Value} {below : List Frame} {meth : Method} {c : Code} {a0 : Int32} {a1 : Int32} {z : Int32} (C : Cx p s m args meth c RX11 cX11_toldFrom 7 g (AW ad nO)) (hr : meth.sig.returnType = (some .int)) {I : HI} {J : HJ} (h : f_X11_toldFrom a0 a1 I J = some z) : V p l e (rmk 1 21) s m args below meth c (MQ below (QAi g ad nO oR z I J) args s 0 0 (AW ad nO)) 7 0 0 g (AW ad nO) ad nO oR I J 0 [(0, .ref (ad 98)), (1, .int a0), (2, .int a1)] [] := by
  unfold f_X11_toldFrom at h
  refine r_aload_n C 0 rfl rfl dX11_toldFrom_0 ?_
  refine gf_X11_56 C rf0 o_98 (q := 114) rfl dX11_toldFrom_1 ?_
  refine r_iload_n C 1 rfl rfl dX11_toldFrom_4 ?_
  refine r_iald C o_114 h dX11_toldFrom_5 (fun h => ?_)
  refine r_nmi h (fun v16 h => ?_)
  refine r_istore_n C (lv1 := [(3, .int v16), (0, .ref (ad 98)), (1, .int a0), (2, .int a1)]) rfl (by decide) rfl dX11_toldFrom_6 ?_
  refine r_iconst C (v := 0) (by decide) dX11_toldFrom_7 ?_
  refine r_istore C (lv1 := [(4, .int (0 : Int32)), (3, .int v16), (0, .ref (ad 98)), (1, .int a0), (2, .int a1)]) (by decide) rfl dX11_toldFrom_8 ?_
  exact r_sub [2, 3, 4, 1, 0] rfl (wL_X11_toldFrom_10 C hr _  h)
set_option maxHeartbeats 4000000 in
set_option maxRecDepth 100000 in
theorem c_X11_toldFrom {l : Launch} {g : GG} {ad : Nat → Nat} {a0 : Int32} {a1 : Int32} {I : HI} {J : HJ} {r : Int32} (h : f_X11_toldFrom a0 a1 I J = some r) : CM l yX11_toldFrom cX11_toldFrom 7 (some .int) (rmk 1 21) g ad nO oR [.ref (ad 98), .int a0, .int a1] I J (QAi g ad nO oR r I J) :=
  CM_of (by decide +kernel) (Nat.le_of_ble_eq_true rfl) (fun p e s m args below meth c C hr => w_X11_toldFrom C hr h)
set_option maxHeartbeats 4000000 in
set_option maxRecDepth 100000 in
theorem wB_X11_hits_75 {l : Launch} {g : GG} {ad : Nat → Nat} {p : Program} {e : Env} {s : State} {m : MethodId} {args : Array Value} {below : List Frame} {meth : Method} {c : Code} {a0 : Int32} {a1 : Int32} {z : Int32 × HI} (C : Cx p s m args meth c RX11 cX11_hits 5 g (AW ad nO)) (hr : meth.sig.returnType = (some .int)) {r_35 : Int32 → Int32 → HI → HJ → Option (Int32 × HI)} {J : HJ} (hr_35 : ∀ {x3 : Int32} {x4 : Int32} {I : HI}, r_35 x3 x4 I J = some z → V p l e (rmk 2 47) s m args below meth c (MQ below (QAi g ad nO oR z.1 z.2 J) args s 0 0 (AW ad nO)) 5 0 0 g (AW ad nO) ad nO oR I J 35 [(0, .ref (ad 98)), (1, .int a0), (2, .int a1), (3, .int x3), (4, .int x4)] []) {x4 : Int32} {s0 : Int32} {s1 : Int32} {I : HI} (h : fB_X11_hits_75 a0 a1 r_35 x4 s0 s1 I J = some z) : V p l e (rmk 2 47) s m args below meth c (MQ below (QAi g ad nO oR z.1 z.2 J) args s 0 0 (AW ad nO)) 5 0 0 g (AW ad nO) ad nO oR I J 75 [(0, .ref (ad 98)), (1, .int a0), (2, .int a1), (4, .int x4)] [.int s0, .int s1] := by
  unfold fB_X11_hits_75 at h
  refine r_iadd C dX11_hits_75 ?_
  refine r_nmi h (fun v13 h => ?_)
  refine r_istore_n C (lv1 := [(3, .int v13), (0, .ref (ad 98)), (1, .int a0), (2, .int a1), (4, .int x4)]) rfl (by decide) rfl dX11_hits_76 ?_
  refine r_iincN C h (k := 4) (zz := 1) rfl rfl (by decide) (lv1 := fun v14 => [(4, .int v14), (3, .int v13), (0, .ref (ad 98)), (1, .int a0), (2, .int a1)]) (fun _ => rfl) dX11_hits_77 (fun v14 h => ?_)
  refine r_goto C (tgt := 35) dX11_hits_80 (by decide) ?_
  exact r_sub [2, 3, 4, 1, 0] rfl (hr_35  h)
set_option maxHeartbeats 4000000 in
set_option maxRecDepth 100000 in
theorem wLB_X11_hits_35 {l : Launch} {g : GG} {ad : Nat → Nat} {p : Program} {e : Env} {s : State} {m : MethodId} {args : Array Value} {below : List Frame} {meth : Method} {c : Code} {a0 : Int32} {a1 : Int32} {z : Int32 × HI} (C : Cx p s m args meth c RX11 cX11_hits 5 g (AW ad nO)) (hr : meth.sig.returnType = (some .int)) {J : HJ}  {r_35 : Int32 → Int32 → HI → HJ → Option (Int32 × HI)} (hr_35 : ∀ {x3 : Int32} {x4 : Int32} {I : HI}, r_35 x3 x4 I J = some z → V p l e (rmk 2 47) s m args below meth c (MQ below (QAi g ad nO oR z.1 z.2 J) args s 0 0 (AW ad nO)) 5 0 0 g (AW ad nO) ad nO oR I J 35 [(0, .ref (ad 98)), (1, .int a0), (2, .int a1), (3, .int x3), (4, .int x4)] []) {x3 : Int32} {x4 : Int32} {I : HI} (h : fLB_X11_hits_35 a0 a1 r_35 x3 x4 I J = some z) : V p l e (rmk 2 47) s m args below meth c (MQ below (QAi g ad nO oR z.1 z.2 J) args s 0 0 (AW ad nO)) 5 0 0 g (AW ad nO) ad nO oR I J 35 [(0, .ref (ad 98)), (1, .int a0), (2, .int a1), (3, .int x3), (4, .int x4)] [] := by
  unfold fLB_X11_hits_35 at h
  refine r_iload C 4 rfl dX11_hits_35 ?_
  refine r_iload_n C 1 rfl rfl dX11_hits_37 ?_
  refine r_iadd C dX11_hits_38 ?_
  refine r_aload_n C 0 rfl rfl dX11_hits_39 ?_
  refine gf_X11_228 C o_98 dX11_hits_40 ?_
  refine r_pc (pc1 := 43) rfl ?_
  refine r_icmp_ge C (tgt := 83) h dX11_hits_43 (by decide) (fun h => ?_) (fun h => ?_)
  · refine r_iload_n C 3 rfl rfl dX11_hits_83 ?_
    have hz9 := Option.some.inj h
    subst hz9
    exact r_iret C hr dX11_hits_84
  · refine r_iload_n C 3 rfl rfl dX11_hits_46 ?_
    refine r_aload_n C 0 rfl rfl dX11_hits_47 ?_
    refine r_iload C 4 rfl dX11_hits_48 ?_
    refine r_iload_n C 1 rfl rfl dX11_hits_50 ?_
    obtain ⟨r15, hq16, h⟩ := bd1_ h
    refine r_cvi C (rest := [.int x3]) (c_X11_toldFrom  hq16) fm_X11_toldFrom lk_X11_252 o_98 ⟨_, ct_10 o_98.1⟩ rfl rfl ⟨rfl, rfl, Nat.le_of_ble_eq_true rfl, Nat.le_of_ble_eq_true rfl⟩ (Nat.le_of_ble_eq_true rfl) rfl dX11_hits_51 ?_
    refine r_aload_n C 0 rfl rfl dX11_hits_54 ?_
    refine gf_X11_56 C rf0 o_98 (q := 114) rfl dX11_hits_55 ?_
    refine r_iload C 4 rfl dX11_hits_58 ?_
    refine r_iload_n C 1 rfl rfl dX11_hits_60 ?_
    refine r_iadd C dX11_hits_61 ?_
    refine r_pc (pc1 := 62) rfl ?_
    refine r_iald C o_114 h dX11_hits_62 (fun h => ?_)
    obtain ⟨r17, hq18, h⟩ := bd1_ h
    refine r_csi C (rest := [.int x3]) (c_X11_off  hq18) fm_X11_off lk_X11_246 rfl ⟨rfl, rfl, Nat.le_of_ble_eq_true rfl, Nat.le_of_ble_eq_true rfl⟩ (Nat.le_of_ble_eq_true rfl) rfl dX11_hits_63 ?_
    refine r_iload_n C 2 rfl rfl dX11_hits_66 ?_
    refine r_icmp_gt C (tgt := 74) h dX11_hits_67 (by decide) (fun h => ?_) (fun h => ?_)
    · refine r_iconst C (v := 0) (by decide) dX11_hits_74 ?_
      exact r_sub [0, 1, 2, 4] rfl (wB_X11_hits_75 C hr hr_35  h)
    · refine r_iconst C (v := 1) (by decide) dX11_hits_70 ?_
      refine r_goto C (tgt := 75) dX11_hits_71 (by decide) ?_
      exact r_sub [0, 1, 2, 4] rfl (wB_X11_hits_75 C hr hr_35  h)
set_option maxHeartbeats 4000000 in
set_option maxRecDepth 100000 in
theorem wL_X11_hits_35 {l : Launch} {g : GG} {ad : Nat → Nat} {p : Program} {e : Env} {s : State} {m : MethodId} {args : Array Value} {below : List Frame} {meth : Method} {c : Code} {a0 : Int32} {a1 : Int32} {z : Int32 × HI} (C : Cx p s m args meth c RX11 cX11_hits 5 g (AW ad nO)) (hr : meth.sig.returnType = (some .int)) {J : HJ}  : ∀ (f : Nat) {x3 : Int32} {x4 : Int32} {I : HI}, fL_X11_hits_35 a0 a1 f x3 x4 I J = some z → V p l e (rmk 2 47) s m args below meth c (MQ below (QAi g ad nO oR z.1 z.2 J) args s 0 0 (AW ad nO)) 5 0 0 g (AW ad nO) ad nO oR I J 35 [(0, .ref (ad 98)), (1, .int a0), (2, .int a1), (3, .int x3), (4, .int x4)] [] := by
  intro f
  induction f with
  | zero =>
    intro _ _ _  h
    have h0 : (none : Option (Int32 × HI)) = some z := h
    cases h0
  | succ f ih =>
    intro _ _ _  h
    exact wLB_X11_hits_35 C hr ih  h
set_option maxHeartbeats 4000000 in
set_option maxRecDepth 100000 in
theorem w_X11_hits {l : Launch} {g : GG} {ad : Nat → Nat} {p : Program} {e : Env} {s : State} {m : MethodId} {args : Array Value} {below : List Frame} {meth : Method} {c : Code} {a0 : Int32} {a1 : Int32} {z : Int32 × HI} (C : Cx p s m args meth c RX11 cX11_hits 5 g (AW ad nO)) (hr : meth.sig.returnType = (some .int)) {I : HI} {J : HJ} (h : f_X11_hits a0 a1 I J = some z) : V p l e (rmk 2 47) s m args below meth c (MQ below (QAi g ad nO oR z.1 z.2 J) args s 0 0 (AW ad nO)) 5 0 0 g (AW ad nO) ad nO oR I J 0 [(0, .ref (ad 98)), (1, .int a0), (2, .int a1)] [] := by
  unfold f_X11_hits at h
  refine r_iload_n C 1 rfl rfl dX11_hits_0 ?_
  refine r_i2l C dX11_hits_1 ?_
  refine r_lconst C (v := 1) (by decide) dX11_hits_2 ?_
  refine r_ldc2 C (v := 9) lk_X11_250 dX11_hits_3 ?_
  obtain ⟨r19, hq20, h⟩ := bd1_ h
  refine r_csi C (rest := []) (c_X11_in  hq20) fm_X11_in lk_X11_114 rfl ⟨rfl, rfl, Nat.le_of_ble_eq_true rfl, Nat.le_of_ble_eq_true rfl⟩ (Nat.le_of_ble_eq_true rfl) rfl dX11_hits_6 ?_
  refine r_if_eq C (tgt := 24) h dX11_hits_9 (by decide) (fun h => ?_) (fun h => ?_)
  · refine r_iconst C (v := -1) (by decide) dX11_hits_24 ?_
    have hz9 := Option.some.inj h
    subst hz9
    exact r_iret C hr dX11_hits_25
  · refine r_iload_n C 2 rfl rfl dX11_hits_12 ?_
    refine r_i2l C dX11_hits_13 ?_
    refine r_lconst C (v := 0) (by decide) dX11_hits_14 ?_
    refine r_ldc2 C (v := 9999) lk_X11_124 dX11_hits_15 ?_
    obtain ⟨r21, hq22, h⟩ := bd1_ h
    refine r_csi C (rest := []) (c_X11_in  hq22) fm_X11_in lk_X11_114 rfl ⟨rfl, rfl, Nat.le_of_ble_eq_true rfl, Nat.le_of_ble_eq_true rfl⟩ (Nat.le_of_ble_eq_true rfl) rfl dX11_hits_18 ?_
    refine r_if_ne C (tgt := 26) h dX11_hits_21 (by decide) (fun h => ?_) (fun h => ?_)
    · refine r_aload_n C 0 rfl rfl dX11_hits_26 ?_
      obtain ⟨I23, hq24, h⟩ := bd1_ h
      refine r_cvv C (rest := []) (c_X11_looks  hq24) fm_X11_looks lk_X11_237 o_98 ⟨_, ct_10 o_98.1⟩ rfl rfl ⟨rfl, rfl, Nat.le_of_ble_eq_true rfl, Nat.le_of_ble_eq_true rfl⟩ (Nat.le_of_ble_eq_true rfl) rfl dX11_hits_27 ?_
      refine r_iconst C (v := 0) (by decide) dX11_hits_30 ?_
      refine r_istore_n C (lv1 := [(3, .int (0 : Int32)), (0, .ref (ad 98)), (1, .int a0), (2, .int a1)]) rfl (by decide) rfl dX11_hits_31 ?_
      refine r_iconst C (v := 1) (by decide) dX11_hits_32 ?_
      refine r_istore C (lv1 := [(4, .int (1 : Int32)), (3, .int (0 : Int32)), (0, .ref (ad 98)), (1, .int a0), (2, .int a1)]) (by decide) rfl dX11_hits_33 ?_
      exact r_sub [2, 3, 4, 1, 0] rfl (wL_X11_hits_35 C hr _  h)
    · refine r_iconst C (v := -1) (by decide) dX11_hits_24 ?_
      have hz9 := Option.some.inj h
      subst hz9
      exact r_iret C hr dX11_hits_25
set_option maxHeartbeats 4000000 in
set_option maxRecDepth 100000 in
theorem c_X11_hits {l : Launch} {g : GG} {ad : Nat → Nat} {a0 : Int32} {a1 : Int32} {I : HI} {J : HJ} {r : Int32} {I1 : HI} (h : f_X11_hits a0 a1 I J = some (r, I1)) : CM l yX11_hits cX11_hits 5 (some .int) (rmk 2 47) g ad nO oR [.ref (ad 98), .int a0, .int a1] I J (QAi g ad nO oR r I1 J) :=
  CM_of (by decide +kernel) (Nat.le_of_ble_eq_true rfl) (fun p e s m args below meth c C hr => w_X11_hits C hr h)
set_option maxHeartbeats 4000000 in
set_option maxRecDepth 100000 in
theorem w_X11_ahead {l : Launch} {g : GG} {ad : Nat → Nat} {p : Program} {e : Env} {s : State} {m : MethodId} {args : Array Value} {below : List Frame} {meth : Method} {c : Code} {a0 : Int32} {z : Int32 × HI} (C : Cx p s m args meth c RX11 cX11_ahead 2 g (AW ad nO)) (hr : meth.sig.returnType = (some .int)) {I : HI} {J : HJ} (h : f_X11_ahead a0 I J = some z) : V p l e (rmk 2 47) s m args below meth c (MQ below (QAi g ad nO oR z.1 z.2 J) args s 0 0 (AW ad nO)) 2 0 0 g (AW ad nO) ad nO oR I J 0 [(0, .ref (ad 98)), (1, .int a0)] [] := by
  unfold f_X11_ahead at h
  refine r_iload_n C 1 rfl rfl dX11_ahead_0 ?_
  refine r_i2l C dX11_ahead_1 ?_
  refine r_lconst C (v := 1) (by decide) dX11_ahead_2 ?_
  refine r_ldc2 C (v := 9) lk_X11_250 dX11_ahead_3 ?_
  obtain ⟨r7, hq8, h⟩ := bd1_ h
  refine r_csi C (rest := []) (c_X11_in  hq8) fm_X11_in lk_X11_114 rfl ⟨rfl, rfl, Nat.le_of_ble_eq_true rfl, Nat.le_of_ble_eq_true rfl⟩ (Nat.le_of_ble_eq_true rfl) rfl dX11_ahead_6 ?_
  refine r_if_ne C (tgt := 14) h dX11_ahead_9 (by decide) (fun h => ?_) (fun h => ?_)
  · refine r_aload_n C 0 rfl rfl dX11_ahead_14 ?_
    obtain ⟨I9, hq10, h⟩ := bd1_ h
    refine r_cvv C (rest := []) (c_X11_looks  hq10) fm_X11_looks lk_X11_237 o_98 ⟨_, ct_10 o_98.1⟩ rfl rfl ⟨rfl, rfl, Nat.le_of_ble_eq_true rfl, Nat.le_of_ble_eq_true rfl⟩ (Nat.le_of_ble_eq_true rfl) rfl dX11_ahead_15 ?_
    refine r_aload_n C 0 rfl rfl dX11_ahead_18 ?_
    refine gf_X11_228 C o_98 dX11_ahead_19 ?_
    refine r_iconst C (v := 2) (by decide) dX11_ahead_22 ?_
    refine r_icmp_ge C (tgt := 31) h dX11_ahead_23 (by decide) (fun h => ?_) (fun h => ?_)
    · refine r_aload_n C 0 rfl rfl dX11_ahead_31 ?_
      refine r_aload_n C 0 rfl rfl dX11_ahead_32 ?_
      refine gf_X11_228 C o_98 dX11_ahead_33 ?_
      refine r_iconst C (v := 1) (by decide) dX11_ahead_36 ?_
      refine r_isub C dX11_ahead_37 ?_
      refine r_pc (pc1 := 38) rfl ?_
      refine r_iload_n C 1 rfl rfl dX11_ahead_38 ?_
      obtain ⟨r11, hq12, h⟩ := bd1_ h
      refine r_cvi C (rest := []) (c_X11_toldFrom  hq12) fm_X11_toldFrom lk_X11_252 o_98 ⟨_, ct_10 o_98.1⟩ rfl rfl ⟨rfl, rfl, Nat.le_of_ble_eq_true rfl, Nat.le_of_ble_eq_true rfl⟩ (Nat.le_of_ble_eq_true rfl) rfl dX11_ahead_39 ?_
      have hz9 := Option.some.inj h
      subst hz9
      exact r_iret C hr dX11_ahead_42
    · refine r_bipush C (v := -3) (by decide) dX11_ahead_26 ?_
      refine r_goto C (tgt := 42) dX11_ahead_28 (by decide) ?_
      have hz9 := Option.some.inj h
      subst hz9
      exact r_iret C hr dX11_ahead_42
  · refine r_iconst C (v := -1) (by decide) dX11_ahead_12 ?_
    have hz9 := Option.some.inj h
    subst hz9
    exact r_iret C hr dX11_ahead_13
set_option maxHeartbeats 4000000 in
set_option maxRecDepth 100000 in
theorem c_X11_ahead {l : Launch} {g : GG} {ad : Nat → Nat} {a0 : Int32} {I : HI} {J : HJ} {r : Int32} {I1 : HI} (h : f_X11_ahead a0 I J = some (r, I1)) : CM l yX11_ahead cX11_ahead 2 (some .int) (rmk 2 47) g ad nO oR [.ref (ad 98), .int a0] I J (QAi g ad nO oR r I1 J) :=
  CM_of (by decide +kernel) (Nat.le_of_ble_eq_true rfl) (fun p e s m args below meth c C hr => w_X11_ahead C hr h)
set_option maxHeartbeats 4000000 in
set_option maxRecDepth 100000 in
theorem wLB_X11_divisor_4 {l : Launch} {g : GG} {ad : Nat → Nat} {p : Program} {e : Env} {s : State} {m : MethodId} {args : Array Value} {below : List Frame} {meth : Method} {c : Code} {a0 : Int32} {a1 : Int32} {z : Int32} (C : Cx p s m args meth c RX11 cX11_divisor 5 g (AW ad nO)) (hr : meth.sig.returnType = (some .int)) {I : HI} {J : HJ}  {r_4 : Int32 → Int32 → Option (Int32)} (hr_4 : ∀ {x2 : Int32} {x3 : Int32}, r_4 x2 x3 = some z → V p l e (rmk 0 0) s m args below meth c (MQ below (QAi g ad nO oR z I J) args s 0 0 (AW ad nO)) 5 0 0 g (AW ad nO) ad nO oR I J 4 [(2, .int x2), (3, .int x3)] []) {x2 : Int32} {x3 : Int32} (h : fLB_X11_divisor_4 a0 a1 r_4 x2 x3 = some z) : V p l e (rmk 0 0) s m args below meth c (MQ below (QAi g ad nO oR z I J) args s 0 0 (AW ad nO)) 5 0 0 g (AW ad nO) ad nO oR I J 4 [(2, .int x2), (3, .int x3)] [] := by
  unfold fLB_X11_divisor_4 at h
  refine r_iload_n C 1 rfl rfl dX11_divisor_4 ?_
  refine r_if_le C (tgt := 21) h dX11_divisor_5 (by decide) (fun h => ?_) (fun h => ?_)
  · refine r_iload_n C 0 rfl rfl dX11_divisor_21 ?_
    have hz9 := Option.some.inj h
    subst hz9
    exact r_iret C hr dX11_divisor_22
  · refine r_iload_n C 0 rfl rfl dX11_divisor_8 ?_
    refine r_iload_n C 1 rfl rfl dX11_divisor_9 ?_
    refine r_irem C h dX11_divisor_10 (fun h => ?_)
    refine r_nmi h (fun v2 h => ?_)
    refine r_istore C (lv1 := [(4, .int v2), (2, .int x2), (3, .int x3)]) (by decide) rfl dX11_divisor_11 ?_
    refine r_iload_n C 2 rfl rfl dX11_divisor_13 ?_
    refine r_istore_n C (lv1 := [(2, .int x3), (4, .int v2), (3, .int x3)]) rfl (by decide) rfl dX11_divisor_14 ?_
    refine r_iload C 1 rfl dX11_divisor_15 ?_
    refine r_istore_n C (lv1 := [(3, .int v2), (2, .int x3), (4, .int v2)]) rfl (by decide) rfl dX11_divisor_17 ?_
    refine r_goto C (tgt := 4) dX11_divisor_18 (by decide) ?_
    exact r_sub [1, 0] rfl (hr_4  h)
set_option maxHeartbeats 4000000 in
set_option maxRecDepth 100000 in
theorem wL_X11_divisor_4 {l : Launch} {g : GG} {ad : Nat → Nat} {p : Program} {e : Env} {s : State} {m : MethodId} {args : Array Value} {below : List Frame} {meth : Method} {c : Code} {a0 : Int32} {a1 : Int32} {z : Int32} (C : Cx p s m args meth c RX11 cX11_divisor 5 g (AW ad nO)) (hr : meth.sig.returnType = (some .int)) {I : HI} {J : HJ}  : ∀ (f : Nat) {x2 : Int32} {x3 : Int32}, fL_X11_divisor_4 a0 a1 f x2 x3 = some z → V p l e (rmk 0 0) s m args below meth c (MQ below (QAi g ad nO oR z I J) args s 0 0 (AW ad nO)) 5 0 0 g (AW ad nO) ad nO oR I J 4 [(2, .int x2), (3, .int x3)] [] := by
  intro f
  induction f with
  | zero =>
    intro _ _  h
    have h0 : (none : Option (Int32)) = some z := h
    cases h0
  | succ f ih =>
    intro _ _  h
    exact wLB_X11_divisor_4 C hr ih  h
set_option maxHeartbeats 4000000 in
set_option maxRecDepth 100000 in
theorem w_X11_divisor {l : Launch} {g : GG} {ad : Nat → Nat} {p : Program} {e : Env} {s : State} {m : MethodId} {args : Array Value} {below : List Frame} {meth : Method} {c : Code} {a0 : Int32} {a1 : Int32} {z : Int32} (C : Cx p s m args meth c RX11 cX11_divisor 5 g (AW ad nO)) (hr : meth.sig.returnType = (some .int)) {I : HI} {J : HJ} (h : f_X11_divisor a0 a1 = some z) : V p l e (rmk 0 0) s m args below meth c (MQ below (QAi g ad nO oR z I J) args s 0 0 (AW ad nO)) 5 0 0 g (AW ad nO) ad nO oR I J 0 [(0, .int a0), (1, .int a1)] [] := by
  unfold f_X11_divisor at h
  refine r_iload_n C 0 rfl rfl dX11_divisor_0 ?_
  refine r_istore_n C (lv1 := [(2, .int a0), (0, .int a0), (1, .int a1)]) rfl (by decide) rfl dX11_divisor_1 ?_
  refine r_iload_n C 2 rfl rfl dX11_divisor_2 ?_
  refine r_istore_n C (lv1 := [(3, .int a1), (2, .int a0), (0, .int a0), (1, .int a1)]) rfl (by decide) rfl dX11_divisor_3 ?_
  exact r_sub [1, 0] rfl (wL_X11_divisor_4 C hr _  h)
set_option maxHeartbeats 4000000 in
set_option maxRecDepth 100000 in
theorem c_X11_divisor {l : Launch} {g : GG} {ad : Nat → Nat} {a0 : Int32} {a1 : Int32} {I : HI} {J : HJ} {r : Int32} (h : f_X11_divisor a0 a1 = some r) : CM l yX11_divisor cX11_divisor 5 (some .int) (rmk 0 0) g ad nO oR [.int a0, .int a1] I J (QAi g ad nO oR r I J) :=
  CM_of (by decide +kernel) (Nat.le_of_ble_eq_true rfl) (fun p e s m args below meth c C hr => w_X11_divisor C hr h)
set_option maxHeartbeats 4000000 in
set_option maxRecDepth 100000 in
theorem wB_X11_rule_116 {l : Launch} {g : GG} {ad : Nat → Nat} {p : Program} {e : Env} {s : State} {m : MethodId} {args : Array Value} {below : List Frame} {meth : Method} {c : Code} {a0 : Int32} {a1 : Int32} {z : Int32 × HI} (C : Cx p s m args meth c RX11 cX11_rule 7 g (AW ad nO)) (hr : meth.sig.returnType = (some .int)) {r_36 : Int32 → Int32 → Int32 → HI → HJ → Option (Int32 × HI)} {r_50 : Int32 → Int32 → Int32 → Int32 → HI → HJ → Option (Int32 × HI)} {J : HJ} (hr_36 : ∀ {x3 : Int32} {x4 : Int32} {x5 : Int32} {I : HI}, r_36 x3 x4 x5 I J = some z → V p l e (rmk 1 25) s m args below meth c (MQ below (QAi g ad nO oR z.1 z.2 J) args s 0 0 (AW ad nO)) 7 0 0 g (AW ad nO) ad nO oR I J 36 [(0, .ref (ad 98)), (1, .int a0), (2, .int a1), (3, .int x3), (4, .int x4), (5, .int x5)] []) (hr_50 : ∀ {x3 : Int32} {x4 : Int32} {x5 : Int32} {x6 : Int32} {I : HI}, r_50 x3 x4 x5 x6 I J = some z → V p l e (rmk 1 25) s m args below meth c (MQ below (QAi g ad nO oR z.1 z.2 J) args s 0 0 (AW ad nO)) 7 0 0 g (AW ad nO) ad nO oR I J 50 [(0, .ref (ad 98)), (1, .int a0), (2, .int a1), (3, .int x3), (4, .int x4), (5, .int x5), (6, .int x6)] []) {x3 : Int32} {x4 : Int32} {x5 : Int32} {x6 : Int32} {I : HI} (h : fB_X11_rule_116 a0 a1 r_36 r_50 x3 x4 x5 x6 I J = some z) : V p l e (rmk 1 25) s m args below meth c (MQ below (QAi g ad nO oR z.1 z.2 J) args s 0 0 (AW ad nO)) 7 0 0 g (AW ad nO) ad nO oR I J 116 [(0, .ref (ad 98)), (1, .int a0), (2, .int a1), (3, .int x3), (4, .int x4), (5, .int x5), (6, .int x6)] [] := by
  unfold fB_X11_rule_116 at h
  refine r_iincN C h (k := 6) (zz := 1) rfl rfl (by decide) (lv1 := fun v17 => [(6, .int v17), (0, .ref (ad 98)), (1, .int a0), (2, .int a1), (3, .int x3), (4, .int x4), (5, .int x5)]) (fun _ => rfl) dX11_rule_116 (fun v17 h => ?_)
  refine r_goto C (tgt := 50) dX11_rule_119 (by decide) ?_
  exact r_sub [1, 2, 3, 4, 5, 6, 0] rfl (hr_50  h)
set_option maxHeartbeats 4000000 in
set_option maxRecDepth 100000 in
theorem wB_X11_rule_113 {l : Launch} {g : GG} {ad : Nat → Nat} {p : Program} {e : Env} {s : State} {m : MethodId} {args : Array Value} {below : List Frame} {meth : Method} {c : Code} {a0 : Int32} {a1 : Int32} {z : Int32 × HI} (C : Cx p s m args meth c RX11 cX11_rule 7 g (AW ad nO)) (hr : meth.sig.returnType = (some .int)) {r_36 : Int32 → Int32 → Int32 → HI → HJ → Option (Int32 × HI)} {r_50 : Int32 → Int32 → Int32 → Int32 → HI → HJ → Option (Int32 × HI)} {J : HJ} (hr_36 : ∀ {x3 : Int32} {x4 : Int32} {x5 : Int32} {I : HI}, r_36 x3 x4 x5 I J = some z → V p l e (rmk 1 25) s m args below meth c (MQ below (QAi g ad nO oR z.1 z.2 J) args s 0 0 (AW ad nO)) 7 0 0 g (AW ad nO) ad nO oR I J 36 [(0, .ref (ad 98)), (1, .int a0), (2, .int a1), (3, .int x3), (4, .int x4), (5, .int x5)] []) (hr_50 : ∀ {x3 : Int32} {x4 : Int32} {x5 : Int32} {x6 : Int32} {I : HI}, r_50 x3 x4 x5 x6 I J = some z → V p l e (rmk 1 25) s m args below meth c (MQ below (QAi g ad nO oR z.1 z.2 J) args s 0 0 (AW ad nO)) 7 0 0 g (AW ad nO) ad nO oR I J 50 [(0, .ref (ad 98)), (1, .int a0), (2, .int a1), (3, .int x3), (4, .int x4), (5, .int x5), (6, .int x6)] []) {x3 : Int32} {x5 : Int32} {x6 : Int32} {s0 : Int32} {s1 : Int32} {I : HI} (h : fB_X11_rule_113 a0 a1 r_36 r_50 x3 x5 x6 s0 s1 I J = some z) : V p l e (rmk 1 25) s m args below meth c (MQ below (QAi g ad nO oR z.1 z.2 J) args s 0 0 (AW ad nO)) 7 0 0 g (AW ad nO) ad nO oR I J 113 [(0, .ref (ad 98)), (1, .int a0), (2, .int a1), (3, .int x3), (5, .int x5), (6, .int x6)] [.int s0, .int s1] := by
  unfold fB_X11_rule_113 at h
  refine r_iadd C dX11_rule_113 ?_
  refine r_nmi h (fun v18 h => ?_)
  refine r_istore C (lv1 := [(4, .int v18), (0, .ref (ad 98)), (1, .int a0), (2, .int a1), (3, .int x3), (5, .int x5), (6, .int x6)]) (by decide) rfl dX11_rule_114 ?_
  exact r_sub [1, 2, 3, 4, 0, 5, 6] rfl (wB_X11_rule_116 C hr hr_36 hr_50  h)
set_option maxHeartbeats 4000000 in
set_option maxRecDepth 100000 in
theorem wLB_X11_rule_50 {l : Launch} {g : GG} {ad : Nat → Nat} {p : Program} {e : Env} {s : State} {m : MethodId} {args : Array Value} {below : List Frame} {meth : Method} {c : Code} {a0 : Int32} {a1 : Int32} {z : Int32 × HI} (C : Cx p s m args meth c RX11 cX11_rule 7 g (AW ad nO)) (hr : meth.sig.returnType = (some .int)) {r_36 : Int32 → Int32 → Int32 → HI → HJ → Option (Int32 × HI)} {J : HJ} (hr_36 : ∀ {x3 : Int32} {x4 : Int32} {x5 : Int32} {I : HI}, r_36 x3 x4 x5 I J = some z → V p l e (rmk 1 25) s m args below meth c (MQ below (QAi g ad nO oR z.1 z.2 J) args s 0 0 (AW ad nO)) 7 0 0 g (AW ad nO) ad nO oR I J 36 [(0, .ref (ad 98)), (1, .int a0), (2, .int a1), (3, .int x3), (4, .int x4), (5, .int x5)] []) {r_50 : Int32 → Int32 → Int32 → Int32 → HI → HJ → Option (Int32 × HI)} (hr_50 : ∀ {x3 : Int32} {x4 : Int32} {x5 : Int32} {x6 : Int32} {I : HI}, r_50 x3 x4 x5 x6 I J = some z → V p l e (rmk 1 25) s m args below meth c (MQ below (QAi g ad nO oR z.1 z.2 J) args s 0 0 (AW ad nO)) 7 0 0 g (AW ad nO) ad nO oR I J 50 [(0, .ref (ad 98)), (1, .int a0), (2, .int a1), (3, .int x3), (4, .int x4), (5, .int x5), (6, .int x6)] []) {x3 : Int32} {x4 : Int32} {x5 : Int32} {x6 : Int32} {I : HI} (h : fLB_X11_rule_50 a0 a1 r_36 r_50 x3 x4 x5 x6 I J = some z) : V p l e (rmk 1 25) s m args below meth c (MQ below (QAi g ad nO oR z.1 z.2 J) args s 0 0 (AW ad nO)) 7 0 0 g (AW ad nO) ad nO oR I J 50 [(0, .ref (ad 98)), (1, .int a0), (2, .int a1), (3, .int x3), (4, .int x4), (5, .int x5), (6, .int x6)] [] := by
  unfold fLB_X11_rule_50 at h
  refine r_iload C 6 rfl dX11_rule_50 ?_
  refine r_iload C 5 rfl dX11_rule_52 ?_
  refine r_icmp_ge C (tgt := 122) h dX11_rule_54 (by decide) (fun h => ?_) (fun h => ?_)
  · refine r_iincN C h (k := 5) (zz := 1) rfl rfl (by decide) (lv1 := fun v19 => [(5, .int v19), (0, .ref (ad 98)), (1, .int a0), (2, .int a1), (3, .int x3), (4, .int x4), (6, .int x6)]) (fun _ => rfl) dX11_rule_122 (fun v19 h => ?_)
    refine r_goto C (tgt := 36) dX11_rule_125 (by decide) ?_
    exact r_sub [1, 2, 3, 4, 5, 0] rfl (hr_36  h)
  · refine r_aload_n C 0 rfl rfl dX11_rule_57 ?_
    refine gf_X11_56 C rf0 o_98 (q := 114) rfl dX11_rule_58 ?_
    refine r_iload C 6 rfl dX11_rule_61 ?_
    refine r_iald C o_114 h dX11_rule_63 (fun h => ?_)
    refine r_aload_n C 0 rfl rfl dX11_rule_64 ?_
    refine gf_X11_56 C rf0 o_98 (q := 114) rfl dX11_rule_65 ?_
    refine r_iload C 5 rfl dX11_rule_68 ?_
    refine r_iald C o_114 h dX11_rule_70 (fun h => ?_)
    obtain ⟨r20, hq21, h⟩ := bd1_ h
    refine r_csi C (rest := []) (c_X11_off  hq21) fm_X11_off lk_X11_246 rfl ⟨rfl, rfl, Nat.le_of_ble_eq_true rfl, Nat.le_of_ble_eq_true rfl⟩ (Nat.le_of_ble_eq_true rfl) rfl dX11_rule_71 ?_
    refine r_iload_n C 1 rfl rfl dX11_rule_74 ?_
    refine r_icmp_gt C (tgt := 116) h dX11_rule_75 (by decide) (fun h => ?_) (fun h => ?_)
    · exact wB_X11_rule_116 C hr hr_36 hr_50  h
    · refine r_iincN C h (k := 3) (zz := 1) rfl rfl (by decide) (lv1 := fun v22 => [(3, .int v22), (0, .ref (ad 98)), (1, .int a0), (2, .int a1), (4, .int x4), (5, .int x5), (6, .int x6)]) (fun _ => rfl) dX11_rule_78 (fun v22 h => ?_)
      refine r_iload C 4 rfl dX11_rule_81 ?_
      refine r_aload_n C 1 rfl rfl dX11_rule_83 ?_
      refine gf_X11_56 C rf0 o_98 (q := 114) rfl dX11_rule_84 ?_
      refine r_iload C 6 rfl dX11_rule_87 ?_
      refine r_iconst C (v := 1) (by decide) dX11_rule_89 ?_
      refine r_pc (pc1 := 90) rfl ?_
      refine r_iadd C dX11_rule_90 ?_
      refine r_iald C o_114 h dX11_rule_91 (fun h => ?_)
      refine r_aload_n C 1 rfl rfl dX11_rule_92 ?_
      refine gf_X11_56 C rf0 o_98 (q := 114) rfl dX11_rule_93 ?_
      refine r_iload C 5 rfl dX11_rule_96 ?_
      refine r_iconst C (v := 1) (by decide) dX11_rule_98 ?_
      refine r_iadd C dX11_rule_99 ?_
      refine r_pc (pc1 := 100) rfl ?_
      refine r_iald C o_114 h dX11_rule_100 (fun h => ?_)
      obtain ⟨r23, hq24, h⟩ := bd1_ h
      refine r_csi C (rest := [.int x4]) (c_X11_off  hq24) fm_X11_off lk_X11_246 rfl ⟨rfl, rfl, Nat.le_of_ble_eq_true rfl, Nat.le_of_ble_eq_true rfl⟩ (Nat.le_of_ble_eq_true rfl) rfl dX11_rule_101 ?_
      refine r_iload_n C 2 rfl rfl dX11_rule_104 ?_
      refine r_icmp_gt C (tgt := 112) h dX11_rule_105 (by decide) (fun h => ?_) (fun h => ?_)
      · refine r_iconst C (v := 0) (by decide) dX11_rule_112 ?_
        exact r_sub [1, 2, 3, 0, 5, 6] rfl (wB_X11_rule_113 C hr hr_36 hr_50  h)
      · refine r_iconst C (v := 1) (by decide) dX11_rule_108 ?_
        refine r_goto C (tgt := 113) dX11_rule_109 (by decide) ?_
        exact r_sub [1, 2, 3, 0, 5, 6] rfl (wB_X11_rule_113 C hr hr_36 hr_50  h)
set_option maxHeartbeats 4000000 in
set_option maxRecDepth 100000 in
theorem wL_X11_rule_50 {l : Launch} {g : GG} {ad : Nat → Nat} {p : Program} {e : Env} {s : State} {m : MethodId} {args : Array Value} {below : List Frame} {meth : Method} {c : Code} {a0 : Int32} {a1 : Int32} {z : Int32 × HI} (C : Cx p s m args meth c RX11 cX11_rule 7 g (AW ad nO)) (hr : meth.sig.returnType = (some .int)) {r_36 : Int32 → Int32 → Int32 → HI → HJ → Option (Int32 × HI)} {J : HJ} (hr_36 : ∀ {x3 : Int32} {x4 : Int32} {x5 : Int32} {I : HI}, r_36 x3 x4 x5 I J = some z → V p l e (rmk 1 25) s m args below meth c (MQ below (QAi g ad nO oR z.1 z.2 J) args s 0 0 (AW ad nO)) 7 0 0 g (AW ad nO) ad nO oR I J 36 [(0, .ref (ad 98)), (1, .int a0), (2, .int a1), (3, .int x3), (4, .int x4), (5, .int x5)] []) : ∀ (f : Nat) {x3 : Int32} {x4 : Int32} {x5 : Int32} {x6 : Int32} {I : HI}, fL_X11_rule_50 a0 a1 r_36 f x3 x4 x5 x6 I J = some z → V p l e (rmk 1 25) s m args below meth c (MQ below (QAi g ad nO oR z.1 z.2 J) args s 0 0 (AW ad nO)) 7 0 0 g (AW ad nO) ad nO oR I J 50 [(0, .ref (ad 98)), (1, .int a0), (2, .int a1), (3, .int x3), (4, .int x4), (5, .int x5), (6, .int x6)] [] := by
  intro f
  induction f with
  | zero =>
    intro _ _ _ _ _  h
    have h0 : (none : Option (Int32 × HI)) = some z := h
    cases h0
  | succ f ih =>
    intro _ _ _ _ _  h
    exact wLB_X11_rule_50 C hr hr_36 ih  h
set_option maxHeartbeats 4000000 in
set_option maxRecDepth 100000 in
theorem wLB_X11_rule_36 {l : Launch} {g : GG} {ad : Nat → Nat} {p : Program} {e : Env} {s : State} {m : MethodId} {args : Array Value} {below : List Frame} {meth : Method} {c : Code} {a0 : Int32} {a1 : Int32} {z : Int32 × HI} (C : Cx p s m args meth c RX11 cX11_rule 7 g (AW ad nO)) (hr : meth.sig.returnType = (some .int)) {J : HJ}  {r_36 : Int32 → Int32 → Int32 → HI → HJ → Option (Int32 × HI)} (hr_36 : ∀ {x3 : Int32} {x4 : Int32} {x5 : Int32} {I : HI}, r_36 x3 x4 x5 I J = some z → V p l e (rmk 1 25) s m args below meth c (MQ below (QAi g ad nO oR z.1 z.2 J) args s 0 0 (AW ad nO)) 7 0 0 g (AW ad nO) ad nO oR I J 36 [(0, .ref (ad 98)), (1, .int a0), (2, .int a1), (3, .int x3), (4, .int x4), (5, .int x5)] []) {x3 : Int32} {x4 : Int32} {x5 : Int32} {I : HI} (h : fLB_X11_rule_36 a0 a1 r_36 x3 x4 x5 I J = some z) : V p l e (rmk 1 25) s m args below meth c (MQ below (QAi g ad nO oR z.1 z.2 J) args s 0 0 (AW ad nO)) 7 0 0 g (AW ad nO) ad nO oR I J 36 [(0, .ref (ad 98)), (1, .int a0), (2, .int a1), (3, .int x3), (4, .int x4), (5, .int x5)] [] := by
  unfold fLB_X11_rule_36 at h
  refine r_iload C 5 rfl dX11_rule_36 ?_
  refine r_iconst C (v := 1) (by decide) dX11_rule_38 ?_
  refine r_iadd C dX11_rule_39 ?_
  refine r_aload_n C 0 rfl rfl dX11_rule_40 ?_
  refine gf_X11_228 C o_98 dX11_rule_41 ?_
  refine r_pc (pc1 := 44) rfl ?_
  refine r_icmp_ge C (tgt := 128) h dX11_rule_44 (by decide) (fun h => ?_) (fun h => ?_)
  · refine r_iload_n C 3 rfl rfl dX11_rule_128 ?_
    refine r_if_ne C (tgt := 135) h dX11_rule_129 (by decide) (fun h => ?_) (fun h => ?_)
    · refine r_iload C 4 rfl dX11_rule_135 ?_
      refine r_iload_n C 3 rfl rfl dX11_rule_137 ?_
      obtain ⟨r25, hq26, h⟩ := bd1_ h
      refine r_csi C (rest := []) (c_X11_divisor  hq26) fm_X11_divisor lk_X11_255 rfl ⟨rfl, rfl, Nat.le_of_ble_eq_true rfl, Nat.le_of_ble_eq_true rfl⟩ (Nat.le_of_ble_eq_true rfl) rfl dX11_rule_138 ?_
      refine r_istore C (lv1 := [(5, .int r25), (0, .ref (ad 98)), (1, .int a0), (2, .int a1), (3, .int x3), (4, .int x4)]) (by decide) rfl dX11_rule_141 ?_
      refine r_iload_n C 3 rfl rfl dX11_rule_143 ?_
      refine r_if_ne C (tgt := 155) h dX11_rule_144 (by decide) (fun h => ?_) (fun h => ?_)
      · refine r_iload_n C 4 rfl rfl dX11_rule_155 ?_
        refine r_iload C 0 rfl dX11_rule_156 ?_
        refine r_idiv C h dX11_rule_158 (fun h => ?_)
        have hz9 := Option.some.inj h
        subst hz9
        exact r_iret C hr dX11_rule_159
      · refine r_iload C 5 rfl dX11_rule_147 ?_
        refine r_iload C 0 rfl dX11_rule_149 ?_
        refine r_idiv C h dX11_rule_151 (fun h => ?_)
        refine r_goto C (tgt := 159) dX11_rule_152 (by decide) ?_
        have hz9 := Option.some.inj h
        subst hz9
        exact r_iret C hr dX11_rule_159
    · refine r_bipush C (v := -3) (by decide) dX11_rule_132 ?_
      have hz9 := Option.some.inj h
      subst hz9
      exact r_iret C hr dX11_rule_134
  · refine r_iconst C (v := 0) (by decide) dX11_rule_47 ?_
    refine r_istore C (lv1 := [(6, .int (0 : Int32)), (0, .ref (ad 98)), (1, .int a0), (2, .int a1), (3, .int x3), (4, .int x4), (5, .int x5)]) (by decide) rfl dX11_rule_48 ?_
    exact r_sub [1, 2, 3, 4, 5, 6, 0] rfl (wL_X11_rule_50 C hr hr_36 _  h)
set_option maxHeartbeats 4000000 in
set_option maxRecDepth 100000 in
theorem wL_X11_rule_36 {l : Launch} {g : GG} {ad : Nat → Nat} {p : Program} {e : Env} {s : State} {m : MethodId} {args : Array Value} {below : List Frame} {meth : Method} {c : Code} {a0 : Int32} {a1 : Int32} {z : Int32 × HI} (C : Cx p s m args meth c RX11 cX11_rule 7 g (AW ad nO)) (hr : meth.sig.returnType = (some .int)) {J : HJ}  : ∀ (f : Nat) {x3 : Int32} {x4 : Int32} {x5 : Int32} {I : HI}, fL_X11_rule_36 a0 a1 f x3 x4 x5 I J = some z → V p l e (rmk 1 25) s m args below meth c (MQ below (QAi g ad nO oR z.1 z.2 J) args s 0 0 (AW ad nO)) 7 0 0 g (AW ad nO) ad nO oR I J 36 [(0, .ref (ad 98)), (1, .int a0), (2, .int a1), (3, .int x3), (4, .int x4), (5, .int x5)] [] := by
  intro f
  induction f with
  | zero =>
    intro _ _ _ _  h
    have h0 : (none : Option (Int32 × HI)) = some z := h
    cases h0
  | succ f ih =>
    intro _ _ _ _  h
    exact wLB_X11_rule_36 C hr ih  h
set_option maxHeartbeats 4000000 in
set_option maxRecDepth 100000 in
theorem w_X11_rule {l : Launch} {g : GG} {ad : Nat → Nat} {p : Program} {e : Env} {s : State} {m : MethodId} {args : Array Value} {below : List Frame} {meth : Method} {c : Code} {a0 : Int32} {a1 : Int32} {z : Int32 × HI} (C : Cx p s m args meth c RX11 cX11_rule 7 g (AW ad nO)) (hr : meth.sig.returnType = (some .int)) {I : HI} {J : HJ} (h : f_X11_rule a0 a1 I J = some z) : V p l e (rmk 1 25) s m args below meth c (MQ below (QAi g ad nO oR z.1 z.2 J) args s 0 0 (AW ad nO)) 7 0 0 g (AW ad nO) ad nO oR I J 0 [(0, .ref (ad 98)), (1, .int a0), (2, .int a1)] [] := by
  unfold f_X11_rule at h
  refine r_iload_n C 1 rfl rfl dX11_rule_0 ?_
  refine r_i2l C dX11_rule_1 ?_
  refine r_lconst C (v := 0) (by decide) dX11_rule_2 ?_
  refine r_ldc2 C (v := 9999) lk_X11_124 dX11_rule_3 ?_
  obtain ⟨r27, hq28, h⟩ := bd1_ h
  refine r_csi C (rest := []) (c_X11_in  hq28) fm_X11_in lk_X11_114 rfl ⟨rfl, rfl, Nat.le_of_ble_eq_true rfl, Nat.le_of_ble_eq_true rfl⟩ (Nat.le_of_ble_eq_true rfl) rfl dX11_rule_6 ?_
  refine r_if_eq C (tgt := 22) h dX11_rule_9 (by decide) (fun h => ?_) (fun h => ?_)
  · refine r_iconst C (v := -1) (by decide) dX11_rule_22 ?_
    have hz9 := Option.some.inj h
    subst hz9
    exact r_iret C hr dX11_rule_23
  · refine r_iload_n C 2 rfl rfl dX11_rule_12 ?_
    refine r_i2l C dX11_rule_13 ?_
    refine r_lconst C (v := 0) (by decide) dX11_rule_14 ?_
    refine r_lconst C (v := 1) (by decide) dX11_rule_15 ?_
    obtain ⟨r29, hq30, h⟩ := bd1_ h
    refine r_csi C (rest := []) (c_X11_in  hq30) fm_X11_in lk_X11_114 rfl ⟨rfl, rfl, Nat.le_of_ble_eq_true rfl, Nat.le_of_ble_eq_true rfl⟩ (Nat.le_of_ble_eq_true rfl) rfl dX11_rule_16 ?_
    refine r_if_ne C (tgt := 24) h dX11_rule_19 (by decide) (fun h => ?_) (fun h => ?_)
    · refine r_aload_n C 0 rfl rfl dX11_rule_24 ?_
      obtain ⟨I31, hq32, h⟩ := bd1_ h
      refine r_cvv C (rest := []) (c_X11_looks  hq32) fm_X11_looks lk_X11_237 o_98 ⟨_, ct_10 o_98.1⟩ rfl rfl ⟨rfl, rfl, Nat.le_of_ble_eq_true rfl, Nat.le_of_ble_eq_true rfl⟩ (Nat.le_of_ble_eq_true rfl) rfl dX11_rule_25 ?_
      refine r_iconst C (v := 0) (by decide) dX11_rule_28 ?_
      refine r_istore_n C (lv1 := [(3, .int (0 : Int32)), (0, .ref (ad 98)), (1, .int a0), (2, .int a1)]) rfl (by decide) rfl dX11_rule_29 ?_
      refine r_iconst C (v := 0) (by decide) dX11_rule_30 ?_
      refine r_istore C (lv1 := [(4, .int (0 : Int32)), (3, .int (0 : Int32)), (0, .ref (ad 98)), (1, .int a0), (2, .int a1)]) (by decide) rfl dX11_rule_31 ?_
      refine r_iconst C (v := 1) (by decide) dX11_rule_33 ?_
      refine r_istore C (lv1 := [(5, .int (1 : Int32)), (4, .int (0 : Int32)), (3, .int (0 : Int32)), (0, .ref (ad 98)), (1, .int a0), (2, .int a1)]) (by decide) rfl dX11_rule_34 ?_
      exact r_sub [3, 4, 5, 2, 1, 0] rfl (wL_X11_rule_36 C hr _  h)
    · refine r_iconst C (v := -1) (by decide) dX11_rule_22 ?_
      have hz9 := Option.some.inj h
      subst hz9
      exact r_iret C hr dX11_rule_23
set_option maxHeartbeats 4000000 in
set_option maxRecDepth 100000 in
theorem c_X11_rule {l : Launch} {g : GG} {ad : Nat → Nat} {a0 : Int32} {a1 : Int32} {I : HI} {J : HJ} {r : Int32} {I1 : HI} (h : f_X11_rule a0 a1 I J = some (r, I1)) : CM l yX11_rule cX11_rule 7 (some .int) (rmk 1 25) g ad nO oR [.ref (ad 98), .int a0, .int a1] I J (QAi g ad nO oR r I1 J) :=
  CM_of (by decide +kernel) (Nat.le_of_ble_eq_true rfl) (fun p e s m args below meth c C hr => w_X11_rule C hr h)
set_option maxHeartbeats 4000000 in
set_option maxRecDepth 100000 in
theorem w_X11_drift {l : Launch} {g : GG} {ad : Nat → Nat} {p : Program} {e : Env} {s : State} {m : MethodId} {args : Array Value} {below : List Frame} {meth : Method} {c : Code} {a0 : Int32} {z : Int32 × HI} (C : Cx p s m args meth c RX11 cX11_drift 2 g (AW ad nO)) (hr : meth.sig.returnType = (some .int)) {I : HI} {J : HJ} (h : f_X11_drift a0 I J = some z) : V p l e (rmk 1 25) s m args below meth c (MQ below (QAi g ad nO oR z.1 z.2 J) args s 0 0 (AW ad nO)) 2 0 0 g (AW ad nO) ad nO oR I J 0 [(0, .ref (ad 98)), (1, .int a0)] [] := by
  unfold f_X11_drift at h
  refine r_aload_n C 0 rfl rfl dX11_drift_0 ?_
  obtain ⟨I5, hq6, h⟩ := bd1_ h
  refine r_cvv C (rest := []) (c_X11_looks  hq6) fm_X11_looks lk_X11_237 o_98 ⟨_, ct_10 o_98.1⟩ rfl rfl ⟨rfl, rfl, Nat.le_of_ble_eq_true rfl, Nat.le_of_ble_eq_true rfl⟩ (Nat.le_of_ble_eq_true rfl) rfl dX11_drift_1 ?_
  refine r_aload_n C 0 rfl rfl dX11_drift_4 ?_
  refine gf_X11_228 C o_98 dX11_drift_5 ?_
  refine r_iconst C (v := 2) (by decide) dX11_drift_8 ?_
  refine r_icmp_lt C (tgt := 28) h dX11_drift_9 (by decide) (fun h => ?_) (fun h => ?_)
  · refine r_bipush C (v := -3) (by decide) dX11_drift_28 ?_
    have hz9 := Option.some.inj h
    subst hz9
    exact r_iret C hr dX11_drift_30
  · refine r_iload_n C 1 rfl rfl dX11_drift_12 ?_
    refine r_i2l C dX11_drift_13 ?_
    refine r_lconst C (v := 0) (by decide) dX11_drift_14 ?_
    refine r_aload_n C 0 rfl rfl dX11_drift_15 ?_
    refine gf_X11_228 C o_98 dX11_drift_16 ?_
    refine r_pc (pc1 := 19) rfl ?_
    refine r_iconst C (v := 1) (by decide) dX11_drift_19 ?_
    refine r_isub C dX11_drift_20 ?_
    refine r_i2l C dX11_drift_21 ?_
    obtain ⟨r7, hq8, h⟩ := bd1_ h
    refine r_csi C (rest := []) (c_X11_in  hq8) fm_X11_in lk_X11_114 rfl ⟨rfl, rfl, Nat.le_of_ble_eq_true rfl, Nat.le_of_ble_eq_true rfl⟩ (Nat.le_of_ble_eq_true rfl) rfl dX11_drift_22 ?_
    refine r_if_ne C (tgt := 31) h dX11_drift_25 (by decide) (fun h => ?_) (fun h => ?_)
    · refine r_aload_n C 0 rfl rfl dX11_drift_31 ?_
      refine gf_X11_56 C rf0 o_98 (q := 114) rfl dX11_drift_32 ?_
      refine r_iload_n C 1 rfl rfl dX11_drift_35 ?_
      refine r_iald C o_114 h dX11_drift_36 (fun h => ?_)
      refine r_aload_n C 0 rfl rfl dX11_drift_37 ?_
      refine gf_X11_56 C rf0 o_98 (q := 114) rfl dX11_drift_38 ?_
      refine r_iconst C (v := 0) (by decide) dX11_drift_41 ?_
      refine r_iald C o_114 h dX11_drift_42 (fun h => ?_)
      refine r_isub C dX11_drift_43 ?_
      refine r_aload_n C 0 rfl rfl dX11_drift_44 ?_
      refine gf_X11_56 C rf0 o_98 (q := 114) rfl dX11_drift_45 ?_
      refine r_aload_n C 0 rfl rfl dX11_drift_48 ?_
      refine gf_X11_228 C o_98 dX11_drift_49 ?_
      refine r_pc (pc1 := 52) rfl ?_
      refine r_iconst C (v := 1) (by decide) dX11_drift_52 ?_
      refine r_isub C dX11_drift_53 ?_
      refine r_iald C o_114 h dX11_drift_54 (fun h => ?_)
      refine r_aload_n C 0 rfl rfl dX11_drift_55 ?_
      refine gf_X11_56 C rf0 o_98 (q := 114) rfl dX11_drift_56 ?_
      refine r_iconst C (v := 0) (by decide) dX11_drift_59 ?_
      refine r_iald C o_114 h dX11_drift_60 (fun h => ?_)
      refine r_isub C dX11_drift_61 ?_
      refine r_iload_n C 1 rfl rfl dX11_drift_62 ?_
      refine r_imul C dX11_drift_63 ?_
      refine r_aload_n C 0 rfl rfl dX11_drift_64 ?_
      refine gf_X11_228 C o_98 dX11_drift_65 ?_
      refine r_pc (pc1 := 68) rfl ?_
      refine r_iconst C (v := 1) (by decide) dX11_drift_68 ?_
      refine r_isub C dX11_drift_69 ?_
      refine r_idiv C h dX11_drift_70 (fun h => ?_)
      refine r_isub C dX11_drift_71 ?_
      refine r_sipush C (v := 20000) (by decide) dX11_drift_72 ?_
      refine r_iadd C dX11_drift_75 ?_
      have hz9 := Option.some.inj h
      subst hz9
      exact r_iret C hr dX11_drift_76
    · refine r_bipush C (v := -3) (by decide) dX11_drift_28 ?_
      have hz9 := Option.some.inj h
      subst hz9
      exact r_iret C hr dX11_drift_30
set_option maxHeartbeats 4000000 in
set_option maxRecDepth 100000 in
theorem c_X11_drift {l : Launch} {g : GG} {ad : Nat → Nat} {a0 : Int32} {I : HI} {J : HJ} {r : Int32} {I1 : HI} (h : f_X11_drift a0 I J = some (r, I1)) : CM l yX11_drift cX11_drift 2 (some .int) (rmk 1 25) g ad nO oR [.ref (ad 98), .int a0] I J (QAi g ad nO oR r I1 J) :=
  CM_of (by decide +kernel) (Nat.le_of_ble_eq_true rfl) (fun p e s m args below meth c C hr => w_X11_drift C hr h)

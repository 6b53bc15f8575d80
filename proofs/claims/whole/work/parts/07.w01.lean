set_option maxHeartbeats 4000000 in
set_option maxRecDepth 100000 in
theorem wB_X2_worth_119 {l : Launch} {g : GG} {ad : Nat → Nat} {p : Program} {e : Env} {s : State} {m : MethodId} {args : Array Value} {below : List Frame} {meth : Method} {c : Code} {k : Nat} {a0 : Int32} {a1 : Nat} {z : Int32 × HI} (C : Cx p s m args meth c RX2 cX2_worth 6 g (AW ad nO)) (hr : meth.sig.returnType = (some .int)) (hk : OB nO k 1) (ha1 : OB nO a1 6) {J : HJ}  {x3 : Int32} {I : HI} (h : fB_X2_worth_119 k a0 a1 x3 I J = some z) : V p l e (rmk 2 44) s m args below meth c (MQ below (QAi g ad nO oR z.1 z.2 J) args s 0 0 (AW ad nO)) 6 0 0 g (AW ad nO) ad nO oR I J 119 [(0, .ref (ad k)), (3, .int x3)] [] := by
  unfold fB_X2_worth_119 at h
  refine r_iload_n C 1 rfl rfl dX2_worth_119 ?_
  refine r_if_le C (tgt := 143) h dX2_worth_120 (by decide) (fun h => ?_) (fun h => ?_)
  · refine r_iconst C (v := 0) (by decide) dX2_worth_143 ?_
    have hz9 := Option.some.inj h
    subst hz9
    exact r_iret C hr dX2_worth_144
  · refine r_iload_n C 1 rfl rfl dX2_worth_123 ?_
    refine r_aload_n C 0 rfl rfl dX2_worth_124 ?_
    refine gf_X2_24 C rf0 hk (q := (rfn k 3)) rfl dX2_worth_125 ?_
    refine r_alen C (v := 32) (ob_1_3 rf0 hk) rfl dX2_worth_128 ?_
    refine r_icmp_gt C (tgt := 143) h dX2_worth_129 (by decide) (fun h => ?_) (fun h => ?_)
    · refine r_iconst C (v := 0) (by decide) dX2_worth_143 ?_
      have hz9 := Option.some.inj h
      subst hz9
      exact r_iret C hr dX2_worth_144
    · refine r_aload_n C 0 rfl rfl dX2_worth_132 ?_
      refine gf_X2_24 C rf0 hk (q := (rfn k 3)) rfl dX2_worth_133 ?_
      refine r_iload_n C 1 rfl rfl dX2_worth_136 ?_
      refine r_iconst C (v := 1) (by decide) dX2_worth_137 ?_
      refine r_isub C dX2_worth_138 ?_
      refine r_pc (pc1 := 139) rfl ?_
      refine r_iald C (ob_1_3 rf0 hk) h dX2_worth_139 (fun h => ?_)
      refine r_goto C (tgt := 144) dX2_worth_140 (by decide) ?_
      have hz9 := Option.some.inj h
      subst hz9
      exact r_iret C hr dX2_worth_144
set_option maxHeartbeats 4000000 in
set_option maxRecDepth 100000 in
theorem wB_X2_worth_113 {l : Launch} {g : GG} {ad : Nat → Nat} {p : Program} {e : Env} {s : State} {m : MethodId} {args : Array Value} {below : List Frame} {meth : Method} {c : Code} {k : Nat} {a0 : Int32} {a1 : Nat} {z : Int32 × HI} (C : Cx p s m args meth c RX2 cX2_worth 6 g (AW ad nO)) (hr : meth.sig.returnType = (some .int)) (hk : OB nO k 1) (ha1 : OB nO a1 6) {r_15 : Int32 → Int32 → HI → HJ → Option (Int32 × HI)} {J : HJ} (hr_15 : ∀ {x3 : Int32} {x4 : Int32} {I : HI}, r_15 x3 x4 I J = some z → V p l e (rmk 2 44) s m args below meth c (MQ below (QAi g ad nO oR z.1 z.2 J) args s 0 0 (AW ad nO)) 6 0 0 g (AW ad nO) ad nO oR I J 15 [(0, .ref (ad k)), (1, .int a0), (2, .ref (ad a1)), (3, .int x3), (4, .int x4)] []) {x3 : Int32} {x4 : Int32} {I : HI} (h : fB_X2_worth_113 k a0 a1 r_15 x3 x4 I J = some z) : V p l e (rmk 2 44) s m args below meth c (MQ below (QAi g ad nO oR z.1 z.2 J) args s 0 0 (AW ad nO)) 6 0 0 g (AW ad nO) ad nO oR I J 113 [(0, .ref (ad k)), (1, .int a0), (2, .ref (ad a1)), (3, .int x3), (4, .int x4)] [] := by
  unfold fB_X2_worth_113 at h
  refine r_iincN C h (k := 4) (zz := 1) rfl rfl (by decide) (lv1 := fun v16 => [(4, .int v16), (0, .ref (ad k)), (1, .int a0), (2, .ref (ad a1)), (3, .int x3)]) (fun _ => rfl) dX2_worth_113 (fun v16 h => ?_)
  refine r_goto C (tgt := 15) dX2_worth_116 (by decide) ?_
  exact r_sub [1, 2, 3, 4, 0] rfl (hr_15  h)
set_option maxHeartbeats 4000000 in
set_option maxRecDepth 100000 in
theorem wB_X2_worth_109 {l : Launch} {g : GG} {ad : Nat → Nat} {p : Program} {e : Env} {s : State} {m : MethodId} {args : Array Value} {below : List Frame} {meth : Method} {c : Code} {k : Nat} {a0 : Int32} {a1 : Nat} {z : Int32 × HI} (C : Cx p s m args meth c RX2 cX2_worth 6 g (AW ad nO)) (hr : meth.sig.returnType = (some .int)) (hk : OB nO k 1) (ha1 : OB nO a1 6) {r_15 : Int32 → Int32 → HI → HJ → Option (Int32 × HI)} {J : HJ} (hr_15 : ∀ {x3 : Int32} {x4 : Int32} {I : HI}, r_15 x3 x4 I J = some z → V p l e (rmk 2 44) s m args below meth c (MQ below (QAi g ad nO oR z.1 z.2 J) args s 0 0 (AW ad nO)) 6 0 0 g (AW ad nO) ad nO oR I J 15 [(0, .ref (ad k)), (1, .int a0), (2, .ref (ad a1)), (3, .int x3), (4, .int x4)] []) {x4 : Int32} {s0 : Int32} {s1 : Int32} {s2 : Nat} {I : HI} (hs2 : OB nO s2 1) (h : fB_X2_worth_109 k a0 a1 r_15 x4 s0 s1 s2 I J = some z) : V p l e (rmk 2 44) s m args below meth c (MQ below (QAi g ad nO oR z.1 z.2 J) args s 0 0 (AW ad nO)) 6 0 0 g (AW ad nO) ad nO oR I J 109 [(0, .ref (ad k)), (1, .int a0), (2, .ref (ad a1)), (4, .int x4)] [.int s0, .int s1, .ref (ad s2)] := by
  unfold fB_X2_worth_109 at h
  obtain ⟨r17, I18, hq19, h⟩ := bd2_ h
  refine r_cvi C (rest := []) (c_X2_push hs2 hq19) fm_X2_push lk_X2_77 hs2 ⟨_, ct_1 hs2.1⟩ rfl rfl ⟨rfl, rfl, Nat.le_of_ble_eq_true rfl, Nat.le_of_ble_eq_true rfl⟩ (Nat.le_of_ble_eq_true rfl) rfl dX2_worth_109 ?_
  refine r_istore_n C (lv1 := [(3, .int r17), (0, .ref (ad k)), (1, .int a0), (2, .ref (ad a1)), (4, .int x4)]) rfl (by decide) rfl dX2_worth_112 ?_
  exact r_sub [1, 2, 3, 0, 4] rfl (wB_X2_worth_113 C hr hk ha1 hr_15  h)
set_option maxHeartbeats 4000000 in
set_option maxRecDepth 100000 in
theorem wLB_X2_worth_15 {l : Launch} {g : GG} {ad : Nat → Nat} {p : Program} {e : Env} {s : State} {m : MethodId} {args : Array Value} {below : List Frame} {meth : Method} {c : Code} {k : Nat} {a0 : Int32} {a1 : Nat} {z : Int32 × HI} (C : Cx p s m args meth c RX2 cX2_worth 6 g (AW ad nO)) (hr : meth.sig.returnType = (some .int)) (hk : OB nO k 1) (ha1 : OB nO a1 6) {J : HJ}  {r_15 : Int32 → Int32 → HI → HJ → Option (Int32 × HI)} (hr_15 : ∀ {x3 : Int32} {x4 : Int32} {I : HI}, r_15 x3 x4 I J = some z → V p l e (rmk 2 44) s m args below meth c (MQ below (QAi g ad nO oR z.1 z.2 J) args s 0 0 (AW ad nO)) 6 0 0 g (AW ad nO) ad nO oR I J 15 [(0, .ref (ad k)), (1, .int a0), (2, .ref (ad a1)), (3, .int x3), (4, .int x4)] []) {x3 : Int32} {x4 : Int32} {I : HI} (h : fLB_X2_worth_15 k a0 a1 r_15 x3 x4 I J = some z) : V p l e (rmk 2 44) s m args below meth c (MQ below (QAi g ad nO oR z.1 z.2 J) args s 0 0 (AW ad nO)) 6 0 0 g (AW ad nO) ad nO oR I J 15 [(0, .ref (ad k)), (1, .int a0), (2, .ref (ad a1)), (3, .int x3), (4, .int x4)] [] := by
  unfold fLB_X2_worth_15 at h
  refine r_iload C 4 rfl dX2_worth_15 ?_
  refine r_aload_n C 0 rfl rfl dX2_worth_17 ?_
  refine gf_X2_16 C rf0 hk (q := (rfn k 1)) rfl dX2_worth_18 ?_
  refine r_iload_n C 1 rfl rfl dX2_worth_21 ?_
  refine r_iald C (ob_1_1 rf0 hk) h dX2_worth_22 (fun h => ?_)
  refine r_icmp_ge C (tgt := 119) h dX2_worth_23 (by decide) (fun h => ?_) (fun h => ?_)
  · exact r_sub [0, 3] rfl (wB_X2_worth_119 C hr hk ha1  h)
  · refine r_iload C 4 rfl dX2_worth_26 ?_
    refine r_sipush C (v := 200) (by decide) dX2_worth_28 ?_
    refine r_icmp_ge C (tgt := 119) h dX2_worth_31 (by decide) (fun h => ?_) (fun h => ?_)
    · exact r_sub [0, 3] rfl (wB_X2_worth_119 C hr hk ha1  h)
    · refine r_aload_n C 0 rfl rfl dX2_worth_34 ?_
      refine gf_X2_13 C rf0 hk (q := (rfn k 0)) rfl dX2_worth_35 ?_
      refine r_iload_n C 1 rfl rfl dX2_worth_38 ?_
      have hv20 := (ck h).1
      refine r_aald C (ob_1_0 rf0 hk) (Or.inr rfl) (rf0 _ (ob_1_0 rf0 hk).2.1 (Or.inl (by rw [(ob_1_0 rf0 hk).1]; decide))).1 h (fun hv => ((oi_1_0 rf0 hk) _ (vin_lt hv)).1) dX2_worth_39 (fun h => ?_)
      refine r_iload C 4 rfl dX2_worth_40 ?_
      refine r_iald C ((oi_1_0 rf0 hk) _ (vin_lt hv20)).2 h dX2_worth_42 (fun h => ?_)
      refine r_nmi h (fun v21 h => ?_)
      refine r_istore C (lv1 := [(5, .int v21), (0, .ref (ad k)), (1, .int a0), (2, .ref (ad a1)), (3, .int x3), (4, .int x4)]) (by decide) rfl dX2_worth_43 ?_
      refine r_iload C 0 rfl dX2_worth_45 ?_
      refine r_sipush C (v := 20126) (by decide) dX2_worth_47 ?_
      refine r_icmp_ne C (tgt := 61) h dX2_worth_50 (by decide) (fun h => ?_) (fun h => ?_)
      · refine r_iload C 0 rfl dX2_worth_61 ?_
        refine r_sipush C (v := 20000) (by decide) dX2_worth_63 ?_
        refine r_icmp_lt C (tgt := 84) h dX2_worth_66 (by decide) (fun h => ?_) (fun h => ?_)
        · refine r_aload_n C 1 rfl rfl dX2_worth_84 ?_
          refine r_iload_n C 4 rfl rfl dX2_worth_85 ?_
          refine r_iload C 0 rfl dX2_worth_86 ?_
          refine r_sipush C (v := 10000) (by decide) dX2_worth_88 ?_
          refine r_icmp_ge C (tgt := 99) h dX2_worth_91 (by decide) (fun h => ?_) (fun h => ?_)
          · refine r_aload_n C 3 rfl rfl dX2_worth_99 ?_
            refine r_iload C 0 rfl dX2_worth_100 ?_
            refine r_sipush C (v := 10000) (by decide) dX2_worth_102 ?_
            refine r_isub C dX2_worth_105 ?_
            obtain ⟨r22, hq23, h⟩ := bd1_ h
            refine r_cvi C (rest := [.int x3, .ref (ad k)]) (c_X7_named ha1 hq23) fm_X7_named lk_X2_71 ha1 ⟨_, ct_6 ha1.1⟩ rfl rfl ⟨rfl, rfl, Nat.le_of_ble_eq_true rfl, Nat.le_of_ble_eq_true rfl⟩ (Nat.le_of_ble_eq_true rfl) rfl dX2_worth_106 ?_
            exact r_sub [1, 2, 3, 5] rfl (wB_X2_worth_109 C hr hk ha1 hr_15 hk h)
          · refine r_iload C 0 rfl dX2_worth_94 ?_
            refine r_goto C (tgt := 109) dX2_worth_96 (by decide) ?_
            exact r_sub [1, 2, 3, 5] rfl (wB_X2_worth_109 C hr hk ha1 hr_15 hk h)
        · refine r_aload_n C 1 rfl rfl dX2_worth_69 ?_
          refine r_iload_n C 4 rfl rfl dX2_worth_70 ?_
          refine r_iload C 0 rfl dX2_worth_71 ?_
          refine r_sipush C (v := 20000) (by decide) dX2_worth_73 ?_
          refine r_isub C dX2_worth_76 ?_
          refine r_pc (pc1 := 77) rfl ?_
          obtain ⟨r24, I25, hq26, h⟩ := bd2_ h
          refine r_cvi C (rest := []) (c_X2_join hk hq26) fm_X2_join lk_X2_67 hk ⟨_, ct_1 hk.1⟩ rfl rfl ⟨rfl, rfl, Nat.le_of_ble_eq_true rfl, Nat.le_of_ble_eq_true rfl⟩ (Nat.le_of_ble_eq_true rfl) rfl dX2_worth_77 ?_
          refine r_istore_n C (lv1 := [(3, .int r24), (5, .int v21), (0, .ref (ad k)), (1, .int a0), (2, .ref (ad a1)), (4, .int x4)]) rfl (by decide) rfl dX2_worth_80 ?_
          refine r_goto C (tgt := 113) dX2_worth_81 (by decide) ?_
          exact r_sub [2, 3, 4, 0, 5] rfl (wB_X2_worth_113 C hr hk ha1 hr_15  h)
      · refine r_aload_n C 1 rfl rfl dX2_worth_53 ?_
        refine r_iload_n C 4 rfl rfl dX2_worth_54 ?_
        obtain ⟨I27, hq28, h⟩ := bd1_ h
        refine r_cvv C (rest := []) (c_X2_negateTop hk hq28) fm_X2_negateTop lk_X2_64 hk ⟨_, ct_1 hk.1⟩ rfl rfl ⟨rfl, rfl, Nat.le_of_ble_eq_true rfl, Nat.le_of_ble_eq_true rfl⟩ (Nat.le_of_ble_eq_true rfl) rfl dX2_worth_55 ?_
        refine r_goto C (tgt := 113) dX2_worth_58 (by decide) ?_
        exact r_sub [1, 2, 3, 4, 5] rfl (wB_X2_worth_113 C hr hk ha1 hr_15  h)
set_option maxHeartbeats 4000000 in
set_option maxRecDepth 100000 in
theorem wL_X2_worth_15 {l : Launch} {g : GG} {ad : Nat → Nat} {p : Program} {e : Env} {s : State} {m : MethodId} {args : Array Value} {below : List Frame} {meth : Method} {c : Code} {k : Nat} {a0 : Int32} {a1 : Nat} {z : Int32 × HI} (C : Cx p s m args meth c RX2 cX2_worth 6 g (AW ad nO)) (hr : meth.sig.returnType = (some .int)) (hk : OB nO k 1) (ha1 : OB nO a1 6) {J : HJ}  : ∀ (f : Nat) {x3 : Int32} {x4 : Int32} {I : HI}, fL_X2_worth_15 k a0 a1 f x3 x4 I J = some z → V p l e (rmk 2 44) s m args below meth c (MQ below (QAi g ad nO oR z.1 z.2 J) args s 0 0 (AW ad nO)) 6 0 0 g (AW ad nO) ad nO oR I J 15 [(0, .ref (ad k)), (1, .int a0), (2, .ref (ad a1)), (3, .int x3), (4, .int x4)] [] := by
  intro f
  induction f with
  | zero =>
    intro _ _ _  h
    have h0 : (none : Option (Int32 × HI)) = some z := h
    cases h0
  | succ f ih =>
    intro _ _ _  h
    exact wLB_X2_worth_15 C hr hk ha1 ih  h
set_option maxHeartbeats 4000000 in
set_option maxRecDepth 100000 in
theorem w_X2_worth {l : Launch} {g : GG} {ad : Nat → Nat} {p : Program} {e : Env} {s : State} {m : MethodId} {args : Array Value} {below : List Frame} {meth : Method} {c : Code} {k : Nat} {a0 : Int32} {a1 : Nat} {z : Int32 × HI} (C : Cx p s m args meth c RX2 cX2_worth 6 g (AW ad nO)) (hr : meth.sig.returnType = (some .int)) (hk : OB nO k 1) (ha1 : OB nO a1 6) {I : HI} {J : HJ} (h : f_X2_worth k a0 a1 I J = some z) : V p l e (rmk 2 44) s m args below meth c (MQ below (QAi g ad nO oR z.1 z.2 J) args s 0 0 (AW ad nO)) 6 0 0 g (AW ad nO) ad nO oR I J 0 [(0, .ref (ad k)), (1, .int a0), (2, .ref (ad a1))] [] := by
  unfold f_X2_worth at h
  refine r_aload_n C 0 rfl rfl dX2_worth_0 ?_
  refine r_iload_n C 1 rfl rfl dX2_worth_1 ?_
  obtain ⟨r29, hq30, h⟩ := bd1_ h
  refine r_cvi C (rest := []) (c_X2_isKey rf0 hk hq30) fm_X2_isKey lk_X2_60 hk ⟨_, ct_1 hk.1⟩ rfl rfl ⟨rfl, rfl, Nat.le_of_ble_eq_true rfl, Nat.le_of_ble_eq_true rfl⟩ (Nat.le_of_ble_eq_true rfl) rfl dX2_worth_2 ?_
  refine r_if_ne C (tgt := 10) h dX2_worth_5 (by decide) (fun h => ?_) (fun h => ?_)
  · refine r_iconst C (v := 0) (by decide) dX2_worth_10 ?_
    refine r_istore_n C (lv1 := [(3, .int (0 : Int32)), (0, .ref (ad k)), (1, .int a0), (2, .ref (ad a1))]) rfl (by decide) rfl dX2_worth_11 ?_
    refine r_iconst C (v := 0) (by decide) dX2_worth_12 ?_
    refine r_istore C (lv1 := [(4, .int (0 : Int32)), (3, .int (0 : Int32)), (0, .ref (ad k)), (1, .int a0), (2, .ref (ad a1))]) (by decide) rfl dX2_worth_13 ?_
    exact r_sub [2, 3, 4, 1, 0] rfl (wL_X2_worth_15 C hr hk ha1 _  h)
  · refine r_iconst C (v := 0) (by decide) dX2_worth_8 ?_
    have hz9 := Option.some.inj h
    subst hz9
    exact r_iret C hr dX2_worth_9
set_option maxHeartbeats 4000000 in
set_option maxRecDepth 100000 in
theorem c_X2_worth {l : Launch} {g : GG} {ad : Nat → Nat} {k : Nat} {a0 : Int32} {a1 : Nat} {I : HI} {J : HJ} {r : Int32} {I1 : HI} (hk : OB nO k 1) (ha1 : OB nO a1 6) (h : f_X2_worth k a0 a1 I J = some (r, I1)) : CM l yX2_worth cX2_worth 6 (some .int) (rmk 2 44) g ad nO oR [.ref (ad k), .int a0, .ref (ad a1)] I J (QAi g ad nO oR r I1 J) :=
  CM_of (by decide +kernel) (Nat.le_of_ble_eq_true rfl) (fun p e s m args below meth c C hr => w_X2_worth C hr hk ha1 h)
set_option maxHeartbeats 4000000 in
set_option maxRecDepth 100000 in
theorem w_X3_size {l : Launch} {g : GG} {ad : Nat → Nat} {p : Program} {e : Env} {s : State} {m : MethodId} {args : Array Value} {below : List Frame} {meth : Method} {c : Code} {z : Int32} (C : Cx p s m args meth c RX3 cX3_size 1 g (AW ad nO)) (hr : meth.sig.returnType = (some .int)) {I : HI} {J : HJ} (h : f_X3_size I J = some z) : V p l e (rmk 0 0) s m args below meth c (MQ below (QAi g ad nO oR z I J) args s 0 0 (AW ad nO)) 1 0 0 g (AW ad nO) ad nO oR I J 0 [(0, .ref (ad 70))] [] := by
  unfold f_X3_size at h
  refine r_aload_n C 0 rfl rfl dX3_size_0 ?_
  refine gf_X3_14 C o_70 dX3_size_1 ?_
  have hz9 := Option.some.inj h
  subst hz9
  exact r_iret C hr dX3_size_4
set_option maxHeartbeats 4000000 in
set_option maxRecDepth 100000 in
theorem c_X3_size {l : Launch} {g : GG} {ad : Nat → Nat} {I : HI} {J : HJ} {r : Int32} (h : f_X3_size I J = some r) : CM l yX3_size cX3_size 1 (some .int) (rmk 0 0) g ad nO oR [.ref (ad 70)] I J (QAi g ad nO oR r I J) :=
  CM_of (by decide +kernel) (Nat.le_of_ble_eq_true rfl) (fun p e s m args below meth c C hr => w_X3_size C hr h)
set_option maxHeartbeats 4000000 in
set_option maxRecDepth 100000 in
theorem w_X10_isWithin {l : Launch} {g : GG} {ad : Nat → Nat} {p : Program} {e : Env} {s : State} {m : MethodId} {args : Array Value} {below : List Frame} {meth : Method} {c : Code} {a0 : Int32} {a1 : Int32} {a2 : Int32} {z : Int32} (C : Cx p s m args meth c RX10 cX10_isWithin 3 g (AW ad nO)) (hr : meth.sig.returnType = (some .boolean)) {I : HI} {J : HJ} (h : f_X10_isWithin a0 a1 a2 = some z) : V p l e (rmk 0 0) s m args below meth c (MQ below (QAi g ad nO oR z I J) args s 0 0 (AW ad nO)) 3 0 0 g (AW ad nO) ad nO oR I J 0 [(0, .int a0), (1, .int a1), (2, .int a2)] [] := by
  unfold f_X10_isWithin at h
  refine r_iload_n C 0 rfl rfl dX10_isWithin_0 ?_
  refine r_iload_n C 1 rfl rfl dX10_isWithin_1 ?_
  refine r_icmp_lt C (tgt := 14) h dX10_isWithin_2 (by decide) (fun h => ?_) (fun h => ?_)
  · refine r_iconst C (v := 0) (by decide) dX10_isWithin_14 ?_
    have hz9 := Option.some.inj h
    subst hz9
    exact r_zret C (v := (0 : Int32)) rfl hr dX10_isWithin_15
  · refine r_iload_n C 0 rfl rfl dX10_isWithin_5 ?_
    refine r_iload_n C 2 rfl rfl dX10_isWithin_6 ?_
    refine r_icmp_gt C (tgt := 14) h dX10_isWithin_7 (by decide) (fun h => ?_) (fun h => ?_)
    · refine r_iconst C (v := 0) (by decide) dX10_isWithin_14 ?_
      have hz9 := Option.some.inj h
      subst hz9
      exact r_zret C (v := (0 : Int32)) rfl hr dX10_isWithin_15
    · refine r_iconst C (v := 1) (by decide) dX10_isWithin_10 ?_
      refine r_goto C (tgt := 15) dX10_isWithin_11 (by decide) ?_
      have hz9 := Option.some.inj h
      subst hz9
      exact r_zret C (v := (1 : Int32)) rfl hr dX10_isWithin_15
set_option maxHeartbeats 4000000 in
set_option maxRecDepth 100000 in
theorem c_X10_isWithin {l : Launch} {g : GG} {ad : Nat → Nat} {a0 : Int32} {a1 : Int32} {a2 : Int32} {I : HI} {J : HJ} {r : Int32} (h : f_X10_isWithin a0 a1 a2 = some r) : CM l yX10_isWithin cX10_isWithin 3 (some .boolean) (rmk 0 0) g ad nO oR [.int a0, .int a1, .int a2] I J (QAi g ad nO oR r I J) :=
  CM_of (by decide +kernel) (Nat.le_of_ble_eq_true rfl) (fun p e s m args below meth c C hr => w_X10_isWithin C hr h)
set_option maxHeartbeats 4000000 in
set_option maxRecDepth 100000 in
theorem w_X3_has {l : Launch} {g : GG} {ad : Nat → Nat} {p : Program} {e : Env} {s : State} {m : MethodId} {args : Array Value} {below : List Frame} {meth : Method} {c : Code} {a0 : Int32} {a1 : Int32} {z : Int32} (C : Cx p s m args meth c RX3 cX3_has 3 g (AW ad nO)) (hr : meth.sig.returnType = (some .boolean)) {I : HI} {J : HJ} (h : f_X3_has a0 a1 I J = some z) : V p l e (rmk 1 22) s m args below meth c (MQ below (QAi g ad nO oR z I J) args s 0 0 (AW ad nO)) 3 0 0 g (AW ad nO) ad nO oR I J 0 [(0, .ref (ad 70)), (1, .int a0), (2, .int a1)] [] := by
  unfold f_X3_has at h
  refine r_iload_n C 1 rfl rfl dX3_has_0 ?_
  refine r_iconst C (v := 0) (by decide) dX3_has_1 ?_
  refine r_aload_n C 0 rfl rfl dX3_has_2 ?_
  refine gf_X3_14 C o_70 dX3_has_3 ?_
  refine r_iconst C (v := 1) (by decide) dX3_has_6 ?_
  refine r_pc (pc1 := 7) rfl ?_
  refine r_isub C dX3_has_7 ?_
  obtain ⟨r5, hq6, h⟩ := bd1_ h
  refine r_csni C (rest := []) (c_X10_isWithin  hq6) fm_X10_isWithin nk_X3_18 rfl ⟨rfl, rfl, Nat.le_of_ble_eq_true rfl, Nat.le_of_ble_eq_true rfl⟩ (Nat.le_of_ble_eq_true rfl) rfl dX3_has_8 ?_
  refine r_if_eq C (tgt := 33) h dX3_has_11 (by decide) (fun h => ?_) (fun h => ?_)
  · refine r_iconst C (v := 0) (by decide) dX3_has_33 ?_
    have hz9 := Option.some.inj h
    subst hz9
    exact r_zret C (v := (0 : Int32)) rfl hr dX3_has_34
  · refine r_iload_n C 1 rfl rfl dX3_has_14 ?_
    refine r_bipush C (v := 12) (by decide) dX3_has_15 ?_
    refine r_icmp_ge C (tgt := 33) h dX3_has_17 (by decide) (fun h => ?_) (fun h => ?_)
    · refine r_iconst C (v := 0) (by decide) dX3_has_33 ?_
      have hz9 := Option.some.inj h
      subst hz9
      exact r_zret C (v := (0 : Int32)) rfl hr dX3_has_34
    · refine r_iload_n C 2 rfl rfl dX3_has_20 ?_
      refine r_iconst C (v := 0) (by decide) dX3_has_21 ?_
      refine r_iconst C (v := 1) (by decide) dX3_has_22 ?_
      obtain ⟨r7, hq8, h⟩ := bd1_ h
      refine r_csni C (rest := []) (c_X10_isWithin  hq8) fm_X10_isWithin nk_X3_18 rfl ⟨rfl, rfl, Nat.le_of_ble_eq_true rfl, Nat.le_of_ble_eq_true rfl⟩ (Nat.le_of_ble_eq_true rfl) rfl dX3_has_23 ?_
      refine r_if_eq C (tgt := 33) h dX3_has_26 (by decide) (fun h => ?_) (fun h => ?_)
      · refine r_iconst C (v := 0) (by decide) dX3_has_33 ?_
        have hz9 := Option.some.inj h
        subst hz9
        exact r_zret C (v := (0 : Int32)) rfl hr dX3_has_34
      · refine r_iconst C (v := 1) (by decide) dX3_has_29 ?_
        refine r_goto C (tgt := 34) dX3_has_30 (by decide) ?_
        have hz9 := Option.some.inj h
        subst hz9
        exact r_zret C (v := (1 : Int32)) rfl hr dX3_has_34
set_option maxHeartbeats 4000000 in
set_option maxRecDepth 100000 in
theorem c_X3_has {l : Launch} {g : GG} {ad : Nat → Nat} {a0 : Int32} {a1 : Int32} {I : HI} {J : HJ} {r : Int32} (h : f_X3_has a0 a1 I J = some r) : CM l yX3_has cX3_has 3 (some .boolean) (rmk 1 22) g ad nO oR [.ref (ad 70), .int a0, .int a1] I J (QAi g ad nO oR r I J) :=
  CM_of (by decide +kernel) (Nat.le_of_ble_eq_true rfl) (fun p e s m args below meth c C hr => w_X3_has C hr h)
set_option maxHeartbeats 4000000 in
set_option maxRecDepth 100000 in
theorem w_X3_at {l : Launch} {g : GG} {ad : Nat → Nat} {p : Program} {e : Env} {s : State} {m : MethodId} {args : Array Value} {below : List Frame} {meth : Method} {c : Code} {a0 : Int32} {a1 : Int32} {z : Int32} (C : Cx p s m args meth c RX3 cX3_at 3 g (AW ad nO)) (hr : meth.sig.returnType = (some .int)) {I : HI} {J : HJ} (h : f_X3_at a0 a1 I J = some z) : V p l e (rmk 2 44) s m args below meth c (MQ below (QAi g ad nO oR z I J) args s 0 0 (AW ad nO)) 3 0 0 g (AW ad nO) ad nO oR I J 0 [(0, .ref (ad 70)), (1, .int a0), (2, .int a1)] [] := by
  unfold f_X3_at at h
  refine r_aload_n C 0 rfl rfl dX3_at_0 ?_
  refine r_iload_n C 1 rfl rfl dX3_at_1 ?_
  refine r_iload_n C 2 rfl rfl dX3_at_2 ?_
  obtain ⟨r4, hq5, h⟩ := bd1_ h
  refine r_cvi C (rest := []) (c_X3_has  hq5) fm_X3_has lk_X3_24 o_70 ⟨_, ct_2 o_70.1⟩ rfl rfl ⟨rfl, rfl, Nat.le_of_ble_eq_true rfl, Nat.le_of_ble_eq_true rfl⟩ (Nat.le_of_ble_eq_true rfl) rfl dX3_at_3 ?_
  refine r_if_eq C (tgt := 20) h dX3_at_6 (by decide) (fun h => ?_) (fun h => ?_)
  · refine r_iconst C (v := 0) (by decide) dX3_at_20 ?_
    have hz9 := Option.some.inj h
    subst hz9
    exact r_iret C hr dX3_at_21
  · refine r_aload_n C 0 rfl rfl dX3_at_9 ?_
    refine gf_X3_11 C rf0 o_70 (q := 71) rfl dX3_at_10 ?_
    refine r_iload_n C 1 rfl rfl dX3_at_13 ?_
    have hv6 := (ck h).1
    refine r_aald C o_71 (Or.inr rfl) (rf0 _ o_71.2.1 (Or.inl (by rw [o_71.1]; decide))).1 h (fun hv => (oi_71 _ (vin_lt hv)).1) dX3_at_14 (fun h => ?_)
    refine r_iload_n C 2 rfl rfl dX3_at_15 ?_
    refine r_iald C (oi_71 _ (vin_lt hv6)).2 h dX3_at_16 (fun h => ?_)
    refine r_goto C (tgt := 21) dX3_at_17 (by decide) ?_
    have hz9 := Option.some.inj h
    subst hz9
    exact r_iret C hr dX3_at_21
set_option maxHeartbeats 4000000 in
set_option maxRecDepth 100000 in
theorem c_X3_at {l : Launch} {g : GG} {ad : Nat → Nat} {a0 : Int32} {a1 : Int32} {I : HI} {J : HJ} {r : Int32} (h : f_X3_at a0 a1 I J = some r) : CM l yX3_at cX3_at 3 (some .int) (rmk 2 44) g ad nO oR [.ref (ad 70), .int a0, .int a1] I J (QAi g ad nO oR r I J) :=
  CM_of (by decide +kernel) (Nat.le_of_ble_eq_true rfl) (fun p e s m args below meth c C hr => w_X3_at C hr h)
set_option maxHeartbeats 4000000 in
set_option maxRecDepth 100000 in
theorem w_X3_alter {l : Launch} {g : GG} {ad : Nat → Nat} {p : Program} {e : Env} {s : State} {m : MethodId} {args : Array Value} {below : List Frame} {meth : Method} {c : Code} {a0 : Int32} {a1 : Int32} {a2 : Int32} {z : HI} (C : Cx p s m args meth c RX3 cX3_alter 4 g (AW ad nO)) (hr : meth.sig.returnType = none) {I : HI} {J : HJ} (h : f_X3_alter a0 a1 a2 I J = some z) : V p l e (rmk 2 44) s m args below meth c (MQ below (QAv g ad nO oR z J) args s 0 0 (AW ad nO)) 4 0 0 g (AW ad nO) ad nO oR I J 0 [(0, .ref (ad 70)), (1, .int a0), (2, .int a1), (3, .int a2)] [] := by
  unfold f_X3_alter at h
  refine r_aload_n C 0 rfl rfl dX3_alter_0 ?_
  refine r_iload_n C 1 rfl rfl dX3_alter_1 ?_
  refine r_iload_n C 2 rfl rfl dX3_alter_2 ?_
  obtain ⟨r5, hq6, h⟩ := bd1_ h
  refine r_cvi C (rest := []) (c_X3_has  hq6) fm_X3_has lk_X3_24 o_70 ⟨_, ct_2 o_70.1⟩ rfl rfl ⟨rfl, rfl, Nat.le_of_ble_eq_true rfl, Nat.le_of_ble_eq_true rfl⟩ (Nat.le_of_ble_eq_true rfl) rfl dX3_alter_3 ?_
  refine r_if_eq C (tgt := 18) h dX3_alter_6 (by decide) (fun h => ?_) (fun h => ?_)
  · have hz9 := Option.some.inj h
    subst hz9
    exact r_vret C hr dX3_alter_18
  · refine r_aload_n C 0 rfl rfl dX3_alter_9 ?_
    refine gf_X3_11 C rf0 o_70 (q := 71) rfl dX3_alter_10 ?_
    refine r_iload_n C 1 rfl rfl dX3_alter_13 ?_
    have hv7 := (ck h).1
    refine r_aald C o_71 (Or.inr rfl) (rf0 _ o_71.2.1 (Or.inl (by rw [o_71.1]; decide))).1 h (fun hv => (oi_71 _ (vin_lt hv)).1) dX3_alter_14 (fun h => ?_)
    refine r_iload_n C 2 rfl rfl dX3_alter_15 ?_
    refine r_iload_n C 3 rfl rfl dX3_alter_16 ?_
    refine r_iast C (oi_71 _ (vin_lt hv7)).2 h dX3_alter_17 (fun h => ?_)
    refine r_nmI h (fun I8 h => ?_)
    have hz9 := Option.some.inj h
    subst hz9
    exact r_vret C hr dX3_alter_18
set_option maxHeartbeats 4000000 in
set_option maxRecDepth 100000 in
theorem c_X3_alter {l : Launch} {g : GG} {ad : Nat → Nat} {a0 : Int32} {a1 : Int32} {a2 : Int32} {I : HI} {J : HJ} {I1 : HI} (h : f_X3_alter a0 a1 a2 I J = some I1) : CM l yX3_alter cX3_alter 4 none (rmk 2 44) g ad nO oR [.ref (ad 70), .int a0, .int a1, .int a2] I J (QAv g ad nO oR I1 J) :=
  CM_of (by decide +kernel) (Nat.le_of_ble_eq_true rfl) (fun p e s m args below meth c C hr => w_X3_alter C hr h)
set_option maxHeartbeats 4000000 in
set_option maxRecDepth 100000 in
theorem w_X3_becomeEmpty {l : Launch} {g : GG} {ad : Nat → Nat} {p : Program} {e : Env} {s : State} {m : MethodId} {args : Array Value} {below : List Frame} {meth : Method} {c : Code} {z : HI} (C : Cx p s m args meth c RX3 cX3_becomeEmpty 1 g (AW ad nO)) (hr : meth.sig.returnType = none) {I : HI} {J : HJ} (h : f_X3_becomeEmpty I J = some z) : V p l e (rmk 0 0) s m args below meth c (MQ below (QAv g ad nO oR z J) args s 0 0 (AW ad nO)) 1 0 0 g (AW ad nO) ad nO oR I J 0 [(0, .ref (ad 70))] [] := by
  unfold f_X3_becomeEmpty at h
  refine r_aload_n C 0 rfl rfl dX3_becomeEmpty_0 ?_
  refine r_iconst C (v := 0) (by decide) dX3_becomeEmpty_1 ?_
  refine pf_X3_14 C o_70 dX3_becomeEmpty_2 ?_
  refine r_nmI h (fun I2 h => ?_)
  have hz9 := Option.some.inj h
  subst hz9
  exact r_vret C hr dX3_becomeEmpty_5
set_option maxHeartbeats 4000000 in
set_option maxRecDepth 100000 in
theorem c_X3_becomeEmpty {l : Launch} {g : GG} {ad : Nat → Nat} {I : HI} {J : HJ} {I1 : HI} (h : f_X3_becomeEmpty I J = some I1) : CM l yX3_becomeEmpty cX3_becomeEmpty 1 none (rmk 0 0) g ad nO oR [.ref (ad 70)] I J (QAv g ad nO oR I1 J) :=
  CM_of (by decide +kernel) (Nat.le_of_ble_eq_true rfl) (fun p e s m args below meth c C hr => w_X3_becomeEmpty C hr h)
set_option maxHeartbeats 4000000 in
set_option maxRecDepth 100000 in
theorem w_X3_add {l : Launch} {g : GG} {ad : Nat → Nat} {p : Program} {e : Env} {s : State} {m : MethodId} {args : Array Value} {below : List Frame} {meth : Method} {c : Code} {a0 : Int32} {a1 : Int32} {z : HI} (C : Cx p s m args meth c RX3 cX3_add 3 g (AW ad nO)) (hr : meth.sig.returnType = none) {I : HI} {J : HJ} (h : f_X3_add a0 a1 I J = some z) : V p l e (rmk 0 0) s m args below meth c (MQ below (QAv g ad nO oR z J) args s 0 0 (AW ad nO)) 3 0 0 g (AW ad nO) ad nO oR I J 0 [(0, .ref (ad 70)), (1, .int a0), (2, .int a1)] [] := by
  unfold f_X3_add at h
  refine r_aload_n C 0 rfl rfl dX3_add_0 ?_
  refine gf_X3_14 C o_70 dX3_add_1 ?_
  refine r_if_lt C (tgt := 50) h dX3_add_4 (by decide) (fun h => ?_) (fun h => ?_)
  · have hz9 := Option.some.inj h
    subst hz9
    exact r_vret C hr dX3_add_50
  · refine r_aload_n C 0 rfl rfl dX3_add_7 ?_
    refine gf_X3_14 C o_70 dX3_add_8 ?_
    refine r_bipush C (v := 12) (by decide) dX3_add_11 ?_
    refine r_icmp_ge C (tgt := 50) h dX3_add_13 (by decide) (fun h => ?_) (fun h => ?_)
    · have hz9 := Option.some.inj h
      subst hz9
      exact r_vret C hr dX3_add_50
    · refine r_aload_n C 0 rfl rfl dX3_add_16 ?_
      refine gf_X3_11 C rf0 o_70 (q := 71) rfl dX3_add_17 ?_
      refine r_aload_n C 0 rfl rfl dX3_add_20 ?_
      refine gf_X3_14 C o_70 dX3_add_21 ?_
      have hv6 := (ck h).1
      refine r_aald C o_71 (Or.inr rfl) (rf0 _ o_71.2.1 (Or.inl (by rw [o_71.1]; decide))).1 h (fun hv => (oi_71 _ (vin_lt hv)).1) dX3_add_24 (fun h => ?_)
      refine r_iconst C (v := 0) (by decide) dX3_add_25 ?_
      refine r_iload_n C 1 rfl rfl dX3_add_26 ?_
      refine r_iast C (oi_71 _ (vin_lt hv6)).2 h dX3_add_27 (fun h => ?_)
      refine r_nmI h (fun I7 h => ?_)
      refine r_aload_n C 0 rfl rfl dX3_add_28 ?_
      refine gf_X3_11 C rf0 o_70 (q := 71) rfl dX3_add_29 ?_
      refine r_aload_n C 0 rfl rfl dX3_add_32 ?_
      refine gf_X3_14 C o_70 dX3_add_33 ?_
      have hv8 := (ck h).1
      refine r_aald C o_71 (Or.inr rfl) (rf0 _ o_71.2.1 (Or.inl (by rw [o_71.1]; decide))).1 h (fun hv => (oi_71 _ (vin_lt hv)).1) dX3_add_36 (fun h => ?_)
      refine r_iconst C (v := 1) (by decide) dX3_add_37 ?_
      refine r_iload_n C 2 rfl rfl dX3_add_38 ?_
      refine r_iast C (oi_71 _ (vin_lt hv8)).2 h dX3_add_39 (fun h => ?_)
      refine r_nmI h (fun I9 h => ?_)
      refine r_aload_n C 0 rfl rfl dX3_add_40 ?_
      refine r_dup C rfl dX3_add_41 ?_
      refine gf_X3_14 C o_70 dX3_add_42 ?_
      refine r_iconst C (v := 1) (by decide) dX3_add_45 ?_
      refine r_iadd C dX3_add_46 ?_
      refine r_pc (pc1 := 47) rfl ?_
      refine pf_X3_14 C o_70 dX3_add_47 ?_
      refine r_nmI h (fun I10 h => ?_)
      have hz9 := Option.some.inj h
      subst hz9
      exact r_vret C hr dX3_add_50
set_option maxHeartbeats 4000000 in
set_option maxRecDepth 100000 in
theorem c_X3_add {l : Launch} {g : GG} {ad : Nat → Nat} {a0 : Int32} {a1 : Int32} {I : HI} {J : HJ} {I1 : HI} (h : f_X3_add a0 a1 I J = some I1) : CM l yX3_add cX3_add 3 none (rmk 0 0) g ad nO oR [.ref (ad 70), .int a0, .int a1] I J (QAv g ad nO oR I1 J) :=
  CM_of (by decide +kernel) (Nat.le_of_ble_eq_true rfl) (fun p e s m args below meth c C hr => w_X3_add C hr h)
set_option maxHeartbeats 4000000 in
set_option maxRecDepth 100000 in
theorem w_X3_tells {l : Launch} {g : GG} {ad : Nat → Nat} {p : Program} {e : Env} {s : State} {m : MethodId} {args : Array Value} {below : List Frame} {meth : Method} {c : Code} {a0 : Int32} {a1 : Int32} {a2 : Int32} {z : Int32} (C : Cx p s m args meth c RX3 cX3_tells 4 g (AW ad nO)) (hr : meth.sig.returnType = (some .boolean)) {I : HI} {J : HJ} (h : f_X3_tells a0 a1 a2 I J = some z) : V p l e (rmk 3 66) s m args below meth c (MQ below (QAi g ad nO oR z I J) args s 0 0 (AW ad nO)) 4 0 0 g (AW ad nO) ad nO oR I J 0 [(0, .ref (ad 70)), (1, .int a0), (2, .int a1), (3, .int a2)] [] := by
  unfold f_X3_tells at h
  refine r_aload_n C 0 rfl rfl dX3_tells_0 ?_
  refine r_iload_n C 1 rfl rfl dX3_tells_1 ?_
  refine r_iconst C (v := 0) (by decide) dX3_tells_2 ?_
  obtain ⟨r5, hq6, h⟩ := bd1_ h
  refine r_cvi C (rest := []) (c_X3_at  hq6) fm_X3_at lk_X3_28 o_70 ⟨_, ct_2 o_70.1⟩ rfl rfl ⟨rfl, rfl, Nat.le_of_ble_eq_true rfl, Nat.le_of_ble_eq_true rfl⟩ (Nat.le_of_ble_eq_true rfl) rfl dX3_tells_3 ?_
  refine r_iload_n C 2 rfl rfl dX3_tells_6 ?_
  refine r_icmp_ne C (tgt := 24) h dX3_tells_7 (by decide) (fun h => ?_) (fun h => ?_)
  · refine r_iconst C (v := 0) (by decide) dX3_tells_24 ?_
    have hz9 := Option.some.inj h
    subst hz9
    exact r_zret C (v := (0 : Int32)) rfl hr dX3_tells_25
  · refine r_aload_n C 0 rfl rfl dX3_tells_10 ?_
    refine r_iload_n C 1 rfl rfl dX3_tells_11 ?_
    refine r_iconst C (v := 1) (by decide) dX3_tells_12 ?_
    obtain ⟨r7, hq8, h⟩ := bd1_ h
    refine r_cvi C (rest := []) (c_X3_at  hq8) fm_X3_at lk_X3_28 o_70 ⟨_, ct_2 o_70.1⟩ rfl rfl ⟨rfl, rfl, Nat.le_of_ble_eq_true rfl, Nat.le_of_ble_eq_true rfl⟩ (Nat.le_of_ble_eq_true rfl) rfl dX3_tells_13 ?_
    refine r_iload_n C 3 rfl rfl dX3_tells_16 ?_
    refine r_icmp_ne C (tgt := 24) h dX3_tells_17 (by decide) (fun h => ?_) (fun h => ?_)
    · refine r_iconst C (v := 0) (by decide) dX3_tells_24 ?_
      have hz9 := Option.some.inj h
      subst hz9
      exact r_zret C (v := (0 : Int32)) rfl hr dX3_tells_25
    · refine r_iconst C (v := 1) (by decide) dX3_tells_20 ?_
      refine r_goto C (tgt := 25) dX3_tells_21 (by decide) ?_
      have hz9 := Option.some.inj h
      subst hz9
      exact r_zret C (v := (1 : Int32)) rfl hr dX3_tells_25
set_option maxHeartbeats 4000000 in
set_option maxRecDepth 100000 in
theorem c_X3_tells {l : Launch} {g : GG} {ad : Nat → Nat} {a0 : Int32} {a1 : Int32} {a2 : Int32} {I : HI} {J : HJ} {r : Int32} (h : f_X3_tells a0 a1 a2 I J = some r) : CM l yX3_tells cX3_tells 4 (some .boolean) (rmk 3 66) g ad nO oR [.ref (ad 70), .int a0, .int a1, .int a2] I J (QAi g ad nO oR r I J) :=
  CM_of (by decide +kernel) (Nat.le_of_ble_eq_true rfl) (fun p e s m args below meth c C hr => w_X3_tells C hr h)
set_option maxHeartbeats 4000000 in
set_option maxRecDepth 100000 in
theorem w_X4_size {l : Launch} {g : GG} {ad : Nat → Nat} {p : Program} {e : Env} {s : State} {m : MethodId} {args : Array Value} {below : List Frame} {meth : Method} {c : Code} {k : Nat} {z : Int32} (C : Cx p s m args meth c RX4 cX4_size 1 g (AW ad nO)) (hr : meth.sig.returnType = (some .int)) (hk : OB nO k 3) {I : HI} {J : HJ} (h : f_X4_size k I J = some z) : V p l e (rmk 0 0) s m args below meth c (MQ below (QAi g ad nO oR z I J) args s 0 0 (AW ad nO)) 1 0 0 g (AW ad nO) ad nO oR I J 0 [(0, .ref (ad k))] [] := by
  unfold f_X4_size at h
  refine r_aload_n C 0 rfl rfl dX4_size_0 ?_
  refine gf_X4_16 C hk dX4_size_1 ?_
  have hz9 := Option.some.inj h
  subst hz9
  exact r_iret C hr dX4_size_4
set_option maxHeartbeats 4000000 in
set_option maxRecDepth 100000 in
theorem c_X4_size {l : Launch} {g : GG} {ad : Nat → Nat} {k : Nat} {I : HI} {J : HJ} {r : Int32} (hk : OB nO k 3) (h : f_X4_size k I J = some r) : CM l yX4_size cX4_size 1 (some .int) (rmk 0 0) g ad nO oR [.ref (ad k)] I J (QAi g ad nO oR r I J) :=
  CM_of (by decide +kernel) (Nat.le_of_ble_eq_true rfl) (fun p e s m args below meth c C hr => w_X4_size C hr hk h)
set_option maxHeartbeats 4000000 in
set_option maxRecDepth 100000 in
theorem w_X4_at {l : Launch} {g : GG} {ad : Nat → Nat} {p : Program} {e : Env} {s : State} {m : MethodId} {args : Array Value} {below : List Frame} {meth : Method} {c : Code} {k : Nat} {a0 : Int32} {z : (Option Nat)} (C : Cx p s m args meth c RX4 cX4_at 2 g (AW ad nO)) (hr : meth.sig.returnType = (some (.object "UnevenTap$Times"))) (hk : OB nO k 3) {I : HI} {J : HJ} (h : f_X4_at k a0 I J = some z) : V p l e (rmk 0 0) s m args below meth c (MQ below (QAe g ad nO oR z I J) args s 0 0 (AW ad nO)) 2 0 0 g (AW ad nO) ad nO oR I J 0 [(0, .ref (ad k)), (1, .int a0)] [] := by
  unfold f_X4_at at h
  refine r_iload_n C 1 rfl rfl dX4_at_0 ?_
  refine r_if_lt C (tgt := 27) h dX4_at_1 (by decide) (fun h => ?_) (fun h => ?_)
  · refine r_null C dX4_at_27 ?_
    have hz9 := Option.some.inj h
    subst hz9
    exact r_aret C (r := (none : Option Nat)) hr (Or.inl ⟨_, rfl⟩) dX4_at_28
  · refine r_iload_n C 1 rfl rfl dX4_at_4 ?_
    refine r_aload_n C 0 rfl rfl dX4_at_5 ?_
    refine gf_X4_16 C hk dX4_at_6 ?_
    refine r_icmp_ge C (tgt := 27) h dX4_at_9 (by decide) (fun h => ?_) (fun h => ?_)
    · refine r_null C dX4_at_27 ?_
      have hz9 := Option.some.inj h
      subst hz9
      exact r_aret C (r := (none : Option Nat)) hr (Or.inl ⟨_, rfl⟩) dX4_at_28
    · refine r_iload_n C 1 rfl rfl dX4_at_12 ?_
      refine r_bipush C (v := 6) (by decide) dX4_at_13 ?_
      refine r_icmp_ge C (tgt := 27) h dX4_at_15 (by decide) (fun h => ?_) (fun h => ?_)
      · refine r_null C dX4_at_27 ?_
        have hz9 := Option.some.inj h
        subst hz9
        exact r_aret C (r := (none : Option Nat)) hr (Or.inl ⟨_, rfl⟩) dX4_at_28
      · refine r_aload_n C 0 rfl rfl dX4_at_18 ?_
        refine gf_X4_11 C rf0 hk (q := (rfn k 0)) rfl dX4_at_19 ?_
        refine r_iload_n C 1 rfl rfl dX4_at_22 ?_
        have hv2 := (ck h).1
        refine r_aald C (ob_3_0 rf0 hk) (Or.inl rfl) (rf0 _ (ob_3_0 rf0 hk).2.1 (Or.inl (by rw [(ob_3_0 rf0 hk).1]; decide))).1 h (fun hv => ((oi_3_0 rf0 hk) _ (vin_lt hv)).1) dX4_at_23 (fun h => ?_)
        refine r_goto C (tgt := 28) dX4_at_24 (by decide) ?_
        have hz9 := Option.some.inj h
        subst hz9
        exact r_aret C (r := some (rfn (rfn k 0) a0.toNatClampNeg)) hr (Or.inl ⟨_, rfl⟩) dX4_at_28
set_option maxHeartbeats 4000000 in
set_option maxRecDepth 100000 in
theorem c_X4_at {l : Launch} {g : GG} {ad : Nat → Nat} {k : Nat} {a0 : Int32} {I : HI} {J : HJ} {r : Option Nat} (hk : OB nO k 3) (h : f_X4_at k a0 I J = some r) : CM l yX4_at cX4_at 2 (some (.object "UnevenTap$Times")) (rmk 0 0) g ad nO oR [.ref (ad k), .int a0] I J (QAe g ad nO oR r I J) :=
  CM_of (by decide +kernel) (Nat.le_of_ble_eq_true rfl) (fun p e s m args below meth c C hr => w_X4_at C hr hk h)
set_option maxHeartbeats 4000000 in
set_option maxRecDepth 100000 in
theorem w_X9_becomeLike {l : Launch} {g : GG} {ad : Nat → Nat} {p : Program} {e : Env} {s : State} {m : MethodId} {args : Array Value} {below : List Frame} {meth : Method} {c : Code} {k : Nat} {a0 : Nat} {z : HI} (C : Cx p s m args meth c RX9 cX9_becomeLike 2 g (AW ad nO)) (hr : meth.sig.returnType = none) (hk : OB nO k 8) (ha0 : OB nO a0 8) {I : HI} {J : HJ} (h : f_X9_becomeLike k a0 I J = some z) : V p l e (rmk 4 150) s m args below meth c (MQ below (QAv g ad nO oR z J) args s 0 0 (AW ad nO)) 2 0 0 g (AW ad nO) ad nO oR I J 0 [(0, .ref (ad k)), (1, .ref (ad a0))] [] := by
  unfold f_X9_becomeLike at h
  refine r_aload_n C 1 rfl rfl dX9_becomeLike_0 ?_
  refine gf_X9_9 C rf0 ha0 (q := (rfn a0 0)) rfl dX9_becomeLike_1 ?_
  refine r_iconst C (v := 0) (by decide) dX9_becomeLike_4 ?_
  refine r_aload_n C 0 rfl rfl dX9_becomeLike_5 ?_
  refine gf_X9_9 C rf0 hk (q := (rfn k 0)) rfl dX9_becomeLike_6 ?_
  refine r_pc (pc1 := 9) rfl ?_
  refine r_iconst C (v := 0) (by decide) dX9_becomeLike_9 ?_
  refine r_bipush C (v := 60) (by decide) dX9_becomeLike_10 ?_
  refine r_copy C (ob_8_0 rf0 ha0) (ob_8_0 rf0 hk) h lk_X9_25 (Nat.le_of_ble_eq_true rfl) (Nat.le_of_ble_eq_true rfl) dX9_becomeLike_12 (fun h => ?_)
  refine r_nmI h (fun I3 h => ?_)
  refine r_aload_n C 0 rfl rfl dX9_becomeLike_15 ?_
  refine r_aload_n C 1 rfl rfl dX9_becomeLike_16 ?_
  refine gf_X9_13 C ha0 dX9_becomeLike_17 ?_
  refine pf_X9_13 C hk dX9_becomeLike_20 ?_
  refine r_nmI h (fun I4 h => ?_)
  have hz9 := Option.some.inj h
  subst hz9
  exact r_vret C hr dX9_becomeLike_23
set_option maxHeartbeats 4000000 in
set_option maxRecDepth 100000 in
theorem c_X9_becomeLike {l : Launch} {g : GG} {ad : Nat → Nat} {k : Nat} {a0 : Nat} {I : HI} {J : HJ} {I1 : HI} (hk : OB nO k 8) (ha0 : OB nO a0 8) (h : f_X9_becomeLike k a0 I J = some I1) : CM l yX9_becomeLike cX9_becomeLike 2 none (rmk 4 150) g ad nO oR [.ref (ad k), .ref (ad a0)] I J (QAv g ad nO oR I1 J) :=
  CM_of (by decide +kernel) (Nat.le_of_ble_eq_true rfl) (fun p e s m args below meth c C hr => w_X9_becomeLike C hr hk ha0 h)
set_option maxHeartbeats 4000000 in
set_option maxRecDepth 100000 in
theorem w_X4_add {l : Launch} {g : GG} {ad : Nat → Nat} {p : Program} {e : Env} {s : State} {m : MethodId} {args : Array Value} {below : List Frame} {meth : Method} {c : Code} {k : Nat} {a0 : Nat} {z : Int32 × HI} (C : Cx p s m args meth c RX4 cX4_add 2 g (AW ad nO)) (hr : meth.sig.returnType = (some .boolean)) (hk : OB nO k 3) (ha0 : OB nO a0 8) {I : HI} {J : HJ} (h : f_X4_add k a0 I J = some z) : V p l e (rmk 5 171) s m args below meth c (MQ below (QAi g ad nO oR z.1 z.2 J) args s 0 0 (AW ad nO)) 2 0 0 g (AW ad nO) ad nO oR I J 0 [(0, .ref (ad k)), (1, .ref (ad a0))] [] := by
  unfold f_X4_add at h
  refine r_aload_n C 0 rfl rfl dX4_add_0 ?_
  refine gf_X4_16 C hk dX4_add_1 ?_
  refine r_if_lt C (tgt := 28) h dX4_add_4 (by decide) (fun h => ?_) (fun h => ?_)
  · refine r_iconst C (v := 0) (by decide) dX4_add_28 ?_
    have hz9 := Option.some.inj h
    subst hz9
    exact r_zret C (v := (0 : Int32)) rfl hr dX4_add_29
  · refine r_aload_n C 0 rfl rfl dX4_add_7 ?_
    refine gf_X4_16 C hk dX4_add_8 ?_
    refine r_bipush C (v := 6) (by decide) dX4_add_11 ?_
    refine r_icmp_ge C (tgt := 28) h dX4_add_13 (by decide) (fun h => ?_) (fun h => ?_)
    · refine r_iconst C (v := 0) (by decide) dX4_add_28 ?_
      have hz9 := Option.some.inj h
      subst hz9
      exact r_zret C (v := (0 : Int32)) rfl hr dX4_add_29
    · refine r_aload_n C 0 rfl rfl dX4_add_16 ?_
      refine gf_X4_11 C rf0 hk (q := (rfn k 0)) rfl dX4_add_17 ?_
      refine r_aload_n C 0 rfl rfl dX4_add_20 ?_
      refine gf_X4_16 C hk dX4_add_21 ?_
      have hv6 := (ck h).1
      refine r_aald C (ob_3_0 rf0 hk) (Or.inl rfl) (rf0 _ (ob_3_0 rf0 hk).2.1 (Or.inl (by rw [(ob_3_0 rf0 hk).1]; decide))).1 h (fun hv => ((oi_3_0 rf0 hk) _ (vin_lt hv)).1) dX4_add_24 (fun h => ?_)
      refine r_ifnonnull C (tgt := 30) dX4_add_25 (by decide) ?_
      refine r_aload_n C 0 rfl rfl dX4_add_30 ?_
      refine gf_X4_11 C rf0 hk (q := (rfn k 0)) rfl dX4_add_31 ?_
      refine r_aload_n C 0 rfl rfl dX4_add_34 ?_
      refine gf_X4_16 C hk dX4_add_35 ?_
      have hv7 := (ck h).1
      refine r_aald C (ob_3_0 rf0 hk) (Or.inl rfl) (rf0 _ (ob_3_0 rf0 hk).2.1 (Or.inl (by rw [(ob_3_0 rf0 hk).1]; decide))).1 h (fun hv => ((oi_3_0 rf0 hk) _ (vin_lt hv)).1) dX4_add_38 (fun h => ?_)
      refine r_aload_n C 1 rfl rfl dX4_add_39 ?_
      obtain ⟨I8, hq9, h⟩ := bd1_ h
      refine r_cvv C (rest := []) (c_X9_becomeLike ((oi_3_0 rf0 hk) _ (vin_lt hv7)).2 ha0 hq9) fm_X9_becomeLike lk_X4_20 ((oi_3_0 rf0 hk) _ (vin_lt hv7)).2 ⟨_, ct_8 ((oi_3_0 rf0 hk) _ (vin_lt hv7)).2.1⟩ rfl rfl ⟨rfl, rfl, Nat.le_of_ble_eq_true rfl, Nat.le_of_ble_eq_true rfl⟩ (Nat.le_of_ble_eq_true rfl) rfl dX4_add_40 ?_
      refine r_aload_n C 0 rfl rfl dX4_add_43 ?_
      refine r_dup C rfl dX4_add_44 ?_
      refine gf_X4_16 C hk dX4_add_45 ?_
      refine r_iconst C (v := 1) (by decide) dX4_add_48 ?_
      refine r_iadd C dX4_add_49 ?_
      refine r_pc (pc1 := 50) rfl ?_
      refine pf_X4_16 C hk dX4_add_50 ?_
      refine r_nmI h (fun I10 h => ?_)
      refine r_iconst C (v := 1) (by decide) dX4_add_53 ?_
      have hz9 := Option.some.inj h
      subst hz9
      exact r_zret C (v := (1 : Int32)) rfl hr dX4_add_54
set_option maxHeartbeats 4000000 in
set_option maxRecDepth 100000 in
theorem c_X4_add {l : Launch} {g : GG} {ad : Nat → Nat} {k : Nat} {a0 : Nat} {I : HI} {J : HJ} {r : Int32} {I1 : HI} (hk : OB nO k 3) (ha0 : OB nO a0 8) (h : f_X4_add k a0 I J = some (r, I1)) : CM l yX4_add cX4_add 2 (some .boolean) (rmk 5 171) g ad nO oR [.ref (ad k), .ref (ad a0)] I J (QAi g ad nO oR r I1 J) :=
  CM_of (by decide +kernel) (Nat.le_of_ble_eq_true rfl) (fun p e s m args below meth c C hr => w_X4_add C hr hk ha0 h)
set_option maxHeartbeats 4000000 in
set_option maxRecDepth 100000 in
theorem wB_X4_becomeLike_37 {l : Launch} {g : GG} {ad : Nat → Nat} {p : Program} {e : Env} {s : State} {m : MethodId} {args : Array Value} {below : List Frame} {meth : Method} {c : Code} {k : Nat} {a0 : Nat} {z : HI} (C : Cx p s m args meth c RX4 cX4_becomeLike 4 g (AW ad nO)) (hr : meth.sig.returnType = none) (hk : OB nO k 3) (ha0 : OB nO a0 3) {r_7 : Int32 → HI → HJ → Option (HI)} {J : HJ} (hr_7 : ∀ {x2 : Int32} {I : HI}, r_7 x2 I J = some z → V p l e (rmk 6 192) s m args below meth c (MQ below (QAv g ad nO oR z J) args s 0 0 (AW ad nO)) 4 0 0 g (AW ad nO) ad nO oR I J 7 [(0, .ref (ad k)), (1, .ref (ad a0)), (2, .int x2)] []) {x2 : Int32} {I : HI} (h : fB_X4_becomeLike_37 k a0 r_7 x2 I J = some z) : V p l e (rmk 6 192) s m args below meth c (MQ below (QAv g ad nO oR z J) args s 0 0 (AW ad nO)) 4 0 0 g (AW ad nO) ad nO oR I J 37 [(0, .ref (ad k)), (1, .ref (ad a0)), (2, .int x2)] [] := by
  unfold fB_X4_becomeLike_37 at h
  refine r_iincN C h (k := 2) (zz := 1) rfl rfl (by decide) (lv1 := fun v10 => [(2, .int v10), (0, .ref (ad k)), (1, .ref (ad a0))]) (fun _ => rfl) dX4_becomeLike_37 (fun v10 h => ?_)
  refine r_goto C (tgt := 7) dX4_becomeLike_40 (by decide) ?_
  exact r_sub [1, 2, 0] rfl (hr_7  h)
set_option maxHeartbeats 4000000 in
set_option maxRecDepth 100000 in
theorem wLB_X4_becomeLike_7 {l : Launch} {g : GG} {ad : Nat → Nat} {p : Program} {e : Env} {s : State} {m : MethodId} {args : Array Value} {below : List Frame} {meth : Method} {c : Code} {k : Nat} {a0 : Nat} {z : HI} (C : Cx p s m args meth c RX4 cX4_becomeLike 4 g (AW ad nO)) (hr : meth.sig.returnType = none) (hk : OB nO k 3) (ha0 : OB nO a0 3) {J : HJ}  {r_7 : Int32 → HI → HJ → Option (HI)} (hr_7 : ∀ {x2 : Int32} {I : HI}, r_7 x2 I J = some z → V p l e (rmk 6 192) s m args below meth c (MQ below (QAv g ad nO oR z J) args s 0 0 (AW ad nO)) 4 0 0 g (AW ad nO) ad nO oR I J 7 [(0, .ref (ad k)), (1, .ref (ad a0)), (2, .int x2)] []) {x2 : Int32} {I : HI} (h : fLB_X4_becomeLike_7 k a0 r_7 x2 I J = some z) : V p l e (rmk 6 192) s m args below meth c (MQ below (QAv g ad nO oR z J) args s 0 0 (AW ad nO)) 4 0 0 g (AW ad nO) ad nO oR I J 7 [(0, .ref (ad k)), (1, .ref (ad a0)), (2, .int x2)] [] := by
  unfold fLB_X4_becomeLike_7 at h
  refine r_iload_n C 2 rfl rfl dX4_becomeLike_7 ?_
  refine r_aload_n C 1 rfl rfl dX4_becomeLike_8 ?_
  refine gf_X4_16 C ha0 dX4_becomeLike_9 ?_
  refine r_icmp_ge C (tgt := 43) h dX4_becomeLike_12 (by decide) (fun h => ?_) (fun h => ?_)
  · have hz9 := Option.some.inj h
    subst hz9
    exact r_vret C hr dX4_becomeLike_43
  · refine r_iload_n C 2 rfl rfl dX4_becomeLike_15 ?_
    refine r_bipush C (v := 6) (by decide) dX4_becomeLike_16 ?_
    refine r_icmp_ge C (tgt := 43) h dX4_becomeLike_18 (by decide) (fun h => ?_) (fun h => ?_)
    · have hz9 := Option.some.inj h
      subst hz9
      exact r_vret C hr dX4_becomeLike_43
    · refine r_aload_n C 1 rfl rfl dX4_becomeLike_21 ?_
      refine r_iload_n C 2 rfl rfl dX4_becomeLike_22 ?_
      obtain ⟨r11, hq12, h⟩ := bd1_ h
      refine r_cve C (rest := []) (c_X4_at ha0 hq12) fm_X4_at lk_X4_24 ha0 ⟨_, ct_3 ha0.1⟩ rfl rfl ⟨rfl, rfl, Nat.le_of_ble_eq_true rfl, Nat.le_of_ble_eq_true rfl⟩ (Nat.le_of_ble_eq_true rfl) rfl dX4_becomeLike_23 ?_
      cases r11 with
      | none =>
        replace h := oel_n h
        refine r_astore_nN C (lv1 := [(3, .null), (0, .ref (ad k)), (1, .ref (ad a0)), (2, .int x2)]) rfl (by decide) rfl dX4_becomeLike_26 ?_
        refine r_aload_nN C 0 rfl rfl dX4_becomeLike_27 ?_
        refine r_ifnullN C (tgt := 37) dX4_becomeLike_28 (by decide) ?_
        exact r_sub [1, 2, 3] rfl (wB_X4_becomeLike_37 C hr hk ha0 hr_7  h)
      | some q13 =>
        replace h := oel_s h
        obtain ⟨hz14, h⟩ := ck h
        refine r_astore_n C (lv1 := [(3, .ref (ad q13)), (0, .ref (ad k)), (1, .ref (ad a0)), (2, .int x2)]) rfl (by decide) rfl dX4_becomeLike_26 ?_
        refine r_aload_n C 0 rfl rfl dX4_becomeLike_27 ?_
        refine r_ifnull C dX4_becomeLike_28 ?_
        refine r_aload_n C 1 rfl rfl dX4_becomeLike_31 ?_
        refine r_aload_n C 0 rfl rfl dX4_becomeLike_32 ?_
        obtain ⟨r15, I16, hq17, h⟩ := bd2_ h
        refine r_cvi C (rest := []) (c_X4_add hk (ob_of hz14) hq17) fm_X4_add lk_X4_28 hk ⟨_, ct_3 hk.1⟩ rfl rfl ⟨rfl, rfl, Nat.le_of_ble_eq_true rfl, Nat.le_of_ble_eq_true rfl⟩ (Nat.le_of_ble_eq_true rfl) rfl dX4_becomeLike_33 ?_
        refine r_pop C rfl dX4_becomeLike_36 ?_
        exact r_sub [1, 2, 3] rfl (wB_X4_becomeLike_37 C hr hk ha0 hr_7  h)
set_option maxHeartbeats 4000000 in
set_option maxRecDepth 100000 in
theorem wL_X4_becomeLike_7 {l : Launch} {g : GG} {ad : Nat → Nat} {p : Program} {e : Env} {s : State} {m : MethodId} {args : Array Value} {below : List Frame} {meth : Method} {c : Code} {k : Nat} {a0 : Nat} {z : HI} (C : Cx p s m args meth c RX4 cX4_becomeLike 4 g (AW ad nO)) (hr : meth.sig.returnType = none) (hk : OB nO k 3) (ha0 : OB nO a0 3) {J : HJ}  : ∀ (f : Nat) {x2 : Int32} {I : HI}, fL_X4_becomeLike_7 k a0 f x2 I J = some z → V p l e (rmk 6 192) s m args below meth c (MQ below (QAv g ad nO oR z J) args s 0 0 (AW ad nO)) 4 0 0 g (AW ad nO) ad nO oR I J 7 [(0, .ref (ad k)), (1, .ref (ad a0)), (2, .int x2)] [] := by
  intro f
  induction f with
  | zero =>
    intro _ _  h
    have h0 : (none : Option (HI)) = some z := h
    cases h0
  | succ f ih =>
    intro _ _  h
    exact wLB_X4_becomeLike_7 C hr hk ha0 ih  h
set_option maxHeartbeats 4000000 in
set_option maxRecDepth 100000 in
theorem w_X4_becomeLike {l : Launch} {g : GG} {ad : Nat → Nat} {p : Program} {e : Env} {s : State} {m : MethodId} {args : Array Value} {below : List Frame} {meth : Method} {c : Code} {k : Nat} {a0 : Nat} {z : HI} (C : Cx p s m args meth c RX4 cX4_becomeLike 4 g (AW ad nO)) (hr : meth.sig.returnType = none) (hk : OB nO k 3) (ha0 : OB nO a0 3) {I : HI} {J : HJ} (h : f_X4_becomeLike k a0 I J = some z) : V p l e (rmk 6 192) s m args below meth c (MQ below (QAv g ad nO oR z J) args s 0 0 (AW ad nO)) 4 0 0 g (AW ad nO) ad nO oR I J 0 [(0, .ref (ad k)), (1, .ref (ad a0))] [] := by
  unfold f_X4_becomeLike at h
  refine r_aload_n C 0 rfl rfl dX4_becomeLike_0 ?_
  refine r_iconst C (v := 0) (by decide) dX4_becomeLike_1 ?_
  refine pf_X4_16 C hk dX4_becomeLike_2 ?_
  refine r_nmI h (fun I18 h => ?_)
  refine r_iconst C (v := 0) (by decide) dX4_becomeLike_5 ?_
  refine r_istore_n C (lv1 := [(2, .int (0 : Int32)), (0, .ref (ad k)), (1, .ref (ad a0))]) rfl (by decide) rfl dX4_becomeLike_6 ?_
  exact r_sub [1, 2, 0] rfl (wL_X4_becomeLike_7 C hr hk ha0 _  h)
set_option maxHeartbeats 4000000 in
set_option maxRecDepth 100000 in
theorem c_X4_becomeLike {l : Launch} {g : GG} {ad : Nat → Nat} {k : Nat} {a0 : Nat} {I : HI} {J : HJ} {I1 : HI} (hk : OB nO k 3) (ha0 : OB nO a0 3) (h : f_X4_becomeLike k a0 I J = some I1) : CM l yX4_becomeLike cX4_becomeLike 4 none (rmk 6 192) g ad nO oR [.ref (ad k), .ref (ad a0)] I J (QAv g ad nO oR I1 J) :=
  CM_of (by decide +kernel) (Nat.le_of_ble_eq_true rfl) (fun p e s m args below meth c C hr => w_X4_becomeLike C hr hk ha0 h)
set_option maxHeartbeats 4000000 in
set_option maxRecDepth 100000 in
theorem w_X5_isSheet {l : Launch} {g : GG} {ad : Nat → Nat} {p : Program} {e : Env} {s : State} {m : MethodId} {args : Array Value} {below : List Frame} {meth : Method} {c : Code} {a0 : Int32} {z : Int32} (C : Cx p s m args meth c RX5 cX5_isSheet 2 g (AW ad nO)) (hr : meth.sig.returnType = (some .boolean)) {I : HI} {J : HJ} (h : f_X5_isSheet a0 = some z) : V p l e (rmk 0 0) s m args below meth c (MQ below (QAi g ad nO oR z I J) args s 0 0 (AW ad nO)) 2 0 0 g (AW ad nO) ad nO oR I J 0 [(0, .ref (ad 84)), (1, .int a0)] [] := by
  unfold f_X5_isSheet at h
  refine r_iload_n C 1 rfl rfl dX5_isSheet_0 ?_
  refine r_if_lt C (tgt := 13) h dX5_isSheet_1 (by decide) (fun h => ?_) (fun h => ?_)
  · refine r_iconst C (v := 0) (by decide) dX5_isSheet_13 ?_
    have hz9 := Option.some.inj h
    subst hz9
    exact r_zret C (v := (0 : Int32)) rfl hr dX5_isSheet_14
  · refine r_iload_n C 1 rfl rfl dX5_isSheet_4 ?_
    refine r_iconst C (v := 4) (by decide) dX5_isSheet_5 ?_
    refine r_icmp_ge C (tgt := 13) h dX5_isSheet_6 (by decide) (fun h => ?_) (fun h => ?_)
    · refine r_iconst C (v := 0) (by decide) dX5_isSheet_13 ?_
      have hz9 := Option.some.inj h
      subst hz9
      exact r_zret C (v := (0 : Int32)) rfl hr dX5_isSheet_14
    · refine r_iconst C (v := 1) (by decide) dX5_isSheet_9 ?_
      refine r_goto C (tgt := 14) dX5_isSheet_10 (by decide) ?_
      have hz9 := Option.some.inj h
      subst hz9
      exact r_zret C (v := (1 : Int32)) rfl hr dX5_isSheet_14
set_option maxHeartbeats 4000000 in
set_option maxRecDepth 100000 in
theorem c_X5_isSheet {l : Launch} {g : GG} {ad : Nat → Nat} {a0 : Int32} {I : HI} {J : HJ} {r : Int32} (h : f_X5_isSheet a0 = some r) : CM l yX5_isSheet cX5_isSheet 2 (some .boolean) (rmk 0 0) g ad nO oR [.ref (ad 84), .int a0] I J (QAi g ad nO oR r I J) :=
  CM_of (by decide +kernel) (Nat.le_of_ble_eq_true rfl) (fun p e s m args below meth c C hr => w_X5_isSheet C hr h)
set_option maxHeartbeats 4000000 in
set_option maxRecDepth 100000 in
theorem w_X5_has {l : Launch} {g : GG} {ad : Nat → Nat} {p : Program} {e : Env} {s : State} {m : MethodId} {args : Array Value} {below : List Frame} {meth : Method} {c : Code} {a0 : Int32} {a1 : Int32} {z : Int32} (C : Cx p s m args meth c RX5 cX5_has 3 g (AW ad nO)) (hr : meth.sig.returnType = (some .boolean)) {I : HI} {J : HJ} (h : f_X5_has a0 a1 I J = some z) : V p l e (rmk 1 22) s m args below meth c (MQ below (QAi g ad nO oR z I J) args s 0 0 (AW ad nO)) 3 0 0 g (AW ad nO) ad nO oR I J 0 [(0, .ref (ad 84)), (1, .int a0), (2, .int a1)] [] := by
  unfold f_X5_has at h
  refine r_aload_n C 0 rfl rfl dX5_has_0 ?_
  refine r_iload_n C 1 rfl rfl dX5_has_1 ?_
  obtain ⟨r5, hq6, h⟩ := bd1_ h
  refine r_cvi C (rest := []) (c_X5_isSheet  hq6) fm_X5_isSheet lk_X5_21 o_84 ⟨_, ct_4 o_84.1⟩ rfl rfl ⟨rfl, rfl, Nat.le_of_ble_eq_true rfl, Nat.le_of_ble_eq_true rfl⟩ (Nat.le_of_ble_eq_true rfl) rfl dX5_has_2 ?_
  refine r_if_eq C (tgt := 34) h dX5_has_5 (by decide) (fun h => ?_) (fun h => ?_)
  · refine r_iconst C (v := 0) (by decide) dX5_has_34 ?_
    have hz9 := Option.some.inj h
    subst hz9
    exact r_zret C (v := (0 : Int32)) rfl hr dX5_has_35
  · refine r_iload_n C 2 rfl rfl dX5_has_8 ?_
    refine r_iconst C (v := 0) (by decide) dX5_has_9 ?_
    refine r_aload_n C 0 rfl rfl dX5_has_10 ?_
    refine gf_X5_13 C rf0 o_84 (q := 86) rfl dX5_has_11 ?_
    refine r_iload_n C 1 rfl rfl dX5_has_14 ?_
    refine r_pc (pc1 := 15) rfl ?_
    refine r_iald C o_86 h dX5_has_15 (fun h => ?_)
    refine r_iconst C (v := 1) (by decide) dX5_has_16 ?_
    refine r_isub C dX5_has_17 ?_
    obtain ⟨r7, hq8, h⟩ := bd1_ h
    refine r_csni C (rest := []) (c_X10_isWithin  hq8) fm_X10_isWithin nk_X5_25 rfl ⟨rfl, rfl, Nat.le_of_ble_eq_true rfl, Nat.le_of_ble_eq_true rfl⟩ (Nat.le_of_ble_eq_true rfl) rfl dX5_has_18 ?_
    refine r_if_eq C (tgt := 34) h dX5_has_21 (by decide) (fun h => ?_) (fun h => ?_)
    · refine r_iconst C (v := 0) (by decide) dX5_has_34 ?_
      have hz9 := Option.some.inj h
      subst hz9
      exact r_zret C (v := (0 : Int32)) rfl hr dX5_has_35
    · refine r_iload_n C 2 rfl rfl dX5_has_24 ?_
      refine r_bipush C (v := 40) (by decide) dX5_has_25 ?_
      refine r_icmp_ge C (tgt := 34) h dX5_has_27 (by decide) (fun h => ?_) (fun h => ?_)
      · refine r_iconst C (v := 0) (by decide) dX5_has_34 ?_
        have hz9 := Option.some.inj h
        subst hz9
        exact r_zret C (v := (0 : Int32)) rfl hr dX5_has_35
      · refine r_iconst C (v := 1) (by decide) dX5_has_30 ?_
        refine r_goto C (tgt := 35) dX5_has_31 (by decide) ?_
        have hz9 := Option.some.inj h
        subst hz9
        exact r_zret C (v := (1 : Int32)) rfl hr dX5_has_35
set_option maxHeartbeats 4000000 in
set_option maxRecDepth 100000 in
theorem c_X5_has {l : Launch} {g : GG} {ad : Nat → Nat} {a0 : Int32} {a1 : Int32} {I : HI} {J : HJ} {r : Int32} (h : f_X5_has a0 a1 I J = some r) : CM l yX5_has cX5_has 3 (some .boolean) (rmk 1 22) g ad nO oR [.ref (ad 84), .int a0, .int a1] I J (QAi g ad nO oR r I J) :=
  CM_of (by decide +kernel) (Nat.le_of_ble_eq_true rfl) (fun p e s m args below meth c C hr => w_X5_has C hr h)
set_option maxHeartbeats 4000000 in
set_option maxRecDepth 100000 in
theorem w_X5_sortOf {l : Launch} {g : GG} {ad : Nat → Nat} {p : Program} {e : Env} {s : State} {m : MethodId} {args : Array Value} {below : List Frame} {meth : Method} {c : Code} {a0 : Int32} {z : Int32} (C : Cx p s m args meth c RX5 cX5_sortOf 2 g (AW ad nO)) (hr : meth.sig.returnType = (some .int)) {I : HI} {J : HJ} (h : f_X5_sortOf a0 I J = some z) : V p l e (rmk 1 21) s m args below meth c (MQ below (QAi g ad nO oR z I J) args s 0 0 (AW ad nO)) 2 0 0 g (AW ad nO) ad nO oR I J 0 [(0, .ref (ad 84)), (1, .int a0)] [] := by
  unfold f_X5_sortOf at h
  refine r_aload_n C 0 rfl rfl dX5_sortOf_0 ?_
  refine r_iload_n C 1 rfl rfl dX5_sortOf_1 ?_
  obtain ⟨r3, hq4, h⟩ := bd1_ h
  refine r_cvi C (rest := []) (c_X5_isSheet  hq4) fm_X5_isSheet lk_X5_21 o_84 ⟨_, ct_4 o_84.1⟩ rfl rfl ⟨rfl, rfl, Nat.le_of_ble_eq_true rfl, Nat.le_of_ble_eq_true rfl⟩ (Nat.le_of_ble_eq_true rfl) rfl dX5_sortOf_2 ?_
  refine r_if_eq C (tgt := 17) h dX5_sortOf_5 (by decide) (fun h => ?_) (fun h => ?_)
  · refine r_iconst C (v := -1) (by decide) dX5_sortOf_17 ?_
    have hz9 := Option.some.inj h
    subst hz9
    exact r_iret C hr dX5_sortOf_18
  · refine r_aload_n C 0 rfl rfl dX5_sortOf_8 ?_
    refine gf_X5_9 C rf0 o_84 (q := 85) rfl dX5_sortOf_9 ?_
    refine r_iload_n C 1 rfl rfl dX5_sortOf_12 ?_
    refine r_iald C o_85 h dX5_sortOf_13 (fun h => ?_)
    refine r_goto C (tgt := 18) dX5_sortOf_14 (by decide) ?_
    have hz9 := Option.some.inj h
    subst hz9
    exact r_iret C hr dX5_sortOf_18
set_option maxHeartbeats 4000000 in
set_option maxRecDepth 100000 in
theorem c_X5_sortOf {l : Launch} {g : GG} {ad : Nat → Nat} {a0 : Int32} {I : HI} {J : HJ} {r : Int32} (h : f_X5_sortOf a0 I J = some r) : CM l yX5_sortOf cX5_sortOf 2 (some .int) (rmk 1 21) g ad nO oR [.ref (ad 84), .int a0] I J (QAi g ad nO oR r I J) :=
  CM_of (by decide +kernel) (Nat.le_of_ble_eq_true rfl) (fun p e s m args below meth c C hr => w_X5_sortOf C hr h)
set_option maxHeartbeats 4000000 in
set_option maxRecDepth 100000 in
theorem w_X5_sizeOf {l : Launch} {g : GG} {ad : Nat → Nat} {p : Program} {e : Env} {s : State} {m : MethodId} {args : Array Value} {below : List Frame} {meth : Method} {c : Code} {a0 : Int32} {z : Int32} (C : Cx p s m args meth c RX5 cX5_sizeOf 2 g (AW ad nO)) (hr : meth.sig.returnType = (some .int)) {I : HI} {J : HJ} (h : f_X5_sizeOf a0 I J = some z) : V p l e (rmk 1 21) s m args below meth c (MQ below (QAi g ad nO oR z I J) args s 0 0 (AW ad nO)) 2 0 0 g (AW ad nO) ad nO oR I J 0 [(0, .ref (ad 84)), (1, .int a0)] [] := by
  unfold f_X5_sizeOf at h
  refine r_aload_n C 0 rfl rfl dX5_sizeOf_0 ?_
  refine r_iload_n C 1 rfl rfl dX5_sizeOf_1 ?_
  obtain ⟨r3, hq4, h⟩ := bd1_ h
  refine r_cvi C (rest := []) (c_X5_isSheet  hq4) fm_X5_isSheet lk_X5_21 o_84 ⟨_, ct_4 o_84.1⟩ rfl rfl ⟨rfl, rfl, Nat.le_of_ble_eq_true rfl, Nat.le_of_ble_eq_true rfl⟩ (Nat.le_of_ble_eq_true rfl) rfl dX5_sizeOf_2 ?_
  refine r_if_eq C (tgt := 17) h dX5_sizeOf_5 (by decide) (fun h => ?_) (fun h => ?_)
  · refine r_iconst C (v := 0) (by decide) dX5_sizeOf_17 ?_
    have hz9 := Option.some.inj h
    subst hz9
    exact r_iret C hr dX5_sizeOf_18
  · refine r_aload_n C 0 rfl rfl dX5_sizeOf_8 ?_
    refine gf_X5_13 C rf0 o_84 (q := 86) rfl dX5_sizeOf_9 ?_
    refine r_iload_n C 1 rfl rfl dX5_sizeOf_12 ?_
    refine r_iald C o_86 h dX5_sizeOf_13 (fun h => ?_)
    refine r_goto C (tgt := 18) dX5_sizeOf_14 (by decide) ?_
    have hz9 := Option.some.inj h
    subst hz9
    exact r_iret C hr dX5_sizeOf_18
set_option maxHeartbeats 4000000 in
set_option maxRecDepth 100000 in
theorem c_X5_sizeOf {l : Launch} {g : GG} {ad : Nat → Nat} {a0 : Int32} {I : HI} {J : HJ} {r : Int32} (h : f_X5_sizeOf a0 I J = some r) : CM l yX5_sizeOf cX5_sizeOf 2 (some .int) (rmk 1 21) g ad nO oR [.ref (ad 84), .int a0] I J (QAi g ad nO oR r I J) :=
  CM_of (by decide +kernel) (Nat.le_of_ble_eq_true rfl) (fun p e s m args below meth c C hr => w_X5_sizeOf C hr h)
set_option maxHeartbeats 4000000 in
set_option maxRecDepth 100000 in
theorem w_X5_becomeMissing {l : Launch} {g : GG} {ad : Nat → Nat} {p : Program} {e : Env} {s : State} {m : MethodId} {args : Array Value} {below : List Frame} {meth : Method} {c : Code} {a0 : Int32} {z : HI} (C : Cx p s m args meth c RX5 cX5_becomeMissing 2 g (AW ad nO)) (hr : meth.sig.returnType = none) {I : HI} {J : HJ} (h : f_X5_becomeMissing a0 I J = some z) : V p l e (rmk 1 21) s m args below meth c (MQ below (QAv g ad nO oR z J) args s 0 0 (AW ad nO)) 2 0 0 g (AW ad nO) ad nO oR I J 0 [(0, .ref (ad 84)), (1, .int a0)] [] := by
  unfold f_X5_becomeMissing at h
  refine r_aload_n C 0 rfl rfl dX5_becomeMissing_0 ?_
  refine r_iload_n C 1 rfl rfl dX5_becomeMissing_1 ?_
  obtain ⟨r5, hq6, h⟩ := bd1_ h
  refine r_cvi C (rest := []) (c_X5_isSheet  hq6) fm_X5_isSheet lk_X5_21 o_84 ⟨_, ct_4 o_84.1⟩ rfl rfl ⟨rfl, rfl, Nat.le_of_ble_eq_true rfl, Nat.le_of_ble_eq_true rfl⟩ (Nat.le_of_ble_eq_true rfl) rfl dX5_becomeMissing_2 ?_
  refine r_if_eq C (tgt := 22) h dX5_becomeMissing_5 (by decide) (fun h => ?_) (fun h => ?_)
  · have hz9 := Option.some.inj h
    subst hz9
    exact r_vret C hr dX5_becomeMissing_22
  · refine r_aload_n C 0 rfl rfl dX5_becomeMissing_8 ?_
    refine gf_X5_9 C rf0 o_84 (q := 85) rfl dX5_becomeMissing_9 ?_
    refine r_iload_n C 1 rfl rfl dX5_becomeMissing_12 ?_
    refine r_iconst C (v := -1) (by decide) dX5_becomeMissing_13 ?_
    refine r_iast C o_85 h dX5_becomeMissing_14 (fun h => ?_)
    refine r_nmI h (fun I7 h => ?_)
    refine r_aload_n C 0 rfl rfl dX5_becomeMissing_15 ?_
    refine gf_X5_13 C rf0 o_84 (q := 86) rfl dX5_becomeMissing_16 ?_
    refine r_iload_n C 1 rfl rfl dX5_becomeMissing_19 ?_
    refine r_iconst C (v := 0) (by decide) dX5_becomeMissing_20 ?_
    refine r_iast C o_86 h dX5_becomeMissing_21 (fun h => ?_)
    refine r_nmI h (fun I8 h => ?_)
    have hz9 := Option.some.inj h
    subst hz9
    exact r_vret C hr dX5_becomeMissing_22
set_option maxHeartbeats 4000000 in
set_option maxRecDepth 100000 in
theorem c_X5_becomeMissing {l : Launch} {g : GG} {ad : Nat → Nat} {a0 : Int32} {I : HI} {J : HJ} {I1 : HI} (h : f_X5_becomeMissing a0 I J = some I1) : CM l yX5_becomeMissing cX5_becomeMissing 2 none (rmk 1 21) g ad nO oR [.ref (ad 84), .int a0] I J (QAv g ad nO oR I1 J) :=
  CM_of (by decide +kernel) (Nat.le_of_ble_eq_true rfl) (fun p e s m args below meth c C hr => w_X5_becomeMissing C hr h)
set_option maxHeartbeats 4000000 in
set_option maxRecDepth 100000 in
theorem wLB_X5_becomeRow_25 {l : Launch} {g : GG} {ad : Nat → Nat} {p : Program} {e : Env} {s : State} {m : MethodId} {args : Array Value} {below : List Frame} {meth : Method} {c : Code} {a0 : Int32} {a1 : Int32} {a2 : Int32} {z : HI} (C : Cx p s m args meth c RX5 cX5_becomeRow 5 g (AW ad nO)) (hr : meth.sig.returnType = none) {J : HJ}  {r_25 : Int32 → HI → HJ → Option (HI)} (hr_25 : ∀ {x4 : Int32} {I : HI}, r_25 x4 I J = some z → V p l e (rmk 1 21) s m args below meth c (MQ below (QAv g ad nO oR z J) args s 0 0 (AW ad nO)) 5 0 0 g (AW ad nO) ad nO oR I J 25 [(0, .ref (ad 84)), (1, .int a0), (4, .int x4)] []) {x4 : Int32} {I : HI} (h : fLB_X5_becomeRow_25 a0 a1 a2 r_25 x4 I J = some z) : V p l e (rmk 1 21) s m args below meth c (MQ below (QAv g ad nO oR z J) args s 0 0 (AW ad nO)) 5 0 0 g (AW ad nO) ad nO oR I J 25 [(0, .ref (ad 84)), (1, .int a0), (4, .int x4)] [] := by
  unfold fLB_X5_becomeRow_25 at h
  refine r_iload C 2 rfl dX5_becomeRow_25 ?_
  refine r_bipush C (v := 40) (by decide) dX5_becomeRow_27 ?_
  refine r_icmp_ge C (tgt := 48) h dX5_becomeRow_29 (by decide) (fun h => ?_) (fun h => ?_)
  · have hz9 := Option.some.inj h
    subst hz9
    exact r_vret C hr dX5_becomeRow_48
  · refine r_aload_n C 0 rfl rfl dX5_becomeRow_32 ?_
    refine gf_X5_18 C rf0 o_84 (q := 87) rfl dX5_becomeRow_33 ?_
    refine r_iload_n C 1 rfl rfl dX5_becomeRow_36 ?_
    have hv8 := (ck h).1
    refine r_aald C o_87 (Or.inr rfl) (rf0 _ o_87.2.1 (Or.inl (by rw [o_87.1]; decide))).1 h (fun hv => (oi_87 _ (vin_lt hv)).1) dX5_becomeRow_37 (fun h => ?_)
    refine r_iload C 2 rfl dX5_becomeRow_38 ?_
    refine r_iconst C (v := 0) (by decide) dX5_becomeRow_40 ?_
    refine r_iast C (oi_87 _ (vin_lt hv8)).2 h dX5_becomeRow_41 (fun h => ?_)
    refine r_nmI h (fun I9 h => ?_)
    refine r_iincN C h (k := 2) (zz := 1) rfl rfl (by decide) (lv1 := fun v10 => [(4, .int v10), (0, .ref (ad 84)), (1, .int a0)]) (fun _ => rfl) dX5_becomeRow_42 (fun v10 h => ?_)
    refine r_goto C (tgt := 25) dX5_becomeRow_45 (by decide) ?_
    exact r_sub [1, 2, 0] rfl (hr_25  h)
set_option maxHeartbeats 4000000 in
set_option maxRecDepth 100000 in
theorem wL_X5_becomeRow_25 {l : Launch} {g : GG} {ad : Nat → Nat} {p : Program} {e : Env} {s : State} {m : MethodId} {args : Array Value} {below : List Frame} {meth : Method} {c : Code} {a0 : Int32} {a1 : Int32} {a2 : Int32} {z : HI} (C : Cx p s m args meth c RX5 cX5_becomeRow 5 g (AW ad nO)) (hr : meth.sig.returnType = none) {J : HJ}  : ∀ (f : Nat) {x4 : Int32} {I : HI}, fL_X5_becomeRow_25 a0 a1 a2 f x4 I J = some z → V p l e (rmk 1 21) s m args below meth c (MQ below (QAv g ad nO oR z J) args s 0 0 (AW ad nO)) 5 0 0 g (AW ad nO) ad nO oR I J 25 [(0, .ref (ad 84)), (1, .int a0), (4, .int x4)] [] := by
  intro f
  induction f with
  | zero =>
    intro _ _  h
    have h0 : (none : Option (HI)) = some z := h
    cases h0
  | succ f ih =>
    intro _ _  h
    exact wLB_X5_becomeRow_25 C hr ih  h
set_option maxHeartbeats 4000000 in
set_option maxRecDepth 100000 in
theorem w_X5_becomeRow {l : Launch} {g : GG} {ad : Nat → Nat} {p : Program} {e : Env} {s : State} {m : MethodId} {args : Array Value} {below : List Frame} {meth : Method} {c : Code} {a0 : Int32} {a1 : Int32} {a2 : Int32} {z : HI} (C : Cx p s m args meth c RX5 cX5_becomeRow 5 g (AW ad nO)) (hr : meth.sig.returnType = none) {I : HI} {J : HJ} (h : f_X5_becomeRow a0 a1 a2 I J = some z) : V p l e (rmk 1 21) s m args below meth c (MQ below (QAv g ad nO oR z J) args s 0 0 (AW ad nO)) 5 0 0 g (AW ad nO) ad nO oR I J 0 [(0, .ref (ad 84)), (1, .int a0), (2, .int a1), (3, .int a2)] [] := by
  unfold f_X5_becomeRow at h
  refine r_aload_n C 0 rfl rfl dX5_becomeRow_0 ?_
  refine r_iload_n C 1 rfl rfl dX5_becomeRow_1 ?_
  obtain ⟨r11, hq12, h⟩ := bd1_ h
  refine r_cvi C (rest := []) (c_X5_isSheet  hq12) fm_X5_isSheet lk_X5_21 o_84 ⟨_, ct_4 o_84.1⟩ rfl rfl ⟨rfl, rfl, Nat.le_of_ble_eq_true rfl, Nat.le_of_ble_eq_true rfl⟩ (Nat.le_of_ble_eq_true rfl) rfl dX5_becomeRow_2 ?_
  refine r_if_eq C (tgt := 48) h dX5_becomeRow_5 (by decide) (fun h => ?_) (fun h => ?_)
  · have hz9 := Option.some.inj h
    subst hz9
    exact r_vret C hr dX5_becomeRow_48
  · refine r_aload_n C 0 rfl rfl dX5_becomeRow_8 ?_
    refine gf_X5_9 C rf0 o_84 (q := 85) rfl dX5_becomeRow_9 ?_
    refine r_iload_n C 1 rfl rfl dX5_becomeRow_12 ?_
    refine r_iload_n C 2 rfl rfl dX5_becomeRow_13 ?_
    refine r_iast C o_85 h dX5_becomeRow_14 (fun h => ?_)
    refine r_nmI h (fun I13 h => ?_)
    refine r_aload_n C 0 rfl rfl dX5_becomeRow_15 ?_
    refine gf_X5_13 C rf0 o_84 (q := 86) rfl dX5_becomeRow_16 ?_
    refine r_iload_n C 1 rfl rfl dX5_becomeRow_19 ?_
    refine r_iload_n C 3 rfl rfl dX5_becomeRow_20 ?_
    refine r_iast C o_86 h dX5_becomeRow_21 (fun h => ?_)
    refine r_nmI h (fun I14 h => ?_)
    refine r_iconst C (v := 0) (by decide) dX5_becomeRow_22 ?_
    refine r_istore C (lv1 := [(4, .int (0 : Int32)), (0, .ref (ad 84)), (1, .int a0), (2, .int a1), (3, .int a2)]) (by decide) rfl dX5_becomeRow_23 ?_
    exact r_sub [1, 2, 0] rfl (wL_X5_becomeRow_25 C hr _  h)
set_option maxHeartbeats 4000000 in
set_option maxRecDepth 100000 in
theorem c_X5_becomeRow {l : Launch} {g : GG} {ad : Nat → Nat} {a0 : Int32} {a1 : Int32} {a2 : Int32} {I : HI} {J : HJ} {I1 : HI} (h : f_X5_becomeRow a0 a1 a2 I J = some I1) : CM l yX5_becomeRow cX5_becomeRow 5 none (rmk 1 21) g ad nO oR [.ref (ad 84), .int a0, .int a1, .int a2] I J (QAv g ad nO oR I1 J) :=
  CM_of (by decide +kernel) (Nat.le_of_ble_eq_true rfl) (fun p e s m args below meth c C hr => w_X5_becomeRow C hr h)
set_option maxHeartbeats 4000000 in
set_option maxRecDepth 100000 in
theorem w_X5_at {l : Launch} {g : GG} {ad : Nat → Nat} {p : Program} {e : Env} {s : State} {m : MethodId} {args : Array Value} {below : List Frame} {meth : Method} {c : Code} {a0 : Int32} {a1 : Int32} {z : Int32} (C : Cx p s m args meth c RX5 cX5_at 3 g (AW ad nO)) (hr : meth.sig.returnType = (some .int)) {I : HI} {J : HJ} (h : f_X5_at a0 a1 I J = some z) : V p l e (rmk 2 44) s m args below meth c (MQ below (QAi g ad nO oR z I J) args s 0 0 (AW ad nO)) 3 0 0 g (AW ad nO) ad nO oR I J 0 [(0, .ref (ad 84)), (1, .int a0), (2, .int a1)] [] := by
  unfold f_X5_at at h
  refine r_aload_n C 0 rfl rfl dX5_at_0 ?_
  refine r_iload_n C 1 rfl rfl dX5_at_1 ?_
  refine r_iload_n C 2 rfl rfl dX5_at_2 ?_
  obtain ⟨r4, hq5, h⟩ := bd1_ h
  refine r_cvi C (rest := []) (c_X5_has  hq5) fm_X5_has lk_X5_31 o_84 ⟨_, ct_4 o_84.1⟩ rfl rfl ⟨rfl, rfl, Nat.le_of_ble_eq_true rfl, Nat.le_of_ble_eq_true rfl⟩ (Nat.le_of_ble_eq_true rfl) rfl dX5_at_3 ?_
  refine r_if_eq C (tgt := 20) h dX5_at_6 (by decide) (fun h => ?_) (fun h => ?_)
  · refine r_iconst C (v := 0) (by decide) dX5_at_20 ?_
    have hz9 := Option.some.inj h
    subst hz9
    exact r_iret C hr dX5_at_21
  · refine r_aload_n C 0 rfl rfl dX5_at_9 ?_
    refine gf_X5_18 C rf0 o_84 (q := 87) rfl dX5_at_10 ?_
    refine r_iload_n C 1 rfl rfl dX5_at_13 ?_
    have hv6 := (ck h).1
    refine r_aald C o_87 (Or.inr rfl) (rf0 _ o_87.2.1 (Or.inl (by rw [o_87.1]; decide))).1 h (fun hv => (oi_87 _ (vin_lt hv)).1) dX5_at_14 (fun h => ?_)
    refine r_iload_n C 2 rfl rfl dX5_at_15 ?_
    refine r_iald C (oi_87 _ (vin_lt hv6)).2 h dX5_at_16 (fun h => ?_)
    refine r_goto C (tgt := 21) dX5_at_17 (by decide) ?_
    have hz9 := Option.some.inj h
    subst hz9
    exact r_iret C hr dX5_at_21
set_option maxHeartbeats 4000000 in
set_option maxRecDepth 100000 in
theorem c_X5_at {l : Launch} {g : GG} {ad : Nat → Nat} {a0 : Int32} {a1 : Int32} {I : HI} {J : HJ} {r : Int32} (h : f_X5_at a0 a1 I J = some r) : CM l yX5_at cX5_at 3 (some .int) (rmk 2 44) g ad nO oR [.ref (ad 84), .int a0, .int a1] I J (QAi g ad nO oR r I J) :=
  CM_of (by decide +kernel) (Nat.le_of_ble_eq_true rfl) (fun p e s m args below meth c C hr => w_X5_at C hr h)
set_option maxHeartbeats 4000000 in
set_option maxRecDepth 100000 in
theorem w_X5_narrowed {l : Launch} {g : GG} {ad : Nat → Nat} {p : Program} {e : Env} {s : State} {m : MethodId} {args : Array Value} {below : List Frame} {meth : Method} {c : Code} {a0 : Int32} {a1 : Int32} {z : Int32} (C : Cx p s m args meth c RX5 cX5_narrowed 2 g (AW ad nO)) (hr : meth.sig.returnType = (some .int)) {I : HI} {J : HJ} (h : f_X5_narrowed a0 a1 = some z) : V p l e (rmk 0 0) s m args below meth c (MQ below (QAi g ad nO oR z I J) args s 0 0 (AW ad nO)) 2 0 0 g (AW ad nO) ad nO oR I J 0 [(0, .int a0), (1, .int a1)] [] := by
  unfold f_X5_narrowed at h
  refine r_iload_n C 0 rfl rfl dX5_narrowed_0 ?_
  refine r_case h (fun hc4 h => ?_) (fun hc4 h => ?_)
  · refine r_tabIn C (tgt := 36) 0 hc4 dX5_narrowed_1 (by decide) (by decide) rfl (by decide) ?_
    refine r_iload_n C 1 rfl rfl dX5_narrowed_36 ?_
    refine r_i2b C dX5_narrowed_37 ?_
    have hz9 := Option.some.inj h
    subst hz9
    exact r_iret C hr dX5_narrowed_38
  refine r_case h (fun hc5 h => ?_) (fun hc5 h => ?_)
  · refine r_tabIn C (tgt := 39) 1 hc5 dX5_narrowed_1 (by decide) (by decide) rfl (by decide) ?_
    refine r_iload_n C 1 rfl rfl dX5_narrowed_39 ?_
    refine r_i2s C dX5_narrowed_40 ?_
    have hz9 := Option.some.inj h
    subst hz9
    exact r_iret C hr dX5_narrowed_41
  refine r_case h (fun hc6 h => ?_) (fun hc6 h => ?_)
  · refine r_tabIn C (tgt := 42) 4 hc6 dX5_narrowed_1 (by decide) (by decide) rfl (by decide) ?_
    refine r_iload_n C 1 rfl rfl dX5_narrowed_42 ?_
    refine r_if_eq C (tgt := 50) h dX5_narrowed_43 (by decide) (fun h => ?_) (fun h => ?_)
    · refine r_iconst C (v := 0) (by decide) dX5_narrowed_50 ?_
      have hz9 := Option.some.inj h
      subst hz9
      exact r_iret C hr dX5_narrowed_51
    · refine r_iconst C (v := 1) (by decide) dX5_narrowed_46 ?_
      refine r_goto C (tgt := 51) dX5_narrowed_47 (by decide) ?_
      have hz9 := Option.some.inj h
      subst hz9
      exact r_iret C hr dX5_narrowed_51
  refine r_tabD C (tgt := 52) [0, 1, 4] (r_nc hc4 rfl (r_nc hc5 rfl (r_nc hc6 rfl r_nc0))) dX5_narrowed_1 rfl (by decide) (by decide) ?_
  refine r_iload_n C 1 rfl rfl dX5_narrowed_52 ?_
  have hz9 := Option.some.inj h
  subst hz9
  exact r_iret C hr dX5_narrowed_53
set_option maxHeartbeats 4000000 in
set_option maxRecDepth 100000 in
theorem c_X5_narrowed {l : Launch} {g : GG} {ad : Nat → Nat} {a0 : Int32} {a1 : Int32} {I : HI} {J : HJ} {r : Int32} (h : f_X5_narrowed a0 a1 = some r) : CM l yX5_narrowed cX5_narrowed 2 (some .int) (rmk 0 0) g ad nO oR [.int a0, .int a1] I J (QAi g ad nO oR r I J) :=
  CM_of (by decide +kernel) (Nat.le_of_ble_eq_true rfl) (fun p e s m args below meth c C hr => w_X5_narrowed C hr h)
set_option maxHeartbeats 4000000 in
set_option maxRecDepth 100000 in
theorem w_X5_putNarrowed {l : Launch} {g : GG} {ad : Nat → Nat} {p : Program} {e : Env} {s : State} {m : MethodId} {args : Array Value} {below : List Frame} {meth : Method} {c : Code} {a0 : Int32} {a1 : Int32} {a2 : Int32} {z : HI} (C : Cx p s m args meth c RX5 cX5_putNarrowed 4 g (AW ad nO)) (hr : meth.sig.returnType = none) {I : HI} {J : HJ} (h : f_X5_putNarrowed a0 a1 a2 I J = some z) : V p l e (rmk 2 44) s m args below meth c (MQ below (QAv g ad nO oR z J) args s 0 0 (AW ad nO)) 4 0 0 g (AW ad nO) ad nO oR I J 0 [(0, .ref (ad 84)), (1, .int a0), (2, .int a1), (3, .int a2)] [] := by
  unfold f_X5_putNarrowed at h
  refine r_aload_n C 0 rfl rfl dX5_putNarrowed_0 ?_
  refine r_iload_n C 1 rfl rfl dX5_putNarrowed_1 ?_
  refine r_iload_n C 2 rfl rfl dX5_putNarrowed_2 ?_
  obtain ⟨r7, hq8, h⟩ := bd1_ h
  refine r_cvi C (rest := []) (c_X5_has  hq8) fm_X5_has lk_X5_31 o_84 ⟨_, ct_4 o_84.1⟩ rfl rfl ⟨rfl, rfl, Nat.le_of_ble_eq_true rfl, Nat.le_of_ble_eq_true rfl⟩ (Nat.le_of_ble_eq_true rfl) rfl dX5_putNarrowed_3 ?_
  refine r_if_eq C (tgt := 27) h dX5_putNarrowed_6 (by decide) (fun h => ?_) (fun h => ?_)
  · have hz9 := Option.some.inj h
    subst hz9
    exact r_vret C hr dX5_putNarrowed_27
  · refine r_aload_n C 0 rfl rfl dX5_putNarrowed_9 ?_
    refine gf_X5_18 C rf0 o_84 (q := 87) rfl dX5_putNarrowed_10 ?_
    refine r_iload_n C 1 rfl rfl dX5_putNarrowed_13 ?_
    have hv9 := (ck h).1
    refine r_aald C o_87 (Or.inr rfl) (rf0 _ o_87.2.1 (Or.inl (by rw [o_87.1]; decide))).1 h (fun hv => (oi_87 _ (vin_lt hv)).1) dX5_putNarrowed_14 (fun h => ?_)
    refine r_iload_n C 2 rfl rfl dX5_putNarrowed_15 ?_
    refine r_aload_n C 0 rfl rfl dX5_putNarrowed_16 ?_
    refine gf_X5_9 C rf0 o_84 (q := 85) rfl dX5_putNarrowed_17 ?_
    refine r_iload_n C 1 rfl rfl dX5_putNarrowed_20 ?_
    refine r_iald C o_85 h dX5_putNarrowed_21 (fun h => ?_)
    refine r_iload_n C 3 rfl rfl dX5_putNarrowed_22 ?_
    obtain ⟨r10, hq11, h⟩ := bd1_ h
    refine r_csi C (rest := [.int a1, .ref (ad (rfn 87 a0.toNatClampNeg))]) (c_X5_narrowed  hq11) fm_X5_narrowed lk_X5_35 rfl ⟨rfl, rfl, Nat.le_of_ble_eq_true rfl, Nat.le_of_ble_eq_true rfl⟩ (Nat.le_of_ble_eq_true rfl) rfl dX5_putNarrowed_23 ?_
    refine r_iast C (oi_87 _ (vin_lt hv9)).2 h dX5_putNarrowed_26 (fun h => ?_)
    refine r_nmI h (fun I12 h => ?_)
    have hz9 := Option.some.inj h
    subst hz9
    exact r_vret C hr dX5_putNarrowed_27
set_option maxHeartbeats 4000000 in
set_option maxRecDepth 100000 in
theorem c_X5_putNarrowed {l : Launch} {g : GG} {ad : Nat → Nat} {a0 : Int32} {a1 : Int32} {a2 : Int32} {I : HI} {J : HJ} {I1 : HI} (h : f_X5_putNarrowed a0 a1 a2 I J = some I1) : CM l yX5_putNarrowed cX5_putNarrowed 4 none (rmk 2 44) g ad nO oR [.ref (ad 84), .int a0, .int a1, .int a2] I J (QAv g ad nO oR I1 J) :=
  CM_of (by decide +kernel) (Nat.le_of_ble_eq_true rfl) (fun p e s m args below meth c C hr => w_X5_putNarrowed C hr h)
set_option maxHeartbeats 4000000 in
set_option maxRecDepth 100000 in
theorem w_X6_isShelf {l : Launch} {g : GG} {ad : Nat → Nat} {p : Program} {e : Env} {s : State} {m : MethodId} {args : Array Value} {below : List Frame} {meth : Method} {c : Code} {a0 : Int32} {z : Int32} (C : Cx p s m args meth c RX6 cX6_isShelf 2 g (AW ad nO)) (hr : meth.sig.returnType = (some .boolean)) {I : HI} {J : HJ} (h : f_X6_isShelf a0 = some z) : V p l e (rmk 0 0) s m args below meth c (MQ below (QAi g ad nO oR z I J) args s 0 0 (AW ad nO)) 2 0 0 g (AW ad nO) ad nO oR I J 0 [(0, .ref (ad 92)), (1, .int a0)] [] := by
  unfold f_X6_isShelf at h
  refine r_iload_n C 1 rfl rfl dX6_isShelf_0 ?_
  refine r_if_lt C (tgt := 13) h dX6_isShelf_1 (by decide) (fun h => ?_) (fun h => ?_)
  · refine r_iconst C (v := 0) (by decide) dX6_isShelf_13 ?_
    have hz9 := Option.some.inj h
    subst hz9
    exact r_zret C (v := (0 : Int32)) rfl hr dX6_isShelf_14
  · refine r_iload_n C 1 rfl rfl dX6_isShelf_4 ?_
    refine r_iconst C (v := 4) (by decide) dX6_isShelf_5 ?_
    refine r_icmp_ge C (tgt := 13) h dX6_isShelf_6 (by decide) (fun h => ?_) (fun h => ?_)
    · refine r_iconst C (v := 0) (by decide) dX6_isShelf_13 ?_
      have hz9 := Option.some.inj h
      subst hz9
      exact r_zret C (v := (0 : Int32)) rfl hr dX6_isShelf_14
    · refine r_iconst C (v := 1) (by decide) dX6_isShelf_9 ?_
      refine r_goto C (tgt := 14) dX6_isShelf_10 (by decide) ?_
      have hz9 := Option.some.inj h
      subst hz9
      exact r_zret C (v := (1 : Int32)) rfl hr dX6_isShelf_14
set_option maxHeartbeats 4000000 in
set_option maxRecDepth 100000 in
theorem c_X6_isShelf {l : Launch} {g : GG} {ad : Nat → Nat} {a0 : Int32} {I : HI} {J : HJ} {r : Int32} (h : f_X6_isShelf a0 = some r) : CM l yX6_isShelf cX6_isShelf 2 (some .boolean) (rmk 0 0) g ad nO oR [.ref (ad 92), .int a0] I J (QAi g ad nO oR r I J) :=
  CM_of (by decide +kernel) (Nat.le_of_ble_eq_true rfl) (fun p e s m args below meth c C hr => w_X6_isShelf C hr h)
set_option maxHeartbeats 4000000 in
set_option maxRecDepth 100000 in
theorem w_X6_hold {l : Launch} {g : GG} {ad : Nat → Nat} {p : Program} {e : Env} {s : State} {m : MethodId} {args : Array Value} {below : List Frame} {meth : Method} {c : Code} {a0 : Int32} {a1 : Int32} {a2 : Int32} {a3 : Int32} {z : Int32 × HI} (C : Cx p s m args meth c RX6 cX6_hold 5 g (AW ad nO)) (hr : meth.sig.returnType = (some .int)) {I : HI} {J : HJ} (h : f_X6_hold a0 a1 a2 a3 I J = some z) : V p l e (rmk 1 21) s m args below meth c (MQ below (QAi g ad nO oR z.1 z.2 J) args s 0 0 (AW ad nO)) 5 0 0 g (AW ad nO) ad nO oR I J 0 [(0, .ref (ad 92)), (1, .int a0), (2, .int a1), (3, .int a2), (4, .int a3)] [] := by
  unfold f_X6_hold at h
  refine r_aload_n C 0 rfl rfl dX6_hold_0 ?_
  refine r_iload_n C 1 rfl rfl dX6_hold_1 ?_
  obtain ⟨r6, hq7, h⟩ := bd1_ h
  refine r_cvi C (rest := []) (c_X6_isShelf  hq7) fm_X6_isShelf lk_X6_19 o_92 ⟨_, ct_5 o_92.1⟩ rfl rfl ⟨rfl, rfl, Nat.le_of_ble_eq_true rfl, Nat.le_of_ble_eq_true rfl⟩ (Nat.le_of_ble_eq_true rfl) rfl dX6_hold_2 ?_
  refine r_if_eq C (tgt := 30) h dX6_hold_5 (by decide) (fun h => ?_) (fun h => ?_)
  · refine r_iconst C (v := 1) (by decide) dX6_hold_30 ?_
    have hz9 := Option.some.inj h
    subst hz9
    exact r_iret C hr dX6_hold_31
  · refine r_aload_n C 0 rfl rfl dX6_hold_8 ?_
    refine gf_X6_9 C rf0 o_92 (q := 93) rfl dX6_hold_9 ?_
    refine r_iload_n C 1 rfl rfl dX6_hold_12 ?_
    refine r_iload_n C 2 rfl rfl dX6_hold_13 ?_
    refine r_iast C o_93 h dX6_hold_14 (fun h => ?_)
    refine r_nmI h (fun I8 h => ?_)
    refine r_aload_n C 0 rfl rfl dX6_hold_15 ?_
    refine gf_X6_13 C rf0 o_92 (q := 94) rfl dX6_hold_16 ?_
    refine r_iload_n C 1 rfl rfl dX6_hold_19 ?_
    refine r_iload_n C 3 rfl rfl dX6_hold_20 ?_
    refine r_iast C o_94 h dX6_hold_21 (fun h => ?_)
    refine r_nmI h (fun I9 h => ?_)
    refine r_aload_n C 0 rfl rfl dX6_hold_22 ?_
    refine gf_X6_16 C rf0 o_92 (q := 95) rfl dX6_hold_23 ?_
    refine r_iload_n C 1 rfl rfl dX6_hold_26 ?_
    refine r_iload C 4 rfl dX6_hold_27 ?_
    refine r_iast C o_95 h dX6_hold_29 (fun h => ?_)
    refine r_nmI h (fun I10 h => ?_)
    refine r_iconst C (v := 1) (by decide) dX6_hold_30 ?_
    have hz9 := Option.some.inj h
    subst hz9
    exact r_iret C hr dX6_hold_31
set_option maxHeartbeats 4000000 in
set_option maxRecDepth 100000 in
theorem c_X6_hold {l : Launch} {g : GG} {ad : Nat → Nat} {a0 : Int32} {a1 : Int32} {a2 : Int32} {a3 : Int32} {I : HI} {J : HJ} {r : Int32} {I1 : HI} (h : f_X6_hold a0 a1 a2 a3 I J = some (r, I1)) : CM l yX6_hold cX6_hold 5 (some .int) (rmk 1 21) g ad nO oR [.ref (ad 92), .int a0, .int a1, .int a2, .int a3] I J (QAi g ad nO oR r I1 J) :=
  CM_of (by decide +kernel) (Nat.le_of_ble_eq_true rfl) (fun p e s m args below meth c C hr => w_X6_hold C hr h)
set_option maxHeartbeats 4000000 in
set_option maxRecDepth 100000 in
theorem w_X6_whatOn {l : Launch} {g : GG} {ad : Nat → Nat} {p : Program} {e : Env} {s : State} {m : MethodId} {args : Array Value} {below : List Frame} {meth : Method} {c : Code} {a0 : Int32} {z : Int32} (C : Cx p s m args meth c RX6 cX6_whatOn 2 g (AW ad nO)) (hr : meth.sig.returnType = (some .int)) {I : HI} {J : HJ} (h : f_X6_whatOn a0 I J = some z) : V p l e (rmk 1 21) s m args below meth c (MQ below (QAi g ad nO oR z I J) args s 0 0 (AW ad nO)) 2 0 0 g (AW ad nO) ad nO oR I J 0 [(0, .ref (ad 92)), (1, .int a0)] [] := by
  unfold f_X6_whatOn at h
  refine r_aload_n C 0 rfl rfl dX6_whatOn_0 ?_
  refine r_iload_n C 1 rfl rfl dX6_whatOn_1 ?_
  obtain ⟨r3, hq4, h⟩ := bd1_ h
  refine r_cvi C (rest := []) (c_X6_isShelf  hq4) fm_X6_isShelf lk_X6_19 o_92 ⟨_, ct_5 o_92.1⟩ rfl rfl ⟨rfl, rfl, Nat.le_of_ble_eq_true rfl, Nat.le_of_ble_eq_true rfl⟩ (Nat.le_of_ble_eq_true rfl) rfl dX6_whatOn_2 ?_
  refine r_if_eq C (tgt := 17) h dX6_whatOn_5 (by decide) (fun h => ?_) (fun h => ?_)
  · refine r_iconst C (v := 3) (by decide) dX6_whatOn_17 ?_
    have hz9 := Option.some.inj h
    subst hz9
    exact r_iret C hr dX6_whatOn_18
  · refine r_aload_n C 0 rfl rfl dX6_whatOn_8 ?_
    refine gf_X6_9 C rf0 o_92 (q := 93) rfl dX6_whatOn_9 ?_
    refine r_iload_n C 1 rfl rfl dX6_whatOn_12 ?_
    refine r_iald C o_93 h dX6_whatOn_13 (fun h => ?_)
    refine r_goto C (tgt := 18) dX6_whatOn_14 (by decide) ?_
    have hz9 := Option.some.inj h
    subst hz9
    exact r_iret C hr dX6_whatOn_18
set_option maxHeartbeats 4000000 in
set_option maxRecDepth 100000 in
theorem c_X6_whatOn {l : Launch} {g : GG} {ad : Nat → Nat} {a0 : Int32} {I : HI} {J : HJ} {r : Int32} (h : f_X6_whatOn a0 I J = some r) : CM l yX6_whatOn cX6_whatOn 2 (some .int) (rmk 1 21) g ad nO oR [.ref (ad 92), .int a0] I J (QAi g ad nO oR r I J) :=
  CM_of (by decide +kernel) (Nat.le_of_ble_eq_true rfl) (fun p e s m args below meth c C hr => w_X6_whatOn C hr h)
set_option maxHeartbeats 4000000 in
set_option maxRecDepth 100000 in
theorem w_X6_numberOn {l : Launch} {g : GG} {ad : Nat → Nat} {p : Program} {e : Env} {s : State} {m : MethodId} {args : Array Value} {below : List Frame} {meth : Method} {c : Code} {a0 : Int32} {z : Int32} (C : Cx p s m args meth c RX6 cX6_numberOn 2 g (AW ad nO)) (hr : meth.sig.returnType = (some .int)) {I : HI} {J : HJ} (h : f_X6_numberOn a0 I J = some z) : V p l e (rmk 1 21) s m args below meth c (MQ below (QAi g ad nO oR z I J) args s 0 0 (AW ad nO)) 2 0 0 g (AW ad nO) ad nO oR I J 0 [(0, .ref (ad 92)), (1, .int a0)] [] := by
  unfold f_X6_numberOn at h
  refine r_aload_n C 0 rfl rfl dX6_numberOn_0 ?_
  refine r_iload_n C 1 rfl rfl dX6_numberOn_1 ?_
  obtain ⟨r3, hq4, h⟩ := bd1_ h
  refine r_cvi C (rest := []) (c_X6_isShelf  hq4) fm_X6_isShelf lk_X6_19 o_92 ⟨_, ct_5 o_92.1⟩ rfl rfl ⟨rfl, rfl, Nat.le_of_ble_eq_true rfl, Nat.le_of_ble_eq_true rfl⟩ (Nat.le_of_ble_eq_true rfl) rfl dX6_numberOn_2 ?_
  refine r_if_eq C (tgt := 17) h dX6_numberOn_5 (by decide) (fun h => ?_) (fun h => ?_)
  · refine r_iconst C (v := 0) (by decide) dX6_numberOn_17 ?_
    have hz9 := Option.some.inj h
    subst hz9
    exact r_iret C hr dX6_numberOn_18
  · refine r_aload_n C 0 rfl rfl dX6_numberOn_8 ?_
    refine gf_X6_13 C rf0 o_92 (q := 94) rfl dX6_numberOn_9 ?_
    refine r_iload_n C 1 rfl rfl dX6_numberOn_12 ?_
    refine r_iald C o_94 h dX6_numberOn_13 (fun h => ?_)
    refine r_goto C (tgt := 18) dX6_numberOn_14 (by decide) ?_
    have hz9 := Option.some.inj h
    subst hz9
    exact r_iret C hr dX6_numberOn_18
set_option maxHeartbeats 4000000 in
set_option maxRecDepth 100000 in
theorem c_X6_numberOn {l : Launch} {g : GG} {ad : Nat → Nat} {a0 : Int32} {I : HI} {J : HJ} {r : Int32} (h : f_X6_numberOn a0 I J = some r) : CM l yX6_numberOn cX6_numberOn 2 (some .int) (rmk 1 21) g ad nO oR [.ref (ad 92), .int a0] I J (QAi g ad nO oR r I J) :=
  CM_of (by decide +kernel) (Nat.le_of_ble_eq_true rfl) (fun p e s m args below meth c C hr => w_X6_numberOn C hr h)
set_option maxHeartbeats 4000000 in
set_option maxRecDepth 100000 in
theorem w_X6_itemsOn {l : Launch} {g : GG} {ad : Nat → Nat} {p : Program} {e : Env} {s : State} {m : MethodId} {args : Array Value} {below : List Frame} {meth : Method} {c : Code} {a0 : Int32} {z : Int32} (C : Cx p s m args meth c RX6 cX6_itemsOn 2 g (AW ad nO)) (hr : meth.sig.returnType = (some .int)) {I : HI} {J : HJ} (h : f_X6_itemsOn a0 I J = some z) : V p l e (rmk 1 21) s m args below meth c (MQ below (QAi g ad nO oR z I J) args s 0 0 (AW ad nO)) 2 0 0 g (AW ad nO) ad nO oR I J 0 [(0, .ref (ad 92)), (1, .int a0)] [] := by
  unfold f_X6_itemsOn at h
  refine r_aload_n C 0 rfl rfl dX6_itemsOn_0 ?_
  refine r_iload_n C 1 rfl rfl dX6_itemsOn_1 ?_
  obtain ⟨r3, hq4, h⟩ := bd1_ h
  refine r_cvi C (rest := []) (c_X6_isShelf  hq4) fm_X6_isShelf lk_X6_19 o_92 ⟨_, ct_5 o_92.1⟩ rfl rfl ⟨rfl, rfl, Nat.le_of_ble_eq_true rfl, Nat.le_of_ble_eq_true rfl⟩ (Nat.le_of_ble_eq_true rfl) rfl dX6_itemsOn_2 ?_
  refine r_if_eq C (tgt := 17) h dX6_itemsOn_5 (by decide) (fun h => ?_) (fun h => ?_)
  · refine r_iconst C (v := 0) (by decide) dX6_itemsOn_17 ?_
    have hz9 := Option.some.inj h
    subst hz9
    exact r_iret C hr dX6_itemsOn_18
  · refine r_aload_n C 0 rfl rfl dX6_itemsOn_8 ?_
    refine gf_X6_16 C rf0 o_92 (q := 95) rfl dX6_itemsOn_9 ?_
    refine r_iload_n C 1 rfl rfl dX6_itemsOn_12 ?_
    refine r_iald C o_95 h dX6_itemsOn_13 (fun h => ?_)
    refine r_goto C (tgt := 18) dX6_itemsOn_14 (by decide) ?_
    have hz9 := Option.some.inj h
    subst hz9
    exact r_iret C hr dX6_itemsOn_18
set_option maxHeartbeats 4000000 in
set_option maxRecDepth 100000 in
theorem c_X6_itemsOn {l : Launch} {g : GG} {ad : Nat → Nat} {a0 : Int32} {I : HI} {J : HJ} {r : Int32} (h : f_X6_itemsOn a0 I J = some r) : CM l yX6_itemsOn cX6_itemsOn 2 (some .int) (rmk 1 21) g ad nO oR [.ref (ad 92), .int a0] I J (QAi g ad nO oR r I J) :=
  CM_of (by decide +kernel) (Nat.le_of_ble_eq_true rfl) (fun p e s m args below meth c C hr => w_X6_itemsOn C hr h)
set_option maxHeartbeats 4000000 in
set_option maxRecDepth 100000 in
theorem w_X9_becomeEmpty {l : Launch} {g : GG} {ad : Nat → Nat} {p : Program} {e : Env} {s : State} {m : MethodId} {args : Array Value} {below : List Frame} {meth : Method} {c : Code} {k : Nat} {z : HI} (C : Cx p s m args meth c RX9 cX9_becomeEmpty 1 g (AW ad nO)) (hr : meth.sig.returnType = none) (hk : OB nO k 8) {I : HI} {J : HJ} (h : f_X9_becomeEmpty k I J = some z) : V p l e (rmk 0 0) s m args below meth c (MQ below (QAv g ad nO oR z J) args s 0 0 (AW ad nO)) 1 0 0 g (AW ad nO) ad nO oR I J 0 [(0, .ref (ad k))] [] := by
  unfold f_X9_becomeEmpty at h
  refine r_aload_n C 0 rfl rfl dX9_becomeEmpty_0 ?_
  refine r_iconst C (v := 0) (by decide) dX9_becomeEmpty_1 ?_
  refine pf_X9_13 C hk dX9_becomeEmpty_2 ?_
  refine r_nmI h (fun I2 h => ?_)
  have hz9 := Option.some.inj h
  subst hz9
  exact r_vret C hr dX9_becomeEmpty_5
set_option maxHeartbeats 4000000 in
set_option maxRecDepth 100000 in
theorem c_X9_becomeEmpty {l : Launch} {g : GG} {ad : Nat → Nat} {k : Nat} {I : HI} {J : HJ} {I1 : HI} (hk : OB nO k 8) (h : f_X9_becomeEmpty k I J = some I1) : CM l yX9_becomeEmpty cX9_becomeEmpty 1 none (rmk 0 0) g ad nO oR [.ref (ad k)] I J (QAv g ad nO oR I1 J) :=
  CM_of (by decide +kernel) (Nat.le_of_ble_eq_true rfl) (fun p e s m args below meth c C hr => w_X9_becomeEmpty C hr hk h)
set_option maxHeartbeats 4000000 in
set_option maxRecDepth 100000 in
theorem w_X7_beginAnew {l : Launch} {g : GG} {ad : Nat → Nat} {p : Program} {e : Env} {s : State} {m : MethodId} {args : Array Value} {below : List Frame} {meth : Method} {c : Code} {k : Nat} {a0 : Int32} {a1 : Int32} {a2 : Int32} {z : HI × HJ} (C : Cx p s m args meth c RX7 cX7_beginAnew 4 g (AW ad nO)) (hr : meth.sig.returnType = none) (hk : OB nO k 6) {I : HI} {J : HJ} (h : f_X7_beginAnew k a0 a1 a2 I J = some z) : V p l e (rmk 1 20) s m args below meth c (MQ below (QAv g ad nO oR z.1 z.2) args s 0 0 (AW ad nO)) 4 0 0 g (AW ad nO) ad nO oR I J 0 [(0, .ref (ad k)), (1, .int a0), (2, .int a1), (3, .int a2)] [] := by
  unfold f_X7_beginAnew at h
  refine r_aload_n C 0 rfl rfl dX7_beginAnew_0 ?_
  refine r_iload_n C 1 rfl rfl dX7_beginAnew_1 ?_
  refine pf_X7_23 C hk dX7_beginAnew_2 ?_
  refine r_nmI h (fun I12 h => ?_)
  refine r_aload_n C 0 rfl rfl dX7_beginAnew_5 ?_
  refine r_iload_n C 2 rfl rfl dX7_beginAnew_6 ?_
  refine pf_X7_26 C hk dX7_beginAnew_7 ?_
  refine r_nmI h (fun I13 h => ?_)
  refine r_aload_n C 0 rfl rfl dX7_beginAnew_10 ?_
  refine r_iload_n C 3 rfl rfl dX7_beginAnew_11 ?_
  refine pf_X7_29 C hk dX7_beginAnew_12 ?_
  refine r_nmI h (fun I14 h => ?_)
  refine r_aload_n C 0 rfl rfl dX7_beginAnew_15 ?_
  refine r_iconst C (v := 0) (by decide) dX7_beginAnew_16 ?_
  refine pf_X7_32 C hk dX7_beginAnew_17 ?_
  refine r_nmI h (fun I15 h => ?_)
  refine r_aload_n C 0 rfl rfl dX7_beginAnew_20 ?_
  refine r_iconst C (v := 0) (by decide) dX7_beginAnew_21 ?_
  refine pf_X7_35 C hk dX7_beginAnew_22 ?_
  refine r_nmI h (fun I16 h => ?_)
  refine r_aload_n C 0 rfl rfl dX7_beginAnew_25 ?_
  refine r_iconst C (v := 0) (by decide) dX7_beginAnew_26 ?_
  refine pf_X7_38 C hk dX7_beginAnew_27 ?_
  refine r_nmI h (fun I17 h => ?_)
  refine r_aload_n C 0 rfl rfl dX7_beginAnew_30 ?_
  refine r_lconst C (v := 0) (by decide) dX7_beginAnew_31 ?_
  refine pf_X7_41 C hk dX7_beginAnew_32 ?_
  refine r_nmJ h (fun J18 h => ?_)
  refine r_aload_n C 0 rfl rfl dX7_beginAnew_35 ?_
  refine r_lconst C (v := 0) (by decide) dX7_beginAnew_36 ?_
  refine pf_X7_45 C hk dX7_beginAnew_37 ?_
  refine r_nmJ h (fun J19 h => ?_)
  refine r_aload_n C 0 rfl rfl dX7_beginAnew_40 ?_
  refine r_iload_n C 1 rfl rfl dX7_beginAnew_41 ?_
  refine pf_X7_48 C hk dX7_beginAnew_42 ?_
  refine r_nmI h (fun I20 h => ?_)
  refine r_aload_n C 0 rfl rfl dX7_beginAnew_45 ?_
  refine gf_X7_10 C rf0 hk (q := (rfn k 0)) rfl dX7_beginAnew_46 ?_
  obtain ⟨I21, hq22, h⟩ := bd1_ h
  refine r_cvv C (rest := []) (c_X9_becomeEmpty (ob_6_0 rf0 hk) hq22) fm_X9_becomeEmpty lk_X7_51 (ob_6_0 rf0 hk) ⟨_, ct_8 (ob_6_0 rf0 hk).1⟩ rfl rfl ⟨rfl, rfl, Nat.le_of_ble_eq_true rfl, Nat.le_of_ble_eq_true rfl⟩ (Nat.le_of_ble_eq_true rfl) rfl dX7_beginAnew_49 ?_
  have hz9 := Option.some.inj h
  subst hz9
  exact r_vret C hr dX7_beginAnew_52
set_option maxHeartbeats 4000000 in
set_option maxRecDepth 100000 in
theorem c_X7_beginAnew {l : Launch} {g : GG} {ad : Nat → Nat} {k : Nat} {a0 : Int32} {a1 : Int32} {a2 : Int32} {I : HI} {J : HJ} {I1 : HI} {J1 : HJ} (hk : OB nO k 6) (h : f_X7_beginAnew k a0 a1 a2 I J = some (I1, J1)) : CM l yX7_beginAnew cX7_beginAnew 4 none (rmk 1 20) g ad nO oR [.ref (ad k), .int a0, .int a1, .int a2] I J (QAv g ad nO oR I1 J1) :=
  CM_of (by decide +kernel) (Nat.le_of_ble_eq_true rfl) (fun p e s m args below meth c C hr => w_X7_beginAnew C hr hk h)
set_option maxHeartbeats 4000000 in
set_option maxRecDepth 100000 in
theorem w_X7_goOnFrom {l : Launch} {g : GG} {ad : Nat → Nat} {p : Program} {e : Env} {s : State} {m : MethodId} {args : Array Value} {below : List Frame} {meth : Method} {c : Code} {k : Nat} {a0 : Nat} {z : HI × HJ} (C : Cx p s m args meth c RX7 cX7_goOnFrom 2 g (AW ad nO)) (hr : meth.sig.returnType = none) (hk : OB nO k 6) (ha0 : OB nO a0 6) {I : HI} {J : HJ} (h : f_X7_goOnFrom k a0 I J = some z) : V p l e (rmk 1 20) s m args below meth c (MQ below (QAv g ad nO oR z.1 z.2) args s 0 0 (AW ad nO)) 2 0 0 g (AW ad nO) ad nO oR I J 0 [(0, .ref (ad k)), (1, .ref (ad a0))] [] := by
  unfold f_X7_goOnFrom at h
  refine r_aload_n C 0 rfl rfl dX7_goOnFrom_0 ?_
  refine r_aload_n C 1 rfl rfl dX7_goOnFrom_1 ?_
  refine gf_X7_23 C ha0 dX7_goOnFrom_2 ?_
  refine pf_X7_23 C hk dX7_goOnFrom_5 ?_
  refine r_nmI h (fun I15 h => ?_)
  refine r_aload_n C 0 rfl rfl dX7_goOnFrom_8 ?_
  refine r_aload_n C 1 rfl rfl dX7_goOnFrom_9 ?_
  refine gf_X7_26 C ha0 dX7_goOnFrom_10 ?_
  refine pf_X7_26 C hk dX7_goOnFrom_13 ?_
  refine r_nmI h (fun I16 h => ?_)
  refine r_aload_n C 0 rfl rfl dX7_goOnFrom_16 ?_
  refine r_aload_n C 1 rfl rfl dX7_goOnFrom_17 ?_
  refine gf_X7_29 C ha0 dX7_goOnFrom_18 ?_
  refine pf_X7_29 C hk dX7_goOnFrom_21 ?_
  refine r_nmI h (fun I17 h => ?_)
  refine r_aload_n C 0 rfl rfl dX7_goOnFrom_24 ?_
  refine r_aload_n C 1 rfl rfl dX7_goOnFrom_25 ?_
  refine gf_X7_32 C ha0 dX7_goOnFrom_26 ?_
  refine pf_X7_32 C hk dX7_goOnFrom_29 ?_
  refine r_nmI h (fun I18 h => ?_)
  refine r_aload_n C 0 rfl rfl dX7_goOnFrom_32 ?_
  refine r_aload_n C 1 rfl rfl dX7_goOnFrom_33 ?_
  refine gf_X7_35 C ha0 dX7_goOnFrom_34 ?_
  refine pf_X7_35 C hk dX7_goOnFrom_37 ?_
  refine r_nmI h (fun I19 h => ?_)
  refine r_aload_n C 0 rfl rfl dX7_goOnFrom_40 ?_
  refine r_aload_n C 1 rfl rfl dX7_goOnFrom_41 ?_
  refine gf_X7_38 C ha0 dX7_goOnFrom_42 ?_
  refine pf_X7_38 C hk dX7_goOnFrom_45 ?_
  refine r_nmI h (fun I20 h => ?_)
  refine r_aload_n C 0 rfl rfl dX7_goOnFrom_48 ?_
  refine r_aload_n C 1 rfl rfl dX7_goOnFrom_49 ?_
  refine gf_X7_16 C ha0 dX7_goOnFrom_50 ?_
  refine pf_X7_16 C hk dX7_goOnFrom_53 ?_
  refine r_nmI h (fun I21 h => ?_)
  refine r_aload_n C 0 rfl rfl dX7_goOnFrom_56 ?_
  refine r_aload_n C 1 rfl rfl dX7_goOnFrom_57 ?_
  refine gf_X7_62 C ha0 dX7_goOnFrom_58 ?_
  refine pf_X7_62 C hk dX7_goOnFrom_61 ?_
  refine r_nmI h (fun I22 h => ?_)
  refine r_aload_n C 0 rfl rfl dX7_goOnFrom_64 ?_
  refine r_aload_n C 1 rfl rfl dX7_goOnFrom_65 ?_
  refine gf_X7_20 C ha0 dX7_goOnFrom_66 ?_
  refine pf_X7_20 C hk dX7_goOnFrom_69 ?_
  refine r_nmI h (fun I23 h => ?_)
  refine r_aload_n C 0 rfl rfl dX7_goOnFrom_72 ?_
  refine r_aload_n C 1 rfl rfl dX7_goOnFrom_73 ?_
  refine gf_X7_41 C ha0 dX7_goOnFrom_74 ?_
  refine pf_X7_41 C hk dX7_goOnFrom_77 ?_
  refine r_nmJ h (fun J24 h => ?_)
  refine r_aload_n C 0 rfl rfl dX7_goOnFrom_80 ?_
  refine r_aload_n C 1 rfl rfl dX7_goOnFrom_81 ?_
  refine gf_X7_45 C ha0 dX7_goOnFrom_82 ?_
  refine pf_X7_45 C hk dX7_goOnFrom_85 ?_
  refine r_nmJ h (fun J25 h => ?_)
  refine r_aload_n C 0 rfl rfl dX7_goOnFrom_88 ?_
  refine r_aload_n C 1 rfl rfl dX7_goOnFrom_89 ?_
  refine gf_X7_48 C ha0 dX7_goOnFrom_90 ?_
  refine pf_X7_48 C hk dX7_goOnFrom_93 ?_
  refine r_nmI h (fun I26 h => ?_)
  refine r_aload_n C 0 rfl rfl dX7_goOnFrom_96 ?_
  refine gf_X7_10 C rf0 hk (q := (rfn k 0)) rfl dX7_goOnFrom_97 ?_
  obtain ⟨I27, hq28, h⟩ := bd1_ h
  refine r_cvv C (rest := []) (c_X9_becomeEmpty (ob_6_0 rf0 hk) hq28) fm_X9_becomeEmpty lk_X7_51 (ob_6_0 rf0 hk) ⟨_, ct_8 (ob_6_0 rf0 hk).1⟩ rfl rfl ⟨rfl, rfl, Nat.le_of_ble_eq_true rfl, Nat.le_of_ble_eq_true rfl⟩ (Nat.le_of_ble_eq_true rfl) rfl dX7_goOnFrom_100 ?_
  have hz9 := Option.some.inj h
  subst hz9
  exact r_vret C hr dX7_goOnFrom_103
set_option maxHeartbeats 4000000 in
set_option maxRecDepth 100000 in
theorem c_X7_goOnFrom {l : Launch} {g : GG} {ad : Nat → Nat} {k : Nat} {a0 : Nat} {I : HI} {J : HJ} {I1 : HI} {J1 : HJ} (hk : OB nO k 6) (ha0 : OB nO a0 6) (h : f_X7_goOnFrom k a0 I J = some (I1, J1)) : CM l yX7_goOnFrom cX7_goOnFrom 2 none (rmk 1 20) g ad nO oR [.ref (ad k), .ref (ad a0)] I J (QAv g ad nO oR I1 J1) :=
  CM_of (by decide +kernel) (Nat.le_of_ble_eq_true rfl) (fun p e s m args below meth c C hr => w_X7_goOnFrom C hr hk ha0 h)
set_option maxHeartbeats 4000000 in
set_option maxRecDepth 100000 in
theorem w_X7_becomeLike {l : Launch} {g : GG} {ad : Nat → Nat} {p : Program} {e : Env} {s : State} {m : MethodId} {args : Array Value} {below : List Frame} {meth : Method} {c : Code} {k : Nat} {a0 : Nat} {z : HI × HJ} (C : Cx p s m args meth c RX7 cX7_becomeLike 2 g (AW ad nO)) (hr : meth.sig.returnType = none) (hk : OB nO k 6) (ha0 : OB nO a0 6) {I : HI} {J : HJ} (h : f_X7_becomeLike k a0 I J = some z) : V p l e (rmk 5 171) s m args below meth c (MQ below (QAv g ad nO oR z.1 z.2) args s 0 0 (AW ad nO)) 2 0 0 g (AW ad nO) ad nO oR I J 0 [(0, .ref (ad k)), (1, .ref (ad a0))] [] := by
  unfold f_X7_becomeLike at h
  refine r_aload_n C 0 rfl rfl dX7_becomeLike_0 ?_
  refine r_aload_n C 1 rfl rfl dX7_becomeLike_1 ?_
  obtain ⟨I6, J7, hq8, h⟩ := bd2_ h
  refine r_cvv C (rest := []) (c_X7_goOnFrom hk ha0 hq8) fm_X7_goOnFrom lk_X7_54 hk ⟨_, ct_6 hk.1⟩ rfl rfl ⟨rfl, rfl, Nat.le_of_ble_eq_true rfl, Nat.le_of_ble_eq_true rfl⟩ (Nat.le_of_ble_eq_true rfl) rfl dX7_becomeLike_2 ?_
  refine r_aload_n C 0 rfl rfl dX7_becomeLike_5 ?_
  refine gf_X7_10 C rf0 hk (q := (rfn k 0)) rfl dX7_becomeLike_6 ?_
  refine r_aload_n C 1 rfl rfl dX7_becomeLike_9 ?_
  refine gf_X7_10 C rf0 ha0 (q := (rfn a0 0)) rfl dX7_becomeLike_10 ?_
  obtain ⟨I9, hq10, h⟩ := bd1_ h
  refine r_cvv C (rest := []) (c_X9_becomeLike (ob_6_0 rf0 hk) (ob_6_0 rf0 ha0) hq10) fm_X9_becomeLike lk_X7_58 (ob_6_0 rf0 hk) ⟨_, ct_8 (ob_6_0 rf0 hk).1⟩ rfl rfl ⟨rfl, rfl, Nat.le_of_ble_eq_true rfl, Nat.le_of_ble_eq_true rfl⟩ (Nat.le_of_ble_eq_true rfl) rfl dX7_becomeLike_13 ?_
  have hz9 := Option.some.inj h
  subst hz9
  exact r_vret C hr dX7_becomeLike_16
set_option maxHeartbeats 4000000 in
set_option maxRecDepth 100000 in
theorem c_X7_becomeLike {l : Launch} {g : GG} {ad : Nat → Nat} {k : Nat} {a0 : Nat} {I : HI} {J : HJ} {I1 : HI} {J1 : HJ} (hk : OB nO k 6) (ha0 : OB nO a0 6) (h : f_X7_becomeLike k a0 I J = some (I1, J1)) : CM l yX7_becomeLike cX7_becomeLike 2 none (rmk 5 171) g ad nO oR [.ref (ad k), .ref (ad a0)] I J (QAv g ad nO oR I1 J1) :=
  CM_of (by decide +kernel) (Nat.le_of_ble_eq_true rfl) (fun p e s m args below meth c C hr => w_X7_becomeLike C hr hk ha0 h)
set_option maxHeartbeats 4000000 in
set_option maxRecDepth 100000 in
theorem w_X9_isFull {l : Launch} {g : GG} {ad : Nat → Nat} {p : Program} {e : Env} {s : State} {m : MethodId} {args : Array Value} {below : List Frame} {meth : Method} {c : Code} {k : Nat} {z : Int32} (C : Cx p s m args meth c RX9 cX9_isFull 1 g (AW ad nO)) (hr : meth.sig.returnType = (some .boolean)) (hk : OB nO k 8) {I : HI} {J : HJ} (h : f_X9_isFull k I J = some z) : V p l e (rmk 0 0) s m args below meth c (MQ below (QAi g ad nO oR z I J) args s 0 0 (AW ad nO)) 1 0 0 g (AW ad nO) ad nO oR I J 0 [(0, .ref (ad k))] [] := by
  unfold f_X9_isFull at h
  refine r_aload_n C 0 rfl rfl dX9_isFull_0 ?_
  refine gf_X9_13 C hk dX9_isFull_1 ?_
  refine r_bipush C (v := 60) (by decide) dX9_isFull_4 ?_
  refine r_icmp_lt C (tgt := 13) h dX9_isFull_6 (by decide) (fun h => ?_) (fun h => ?_)
  · refine r_iconst C (v := 0) (by decide) dX9_isFull_13 ?_
    have hz9 := Option.some.inj h
    subst hz9
    exact r_zret C (v := (0 : Int32)) rfl hr dX9_isFull_14
  · refine r_iconst C (v := 1) (by decide) dX9_isFull_9 ?_
    refine r_goto C (tgt := 14) dX9_isFull_10 (by decide) ?_
    have hz9 := Option.some.inj h
    subst hz9
    exact r_zret C (v := (1 : Int32)) rfl hr dX9_isFull_14
set_option maxHeartbeats 4000000 in
set_option maxRecDepth 100000 in
theorem c_X9_isFull {l : Launch} {g : GG} {ad : Nat → Nat} {k : Nat} {I : HI} {J : HJ} {r : Int32} (hk : OB nO k 8) (h : f_X9_isFull k I J = some r) : CM l yX9_isFull cX9_isFull 1 (some .boolean) (rmk 0 0) g ad nO oR [.ref (ad k)] I J (QAi g ad nO oR r I J) :=
  CM_of (by decide +kernel) (Nat.le_of_ble_eq_true rfl) (fun p e s m args below meth c C hr => w_X9_isFull C hr hk h)
set_option maxHeartbeats 4000000 in
set_option maxRecDepth 100000 in
theorem w_X10_heldTo {l : Launch} {g : GG} {ad : Nat → Nat} {p : Program} {e : Env} {s : State} {m : MethodId} {args : Array Value} {below : List Frame} {meth : Method} {c : Code} {a0 : Int32} {a1 : Int32} {a2 : Int32} {z : Int32} (C : Cx p s m args meth c RX10 cX10_heldTo 3 g (AW ad nO)) (hr : meth.sig.returnType = (some .int)) {I : HI} {J : HJ} (h : f_X10_heldTo a0 a1 a2 = some z) : V p l e (rmk 4 150) s m args below meth c (MQ below (QAi g ad nO oR z I J) args s 0 0 (AW ad nO)) 3 0 0 g (AW ad nO) ad nO oR I J 0 [(0, .int a0), (1, .int a1), (2, .int a2)] [] := by
  unfold f_X10_heldTo at h
  refine r_iload_n C 1 rfl rfl dX10_heldTo_0 ?_
  refine r_iload_n C 2 rfl rfl dX10_heldTo_1 ?_
  refine r_iload_n C 0 rfl rfl dX10_heldTo_2 ?_
  refine r_mmin C lk_X10_354 (Nat.le_of_ble_eq_true rfl) (Nat.le_of_ble_eq_true rfl) dX10_heldTo_3 ?_
  refine r_mmax C lk_X10_359 (Nat.le_of_ble_eq_true rfl) (Nat.le_of_ble_eq_true rfl) dX10_heldTo_6 ?_
  have hz9 := Option.some.inj h
  subst hz9
  exact r_iret C hr dX10_heldTo_9
set_option maxHeartbeats 4000000 in
set_option maxRecDepth 100000 in
theorem c_X10_heldTo {l : Launch} {g : GG} {ad : Nat → Nat} {a0 : Int32} {a1 : Int32} {a2 : Int32} {I : HI} {J : HJ} {r : Int32} (h : f_X10_heldTo a0 a1 a2 = some r) : CM l yX10_heldTo cX10_heldTo 3 (some .int) (rmk 4 150) g ad nO oR [.int a0, .int a1, .int a2] I J (QAi g ad nO oR r I J) :=
  CM_of (by decide +kernel) (Nat.le_of_ble_eq_true rfl) (fun p e s m args below meth c C hr => w_X10_heldTo C hr h)
set_option maxHeartbeats 4000000 in
set_option maxRecDepth 100000 in
theorem w_X7_addWeight {l : Launch} {g : GG} {ad : Nat → Nat} {p : Program} {e : Env} {s : State} {m : MethodId} {args : Array Value} {below : List Frame} {meth : Method} {c : Code} {k : Nat} {a0 : Int32} {z : HI} (C : Cx p s m args meth c RX7 cX7_addWeight 2 g (AW ad nO)) (hr : meth.sig.returnType = none) (hk : OB nO k 6) {I : HI} {J : HJ} (h : f_X7_addWeight k a0 I J = some z) : V p l e (rmk 4 150) s m args below meth c (MQ below (QAv g ad nO oR z J) args s 0 0 (AW ad nO)) 2 0 0 g (AW ad nO) ad nO oR I J 0 [(0, .ref (ad k)), (1, .int a0)] [] := by
  unfold f_X7_addWeight at h
  refine r_aload_n C 0 rfl rfl dX7_addWeight_0 ?_
  refine r_ldc C (v := 99999) lk_X7_98 dX7_addWeight_1 ?_
  refine r_aload_n C 0 rfl rfl dX7_addWeight_3 ?_
  refine gf_X7_23 C hk dX7_addWeight_4 ?_
  refine r_iload_n C 1 rfl rfl dX7_addWeight_7 ?_
  refine r_pc (pc1 := 8) rfl ?_
  refine r_iadd C dX7_addWeight_8 ?_
  refine r_mmin C lk_X7_99 (Nat.le_of_ble_eq_true rfl) (Nat.le_of_ble_eq_true rfl) dX7_addWeight_9 ?_
  refine pf_X7_23 C hk dX7_addWeight_12 ?_
  refine r_nmI h (fun I2 h => ?_)
  have hz9 := Option.some.inj h
  subst hz9
  exact r_vret C hr dX7_addWeight_15
set_option maxHeartbeats 4000000 in
set_option maxRecDepth 100000 in
theorem c_X7_addWeight {l : Launch} {g : GG} {ad : Nat → Nat} {k : Nat} {a0 : Int32} {I : HI} {J : HJ} {I1 : HI} (hk : OB nO k 6) (h : f_X7_addWeight k a0 I J = some I1) : CM l yX7_addWeight cX7_addWeight 2 none (rmk 4 150) g ad nO oR [.ref (ad k), .int a0] I J (QAv g ad nO oR I1 J) :=
  CM_of (by decide +kernel) (Nat.le_of_ble_eq_true rfl) (fun p e s m args below meth c C hr => w_X7_addWeight C hr hk h)
set_option maxHeartbeats 4000000 in
set_option maxRecDepth 100000 in
theorem w_X7_shakeSpeed {l : Launch} {g : GG} {ad : Nat → Nat} {p : Program} {e : Env} {s : State} {m : MethodId} {args : Array Value} {below : List Frame} {meth : Method} {c : Code} {k : Nat} {z : HI} (C : Cx p s m args meth c RX7 cX7_shakeSpeed 2 g (AW ad nO)) (hr : meth.sig.returnType = none) (hk : OB nO k 6) {I : HI} {J : HJ} (h : f_X7_shakeSpeed k I J = some z) : V p l e (rmk 0 0) s m args below meth c (MQ below (QAv g ad nO oR z J) args s 0 0 (AW ad nO)) 2 0 0 g (AW ad nO) ad nO oR I J 0 [(0, .ref (ad k))] [] := by
  unfold f_X7_shakeSpeed at h
  refine r_iconst C (v := 2) (by decide) dX7_shakeSpeed_0 ?_
  refine r_aload_n C 0 rfl rfl dX7_shakeSpeed_1 ?_
  refine gf_X7_62 C hk dX7_shakeSpeed_2 ?_
  refine r_imul C dX7_shakeSpeed_5 ?_
  refine r_iconst C (v := 1) (by decide) dX7_shakeSpeed_6 ?_
  refine r_pc (pc1 := 7) rfl ?_
  refine r_iadd C dX7_shakeSpeed_7 ?_
  refine r_nmi h (fun v4 h => ?_)
  refine r_istore_n C (lv1 := [(1, .int v4), (0, .ref (ad k))]) rfl (by decide) rfl dX7_shakeSpeed_8 ?_
  refine r_aload_n C 1 rfl rfl dX7_shakeSpeed_9 ?_
  refine gf_X7_62 C hk dX7_shakeSpeed_10 ?_
  refine r_if_eq C (tgt := 58) h dX7_shakeSpeed_13 (by decide) (fun h => ?_) (fun h => ?_)
  · have hz9 := Option.some.inj h
    subst hz9
    exact r_vret C hr dX7_shakeSpeed_58
  · refine r_iload_n C 0 rfl rfl dX7_shakeSpeed_16 ?_
    refine r_if_eq C (tgt := 58) h dX7_shakeSpeed_17 (by decide) (fun h => ?_) (fun h => ?_)
    · have hz9 := Option.some.inj h
      subst hz9
      exact r_vret C hr dX7_shakeSpeed_58
    · refine r_aload_n C 1 rfl rfl dX7_shakeSpeed_20 ?_
      refine r_aload_n C 1 rfl rfl dX7_shakeSpeed_21 ?_
      refine gf_X7_20 C hk dX7_shakeSpeed_22 ?_
      refine r_ldc C (v := 1103515245) lk_X7_105 dX7_shakeSpeed_25 ?_
      refine r_imul C dX7_shakeSpeed_27 ?_
      refine r_pc (pc1 := 28) rfl ?_
      refine r_sipush C (v := 12345) (by decide) dX7_shakeSpeed_28 ?_
      refine r_iadd C dX7_shakeSpeed_31 ?_
      refine pf_X7_20 C hk dX7_shakeSpeed_32 ?_
      refine r_nmI h (fun I5 h => ?_)
      refine r_aload_n C 1 rfl rfl dX7_shakeSpeed_35 ?_
      refine r_dup C rfl dX7_shakeSpeed_36 ?_
      refine gf_X7_29 C hk dX7_shakeSpeed_37 ?_
      refine r_aload_n C 1 rfl rfl dX7_shakeSpeed_40 ?_
      refine gf_X7_20 C hk dX7_shakeSpeed_41 ?_
      refine r_pc (pc1 := 44) rfl ?_
      refine r_bipush C (v := 16) (by decide) dX7_shakeSpeed_44 ?_
      refine r_iushr C dX7_shakeSpeed_46 ?_
      refine r_iload_n C 0 rfl rfl dX7_shakeSpeed_47 ?_
      refine r_irem C h dX7_shakeSpeed_48 (fun h => ?_)
      refine r_aload_n C 1 rfl rfl dX7_shakeSpeed_49 ?_
      refine gf_X7_62 C hk dX7_shakeSpeed_50 ?_
      refine r_isub C dX7_shakeSpeed_53 ?_
      refine r_iadd C dX7_shakeSpeed_54 ?_
      refine pf_X7_29 C hk dX7_shakeSpeed_55 ?_
      refine r_nmI h (fun I6 h => ?_)
      have hz9 := Option.some.inj h
      subst hz9
      exact r_vret C hr dX7_shakeSpeed_58
set_option maxHeartbeats 4000000 in
set_option maxRecDepth 100000 in
theorem c_X7_shakeSpeed {l : Launch} {g : GG} {ad : Nat → Nat} {k : Nat} {I : HI} {J : HJ} {I1 : HI} (hk : OB nO k 6) (h : f_X7_shakeSpeed k I J = some I1) : CM l yX7_shakeSpeed cX7_shakeSpeed 2 none (rmk 0 0) g ad nO oR [.ref (ad k)] I J (QAv g ad nO oR I1 J) :=
  CM_of (by decide +kernel) (Nat.le_of_ble_eq_true rfl) (fun p e s m args below meth c C hr => w_X7_shakeSpeed C hr hk h)
set_option maxHeartbeats 4000000 in
set_option maxRecDepth 100000 in
theorem w_X7_swayOn {l : Launch} {g : GG} {ad : Nat → Nat} {p : Program} {e : Env} {s : State} {m : MethodId} {args : Array Value} {below : List Frame} {meth : Method} {c : Code} {k : Nat} {z : HI} (C : Cx p s m args meth c RX7 cX7_swayOn 1 g (AW ad nO)) (hr : meth.sig.returnType = none) (hk : OB nO k 6) {I : HI} {J : HJ} (h : f_X7_swayOn k I J = some z) : V p l e (rmk 5 172) s m args below meth c (MQ below (QAv g ad nO oR z J) args s 0 0 (AW ad nO)) 1 0 0 g (AW ad nO) ad nO oR I J 0 [(0, .ref (ad k))] [] := by
  unfold f_X7_swayOn at h
  refine r_aload_n C 0 rfl rfl dX7_swayOn_0 ?_
  refine r_dup C rfl dX7_swayOn_1 ?_
  refine gf_X7_26 C hk dX7_swayOn_2 ?_
  refine r_aload_n C 0 rfl rfl dX7_swayOn_5 ?_
  refine gf_X7_29 C hk dX7_swayOn_6 ?_
  refine r_pc (pc1 := 9) rfl ?_
  refine r_iadd C dX7_swayOn_9 ?_
  refine pf_X7_26 C hk dX7_swayOn_10 ?_
  refine r_nmI h (fun I8 h => ?_)
  refine r_aload_n C 0 rfl rfl dX7_swayOn_13 ?_
  refine gf_X7_26 C hk dX7_swayOn_14 ?_
  refine r_sipush C (v := -999) (by decide) dX7_swayOn_17 ?_
  refine r_sipush C (v := 999) (by decide) dX7_swayOn_20 ?_
  obtain ⟨r9, hq10, h⟩ := bd1_ h
  refine r_csni C (rest := []) (c_X10_isWithin  hq10) fm_X10_isWithin nk_X7_106 rfl ⟨rfl, rfl, Nat.le_of_ble_eq_true rfl, Nat.le_of_ble_eq_true rfl⟩ (Nat.le_of_ble_eq_true rfl) rfl dX7_swayOn_23 ?_
  refine r_if_ne C (tgt := 51) h dX7_swayOn_26 (by decide) (fun h => ?_) (fun h => ?_)
  · have hz9 := Option.some.inj h
    subst hz9
    exact r_vret C hr dX7_swayOn_51
  · refine r_aload_n C 0 rfl rfl dX7_swayOn_29 ?_
    refine r_aload_n C 0 rfl rfl dX7_swayOn_30 ?_
    refine gf_X7_26 C hk dX7_swayOn_31 ?_
    refine r_sipush C (v := -999) (by decide) dX7_swayOn_34 ?_
    refine r_sipush C (v := 999) (by decide) dX7_swayOn_37 ?_
    refine r_pc (pc1 := 40) rfl ?_
    obtain ⟨r11, hq12, h⟩ := bd1_ h
    refine r_csni C (rest := [.ref (ad k)]) (c_X10_heldTo  hq12) fm_X10_heldTo nk_X7_79 rfl ⟨rfl, rfl, Nat.le_of_ble_eq_true rfl, Nat.le_of_ble_eq_true rfl⟩ (Nat.le_of_ble_eq_true rfl) rfl dX7_swayOn_40 ?_
    refine pf_X7_26 C hk dX7_swayOn_43 ?_
    refine r_nmI h (fun I13 h => ?_)
    refine r_aload_n C 0 rfl rfl dX7_swayOn_46 ?_
    refine r_iconst C (v := 0) (by decide) dX7_swayOn_47 ?_
    refine pf_X7_29 C hk dX7_swayOn_48 ?_
    refine r_nmI h (fun I14 h => ?_)
    have hz9 := Option.some.inj h
    subst hz9
    exact r_vret C hr dX7_swayOn_51
set_option maxHeartbeats 4000000 in
set_option maxRecDepth 100000 in
theorem c_X7_swayOn {l : Launch} {g : GG} {ad : Nat → Nat} {k : Nat} {I : HI} {J : HJ} {I1 : HI} (hk : OB nO k 6) (h : f_X7_swayOn k I J = some I1) : CM l yX7_swayOn cX7_swayOn 1 none (rmk 5 172) g ad nO oR [.ref (ad k)] I J (QAv g ad nO oR I1 J) :=
  CM_of (by decide +kernel) (Nat.le_of_ble_eq_true rfl) (fun p e s m args below meth c C hr => w_X7_swayOn C hr hk h)
set_option maxHeartbeats 4000000 in
set_option maxRecDepth 100000 in
theorem w_X9_add {l : Launch} {g : GG} {ad : Nat → Nat} {p : Program} {e : Env} {s : State} {m : MethodId} {args : Array Value} {below : List Frame} {meth : Method} {c : Code} {k : Nat} {a0 : Int32} {z : Int32 × HI} (C : Cx p s m args meth c RX9 cX9_add 2 g (AW ad nO)) (hr : meth.sig.returnType = (some .boolean)) (hk : OB nO k 8) {I : HI} {J : HJ} (h : f_X9_add k a0 I J = some z) : V p l e (rmk 1 20) s m args below meth c (MQ below (QAi g ad nO oR z.1 z.2 J) args s 0 0 (AW ad nO)) 2 0 0 g (AW ad nO) ad nO oR I J 0 [(0, .ref (ad k)), (1, .int a0)] [] := by
  unfold f_X9_add at h
  refine r_aload_n C 0 rfl rfl dX9_add_0 ?_
  obtain ⟨r5, hq6, h⟩ := bd1_ h
  refine r_cvi C (rest := []) (c_X9_isFull hk hq6) fm_X9_isFull lk_X9_21 hk ⟨_, ct_8 hk.1⟩ rfl rfl ⟨rfl, rfl, Nat.le_of_ble_eq_true rfl, Nat.le_of_ble_eq_true rfl⟩ (Nat.le_of_ble_eq_true rfl) rfl dX9_add_1 ?_
  refine r_if_ne C (tgt := 14) h dX9_add_4 (by decide) (fun h => ?_) (fun h => ?_)
  · refine r_iconst C (v := 0) (by decide) dX9_add_14 ?_
    have hz9 := Option.some.inj h
    subst hz9
    exact r_zret C (v := (0 : Int32)) rfl hr dX9_add_15
  · refine r_aload_n C 0 rfl rfl dX9_add_7 ?_
    refine gf_X9_13 C hk dX9_add_8 ?_
    refine r_if_ge C (tgt := 16) h dX9_add_11 (by decide) (fun h => ?_) (fun h => ?_)
    · refine r_aload_n C 0 rfl rfl dX9_add_16 ?_
      refine gf_X9_9 C rf0 hk (q := (rfn k 0)) rfl dX9_add_17 ?_
      refine r_aload_n C 0 rfl rfl dX9_add_20 ?_
      refine gf_X9_13 C hk dX9_add_21 ?_
      refine r_iload_n C 1 rfl rfl dX9_add_24 ?_
      refine r_pc (pc1 := 25) rfl ?_
      refine r_iast C (ob_8_0 rf0 hk) h dX9_add_25 (fun h => ?_)
      refine r_nmI h (fun I7 h => ?_)
      refine r_aload_n C 0 rfl rfl dX9_add_26 ?_
      refine r_dup C rfl dX9_add_27 ?_
      refine gf_X9_13 C hk dX9_add_28 ?_
      refine r_iconst C (v := 1) (by decide) dX9_add_31 ?_
      refine r_iadd C dX9_add_32 ?_
      refine r_pc (pc1 := 33) rfl ?_
      refine pf_X9_13 C hk dX9_add_33 ?_
      refine r_nmI h (fun I8 h => ?_)
      refine r_iconst C (v := 1) (by decide) dX9_add_36 ?_
      have hz9 := Option.some.inj h
      subst hz9
      exact r_zret C (v := (1 : Int32)) rfl hr dX9_add_37
    · refine r_iconst C (v := 0) (by decide) dX9_add_14 ?_
      have hz9 := Option.some.inj h
      subst hz9
      exact r_zret C (v := (0 : Int32)) rfl hr dX9_add_15
set_option maxHeartbeats 4000000 in
set_option maxRecDepth 100000 in
theorem c_X9_add {l : Launch} {g : GG} {ad : Nat → Nat} {k : Nat} {a0 : Int32} {I : HI} {J : HJ} {r : Int32} {I1 : HI} (hk : OB nO k 8) (h : f_X9_add k a0 I J = some (r, I1)) : CM l yX9_add cX9_add 2 (some .boolean) (rmk 1 20) g ad nO oR [.ref (ad k), .int a0] I J (QAi g ad nO oR r I1 J) :=
  CM_of (by decide +kernel) (Nat.le_of_ble_eq_true rfl) (fun p e s m args below meth c C hr => w_X9_add C hr hk h)
set_option maxHeartbeats 4000000 in
set_option maxRecDepth 100000 in
theorem w_X7_letDrop {l : Launch} {g : GG} {ad : Nat → Nat} {p : Program} {e : Env} {s : State} {m : MethodId} {args : Array Value} {below : List Frame} {meth : Method} {c : Code} {k : Nat} {a0 : Int32} {z : HI × HJ} (C : Cx p s m args meth c RX7 cX7_letDrop 2 g (AW ad nO)) (hr : meth.sig.returnType = none) (hk : OB nO k 6) {I : HI} {J : HJ} (h : f_X7_letDrop k a0 I J = some z) : V p l e (rmk 2 41) s m args below meth c (MQ below (QAv g ad nO oR z.1 z.2) args s 0 0 (AW ad nO)) 2 0 0 g (AW ad nO) ad nO oR I J 0 [(0, .ref (ad k)), (1, .int a0)] [] := by
  unfold f_X7_letDrop at h
  refine r_aload_n C 0 rfl rfl dX7_letDrop_0 ?_
  refine r_aload_n C 0 rfl rfl dX7_letDrop_1 ?_
  refine gf_X7_35 C hk dX7_letDrop_2 ?_
  refine pf_X7_110 C hk dX7_letDrop_5 ?_
  refine r_nmI h (fun I12 h => ?_)
  refine r_aload_n C 0 rfl rfl dX7_letDrop_8 ?_
  refine r_aload_n C 0 rfl rfl dX7_letDrop_9 ?_
  refine gf_X7_23 C hk dX7_letDrop_10 ?_
  refine r_iload_n C 1 rfl rfl dX7_letDrop_13 ?_
  refine r_isub C dX7_letDrop_14 ?_
  refine r_pc (pc1 := 15) rfl ?_
  refine pf_X7_113 C hk dX7_letDrop_15 ?_
  refine r_nmI h (fun I13 h => ?_)
  refine r_aload_n C 0 rfl rfl dX7_letDrop_18 ?_
  refine r_dup C rfl dX7_letDrop_19 ?_
  refine gf_X7_45 C hk dX7_letDrop_20 ?_
  refine r_aload_n C 0 rfl rfl dX7_letDrop_23 ?_
  refine gf_X7_113 C hk dX7_letDrop_24 ?_
  refine r_pc (pc1 := 27) rfl ?_
  refine r_i2l C dX7_letDrop_27 ?_
  refine r_ladd C dX7_letDrop_28 ?_
  refine pf_X7_45 C hk dX7_letDrop_29 ?_
  refine r_nmJ h (fun J14 h => ?_)
  refine r_aload_n C 0 rfl rfl dX7_letDrop_32 ?_
  refine r_iload_n C 1 rfl rfl dX7_letDrop_33 ?_
  refine pf_X7_23 C hk dX7_letDrop_34 ?_
  refine r_nmI h (fun I15 h => ?_)
  refine r_aload_n C 0 rfl rfl dX7_letDrop_37 ?_
  refine r_aload_n C 0 rfl rfl dX7_letDrop_38 ?_
  refine gf_X7_26 C hk dX7_letDrop_39 ?_
  refine r_iconst C (v := 2) (by decide) dX7_letDrop_42 ?_
  refine r_idivN C (by decide) dX7_letDrop_43 ?_
  refine r_pc (pc1 := 44) rfl ?_
  refine r_ineg C dX7_letDrop_44 ?_
  refine pf_X7_26 C hk dX7_letDrop_45 ?_
  refine r_nmI h (fun I16 h => ?_)
  refine r_aload_n C 0 rfl rfl dX7_letDrop_48 ?_
  refine r_aload_n C 0 rfl rfl dX7_letDrop_49 ?_
  refine gf_X7_29 C hk dX7_letDrop_50 ?_
  refine r_iconst C (v := 2) (by decide) dX7_letDrop_53 ?_
  refine r_idivN C (by decide) dX7_letDrop_54 ?_
  refine r_pc (pc1 := 55) rfl ?_
  refine r_ineg C dX7_letDrop_55 ?_
  refine pf_X7_29 C hk dX7_letDrop_56 ?_
  refine r_nmI h (fun I17 h => ?_)
  refine r_aload_n C 0 rfl rfl dX7_letDrop_59 ?_
  refine r_iconst C (v := 0) (by decide) dX7_letDrop_60 ?_
  refine pf_X7_35 C hk dX7_letDrop_61 ?_
  refine r_nmI h (fun I18 h => ?_)
  refine r_aload_n C 0 rfl rfl dX7_letDrop_64 ?_
  refine r_dup C rfl dX7_letDrop_65 ?_
  refine gf_X7_38 C hk dX7_letDrop_66 ?_
  refine r_iconst C (v := 1) (by decide) dX7_letDrop_69 ?_
  refine r_iadd C dX7_letDrop_70 ?_
  refine r_pc (pc1 := 71) rfl ?_
  refine pf_X7_38 C hk dX7_letDrop_71 ?_
  refine r_nmI h (fun I19 h => ?_)
  refine r_aload_n C 0 rfl rfl dX7_letDrop_74 ?_
  refine gf_X7_10 C rf0 hk (q := (rfn k 0)) rfl dX7_letDrop_75 ?_
  refine r_aload_n C 0 rfl rfl dX7_letDrop_78 ?_
  refine gf_X7_110 C hk dX7_letDrop_79 ?_
  obtain ⟨r20, I21, hq22, h⟩ := bd2_ h
  refine r_cvi C (rest := []) (c_X9_add (ob_6_0 rf0 hk) hq22) fm_X9_add lk_X7_116 (ob_6_0 rf0 hk) ⟨_, ct_8 (ob_6_0 rf0 hk).1⟩ rfl rfl ⟨rfl, rfl, Nat.le_of_ble_eq_true rfl, Nat.le_of_ble_eq_true rfl⟩ (Nat.le_of_ble_eq_true rfl) rfl dX7_letDrop_82 ?_
  refine r_pop C rfl dX7_letDrop_85 ?_
  have hz9 := Option.some.inj h
  subst hz9
  exact r_vret C hr dX7_letDrop_86
set_option maxHeartbeats 4000000 in
set_option maxRecDepth 100000 in
theorem c_X7_letDrop {l : Launch} {g : GG} {ad : Nat → Nat} {k : Nat} {a0 : Int32} {I : HI} {J : HJ} {I1 : HI} {J1 : HJ} (hk : OB nO k 6) (h : f_X7_letDrop k a0 I J = some (I1, J1)) : CM l yX7_letDrop cX7_letDrop 2 none (rmk 2 41) g ad nO oR [.ref (ad k), .int a0] I J (QAv g ad nO oR I1 J1) :=
  CM_of (by decide +kernel) (Nat.le_of_ble_eq_true rfl) (fun p e s m args below meth c C hr => w_X7_letDrop C hr hk h)

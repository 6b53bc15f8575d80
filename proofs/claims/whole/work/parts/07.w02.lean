set_option maxHeartbeats 4000000 in
set_option maxRecDepth 100000 in
theorem w_X7_goOneTick {l : Launch} {g : GG} {ad : Nat → Nat} {p : Program} {e : Env} {s : State} {m : MethodId} {args : Array Value} {below : List Frame} {meth : Method} {c : Code} {k : Nat} {a0 : Nat} {z : Int32 × HI × HJ} (C : Cx p s m args meth c RX7 cX7_goOneTick 3 g (AW ad nO)) (hr : meth.sig.returnType = (some .boolean)) (hk : OB nO k 6) (ha0 : OB nO a0 1) {I : HI} {J : HJ} (h : f_X7_goOneTick k a0 I J = some z) : V p l e (rmk 6 192) s m args below meth c (MQ below (QAi g ad nO oR z.1 z.2.1 z.2.2) args s 0 0 (AW ad nO)) 3 0 0 g (AW ad nO) ad nO oR I J 0 [(0, .ref (ad k)), (1, .ref (ad a0))] [] := by
  unfold f_X7_goOneTick at h
  refine r_aload_n C 0 rfl rfl dX7_goOneTick_0 ?_
  refine r_dup C rfl dX7_goOneTick_1 ?_
  refine gf_X7_32 C hk dX7_goOneTick_2 ?_
  refine r_iconst C (v := 1) (by decide) dX7_goOneTick_5 ?_
  refine r_iadd C dX7_goOneTick_6 ?_
  refine r_pc (pc1 := 7) rfl ?_
  refine pf_X7_32 C hk dX7_goOneTick_7 ?_
  refine r_nmI h (fun I35 h => ?_)
  refine r_aload_n C 0 rfl rfl dX7_goOneTick_10 ?_
  refine r_dup C rfl dX7_goOneTick_11 ?_
  refine gf_X7_35 C hk dX7_goOneTick_12 ?_
  refine r_iconst C (v := 1) (by decide) dX7_goOneTick_15 ?_
  refine r_iadd C dX7_goOneTick_16 ?_
  refine r_pc (pc1 := 17) rfl ?_
  refine pf_X7_35 C hk dX7_goOneTick_17 ?_
  refine r_nmI h (fun I36 h => ?_)
  refine r_aload_n C 1 rfl rfl dX7_goOneTick_20 ?_
  refine r_iconst C (v := 0) (by decide) dX7_goOneTick_21 ?_
  refine r_aload_n C 0 rfl rfl dX7_goOneTick_22 ?_
  obtain ⟨r37, I38, hq39, h⟩ := bd2_ h
  refine r_cvi C (rest := []) (c_X2_worth ha0 hk hq39) fm_X2_worth lk_X7_75 ha0 ⟨_, ct_1 ha0.1⟩ rfl rfl ⟨rfl, rfl, Nat.le_of_ble_eq_true rfl, Nat.le_of_ble_eq_true rfl⟩ (Nat.le_of_ble_eq_true rfl) rfl dX7_goOneTick_23 ?_
  refine r_iconst C (v := 0) (by decide) dX7_goOneTick_26 ?_
  refine r_sipush C (v := 999) (by decide) dX7_goOneTick_27 ?_
  obtain ⟨r40, hq41, h⟩ := bd1_ h
  refine r_csni C (rest := []) (c_X10_heldTo  hq41) fm_X10_heldTo nk_X7_79 rfl ⟨rfl, rfl, Nat.le_of_ble_eq_true rfl, Nat.le_of_ble_eq_true rfl⟩ (Nat.le_of_ble_eq_true rfl) rfl dX7_goOneTick_30 ?_
  refine r_istore_n C (lv1 := [(2, .int r40), (0, .ref (ad k)), (1, .ref (ad a0))]) rfl (by decide) rfl dX7_goOneTick_33 ?_
  refine r_aload_n C 1 rfl rfl dX7_goOneTick_34 ?_
  refine r_dup C rfl dX7_goOneTick_35 ?_
  refine gf_X7_41 C hk dX7_goOneTick_36 ?_
  refine r_iload_n C 0 rfl rfl dX7_goOneTick_39 ?_
  refine r_i2l C dX7_goOneTick_40 ?_
  refine r_pc (pc1 := 41) rfl ?_
  refine r_ladd C dX7_goOneTick_41 ?_
  refine pf_X7_41 C hk dX7_goOneTick_42 ?_
  refine r_nmJ h (fun J42 h => ?_)
  refine r_aload_n C 1 rfl rfl dX7_goOneTick_45 ?_
  refine r_iload_n C 0 rfl rfl dX7_goOneTick_46 ?_
  obtain ⟨I43, hq44, h⟩ := bd1_ h
  refine r_cvv C (rest := []) (c_X7_addWeight hk hq44) fm_X7_addWeight lk_X7_85 hk ⟨_, ct_6 hk.1⟩ rfl rfl ⟨rfl, rfl, Nat.le_of_ble_eq_true rfl, Nat.le_of_ble_eq_true rfl⟩ (Nat.le_of_ble_eq_true rfl) rfl dX7_goOneTick_47 ?_
  refine r_aload_n C 1 rfl rfl dX7_goOneTick_50 ?_
  refine r_dup C rfl dX7_goOneTick_51 ?_
  refine gf_X7_29 C hk dX7_goOneTick_52 ?_
  refine r_aload_n C 2 rfl rfl dX7_goOneTick_55 ?_
  refine r_iconst C (v := 1) (by decide) dX7_goOneTick_56 ?_
  refine r_pc (pc1 := 57) rfl ?_
  refine r_aload_n C 1 rfl rfl dX7_goOneTick_57 ?_
  obtain ⟨r45, I46, hq47, h⟩ := bd2_ h
  refine r_cvi C (rest := [.int (I43 k 3), .ref (ad k)]) (c_X2_worth ha0 hk hq47) fm_X2_worth lk_X7_75 ha0 ⟨_, ct_1 ha0.1⟩ rfl rfl ⟨rfl, rfl, Nat.le_of_ble_eq_true rfl, Nat.le_of_ble_eq_true rfl⟩ (Nat.le_of_ble_eq_true rfl) rfl dX7_goOneTick_58 ?_
  refine r_sipush C (v := -999) (by decide) dX7_goOneTick_61 ?_
  refine r_sipush C (v := 999) (by decide) dX7_goOneTick_64 ?_
  obtain ⟨r48, hq49, h⟩ := bd1_ h
  refine r_csni C (rest := [.int (I43 k 3), .ref (ad k)]) (c_X10_heldTo  hq49) fm_X10_heldTo nk_X7_79 rfl ⟨rfl, rfl, Nat.le_of_ble_eq_true rfl, Nat.le_of_ble_eq_true rfl⟩ (Nat.le_of_ble_eq_true rfl) rfl dX7_goOneTick_67 ?_
  refine r_isub C dX7_goOneTick_70 ?_
  refine pf_X7_29 C hk dX7_goOneTick_71 ?_
  refine r_nmI h (fun I50 h => ?_)
  refine r_aload_n C 1 rfl rfl dX7_goOneTick_74 ?_
  obtain ⟨I51, hq52, h⟩ := bd1_ h
  refine r_cvv C (rest := []) (c_X7_shakeSpeed hk hq52) fm_X7_shakeSpeed lk_X7_89 hk ⟨_, ct_6 hk.1⟩ rfl rfl ⟨rfl, rfl, Nat.le_of_ble_eq_true rfl, Nat.le_of_ble_eq_true rfl⟩ (Nat.le_of_ble_eq_true rfl) rfl dX7_goOneTick_75 ?_
  refine r_aload_n C 1 rfl rfl dX7_goOneTick_78 ?_
  refine r_aload_n C 1 rfl rfl dX7_goOneTick_79 ?_
  refine gf_X7_29 C hk dX7_goOneTick_80 ?_
  refine r_sipush C (v := -999) (by decide) dX7_goOneTick_83 ?_
  refine r_sipush C (v := 999) (by decide) dX7_goOneTick_86 ?_
  refine r_pc (pc1 := 89) rfl ?_
  obtain ⟨r53, hq54, h⟩ := bd1_ h
  refine r_csni C (rest := [.ref (ad k)]) (c_X10_heldTo  hq54) fm_X10_heldTo nk_X7_79 rfl ⟨rfl, rfl, Nat.le_of_ble_eq_true rfl, Nat.le_of_ble_eq_true rfl⟩ (Nat.le_of_ble_eq_true rfl) rfl dX7_goOneTick_89 ?_
  refine pf_X7_29 C hk dX7_goOneTick_92 ?_
  refine r_nmI h (fun I55 h => ?_)
  refine r_aload_n C 1 rfl rfl dX7_goOneTick_95 ?_
  obtain ⟨I56, hq57, h⟩ := bd1_ h
  refine r_cvv C (rest := []) (c_X7_swayOn hk hq57) fm_X7_swayOn lk_X7_92 hk ⟨_, ct_6 hk.1⟩ rfl rfl ⟨rfl, rfl, Nat.le_of_ble_eq_true rfl, Nat.le_of_ble_eq_true rfl⟩ (Nat.le_of_ble_eq_true rfl) rfl dX7_goOneTick_96 ?_
  refine r_aload_n C 2 rfl rfl dX7_goOneTick_99 ?_
  refine r_iconst C (v := 2) (by decide) dX7_goOneTick_100 ?_
  refine r_aload_n C 1 rfl rfl dX7_goOneTick_101 ?_
  obtain ⟨r58, I59, hq60, h⟩ := bd2_ h
  refine r_cvi C (rest := []) (c_X2_worth ha0 hk hq60) fm_X2_worth lk_X7_75 ha0 ⟨_, ct_1 ha0.1⟩ rfl rfl ⟨rfl, rfl, Nat.le_of_ble_eq_true rfl, Nat.le_of_ble_eq_true rfl⟩ (Nat.le_of_ble_eq_true rfl) rfl dX7_goOneTick_102 ?_
  refine r_if_ne C (tgt := 110) h dX7_goOneTick_105 (by decide) (fun h => ?_) (fun h => ?_)
  · refine r_aload_n C 1 rfl rfl dX7_goOneTick_110 ?_
    refine r_aload_n C 2 rfl rfl dX7_goOneTick_111 ?_
    refine r_iconst C (v := 3) (by decide) dX7_goOneTick_112 ?_
    refine r_aload_n C 1 rfl rfl dX7_goOneTick_113 ?_
    obtain ⟨r61, I62, hq63, h⟩ := bd2_ h
    refine r_cvi C (rest := [.ref (ad k)]) (c_X2_worth ha0 hk hq63) fm_X2_worth lk_X7_75 ha0 ⟨_, ct_1 ha0.1⟩ rfl rfl ⟨rfl, rfl, Nat.le_of_ble_eq_true rfl, Nat.le_of_ble_eq_true rfl⟩ (Nat.le_of_ble_eq_true rfl) rfl dX7_goOneTick_114 ?_
    refine r_iconst C (v := 0) (by decide) dX7_goOneTick_117 ?_
    refine r_aload_n C 1 rfl rfl dX7_goOneTick_118 ?_
    refine gf_X7_23 C hk dX7_goOneTick_119 ?_
    obtain ⟨r64, hq65, h⟩ := bd1_ h
    refine r_csni C (rest := [.ref (ad k)]) (c_X10_heldTo  hq65) fm_X10_heldTo nk_X7_79 rfl ⟨rfl, rfl, Nat.le_of_ble_eq_true rfl, Nat.le_of_ble_eq_true rfl⟩ (Nat.le_of_ble_eq_true rfl) rfl dX7_goOneTick_122 ?_
    obtain ⟨I66, J67, hq68, h⟩ := bd2_ h
    refine r_cvv C (rest := []) (c_X7_letDrop hk hq68) fm_X7_letDrop lk_X7_95 hk ⟨_, ct_6 hk.1⟩ rfl rfl ⟨rfl, rfl, Nat.le_of_ble_eq_true rfl, Nat.le_of_ble_eq_true rfl⟩ (Nat.le_of_ble_eq_true rfl) rfl dX7_goOneTick_125 ?_
    refine r_iconst C (v := 1) (by decide) dX7_goOneTick_128 ?_
    have hz9 := Option.some.inj h
    subst hz9
    exact r_zret C (v := (1 : Int32)) rfl hr dX7_goOneTick_129
  · refine r_iconst C (v := 0) (by decide) dX7_goOneTick_108 ?_
    have hz9 := Option.some.inj h
    subst hz9
    exact r_zret C (v := (0 : Int32)) rfl hr dX7_goOneTick_109
set_option maxHeartbeats 4000000 in
set_option maxRecDepth 100000 in
theorem c_X7_goOneTick {l : Launch} {g : GG} {ad : Nat → Nat} {k : Nat} {a0 : Nat} {I : HI} {J : HJ} {r : Int32} {I1 : HI} {J1 : HJ} (hk : OB nO k 6) (ha0 : OB nO a0 1) (h : f_X7_goOneTick k a0 I J = some (r, I1, J1)) : CM l yX7_goOneTick cX7_goOneTick 3 (some .boolean) (rmk 6 192) g ad nO oR [.ref (ad k), .ref (ad a0)] I J (QAi g ad nO oR r I1 J1) :=
  CM_of (by decide +kernel) (Nat.le_of_ble_eq_true rfl) (fun p e s m args below meth c C hr => w_X7_goOneTick C hr hk ha0 h)
set_option maxHeartbeats 4000000 in
set_option maxRecDepth 100000 in
theorem wLB_X7_fillRow_2 {l : Launch} {g : GG} {ad : Nat → Nat} {p : Program} {e : Env} {s : State} {m : MethodId} {args : Array Value} {below : List Frame} {meth : Method} {c : Code} {k : Nat} {a0 : Int32} {a1 : Nat} {z : HI × HJ} (C : Cx p s m args meth c RX7 cX7_fillRow 4 g (AW ad nO)) (hr : meth.sig.returnType = none) (hk : OB nO k 6) (ha1 : OB nO a1 1)  {r_2 : Int32 → HI → HJ → Option (HI × HJ)} (hr_2 : ∀ {x3 : Int32} {I : HI} {J : HJ}, r_2 x3 I J = some z → V p l e (rmk 7 214) s m args below meth c (MQ below (QAv g ad nO oR z.1 z.2) args s 0 0 (AW ad nO)) 4 0 0 g (AW ad nO) ad nO oR I J 2 [(0, .ref (ad k)), (1, .int a0), (2, .ref (ad a1)), (3, .int x3)] []) {x3 : Int32} {I : HI} {J : HJ} (h : fLB_X7_fillRow_2 k a0 a1 r_2 x3 I J = some z) : V p l e (rmk 7 214) s m args below meth c (MQ below (QAv g ad nO oR z.1 z.2) args s 0 0 (AW ad nO)) 4 0 0 g (AW ad nO) ad nO oR I J 2 [(0, .ref (ad k)), (1, .int a0), (2, .ref (ad a1)), (3, .int x3)] [] := by
  unfold fLB_X7_fillRow_2 at h
  refine r_iload_n C 3 rfl rfl dX7_fillRow_2 ?_
  refine r_iload_n C 1 rfl rfl dX7_fillRow_3 ?_
  refine r_icmp_ge C (tgt := 29) h dX7_fillRow_4 (by decide) (fun h => ?_) (fun h => ?_)
  · have hz9 := Option.some.inj h
    subst hz9
    exact r_vret C hr dX7_fillRow_29
  · refine r_aload_n C 0 rfl rfl dX7_fillRow_7 ?_
    refine gf_X7_10 C rf0 hk (q := (rfn k 0)) rfl dX7_fillRow_8 ?_
    obtain ⟨r8, hq9, h⟩ := bd1_ h
    refine r_cvi C (rest := []) (c_X9_isFull (ob_6_0 rf0 hk) hq9) fm_X9_isFull lk_X7_65 (ob_6_0 rf0 hk) ⟨_, ct_8 (ob_6_0 rf0 hk).1⟩ rfl rfl ⟨rfl, rfl, Nat.le_of_ble_eq_true rfl, Nat.le_of_ble_eq_true rfl⟩ (Nat.le_of_ble_eq_true rfl) rfl dX7_fillRow_11 ?_
    refine r_if_ne C (tgt := 29) h dX7_fillRow_14 (by decide) (fun h => ?_) (fun h => ?_)
    · have hz9 := Option.some.inj h
      subst hz9
      exact r_vret C hr dX7_fillRow_29
    · refine r_aload_n C 0 rfl rfl dX7_fillRow_17 ?_
      refine r_aload_n C 2 rfl rfl dX7_fillRow_18 ?_
      obtain ⟨r10, I11, J12, hq13, h⟩ := bd3_ h
      refine r_cvi C (rest := []) (c_X7_goOneTick hk ha1 hq13) fm_X7_goOneTick lk_X7_69 hk ⟨_, ct_6 hk.1⟩ rfl rfl ⟨rfl, rfl, Nat.le_of_ble_eq_true rfl, Nat.le_of_ble_eq_true rfl⟩ (Nat.le_of_ble_eq_true rfl) rfl dX7_fillRow_19 ?_
      refine r_pop C rfl dX7_fillRow_22 ?_
      refine r_iincN C h (k := 3) (zz := 1) rfl rfl (by decide) (lv1 := fun v14 => [(3, .int v14), (0, .ref (ad k)), (1, .int a0), (2, .ref (ad a1))]) (fun _ => rfl) dX7_fillRow_23 (fun v14 h => ?_)
      refine r_goto C (tgt := 2) dX7_fillRow_26 (by decide) ?_
      exact r_sub [1, 2, 3, 0] rfl (hr_2  h)
set_option maxHeartbeats 4000000 in
set_option maxRecDepth 100000 in
theorem wL_X7_fillRow_2 {l : Launch} {g : GG} {ad : Nat → Nat} {p : Program} {e : Env} {s : State} {m : MethodId} {args : Array Value} {below : List Frame} {meth : Method} {c : Code} {k : Nat} {a0 : Int32} {a1 : Nat} {z : HI × HJ} (C : Cx p s m args meth c RX7 cX7_fillRow 4 g (AW ad nO)) (hr : meth.sig.returnType = none) (hk : OB nO k 6) (ha1 : OB nO a1 1)  : ∀ (f : Nat) {x3 : Int32} {I : HI} {J : HJ}, fL_X7_fillRow_2 k a0 a1 f x3 I J = some z → V p l e (rmk 7 214) s m args below meth c (MQ below (QAv g ad nO oR z.1 z.2) args s 0 0 (AW ad nO)) 4 0 0 g (AW ad nO) ad nO oR I J 2 [(0, .ref (ad k)), (1, .int a0), (2, .ref (ad a1)), (3, .int x3)] [] := by
  intro f
  induction f with
  | zero =>
    intro _ _ _  h
    have h0 : (none : Option (HI × HJ)) = some z := h
    cases h0
  | succ f ih =>
    intro _ _ _  h
    exact wLB_X7_fillRow_2 C hr hk ha1 ih  h
set_option maxHeartbeats 4000000 in
set_option maxRecDepth 100000 in
theorem w_X7_fillRow {l : Launch} {g : GG} {ad : Nat → Nat} {p : Program} {e : Env} {s : State} {m : MethodId} {args : Array Value} {below : List Frame} {meth : Method} {c : Code} {k : Nat} {a0 : Int32} {a1 : Nat} {z : HI × HJ} (C : Cx p s m args meth c RX7 cX7_fillRow 4 g (AW ad nO)) (hr : meth.sig.returnType = none) (hk : OB nO k 6) (ha1 : OB nO a1 1) {I : HI} {J : HJ} (h : f_X7_fillRow k a0 a1 I J = some z) : V p l e (rmk 7 214) s m args below meth c (MQ below (QAv g ad nO oR z.1 z.2) args s 0 0 (AW ad nO)) 4 0 0 g (AW ad nO) ad nO oR I J 0 [(0, .ref (ad k)), (1, .int a0), (2, .ref (ad a1))] [] := by
  unfold f_X7_fillRow at h
  refine r_iconst C (v := 0) (by decide) dX7_fillRow_0 ?_
  refine r_istore_n C (lv1 := [(3, .int (0 : Int32)), (0, .ref (ad k)), (1, .int a0), (2, .ref (ad a1))]) rfl (by decide) rfl dX7_fillRow_1 ?_
  exact r_sub [1, 2, 3, 0] rfl (wL_X7_fillRow_2 C hr hk ha1 _  h)
set_option maxHeartbeats 4000000 in
set_option maxRecDepth 100000 in
theorem c_X7_fillRow {l : Launch} {g : GG} {ad : Nat → Nat} {k : Nat} {a0 : Int32} {a1 : Nat} {I : HI} {J : HJ} {I1 : HI} {J1 : HJ} (hk : OB nO k 6) (ha1 : OB nO a1 1) (h : f_X7_fillRow k a0 a1 I J = some (I1, J1)) : CM l yX7_fillRow cX7_fillRow 4 none (rmk 7 214) g ad nO oR [.ref (ad k), .int a0, .ref (ad a1)] I J (QAv g ad nO oR I1 J1) :=
  CM_of (by decide +kernel) (Nat.le_of_ble_eq_true rfl) (fun p e s m args below meth c C hr => w_X7_fillRow C hr hk ha1 h)
set_option maxHeartbeats 4000000 in
set_option maxRecDepth 100000 in
theorem w_X8_size {l : Launch} {g : GG} {ad : Nat → Nat} {p : Program} {e : Env} {s : State} {m : MethodId} {args : Array Value} {below : List Frame} {meth : Method} {c : Code} {z : Int32} (C : Cx p s m args meth c RX8 cX8_size 1 g (AW ad nO)) (hr : meth.sig.returnType = (some .int)) {I : HI} {J : HJ} (h : f_X8_size I J = some z) : V p l e (rmk 0 0) s m args below meth c (MQ below (QAi g ad nO oR z I J) args s 0 0 (AW ad nO)) 1 0 0 g (AW ad nO) ad nO oR I J 0 [(0, .ref (ad 59))] [] := by
  unfold f_X8_size at h
  refine r_aload_n C 0 rfl rfl dX8_size_0 ?_
  refine gf_X8_20 C o_59 dX8_size_1 ?_
  have hz9 := Option.some.inj h
  subst hz9
  exact r_iret C hr dX8_size_4
set_option maxHeartbeats 4000000 in
set_option maxRecDepth 100000 in
theorem c_X8_size {l : Launch} {g : GG} {ad : Nat → Nat} {I : HI} {J : HJ} {r : Int32} (h : f_X8_size I J = some r) : CM l yX8_size cX8_size 1 (some .int) (rmk 0 0) g ad nO oR [.ref (ad 59)] I J (QAi g ad nO oR r I J) :=
  CM_of (by decide +kernel) (Nat.le_of_ble_eq_true rfl) (fun p e s m args below meth c C hr => w_X8_size C hr h)
set_option maxHeartbeats 4000000 in
set_option maxRecDepth 100000 in
theorem wLB_X8_takeBytes_21 {l : Launch} {g : GG} {ad : Nat → Nat} {p : Program} {e : Env} {s : State} {m : MethodId} {args : Array Value} {below : List Frame} {meth : Method} {c : Code} {a0 : Int64} {a1 : Int32} {z : Int32 × HI} (C : Cx p s m args meth c RX8 cX8_takeBytes 5 g (AW ad nO)) (hr : meth.sig.returnType = (some .boolean)) {J : HJ}  {r_21 : Int32 → HI → HJ → Option (Int32 × HI)} (hr_21 : ∀ {x4 : Int32} {I : HI}, r_21 x4 I J = some z → V p l e (rmk 0 0) s m args below meth c (MQ below (QAi g ad nO oR z.1 z.2 J) args s 0 0 (AW ad nO)) 5 0 0 g (AW ad nO) ad nO oR I J 21 [(0, .ref (ad 59)), (1, .long a0), (3, .int a1), (4, .int x4)] []) {x4 : Int32} {I : HI} (h : fLB_X8_takeBytes_21 a0 a1 r_21 x4 I J = some z) : V p l e (rmk 0 0) s m args below meth c (MQ below (QAi g ad nO oR z.1 z.2 J) args s 0 0 (AW ad nO)) 5 0 0 g (AW ad nO) ad nO oR I J 21 [(0, .ref (ad 59)), (1, .long a0), (3, .int a1), (4, .int x4)] [] := by
  unfold fLB_X8_takeBytes_21 at h
  refine r_iload C 3 rfl dX8_takeBytes_21 ?_
  refine r_iload_n C 2 rfl rfl dX8_takeBytes_23 ?_
  refine r_icmp_ge C (tgt := 57) h dX8_takeBytes_24 (by decide) (fun h => ?_) (fun h => ?_)
  · refine r_aload_n C 0 rfl rfl dX8_takeBytes_57 ?_
    refine r_dup C rfl dX8_takeBytes_58 ?_
    refine gf_X8_20 C o_59 dX8_takeBytes_59 ?_
    refine r_iload_n C 2 rfl rfl dX8_takeBytes_62 ?_
    refine r_iadd C dX8_takeBytes_63 ?_
    refine r_pc (pc1 := 64) rfl ?_
    refine pf_X8_20 C o_59 dX8_takeBytes_64 ?_
    refine r_nmI h (fun I4 h => ?_)
    refine r_iconst C (v := 1) (by decide) dX8_takeBytes_67 ?_
    have hz9 := Option.some.inj h
    subst hz9
    exact r_zret C (v := (1 : Int32)) rfl hr dX8_takeBytes_68
  · refine r_aload_n C 0 rfl rfl dX8_takeBytes_27 ?_
    refine gf_X8_16 C rf0 o_59 (q := 69) rfl dX8_takeBytes_28 ?_
    refine r_aload_n C 0 rfl rfl dX8_takeBytes_31 ?_
    refine gf_X8_20 C o_59 dX8_takeBytes_32 ?_
    refine r_iload C 3 rfl dX8_takeBytes_35 ?_
    refine r_pc (pc1 := 37) rfl ?_
    refine r_iadd C dX8_takeBytes_37 ?_
    refine r_lload_n C 1 rfl rfl dX8_takeBytes_38 ?_
    refine r_bipush C (v := 8) (by decide) dX8_takeBytes_39 ?_
    refine r_iload C 3 rfl dX8_takeBytes_41 ?_
    refine r_imul C dX8_takeBytes_43 ?_
    refine r_lushr C dX8_takeBytes_44 ?_
    refine r_pc (pc1 := 45) rfl ?_
    refine r_l2i C dX8_takeBytes_45 ?_
    refine r_sipush C (v := 255) (by decide) dX8_takeBytes_46 ?_
    refine r_iand C dX8_takeBytes_49 ?_
    refine r_iast C o_69 h dX8_takeBytes_50 (fun h => ?_)
    refine r_nmI h (fun I5 h => ?_)
    refine r_iincN C h (k := 3) (zz := 1) rfl rfl (by decide) (lv1 := fun v6 => [(4, .int v6), (0, .ref (ad 59)), (1, .long a0), (3, .int a1)]) (fun _ => rfl) dX8_takeBytes_51 (fun v6 h => ?_)
    refine r_goto C (tgt := 21) dX8_takeBytes_54 (by decide) ?_
    exact r_sub [1, 2, 3, 0] rfl (hr_21  h)
set_option maxHeartbeats 4000000 in
set_option maxRecDepth 100000 in
theorem wL_X8_takeBytes_21 {l : Launch} {g : GG} {ad : Nat → Nat} {p : Program} {e : Env} {s : State} {m : MethodId} {args : Array Value} {below : List Frame} {meth : Method} {c : Code} {a0 : Int64} {a1 : Int32} {z : Int32 × HI} (C : Cx p s m args meth c RX8 cX8_takeBytes 5 g (AW ad nO)) (hr : meth.sig.returnType = (some .boolean)) {J : HJ}  : ∀ (f : Nat) {x4 : Int32} {I : HI}, fL_X8_takeBytes_21 a0 a1 f x4 I J = some z → V p l e (rmk 0 0) s m args below meth c (MQ below (QAi g ad nO oR z.1 z.2 J) args s 0 0 (AW ad nO)) 5 0 0 g (AW ad nO) ad nO oR I J 21 [(0, .ref (ad 59)), (1, .long a0), (3, .int a1), (4, .int x4)] [] := by
  intro f
  induction f with
  | zero =>
    intro _ _  h
    have h0 : (none : Option (Int32 × HI)) = some z := h
    cases h0
  | succ f ih =>
    intro _ _  h
    exact wLB_X8_takeBytes_21 C hr ih  h
set_option maxHeartbeats 4000000 in
set_option maxRecDepth 100000 in
theorem w_X8_takeBytes {l : Launch} {g : GG} {ad : Nat → Nat} {p : Program} {e : Env} {s : State} {m : MethodId} {args : Array Value} {below : List Frame} {meth : Method} {c : Code} {a0 : Int64} {a1 : Int32} {z : Int32 × HI} (C : Cx p s m args meth c RX8 cX8_takeBytes 5 g (AW ad nO)) (hr : meth.sig.returnType = (some .boolean)) {I : HI} {J : HJ} (h : f_X8_takeBytes a0 a1 I J = some z) : V p l e (rmk 0 0) s m args below meth c (MQ below (QAi g ad nO oR z.1 z.2 J) args s 0 0 (AW ad nO)) 5 0 0 g (AW ad nO) ad nO oR I J 0 [(0, .ref (ad 59)), (1, .long a0), (3, .int a1)] [] := by
  unfold f_X8_takeBytes at h
  refine r_iload_n C 2 rfl rfl dX8_takeBytes_0 ?_
  refine r_if_lt C (tgt := 16) h dX8_takeBytes_1 (by decide) (fun h => ?_) (fun h => ?_)
  · refine r_iconst C (v := 0) (by decide) dX8_takeBytes_16 ?_
    have hz9 := Option.some.inj h
    subst hz9
    exact r_zret C (v := (0 : Int32)) rfl hr dX8_takeBytes_17
  · refine r_iload_n C 2 rfl rfl dX8_takeBytes_4 ?_
    refine r_sipush C (v := 200) (by decide) dX8_takeBytes_5 ?_
    refine r_aload_n C 0 rfl rfl dX8_takeBytes_8 ?_
    refine gf_X8_20 C o_59 dX8_takeBytes_9 ?_
    refine r_isub C dX8_takeBytes_12 ?_
    refine r_pc (pc1 := 13) rfl ?_
    refine r_icmp_le C (tgt := 18) h dX8_takeBytes_13 (by decide) (fun h => ?_) (fun h => ?_)
    · refine r_iconst C (v := 0) (by decide) dX8_takeBytes_18 ?_
      refine r_istore C (lv1 := [(4, .int (0 : Int32)), (0, .ref (ad 59)), (1, .long a0), (3, .int a1)]) (by decide) rfl dX8_takeBytes_19 ?_
      exact r_sub [1, 2, 3, 0] rfl (wL_X8_takeBytes_21 C hr _  h)
    · refine r_iconst C (v := 0) (by decide) dX8_takeBytes_16 ?_
      have hz9 := Option.some.inj h
      subst hz9
      exact r_zret C (v := (0 : Int32)) rfl hr dX8_takeBytes_17
set_option maxHeartbeats 4000000 in
set_option maxRecDepth 100000 in
theorem c_X8_takeBytes {l : Launch} {g : GG} {ad : Nat → Nat} {a0 : Int64} {a1 : Int32} {I : HI} {J : HJ} {r : Int32} {I1 : HI} (h : f_X8_takeBytes a0 a1 I J = some (r, I1)) : CM l yX8_takeBytes cX8_takeBytes 5 (some .boolean) (rmk 0 0) g ad nO oR [.ref (ad 59), .long a0, .int a1] I J (QAi g ad nO oR r I1 J) :=
  CM_of (by decide +kernel) (Nat.le_of_ble_eq_true rfl) (fun p e s m args below meth c C hr => w_X8_takeBytes C hr h)
set_option maxHeartbeats 4000000 in
set_option maxRecDepth 100000 in
theorem w_X8_useUp {l : Launch} {g : GG} {ad : Nat → Nat} {p : Program} {e : Env} {s : State} {m : MethodId} {args : Array Value} {below : List Frame} {meth : Method} {c : Code} {z : HI} (C : Cx p s m args meth c RX8 cX8_useUp 1 g (AW ad nO)) (hr : meth.sig.returnType = none) {I : HI} {J : HJ} (h : f_X8_useUp I J = some z) : V p l e (rmk 0 0) s m args below meth c (MQ below (QAv g ad nO oR z J) args s 0 0 (AW ad nO)) 1 0 0 g (AW ad nO) ad nO oR I J 0 [(0, .ref (ad 59))] [] := by
  unfold f_X8_useUp at h
  refine r_aload_n C 0 rfl rfl dX8_useUp_0 ?_
  refine r_iconst C (v := 0) (by decide) dX8_useUp_1 ?_
  refine pf_X8_20 C o_59 dX8_useUp_2 ?_
  refine r_nmI h (fun I2 h => ?_)
  have hz9 := Option.some.inj h
  subst hz9
  exact r_vret C hr dX8_useUp_5
set_option maxHeartbeats 4000000 in
set_option maxRecDepth 100000 in
theorem c_X8_useUp {l : Launch} {g : GG} {ad : Nat → Nat} {I : HI} {J : HJ} {I1 : HI} (h : f_X8_useUp I J = some I1) : CM l yX8_useUp cX8_useUp 1 none (rmk 0 0) g ad nO oR [.ref (ad 59)] I J (QAv g ad nO oR I1 J) :=
  CM_of (by decide +kernel) (Nat.le_of_ble_eq_true rfl) (fun p e s m args below meth c C hr => w_X8_useUp C hr h)
set_option maxHeartbeats 4000000 in
set_option maxRecDepth 100000 in
theorem w_X8_faultPlace {l : Launch} {g : GG} {ad : Nat → Nat} {p : Program} {e : Env} {s : State} {m : MethodId} {args : Array Value} {below : List Frame} {meth : Method} {c : Code} {z : Int32} (C : Cx p s m args meth c RX8 cX8_faultPlace 1 g (AW ad nO)) (hr : meth.sig.returnType = (some .int)) {I : HI} {J : HJ} (h : f_X8_faultPlace I J = some z) : V p l e (rmk 0 0) s m args below meth c (MQ below (QAi g ad nO oR z I J) args s 0 0 (AW ad nO)) 1 0 0 g (AW ad nO) ad nO oR I J 0 [(0, .ref (ad 59))] [] := by
  unfold f_X8_faultPlace at h
  refine r_aload_n C 0 rfl rfl dX8_faultPlace_0 ?_
  refine gf_X8_24 C o_59 dX8_faultPlace_1 ?_
  have hz9 := Option.some.inj h
  subst hz9
  exact r_iret C hr dX8_faultPlace_4
set_option maxHeartbeats 4000000 in
set_option maxRecDepth 100000 in
theorem c_X8_faultPlace {l : Launch} {g : GG} {ad : Nat → Nat} {I : HI} {J : HJ} {r : Int32} (h : f_X8_faultPlace I J = some r) : CM l yX8_faultPlace cX8_faultPlace 1 (some .int) (rmk 0 0) g ad nO oR [.ref (ad 59)] I J (QAi g ad nO oR r I J) :=
  CM_of (by decide +kernel) (Nat.le_of_ble_eq_true rfl) (fun p e s m args below meth c C hr => w_X8_faultPlace C hr h)
set_option maxHeartbeats 4000000 in
set_option maxRecDepth 100000 in
theorem w_X8_isLetter {l : Launch} {g : GG} {ad : Nat → Nat} {p : Program} {e : Env} {s : State} {m : MethodId} {args : Array Value} {below : List Frame} {meth : Method} {c : Code} {a0 : Int32} {z : Int32} (C : Cx p s m args meth c RX8 cX8_isLetter 1 g (AW ad nO)) (hr : meth.sig.returnType = (some .boolean)) {I : HI} {J : HJ} (h : f_X8_isLetter a0 = some z) : V p l e (rmk 0 0) s m args below meth c (MQ below (QAi g ad nO oR z I J) args s 0 0 (AW ad nO)) 1 0 0 g (AW ad nO) ad nO oR I J 0 [(0, .int a0)] [] := by
  unfold f_X8_isLetter at h
  refine r_iload_n C 0 rfl rfl dX8_isLetter_0 ?_
  refine r_bipush C (v := 97) (by decide) dX8_isLetter_1 ?_
  refine r_icmp_lt C (tgt := 16) h dX8_isLetter_3 (by decide) (fun h => ?_) (fun h => ?_)
  · refine r_iconst C (v := 0) (by decide) dX8_isLetter_16 ?_
    have hz9 := Option.some.inj h
    subst hz9
    exact r_zret C (v := (0 : Int32)) rfl hr dX8_isLetter_17
  · refine r_iload_n C 0 rfl rfl dX8_isLetter_6 ?_
    refine r_bipush C (v := 122) (by decide) dX8_isLetter_7 ?_
    refine r_icmp_gt C (tgt := 16) h dX8_isLetter_9 (by decide) (fun h => ?_) (fun h => ?_)
    · refine r_iconst C (v := 0) (by decide) dX8_isLetter_16 ?_
      have hz9 := Option.some.inj h
      subst hz9
      exact r_zret C (v := (0 : Int32)) rfl hr dX8_isLetter_17
    · refine r_iconst C (v := 1) (by decide) dX8_isLetter_12 ?_
      refine r_goto C (tgt := 17) dX8_isLetter_13 (by decide) ?_
      have hz9 := Option.some.inj h
      subst hz9
      exact r_zret C (v := (1 : Int32)) rfl hr dX8_isLetter_17
set_option maxHeartbeats 4000000 in
set_option maxRecDepth 100000 in
theorem c_X8_isLetter {l : Launch} {g : GG} {ad : Nat → Nat} {a0 : Int32} {I : HI} {J : HJ} {r : Int32} (h : f_X8_isLetter a0 = some r) : CM l yX8_isLetter cX8_isLetter 1 (some .boolean) (rmk 0 0) g ad nO oR [.int a0] I J (QAi g ad nO oR r I J) :=
  CM_of (by decide +kernel) (Nat.le_of_ble_eq_true rfl) (fun p e s m args below meth c C hr => w_X8_isLetter C hr h)
set_option maxHeartbeats 4000000 in
set_option maxRecDepth 100000 in
theorem w_X8_isDigit {l : Launch} {g : GG} {ad : Nat → Nat} {p : Program} {e : Env} {s : State} {m : MethodId} {args : Array Value} {below : List Frame} {meth : Method} {c : Code} {a0 : Int32} {z : Int32} (C : Cx p s m args meth c RX8 cX8_isDigit 1 g (AW ad nO)) (hr : meth.sig.returnType = (some .boolean)) {I : HI} {J : HJ} (h : f_X8_isDigit a0 = some z) : V p l e (rmk 0 0) s m args below meth c (MQ below (QAi g ad nO oR z I J) args s 0 0 (AW ad nO)) 1 0 0 g (AW ad nO) ad nO oR I J 0 [(0, .int a0)] [] := by
  unfold f_X8_isDigit at h
  refine r_iload_n C 0 rfl rfl dX8_isDigit_0 ?_
  refine r_bipush C (v := 48) (by decide) dX8_isDigit_1 ?_
  refine r_icmp_lt C (tgt := 16) h dX8_isDigit_3 (by decide) (fun h => ?_) (fun h => ?_)
  · refine r_iconst C (v := 0) (by decide) dX8_isDigit_16 ?_
    have hz9 := Option.some.inj h
    subst hz9
    exact r_zret C (v := (0 : Int32)) rfl hr dX8_isDigit_17
  · refine r_iload_n C 0 rfl rfl dX8_isDigit_6 ?_
    refine r_bipush C (v := 57) (by decide) dX8_isDigit_7 ?_
    refine r_icmp_gt C (tgt := 16) h dX8_isDigit_9 (by decide) (fun h => ?_) (fun h => ?_)
    · refine r_iconst C (v := 0) (by decide) dX8_isDigit_16 ?_
      have hz9 := Option.some.inj h
      subst hz9
      exact r_zret C (v := (0 : Int32)) rfl hr dX8_isDigit_17
    · refine r_iconst C (v := 1) (by decide) dX8_isDigit_12 ?_
      refine r_goto C (tgt := 17) dX8_isDigit_13 (by decide) ?_
      have hz9 := Option.some.inj h
      subst hz9
      exact r_zret C (v := (1 : Int32)) rfl hr dX8_isDigit_17
set_option maxHeartbeats 4000000 in
set_option maxRecDepth 100000 in
theorem c_X8_isDigit {l : Launch} {g : GG} {ad : Nat → Nat} {a0 : Int32} {I : HI} {J : HJ} {r : Int32} (h : f_X8_isDigit a0 = some r) : CM l yX8_isDigit cX8_isDigit 1 (some .boolean) (rmk 0 0) g ad nO oR [.int a0] I J (QAi g ad nO oR r I J) :=
  CM_of (by decide +kernel) (Nat.le_of_ble_eq_true rfl) (fun p e s m args below meth c C hr => w_X8_isDigit C hr h)
set_option maxHeartbeats 4000000 in
set_option maxRecDepth 100000 in
theorem wB_X8_goToNext_84 {l : Launch} {g : GG} {ad : Nat → Nat} {p : Program} {e : Env} {s : State} {m : MethodId} {args : Array Value} {below : List Frame} {meth : Method} {c : Code} {z : HI} (C : Cx p s m args meth c RX8 cX8_goToNext 2 g (AW ad nO)) (hr : meth.sig.returnType = none) {J : HJ}  {I : HI} (h : fB_X8_goToNext_84 I J = some z) : V p l e (rmk 1 20) s m args below meth c (MQ below (QAv g ad nO oR z J) args s 0 0 (AW ad nO)) 2 0 0 g (AW ad nO) ad nO oR I J 84 [(0, .ref (ad 59))] [] := by
  unfold fB_X8_goToNext_84 at h
  refine r_aload_n C 0 rfl rfl dX8_goToNext_84 ?_
  refine r_sipush C (v := 256) (by decide) dX8_goToNext_85 ?_
  refine pf_X8_36 C o_59 dX8_goToNext_88 ?_
  refine r_nmI h (fun I20 h => ?_)
  refine r_aload_n C 0 rfl rfl dX8_goToNext_91 ?_
  refine r_aload_n C 0 rfl rfl dX8_goToNext_92 ?_
  refine gf_X8_24 C o_59 dX8_goToNext_93 ?_
  refine pf_X8_30 C o_59 dX8_goToNext_96 ?_
  refine r_nmI h (fun I21 h => ?_)
  have hz9 := Option.some.inj h
  subst hz9
  exact r_vret C hr dX8_goToNext_99
set_option maxHeartbeats 4000000 in
set_option maxRecDepth 100000 in
theorem wLB_X8_goToNext_197 {l : Launch} {g : GG} {ad : Nat → Nat} {p : Program} {e : Env} {s : State} {m : MethodId} {args : Array Value} {below : List Frame} {meth : Method} {c : Code} {z : HI} (C : Cx p s m args meth c RX8 cX8_goToNext 2 g (AW ad nO)) (hr : meth.sig.returnType = none) {J : HJ}  {r_197 : HI → HJ → Option (HI)} (hr_197 : ∀ {I : HI}, r_197 I J = some z → V p l e (rmk 1 20) s m args below meth c (MQ below (QAv g ad nO oR z J) args s 0 0 (AW ad nO)) 2 0 0 g (AW ad nO) ad nO oR I J 197 [(0, .ref (ad 59))] []) {I : HI} (h : fLB_X8_goToNext_197 r_197 I J = some z) : V p l e (rmk 1 20) s m args below meth c (MQ below (QAv g ad nO oR z J) args s 0 0 (AW ad nO)) 2 0 0 g (AW ad nO) ad nO oR I J 197 [(0, .ref (ad 59))] [] := by
  unfold fLB_X8_goToNext_197 at h
  refine r_aload_n C 0 rfl rfl dX8_goToNext_197 ?_
  refine gf_X8_30 C o_59 dX8_goToNext_198 ?_
  refine r_aload_n C 0 rfl rfl dX8_goToNext_201 ?_
  refine gf_X8_20 C o_59 dX8_goToNext_202 ?_
  refine r_icmp_ge C (tgt := 251) h dX8_goToNext_205 (by decide) (fun h => ?_) (fun h => ?_)
  · have hz9 := Option.some.inj h
    subst hz9
    exact r_vret C hr dX8_goToNext_251
  · refine r_aload_n C 0 rfl rfl dX8_goToNext_208 ?_
    refine gf_X8_30 C o_59 dX8_goToNext_209 ?_
    refine r_sipush C (v := 200) (by decide) dX8_goToNext_212 ?_
    refine r_icmp_ge C (tgt := 251) h dX8_goToNext_215 (by decide) (fun h => ?_) (fun h => ?_)
    · have hz9 := Option.some.inj h
      subst hz9
      exact r_vret C hr dX8_goToNext_251
    · refine r_aload_n C 0 rfl rfl dX8_goToNext_218 ?_
      refine gf_X8_16 C rf0 o_59 (q := 69) rfl dX8_goToNext_219 ?_
      refine r_aload_n C 0 rfl rfl dX8_goToNext_222 ?_
      refine gf_X8_30 C o_59 dX8_goToNext_223 ?_
      refine r_iald C o_69 h dX8_goToNext_226 (fun h => ?_)
      obtain ⟨r22, hq23, h⟩ := bd1_ h
      refine r_csi C (rest := []) (c_X8_isDigit  hq23) fm_X8_isDigit lk_X8_89 rfl ⟨rfl, rfl, Nat.le_of_ble_eq_true rfl, Nat.le_of_ble_eq_true rfl⟩ (Nat.le_of_ble_eq_true rfl) rfl dX8_goToNext_227 ?_
      refine r_if_eq C (tgt := 251) h dX8_goToNext_230 (by decide) (fun h => ?_) (fun h => ?_)
      · have hz9 := Option.some.inj h
        subst hz9
        exact r_vret C hr dX8_goToNext_251
      · refine r_aload_n C 0 rfl rfl dX8_goToNext_233 ?_
        refine r_dup C rfl dX8_goToNext_234 ?_
        refine gf_X8_30 C o_59 dX8_goToNext_235 ?_
        refine r_iconst C (v := 1) (by decide) dX8_goToNext_238 ?_
        refine r_iadd C dX8_goToNext_239 ?_
        refine r_pc (pc1 := 240) rfl ?_
        refine pf_X8_30 C o_59 dX8_goToNext_240 ?_
        refine r_nmI h (fun I24 h => ?_)
        refine r_goto C (tgt := 197) dX8_goToNext_243 (by decide) ?_
        exact hr_197  h
set_option maxHeartbeats 4000000 in
set_option maxRecDepth 100000 in
theorem wL_X8_goToNext_197 {l : Launch} {g : GG} {ad : Nat → Nat} {p : Program} {e : Env} {s : State} {m : MethodId} {args : Array Value} {below : List Frame} {meth : Method} {c : Code} {z : HI} (C : Cx p s m args meth c RX8 cX8_goToNext 2 g (AW ad nO)) (hr : meth.sig.returnType = none) {J : HJ}  : ∀ (f : Nat) {I : HI}, fL_X8_goToNext_197 f I J = some z → V p l e (rmk 1 20) s m args below meth c (MQ below (QAv g ad nO oR z J) args s 0 0 (AW ad nO)) 2 0 0 g (AW ad nO) ad nO oR I J 197 [(0, .ref (ad 59))] [] := by
  intro f
  induction f with
  | zero =>
    intro _  h
    have h0 : (none : Option (HI)) = some z := h
    cases h0
  | succ f ih =>
    intro _  h
    exact wLB_X8_goToNext_197 C hr ih  h
set_option maxHeartbeats 4000000 in
set_option maxRecDepth 100000 in
theorem wLB_X8_goToNext_134 {l : Launch} {g : GG} {ad : Nat → Nat} {p : Program} {e : Env} {s : State} {m : MethodId} {args : Array Value} {below : List Frame} {meth : Method} {c : Code} {z : HI} (C : Cx p s m args meth c RX8 cX8_goToNext 2 g (AW ad nO)) (hr : meth.sig.returnType = none) {J : HJ}  {r_134 : HI → HJ → Option (HI)} (hr_134 : ∀ {I : HI}, r_134 I J = some z → V p l e (rmk 1 20) s m args below meth c (MQ below (QAv g ad nO oR z J) args s 0 0 (AW ad nO)) 2 0 0 g (AW ad nO) ad nO oR I J 134 [(0, .ref (ad 59))] []) {I : HI} (h : fLB_X8_goToNext_134 r_134 I J = some z) : V p l e (rmk 1 20) s m args below meth c (MQ below (QAv g ad nO oR z J) args s 0 0 (AW ad nO)) 2 0 0 g (AW ad nO) ad nO oR I J 134 [(0, .ref (ad 59))] [] := by
  unfold fLB_X8_goToNext_134 at h
  refine r_aload_n C 0 rfl rfl dX8_goToNext_134 ?_
  refine gf_X8_30 C o_59 dX8_goToNext_135 ?_
  refine r_aload_n C 0 rfl rfl dX8_goToNext_138 ?_
  refine gf_X8_20 C o_59 dX8_goToNext_139 ?_
  refine r_icmp_ge C (tgt := 251) h dX8_goToNext_142 (by decide) (fun h => ?_) (fun h => ?_)
  · have hz9 := Option.some.inj h
    subst hz9
    exact r_vret C hr dX8_goToNext_251
  · refine r_aload_n C 0 rfl rfl dX8_goToNext_145 ?_
    refine gf_X8_30 C o_59 dX8_goToNext_146 ?_
    refine r_sipush C (v := 200) (by decide) dX8_goToNext_149 ?_
    refine r_icmp_ge C (tgt := 251) h dX8_goToNext_152 (by decide) (fun h => ?_) (fun h => ?_)
    · have hz9 := Option.some.inj h
      subst hz9
      exact r_vret C hr dX8_goToNext_251
    · refine r_aload_n C 0 rfl rfl dX8_goToNext_155 ?_
      refine gf_X8_16 C rf0 o_59 (q := 69) rfl dX8_goToNext_156 ?_
      refine r_aload_n C 0 rfl rfl dX8_goToNext_159 ?_
      refine gf_X8_30 C o_59 dX8_goToNext_160 ?_
      refine r_iald C o_69 h dX8_goToNext_163 (fun h => ?_)
      obtain ⟨r25, hq26, h⟩ := bd1_ h
      refine r_csi C (rest := []) (c_X8_isLetter  hq26) fm_X8_isLetter lk_X8_86 rfl ⟨rfl, rfl, Nat.le_of_ble_eq_true rfl, Nat.le_of_ble_eq_true rfl⟩ (Nat.le_of_ble_eq_true rfl) rfl dX8_goToNext_164 ?_
      refine r_if_eq C (tgt := 251) h dX8_goToNext_167 (by decide) (fun h => ?_) (fun h => ?_)
      · have hz9 := Option.some.inj h
        subst hz9
        exact r_vret C hr dX8_goToNext_251
      · refine r_aload_n C 0 rfl rfl dX8_goToNext_170 ?_
        refine r_dup C rfl dX8_goToNext_171 ?_
        refine gf_X8_30 C o_59 dX8_goToNext_172 ?_
        refine r_iconst C (v := 1) (by decide) dX8_goToNext_175 ?_
        refine r_iadd C dX8_goToNext_176 ?_
        refine r_pc (pc1 := 177) rfl ?_
        refine pf_X8_30 C o_59 dX8_goToNext_177 ?_
        refine r_nmI h (fun I27 h => ?_)
        refine r_goto C (tgt := 134) dX8_goToNext_180 (by decide) ?_
        exact hr_134  h
set_option maxHeartbeats 4000000 in
set_option maxRecDepth 100000 in
theorem wL_X8_goToNext_134 {l : Launch} {g : GG} {ad : Nat → Nat} {p : Program} {e : Env} {s : State} {m : MethodId} {args : Array Value} {below : List Frame} {meth : Method} {c : Code} {z : HI} (C : Cx p s m args meth c RX8 cX8_goToNext 2 g (AW ad nO)) (hr : meth.sig.returnType = none) {J : HJ}  : ∀ (f : Nat) {I : HI}, fL_X8_goToNext_134 f I J = some z → V p l e (rmk 1 20) s m args below meth c (MQ below (QAv g ad nO oR z J) args s 0 0 (AW ad nO)) 2 0 0 g (AW ad nO) ad nO oR I J 134 [(0, .ref (ad 59))] [] := by
  intro f
  induction f with
  | zero =>
    intro _  h
    have h0 : (none : Option (HI)) = some z := h
    cases h0
  | succ f ih =>
    intro _  h
    exact wLB_X8_goToNext_134 C hr ih  h
set_option maxHeartbeats 4000000 in
set_option maxRecDepth 100000 in
theorem wB_X8_goToNext_56 {l : Launch} {g : GG} {ad : Nat → Nat} {p : Program} {e : Env} {s : State} {m : MethodId} {args : Array Value} {below : List Frame} {meth : Method} {c : Code} {z : HI} (C : Cx p s m args meth c RX8 cX8_goToNext 2 g (AW ad nO)) (hr : meth.sig.returnType = none) {J : HJ}  {I : HI} (h : fB_X8_goToNext_56 I J = some z) : V p l e (rmk 1 20) s m args below meth c (MQ below (QAv g ad nO oR z J) args s 0 0 (AW ad nO)) 2 0 0 g (AW ad nO) ad nO oR I J 56 [(0, .ref (ad 59))] [] := by
  unfold fB_X8_goToNext_56 at h
  refine r_aload_n C 0 rfl rfl dX8_goToNext_56 ?_
  refine gf_X8_24 C o_59 dX8_goToNext_57 ?_
  refine r_if_lt C (tgt := 84) h dX8_goToNext_60 (by decide) (fun h => ?_) (fun h => ?_)
  · exact wB_X8_goToNext_84 C hr  h
  · refine r_aload_n C 0 rfl rfl dX8_goToNext_63 ?_
    refine gf_X8_24 C o_59 dX8_goToNext_64 ?_
    refine r_aload_n C 0 rfl rfl dX8_goToNext_67 ?_
    refine gf_X8_20 C o_59 dX8_goToNext_68 ?_
    refine r_icmp_ge C (tgt := 84) h dX8_goToNext_71 (by decide) (fun h => ?_) (fun h => ?_)
    · exact wB_X8_goToNext_84 C hr  h
    · refine r_aload_n C 0 rfl rfl dX8_goToNext_74 ?_
      refine gf_X8_24 C o_59 dX8_goToNext_75 ?_
      refine r_sipush C (v := 200) (by decide) dX8_goToNext_78 ?_
      refine r_icmp_lt C (tgt := 100) h dX8_goToNext_81 (by decide) (fun h => ?_) (fun h => ?_)
      · refine r_aload_n C 0 rfl rfl dX8_goToNext_100 ?_
        refine gf_X8_16 C rf0 o_59 (q := 69) rfl dX8_goToNext_101 ?_
        refine r_aload_n C 0 rfl rfl dX8_goToNext_104 ?_
        refine gf_X8_24 C o_59 dX8_goToNext_105 ?_
        refine r_iald C o_69 h dX8_goToNext_108 (fun h => ?_)
        refine r_nmi h (fun v28 h => ?_)
        refine r_istore_n C (lv1 := [(1, .int v28), (0, .ref (ad 59))]) rfl (by decide) rfl dX8_goToNext_109 ?_
        refine r_aload_n C 1 rfl rfl dX8_goToNext_110 ?_
        refine r_aload_n C 1 rfl rfl dX8_goToNext_111 ?_
        refine gf_X8_24 C o_59 dX8_goToNext_112 ?_
        refine r_iconst C (v := 1) (by decide) dX8_goToNext_115 ?_
        refine r_iadd C dX8_goToNext_116 ?_
        refine r_pc (pc1 := 117) rfl ?_
        refine pf_X8_30 C o_59 dX8_goToNext_117 ?_
        refine r_nmI h (fun I29 h => ?_)
        refine r_iload_n C 0 rfl rfl dX8_goToNext_120 ?_
        obtain ⟨r30, hq31, h⟩ := bd1_ h
        refine r_csi C (rest := []) (c_X8_isLetter  hq31) fm_X8_isLetter lk_X8_86 rfl ⟨rfl, rfl, Nat.le_of_ble_eq_true rfl, Nat.le_of_ble_eq_true rfl⟩ (Nat.le_of_ble_eq_true rfl) rfl dX8_goToNext_121 ?_
        refine r_if_eq C (tgt := 183) h dX8_goToNext_124 (by decide) (fun h => ?_) (fun h => ?_)
        · refine r_iload_n C 0 rfl rfl dX8_goToNext_183 ?_
          obtain ⟨r32, hq33, h⟩ := bd1_ h
          refine r_csi C (rest := []) (c_X8_isDigit  hq33) fm_X8_isDigit lk_X8_89 rfl ⟨rfl, rfl, Nat.le_of_ble_eq_true rfl, Nat.le_of_ble_eq_true rfl⟩ (Nat.le_of_ble_eq_true rfl) rfl dX8_goToNext_184 ?_
          refine r_if_eq C (tgt := 246) h dX8_goToNext_187 (by decide) (fun h => ?_) (fun h => ?_)
          · refine r_aload_n C 1 rfl rfl dX8_goToNext_246 ?_
            refine r_iload_n C 0 rfl rfl dX8_goToNext_247 ?_
            refine pf_X8_36 C o_59 dX8_goToNext_248 ?_
            refine r_nmI h (fun I34 h => ?_)
            have hz9 := Option.some.inj h
            subst hz9
            exact r_vret C hr dX8_goToNext_251
          · refine r_aload_n C 1 rfl rfl dX8_goToNext_190 ?_
            refine r_sipush C (v := 258) (by decide) dX8_goToNext_191 ?_
            refine pf_X8_36 C o_59 dX8_goToNext_194 ?_
            refine r_nmI h (fun I35 h => ?_)
            exact r_sub [1] rfl (wL_X8_goToNext_197 C hr _  h)
        · refine r_aload_n C 1 rfl rfl dX8_goToNext_127 ?_
          refine r_sipush C (v := 257) (by decide) dX8_goToNext_128 ?_
          refine pf_X8_36 C o_59 dX8_goToNext_131 ?_
          refine r_nmI h (fun I36 h => ?_)
          exact r_sub [1] rfl (wL_X8_goToNext_134 C hr _  h)
      · exact wB_X8_goToNext_84 C hr  h
set_option maxHeartbeats 4000000 in
set_option maxRecDepth 100000 in
theorem wLB_X8_goToNext_8 {l : Launch} {g : GG} {ad : Nat → Nat} {p : Program} {e : Env} {s : State} {m : MethodId} {args : Array Value} {below : List Frame} {meth : Method} {c : Code} {z : HI} (C : Cx p s m args meth c RX8 cX8_goToNext 2 g (AW ad nO)) (hr : meth.sig.returnType = none) {J : HJ}  {r_8 : HI → HJ → Option (HI)} (hr_8 : ∀ {I : HI}, r_8 I J = some z → V p l e (rmk 1 20) s m args below meth c (MQ below (QAv g ad nO oR z J) args s 0 0 (AW ad nO)) 2 0 0 g (AW ad nO) ad nO oR I J 8 [(0, .ref (ad 59))] []) {I : HI} (h : fLB_X8_goToNext_8 r_8 I J = some z) : V p l e (rmk 1 20) s m args below meth c (MQ below (QAv g ad nO oR z J) args s 0 0 (AW ad nO)) 2 0 0 g (AW ad nO) ad nO oR I J 8 [(0, .ref (ad 59))] [] := by
  unfold fLB_X8_goToNext_8 at h
  refine r_aload_n C 0 rfl rfl dX8_goToNext_8 ?_
  refine gf_X8_24 C o_59 dX8_goToNext_9 ?_
  refine r_aload_n C 0 rfl rfl dX8_goToNext_12 ?_
  refine gf_X8_20 C o_59 dX8_goToNext_13 ?_
  refine r_icmp_ge C (tgt := 56) h dX8_goToNext_16 (by decide) (fun h => ?_) (fun h => ?_)
  · exact wB_X8_goToNext_56 C hr  h
  · refine r_aload_n C 0 rfl rfl dX8_goToNext_19 ?_
    refine gf_X8_24 C o_59 dX8_goToNext_20 ?_
    refine r_sipush C (v := 200) (by decide) dX8_goToNext_23 ?_
    refine r_icmp_ge C (tgt := 56) h dX8_goToNext_26 (by decide) (fun h => ?_) (fun h => ?_)
    · exact wB_X8_goToNext_56 C hr  h
    · refine r_aload_n C 0 rfl rfl dX8_goToNext_29 ?_
      refine gf_X8_16 C rf0 o_59 (q := 69) rfl dX8_goToNext_30 ?_
      refine r_aload_n C 0 rfl rfl dX8_goToNext_33 ?_
      refine gf_X8_24 C o_59 dX8_goToNext_34 ?_
      refine r_iald C o_69 h dX8_goToNext_37 (fun h => ?_)
      refine r_bipush C (v := 32) (by decide) dX8_goToNext_38 ?_
      refine r_icmp_ne C (tgt := 56) h dX8_goToNext_40 (by decide) (fun h => ?_) (fun h => ?_)
      · exact wB_X8_goToNext_56 C hr  h
      · refine r_aload_n C 0 rfl rfl dX8_goToNext_43 ?_
        refine r_dup C rfl dX8_goToNext_44 ?_
        refine gf_X8_24 C o_59 dX8_goToNext_45 ?_
        refine r_iconst C (v := 1) (by decide) dX8_goToNext_48 ?_
        refine r_iadd C dX8_goToNext_49 ?_
        refine r_pc (pc1 := 50) rfl ?_
        refine pf_X8_24 C o_59 dX8_goToNext_50 ?_
        refine r_nmI h (fun I37 h => ?_)
        refine r_goto C (tgt := 8) dX8_goToNext_53 (by decide) ?_
        exact hr_8  h
set_option maxHeartbeats 4000000 in
set_option maxRecDepth 100000 in
theorem wL_X8_goToNext_8 {l : Launch} {g : GG} {ad : Nat → Nat} {p : Program} {e : Env} {s : State} {m : MethodId} {args : Array Value} {below : List Frame} {meth : Method} {c : Code} {z : HI} (C : Cx p s m args meth c RX8 cX8_goToNext 2 g (AW ad nO)) (hr : meth.sig.returnType = none) {J : HJ}  : ∀ (f : Nat) {I : HI}, fL_X8_goToNext_8 f I J = some z → V p l e (rmk 1 20) s m args below meth c (MQ below (QAv g ad nO oR z J) args s 0 0 (AW ad nO)) 2 0 0 g (AW ad nO) ad nO oR I J 8 [(0, .ref (ad 59))] [] := by
  intro f
  induction f with
  | zero =>
    intro _  h
    have h0 : (none : Option (HI)) = some z := h
    cases h0
  | succ f ih =>
    intro _  h
    exact wLB_X8_goToNext_8 C hr ih  h
set_option maxHeartbeats 4000000 in
set_option maxRecDepth 100000 in
theorem w_X8_goToNext {l : Launch} {g : GG} {ad : Nat → Nat} {p : Program} {e : Env} {s : State} {m : MethodId} {args : Array Value} {below : List Frame} {meth : Method} {c : Code} {z : HI} (C : Cx p s m args meth c RX8 cX8_goToNext 2 g (AW ad nO)) (hr : meth.sig.returnType = none) {I : HI} {J : HJ} (h : f_X8_goToNext I J = some z) : V p l e (rmk 1 20) s m args below meth c (MQ below (QAv g ad nO oR z J) args s 0 0 (AW ad nO)) 2 0 0 g (AW ad nO) ad nO oR I J 0 [(0, .ref (ad 59))] [] := by
  unfold f_X8_goToNext at h
  refine r_aload_n C 0 rfl rfl dX8_goToNext_0 ?_
  refine r_aload_n C 0 rfl rfl dX8_goToNext_1 ?_
  refine gf_X8_30 C o_59 dX8_goToNext_2 ?_
  refine pf_X8_24 C o_59 dX8_goToNext_5 ?_
  refine r_nmI h (fun I38 h => ?_)
  exact wL_X8_goToNext_8 C hr _  h
set_option maxHeartbeats 4000000 in
set_option maxRecDepth 100000 in
theorem c_X8_goToNext {l : Launch} {g : GG} {ad : Nat → Nat} {I : HI} {J : HJ} {I1 : HI} (h : f_X8_goToNext I J = some I1) : CM l yX8_goToNext cX8_goToNext 2 none (rmk 1 20) g ad nO oR [.ref (ad 59)] I J (QAv g ad nO oR I1 J) :=
  CM_of (by decide +kernel) (Nat.le_of_ble_eq_true rfl) (fun p e s m args below meth c C hr => w_X8_goToNext C hr h)
set_option maxHeartbeats 4000000 in
set_option maxRecDepth 100000 in
theorem wB_X8_placeAmong_123 {l : Launch} {g : GG} {ad : Nat → Nat} {p : Program} {e : Env} {s : State} {m : MethodId} {args : Array Value} {below : List Frame} {meth : Method} {c : Code} {a0 : Nat} {z : Int32} (C : Cx p s m args meth c RX8 cX8_placeAmong 7 g (AW ad nO)) (hr : meth.sig.returnType = (some .int)) (ha0 : a0 < 2) {r_25 : Int32 → Int32 → Int32 → Int32 → HI → HJ → Option (Int32)} {I : HI} {J : HJ} (hr_25 : ∀ {x2 : Int32} {x3 : Int32} {x4 : Int32} {x5 : Int32}, r_25 x2 x3 x4 x5 I J = some z → V p l e (rmk 4 150) s m args below meth c (MQ below (QAi g ad nO oR z I J) args s 0 0 (AW ad nO)) 7 0 0 g (AW ad nO) ad nO oR I J 25 [(0, .ref (ad 59)), (1, .ref (g.2.2.2.1 a0)), (2, .int x2), (3, .int x3), (4, .int x4), (5, .int x5)] []) {x2 : Int32} {x3 : Int32} {x4 : Int32} {x5 : Int32} (h : fB_X8_placeAmong_123 a0 r_25 x2 x3 x4 x5 I J = some z) : V p l e (rmk 4 150) s m args below meth c (MQ below (QAi g ad nO oR z I J) args s 0 0 (AW ad nO)) 7 0 0 g (AW ad nO) ad nO oR I J 123 [(0, .ref (ad 59)), (1, .ref (g.2.2.2.1 a0)), (2, .int x2), (3, .int x3), (4, .int x4), (5, .int x5)] [] := by
  unfold fB_X8_placeAmong_123 at h
  refine r_iincN C h (k := 5) (zz := 1) rfl rfl (by decide) (lv1 := fun v7 => [(5, .int v7), (0, .ref (ad 59)), (1, .ref (g.2.2.2.1 a0)), (2, .int x2), (3, .int x3), (4, .int x4)]) (fun _ => rfl) dX8_placeAmong_123 (fun v7 h => ?_)
  refine r_goto C (tgt := 25) dX8_placeAmong_126 (by decide) ?_
  exact r_sub [1, 2, 3, 4, 5, 0] rfl (hr_25  h)
set_option maxHeartbeats 4000000 in
set_option maxRecDepth 100000 in
theorem wB_X8_placeAmong_112 {l : Launch} {g : GG} {ad : Nat → Nat} {p : Program} {e : Env} {s : State} {m : MethodId} {args : Array Value} {below : List Frame} {meth : Method} {c : Code} {a0 : Nat} {z : Int32} (C : Cx p s m args meth c RX8 cX8_placeAmong 7 g (AW ad nO)) (hr : meth.sig.returnType = (some .int)) (ha0 : a0 < 2) {r_25 : Int32 → Int32 → Int32 → Int32 → HI → HJ → Option (Int32)} {I : HI} {J : HJ} (hr_25 : ∀ {x2 : Int32} {x3 : Int32} {x4 : Int32} {x5 : Int32}, r_25 x2 x3 x4 x5 I J = some z → V p l e (rmk 4 150) s m args below meth c (MQ below (QAi g ad nO oR z I J) args s 0 0 (AW ad nO)) 7 0 0 g (AW ad nO) ad nO oR I J 25 [(0, .ref (ad 59)), (1, .ref (g.2.2.2.1 a0)), (2, .int x2), (3, .int x3), (4, .int x4), (5, .int x5)] []) {x2 : Int32} {x5 : Int32} (h : fB_X8_placeAmong_112 a0 r_25 x2 x5 I J = some z) : V p l e (rmk 4 150) s m args below meth c (MQ below (QAi g ad nO oR z I J) args s 0 0 (AW ad nO)) 7 0 0 g (AW ad nO) ad nO oR I J 112 [(0, .ref (ad 59)), (1, .ref (g.2.2.2.1 a0)), (2, .int x2), (5, .int x5)] [] := by
  unfold fB_X8_placeAmong_112 at h
  refine r_iincN C h (k := 2) (zz := 1) rfl rfl (by decide) (lv1 := fun v8 => [(2, .int v8), (0, .ref (ad 59)), (1, .ref (g.2.2.2.1 a0)), (5, .int x5)]) (fun _ => rfl) dX8_placeAmong_112 (fun v8 h => ?_)
  refine r_aload_n C 1 rfl rfl dX8_placeAmong_115 ?_
  refine gf_X8_24 C o_59 dX8_placeAmong_116 ?_
  refine r_nmi h (fun v9 h => ?_)
  refine r_istore_n C (lv1 := [(3, .int v9), (2, .int v8), (0, .ref (ad 59)), (1, .ref (g.2.2.2.1 a0)), (5, .int x5)]) rfl (by decide) rfl dX8_placeAmong_119 ?_
  refine r_iconst C (v := 1) (by decide) dX8_placeAmong_120 ?_
  refine r_istore C (lv1 := [(4, .int (1 : Int32)), (3, .int v9), (2, .int v8), (0, .ref (ad 59)), (1, .ref (g.2.2.2.1 a0)), (5, .int x5)]) (by decide) rfl dX8_placeAmong_121 ?_
  exact r_sub [3, 4, 2, 1, 0, 5] rfl (wB_X8_placeAmong_123 C hr ha0 hr_25  h)
set_option maxHeartbeats 4000000 in
set_option maxRecDepth 100000 in
theorem wB_X8_placeAmong_89 {l : Launch} {g : GG} {ad : Nat → Nat} {p : Program} {e : Env} {s : State} {m : MethodId} {args : Array Value} {below : List Frame} {meth : Method} {c : Code} {a0 : Nat} {z : Int32} (C : Cx p s m args meth c RX8 cX8_placeAmong 7 g (AW ad nO)) (hr : meth.sig.returnType = (some .int)) (ha0 : a0 < 2) {r_25 : Int32 → Int32 → Int32 → Int32 → HI → HJ → Option (Int32)} {I : HI} {J : HJ} (hr_25 : ∀ {x2 : Int32} {x3 : Int32} {x4 : Int32} {x5 : Int32}, r_25 x2 x3 x4 x5 I J = some z → V p l e (rmk 4 150) s m args below meth c (MQ below (QAi g ad nO oR z I J) args s 0 0 (AW ad nO)) 7 0 0 g (AW ad nO) ad nO oR I J 25 [(0, .ref (ad 59)), (1, .ref (g.2.2.2.1 a0)), (2, .int x2), (3, .int x3), (4, .int x4), (5, .int x5)] []) {x2 : Int32} {x3 : Int32} {x5 : Int32} {s0 : Int32} (h : fB_X8_placeAmong_89 a0 r_25 x2 x3 x5 s0 I J = some z) : V p l e (rmk 4 150) s m args below meth c (MQ below (QAi g ad nO oR z I J) args s 0 0 (AW ad nO)) 7 0 0 g (AW ad nO) ad nO oR I J 89 [(0, .ref (ad 59)), (1, .ref (g.2.2.2.1 a0)), (2, .int x2), (3, .int x3), (5, .int x5)] [.int s0] := by
  unfold fB_X8_placeAmong_89 at h
  refine r_istore C (lv1 := [(4, .int s0), (0, .ref (ad 59)), (1, .ref (g.2.2.2.1 a0)), (2, .int x2), (3, .int x3), (5, .int x5)]) (by decide) rfl dX8_placeAmong_89 ?_
  refine r_iincN C h (k := 4) (zz := 1) rfl rfl (by decide) (lv1 := fun v10 => [(3, .int v10), (4, .int s0), (0, .ref (ad 59)), (1, .ref (g.2.2.2.1 a0)), (2, .int x2), (5, .int x5)]) (fun _ => rfl) dX8_placeAmong_91 (fun v10 h => ?_)
  refine r_goto C (tgt := 123) dX8_placeAmong_94 (by decide) ?_
  exact r_sub [2, 3, 4, 0, 1, 5] rfl (wB_X8_placeAmong_123 C hr ha0 hr_25  h)
set_option maxHeartbeats 4000000 in
set_option maxRecDepth 100000 in
theorem wB_X8_placeAmong_88 {l : Launch} {g : GG} {ad : Nat → Nat} {p : Program} {e : Env} {s : State} {m : MethodId} {args : Array Value} {below : List Frame} {meth : Method} {c : Code} {a0 : Nat} {z : Int32} (C : Cx p s m args meth c RX8 cX8_placeAmong 7 g (AW ad nO)) (hr : meth.sig.returnType = (some .int)) (ha0 : a0 < 2) {r_25 : Int32 → Int32 → Int32 → Int32 → HI → HJ → Option (Int32)} {I : HI} {J : HJ} (hr_25 : ∀ {x2 : Int32} {x3 : Int32} {x4 : Int32} {x5 : Int32}, r_25 x2 x3 x4 x5 I J = some z → V p l e (rmk 4 150) s m args below meth c (MQ below (QAi g ad nO oR z I J) args s 0 0 (AW ad nO)) 7 0 0 g (AW ad nO) ad nO oR I J 25 [(0, .ref (ad 59)), (1, .ref (g.2.2.2.1 a0)), (2, .int x2), (3, .int x3), (4, .int x4), (5, .int x5)] []) {x2 : Int32} {x3 : Int32} {x5 : Int32} (h : fB_X8_placeAmong_88 a0 r_25 x2 x3 x5 I J = some z) : V p l e (rmk 4 150) s m args below meth c (MQ below (QAi g ad nO oR z I J) args s 0 0 (AW ad nO)) 7 0 0 g (AW ad nO) ad nO oR I J 88 [(0, .ref (ad 59)), (1, .ref (g.2.2.2.1 a0)), (2, .int x2), (3, .int x3), (5, .int x5)] [] := by
  unfold fB_X8_placeAmong_88 at h
  refine r_iconst C (v := 0) (by decide) dX8_placeAmong_88 ?_
  exact wB_X8_placeAmong_89 C hr ha0 hr_25  h
set_option maxHeartbeats 4000000 in
set_option maxRecDepth 100000 in
theorem wLB_X8_placeAmong_25 {l : Launch} {g : GG} {ad : Nat → Nat} {p : Program} {e : Env} {s : State} {m : MethodId} {args : Array Value} {below : List Frame} {meth : Method} {c : Code} {a0 : Nat} {z : Int32} (C : Cx p s m args meth c RX8 cX8_placeAmong 7 g (AW ad nO)) (hr : meth.sig.returnType = (some .int)) (ha0 : a0 < 2) {I : HI} {J : HJ}  {r_25 : Int32 → Int32 → Int32 → Int32 → HI → HJ → Option (Int32)} (hr_25 : ∀ {x2 : Int32} {x3 : Int32} {x4 : Int32} {x5 : Int32}, r_25 x2 x3 x4 x5 I J = some z → V p l e (rmk 4 150) s m args below meth c (MQ below (QAi g ad nO oR z I J) args s 0 0 (AW ad nO)) 7 0 0 g (AW ad nO) ad nO oR I J 25 [(0, .ref (ad 59)), (1, .ref (g.2.2.2.1 a0)), (2, .int x2), (3, .int x3), (4, .int x4), (5, .int x5)] []) {x2 : Int32} {x3 : Int32} {x4 : Int32} {x5 : Int32} (h : fLB_X8_placeAmong_25 a0 r_25 x2 x3 x4 x5 I J = some z) : V p l e (rmk 4 150) s m args below meth c (MQ below (QAi g ad nO oR z I J) args s 0 0 (AW ad nO)) 7 0 0 g (AW ad nO) ad nO oR I J 25 [(0, .ref (ad 59)), (1, .ref (g.2.2.2.1 a0)), (2, .int x2), (3, .int x3), (4, .int x4), (5, .int x5)] [] := by
  unfold fLB_X8_placeAmong_25 at h
  refine r_iload C 5 rfl dX8_placeAmong_25 ?_
  refine r_aload_n C 1 rfl rfl dX8_placeAmong_27 ?_
  refine r_strlen C ha0 lk_X8_92 (Nat.le_of_ble_eq_true rfl) (Nat.le_of_ble_eq_true rfl) (rest := [.int x5]) (Nat.le_of_ble_eq_true rfl) rfl dX8_placeAmong_28 ?_
  refine r_icmp_ge C (tgt := 129) h dX8_placeAmong_31 (by decide) (fun h => ?_) (fun h => ?_)
  · refine r_iconst C (v := -1) (by decide) dX8_placeAmong_129 ?_
    have hz9 := Option.some.inj h
    subst hz9
    exact r_iret C hr dX8_placeAmong_130
  · refine r_aload_n C 1 rfl rfl dX8_placeAmong_34 ?_
    refine r_iload C 5 rfl dX8_placeAmong_35 ?_
    refine r_strch C ha0 lk_X8_98 (Nat.le_of_ble_eq_true rfl) (Nat.le_of_ble_eq_true rfl) (rest := []) (Nat.le_of_ble_eq_true rfl) rfl h dX8_placeAmong_37 (fun h => ?_)
    refine r_nmi h (fun v11 h => ?_)
    refine r_istore C (lv1 := [(6, .int v11), (0, .ref (ad 59)), (1, .ref (g.2.2.2.1 a0)), (2, .int x2), (3, .int x3), (4, .int x4), (5, .int x5)]) (by decide) rfl dX8_placeAmong_40 ?_
    refine r_iload C 0 rfl dX8_placeAmong_42 ?_
    refine r_bipush C (v := 32) (by decide) dX8_placeAmong_44 ?_
    refine r_icmp_eq C (tgt := 97) h dX8_placeAmong_46 (by decide) (fun h => ?_) (fun h => ?_)
    · refine r_iload C 5 rfl dX8_placeAmong_97 ?_
      refine r_if_eq C (tgt := 112) h dX8_placeAmong_99 (by decide) (fun h => ?_) (fun h => ?_)
      · exact r_sub [1, 2, 3, 6] rfl (wB_X8_placeAmong_112 C hr ha0 hr_25  h)
      · refine r_iload_n C 4 rfl rfl dX8_placeAmong_102 ?_
        refine r_aload_n C 1 rfl rfl dX8_placeAmong_103 ?_
        refine gf_X8_30 C o_59 dX8_placeAmong_104 ?_
        refine r_icmp_ne C (tgt := 112) h dX8_placeAmong_107 (by decide) (fun h => ?_) (fun h => ?_)
        · exact r_sub [1, 2, 3, 6] rfl (wB_X8_placeAmong_112 C hr ha0 hr_25  h)
        · refine r_iload_n C 3 rfl rfl dX8_placeAmong_110 ?_
          have hz9 := Option.some.inj h
          subst hz9
          exact r_iret C hr dX8_placeAmong_111
    · refine r_iload C 5 rfl dX8_placeAmong_49 ?_
      refine r_if_eq C (tgt := 88) h dX8_placeAmong_51 (by decide) (fun h => ?_) (fun h => ?_)
      · exact r_sub [1, 2, 3, 4, 6] rfl (wB_X8_placeAmong_88 C hr ha0 hr_25  h)
      · refine r_iload_n C 4 rfl rfl dX8_placeAmong_54 ?_
        refine r_if_lt C (tgt := 88) h dX8_placeAmong_55 (by decide) (fun h => ?_) (fun h => ?_)
        · exact r_sub [1, 2, 3, 4, 6] rfl (wB_X8_placeAmong_88 C hr ha0 hr_25  h)
        · refine r_iload_n C 4 rfl rfl dX8_placeAmong_58 ?_
          refine r_aload_n C 1 rfl rfl dX8_placeAmong_59 ?_
          refine gf_X8_30 C o_59 dX8_placeAmong_60 ?_
          refine r_icmp_ge C (tgt := 88) h dX8_placeAmong_63 (by decide) (fun h => ?_) (fun h => ?_)
          · exact r_sub [1, 2, 3, 4, 6] rfl (wB_X8_placeAmong_88 C hr ha0 hr_25  h)
          · refine r_iload_n C 4 rfl rfl dX8_placeAmong_66 ?_
            refine r_sipush C (v := 200) (by decide) dX8_placeAmong_67 ?_
            refine r_icmp_ge C (tgt := 88) h dX8_placeAmong_70 (by decide) (fun h => ?_) (fun h => ?_)
            · exact r_sub [1, 2, 3, 4, 6] rfl (wB_X8_placeAmong_88 C hr ha0 hr_25  h)
            · refine r_aload_n C 1 rfl rfl dX8_placeAmong_73 ?_
              refine gf_X8_16 C rf0 o_59 (q := 69) rfl dX8_placeAmong_74 ?_
              refine r_iload_n C 4 rfl rfl dX8_placeAmong_77 ?_
              refine r_iald C o_69 h dX8_placeAmong_78 (fun h => ?_)
              refine r_iload C 0 rfl dX8_placeAmong_79 ?_
              refine r_icmp_ne C (tgt := 88) h dX8_placeAmong_81 (by decide) (fun h => ?_) (fun h => ?_)
              · exact r_sub [1, 2, 3, 4, 6] rfl (wB_X8_placeAmong_88 C hr ha0 hr_25  h)
              · refine r_iconst C (v := 1) (by decide) dX8_placeAmong_84 ?_
                refine r_goto C (tgt := 89) dX8_placeAmong_85 (by decide) ?_
                exact r_sub [1, 2, 3, 4, 6] rfl (wB_X8_placeAmong_89 C hr ha0 hr_25  h)
set_option maxHeartbeats 4000000 in
set_option maxRecDepth 100000 in
theorem wL_X8_placeAmong_25 {l : Launch} {g : GG} {ad : Nat → Nat} {p : Program} {e : Env} {s : State} {m : MethodId} {args : Array Value} {below : List Frame} {meth : Method} {c : Code} {a0 : Nat} {z : Int32} (C : Cx p s m args meth c RX8 cX8_placeAmong 7 g (AW ad nO)) (hr : meth.sig.returnType = (some .int)) (ha0 : a0 < 2) {I : HI} {J : HJ}  : ∀ (f : Nat) {x2 : Int32} {x3 : Int32} {x4 : Int32} {x5 : Int32}, fL_X8_placeAmong_25 a0 f x2 x3 x4 x5 I J = some z → V p l e (rmk 4 150) s m args below meth c (MQ below (QAi g ad nO oR z I J) args s 0 0 (AW ad nO)) 7 0 0 g (AW ad nO) ad nO oR I J 25 [(0, .ref (ad 59)), (1, .ref (g.2.2.2.1 a0)), (2, .int x2), (3, .int x3), (4, .int x4), (5, .int x5)] [] := by
  intro f
  induction f with
  | zero =>
    intro _ _ _ _  h
    have h0 : (none : Option (Int32)) = some z := h
    cases h0
  | succ f ih =>
    intro _ _ _ _  h
    exact wLB_X8_placeAmong_25 C hr ha0 ih  h
set_option maxHeartbeats 4000000 in
set_option maxRecDepth 100000 in
theorem w_X8_placeAmong {l : Launch} {g : GG} {ad : Nat → Nat} {p : Program} {e : Env} {s : State} {m : MethodId} {args : Array Value} {below : List Frame} {meth : Method} {c : Code} {a0 : Nat} {z : Int32} (C : Cx p s m args meth c RX8 cX8_placeAmong 7 g (AW ad nO)) (hr : meth.sig.returnType = (some .int)) (ha0 : a0 < 2) {I : HI} {J : HJ} (h : f_X8_placeAmong a0 I J = some z) : V p l e (rmk 4 150) s m args below meth c (MQ below (QAi g ad nO oR z I J) args s 0 0 (AW ad nO)) 7 0 0 g (AW ad nO) ad nO oR I J 0 [(0, .ref (ad 59)), (1, .ref (g.2.2.2.1 a0))] [] := by
  unfold f_X8_placeAmong at h
  refine r_aload_n C 0 rfl rfl dX8_placeAmong_0 ?_
  refine gf_X8_36 C o_59 dX8_placeAmong_1 ?_
  refine r_sipush C (v := 257) (by decide) dX8_placeAmong_4 ?_
  refine r_icmp_eq C (tgt := 12) h dX8_placeAmong_7 (by decide) (fun h => ?_) (fun h => ?_)
  · refine r_iconst C (v := 0) (by decide) dX8_placeAmong_12 ?_
    refine r_istore_n C (lv1 := [(2, .int (0 : Int32)), (0, .ref (ad 59)), (1, .ref (g.2.2.2.1 a0))]) rfl (by decide) rfl dX8_placeAmong_13 ?_
    refine r_aload_n C 1 rfl rfl dX8_placeAmong_14 ?_
    refine gf_X8_24 C o_59 dX8_placeAmong_15 ?_
    refine r_nmi h (fun v12 h => ?_)
    refine r_istore_n C (lv1 := [(3, .int v12), (2, .int (0 : Int32)), (0, .ref (ad 59)), (1, .ref (g.2.2.2.1 a0))]) rfl (by decide) rfl dX8_placeAmong_18 ?_
    refine r_iconst C (v := 1) (by decide) dX8_placeAmong_19 ?_
    refine r_istore C (lv1 := [(4, .int (1 : Int32)), (3, .int v12), (2, .int (0 : Int32)), (0, .ref (ad 59)), (1, .ref (g.2.2.2.1 a0))]) (by decide) rfl dX8_placeAmong_20 ?_
    refine r_iconst C (v := 0) (by decide) dX8_placeAmong_22 ?_
    refine r_istore C (lv1 := [(5, .int (0 : Int32)), (4, .int (1 : Int32)), (3, .int v12), (2, .int (0 : Int32)), (0, .ref (ad 59)), (1, .ref (g.2.2.2.1 a0))]) (by decide) rfl dX8_placeAmong_23 ?_
    exact r_sub [4, 5, 3, 2, 1, 0] rfl (wL_X8_placeAmong_25 C hr ha0 _  h)
  · refine r_iconst C (v := -1) (by decide) dX8_placeAmong_10 ?_
    have hz9 := Option.some.inj h
    subst hz9
    exact r_iret C hr dX8_placeAmong_11
set_option maxHeartbeats 4000000 in
set_option maxRecDepth 100000 in
theorem c_X8_placeAmong {l : Launch} {g : GG} {ad : Nat → Nat} {a0 : Nat} {I : HI} {J : HJ} {r : Int32} (ha0 : a0 < 2) (h : f_X8_placeAmong a0 I J = some r) : CM l yX8_placeAmong cX8_placeAmong 7 (some .int) (rmk 4 150) g ad nO oR [.ref (ad 59), .ref (g.2.2.2.1 a0)] I J (QAi g ad nO oR r I J) :=
  CM_of (by decide +kernel) (Nat.le_of_ble_eq_true rfl) (fun p e s m args below meth c C hr => w_X8_placeAmong C hr ha0 h)
set_option maxHeartbeats 4000000 in
set_option maxRecDepth 100000 in
theorem w_X8_levelOf {l : Launch} {g : GG} {ad : Nat → Nat} {p : Program} {e : Env} {s : State} {m : MethodId} {args : Array Value} {below : List Frame} {meth : Method} {c : Code} {a0 : Int32} {z : Int32} (C : Cx p s m args meth c RX8 cX8_levelOf 1 g (AW ad nO)) (hr : meth.sig.returnType = (some .int)) {I : HI} {J : HJ} (h : f_X8_levelOf a0 = some z) : V p l e (rmk 0 0) s m args below meth c (MQ below (QAi g ad nO oR z I J) args s 0 0 (AW ad nO)) 1 0 0 g (AW ad nO) ad nO oR I J 0 [(0, .int a0)] [] := by
  unfold f_X8_levelOf at h
  refine r_iload_n C 0 rfl rfl dX8_levelOf_0 ?_
  refine r_case h (fun hc9 h => ?_) (fun hc9 h => ?_)
  · refine r_tabIn C (tgt := 124) 37 hc9 dX8_levelOf_1 (by decide) (by decide) rfl (by decide) ?_
    refine r_iconst C (v := 2) (by decide) dX8_levelOf_124 ?_
    have hz9 := Option.some.inj h
    subst hz9
    exact r_iret C hr dX8_levelOf_125
  refine r_case h (fun hc10 h => ?_) (fun hc10 h => ?_)
  · refine r_tabIn C (tgt := 124) 42 hc10 dX8_levelOf_1 (by decide) (by decide) rfl (by decide) ?_
    refine r_iconst C (v := 2) (by decide) dX8_levelOf_124 ?_
    have hz9 := Option.some.inj h
    subst hz9
    exact r_iret C hr dX8_levelOf_125
  refine r_case h (fun hc11 h => ?_) (fun hc11 h => ?_)
  · refine r_tabIn C (tgt := 122) 43 hc11 dX8_levelOf_1 (by decide) (by decide) rfl (by decide) ?_
    refine r_iconst C (v := 1) (by decide) dX8_levelOf_122 ?_
    have hz9 := Option.some.inj h
    subst hz9
    exact r_iret C hr dX8_levelOf_123
  refine r_case h (fun hc12 h => ?_) (fun hc12 h => ?_)
  · refine r_tabIn C (tgt := 122) 45 hc12 dX8_levelOf_1 (by decide) (by decide) rfl (by decide) ?_
    refine r_iconst C (v := 1) (by decide) dX8_levelOf_122 ?_
    have hz9 := Option.some.inj h
    subst hz9
    exact r_iret C hr dX8_levelOf_123
  refine r_case h (fun hc13 h => ?_) (fun hc13 h => ?_)
  · refine r_tabIn C (tgt := 124) 47 hc13 dX8_levelOf_1 (by decide) (by decide) rfl (by decide) ?_
    refine r_iconst C (v := 2) (by decide) dX8_levelOf_124 ?_
    have hz9 := Option.some.inj h
    subst hz9
    exact r_iret C hr dX8_levelOf_125
  refine r_case h (fun hc14 h => ?_) (fun hc14 h => ?_)
  · refine r_tabIn C (tgt := 120) 60 hc14 dX8_levelOf_1 (by decide) (by decide) rfl (by decide) ?_
    refine r_iconst C (v := 0) (by decide) dX8_levelOf_120 ?_
    have hz9 := Option.some.inj h
    subst hz9
    exact r_iret C hr dX8_levelOf_121
  refine r_case h (fun hc15 h => ?_) (fun hc15 h => ?_)
  · refine r_tabIn C (tgt := 120) 61 hc15 dX8_levelOf_1 (by decide) (by decide) rfl (by decide) ?_
    refine r_iconst C (v := 0) (by decide) dX8_levelOf_120 ?_
    have hz9 := Option.some.inj h
    subst hz9
    exact r_iret C hr dX8_levelOf_121
  refine r_case h (fun hc16 h => ?_) (fun hc16 h => ?_)
  · refine r_tabIn C (tgt := 120) 62 hc16 dX8_levelOf_1 (by decide) (by decide) rfl (by decide) ?_
    refine r_iconst C (v := 0) (by decide) dX8_levelOf_120 ?_
    have hz9 := Option.some.inj h
    subst hz9
    exact r_iret C hr dX8_levelOf_121
  refine r_tabD C (tgt := 126) [37, 42, 43, 45, 47, 60, 61, 62] (r_nc hc9 rfl (r_nc hc10 rfl (r_nc hc11 rfl (r_nc hc12 rfl (r_nc hc13 rfl (r_nc hc14 rfl (r_nc hc15 rfl (r_nc hc16 rfl r_nc0)))))))) dX8_levelOf_1 rfl (by decide) (by decide) ?_
  refine r_iconst C (v := 3) (by decide) dX8_levelOf_126 ?_
  have hz9 := Option.some.inj h
  subst hz9
  exact r_iret C hr dX8_levelOf_127
set_option maxHeartbeats 4000000 in
set_option maxRecDepth 100000 in
theorem c_X8_levelOf {l : Launch} {g : GG} {ad : Nat → Nat} {a0 : Int32} {I : HI} {J : HJ} {r : Int32} (h : f_X8_levelOf a0 = some r) : CM l yX8_levelOf cX8_levelOf 1 (some .int) (rmk 0 0) g ad nO oR [.int a0] I J (QAi g ad nO oR r I J) :=
  CM_of (by decide +kernel) (Nat.le_of_ble_eq_true rfl) (fun p e s m args below meth c C hr => w_X8_levelOf C hr h)
set_option maxHeartbeats 4000000 in
set_option maxRecDepth 100000 in
theorem wB_X8_tellsNumber_58 {l : Launch} {g : GG} {ad : Nat → Nat} {p : Program} {e : Env} {s : State} {m : MethodId} {args : Array Value} {below : List Frame} {meth : Method} {c : Code} {z : Int32 × HI} (C : Cx p s m args meth c RX8 cX8_tellsNumber 3 g (AW ad nO)) (hr : meth.sig.returnType = (some .boolean)) {J : HJ}  {x1 : Int32} {I : HI} (h : fB_X8_tellsNumber_58 x1 I J = some z) : V p l e (rmk 2 43) s m args below meth c (MQ below (QAi g ad nO oR z.1 z.2 J) args s 0 0 (AW ad nO)) 3 0 0 g (AW ad nO) ad nO oR I J 58 [(0, .ref (ad 59)), (1, .int x1)] [] := by
  unfold fB_X8_tellsNumber_58 at h
  refine r_aload_n C 0 rfl rfl dX8_tellsNumber_58 ?_
  refine gf_X8_10 C rf0 o_59 (q := 60) rfl dX8_tellsNumber_59 ?_
  refine r_aload_n C 0 rfl rfl dX8_tellsNumber_62 ?_
  refine gf_X8_49 C o_59 dX8_tellsNumber_63 ?_
  refine r_iload_n C 1 rfl rfl dX8_tellsNumber_66 ?_
  refine r_pc (pc1 := 67) rfl ?_
  obtain ⟨I8, hq9, h⟩ := bd1_ h
  refine r_cvv C (rest := []) (c_X2_add rf0 o_60 hq9) fm_X2_add lk_X8_68 o_60 ⟨_, ct_1 o_60.1⟩ rfl rfl ⟨rfl, rfl, Nat.le_of_ble_eq_true rfl, Nat.le_of_ble_eq_true rfl⟩ (Nat.le_of_ble_eq_true rfl) rfl dX8_tellsNumber_67 ?_
  refine r_aload_n C 0 rfl rfl dX8_tellsNumber_70 ?_
  obtain ⟨I10, hq11, h⟩ := bd1_ h
  refine r_cvv C (rest := []) (c_X8_goToNext  hq11) fm_X8_goToNext lk_X8_33 o_59 ⟨_, ct_7 o_59.1⟩ rfl rfl ⟨rfl, rfl, Nat.le_of_ble_eq_true rfl, Nat.le_of_ble_eq_true rfl⟩ (Nat.le_of_ble_eq_true rfl) rfl dX8_tellsNumber_71 ?_
  refine r_iconst C (v := 1) (by decide) dX8_tellsNumber_74 ?_
  have hz9 := Option.some.inj h
  subst hz9
  exact r_zret C (v := (1 : Int32)) rfl hr dX8_tellsNumber_75
set_option maxHeartbeats 4000000 in
set_option maxRecDepth 100000 in
theorem wLB_X8_tellsNumber_22 {l : Launch} {g : GG} {ad : Nat → Nat} {p : Program} {e : Env} {s : State} {m : MethodId} {args : Array Value} {below : List Frame} {meth : Method} {c : Code} {z : Int32 × HI} (C : Cx p s m args meth c RX8 cX8_tellsNumber 3 g (AW ad nO)) (hr : meth.sig.returnType = (some .boolean)) {J : HJ}  {r_22 : Int32 → Int32 → HI → HJ → Option (Int32 × HI)} (hr_22 : ∀ {x1 : Int32} {x2 : Int32} {I : HI}, r_22 x1 x2 I J = some z → V p l e (rmk 2 43) s m args below meth c (MQ below (QAi g ad nO oR z.1 z.2 J) args s 0 0 (AW ad nO)) 3 0 0 g (AW ad nO) ad nO oR I J 22 [(0, .ref (ad 59)), (1, .int x1), (2, .int x2)] []) {x1 : Int32} {x2 : Int32} {I : HI} (h : fLB_X8_tellsNumber_22 r_22 x1 x2 I J = some z) : V p l e (rmk 2 43) s m args below meth c (MQ below (QAi g ad nO oR z.1 z.2 J) args s 0 0 (AW ad nO)) 3 0 0 g (AW ad nO) ad nO oR I J 22 [(0, .ref (ad 59)), (1, .int x1), (2, .int x2)] [] := by
  unfold fLB_X8_tellsNumber_22 at h
  refine r_iload_n C 2 rfl rfl dX8_tellsNumber_22 ?_
  refine r_aload_n C 0 rfl rfl dX8_tellsNumber_23 ?_
  refine gf_X8_30 C o_59 dX8_tellsNumber_24 ?_
  refine r_icmp_ge C (tgt := 58) h dX8_tellsNumber_27 (by decide) (fun h => ?_) (fun h => ?_)
  · exact r_sub [0, 1] rfl (wB_X8_tellsNumber_58 C hr  h)
  · refine r_iload_n C 2 rfl rfl dX8_tellsNumber_30 ?_
    refine r_sipush C (v := 200) (by decide) dX8_tellsNumber_31 ?_
    refine r_icmp_ge C (tgt := 58) h dX8_tellsNumber_34 (by decide) (fun h => ?_) (fun h => ?_)
    · exact r_sub [0, 1] rfl (wB_X8_tellsNumber_58 C hr  h)
    · refine r_iload_n C 1 rfl rfl dX8_tellsNumber_37 ?_
      refine r_bipush C (v := 10) (by decide) dX8_tellsNumber_38 ?_
      refine r_imul C dX8_tellsNumber_40 ?_
      refine r_aload_n C 0 rfl rfl dX8_tellsNumber_41 ?_
      refine gf_X8_16 C rf0 o_59 (q := 69) rfl dX8_tellsNumber_42 ?_
      refine r_pc (pc1 := 45) rfl ?_
      refine r_iload_n C 2 rfl rfl dX8_tellsNumber_45 ?_
      refine r_iald C o_69 h dX8_tellsNumber_46 (fun h => ?_)
      refine r_iadd C dX8_tellsNumber_47 ?_
      refine r_bipush C (v := 48) (by decide) dX8_tellsNumber_48 ?_
      refine r_isub C dX8_tellsNumber_50 ?_
      refine r_nmi h (fun v12 h => ?_)
      refine r_istore_n C (lv1 := [(1, .int v12), (0, .ref (ad 59)), (2, .int x2)]) rfl (by decide) rfl dX8_tellsNumber_51 ?_
      refine r_iincN C h (k := 2) (zz := 1) rfl rfl (by decide) (lv1 := fun v13 => [(2, .int v13), (1, .int v12), (0, .ref (ad 59))]) (fun _ => rfl) dX8_tellsNumber_52 (fun v13 h => ?_)
      refine r_goto C (tgt := 22) dX8_tellsNumber_55 (by decide) ?_
      exact r_sub [2, 1, 0] rfl (hr_22  h)
set_option maxHeartbeats 4000000 in
set_option maxRecDepth 100000 in
theorem wL_X8_tellsNumber_22 {l : Launch} {g : GG} {ad : Nat → Nat} {p : Program} {e : Env} {s : State} {m : MethodId} {args : Array Value} {below : List Frame} {meth : Method} {c : Code} {z : Int32 × HI} (C : Cx p s m args meth c RX8 cX8_tellsNumber 3 g (AW ad nO)) (hr : meth.sig.returnType = (some .boolean)) {J : HJ}  : ∀ (f : Nat) {x1 : Int32} {x2 : Int32} {I : HI}, fL_X8_tellsNumber_22 f x1 x2 I J = some z → V p l e (rmk 2 43) s m args below meth c (MQ below (QAi g ad nO oR z.1 z.2 J) args s 0 0 (AW ad nO)) 3 0 0 g (AW ad nO) ad nO oR I J 22 [(0, .ref (ad 59)), (1, .int x1), (2, .int x2)] [] := by
  intro f
  induction f with
  | zero =>
    intro _ _ _  h
    have h0 : (none : Option (Int32 × HI)) = some z := h
    cases h0
  | succ f ih =>
    intro _ _ _  h
    exact wLB_X8_tellsNumber_22 C hr ih  h
set_option maxHeartbeats 4000000 in
set_option maxRecDepth 100000 in
theorem w_X8_tellsNumber {l : Launch} {g : GG} {ad : Nat → Nat} {p : Program} {e : Env} {s : State} {m : MethodId} {args : Array Value} {below : List Frame} {meth : Method} {c : Code} {z : Int32 × HI} (C : Cx p s m args meth c RX8 cX8_tellsNumber 3 g (AW ad nO)) (hr : meth.sig.returnType = (some .boolean)) {I : HI} {J : HJ} (h : f_X8_tellsNumber I J = some z) : V p l e (rmk 2 43) s m args below meth c (MQ below (QAi g ad nO oR z.1 z.2 J) args s 0 0 (AW ad nO)) 3 0 0 g (AW ad nO) ad nO oR I J 0 [(0, .ref (ad 59))] [] := by
  unfold f_X8_tellsNumber at h
  refine r_aload_n C 0 rfl rfl dX8_tellsNumber_0 ?_
  refine gf_X8_30 C o_59 dX8_tellsNumber_1 ?_
  refine r_aload_n C 0 rfl rfl dX8_tellsNumber_4 ?_
  refine gf_X8_24 C o_59 dX8_tellsNumber_5 ?_
  refine r_isub C dX8_tellsNumber_8 ?_
  refine r_pc (pc1 := 9) rfl ?_
  refine r_iconst C (v := 4) (by decide) dX8_tellsNumber_9 ?_
  refine r_icmp_le C (tgt := 15) h dX8_tellsNumber_10 (by decide) (fun h => ?_) (fun h => ?_)
  · refine r_iconst C (v := 0) (by decide) dX8_tellsNumber_15 ?_
    refine r_istore_n C (lv1 := [(1, .int (0 : Int32)), (0, .ref (ad 59))]) rfl (by decide) rfl dX8_tellsNumber_16 ?_
    refine r_aload_n C 1 rfl rfl dX8_tellsNumber_17 ?_
    refine gf_X8_24 C o_59 dX8_tellsNumber_18 ?_
    refine r_nmi h (fun v14 h => ?_)
    refine r_istore_n C (lv1 := [(2, .int v14), (1, .int (0 : Int32)), (0, .ref (ad 59))]) rfl (by decide) rfl dX8_tellsNumber_21 ?_
    exact r_sub [2, 1, 0] rfl (wL_X8_tellsNumber_22 C hr _  h)
  · refine r_iconst C (v := 0) (by decide) dX8_tellsNumber_13 ?_
    have hz9 := Option.some.inj h
    subst hz9
    exact r_zret C (v := (0 : Int32)) rfl hr dX8_tellsNumber_14
set_option maxHeartbeats 4000000 in
set_option maxRecDepth 100000 in
theorem c_X8_tellsNumber {l : Launch} {g : GG} {ad : Nat → Nat} {I : HI} {J : HJ} {r : Int32} {I1 : HI} (h : f_X8_tellsNumber I J = some (r, I1)) : CM l yX8_tellsNumber cX8_tellsNumber 3 (some .boolean) (rmk 2 43) g ad nO oR [.ref (ad 59)] I J (QAi g ad nO oR r I1 J) :=
  CM_of (by decide +kernel) (Nat.le_of_ble_eq_true rfl) (fun p e s m args below meth c C hr => w_X8_tellsNumber C hr h)
set_option maxHeartbeats 4000000 in
set_option maxRecDepth 100000 in
theorem w_X8_tellsName {l : Launch} {g : GG} {ad : Nat → Nat} {p : Program} {e : Env} {s : State} {m : MethodId} {args : Array Value} {below : List Frame} {meth : Method} {c : Code} {z : Int32 × HI} (C : Cx p s m args meth c RX8 cX8_tellsName 2 g (AW ad nO)) (hr : meth.sig.returnType = (some .boolean)) {I : HI} {J : HJ} (h : f_X8_tellsName I J = some z) : V p l e (rmk 5 176) s m args below meth c (MQ below (QAi g ad nO oR z.1 z.2 J) args s 0 0 (AW ad nO)) 2 0 0 g (AW ad nO) ad nO oR I J 0 [(0, .ref (ad 59))] [] := by
  unfold f_X8_tellsName at h
  refine r_aload_n C 0 rfl rfl dX8_tellsName_0 ?_
  refine r_ldcS C 1 (by decide) dX8_tellsName_1 ?_
  obtain ⟨r7, hq8, h⟩ := bd1_ h
  refine r_cvi C (rest := []) (c_X8_placeAmong (by decide) hq8) fm_X8_placeAmong lk_X8_45 o_59 ⟨_, ct_7 o_59.1⟩ rfl rfl ⟨rfl, rfl, Nat.le_of_ble_eq_true rfl, Nat.le_of_ble_eq_true rfl⟩ (Nat.le_of_ble_eq_true rfl) rfl dX8_tellsName_3 ?_
  refine r_istore_n C (lv1 := [(1, .int r7), (0, .ref (ad 59))]) rfl (by decide) rfl dX8_tellsName_6 ?_
  refine r_iload_n C 0 rfl rfl dX8_tellsName_7 ?_
  refine r_if_ge C (tgt := 13) h dX8_tellsName_8 (by decide) (fun h => ?_) (fun h => ?_)
  · refine r_aload_n C 1 rfl rfl dX8_tellsName_13 ?_
    refine gf_X8_10 C rf0 o_59 (q := 60) rfl dX8_tellsName_14 ?_
    refine r_aload_n C 1 rfl rfl dX8_tellsName_17 ?_
    refine gf_X8_49 C o_59 dX8_tellsName_18 ?_
    refine r_sipush C (v := 10000) (by decide) dX8_tellsName_21 ?_
    refine r_pc (pc1 := 24) rfl ?_
    refine r_iload_n C 0 rfl rfl dX8_tellsName_24 ?_
    refine r_iadd C dX8_tellsName_25 ?_
    obtain ⟨I9, hq10, h⟩ := bd1_ h
    refine r_cvv C (rest := []) (c_X2_add rf0 o_60 hq10) fm_X2_add lk_X8_68 o_60 ⟨_, ct_1 o_60.1⟩ rfl rfl ⟨rfl, rfl, Nat.le_of_ble_eq_true rfl, Nat.le_of_ble_eq_true rfl⟩ (Nat.le_of_ble_eq_true rfl) rfl dX8_tellsName_26 ?_
    refine r_aload_n C 1 rfl rfl dX8_tellsName_29 ?_
    obtain ⟨I11, hq12, h⟩ := bd1_ h
    refine r_cvv C (rest := []) (c_X8_goToNext  hq12) fm_X8_goToNext lk_X8_33 o_59 ⟨_, ct_7 o_59.1⟩ rfl rfl ⟨rfl, rfl, Nat.le_of_ble_eq_true rfl, Nat.le_of_ble_eq_true rfl⟩ (Nat.le_of_ble_eq_true rfl) rfl dX8_tellsName_30 ?_
    refine r_iconst C (v := 1) (by decide) dX8_tellsName_33 ?_
    have hz9 := Option.some.inj h
    subst hz9
    exact r_zret C (v := (1 : Int32)) rfl hr dX8_tellsName_34
  · refine r_iconst C (v := 0) (by decide) dX8_tellsName_11 ?_
    have hz9 := Option.some.inj h
    subst hz9
    exact r_zret C (v := (0 : Int32)) rfl hr dX8_tellsName_12
set_option maxHeartbeats 4000000 in
set_option maxRecDepth 100000 in
theorem c_X8_tellsName {l : Launch} {g : GG} {ad : Nat → Nat} {I : HI} {J : HJ} {r : Int32} {I1 : HI} (h : f_X8_tellsName I J = some (r, I1)) : CM l yX8_tellsName cX8_tellsName 2 (some .boolean) (rmk 5 176) g ad nO oR [.ref (ad 59)] I J (QAi g ad nO oR r I1 J) :=
  CM_of (by decide +kernel) (Nat.le_of_ble_eq_true rfl) (fun p e s m args below meth c C hr => w_X8_tellsName C hr h)
set_option maxHeartbeats 4000000 in
set_option maxRecDepth 100000 in
theorem wLB_X8_tellsJoined_39 {l : Launch} {g : GG} {ad : Nat → Nat} {p : Program} {e : Env} {s : State} {m : MethodId} {args : Array Value} {below : List Frame} {meth : Method} {c : Code} {d : Nat} {g_tellsJoined : Int32 → Int32 → HI → HJ → Option (Int32 × HI)} {g_tellsOne : Int32 → HI → HJ → Option (Int32 × HI)} {g_tellsLess : Int32 → HI → HJ → Option (Int32 × HI)} {g_tellsBracket : Int32 → HI → HJ → Option (Int32 × HI)} {a0 : Int32} {a1 : Int32} {z : Int32 × HI} (C : Cx p s m args meth c RX8 cX8_tellsJoined 6 g (AW ad nO)) (hr : meth.sig.returnType = (some .boolean)) (H_tellsJoined : ∀ {a0 : Int32} {a1 : Int32} {I : HI} {J : HJ} {r : Int32} {I1 : HI}, g_tellsJoined a0 a1 I J = some (r, I1) → CM l yX8_tellsJoined cX8_tellsJoined 6 (some .boolean) (rmk (6 + d) (197 + 40 * d)) g ad nO oR [.ref (ad 59), .int a0, .int a1] I J (QAi g ad nO oR r I1 J)) (H_tellsOne : ∀ {a0 : Int32} {I : HI} {J : HJ} {r : Int32} {I1 : HI}, g_tellsOne a0 I J = some (r, I1) → CM l yX8_tellsOne cX8_tellsOne 2 (some .boolean) (rmk (6 + d) (197 + 40 * d)) g ad nO oR [.ref (ad 59), .int a0] I J (QAi g ad nO oR r I1 J)) (H_tellsLess : ∀ {a0 : Int32} {I : HI} {J : HJ} {r : Int32} {I1 : HI}, g_tellsLess a0 I J = some (r, I1) → CM l yX8_tellsLess cX8_tellsLess 2 (some .boolean) (rmk (6 + d) (197 + 40 * d)) g ad nO oR [.ref (ad 59), .int a0] I J (QAi g ad nO oR r I1 J)) (H_tellsBracket : ∀ {a0 : Int32} {I : HI} {J : HJ} {r : Int32} {I1 : HI}, g_tellsBracket a0 I J = some (r, I1) → CM l yX8_tellsBracket cX8_tellsBracket 2 (some .boolean) (rmk (6 + d) (197 + 40 * d)) g ad nO oR [.ref (ad 59), .int a0] I J (QAi g ad nO oR r I1 J)) {J : HJ}  {r_39 : Int32 → Int32 → HI → HJ → Option (Int32 × HI)} (hr_39 : ∀ {x3 : Int32} {x4 : Int32} {I : HI}, r_39 x3 x4 I J = some z → V p l e (rmk (6 + (d + 1)) (197 + 40 * (d + 1))) s m args below meth c (MQ below (QAi g ad nO oR z.1 z.2 J) args s 0 0 (AW ad nO)) 6 0 0 g (AW ad nO) ad nO oR I J 39 [(0, .ref (ad 59)), (1, .int a0), (2, .int a1), (3, .int x3), (4, .int x4)] []) {x3 : Int32} {x4 : Int32} {I : HI} (h : fLB_X8_tellsJoined_39 g_tellsJoined g_tellsOne g_tellsLess g_tellsBracket a0 a1 r_39 x3 x4 I J = some z) : V p l e (rmk (6 + (d + 1)) (197 + 40 * (d + 1))) s m args below meth c (MQ below (QAi g ad nO oR z.1 z.2 J) args s 0 0 (AW ad nO)) 6 0 0 g (AW ad nO) ad nO oR I J 39 [(0, .ref (ad 59)), (1, .int a0), (2, .int a1), (3, .int x3), (4, .int x4)] [] := by
  unfold fLB_X8_tellsJoined_39 at h
  refine r_iload C 4 rfl dX8_tellsJoined_39 ?_
  refine r_iload_n C 3 rfl rfl dX8_tellsJoined_41 ?_
  refine r_icmp_ge C (tgt := 102) h dX8_tellsJoined_42 (by decide) (fun h => ?_) (fun h => ?_)
  · refine r_iconst C (v := 1) (by decide) dX8_tellsJoined_102 ?_
    have hz9 := Option.some.inj h
    subst hz9
    exact r_zret C (v := (1 : Int32)) rfl hr dX8_tellsJoined_103
  · refine r_aload_n C 0 rfl rfl dX8_tellsJoined_45 ?_
    refine gf_X8_36 C o_59 dX8_tellsJoined_46 ?_
    obtain ⟨r18, hq19, h⟩ := bd1_ h
    refine r_csi C (rest := []) (c_X8_levelOf  hq19) fm_X8_levelOf lk_X8_64 rfl (RO_base (by decide) (by decide)) (Nat.le_of_ble_eq_true rfl) rfl dX8_tellsJoined_49 ?_
    refine r_iload_n C 1 rfl rfl dX8_tellsJoined_52 ?_
    refine r_icmp_ne C (tgt := 102) h dX8_tellsJoined_53 (by decide) (fun h => ?_) (fun h => ?_)
    · refine r_iconst C (v := 1) (by decide) dX8_tellsJoined_102 ?_
      have hz9 := Option.some.inj h
      subst hz9
      exact r_zret C (v := (1 : Int32)) rfl hr dX8_tellsJoined_103
    · refine r_aload_n C 0 rfl rfl dX8_tellsJoined_56 ?_
      refine gf_X8_36 C o_59 dX8_tellsJoined_57 ?_
      refine r_nmi h (fun v20 h => ?_)
      refine r_istore C (lv1 := [(5, .int v20), (0, .ref (ad 59)), (1, .int a0), (2, .int a1), (3, .int x3), (4, .int x4)]) (by decide) rfl dX8_tellsJoined_60 ?_
      refine r_aload_n C 1 rfl rfl dX8_tellsJoined_62 ?_
      obtain ⟨I21, hq22, h⟩ := bd1_ h
      refine r_cvv C (rest := []) (c_X8_goToNext  hq22) fm_X8_goToNext lk_X8_33 o_59 ⟨_, ct_7 o_59.1⟩ rfl rfl (RO_base (by decide) (by decide)) (Nat.le_of_ble_eq_true rfl) rfl dX8_tellsJoined_63 ?_
      refine r_aload_n C 1 rfl rfl dX8_tellsJoined_66 ?_
      refine r_iload_n C 2 rfl rfl dX8_tellsJoined_67 ?_
      refine r_iconst C (v := 1) (by decide) dX8_tellsJoined_68 ?_
      refine r_iadd C dX8_tellsJoined_69 ?_
      refine r_iload_n C 3 rfl rfl dX8_tellsJoined_70 ?_
      refine r_pc (pc1 := 71) rfl ?_
      obtain ⟨r23, I24, hq25, h⟩ := bd2_ h
      refine r_cvi C (rest := []) (H_tellsJoined  hq25) fm_X8_tellsJoined lk_X8_56 o_59 ⟨_, ct_7 o_59.1⟩ rfl rfl (RO_rec (by decide)) (Nat.le_of_ble_eq_true rfl) rfl dX8_tellsJoined_71 ?_
      refine r_if_ne C (tgt := 79) h dX8_tellsJoined_74 (by decide) (fun h => ?_) (fun h => ?_)
      · refine r_aload_n C 1 rfl rfl dX8_tellsJoined_79 ?_
        refine gf_X8_10 C rf0 o_59 (q := 60) rfl dX8_tellsJoined_80 ?_
        refine r_aload_n C 1 rfl rfl dX8_tellsJoined_83 ?_
        refine gf_X8_49 C o_59 dX8_tellsJoined_84 ?_
        refine r_sipush C (v := 20000) (by decide) dX8_tellsJoined_87 ?_
        refine r_pc (pc1 := 90) rfl ?_
        refine r_iload C 0 rfl dX8_tellsJoined_90 ?_
        refine r_iadd C dX8_tellsJoined_92 ?_
        obtain ⟨I26, hq27, h⟩ := bd1_ h
        refine r_cvv C (rest := []) (c_X2_add rf0 o_60 hq27) fm_X2_add lk_X8_68 o_60 ⟨_, ct_1 o_60.1⟩ rfl rfl (RO_base (by decide) (by decide)) (Nat.le_of_ble_eq_true rfl) rfl dX8_tellsJoined_93 ?_
        refine r_iincN C h (k := 5) (zz := 1) rfl rfl (by decide) (lv1 := fun v28 => [(4, .int v28), (5, .int v20), (0, .ref (ad 59)), (1, .int a0), (2, .int a1), (3, .int x3)]) (fun _ => rfl) dX8_tellsJoined_96 (fun v28 h => ?_)
        refine r_goto C (tgt := 39) dX8_tellsJoined_99 (by decide) ?_
        exact r_sub [2, 3, 4, 5, 0] rfl (hr_39  h)
      · refine r_iconst C (v := 0) (by decide) dX8_tellsJoined_77 ?_
        have hz9 := Option.some.inj h
        subst hz9
        exact r_zret C (v := (0 : Int32)) rfl hr dX8_tellsJoined_78
set_option maxHeartbeats 4000000 in
set_option maxRecDepth 100000 in
theorem wL_X8_tellsJoined_39 {l : Launch} {g : GG} {ad : Nat → Nat} {p : Program} {e : Env} {s : State} {m : MethodId} {args : Array Value} {below : List Frame} {meth : Method} {c : Code} {d : Nat} {g_tellsJoined : Int32 → Int32 → HI → HJ → Option (Int32 × HI)} {g_tellsOne : Int32 → HI → HJ → Option (Int32 × HI)} {g_tellsLess : Int32 → HI → HJ → Option (Int32 × HI)} {g_tellsBracket : Int32 → HI → HJ → Option (Int32 × HI)} {a0 : Int32} {a1 : Int32} {z : Int32 × HI} (C : Cx p s m args meth c RX8 cX8_tellsJoined 6 g (AW ad nO)) (hr : meth.sig.returnType = (some .boolean)) (H_tellsJoined : ∀ {a0 : Int32} {a1 : Int32} {I : HI} {J : HJ} {r : Int32} {I1 : HI}, g_tellsJoined a0 a1 I J = some (r, I1) → CM l yX8_tellsJoined cX8_tellsJoined 6 (some .boolean) (rmk (6 + d) (197 + 40 * d)) g ad nO oR [.ref (ad 59), .int a0, .int a1] I J (QAi g ad nO oR r I1 J)) (H_tellsOne : ∀ {a0 : Int32} {I : HI} {J : HJ} {r : Int32} {I1 : HI}, g_tellsOne a0 I J = some (r, I1) → CM l yX8_tellsOne cX8_tellsOne 2 (some .boolean) (rmk (6 + d) (197 + 40 * d)) g ad nO oR [.ref (ad 59), .int a0] I J (QAi g ad nO oR r I1 J)) (H_tellsLess : ∀ {a0 : Int32} {I : HI} {J : HJ} {r : Int32} {I1 : HI}, g_tellsLess a0 I J = some (r, I1) → CM l yX8_tellsLess cX8_tellsLess 2 (some .boolean) (rmk (6 + d) (197 + 40 * d)) g ad nO oR [.ref (ad 59), .int a0] I J (QAi g ad nO oR r I1 J)) (H_tellsBracket : ∀ {a0 : Int32} {I : HI} {J : HJ} {r : Int32} {I1 : HI}, g_tellsBracket a0 I J = some (r, I1) → CM l yX8_tellsBracket cX8_tellsBracket 2 (some .boolean) (rmk (6 + d) (197 + 40 * d)) g ad nO oR [.ref (ad 59), .int a0] I J (QAi g ad nO oR r I1 J)) {J : HJ}  : ∀ (f : Nat) {x3 : Int32} {x4 : Int32} {I : HI}, fL_X8_tellsJoined_39 g_tellsJoined g_tellsOne g_tellsLess g_tellsBracket a0 a1 f x3 x4 I J = some z → V p l e (rmk (6 + (d + 1)) (197 + 40 * (d + 1))) s m args below meth c (MQ below (QAi g ad nO oR z.1 z.2 J) args s 0 0 (AW ad nO)) 6 0 0 g (AW ad nO) ad nO oR I J 39 [(0, .ref (ad 59)), (1, .int a0), (2, .int a1), (3, .int x3), (4, .int x4)] [] := by
  intro f
  induction f with
  | zero =>
    intro _ _ _  h
    have h0 : (none : Option (Int32 × HI)) = some z := h
    cases h0
  | succ f ih =>
    intro _ _ _  h
    exact wLB_X8_tellsJoined_39 C hr H_tellsJoined H_tellsOne H_tellsLess H_tellsBracket ih  h
set_option maxHeartbeats 4000000 in
set_option maxRecDepth 100000 in
theorem wB_X8_tellsJoined_35 {l : Launch} {g : GG} {ad : Nat → Nat} {p : Program} {e : Env} {s : State} {m : MethodId} {args : Array Value} {below : List Frame} {meth : Method} {c : Code} {d : Nat} {g_tellsJoined : Int32 → Int32 → HI → HJ → Option (Int32 × HI)} {g_tellsOne : Int32 → HI → HJ → Option (Int32 × HI)} {g_tellsLess : Int32 → HI → HJ → Option (Int32 × HI)} {g_tellsBracket : Int32 → HI → HJ → Option (Int32 × HI)} {a0 : Int32} {a1 : Int32} {z : Int32 × HI} (C : Cx p s m args meth c RX8 cX8_tellsJoined 6 g (AW ad nO)) (hr : meth.sig.returnType = (some .boolean)) (H_tellsJoined : ∀ {a0 : Int32} {a1 : Int32} {I : HI} {J : HJ} {r : Int32} {I1 : HI}, g_tellsJoined a0 a1 I J = some (r, I1) → CM l yX8_tellsJoined cX8_tellsJoined 6 (some .boolean) (rmk (6 + d) (197 + 40 * d)) g ad nO oR [.ref (ad 59), .int a0, .int a1] I J (QAi g ad nO oR r I1 J)) (H_tellsOne : ∀ {a0 : Int32} {I : HI} {J : HJ} {r : Int32} {I1 : HI}, g_tellsOne a0 I J = some (r, I1) → CM l yX8_tellsOne cX8_tellsOne 2 (some .boolean) (rmk (6 + d) (197 + 40 * d)) g ad nO oR [.ref (ad 59), .int a0] I J (QAi g ad nO oR r I1 J)) (H_tellsLess : ∀ {a0 : Int32} {I : HI} {J : HJ} {r : Int32} {I1 : HI}, g_tellsLess a0 I J = some (r, I1) → CM l yX8_tellsLess cX8_tellsLess 2 (some .boolean) (rmk (6 + d) (197 + 40 * d)) g ad nO oR [.ref (ad 59), .int a0] I J (QAi g ad nO oR r I1 J)) (H_tellsBracket : ∀ {a0 : Int32} {I : HI} {J : HJ} {r : Int32} {I1 : HI}, g_tellsBracket a0 I J = some (r, I1) → CM l yX8_tellsBracket cX8_tellsBracket 2 (some .boolean) (rmk (6 + d) (197 + 40 * d)) g ad nO oR [.ref (ad 59), .int a0] I J (QAi g ad nO oR r I1 J)) {J : HJ}  {s0 : Int32} {I : HI} (h : fB_X8_tellsJoined_35 g_tellsJoined g_tellsOne g_tellsLess g_tellsBracket a0 a1 s0 I J = some z) : V p l e (rmk (6 + (d + 1)) (197 + 40 * (d + 1))) s m args below meth c (MQ below (QAi g ad nO oR z.1 z.2 J) args s 0 0 (AW ad nO)) 6 0 0 g (AW ad nO) ad nO oR I J 35 [(0, .ref (ad 59)), (1, .int a0), (2, .int a1)] [.int s0] := by
  unfold fB_X8_tellsJoined_35 at h
  refine r_istore_n C (lv1 := [(3, .int s0), (0, .ref (ad 59)), (1, .int a0), (2, .int a1)]) rfl (by decide) rfl dX8_tellsJoined_35 ?_
  refine r_iconst C (v := 0) (by decide) dX8_tellsJoined_36 ?_
  refine r_istore C (lv1 := [(4, .int (0 : Int32)), (3, .int s0), (0, .ref (ad 59)), (1, .int a0), (2, .int a1)]) (by decide) rfl dX8_tellsJoined_37 ?_
  exact r_sub [2, 3, 4, 1, 0] rfl (wL_X8_tellsJoined_39 C hr H_tellsJoined H_tellsOne H_tellsLess H_tellsBracket _  h)
set_option maxHeartbeats 4000000 in
set_option maxRecDepth 100000 in
theorem w_X8_tellsJoined {l : Launch} {g : GG} {ad : Nat → Nat} {p : Program} {e : Env} {s : State} {m : MethodId} {args : Array Value} {below : List Frame} {meth : Method} {c : Code} {d : Nat} {g_tellsJoined : Int32 → Int32 → HI → HJ → Option (Int32 × HI)} {g_tellsOne : Int32 → HI → HJ → Option (Int32 × HI)} {g_tellsLess : Int32 → HI → HJ → Option (Int32 × HI)} {g_tellsBracket : Int32 → HI → HJ → Option (Int32 × HI)} {a0 : Int32} {a1 : Int32} {z : Int32 × HI} (C : Cx p s m args meth c RX8 cX8_tellsJoined 6 g (AW ad nO)) (hr : meth.sig.returnType = (some .boolean)) (H_tellsJoined : ∀ {a0 : Int32} {a1 : Int32} {I : HI} {J : HJ} {r : Int32} {I1 : HI}, g_tellsJoined a0 a1 I J = some (r, I1) → CM l yX8_tellsJoined cX8_tellsJoined 6 (some .boolean) (rmk (6 + d) (197 + 40 * d)) g ad nO oR [.ref (ad 59), .int a0, .int a1] I J (QAi g ad nO oR r I1 J)) (H_tellsOne : ∀ {a0 : Int32} {I : HI} {J : HJ} {r : Int32} {I1 : HI}, g_tellsOne a0 I J = some (r, I1) → CM l yX8_tellsOne cX8_tellsOne 2 (some .boolean) (rmk (6 + d) (197 + 40 * d)) g ad nO oR [.ref (ad 59), .int a0] I J (QAi g ad nO oR r I1 J)) (H_tellsLess : ∀ {a0 : Int32} {I : HI} {J : HJ} {r : Int32} {I1 : HI}, g_tellsLess a0 I J = some (r, I1) → CM l yX8_tellsLess cX8_tellsLess 2 (some .boolean) (rmk (6 + d) (197 + 40 * d)) g ad nO oR [.ref (ad 59), .int a0] I J (QAi g ad nO oR r I1 J)) (H_tellsBracket : ∀ {a0 : Int32} {I : HI} {J : HJ} {r : Int32} {I1 : HI}, g_tellsBracket a0 I J = some (r, I1) → CM l yX8_tellsBracket cX8_tellsBracket 2 (some .boolean) (rmk (6 + d) (197 + 40 * d)) g ad nO oR [.ref (ad 59), .int a0] I J (QAi g ad nO oR r I1 J)) {I : HI} {J : HJ} (h : fb_X8_tellsJoined g_tellsJoined g_tellsOne g_tellsLess g_tellsBracket a0 a1 I J = some z) : V p l e (rmk (6 + (d + 1)) (197 + 40 * (d + 1))) s m args below meth c (MQ below (QAi g ad nO oR z.1 z.2 J) args s 0 0 (AW ad nO)) 6 0 0 g (AW ad nO) ad nO oR I J 0 [(0, .ref (ad 59)), (1, .int a0), (2, .int a1)] [] := by
  unfold fb_X8_tellsJoined at h
  refine r_iload_n C 1 rfl rfl dX8_tellsJoined_0 ?_
  refine r_iconst C (v := 3) (by decide) dX8_tellsJoined_1 ?_
  refine r_icmp_ne C (tgt := 11) h dX8_tellsJoined_2 (by decide) (fun h => ?_) (fun h => ?_)
  · refine r_aload_n C 0 rfl rfl dX8_tellsJoined_11 ?_
    refine r_iload_n C 1 rfl rfl dX8_tellsJoined_12 ?_
    refine r_iconst C (v := 1) (by decide) dX8_tellsJoined_13 ?_
    refine r_iadd C dX8_tellsJoined_14 ?_
    refine r_iload_n C 2 rfl rfl dX8_tellsJoined_15 ?_
    refine r_pc (pc1 := 16) rfl ?_
    obtain ⟨r29, I30, hq31, h⟩ := bd2_ h
    refine r_cvi C (rest := []) (H_tellsJoined  hq31) fm_X8_tellsJoined lk_X8_56 o_59 ⟨_, ct_7 o_59.1⟩ rfl rfl (RO_rec (by decide)) (Nat.le_of_ble_eq_true rfl) rfl dX8_tellsJoined_16 ?_
    refine r_if_ne C (tgt := 24) h dX8_tellsJoined_19 (by decide) (fun h => ?_) (fun h => ?_)
    · refine r_iload_n C 1 rfl rfl dX8_tellsJoined_24 ?_
      refine r_if_ne C (tgt := 32) h dX8_tellsJoined_25 (by decide) (fun h => ?_) (fun h => ?_)
      · refine r_sipush C (v := 200) (by decide) dX8_tellsJoined_32 ?_
        exact wB_X8_tellsJoined_35 C hr H_tellsJoined H_tellsOne H_tellsLess H_tellsBracket  h
      · refine r_iconst C (v := 1) (by decide) dX8_tellsJoined_28 ?_
        refine r_goto C (tgt := 35) dX8_tellsJoined_29 (by decide) ?_
        exact wB_X8_tellsJoined_35 C hr H_tellsJoined H_tellsOne H_tellsLess H_tellsBracket  h
    · refine r_iconst C (v := 0) (by decide) dX8_tellsJoined_22 ?_
      have hz9 := Option.some.inj h
      subst hz9
      exact r_zret C (v := (0 : Int32)) rfl hr dX8_tellsJoined_23
  · refine r_aload_n C 0 rfl rfl dX8_tellsJoined_5 ?_
    refine r_iload_n C 2 rfl rfl dX8_tellsJoined_6 ?_
    obtain ⟨r32, I33, hq34, h⟩ := bd2_ h
    refine r_cvi C (rest := []) (H_tellsOne  hq34) fm_X8_tellsOne lk_X8_60 o_59 ⟨_, ct_7 o_59.1⟩ rfl rfl (RO_rec (by decide)) (Nat.le_of_ble_eq_true rfl) rfl dX8_tellsJoined_7 ?_
    obtain ⟨hz, h⟩ := ck h
    have hz9 := Option.some.inj h
    subst hz9
    exact r_zret C (zb_nar hz) hr dX8_tellsJoined_10
set_option maxHeartbeats 4000000 in
set_option maxRecDepth 100000 in
theorem w_X8_tellsOne {l : Launch} {g : GG} {ad : Nat → Nat} {p : Program} {e : Env} {s : State} {m : MethodId} {args : Array Value} {below : List Frame} {meth : Method} {c : Code} {d : Nat} {g_tellsJoined : Int32 → Int32 → HI → HJ → Option (Int32 × HI)} {g_tellsOne : Int32 → HI → HJ → Option (Int32 × HI)} {g_tellsLess : Int32 → HI → HJ → Option (Int32 × HI)} {g_tellsBracket : Int32 → HI → HJ → Option (Int32 × HI)} {a0 : Int32} {z : Int32 × HI} (C : Cx p s m args meth c RX8 cX8_tellsOne 2 g (AW ad nO)) (hr : meth.sig.returnType = (some .boolean)) (H_tellsJoined : ∀ {a0 : Int32} {a1 : Int32} {I : HI} {J : HJ} {r : Int32} {I1 : HI}, g_tellsJoined a0 a1 I J = some (r, I1) → CM l yX8_tellsJoined cX8_tellsJoined 6 (some .boolean) (rmk (6 + d) (197 + 40 * d)) g ad nO oR [.ref (ad 59), .int a0, .int a1] I J (QAi g ad nO oR r I1 J)) (H_tellsOne : ∀ {a0 : Int32} {I : HI} {J : HJ} {r : Int32} {I1 : HI}, g_tellsOne a0 I J = some (r, I1) → CM l yX8_tellsOne cX8_tellsOne 2 (some .boolean) (rmk (6 + d) (197 + 40 * d)) g ad nO oR [.ref (ad 59), .int a0] I J (QAi g ad nO oR r I1 J)) (H_tellsLess : ∀ {a0 : Int32} {I : HI} {J : HJ} {r : Int32} {I1 : HI}, g_tellsLess a0 I J = some (r, I1) → CM l yX8_tellsLess cX8_tellsLess 2 (some .boolean) (rmk (6 + d) (197 + 40 * d)) g ad nO oR [.ref (ad 59), .int a0] I J (QAi g ad nO oR r I1 J)) (H_tellsBracket : ∀ {a0 : Int32} {I : HI} {J : HJ} {r : Int32} {I1 : HI}, g_tellsBracket a0 I J = some (r, I1) → CM l yX8_tellsBracket cX8_tellsBracket 2 (some .boolean) (rmk (6 + d) (197 + 40 * d)) g ad nO oR [.ref (ad 59), .int a0] I J (QAi g ad nO oR r I1 J)) {I : HI} {J : HJ} (h : fb_X8_tellsOne g_tellsJoined g_tellsOne g_tellsLess g_tellsBracket a0 I J = some z) : V p l e (rmk (6 + (d + 1)) (197 + 40 * (d + 1))) s m args below meth c (MQ below (QAi g ad nO oR z.1 z.2 J) args s 0 0 (AW ad nO)) 2 0 0 g (AW ad nO) ad nO oR I J 0 [(0, .ref (ad 59)), (1, .int a0)] [] := by
  unfold fb_X8_tellsOne at h
  refine r_aload_n C 0 rfl rfl dX8_tellsOne_0 ?_
  refine gf_X8_36 C o_59 dX8_tellsOne_1 ?_
  refine r_nmi h (fun v18 h => ?_)
  refine r_case h (fun hc19 h => ?_) (fun hc19 h => ?_)
  · refine r_look C (tgt := 79) (off := 75) dX8_tellsOne_4 rfl (by rw [hc19]; try rfl) (by decide) ?_
    refine r_iload_n C 1 rfl rfl dX8_tellsOne_79 ?_
    refine r_iconst C (v := 4) (by decide) dX8_tellsOne_80 ?_
    refine r_icmp_ge C (tgt := 98) h dX8_tellsOne_81 (by decide) (fun h => ?_) (fun h => ?_)
    · refine r_iconst C (v := 0) (by decide) dX8_tellsOne_98 ?_
      have hz9 := Option.some.inj h
      subst hz9
      exact r_zret C (v := (0 : Int32)) rfl hr dX8_tellsOne_99
    · refine r_aload_n C 0 rfl rfl dX8_tellsOne_84 ?_
      refine r_iload_n C 1 rfl rfl dX8_tellsOne_85 ?_
      refine r_iconst C (v := 1) (by decide) dX8_tellsOne_86 ?_
      refine r_iadd C dX8_tellsOne_87 ?_
      obtain ⟨r20, I21, hq22, h⟩ := bd2_ h
      refine r_cvi C (rest := []) (H_tellsBracket  hq22) fm_X8_tellsBracket lk_X8_81 o_59 ⟨_, ct_7 o_59.1⟩ rfl rfl (RO_rec (by decide)) (Nat.le_of_ble_eq_true rfl) rfl dX8_tellsOne_88 ?_
      refine r_if_eq C (tgt := 98) h dX8_tellsOne_91 (by decide) (fun h => ?_) (fun h => ?_)
      · refine r_iconst C (v := 0) (by decide) dX8_tellsOne_98 ?_
        have hz9 := Option.some.inj h
        subst hz9
        exact r_zret C (v := (0 : Int32)) rfl hr dX8_tellsOne_99
      · refine r_iconst C (v := 1) (by decide) dX8_tellsOne_94 ?_
        refine r_goto C (tgt := 99) dX8_tellsOne_95 (by decide) ?_
        have hz9 := Option.some.inj h
        subst hz9
        exact r_zret C (v := (1 : Int32)) rfl hr dX8_tellsOne_99
  refine r_case h (fun hc23 h => ?_) (fun hc23 h => ?_)
  · refine r_look C (tgt := 58) (off := 54) dX8_tellsOne_4 rfl (by rw [hc23]; try rfl) (by decide) ?_
    refine r_iload_n C 1 rfl rfl dX8_tellsOne_58 ?_
    refine r_iconst C (v := 4) (by decide) dX8_tellsOne_59 ?_
    refine r_icmp_ge C (tgt := 77) h dX8_tellsOne_60 (by decide) (fun h => ?_) (fun h => ?_)
    · refine r_iconst C (v := 0) (by decide) dX8_tellsOne_77 ?_
      have hz9 := Option.some.inj h
      subst hz9
      exact r_zret C (v := (0 : Int32)) rfl hr dX8_tellsOne_78
    · refine r_aload_n C 0 rfl rfl dX8_tellsOne_63 ?_
      refine r_iload_n C 1 rfl rfl dX8_tellsOne_64 ?_
      refine r_iconst C (v := 1) (by decide) dX8_tellsOne_65 ?_
      refine r_iadd C dX8_tellsOne_66 ?_
      obtain ⟨r24, I25, hq26, h⟩ := bd2_ h
      refine r_cvi C (rest := []) (H_tellsLess  hq26) fm_X8_tellsLess lk_X8_78 o_59 ⟨_, ct_7 o_59.1⟩ rfl rfl (RO_rec (by decide)) (Nat.le_of_ble_eq_true rfl) rfl dX8_tellsOne_67 ?_
      refine r_if_eq C (tgt := 77) h dX8_tellsOne_70 (by decide) (fun h => ?_) (fun h => ?_)
      · refine r_iconst C (v := 0) (by decide) dX8_tellsOne_77 ?_
        have hz9 := Option.some.inj h
        subst hz9
        exact r_zret C (v := (0 : Int32)) rfl hr dX8_tellsOne_78
      · refine r_iconst C (v := 1) (by decide) dX8_tellsOne_73 ?_
        refine r_goto C (tgt := 78) dX8_tellsOne_74 (by decide) ?_
        have hz9 := Option.some.inj h
        subst hz9
        exact r_zret C (v := (1 : Int32)) rfl hr dX8_tellsOne_78
  refine r_case h (fun hc27 h => ?_) (fun hc27 h => ?_)
  · refine r_look C (tgt := 53) (off := 49) dX8_tellsOne_4 rfl (by rw [hc27]; try rfl) (by decide) ?_
    refine r_aload_n C 0 rfl rfl dX8_tellsOne_53 ?_
    obtain ⟨r28, I29, hq30, h⟩ := bd2_ h
    refine r_cvi C (rest := []) (c_X8_tellsName  hq30) fm_X8_tellsName lk_X8_75 o_59 ⟨_, ct_7 o_59.1⟩ rfl rfl (RO_base (by decide) (by decide)) (Nat.le_of_ble_eq_true rfl) rfl dX8_tellsOne_54 ?_
    obtain ⟨hz, h⟩ := ck h
    have hz9 := Option.some.inj h
    subst hz9
    exact r_zret C (zb_nar hz) hr dX8_tellsOne_57
  refine r_case h (fun hc31 h => ?_) (fun hc31 h => ?_)
  · refine r_look C (tgt := 48) (off := 44) dX8_tellsOne_4 rfl (by rw [hc31]; try rfl) (by decide) ?_
    refine r_aload_n C 0 rfl rfl dX8_tellsOne_48 ?_
    obtain ⟨r32, I33, hq34, h⟩ := bd2_ h
    refine r_cvi C (rest := []) (c_X8_tellsNumber  hq34) fm_X8_tellsNumber lk_X8_72 o_59 ⟨_, ct_7 o_59.1⟩ rfl rfl (RO_base (by decide) (by decide)) (Nat.le_of_ble_eq_true rfl) rfl dX8_tellsOne_49 ?_
    obtain ⟨hz, h⟩ := ck h
    have hz9 := Option.some.inj h
    subst hz9
    exact r_zret C (zb_nar hz) hr dX8_tellsOne_52
  refine r_look C (tgt := 100) (off := 96) dX8_tellsOne_4 rfl ((lv_osw hc19 rfl).trans ((lv_osw hc23 rfl).trans ((lv_osw hc27 rfl).trans ((lv_osw hc31 rfl).trans rfl)))) (by decide) ?_
  refine r_iconst C (v := 0) (by decide) dX8_tellsOne_100 ?_
  have hz9 := Option.some.inj h
  subst hz9
  exact r_zret C (v := (0 : Int32)) rfl hr dX8_tellsOne_101
set_option maxHeartbeats 4000000 in
set_option maxRecDepth 100000 in
theorem w_X8_tellsLess {l : Launch} {g : GG} {ad : Nat → Nat} {p : Program} {e : Env} {s : State} {m : MethodId} {args : Array Value} {below : List Frame} {meth : Method} {c : Code} {d : Nat} {g_tellsJoined : Int32 → Int32 → HI → HJ → Option (Int32 × HI)} {g_tellsOne : Int32 → HI → HJ → Option (Int32 × HI)} {g_tellsLess : Int32 → HI → HJ → Option (Int32 × HI)} {g_tellsBracket : Int32 → HI → HJ → Option (Int32 × HI)} {a0 : Int32} {z : Int32 × HI} (C : Cx p s m args meth c RX8 cX8_tellsLess 2 g (AW ad nO)) (hr : meth.sig.returnType = (some .boolean)) (H_tellsJoined : ∀ {a0 : Int32} {a1 : Int32} {I : HI} {J : HJ} {r : Int32} {I1 : HI}, g_tellsJoined a0 a1 I J = some (r, I1) → CM l yX8_tellsJoined cX8_tellsJoined 6 (some .boolean) (rmk (6 + d) (197 + 40 * d)) g ad nO oR [.ref (ad 59), .int a0, .int a1] I J (QAi g ad nO oR r I1 J)) (H_tellsOne : ∀ {a0 : Int32} {I : HI} {J : HJ} {r : Int32} {I1 : HI}, g_tellsOne a0 I J = some (r, I1) → CM l yX8_tellsOne cX8_tellsOne 2 (some .boolean) (rmk (6 + d) (197 + 40 * d)) g ad nO oR [.ref (ad 59), .int a0] I J (QAi g ad nO oR r I1 J)) (H_tellsLess : ∀ {a0 : Int32} {I : HI} {J : HJ} {r : Int32} {I1 : HI}, g_tellsLess a0 I J = some (r, I1) → CM l yX8_tellsLess cX8_tellsLess 2 (some .boolean) (rmk (6 + d) (197 + 40 * d)) g ad nO oR [.ref (ad 59), .int a0] I J (QAi g ad nO oR r I1 J)) (H_tellsBracket : ∀ {a0 : Int32} {I : HI} {J : HJ} {r : Int32} {I1 : HI}, g_tellsBracket a0 I J = some (r, I1) → CM l yX8_tellsBracket cX8_tellsBracket 2 (some .boolean) (rmk (6 + d) (197 + 40 * d)) g ad nO oR [.ref (ad 59), .int a0] I J (QAi g ad nO oR r I1 J)) {I : HI} {J : HJ} (h : fb_X8_tellsLess g_tellsJoined g_tellsOne g_tellsLess g_tellsBracket a0 I J = some z) : V p l e (rmk (6 + (d + 1)) (197 + 40 * (d + 1))) s m args below meth c (MQ below (QAi g ad nO oR z.1 z.2 J) args s 0 0 (AW ad nO)) 2 0 0 g (AW ad nO) ad nO oR I J 0 [(0, .ref (ad 59)), (1, .int a0)] [] := by
  unfold fb_X8_tellsLess at h
  refine r_aload_n C 0 rfl rfl dX8_tellsLess_0 ?_
  obtain ⟨I8, hq9, h⟩ := bd1_ h
  refine r_cvv C (rest := []) (c_X8_goToNext  hq9) fm_X8_goToNext lk_X8_33 o_59 ⟨_, ct_7 o_59.1⟩ rfl rfl (RO_base (by decide) (by decide)) (Nat.le_of_ble_eq_true rfl) rfl dX8_tellsLess_1 ?_
  refine r_aload_n C 0 rfl rfl dX8_tellsLess_4 ?_
  refine r_iload_n C 1 rfl rfl dX8_tellsLess_5 ?_
  obtain ⟨r10, I11, hq12, h⟩ := bd2_ h
  refine r_cvi C (rest := []) (H_tellsOne  hq12) fm_X8_tellsOne lk_X8_60 o_59 ⟨_, ct_7 o_59.1⟩ rfl rfl (RO_rec (by decide)) (Nat.le_of_ble_eq_true rfl) rfl dX8_tellsLess_6 ?_
  refine r_if_ne C (tgt := 14) h dX8_tellsLess_9 (by decide) (fun h => ?_) (fun h => ?_)
  · refine r_aload_n C 0 rfl rfl dX8_tellsLess_14 ?_
    refine gf_X8_10 C rf0 o_59 (q := 60) rfl dX8_tellsLess_15 ?_
    refine r_aload_n C 0 rfl rfl dX8_tellsLess_18 ?_
    refine gf_X8_49 C o_59 dX8_tellsLess_19 ?_
    refine r_sipush C (v := 20126) (by decide) dX8_tellsLess_22 ?_
    refine r_pc (pc1 := 25) rfl ?_
    obtain ⟨I13, hq14, h⟩ := bd1_ h
    refine r_cvv C (rest := []) (c_X2_add rf0 o_60 hq14) fm_X2_add lk_X8_68 o_60 ⟨_, ct_1 o_60.1⟩ rfl rfl (RO_base (by decide) (by decide)) (Nat.le_of_ble_eq_true rfl) rfl dX8_tellsLess_25 ?_
    refine r_iconst C (v := 1) (by decide) dX8_tellsLess_28 ?_
    have hz9 := Option.some.inj h
    subst hz9
    exact r_zret C (v := (1 : Int32)) rfl hr dX8_tellsLess_29
  · refine r_iconst C (v := 0) (by decide) dX8_tellsLess_12 ?_
    have hz9 := Option.some.inj h
    subst hz9
    exact r_zret C (v := (0 : Int32)) rfl hr dX8_tellsLess_13
set_option maxHeartbeats 4000000 in
set_option maxRecDepth 100000 in
theorem w_X8_tellsBracket {l : Launch} {g : GG} {ad : Nat → Nat} {p : Program} {e : Env} {s : State} {m : MethodId} {args : Array Value} {below : List Frame} {meth : Method} {c : Code} {d : Nat} {g_tellsJoined : Int32 → Int32 → HI → HJ → Option (Int32 × HI)} {g_tellsOne : Int32 → HI → HJ → Option (Int32 × HI)} {g_tellsLess : Int32 → HI → HJ → Option (Int32 × HI)} {g_tellsBracket : Int32 → HI → HJ → Option (Int32 × HI)} {a0 : Int32} {z : Int32 × HI} (C : Cx p s m args meth c RX8 cX8_tellsBracket 2 g (AW ad nO)) (hr : meth.sig.returnType = (some .boolean)) (H_tellsJoined : ∀ {a0 : Int32} {a1 : Int32} {I : HI} {J : HJ} {r : Int32} {I1 : HI}, g_tellsJoined a0 a1 I J = some (r, I1) → CM l yX8_tellsJoined cX8_tellsJoined 6 (some .boolean) (rmk (6 + d) (197 + 40 * d)) g ad nO oR [.ref (ad 59), .int a0, .int a1] I J (QAi g ad nO oR r I1 J)) (H_tellsOne : ∀ {a0 : Int32} {I : HI} {J : HJ} {r : Int32} {I1 : HI}, g_tellsOne a0 I J = some (r, I1) → CM l yX8_tellsOne cX8_tellsOne 2 (some .boolean) (rmk (6 + d) (197 + 40 * d)) g ad nO oR [.ref (ad 59), .int a0] I J (QAi g ad nO oR r I1 J)) (H_tellsLess : ∀ {a0 : Int32} {I : HI} {J : HJ} {r : Int32} {I1 : HI}, g_tellsLess a0 I J = some (r, I1) → CM l yX8_tellsLess cX8_tellsLess 2 (some .boolean) (rmk (6 + d) (197 + 40 * d)) g ad nO oR [.ref (ad 59), .int a0] I J (QAi g ad nO oR r I1 J)) (H_tellsBracket : ∀ {a0 : Int32} {I : HI} {J : HJ} {r : Int32} {I1 : HI}, g_tellsBracket a0 I J = some (r, I1) → CM l yX8_tellsBracket cX8_tellsBracket 2 (some .boolean) (rmk (6 + d) (197 + 40 * d)) g ad nO oR [.ref (ad 59), .int a0] I J (QAi g ad nO oR r I1 J)) {I : HI} {J : HJ} (h : fb_X8_tellsBracket g_tellsJoined g_tellsOne g_tellsLess g_tellsBracket a0 I J = some z) : V p l e (rmk (6 + (d + 1)) (197 + 40 * (d + 1))) s m args below meth c (MQ below (QAi g ad nO oR z.1 z.2 J) args s 0 0 (AW ad nO)) 2 0 0 g (AW ad nO) ad nO oR I J 0 [(0, .ref (ad 59)), (1, .int a0)] [] := by
  unfold fb_X8_tellsBracket at h
  refine r_aload_n C 0 rfl rfl dX8_tellsBracket_0 ?_
  obtain ⟨I8, hq9, h⟩ := bd1_ h
  refine r_cvv C (rest := []) (c_X8_goToNext  hq9) fm_X8_goToNext lk_X8_33 o_59 ⟨_, ct_7 o_59.1⟩ rfl rfl (RO_base (by decide) (by decide)) (Nat.le_of_ble_eq_true rfl) rfl dX8_tellsBracket_1 ?_
  refine r_aload_n C 0 rfl rfl dX8_tellsBracket_4 ?_
  refine r_iconst C (v := 0) (by decide) dX8_tellsBracket_5 ?_
  refine r_iload_n C 1 rfl rfl dX8_tellsBracket_6 ?_
  obtain ⟨r10, I11, hq12, h⟩ := bd2_ h
  refine r_cvi C (rest := []) (H_tellsJoined  hq12) fm_X8_tellsJoined lk_X8_56 o_59 ⟨_, ct_7 o_59.1⟩ rfl rfl (RO_rec (by decide)) (Nat.le_of_ble_eq_true rfl) rfl dX8_tellsBracket_7 ?_
  refine r_if_eq C (tgt := 22) h dX8_tellsBracket_10 (by decide) (fun h => ?_) (fun h => ?_)
  · refine r_iconst C (v := 0) (by decide) dX8_tellsBracket_22 ?_
    have hz9 := Option.some.inj h
    subst hz9
    exact r_zret C (v := (0 : Int32)) rfl hr dX8_tellsBracket_23
  · refine r_aload_n C 0 rfl rfl dX8_tellsBracket_13 ?_
    refine gf_X8_36 C o_59 dX8_tellsBracket_14 ?_
    refine r_bipush C (v := 41) (by decide) dX8_tellsBracket_17 ?_
    refine r_icmp_eq C (tgt := 24) h dX8_tellsBracket_19 (by decide) (fun h => ?_) (fun h => ?_)
    · refine r_aload_n C 0 rfl rfl dX8_tellsBracket_24 ?_
      obtain ⟨I13, hq14, h⟩ := bd1_ h
      refine r_cvv C (rest := []) (c_X8_goToNext  hq14) fm_X8_goToNext lk_X8_33 o_59 ⟨_, ct_7 o_59.1⟩ rfl rfl (RO_base (by decide) (by decide)) (Nat.le_of_ble_eq_true rfl) rfl dX8_tellsBracket_25 ?_
      refine r_iconst C (v := 1) (by decide) dX8_tellsBracket_28 ?_
      have hz9 := Option.some.inj h
      subst hz9
      exact r_zret C (v := (1 : Int32)) rfl hr dX8_tellsBracket_29
    · refine r_iconst C (v := 0) (by decide) dX8_tellsBracket_22 ?_
      have hz9 := Option.some.inj h
      subst hz9
      exact r_zret C (v := (0 : Int32)) rfl hr dX8_tellsBracket_23
set_option maxHeartbeats 4000000 in
set_option maxRecDepth 100000 in
theorem gc_X8_tellsJoined {l : Launch} {g : GG} {ad : Nat → Nat} : ∀ d : Nat, (∀ {a0 : Int32} {a1 : Int32} {I : HI} {J : HJ} {r : Int32} {I1 : HI}, f_X8_tellsJoined d a0 a1 I J = some (r, I1) → CM l yX8_tellsJoined cX8_tellsJoined 6 (some .boolean) (rmk (6 + d) (197 + 40 * d)) g ad nO oR [.ref (ad 59), .int a0, .int a1] I J (QAi g ad nO oR r I1 J)) ∧ (∀ {a0 : Int32} {I : HI} {J : HJ} {r : Int32} {I1 : HI}, f_X8_tellsOne d a0 I J = some (r, I1) → CM l yX8_tellsOne cX8_tellsOne 2 (some .boolean) (rmk (6 + d) (197 + 40 * d)) g ad nO oR [.ref (ad 59), .int a0] I J (QAi g ad nO oR r I1 J)) ∧ (∀ {a0 : Int32} {I : HI} {J : HJ} {r : Int32} {I1 : HI}, f_X8_tellsLess d a0 I J = some (r, I1) → CM l yX8_tellsLess cX8_tellsLess 2 (some .boolean) (rmk (6 + d) (197 + 40 * d)) g ad nO oR [.ref (ad 59), .int a0] I J (QAi g ad nO oR r I1 J)) ∧ (∀ {a0 : Int32} {I : HI} {J : HJ} {r : Int32} {I1 : HI}, f_X8_tellsBracket d a0 I J = some (r, I1) → CM l yX8_tellsBracket cX8_tellsBracket 2 (some .boolean) (rmk (6 + d) (197 + 40 * d)) g ad nO oR [.ref (ad 59), .int a0] I J (QAi g ad nO oR r I1 J)) := by
  intro d
  induction d with
  | zero =>
    refine ⟨?_, ?_, ?_, ?_⟩
    · exact fun {_} {_} {_} {_} {_} {_}  h => by
          have h0 : (none : Option (Int32 × HI)) = some _ := h
          cases h0
    · exact fun {_} {_} {_} {_} {_}  h => by
          have h0 : (none : Option (Int32 × HI)) = some _ := h
          cases h0
    · exact fun {_} {_} {_} {_} {_}  h => by
          have h0 : (none : Option (Int32 × HI)) = some _ := h
          cases h0
    · exact fun {_} {_} {_} {_} {_}  h => by
          have h0 : (none : Option (Int32 × HI)) = some _ := h
          cases h0
  | succ d ih =>
    obtain ⟨H0, H1, H2, H3⟩ := ih
    refine ⟨?_, ?_, ?_, ?_⟩
    · exact fun {_} {_} {_} {_} {_} {_}  h => CM_of (by decide +kernel) (Nat.le_of_ble_eq_true rfl) (fun p e s m args below meth c C hr => w_X8_tellsJoined C hr H0 H1 H2 H3 h)
    · exact fun {_} {_} {_} {_} {_}  h => CM_of (by decide +kernel) (Nat.le_of_ble_eq_true rfl) (fun p e s m args below meth c C hr => w_X8_tellsOne C hr H0 H1 H2 H3 h)
    · exact fun {_} {_} {_} {_} {_}  h => CM_of (by decide +kernel) (Nat.le_of_ble_eq_true rfl) (fun p e s m args below meth c C hr => w_X8_tellsLess C hr H0 H1 H2 H3 h)
    · exact fun {_} {_} {_} {_} {_}  h => CM_of (by decide +kernel) (Nat.le_of_ble_eq_true rfl) (fun p e s m args below meth c C hr => w_X8_tellsBracket C hr H0 H1 H2 H3 h)
set_option maxHeartbeats 4000000 in
set_option maxRecDepth 100000 in
theorem c_X8_tellsJoined {l : Launch} {g : GG} {ad : Nat → Nat} {a0 : Int32} {a1 : Int32} {I : HI} {J : HJ} {r : Int32} {I1 : HI} (h : f_X8_tellsJoined 40 a0 a1 I J = some (r, I1)) : CM l yX8_tellsJoined cX8_tellsJoined 6 (some .boolean) (rmk 46 1797) g ad nO oR [.ref (ad 59), .int a0, .int a1] I J (QAi g ad nO oR r I1 J) := (gc_X8_tellsJoined 40).1 h
set_option maxHeartbeats 4000000 in
set_option maxRecDepth 100000 in
theorem c_X8_tellsOne {l : Launch} {g : GG} {ad : Nat → Nat} {a0 : Int32} {I : HI} {J : HJ} {r : Int32} {I1 : HI} (h : f_X8_tellsOne 40 a0 I J = some (r, I1)) : CM l yX8_tellsOne cX8_tellsOne 2 (some .boolean) (rmk 46 1797) g ad nO oR [.ref (ad 59), .int a0] I J (QAi g ad nO oR r I1 J) := (gc_X8_tellsJoined 40).2.1 h
set_option maxHeartbeats 4000000 in
set_option maxRecDepth 100000 in
theorem c_X8_tellsLess {l : Launch} {g : GG} {ad : Nat → Nat} {a0 : Int32} {I : HI} {J : HJ} {r : Int32} {I1 : HI} (h : f_X8_tellsLess 40 a0 I J = some (r, I1)) : CM l yX8_tellsLess cX8_tellsLess 2 (some .boolean) (rmk 46 1797) g ad nO oR [.ref (ad 59), .int a0] I J (QAi g ad nO oR r I1 J) := (gc_X8_tellsJoined 40).2.2.1 h
set_option maxHeartbeats 4000000 in
set_option maxRecDepth 100000 in
theorem c_X8_tellsBracket {l : Launch} {g : GG} {ad : Nat → Nat} {a0 : Int32} {I : HI} {J : HJ} {r : Int32} {I1 : HI} (h : f_X8_tellsBracket 40 a0 I J = some (r, I1)) : CM l yX8_tellsBracket cX8_tellsBracket 2 (some .boolean) (rmk 46 1797) g ad nO oR [.ref (ad 59), .int a0] I J (QAi g ad nO oR r I1 J) := (gc_X8_tellsJoined 40).2.2.2 h
set_option maxHeartbeats 4000000 in
set_option maxRecDepth 100000 in
theorem w_X8_tellsLaw {l : Launch} {g : GG} {ad : Nat → Nat} {p : Program} {e : Env} {s : State} {m : MethodId} {args : Array Value} {below : List Frame} {meth : Method} {c : Code} {z : Int32 × HI} (C : Cx p s m args meth c RX8 cX8_tellsLaw 1 g (AW ad nO)) (hr : meth.sig.returnType = (some .boolean)) {I : HI} {J : HJ} (h : f_X8_tellsLaw I J = some z) : V p l e (rmk 47 1822) s m args below meth c (MQ below (QAi g ad nO oR z.1 z.2 J) args s 0 0 (AW ad nO)) 1 0 0 g (AW ad nO) ad nO oR I J 0 [(0, .ref (ad 59))] [] := by
  unfold f_X8_tellsLaw at h
  refine r_aload_n C 0 rfl rfl dX8_tellsLaw_0 ?_
  refine r_aload_n C 0 rfl rfl dX8_tellsLaw_1 ?_
  refine r_ldcS C 0 (by decide) dX8_tellsLaw_2 ?_
  obtain ⟨r13, hq14, h⟩ := bd1_ h
  refine r_cvi C (rest := [.ref (ad 59)]) (c_X8_placeAmong (by decide) hq14) fm_X8_placeAmong lk_X8_45 o_59 ⟨_, ct_7 o_59.1⟩ rfl rfl ⟨rfl, rfl, Nat.le_of_ble_eq_true rfl, Nat.le_of_ble_eq_true rfl⟩ (Nat.le_of_ble_eq_true rfl) rfl dX8_tellsLaw_4 ?_
  refine pf_X8_49 C o_59 dX8_tellsLaw_7 ?_
  refine r_nmI h (fun I15 h => ?_)
  refine r_aload_n C 0 rfl rfl dX8_tellsLaw_10 ?_
  refine gf_X8_49 C o_59 dX8_tellsLaw_11 ?_
  refine r_if_ge C (tgt := 19) h dX8_tellsLaw_14 (by decide) (fun h => ?_) (fun h => ?_)
  · refine r_aload_n C 0 rfl rfl dX8_tellsLaw_19 ?_
    refine gf_X8_10 C rf0 o_59 (q := 60) rfl dX8_tellsLaw_20 ?_
    refine r_aload_n C 0 rfl rfl dX8_tellsLaw_23 ?_
    refine gf_X8_49 C o_59 dX8_tellsLaw_24 ?_
    obtain ⟨I16, hq17, h⟩ := bd1_ h
    refine r_cvv C (rest := []) (c_X2_tellAnew rf0 o_60 hq17) fm_X2_tellAnew lk_X8_52 o_60 ⟨_, ct_1 o_60.1⟩ rfl rfl ⟨rfl, rfl, Nat.le_of_ble_eq_true rfl, Nat.le_of_ble_eq_true rfl⟩ (Nat.le_of_ble_eq_true rfl) rfl dX8_tellsLaw_27 ?_
    refine r_aload_n C 0 rfl rfl dX8_tellsLaw_30 ?_
    obtain ⟨I18, hq19, h⟩ := bd1_ h
    refine r_cvv C (rest := []) (c_X8_goToNext  hq19) fm_X8_goToNext lk_X8_33 o_59 ⟨_, ct_7 o_59.1⟩ rfl rfl ⟨rfl, rfl, Nat.le_of_ble_eq_true rfl, Nat.le_of_ble_eq_true rfl⟩ (Nat.le_of_ble_eq_true rfl) rfl dX8_tellsLaw_31 ?_
    refine r_aload_n C 0 rfl rfl dX8_tellsLaw_34 ?_
    refine r_iconst C (v := 0) (by decide) dX8_tellsLaw_35 ?_
    refine r_iconst C (v := 0) (by decide) dX8_tellsLaw_36 ?_
    obtain ⟨r20, I21, hq22, h⟩ := bd2_ h
    refine r_cvi C (rest := []) (c_X8_tellsJoined  hq22) fm_X8_tellsJoined lk_X8_56 o_59 ⟨_, ct_7 o_59.1⟩ rfl rfl ⟨rfl, rfl, Nat.le_of_ble_eq_true rfl, Nat.le_of_ble_eq_true rfl⟩ (Nat.le_of_ble_eq_true rfl) rfl dX8_tellsLaw_37 ?_
    refine r_if_eq C (tgt := 52) h dX8_tellsLaw_40 (by decide) (fun h => ?_) (fun h => ?_)
    · refine r_iconst C (v := 0) (by decide) dX8_tellsLaw_52 ?_
      have hz9 := Option.some.inj h
      subst hz9
      exact r_zret C (v := (0 : Int32)) rfl hr dX8_tellsLaw_53
    · refine r_aload_n C 0 rfl rfl dX8_tellsLaw_43 ?_
      refine gf_X8_36 C o_59 dX8_tellsLaw_44 ?_
      refine r_bipush C (v := 59) (by decide) dX8_tellsLaw_47 ?_
      refine r_icmp_eq C (tgt := 54) h dX8_tellsLaw_49 (by decide) (fun h => ?_) (fun h => ?_)
      · refine r_aload_n C 0 rfl rfl dX8_tellsLaw_54 ?_
        obtain ⟨I23, hq24, h⟩ := bd1_ h
        refine r_cvv C (rest := []) (c_X8_goToNext  hq24) fm_X8_goToNext lk_X8_33 o_59 ⟨_, ct_7 o_59.1⟩ rfl rfl ⟨rfl, rfl, Nat.le_of_ble_eq_true rfl, Nat.le_of_ble_eq_true rfl⟩ (Nat.le_of_ble_eq_true rfl) rfl dX8_tellsLaw_55 ?_
        refine r_iconst C (v := 1) (by decide) dX8_tellsLaw_58 ?_
        have hz9 := Option.some.inj h
        subst hz9
        exact r_zret C (v := (1 : Int32)) rfl hr dX8_tellsLaw_59
      · refine r_iconst C (v := 0) (by decide) dX8_tellsLaw_52 ?_
        have hz9 := Option.some.inj h
        subst hz9
        exact r_zret C (v := (0 : Int32)) rfl hr dX8_tellsLaw_53
  · refine r_iconst C (v := 0) (by decide) dX8_tellsLaw_17 ?_
    have hz9 := Option.some.inj h
    subst hz9
    exact r_zret C (v := (0 : Int32)) rfl hr dX8_tellsLaw_18
set_option maxHeartbeats 4000000 in
set_option maxRecDepth 100000 in
theorem c_X8_tellsLaw {l : Launch} {g : GG} {ad : Nat → Nat} {I : HI} {J : HJ} {r : Int32} {I1 : HI} (h : f_X8_tellsLaw I J = some (r, I1)) : CM l yX8_tellsLaw cX8_tellsLaw 1 (some .boolean) (rmk 47 1822) g ad nO oR [.ref (ad 59)] I J (QAi g ad nO oR r I1 J) :=
  CM_of (by decide +kernel) (Nat.le_of_ble_eq_true rfl) (fun p e s m args below meth c C hr => w_X8_tellsLaw C hr h)
set_option maxHeartbeats 4000000 in
set_option maxRecDepth 100000 in
theorem wB_X8_tellsLaws_49 {l : Launch} {g : GG} {ad : Nat → Nat} {p : Program} {e : Env} {s : State} {m : MethodId} {args : Array Value} {below : List Frame} {meth : Method} {c : Code} {z : Int32 × HI} (C : Cx p s m args meth c RX8 cX8_tellsLaws 2 g (AW ad nO)) (hr : meth.sig.returnType = (some .boolean)) {J : HJ}  {I : HI} (h : fB_X8_tellsLaws_49 I J = some z) : V p l e (rmk 48 1842) s m args below meth c (MQ below (QAi g ad nO oR z.1 z.2 J) args s 0 0 (AW ad nO)) 2 0 0 g (AW ad nO) ad nO oR I J 49 [(0, .ref (ad 59))] [] := by
  unfold fB_X8_tellsLaws_49 at h
  refine r_aload_n C 0 rfl rfl dX8_tellsLaws_49 ?_
  refine gf_X8_36 C o_59 dX8_tellsLaws_50 ?_
  refine r_sipush C (v := 256) (by decide) dX8_tellsLaws_53 ?_
  refine r_icmp_ne C (tgt := 63) h dX8_tellsLaws_56 (by decide) (fun h => ?_) (fun h => ?_)
  · refine r_iconst C (v := 0) (by decide) dX8_tellsLaws_63 ?_
    have hz9 := Option.some.inj h
    subst hz9
    exact r_zret C (v := (0 : Int32)) rfl hr dX8_tellsLaws_64
  · refine r_iconst C (v := 1) (by decide) dX8_tellsLaws_59 ?_
    refine r_goto C (tgt := 64) dX8_tellsLaws_60 (by decide) ?_
    have hz9 := Option.some.inj h
    subst hz9
    exact r_zret C (v := (1 : Int32)) rfl hr dX8_tellsLaws_64
set_option maxHeartbeats 4000000 in
set_option maxRecDepth 100000 in
theorem wLB_X8_tellsLaws_18 {l : Launch} {g : GG} {ad : Nat → Nat} {p : Program} {e : Env} {s : State} {m : MethodId} {args : Array Value} {below : List Frame} {meth : Method} {c : Code} {z : Int32 × HI} (C : Cx p s m args meth c RX8 cX8_tellsLaws 2 g (AW ad nO)) (hr : meth.sig.returnType = (some .boolean)) {J : HJ}  {r_18 : Int32 → HI → HJ → Option (Int32 × HI)} (hr_18 : ∀ {x1 : Int32} {I : HI}, r_18 x1 I J = some z → V p l e (rmk 48 1842) s m args below meth c (MQ below (QAi g ad nO oR z.1 z.2 J) args s 0 0 (AW ad nO)) 2 0 0 g (AW ad nO) ad nO oR I J 18 [(0, .ref (ad 59)), (1, .int x1)] []) {x1 : Int32} {I : HI} (h : fLB_X8_tellsLaws_18 r_18 x1 I J = some z) : V p l e (rmk 48 1842) s m args below meth c (MQ below (QAi g ad nO oR z.1 z.2 J) args s 0 0 (AW ad nO)) 2 0 0 g (AW ad nO) ad nO oR I J 18 [(0, .ref (ad 59)), (1, .int x1)] [] := by
  unfold fLB_X8_tellsLaws_18 at h
  refine r_iload_n C 1 rfl rfl dX8_tellsLaws_18 ?_
  refine r_bipush C (v := 8) (by decide) dX8_tellsLaws_19 ?_
  refine r_icmp_ge C (tgt := 49) h dX8_tellsLaws_21 (by decide) (fun h => ?_) (fun h => ?_)
  · exact r_sub [0] rfl (wB_X8_tellsLaws_49 C hr  h)
  · refine r_aload_n C 0 rfl rfl dX8_tellsLaws_24 ?_
    refine gf_X8_36 C o_59 dX8_tellsLaws_25 ?_
    refine r_sipush C (v := 256) (by decide) dX8_tellsLaws_28 ?_
    refine r_icmp_eq C (tgt := 49) h dX8_tellsLaws_31 (by decide) (fun h => ?_) (fun h => ?_)
    · exact r_sub [0] rfl (wB_X8_tellsLaws_49 C hr  h)
    · refine r_aload_n C 0 rfl rfl dX8_tellsLaws_34 ?_
      obtain ⟨r10, I11, hq12, h⟩ := bd2_ h
      refine r_cvi C (rest := []) (c_X8_tellsLaw  hq12) fm_X8_tellsLaw lk_X8_39 o_59 ⟨_, ct_7 o_59.1⟩ rfl rfl ⟨rfl, rfl, Nat.le_of_ble_eq_true rfl, Nat.le_of_ble_eq_true rfl⟩ (Nat.le_of_ble_eq_true rfl) rfl dX8_tellsLaws_35 ?_
      refine r_if_ne C (tgt := 43) h dX8_tellsLaws_38 (by decide) (fun h => ?_) (fun h => ?_)
      · refine r_iincN C h (k := 1) (zz := 1) rfl rfl (by decide) (lv1 := fun v13 => [(1, .int v13), (0, .ref (ad 59))]) (fun _ => rfl) dX8_tellsLaws_43 (fun v13 h => ?_)
        refine r_goto C (tgt := 18) dX8_tellsLaws_46 (by decide) ?_
        exact r_sub [1, 0] rfl (hr_18  h)
      · refine r_iconst C (v := 0) (by decide) dX8_tellsLaws_41 ?_
        have hz9 := Option.some.inj h
        subst hz9
        exact r_zret C (v := (0 : Int32)) rfl hr dX8_tellsLaws_42
set_option maxHeartbeats 4000000 in
set_option maxRecDepth 100000 in
theorem wL_X8_tellsLaws_18 {l : Launch} {g : GG} {ad : Nat → Nat} {p : Program} {e : Env} {s : State} {m : MethodId} {args : Array Value} {below : List Frame} {meth : Method} {c : Code} {z : Int32 × HI} (C : Cx p s m args meth c RX8 cX8_tellsLaws 2 g (AW ad nO)) (hr : meth.sig.returnType = (some .boolean)) {J : HJ}  : ∀ (f : Nat) {x1 : Int32} {I : HI}, fL_X8_tellsLaws_18 f x1 I J = some z → V p l e (rmk 48 1842) s m args below meth c (MQ below (QAi g ad nO oR z.1 z.2 J) args s 0 0 (AW ad nO)) 2 0 0 g (AW ad nO) ad nO oR I J 18 [(0, .ref (ad 59)), (1, .int x1)] [] := by
  intro f
  induction f with
  | zero =>
    intro _ _  h
    have h0 : (none : Option (Int32 × HI)) = some z := h
    cases h0
  | succ f ih =>
    intro _ _  h
    exact wLB_X8_tellsLaws_18 C hr ih  h
set_option maxHeartbeats 4000000 in
set_option maxRecDepth 100000 in
theorem w_X8_tellsLaws {l : Launch} {g : GG} {ad : Nat → Nat} {p : Program} {e : Env} {s : State} {m : MethodId} {args : Array Value} {below : List Frame} {meth : Method} {c : Code} {z : Int32 × HI} (C : Cx p s m args meth c RX8 cX8_tellsLaws 2 g (AW ad nO)) (hr : meth.sig.returnType = (some .boolean)) {I : HI} {J : HJ} (h : f_X8_tellsLaws I J = some z) : V p l e (rmk 48 1842) s m args below meth c (MQ below (QAi g ad nO oR z.1 z.2 J) args s 0 0 (AW ad nO)) 2 0 0 g (AW ad nO) ad nO oR I J 0 [(0, .ref (ad 59))] [] := by
  unfold f_X8_tellsLaws at h
  refine r_aload_n C 0 rfl rfl dX8_tellsLaws_0 ?_
  refine gf_X8_10 C rf0 o_59 (q := 60) rfl dX8_tellsLaws_1 ?_
  obtain ⟨I14, hq15, h⟩ := bd1_ h
  refine r_cvv C (rest := []) (c_X2_becomeAsAtFirst rf0 o_60 hq15) fm_X2_becomeAsAtFirst lk_X8_27 o_60 ⟨_, ct_1 o_60.1⟩ rfl rfl ⟨rfl, rfl, Nat.le_of_ble_eq_true rfl, Nat.le_of_ble_eq_true rfl⟩ (Nat.le_of_ble_eq_true rfl) rfl dX8_tellsLaws_4 ?_
  refine r_aload_n C 0 rfl rfl dX8_tellsLaws_7 ?_
  refine r_iconst C (v := 0) (by decide) dX8_tellsLaws_8 ?_
  refine pf_X8_30 C o_59 dX8_tellsLaws_9 ?_
  refine r_nmI h (fun I16 h => ?_)
  refine r_aload_n C 0 rfl rfl dX8_tellsLaws_12 ?_
  obtain ⟨I17, hq18, h⟩ := bd1_ h
  refine r_cvv C (rest := []) (c_X8_goToNext  hq18) fm_X8_goToNext lk_X8_33 o_59 ⟨_, ct_7 o_59.1⟩ rfl rfl ⟨rfl, rfl, Nat.le_of_ble_eq_true rfl, Nat.le_of_ble_eq_true rfl⟩ (Nat.le_of_ble_eq_true rfl) rfl dX8_tellsLaws_13 ?_
  refine r_iconst C (v := 0) (by decide) dX8_tellsLaws_16 ?_
  refine r_istore_n C (lv1 := [(1, .int (0 : Int32)), (0, .ref (ad 59))]) rfl (by decide) rfl dX8_tellsLaws_17 ?_
  exact r_sub [1, 0] rfl (wL_X8_tellsLaws_18 C hr _  h)
set_option maxHeartbeats 4000000 in
set_option maxRecDepth 100000 in
theorem c_X8_tellsLaws {l : Launch} {g : GG} {ad : Nat → Nat} {I : HI} {J : HJ} {r : Int32} {I1 : HI} (h : f_X8_tellsLaws I J = some (r, I1)) : CM l yX8_tellsLaws cX8_tellsLaws 2 (some .boolean) (rmk 48 1842) g ad nO oR [.ref (ad 59)] I J (QAi g ad nO oR r I1 J) :=
  CM_of (by decide +kernel) (Nat.le_of_ble_eq_true rfl) (fun p e s m args below meth c C hr => w_X8_tellsLaws C hr h)
set_option maxHeartbeats 4000000 in
set_option maxRecDepth 100000 in
theorem w_X9_size {l : Launch} {g : GG} {ad : Nat → Nat} {p : Program} {e : Env} {s : State} {m : MethodId} {args : Array Value} {below : List Frame} {meth : Method} {c : Code} {k : Nat} {z : Int32} (C : Cx p s m args meth c RX9 cX9_size 1 g (AW ad nO)) (hr : meth.sig.returnType = (some .int)) (hk : OB nO k 8) {I : HI} {J : HJ} (h : f_X9_size k I J = some z) : V p l e (rmk 0 0) s m args below meth c (MQ below (QAi g ad nO oR z I J) args s 0 0 (AW ad nO)) 1 0 0 g (AW ad nO) ad nO oR I J 0 [(0, .ref (ad k))] [] := by
  unfold f_X9_size at h
  refine r_aload_n C 0 rfl rfl dX9_size_0 ?_
  refine gf_X9_13 C hk dX9_size_1 ?_
  have hz9 := Option.some.inj h
  subst hz9
  exact r_iret C hr dX9_size_4
set_option maxHeartbeats 4000000 in
set_option maxRecDepth 100000 in
theorem c_X9_size {l : Launch} {g : GG} {ad : Nat → Nat} {k : Nat} {I : HI} {J : HJ} {r : Int32} (hk : OB nO k 8) (h : f_X9_size k I J = some r) : CM l yX9_size cX9_size 1 (some .int) (rmk 0 0) g ad nO oR [.ref (ad k)] I J (QAi g ad nO oR r I J) :=
  CM_of (by decide +kernel) (Nat.le_of_ble_eq_true rfl) (fun p e s m args below meth c C hr => w_X9_size C hr hk h)

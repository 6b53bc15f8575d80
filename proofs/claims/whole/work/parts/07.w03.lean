set_option maxHeartbeats 4000000 in
set_option maxRecDepth 100000 in
theorem w_X9_has {l : Launch} {g : GG} {ad : Nat → Nat} {p : Program} {e : Env} {s : State} {m : MethodId} {args : Array Value} {below : List Frame} {meth : Method} {c : Code} {k : Nat} {a0 : Int32} {z : Int32} (C : Cx p s m args meth c RX9 cX9_has 2 g (AW ad nO)) (hr : meth.sig.returnType = (some .boolean)) (hk : OB nO k 8) {I : HI} {J : HJ} (h : f_X9_has k a0 I J = some z) : V p l e (rmk 0 0) s m args below meth c (MQ below (QAi g ad nO oR z I J) args s 0 0 (AW ad nO)) 2 0 0 g (AW ad nO) ad nO oR I J 0 [(0, .ref (ad k)), (1, .int a0)] [] := by
  unfold f_X9_has at h
  refine r_iload_n C 1 rfl rfl dX9_has_0 ?_
  refine r_if_lt C (tgt := 16) h dX9_has_1 (by decide) (fun h => ?_) (fun h => ?_)
  · refine r_iconst C (v := 0) (by decide) dX9_has_16 ?_
    have hz9 := Option.some.inj h
    subst hz9
    exact r_zret C (v := (0 : Int32)) rfl hr dX9_has_17
  · refine r_iload_n C 1 rfl rfl dX9_has_4 ?_
    refine r_aload_n C 0 rfl rfl dX9_has_5 ?_
    refine gf_X9_13 C hk dX9_has_6 ?_
    refine r_icmp_ge C (tgt := 16) h dX9_has_9 (by decide) (fun h => ?_) (fun h => ?_)
    · refine r_iconst C (v := 0) (by decide) dX9_has_16 ?_
      have hz9 := Option.some.inj h
      subst hz9
      exact r_zret C (v := (0 : Int32)) rfl hr dX9_has_17
    · refine r_iconst C (v := 1) (by decide) dX9_has_12 ?_
      refine r_goto C (tgt := 17) dX9_has_13 (by decide) ?_
      have hz9 := Option.some.inj h
      subst hz9
      exact r_zret C (v := (1 : Int32)) rfl hr dX9_has_17
set_option maxHeartbeats 4000000 in
set_option maxRecDepth 100000 in
theorem c_X9_has {l : Launch} {g : GG} {ad : Nat → Nat} {k : Nat} {a0 : Int32} {I : HI} {J : HJ} {r : Int32} (hk : OB nO k 8) (h : f_X9_has k a0 I J = some r) : CM l yX9_has cX9_has 2 (some .boolean) (rmk 0 0) g ad nO oR [.ref (ad k), .int a0] I J (QAi g ad nO oR r I J) :=
  CM_of (by decide +kernel) (Nat.le_of_ble_eq_true rfl) (fun p e s m args below meth c C hr => w_X9_has C hr hk h)
set_option maxHeartbeats 4000000 in
set_option maxRecDepth 100000 in
theorem w_X9_at {l : Launch} {g : GG} {ad : Nat → Nat} {p : Program} {e : Env} {s : State} {m : MethodId} {args : Array Value} {below : List Frame} {meth : Method} {c : Code} {k : Nat} {a0 : Int32} {z : Int32} (C : Cx p s m args meth c RX9 cX9_at 2 g (AW ad nO)) (hr : meth.sig.returnType = (some .int)) (hk : OB nO k 8) {I : HI} {J : HJ} (h : f_X9_at k a0 I J = some z) : V p l e (rmk 1 21) s m args below meth c (MQ below (QAi g ad nO oR z I J) args s 0 0 (AW ad nO)) 2 0 0 g (AW ad nO) ad nO oR I J 0 [(0, .ref (ad k)), (1, .int a0)] [] := by
  unfold f_X9_at at h
  refine r_aload_n C 0 rfl rfl dX9_at_0 ?_
  refine r_iload_n C 1 rfl rfl dX9_at_1 ?_
  obtain ⟨r3, hq4, h⟩ := bd1_ h
  refine r_cvi C (rest := []) (c_X9_has hk hq4) fm_X9_has lk_X9_17 hk ⟨_, ct_8 hk.1⟩ rfl rfl ⟨rfl, rfl, Nat.le_of_ble_eq_true rfl, Nat.le_of_ble_eq_true rfl⟩ (Nat.le_of_ble_eq_true rfl) rfl dX9_at_2 ?_
  refine r_if_eq C (tgt := 23) h dX9_at_5 (by decide) (fun h => ?_) (fun h => ?_)
  · refine r_iconst C (v := 0) (by decide) dX9_at_23 ?_
    have hz9 := Option.some.inj h
    subst hz9
    exact r_iret C hr dX9_at_24
  · refine r_iload_n C 1 rfl rfl dX9_at_8 ?_
    refine r_bipush C (v := 60) (by decide) dX9_at_9 ?_
    refine r_icmp_ge C (tgt := 23) h dX9_at_11 (by decide) (fun h => ?_) (fun h => ?_)
    · refine r_iconst C (v := 0) (by decide) dX9_at_23 ?_
      have hz9 := Option.some.inj h
      subst hz9
      exact r_iret C hr dX9_at_24
    · refine r_aload_n C 0 rfl rfl dX9_at_14 ?_
      refine gf_X9_9 C rf0 hk (q := (rfn k 0)) rfl dX9_at_15 ?_
      refine r_iload_n C 1 rfl rfl dX9_at_18 ?_
      refine r_iald C (ob_8_0 rf0 hk) h dX9_at_19 (fun h => ?_)
      refine r_goto C (tgt := 24) dX9_at_20 (by decide) ?_
      have hz9 := Option.some.inj h
      subst hz9
      exact r_iret C hr dX9_at_24
set_option maxHeartbeats 4000000 in
set_option maxRecDepth 100000 in
theorem c_X9_at {l : Launch} {g : GG} {ad : Nat → Nat} {k : Nat} {a0 : Int32} {I : HI} {J : HJ} {r : Int32} (hk : OB nO k 8) (h : f_X9_at k a0 I J = some r) : CM l yX9_at cX9_at 2 (some .int) (rmk 1 21) g ad nO oR [.ref (ad k), .int a0] I J (QAi g ad nO oR r I J) :=
  CM_of (by decide +kernel) (Nat.le_of_ble_eq_true rfl) (fun p e s m args below meth c C hr => w_X9_at C hr hk h)
set_option maxHeartbeats 4000000 in
set_option maxRecDepth 100000 in
theorem wLB_X9_comesAgainBy_4 {l : Launch} {g : GG} {ad : Nat → Nat} {p : Program} {e : Env} {s : State} {m : MethodId} {args : Array Value} {below : List Frame} {meth : Method} {c : Code} {k : Nat} {a0 : Int32} {a1 : Int32} {z : Int32} (C : Cx p s m args meth c RX9 cX9_comesAgainBy 4 g (AW ad nO)) (hr : meth.sig.returnType = (some .boolean)) (hk : OB nO k 8) {I : HI} {J : HJ}  {r_4 : Int32 → HI → HJ → Option (Int32)} (hr_4 : ∀ {x3 : Int32}, r_4 x3 I J = some z → V p l e (rmk 2 42) s m args below meth c (MQ below (QAi g ad nO oR z I J) args s 0 0 (AW ad nO)) 4 0 0 g (AW ad nO) ad nO oR I J 4 [(0, .ref (ad k)), (1, .int a0), (3, .int x3)] []) {x3 : Int32} (h : fLB_X9_comesAgainBy_4 k a0 a1 r_4 x3 I J = some z) : V p l e (rmk 2 42) s m args below meth c (MQ below (QAi g ad nO oR z I J) args s 0 0 (AW ad nO)) 4 0 0 g (AW ad nO) ad nO oR I J 4 [(0, .ref (ad k)), (1, .int a0), (3, .int x3)] [] := by
  unfold fLB_X9_comesAgainBy_4 at h
  refine r_iload_n C 2 rfl rfl dX9_comesAgainBy_4 ?_
  refine r_aload_n C 0 rfl rfl dX9_comesAgainBy_5 ?_
  refine gf_X9_13 C hk dX9_comesAgainBy_6 ?_
  refine r_icmp_ge C (tgt := 35) h dX9_comesAgainBy_9 (by decide) (fun h => ?_) (fun h => ?_)
  · refine r_iconst C (v := 1) (by decide) dX9_comesAgainBy_35 ?_
    have hz9 := Option.some.inj h
    subst hz9
    exact r_zret C (v := (1 : Int32)) rfl hr dX9_comesAgainBy_36
  · refine r_aload_n C 0 rfl rfl dX9_comesAgainBy_12 ?_
    refine r_iload_n C 2 rfl rfl dX9_comesAgainBy_13 ?_
    obtain ⟨r7, hq8, h⟩ := bd1_ h
    refine r_cvi C (rest := []) (c_X9_at hk hq8) fm_X9_at lk_X9_35 hk ⟨_, ct_8 hk.1⟩ rfl rfl ⟨rfl, rfl, Nat.le_of_ble_eq_true rfl, Nat.le_of_ble_eq_true rfl⟩ (Nat.le_of_ble_eq_true rfl) rfl dX9_comesAgainBy_14 ?_
    refine r_aload_n C 0 rfl rfl dX9_comesAgainBy_17 ?_
    refine r_iload_n C 2 rfl rfl dX9_comesAgainBy_18 ?_
    refine r_iload_n C 1 rfl rfl dX9_comesAgainBy_19 ?_
    refine r_isub C dX9_comesAgainBy_20 ?_
    obtain ⟨r9, hq10, h⟩ := bd1_ h
    refine r_cvi C (rest := [.int r7]) (c_X9_at hk hq10) fm_X9_at lk_X9_35 hk ⟨_, ct_8 hk.1⟩ rfl rfl ⟨rfl, rfl, Nat.le_of_ble_eq_true rfl, Nat.le_of_ble_eq_true rfl⟩ (Nat.le_of_ble_eq_true rfl) rfl dX9_comesAgainBy_21 ?_
    refine r_icmp_eq C (tgt := 29) h dX9_comesAgainBy_24 (by decide) (fun h => ?_) (fun h => ?_)
    · refine r_iincN C h (k := 2) (zz := 1) rfl rfl (by decide) (lv1 := fun v11 => [(3, .int v11), (0, .ref (ad k)), (1, .int a0)]) (fun _ => rfl) dX9_comesAgainBy_29 (fun v11 h => ?_)
      refine r_goto C (tgt := 4) dX9_comesAgainBy_32 (by decide) ?_
      exact r_sub [1, 2, 0] rfl (hr_4  h)
    · refine r_iconst C (v := 0) (by decide) dX9_comesAgainBy_27 ?_
      have hz9 := Option.some.inj h
      subst hz9
      exact r_zret C (v := (0 : Int32)) rfl hr dX9_comesAgainBy_28
set_option maxHeartbeats 4000000 in
set_option maxRecDepth 100000 in
theorem wL_X9_comesAgainBy_4 {l : Launch} {g : GG} {ad : Nat → Nat} {p : Program} {e : Env} {s : State} {m : MethodId} {args : Array Value} {below : List Frame} {meth : Method} {c : Code} {k : Nat} {a0 : Int32} {a1 : Int32} {z : Int32} (C : Cx p s m args meth c RX9 cX9_comesAgainBy 4 g (AW ad nO)) (hr : meth.sig.returnType = (some .boolean)) (hk : OB nO k 8) {I : HI} {J : HJ}  : ∀ (f : Nat) {x3 : Int32}, fL_X9_comesAgainBy_4 k a0 a1 f x3 I J = some z → V p l e (rmk 2 42) s m args below meth c (MQ below (QAi g ad nO oR z I J) args s 0 0 (AW ad nO)) 4 0 0 g (AW ad nO) ad nO oR I J 4 [(0, .ref (ad k)), (1, .int a0), (3, .int x3)] [] := by
  intro f
  induction f with
  | zero =>
    intro _  h
    have h0 : (none : Option (Int32)) = some z := h
    cases h0
  | succ f ih =>
    intro _  h
    exact wLB_X9_comesAgainBy_4 C hr hk ih  h
set_option maxHeartbeats 4000000 in
set_option maxRecDepth 100000 in
theorem w_X9_comesAgainBy {l : Launch} {g : GG} {ad : Nat → Nat} {p : Program} {e : Env} {s : State} {m : MethodId} {args : Array Value} {below : List Frame} {meth : Method} {c : Code} {k : Nat} {a0 : Int32} {a1 : Int32} {z : Int32} (C : Cx p s m args meth c RX9 cX9_comesAgainBy 4 g (AW ad nO)) (hr : meth.sig.returnType = (some .boolean)) (hk : OB nO k 8) {I : HI} {J : HJ} (h : f_X9_comesAgainBy k a0 a1 I J = some z) : V p l e (rmk 2 42) s m args below meth c (MQ below (QAi g ad nO oR z I J) args s 0 0 (AW ad nO)) 4 0 0 g (AW ad nO) ad nO oR I J 0 [(0, .ref (ad k)), (1, .int a0), (2, .int a1)] [] := by
  unfold f_X9_comesAgainBy at h
  refine r_iload_n C 2 rfl rfl dX9_comesAgainBy_0 ?_
  refine r_iload_n C 1 rfl rfl dX9_comesAgainBy_1 ?_
  refine r_iadd C dX9_comesAgainBy_2 ?_
  refine r_nmi h (fun v12 h => ?_)
  refine r_istore_n C (lv1 := [(3, .int v12), (0, .ref (ad k)), (1, .int a0), (2, .int a1)]) rfl (by decide) rfl dX9_comesAgainBy_3 ?_
  exact r_sub [1, 2, 0] rfl (wL_X9_comesAgainBy_4 C hr hk _  h)
set_option maxHeartbeats 4000000 in
set_option maxRecDepth 100000 in
theorem c_X9_comesAgainBy {l : Launch} {g : GG} {ad : Nat → Nat} {k : Nat} {a0 : Int32} {a1 : Int32} {I : HI} {J : HJ} {r : Int32} (hk : OB nO k 8) (h : f_X9_comesAgainBy k a0 a1 I J = some r) : CM l yX9_comesAgainBy cX9_comesAgainBy 4 (some .boolean) (rmk 2 42) g ad nO oR [.ref (ad k), .int a0, .int a1] I J (QAi g ad nO oR r I J) :=
  CM_of (by decide +kernel) (Nat.le_of_ble_eq_true rfl) (fun p e s m args below meth c C hr => w_X9_comesAgainBy C hr hk h)
set_option maxHeartbeats 4000000 in
set_option maxRecDepth 100000 in
theorem wLB_X9_findPeriod_14 {l : Launch} {g : GG} {ad : Nat → Nat} {p : Program} {e : Env} {s : State} {m : MethodId} {args : Array Value} {below : List Frame} {meth : Method} {c : Code} {k : Nat} {z : Int32} (C : Cx p s m args meth c RX9 cX9_findPeriod 3 g (AW ad nO)) (hr : meth.sig.returnType = (some .int)) (hk : OB nO k 8) {I : HI} {J : HJ}  {r_14 : Int32 → Int32 → HI → HJ → Option (Int32)} (hr_14 : ∀ {x1 : Int32} {x2 : Int32}, r_14 x1 x2 I J = some z → V p l e (rmk 3 65) s m args below meth c (MQ below (QAi g ad nO oR z I J) args s 0 0 (AW ad nO)) 3 0 0 g (AW ad nO) ad nO oR I J 14 [(0, .ref (ad k)), (1, .int x1), (2, .int x2)] []) {x1 : Int32} {x2 : Int32} (h : fLB_X9_findPeriod_14 k r_14 x1 x2 I J = some z) : V p l e (rmk 3 65) s m args below meth c (MQ below (QAi g ad nO oR z I J) args s 0 0 (AW ad nO)) 3 0 0 g (AW ad nO) ad nO oR I J 14 [(0, .ref (ad k)), (1, .int x1), (2, .int x2)] [] := by
  unfold fLB_X9_findPeriod_14 at h
  refine r_iload_n C 2 rfl rfl dX9_findPeriod_14 ?_
  refine r_bipush C (v := 8) (by decide) dX9_findPeriod_15 ?_
  refine r_icmp_gt C (tgt := 49) h dX9_findPeriod_17 (by decide) (fun h => ?_) (fun h => ?_)
  · refine r_iconst C (v := 0) (by decide) dX9_findPeriod_49 ?_
    have hz9 := Option.some.inj h
    subst hz9
    exact r_iret C hr dX9_findPeriod_50
  · refine r_iload_n C 2 rfl rfl dX9_findPeriod_20 ?_
    refine r_iload_n C 1 rfl rfl dX9_findPeriod_21 ?_
    refine r_iconst C (v := 2) (by decide) dX9_findPeriod_22 ?_
    refine r_idivN C (by decide) dX9_findPeriod_23 ?_
    refine r_icmp_gt C (tgt := 49) h dX9_findPeriod_24 (by decide) (fun h => ?_) (fun h => ?_)
    · refine r_iconst C (v := 0) (by decide) dX9_findPeriod_49 ?_
      have hz9 := Option.some.inj h
      subst hz9
      exact r_iret C hr dX9_findPeriod_50
    · refine r_aload_n C 0 rfl rfl dX9_findPeriod_27 ?_
      refine r_iload_n C 2 rfl rfl dX9_findPeriod_28 ?_
      refine r_aload_n C 0 rfl rfl dX9_findPeriod_29 ?_
      refine gf_X9_13 C hk dX9_findPeriod_30 ?_
      refine r_iload_n C 1 rfl rfl dX9_findPeriod_33 ?_
      refine r_pc (pc1 := 34) rfl ?_
      refine r_isub C dX9_findPeriod_34 ?_
      obtain ⟨r5, hq6, h⟩ := bd1_ h
      refine r_cvi C (rest := []) (c_X9_comesAgainBy hk hq6) fm_X9_comesAgainBy lk_X9_31 hk ⟨_, ct_8 hk.1⟩ rfl rfl ⟨rfl, rfl, Nat.le_of_ble_eq_true rfl, Nat.le_of_ble_eq_true rfl⟩ (Nat.le_of_ble_eq_true rfl) rfl dX9_findPeriod_35 ?_
      refine r_if_eq C (tgt := 43) h dX9_findPeriod_38 (by decide) (fun h => ?_) (fun h => ?_)
      · refine r_iincN C h (k := 2) (zz := 1) rfl rfl (by decide) (lv1 := fun v7 => [(2, .int v7), (0, .ref (ad k)), (1, .int x1)]) (fun _ => rfl) dX9_findPeriod_43 (fun v7 h => ?_)
        refine r_goto C (tgt := 14) dX9_findPeriod_46 (by decide) ?_
        exact r_sub [1, 2, 0] rfl (hr_14  h)
      · refine r_iload_n C 2 rfl rfl dX9_findPeriod_41 ?_
        have hz9 := Option.some.inj h
        subst hz9
        exact r_iret C hr dX9_findPeriod_42
set_option maxHeartbeats 4000000 in
set_option maxRecDepth 100000 in
theorem wL_X9_findPeriod_14 {l : Launch} {g : GG} {ad : Nat → Nat} {p : Program} {e : Env} {s : State} {m : MethodId} {args : Array Value} {below : List Frame} {meth : Method} {c : Code} {k : Nat} {z : Int32} (C : Cx p s m args meth c RX9 cX9_findPeriod 3 g (AW ad nO)) (hr : meth.sig.returnType = (some .int)) (hk : OB nO k 8) {I : HI} {J : HJ}  : ∀ (f : Nat) {x1 : Int32} {x2 : Int32}, fL_X9_findPeriod_14 k f x1 x2 I J = some z → V p l e (rmk 3 65) s m args below meth c (MQ below (QAi g ad nO oR z I J) args s 0 0 (AW ad nO)) 3 0 0 g (AW ad nO) ad nO oR I J 14 [(0, .ref (ad k)), (1, .int x1), (2, .int x2)] [] := by
  intro f
  induction f with
  | zero =>
    intro _ _  h
    have h0 : (none : Option (Int32)) = some z := h
    cases h0
  | succ f ih =>
    intro _ _  h
    exact wLB_X9_findPeriod_14 C hr hk ih  h
set_option maxHeartbeats 4000000 in
set_option maxRecDepth 100000 in
theorem w_X9_findPeriod {l : Launch} {g : GG} {ad : Nat → Nat} {p : Program} {e : Env} {s : State} {m : MethodId} {args : Array Value} {below : List Frame} {meth : Method} {c : Code} {k : Nat} {z : Int32} (C : Cx p s m args meth c RX9 cX9_findPeriod 3 g (AW ad nO)) (hr : meth.sig.returnType = (some .int)) (hk : OB nO k 8) {I : HI} {J : HJ} (h : f_X9_findPeriod k I J = some z) : V p l e (rmk 3 65) s m args below meth c (MQ below (QAi g ad nO oR z I J) args s 0 0 (AW ad nO)) 3 0 0 g (AW ad nO) ad nO oR I J 0 [(0, .ref (ad k))] [] := by
  unfold f_X9_findPeriod at h
  refine r_aload_n C 0 rfl rfl dX9_findPeriod_0 ?_
  refine gf_X9_13 C hk dX9_findPeriod_1 ?_
  refine r_aload_n C 0 rfl rfl dX9_findPeriod_4 ?_
  refine gf_X9_13 C hk dX9_findPeriod_5 ?_
  refine r_iconst C (v := 2) (by decide) dX9_findPeriod_8 ?_
  refine r_pc (pc1 := 9) rfl ?_
  refine r_idivN C (by decide) dX9_findPeriod_9 ?_
  refine r_isub C dX9_findPeriod_10 ?_
  refine r_nmi h (fun v8 h => ?_)
  refine r_istore_n C (lv1 := [(1, .int v8), (0, .ref (ad k))]) rfl (by decide) rfl dX9_findPeriod_11 ?_
  refine r_iconst C (v := 1) (by decide) dX9_findPeriod_12 ?_
  refine r_istore_n C (lv1 := [(2, .int (1 : Int32)), (1, .int v8), (0, .ref (ad k))]) rfl (by decide) rfl dX9_findPeriod_13 ?_
  exact r_sub [2, 1, 0] rfl (wL_X9_findPeriod_14 C hr hk _  h)
set_option maxHeartbeats 4000000 in
set_option maxRecDepth 100000 in
theorem c_X9_findPeriod {l : Launch} {g : GG} {ad : Nat → Nat} {k : Nat} {I : HI} {J : HJ} {r : Int32} (hk : OB nO k 8) (h : f_X9_findPeriod k I J = some r) : CM l yX9_findPeriod cX9_findPeriod 3 (some .int) (rmk 3 65) g ad nO oR [.ref (ad k)] I J (QAi g ad nO oR r I J) :=
  CM_of (by decide +kernel) (Nat.le_of_ble_eq_true rfl) (fun p e s m args below meth c C hr => w_X9_findPeriod C hr hk h)
set_option maxHeartbeats 4000000 in
set_option maxRecDepth 100000 in
theorem w_X9_findKind {l : Launch} {g : GG} {ad : Nat → Nat} {p : Program} {e : Env} {s : State} {m : MethodId} {args : Array Value} {below : List Frame} {meth : Method} {c : Code} {k : Nat} {z : Int32} (C : Cx p s m args meth c RX9 cX9_findKind 1 g (AW ad nO)) (hr : meth.sig.returnType = (some .int)) (hk : OB nO k 8) {I : HI} {J : HJ} (h : f_X9_findKind k I J = some z) : V p l e (rmk 4 87) s m args below meth c (MQ below (QAi g ad nO oR z I J) args s 0 0 (AW ad nO)) 1 0 0 g (AW ad nO) ad nO oR I J 0 [(0, .ref (ad k))] [] := by
  unfold f_X9_findKind at h
  refine r_aload_n C 0 rfl rfl dX9_findKind_0 ?_
  refine gf_X9_13 C hk dX9_findKind_1 ?_
  refine r_if_ne C (tgt := 10) h dX9_findKind_4 (by decide) (fun h => ?_) (fun h => ?_)
  · refine r_aload_n C 0 rfl rfl dX9_findKind_10 ?_
    obtain ⟨r7, hq8, h⟩ := bd1_ h
    refine r_cvi C (rest := []) (c_X9_findPeriod hk hq8) fm_X9_findPeriod lk_X9_41 hk ⟨_, ct_8 hk.1⟩ rfl rfl ⟨rfl, rfl, Nat.le_of_ble_eq_true rfl, Nat.le_of_ble_eq_true rfl⟩ (Nat.le_of_ble_eq_true rfl) rfl dX9_findKind_11 ?_
    refine r_case h (fun hc9 h => ?_) (fun hc9 h => ?_)
    · refine r_tabIn C (tgt := 44) 1 hc9 dX9_findKind_14 (by decide) (by decide) rfl (by decide) ?_
      refine r_iconst C (v := 1) (by decide) dX9_findKind_44 ?_
      have hz9 := Option.some.inj h
      subst hz9
      exact r_iret C hr dX9_findKind_45
    refine r_case h (fun hc10 h => ?_) (fun hc10 h => ?_)
    · refine r_tabIn C (tgt := 46) 2 hc10 dX9_findKind_14 (by decide) (by decide) rfl (by decide) ?_
      refine r_iconst C (v := 2) (by decide) dX9_findKind_46 ?_
      have hz9 := Option.some.inj h
      subst hz9
      exact r_iret C hr dX9_findKind_47
    refine r_case h (fun hc11 h => ?_) (fun hc11 h => ?_)
    · refine r_tabIn C (tgt := 48) 3 hc11 dX9_findKind_14 (by decide) (by decide) rfl (by decide) ?_
      refine r_iconst C (v := 4) (by decide) dX9_findKind_48 ?_
      have hz9 := Option.some.inj h
      subst hz9
      exact r_iret C hr dX9_findKind_49
    refine r_case h (fun hc12 h => ?_) (fun hc12 h => ?_)
    · refine r_tabIn C (tgt := 50) 4 hc12 dX9_findKind_14 (by decide) (by decide) rfl (by decide) ?_
      refine r_iconst C (v := 3) (by decide) dX9_findKind_50 ?_
      have hz9 := Option.some.inj h
      subst hz9
      exact r_iret C hr dX9_findKind_51
    refine r_tabD C (tgt := 52) [1, 2, 3, 4] (r_nc hc9 rfl (r_nc hc10 rfl (r_nc hc11 rfl (r_nc hc12 rfl r_nc0)))) dX9_findKind_14 rfl (by decide) (by decide) ?_
    refine r_iconst C (v := 5) (by decide) dX9_findKind_52 ?_
    have hz9 := Option.some.inj h
    subst hz9
    exact r_iret C hr dX9_findKind_53
  · refine r_bipush C (v := 6) (by decide) dX9_findKind_7 ?_
    have hz9 := Option.some.inj h
    subst hz9
    exact r_iret C hr dX9_findKind_9
set_option maxHeartbeats 4000000 in
set_option maxRecDepth 100000 in
theorem c_X9_findKind {l : Launch} {g : GG} {ad : Nat → Nat} {k : Nat} {I : HI} {J : HJ} {r : Int32} (hk : OB nO k 8) (h : f_X9_findKind k I J = some r) : CM l yX9_findKind cX9_findKind 1 (some .int) (rmk 4 87) g ad nO oR [.ref (ad k)] I J (QAi g ad nO oR r I J) :=
  CM_of (by decide +kernel) (Nat.le_of_ble_eq_true rfl) (fun p e s m args below meth c C hr => w_X9_findKind C hr hk h)
set_option maxHeartbeats 4000000 in
set_option maxRecDepth 100000 in
theorem wLB_X9_isSameRun_3 {l : Launch} {g : GG} {ad : Nat → Nat} {p : Program} {e : Env} {s : State} {m : MethodId} {args : Array Value} {below : List Frame} {meth : Method} {c : Code} {k : Nat} {a0 : Int32} {a1 : Int32} {a2 : Int32} {z : Int32} (C : Cx p s m args meth c RX9 cX9_isSameRun 5 g (AW ad nO)) (hr : meth.sig.returnType = (some .boolean)) (hk : OB nO k 8) {I : HI} {J : HJ}  {r_3 : Int32 → HI → HJ → Option (Int32)} (hr_3 : ∀ {x4 : Int32}, r_3 x4 I J = some z → V p l e (rmk 2 42) s m args below meth c (MQ below (QAi g ad nO oR z I J) args s 0 0 (AW ad nO)) 5 0 0 g (AW ad nO) ad nO oR I J 3 [(0, .ref (ad k)), (1, .int a0), (2, .int a1), (3, .int a2), (4, .int x4)] []) {x4 : Int32} (h : fLB_X9_isSameRun_3 k a0 a1 a2 r_3 x4 I J = some z) : V p l e (rmk 2 42) s m args below meth c (MQ below (QAi g ad nO oR z I J) args s 0 0 (AW ad nO)) 5 0 0 g (AW ad nO) ad nO oR I J 3 [(0, .ref (ad k)), (1, .int a0), (2, .int a1), (3, .int a2), (4, .int x4)] [] := by
  unfold fLB_X9_isSameRun_3 at h
  refine r_iload C 4 rfl dX9_isSameRun_3 ?_
  refine r_iload_n C 3 rfl rfl dX9_isSameRun_5 ?_
  refine r_icmp_ge C (tgt := 36) h dX9_isSameRun_6 (by decide) (fun h => ?_) (fun h => ?_)
  · refine r_iconst C (v := 1) (by decide) dX9_isSameRun_36 ?_
    have hz9 := Option.some.inj h
    subst hz9
    exact r_zret C (v := (1 : Int32)) rfl hr dX9_isSameRun_37
  · refine r_aload_n C 0 rfl rfl dX9_isSameRun_9 ?_
    refine r_iload_n C 1 rfl rfl dX9_isSameRun_10 ?_
    refine r_iload C 4 rfl dX9_isSameRun_11 ?_
    refine r_iadd C dX9_isSameRun_13 ?_
    obtain ⟨r6, hq7, h⟩ := bd1_ h
    refine r_cvi C (rest := []) (c_X9_at hk hq7) fm_X9_at lk_X9_35 hk ⟨_, ct_8 hk.1⟩ rfl rfl ⟨rfl, rfl, Nat.le_of_ble_eq_true rfl, Nat.le_of_ble_eq_true rfl⟩ (Nat.le_of_ble_eq_true rfl) rfl dX9_isSameRun_14 ?_
    refine r_aload_n C 0 rfl rfl dX9_isSameRun_17 ?_
    refine r_iload_n C 2 rfl rfl dX9_isSameRun_18 ?_
    refine r_iload C 4 rfl dX9_isSameRun_19 ?_
    refine r_iadd C dX9_isSameRun_21 ?_
    obtain ⟨r8, hq9, h⟩ := bd1_ h
    refine r_cvi C (rest := [.int r6]) (c_X9_at hk hq9) fm_X9_at lk_X9_35 hk ⟨_, ct_8 hk.1⟩ rfl rfl ⟨rfl, rfl, Nat.le_of_ble_eq_true rfl, Nat.le_of_ble_eq_true rfl⟩ (Nat.le_of_ble_eq_true rfl) rfl dX9_isSameRun_22 ?_
    refine r_icmp_eq C (tgt := 30) h dX9_isSameRun_25 (by decide) (fun h => ?_) (fun h => ?_)
    · refine r_iincN C h (k := 4) (zz := 1) rfl rfl (by decide) (lv1 := fun v10 => [(4, .int v10), (0, .ref (ad k)), (1, .int a0), (2, .int a1), (3, .int a2)]) (fun _ => rfl) dX9_isSameRun_30 (fun v10 h => ?_)
      refine r_goto C (tgt := 3) dX9_isSameRun_33 (by decide) ?_
      exact r_sub [1, 2, 3, 4, 0] rfl (hr_3  h)
    · refine r_iconst C (v := 0) (by decide) dX9_isSameRun_28 ?_
      have hz9 := Option.some.inj h
      subst hz9
      exact r_zret C (v := (0 : Int32)) rfl hr dX9_isSameRun_29
set_option maxHeartbeats 4000000 in
set_option maxRecDepth 100000 in
theorem wL_X9_isSameRun_3 {l : Launch} {g : GG} {ad : Nat → Nat} {p : Program} {e : Env} {s : State} {m : MethodId} {args : Array Value} {below : List Frame} {meth : Method} {c : Code} {k : Nat} {a0 : Int32} {a1 : Int32} {a2 : Int32} {z : Int32} (C : Cx p s m args meth c RX9 cX9_isSameRun 5 g (AW ad nO)) (hr : meth.sig.returnType = (some .boolean)) (hk : OB nO k 8) {I : HI} {J : HJ}  : ∀ (f : Nat) {x4 : Int32}, fL_X9_isSameRun_3 k a0 a1 a2 f x4 I J = some z → V p l e (rmk 2 42) s m args below meth c (MQ below (QAi g ad nO oR z I J) args s 0 0 (AW ad nO)) 5 0 0 g (AW ad nO) ad nO oR I J 3 [(0, .ref (ad k)), (1, .int a0), (2, .int a1), (3, .int a2), (4, .int x4)] [] := by
  intro f
  induction f with
  | zero =>
    intro _  h
    have h0 : (none : Option (Int32)) = some z := h
    cases h0
  | succ f ih =>
    intro _  h
    exact wLB_X9_isSameRun_3 C hr hk ih  h
set_option maxHeartbeats 4000000 in
set_option maxRecDepth 100000 in
theorem w_X9_isSameRun {l : Launch} {g : GG} {ad : Nat → Nat} {p : Program} {e : Env} {s : State} {m : MethodId} {args : Array Value} {below : List Frame} {meth : Method} {c : Code} {k : Nat} {a0 : Int32} {a1 : Int32} {a2 : Int32} {z : Int32} (C : Cx p s m args meth c RX9 cX9_isSameRun 5 g (AW ad nO)) (hr : meth.sig.returnType = (some .boolean)) (hk : OB nO k 8) {I : HI} {J : HJ} (h : f_X9_isSameRun k a0 a1 a2 I J = some z) : V p l e (rmk 2 42) s m args below meth c (MQ below (QAi g ad nO oR z I J) args s 0 0 (AW ad nO)) 5 0 0 g (AW ad nO) ad nO oR I J 0 [(0, .ref (ad k)), (1, .int a0), (2, .int a1), (3, .int a2)] [] := by
  unfold f_X9_isSameRun at h
  refine r_iconst C (v := 0) (by decide) dX9_isSameRun_0 ?_
  refine r_istore C (lv1 := [(4, .int (0 : Int32)), (0, .ref (ad k)), (1, .int a0), (2, .int a1), (3, .int a2)]) (by decide) rfl dX9_isSameRun_1 ?_
  exact r_sub [1, 2, 3, 4, 0] rfl (wL_X9_isSameRun_3 C hr hk _  h)
set_option maxHeartbeats 4000000 in
set_option maxRecDepth 100000 in
theorem c_X9_isSameRun {l : Launch} {g : GG} {ad : Nat → Nat} {k : Nat} {a0 : Int32} {a1 : Int32} {a2 : Int32} {I : HI} {J : HJ} {r : Int32} (hk : OB nO k 8) (h : f_X9_isSameRun k a0 a1 a2 I J = some r) : CM l yX9_isSameRun cX9_isSameRun 5 (some .boolean) (rmk 2 42) g ad nO oR [.ref (ad k), .int a0, .int a1, .int a2] I J (QAi g ad nO oR r I J) :=
  CM_of (by decide +kernel) (Nat.le_of_ble_eq_true rfl) (fun p e s m args below meth c C hr => w_X9_isSameRun C hr hk h)
set_option maxHeartbeats 4000000 in
set_option maxRecDepth 100000 in
theorem wB_X9_isOrder_48 {l : Launch} {g : GG} {ad : Nat → Nat} {p : Program} {e : Env} {s : State} {m : MethodId} {args : Array Value} {below : List Frame} {meth : Method} {c : Code} {k : Nat} {a0 : Int32} {z : Int32} (C : Cx p s m args meth c RX9 cX9_isOrder 4 g (AW ad nO)) (hr : meth.sig.returnType = (some .boolean)) (hk : OB nO k 8) {r_2 : Int32 → HI → HJ → Option (Int32)} {r_14 : Int32 → Int32 → HI → HJ → Option (Int32)} {I : HI} {J : HJ} (hr_2 : ∀ {x2 : Int32}, r_2 x2 I J = some z → V p l e (rmk 3 66) s m args below meth c (MQ below (QAi g ad nO oR z I J) args s 0 0 (AW ad nO)) 4 0 0 g (AW ad nO) ad nO oR I J 2 [(0, .ref (ad k)), (1, .int a0), (2, .int x2)] []) (hr_14 : ∀ {x2 : Int32} {x3 : Int32}, r_14 x2 x3 I J = some z → V p l e (rmk 3 66) s m args below meth c (MQ below (QAi g ad nO oR z I J) args s 0 0 (AW ad nO)) 4 0 0 g (AW ad nO) ad nO oR I J 14 [(0, .ref (ad k)), (1, .int a0), (2, .int x2), (3, .int x3)] []) {x2 : Int32} {x3 : Int32} (h : fB_X9_isOrder_48 k a0 r_2 r_14 x2 x3 I J = some z) : V p l e (rmk 3 66) s m args below meth c (MQ below (QAi g ad nO oR z I J) args s 0 0 (AW ad nO)) 4 0 0 g (AW ad nO) ad nO oR I J 48 [(0, .ref (ad k)), (1, .int a0), (2, .int x2), (3, .int x3)] [] := by
  unfold fB_X9_isOrder_48 at h
  refine r_iincN C h (k := 3) (zz := 1) rfl rfl (by decide) (lv1 := fun v9 => [(3, .int v9), (0, .ref (ad k)), (1, .int a0), (2, .int x2)]) (fun _ => rfl) dX9_isOrder_48 (fun v9 h => ?_)
  refine r_goto C (tgt := 14) dX9_isOrder_51 (by decide) ?_
  exact r_sub [1, 2, 3, 0] rfl (hr_14  h)
set_option maxHeartbeats 4000000 in
set_option maxRecDepth 100000 in
theorem wLB_X9_isOrder_14 {l : Launch} {g : GG} {ad : Nat → Nat} {p : Program} {e : Env} {s : State} {m : MethodId} {args : Array Value} {below : List Frame} {meth : Method} {c : Code} {k : Nat} {a0 : Int32} {z : Int32} (C : Cx p s m args meth c RX9 cX9_isOrder 4 g (AW ad nO)) (hr : meth.sig.returnType = (some .boolean)) (hk : OB nO k 8) {r_2 : Int32 → HI → HJ → Option (Int32)} {I : HI} {J : HJ} (hr_2 : ∀ {x2 : Int32}, r_2 x2 I J = some z → V p l e (rmk 3 66) s m args below meth c (MQ below (QAi g ad nO oR z I J) args s 0 0 (AW ad nO)) 4 0 0 g (AW ad nO) ad nO oR I J 2 [(0, .ref (ad k)), (1, .int a0), (2, .int x2)] []) {r_14 : Int32 → Int32 → HI → HJ → Option (Int32)} (hr_14 : ∀ {x2 : Int32} {x3 : Int32}, r_14 x2 x3 I J = some z → V p l e (rmk 3 66) s m args below meth c (MQ below (QAi g ad nO oR z I J) args s 0 0 (AW ad nO)) 4 0 0 g (AW ad nO) ad nO oR I J 14 [(0, .ref (ad k)), (1, .int a0), (2, .int x2), (3, .int x3)] []) {x2 : Int32} {x3 : Int32} (h : fLB_X9_isOrder_14 k a0 r_2 r_14 x2 x3 I J = some z) : V p l e (rmk 3 66) s m args below meth c (MQ below (QAi g ad nO oR z I J) args s 0 0 (AW ad nO)) 4 0 0 g (AW ad nO) ad nO oR I J 14 [(0, .ref (ad k)), (1, .int a0), (2, .int x2), (3, .int x3)] [] := by
  unfold fLB_X9_isOrder_14 at h
  refine r_iload_n C 3 rfl rfl dX9_isOrder_14 ?_
  refine r_iload_n C 2 rfl rfl dX9_isOrder_15 ?_
  refine r_icmp_ge C (tgt := 54) h dX9_isOrder_16 (by decide) (fun h => ?_) (fun h => ?_)
  · refine r_iincN C h (k := 2) (zz := 1) rfl rfl (by decide) (lv1 := fun v10 => [(2, .int v10), (0, .ref (ad k)), (1, .int a0), (3, .int x3)]) (fun _ => rfl) dX9_isOrder_54 (fun v10 h => ?_)
    refine r_goto C (tgt := 2) dX9_isOrder_57 (by decide) ?_
    exact r_sub [1, 2, 0] rfl (hr_2  h)
  · refine r_aload_n C 0 rfl rfl dX9_isOrder_19 ?_
    refine r_iload_n C 3 rfl rfl dX9_isOrder_20 ?_
    refine r_iload_n C 1 rfl rfl dX9_isOrder_21 ?_
    refine r_iadd C dX9_isOrder_22 ?_
    obtain ⟨r11, hq12, h⟩ := bd1_ h
    refine r_cvi C (rest := []) (c_X9_at hk hq12) fm_X9_at lk_X9_35 hk ⟨_, ct_8 hk.1⟩ rfl rfl ⟨rfl, rfl, Nat.le_of_ble_eq_true rfl, Nat.le_of_ble_eq_true rfl⟩ (Nat.le_of_ble_eq_true rfl) rfl dX9_isOrder_23 ?_
    refine r_aload_n C 0 rfl rfl dX9_isOrder_26 ?_
    refine r_iload_n C 2 rfl rfl dX9_isOrder_27 ?_
    refine r_iload_n C 1 rfl rfl dX9_isOrder_28 ?_
    refine r_iadd C dX9_isOrder_29 ?_
    obtain ⟨r13, hq14, h⟩ := bd1_ h
    refine r_cvi C (rest := [.int r11]) (c_X9_at hk hq14) fm_X9_at lk_X9_35 hk ⟨_, ct_8 hk.1⟩ rfl rfl ⟨rfl, rfl, Nat.le_of_ble_eq_true rfl, Nat.le_of_ble_eq_true rfl⟩ (Nat.le_of_ble_eq_true rfl) rfl dX9_isOrder_30 ?_
    refine r_icmp_eq C (tgt := 48) h dX9_isOrder_33 (by decide) (fun h => ?_) (fun h => ?_)
    · exact wB_X9_isOrder_48 C hr hk hr_2 hr_14  h
    · refine r_aload_n C 0 rfl rfl dX9_isOrder_36 ?_
      refine r_iload_n C 3 rfl rfl dX9_isOrder_37 ?_
      refine r_iload_n C 2 rfl rfl dX9_isOrder_38 ?_
      refine r_iload_n C 1 rfl rfl dX9_isOrder_39 ?_
      obtain ⟨r15, hq16, h⟩ := bd1_ h
      refine r_cvi C (rest := []) (c_X9_isSameRun hk hq16) fm_X9_isSameRun lk_X9_48 hk ⟨_, ct_8 hk.1⟩ rfl rfl ⟨rfl, rfl, Nat.le_of_ble_eq_true rfl, Nat.le_of_ble_eq_true rfl⟩ (Nat.le_of_ble_eq_true rfl) rfl dX9_isOrder_40 ?_
      refine r_if_eq C (tgt := 48) h dX9_isOrder_43 (by decide) (fun h => ?_) (fun h => ?_)
      · exact wB_X9_isOrder_48 C hr hk hr_2 hr_14  h
      · refine r_iconst C (v := 0) (by decide) dX9_isOrder_46 ?_
        have hz9 := Option.some.inj h
        subst hz9
        exact r_zret C (v := (0 : Int32)) rfl hr dX9_isOrder_47
set_option maxHeartbeats 4000000 in
set_option maxRecDepth 100000 in
theorem wL_X9_isOrder_14 {l : Launch} {g : GG} {ad : Nat → Nat} {p : Program} {e : Env} {s : State} {m : MethodId} {args : Array Value} {below : List Frame} {meth : Method} {c : Code} {k : Nat} {a0 : Int32} {z : Int32} (C : Cx p s m args meth c RX9 cX9_isOrder 4 g (AW ad nO)) (hr : meth.sig.returnType = (some .boolean)) (hk : OB nO k 8) {r_2 : Int32 → HI → HJ → Option (Int32)} {I : HI} {J : HJ} (hr_2 : ∀ {x2 : Int32}, r_2 x2 I J = some z → V p l e (rmk 3 66) s m args below meth c (MQ below (QAi g ad nO oR z I J) args s 0 0 (AW ad nO)) 4 0 0 g (AW ad nO) ad nO oR I J 2 [(0, .ref (ad k)), (1, .int a0), (2, .int x2)] []) : ∀ (f : Nat) {x2 : Int32} {x3 : Int32}, fL_X9_isOrder_14 k a0 r_2 f x2 x3 I J = some z → V p l e (rmk 3 66) s m args below meth c (MQ below (QAi g ad nO oR z I J) args s 0 0 (AW ad nO)) 4 0 0 g (AW ad nO) ad nO oR I J 14 [(0, .ref (ad k)), (1, .int a0), (2, .int x2), (3, .int x3)] [] := by
  intro f
  induction f with
  | zero =>
    intro _ _  h
    have h0 : (none : Option (Int32)) = some z := h
    cases h0
  | succ f ih =>
    intro _ _  h
    exact wLB_X9_isOrder_14 C hr hk hr_2 ih  h
set_option maxHeartbeats 4000000 in
set_option maxRecDepth 100000 in
theorem wLB_X9_isOrder_2 {l : Launch} {g : GG} {ad : Nat → Nat} {p : Program} {e : Env} {s : State} {m : MethodId} {args : Array Value} {below : List Frame} {meth : Method} {c : Code} {k : Nat} {a0 : Int32} {z : Int32} (C : Cx p s m args meth c RX9 cX9_isOrder 4 g (AW ad nO)) (hr : meth.sig.returnType = (some .boolean)) (hk : OB nO k 8) {I : HI} {J : HJ}  {r_2 : Int32 → HI → HJ → Option (Int32)} (hr_2 : ∀ {x2 : Int32}, r_2 x2 I J = some z → V p l e (rmk 3 66) s m args below meth c (MQ below (QAi g ad nO oR z I J) args s 0 0 (AW ad nO)) 4 0 0 g (AW ad nO) ad nO oR I J 2 [(0, .ref (ad k)), (1, .int a0), (2, .int x2)] []) {x2 : Int32} (h : fLB_X9_isOrder_2 k a0 r_2 x2 I J = some z) : V p l e (rmk 3 66) s m args below meth c (MQ below (QAi g ad nO oR z I J) args s 0 0 (AW ad nO)) 4 0 0 g (AW ad nO) ad nO oR I J 2 [(0, .ref (ad k)), (1, .int a0), (2, .int x2)] [] := by
  unfold fLB_X9_isOrder_2 at h
  refine r_iload_n C 2 rfl rfl dX9_isOrder_2 ?_
  refine r_iload_n C 1 rfl rfl dX9_isOrder_3 ?_
  refine r_iadd C dX9_isOrder_4 ?_
  refine r_aload_n C 0 rfl rfl dX9_isOrder_5 ?_
  refine gf_X9_13 C hk dX9_isOrder_6 ?_
  refine r_pc (pc1 := 9) rfl ?_
  refine r_icmp_ge C (tgt := 60) h dX9_isOrder_9 (by decide) (fun h => ?_) (fun h => ?_)
  · refine r_iconst C (v := 1) (by decide) dX9_isOrder_60 ?_
    have hz9 := Option.some.inj h
    subst hz9
    exact r_zret C (v := (1 : Int32)) rfl hr dX9_isOrder_61
  · refine r_iconst C (v := 0) (by decide) dX9_isOrder_12 ?_
    refine r_istore_n C (lv1 := [(3, .int (0 : Int32)), (0, .ref (ad k)), (1, .int a0), (2, .int x2)]) rfl (by decide) rfl dX9_isOrder_13 ?_
    exact r_sub [1, 2, 3, 0] rfl (wL_X9_isOrder_14 C hr hk hr_2 _  h)
set_option maxHeartbeats 4000000 in
set_option maxRecDepth 100000 in
theorem wL_X9_isOrder_2 {l : Launch} {g : GG} {ad : Nat → Nat} {p : Program} {e : Env} {s : State} {m : MethodId} {args : Array Value} {below : List Frame} {meth : Method} {c : Code} {k : Nat} {a0 : Int32} {z : Int32} (C : Cx p s m args meth c RX9 cX9_isOrder 4 g (AW ad nO)) (hr : meth.sig.returnType = (some .boolean)) (hk : OB nO k 8) {I : HI} {J : HJ}  : ∀ (f : Nat) {x2 : Int32}, fL_X9_isOrder_2 k a0 f x2 I J = some z → V p l e (rmk 3 66) s m args below meth c (MQ below (QAi g ad nO oR z I J) args s 0 0 (AW ad nO)) 4 0 0 g (AW ad nO) ad nO oR I J 2 [(0, .ref (ad k)), (1, .int a0), (2, .int x2)] [] := by
  intro f
  induction f with
  | zero =>
    intro _  h
    have h0 : (none : Option (Int32)) = some z := h
    cases h0
  | succ f ih =>
    intro _  h
    exact wLB_X9_isOrder_2 C hr hk ih  h
set_option maxHeartbeats 4000000 in
set_option maxRecDepth 100000 in
theorem w_X9_isOrder {l : Launch} {g : GG} {ad : Nat → Nat} {p : Program} {e : Env} {s : State} {m : MethodId} {args : Array Value} {below : List Frame} {meth : Method} {c : Code} {k : Nat} {a0 : Int32} {z : Int32} (C : Cx p s m args meth c RX9 cX9_isOrder 4 g (AW ad nO)) (hr : meth.sig.returnType = (some .boolean)) (hk : OB nO k 8) {I : HI} {J : HJ} (h : f_X9_isOrder k a0 I J = some z) : V p l e (rmk 3 66) s m args below meth c (MQ below (QAi g ad nO oR z I J) args s 0 0 (AW ad nO)) 4 0 0 g (AW ad nO) ad nO oR I J 0 [(0, .ref (ad k)), (1, .int a0)] [] := by
  unfold f_X9_isOrder at h
  refine r_iconst C (v := 1) (by decide) dX9_isOrder_0 ?_
  refine r_istore_n C (lv1 := [(2, .int (1 : Int32)), (0, .ref (ad k)), (1, .int a0)]) rfl (by decide) rfl dX9_isOrder_1 ?_
  exact r_sub [1, 2, 0] rfl (wL_X9_isOrder_2 C hr hk _  h)
set_option maxHeartbeats 4000000 in
set_option maxRecDepth 100000 in
theorem c_X9_isOrder {l : Launch} {g : GG} {ad : Nat → Nat} {k : Nat} {a0 : Int32} {I : HI} {J : HJ} {r : Int32} (hk : OB nO k 8) (h : f_X9_isOrder k a0 I J = some r) : CM l yX9_isOrder cX9_isOrder 4 (some .boolean) (rmk 3 66) g ad nO oR [.ref (ad k), .int a0] I J (QAi g ad nO oR r I J) :=
  CM_of (by decide +kernel) (Nat.le_of_ble_eq_true rfl) (fun p e s m args below meth c C hr => w_X9_isOrder C hr hk h)
set_option maxHeartbeats 4000000 in
set_option maxRecDepth 100000 in
theorem wLB_X9_findOrder_2 {l : Launch} {g : GG} {ad : Nat → Nat} {p : Program} {e : Env} {s : State} {m : MethodId} {args : Array Value} {below : List Frame} {meth : Method} {c : Code} {k : Nat} {z : Int32} (C : Cx p s m args meth c RX9 cX9_findOrder 2 g (AW ad nO)) (hr : meth.sig.returnType = (some .int)) (hk : OB nO k 8) {I : HI} {J : HJ}  {r_2 : Int32 → HI → HJ → Option (Int32)} (hr_2 : ∀ {x1 : Int32}, r_2 x1 I J = some z → V p l e (rmk 4 89) s m args below meth c (MQ below (QAi g ad nO oR z I J) args s 0 0 (AW ad nO)) 2 0 0 g (AW ad nO) ad nO oR I J 2 [(0, .ref (ad k)), (1, .int x1)] []) {x1 : Int32} (h : fLB_X9_findOrder_2 k r_2 x1 I J = some z) : V p l e (rmk 4 89) s m args below meth c (MQ below (QAi g ad nO oR z I J) args s 0 0 (AW ad nO)) 2 0 0 g (AW ad nO) ad nO oR I J 2 [(0, .ref (ad k)), (1, .int x1)] [] := by
  unfold fLB_X9_findOrder_2 at h
  refine r_iload_n C 1 rfl rfl dX9_findOrder_2 ?_
  refine r_iconst C (v := 4) (by decide) dX9_findOrder_3 ?_
  refine r_icmp_gt C (tgt := 23) h dX9_findOrder_4 (by decide) (fun h => ?_) (fun h => ?_)
  · refine r_iconst C (v := 0) (by decide) dX9_findOrder_23 ?_
    have hz9 := Option.some.inj h
    subst hz9
    exact r_iret C hr dX9_findOrder_24
  · refine r_aload_n C 0 rfl rfl dX9_findOrder_7 ?_
    refine r_iload_n C 1 rfl rfl dX9_findOrder_8 ?_
    obtain ⟨r4, hq5, h⟩ := bd1_ h
    refine r_cvi C (rest := []) (c_X9_isOrder hk hq5) fm_X9_isOrder lk_X9_45 hk ⟨_, ct_8 hk.1⟩ rfl rfl ⟨rfl, rfl, Nat.le_of_ble_eq_true rfl, Nat.le_of_ble_eq_true rfl⟩ (Nat.le_of_ble_eq_true rfl) rfl dX9_findOrder_9 ?_
    refine r_if_eq C (tgt := 17) h dX9_findOrder_12 (by decide) (fun h => ?_) (fun h => ?_)
    · refine r_iincN C h (k := 1) (zz := 1) rfl rfl (by decide) (lv1 := fun v6 => [(1, .int v6), (0, .ref (ad k))]) (fun _ => rfl) dX9_findOrder_17 (fun v6 h => ?_)
      refine r_goto C (tgt := 2) dX9_findOrder_20 (by decide) ?_
      exact r_sub [1, 0] rfl (hr_2  h)
    · refine r_iload_n C 1 rfl rfl dX9_findOrder_15 ?_
      have hz9 := Option.some.inj h
      subst hz9
      exact r_iret C hr dX9_findOrder_16
set_option maxHeartbeats 4000000 in
set_option maxRecDepth 100000 in
theorem wL_X9_findOrder_2 {l : Launch} {g : GG} {ad : Nat → Nat} {p : Program} {e : Env} {s : State} {m : MethodId} {args : Array Value} {below : List Frame} {meth : Method} {c : Code} {k : Nat} {z : Int32} (C : Cx p s m args meth c RX9 cX9_findOrder 2 g (AW ad nO)) (hr : meth.sig.returnType = (some .int)) (hk : OB nO k 8) {I : HI} {J : HJ}  : ∀ (f : Nat) {x1 : Int32}, fL_X9_findOrder_2 k f x1 I J = some z → V p l e (rmk 4 89) s m args below meth c (MQ below (QAi g ad nO oR z I J) args s 0 0 (AW ad nO)) 2 0 0 g (AW ad nO) ad nO oR I J 2 [(0, .ref (ad k)), (1, .int x1)] [] := by
  intro f
  induction f with
  | zero =>
    intro _  h
    have h0 : (none : Option (Int32)) = some z := h
    cases h0
  | succ f ih =>
    intro _  h
    exact wLB_X9_findOrder_2 C hr hk ih  h
set_option maxHeartbeats 4000000 in
set_option maxRecDepth 100000 in
theorem w_X9_findOrder {l : Launch} {g : GG} {ad : Nat → Nat} {p : Program} {e : Env} {s : State} {m : MethodId} {args : Array Value} {below : List Frame} {meth : Method} {c : Code} {k : Nat} {z : Int32} (C : Cx p s m args meth c RX9 cX9_findOrder 2 g (AW ad nO)) (hr : meth.sig.returnType = (some .int)) (hk : OB nO k 8) {I : HI} {J : HJ} (h : f_X9_findOrder k I J = some z) : V p l e (rmk 4 89) s m args below meth c (MQ below (QAi g ad nO oR z I J) args s 0 0 (AW ad nO)) 2 0 0 g (AW ad nO) ad nO oR I J 0 [(0, .ref (ad k))] [] := by
  unfold f_X9_findOrder at h
  refine r_iconst C (v := 1) (by decide) dX9_findOrder_0 ?_
  refine r_istore_n C (lv1 := [(1, .int (1 : Int32)), (0, .ref (ad k))]) rfl (by decide) rfl dX9_findOrder_1 ?_
  exact r_sub [1, 0] rfl (wL_X9_findOrder_2 C hr hk _  h)
set_option maxHeartbeats 4000000 in
set_option maxRecDepth 100000 in
theorem c_X9_findOrder {l : Launch} {g : GG} {ad : Nat → Nat} {k : Nat} {I : HI} {J : HJ} {r : Int32} (hk : OB nO k 8) (h : f_X9_findOrder k I J = some r) : CM l yX9_findOrder cX9_findOrder 2 (some .int) (rmk 4 89) g ad nO oR [.ref (ad k)] I J (QAi g ad nO oR r I J) :=
  CM_of (by decide +kernel) (Nat.le_of_ble_eq_true rfl) (fun p e s m args below meth c C hr => w_X9_findOrder C hr hk h)
set_option maxHeartbeats 4000000 in
set_option maxRecDepth 100000 in
theorem wB_X9_nearestBefore_38 {l : Launch} {g : GG} {ad : Nat → Nat} {p : Program} {e : Env} {s : State} {m : MethodId} {args : Array Value} {below : List Frame} {meth : Method} {c : Code} {k : Nat} {a0 : Int32} {a1 : Int32} {z : Int32} (C : Cx p s m args meth c RX9 cX9_nearestBefore 5 g (AW ad nO)) (hr : meth.sig.returnType = (some .int)) (hk : OB nO k 8) {r_5 : Int32 → Int32 → HI → HJ → Option (Int32)} {I : HI} {J : HJ} (hr_5 : ∀ {x3 : Int32} {x4 : Int32}, r_5 x3 x4 I J = some z → V p l e (rmk 4 150) s m args below meth c (MQ below (QAi g ad nO oR z I J) args s 0 0 (AW ad nO)) 5 0 0 g (AW ad nO) ad nO oR I J 5 [(0, .ref (ad k)), (1, .int a0), (2, .int a1), (3, .int x3), (4, .int x4)] []) {x3 : Int32} {x4 : Int32} (h : fB_X9_nearestBefore_38 k a0 a1 r_5 x3 x4 I J = some z) : V p l e (rmk 4 150) s m args below meth c (MQ below (QAi g ad nO oR z I J) args s 0 0 (AW ad nO)) 5 0 0 g (AW ad nO) ad nO oR I J 38 [(0, .ref (ad k)), (1, .int a0), (2, .int a1), (3, .int x3), (4, .int x4)] [] := by
  unfold fB_X9_nearestBefore_38 at h
  refine r_iincN C h (k := 4) (zz := 1) rfl rfl (by decide) (lv1 := fun v6 => [(4, .int v6), (0, .ref (ad k)), (1, .int a0), (2, .int a1), (3, .int x3)]) (fun _ => rfl) dX9_nearestBefore_38 (fun v6 h => ?_)
  refine r_goto C (tgt := 5) dX9_nearestBefore_41 (by decide) ?_
  exact r_sub [1, 2, 3, 4, 0] rfl (hr_5  h)
set_option maxHeartbeats 4000000 in
set_option maxRecDepth 100000 in
theorem wLB_X9_nearestBefore_5 {l : Launch} {g : GG} {ad : Nat → Nat} {p : Program} {e : Env} {s : State} {m : MethodId} {args : Array Value} {below : List Frame} {meth : Method} {c : Code} {k : Nat} {a0 : Int32} {a1 : Int32} {z : Int32} (C : Cx p s m args meth c RX9 cX9_nearestBefore 5 g (AW ad nO)) (hr : meth.sig.returnType = (some .int)) (hk : OB nO k 8) {I : HI} {J : HJ}  {r_5 : Int32 → Int32 → HI → HJ → Option (Int32)} (hr_5 : ∀ {x3 : Int32} {x4 : Int32}, r_5 x3 x4 I J = some z → V p l e (rmk 4 150) s m args below meth c (MQ below (QAi g ad nO oR z I J) args s 0 0 (AW ad nO)) 5 0 0 g (AW ad nO) ad nO oR I J 5 [(0, .ref (ad k)), (1, .int a0), (2, .int a1), (3, .int x3), (4, .int x4)] []) {x3 : Int32} {x4 : Int32} (h : fLB_X9_nearestBefore_5 k a0 a1 r_5 x3 x4 I J = some z) : V p l e (rmk 4 150) s m args below meth c (MQ below (QAi g ad nO oR z I J) args s 0 0 (AW ad nO)) 5 0 0 g (AW ad nO) ad nO oR I J 5 [(0, .ref (ad k)), (1, .int a0), (2, .int a1), (3, .int x3), (4, .int x4)] [] := by
  unfold fLB_X9_nearestBefore_5 at h
  refine r_iload C 4 rfl dX9_nearestBefore_5 ?_
  refine r_iload_n C 1 rfl rfl dX9_nearestBefore_7 ?_
  refine r_icmp_ge C (tgt := 44) h dX9_nearestBefore_8 (by decide) (fun h => ?_) (fun h => ?_)
  · refine r_iload_n C 3 rfl rfl dX9_nearestBefore_44 ?_
    have hz9 := Option.some.inj h
    subst hz9
    exact r_iret C hr dX9_nearestBefore_45
  · refine r_aload_n C 0 rfl rfl dX9_nearestBefore_11 ?_
    refine r_iload C 4 rfl dX9_nearestBefore_12 ?_
    obtain ⟨r7, hq8, h⟩ := bd1_ h
    refine r_cvi C (rest := []) (c_X9_at hk hq8) fm_X9_at lk_X9_35 hk ⟨_, ct_8 hk.1⟩ rfl rfl ⟨rfl, rfl, Nat.le_of_ble_eq_true rfl, Nat.le_of_ble_eq_true rfl⟩ (Nat.le_of_ble_eq_true rfl) rfl dX9_nearestBefore_14 ?_
    refine r_iload_n C 2 rfl rfl dX9_nearestBefore_17 ?_
    refine r_isub C dX9_nearestBefore_18 ?_
    refine r_mabs C lk_X9_56 (Nat.le_of_ble_eq_true rfl) (Nat.le_of_ble_eq_true rfl) dX9_nearestBefore_19 ?_
    refine r_aload_n C 0 rfl rfl dX9_nearestBefore_22 ?_
    refine r_iload_n C 3 rfl rfl dX9_nearestBefore_23 ?_
    obtain ⟨r9, hq10, h⟩ := bd1_ h
    refine r_cvi C (rest := [.int (jabs (r7 - a1))]) (c_X9_at hk hq10) fm_X9_at lk_X9_35 hk ⟨_, ct_8 hk.1⟩ rfl rfl ⟨rfl, rfl, Nat.le_of_ble_eq_true rfl, Nat.le_of_ble_eq_true rfl⟩ (Nat.le_of_ble_eq_true rfl) rfl dX9_nearestBefore_24 ?_
    refine r_iload_n C 2 rfl rfl dX9_nearestBefore_27 ?_
    refine r_isub C dX9_nearestBefore_28 ?_
    refine r_mabs C lk_X9_56 (Nat.le_of_ble_eq_true rfl) (Nat.le_of_ble_eq_true rfl) dX9_nearestBefore_29 ?_
    refine r_icmp_gt C (tgt := 38) h dX9_nearestBefore_32 (by decide) (fun h => ?_) (fun h => ?_)
    · exact wB_X9_nearestBefore_38 C hr hk hr_5  h
    · refine r_iload C 4 rfl dX9_nearestBefore_35 ?_
      refine r_istore_n C (lv1 := [(3, .int x4), (0, .ref (ad k)), (1, .int a0), (2, .int a1), (4, .int x4)]) rfl (by decide) rfl dX9_nearestBefore_37 ?_
      exact r_sub [1, 2, 3, 0, 4] rfl (wB_X9_nearestBefore_38 C hr hk hr_5  h)
set_option maxHeartbeats 4000000 in
set_option maxRecDepth 100000 in
theorem wL_X9_nearestBefore_5 {l : Launch} {g : GG} {ad : Nat → Nat} {p : Program} {e : Env} {s : State} {m : MethodId} {args : Array Value} {below : List Frame} {meth : Method} {c : Code} {k : Nat} {a0 : Int32} {a1 : Int32} {z : Int32} (C : Cx p s m args meth c RX9 cX9_nearestBefore 5 g (AW ad nO)) (hr : meth.sig.returnType = (some .int)) (hk : OB nO k 8) {I : HI} {J : HJ}  : ∀ (f : Nat) {x3 : Int32} {x4 : Int32}, fL_X9_nearestBefore_5 k a0 a1 f x3 x4 I J = some z → V p l e (rmk 4 150) s m args below meth c (MQ below (QAi g ad nO oR z I J) args s 0 0 (AW ad nO)) 5 0 0 g (AW ad nO) ad nO oR I J 5 [(0, .ref (ad k)), (1, .int a0), (2, .int a1), (3, .int x3), (4, .int x4)] [] := by
  intro f
  induction f with
  | zero =>
    intro _ _  h
    have h0 : (none : Option (Int32)) = some z := h
    cases h0
  | succ f ih =>
    intro _ _  h
    exact wLB_X9_nearestBefore_5 C hr hk ih  h
set_option maxHeartbeats 4000000 in
set_option maxRecDepth 100000 in
theorem w_X9_nearestBefore {l : Launch} {g : GG} {ad : Nat → Nat} {p : Program} {e : Env} {s : State} {m : MethodId} {args : Array Value} {below : List Frame} {meth : Method} {c : Code} {k : Nat} {a0 : Int32} {a1 : Int32} {z : Int32} (C : Cx p s m args meth c RX9 cX9_nearestBefore 5 g (AW ad nO)) (hr : meth.sig.returnType = (some .int)) (hk : OB nO k 8) {I : HI} {J : HJ} (h : f_X9_nearestBefore k a0 a1 I J = some z) : V p l e (rmk 4 150) s m args below meth c (MQ below (QAi g ad nO oR z I J) args s 0 0 (AW ad nO)) 5 0 0 g (AW ad nO) ad nO oR I J 0 [(0, .ref (ad k)), (1, .int a0), (2, .int a1)] [] := by
  unfold f_X9_nearestBefore at h
  refine r_iconst C (v := 0) (by decide) dX9_nearestBefore_0 ?_
  refine r_istore_n C (lv1 := [(3, .int (0 : Int32)), (0, .ref (ad k)), (1, .int a0), (2, .int a1)]) rfl (by decide) rfl dX9_nearestBefore_1 ?_
  refine r_iconst C (v := 1) (by decide) dX9_nearestBefore_2 ?_
  refine r_istore C (lv1 := [(4, .int (1 : Int32)), (3, .int (0 : Int32)), (0, .ref (ad k)), (1, .int a0), (2, .int a1)]) (by decide) rfl dX9_nearestBefore_3 ?_
  exact r_sub [2, 3, 4, 1, 0] rfl (wL_X9_nearestBefore_5 C hr hk _  h)
set_option maxHeartbeats 4000000 in
set_option maxRecDepth 100000 in
theorem c_X9_nearestBefore {l : Launch} {g : GG} {ad : Nat → Nat} {k : Nat} {a0 : Int32} {a1 : Int32} {I : HI} {J : HJ} {r : Int32} (hk : OB nO k 8) (h : f_X9_nearestBefore k a0 a1 I J = some r) : CM l yX9_nearestBefore cX9_nearestBefore 5 (some .int) (rmk 4 150) g ad nO oR [.ref (ad k), .int a0, .int a1] I J (QAi g ad nO oR r I J) :=
  CM_of (by decide +kernel) (Nat.le_of_ble_eq_true rfl) (fun p e s m args below meth c C hr => w_X9_nearestBefore C hr hk h)
set_option maxHeartbeats 4000000 in
set_option maxRecDepth 100000 in
theorem wLB_X9_toldAhead_9 {l : Launch} {g : GG} {ad : Nat → Nat} {p : Program} {e : Env} {s : State} {m : MethodId} {args : Array Value} {below : List Frame} {meth : Method} {c : Code} {k : Nat} {a0 : Int32} {a1 : Int32} {z : Int32} (C : Cx p s m args meth c RX9 cX9_toldAhead 5 g (AW ad nO)) (hr : meth.sig.returnType = (some .int)) (hk : OB nO k 8) {I : HI} {J : HJ}  {r_9 : Int32 → Int32 → HI → HJ → Option (Int32)} (hr_9 : ∀ {x3 : Int32} {x4 : Int32}, r_9 x3 x4 I J = some z → V p l e (rmk 5 174) s m args below meth c (MQ below (QAi g ad nO oR z I J) args s 0 0 (AW ad nO)) 5 0 0 g (AW ad nO) ad nO oR I J 9 [(0, .ref (ad k)), (1, .int a0), (2, .int a1), (3, .int x3), (4, .int x4)] []) {x3 : Int32} {x4 : Int32} (h : fLB_X9_toldAhead_9 k a0 a1 r_9 x3 x4 I J = some z) : V p l e (rmk 5 174) s m args below meth c (MQ below (QAi g ad nO oR z I J) args s 0 0 (AW ad nO)) 5 0 0 g (AW ad nO) ad nO oR I J 9 [(0, .ref (ad k)), (1, .int a0), (2, .int a1), (3, .int x3), (4, .int x4)] [] := by
  unfold fLB_X9_toldAhead_9 at h
  refine r_iload C 4 rfl dX9_toldAhead_9 ?_
  refine r_iload_n C 2 rfl rfl dX9_toldAhead_11 ?_
  refine r_icmp_ge C (tgt := 34) h dX9_toldAhead_12 (by decide) (fun h => ?_) (fun h => ?_)
  · refine r_iload_n C 3 rfl rfl dX9_toldAhead_34 ?_
    have hz9 := Option.some.inj h
    subst hz9
    exact r_iret C hr dX9_toldAhead_35
  · refine r_aload_n C 0 rfl rfl dX9_toldAhead_15 ?_
    refine r_aload_n C 0 rfl rfl dX9_toldAhead_16 ?_
    refine r_iload_n C 1 rfl rfl dX9_toldAhead_17 ?_
    refine r_iload_n C 3 rfl rfl dX9_toldAhead_18 ?_
    obtain ⟨r8, hq9, h⟩ := bd1_ h
    refine r_cvi C (rest := [.ref (ad k)]) (c_X9_nearestBefore hk hq9) fm_X9_nearestBefore lk_X9_61 hk ⟨_, ct_8 hk.1⟩ rfl rfl ⟨rfl, rfl, Nat.le_of_ble_eq_true rfl, Nat.le_of_ble_eq_true rfl⟩ (Nat.le_of_ble_eq_true rfl) rfl dX9_toldAhead_19 ?_
    refine r_iconst C (v := 1) (by decide) dX9_toldAhead_22 ?_
    refine r_iadd C dX9_toldAhead_23 ?_
    obtain ⟨r10, hq11, h⟩ := bd1_ h
    refine r_cvi C (rest := []) (c_X9_at hk hq11) fm_X9_at lk_X9_35 hk ⟨_, ct_8 hk.1⟩ rfl rfl ⟨rfl, rfl, Nat.le_of_ble_eq_true rfl, Nat.le_of_ble_eq_true rfl⟩ (Nat.le_of_ble_eq_true rfl) rfl dX9_toldAhead_24 ?_
    refine r_istore_n C (lv1 := [(3, .int r10), (0, .ref (ad k)), (1, .int a0), (2, .int a1), (4, .int x4)]) rfl (by decide) rfl dX9_toldAhead_27 ?_
    refine r_iincN C h (k := 4) (zz := 1) rfl rfl (by decide) (lv1 := fun v12 => [(4, .int v12), (3, .int r10), (0, .ref (ad k)), (1, .int a0), (2, .int a1)]) (fun _ => rfl) dX9_toldAhead_28 (fun v12 h => ?_)
    refine r_goto C (tgt := 9) dX9_toldAhead_31 (by decide) ?_
    exact r_sub [2, 3, 4, 1, 0] rfl (hr_9  h)
set_option maxHeartbeats 4000000 in
set_option maxRecDepth 100000 in
theorem wL_X9_toldAhead_9 {l : Launch} {g : GG} {ad : Nat → Nat} {p : Program} {e : Env} {s : State} {m : MethodId} {args : Array Value} {below : List Frame} {meth : Method} {c : Code} {k : Nat} {a0 : Int32} {a1 : Int32} {z : Int32} (C : Cx p s m args meth c RX9 cX9_toldAhead 5 g (AW ad nO)) (hr : meth.sig.returnType = (some .int)) (hk : OB nO k 8) {I : HI} {J : HJ}  : ∀ (f : Nat) {x3 : Int32} {x4 : Int32}, fL_X9_toldAhead_9 k a0 a1 f x3 x4 I J = some z → V p l e (rmk 5 174) s m args below meth c (MQ below (QAi g ad nO oR z I J) args s 0 0 (AW ad nO)) 5 0 0 g (AW ad nO) ad nO oR I J 9 [(0, .ref (ad k)), (1, .int a0), (2, .int a1), (3, .int x3), (4, .int x4)] [] := by
  intro f
  induction f with
  | zero =>
    intro _ _  h
    have h0 : (none : Option (Int32)) = some z := h
    cases h0
  | succ f ih =>
    intro _ _  h
    exact wLB_X9_toldAhead_9 C hr hk ih  h
set_option maxHeartbeats 4000000 in
set_option maxRecDepth 100000 in
theorem w_X9_toldAhead {l : Launch} {g : GG} {ad : Nat → Nat} {p : Program} {e : Env} {s : State} {m : MethodId} {args : Array Value} {below : List Frame} {meth : Method} {c : Code} {k : Nat} {a0 : Int32} {a1 : Int32} {z : Int32} (C : Cx p s m args meth c RX9 cX9_toldAhead 5 g (AW ad nO)) (hr : meth.sig.returnType = (some .int)) (hk : OB nO k 8) {I : HI} {J : HJ} (h : f_X9_toldAhead k a0 a1 I J = some z) : V p l e (rmk 5 174) s m args below meth c (MQ below (QAi g ad nO oR z I J) args s 0 0 (AW ad nO)) 5 0 0 g (AW ad nO) ad nO oR I J 0 [(0, .ref (ad k)), (1, .int a0), (2, .int a1)] [] := by
  unfold f_X9_toldAhead at h
  refine r_aload_n C 0 rfl rfl dX9_toldAhead_0 ?_
  refine r_iload_n C 1 rfl rfl dX9_toldAhead_1 ?_
  obtain ⟨r13, hq14, h⟩ := bd1_ h
  refine r_cvi C (rest := []) (c_X9_at hk hq14) fm_X9_at lk_X9_35 hk ⟨_, ct_8 hk.1⟩ rfl rfl ⟨rfl, rfl, Nat.le_of_ble_eq_true rfl, Nat.le_of_ble_eq_true rfl⟩ (Nat.le_of_ble_eq_true rfl) rfl dX9_toldAhead_2 ?_
  refine r_istore_n C (lv1 := [(3, .int r13), (0, .ref (ad k)), (1, .int a0), (2, .int a1)]) rfl (by decide) rfl dX9_toldAhead_5 ?_
  refine r_iconst C (v := 0) (by decide) dX9_toldAhead_6 ?_
  refine r_istore C (lv1 := [(4, .int (0 : Int32)), (3, .int r13), (0, .ref (ad k)), (1, .int a0), (2, .int a1)]) (by decide) rfl dX9_toldAhead_7 ?_
  exact r_sub [2, 3, 4, 1, 0] rfl (wL_X9_toldAhead_9 C hr hk _  h)
set_option maxHeartbeats 4000000 in
set_option maxRecDepth 100000 in
theorem c_X9_toldAhead {l : Launch} {g : GG} {ad : Nat → Nat} {k : Nat} {a0 : Int32} {a1 : Int32} {I : HI} {J : HJ} {r : Int32} (hk : OB nO k 8) (h : f_X9_toldAhead k a0 a1 I J = some r) : CM l yX9_toldAhead cX9_toldAhead 5 (some .int) (rmk 5 174) g ad nO oR [.ref (ad k), .int a0, .int a1] I J (QAi g ad nO oR r I J) :=
  CM_of (by decide +kernel) (Nat.le_of_ble_eq_true rfl) (fun p e s m args below meth c C hr => w_X9_toldAhead C hr hk h)
set_option maxHeartbeats 4000000 in
set_option maxRecDepth 100000 in
theorem wB_X9_countHits_42 {l : Launch} {g : GG} {ad : Nat → Nat} {p : Program} {e : Env} {s : State} {m : MethodId} {args : Array Value} {below : List Frame} {meth : Method} {c : Code} {k : Nat} {a0 : Int32} {a1 : Int32} {z : Int32} (C : Cx p s m args meth c RX9 cX9_countHits 5 g (AW ad nO)) (hr : meth.sig.returnType = (some .int)) (hk : OB nO k 8) {r_5 : Int32 → Int32 → HI → HJ → Option (Int32)} {I : HI} {J : HJ} (hr_5 : ∀ {x3 : Int32} {x4 : Int32}, r_5 x3 x4 I J = some z → V p l e (rmk 6 198) s m args below meth c (MQ below (QAi g ad nO oR z I J) args s 0 0 (AW ad nO)) 5 0 0 g (AW ad nO) ad nO oR I J 5 [(0, .ref (ad k)), (1, .int a0), (2, .int a1), (3, .int x3), (4, .int x4)] []) {x3 : Int32} {x4 : Int32} (h : fB_X9_countHits_42 k a0 a1 r_5 x3 x4 I J = some z) : V p l e (rmk 6 198) s m args below meth c (MQ below (QAi g ad nO oR z I J) args s 0 0 (AW ad nO)) 5 0 0 g (AW ad nO) ad nO oR I J 42 [(0, .ref (ad k)), (1, .int a0), (2, .int a1), (3, .int x3), (4, .int x4)] [] := by
  unfold fB_X9_countHits_42 at h
  refine r_iincN C h (k := 4) (zz := 1) rfl rfl (by decide) (lv1 := fun v7 => [(4, .int v7), (0, .ref (ad k)), (1, .int a0), (2, .int a1), (3, .int x3)]) (fun _ => rfl) dX9_countHits_42 (fun v7 h => ?_)
  refine r_goto C (tgt := 5) dX9_countHits_45 (by decide) ?_
  exact r_sub [1, 2, 3, 4, 0] rfl (hr_5  h)
set_option maxHeartbeats 4000000 in
set_option maxRecDepth 100000 in
theorem wLB_X9_countHits_5 {l : Launch} {g : GG} {ad : Nat → Nat} {p : Program} {e : Env} {s : State} {m : MethodId} {args : Array Value} {below : List Frame} {meth : Method} {c : Code} {k : Nat} {a0 : Int32} {a1 : Int32} {z : Int32} (C : Cx p s m args meth c RX9 cX9_countHits 5 g (AW ad nO)) (hr : meth.sig.returnType = (some .int)) (hk : OB nO k 8) {I : HI} {J : HJ}  {r_5 : Int32 → Int32 → HI → HJ → Option (Int32)} (hr_5 : ∀ {x3 : Int32} {x4 : Int32}, r_5 x3 x4 I J = some z → V p l e (rmk 6 198) s m args below meth c (MQ below (QAi g ad nO oR z I J) args s 0 0 (AW ad nO)) 5 0 0 g (AW ad nO) ad nO oR I J 5 [(0, .ref (ad k)), (1, .int a0), (2, .int a1), (3, .int x3), (4, .int x4)] []) {x3 : Int32} {x4 : Int32} (h : fLB_X9_countHits_5 k a0 a1 r_5 x3 x4 I J = some z) : V p l e (rmk 6 198) s m args below meth c (MQ below (QAi g ad nO oR z I J) args s 0 0 (AW ad nO)) 5 0 0 g (AW ad nO) ad nO oR I J 5 [(0, .ref (ad k)), (1, .int a0), (2, .int a1), (3, .int x3), (4, .int x4)] [] := by
  unfold fLB_X9_countHits_5 at h
  refine r_iload C 4 rfl dX9_countHits_5 ?_
  refine r_iload_n C 1 rfl rfl dX9_countHits_7 ?_
  refine r_iadd C dX9_countHits_8 ?_
  refine r_aload_n C 0 rfl rfl dX9_countHits_9 ?_
  refine gf_X9_13 C hk dX9_countHits_10 ?_
  refine r_pc (pc1 := 13) rfl ?_
  refine r_icmp_ge C (tgt := 48) h dX9_countHits_13 (by decide) (fun h => ?_) (fun h => ?_)
  · refine r_iload_n C 3 rfl rfl dX9_countHits_48 ?_
    have hz9 := Option.some.inj h
    subst hz9
    exact r_iret C hr dX9_countHits_49
  · refine r_aload_n C 0 rfl rfl dX9_countHits_16 ?_
    refine r_iload C 4 rfl dX9_countHits_17 ?_
    refine r_iload_n C 1 rfl rfl dX9_countHits_19 ?_
    obtain ⟨r8, hq9, h⟩ := bd1_ h
    refine r_cvi C (rest := []) (c_X9_toldAhead hk hq9) fm_X9_toldAhead lk_X9_52 hk ⟨_, ct_8 hk.1⟩ rfl rfl ⟨rfl, rfl, Nat.le_of_ble_eq_true rfl, Nat.le_of_ble_eq_true rfl⟩ (Nat.le_of_ble_eq_true rfl) rfl dX9_countHits_20 ?_
    refine r_aload_n C 0 rfl rfl dX9_countHits_23 ?_
    refine r_iload C 4 rfl dX9_countHits_24 ?_
    refine r_iload_n C 1 rfl rfl dX9_countHits_26 ?_
    refine r_iadd C dX9_countHits_27 ?_
    obtain ⟨r10, hq11, h⟩ := bd1_ h
    refine r_cvi C (rest := [.int r8]) (c_X9_at hk hq11) fm_X9_at lk_X9_35 hk ⟨_, ct_8 hk.1⟩ rfl rfl ⟨rfl, rfl, Nat.le_of_ble_eq_true rfl, Nat.le_of_ble_eq_true rfl⟩ (Nat.le_of_ble_eq_true rfl) rfl dX9_countHits_28 ?_
    refine r_isub C dX9_countHits_31 ?_
    refine r_mabs C lk_X9_56 (Nat.le_of_ble_eq_true rfl) (Nat.le_of_ble_eq_true rfl) dX9_countHits_32 ?_
    refine r_iload_n C 2 rfl rfl dX9_countHits_35 ?_
    refine r_icmp_gt C (tgt := 42) h dX9_countHits_36 (by decide) (fun h => ?_) (fun h => ?_)
    · exact wB_X9_countHits_42 C hr hk hr_5  h
    · refine r_iincN C h (k := 3) (zz := 1) rfl rfl (by decide) (lv1 := fun v12 => [(3, .int v12), (0, .ref (ad k)), (1, .int a0), (2, .int a1), (4, .int x4)]) (fun _ => rfl) dX9_countHits_39 (fun v12 h => ?_)
      exact r_sub [1, 2, 3, 0, 4] rfl (wB_X9_countHits_42 C hr hk hr_5  h)
set_option maxHeartbeats 4000000 in
set_option maxRecDepth 100000 in
theorem wL_X9_countHits_5 {l : Launch} {g : GG} {ad : Nat → Nat} {p : Program} {e : Env} {s : State} {m : MethodId} {args : Array Value} {below : List Frame} {meth : Method} {c : Code} {k : Nat} {a0 : Int32} {a1 : Int32} {z : Int32} (C : Cx p s m args meth c RX9 cX9_countHits 5 g (AW ad nO)) (hr : meth.sig.returnType = (some .int)) (hk : OB nO k 8) {I : HI} {J : HJ}  : ∀ (f : Nat) {x3 : Int32} {x4 : Int32}, fL_X9_countHits_5 k a0 a1 f x3 x4 I J = some z → V p l e (rmk 6 198) s m args below meth c (MQ below (QAi g ad nO oR z I J) args s 0 0 (AW ad nO)) 5 0 0 g (AW ad nO) ad nO oR I J 5 [(0, .ref (ad k)), (1, .int a0), (2, .int a1), (3, .int x3), (4, .int x4)] [] := by
  intro f
  induction f with
  | zero =>
    intro _ _  h
    have h0 : (none : Option (Int32)) = some z := h
    cases h0
  | succ f ih =>
    intro _ _  h
    exact wLB_X9_countHits_5 C hr hk ih  h
set_option maxHeartbeats 4000000 in
set_option maxRecDepth 100000 in
theorem w_X9_countHits {l : Launch} {g : GG} {ad : Nat → Nat} {p : Program} {e : Env} {s : State} {m : MethodId} {args : Array Value} {below : List Frame} {meth : Method} {c : Code} {k : Nat} {a0 : Int32} {a1 : Int32} {z : Int32} (C : Cx p s m args meth c RX9 cX9_countHits 5 g (AW ad nO)) (hr : meth.sig.returnType = (some .int)) (hk : OB nO k 8) {I : HI} {J : HJ} (h : f_X9_countHits k a0 a1 I J = some z) : V p l e (rmk 6 198) s m args below meth c (MQ below (QAi g ad nO oR z I J) args s 0 0 (AW ad nO)) 5 0 0 g (AW ad nO) ad nO oR I J 0 [(0, .ref (ad k)), (1, .int a0), (2, .int a1)] [] := by
  unfold f_X9_countHits at h
  refine r_iconst C (v := 0) (by decide) dX9_countHits_0 ?_
  refine r_istore_n C (lv1 := [(3, .int (0 : Int32)), (0, .ref (ad k)), (1, .int a0), (2, .int a1)]) rfl (by decide) rfl dX9_countHits_1 ?_
  refine r_iconst C (v := 1) (by decide) dX9_countHits_2 ?_
  refine r_istore C (lv1 := [(4, .int (1 : Int32)), (3, .int (0 : Int32)), (0, .ref (ad k)), (1, .int a0), (2, .int a1)]) (by decide) rfl dX9_countHits_3 ?_
  exact r_sub [2, 3, 4, 1, 0] rfl (wL_X9_countHits_5 C hr hk _  h)
set_option maxHeartbeats 4000000 in
set_option maxRecDepth 100000 in
theorem c_X9_countHits {l : Launch} {g : GG} {ad : Nat → Nat} {k : Nat} {a0 : Int32} {a1 : Int32} {I : HI} {J : HJ} {r : Int32} (hk : OB nO k 8) (h : f_X9_countHits k a0 a1 I J = some r) : CM l yX9_countHits cX9_countHits 5 (some .int) (rmk 6 198) g ad nO oR [.ref (ad k), .int a0, .int a1] I J (QAi g ad nO oR r I J) :=
  CM_of (by decide +kernel) (Nat.le_of_ble_eq_true rfl) (fun p e s m args below meth c C hr => w_X9_countHits C hr hk h)
set_option maxHeartbeats 4000000 in
set_option maxRecDepth 100000 in
theorem w_X9_isApart {l : Launch} {g : GG} {ad : Nat → Nat} {p : Program} {e : Env} {s : State} {m : MethodId} {args : Array Value} {below : List Frame} {meth : Method} {c : Code} {k : Nat} {a0 : Int32} {a1 : Int32} {a2 : Int32} {z : Int32} (C : Cx p s m args meth c RX9 cX9_isApart 4 g (AW ad nO)) (hr : meth.sig.returnType = (some .boolean)) (hk : OB nO k 8) {I : HI} {J : HJ} (h : f_X9_isApart k a0 a1 a2 I J = some z) : V p l e (rmk 4 150) s m args below meth c (MQ below (QAi g ad nO oR z I J) args s 0 0 (AW ad nO)) 4 0 0 g (AW ad nO) ad nO oR I J 0 [(0, .ref (ad k)), (1, .int a0), (2, .int a1), (3, .int a2)] [] := by
  unfold f_X9_isApart at h
  refine r_aload_n C 0 rfl rfl dX9_isApart_0 ?_
  refine r_iload_n C 1 rfl rfl dX9_isApart_1 ?_
  obtain ⟨r5, hq6, h⟩ := bd1_ h
  refine r_cvi C (rest := []) (c_X9_at hk hq6) fm_X9_at lk_X9_35 hk ⟨_, ct_8 hk.1⟩ rfl rfl ⟨rfl, rfl, Nat.le_of_ble_eq_true rfl, Nat.le_of_ble_eq_true rfl⟩ (Nat.le_of_ble_eq_true rfl) rfl dX9_isApart_2 ?_
  refine r_aload_n C 0 rfl rfl dX9_isApart_5 ?_
  refine r_iload_n C 2 rfl rfl dX9_isApart_6 ?_
  obtain ⟨r7, hq8, h⟩ := bd1_ h
  refine r_cvi C (rest := [.int r5]) (c_X9_at hk hq8) fm_X9_at lk_X9_35 hk ⟨_, ct_8 hk.1⟩ rfl rfl ⟨rfl, rfl, Nat.le_of_ble_eq_true rfl, Nat.le_of_ble_eq_true rfl⟩ (Nat.le_of_ble_eq_true rfl) rfl dX9_isApart_7 ?_
  refine r_isub C dX9_isApart_10 ?_
  refine r_mabs C lk_X9_56 (Nat.le_of_ble_eq_true rfl) (Nat.le_of_ble_eq_true rfl) dX9_isApart_11 ?_
  refine r_iload_n C 3 rfl rfl dX9_isApart_14 ?_
  refine r_icmp_gt C (tgt := 22) h dX9_isApart_15 (by decide) (fun h => ?_) (fun h => ?_)
  · refine r_iconst C (v := 0) (by decide) dX9_isApart_22 ?_
    have hz9 := Option.some.inj h
    subst hz9
    exact r_zret C (v := (0 : Int32)) rfl hr dX9_isApart_23
  · refine r_iconst C (v := 1) (by decide) dX9_isApart_18 ?_
    refine r_goto C (tgt := 23) dX9_isApart_19 (by decide) ?_
    have hz9 := Option.some.inj h
    subst hz9
    exact r_zret C (v := (1 : Int32)) rfl hr dX9_isApart_23
set_option maxHeartbeats 4000000 in
set_option maxRecDepth 100000 in
theorem c_X9_isApart {l : Launch} {g : GG} {ad : Nat → Nat} {k : Nat} {a0 : Int32} {a1 : Int32} {a2 : Int32} {I : HI} {J : HJ} {r : Int32} (hk : OB nO k 8) (h : f_X9_isApart k a0 a1 a2 I J = some r) : CM l yX9_isApart cX9_isApart 4 (some .boolean) (rmk 4 150) g ad nO oR [.ref (ad k), .int a0, .int a1, .int a2] I J (QAi g ad nO oR r I J) :=
  CM_of (by decide +kernel) (Nat.le_of_ble_eq_true rfl) (fun p e s m args below meth c C hr => w_X9_isApart C hr hk h)
set_option maxHeartbeats 4000000 in
set_option maxRecDepth 100000 in
theorem wB_X9_countTwos_61 {l : Launch} {g : GG} {ad : Nat → Nat} {p : Program} {e : Env} {s : State} {m : MethodId} {args : Array Value} {below : List Frame} {meth : Method} {c : Code} {k : Nat} {a0 : Int32} {a1 : Int32} {z : Int32} (C : Cx p s m args meth c RX9 cX9_countTwos 6 g (AW ad nO)) (hr : meth.sig.returnType = (some .int)) (hk : OB nO k 8) {r_5 : Int32 → Int32 → HI → HJ → Option (Int32)} {r_19 : Int32 → Int32 → Int32 → HI → HJ → Option (Int32)} {I : HI} {J : HJ} (hr_5 : ∀ {x3 : Int32} {x4 : Int32}, r_5 x3 x4 I J = some z → V p l e (rmk 5 173) s m args below meth c (MQ below (QAi g ad nO oR z I J) args s 0 0 (AW ad nO)) 6 0 0 g (AW ad nO) ad nO oR I J 5 [(0, .ref (ad k)), (1, .int a0), (2, .int a1), (3, .int x3), (4, .int x4)] []) (hr_19 : ∀ {x3 : Int32} {x4 : Int32} {x5 : Int32}, r_19 x3 x4 x5 I J = some z → V p l e (rmk 5 173) s m args below meth c (MQ below (QAi g ad nO oR z I J) args s 0 0 (AW ad nO)) 6 0 0 g (AW ad nO) ad nO oR I J 19 [(0, .ref (ad k)), (1, .int a0), (2, .int a1), (3, .int x3), (4, .int x4), (5, .int x5)] []) {x3 : Int32} {x4 : Int32} {x5 : Int32} (h : fB_X9_countTwos_61 k a0 a1 r_5 r_19 x3 x4 x5 I J = some z) : V p l e (rmk 5 173) s m args below meth c (MQ below (QAi g ad nO oR z I J) args s 0 0 (AW ad nO)) 6 0 0 g (AW ad nO) ad nO oR I J 61 [(0, .ref (ad k)), (1, .int a0), (2, .int a1), (3, .int x3), (4, .int x4), (5, .int x5)] [] := by
  unfold fB_X9_countTwos_61 at h
  refine r_iincN C h (k := 5) (zz := 1) rfl rfl (by decide) (lv1 := fun v8 => [(5, .int v8), (0, .ref (ad k)), (1, .int a0), (2, .int a1), (3, .int x3), (4, .int x4)]) (fun _ => rfl) dX9_countTwos_61 (fun v8 h => ?_)
  refine r_goto C (tgt := 19) dX9_countTwos_64 (by decide) ?_
  exact r_sub [1, 2, 3, 4, 5, 0] rfl (hr_19  h)
set_option maxHeartbeats 4000000 in
set_option maxRecDepth 100000 in
theorem wB_X9_countTwos_58 {l : Launch} {g : GG} {ad : Nat → Nat} {p : Program} {e : Env} {s : State} {m : MethodId} {args : Array Value} {below : List Frame} {meth : Method} {c : Code} {k : Nat} {a0 : Int32} {a1 : Int32} {z : Int32} (C : Cx p s m args meth c RX9 cX9_countTwos 6 g (AW ad nO)) (hr : meth.sig.returnType = (some .int)) (hk : OB nO k 8) {r_5 : Int32 → Int32 → HI → HJ → Option (Int32)} {r_19 : Int32 → Int32 → Int32 → HI → HJ → Option (Int32)} {I : HI} {J : HJ} (hr_5 : ∀ {x3 : Int32} {x4 : Int32}, r_5 x3 x4 I J = some z → V p l e (rmk 5 173) s m args below meth c (MQ below (QAi g ad nO oR z I J) args s 0 0 (AW ad nO)) 6 0 0 g (AW ad nO) ad nO oR I J 5 [(0, .ref (ad k)), (1, .int a0), (2, .int a1), (3, .int x3), (4, .int x4)] []) (hr_19 : ∀ {x3 : Int32} {x4 : Int32} {x5 : Int32}, r_19 x3 x4 x5 I J = some z → V p l e (rmk 5 173) s m args below meth c (MQ below (QAi g ad nO oR z I J) args s 0 0 (AW ad nO)) 6 0 0 g (AW ad nO) ad nO oR I J 19 [(0, .ref (ad k)), (1, .int a0), (2, .int a1), (3, .int x3), (4, .int x4), (5, .int x5)] []) {x3 : Int32} {x4 : Int32} {x5 : Int32} (h : fB_X9_countTwos_58 k a0 a1 r_5 r_19 x3 x4 x5 I J = some z) : V p l e (rmk 5 173) s m args below meth c (MQ below (QAi g ad nO oR z I J) args s 0 0 (AW ad nO)) 6 0 0 g (AW ad nO) ad nO oR I J 58 [(0, .ref (ad k)), (1, .int a0), (2, .int a1), (3, .int x3), (4, .int x4), (5, .int x5)] [] := by
  unfold fB_X9_countTwos_58 at h
  refine r_iincN C h (k := 3) (zz := 1) rfl rfl (by decide) (lv1 := fun v9 => [(3, .int v9), (0, .ref (ad k)), (1, .int a0), (2, .int a1), (4, .int x4), (5, .int x5)]) (fun _ => rfl) dX9_countTwos_58 (fun v9 h => ?_)
  exact r_sub [1, 2, 3, 0, 4, 5] rfl (wB_X9_countTwos_61 C hr hk hr_5 hr_19  h)
set_option maxHeartbeats 4000000 in
set_option maxRecDepth 100000 in
theorem wLB_X9_countTwos_19 {l : Launch} {g : GG} {ad : Nat → Nat} {p : Program} {e : Env} {s : State} {m : MethodId} {args : Array Value} {below : List Frame} {meth : Method} {c : Code} {k : Nat} {a0 : Int32} {a1 : Int32} {z : Int32} (C : Cx p s m args meth c RX9 cX9_countTwos 6 g (AW ad nO)) (hr : meth.sig.returnType = (some .int)) (hk : OB nO k 8) {r_5 : Int32 → Int32 → HI → HJ → Option (Int32)} {I : HI} {J : HJ} (hr_5 : ∀ {x3 : Int32} {x4 : Int32}, r_5 x3 x4 I J = some z → V p l e (rmk 5 173) s m args below meth c (MQ below (QAi g ad nO oR z I J) args s 0 0 (AW ad nO)) 6 0 0 g (AW ad nO) ad nO oR I J 5 [(0, .ref (ad k)), (1, .int a0), (2, .int a1), (3, .int x3), (4, .int x4)] []) {r_19 : Int32 → Int32 → Int32 → HI → HJ → Option (Int32)} (hr_19 : ∀ {x3 : Int32} {x4 : Int32} {x5 : Int32}, r_19 x3 x4 x5 I J = some z → V p l e (rmk 5 173) s m args below meth c (MQ below (QAi g ad nO oR z I J) args s 0 0 (AW ad nO)) 6 0 0 g (AW ad nO) ad nO oR I J 19 [(0, .ref (ad k)), (1, .int a0), (2, .int a1), (3, .int x3), (4, .int x4), (5, .int x5)] []) {x3 : Int32} {x4 : Int32} {x5 : Int32} (h : fLB_X9_countTwos_19 k a0 a1 r_5 r_19 x3 x4 x5 I J = some z) : V p l e (rmk 5 173) s m args below meth c (MQ below (QAi g ad nO oR z I J) args s 0 0 (AW ad nO)) 6 0 0 g (AW ad nO) ad nO oR I J 19 [(0, .ref (ad k)), (1, .int a0), (2, .int a1), (3, .int x3), (4, .int x4), (5, .int x5)] [] := by
  unfold fLB_X9_countTwos_19 at h
  refine r_iload C 5 rfl dX9_countTwos_19 ?_
  refine r_iload C 4 rfl dX9_countTwos_21 ?_
  refine r_icmp_ge C (tgt := 67) h dX9_countTwos_23 (by decide) (fun h => ?_) (fun h => ?_)
  · refine r_iincN C h (k := 4) (zz := 1) rfl rfl (by decide) (lv1 := fun v10 => [(4, .int v10), (0, .ref (ad k)), (1, .int a0), (2, .int a1), (3, .int x3), (5, .int x5)]) (fun _ => rfl) dX9_countTwos_67 (fun v10 h => ?_)
    refine r_goto C (tgt := 5) dX9_countTwos_70 (by decide) ?_
    exact r_sub [1, 2, 3, 4, 0] rfl (hr_5  h)
  · refine r_aload_n C 0 rfl rfl dX9_countTwos_26 ?_
    refine r_iload C 5 rfl dX9_countTwos_27 ?_
    refine r_iload C 4 rfl dX9_countTwos_29 ?_
    refine r_iload_n C 1 rfl rfl dX9_countTwos_31 ?_
    obtain ⟨r11, hq12, h⟩ := bd1_ h
    refine r_cvi C (rest := []) (c_X9_isApart hk hq12) fm_X9_isApart lk_X9_64 hk ⟨_, ct_8 hk.1⟩ rfl rfl ⟨rfl, rfl, Nat.le_of_ble_eq_true rfl, Nat.le_of_ble_eq_true rfl⟩ (Nat.le_of_ble_eq_true rfl) rfl dX9_countTwos_32 ?_
    refine r_if_eq C (tgt := 61) h dX9_countTwos_35 (by decide) (fun h => ?_) (fun h => ?_)
    · exact wB_X9_countTwos_61 C hr hk hr_5 hr_19  h
    · refine r_iload_n C 2 rfl rfl dX9_countTwos_38 ?_
      refine r_if_eq C (tgt := 58) h dX9_countTwos_39 (by decide) (fun h => ?_) (fun h => ?_)
      · exact wB_X9_countTwos_58 C hr hk hr_5 hr_19  h
      · refine r_aload_n C 0 rfl rfl dX9_countTwos_42 ?_
        refine r_iload C 5 rfl dX9_countTwos_43 ?_
        refine r_iconst C (v := 1) (by decide) dX9_countTwos_45 ?_
        refine r_iadd C dX9_countTwos_46 ?_
        refine r_iload C 4 rfl dX9_countTwos_47 ?_
        refine r_pc (pc1 := 49) rfl ?_
        refine r_iconst C (v := 1) (by decide) dX9_countTwos_49 ?_
        refine r_iadd C dX9_countTwos_50 ?_
        refine r_iload_n C 1 rfl rfl dX9_countTwos_51 ?_
        obtain ⟨r13, hq14, h⟩ := bd1_ h
        refine r_cvi C (rest := []) (c_X9_isApart hk hq14) fm_X9_isApart lk_X9_64 hk ⟨_, ct_8 hk.1⟩ rfl rfl ⟨rfl, rfl, Nat.le_of_ble_eq_true rfl, Nat.le_of_ble_eq_true rfl⟩ (Nat.le_of_ble_eq_true rfl) rfl dX9_countTwos_52 ?_
        refine r_if_eq C (tgt := 61) h dX9_countTwos_55 (by decide) (fun h => ?_) (fun h => ?_)
        · exact wB_X9_countTwos_61 C hr hk hr_5 hr_19  h
        · exact wB_X9_countTwos_58 C hr hk hr_5 hr_19  h
set_option maxHeartbeats 4000000 in
set_option maxRecDepth 100000 in
theorem wL_X9_countTwos_19 {l : Launch} {g : GG} {ad : Nat → Nat} {p : Program} {e : Env} {s : State} {m : MethodId} {args : Array Value} {below : List Frame} {meth : Method} {c : Code} {k : Nat} {a0 : Int32} {a1 : Int32} {z : Int32} (C : Cx p s m args meth c RX9 cX9_countTwos 6 g (AW ad nO)) (hr : meth.sig.returnType = (some .int)) (hk : OB nO k 8) {r_5 : Int32 → Int32 → HI → HJ → Option (Int32)} {I : HI} {J : HJ} (hr_5 : ∀ {x3 : Int32} {x4 : Int32}, r_5 x3 x4 I J = some z → V p l e (rmk 5 173) s m args below meth c (MQ below (QAi g ad nO oR z I J) args s 0 0 (AW ad nO)) 6 0 0 g (AW ad nO) ad nO oR I J 5 [(0, .ref (ad k)), (1, .int a0), (2, .int a1), (3, .int x3), (4, .int x4)] []) : ∀ (f : Nat) {x3 : Int32} {x4 : Int32} {x5 : Int32}, fL_X9_countTwos_19 k a0 a1 r_5 f x3 x4 x5 I J = some z → V p l e (rmk 5 173) s m args below meth c (MQ below (QAi g ad nO oR z I J) args s 0 0 (AW ad nO)) 6 0 0 g (AW ad nO) ad nO oR I J 19 [(0, .ref (ad k)), (1, .int a0), (2, .int a1), (3, .int x3), (4, .int x4), (5, .int x5)] [] := by
  intro f
  induction f with
  | zero =>
    intro _ _ _  h
    have h0 : (none : Option (Int32)) = some z := h
    cases h0
  | succ f ih =>
    intro _ _ _  h
    exact wLB_X9_countTwos_19 C hr hk hr_5 ih  h
set_option maxHeartbeats 4000000 in
set_option maxRecDepth 100000 in
theorem wLB_X9_countTwos_5 {l : Launch} {g : GG} {ad : Nat → Nat} {p : Program} {e : Env} {s : State} {m : MethodId} {args : Array Value} {below : List Frame} {meth : Method} {c : Code} {k : Nat} {a0 : Int32} {a1 : Int32} {z : Int32} (C : Cx p s m args meth c RX9 cX9_countTwos 6 g (AW ad nO)) (hr : meth.sig.returnType = (some .int)) (hk : OB nO k 8) {I : HI} {J : HJ}  {r_5 : Int32 → Int32 → HI → HJ → Option (Int32)} (hr_5 : ∀ {x3 : Int32} {x4 : Int32}, r_5 x3 x4 I J = some z → V p l e (rmk 5 173) s m args below meth c (MQ below (QAi g ad nO oR z I J) args s 0 0 (AW ad nO)) 6 0 0 g (AW ad nO) ad nO oR I J 5 [(0, .ref (ad k)), (1, .int a0), (2, .int a1), (3, .int x3), (4, .int x4)] []) {x3 : Int32} {x4 : Int32} (h : fLB_X9_countTwos_5 k a0 a1 r_5 x3 x4 I J = some z) : V p l e (rmk 5 173) s m args below meth c (MQ below (QAi g ad nO oR z I J) args s 0 0 (AW ad nO)) 6 0 0 g (AW ad nO) ad nO oR I J 5 [(0, .ref (ad k)), (1, .int a0), (2, .int a1), (3, .int x3), (4, .int x4)] [] := by
  unfold fLB_X9_countTwos_5 at h
  refine r_iload C 4 rfl dX9_countTwos_5 ?_
  refine r_iconst C (v := 1) (by decide) dX9_countTwos_7 ?_
  refine r_iadd C dX9_countTwos_8 ?_
  refine r_aload_n C 0 rfl rfl dX9_countTwos_9 ?_
  refine gf_X9_13 C hk dX9_countTwos_10 ?_
  refine r_pc (pc1 := 13) rfl ?_
  refine r_icmp_ge C (tgt := 73) h dX9_countTwos_13 (by decide) (fun h => ?_) (fun h => ?_)
  · refine r_iload_n C 3 rfl rfl dX9_countTwos_73 ?_
    have hz9 := Option.some.inj h
    subst hz9
    exact r_iret C hr dX9_countTwos_74
  · refine r_iconst C (v := 0) (by decide) dX9_countTwos_16 ?_
    refine r_istore C (lv1 := [(5, .int (0 : Int32)), (0, .ref (ad k)), (1, .int a0), (2, .int a1), (3, .int x3), (4, .int x4)]) (by decide) rfl dX9_countTwos_17 ?_
    exact r_sub [1, 2, 3, 4, 5, 0] rfl (wL_X9_countTwos_19 C hr hk hr_5 _  h)
set_option maxHeartbeats 4000000 in
set_option maxRecDepth 100000 in
theorem wL_X9_countTwos_5 {l : Launch} {g : GG} {ad : Nat → Nat} {p : Program} {e : Env} {s : State} {m : MethodId} {args : Array Value} {below : List Frame} {meth : Method} {c : Code} {k : Nat} {a0 : Int32} {a1 : Int32} {z : Int32} (C : Cx p s m args meth c RX9 cX9_countTwos 6 g (AW ad nO)) (hr : meth.sig.returnType = (some .int)) (hk : OB nO k 8) {I : HI} {J : HJ}  : ∀ (f : Nat) {x3 : Int32} {x4 : Int32}, fL_X9_countTwos_5 k a0 a1 f x3 x4 I J = some z → V p l e (rmk 5 173) s m args below meth c (MQ below (QAi g ad nO oR z I J) args s 0 0 (AW ad nO)) 6 0 0 g (AW ad nO) ad nO oR I J 5 [(0, .ref (ad k)), (1, .int a0), (2, .int a1), (3, .int x3), (4, .int x4)] [] := by
  intro f
  induction f with
  | zero =>
    intro _ _  h
    have h0 : (none : Option (Int32)) = some z := h
    cases h0
  | succ f ih =>
    intro _ _  h
    exact wLB_X9_countTwos_5 C hr hk ih  h
set_option maxHeartbeats 4000000 in
set_option maxRecDepth 100000 in
theorem w_X9_countTwos {l : Launch} {g : GG} {ad : Nat → Nat} {p : Program} {e : Env} {s : State} {m : MethodId} {args : Array Value} {below : List Frame} {meth : Method} {c : Code} {k : Nat} {a0 : Int32} {a1 : Int32} {z : Int32} (C : Cx p s m args meth c RX9 cX9_countTwos 6 g (AW ad nO)) (hr : meth.sig.returnType = (some .int)) (hk : OB nO k 8) {I : HI} {J : HJ} (h : f_X9_countTwos k a0 a1 I J = some z) : V p l e (rmk 5 173) s m args below meth c (MQ below (QAi g ad nO oR z I J) args s 0 0 (AW ad nO)) 6 0 0 g (AW ad nO) ad nO oR I J 0 [(0, .ref (ad k)), (1, .int a0), (2, .int a1)] [] := by
  unfold f_X9_countTwos at h
  refine r_iconst C (v := 0) (by decide) dX9_countTwos_0 ?_
  refine r_istore_n C (lv1 := [(3, .int (0 : Int32)), (0, .ref (ad k)), (1, .int a0), (2, .int a1)]) rfl (by decide) rfl dX9_countTwos_1 ?_
  refine r_iconst C (v := 1) (by decide) dX9_countTwos_2 ?_
  refine r_istore C (lv1 := [(4, .int (1 : Int32)), (3, .int (0 : Int32)), (0, .ref (ad k)), (1, .int a0), (2, .int a1)]) (by decide) rfl dX9_countTwos_3 ?_
  exact r_sub [2, 3, 4, 1, 0] rfl (wL_X9_countTwos_5 C hr hk _  h)
set_option maxHeartbeats 4000000 in
set_option maxRecDepth 100000 in
theorem c_X9_countTwos {l : Launch} {g : GG} {ad : Nat → Nat} {k : Nat} {a0 : Int32} {a1 : Int32} {I : HI} {J : HJ} {r : Int32} (hk : OB nO k 8) (h : f_X9_countTwos k a0 a1 I J = some r) : CM l yX9_countTwos cX9_countTwos 6 (some .int) (rmk 5 173) g ad nO oR [.ref (ad k), .int a0, .int a1] I J (QAi g ad nO oR r I J) :=
  CM_of (by decide +kernel) (Nat.le_of_ble_eq_true rfl) (fun p e s m args below meth c C hr => w_X9_countTwos C hr hk h)
set_option maxHeartbeats 4000000 in
set_option maxRecDepth 100000 in
theorem wLB_X9_least_8 {l : Launch} {g : GG} {ad : Nat → Nat} {p : Program} {e : Env} {s : State} {m : MethodId} {args : Array Value} {below : List Frame} {meth : Method} {c : Code} {k : Nat} {z : Int32} (C : Cx p s m args meth c RX9 cX9_least 3 g (AW ad nO)) (hr : meth.sig.returnType = (some .int)) (hk : OB nO k 8) {I : HI} {J : HJ}  {r_8 : Int32 → Int32 → HI → HJ → Option (Int32)} (hr_8 : ∀ {x1 : Int32} {x2 : Int32}, r_8 x1 x2 I J = some z → V p l e (rmk 4 150) s m args below meth c (MQ below (QAi g ad nO oR z I J) args s 0 0 (AW ad nO)) 3 0 0 g (AW ad nO) ad nO oR I J 8 [(0, .ref (ad k)), (1, .int x1), (2, .int x2)] []) {x1 : Int32} {x2 : Int32} (h : fLB_X9_least_8 k r_8 x1 x2 I J = some z) : V p l e (rmk 4 150) s m args below meth c (MQ below (QAi g ad nO oR z I J) args s 0 0 (AW ad nO)) 3 0 0 g (AW ad nO) ad nO oR I J 8 [(0, .ref (ad k)), (1, .int x1), (2, .int x2)] [] := by
  unfold fLB_X9_least_8 at h
  refine r_iload_n C 2 rfl rfl dX9_least_8 ?_
  refine r_aload_n C 0 rfl rfl dX9_least_9 ?_
  refine gf_X9_13 C hk dX9_least_10 ?_
  refine r_icmp_ge C (tgt := 32) h dX9_least_13 (by decide) (fun h => ?_) (fun h => ?_)
  · refine r_iload_n C 1 rfl rfl dX9_least_32 ?_
    have hz9 := Option.some.inj h
    subst hz9
    exact r_iret C hr dX9_least_33
  · refine r_iload_n C 1 rfl rfl dX9_least_16 ?_
    refine r_aload_n C 0 rfl rfl dX9_least_17 ?_
    refine r_iload_n C 2 rfl rfl dX9_least_18 ?_
    obtain ⟨r7, hq8, h⟩ := bd1_ h
    refine r_cvi C (rest := [.int x1]) (c_X9_at hk hq8) fm_X9_at lk_X9_35 hk ⟨_, ct_8 hk.1⟩ rfl rfl ⟨rfl, rfl, Nat.le_of_ble_eq_true rfl, Nat.le_of_ble_eq_true rfl⟩ (Nat.le_of_ble_eq_true rfl) rfl dX9_least_19 ?_
    refine r_mmin C lk_X9_67 (Nat.le_of_ble_eq_true rfl) (Nat.le_of_ble_eq_true rfl) dX9_least_22 ?_
    refine r_nmi h (fun v9 h => ?_)
    refine r_istore_n C (lv1 := [(1, .int v9), (0, .ref (ad k)), (2, .int x2)]) rfl (by decide) rfl dX9_least_25 ?_
    refine r_iincN C h (k := 2) (zz := 1) rfl rfl (by decide) (lv1 := fun v10 => [(2, .int v10), (1, .int v9), (0, .ref (ad k))]) (fun _ => rfl) dX9_least_26 (fun v10 h => ?_)
    refine r_goto C (tgt := 8) dX9_least_29 (by decide) ?_
    exact r_sub [2, 1, 0] rfl (hr_8  h)
set_option maxHeartbeats 4000000 in
set_option maxRecDepth 100000 in
theorem wL_X9_least_8 {l : Launch} {g : GG} {ad : Nat → Nat} {p : Program} {e : Env} {s : State} {m : MethodId} {args : Array Value} {below : List Frame} {meth : Method} {c : Code} {k : Nat} {z : Int32} (C : Cx p s m args meth c RX9 cX9_least 3 g (AW ad nO)) (hr : meth.sig.returnType = (some .int)) (hk : OB nO k 8) {I : HI} {J : HJ}  : ∀ (f : Nat) {x1 : Int32} {x2 : Int32}, fL_X9_least_8 k f x1 x2 I J = some z → V p l e (rmk 4 150) s m args below meth c (MQ below (QAi g ad nO oR z I J) args s 0 0 (AW ad nO)) 3 0 0 g (AW ad nO) ad nO oR I J 8 [(0, .ref (ad k)), (1, .int x1), (2, .int x2)] [] := by
  intro f
  induction f with
  | zero =>
    intro _ _  h
    have h0 : (none : Option (Int32)) = some z := h
    cases h0
  | succ f ih =>
    intro _ _  h
    exact wLB_X9_least_8 C hr hk ih  h
set_option maxHeartbeats 4000000 in
set_option maxRecDepth 100000 in
theorem w_X9_least {l : Launch} {g : GG} {ad : Nat → Nat} {p : Program} {e : Env} {s : State} {m : MethodId} {args : Array Value} {below : List Frame} {meth : Method} {c : Code} {k : Nat} {z : Int32} (C : Cx p s m args meth c RX9 cX9_least 3 g (AW ad nO)) (hr : meth.sig.returnType = (some .int)) (hk : OB nO k 8) {I : HI} {J : HJ} (h : f_X9_least k I J = some z) : V p l e (rmk 4 150) s m args below meth c (MQ below (QAi g ad nO oR z I J) args s 0 0 (AW ad nO)) 3 0 0 g (AW ad nO) ad nO oR I J 0 [(0, .ref (ad k))] [] := by
  unfold f_X9_least at h
  refine r_aload_n C 0 rfl rfl dX9_least_0 ?_
  refine r_iconst C (v := 0) (by decide) dX9_least_1 ?_
  obtain ⟨r11, hq12, h⟩ := bd1_ h
  refine r_cvi C (rest := []) (c_X9_at hk hq12) fm_X9_at lk_X9_35 hk ⟨_, ct_8 hk.1⟩ rfl rfl ⟨rfl, rfl, Nat.le_of_ble_eq_true rfl, Nat.le_of_ble_eq_true rfl⟩ (Nat.le_of_ble_eq_true rfl) rfl dX9_least_2 ?_
  refine r_istore_n C (lv1 := [(1, .int r11), (0, .ref (ad k))]) rfl (by decide) rfl dX9_least_5 ?_
  refine r_iconst C (v := 1) (by decide) dX9_least_6 ?_
  refine r_istore_n C (lv1 := [(2, .int (1 : Int32)), (1, .int r11), (0, .ref (ad k))]) rfl (by decide) rfl dX9_least_7 ?_
  exact r_sub [2, 1, 0] rfl (wL_X9_least_8 C hr hk _  h)
set_option maxHeartbeats 4000000 in
set_option maxRecDepth 100000 in
theorem c_X9_least {l : Launch} {g : GG} {ad : Nat → Nat} {k : Nat} {I : HI} {J : HJ} {r : Int32} (hk : OB nO k 8) (h : f_X9_least k I J = some r) : CM l yX9_least cX9_least 3 (some .int) (rmk 4 150) g ad nO oR [.ref (ad k)] I J (QAi g ad nO oR r I J) :=
  CM_of (by decide +kernel) (Nat.le_of_ble_eq_true rfl) (fun p e s m args below meth c C hr => w_X9_least C hr hk h)
set_option maxHeartbeats 4000000 in
set_option maxRecDepth 100000 in
theorem wLB_X9_greatest_8 {l : Launch} {g : GG} {ad : Nat → Nat} {p : Program} {e : Env} {s : State} {m : MethodId} {args : Array Value} {below : List Frame} {meth : Method} {c : Code} {k : Nat} {z : Int32} (C : Cx p s m args meth c RX9 cX9_greatest 3 g (AW ad nO)) (hr : meth.sig.returnType = (some .int)) (hk : OB nO k 8) {I : HI} {J : HJ}  {r_8 : Int32 → Int32 → HI → HJ → Option (Int32)} (hr_8 : ∀ {x1 : Int32} {x2 : Int32}, r_8 x1 x2 I J = some z → V p l e (rmk 4 150) s m args below meth c (MQ below (QAi g ad nO oR z I J) args s 0 0 (AW ad nO)) 3 0 0 g (AW ad nO) ad nO oR I J 8 [(0, .ref (ad k)), (1, .int x1), (2, .int x2)] []) {x1 : Int32} {x2 : Int32} (h : fLB_X9_greatest_8 k r_8 x1 x2 I J = some z) : V p l e (rmk 4 150) s m args below meth c (MQ below (QAi g ad nO oR z I J) args s 0 0 (AW ad nO)) 3 0 0 g (AW ad nO) ad nO oR I J 8 [(0, .ref (ad k)), (1, .int x1), (2, .int x2)] [] := by
  unfold fLB_X9_greatest_8 at h
  refine r_iload_n C 2 rfl rfl dX9_greatest_8 ?_
  refine r_aload_n C 0 rfl rfl dX9_greatest_9 ?_
  refine gf_X9_13 C hk dX9_greatest_10 ?_
  refine r_icmp_ge C (tgt := 32) h dX9_greatest_13 (by decide) (fun h => ?_) (fun h => ?_)
  · refine r_iload_n C 1 rfl rfl dX9_greatest_32 ?_
    have hz9 := Option.some.inj h
    subst hz9
    exact r_iret C hr dX9_greatest_33
  · refine r_iload_n C 1 rfl rfl dX9_greatest_16 ?_
    refine r_aload_n C 0 rfl rfl dX9_greatest_17 ?_
    refine r_iload_n C 2 rfl rfl dX9_greatest_18 ?_
    obtain ⟨r7, hq8, h⟩ := bd1_ h
    refine r_cvi C (rest := [.int x1]) (c_X9_at hk hq8) fm_X9_at lk_X9_35 hk ⟨_, ct_8 hk.1⟩ rfl rfl ⟨rfl, rfl, Nat.le_of_ble_eq_true rfl, Nat.le_of_ble_eq_true rfl⟩ (Nat.le_of_ble_eq_true rfl) rfl dX9_greatest_19 ?_
    refine r_mmax C lk_X9_70 (Nat.le_of_ble_eq_true rfl) (Nat.le_of_ble_eq_true rfl) dX9_greatest_22 ?_
    refine r_nmi h (fun v9 h => ?_)
    refine r_istore_n C (lv1 := [(1, .int v9), (0, .ref (ad k)), (2, .int x2)]) rfl (by decide) rfl dX9_greatest_25 ?_
    refine r_iincN C h (k := 2) (zz := 1) rfl rfl (by decide) (lv1 := fun v10 => [(2, .int v10), (1, .int v9), (0, .ref (ad k))]) (fun _ => rfl) dX9_greatest_26 (fun v10 h => ?_)
    refine r_goto C (tgt := 8) dX9_greatest_29 (by decide) ?_
    exact r_sub [2, 1, 0] rfl (hr_8  h)
set_option maxHeartbeats 4000000 in
set_option maxRecDepth 100000 in
theorem wL_X9_greatest_8 {l : Launch} {g : GG} {ad : Nat → Nat} {p : Program} {e : Env} {s : State} {m : MethodId} {args : Array Value} {below : List Frame} {meth : Method} {c : Code} {k : Nat} {z : Int32} (C : Cx p s m args meth c RX9 cX9_greatest 3 g (AW ad nO)) (hr : meth.sig.returnType = (some .int)) (hk : OB nO k 8) {I : HI} {J : HJ}  : ∀ (f : Nat) {x1 : Int32} {x2 : Int32}, fL_X9_greatest_8 k f x1 x2 I J = some z → V p l e (rmk 4 150) s m args below meth c (MQ below (QAi g ad nO oR z I J) args s 0 0 (AW ad nO)) 3 0 0 g (AW ad nO) ad nO oR I J 8 [(0, .ref (ad k)), (1, .int x1), (2, .int x2)] [] := by
  intro f
  induction f with
  | zero =>
    intro _ _  h
    have h0 : (none : Option (Int32)) = some z := h
    cases h0
  | succ f ih =>
    intro _ _  h
    exact wLB_X9_greatest_8 C hr hk ih  h
set_option maxHeartbeats 4000000 in
set_option maxRecDepth 100000 in
theorem w_X9_greatest {l : Launch} {g : GG} {ad : Nat → Nat} {p : Program} {e : Env} {s : State} {m : MethodId} {args : Array Value} {below : List Frame} {meth : Method} {c : Code} {k : Nat} {z : Int32} (C : Cx p s m args meth c RX9 cX9_greatest 3 g (AW ad nO)) (hr : meth.sig.returnType = (some .int)) (hk : OB nO k 8) {I : HI} {J : HJ} (h : f_X9_greatest k I J = some z) : V p l e (rmk 4 150) s m args below meth c (MQ below (QAi g ad nO oR z I J) args s 0 0 (AW ad nO)) 3 0 0 g (AW ad nO) ad nO oR I J 0 [(0, .ref (ad k))] [] := by
  unfold f_X9_greatest at h
  refine r_aload_n C 0 rfl rfl dX9_greatest_0 ?_
  refine r_iconst C (v := 0) (by decide) dX9_greatest_1 ?_
  obtain ⟨r11, hq12, h⟩ := bd1_ h
  refine r_cvi C (rest := []) (c_X9_at hk hq12) fm_X9_at lk_X9_35 hk ⟨_, ct_8 hk.1⟩ rfl rfl ⟨rfl, rfl, Nat.le_of_ble_eq_true rfl, Nat.le_of_ble_eq_true rfl⟩ (Nat.le_of_ble_eq_true rfl) rfl dX9_greatest_2 ?_
  refine r_istore_n C (lv1 := [(1, .int r11), (0, .ref (ad k))]) rfl (by decide) rfl dX9_greatest_5 ?_
  refine r_iconst C (v := 1) (by decide) dX9_greatest_6 ?_
  refine r_istore_n C (lv1 := [(2, .int (1 : Int32)), (1, .int r11), (0, .ref (ad k))]) rfl (by decide) rfl dX9_greatest_7 ?_
  exact r_sub [2, 1, 0] rfl (wL_X9_greatest_8 C hr hk _  h)
set_option maxHeartbeats 4000000 in
set_option maxRecDepth 100000 in
theorem c_X9_greatest {l : Launch} {g : GG} {ad : Nat → Nat} {k : Nat} {I : HI} {J : HJ} {r : Int32} (hk : OB nO k 8) (h : f_X9_greatest k I J = some r) : CM l yX9_greatest cX9_greatest 3 (some .int) (rmk 4 150) g ad nO oR [.ref (ad k)] I J (QAi g ad nO oR r I J) :=
  CM_of (by decide +kernel) (Nat.le_of_ble_eq_true rfl) (fun p e s m args below meth c C hr => w_X9_greatest C hr hk h)
set_option maxHeartbeats 4000000 in
set_option maxRecDepth 100000 in
theorem wLB_X9_sum_4 {l : Launch} {g : GG} {ad : Nat → Nat} {p : Program} {e : Env} {s : State} {m : MethodId} {args : Array Value} {below : List Frame} {meth : Method} {c : Code} {k : Nat} {z : Int32} (C : Cx p s m args meth c RX9 cX9_sum 3 g (AW ad nO)) (hr : meth.sig.returnType = (some .int)) (hk : OB nO k 8) {I : HI} {J : HJ}  {r_4 : Int32 → Int32 → HI → HJ → Option (Int32)} (hr_4 : ∀ {x1 : Int32} {x2 : Int32}, r_4 x1 x2 I J = some z → V p l e (rmk 2 42) s m args below meth c (MQ below (QAi g ad nO oR z I J) args s 0 0 (AW ad nO)) 3 0 0 g (AW ad nO) ad nO oR I J 4 [(0, .ref (ad k)), (1, .int x1), (2, .int x2)] []) {x1 : Int32} {x2 : Int32} (h : fLB_X9_sum_4 k r_4 x1 x2 I J = some z) : V p l e (rmk 2 42) s m args below meth c (MQ below (QAi g ad nO oR z I J) args s 0 0 (AW ad nO)) 3 0 0 g (AW ad nO) ad nO oR I J 4 [(0, .ref (ad k)), (1, .int x1), (2, .int x2)] [] := by
  unfold fLB_X9_sum_4 at h
  refine r_iload_n C 2 rfl rfl dX9_sum_4 ?_
  refine r_aload_n C 0 rfl rfl dX9_sum_5 ?_
  refine gf_X9_13 C hk dX9_sum_6 ?_
  refine r_icmp_ge C (tgt := 26) h dX9_sum_9 (by decide) (fun h => ?_) (fun h => ?_)
  · refine r_iload_n C 1 rfl rfl dX9_sum_26 ?_
    have hz9 := Option.some.inj h
    subst hz9
    exact r_iret C hr dX9_sum_27
  · refine r_iload_n C 1 rfl rfl dX9_sum_12 ?_
    refine r_aload_n C 0 rfl rfl dX9_sum_13 ?_
    refine r_iload_n C 2 rfl rfl dX9_sum_14 ?_
    obtain ⟨r5, hq6, h⟩ := bd1_ h
    refine r_cvi C (rest := [.int x1]) (c_X9_at hk hq6) fm_X9_at lk_X9_35 hk ⟨_, ct_8 hk.1⟩ rfl rfl ⟨rfl, rfl, Nat.le_of_ble_eq_true rfl, Nat.le_of_ble_eq_true rfl⟩ (Nat.le_of_ble_eq_true rfl) rfl dX9_sum_15 ?_
    refine r_iadd C dX9_sum_18 ?_
    refine r_nmi h (fun v7 h => ?_)
    refine r_istore_n C (lv1 := [(1, .int v7), (0, .ref (ad k)), (2, .int x2)]) rfl (by decide) rfl dX9_sum_19 ?_
    refine r_iincN C h (k := 2) (zz := 1) rfl rfl (by decide) (lv1 := fun v8 => [(2, .int v8), (1, .int v7), (0, .ref (ad k))]) (fun _ => rfl) dX9_sum_20 (fun v8 h => ?_)
    refine r_goto C (tgt := 4) dX9_sum_23 (by decide) ?_
    exact r_sub [2, 1, 0] rfl (hr_4  h)
set_option maxHeartbeats 4000000 in
set_option maxRecDepth 100000 in
theorem wL_X9_sum_4 {l : Launch} {g : GG} {ad : Nat → Nat} {p : Program} {e : Env} {s : State} {m : MethodId} {args : Array Value} {below : List Frame} {meth : Method} {c : Code} {k : Nat} {z : Int32} (C : Cx p s m args meth c RX9 cX9_sum 3 g (AW ad nO)) (hr : meth.sig.returnType = (some .int)) (hk : OB nO k 8) {I : HI} {J : HJ}  : ∀ (f : Nat) {x1 : Int32} {x2 : Int32}, fL_X9_sum_4 k f x1 x2 I J = some z → V p l e (rmk 2 42) s m args below meth c (MQ below (QAi g ad nO oR z I J) args s 0 0 (AW ad nO)) 3 0 0 g (AW ad nO) ad nO oR I J 4 [(0, .ref (ad k)), (1, .int x1), (2, .int x2)] [] := by
  intro f
  induction f with
  | zero =>
    intro _ _  h
    have h0 : (none : Option (Int32)) = some z := h
    cases h0
  | succ f ih =>
    intro _ _  h
    exact wLB_X9_sum_4 C hr hk ih  h
set_option maxHeartbeats 4000000 in
set_option maxRecDepth 100000 in
theorem w_X9_sum {l : Launch} {g : GG} {ad : Nat → Nat} {p : Program} {e : Env} {s : State} {m : MethodId} {args : Array Value} {below : List Frame} {meth : Method} {c : Code} {k : Nat} {z : Int32} (C : Cx p s m args meth c RX9 cX9_sum 3 g (AW ad nO)) (hr : meth.sig.returnType = (some .int)) (hk : OB nO k 8) {I : HI} {J : HJ} (h : f_X9_sum k I J = some z) : V p l e (rmk 2 42) s m args below meth c (MQ below (QAi g ad nO oR z I J) args s 0 0 (AW ad nO)) 3 0 0 g (AW ad nO) ad nO oR I J 0 [(0, .ref (ad k))] [] := by
  unfold f_X9_sum at h
  refine r_iconst C (v := 0) (by decide) dX9_sum_0 ?_
  refine r_istore_n C (lv1 := [(1, .int (0 : Int32)), (0, .ref (ad k))]) rfl (by decide) rfl dX9_sum_1 ?_
  refine r_iconst C (v := 0) (by decide) dX9_sum_2 ?_
  refine r_istore_n C (lv1 := [(2, .int (0 : Int32)), (1, .int (0 : Int32)), (0, .ref (ad k))]) rfl (by decide) rfl dX9_sum_3 ?_
  exact r_sub [2, 1, 0] rfl (wL_X9_sum_4 C hr hk _  h)
set_option maxHeartbeats 4000000 in
set_option maxRecDepth 100000 in
theorem c_X9_sum {l : Launch} {g : GG} {ad : Nat → Nat} {k : Nat} {I : HI} {J : HJ} {r : Int32} (hk : OB nO k 8) (h : f_X9_sum k I J = some r) : CM l yX9_sum cX9_sum 3 (some .int) (rmk 2 42) g ad nO oR [.ref (ad k)] I J (QAi g ad nO oR r I J) :=
  CM_of (by decide +kernel) (Nat.le_of_ble_eq_true rfl) (fun p e s m args below meth c C hr => w_X9_sum C hr hk h)
set_option maxHeartbeats 4000000 in
set_option maxRecDepth 100000 in
theorem wB_X9_firstUnlike_18 {l : Launch} {g : GG} {ad : Nat → Nat} {p : Program} {e : Env} {s : State} {m : MethodId} {args : Array Value} {below : List Frame} {meth : Method} {c : Code} {k : Nat} {a0 : Nat} {z : Int32} (C : Cx p s m args meth c RX9 cX9_firstUnlike 3 g (AW ad nO)) (hr : meth.sig.returnType = (some .int)) (hk : OB nO k 8) (ha0 : OB nO a0 8) {r_2 : Int32 → HI → HJ → Option (Int32)} {I : HI} {J : HJ} (hr_2 : ∀ {x2 : Int32}, r_2 x2 I J = some z → V p l e (rmk 2 42) s m args below meth c (MQ below (QAi g ad nO oR z I J) args s 0 0 (AW ad nO)) 3 0 0 g (AW ad nO) ad nO oR I J 2 [(0, .ref (ad k)), (1, .ref (ad a0)), (2, .int x2)] []) {x2 : Int32} (h : fB_X9_firstUnlike_18 k a0 r_2 x2 I J = some z) : V p l e (rmk 2 42) s m args below meth c (MQ below (QAi g ad nO oR z I J) args s 0 0 (AW ad nO)) 3 0 0 g (AW ad nO) ad nO oR I J 18 [(0, .ref (ad k)), (1, .ref (ad a0)), (2, .int x2)] [] := by
  unfold fB_X9_firstUnlike_18 at h
  refine r_aload_n C 0 rfl rfl dX9_firstUnlike_18 ?_
  refine r_iload_n C 2 rfl rfl dX9_firstUnlike_19 ?_
  obtain ⟨r10, hq11, h⟩ := bd1_ h
  refine r_cvi C (rest := []) (c_X9_has hk hq11) fm_X9_has lk_X9_17 hk ⟨_, ct_8 hk.1⟩ rfl rfl ⟨rfl, rfl, Nat.le_of_ble_eq_true rfl, Nat.le_of_ble_eq_true rfl⟩ (Nat.le_of_ble_eq_true rfl) rfl dX9_firstUnlike_20 ?_
  refine r_if_eq C (tgt := 47) h dX9_firstUnlike_23 (by decide) (fun h => ?_) (fun h => ?_)
  · refine r_iload_n C 2 rfl rfl dX9_firstUnlike_47 ?_
    have hz9 := Option.some.inj h
    subst hz9
    exact r_iret C hr dX9_firstUnlike_48
  · refine r_aload_n C 1 rfl rfl dX9_firstUnlike_26 ?_
    refine r_iload_n C 2 rfl rfl dX9_firstUnlike_27 ?_
    obtain ⟨r12, hq13, h⟩ := bd1_ h
    refine r_cvi C (rest := []) (c_X9_has ha0 hq13) fm_X9_has lk_X9_17 ha0 ⟨_, ct_8 ha0.1⟩ rfl rfl ⟨rfl, rfl, Nat.le_of_ble_eq_true rfl, Nat.le_of_ble_eq_true rfl⟩ (Nat.le_of_ble_eq_true rfl) rfl dX9_firstUnlike_28 ?_
    refine r_if_eq C (tgt := 47) h dX9_firstUnlike_31 (by decide) (fun h => ?_) (fun h => ?_)
    · refine r_iload_n C 2 rfl rfl dX9_firstUnlike_47 ?_
      have hz9 := Option.some.inj h
      subst hz9
      exact r_iret C hr dX9_firstUnlike_48
    · refine r_aload_n C 0 rfl rfl dX9_firstUnlike_34 ?_
      refine r_iload_n C 2 rfl rfl dX9_firstUnlike_35 ?_
      obtain ⟨r14, hq15, h⟩ := bd1_ h
      refine r_cvi C (rest := []) (c_X9_at hk hq15) fm_X9_at lk_X9_35 hk ⟨_, ct_8 hk.1⟩ rfl rfl ⟨rfl, rfl, Nat.le_of_ble_eq_true rfl, Nat.le_of_ble_eq_true rfl⟩ (Nat.le_of_ble_eq_true rfl) rfl dX9_firstUnlike_36 ?_
      refine r_aload_n C 1 rfl rfl dX9_firstUnlike_39 ?_
      refine r_iload_n C 2 rfl rfl dX9_firstUnlike_40 ?_
      obtain ⟨r16, hq17, h⟩ := bd1_ h
      refine r_cvi C (rest := [.int r14]) (c_X9_at ha0 hq17) fm_X9_at lk_X9_35 ha0 ⟨_, ct_8 ha0.1⟩ rfl rfl ⟨rfl, rfl, Nat.le_of_ble_eq_true rfl, Nat.le_of_ble_eq_true rfl⟩ (Nat.le_of_ble_eq_true rfl) rfl dX9_firstUnlike_41 ?_
      refine r_icmp_eq C (tgt := 49) h dX9_firstUnlike_44 (by decide) (fun h => ?_) (fun h => ?_)
      · refine r_iincN C h (k := 2) (zz := 1) rfl rfl (by decide) (lv1 := fun v18 => [(2, .int v18), (0, .ref (ad k)), (1, .ref (ad a0))]) (fun _ => rfl) dX9_firstUnlike_49 (fun v18 h => ?_)
        refine r_goto C (tgt := 2) dX9_firstUnlike_52 (by decide) ?_
        exact r_sub [1, 2, 0] rfl (hr_2  h)
      · refine r_iload_n C 2 rfl rfl dX9_firstUnlike_47 ?_
        have hz9 := Option.some.inj h
        subst hz9
        exact r_iret C hr dX9_firstUnlike_48
set_option maxHeartbeats 4000000 in
set_option maxRecDepth 100000 in
theorem wLB_X9_firstUnlike_2 {l : Launch} {g : GG} {ad : Nat → Nat} {p : Program} {e : Env} {s : State} {m : MethodId} {args : Array Value} {below : List Frame} {meth : Method} {c : Code} {k : Nat} {a0 : Nat} {z : Int32} (C : Cx p s m args meth c RX9 cX9_firstUnlike 3 g (AW ad nO)) (hr : meth.sig.returnType = (some .int)) (hk : OB nO k 8) (ha0 : OB nO a0 8) {I : HI} {J : HJ}  {r_2 : Int32 → HI → HJ → Option (Int32)} (hr_2 : ∀ {x2 : Int32}, r_2 x2 I J = some z → V p l e (rmk 2 42) s m args below meth c (MQ below (QAi g ad nO oR z I J) args s 0 0 (AW ad nO)) 3 0 0 g (AW ad nO) ad nO oR I J 2 [(0, .ref (ad k)), (1, .ref (ad a0)), (2, .int x2)] []) {x2 : Int32} (h : fLB_X9_firstUnlike_2 k a0 r_2 x2 I J = some z) : V p l e (rmk 2 42) s m args below meth c (MQ below (QAi g ad nO oR z I J) args s 0 0 (AW ad nO)) 3 0 0 g (AW ad nO) ad nO oR I J 2 [(0, .ref (ad k)), (1, .ref (ad a0)), (2, .int x2)] [] := by
  unfold fLB_X9_firstUnlike_2 at h
  refine r_iload_n C 2 rfl rfl dX9_firstUnlike_2 ?_
  refine r_aload_n C 0 rfl rfl dX9_firstUnlike_3 ?_
  refine gf_X9_13 C hk dX9_firstUnlike_4 ?_
  refine r_icmp_lt C (tgt := 18) h dX9_firstUnlike_7 (by decide) (fun h => ?_) (fun h => ?_)
  · exact wB_X9_firstUnlike_18 C hr hk ha0 hr_2  h
  · refine r_iload_n C 2 rfl rfl dX9_firstUnlike_10 ?_
    refine r_aload_n C 1 rfl rfl dX9_firstUnlike_11 ?_
    refine gf_X9_13 C ha0 dX9_firstUnlike_12 ?_
    refine r_icmp_ge C (tgt := 55) h dX9_firstUnlike_15 (by decide) (fun h => ?_) (fun h => ?_)
    · refine r_iconst C (v := -1) (by decide) dX9_firstUnlike_55 ?_
      have hz9 := Option.some.inj h
      subst hz9
      exact r_iret C hr dX9_firstUnlike_56
    · exact wB_X9_firstUnlike_18 C hr hk ha0 hr_2  h
set_option maxHeartbeats 4000000 in
set_option maxRecDepth 100000 in
theorem wL_X9_firstUnlike_2 {l : Launch} {g : GG} {ad : Nat → Nat} {p : Program} {e : Env} {s : State} {m : MethodId} {args : Array Value} {below : List Frame} {meth : Method} {c : Code} {k : Nat} {a0 : Nat} {z : Int32} (C : Cx p s m args meth c RX9 cX9_firstUnlike 3 g (AW ad nO)) (hr : meth.sig.returnType = (some .int)) (hk : OB nO k 8) (ha0 : OB nO a0 8) {I : HI} {J : HJ}  : ∀ (f : Nat) {x2 : Int32}, fL_X9_firstUnlike_2 k a0 f x2 I J = some z → V p l e (rmk 2 42) s m args below meth c (MQ below (QAi g ad nO oR z I J) args s 0 0 (AW ad nO)) 3 0 0 g (AW ad nO) ad nO oR I J 2 [(0, .ref (ad k)), (1, .ref (ad a0)), (2, .int x2)] [] := by
  intro f
  induction f with
  | zero =>
    intro _  h
    have h0 : (none : Option (Int32)) = some z := h
    cases h0
  | succ f ih =>
    intro _  h
    exact wLB_X9_firstUnlike_2 C hr hk ha0 ih  h
set_option maxHeartbeats 4000000 in
set_option maxRecDepth 100000 in
theorem w_X9_firstUnlike {l : Launch} {g : GG} {ad : Nat → Nat} {p : Program} {e : Env} {s : State} {m : MethodId} {args : Array Value} {below : List Frame} {meth : Method} {c : Code} {k : Nat} {a0 : Nat} {z : Int32} (C : Cx p s m args meth c RX9 cX9_firstUnlike 3 g (AW ad nO)) (hr : meth.sig.returnType = (some .int)) (hk : OB nO k 8) (ha0 : OB nO a0 8) {I : HI} {J : HJ} (h : f_X9_firstUnlike k a0 I J = some z) : V p l e (rmk 2 42) s m args below meth c (MQ below (QAi g ad nO oR z I J) args s 0 0 (AW ad nO)) 3 0 0 g (AW ad nO) ad nO oR I J 0 [(0, .ref (ad k)), (1, .ref (ad a0))] [] := by
  unfold f_X9_firstUnlike at h
  refine r_iconst C (v := 0) (by decide) dX9_firstUnlike_0 ?_
  refine r_istore_n C (lv1 := [(2, .int (0 : Int32)), (0, .ref (ad k)), (1, .ref (ad a0))]) rfl (by decide) rfl dX9_firstUnlike_1 ?_
  exact r_sub [1, 2, 0] rfl (wL_X9_firstUnlike_2 C hr hk ha0 _  h)
set_option maxHeartbeats 4000000 in
set_option maxRecDepth 100000 in
theorem c_X9_firstUnlike {l : Launch} {g : GG} {ad : Nat → Nat} {k : Nat} {a0 : Nat} {I : HI} {J : HJ} {r : Int32} (hk : OB nO k 8) (ha0 : OB nO a0 8) (h : f_X9_firstUnlike k a0 I J = some r) : CM l yX9_firstUnlike cX9_firstUnlike 3 (some .int) (rmk 2 42) g ad nO oR [.ref (ad k), .ref (ad a0)] I J (QAi g ad nO oR r I J) :=
  CM_of (by decide +kernel) (Nat.le_of_ble_eq_true rfl) (fun p e s m args below meth c C hr => w_X9_firstUnlike C hr hk ha0 h)
set_option maxHeartbeats 4000000 in
set_option maxRecDepth 100000 in
theorem wB_X9_countAlike_36 {l : Launch} {g : GG} {ad : Nat → Nat} {p : Program} {e : Env} {s : State} {m : MethodId} {args : Array Value} {below : List Frame} {meth : Method} {c : Code} {k : Nat} {a0 : Nat} {z : Int32} (C : Cx p s m args meth c RX9 cX9_countAlike 4 g (AW ad nO)) (hr : meth.sig.returnType = (some .int)) (hk : OB nO k 8) (ha0 : OB nO a0 8) {r_4 : Int32 → Int32 → HI → HJ → Option (Int32)} {I : HI} {J : HJ} (hr_4 : ∀ {x2 : Int32} {x3 : Int32}, r_4 x2 x3 I J = some z → V p l e (rmk 2 42) s m args below meth c (MQ below (QAi g ad nO oR z I J) args s 0 0 (AW ad nO)) 4 0 0 g (AW ad nO) ad nO oR I J 4 [(0, .ref (ad k)), (1, .ref (ad a0)), (2, .int x2), (3, .int x3)] []) {x2 : Int32} {x3 : Int32} (h : fB_X9_countAlike_36 k a0 r_4 x2 x3 I J = some z) : V p l e (rmk 2 42) s m args below meth c (MQ below (QAi g ad nO oR z I J) args s 0 0 (AW ad nO)) 4 0 0 g (AW ad nO) ad nO oR I J 36 [(0, .ref (ad k)), (1, .ref (ad a0)), (2, .int x2), (3, .int x3)] [] := by
  unfold fB_X9_countAlike_36 at h
  refine r_iincN C h (k := 3) (zz := 1) rfl rfl (by decide) (lv1 := fun v7 => [(3, .int v7), (0, .ref (ad k)), (1, .ref (ad a0)), (2, .int x2)]) (fun _ => rfl) dX9_countAlike_36 (fun v7 h => ?_)
  refine r_goto C (tgt := 4) dX9_countAlike_39 (by decide) ?_
  exact r_sub [1, 2, 3, 0] rfl (hr_4  h)
set_option maxHeartbeats 4000000 in
set_option maxRecDepth 100000 in
theorem wLB_X9_countAlike_4 {l : Launch} {g : GG} {ad : Nat → Nat} {p : Program} {e : Env} {s : State} {m : MethodId} {args : Array Value} {below : List Frame} {meth : Method} {c : Code} {k : Nat} {a0 : Nat} {z : Int32} (C : Cx p s m args meth c RX9 cX9_countAlike 4 g (AW ad nO)) (hr : meth.sig.returnType = (some .int)) (hk : OB nO k 8) (ha0 : OB nO a0 8) {I : HI} {J : HJ}  {r_4 : Int32 → Int32 → HI → HJ → Option (Int32)} (hr_4 : ∀ {x2 : Int32} {x3 : Int32}, r_4 x2 x3 I J = some z → V p l e (rmk 2 42) s m args below meth c (MQ below (QAi g ad nO oR z I J) args s 0 0 (AW ad nO)) 4 0 0 g (AW ad nO) ad nO oR I J 4 [(0, .ref (ad k)), (1, .ref (ad a0)), (2, .int x2), (3, .int x3)] []) {x2 : Int32} {x3 : Int32} (h : fLB_X9_countAlike_4 k a0 r_4 x2 x3 I J = some z) : V p l e (rmk 2 42) s m args below meth c (MQ below (QAi g ad nO oR z I J) args s 0 0 (AW ad nO)) 4 0 0 g (AW ad nO) ad nO oR I J 4 [(0, .ref (ad k)), (1, .ref (ad a0)), (2, .int x2), (3, .int x3)] [] := by
  unfold fLB_X9_countAlike_4 at h
  refine r_iload_n C 3 rfl rfl dX9_countAlike_4 ?_
  refine r_aload_n C 0 rfl rfl dX9_countAlike_5 ?_
  refine gf_X9_13 C hk dX9_countAlike_6 ?_
  refine r_icmp_ge C (tgt := 42) h dX9_countAlike_9 (by decide) (fun h => ?_) (fun h => ?_)
  · refine r_iload_n C 2 rfl rfl dX9_countAlike_42 ?_
    have hz9 := Option.some.inj h
    subst hz9
    exact r_iret C hr dX9_countAlike_43
  · refine r_iload_n C 3 rfl rfl dX9_countAlike_12 ?_
    refine r_aload_n C 1 rfl rfl dX9_countAlike_13 ?_
    refine gf_X9_13 C ha0 dX9_countAlike_14 ?_
    refine r_icmp_ge C (tgt := 42) h dX9_countAlike_17 (by decide) (fun h => ?_) (fun h => ?_)
    · refine r_iload_n C 2 rfl rfl dX9_countAlike_42 ?_
      have hz9 := Option.some.inj h
      subst hz9
      exact r_iret C hr dX9_countAlike_43
    · refine r_aload_n C 0 rfl rfl dX9_countAlike_20 ?_
      refine r_iload_n C 3 rfl rfl dX9_countAlike_21 ?_
      obtain ⟨r8, hq9, h⟩ := bd1_ h
      refine r_cvi C (rest := []) (c_X9_at hk hq9) fm_X9_at lk_X9_35 hk ⟨_, ct_8 hk.1⟩ rfl rfl ⟨rfl, rfl, Nat.le_of_ble_eq_true rfl, Nat.le_of_ble_eq_true rfl⟩ (Nat.le_of_ble_eq_true rfl) rfl dX9_countAlike_22 ?_
      refine r_aload_n C 1 rfl rfl dX9_countAlike_25 ?_
      refine r_iload_n C 3 rfl rfl dX9_countAlike_26 ?_
      obtain ⟨r10, hq11, h⟩ := bd1_ h
      refine r_cvi C (rest := [.int r8]) (c_X9_at ha0 hq11) fm_X9_at lk_X9_35 ha0 ⟨_, ct_8 ha0.1⟩ rfl rfl ⟨rfl, rfl, Nat.le_of_ble_eq_true rfl, Nat.le_of_ble_eq_true rfl⟩ (Nat.le_of_ble_eq_true rfl) rfl dX9_countAlike_27 ?_
      refine r_icmp_ne C (tgt := 36) h dX9_countAlike_30 (by decide) (fun h => ?_) (fun h => ?_)
      · exact wB_X9_countAlike_36 C hr hk ha0 hr_4  h
      · refine r_iincN C h (k := 2) (zz := 1) rfl rfl (by decide) (lv1 := fun v12 => [(2, .int v12), (0, .ref (ad k)), (1, .ref (ad a0)), (3, .int x3)]) (fun _ => rfl) dX9_countAlike_33 (fun v12 h => ?_)
        exact r_sub [1, 2, 0, 3] rfl (wB_X9_countAlike_36 C hr hk ha0 hr_4  h)
set_option maxHeartbeats 4000000 in
set_option maxRecDepth 100000 in
theorem wL_X9_countAlike_4 {l : Launch} {g : GG} {ad : Nat → Nat} {p : Program} {e : Env} {s : State} {m : MethodId} {args : Array Value} {below : List Frame} {meth : Method} {c : Code} {k : Nat} {a0 : Nat} {z : Int32} (C : Cx p s m args meth c RX9 cX9_countAlike 4 g (AW ad nO)) (hr : meth.sig.returnType = (some .int)) (hk : OB nO k 8) (ha0 : OB nO a0 8) {I : HI} {J : HJ}  : ∀ (f : Nat) {x2 : Int32} {x3 : Int32}, fL_X9_countAlike_4 k a0 f x2 x3 I J = some z → V p l e (rmk 2 42) s m args below meth c (MQ below (QAi g ad nO oR z I J) args s 0 0 (AW ad nO)) 4 0 0 g (AW ad nO) ad nO oR I J 4 [(0, .ref (ad k)), (1, .ref (ad a0)), (2, .int x2), (3, .int x3)] [] := by
  intro f
  induction f with
  | zero =>
    intro _ _  h
    have h0 : (none : Option (Int32)) = some z := h
    cases h0
  | succ f ih =>
    intro _ _  h
    exact wLB_X9_countAlike_4 C hr hk ha0 ih  h
set_option maxHeartbeats 4000000 in
set_option maxRecDepth 100000 in
theorem w_X9_countAlike {l : Launch} {g : GG} {ad : Nat → Nat} {p : Program} {e : Env} {s : State} {m : MethodId} {args : Array Value} {below : List Frame} {meth : Method} {c : Code} {k : Nat} {a0 : Nat} {z : Int32} (C : Cx p s m args meth c RX9 cX9_countAlike 4 g (AW ad nO)) (hr : meth.sig.returnType = (some .int)) (hk : OB nO k 8) (ha0 : OB nO a0 8) {I : HI} {J : HJ} (h : f_X9_countAlike k a0 I J = some z) : V p l e (rmk 2 42) s m args below meth c (MQ below (QAi g ad nO oR z I J) args s 0 0 (AW ad nO)) 4 0 0 g (AW ad nO) ad nO oR I J 0 [(0, .ref (ad k)), (1, .ref (ad a0))] [] := by
  unfold f_X9_countAlike at h
  refine r_iconst C (v := 0) (by decide) dX9_countAlike_0 ?_
  refine r_istore_n C (lv1 := [(2, .int (0 : Int32)), (0, .ref (ad k)), (1, .ref (ad a0))]) rfl (by decide) rfl dX9_countAlike_1 ?_
  refine r_iconst C (v := 0) (by decide) dX9_countAlike_2 ?_
  refine r_istore_n C (lv1 := [(3, .int (0 : Int32)), (2, .int (0 : Int32)), (0, .ref (ad k)), (1, .ref (ad a0))]) rfl (by decide) rfl dX9_countAlike_3 ?_
  exact r_sub [2, 3, 1, 0] rfl (wL_X9_countAlike_4 C hr hk ha0 _  h)
set_option maxHeartbeats 4000000 in
set_option maxRecDepth 100000 in
theorem c_X9_countAlike {l : Launch} {g : GG} {ad : Nat → Nat} {k : Nat} {a0 : Nat} {I : HI} {J : HJ} {r : Int32} (hk : OB nO k 8) (ha0 : OB nO a0 8) (h : f_X9_countAlike k a0 I J = some r) : CM l yX9_countAlike cX9_countAlike 4 (some .int) (rmk 2 42) g ad nO oR [.ref (ad k), .ref (ad a0)] I J (QAi g ad nO oR r I J) :=
  CM_of (by decide +kernel) (Nat.le_of_ble_eq_true rfl) (fun p e s m args below meth c C hr => w_X9_countAlike C hr hk ha0 h)
set_option maxHeartbeats 4000000 in
set_option maxRecDepth 100000 in
theorem w_X10_begin {l : Launch} {g : GG} {ad : Nat → Nat} {p : Program} {e : Env} {s : State} {m : MethodId} {args : Array Value} {below : List Frame} {meth : Method} {c : Code} {a0 : Int32} {a1 : Int32} {a2 : Int32} {z : Int32 × HI × HJ} (C : Cx p s m args meth c RX10 cX10_begin 4 g (AW ad nO)) (hr : meth.sig.returnType = (some .int)) {I : HI} {J : HJ} (h : f_X10_begin a0 a1 a2 I J = some z) : V p l e (rmk 2 43) s m args below meth c (MQ below (QAi g ad nO oR z.1 z.2.1 z.2.2) args s 0 0 (AW ad nO)) 4 0 0 g (AW ad nO) ad nO oR I J 0 [(0, .ref (ad 0)), (1, .int a0), (2, .int a1), (3, .int a2)] [] := by
  unfold f_X10_begin at h
  refine r_iload_n C 1 rfl rfl dX10_begin_0 ?_
  refine r_iconst C (v := 0) (by decide) dX10_begin_1 ?_
  refine r_sipush C (v := 9999) (by decide) dX10_begin_2 ?_
  obtain ⟨r10, hq11, h⟩ := bd1_ h
  refine r_csi C (rest := []) (c_X10_isWithin  hq11) fm_X10_isWithin lk_X10_80 rfl ⟨rfl, rfl, Nat.le_of_ble_eq_true rfl, Nat.le_of_ble_eq_true rfl⟩ (Nat.le_of_ble_eq_true rfl) rfl dX10_begin_5 ?_
  refine r_if_eq C (tgt := 37) h dX10_begin_8 (by decide) (fun h => ?_) (fun h => ?_)
  · refine r_iconst C (v := -1) (by decide) dX10_begin_37 ?_
    have hz9 := Option.some.inj h
    subst hz9
    exact r_iret C hr dX10_begin_38
  · refine r_iload_n C 2 rfl rfl dX10_begin_11 ?_
    refine r_sipush C (v := -999) (by decide) dX10_begin_12 ?_
    refine r_sipush C (v := 999) (by decide) dX10_begin_15 ?_
    obtain ⟨r12, hq13, h⟩ := bd1_ h
    refine r_csi C (rest := []) (c_X10_isWithin  hq13) fm_X10_isWithin lk_X10_80 rfl ⟨rfl, rfl, Nat.le_of_ble_eq_true rfl, Nat.le_of_ble_eq_true rfl⟩ (Nat.le_of_ble_eq_true rfl) rfl dX10_begin_18 ?_
    refine r_if_eq C (tgt := 37) h dX10_begin_21 (by decide) (fun h => ?_) (fun h => ?_)
    · refine r_iconst C (v := -1) (by decide) dX10_begin_37 ?_
      have hz9 := Option.some.inj h
      subst hz9
      exact r_iret C hr dX10_begin_38
    · refine r_iload_n C 3 rfl rfl dX10_begin_24 ?_
      refine r_sipush C (v := -999) (by decide) dX10_begin_25 ?_
      refine r_sipush C (v := 999) (by decide) dX10_begin_28 ?_
      obtain ⟨r14, hq15, h⟩ := bd1_ h
      refine r_csi C (rest := []) (c_X10_isWithin  hq15) fm_X10_isWithin lk_X10_80 rfl ⟨rfl, rfl, Nat.le_of_ble_eq_true rfl, Nat.le_of_ble_eq_true rfl⟩ (Nat.le_of_ble_eq_true rfl) rfl dX10_begin_31 ?_
      refine r_if_ne C (tgt := 39) h dX10_begin_34 (by decide) (fun h => ?_) (fun h => ?_)
      · refine r_aload_n C 0 rfl rfl dX10_begin_39 ?_
        refine gf_X10_10 C rf0 o_0 (q := 1) rfl dX10_begin_40 ?_
        refine r_iload_n C 1 rfl rfl dX10_begin_43 ?_
        refine r_iload_n C 2 rfl rfl dX10_begin_44 ?_
        refine r_iload_n C 3 rfl rfl dX10_begin_45 ?_
        refine r_pc (pc1 := 46) rfl ?_
        obtain ⟨I16, J17, hq18, h⟩ := bd2_ h
        refine r_cvv C (rest := []) (c_X7_beginAnew o_1 hq18) fm_X7_beginAnew lk_X10_84 o_1 ⟨_, ct_6 o_1.1⟩ rfl rfl ⟨rfl, rfl, Nat.le_of_ble_eq_true rfl, Nat.le_of_ble_eq_true rfl⟩ (Nat.le_of_ble_eq_true rfl) rfl dX10_begin_46 ?_
        refine r_iconst C (v := 1) (by decide) dX10_begin_49 ?_
        have hz9 := Option.some.inj h
        subst hz9
        exact r_iret C hr dX10_begin_50
      · refine r_iconst C (v := -1) (by decide) dX10_begin_37 ?_
        have hz9 := Option.some.inj h
        subst hz9
        exact r_iret C hr dX10_begin_38
set_option maxHeartbeats 4000000 in
set_option maxRecDepth 100000 in
theorem c_X10_begin {l : Launch} {g : GG} {ad : Nat → Nat} {a0 : Int32} {a1 : Int32} {a2 : Int32} {I : HI} {J : HJ} {r : Int32} {I1 : HI} {J1 : HJ} (h : f_X10_begin a0 a1 a2 I J = some (r, I1, J1)) : CM l yX10_begin cX10_begin 4 (some .int) (rmk 2 43) g ad nO oR [.ref (ad 0), .int a0, .int a1, .int a2] I J (QAi g ad nO oR r I1 J1) :=
  CM_of (by decide +kernel) (Nat.le_of_ble_eq_true rfl) (fun p e s m args below meth c C hr => w_X10_begin C hr h)
set_option maxHeartbeats 4000000 in
set_option maxRecDepth 100000 in
theorem wB_X10_set_42 {l : Launch} {g : GG} {ad : Nat → Nat} {p : Program} {e : Env} {s : State} {m : MethodId} {args : Array Value} {below : List Frame} {meth : Method} {c : Code} {a0 : Int32} {a1 : Int32} {z : Int32 × HI} (C : Cx p s m args meth c RX10 cX10_set 4 g (AW ad nO)) (hr : meth.sig.returnType = (some .int)) {J : HJ}  {s0 : Int32} {I : HI} (h : fB_X10_set_42 a0 a1 s0 I J = some z) : V p l e (rmk 1 22) s m args below meth c (MQ below (QAi g ad nO oR z.1 z.2 J) args s 0 0 (AW ad nO)) 4 0 0 g (AW ad nO) ad nO oR I J 42 [(0, .ref (ad 0)), (1, .int a0), (2, .int a1)] [.int s0] := by
  unfold fB_X10_set_42 at h
  refine r_istore_n C (lv1 := [(3, .int s0), (0, .ref (ad 0)), (1, .int a0), (2, .int a1)]) rfl (by decide) rfl dX10_set_42 ?_
  refine r_iload_n C 2 rfl rfl dX10_set_43 ?_
  refine r_if_ne C (tgt := 58) h dX10_set_44 (by decide) (fun h => ?_) (fun h => ?_)
  · refine r_aload_n C 1 rfl rfl dX10_set_58 ?_
    refine gf_X10_10 C rf0 o_0 (q := 1) rfl dX10_set_59 ?_
    refine r_iload_n C 3 rfl rfl dX10_set_62 ?_
    refine pf_X10_92 C o_1 dX10_set_63 ?_
    refine r_nmI h (fun I7 h => ?_)
    refine r_iload_n C 0 rfl rfl dX10_set_66 ?_
    have hz9 := Option.some.inj h
    subst hz9
    exact r_iret C hr dX10_set_67
  · refine r_aload_n C 1 rfl rfl dX10_set_47 ?_
    refine gf_X10_10 C rf0 o_0 (q := 1) rfl dX10_set_48 ?_
    refine r_iload_n C 3 rfl rfl dX10_set_51 ?_
    refine pf_X10_88 C o_1 dX10_set_52 ?_
    refine r_nmI h (fun I8 h => ?_)
    refine r_goto C (tgt := 66) dX10_set_55 (by decide) ?_
    refine r_iload_n C 0 rfl rfl dX10_set_66 ?_
    have hz9 := Option.some.inj h
    subst hz9
    exact r_iret C hr dX10_set_67
set_option maxHeartbeats 4000000 in
set_option maxRecDepth 100000 in
theorem w_X10_set {l : Launch} {g : GG} {ad : Nat → Nat} {p : Program} {e : Env} {s : State} {m : MethodId} {args : Array Value} {below : List Frame} {meth : Method} {c : Code} {a0 : Int32} {a1 : Int32} {z : Int32 × HI} (C : Cx p s m args meth c RX10 cX10_set 4 g (AW ad nO)) (hr : meth.sig.returnType = (some .int)) {I : HI} {J : HJ} (h : f_X10_set a0 a1 I J = some z) : V p l e (rmk 1 22) s m args below meth c (MQ below (QAi g ad nO oR z.1 z.2 J) args s 0 0 (AW ad nO)) 4 0 0 g (AW ad nO) ad nO oR I J 0 [(0, .ref (ad 0)), (1, .int a0), (2, .int a1)] [] := by
  unfold f_X10_set at h
  refine r_iload_n C 1 rfl rfl dX10_set_0 ?_
  refine r_iconst C (v := 0) (by decide) dX10_set_1 ?_
  refine r_iconst C (v := 1) (by decide) dX10_set_2 ?_
  obtain ⟨r9, hq10, h⟩ := bd1_ h
  refine r_csi C (rest := []) (c_X10_isWithin  hq10) fm_X10_isWithin lk_X10_80 rfl ⟨rfl, rfl, Nat.le_of_ble_eq_true rfl, Nat.le_of_ble_eq_true rfl⟩ (Nat.le_of_ble_eq_true rfl) rfl dX10_set_3 ?_
  refine r_if_eq C (tgt := 19) h dX10_set_6 (by decide) (fun h => ?_) (fun h => ?_)
  · refine r_iconst C (v := -1) (by decide) dX10_set_19 ?_
    have hz9 := Option.some.inj h
    subst hz9
    exact r_iret C hr dX10_set_20
  · refine r_iload_n C 2 rfl rfl dX10_set_9 ?_
    refine r_iconst C (v := 0) (by decide) dX10_set_10 ?_
    refine r_bipush C (v := 99) (by decide) dX10_set_11 ?_
    obtain ⟨r11, hq12, h⟩ := bd1_ h
    refine r_csi C (rest := []) (c_X10_isWithin  hq12) fm_X10_isWithin lk_X10_80 rfl ⟨rfl, rfl, Nat.le_of_ble_eq_true rfl, Nat.le_of_ble_eq_true rfl⟩ (Nat.le_of_ble_eq_true rfl) rfl dX10_set_13 ?_
    refine r_if_ne C (tgt := 21) h dX10_set_16 (by decide) (fun h => ?_) (fun h => ?_)
    · refine r_iload_n C 1 rfl rfl dX10_set_21 ?_
      refine r_if_ne C (tgt := 35) h dX10_set_22 (by decide) (fun h => ?_) (fun h => ?_)
      · refine r_aload_n C 0 rfl rfl dX10_set_35 ?_
        refine gf_X10_10 C rf0 o_0 (q := 1) rfl dX10_set_36 ?_
        refine gf_X10_92 C o_1 dX10_set_39 ?_
        exact wB_X10_set_42 C hr  h
      · refine r_aload_n C 0 rfl rfl dX10_set_25 ?_
        refine gf_X10_10 C rf0 o_0 (q := 1) rfl dX10_set_26 ?_
        refine gf_X10_88 C o_1 dX10_set_29 ?_
        refine r_goto C (tgt := 42) dX10_set_32 (by decide) ?_
        exact wB_X10_set_42 C hr  h
    · refine r_iconst C (v := -1) (by decide) dX10_set_19 ?_
      have hz9 := Option.some.inj h
      subst hz9
      exact r_iret C hr dX10_set_20
set_option maxHeartbeats 4000000 in
set_option maxRecDepth 100000 in
theorem c_X10_set {l : Launch} {g : GG} {ad : Nat → Nat} {a0 : Int32} {a1 : Int32} {I : HI} {J : HJ} {r : Int32} {I1 : HI} (h : f_X10_set a0 a1 I J = some (r, I1)) : CM l yX10_set cX10_set 4 (some .int) (rmk 1 22) g ad nO oR [.ref (ad 0), .int a0, .int a1] I J (QAi g ad nO oR r I1 J) :=
  CM_of (by decide +kernel) (Nat.le_of_ble_eq_true rfl) (fun p e s m args below meth c C hr => w_X10_set C hr h)
set_option maxHeartbeats 4000000 in
set_option maxRecDepth 100000 in
theorem w_X10_seed {l : Launch} {g : GG} {ad : Nat → Nat} {p : Program} {e : Env} {s : State} {m : MethodId} {args : Array Value} {below : List Frame} {meth : Method} {c : Code} {a0 : Int32} {z : Int32 × HI} (C : Cx p s m args meth c RX10 cX10_seed 3 g (AW ad nO)) (hr : meth.sig.returnType = (some .int)) {I : HI} {J : HJ} (h : f_X10_seed a0 I J = some z) : V p l e (rmk 0 0) s m args below meth c (MQ below (QAi g ad nO oR z.1 z.2 J) args s 0 0 (AW ad nO)) 3 0 0 g (AW ad nO) ad nO oR I J 0 [(0, .ref (ad 0)), (1, .int a0)] [] := by
  unfold f_X10_seed at h
  refine r_aload_n C 0 rfl rfl dX10_seed_0 ?_
  refine gf_X10_10 C rf0 o_0 (q := 1) rfl dX10_seed_1 ?_
  refine gf_X10_95 C o_1 dX10_seed_4 ?_
  refine r_nmi h (fun v3 h => ?_)
  refine r_istore_n C (lv1 := [(2, .int v3), (0, .ref (ad 0)), (1, .int a0)]) rfl (by decide) rfl dX10_seed_7 ?_
  refine r_aload_n C 1 rfl rfl dX10_seed_8 ?_
  refine gf_X10_10 C rf0 o_0 (q := 1) rfl dX10_seed_9 ?_
  refine r_iload_n C 2 rfl rfl dX10_seed_12 ?_
  refine pf_X10_95 C o_1 dX10_seed_13 ?_
  refine r_nmI h (fun I4 h => ?_)
  refine r_iload_n C 0 rfl rfl dX10_seed_16 ?_
  have hz9 := Option.some.inj h
  subst hz9
  exact r_iret C hr dX10_seed_17
set_option maxHeartbeats 4000000 in
set_option maxRecDepth 100000 in
theorem c_X10_seed {l : Launch} {g : GG} {ad : Nat → Nat} {a0 : Int32} {I : HI} {J : HJ} {r : Int32} {I1 : HI} (h : f_X10_seed a0 I J = some (r, I1)) : CM l yX10_seed cX10_seed 3 (some .int) (rmk 0 0) g ad nO oR [.ref (ad 0), .int a0] I J (QAi g ad nO oR r I1 J) :=
  CM_of (by decide +kernel) (Nat.le_of_ble_eq_true rfl) (fun p e s m args below meth c C hr => w_X10_seed C hr h)
set_option maxHeartbeats 4000000 in
set_option maxRecDepth 100000 in
theorem wLB_X10_run_23 {l : Launch} {g : GG} {ad : Nat → Nat} {p : Program} {e : Env} {s : State} {m : MethodId} {args : Array Value} {below : List Frame} {meth : Method} {c : Code} {a0 : Int32} {z : Int32 × HI × HJ} (C : Cx p s m args meth c RX10 cX10_run 4 g (AW ad nO)) (hr : meth.sig.returnType = (some .int))  {r_23 : Int32 → Int32 → HI → HJ → Option (Int32 × HI × HJ)} (hr_23 : ∀ {x2 : Int32} {x3 : Int32} {I : HI} {J : HJ}, r_23 x2 x3 I J = some z → V p l e (rmk 7 214) s m args below meth c (MQ below (QAi g ad nO oR z.1 z.2.1 z.2.2) args s 0 0 (AW ad nO)) 4 0 0 g (AW ad nO) ad nO oR I J 23 [(0, .ref (ad 0)), (1, .int a0), (2, .int x2), (3, .int x3)] []) {x2 : Int32} {x3 : Int32} {I : HI} {J : HJ} (h : fLB_X10_run_23 a0 r_23 x2 x3 I J = some z) : V p l e (rmk 7 214) s m args below meth c (MQ below (QAi g ad nO oR z.1 z.2.1 z.2.2) args s 0 0 (AW ad nO)) 4 0 0 g (AW ad nO) ad nO oR I J 23 [(0, .ref (ad 0)), (1, .int a0), (2, .int x2), (3, .int x3)] [] := by
  unfold fLB_X10_run_23 at h
  refine r_iload_n C 3 rfl rfl dX10_run_23 ?_
  refine r_iload_n C 1 rfl rfl dX10_run_24 ?_
  refine r_icmp_ge C (tgt := 46) h dX10_run_25 (by decide) (fun h => ?_) (fun h => ?_)
  · refine r_aload_n C 0 rfl rfl dX10_run_46 ?_
    refine gf_X10_10 C rf0 o_0 (q := 1) rfl dX10_run_47 ?_
    refine gf_X10_98 C o_1 dX10_run_50 ?_
    refine r_iload_n C 2 rfl rfl dX10_run_53 ?_
    refine r_isub C dX10_run_54 ?_
    refine r_pc (pc1 := 55) rfl ?_
    have hz9 := Option.some.inj h
    subst hz9
    exact r_iret C hr dX10_run_55
  · refine r_aload_n C 0 rfl rfl dX10_run_28 ?_
    refine gf_X10_10 C rf0 o_0 (q := 1) rfl dX10_run_29 ?_
    refine r_aload_n C 0 rfl rfl dX10_run_32 ?_
    refine gf_X10_19 C rf0 o_0 (q := 4) rfl dX10_run_33 ?_
    obtain ⟨r9, I10, J11, hq12, h⟩ := bd3_ h
    refine r_cvi C (rest := []) (c_X7_goOneTick o_1 o_4 hq12) fm_X7_goOneTick lk_X10_101 o_1 ⟨_, ct_6 o_1.1⟩ rfl rfl ⟨rfl, rfl, Nat.le_of_ble_eq_true rfl, Nat.le_of_ble_eq_true rfl⟩ (Nat.le_of_ble_eq_true rfl) rfl dX10_run_36 ?_
    refine r_pop C rfl dX10_run_39 ?_
    refine r_iincN C h (k := 3) (zz := 1) rfl rfl (by decide) (lv1 := fun v13 => [(3, .int v13), (0, .ref (ad 0)), (1, .int a0), (2, .int x2)]) (fun _ => rfl) dX10_run_40 (fun v13 h => ?_)
    refine r_goto C (tgt := 23) dX10_run_43 (by decide) ?_
    exact r_sub [1, 2, 3, 0] rfl (hr_23  h)
set_option maxHeartbeats 4000000 in
set_option maxRecDepth 100000 in
theorem wL_X10_run_23 {l : Launch} {g : GG} {ad : Nat → Nat} {p : Program} {e : Env} {s : State} {m : MethodId} {args : Array Value} {below : List Frame} {meth : Method} {c : Code} {a0 : Int32} {z : Int32 × HI × HJ} (C : Cx p s m args meth c RX10 cX10_run 4 g (AW ad nO)) (hr : meth.sig.returnType = (some .int))  : ∀ (f : Nat) {x2 : Int32} {x3 : Int32} {I : HI} {J : HJ}, fL_X10_run_23 a0 f x2 x3 I J = some z → V p l e (rmk 7 214) s m args below meth c (MQ below (QAi g ad nO oR z.1 z.2.1 z.2.2) args s 0 0 (AW ad nO)) 4 0 0 g (AW ad nO) ad nO oR I J 23 [(0, .ref (ad 0)), (1, .int a0), (2, .int x2), (3, .int x3)] [] := by
  intro f
  induction f with
  | zero =>
    intro _ _ _ _  h
    have h0 : (none : Option (Int32 × HI × HJ)) = some z := h
    cases h0
  | succ f ih =>
    intro _ _ _ _  h
    exact wLB_X10_run_23 C hr ih  h
set_option maxHeartbeats 4000000 in
set_option maxRecDepth 100000 in
theorem w_X10_run {l : Launch} {g : GG} {ad : Nat → Nat} {p : Program} {e : Env} {s : State} {m : MethodId} {args : Array Value} {below : List Frame} {meth : Method} {c : Code} {a0 : Int32} {z : Int32 × HI × HJ} (C : Cx p s m args meth c RX10 cX10_run 4 g (AW ad nO)) (hr : meth.sig.returnType = (some .int)) {I : HI} {J : HJ} (h : f_X10_run a0 I J = some z) : V p l e (rmk 7 214) s m args below meth c (MQ below (QAi g ad nO oR z.1 z.2.1 z.2.2) args s 0 0 (AW ad nO)) 4 0 0 g (AW ad nO) ad nO oR I J 0 [(0, .ref (ad 0)), (1, .int a0)] [] := by
  unfold f_X10_run at h
  refine r_iload_n C 1 rfl rfl dX10_run_0 ?_
  refine r_iconst C (v := 0) (by decide) dX10_run_1 ?_
  refine r_sipush C (v := 400) (by decide) dX10_run_2 ?_
  obtain ⟨r14, hq15, h⟩ := bd1_ h
  refine r_csi C (rest := []) (c_X10_isWithin  hq15) fm_X10_isWithin lk_X10_80 rfl ⟨rfl, rfl, Nat.le_of_ble_eq_true rfl, Nat.le_of_ble_eq_true rfl⟩ (Nat.le_of_ble_eq_true rfl) rfl dX10_run_5 ?_
  refine r_if_ne C (tgt := 13) h dX10_run_8 (by decide) (fun h => ?_) (fun h => ?_)
  · refine r_aload_n C 0 rfl rfl dX10_run_13 ?_
    refine gf_X10_10 C rf0 o_0 (q := 1) rfl dX10_run_14 ?_
    refine gf_X10_98 C o_1 dX10_run_17 ?_
    refine r_nmi h (fun v16 h => ?_)
    refine r_istore_n C (lv1 := [(2, .int v16), (0, .ref (ad 0)), (1, .int a0)]) rfl (by decide) rfl dX10_run_20 ?_
    refine r_iconst C (v := 0) (by decide) dX10_run_21 ?_
    refine r_istore_n C (lv1 := [(3, .int (0 : Int32)), (2, .int v16), (0, .ref (ad 0)), (1, .int a0)]) rfl (by decide) rfl dX10_run_22 ?_
    exact r_sub [2, 3, 1, 0] rfl (wL_X10_run_23 C hr _  h)
  · refine r_iconst C (v := -1) (by decide) dX10_run_11 ?_
    have hz9 := Option.some.inj h
    subst hz9
    exact r_iret C hr dX10_run_12
set_option maxHeartbeats 4000000 in
set_option maxRecDepth 100000 in
theorem c_X10_run {l : Launch} {g : GG} {ad : Nat → Nat} {a0 : Int32} {I : HI} {J : HJ} {r : Int32} {I1 : HI} {J1 : HJ} (h : f_X10_run a0 I J = some (r, I1, J1)) : CM l yX10_run cX10_run 4 (some .int) (rmk 7 214) g ad nO oR [.ref (ad 0), .int a0] I J (QAi g ad nO oR r I1 J1) :=
  CM_of (by decide +kernel) (Nat.le_of_ble_eq_true rfl) (fun p e s m args below meth c C hr => w_X10_run C hr h)

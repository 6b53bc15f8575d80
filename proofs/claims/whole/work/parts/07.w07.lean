set_option maxHeartbeats 4000000 in
set_option maxRecDepth 100000 in
theorem w_X11_nameHere {l : Launch} {g : GG} {ad : Nat → Nat} {p : Program} {e : Env} {s : State} {m : MethodId} {args : Array Value} {below : List Frame} {meth : Method} {c : Code} {z : Int32} (C : Cx p s m args meth c RX11 cX11_nameHere 1 g (AW ad nO)) (hr : meth.sig.returnType = (some .int)) {I : HI} {J : HJ} (h : f_X11_nameHere I J = some z) : V p l e (rmk 3 70) s m args below meth c (MQ below (QAi g ad nO oR z I J) args s 0 0 (AW ad nO)) 1 0 0 g (AW ad nO) ad nO oR I J 0 [(0, .ref (ad 98))] [] := by
  unfold f_X11_nameHere at h
  refine r_aload_n C 0 rfl rfl dX11_nameHere_0 ?_
  refine r_bipush C (v := 119) (by decide) dX11_nameHere_1 ?_
  refine r_bipush C (v := 101) (by decide) dX11_nameHere_3 ?_
  refine r_bipush C (v := 105) (by decide) dX11_nameHere_5 ?_
  refine r_bipush C (v := 103) (by decide) dX11_nameHere_7 ?_
  refine r_pc (pc1 := 9) rfl ?_
  refine r_bipush C (v := 104) (by decide) dX11_nameHere_9 ?_
  refine r_bipush C (v := 116) (by decide) dX11_nameHere_11 ?_
  obtain ⟨r15, hq16, h⟩ := bd1_ h
  refine r_cvi C (rest := []) (c_X11_isName  hq16) fm_X11_isName lk_X11_180 o_98 ⟨_, ct_10 o_98.1⟩ rfl rfl ⟨rfl, rfl, Nat.le_of_ble_eq_true rfl, Nat.le_of_ble_eq_true rfl⟩ (Nat.le_of_ble_eq_true rfl) rfl dX11_nameHere_13 ?_
  refine r_if_eq C (tgt := 23) h dX11_nameHere_16 (by decide) (fun h => ?_) (fun h => ?_)
  · refine r_aload_n C 0 rfl rfl dX11_nameHere_23 ?_
    refine r_bipush C (v := 115) (by decide) dX11_nameHere_24 ?_
    refine r_bipush C (v := 119) (by decide) dX11_nameHere_26 ?_
    refine r_bipush C (v := 97) (by decide) dX11_nameHere_28 ?_
    refine r_bipush C (v := 121) (by decide) dX11_nameHere_30 ?_
    refine r_pc (pc1 := 32) rfl ?_
    refine r_iconst C (v := 0) (by decide) dX11_nameHere_32 ?_
    refine r_iconst C (v := 0) (by decide) dX11_nameHere_33 ?_
    obtain ⟨r17, hq18, h⟩ := bd1_ h
    refine r_cvi C (rest := []) (c_X11_isName  hq18) fm_X11_isName lk_X11_180 o_98 ⟨_, ct_10 o_98.1⟩ rfl rfl ⟨rfl, rfl, Nat.le_of_ble_eq_true rfl, Nat.le_of_ble_eq_true rfl⟩ (Nat.le_of_ble_eq_true rfl) rfl dX11_nameHere_34 ?_
    refine r_if_eq C (tgt := 44) h dX11_nameHere_37 (by decide) (fun h => ?_) (fun h => ?_)
    · refine r_aload_n C 0 rfl rfl dX11_nameHere_44 ?_
      refine r_bipush C (v := 115) (by decide) dX11_nameHere_45 ?_
      refine r_bipush C (v := 112) (by decide) dX11_nameHere_47 ?_
      refine r_bipush C (v := 101) (by decide) dX11_nameHere_49 ?_
      refine r_bipush C (v := 101) (by decide) dX11_nameHere_51 ?_
      refine r_pc (pc1 := 53) rfl ?_
      refine r_bipush C (v := 100) (by decide) dX11_nameHere_53 ?_
      refine r_iconst C (v := 0) (by decide) dX11_nameHere_55 ?_
      obtain ⟨r19, hq20, h⟩ := bd1_ h
      refine r_cvi C (rest := []) (c_X11_isName  hq20) fm_X11_isName lk_X11_180 o_98 ⟨_, ct_10 o_98.1⟩ rfl rfl ⟨rfl, rfl, Nat.le_of_ble_eq_true rfl, Nat.le_of_ble_eq_true rfl⟩ (Nat.le_of_ble_eq_true rfl) rfl dX11_nameHere_56 ?_
      refine r_if_eq C (tgt := 66) h dX11_nameHere_59 (by decide) (fun h => ?_) (fun h => ?_)
      · refine r_aload_n C 0 rfl rfl dX11_nameHere_66 ?_
        refine r_bipush C (v := 116) (by decide) dX11_nameHere_67 ?_
        refine r_bipush C (v := 105) (by decide) dX11_nameHere_69 ?_
        refine r_bipush C (v := 99) (by decide) dX11_nameHere_71 ?_
        refine r_bipush C (v := 107) (by decide) dX11_nameHere_73 ?_
        refine r_pc (pc1 := 75) rfl ?_
        refine r_iconst C (v := 0) (by decide) dX11_nameHere_75 ?_
        refine r_iconst C (v := 0) (by decide) dX11_nameHere_76 ?_
        obtain ⟨r21, hq22, h⟩ := bd1_ h
        refine r_cvi C (rest := []) (c_X11_isName  hq22) fm_X11_isName lk_X11_180 o_98 ⟨_, ct_10 o_98.1⟩ rfl rfl ⟨rfl, rfl, Nat.le_of_ble_eq_true rfl, Nat.le_of_ble_eq_true rfl⟩ (Nat.le_of_ble_eq_true rfl) rfl dX11_nameHere_77 ?_
        refine r_if_eq C (tgt := 87) h dX11_nameHere_80 (by decide) (fun h => ?_) (fun h => ?_)
        · refine r_aload_n C 0 rfl rfl dX11_nameHere_87 ?_
          refine r_bipush C (v := 115) (by decide) dX11_nameHere_88 ?_
          refine r_bipush C (v := 105) (by decide) dX11_nameHere_90 ?_
          refine r_bipush C (v := 110) (by decide) dX11_nameHere_92 ?_
          refine r_bipush C (v := 99) (by decide) dX11_nameHere_94 ?_
          refine r_pc (pc1 := 96) rfl ?_
          refine r_bipush C (v := 101) (by decide) dX11_nameHere_96 ?_
          refine r_iconst C (v := 0) (by decide) dX11_nameHere_98 ?_
          obtain ⟨r23, hq24, h⟩ := bd1_ h
          refine r_cvi C (rest := []) (c_X11_isName  hq24) fm_X11_isName lk_X11_180 o_98 ⟨_, ct_10 o_98.1⟩ rfl rfl ⟨rfl, rfl, Nat.le_of_ble_eq_true rfl, Nat.le_of_ble_eq_true rfl⟩ (Nat.le_of_ble_eq_true rfl) rfl dX11_nameHere_99 ?_
          refine r_if_eq C (tgt := 109) h dX11_nameHere_102 (by decide) (fun h => ?_) (fun h => ?_)
          · refine r_aload_n C 0 rfl rfl dX11_nameHere_109 ?_
            refine r_bipush C (v := 100) (by decide) dX11_nameHere_110 ?_
            refine r_bipush C (v := 114) (by decide) dX11_nameHere_112 ?_
            refine r_bipush C (v := 111) (by decide) dX11_nameHere_114 ?_
            refine r_bipush C (v := 112) (by decide) dX11_nameHere_116 ?_
            refine r_pc (pc1 := 118) rfl ?_
            refine r_bipush C (v := 115) (by decide) dX11_nameHere_118 ?_
            refine r_iconst C (v := 0) (by decide) dX11_nameHere_120 ?_
            obtain ⟨r25, hq26, h⟩ := bd1_ h
            refine r_cvi C (rest := []) (c_X11_isName  hq26) fm_X11_isName lk_X11_180 o_98 ⟨_, ct_10 o_98.1⟩ rfl rfl ⟨rfl, rfl, Nat.le_of_ble_eq_true rfl, Nat.le_of_ble_eq_true rfl⟩ (Nat.le_of_ble_eq_true rfl) rfl dX11_nameHere_121 ?_
            refine r_if_eq C (tgt := 131) h dX11_nameHere_124 (by decide) (fun h => ?_) (fun h => ?_)
            · refine r_aload_n C 0 rfl rfl dX11_nameHere_131 ?_
              refine r_bipush C (v := 107) (by decide) dX11_nameHere_132 ?_
              refine r_bipush C (v := 110) (by decide) dX11_nameHere_134 ?_
              refine r_bipush C (v := 111) (by decide) dX11_nameHere_136 ?_
              refine r_bipush C (v := 98) (by decide) dX11_nameHere_138 ?_
              refine r_pc (pc1 := 140) rfl ?_
              refine r_iconst C (v := 0) (by decide) dX11_nameHere_140 ?_
              refine r_iconst C (v := 0) (by decide) dX11_nameHere_141 ?_
              obtain ⟨r27, hq28, h⟩ := bd1_ h
              refine r_cvi C (rest := []) (c_X11_isName  hq28) fm_X11_isName lk_X11_180 o_98 ⟨_, ct_10 o_98.1⟩ rfl rfl ⟨rfl, rfl, Nat.le_of_ble_eq_true rfl, Nat.le_of_ble_eq_true rfl⟩ (Nat.le_of_ble_eq_true rfl) rfl dX11_nameHere_142 ?_
              refine r_if_eq C (tgt := 153) h dX11_nameHere_145 (by decide) (fun h => ?_) (fun h => ?_)
              · refine r_iconst C (v := -1) (by decide) dX11_nameHere_153 ?_
                have hz9 := Option.some.inj h
                subst hz9
                exact r_iret C hr dX11_nameHere_154
              · refine r_bipush C (v := 6) (by decide) dX11_nameHere_148 ?_
                refine r_goto C (tgt := 154) dX11_nameHere_150 (by decide) ?_
                have hz9 := Option.some.inj h
                subst hz9
                exact r_iret C hr dX11_nameHere_154
            · refine r_iconst C (v := 5) (by decide) dX11_nameHere_127 ?_
              refine r_goto C (tgt := 154) dX11_nameHere_128 (by decide) ?_
              have hz9 := Option.some.inj h
              subst hz9
              exact r_iret C hr dX11_nameHere_154
          · refine r_iconst C (v := 4) (by decide) dX11_nameHere_105 ?_
            refine r_goto C (tgt := 154) dX11_nameHere_106 (by decide) ?_
            have hz9 := Option.some.inj h
            subst hz9
            exact r_iret C hr dX11_nameHere_154
        · refine r_iconst C (v := 3) (by decide) dX11_nameHere_83 ?_
          refine r_goto C (tgt := 154) dX11_nameHere_84 (by decide) ?_
          have hz9 := Option.some.inj h
          subst hz9
          exact r_iret C hr dX11_nameHere_154
      · refine r_iconst C (v := 2) (by decide) dX11_nameHere_62 ?_
        refine r_goto C (tgt := 154) dX11_nameHere_63 (by decide) ?_
        have hz9 := Option.some.inj h
        subst hz9
        exact r_iret C hr dX11_nameHere_154
    · refine r_iconst C (v := 1) (by decide) dX11_nameHere_40 ?_
      refine r_goto C (tgt := 154) dX11_nameHere_41 (by decide) ?_
      have hz9 := Option.some.inj h
      subst hz9
      exact r_iret C hr dX11_nameHere_154
  · refine r_iconst C (v := 0) (by decide) dX11_nameHere_19 ?_
    refine r_goto C (tgt := 154) dX11_nameHere_20 (by decide) ?_
    have hz9 := Option.some.inj h
    subst hz9
    exact r_iret C hr dX11_nameHere_154
set_option maxHeartbeats 4000000 in
set_option maxRecDepth 100000 in
theorem c_X11_nameHere {l : Launch} {g : GG} {ad : Nat → Nat} {I : HI} {J : HJ} {r : Int32} (h : f_X11_nameHere I J = some r) : CM l yX11_nameHere cX11_nameHere 1 (some .int) (rmk 3 70) g ad nO oR [.ref (ad 98)] I J (QAi g ad nO oR r I J) :=
  CM_of (by decide +kernel) (Nat.le_of_ble_eq_true rfl) (fun p e s m args below meth c C hr => w_X11_nameHere C hr h)
set_option maxHeartbeats 4000000 in
set_option maxRecDepth 100000 in
theorem w_X11_isSign {l : Launch} {g : GG} {ad : Nat → Nat} {p : Program} {e : Env} {s : State} {m : MethodId} {args : Array Value} {below : List Frame} {meth : Method} {c : Code} {a0 : Int32} {z : Int32} (C : Cx p s m args meth c RX11 cX11_isSign 2 g (AW ad nO)) (hr : meth.sig.returnType = (some .boolean)) {I : HI} {J : HJ} (h : f_X11_isSign a0 I J = some z) : V p l e (rmk 1 21) s m args below meth c (MQ below (QAi g ad nO oR z I J) args s 0 0 (AW ad nO)) 2 0 0 g (AW ad nO) ad nO oR I J 0 [(0, .ref (ad 98)), (1, .int a0)] [] := by
  unfold f_X11_isSign at h
  refine r_aload_n C 0 rfl rfl dX11_isSign_0 ?_
  refine gf_X11_166 C o_98 dX11_isSign_1 ?_
  refine r_if_ne C (tgt := 23) h dX11_isSign_4 (by decide) (fun h => ?_) (fun h => ?_)
  · refine r_iconst C (v := 0) (by decide) dX11_isSign_23 ?_
    have hz9 := Option.some.inj h
    subst hz9
    exact r_zret C (v := (0 : Int32)) rfl hr dX11_isSign_24
  · refine r_aload_n C 0 rfl rfl dX11_isSign_7 ?_
    refine r_aload_n C 0 rfl rfl dX11_isSign_8 ?_
    refine gf_X11_153 C o_98 dX11_isSign_9 ?_
    obtain ⟨r3, hq4, h⟩ := bd1_ h
    refine r_cvi C (rest := []) (c_X11_byteAt  hq4) fm_X11_byteAt lk_X11_156 o_98 ⟨_, ct_10 o_98.1⟩ rfl rfl ⟨rfl, rfl, Nat.le_of_ble_eq_true rfl, Nat.le_of_ble_eq_true rfl⟩ (Nat.le_of_ble_eq_true rfl) rfl dX11_isSign_12 ?_
    refine r_iload_n C 1 rfl rfl dX11_isSign_15 ?_
    refine r_icmp_ne C (tgt := 23) h dX11_isSign_16 (by decide) (fun h => ?_) (fun h => ?_)
    · refine r_iconst C (v := 0) (by decide) dX11_isSign_23 ?_
      have hz9 := Option.some.inj h
      subst hz9
      exact r_zret C (v := (0 : Int32)) rfl hr dX11_isSign_24
    · refine r_iconst C (v := 1) (by decide) dX11_isSign_19 ?_
      refine r_goto C (tgt := 24) dX11_isSign_20 (by decide) ?_
      have hz9 := Option.some.inj h
      subst hz9
      exact r_zret C (v := (1 : Int32)) rfl hr dX11_isSign_24
set_option maxHeartbeats 4000000 in
set_option maxRecDepth 100000 in
theorem c_X11_isSign {l : Launch} {g : GG} {ad : Nat → Nat} {a0 : Int32} {I : HI} {J : HJ} {r : Int32} (h : f_X11_isSign a0 I J = some r) : CM l yX11_isSign cX11_isSign 2 (some .boolean) (rmk 1 21) g ad nO oR [.ref (ad 98), .int a0] I J (QAi g ad nO oR r I J) :=
  CM_of (by decide +kernel) (Nat.le_of_ble_eq_true rfl) (fun p e s m args below meth c C hr => w_X11_isSign C hr h)
set_option maxHeartbeats 4000000 in
set_option maxRecDepth 100000 in
theorem wB_X11_number_70 {l : Launch} {g : GG} {ad : Nat → Nat} {p : Program} {e : Env} {s : State} {m : MethodId} {args : Array Value} {below : List Frame} {meth : Method} {c : Code} {z : HI} (C : Cx p s m args meth c RX11 cX11_number 3 g (AW ad nO)) (hr : meth.sig.returnType = none) {J : HJ}  {s0 : Int32} {I : HI} (h : fB_X11_number_70 s0 I J = some z) : V p l e (rmk 4 88) s m args below meth c (MQ below (QAv g ad nO oR z J) args s 0 0 (AW ad nO)) 3 0 0 g (AW ad nO) ad nO oR I J 70 [] [.int s0, .ref (ad 98)] := by
  unfold fB_X11_number_70 at h
  obtain ⟨I8, hq9, h⟩ := bd1_ h
  refine r_cvv C (rest := []) (c_X11_needs  hq9) fm_X11_needs lk_X11_188 o_98 ⟨_, ct_10 o_98.1⟩ rfl rfl ⟨rfl, rfl, Nat.le_of_ble_eq_true rfl, Nat.le_of_ble_eq_true rfl⟩ (Nat.le_of_ble_eq_true rfl) rfl dX11_number_70 ?_
  have hz9 := Option.some.inj h
  subst hz9
  exact r_vret C hr dX11_number_73
set_option maxHeartbeats 4000000 in
set_option maxRecDepth 100000 in
theorem wB_X11_number_46 {l : Launch} {g : GG} {ad : Nat → Nat} {p : Program} {e : Env} {s : State} {m : MethodId} {args : Array Value} {below : List Frame} {meth : Method} {c : Code} {z : HI} (C : Cx p s m args meth c RX11 cX11_number 3 g (AW ad nO)) (hr : meth.sig.returnType = none) {J : HJ}  {x1 : Int32} {I : HI} (h : fB_X11_number_46 x1 I J = some z) : V p l e (rmk 4 88) s m args below meth c (MQ below (QAv g ad nO oR z J) args s 0 0 (AW ad nO)) 3 0 0 g (AW ad nO) ad nO oR I J 46 [(0, .ref (ad 98)), (1, .int x1)] [] := by
  unfold fB_X11_number_46 at h
  refine r_aload_n C 0 rfl rfl dX11_number_46 ?_
  refine r_iload_n C 1 rfl rfl dX11_number_47 ?_
  obtain ⟨I10, hq11, h⟩ := bd1_ h
  refine r_cvv C (rest := []) (c_X11_emits  hq11) fm_X11_emits lk_X11_184 o_98 ⟨_, ct_10 o_98.1⟩ rfl rfl ⟨rfl, rfl, Nat.le_of_ble_eq_true rfl, Nat.le_of_ble_eq_true rfl⟩ (Nat.le_of_ble_eq_true rfl) rfl dX11_number_48 ?_
  refine r_aload_n C 0 rfl rfl dX11_number_51 ?_
  refine r_aload_n C 0 rfl rfl dX11_number_52 ?_
  refine gf_X11_150 C o_98 dX11_number_53 ?_
  refine r_aload_n C 0 rfl rfl dX11_number_56 ?_
  refine gf_X11_153 C o_98 dX11_number_57 ?_
  refine r_pc (pc1 := 60) rfl ?_
  refine r_isub C dX11_number_60 ?_
  refine r_iconst C (v := 4) (by decide) dX11_number_61 ?_
  refine r_icmp_gt C (tgt := 69) h dX11_number_62 (by decide) (fun h => ?_) (fun h => ?_)
  · refine r_iconst C (v := 0) (by decide) dX11_number_69 ?_
    exact r_sub [] rfl (wB_X11_number_70 C hr  h)
  · refine r_iconst C (v := 1) (by decide) dX11_number_65 ?_
    refine r_goto C (tgt := 70) dX11_number_66 (by decide) ?_
    exact r_sub [] rfl (wB_X11_number_70 C hr  h)
set_option maxHeartbeats 4000000 in
set_option maxRecDepth 100000 in
theorem wLB_X11_number_7 {l : Launch} {g : GG} {ad : Nat → Nat} {p : Program} {e : Env} {s : State} {m : MethodId} {args : Array Value} {below : List Frame} {meth : Method} {c : Code} {z : HI} (C : Cx p s m args meth c RX11 cX11_number 3 g (AW ad nO)) (hr : meth.sig.returnType = none) {J : HJ}  {r_7 : Int32 → Int32 → HI → HJ → Option (HI)} (hr_7 : ∀ {x1 : Int32} {x2 : Int32} {I : HI}, r_7 x1 x2 I J = some z → V p l e (rmk 4 88) s m args below meth c (MQ below (QAv g ad nO oR z J) args s 0 0 (AW ad nO)) 3 0 0 g (AW ad nO) ad nO oR I J 7 [(0, .ref (ad 98)), (1, .int x1), (2, .int x2)] []) {x1 : Int32} {x2 : Int32} {I : HI} (h : fLB_X11_number_7 r_7 x1 x2 I J = some z) : V p l e (rmk 4 88) s m args below meth c (MQ below (QAv g ad nO oR z J) args s 0 0 (AW ad nO)) 3 0 0 g (AW ad nO) ad nO oR I J 7 [(0, .ref (ad 98)), (1, .int x1), (2, .int x2)] [] := by
  unfold fLB_X11_number_7 at h
  refine r_iload_n C 2 rfl rfl dX11_number_7 ?_
  refine r_aload_n C 0 rfl rfl dX11_number_8 ?_
  refine gf_X11_150 C o_98 dX11_number_9 ?_
  refine r_icmp_ge C (tgt := 46) h dX11_number_12 (by decide) (fun h => ?_) (fun h => ?_)
  · exact r_sub [0, 1] rfl (wB_X11_number_46 C hr  h)
  · refine r_iload_n C 2 rfl rfl dX11_number_15 ?_
    refine r_aload_n C 0 rfl rfl dX11_number_16 ?_
    refine gf_X11_153 C o_98 dX11_number_17 ?_
    refine r_iconst C (v := 4) (by decide) dX11_number_20 ?_
    refine r_iadd C dX11_number_21 ?_
    refine r_pc (pc1 := 22) rfl ?_
    refine r_icmp_ge C (tgt := 46) h dX11_number_22 (by decide) (fun h => ?_) (fun h => ?_)
    · exact r_sub [0, 1] rfl (wB_X11_number_46 C hr  h)
    · refine r_bipush C (v := 10) (by decide) dX11_number_25 ?_
      refine r_iload_n C 1 rfl rfl dX11_number_27 ?_
      refine r_imul C dX11_number_28 ?_
      refine r_aload_n C 0 rfl rfl dX11_number_29 ?_
      refine gf_X11_44 C rf0 o_98 (q := 110) rfl dX11_number_30 ?_
      refine r_pc (pc1 := 33) rfl ?_
      refine r_iload_n C 2 rfl rfl dX11_number_33 ?_
      refine r_iald C o_110 h dX11_number_34 (fun h => ?_)
      refine r_iadd C dX11_number_35 ?_
      refine r_bipush C (v := 48) (by decide) dX11_number_36 ?_
      refine r_isub C dX11_number_38 ?_
      refine r_nmi h (fun v12 h => ?_)
      refine r_istore_n C (lv1 := [(1, .int v12), (0, .ref (ad 98)), (2, .int x2)]) rfl (by decide) rfl dX11_number_39 ?_
      refine r_iincN C h (k := 2) (zz := 1) rfl rfl (by decide) (lv1 := fun v13 => [(2, .int v13), (1, .int v12), (0, .ref (ad 98))]) (fun _ => rfl) dX11_number_40 (fun v13 h => ?_)
      refine r_goto C (tgt := 7) dX11_number_43 (by decide) ?_
      exact r_sub [2, 1, 0] rfl (hr_7  h)
set_option maxHeartbeats 4000000 in
set_option maxRecDepth 100000 in
theorem wL_X11_number_7 {l : Launch} {g : GG} {ad : Nat → Nat} {p : Program} {e : Env} {s : State} {m : MethodId} {args : Array Value} {below : List Frame} {meth : Method} {c : Code} {z : HI} (C : Cx p s m args meth c RX11 cX11_number 3 g (AW ad nO)) (hr : meth.sig.returnType = none) {J : HJ}  : ∀ (f : Nat) {x1 : Int32} {x2 : Int32} {I : HI}, fL_X11_number_7 f x1 x2 I J = some z → V p l e (rmk 4 88) s m args below meth c (MQ below (QAv g ad nO oR z J) args s 0 0 (AW ad nO)) 3 0 0 g (AW ad nO) ad nO oR I J 7 [(0, .ref (ad 98)), (1, .int x1), (2, .int x2)] [] := by
  intro f
  induction f with
  | zero =>
    intro _ _ _  h
    have h0 : (none : Option (HI)) = some z := h
    cases h0
  | succ f ih =>
    intro _ _ _  h
    exact wLB_X11_number_7 C hr ih  h
set_option maxHeartbeats 4000000 in
set_option maxRecDepth 100000 in
theorem w_X11_number {l : Launch} {g : GG} {ad : Nat → Nat} {p : Program} {e : Env} {s : State} {m : MethodId} {args : Array Value} {below : List Frame} {meth : Method} {c : Code} {z : HI} (C : Cx p s m args meth c RX11 cX11_number 3 g (AW ad nO)) (hr : meth.sig.returnType = none) {I : HI} {J : HJ} (h : f_X11_number I J = some z) : V p l e (rmk 4 88) s m args below meth c (MQ below (QAv g ad nO oR z J) args s 0 0 (AW ad nO)) 3 0 0 g (AW ad nO) ad nO oR I J 0 [(0, .ref (ad 98))] [] := by
  unfold f_X11_number at h
  refine r_iconst C (v := 0) (by decide) dX11_number_0 ?_
  refine r_istore_n C (lv1 := [(1, .int (0 : Int32)), (0, .ref (ad 98))]) rfl (by decide) rfl dX11_number_1 ?_
  refine r_aload_n C 1 rfl rfl dX11_number_2 ?_
  refine gf_X11_153 C o_98 dX11_number_3 ?_
  refine r_nmi h (fun v14 h => ?_)
  refine r_istore_n C (lv1 := [(2, .int v14), (1, .int (0 : Int32)), (0, .ref (ad 98))]) rfl (by decide) rfl dX11_number_6 ?_
  exact r_sub [2, 1, 0] rfl (wL_X11_number_7 C hr _  h)
set_option maxHeartbeats 4000000 in
set_option maxRecDepth 100000 in
theorem c_X11_number {l : Launch} {g : GG} {ad : Nat → Nat} {I : HI} {J : HJ} {I1 : HI} (h : f_X11_number I J = some I1) : CM l yX11_number cX11_number 3 none (rmk 4 88) g ad nO oR [.ref (ad 98)] I J (QAv g ad nO oR I1 J) :=
  CM_of (by decide +kernel) (Nat.le_of_ble_eq_true rfl) (fun p e s m args below meth c C hr => w_X11_number C hr h)
set_option maxHeartbeats 4000000 in
set_option maxRecDepth 100000 in
theorem wB_X11_one_188 {l : Launch} {g : GG} {ad : Nat → Nat} {p : Program} {e : Env} {s : State} {m : MethodId} {args : Array Value} {below : List Frame} {meth : Method} {c : Code} {d : Nat} {g_one : HI → HJ → Option (HI)} {g_product : HI → HJ → Option (HI)} {g_sum : HI → HJ → Option (HI)} {g_compared : HI → HJ → Option (HI)} {z : HI} (C : Cx p s m args meth c RX11 cX11_one 2 g (AW ad nO)) (hr : meth.sig.returnType = none) (H_one : ∀ {I : HI} {J : HJ} {I1 : HI}, g_one I J = some I1 → CM l yX11_one cX11_one 2 none (rmk (5 + d) (110 + 40 * d)) g ad nO oR [.ref (ad 98)] I J (QAv g ad nO oR I1 J)) (H_product : ∀ {I : HI} {J : HJ} {I1 : HI}, g_product I J = some I1 → CM l yX11_product cX11_product 2 none (rmk (5 + d) (110 + 40 * d)) g ad nO oR [.ref (ad 98)] I J (QAv g ad nO oR I1 J)) (H_sum : ∀ {I : HI} {J : HJ} {I1 : HI}, g_sum I J = some I1 → CM l yX11_sum cX11_sum 2 none (rmk (5 + d) (110 + 40 * d)) g ad nO oR [.ref (ad 98)] I J (QAv g ad nO oR I1 J)) (H_compared : ∀ {I : HI} {J : HJ} {I1 : HI}, g_compared I J = some I1 → CM l yX11_compared cX11_compared 2 none (rmk (5 + d) (110 + 40 * d)) g ad nO oR [.ref (ad 98)] I J (QAv g ad nO oR I1 J)) {J : HJ}  {s0 : Int32} {I : HI} (h : fB_X11_one_188 g_one g_product g_sum g_compared s0 I J = some z) : V p l e (rmk (5 + (d + 1)) (110 + 40 * (d + 1))) s m args below meth c (MQ below (QAv g ad nO oR z J) args s 0 0 (AW ad nO)) 2 0 0 g (AW ad nO) ad nO oR I J 188 [] [.int s0, .ref (ad 98)] := by
  unfold fB_X11_one_188 at h
  obtain ⟨I35, hq36, h⟩ := bd1_ h
  refine r_cvv C (rest := []) (c_X11_needs  hq36) fm_X11_needs lk_X11_188 o_98 ⟨_, ct_10 o_98.1⟩ rfl rfl (RO_base (by decide) (by decide)) (Nat.le_of_ble_eq_true rfl) rfl dX11_one_188 ?_
  have hz9 := Option.some.inj h
  subst hz9
  exact r_vret C hr dX11_one_191
set_option maxHeartbeats 4000000 in
set_option maxRecDepth 100000 in
theorem wB_X11_one_148 {l : Launch} {g : GG} {ad : Nat → Nat} {p : Program} {e : Env} {s : State} {m : MethodId} {args : Array Value} {below : List Frame} {meth : Method} {c : Code} {d : Nat} {g_one : HI → HJ → Option (HI)} {g_product : HI → HJ → Option (HI)} {g_sum : HI → HJ → Option (HI)} {g_compared : HI → HJ → Option (HI)} {z : HI} (C : Cx p s m args meth c RX11 cX11_one 2 g (AW ad nO)) (hr : meth.sig.returnType = none) (H_one : ∀ {I : HI} {J : HJ} {I1 : HI}, g_one I J = some I1 → CM l yX11_one cX11_one 2 none (rmk (5 + d) (110 + 40 * d)) g ad nO oR [.ref (ad 98)] I J (QAv g ad nO oR I1 J)) (H_product : ∀ {I : HI} {J : HJ} {I1 : HI}, g_product I J = some I1 → CM l yX11_product cX11_product 2 none (rmk (5 + d) (110 + 40 * d)) g ad nO oR [.ref (ad 98)] I J (QAv g ad nO oR I1 J)) (H_sum : ∀ {I : HI} {J : HJ} {I1 : HI}, g_sum I J = some I1 → CM l yX11_sum cX11_sum 2 none (rmk (5 + d) (110 + 40 * d)) g ad nO oR [.ref (ad 98)] I J (QAv g ad nO oR I1 J)) (H_compared : ∀ {I : HI} {J : HJ} {I1 : HI}, g_compared I J = some I1 → CM l yX11_compared cX11_compared 2 none (rmk (5 + d) (110 + 40 * d)) g ad nO oR [.ref (ad 98)] I J (QAv g ad nO oR I1 J)) {J : HJ}  {s0 : Int32} {I : HI} (h : fB_X11_one_148 g_one g_product g_sum g_compared s0 I J = some z) : V p l e (rmk (5 + (d + 1)) (110 + 40 * (d + 1))) s m args below meth c (MQ below (QAv g ad nO oR z J) args s 0 0 (AW ad nO)) 2 0 0 g (AW ad nO) ad nO oR I J 148 [(0, .ref (ad 98))] [.int s0, .ref (ad 98)] := by
  unfold fB_X11_one_148 at h
  obtain ⟨I37, hq38, h⟩ := bd1_ h
  refine r_cvv C (rest := []) (c_X11_needs  hq38) fm_X11_needs lk_X11_188 o_98 ⟨_, ct_10 o_98.1⟩ rfl rfl (RO_base (by decide) (by decide)) (Nat.le_of_ble_eq_true rfl) rfl dX11_one_148 ?_
  refine r_aload_n C 0 rfl rfl dX11_one_151 ?_
  refine r_dup C rfl dX11_one_152 ?_
  refine gf_X11_198 C o_98 dX11_one_153 ?_
  refine r_iconst C (v := 1) (by decide) dX11_one_156 ?_
  refine r_isub C dX11_one_157 ?_
  refine r_pc (pc1 := 158) rfl ?_
  refine pf_X11_198 C o_98 dX11_one_158 ?_
  refine r_nmI h (fun I39 h => ?_)
  refine r_goto C (tgt := 191) dX11_one_161 (by decide) ?_
  have hz9 := Option.some.inj h
  subst hz9
  exact r_vret C hr dX11_one_191
set_option maxHeartbeats 4000000 in
set_option maxRecDepth 100000 in
theorem wB_X11_one_112 {l : Launch} {g : GG} {ad : Nat → Nat} {p : Program} {e : Env} {s : State} {m : MethodId} {args : Array Value} {below : List Frame} {meth : Method} {c : Code} {d : Nat} {g_one : HI → HJ → Option (HI)} {g_product : HI → HJ → Option (HI)} {g_sum : HI → HJ → Option (HI)} {g_compared : HI → HJ → Option (HI)} {z : HI} (C : Cx p s m args meth c RX11 cX11_one 2 g (AW ad nO)) (hr : meth.sig.returnType = none) (H_one : ∀ {I : HI} {J : HJ} {I1 : HI}, g_one I J = some I1 → CM l yX11_one cX11_one 2 none (rmk (5 + d) (110 + 40 * d)) g ad nO oR [.ref (ad 98)] I J (QAv g ad nO oR I1 J)) (H_product : ∀ {I : HI} {J : HJ} {I1 : HI}, g_product I J = some I1 → CM l yX11_product cX11_product 2 none (rmk (5 + d) (110 + 40 * d)) g ad nO oR [.ref (ad 98)] I J (QAv g ad nO oR I1 J)) (H_sum : ∀ {I : HI} {J : HJ} {I1 : HI}, g_sum I J = some I1 → CM l yX11_sum cX11_sum 2 none (rmk (5 + d) (110 + 40 * d)) g ad nO oR [.ref (ad 98)] I J (QAv g ad nO oR I1 J)) (H_compared : ∀ {I : HI} {J : HJ} {I1 : HI}, g_compared I J = some I1 → CM l yX11_compared cX11_compared 2 none (rmk (5 + d) (110 + 40 * d)) g ad nO oR [.ref (ad 98)] I J (QAv g ad nO oR I1 J)) {J : HJ}  {s0 : Int32} {I : HI} (h : fB_X11_one_112 g_one g_product g_sum g_compared s0 I J = some z) : V p l e (rmk (5 + (d + 1)) (110 + 40 * (d + 1))) s m args below meth c (MQ below (QAv g ad nO oR z J) args s 0 0 (AW ad nO)) 2 0 0 g (AW ad nO) ad nO oR I J 112 [(0, .ref (ad 98))] [.int s0, .ref (ad 98)] := by
  unfold fB_X11_one_112 at h
  obtain ⟨I40, hq41, h⟩ := bd1_ h
  refine r_cvv C (rest := []) (c_X11_needs  hq41) fm_X11_needs lk_X11_188 o_98 ⟨_, ct_10 o_98.1⟩ rfl rfl (RO_base (by decide) (by decide)) (Nat.le_of_ble_eq_true rfl) rfl dX11_one_112 ?_
  refine r_aload_n C 0 rfl rfl dX11_one_115 ?_
  refine r_dup C rfl dX11_one_116 ?_
  refine gf_X11_198 C o_98 dX11_one_117 ?_
  refine r_iconst C (v := 1) (by decide) dX11_one_120 ?_
  refine r_iadd C dX11_one_121 ?_
  refine r_pc (pc1 := 122) rfl ?_
  refine pf_X11_198 C o_98 dX11_one_122 ?_
  refine r_nmI h (fun I42 h => ?_)
  refine r_aload_n C 0 rfl rfl dX11_one_125 ?_
  obtain ⟨I43, hq44, h⟩ := bd1_ h
  refine r_cvv C (rest := []) (H_compared  hq44) fm_X11_compared lk_X11_204 o_98 ⟨_, ct_10 o_98.1⟩ rfl rfl (RO_rec (by decide)) (Nat.le_of_ble_eq_true rfl) rfl dX11_one_126 ?_
  refine r_aload_n C 0 rfl rfl dX11_one_129 ?_
  refine r_aload_n C 0 rfl rfl dX11_one_130 ?_
  refine r_aload_n C 0 rfl rfl dX11_one_131 ?_
  refine gf_X11_153 C o_98 dX11_one_132 ?_
  obtain ⟨r45, hq46, h⟩ := bd1_ h
  refine r_cvi C (rest := [.ref (ad 98)]) (c_X11_byteAt  hq46) fm_X11_byteAt lk_X11_156 o_98 ⟨_, ct_10 o_98.1⟩ rfl rfl (RO_base (by decide) (by decide)) (Nat.le_of_ble_eq_true rfl) rfl dX11_one_135 ?_
  refine r_bipush C (v := 41) (by decide) dX11_one_138 ?_
  refine r_icmp_ne C (tgt := 147) h dX11_one_140 (by decide) (fun h => ?_) (fun h => ?_)
  · refine r_iconst C (v := 0) (by decide) dX11_one_147 ?_
    exact wB_X11_one_148 C hr H_one H_product H_sum H_compared  h
  · refine r_iconst C (v := 1) (by decide) dX11_one_143 ?_
    refine r_goto C (tgt := 148) dX11_one_144 (by decide) ?_
    exact wB_X11_one_148 C hr H_one H_product H_sum H_compared  h
set_option maxHeartbeats 4000000 in
set_option maxRecDepth 100000 in
theorem wB_X11_one_52 {l : Launch} {g : GG} {ad : Nat → Nat} {p : Program} {e : Env} {s : State} {m : MethodId} {args : Array Value} {below : List Frame} {meth : Method} {c : Code} {d : Nat} {g_one : HI → HJ → Option (HI)} {g_product : HI → HJ → Option (HI)} {g_sum : HI → HJ → Option (HI)} {g_compared : HI → HJ → Option (HI)} {z : HI} (C : Cx p s m args meth c RX11 cX11_one 2 g (AW ad nO)) (hr : meth.sig.returnType = none) (H_one : ∀ {I : HI} {J : HJ} {I1 : HI}, g_one I J = some I1 → CM l yX11_one cX11_one 2 none (rmk (5 + d) (110 + 40 * d)) g ad nO oR [.ref (ad 98)] I J (QAv g ad nO oR I1 J)) (H_product : ∀ {I : HI} {J : HJ} {I1 : HI}, g_product I J = some I1 → CM l yX11_product cX11_product 2 none (rmk (5 + d) (110 + 40 * d)) g ad nO oR [.ref (ad 98)] I J (QAv g ad nO oR I1 J)) (H_sum : ∀ {I : HI} {J : HJ} {I1 : HI}, g_sum I J = some I1 → CM l yX11_sum cX11_sum 2 none (rmk (5 + d) (110 + 40 * d)) g ad nO oR [.ref (ad 98)] I J (QAv g ad nO oR I1 J)) (H_compared : ∀ {I : HI} {J : HJ} {I1 : HI}, g_compared I J = some I1 → CM l yX11_compared cX11_compared 2 none (rmk (5 + d) (110 + 40 * d)) g ad nO oR [.ref (ad 98)] I J (QAv g ad nO oR I1 J)) {J : HJ}  {s0 : Int32} {I : HI} (h : fB_X11_one_52 g_one g_product g_sum g_compared s0 I J = some z) : V p l e (rmk (5 + (d + 1)) (110 + 40 * (d + 1))) s m args below meth c (MQ below (QAv g ad nO oR z J) args s 0 0 (AW ad nO)) 2 0 0 g (AW ad nO) ad nO oR I J 52 [(0, .ref (ad 98))] [.int s0, .ref (ad 98)] := by
  unfold fB_X11_one_52 at h
  obtain ⟨I47, hq48, h⟩ := bd1_ h
  refine r_cvv C (rest := []) (c_X11_needs  hq48) fm_X11_needs lk_X11_188 o_98 ⟨_, ct_10 o_98.1⟩ rfl rfl (RO_base (by decide) (by decide)) (Nat.le_of_ble_eq_true rfl) rfl dX11_one_52 ?_
  refine r_aload_n C 0 rfl rfl dX11_one_55 ?_
  refine r_dup C rfl dX11_one_56 ?_
  refine gf_X11_198 C o_98 dX11_one_57 ?_
  refine r_iconst C (v := 1) (by decide) dX11_one_60 ?_
  refine r_iadd C dX11_one_61 ?_
  refine r_pc (pc1 := 62) rfl ?_
  refine pf_X11_198 C o_98 dX11_one_62 ?_
  refine r_nmI h (fun I49 h => ?_)
  refine r_aload_n C 0 rfl rfl dX11_one_65 ?_
  obtain ⟨I50, hq51, h⟩ := bd1_ h
  refine r_cvv C (rest := []) (H_one  hq51) fm_X11_one lk_X11_201 o_98 ⟨_, ct_10 o_98.1⟩ rfl rfl (RO_rec (by decide)) (Nat.le_of_ble_eq_true rfl) rfl dX11_one_66 ?_
  refine r_aload_n C 0 rfl rfl dX11_one_69 ?_
  refine r_dup C rfl dX11_one_70 ?_
  refine gf_X11_198 C o_98 dX11_one_71 ?_
  refine r_iconst C (v := 1) (by decide) dX11_one_74 ?_
  refine r_isub C dX11_one_75 ?_
  refine r_pc (pc1 := 76) rfl ?_
  refine pf_X11_198 C o_98 dX11_one_76 ?_
  refine r_nmI h (fun I52 h => ?_)
  refine r_aload_n C 0 rfl rfl dX11_one_79 ?_
  refine r_sipush C (v := 10010) (by decide) dX11_one_80 ?_
  obtain ⟨I53, hq54, h⟩ := bd1_ h
  refine r_cvv C (rest := []) (c_X11_emits  hq54) fm_X11_emits lk_X11_184 o_98 ⟨_, ct_10 o_98.1⟩ rfl rfl (RO_base (by decide) (by decide)) (Nat.le_of_ble_eq_true rfl) rfl dX11_one_83 ?_
  refine r_goto C (tgt := 191) dX11_one_86 (by decide) ?_
  have hz9 := Option.some.inj h
  subst hz9
  exact r_vret C hr dX11_one_191
set_option maxHeartbeats 4000000 in
set_option maxRecDepth 100000 in
theorem w_X11_one {l : Launch} {g : GG} {ad : Nat → Nat} {p : Program} {e : Env} {s : State} {m : MethodId} {args : Array Value} {below : List Frame} {meth : Method} {c : Code} {d : Nat} {g_one : HI → HJ → Option (HI)} {g_product : HI → HJ → Option (HI)} {g_sum : HI → HJ → Option (HI)} {g_compared : HI → HJ → Option (HI)} {z : HI} (C : Cx p s m args meth c RX11 cX11_one 2 g (AW ad nO)) (hr : meth.sig.returnType = none) (H_one : ∀ {I : HI} {J : HJ} {I1 : HI}, g_one I J = some I1 → CM l yX11_one cX11_one 2 none (rmk (5 + d) (110 + 40 * d)) g ad nO oR [.ref (ad 98)] I J (QAv g ad nO oR I1 J)) (H_product : ∀ {I : HI} {J : HJ} {I1 : HI}, g_product I J = some I1 → CM l yX11_product cX11_product 2 none (rmk (5 + d) (110 + 40 * d)) g ad nO oR [.ref (ad 98)] I J (QAv g ad nO oR I1 J)) (H_sum : ∀ {I : HI} {J : HJ} {I1 : HI}, g_sum I J = some I1 → CM l yX11_sum cX11_sum 2 none (rmk (5 + d) (110 + 40 * d)) g ad nO oR [.ref (ad 98)] I J (QAv g ad nO oR I1 J)) (H_compared : ∀ {I : HI} {J : HJ} {I1 : HI}, g_compared I J = some I1 → CM l yX11_compared cX11_compared 2 none (rmk (5 + d) (110 + 40 * d)) g ad nO oR [.ref (ad 98)] I J (QAv g ad nO oR I1 J)) {I : HI} {J : HJ} (h : fb_X11_one g_one g_product g_sum g_compared I J = some z) : V p l e (rmk (5 + (d + 1)) (110 + 40 * (d + 1))) s m args below meth c (MQ below (QAv g ad nO oR z J) args s 0 0 (AW ad nO)) 2 0 0 g (AW ad nO) ad nO oR I J 0 [(0, .ref (ad 98))] [] := by
  unfold fb_X11_one at h
  refine r_aload_n C 0 rfl rfl dX11_one_0 ?_
  refine gf_X11_166 C o_98 dX11_one_1 ?_
  refine r_if_eq C (tgt := 8) h dX11_one_4 (by decide) (fun h => ?_) (fun h => ?_)
  · refine r_aload_n C 0 rfl rfl dX11_one_8 ?_
    refine r_aload_n C 0 rfl rfl dX11_one_9 ?_
    refine gf_X11_153 C o_98 dX11_one_10 ?_
    obtain ⟨r55, hq56, h⟩ := bd1_ h
    refine r_cvi C (rest := []) (c_X11_byteAt  hq56) fm_X11_byteAt lk_X11_156 o_98 ⟨_, ct_10 o_98.1⟩ rfl rfl (RO_base (by decide) (by decide)) (Nat.le_of_ble_eq_true rfl) rfl dX11_one_13 ?_
    obtain ⟨r57, hq58, h⟩ := bd1_ h
    refine r_csi C (rest := []) (c_X11_isDigit  hq58) fm_X11_isDigit lk_X11_163 rfl (RO_base (by decide) (by decide)) (Nat.le_of_ble_eq_true rfl) rfl dX11_one_16 ?_
    refine r_if_eq C (tgt := 29) h dX11_one_19 (by decide) (fun h => ?_) (fun h => ?_)
    · refine r_aload_n C 0 rfl rfl dX11_one_29 ?_
      refine r_bipush C (v := 45) (by decide) dX11_one_30 ?_
      obtain ⟨r59, hq60, h⟩ := bd1_ h
      refine r_cvi C (rest := []) (c_X11_isSign  hq60) fm_X11_isSign lk_X11_195 o_98 ⟨_, ct_10 o_98.1⟩ rfl rfl (RO_base (by decide) (by decide)) (Nat.le_of_ble_eq_true rfl) rfl dX11_one_32 ?_
      refine r_if_eq C (tgt := 89) h dX11_one_35 (by decide) (fun h => ?_) (fun h => ?_)
      · refine r_aload_n C 0 rfl rfl dX11_one_89 ?_
        refine r_bipush C (v := 40) (by decide) dX11_one_90 ?_
        obtain ⟨r61, hq62, h⟩ := bd1_ h
        refine r_cvi C (rest := []) (c_X11_isSign  hq62) fm_X11_isSign lk_X11_195 o_98 ⟨_, ct_10 o_98.1⟩ rfl rfl (RO_base (by decide) (by decide)) (Nat.le_of_ble_eq_true rfl) rfl dX11_one_92 ?_
        refine r_if_eq C (tgt := 164) h dX11_one_95 (by decide) (fun h => ?_) (fun h => ?_)
        · refine r_aload_n C 0 rfl rfl dX11_one_164 ?_
          obtain ⟨r63, hq64, h⟩ := bd1_ h
          refine r_cvi C (rest := []) (c_X11_nameHere  hq64) fm_X11_nameHere lk_X11_207 o_98 ⟨_, ct_10 o_98.1⟩ rfl rfl (RO_base (by decide) (by decide)) (Nat.le_of_ble_eq_true rfl) rfl dX11_one_165 ?_
          refine r_istore_n C (lv1 := [(1, .int r63), (0, .ref (ad 98))]) rfl (by decide) rfl dX11_one_168 ?_
          refine r_aload_n C 1 rfl rfl dX11_one_169 ?_
          refine r_sipush C (v := 10000) (by decide) dX11_one_170 ?_
          refine r_iload_n C 0 rfl rfl dX11_one_173 ?_
          refine r_iadd C dX11_one_174 ?_
          obtain ⟨I65, hq66, h⟩ := bd1_ h
          refine r_cvv C (rest := []) (c_X11_emits  hq66) fm_X11_emits lk_X11_184 o_98 ⟨_, ct_10 o_98.1⟩ rfl rfl (RO_base (by decide) (by decide)) (Nat.le_of_ble_eq_true rfl) rfl dX11_one_175 ?_
          refine r_aload_n C 1 rfl rfl dX11_one_178 ?_
          refine r_iload_n C 0 rfl rfl dX11_one_179 ?_
          refine r_if_lt C (tgt := 187) h dX11_one_180 (by decide) (fun h => ?_) (fun h => ?_)
          · refine r_iconst C (v := 0) (by decide) dX11_one_187 ?_
            exact r_sub [] rfl (wB_X11_one_188 C hr H_one H_product H_sum H_compared  h)
          · refine r_iconst C (v := 1) (by decide) dX11_one_183 ?_
            refine r_goto C (tgt := 188) dX11_one_184 (by decide) ?_
            exact r_sub [] rfl (wB_X11_one_188 C hr H_one H_product H_sum H_compared  h)
        · refine r_aload_n C 0 rfl rfl dX11_one_98 ?_
          refine r_aload_n C 0 rfl rfl dX11_one_99 ?_
          refine gf_X11_198 C o_98 dX11_one_100 ?_
          refine r_iconst C (v := 4) (by decide) dX11_one_103 ?_
          refine r_icmp_ge C (tgt := 111) h dX11_one_104 (by decide) (fun h => ?_) (fun h => ?_)
          · refine r_iconst C (v := 0) (by decide) dX11_one_111 ?_
            exact wB_X11_one_112 C hr H_one H_product H_sum H_compared  h
          · refine r_iconst C (v := 1) (by decide) dX11_one_107 ?_
            refine r_goto C (tgt := 112) dX11_one_108 (by decide) ?_
            exact wB_X11_one_112 C hr H_one H_product H_sum H_compared  h
      · refine r_aload_n C 0 rfl rfl dX11_one_38 ?_
        refine r_aload_n C 0 rfl rfl dX11_one_39 ?_
        refine gf_X11_198 C o_98 dX11_one_40 ?_
        refine r_iconst C (v := 4) (by decide) dX11_one_43 ?_
        refine r_icmp_ge C (tgt := 51) h dX11_one_44 (by decide) (fun h => ?_) (fun h => ?_)
        · refine r_iconst C (v := 0) (by decide) dX11_one_51 ?_
          exact wB_X11_one_52 C hr H_one H_product H_sum H_compared  h
        · refine r_iconst C (v := 1) (by decide) dX11_one_47 ?_
          refine r_goto C (tgt := 52) dX11_one_48 (by decide) ?_
          exact wB_X11_one_52 C hr H_one H_product H_sum H_compared  h
    · refine r_aload_n C 0 rfl rfl dX11_one_22 ?_
      obtain ⟨I67, hq68, h⟩ := bd1_ h
      refine r_cvv C (rest := []) (c_X11_number  hq68) fm_X11_number lk_X11_192 o_98 ⟨_, ct_10 o_98.1⟩ rfl rfl (RO_base (by decide) (by decide)) (Nat.le_of_ble_eq_true rfl) rfl dX11_one_23 ?_
      refine r_goto C (tgt := 191) dX11_one_26 (by decide) ?_
      have hz9 := Option.some.inj h
      subst hz9
      exact r_vret C hr dX11_one_191
  · have hz9 := Option.some.inj h
    subst hz9
    exact r_vret C hr dX11_one_7
set_option maxHeartbeats 4000000 in
set_option maxRecDepth 100000 in
theorem wB_X11_product_77 {l : Launch} {g : GG} {ad : Nat → Nat} {p : Program} {e : Env} {s : State} {m : MethodId} {args : Array Value} {below : List Frame} {meth : Method} {c : Code} {d : Nat} {g_one : HI → HJ → Option (HI)} {g_product : HI → HJ → Option (HI)} {g_sum : HI → HJ → Option (HI)} {g_compared : HI → HJ → Option (HI)} {z : HI} (C : Cx p s m args meth c RX11 cX11_product 2 g (AW ad nO)) (hr : meth.sig.returnType = none) (H_one : ∀ {I : HI} {J : HJ} {I1 : HI}, g_one I J = some I1 → CM l yX11_one cX11_one 2 none (rmk (5 + d) (110 + 40 * d)) g ad nO oR [.ref (ad 98)] I J (QAv g ad nO oR I1 J)) (H_product : ∀ {I : HI} {J : HJ} {I1 : HI}, g_product I J = some I1 → CM l yX11_product cX11_product 2 none (rmk (5 + d) (110 + 40 * d)) g ad nO oR [.ref (ad 98)] I J (QAv g ad nO oR I1 J)) (H_sum : ∀ {I : HI} {J : HJ} {I1 : HI}, g_sum I J = some I1 → CM l yX11_sum cX11_sum 2 none (rmk (5 + d) (110 + 40 * d)) g ad nO oR [.ref (ad 98)] I J (QAv g ad nO oR I1 J)) (H_compared : ∀ {I : HI} {J : HJ} {I1 : HI}, g_compared I J = some I1 → CM l yX11_compared cX11_compared 2 none (rmk (5 + d) (110 + 40 * d)) g ad nO oR [.ref (ad 98)] I J (QAv g ad nO oR I1 J)) {r_4 : HI → HJ → Option (HI)} {J : HJ} (hr_4 : ∀ {I : HI}, r_4 I J = some z → V p l e (rmk (5 + (d + 1)) (110 + 40 * (d + 1))) s m args below meth c (MQ below (QAv g ad nO oR z J) args s 0 0 (AW ad nO)) 2 0 0 g (AW ad nO) ad nO oR I J 4 [(0, .ref (ad 98))] []) {s0 : Int32} {I : HI} (h : fB_X11_product_77 g_one g_product g_sum g_compared r_4 s0 I J = some z) : V p l e (rmk (5 + (d + 1)) (110 + 40 * (d + 1))) s m args below meth c (MQ below (QAv g ad nO oR z J) args s 0 0 (AW ad nO)) 2 0 0 g (AW ad nO) ad nO oR I J 77 [(0, .ref (ad 98))] [.int s0, .ref (ad 98)] := by
  unfold fB_X11_product_77 at h
  obtain ⟨I17, hq18, h⟩ := bd1_ h
  refine r_cvv C (rest := []) (c_X11_emits  hq18) fm_X11_emits lk_X11_184 o_98 ⟨_, ct_10 o_98.1⟩ rfl rfl (RO_base (by decide) (by decide)) (Nat.le_of_ble_eq_true rfl) rfl dX11_product_77 ?_
  refine r_goto C (tgt := 4) dX11_product_80 (by decide) ?_
  exact hr_4  h
set_option maxHeartbeats 4000000 in
set_option maxRecDepth 100000 in
theorem wB_X11_product_31 {l : Launch} {g : GG} {ad : Nat → Nat} {p : Program} {e : Env} {s : State} {m : MethodId} {args : Array Value} {below : List Frame} {meth : Method} {c : Code} {d : Nat} {g_one : HI → HJ → Option (HI)} {g_product : HI → HJ → Option (HI)} {g_sum : HI → HJ → Option (HI)} {g_compared : HI → HJ → Option (HI)} {z : HI} (C : Cx p s m args meth c RX11 cX11_product 2 g (AW ad nO)) (hr : meth.sig.returnType = none) (H_one : ∀ {I : HI} {J : HJ} {I1 : HI}, g_one I J = some I1 → CM l yX11_one cX11_one 2 none (rmk (5 + d) (110 + 40 * d)) g ad nO oR [.ref (ad 98)] I J (QAv g ad nO oR I1 J)) (H_product : ∀ {I : HI} {J : HJ} {I1 : HI}, g_product I J = some I1 → CM l yX11_product cX11_product 2 none (rmk (5 + d) (110 + 40 * d)) g ad nO oR [.ref (ad 98)] I J (QAv g ad nO oR I1 J)) (H_sum : ∀ {I : HI} {J : HJ} {I1 : HI}, g_sum I J = some I1 → CM l yX11_sum cX11_sum 2 none (rmk (5 + d) (110 + 40 * d)) g ad nO oR [.ref (ad 98)] I J (QAv g ad nO oR I1 J)) (H_compared : ∀ {I : HI} {J : HJ} {I1 : HI}, g_compared I J = some I1 → CM l yX11_compared cX11_compared 2 none (rmk (5 + d) (110 + 40 * d)) g ad nO oR [.ref (ad 98)] I J (QAv g ad nO oR I1 J)) {r_4 : HI → HJ → Option (HI)} {J : HJ} (hr_4 : ∀ {I : HI}, r_4 I J = some z → V p l e (rmk (5 + (d + 1)) (110 + 40 * (d + 1))) s m args below meth c (MQ below (QAv g ad nO oR z J) args s 0 0 (AW ad nO)) 2 0 0 g (AW ad nO) ad nO oR I J 4 [(0, .ref (ad 98))] []) {I : HI} (h : fB_X11_product_31 g_one g_product g_sum g_compared r_4 I J = some z) : V p l e (rmk (5 + (d + 1)) (110 + 40 * (d + 1))) s m args below meth c (MQ below (QAv g ad nO oR z J) args s 0 0 (AW ad nO)) 2 0 0 g (AW ad nO) ad nO oR I J 31 [(0, .ref (ad 98))] [] := by
  unfold fB_X11_product_31 at h
  refine r_aload_n C 0 rfl rfl dX11_product_31 ?_
  refine r_aload_n C 0 rfl rfl dX11_product_32 ?_
  refine gf_X11_153 C o_98 dX11_product_33 ?_
  obtain ⟨r19, hq20, h⟩ := bd1_ h
  refine r_cvi C (rest := []) (c_X11_byteAt  hq20) fm_X11_byteAt lk_X11_156 o_98 ⟨_, ct_10 o_98.1⟩ rfl rfl (RO_base (by decide) (by decide)) (Nat.le_of_ble_eq_true rfl) rfl dX11_product_36 ?_
  refine r_istore_n C (lv1 := [(1, .int r19), (0, .ref (ad 98))]) rfl (by decide) rfl dX11_product_39 ?_
  refine r_aload_n C 1 rfl rfl dX11_product_40 ?_
  refine r_iconst C (v := 1) (by decide) dX11_product_41 ?_
  obtain ⟨I21, hq22, h⟩ := bd1_ h
  refine r_cvv C (rest := []) (c_X11_needs  hq22) fm_X11_needs lk_X11_188 o_98 ⟨_, ct_10 o_98.1⟩ rfl rfl (RO_base (by decide) (by decide)) (Nat.le_of_ble_eq_true rfl) rfl dX11_product_42 ?_
  refine r_aload_n C 1 rfl rfl dX11_product_45 ?_
  obtain ⟨I23, hq24, h⟩ := bd1_ h
  refine r_cvv C (rest := []) (H_one  hq24) fm_X11_one lk_X11_201 o_98 ⟨_, ct_10 o_98.1⟩ rfl rfl (RO_rec (by decide)) (Nat.le_of_ble_eq_true rfl) rfl dX11_product_46 ?_
  refine r_aload_n C 1 rfl rfl dX11_product_49 ?_
  refine r_iload_n C 0 rfl rfl dX11_product_50 ?_
  refine r_bipush C (v := 42) (by decide) dX11_product_51 ?_
  refine r_icmp_ne C (tgt := 62) h dX11_product_53 (by decide) (fun h => ?_) (fun h => ?_)
  · refine r_iload_n C 0 rfl rfl dX11_product_62 ?_
    refine r_bipush C (v := 47) (by decide) dX11_product_63 ?_
    refine r_icmp_ne C (tgt := 74) h dX11_product_65 (by decide) (fun h => ?_) (fun h => ?_)
    · refine r_sipush C (v := 10015) (by decide) dX11_product_74 ?_
      exact r_sub [1] rfl (wB_X11_product_77 C hr H_one H_product H_sum H_compared hr_4  h)
    · refine r_sipush C (v := 10014) (by decide) dX11_product_68 ?_
      refine r_goto C (tgt := 77) dX11_product_71 (by decide) ?_
      exact r_sub [1] rfl (wB_X11_product_77 C hr H_one H_product H_sum H_compared hr_4  h)
  · refine r_sipush C (v := 10013) (by decide) dX11_product_56 ?_
    refine r_goto C (tgt := 77) dX11_product_59 (by decide) ?_
    exact r_sub [1] rfl (wB_X11_product_77 C hr H_one H_product H_sum H_compared hr_4  h)
set_option maxHeartbeats 4000000 in
set_option maxRecDepth 100000 in
theorem wLB_X11_product_4 {l : Launch} {g : GG} {ad : Nat → Nat} {p : Program} {e : Env} {s : State} {m : MethodId} {args : Array Value} {below : List Frame} {meth : Method} {c : Code} {d : Nat} {g_one : HI → HJ → Option (HI)} {g_product : HI → HJ → Option (HI)} {g_sum : HI → HJ → Option (HI)} {g_compared : HI → HJ → Option (HI)} {z : HI} (C : Cx p s m args meth c RX11 cX11_product 2 g (AW ad nO)) (hr : meth.sig.returnType = none) (H_one : ∀ {I : HI} {J : HJ} {I1 : HI}, g_one I J = some I1 → CM l yX11_one cX11_one 2 none (rmk (5 + d) (110 + 40 * d)) g ad nO oR [.ref (ad 98)] I J (QAv g ad nO oR I1 J)) (H_product : ∀ {I : HI} {J : HJ} {I1 : HI}, g_product I J = some I1 → CM l yX11_product cX11_product 2 none (rmk (5 + d) (110 + 40 * d)) g ad nO oR [.ref (ad 98)] I J (QAv g ad nO oR I1 J)) (H_sum : ∀ {I : HI} {J : HJ} {I1 : HI}, g_sum I J = some I1 → CM l yX11_sum cX11_sum 2 none (rmk (5 + d) (110 + 40 * d)) g ad nO oR [.ref (ad 98)] I J (QAv g ad nO oR I1 J)) (H_compared : ∀ {I : HI} {J : HJ} {I1 : HI}, g_compared I J = some I1 → CM l yX11_compared cX11_compared 2 none (rmk (5 + d) (110 + 40 * d)) g ad nO oR [.ref (ad 98)] I J (QAv g ad nO oR I1 J)) {J : HJ}  {r_4 : HI → HJ → Option (HI)} (hr_4 : ∀ {I : HI}, r_4 I J = some z → V p l e (rmk (5 + (d + 1)) (110 + 40 * (d + 1))) s m args below meth c (MQ below (QAv g ad nO oR z J) args s 0 0 (AW ad nO)) 2 0 0 g (AW ad nO) ad nO oR I J 4 [(0, .ref (ad 98))] []) {I : HI} (h : fLB_X11_product_4 g_one g_product g_sum g_compared r_4 I J = some z) : V p l e (rmk (5 + (d + 1)) (110 + 40 * (d + 1))) s m args below meth c (MQ below (QAv g ad nO oR z J) args s 0 0 (AW ad nO)) 2 0 0 g (AW ad nO) ad nO oR I J 4 [(0, .ref (ad 98))] [] := by
  unfold fLB_X11_product_4 at h
  refine r_aload_n C 0 rfl rfl dX11_product_4 ?_
  refine r_bipush C (v := 42) (by decide) dX11_product_5 ?_
  obtain ⟨r25, hq26, h⟩ := bd1_ h
  refine r_cvi C (rest := []) (c_X11_isSign  hq26) fm_X11_isSign lk_X11_195 o_98 ⟨_, ct_10 o_98.1⟩ rfl rfl (RO_base (by decide) (by decide)) (Nat.le_of_ble_eq_true rfl) rfl dX11_product_7 ?_
  refine r_if_ne C (tgt := 31) h dX11_product_10 (by decide) (fun h => ?_) (fun h => ?_)
  · exact wB_X11_product_31 C hr H_one H_product H_sum H_compared hr_4  h
  · refine r_aload_n C 0 rfl rfl dX11_product_13 ?_
    refine r_bipush C (v := 47) (by decide) dX11_product_14 ?_
    obtain ⟨r27, hq28, h⟩ := bd1_ h
    refine r_cvi C (rest := []) (c_X11_isSign  hq28) fm_X11_isSign lk_X11_195 o_98 ⟨_, ct_10 o_98.1⟩ rfl rfl (RO_base (by decide) (by decide)) (Nat.le_of_ble_eq_true rfl) rfl dX11_product_16 ?_
    refine r_if_ne C (tgt := 31) h dX11_product_19 (by decide) (fun h => ?_) (fun h => ?_)
    · exact wB_X11_product_31 C hr H_one H_product H_sum H_compared hr_4  h
    · refine r_aload_n C 0 rfl rfl dX11_product_22 ?_
      refine r_bipush C (v := 37) (by decide) dX11_product_23 ?_
      obtain ⟨r29, hq30, h⟩ := bd1_ h
      refine r_cvi C (rest := []) (c_X11_isSign  hq30) fm_X11_isSign lk_X11_195 o_98 ⟨_, ct_10 o_98.1⟩ rfl rfl (RO_base (by decide) (by decide)) (Nat.le_of_ble_eq_true rfl) rfl dX11_product_25 ?_
      refine r_if_eq C (tgt := 83) h dX11_product_28 (by decide) (fun h => ?_) (fun h => ?_)
      · have hz9 := Option.some.inj h
        subst hz9
        exact r_vret C hr dX11_product_83
      · exact wB_X11_product_31 C hr H_one H_product H_sum H_compared hr_4  h
set_option maxHeartbeats 4000000 in
set_option maxRecDepth 100000 in
theorem wL_X11_product_4 {l : Launch} {g : GG} {ad : Nat → Nat} {p : Program} {e : Env} {s : State} {m : MethodId} {args : Array Value} {below : List Frame} {meth : Method} {c : Code} {d : Nat} {g_one : HI → HJ → Option (HI)} {g_product : HI → HJ → Option (HI)} {g_sum : HI → HJ → Option (HI)} {g_compared : HI → HJ → Option (HI)} {z : HI} (C : Cx p s m args meth c RX11 cX11_product 2 g (AW ad nO)) (hr : meth.sig.returnType = none) (H_one : ∀ {I : HI} {J : HJ} {I1 : HI}, g_one I J = some I1 → CM l yX11_one cX11_one 2 none (rmk (5 + d) (110 + 40 * d)) g ad nO oR [.ref (ad 98)] I J (QAv g ad nO oR I1 J)) (H_product : ∀ {I : HI} {J : HJ} {I1 : HI}, g_product I J = some I1 → CM l yX11_product cX11_product 2 none (rmk (5 + d) (110 + 40 * d)) g ad nO oR [.ref (ad 98)] I J (QAv g ad nO oR I1 J)) (H_sum : ∀ {I : HI} {J : HJ} {I1 : HI}, g_sum I J = some I1 → CM l yX11_sum cX11_sum 2 none (rmk (5 + d) (110 + 40 * d)) g ad nO oR [.ref (ad 98)] I J (QAv g ad nO oR I1 J)) (H_compared : ∀ {I : HI} {J : HJ} {I1 : HI}, g_compared I J = some I1 → CM l yX11_compared cX11_compared 2 none (rmk (5 + d) (110 + 40 * d)) g ad nO oR [.ref (ad 98)] I J (QAv g ad nO oR I1 J)) {J : HJ}  : ∀ (f : Nat) {I : HI}, fL_X11_product_4 g_one g_product g_sum g_compared f I J = some z → V p l e (rmk (5 + (d + 1)) (110 + 40 * (d + 1))) s m args below meth c (MQ below (QAv g ad nO oR z J) args s 0 0 (AW ad nO)) 2 0 0 g (AW ad nO) ad nO oR I J 4 [(0, .ref (ad 98))] [] := by
  intro f
  induction f with
  | zero =>
    intro _  h
    have h0 : (none : Option (HI)) = some z := h
    cases h0
  | succ f ih =>
    intro _  h
    exact wLB_X11_product_4 C hr H_one H_product H_sum H_compared ih  h
set_option maxHeartbeats 4000000 in
set_option maxRecDepth 100000 in
theorem w_X11_product {l : Launch} {g : GG} {ad : Nat → Nat} {p : Program} {e : Env} {s : State} {m : MethodId} {args : Array Value} {below : List Frame} {meth : Method} {c : Code} {d : Nat} {g_one : HI → HJ → Option (HI)} {g_product : HI → HJ → Option (HI)} {g_sum : HI → HJ → Option (HI)} {g_compared : HI → HJ → Option (HI)} {z : HI} (C : Cx p s m args meth c RX11 cX11_product 2 g (AW ad nO)) (hr : meth.sig.returnType = none) (H_one : ∀ {I : HI} {J : HJ} {I1 : HI}, g_one I J = some I1 → CM l yX11_one cX11_one 2 none (rmk (5 + d) (110 + 40 * d)) g ad nO oR [.ref (ad 98)] I J (QAv g ad nO oR I1 J)) (H_product : ∀ {I : HI} {J : HJ} {I1 : HI}, g_product I J = some I1 → CM l yX11_product cX11_product 2 none (rmk (5 + d) (110 + 40 * d)) g ad nO oR [.ref (ad 98)] I J (QAv g ad nO oR I1 J)) (H_sum : ∀ {I : HI} {J : HJ} {I1 : HI}, g_sum I J = some I1 → CM l yX11_sum cX11_sum 2 none (rmk (5 + d) (110 + 40 * d)) g ad nO oR [.ref (ad 98)] I J (QAv g ad nO oR I1 J)) (H_compared : ∀ {I : HI} {J : HJ} {I1 : HI}, g_compared I J = some I1 → CM l yX11_compared cX11_compared 2 none (rmk (5 + d) (110 + 40 * d)) g ad nO oR [.ref (ad 98)] I J (QAv g ad nO oR I1 J)) {I : HI} {J : HJ} (h : fb_X11_product g_one g_product g_sum g_compared I J = some z) : V p l e (rmk (5 + (d + 1)) (110 + 40 * (d + 1))) s m args below meth c (MQ below (QAv g ad nO oR z J) args s 0 0 (AW ad nO)) 2 0 0 g (AW ad nO) ad nO oR I J 0 [(0, .ref (ad 98))] [] := by
  unfold fb_X11_product at h
  refine r_aload_n C 0 rfl rfl dX11_product_0 ?_
  obtain ⟨I31, hq32, h⟩ := bd1_ h
  refine r_cvv C (rest := []) (H_one  hq32) fm_X11_one lk_X11_201 o_98 ⟨_, ct_10 o_98.1⟩ rfl rfl (RO_rec (by decide)) (Nat.le_of_ble_eq_true rfl) rfl dX11_product_1 ?_
  exact wL_X11_product_4 C hr H_one H_product H_sum H_compared _  h
set_option maxHeartbeats 4000000 in
set_option maxRecDepth 100000 in
theorem wB_X11_sum_56 {l : Launch} {g : GG} {ad : Nat → Nat} {p : Program} {e : Env} {s : State} {m : MethodId} {args : Array Value} {below : List Frame} {meth : Method} {c : Code} {d : Nat} {g_one : HI → HJ → Option (HI)} {g_product : HI → HJ → Option (HI)} {g_sum : HI → HJ → Option (HI)} {g_compared : HI → HJ → Option (HI)} {z : HI} (C : Cx p s m args meth c RX11 cX11_sum 2 g (AW ad nO)) (hr : meth.sig.returnType = none) (H_one : ∀ {I : HI} {J : HJ} {I1 : HI}, g_one I J = some I1 → CM l yX11_one cX11_one 2 none (rmk (5 + d) (110 + 40 * d)) g ad nO oR [.ref (ad 98)] I J (QAv g ad nO oR I1 J)) (H_product : ∀ {I : HI} {J : HJ} {I1 : HI}, g_product I J = some I1 → CM l yX11_product cX11_product 2 none (rmk (5 + d) (110 + 40 * d)) g ad nO oR [.ref (ad 98)] I J (QAv g ad nO oR I1 J)) (H_sum : ∀ {I : HI} {J : HJ} {I1 : HI}, g_sum I J = some I1 → CM l yX11_sum cX11_sum 2 none (rmk (5 + d) (110 + 40 * d)) g ad nO oR [.ref (ad 98)] I J (QAv g ad nO oR I1 J)) (H_compared : ∀ {I : HI} {J : HJ} {I1 : HI}, g_compared I J = some I1 → CM l yX11_compared cX11_compared 2 none (rmk (5 + d) (110 + 40 * d)) g ad nO oR [.ref (ad 98)] I J (QAv g ad nO oR I1 J)) {r_4 : HI → HJ → Option (HI)} {J : HJ} (hr_4 : ∀ {I : HI}, r_4 I J = some z → V p l e (rmk (5 + (d + 1)) (110 + 40 * (d + 1))) s m args below meth c (MQ below (QAv g ad nO oR z J) args s 0 0 (AW ad nO)) 2 0 0 g (AW ad nO) ad nO oR I J 4 [(0, .ref (ad 98))] []) {s0 : Int32} {I : HI} (h : fB_X11_sum_56 g_one g_product g_sum g_compared r_4 s0 I J = some z) : V p l e (rmk (5 + (d + 1)) (110 + 40 * (d + 1))) s m args below meth c (MQ below (QAv g ad nO oR z J) args s 0 0 (AW ad nO)) 2 0 0 g (AW ad nO) ad nO oR I J 56 [(0, .ref (ad 98))] [.int s0, .ref (ad 98)] := by
  unfold fB_X11_sum_56 at h
  obtain ⟨I15, hq16, h⟩ := bd1_ h
  refine r_cvv C (rest := []) (c_X11_emits  hq16) fm_X11_emits lk_X11_184 o_98 ⟨_, ct_10 o_98.1⟩ rfl rfl (RO_base (by decide) (by decide)) (Nat.le_of_ble_eq_true rfl) rfl dX11_sum_56 ?_
  refine r_goto C (tgt := 4) dX11_sum_59 (by decide) ?_
  exact hr_4  h
set_option maxHeartbeats 4000000 in
set_option maxRecDepth 100000 in
theorem wB_X11_sum_22 {l : Launch} {g : GG} {ad : Nat → Nat} {p : Program} {e : Env} {s : State} {m : MethodId} {args : Array Value} {below : List Frame} {meth : Method} {c : Code} {d : Nat} {g_one : HI → HJ → Option (HI)} {g_product : HI → HJ → Option (HI)} {g_sum : HI → HJ → Option (HI)} {g_compared : HI → HJ → Option (HI)} {z : HI} (C : Cx p s m args meth c RX11 cX11_sum 2 g (AW ad nO)) (hr : meth.sig.returnType = none) (H_one : ∀ {I : HI} {J : HJ} {I1 : HI}, g_one I J = some I1 → CM l yX11_one cX11_one 2 none (rmk (5 + d) (110 + 40 * d)) g ad nO oR [.ref (ad 98)] I J (QAv g ad nO oR I1 J)) (H_product : ∀ {I : HI} {J : HJ} {I1 : HI}, g_product I J = some I1 → CM l yX11_product cX11_product 2 none (rmk (5 + d) (110 + 40 * d)) g ad nO oR [.ref (ad 98)] I J (QAv g ad nO oR I1 J)) (H_sum : ∀ {I : HI} {J : HJ} {I1 : HI}, g_sum I J = some I1 → CM l yX11_sum cX11_sum 2 none (rmk (5 + d) (110 + 40 * d)) g ad nO oR [.ref (ad 98)] I J (QAv g ad nO oR I1 J)) (H_compared : ∀ {I : HI} {J : HJ} {I1 : HI}, g_compared I J = some I1 → CM l yX11_compared cX11_compared 2 none (rmk (5 + d) (110 + 40 * d)) g ad nO oR [.ref (ad 98)] I J (QAv g ad nO oR I1 J)) {r_4 : HI → HJ → Option (HI)} {J : HJ} (hr_4 : ∀ {I : HI}, r_4 I J = some z → V p l e (rmk (5 + (d + 1)) (110 + 40 * (d + 1))) s m args below meth c (MQ below (QAv g ad nO oR z J) args s 0 0 (AW ad nO)) 2 0 0 g (AW ad nO) ad nO oR I J 4 [(0, .ref (ad 98))] []) {I : HI} (h : fB_X11_sum_22 g_one g_product g_sum g_compared r_4 I J = some z) : V p l e (rmk (5 + (d + 1)) (110 + 40 * (d + 1))) s m args below meth c (MQ below (QAv g ad nO oR z J) args s 0 0 (AW ad nO)) 2 0 0 g (AW ad nO) ad nO oR I J 22 [(0, .ref (ad 98))] [] := by
  unfold fB_X11_sum_22 at h
  refine r_aload_n C 0 rfl rfl dX11_sum_22 ?_
  refine r_aload_n C 0 rfl rfl dX11_sum_23 ?_
  refine gf_X11_153 C o_98 dX11_sum_24 ?_
  obtain ⟨r17, hq18, h⟩ := bd1_ h
  refine r_cvi C (rest := []) (c_X11_byteAt  hq18) fm_X11_byteAt lk_X11_156 o_98 ⟨_, ct_10 o_98.1⟩ rfl rfl (RO_base (by decide) (by decide)) (Nat.le_of_ble_eq_true rfl) rfl dX11_sum_27 ?_
  refine r_istore_n C (lv1 := [(1, .int r17), (0, .ref (ad 98))]) rfl (by decide) rfl dX11_sum_30 ?_
  refine r_aload_n C 1 rfl rfl dX11_sum_31 ?_
  refine r_iconst C (v := 1) (by decide) dX11_sum_32 ?_
  obtain ⟨I19, hq20, h⟩ := bd1_ h
  refine r_cvv C (rest := []) (c_X11_needs  hq20) fm_X11_needs lk_X11_188 o_98 ⟨_, ct_10 o_98.1⟩ rfl rfl (RO_base (by decide) (by decide)) (Nat.le_of_ble_eq_true rfl) rfl dX11_sum_33 ?_
  refine r_aload_n C 1 rfl rfl dX11_sum_36 ?_
  obtain ⟨I21, hq22, h⟩ := bd1_ h
  refine r_cvv C (rest := []) (H_product  hq22) fm_X11_product lk_X11_211 o_98 ⟨_, ct_10 o_98.1⟩ rfl rfl (RO_rec (by decide)) (Nat.le_of_ble_eq_true rfl) rfl dX11_sum_37 ?_
  refine r_aload_n C 1 rfl rfl dX11_sum_40 ?_
  refine r_iload_n C 0 rfl rfl dX11_sum_41 ?_
  refine r_bipush C (v := 43) (by decide) dX11_sum_42 ?_
  refine r_icmp_ne C (tgt := 53) h dX11_sum_44 (by decide) (fun h => ?_) (fun h => ?_)
  · refine r_sipush C (v := 10012) (by decide) dX11_sum_53 ?_
    exact r_sub [1] rfl (wB_X11_sum_56 C hr H_one H_product H_sum H_compared hr_4  h)
  · refine r_sipush C (v := 10011) (by decide) dX11_sum_47 ?_
    refine r_goto C (tgt := 56) dX11_sum_50 (by decide) ?_
    exact r_sub [1] rfl (wB_X11_sum_56 C hr H_one H_product H_sum H_compared hr_4  h)
set_option maxHeartbeats 4000000 in
set_option maxRecDepth 100000 in
theorem wLB_X11_sum_4 {l : Launch} {g : GG} {ad : Nat → Nat} {p : Program} {e : Env} {s : State} {m : MethodId} {args : Array Value} {below : List Frame} {meth : Method} {c : Code} {d : Nat} {g_one : HI → HJ → Option (HI)} {g_product : HI → HJ → Option (HI)} {g_sum : HI → HJ → Option (HI)} {g_compared : HI → HJ → Option (HI)} {z : HI} (C : Cx p s m args meth c RX11 cX11_sum 2 g (AW ad nO)) (hr : meth.sig.returnType = none) (H_one : ∀ {I : HI} {J : HJ} {I1 : HI}, g_one I J = some I1 → CM l yX11_one cX11_one 2 none (rmk (5 + d) (110 + 40 * d)) g ad nO oR [.ref (ad 98)] I J (QAv g ad nO oR I1 J)) (H_product : ∀ {I : HI} {J : HJ} {I1 : HI}, g_product I J = some I1 → CM l yX11_product cX11_product 2 none (rmk (5 + d) (110 + 40 * d)) g ad nO oR [.ref (ad 98)] I J (QAv g ad nO oR I1 J)) (H_sum : ∀ {I : HI} {J : HJ} {I1 : HI}, g_sum I J = some I1 → CM l yX11_sum cX11_sum 2 none (rmk (5 + d) (110 + 40 * d)) g ad nO oR [.ref (ad 98)] I J (QAv g ad nO oR I1 J)) (H_compared : ∀ {I : HI} {J : HJ} {I1 : HI}, g_compared I J = some I1 → CM l yX11_compared cX11_compared 2 none (rmk (5 + d) (110 + 40 * d)) g ad nO oR [.ref (ad 98)] I J (QAv g ad nO oR I1 J)) {J : HJ}  {r_4 : HI → HJ → Option (HI)} (hr_4 : ∀ {I : HI}, r_4 I J = some z → V p l e (rmk (5 + (d + 1)) (110 + 40 * (d + 1))) s m args below meth c (MQ below (QAv g ad nO oR z J) args s 0 0 (AW ad nO)) 2 0 0 g (AW ad nO) ad nO oR I J 4 [(0, .ref (ad 98))] []) {I : HI} (h : fLB_X11_sum_4 g_one g_product g_sum g_compared r_4 I J = some z) : V p l e (rmk (5 + (d + 1)) (110 + 40 * (d + 1))) s m args below meth c (MQ below (QAv g ad nO oR z J) args s 0 0 (AW ad nO)) 2 0 0 g (AW ad nO) ad nO oR I J 4 [(0, .ref (ad 98))] [] := by
  unfold fLB_X11_sum_4 at h
  refine r_aload_n C 0 rfl rfl dX11_sum_4 ?_
  refine r_bipush C (v := 43) (by decide) dX11_sum_5 ?_
  obtain ⟨r23, hq24, h⟩ := bd1_ h
  refine r_cvi C (rest := []) (c_X11_isSign  hq24) fm_X11_isSign lk_X11_195 o_98 ⟨_, ct_10 o_98.1⟩ rfl rfl (RO_base (by decide) (by decide)) (Nat.le_of_ble_eq_true rfl) rfl dX11_sum_7 ?_
  refine r_if_ne C (tgt := 22) h dX11_sum_10 (by decide) (fun h => ?_) (fun h => ?_)
  · exact wB_X11_sum_22 C hr H_one H_product H_sum H_compared hr_4  h
  · refine r_aload_n C 0 rfl rfl dX11_sum_13 ?_
    refine r_bipush C (v := 45) (by decide) dX11_sum_14 ?_
    obtain ⟨r25, hq26, h⟩ := bd1_ h
    refine r_cvi C (rest := []) (c_X11_isSign  hq26) fm_X11_isSign lk_X11_195 o_98 ⟨_, ct_10 o_98.1⟩ rfl rfl (RO_base (by decide) (by decide)) (Nat.le_of_ble_eq_true rfl) rfl dX11_sum_16 ?_
    refine r_if_eq C (tgt := 62) h dX11_sum_19 (by decide) (fun h => ?_) (fun h => ?_)
    · have hz9 := Option.some.inj h
      subst hz9
      exact r_vret C hr dX11_sum_62
    · exact wB_X11_sum_22 C hr H_one H_product H_sum H_compared hr_4  h
set_option maxHeartbeats 4000000 in
set_option maxRecDepth 100000 in
theorem wL_X11_sum_4 {l : Launch} {g : GG} {ad : Nat → Nat} {p : Program} {e : Env} {s : State} {m : MethodId} {args : Array Value} {below : List Frame} {meth : Method} {c : Code} {d : Nat} {g_one : HI → HJ → Option (HI)} {g_product : HI → HJ → Option (HI)} {g_sum : HI → HJ → Option (HI)} {g_compared : HI → HJ → Option (HI)} {z : HI} (C : Cx p s m args meth c RX11 cX11_sum 2 g (AW ad nO)) (hr : meth.sig.returnType = none) (H_one : ∀ {I : HI} {J : HJ} {I1 : HI}, g_one I J = some I1 → CM l yX11_one cX11_one 2 none (rmk (5 + d) (110 + 40 * d)) g ad nO oR [.ref (ad 98)] I J (QAv g ad nO oR I1 J)) (H_product : ∀ {I : HI} {J : HJ} {I1 : HI}, g_product I J = some I1 → CM l yX11_product cX11_product 2 none (rmk (5 + d) (110 + 40 * d)) g ad nO oR [.ref (ad 98)] I J (QAv g ad nO oR I1 J)) (H_sum : ∀ {I : HI} {J : HJ} {I1 : HI}, g_sum I J = some I1 → CM l yX11_sum cX11_sum 2 none (rmk (5 + d) (110 + 40 * d)) g ad nO oR [.ref (ad 98)] I J (QAv g ad nO oR I1 J)) (H_compared : ∀ {I : HI} {J : HJ} {I1 : HI}, g_compared I J = some I1 → CM l yX11_compared cX11_compared 2 none (rmk (5 + d) (110 + 40 * d)) g ad nO oR [.ref (ad 98)] I J (QAv g ad nO oR I1 J)) {J : HJ}  : ∀ (f : Nat) {I : HI}, fL_X11_sum_4 g_one g_product g_sum g_compared f I J = some z → V p l e (rmk (5 + (d + 1)) (110 + 40 * (d + 1))) s m args below meth c (MQ below (QAv g ad nO oR z J) args s 0 0 (AW ad nO)) 2 0 0 g (AW ad nO) ad nO oR I J 4 [(0, .ref (ad 98))] [] := by
  intro f
  induction f with
  | zero =>
    intro _  h
    have h0 : (none : Option (HI)) = some z := h
    cases h0
  | succ f ih =>
    intro _  h
    exact wLB_X11_sum_4 C hr H_one H_product H_sum H_compared ih  h
set_option maxHeartbeats 4000000 in
set_option maxRecDepth 100000 in
theorem w_X11_sum {l : Launch} {g : GG} {ad : Nat → Nat} {p : Program} {e : Env} {s : State} {m : MethodId} {args : Array Value} {below : List Frame} {meth : Method} {c : Code} {d : Nat} {g_one : HI → HJ → Option (HI)} {g_product : HI → HJ → Option (HI)} {g_sum : HI → HJ → Option (HI)} {g_compared : HI → HJ → Option (HI)} {z : HI} (C : Cx p s m args meth c RX11 cX11_sum 2 g (AW ad nO)) (hr : meth.sig.returnType = none) (H_one : ∀ {I : HI} {J : HJ} {I1 : HI}, g_one I J = some I1 → CM l yX11_one cX11_one 2 none (rmk (5 + d) (110 + 40 * d)) g ad nO oR [.ref (ad 98)] I J (QAv g ad nO oR I1 J)) (H_product : ∀ {I : HI} {J : HJ} {I1 : HI}, g_product I J = some I1 → CM l yX11_product cX11_product 2 none (rmk (5 + d) (110 + 40 * d)) g ad nO oR [.ref (ad 98)] I J (QAv g ad nO oR I1 J)) (H_sum : ∀ {I : HI} {J : HJ} {I1 : HI}, g_sum I J = some I1 → CM l yX11_sum cX11_sum 2 none (rmk (5 + d) (110 + 40 * d)) g ad nO oR [.ref (ad 98)] I J (QAv g ad nO oR I1 J)) (H_compared : ∀ {I : HI} {J : HJ} {I1 : HI}, g_compared I J = some I1 → CM l yX11_compared cX11_compared 2 none (rmk (5 + d) (110 + 40 * d)) g ad nO oR [.ref (ad 98)] I J (QAv g ad nO oR I1 J)) {I : HI} {J : HJ} (h : fb_X11_sum g_one g_product g_sum g_compared I J = some z) : V p l e (rmk (5 + (d + 1)) (110 + 40 * (d + 1))) s m args below meth c (MQ below (QAv g ad nO oR z J) args s 0 0 (AW ad nO)) 2 0 0 g (AW ad nO) ad nO oR I J 0 [(0, .ref (ad 98))] [] := by
  unfold fb_X11_sum at h
  refine r_aload_n C 0 rfl rfl dX11_sum_0 ?_
  obtain ⟨I27, hq28, h⟩ := bd1_ h
  refine r_cvv C (rest := []) (H_product  hq28) fm_X11_product lk_X11_211 o_98 ⟨_, ct_10 o_98.1⟩ rfl rfl (RO_rec (by decide)) (Nat.le_of_ble_eq_true rfl) rfl dX11_sum_1 ?_
  exact wL_X11_sum_4 C hr H_one H_product H_sum H_compared _  h
set_option maxHeartbeats 4000000 in
set_option maxRecDepth 100000 in
theorem wB_X11_compared_77 {l : Launch} {g : GG} {ad : Nat → Nat} {p : Program} {e : Env} {s : State} {m : MethodId} {args : Array Value} {below : List Frame} {meth : Method} {c : Code} {d : Nat} {g_one : HI → HJ → Option (HI)} {g_product : HI → HJ → Option (HI)} {g_sum : HI → HJ → Option (HI)} {g_compared : HI → HJ → Option (HI)} {z : HI} (C : Cx p s m args meth c RX11 cX11_compared 2 g (AW ad nO)) (hr : meth.sig.returnType = none) (H_one : ∀ {I : HI} {J : HJ} {I1 : HI}, g_one I J = some I1 → CM l yX11_one cX11_one 2 none (rmk (5 + d) (110 + 40 * d)) g ad nO oR [.ref (ad 98)] I J (QAv g ad nO oR I1 J)) (H_product : ∀ {I : HI} {J : HJ} {I1 : HI}, g_product I J = some I1 → CM l yX11_product cX11_product 2 none (rmk (5 + d) (110 + 40 * d)) g ad nO oR [.ref (ad 98)] I J (QAv g ad nO oR I1 J)) (H_sum : ∀ {I : HI} {J : HJ} {I1 : HI}, g_sum I J = some I1 → CM l yX11_sum cX11_sum 2 none (rmk (5 + d) (110 + 40 * d)) g ad nO oR [.ref (ad 98)] I J (QAv g ad nO oR I1 J)) (H_compared : ∀ {I : HI} {J : HJ} {I1 : HI}, g_compared I J = some I1 → CM l yX11_compared cX11_compared 2 none (rmk (5 + d) (110 + 40 * d)) g ad nO oR [.ref (ad 98)] I J (QAv g ad nO oR I1 J)) {J : HJ}  {s0 : Int32} {I : HI} (h : fB_X11_compared_77 g_one g_product g_sum g_compared s0 I J = some z) : V p l e (rmk (5 + (d + 1)) (110 + 40 * (d + 1))) s m args below meth c (MQ below (QAv g ad nO oR z J) args s 0 0 (AW ad nO)) 2 0 0 g (AW ad nO) ad nO oR I J 77 [] [.int s0, .ref (ad 98)] := by
  unfold fB_X11_compared_77 at h
  obtain ⟨I17, hq18, h⟩ := bd1_ h
  refine r_cvv C (rest := []) (c_X11_emits  hq18) fm_X11_emits lk_X11_184 o_98 ⟨_, ct_10 o_98.1⟩ rfl rfl (RO_base (by decide) (by decide)) (Nat.le_of_ble_eq_true rfl) rfl dX11_compared_77 ?_
  have hz9 := Option.some.inj h
  subst hz9
  exact r_vret C hr dX11_compared_80
set_option maxHeartbeats 4000000 in
set_option maxRecDepth 100000 in
theorem wB_X11_compared_31 {l : Launch} {g : GG} {ad : Nat → Nat} {p : Program} {e : Env} {s : State} {m : MethodId} {args : Array Value} {below : List Frame} {meth : Method} {c : Code} {d : Nat} {g_one : HI → HJ → Option (HI)} {g_product : HI → HJ → Option (HI)} {g_sum : HI → HJ → Option (HI)} {g_compared : HI → HJ → Option (HI)} {z : HI} (C : Cx p s m args meth c RX11 cX11_compared 2 g (AW ad nO)) (hr : meth.sig.returnType = none) (H_one : ∀ {I : HI} {J : HJ} {I1 : HI}, g_one I J = some I1 → CM l yX11_one cX11_one 2 none (rmk (5 + d) (110 + 40 * d)) g ad nO oR [.ref (ad 98)] I J (QAv g ad nO oR I1 J)) (H_product : ∀ {I : HI} {J : HJ} {I1 : HI}, g_product I J = some I1 → CM l yX11_product cX11_product 2 none (rmk (5 + d) (110 + 40 * d)) g ad nO oR [.ref (ad 98)] I J (QAv g ad nO oR I1 J)) (H_sum : ∀ {I : HI} {J : HJ} {I1 : HI}, g_sum I J = some I1 → CM l yX11_sum cX11_sum 2 none (rmk (5 + d) (110 + 40 * d)) g ad nO oR [.ref (ad 98)] I J (QAv g ad nO oR I1 J)) (H_compared : ∀ {I : HI} {J : HJ} {I1 : HI}, g_compared I J = some I1 → CM l yX11_compared cX11_compared 2 none (rmk (5 + d) (110 + 40 * d)) g ad nO oR [.ref (ad 98)] I J (QAv g ad nO oR I1 J)) {J : HJ}  {I : HI} (h : fB_X11_compared_31 g_one g_product g_sum g_compared I J = some z) : V p l e (rmk (5 + (d + 1)) (110 + 40 * (d + 1))) s m args below meth c (MQ below (QAv g ad nO oR z J) args s 0 0 (AW ad nO)) 2 0 0 g (AW ad nO) ad nO oR I J 31 [(0, .ref (ad 98))] [] := by
  unfold fB_X11_compared_31 at h
  refine r_aload_n C 0 rfl rfl dX11_compared_31 ?_
  refine r_aload_n C 0 rfl rfl dX11_compared_32 ?_
  refine gf_X11_153 C o_98 dX11_compared_33 ?_
  obtain ⟨r19, hq20, h⟩ := bd1_ h
  refine r_cvi C (rest := []) (c_X11_byteAt  hq20) fm_X11_byteAt lk_X11_156 o_98 ⟨_, ct_10 o_98.1⟩ rfl rfl (RO_base (by decide) (by decide)) (Nat.le_of_ble_eq_true rfl) rfl dX11_compared_36 ?_
  refine r_istore_n C (lv1 := [(1, .int r19), (0, .ref (ad 98))]) rfl (by decide) rfl dX11_compared_39 ?_
  refine r_aload_n C 1 rfl rfl dX11_compared_40 ?_
  refine r_iconst C (v := 1) (by decide) dX11_compared_41 ?_
  obtain ⟨I21, hq22, h⟩ := bd1_ h
  refine r_cvv C (rest := []) (c_X11_needs  hq22) fm_X11_needs lk_X11_188 o_98 ⟨_, ct_10 o_98.1⟩ rfl rfl (RO_base (by decide) (by decide)) (Nat.le_of_ble_eq_true rfl) rfl dX11_compared_42 ?_
  refine r_aload_n C 1 rfl rfl dX11_compared_45 ?_
  obtain ⟨I23, hq24, h⟩ := bd1_ h
  refine r_cvv C (rest := []) (H_sum  hq24) fm_X11_sum lk_X11_214 o_98 ⟨_, ct_10 o_98.1⟩ rfl rfl (RO_rec (by decide)) (Nat.le_of_ble_eq_true rfl) rfl dX11_compared_46 ?_
  refine r_aload_n C 1 rfl rfl dX11_compared_49 ?_
  refine r_iload_n C 0 rfl rfl dX11_compared_50 ?_
  refine r_bipush C (v := 60) (by decide) dX11_compared_51 ?_
  refine r_icmp_ne C (tgt := 62) h dX11_compared_53 (by decide) (fun h => ?_) (fun h => ?_)
  · refine r_iload_n C 0 rfl rfl dX11_compared_62 ?_
    refine r_bipush C (v := 61) (by decide) dX11_compared_63 ?_
    refine r_icmp_ne C (tgt := 74) h dX11_compared_65 (by decide) (fun h => ?_) (fun h => ?_)
    · refine r_sipush C (v := 10018) (by decide) dX11_compared_74 ?_
      exact r_sub [] rfl (wB_X11_compared_77 C hr H_one H_product H_sum H_compared  h)
    · refine r_sipush C (v := 10017) (by decide) dX11_compared_68 ?_
      refine r_goto C (tgt := 77) dX11_compared_71 (by decide) ?_
      exact r_sub [] rfl (wB_X11_compared_77 C hr H_one H_product H_sum H_compared  h)
  · refine r_sipush C (v := 10016) (by decide) dX11_compared_56 ?_
    refine r_goto C (tgt := 77) dX11_compared_59 (by decide) ?_
    exact r_sub [] rfl (wB_X11_compared_77 C hr H_one H_product H_sum H_compared  h)
set_option maxHeartbeats 4000000 in
set_option maxRecDepth 100000 in
theorem w_X11_compared {l : Launch} {g : GG} {ad : Nat → Nat} {p : Program} {e : Env} {s : State} {m : MethodId} {args : Array Value} {below : List Frame} {meth : Method} {c : Code} {d : Nat} {g_one : HI → HJ → Option (HI)} {g_product : HI → HJ → Option (HI)} {g_sum : HI → HJ → Option (HI)} {g_compared : HI → HJ → Option (HI)} {z : HI} (C : Cx p s m args meth c RX11 cX11_compared 2 g (AW ad nO)) (hr : meth.sig.returnType = none) (H_one : ∀ {I : HI} {J : HJ} {I1 : HI}, g_one I J = some I1 → CM l yX11_one cX11_one 2 none (rmk (5 + d) (110 + 40 * d)) g ad nO oR [.ref (ad 98)] I J (QAv g ad nO oR I1 J)) (H_product : ∀ {I : HI} {J : HJ} {I1 : HI}, g_product I J = some I1 → CM l yX11_product cX11_product 2 none (rmk (5 + d) (110 + 40 * d)) g ad nO oR [.ref (ad 98)] I J (QAv g ad nO oR I1 J)) (H_sum : ∀ {I : HI} {J : HJ} {I1 : HI}, g_sum I J = some I1 → CM l yX11_sum cX11_sum 2 none (rmk (5 + d) (110 + 40 * d)) g ad nO oR [.ref (ad 98)] I J (QAv g ad nO oR I1 J)) (H_compared : ∀ {I : HI} {J : HJ} {I1 : HI}, g_compared I J = some I1 → CM l yX11_compared cX11_compared 2 none (rmk (5 + d) (110 + 40 * d)) g ad nO oR [.ref (ad 98)] I J (QAv g ad nO oR I1 J)) {I : HI} {J : HJ} (h : fb_X11_compared g_one g_product g_sum g_compared I J = some z) : V p l e (rmk (5 + (d + 1)) (110 + 40 * (d + 1))) s m args below meth c (MQ below (QAv g ad nO oR z J) args s 0 0 (AW ad nO)) 2 0 0 g (AW ad nO) ad nO oR I J 0 [(0, .ref (ad 98))] [] := by
  unfold fb_X11_compared at h
  refine r_aload_n C 0 rfl rfl dX11_compared_0 ?_
  obtain ⟨I25, hq26, h⟩ := bd1_ h
  refine r_cvv C (rest := []) (H_sum  hq26) fm_X11_sum lk_X11_214 o_98 ⟨_, ct_10 o_98.1⟩ rfl rfl (RO_rec (by decide)) (Nat.le_of_ble_eq_true rfl) rfl dX11_compared_1 ?_
  refine r_aload_n C 0 rfl rfl dX11_compared_4 ?_
  refine r_bipush C (v := 60) (by decide) dX11_compared_5 ?_
  obtain ⟨r27, hq28, h⟩ := bd1_ h
  refine r_cvi C (rest := []) (c_X11_isSign  hq28) fm_X11_isSign lk_X11_195 o_98 ⟨_, ct_10 o_98.1⟩ rfl rfl (RO_base (by decide) (by decide)) (Nat.le_of_ble_eq_true rfl) rfl dX11_compared_7 ?_
  refine r_if_ne C (tgt := 31) h dX11_compared_10 (by decide) (fun h => ?_) (fun h => ?_)
  · exact wB_X11_compared_31 C hr H_one H_product H_sum H_compared  h
  · refine r_aload_n C 0 rfl rfl dX11_compared_13 ?_
    refine r_bipush C (v := 61) (by decide) dX11_compared_14 ?_
    obtain ⟨r29, hq30, h⟩ := bd1_ h
    refine r_cvi C (rest := []) (c_X11_isSign  hq30) fm_X11_isSign lk_X11_195 o_98 ⟨_, ct_10 o_98.1⟩ rfl rfl (RO_base (by decide) (by decide)) (Nat.le_of_ble_eq_true rfl) rfl dX11_compared_16 ?_
    refine r_if_ne C (tgt := 31) h dX11_compared_19 (by decide) (fun h => ?_) (fun h => ?_)
    · exact wB_X11_compared_31 C hr H_one H_product H_sum H_compared  h
    · refine r_aload_n C 0 rfl rfl dX11_compared_22 ?_
      refine r_bipush C (v := 62) (by decide) dX11_compared_23 ?_
      obtain ⟨r31, hq32, h⟩ := bd1_ h
      refine r_cvi C (rest := []) (c_X11_isSign  hq32) fm_X11_isSign lk_X11_195 o_98 ⟨_, ct_10 o_98.1⟩ rfl rfl (RO_base (by decide) (by decide)) (Nat.le_of_ble_eq_true rfl) rfl dX11_compared_25 ?_
      refine r_if_eq C (tgt := 80) h dX11_compared_28 (by decide) (fun h => ?_) (fun h => ?_)
      · have hz9 := Option.some.inj h
        subst hz9
        exact r_vret C hr dX11_compared_80
      · exact wB_X11_compared_31 C hr H_one H_product H_sum H_compared  h
set_option maxHeartbeats 4000000 in
set_option maxRecDepth 100000 in
theorem gc_X11_one {l : Launch} {g : GG} {ad : Nat → Nat} : ∀ d : Nat, (∀ {I : HI} {J : HJ} {I1 : HI}, f_X11_one d I J = some I1 → CM l yX11_one cX11_one 2 none (rmk (5 + d) (110 + 40 * d)) g ad nO oR [.ref (ad 98)] I J (QAv g ad nO oR I1 J)) ∧ (∀ {I : HI} {J : HJ} {I1 : HI}, f_X11_product d I J = some I1 → CM l yX11_product cX11_product 2 none (rmk (5 + d) (110 + 40 * d)) g ad nO oR [.ref (ad 98)] I J (QAv g ad nO oR I1 J)) ∧ (∀ {I : HI} {J : HJ} {I1 : HI}, f_X11_sum d I J = some I1 → CM l yX11_sum cX11_sum 2 none (rmk (5 + d) (110 + 40 * d)) g ad nO oR [.ref (ad 98)] I J (QAv g ad nO oR I1 J)) ∧ (∀ {I : HI} {J : HJ} {I1 : HI}, f_X11_compared d I J = some I1 → CM l yX11_compared cX11_compared 2 none (rmk (5 + d) (110 + 40 * d)) g ad nO oR [.ref (ad 98)] I J (QAv g ad nO oR I1 J)) := by
  intro d
  induction d with
  | zero =>
    refine ⟨?_, ?_, ?_, ?_⟩
    · exact fun {_} {_} {_}  h => by
          have h0 : (none : Option (HI)) = some _ := h
          cases h0
    · exact fun {_} {_} {_}  h => by
          have h0 : (none : Option (HI)) = some _ := h
          cases h0
    · exact fun {_} {_} {_}  h => by
          have h0 : (none : Option (HI)) = some _ := h
          cases h0
    · exact fun {_} {_} {_}  h => by
          have h0 : (none : Option (HI)) = some _ := h
          cases h0
  | succ d ih =>
    obtain ⟨H0, H1, H2, H3⟩ := ih
    refine ⟨?_, ?_, ?_, ?_⟩
    · exact fun {_} {_} {_}  h => CM_of (by decide +kernel) (Nat.le_of_ble_eq_true rfl) (fun p e s m args below meth c C hr => w_X11_one C hr H0 H1 H2 H3 h)
    · exact fun {_} {_} {_}  h => CM_of (by decide +kernel) (Nat.le_of_ble_eq_true rfl) (fun p e s m args below meth c C hr => w_X11_product C hr H0 H1 H2 H3 h)
    · exact fun {_} {_} {_}  h => CM_of (by decide +kernel) (Nat.le_of_ble_eq_true rfl) (fun p e s m args below meth c C hr => w_X11_sum C hr H0 H1 H2 H3 h)
    · exact fun {_} {_} {_}  h => CM_of (by decide +kernel) (Nat.le_of_ble_eq_true rfl) (fun p e s m args below meth c C hr => w_X11_compared C hr H0 H1 H2 H3 h)
set_option maxHeartbeats 4000000 in
set_option maxRecDepth 100000 in
theorem c_X11_one {l : Launch} {g : GG} {ad : Nat → Nat} {I : HI} {J : HJ} {I1 : HI} (h : f_X11_one 40 I J = some I1) : CM l yX11_one cX11_one 2 none (rmk 45 1710) g ad nO oR [.ref (ad 98)] I J (QAv g ad nO oR I1 J) := (gc_X11_one 40).1 h
set_option maxHeartbeats 4000000 in
set_option maxRecDepth 100000 in
theorem c_X11_product {l : Launch} {g : GG} {ad : Nat → Nat} {I : HI} {J : HJ} {I1 : HI} (h : f_X11_product 40 I J = some I1) : CM l yX11_product cX11_product 2 none (rmk 45 1710) g ad nO oR [.ref (ad 98)] I J (QAv g ad nO oR I1 J) := (gc_X11_one 40).2.1 h
set_option maxHeartbeats 4000000 in
set_option maxRecDepth 100000 in
theorem c_X11_sum {l : Launch} {g : GG} {ad : Nat → Nat} {I : HI} {J : HJ} {I1 : HI} (h : f_X11_sum 40 I J = some I1) : CM l yX11_sum cX11_sum 2 none (rmk 45 1710) g ad nO oR [.ref (ad 98)] I J (QAv g ad nO oR I1 J) := (gc_X11_one 40).2.2.1 h
set_option maxHeartbeats 4000000 in
set_option maxRecDepth 100000 in
theorem c_X11_compared {l : Launch} {g : GG} {ad : Nat → Nat} {I : HI} {J : HJ} {I1 : HI} (h : f_X11_compared 40 I J = some I1) : CM l yX11_compared cX11_compared 2 none (rmk 45 1710) g ad nO oR [.ref (ad 98)] I J (QAv g ad nO oR I1 J) := (gc_X11_one 40).2.2.2 h
set_option maxHeartbeats 4000000 in
set_option maxRecDepth 100000 in
theorem wB_X11_oneLaw_55 {l : Launch} {g : GG} {ad : Nat → Nat} {p : Program} {e : Env} {s : State} {m : MethodId} {args : Array Value} {below : List Frame} {meth : Method} {c : Code} {z : HI} (C : Cx p s m args meth c RX11 cX11_oneLaw 3 g (AW ad nO)) (hr : meth.sig.returnType = none) {J : HJ}  {x1 : Int32} {x2 : Int32} {s0 : Int32} {I : HI} (h : fB_X11_oneLaw_55 x1 x2 s0 I J = some z) : V p l e (rmk 46 1731) s m args below meth c (MQ below (QAv g ad nO oR z J) args s 0 0 (AW ad nO)) 3 0 0 g (AW ad nO) ad nO oR I J 55 [(0, .ref (ad 98)), (1, .int x1), (2, .int x2)] [.int s0, .ref (ad 98)] := by
  unfold fB_X11_oneLaw_55 at h
  obtain ⟨I15, hq16, h⟩ := bd1_ h
  refine r_cvv C (rest := []) (c_X11_needs  hq16) fm_X11_needs lk_X11_188 o_98 ⟨_, ct_10 o_98.1⟩ rfl rfl ⟨rfl, rfl, Nat.le_of_ble_eq_true rfl, Nat.le_of_ble_eq_true rfl⟩ (Nat.le_of_ble_eq_true rfl) rfl dX11_oneLaw_55 ?_
  refine r_aload_n C 0 rfl rfl dX11_oneLaw_58 ?_
  refine gf_X11_166 C o_98 dX11_oneLaw_59 ?_
  refine r_if_ne C (tgt := 92) h dX11_oneLaw_62 (by decide) (fun h => ?_) (fun h => ?_)
  · have hz9 := Option.some.inj h
    subst hz9
    exact r_vret C hr dX11_oneLaw_92
  · refine r_aload_n C 0 rfl rfl dX11_oneLaw_65 ?_
    refine gf_X11_50 C rf0 o_98 (q := 112) rfl dX11_oneLaw_66 ?_
    refine r_iload_n C 1 rfl rfl dX11_oneLaw_69 ?_
    refine r_iload_n C 2 rfl rfl dX11_oneLaw_70 ?_
    refine r_iast C o_112 h dX11_oneLaw_71 (fun h => ?_)
    refine r_nmI h (fun I17 h => ?_)
    refine r_aload_n C 0 rfl rfl dX11_oneLaw_72 ?_
    refine gf_X11_53 C rf0 o_98 (q := 113) rfl dX11_oneLaw_73 ?_
    refine r_iload_n C 1 rfl rfl dX11_oneLaw_76 ?_
    refine r_aload_n C 0 rfl rfl dX11_oneLaw_77 ?_
    refine gf_X11_173 C o_98 dX11_oneLaw_78 ?_
    refine r_pc (pc1 := 81) rfl ?_
    refine r_iast C o_113 h dX11_oneLaw_81 (fun h => ?_)
    refine r_nmI h (fun I18 h => ?_)
    refine r_aload_n C 0 rfl rfl dX11_oneLaw_82 ?_
    refine r_dup C rfl dX11_oneLaw_83 ?_
    refine gf_X11_220 C o_98 dX11_oneLaw_84 ?_
    refine r_iconst C (v := 1) (by decide) dX11_oneLaw_87 ?_
    refine r_iadd C dX11_oneLaw_88 ?_
    refine r_pc (pc1 := 89) rfl ?_
    refine pf_X11_220 C o_98 dX11_oneLaw_89 ?_
    refine r_nmI h (fun I19 h => ?_)
    have hz9 := Option.some.inj h
    subst hz9
    exact r_vret C hr dX11_oneLaw_92
set_option maxHeartbeats 4000000 in
set_option maxRecDepth 100000 in
theorem wB_X11_oneLaw_29 {l : Launch} {g : GG} {ad : Nat → Nat} {p : Program} {e : Env} {s : State} {m : MethodId} {args : Array Value} {below : List Frame} {meth : Method} {c : Code} {z : HI} (C : Cx p s m args meth c RX11 cX11_oneLaw 3 g (AW ad nO)) (hr : meth.sig.returnType = none) {J : HJ}  {x1 : Int32} {x2 : Int32} {s0 : Int32} {I : HI} (h : fB_X11_oneLaw_29 x1 x2 s0 I J = some z) : V p l e (rmk 46 1731) s m args below meth c (MQ below (QAv g ad nO oR z J) args s 0 0 (AW ad nO)) 3 0 0 g (AW ad nO) ad nO oR I J 29 [(0, .ref (ad 98)), (1, .int x1), (2, .int x2)] [.int s0, .ref (ad 98)] := by
  unfold fB_X11_oneLaw_29 at h
  obtain ⟨I20, hq21, h⟩ := bd1_ h
  refine r_cvv C (rest := []) (c_X11_needs  hq21) fm_X11_needs lk_X11_188 o_98 ⟨_, ct_10 o_98.1⟩ rfl rfl ⟨rfl, rfl, Nat.le_of_ble_eq_true rfl, Nat.le_of_ble_eq_true rfl⟩ (Nat.le_of_ble_eq_true rfl) rfl dX11_oneLaw_29 ?_
  refine r_aload_n C 0 rfl rfl dX11_oneLaw_32 ?_
  obtain ⟨I22, hq23, h⟩ := bd1_ h
  refine r_cvv C (rest := []) (c_X11_compared  hq23) fm_X11_compared lk_X11_204 o_98 ⟨_, ct_10 o_98.1⟩ rfl rfl ⟨rfl, rfl, Nat.le_of_ble_eq_true rfl, Nat.le_of_ble_eq_true rfl⟩ (Nat.le_of_ble_eq_true rfl) rfl dX11_oneLaw_33 ?_
  refine r_aload_n C 0 rfl rfl dX11_oneLaw_36 ?_
  refine r_aload_n C 0 rfl rfl dX11_oneLaw_37 ?_
  refine r_aload_n C 0 rfl rfl dX11_oneLaw_38 ?_
  refine gf_X11_153 C o_98 dX11_oneLaw_39 ?_
  obtain ⟨r24, hq25, h⟩ := bd1_ h
  refine r_cvi C (rest := [.ref (ad 98)]) (c_X11_byteAt  hq25) fm_X11_byteAt lk_X11_156 o_98 ⟨_, ct_10 o_98.1⟩ rfl rfl ⟨rfl, rfl, Nat.le_of_ble_eq_true rfl, Nat.le_of_ble_eq_true rfl⟩ (Nat.le_of_ble_eq_true rfl) rfl dX11_oneLaw_42 ?_
  refine r_bipush C (v := 59) (by decide) dX11_oneLaw_45 ?_
  refine r_icmp_ne C (tgt := 54) h dX11_oneLaw_47 (by decide) (fun h => ?_) (fun h => ?_)
  · refine r_iconst C (v := 0) (by decide) dX11_oneLaw_54 ?_
    exact wB_X11_oneLaw_55 C hr  h
  · refine r_iconst C (v := 1) (by decide) dX11_oneLaw_50 ?_
    refine r_goto C (tgt := 55) dX11_oneLaw_51 (by decide) ?_
    exact wB_X11_oneLaw_55 C hr  h
set_option maxHeartbeats 4000000 in
set_option maxRecDepth 100000 in
theorem wB_X11_oneLaw_28 {l : Launch} {g : GG} {ad : Nat → Nat} {p : Program} {e : Env} {s : State} {m : MethodId} {args : Array Value} {below : List Frame} {meth : Method} {c : Code} {z : HI} (C : Cx p s m args meth c RX11 cX11_oneLaw 3 g (AW ad nO)) (hr : meth.sig.returnType = none) {J : HJ}  {x1 : Int32} {x2 : Int32} {I : HI} (h : fB_X11_oneLaw_28 x1 x2 I J = some z) : V p l e (rmk 46 1731) s m args below meth c (MQ below (QAv g ad nO oR z J) args s 0 0 (AW ad nO)) 3 0 0 g (AW ad nO) ad nO oR I J 28 [(0, .ref (ad 98)), (1, .int x1), (2, .int x2)] [.ref (ad 98)] := by
  unfold fB_X11_oneLaw_28 at h
  refine r_iconst C (v := 0) (by decide) dX11_oneLaw_28 ?_
  exact wB_X11_oneLaw_29 C hr  h
set_option maxHeartbeats 4000000 in
set_option maxRecDepth 100000 in
theorem w_X11_oneLaw {l : Launch} {g : GG} {ad : Nat → Nat} {p : Program} {e : Env} {s : State} {m : MethodId} {args : Array Value} {below : List Frame} {meth : Method} {c : Code} {z : HI} (C : Cx p s m args meth c RX11 cX11_oneLaw 3 g (AW ad nO)) (hr : meth.sig.returnType = none) {I : HI} {J : HJ} (h : f_X11_oneLaw I J = some z) : V p l e (rmk 46 1731) s m args below meth c (MQ below (QAv g ad nO oR z J) args s 0 0 (AW ad nO)) 3 0 0 g (AW ad nO) ad nO oR I J 0 [(0, .ref (ad 98))] [] := by
  unfold f_X11_oneLaw at h
  refine r_aload_n C 0 rfl rfl dX11_oneLaw_0 ?_
  obtain ⟨r26, hq27, h⟩ := bd1_ h
  refine r_cvi C (rest := []) (c_X11_keyHere  hq27) fm_X11_keyHere lk_X11_217 o_98 ⟨_, ct_10 o_98.1⟩ rfl rfl ⟨rfl, rfl, Nat.le_of_ble_eq_true rfl, Nat.le_of_ble_eq_true rfl⟩ (Nat.le_of_ble_eq_true rfl) rfl dX11_oneLaw_1 ?_
  refine r_istore_n C (lv1 := [(1, .int r26), (0, .ref (ad 98))]) rfl (by decide) rfl dX11_oneLaw_4 ?_
  refine r_aload_n C 1 rfl rfl dX11_oneLaw_5 ?_
  refine gf_X11_173 C o_98 dX11_oneLaw_6 ?_
  refine r_nmi h (fun v28 h => ?_)
  refine r_istore_n C (lv1 := [(2, .int v28), (1, .int r26), (0, .ref (ad 98))]) rfl (by decide) rfl dX11_oneLaw_9 ?_
  refine r_aload_n C 2 rfl rfl dX11_oneLaw_10 ?_
  refine r_iload_n C 1 rfl rfl dX11_oneLaw_11 ?_
  refine r_if_lt C (tgt := 28) h dX11_oneLaw_12 (by decide) (fun h => ?_) (fun h => ?_)
  · exact r_sub [2, 1, 0] rfl (wB_X11_oneLaw_28 C hr  h)
  · refine r_aload_n C 2 rfl rfl dX11_oneLaw_15 ?_
    refine gf_X11_220 C o_98 dX11_oneLaw_16 ?_
    refine r_bipush C (v := 8) (by decide) dX11_oneLaw_19 ?_
    refine r_icmp_ge C (tgt := 28) h dX11_oneLaw_21 (by decide) (fun h => ?_) (fun h => ?_)
    · exact r_sub [2, 1, 0] rfl (wB_X11_oneLaw_28 C hr  h)
    · refine r_iconst C (v := 1) (by decide) dX11_oneLaw_24 ?_
      refine r_goto C (tgt := 29) dX11_oneLaw_25 (by decide) ?_
      exact r_sub [2, 1, 0] rfl (wB_X11_oneLaw_29 C hr  h)
set_option maxHeartbeats 4000000 in
set_option maxRecDepth 100000 in
theorem c_X11_oneLaw {l : Launch} {g : GG} {ad : Nat → Nat} {I : HI} {J : HJ} {I1 : HI} (h : f_X11_oneLaw I J = some I1) : CM l yX11_oneLaw cX11_oneLaw 3 none (rmk 46 1731) g ad nO oR [.ref (ad 98)] I J (QAv g ad nO oR I1 J) :=
  CM_of (by decide +kernel) (Nat.le_of_ble_eq_true rfl) (fun p e s m args below meth c C hr => w_X11_oneLaw C hr h)
set_option maxHeartbeats 4000000 in
set_option maxRecDepth 100000 in
theorem wB_X11_read_246 {l : Launch} {g : GG} {ad : Nat → Nat} {p : Program} {e : Env} {s : State} {m : MethodId} {args : Array Value} {below : List Frame} {meth : Method} {c : Code} {z : Int32 × HI} (C : Cx p s m args meth c RX11 cX11_read 2 g (AW ad nO)) (hr : meth.sig.returnType = (some .int)) {r_217 : Int32 → HI → HJ → Option (Int32 × HI)} {J : HJ} (hr_217 : ∀ {x1 : Int32} {I : HI}, r_217 x1 I J = some z → V p l e (rmk 47 1753) s m args below meth c (MQ below (QAi g ad nO oR z.1 z.2 J) args s 0 0 (AW ad nO)) 2 0 0 g (AW ad nO) ad nO oR I J 217 [(0, .ref (ad 98)), (1, .int x1)] []) {x1 : Int32} {s0 : Int32} {s1 : Int32} {s2 : Int32} {I : HI} (h : fB_X11_read_246 r_217 x1 s0 s1 s2 I J = some z) : V p l e (rmk 47 1753) s m args below meth c (MQ below (QAi g ad nO oR z.1 z.2 J) args s 0 0 (AW ad nO)) 2 0 0 g (AW ad nO) ad nO oR I J 246 [(0, .ref (ad 98)), (1, .int x1)] [.int s0, .int s1, .int s2, .ref (ad 99)] := by
  unfold fB_X11_read_246 at h
  refine r_iadd C dX11_read_246 ?_
  refine r_iast C o_99 h dX11_read_247 (fun h => ?_)
  refine r_nmI h (fun I22 h => ?_)
  refine r_iincN C h (k := 1) (zz := 1) rfl rfl (by decide) (lv1 := fun v23 => [(1, .int v23), (0, .ref (ad 98))]) (fun _ => rfl) dX11_read_248 (fun v23 h => ?_)
  refine r_goto C (tgt := 217) dX11_read_251 (by decide) ?_
  exact r_sub [1, 0] rfl (hr_217  h)
set_option maxHeartbeats 4000000 in
set_option maxRecDepth 100000 in
theorem wLB_X11_read_217 {l : Launch} {g : GG} {ad : Nat → Nat} {p : Program} {e : Env} {s : State} {m : MethodId} {args : Array Value} {below : List Frame} {meth : Method} {c : Code} {z : Int32 × HI} (C : Cx p s m args meth c RX11 cX11_read 2 g (AW ad nO)) (hr : meth.sig.returnType = (some .int)) {J : HJ}  {r_217 : Int32 → HI → HJ → Option (Int32 × HI)} (hr_217 : ∀ {x1 : Int32} {I : HI}, r_217 x1 I J = some z → V p l e (rmk 47 1753) s m args below meth c (MQ below (QAi g ad nO oR z.1 z.2 J) args s 0 0 (AW ad nO)) 2 0 0 g (AW ad nO) ad nO oR I J 217 [(0, .ref (ad 98)), (1, .int x1)] []) {x1 : Int32} {I : HI} (h : fLB_X11_read_217 r_217 x1 I J = some z) : V p l e (rmk 47 1753) s m args below meth c (MQ below (QAi g ad nO oR z.1 z.2 J) args s 0 0 (AW ad nO)) 2 0 0 g (AW ad nO) ad nO oR I J 217 [(0, .ref (ad 98)), (1, .int x1)] [] := by
  unfold fLB_X11_read_217 at h
  refine r_iload_n C 1 rfl rfl dX11_read_217 ?_
  refine r_iconst C (v := 4) (by decide) dX11_read_218 ?_
  refine r_icmp_ge C (tgt := 254) h dX11_read_219 (by decide) (fun h => ?_) (fun h => ?_)
  · refine r_aload_n C 0 rfl rfl dX11_read_254 ?_
    refine gf_X11_7 C rf0 o_98 (q := 99) rfl dX11_read_255 ?_
    refine r_bipush C (v := 11) (by decide) dX11_read_258 ?_
    refine r_iald C o_99 h dX11_read_260 (fun h => ?_)
    have hz9 := Option.some.inj h
    subst hz9
    exact r_iret C hr dX11_read_261
  · refine r_aload_n C 0 rfl rfl dX11_read_222 ?_
    refine gf_X11_7 C rf0 o_98 (q := 99) rfl dX11_read_223 ?_
    refine r_bipush C (v := 11) (by decide) dX11_read_226 ?_
    refine r_dup2 C rfl rfl dX11_read_228 ?_
    refine r_iald C o_99 h dX11_read_229 (fun h => ?_)
    refine r_aload_n C 0 rfl rfl dX11_read_230 ?_
    refine gf_X11_50 C rf0 o_98 (q := 112) rfl dX11_read_231 ?_
    refine r_iload_n C 1 rfl rfl dX11_read_234 ?_
    refine r_iald C o_112 h dX11_read_235 (fun h => ?_)
    refine r_bipush C (v := 12) (by decide) dX11_read_236 ?_
    refine r_icmp_lt C (tgt := 245) h dX11_read_238 (by decide) (fun h => ?_) (fun h => ?_)
    · refine r_iconst C (v := 0) (by decide) dX11_read_245 ?_
      exact wB_X11_read_246 C hr hr_217  h
    · refine r_iconst C (v := 1) (by decide) dX11_read_241 ?_
      refine r_goto C (tgt := 246) dX11_read_242 (by decide) ?_
      exact wB_X11_read_246 C hr hr_217  h
set_option maxHeartbeats 4000000 in
set_option maxRecDepth 100000 in
theorem wL_X11_read_217 {l : Launch} {g : GG} {ad : Nat → Nat} {p : Program} {e : Env} {s : State} {m : MethodId} {args : Array Value} {below : List Frame} {meth : Method} {c : Code} {z : Int32 × HI} (C : Cx p s m args meth c RX11 cX11_read 2 g (AW ad nO)) (hr : meth.sig.returnType = (some .int)) {J : HJ}  : ∀ (f : Nat) {x1 : Int32} {I : HI}, fL_X11_read_217 f x1 I J = some z → V p l e (rmk 47 1753) s m args below meth c (MQ below (QAi g ad nO oR z.1 z.2 J) args s 0 0 (AW ad nO)) 2 0 0 g (AW ad nO) ad nO oR I J 217 [(0, .ref (ad 98)), (1, .int x1)] [] := by
  intro f
  induction f with
  | zero =>
    intro _ _  h
    have h0 : (none : Option (Int32 × HI)) = some z := h
    cases h0
  | succ f ih =>
    intro _ _  h
    exact wLB_X11_read_217 C hr ih  h
set_option maxHeartbeats 4000000 in
set_option maxRecDepth 100000 in
theorem wLB_X11_read_158 {l : Launch} {g : GG} {ad : Nat → Nat} {p : Program} {e : Env} {s : State} {m : MethodId} {args : Array Value} {below : List Frame} {meth : Method} {c : Code} {z : Int32 × HI} (C : Cx p s m args meth c RX11 cX11_read 2 g (AW ad nO)) (hr : meth.sig.returnType = (some .int)) {J : HJ}  {r_158 : Int32 → HI → HJ → Option (Int32 × HI)} (hr_158 : ∀ {x1 : Int32} {I : HI}, r_158 x1 I J = some z → V p l e (rmk 47 1753) s m args below meth c (MQ below (QAi g ad nO oR z.1 z.2 J) args s 0 0 (AW ad nO)) 2 0 0 g (AW ad nO) ad nO oR I J 158 [(0, .ref (ad 98)), (1, .int x1)] []) {x1 : Int32} {I : HI} (h : fLB_X11_read_158 r_158 x1 I J = some z) : V p l e (rmk 47 1753) s m args below meth c (MQ below (QAi g ad nO oR z.1 z.2 J) args s 0 0 (AW ad nO)) 2 0 0 g (AW ad nO) ad nO oR I J 158 [(0, .ref (ad 98)), (1, .int x1)] [] := by
  unfold fLB_X11_read_158 at h
  refine r_iload_n C 1 rfl rfl dX11_read_158 ?_
  refine r_iconst C (v := 4) (by decide) dX11_read_159 ?_
  refine r_icmp_ge C (tgt := 207) h dX11_read_160 (by decide) (fun h => ?_) (fun h => ?_)
  · refine r_aload_n C 0 rfl rfl dX11_read_207 ?_
    refine gf_X11_7 C rf0 o_98 (q := 99) rfl dX11_read_208 ?_
    refine r_bipush C (v := 11) (by decide) dX11_read_211 ?_
    refine r_iconst C (v := 0) (by decide) dX11_read_213 ?_
    refine r_iast C o_99 h dX11_read_214 (fun h => ?_)
    refine r_nmI h (fun I24 h => ?_)
    refine r_iconst C (v := 0) (by decide) dX11_read_215 ?_
    refine r_istore_n C (lv1 := [(1, .int (0 : Int32)), (0, .ref (ad 98))]) rfl (by decide) rfl dX11_read_216 ?_
    exact r_sub [1, 0] rfl (wL_X11_read_217 C hr _  h)
  · refine r_aload_n C 0 rfl rfl dX11_read_163 ?_
    refine gf_X11_7 C rf0 o_98 (q := 99) rfl dX11_read_164 ?_
    refine r_sipush C (v := 438) (by decide) dX11_read_167 ?_
    refine r_iconst C (v := 2) (by decide) dX11_read_170 ?_
    refine r_iload_n C 1 rfl rfl dX11_read_171 ?_
    refine r_pc (pc1 := 172) rfl ?_
    refine r_imul C dX11_read_172 ?_
    refine r_iadd C dX11_read_173 ?_
    refine r_aload_n C 0 rfl rfl dX11_read_174 ?_
    refine gf_X11_50 C rf0 o_98 (q := 112) rfl dX11_read_175 ?_
    refine r_iload_n C 1 rfl rfl dX11_read_178 ?_
    refine r_iald C o_112 h dX11_read_179 (fun h => ?_)
    refine r_iast C o_99 h dX11_read_180 (fun h => ?_)
    refine r_nmI h (fun I25 h => ?_)
    refine r_aload_n C 0 rfl rfl dX11_read_181 ?_
    refine gf_X11_7 C rf0 o_98 (q := 99) rfl dX11_read_182 ?_
    refine r_sipush C (v := 438) (by decide) dX11_read_185 ?_
    refine r_iconst C (v := 2) (by decide) dX11_read_188 ?_
    refine r_iload_n C 1 rfl rfl dX11_read_189 ?_
    refine r_pc (pc1 := 190) rfl ?_
    refine r_imul C dX11_read_190 ?_
    refine r_iadd C dX11_read_191 ?_
    refine r_iconst C (v := 1) (by decide) dX11_read_192 ?_
    refine r_iadd C dX11_read_193 ?_
    refine r_aload_n C 0 rfl rfl dX11_read_194 ?_
    refine gf_X11_53 C rf0 o_98 (q := 113) rfl dX11_read_195 ?_
    refine r_pc (pc1 := 198) rfl ?_
    refine r_iload_n C 1 rfl rfl dX11_read_198 ?_
    refine r_iald C o_113 h dX11_read_199 (fun h => ?_)
    refine r_iast C o_99 h dX11_read_200 (fun h => ?_)
    refine r_nmI h (fun I26 h => ?_)
    refine r_iincN C h (k := 1) (zz := 1) rfl rfl (by decide) (lv1 := fun v27 => [(1, .int v27), (0, .ref (ad 98))]) (fun _ => rfl) dX11_read_201 (fun v27 h => ?_)
    refine r_goto C (tgt := 158) dX11_read_204 (by decide) ?_
    exact r_sub [1, 0] rfl (hr_158  h)
set_option maxHeartbeats 4000000 in
set_option maxRecDepth 100000 in
theorem wL_X11_read_158 {l : Launch} {g : GG} {ad : Nat → Nat} {p : Program} {e : Env} {s : State} {m : MethodId} {args : Array Value} {below : List Frame} {meth : Method} {c : Code} {z : Int32 × HI} (C : Cx p s m args meth c RX11 cX11_read 2 g (AW ad nO)) (hr : meth.sig.returnType = (some .int)) {J : HJ}  : ∀ (f : Nat) {x1 : Int32} {I : HI}, fL_X11_read_158 f x1 I J = some z → V p l e (rmk 47 1753) s m args below meth c (MQ below (QAi g ad nO oR z.1 z.2 J) args s 0 0 (AW ad nO)) 2 0 0 g (AW ad nO) ad nO oR I J 158 [(0, .ref (ad 98)), (1, .int x1)] [] := by
  intro f
  induction f with
  | zero =>
    intro _ _  h
    have h0 : (none : Option (Int32 × HI)) = some z := h
    cases h0
  | succ f ih =>
    intro _ _  h
    exact wLB_X11_read_158 C hr ih  h
set_option maxHeartbeats 4000000 in
set_option maxRecDepth 100000 in
theorem wB_X11_read_149 {l : Launch} {g : GG} {ad : Nat → Nat} {p : Program} {e : Env} {s : State} {m : MethodId} {args : Array Value} {below : List Frame} {meth : Method} {c : Code} {z : Int32 × HI} (C : Cx p s m args meth c RX11 cX11_read 2 g (AW ad nO)) (hr : meth.sig.returnType = (some .int)) {r_115 : Int32 → HI → HJ → Option (Int32 × HI)} {J : HJ} (hr_115 : ∀ {x1 : Int32} {I : HI}, r_115 x1 I J = some z → V p l e (rmk 47 1753) s m args below meth c (MQ below (QAi g ad nO oR z.1 z.2 J) args s 0 0 (AW ad nO)) 2 0 0 g (AW ad nO) ad nO oR I J 115 [(0, .ref (ad 98)), (1, .int x1)] []) {x1 : Int32} {s0 : Int32} {s1 : Int32} {I : HI} (h : fB_X11_read_149 r_115 x1 s0 s1 I J = some z) : V p l e (rmk 47 1753) s m args below meth c (MQ below (QAi g ad nO oR z.1 z.2 J) args s 0 0 (AW ad nO)) 2 0 0 g (AW ad nO) ad nO oR I J 149 [(0, .ref (ad 98)), (1, .int x1)] [.int s0, .int s1, .ref (ad 99)] := by
  unfold fB_X11_read_149 at h
  refine r_iast C o_99 h dX11_read_149 (fun h => ?_)
  refine r_nmI h (fun I28 h => ?_)
  refine r_iincN C h (k := 1) (zz := 1) rfl rfl (by decide) (lv1 := fun v29 => [(1, .int v29), (0, .ref (ad 98))]) (fun _ => rfl) dX11_read_150 (fun v29 h => ?_)
  refine r_goto C (tgt := 115) dX11_read_153 (by decide) ?_
  exact r_sub [1, 0] rfl (hr_115  h)
set_option maxHeartbeats 4000000 in
set_option maxRecDepth 100000 in
theorem wLB_X11_read_115 {l : Launch} {g : GG} {ad : Nat → Nat} {p : Program} {e : Env} {s : State} {m : MethodId} {args : Array Value} {below : List Frame} {meth : Method} {c : Code} {z : Int32 × HI} (C : Cx p s m args meth c RX11 cX11_read 2 g (AW ad nO)) (hr : meth.sig.returnType = (some .int)) {J : HJ}  {r_115 : Int32 → HI → HJ → Option (Int32 × HI)} (hr_115 : ∀ {x1 : Int32} {I : HI}, r_115 x1 I J = some z → V p l e (rmk 47 1753) s m args below meth c (MQ below (QAi g ad nO oR z.1 z.2 J) args s 0 0 (AW ad nO)) 2 0 0 g (AW ad nO) ad nO oR I J 115 [(0, .ref (ad 98)), (1, .int x1)] []) {x1 : Int32} {I : HI} (h : fLB_X11_read_115 r_115 x1 I J = some z) : V p l e (rmk 47 1753) s m args below meth c (MQ below (QAi g ad nO oR z.1 z.2 J) args s 0 0 (AW ad nO)) 2 0 0 g (AW ad nO) ad nO oR I J 115 [(0, .ref (ad 98)), (1, .int x1)] [] := by
  unfold fLB_X11_read_115 at h
  refine r_iload_n C 1 rfl rfl dX11_read_115 ?_
  refine r_sipush C (v := 220) (by decide) dX11_read_116 ?_
  refine r_icmp_ge C (tgt := 156) h dX11_read_119 (by decide) (fun h => ?_) (fun h => ?_)
  · refine r_iconst C (v := 0) (by decide) dX11_read_156 ?_
    refine r_istore_n C (lv1 := [(1, .int (0 : Int32)), (0, .ref (ad 98))]) rfl (by decide) rfl dX11_read_157 ?_
    exact r_sub [1, 0] rfl (wL_X11_read_158 C hr _  h)
  · refine r_aload_n C 0 rfl rfl dX11_read_122 ?_
    refine gf_X11_7 C rf0 o_98 (q := 99) rfl dX11_read_123 ?_
    refine r_sipush C (v := 446) (by decide) dX11_read_126 ?_
    refine r_iload_n C 1 rfl rfl dX11_read_129 ?_
    refine r_iadd C dX11_read_130 ?_
    refine r_pc (pc1 := 131) rfl ?_
    refine r_iload_n C 1 rfl rfl dX11_read_131 ?_
    refine r_aload_n C 0 rfl rfl dX11_read_132 ?_
    refine gf_X11_173 C o_98 dX11_read_133 ?_
    refine r_icmp_ge C (tgt := 148) h dX11_read_136 (by decide) (fun h => ?_) (fun h => ?_)
    · refine r_iconst C (v := 0) (by decide) dX11_read_148 ?_
      exact wB_X11_read_149 C hr hr_115  h
    · refine r_aload_n C 0 rfl rfl dX11_read_139 ?_
      refine gf_X11_47 C rf0 o_98 (q := 111) rfl dX11_read_140 ?_
      refine r_iload_n C 1 rfl rfl dX11_read_143 ?_
      refine r_iald C o_111 h dX11_read_144 (fun h => ?_)
      refine r_goto C (tgt := 149) dX11_read_145 (by decide) ?_
      exact wB_X11_read_149 C hr hr_115  h
set_option maxHeartbeats 4000000 in
set_option maxRecDepth 100000 in
theorem wL_X11_read_115 {l : Launch} {g : GG} {ad : Nat → Nat} {p : Program} {e : Env} {s : State} {m : MethodId} {args : Array Value} {below : List Frame} {meth : Method} {c : Code} {z : Int32 × HI} (C : Cx p s m args meth c RX11 cX11_read 2 g (AW ad nO)) (hr : meth.sig.returnType = (some .int)) {J : HJ}  : ∀ (f : Nat) {x1 : Int32} {I : HI}, fL_X11_read_115 f x1 I J = some z → V p l e (rmk 47 1753) s m args below meth c (MQ below (QAi g ad nO oR z.1 z.2 J) args s 0 0 (AW ad nO)) 2 0 0 g (AW ad nO) ad nO oR I J 115 [(0, .ref (ad 98)), (1, .int x1)] [] := by
  intro f
  induction f with
  | zero =>
    intro _ _  h
    have h0 : (none : Option (Int32 × HI)) = some z := h
    cases h0
  | succ f ih =>
    intro _ _  h
    exact wLB_X11_read_115 C hr ih  h
set_option maxHeartbeats 4000000 in
set_option maxRecDepth 100000 in
theorem wB_X11_read_92 {l : Launch} {g : GG} {ad : Nat → Nat} {p : Program} {e : Env} {s : State} {m : MethodId} {args : Array Value} {below : List Frame} {meth : Method} {c : Code} {z : Int32 × HI} (C : Cx p s m args meth c RX11 cX11_read 2 g (AW ad nO)) (hr : meth.sig.returnType = (some .int)) {J : HJ}  {I : HI} (h : fB_X11_read_92 I J = some z) : V p l e (rmk 47 1753) s m args below meth c (MQ below (QAi g ad nO oR z.1 z.2 J) args s 0 0 (AW ad nO)) 2 0 0 g (AW ad nO) ad nO oR I J 92 [(0, .ref (ad 98))] [] := by
  unfold fB_X11_read_92 at h
  refine r_aload_n C 0 rfl rfl dX11_read_92 ?_
  refine r_iconst C (v := 0) (by decide) dX11_read_93 ?_
  refine pf_X11_137 C o_98 dX11_read_94 ?_
  refine r_nmI h (fun I30 h => ?_)
  refine r_aload_n C 0 rfl rfl dX11_read_97 ?_
  refine gf_X11_166 C o_98 dX11_read_98 ?_
  refine r_if_eq C (tgt := 112) h dX11_read_101 (by decide) (fun h => ?_) (fun h => ?_)
  · refine r_bipush C (v := 12) (by decide) dX11_read_112 ?_
    refine r_istore_n C (lv1 := [(1, .int (12 : Int32)), (0, .ref (ad 98))]) rfl (by decide) rfl dX11_read_114 ?_
    exact r_sub [1, 0] rfl (wL_X11_read_115 C hr _  h)
  · refine r_bipush C (v := -100) (by decide) dX11_read_104 ?_
    refine r_aload_n C 0 rfl rfl dX11_read_106 ?_
    refine gf_X11_153 C o_98 dX11_read_107 ?_
    refine r_isub C dX11_read_110 ?_
    have hz9 := Option.some.inj h
    subst hz9
    exact r_iret C hr dX11_read_111
set_option maxHeartbeats 4000000 in
set_option maxRecDepth 100000 in
theorem wLB_X11_read_67 {l : Launch} {g : GG} {ad : Nat → Nat} {p : Program} {e : Env} {s : State} {m : MethodId} {args : Array Value} {below : List Frame} {meth : Method} {c : Code} {z : Int32 × HI} (C : Cx p s m args meth c RX11 cX11_read 2 g (AW ad nO)) (hr : meth.sig.returnType = (some .int)) {J : HJ}  {r_67 : HI → HJ → Option (Int32 × HI)} (hr_67 : ∀ {I : HI}, r_67 I J = some z → V p l e (rmk 47 1753) s m args below meth c (MQ below (QAi g ad nO oR z.1 z.2 J) args s 0 0 (AW ad nO)) 2 0 0 g (AW ad nO) ad nO oR I J 67 [(0, .ref (ad 98))] []) {I : HI} (h : fLB_X11_read_67 r_67 I J = some z) : V p l e (rmk 47 1753) s m args below meth c (MQ below (QAi g ad nO oR z.1 z.2 J) args s 0 0 (AW ad nO)) 2 0 0 g (AW ad nO) ad nO oR I J 67 [(0, .ref (ad 98))] [] := by
  unfold fLB_X11_read_67 at h
  refine r_aload_n C 0 rfl rfl dX11_read_67 ?_
  refine gf_X11_166 C o_98 dX11_read_68 ?_
  refine r_if_ne C (tgt := 92) h dX11_read_71 (by decide) (fun h => ?_) (fun h => ?_)
  · exact wB_X11_read_92 C hr  h
  · refine r_aload_n C 0 rfl rfl dX11_read_74 ?_
    refine gf_X11_153 C o_98 dX11_read_75 ?_
    refine r_aload_n C 0 rfl rfl dX11_read_78 ?_
    refine gf_X11_137 C o_98 dX11_read_79 ?_
    refine r_icmp_ge C (tgt := 92) h dX11_read_82 (by decide) (fun h => ?_) (fun h => ?_)
    · exact wB_X11_read_92 C hr  h
    · refine r_aload_n C 0 rfl rfl dX11_read_85 ?_
      obtain ⟨I31, hq32, h⟩ := bd1_ h
      refine r_cvv C (rest := []) (c_X11_oneLaw  hq32) fm_X11_oneLaw lk_X11_223 o_98 ⟨_, ct_10 o_98.1⟩ rfl rfl ⟨rfl, rfl, Nat.le_of_ble_eq_true rfl, Nat.le_of_ble_eq_true rfl⟩ (Nat.le_of_ble_eq_true rfl) rfl dX11_read_86 ?_
      refine r_goto C (tgt := 67) dX11_read_89 (by decide) ?_
      exact hr_67  h
set_option maxHeartbeats 4000000 in
set_option maxRecDepth 100000 in
theorem wL_X11_read_67 {l : Launch} {g : GG} {ad : Nat → Nat} {p : Program} {e : Env} {s : State} {m : MethodId} {args : Array Value} {below : List Frame} {meth : Method} {c : Code} {z : Int32 × HI} (C : Cx p s m args meth c RX11 cX11_read 2 g (AW ad nO)) (hr : meth.sig.returnType = (some .int)) {J : HJ}  : ∀ (f : Nat) {I : HI}, fL_X11_read_67 f I J = some z → V p l e (rmk 47 1753) s m args below meth c (MQ below (QAi g ad nO oR z.1 z.2 J) args s 0 0 (AW ad nO)) 2 0 0 g (AW ad nO) ad nO oR I J 67 [(0, .ref (ad 98))] [] := by
  intro f
  induction f with
  | zero =>
    intro _  h
    have h0 : (none : Option (Int32 × HI)) = some z := h
    cases h0
  | succ f ih =>
    intro _  h
    exact wLB_X11_read_67 C hr ih  h
set_option maxHeartbeats 4000000 in
set_option maxRecDepth 100000 in
theorem wLB_X11_read_28 {l : Launch} {g : GG} {ad : Nat → Nat} {p : Program} {e : Env} {s : State} {m : MethodId} {args : Array Value} {below : List Frame} {meth : Method} {c : Code} {z : Int32 × HI} (C : Cx p s m args meth c RX11 cX11_read 2 g (AW ad nO)) (hr : meth.sig.returnType = (some .int)) {J : HJ}  {r_28 : Int32 → HI → HJ → Option (Int32 × HI)} (hr_28 : ∀ {x1 : Int32} {I : HI}, r_28 x1 I J = some z → V p l e (rmk 47 1753) s m args below meth c (MQ below (QAi g ad nO oR z.1 z.2 J) args s 0 0 (AW ad nO)) 2 0 0 g (AW ad nO) ad nO oR I J 28 [(0, .ref (ad 98)), (1, .int x1)] []) {x1 : Int32} {I : HI} (h : fLB_X11_read_28 r_28 x1 I J = some z) : V p l e (rmk 47 1753) s m args below meth c (MQ below (QAi g ad nO oR z.1 z.2 J) args s 0 0 (AW ad nO)) 2 0 0 g (AW ad nO) ad nO oR I J 28 [(0, .ref (ad 98)), (1, .int x1)] [] := by
  unfold fLB_X11_read_28 at h
  refine r_iload_n C 1 rfl rfl dX11_read_28 ?_
  refine r_iconst C (v := 4) (by decide) dX11_read_29 ?_
  refine r_icmp_ge C (tgt := 63) h dX11_read_30 (by decide) (fun h => ?_) (fun h => ?_)
  · refine r_aload_n C 0 rfl rfl dX11_read_63 ?_
    obtain ⟨I33, hq34, h⟩ := bd1_ h
    refine r_cvv C (rest := []) (c_X11_next  hq34) fm_X11_next lk_X11_170 o_98 ⟨_, ct_10 o_98.1⟩ rfl rfl ⟨rfl, rfl, Nat.le_of_ble_eq_true rfl, Nat.le_of_ble_eq_true rfl⟩ (Nat.le_of_ble_eq_true rfl) rfl dX11_read_64 ?_
    exact r_sub [0] rfl (wL_X11_read_67 C hr _  h)
  · refine r_aload_n C 0 rfl rfl dX11_read_33 ?_
    refine gf_X11_50 C rf0 o_98 (q := 112) rfl dX11_read_34 ?_
    refine r_iload_n C 1 rfl rfl dX11_read_37 ?_
    refine r_aload_n C 0 rfl rfl dX11_read_38 ?_
    refine gf_X11_26 C rf0 o_98 (q := 104) rfl dX11_read_39 ?_
    refine r_pc (pc1 := 42) rfl ?_
    refine r_iload_n C 1 rfl rfl dX11_read_42 ?_
    refine r_iald C o_104 h dX11_read_43 (fun h => ?_)
    refine r_iast C o_112 h dX11_read_44 (fun h => ?_)
    refine r_nmI h (fun I35 h => ?_)
    refine r_aload_n C 0 rfl rfl dX11_read_45 ?_
    refine gf_X11_53 C rf0 o_98 (q := 113) rfl dX11_read_46 ?_
    refine r_iload_n C 1 rfl rfl dX11_read_49 ?_
    refine r_aload_n C 0 rfl rfl dX11_read_50 ?_
    refine gf_X11_29 C rf0 o_98 (q := 105) rfl dX11_read_51 ?_
    refine r_pc (pc1 := 54) rfl ?_
    refine r_iload_n C 1 rfl rfl dX11_read_54 ?_
    refine r_iald C o_105 h dX11_read_55 (fun h => ?_)
    refine r_iast C o_113 h dX11_read_56 (fun h => ?_)
    refine r_nmI h (fun I36 h => ?_)
    refine r_iincN C h (k := 1) (zz := 1) rfl rfl (by decide) (lv1 := fun v37 => [(1, .int v37), (0, .ref (ad 98))]) (fun _ => rfl) dX11_read_57 (fun v37 h => ?_)
    refine r_goto C (tgt := 28) dX11_read_60 (by decide) ?_
    exact r_sub [1, 0] rfl (hr_28  h)
set_option maxHeartbeats 4000000 in
set_option maxRecDepth 100000 in
theorem wL_X11_read_28 {l : Launch} {g : GG} {ad : Nat → Nat} {p : Program} {e : Env} {s : State} {m : MethodId} {args : Array Value} {below : List Frame} {meth : Method} {c : Code} {z : Int32 × HI} (C : Cx p s m args meth c RX11 cX11_read 2 g (AW ad nO)) (hr : meth.sig.returnType = (some .int)) {J : HJ}  : ∀ (f : Nat) {x1 : Int32} {I : HI}, fL_X11_read_28 f x1 I J = some z → V p l e (rmk 47 1753) s m args below meth c (MQ below (QAi g ad nO oR z.1 z.2 J) args s 0 0 (AW ad nO)) 2 0 0 g (AW ad nO) ad nO oR I J 28 [(0, .ref (ad 98)), (1, .int x1)] [] := by
  intro f
  induction f with
  | zero =>
    intro _ _  h
    have h0 : (none : Option (Int32 × HI)) = some z := h
    cases h0
  | succ f ih =>
    intro _ _  h
    exact wLB_X11_read_28 C hr ih  h
set_option maxHeartbeats 4000000 in
set_option maxRecDepth 100000 in
theorem w_X11_read {l : Launch} {g : GG} {ad : Nat → Nat} {p : Program} {e : Env} {s : State} {m : MethodId} {args : Array Value} {below : List Frame} {meth : Method} {c : Code} {z : Int32 × HI} (C : Cx p s m args meth c RX11 cX11_read 2 g (AW ad nO)) (hr : meth.sig.returnType = (some .int)) {I : HI} {J : HJ} (h : f_X11_read I J = some z) : V p l e (rmk 47 1753) s m args below meth c (MQ below (QAi g ad nO oR z.1 z.2 J) args s 0 0 (AW ad nO)) 2 0 0 g (AW ad nO) ad nO oR I J 0 [(0, .ref (ad 98))] [] := by
  unfold f_X11_read at h
  refine r_aload_n C 0 rfl rfl dX11_read_0 ?_
  refine r_iconst C (v := 0) (by decide) dX11_read_1 ?_
  refine pf_X11_150 C o_98 dX11_read_2 ?_
  refine r_nmI h (fun I38 h => ?_)
  refine r_aload_n C 0 rfl rfl dX11_read_5 ?_
  refine r_iconst C (v := 0) (by decide) dX11_read_6 ?_
  refine pf_X11_198 C o_98 dX11_read_7 ?_
  refine r_nmI h (fun I39 h => ?_)
  refine r_aload_n C 0 rfl rfl dX11_read_10 ?_
  refine r_bipush C (v := 12) (by decide) dX11_read_11 ?_
  refine pf_X11_173 C o_98 dX11_read_13 ?_
  refine r_nmI h (fun I40 h => ?_)
  refine r_aload_n C 0 rfl rfl dX11_read_16 ?_
  refine r_iconst C (v := 0) (by decide) dX11_read_17 ?_
  refine pf_X11_220 C o_98 dX11_read_18 ?_
  refine r_nmI h (fun I41 h => ?_)
  refine r_aload_n C 0 rfl rfl dX11_read_21 ?_
  refine r_iconst C (v := 0) (by decide) dX11_read_22 ?_
  refine pf_X11_166 C rfl o_98 dX11_read_23 ?_
  refine r_nmI h (fun I42 h => ?_)
  refine r_iconst C (v := 0) (by decide) dX11_read_26 ?_
  refine r_istore_n C (lv1 := [(1, .int (0 : Int32)), (0, .ref (ad 98))]) rfl (by decide) rfl dX11_read_27 ?_
  exact r_sub [1, 0] rfl (wL_X11_read_28 C hr _  h)
set_option maxHeartbeats 4000000 in
set_option maxRecDepth 100000 in
theorem c_X11_read {l : Launch} {g : GG} {ad : Nat → Nat} {I : HI} {J : HJ} {r : Int32} {I1 : HI} (h : f_X11_read I J = some (r, I1)) : CM l yX11_read cX11_read 2 (some .int) (rmk 47 1753) g ad nO oR [.ref (ad 98)] I J (QAi g ad nO oR r I1 J) :=
  CM_of (by decide +kernel) (Nat.le_of_ble_eq_true rfl) (fun p e s m args below meth c C hr => w_X11_read C hr h)
set_option maxHeartbeats 4000000 in
set_option maxRecDepth 100000 in
theorem w_X11_says {l : Launch} {g : GG} {ad : Nat → Nat} {p : Program} {e : Env} {s : State} {m : MethodId} {args : Array Value} {below : List Frame} {meth : Method} {c : Code} {a0 : Int32} {z : Int32 × HI × HJ} (C : Cx p s m args meth c RX11 cX11_says 2 g (AW ad nO)) (hr : meth.sig.returnType = (some .int)) {I : HI} {J : HJ} (h : f_X11_says a0 I J = some z) : V p l e (rmk 2 46) s m args below meth c (MQ below (QAi g ad nO oR z.1 z.2.1 z.2.2) args s 0 0 (AW ad nO)) 2 0 0 g (AW ad nO) ad nO oR I J 0 [(0, .ref (ad 98)), (1, .int a0)] [] := by
  unfold f_X11_says at h
  refine r_iload_n C 1 rfl rfl dX11_says_0 ?_
  refine r_i2l C dX11_says_1 ?_
  refine r_lconst C (v := 0) (by decide) dX11_says_2 ?_
  refine r_ldc2 C (v := 3) lk_X11_226 dX11_says_3 ?_
  obtain ⟨r9, hq10, h⟩ := bd1_ h
  refine r_csi C (rest := []) (c_X11_in  hq10) fm_X11_in lk_X11_114 rfl ⟨rfl, rfl, Nat.le_of_ble_eq_true rfl, Nat.le_of_ble_eq_true rfl⟩ (Nat.le_of_ble_eq_true rfl) rfl dX11_says_6 ?_
  refine r_if_ne C (tgt := 14) h dX11_says_9 (by decide) (fun h => ?_) (fun h => ?_)
  · refine r_aload_n C 0 rfl rfl dX11_says_14 ?_
    obtain ⟨I11, J12, hq13, h⟩ := bd2_ h
    refine r_cvv C (rest := []) (c_X11_opens  hq13) fm_X11_opens lk_X11_130 o_98 ⟨_, ct_10 o_98.1⟩ rfl rfl ⟨rfl, rfl, Nat.le_of_ble_eq_true rfl, Nat.le_of_ble_eq_true rfl⟩ (Nat.le_of_ble_eq_true rfl) rfl dX11_says_15 ?_
    refine r_aload_n C 0 rfl rfl dX11_says_18 ?_
    refine r_iload_n C 1 rfl rfl dX11_says_19 ?_
    obtain ⟨r14, I15, hq16, h⟩ := bd2_ h
    refine r_cvi C (rest := []) (c_X11_worth  hq16) fm_X11_worth lk_X11_101 o_98 ⟨_, ct_10 o_98.1⟩ rfl rfl ⟨rfl, rfl, Nat.le_of_ble_eq_true rfl, Nat.le_of_ble_eq_true rfl⟩ (Nat.le_of_ble_eq_true rfl) rfl dX11_says_20 ?_
    have hz9 := Option.some.inj h
    subst hz9
    exact r_iret C hr dX11_says_23
  · refine r_iconst C (v := 0) (by decide) dX11_says_12 ?_
    have hz9 := Option.some.inj h
    subst hz9
    exact r_iret C hr dX11_says_13
set_option maxHeartbeats 4000000 in
set_option maxRecDepth 100000 in
theorem c_X11_says {l : Launch} {g : GG} {ad : Nat → Nat} {a0 : Int32} {I : HI} {J : HJ} {r : Int32} {I1 : HI} {J1 : HJ} (h : f_X11_says a0 I J = some (r, I1, J1)) : CM l yX11_says cX11_says 2 (some .int) (rmk 2 46) g ad nO oR [.ref (ad 98), .int a0] I J (QAi g ad nO oR r I1 J1) :=
  CM_of (by decide +kernel) (Nat.le_of_ble_eq_true rfl) (fun p e s m args below meth c C hr => w_X11_says C hr h)
set_option maxHeartbeats 4000000 in
set_option maxRecDepth 100000 in
theorem wLB_X11_looks_13 {l : Launch} {g : GG} {ad : Nat → Nat} {p : Program} {e : Env} {s : State} {m : MethodId} {args : Array Value} {below : List Frame} {meth : Method} {c : Code} {z : HI} (C : Cx p s m args meth c RX11 cX11_looks 2 g (AW ad nO)) (hr : meth.sig.returnType = none) {J : HJ}  {r_13 : Int32 → HI → HJ → Option (HI)} (hr_13 : ∀ {x1 : Int32} {I : HI}, r_13 x1 I J = some z → V p l e (rmk 0 0) s m args below meth c (MQ below (QAv g ad nO oR z J) args s 0 0 (AW ad nO)) 2 0 0 g (AW ad nO) ad nO oR I J 13 [(0, .ref (ad 98)), (1, .int x1)] []) {x1 : Int32} {I : HI} (h : fLB_X11_looks_13 r_13 x1 I J = some z) : V p l e (rmk 0 0) s m args below meth c (MQ below (QAv g ad nO oR z J) args s 0 0 (AW ad nO)) 2 0 0 g (AW ad nO) ad nO oR I J 13 [(0, .ref (ad 98)), (1, .int x1)] [] := by
  unfold fLB_X11_looks_13 at h
  refine r_iload_n C 1 rfl rfl dX11_looks_13 ?_
  refine r_aload_n C 0 rfl rfl dX11_looks_14 ?_
  refine gf_X11_228 C o_98 dX11_looks_15 ?_
  refine r_icmp_ge C (tgt := 42) h dX11_looks_18 (by decide) (fun h => ?_) (fun h => ?_)
  · have hz9 := Option.some.inj h
    subst hz9
    exact r_vret C hr dX11_looks_42
  · refine r_aload_n C 0 rfl rfl dX11_looks_21 ?_
    refine gf_X11_56 C rf0 o_98 (q := 114) rfl dX11_looks_22 ?_
    refine r_iload_n C 1 rfl rfl dX11_looks_25 ?_
    refine r_aload_n C 0 rfl rfl dX11_looks_26 ?_
    refine gf_X11_7 C rf0 o_98 (q := 99) rfl dX11_looks_27 ?_
    refine r_pc (pc1 := 30) rfl ?_
    refine r_bipush C (v := 12) (by decide) dX11_looks_30 ?_
    refine r_iload_n C 1 rfl rfl dX11_looks_32 ?_
    refine r_iadd C dX11_looks_33 ?_
    refine r_iald C o_99 h dX11_looks_34 (fun h => ?_)
    refine r_iast C o_114 h dX11_looks_35 (fun h => ?_)
    refine r_nmI h (fun I4 h => ?_)
    refine r_iincN C h (k := 1) (zz := 1) rfl rfl (by decide) (lv1 := fun v5 => [(1, .int v5), (0, .ref (ad 98))]) (fun _ => rfl) dX11_looks_36 (fun v5 h => ?_)
    refine r_goto C (tgt := 13) dX11_looks_39 (by decide) ?_
    exact r_sub [1, 0] rfl (hr_13  h)
set_option maxHeartbeats 4000000 in
set_option maxRecDepth 100000 in
theorem wL_X11_looks_13 {l : Launch} {g : GG} {ad : Nat → Nat} {p : Program} {e : Env} {s : State} {m : MethodId} {args : Array Value} {below : List Frame} {meth : Method} {c : Code} {z : HI} (C : Cx p s m args meth c RX11 cX11_looks 2 g (AW ad nO)) (hr : meth.sig.returnType = none) {J : HJ}  : ∀ (f : Nat) {x1 : Int32} {I : HI}, fL_X11_looks_13 f x1 I J = some z → V p l e (rmk 0 0) s m args below meth c (MQ below (QAv g ad nO oR z J) args s 0 0 (AW ad nO)) 2 0 0 g (AW ad nO) ad nO oR I J 13 [(0, .ref (ad 98)), (1, .int x1)] [] := by
  intro f
  induction f with
  | zero =>
    intro _ _  h
    have h0 : (none : Option (HI)) = some z := h
    cases h0
  | succ f ih =>
    intro _ _  h
    exact wLB_X11_looks_13 C hr ih  h
set_option maxHeartbeats 4000000 in
set_option maxRecDepth 100000 in
theorem w_X11_looks {l : Launch} {g : GG} {ad : Nat → Nat} {p : Program} {e : Env} {s : State} {m : MethodId} {args : Array Value} {below : List Frame} {meth : Method} {c : Code} {z : HI} (C : Cx p s m args meth c RX11 cX11_looks 2 g (AW ad nO)) (hr : meth.sig.returnType = none) {I : HI} {J : HJ} (h : f_X11_looks I J = some z) : V p l e (rmk 0 0) s m args below meth c (MQ below (QAv g ad nO oR z J) args s 0 0 (AW ad nO)) 2 0 0 g (AW ad nO) ad nO oR I J 0 [(0, .ref (ad 98))] [] := by
  unfold f_X11_looks at h
  refine r_aload_n C 0 rfl rfl dX11_looks_0 ?_
  refine r_aload_n C 0 rfl rfl dX11_looks_1 ?_
  refine gf_X11_7 C rf0 o_98 (q := 99) rfl dX11_looks_2 ?_
  refine r_bipush C (v := 9) (by decide) dX11_looks_5 ?_
  refine r_iald C o_99 h dX11_looks_7 (fun h => ?_)
  refine pf_X11_228 C o_98 dX11_looks_8 ?_
  refine r_nmI h (fun I6 h => ?_)
  refine r_iconst C (v := 0) (by decide) dX11_looks_11 ?_
  refine r_istore_n C (lv1 := [(1, .int (0 : Int32)), (0, .ref (ad 98))]) rfl (by decide) rfl dX11_looks_12 ?_
  exact r_sub [1, 0] rfl (wL_X11_looks_13 C hr _  h)
set_option maxHeartbeats 4000000 in
set_option maxRecDepth 100000 in
theorem c_X11_looks {l : Launch} {g : GG} {ad : Nat → Nat} {I : HI} {J : HJ} {I1 : HI} (h : f_X11_looks I J = some I1) : CM l yX11_looks cX11_looks 2 none (rmk 0 0) g ad nO oR [.ref (ad 98)] I J (QAv g ad nO oR I1 J) :=
  CM_of (by decide +kernel) (Nat.le_of_ble_eq_true rfl) (fun p e s m args below meth c C hr => w_X11_looks C hr h)
set_option maxHeartbeats 4000000 in
set_option maxRecDepth 100000 in
theorem wLB_X11_looksAtTrial_10 {l : Launch} {g : GG} {ad : Nat → Nat} {p : Program} {e : Env} {s : State} {m : MethodId} {args : Array Value} {below : List Frame} {meth : Method} {c : Code} {z : HI} (C : Cx p s m args meth c RX11 cX11_looksAtTrial 2 g (AW ad nO)) (hr : meth.sig.returnType = none) {J : HJ}  {r_10 : Int32 → HI → HJ → Option (HI)} (hr_10 : ∀ {x1 : Int32} {I : HI}, r_10 x1 I J = some z → V p l e (rmk 0 0) s m args below meth c (MQ below (QAv g ad nO oR z J) args s 0 0 (AW ad nO)) 2 0 0 g (AW ad nO) ad nO oR I J 10 [(0, .ref (ad 98)), (1, .int x1)] []) {x1 : Int32} {I : HI} (h : fLB_X11_looksAtTrial_10 r_10 x1 I J = some z) : V p l e (rmk 0 0) s m args below meth c (MQ below (QAv g ad nO oR z J) args s 0 0 (AW ad nO)) 2 0 0 g (AW ad nO) ad nO oR I J 10 [(0, .ref (ad 98)), (1, .int x1)] [] := by
  unfold fLB_X11_looksAtTrial_10 at h
  refine r_iload_n C 1 rfl rfl dX11_looksAtTrial_10 ?_
  refine r_aload_n C 0 rfl rfl dX11_looksAtTrial_11 ?_
  refine gf_X11_86 C o_98 dX11_looksAtTrial_12 ?_
  refine r_icmp_ge C (tgt := 36) h dX11_looksAtTrial_15 (by decide) (fun h => ?_) (fun h => ?_)
  · have hz9 := Option.some.inj h
    subst hz9
    exact r_vret C hr dX11_looksAtTrial_36
  · refine r_aload_n C 0 rfl rfl dX11_looksAtTrial_18 ?_
    refine gf_X11_56 C rf0 o_98 (q := 114) rfl dX11_looksAtTrial_19 ?_
    refine r_iload_n C 1 rfl rfl dX11_looksAtTrial_22 ?_
    refine r_aload_n C 0 rfl rfl dX11_looksAtTrial_23 ?_
    refine gf_X11_35 C rf0 o_98 (q := 107) rfl dX11_looksAtTrial_24 ?_
    refine r_pc (pc1 := 27) rfl ?_
    refine r_iload_n C 1 rfl rfl dX11_looksAtTrial_27 ?_
    refine r_iald C o_107 h dX11_looksAtTrial_28 (fun h => ?_)
    refine r_iast C o_114 h dX11_looksAtTrial_29 (fun h => ?_)
    refine r_nmI h (fun I4 h => ?_)
    refine r_iincN C h (k := 1) (zz := 1) rfl rfl (by decide) (lv1 := fun v5 => [(1, .int v5), (0, .ref (ad 98))]) (fun _ => rfl) dX11_looksAtTrial_30 (fun v5 h => ?_)
    refine r_goto C (tgt := 10) dX11_looksAtTrial_33 (by decide) ?_
    exact r_sub [1, 0] rfl (hr_10  h)
set_option maxHeartbeats 4000000 in
set_option maxRecDepth 100000 in
theorem wL_X11_looksAtTrial_10 {l : Launch} {g : GG} {ad : Nat → Nat} {p : Program} {e : Env} {s : State} {m : MethodId} {args : Array Value} {below : List Frame} {meth : Method} {c : Code} {z : HI} (C : Cx p s m args meth c RX11 cX11_looksAtTrial 2 g (AW ad nO)) (hr : meth.sig.returnType = none) {J : HJ}  : ∀ (f : Nat) {x1 : Int32} {I : HI}, fL_X11_looksAtTrial_10 f x1 I J = some z → V p l e (rmk 0 0) s m args below meth c (MQ below (QAv g ad nO oR z J) args s 0 0 (AW ad nO)) 2 0 0 g (AW ad nO) ad nO oR I J 10 [(0, .ref (ad 98)), (1, .int x1)] [] := by
  intro f
  induction f with
  | zero =>
    intro _ _  h
    have h0 : (none : Option (HI)) = some z := h
    cases h0
  | succ f ih =>
    intro _ _  h
    exact wLB_X11_looksAtTrial_10 C hr ih  h
set_option maxHeartbeats 4000000 in
set_option maxRecDepth 100000 in
theorem w_X11_looksAtTrial {l : Launch} {g : GG} {ad : Nat → Nat} {p : Program} {e : Env} {s : State} {m : MethodId} {args : Array Value} {below : List Frame} {meth : Method} {c : Code} {z : HI} (C : Cx p s m args meth c RX11 cX11_looksAtTrial 2 g (AW ad nO)) (hr : meth.sig.returnType = none) {I : HI} {J : HJ} (h : f_X11_looksAtTrial I J = some z) : V p l e (rmk 0 0) s m args below meth c (MQ below (QAv g ad nO oR z J) args s 0 0 (AW ad nO)) 2 0 0 g (AW ad nO) ad nO oR I J 0 [(0, .ref (ad 98))] [] := by
  unfold f_X11_looksAtTrial at h
  refine r_aload_n C 0 rfl rfl dX11_looksAtTrial_0 ?_
  refine r_aload_n C 0 rfl rfl dX11_looksAtTrial_1 ?_
  refine gf_X11_86 C o_98 dX11_looksAtTrial_2 ?_
  refine pf_X11_228 C o_98 dX11_looksAtTrial_5 ?_
  refine r_nmI h (fun I6 h => ?_)
  refine r_iconst C (v := 0) (by decide) dX11_looksAtTrial_8 ?_
  refine r_istore_n C (lv1 := [(1, .int (0 : Int32)), (0, .ref (ad 98))]) rfl (by decide) rfl dX11_looksAtTrial_9 ?_
  exact r_sub [1, 0] rfl (wL_X11_looksAtTrial_10 C hr _  h)
set_option maxHeartbeats 4000000 in
set_option maxRecDepth 100000 in
theorem c_X11_looksAtTrial {l : Launch} {g : GG} {ad : Nat → Nat} {I : HI} {J : HJ} {I1 : HI} (h : f_X11_looksAtTrial I J = some I1) : CM l yX11_looksAtTrial cX11_looksAtTrial 2 none (rmk 0 0) g ad nO oR [.ref (ad 98)] I J (QAv g ad nO oR I1 J) :=
  CM_of (by decide +kernel) (Nat.le_of_ble_eq_true rfl) (fun p e s m args below meth c C hr => w_X11_looksAtTrial C hr h)

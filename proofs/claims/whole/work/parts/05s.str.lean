theorem lk_J0_335 : Cond.methodLink RJ0 335 yJ0_coder_7d493 ∈ WALL := wall_i 542 (by decide +kernel) (by decide +kernel)
theorem lk_J0_492 : Cond.methodLink RJ0 492 yJ0_isLatin1_aae02 ∈ WALL := wall_i 552 (by decide +kernel) (by decide +kernel)
theorem lk_J0_495 : Cond.methodLink RJ0 495 yJ1_charAt_3b067 ∈ WALL := wall_i 556 (by decide +kernel) (by decide +kernel)
theorem lk_J1_9 : Cond.methodLink RJ1 9 yJ0_checkIndex_df160 ∈ WALL := wall_i 559 (by decide +kernel) (by decide +kernel)
theorem lk_J0_1059 : Cond.methodLink RJ0 1059 yJ3_checkIndex_8e157 ∈ WALL := wall_i 564 (by decide +kernel) (by decide +kernel)
theorem lk_J0_9 : Cond.fieldLink RJ0 9 "java/lang/String" "value" "[B" ∈ WALL := wall_i 1633 (by decide +kernel) (by decide +kernel)
theorem lk_J0_15 : Cond.fieldLink RJ0 15 "java/lang/String" "coder" "B" ∈ WALL := wall_i 1634 (by decide +kernel) (by decide +kernel)
theorem lk_J0_38 : Cond.fieldLink RJ0 38 "java/lang/String" "COMPACT_STRINGS" "Z" ∈ WALL := wall_i 546 (by decide +kernel) (by decide +kernel)
theorem lk_J0_1053 : Cond.fieldLink RJ0 1053 "jdk/internal/util/Preconditions" "SIOOBE_FORMATTER" "Ljava/util/function/BiFunction;" ∈ WALL := wall_i 562 (by decide +kernel) (by decide +kernel)
theorem fm_J0_coder_7d493 : FV yJ0_coder_7d493 cJ0_coder_7d493 1 (some .byte) 0 := ⟨wall_i 543 (by decide +kernel) (by decide +kernel), wall_i 544 (by decide +kernel) (by decide +kernel), wall_i 92 (by decide +kernel) (by decide +kernel), wall_i 545 (by decide +kernel) (by decide +kernel), by decide +kernel, by decide +kernel, by decide +kernel⟩
theorem fm_J0_isLatin1_aae02 : FV yJ0_isLatin1_aae02 cJ0_isLatin1_aae02 1 (some .boolean) 0 := ⟨wall_i 553 (by decide +kernel) (by decide +kernel), wall_i 554 (by decide +kernel) (by decide +kernel), wall_i 92 (by decide +kernel) (by decide +kernel), wall_i 555 (by decide +kernel) (by decide +kernel), by decide +kernel, by decide +kernel, by decide +kernel⟩
theorem fm_J0_length_8abf5 : FV yJ0_length_8abf5 cJ0_length_8abf5 1 (some .int) 0 := ⟨wall_i 539 (by decide +kernel) (by decide +kernel), wall_i 540 (by decide +kernel) (by decide +kernel), wall_i 92 (by decide +kernel) (by decide +kernel), wall_i 541 (by decide +kernel) (by decide +kernel), by decide +kernel, by decide +kernel, by decide +kernel⟩
theorem fm_J0_charAt_5068e : FV yJ0_charAt_5068e cJ0_charAt_5068e 2 (some .char) 1 := ⟨wall_i 549 (by decide +kernel) (by decide +kernel), wall_i 550 (by decide +kernel) (by decide +kernel), wall_i 92 (by decide +kernel) (by decide +kernel), wall_i 551 (by decide +kernel) (by decide +kernel), by decide +kernel, by decide +kernel, by decide +kernel⟩
theorem fm_J1_charAt_3b067 : FS yJ1_charAt_3b067 cJ1_charAt_3b067 2 (some .char) 2 := ⟨wall_i 557 (by decide +kernel) (by decide +kernel), wall_i 93 (by decide +kernel) (by decide +kernel), wall_i 558 (by decide +kernel) (by decide +kernel), by decide +kernel, by decide +kernel, by decide +kernel⟩
theorem fm_J0_checkIndex_df160 : FS yJ0_checkIndex_df160 cJ0_checkIndex_df160 2 none 2 := ⟨wall_i 560 (by decide +kernel) (by decide +kernel), wall_i 92 (by decide +kernel) (by decide +kernel), wall_i 561 (by decide +kernel) (by decide +kernel), by decide +kernel, by decide +kernel, by decide +kernel⟩
theorem fm_J3_checkIndex_8e157 : FS yJ3_checkIndex_8e157 cJ3_checkIndex_8e157 3 (some .int) 3 := ⟨wall_i 565 (by decide +kernel) (by decide +kernel), wall_i 94 (by decide +kernel) (by decide +kernel), wall_i 566 (by decide +kernel) (by decide +kernel), by decide +kernel, by decide +kernel, by decide +kernel⟩
section STRS
variable {p : Program} {l : Launch} {e : Env} {Rm : Room} {s : State} {m : MethodId} {args : Array Value} {below : List Frame} {meth : Method} {c : Code} {Q : State → Prop}
variable {own : String} {cc : ByteArray} {nL : Nat} {g : GG} {ad : Nat → Nat} {n : Nat} {R : HR} {I : HI} {J : HJ} {pc : Nat} {lv : List (Nat × Value)} {st : List Value} {A : Nat → Prop} {nc ns : Nat}
theorem r_ldcS (C : Cx p s m args meth c RX8 cc nL g A) (i : Nat) (hi : i < 2) (hdg : decode cc pc = .ok (.ldc (ixJS i), 2)) (kk : V p l e Rm s m args below meth c Q nL nc ns g A ad n R I J (pc + 2) lv (.ref (g.2.2.2.1 i) :: st)) : V p l e Rm s m args below meth c Q nL nc ns g A ad n R I J pc lv st := fun H locs ls hP hS hl hV =>
  va_ldcS C.1 C.2.1 C.2.2.2.1 (C.2.2.2.2.2.1.2.1.2.2.1 i hi) hdg (kk H locs ls hP hS hl hV)
theorem r_gsv (C : Cx p s m args meth c own cc nL g A) {ix i : Nat} (hi : i < 2) (hlk : Cond.fieldLink own ix "java/lang/String" "value" "[B" ∈ WALL) (hdg : decode cc pc = .ok (.getfield ix, 3)) (kk : V p l e Rm s m args below meth c Q nL nc ns g A ad n R I J (pc + 3) lv (.ref (g.2.2.2.2 i) :: st)) : V p l e Rm s m args below meth c Q nL nc ns g A ad n R I J pc lv (.ref (g.2.2.2.1 i) :: st) := fun H locs ls hP hS hl hV =>
  vk_getf C.1 C.2.1 (C.2.2.2.2.2.1.2.1.2.1.1 i hi).2.2.1 hS C.2.2.2.1 (C.2.2.2.2.1 _ hlk) (fun _ h => h) hdg (kk H locs ls hP hS hl hV)
theorem r_gsc (C : Cx p s m args meth c own cc nL g A) {ix i : Nat} (hi : i < 2) (hlk : Cond.fieldLink own ix "java/lang/String" "coder" "B" ∈ WALL) (hdg : decode cc pc = .ok (.getfield ix, 3)) (kk : V p l e Rm s m args below meth c Q nL nc ns g A ad n R I J (pc + 3) lv (.int 0 :: st)) : V p l e Rm s m args below meth c Q nL nc ns g A ad n R I J pc lv (.ref (g.2.2.2.1 i) :: st) := fun H locs ls hP hS hl hV =>
  vk_getf C.1 C.2.1 (C.2.2.2.2.2.1.2.1.2.1.1 i hi).2.1 hS C.2.2.2.1 (C.2.2.2.2.1 _ hlk) (fun _ h => h) hdg (kk H locs ls hP hS hl hV)
theorem r_gcs (C : Cx p s m args meth c own cc nL g A) {ix : Nat} (hlk : Cond.fieldLink own ix "java/lang/String" "COMPACT_STRINGS" "Z" ∈ WALL) (hdg : decode cc pc = .ok (.getstatic ix, 3)) (kk : V p l e Rm s m args below meth c Q nL nc ns g A ad n R I J (pc + 3) lv (.int 1 :: st)) : V p l e Rm s m args below meth c Q nL nc ns g A ad n R I J pc lv st := fun H locs ls hP hS hl hV =>
  va_gets C.1 C.2.1 C.2.2.2.2.2.1.2.1.2.2.2.1 hS C.2.2.2.1 (C.2.2.2.2.1 _ hlk) (fun _ h => h) hdg (kk H locs ls hP hS hl hV)
theorem r_gfm (C : Cx p s m args meth c own cc nL g A) {ix : Nat} (hlk : Cond.fieldLink own ix "jdk/internal/util/Preconditions" "SIOOBE_FORMATTER" "Ljava/util/function/BiFunction;" ∈ WALL) (hdg : decode cc pc = .ok (.getstatic ix, 3)) (k1 : V p l e Rm s m args below meth c Q nL nc ns g A ad n R I J (pc + 3) lv (.null :: st)) (k2 : ∀ t, V p l e Rm s m args below meth c Q nL nc ns g A ad n R I J (pc + 3) lv (.ref t :: st)) : V p l e Rm s m args below meth c Q nL nc ns g A ad n R I J pc lv st := fun H locs ls hP hS hl hV => by
  rcases C.2.2.2.2.2.1.2.1.2.2.2.2 with hZ | ⟨t, hZ⟩
  · exact va_gets C.1 C.2.1 hZ hS C.2.2.2.1 (C.2.2.2.2.1 _ hlk) (fun _ h => h) hdg (k1 H locs ls hP hS hl hV)
  · exact va_gets C.1 C.2.1 hZ hS C.2.2.2.1 (C.2.2.2.2.1 _ hlk) (fun _ h => h) hdg (k2 t H locs ls hP hS hl hV)
theorem r_btlen (C : Cx p s m args meth c own cc nL g A) {i : Nat} (hi : i < 2) (hdg : decode cc pc = .ok (.arraylength, 1)) (kk : V p l e Rm s m args below meth c Q nL nc ns g A ad n R I J (pc + 1) lv (.int (Int32.ofNat (lenJS.getD i 0)) :: st)) : V p l e Rm s m args below meth c Q nL nc ns g A ad n R I J pc lv (.ref (g.2.2.2.2 i) :: st) := fun H locs ls hP hS hl hV =>
  va_tlen C.1 C.2.1 (C.2.2.2.2.2.1.2.1.2.1.1 i hi).2.2.2 hS rfl hdg (kk H locs ls hP hS hl hV)
theorem r_btld (C : Cx p s m args meth c own cc nL g A) {i : Nat} {k : Int32} (hi : i < 2) (hin : vp_in k (lenJS.getD i 0)) (hdg : decode cc pc = .ok (.baload, 1)) (kk : V p l e Rm s m args below meth c Q nL nc ns g A ad n R I J (pc + 1) lv (.int ((bytJS.getD i []).getD k.toNatClampNeg 0) :: st)) : V p l e Rm s m args below meth c Q nL nc ns g A ad n R I J pc lv (.int k :: .ref (g.2.2.2.2 i) :: st) := fun H locs ls hP hS hl hV =>
  va_tb C.1 C.2.1 (C.2.2.2.2.2.1.2.1.2.1.1 i hi).2.2.2 hS hin rfl hdg (kk H locs ls hP hS hl hV)
theorem r_i2c (C : Cx p s m args meth c own cc nL g A) {x : Int32} (hdg : decode cc pc = .ok (.i2c, 1)) (kk : V p l e Rm s m args below meth c Q nL nc ns g A ad n R I J (pc + 1) lv (.int (x.toUInt32 % 65536).toInt32 :: st)) : V p l e Rm s m args below meth c Q nL nc ns g A ad n R I J pc lv (.int x :: st) := fun H locs ls hP hS hl hV => lv_i2c C.1 C.2.1 hdg rfl (kk H locs ls hP hS hl hV)
theorem r_tret (C : Cx p s m args meth c own cc nL g (AW ad n)) {v : Int32} {ty : FieldType} (hz : narrow ty (.int v) = .int v) (hr : meth.sig.returnType = some ty) (hdg : decode cc pc = .ok (.ireturn, 1)) : V p l e Rm s m args below meth c (MQ below (QAi g ad n R v I J) args s 0 0 (AW ad n)) nL 0 0 g (AW ad n) ad n R I J pc lv [.int v] := fun H locs ls hP hS hl hV =>
  W.zret C.1 C.2.1 hr hz (fun t ht hW => ⟨⟨v, (), rfl, rfl, by rw [ht]; exact hP, by rw [ht]; exact WS_of C hV.2 hS hW⟩, hS.F ht⟩) hS.2.2 hdg C.2.2.2.2.2.2
theorem r_runVS (C : Cx p s m args meth c own cc nL g A) {y : MethodName} {bytes : ByteArray} {maxL ix a i : Nat} {ret : Option FieldType} {rm : Room} {As rest : List Value} {Qc : Array Value → State → Outcome → State → Prop} {H : Heap} {locs : List Loc} {ls : Array Slot} (hP : va_P g.1 vwCl (WL g ad n R I J) H) (hS : va_S A s.heap H locs) (hl : lv_has ls nL lv) (hV : (nc ≤ Rm.cells ∧ ns ≤ Rm.slots) ∧ adOk ad n ∧ ∀ k, k < n → A (ad k)) (hM : CM l y bytes maxL ret rm g ad n R (.ref (g.2.2.2.1 i) :: As) I J Qc) (F : FV y bytes maxL ret a) (hlk : Cond.methodLink own ix y ∈ WALL) (hi : i < 2) (hcl : y.cls = "java/lang/String") (hA : As.length = a) (hR : RO rm Rm maxL) (hw : (rest.map fun v => v.category).sum ≤ 8) (hst : st = As.reverse ++ .ref (g.2.2.2.1 i) :: rest) (hdg : decode cc pc = .ok (.invokevirtual ix, 3)) : va_Run p l e Rm s m args below meth c H locs nc ns 0 0 (F0 m pc ls st) rest (Qc (Value.ref (g.2.2.2.1 i) :: As).toArray) (AW ad n) := by
  obtain ⟨f1, f2, f3, f4, f5, f6, f7⟩ := F
  subst hst
  refine va_runV (As := As) (rest := rest) (Ts := WALL) ⟨C.1, C.2.1, C.2.2.1, C.2.2.2.1, C.2.2.2.2.1⟩ hM (cwV a C.2.2.2.2.1 (good_pre (fun w hw => ?_) f4) rfl hR.1 hR.2.1 ⟨rfl, f5, f6, f7⟩ ⟨hR.2.2.1, hR.2.2.2⟩) ⟨fun a U fr mk q => ⟨q.1, q.2.blind⟩, by rw [hcl]; exact vk_recv C.2.2.2.2.2.1.2.1.2.1 hi hS, fun U hU hW => ⟨rfl, by rw [hU]; exact hP, by rw [hU]; exact WS_of C hV.2 hS hW⟩⟩ rfl hA hl.1 rfl (lv_room hw) hdg ⟨hV.1.1, hV.1.2⟩
  simp only [List.mem_cons, List.not_mem_nil, or_false] at hw
  rcases hw with rfl | rfl | rfl | rfl
  · exact hlk
  · exact f1
  · exact f2
  · exact f3
theorem r_cvis (C : Cx p s m args meth c own cc nL g A) {y : MethodName} {bytes : ByteArray} {maxL ix a i : Nat} {ret : Option FieldType} {rm : Room} {As rest : List Value} {r : Int32} {I1 : HI} {J1 : HJ} (hM : CM l y bytes maxL ret rm g ad n R (.ref (g.2.2.2.1 i) :: As) I J (QAi g ad n R r I1 J1)) (F : FV y bytes maxL ret a) (hlk : Cond.methodLink own ix y ∈ WALL) (hi : i < 2) (hcl : y.cls = "java/lang/String") (hA : As.length = a) (hR : RO rm Rm maxL) (hw : (rest.map fun v => v.category).sum ≤ 8) (hst : st = As.reverse ++ .ref (g.2.2.2.1 i) :: rest) (hdg : decode cc pc = .ok (.invokevirtual ix, 3)) (kk : V p l e Rm s m args below meth c Q nL nc ns g A ad n R I1 J1 (pc + 3) lv (.int r :: rest)) : V p l e Rm s m args below meth c Q nL nc ns g A ad n R I J pc lv st := fun H locs ls hP hS hl hV =>
  va_calli (r_runVS C hP hS hl hV hM F hlk hi hcl hA hR hw hst hdg) hS (fun q _ h => AW_A hV.2.2 q h) (fun q h => AW_A hV.2.2 q h) (fun r9 u t H1 locs1 ht hvm hw9 hB hz1 hk1 hS1 => by
    obtain rfl := hw9
    exact kk H1 locs1 ls (by rw [← ht]; exact hB.1) hS1 hl hV)
end STRS
set_option maxHeartbeats 4000000 in
set_option maxRecDepth 100000 in
theorem c_J0_coder_7d493 {l : Launch} {g : GG} {ad : Nat → Nat} {n : Nat} {R : HR} {I : HI} {J : HJ} {i : Nat} (hi : i < 2) : CM l yJ0_coder_7d493 cJ0_coder_7d493 1 (some .byte) (rmk 0 0) g ad n R [.ref (g.2.2.2.1 i)] I J (QAi g ad n R 0 I J) := by
  refine CM_of (by decide +kernel) (Nat.le_of_ble_eq_true rfl) (fun p e s m args below meth c C hr => ?_)
  refine r_gcs C lk_J0_38 dJ0_coder_7d493_0 ?_
  refine r_if_eq (XA := true) (XB := false) (z := false) C (tgt := 13) rfl dJ0_coder_7d493_3 (by decide) (fun h => by cases h) (fun _ => ?_)
  refine r_aload_n C 0 rfl rfl dJ0_coder_7d493_6 ?_
  refine r_gsc C hi lk_J0_15 dJ0_coder_7d493_7 ?_
  refine r_goto C (tgt := 14) dJ0_coder_7d493_10 (by decide) ?_
  exact r_tret C rfl hr dJ0_coder_7d493_14
set_option maxHeartbeats 4000000 in
set_option maxRecDepth 100000 in
theorem c_J0_isLatin1_aae02 {l : Launch} {g : GG} {ad : Nat → Nat} {n : Nat} {R : HR} {I : HI} {J : HJ} {i : Nat} (hi : i < 2) : CM l yJ0_isLatin1_aae02 cJ0_isLatin1_aae02 1 (some .boolean) (rmk 0 0) g ad n R [.ref (g.2.2.2.1 i)] I J (QAi g ad n R 1 I J) := by
  refine CM_of (by decide +kernel) (Nat.le_of_ble_eq_true rfl) (fun p e s m args below meth c C hr => ?_)
  refine r_gcs C lk_J0_38 dJ0_isLatin1_aae02_0 ?_
  refine r_if_eq (XA := true) (XB := false) (z := false) C (tgt := 17) rfl dJ0_isLatin1_aae02_3 (by decide) (fun h => by cases h) (fun _ => ?_)
  refine r_aload_n C 0 rfl rfl dJ0_isLatin1_aae02_6 ?_
  refine r_gsc C hi lk_J0_15 dJ0_isLatin1_aae02_7 ?_
  refine r_if_ne (XA := true) (XB := false) (z := true) C (tgt := 17) rfl dJ0_isLatin1_aae02_10 (by decide) (fun h => by cases h) (fun _ => ?_)
  refine r_iconst C (v := 1) (by decide) dJ0_isLatin1_aae02_13 ?_
  refine r_goto C (tgt := 18) dJ0_isLatin1_aae02_14 (by decide) ?_
  exact r_tret C rfl hr dJ0_isLatin1_aae02_18
theorem js_len : ∀ i, i < 2 → (Int32.ofNat (lenJS.getD i 0) >>> ((0 : Int32) &&& 31)) = nI (lenJS.getD i 0) := by decide +kernel
theorem js_ch : ∀ i, i < 2 → ∀ j, j < lenJS.getD i 0 → ((((bytJS.getD i []).getD j 0) &&& 255).toUInt32 % 65536).toInt32 = (bytJS.getD i []).getD j 0 ∧ narrow .char (.int ((bytJS.getD i []).getD j 0)) = .int ((bytJS.getD i []).getD j 0) := by decide +kernel
set_option maxHeartbeats 4000000 in
set_option maxRecDepth 100000 in
theorem c_J0_length_8abf5 {l : Launch} {g : GG} {ad : Nat → Nat} {n : Nat} {R : HR} {I : HI} {J : HJ} {i : Nat} (hi : i < 2) : CM l yJ0_length_8abf5 cJ0_length_8abf5 1 (some .int) (rmk 1 20) g ad n R [.ref (g.2.2.2.1 i)] I J (QAi g ad n R (nI (lenJS.getD i 0)) I J) := by
  refine CM_of (by decide +kernel) (Nat.le_of_ble_eq_true rfl) (fun p e s m args below meth c C hr => ?_)
  refine r_aload_n C 0 rfl rfl dJ0_length_8abf5_0 ?_
  refine r_gsv C hi lk_J0_9 dJ0_length_8abf5_1 ?_
  refine r_btlen C hi dJ0_length_8abf5_4 ?_
  refine r_aload_n C 0 rfl rfl dJ0_length_8abf5_5 ?_
  refine r_cvis C (rest := [.int (Int32.ofNat (lenJS.getD i 0))]) (c_J0_coder_7d493 hi) fm_J0_coder_7d493 lk_J0_335 hi rfl rfl ⟨rfl, rfl, (Nat.le_of_ble_eq_true rfl), (Nat.le_of_ble_eq_true rfl)⟩ (Nat.le_of_ble_eq_true rfl) rfl dJ0_length_8abf5_6 ?_
  refine r_ishr C dJ0_length_8abf5_9 ?_
  rw [js_len i hi]
  exact r_iret C hr dJ0_length_8abf5_10
set_option maxHeartbeats 4000000 in
set_option maxRecDepth 100000 in
theorem c_J3_checkIndex_8e157_N {l : Launch} {g : GG} {ad : Nat → Nat} {n : Nat} {R : HR} {I : HI} {J : HJ} {a b : Int32} {t : Nat} (h0 : ¬ a < 0) (h1 : a < b) : CM l yJ3_checkIndex_8e157 cJ3_checkIndex_8e157 3 (some .int) (rmk 0 0) g ad n R [.int a, .int b, .null] I J (QAi g ad n R a I J) := by
  refine CM_of (by decide +kernel) (Nat.le_of_ble_eq_true rfl) (fun p e s m args below meth c C hr => ?_)
  refine r_iload_n C 0 rfl rfl dJ3_checkIndex_8e157_0 ?_
  refine r_if_lt (XA := true) (XB := false) (z := false) C (tgt := 9) (by rw [if_neg h0]) dJ3_checkIndex_8e157_1 (by decide) (fun h => by cases h) (fun _ => ?_)
  refine r_iload_n C 0 rfl rfl dJ3_checkIndex_8e157_4 ?_
  refine r_iload_n C 1 rfl rfl dJ3_checkIndex_8e157_5 ?_
  refine r_icmp_lt (XA := true) (XB := false) (z := true) C (tgt := 16) (by rw [if_pos h1]) dJ3_checkIndex_8e157_6 (by decide) (fun _ => ?_) (fun h => by cases h)
  refine r_iload_n C 0 rfl rfl dJ3_checkIndex_8e157_16 ?_
  exact r_iret C hr dJ3_checkIndex_8e157_17
set_option maxHeartbeats 4000000 in
set_option maxRecDepth 100000 in
theorem c_J3_checkIndex_8e157_R {l : Launch} {g : GG} {ad : Nat → Nat} {n : Nat} {R : HR} {I : HI} {J : HJ} {a b : Int32} {t : Nat} (h0 : ¬ a < 0) (h1 : a < b) : CM l yJ3_checkIndex_8e157 cJ3_checkIndex_8e157 3 (some .int) (rmk 0 0) g ad n R [.int a, .int b, .ref t] I J (QAi g ad n R a I J) := by
  refine CM_of (by decide +kernel) (Nat.le_of_ble_eq_true rfl) (fun p e s m args below meth c C hr => ?_)
  refine r_iload_n C 0 rfl rfl dJ3_checkIndex_8e157_0 ?_
  refine r_if_lt (XA := true) (XB := false) (z := false) C (tgt := 9) (by rw [if_neg h0]) dJ3_checkIndex_8e157_1 (by decide) (fun h => by cases h) (fun _ => ?_)
  refine r_iload_n C 0 rfl rfl dJ3_checkIndex_8e157_4 ?_
  refine r_iload_n C 1 rfl rfl dJ3_checkIndex_8e157_5 ?_
  refine r_icmp_lt (XA := true) (XB := false) (z := true) C (tgt := 16) (by rw [if_pos h1]) dJ3_checkIndex_8e157_6 (by decide) (fun _ => ?_) (fun h => by cases h)
  refine r_iload_n C 0 rfl rfl dJ3_checkIndex_8e157_16 ?_
  exact r_iret C hr dJ3_checkIndex_8e157_17
set_option maxHeartbeats 4000000 in
set_option maxRecDepth 100000 in
theorem c_J0_checkIndex_df160 {l : Launch} {g : GG} {ad : Nat → Nat} {n : Nat} {R : HR} {I : HI} {J : HJ} {a b : Int32} (h0 : ¬ a < 0) (h1 : a < b) : CM l yJ0_checkIndex_df160 cJ0_checkIndex_df160 2 none (rmk 1 22) g ad n R [.int a, .int b] I J (QAv g ad n R I J) := by
  refine CM_of (by decide +kernel) (Nat.le_of_ble_eq_true rfl) (fun p e s m args below meth c C hr => ?_)
  refine r_iload_n C 0 rfl rfl dJ0_checkIndex_df160_0 ?_
  refine r_iload_n C 1 rfl rfl dJ0_checkIndex_df160_1 ?_
  refine r_gfm C lk_J0_1053 dJ0_checkIndex_df160_2 ?_ (fun t => ?_)
  · refine r_csi C (rest := []) (c_J3_checkIndex_8e157_N (t := 0) h0 h1) fm_J3_checkIndex_8e157 lk_J0_1059 rfl ⟨rfl, rfl, (Nat.le_of_ble_eq_true rfl), (Nat.le_of_ble_eq_true rfl)⟩ (Nat.le_of_ble_eq_true rfl) rfl dJ0_checkIndex_df160_5 ?_
    refine r_pop C rfl dJ0_checkIndex_df160_8 ?_
    exact r_vret C hr dJ0_checkIndex_df160_9
  · refine r_csi C (rest := []) (c_J3_checkIndex_8e157_R (t := t) h0 h1) fm_J3_checkIndex_8e157 lk_J0_1059 rfl ⟨rfl, rfl, (Nat.le_of_ble_eq_true rfl), (Nat.le_of_ble_eq_true rfl)⟩ (Nat.le_of_ble_eq_true rfl) rfl dJ0_checkIndex_df160_5 ?_
    refine r_pop C rfl dJ0_checkIndex_df160_8 ?_
    exact r_vret C hr dJ0_checkIndex_df160_9
theorem vin_js {k : Int32} {i : Nat} (hi : i < 2) (h : vin k (lenJS.getD i 0) = true) : ¬ k < 0 ∧ k < Int32.ofNat (lenJS.getD i 0) := by
  have h1 := vin_in h
  have hn : lenJS.getD i 0 < 100 := (by decide : ∀ i, i < 2 → lenJS.getD i 0 < 100) i hi
  obtain ⟨j, hj, rfl⟩ := vp_in_of h1 (by omega)
  exact ⟨nI_pos (by omega), nI_lt hj (by omega)⟩
set_option maxHeartbeats 4000000 in
set_option maxRecDepth 100000 in
theorem c_J1_charAt_3b067 {l : Launch} {g : GG} {ad : Nat → Nat} {n : Nat} {R : HR} {I : HI} {J : HJ} {i : Nat} {k : Int32} (hi : i < 2) (hv : vin k (lenJS.getD i 0) = true) : CM l yJ1_charAt_3b067 cJ1_charAt_3b067 2 (some .char) (rmk 2 43) g ad n R [.ref (g.2.2.2.2 i), .int k] I J (QAi g ad n R (chJS i k) I J) := by
  refine CM_of (by decide +kernel) (Nat.le_of_ble_eq_true rfl) (fun p e s m args below meth c C hr => ?_)
  obtain ⟨h0, h1⟩ := vin_js hi hv
  obtain ⟨e1, e2⟩ := js_ch i hi _ (vin_lt hv)
  refine r_iload_n C 1 rfl rfl dJ1_charAt_3b067_0 ?_
  refine r_aload_n C 0 rfl rfl dJ1_charAt_3b067_1 ?_
  refine r_btlen C hi dJ1_charAt_3b067_2 ?_
  refine r_csv C (rest := []) (c_J0_checkIndex_df160 h0 h1) fm_J0_checkIndex_df160 lk_J1_9 rfl ⟨rfl, rfl, (Nat.le_of_ble_eq_true rfl), (Nat.le_of_ble_eq_true rfl)⟩ (Nat.le_of_ble_eq_true rfl) rfl dJ1_charAt_3b067_3 ?_
  refine r_aload_n C 0 rfl rfl dJ1_charAt_3b067_6 ?_
  refine r_iload_n C 1 rfl rfl dJ1_charAt_3b067_7 ?_
  refine r_btld C hi (vin_in hv) dJ1_charAt_3b067_8 ?_
  refine r_sipush C (v := 255) (by decide) dJ1_charAt_3b067_9 ?_
  refine r_iand C dJ1_charAt_3b067_12 ?_
  refine r_i2c C dJ1_charAt_3b067_13 ?_
  rw [e1]
  exact r_tret C e2 hr dJ1_charAt_3b067_14
set_option maxHeartbeats 4000000 in
set_option maxRecDepth 100000 in
theorem c_J0_charAt_5068e {l : Launch} {g : GG} {ad : Nat → Nat} {n : Nat} {R : HR} {I : HI} {J : HJ} {i : Nat} {k : Int32} (hi : i < 2) (hv : vin k (lenJS.getD i 0) = true) : CM l yJ0_charAt_5068e cJ0_charAt_5068e 2 (some .char) (rmk 3 64) g ad n R [.ref (g.2.2.2.1 i), .int k] I J (QAi g ad n R (chJS i k) I J) := by
  refine CM_of (by decide +kernel) (Nat.le_of_ble_eq_true rfl) (fun p e s m args below meth c C hr => ?_)
  obtain ⟨e1, e2⟩ := js_ch i hi _ (vin_lt hv)
  refine r_aload_n C 0 rfl rfl dJ0_charAt_5068e_0 ?_
  refine r_cvis C (rest := []) (c_J0_isLatin1_aae02 hi) fm_J0_isLatin1_aae02 lk_J0_492 hi rfl rfl ⟨rfl, rfl, (Nat.le_of_ble_eq_true rfl), (Nat.le_of_ble_eq_true rfl)⟩ (Nat.le_of_ble_eq_true rfl) rfl dJ0_charAt_5068e_1 ?_
  refine r_if_eq (XA := true) (XB := false) (z := false) C (tgt := 16) rfl dJ0_charAt_5068e_4 (by decide) (fun h => by cases h) (fun _ => ?_)
  refine r_aload_n C 0 rfl rfl dJ0_charAt_5068e_7 ?_
  refine r_gsv C hi lk_J0_9 dJ0_charAt_5068e_8 ?_
  refine r_iload_n C 1 rfl rfl dJ0_charAt_5068e_11 ?_
  refine r_csi C (rest := []) (c_J1_charAt_3b067 hi hv) fm_J1_charAt_3b067 lk_J0_495 rfl ⟨rfl, rfl, (Nat.le_of_ble_eq_true rfl), (Nat.le_of_ble_eq_true rfl)⟩ (Nat.le_of_ble_eq_true rfl) rfl dJ0_charAt_5068e_12 ?_
  exact r_tret C e2 hr dJ0_charAt_5068e_15
section STRT
variable {p : Program} {l : Launch} {e : Env} {Rm : Room} {s : State} {m : MethodId} {args : Array Value} {below : List Frame} {meth : Method} {c : Code} {Q : State → Prop}
variable {own : String} {cc : ByteArray} {nL : Nat} {g : GG} {ad : Nat → Nat} {n : Nat} {R : HR} {I : HI} {J : HJ} {pc : Nat} {lv : List (Nat × Value)} {st : List Value} {A : Nat → Prop} {nc ns : Nat}
theorem r_strlen (C : Cx p s m args meth c own cc nL g A) {ix i : Nat} (hi : i < 2) (hlk : Cond.methodLink own ix yJ0_length_8abf5 ∈ WALL) (hfr : 4 ≤ Rm.frames) (hlo : 150 ≤ Rm.locals) {rest : List Value} (hw : (rest.map fun v => v.category).sum ≤ 8) (hst : st = .ref (g.2.2.2.1 i) :: rest) (hdg : decode cc pc = .ok (.invokevirtual ix, 3)) (kk : V p l e Rm s m args below meth c Q nL nc ns g A ad n R I J (pc + 3) lv (.int (nI (lenJS.getD i 0)) :: rest)) : V p l e Rm s m args below meth c Q nL nc ns g A ad n R I J pc lv st :=
  r_cvis C (As := []) (rest := rest) (c_J0_length_8abf5 hi) fm_J0_length_8abf5 hlk hi rfl rfl ⟨rfl, rfl, by show 1 + 1 ≤ _; omega, by show 8 + (1 + 11) + 20 ≤ _; omega⟩ hw hst hdg kk
theorem r_strch (C : Cx p s m args meth c own cc nL g A) {ix i : Nat} {ρ : Type} {X : Option ρ} {z : ρ} {k : Int32} (hi : i < 2) (hlk : Cond.methodLink own ix yJ0_charAt_5068e ∈ WALL) (hfr : 4 ≤ Rm.frames) (hlo : 150 ≤ Rm.locals) {rest : List Value} (hw : (rest.map fun v => v.category).sum ≤ 8) (hst : st = .int k :: .ref (g.2.2.2.1 i) :: rest) (h : (if vin k (lenJS.getD i 0) = true then X else none) = some z) (hdg : decode cc pc = .ok (.invokevirtual ix, 3)) (kk : X = some z → V p l e Rm s m args below meth c Q nL nc ns g A ad n R I J (pc + 3) lv (.int (chJS i k) :: rest)) : V p l e Rm s m args below meth c Q nL nc ns g A ad n R I J pc lv st :=
  r_cvis C (As := [.int k]) (rest := rest) (c_J0_charAt_5068e hi (ck h).1) fm_J0_charAt_5068e hlk hi rfl rfl ⟨rfl, rfl, by show 3 + 1 ≤ _; omega, by show 8 + (2 + 11) + 64 ≤ _; omega⟩ hw hst hdg (kk (ck h).2)
end STRT

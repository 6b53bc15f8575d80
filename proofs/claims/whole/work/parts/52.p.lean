theorem mbeg_l {a0 a1 a2 : Int32} {J : HJ} : ∀ d i f, i + d = 6 → d < f → ∀ I : HI, ∃ I1, fL_X11_begin_45 a0 a1 a2 f (nI i) I J = some (1, put (put (put (put I1 99 0 a0) 99 1 a1) 99 2 a2) 99 9 0, putJ (putJ (putJ J 101 0 0) 101 1 0) 101 2 a0.toInt64) ∧ (∀ x, i ≤ x → x < 6 → I1 99 x = 0) ∧ ∀ a j, ¬ (a = 99 ∧ i ≤ j ∧ j < 6) → I1 a j = I a j := by
  refine fuel (L := fL_X11_begin_45 a0 a1 a2) (B := fLB_X11_begin_45 a0 a1 a2) (fun _ => rfl) (P := fun i g => ∀ I : HI, ∃ I1, g (nI i) I J = some (1, put (put (put (put I1 99 0 a0) 99 1 a1) 99 2 a2) 99 9 0, putJ (putJ (putJ J 101 0 0) 101 1 0) 101 2 a0.toInt64) ∧ (∀ x, i ≤ x → x < 6 → I1 99 x = 0) ∧ ∀ a j, ¬ (a = 99 ∧ i ≤ j ∧ j < 6) → I1 a j = I a j) (fun g I => ?_) (fun i g hi ih I => ?_)
  · refine ⟨I, ?_, fun x h1 h2 => by omega, fun a j _ => rfl⟩
    unfold fLB_X11_begin_45
    rw [if_pos (by decide)]
    simp (disch := omega) only [bd1_s, bd2_s, bd3_s, nm_s, wi_s, ite_bI, bI_1, le_pred, if_true, in_x, cl_nI, vin_nI, nI_add, nI_mul, le_nn, lt_nn, eq_nn, sb, reduceIte, N_0, N_1, N_2, N_3, N_4, N_5, N_6, N_7, N_8, N_9, N_10, N_11, N_12, N_13, N_14, N_16, N_20, N_30, N_31, N_32, N_37, N_40, N_41, N_42, N_43, N_45, N_47, N_48, N_50, N_57, N_59, N_60, N_61, N_62, N_70, N_71, N_72, N_80, N_81, N_82, N_83, N_97, N_98, N_99, N_100, N_101, N_102, N_103, N_104, N_105, N_107, N_108, N_110, N_111, N_112, N_114, N_115, N_116, N_117, N_119, N_121, N_122, N_200, N_220, N_255, N_256, N_257, N_258, N_400, N_438, N_446, N_666, N_999, N_9999, N_10000, N_10010, N_10011, N_10012, N_10013, N_10014, N_10015, N_10016, N_10017, N_10018, N_12345, N_20000, N_20126, N_99999, N_1103515245, L_m999, L_m1, L_0, L_1, L_2, L_3, L_4, L_7, L_8, L_9, L_10, L_12, L_14, L_40, L_48, L_57, L_97, L_99, L_122, L_255, L_400, L_999, L_9999]
  · obtain ⟨I1, h1, h2, h3⟩ := ih (put I 99 i 0)
    refine ⟨I1, ?_, fun x hx1 hx2 => ?_, fun a j hj => ?_⟩
    · unfold fLB_X11_begin_45
      simp (disch := omega) only [bd1_s, bd2_s, bd3_s, nm_s, wi_s, ite_bI, bI_1, le_pred, if_true, in_x, cl_nI, vin_nI, nI_add, nI_mul, le_nn, lt_nn, eq_nn, sb, reduceIte, N_0, N_1, N_2, N_3, N_4, N_5, N_6, N_7, N_8, N_9, N_10, N_11, N_12, N_13, N_14, N_16, N_20, N_30, N_31, N_32, N_37, N_40, N_41, N_42, N_43, N_45, N_47, N_48, N_50, N_57, N_59, N_60, N_61, N_62, N_70, N_71, N_72, N_80, N_81, N_82, N_83, N_97, N_98, N_99, N_100, N_101, N_102, N_103, N_104, N_105, N_107, N_108, N_110, N_111, N_112, N_114, N_115, N_116, N_117, N_119, N_121, N_122, N_200, N_220, N_255, N_256, N_257, N_258, N_400, N_438, N_446, N_666, N_999, N_9999, N_10000, N_10010, N_10011, N_10012, N_10013, N_10014, N_10015, N_10016, N_10017, N_10018, N_12345, N_20000, N_20126, N_99999, N_1103515245, L_m999, L_m1, L_0, L_1, L_2, L_3, L_4, L_7, L_8, L_9, L_10, L_12, L_14, L_40, L_48, L_57, L_97, L_99, L_122, L_255, L_400, L_999, L_9999]
      rw [if_neg (by omega)]
      exact h1
    · by_cases e : x = i
      · subst e
        rw [h3 _ _ (by omega), put_ap, if_pos ⟨rfl, rfl⟩]
      · exact h2 x (by omega) hx2
    · rw [h3 a j (by omega), put_ap, if_neg (by omega)]
theorem bgn_s {a0 a1 a2 : Int32} {I : HI} {J : HJ} : f_X7_beginAnew 1 a0 a1 a2 I J = some (put (put (put (put (put (put (put (put I 1 1 a0) 1 2 a1) 1 3 a2) 1 4 0) 1 5 0) 1 6 0) 1 12 a0) 2 1 0, putJ (putJ J 1 10 0) 1 11 0) := rfl
theorem sim_begin {N : Nat} {I : HI} {J : HJ} (hN : N ≤ 1000000) (hR : Rel N I J) (a0 : Int32) (a1 : Int32) (a2 : Int32) : ∃ (r : Int32) (I1 : HI) (J1 : HJ) (I2 : HI) (J2 : HJ), f_X10_begin a0 a1 a2 I J = some (r, I1, J1) ∧ f_X11_begin a0 a1 a2 I1 J1 = some (r, I2, J2) ∧ Rel (N + 400) I2 J2 := by
  have hM := hR.mono (Nat.le_add_right N 400)
  by_cases h0 : nI 0 ≤ a0 ∧ a0 ≤ nI 9999
  · by_cases h1 : -nI 999 ≤ a1 ∧ a1 ≤ nI 999
    · by_cases h2 : -nI 999 ≤ a2 ∧ a2 ≤ nI 999
      · obtain ⟨IA, hA⟩ : ∃ IA, IA = put (put (put (put (put (put (put (put I 1 1 a0) 1 2 a1) 1 3 a2) 1 4 0) 1 5 0) 1 6 0) 1 12 a0) 2 1 0 := ⟨_, rfl⟩
        obtain ⟨JA, hJA⟩ : ∃ JA, JA = putJ (putJ J 1 10 0) 1 11 0 := ⟨_, rfl⟩
        obtain ⟨IB, m1, m2, m3⟩ := mbeg_l (a0 := a0) (a1 := a1) (a2 := a2) (J := JA) 6 0 FU rfl (FU_ge (by omega)) IA
        refine ⟨1, IA, JA, put (put (put (put IB 99 0 a0) 99 1 a1) 99 2 a2) 99 9 0, putJ (putJ (putJ JA 101 0 0) 101 1 0) 101 2 a0.toInt64, ?_, ?_, ?_⟩
        · unfold f_X10_begin
          rw [bgn_s, hA, hJA]
          simp (disch := omega) only [bd1_s, bd2_s, bd3_s, nm_s, wi_s, ite_bI, bI_1, le_pred, if_true, in_x, cl_nI, vin_nI, nI_add, nI_mul, le_nn, lt_nn, eq_nn, sb, reduceIte, N_0, N_1, N_2, N_3, N_4, N_5, N_6, N_7, N_8, N_9, N_10, N_11, N_12, N_13, N_14, N_16, N_20, N_30, N_31, N_32, N_37, N_40, N_41, N_42, N_43, N_45, N_47, N_48, N_50, N_57, N_59, N_60, N_61, N_62, N_70, N_71, N_72, N_80, N_81, N_82, N_83, N_97, N_98, N_99, N_100, N_101, N_102, N_103, N_104, N_105, N_107, N_108, N_110, N_111, N_112, N_114, N_115, N_116, N_117, N_119, N_121, N_122, N_200, N_220, N_255, N_256, N_257, N_258, N_400, N_438, N_446, N_666, N_999, N_9999, N_10000, N_10010, N_10011, N_10012, N_10013, N_10014, N_10015, N_10016, N_10017, N_10018, N_12345, N_20000, N_20126, N_99999, N_1103515245, L_m999, L_m1, L_0, L_1, L_2, L_3, L_4, L_7, L_8, L_9, L_10, L_12, L_14, L_40, L_48, L_57, L_97, L_99, L_122, L_255, L_400, L_999, L_9999]
          rw [if_pos h0, if_pos h1, if_pos h2]
        · unfold f_X11_begin
          have e1 : f_X11_in a1.toInt64 (-999 : Int64) (999 : Int64) = some (bI (-nI 999 ≤ a1 ∧ a1 ≤ nI 999)) := in_s (by decide) (by decide)
          have e2 : f_X11_in a2.toInt64 (-999 : Int64) (999 : Int64) = some (bI (-nI 999 ≤ a2 ∧ a2 ≤ nI 999)) := in_s (by decide) (by decide)
          rw [e1, e2]
          simp (disch := omega) only [bd1_s, bd2_s, bd3_s, nm_s, wi_s, ite_bI, bI_1, le_pred, if_true, in_x, cl_nI, vin_nI, nI_add, nI_mul, le_nn, lt_nn, eq_nn, sb, reduceIte, N_0, N_1, N_2, N_3, N_4, N_5, N_6, N_7, N_8, N_9, N_10, N_11, N_12, N_13, N_14, N_16, N_20, N_30, N_31, N_32, N_37, N_40, N_41, N_42, N_43, N_45, N_47, N_48, N_50, N_57, N_59, N_60, N_61, N_62, N_70, N_71, N_72, N_80, N_81, N_82, N_83, N_97, N_98, N_99, N_100, N_101, N_102, N_103, N_104, N_105, N_107, N_108, N_110, N_111, N_112, N_114, N_115, N_116, N_117, N_119, N_121, N_122, N_200, N_220, N_255, N_256, N_257, N_258, N_400, N_438, N_446, N_666, N_999, N_9999, N_10000, N_10010, N_10011, N_10012, N_10013, N_10014, N_10015, N_10016, N_10017, N_10018, N_12345, N_20000, N_20126, N_99999, N_1103515245, L_m999, L_m1, L_0, L_1, L_2, L_3, L_4, L_7, L_8, L_9, L_10, L_12, L_14, L_40, L_48, L_57, L_97, L_99, L_122, L_255, L_400, L_999, L_9999]
          rw [if_pos h0, if_pos h1, if_pos h2]
          exact m1
        · obtain ⟨t1, ⟨c, c0, c1, c2, c3⟩, t3, t4, t5, t6⟩ := hR.1
          have eI : ∀ a j, put (put (put (put IB 99 0 a0) 99 1 a1) 99 2 a2) 99 9 0 a j = if a = 99 ∧ j = 9 then 0 else if a = 99 ∧ j = 2 then a2 else if a = 99 ∧ j = 1 then a1 else if a = 99 ∧ j = 0 then a0 else if a = 99 ∧ j < 6 then 0 else IA a j := fun a j => by
            rw [put_ap, put_ap, put_ap, put_ap]
            by_cases q : a = 99 ∧ j < 6
            · rw [if_pos q, q.1, m2 j (by omega) q.2]
            · rw [if_neg q, m3 a j (by omega)]
          have eA : ∀ a j, IA a j = if a = 2 ∧ j = 1 then 0 else if a = 1 ∧ j = 12 then a0 else if a = 1 ∧ j = 6 then 0 else if a = 1 ∧ j = 5 then 0 else if a = 1 ∧ j = 4 then 0 else if a = 1 ∧ j = 3 then a2 else if a = 1 ∧ j = 2 then a1 else if a = 1 ∧ j = 1 then a0 else I a j := fun a j => by
            rw [hA, put_ap, put_ap, put_ap, put_ap, put_ap, put_ap, put_ap, put_ap]
          have hr : 0 ≤ a0.toInt ∧ a0.toInt ≤ 9999 := by
            have q1 := i_le.mp h0.1
            have q2 := i_le.mp h0.2
            have e1 : (nI 0).toInt = 0 := by decide
            have e2 : (nI 9999).toInt = 9999 := by decide
            omega
          refine hR.tap (by omega) ⟨fun j hj => ?_, ⟨0, by omega, ?_, ?_, fun i hi => by omega⟩, ?_, ?_, ?_, ?_⟩ (fun a j h1 h2 => ?_) (fun a _ _ _ _ _ => ?_)
          · rw [eI, eI, eA]
            have hj9 : j = 0 ∨ j = 1 ∨ j = 2 ∨ j = 3 ∨ j = 4 ∨ j = 5 ∨ j = 6 ∨ j = 7 ∨ j = 8 := by omega
            have e6 := t1 6 (by omega)
            have e7 := t1 7 (by omega)
            have e8 := t1 8 (by omega)
            rcases hj9 with rfl | rfl | rfl | rfl | rfl | rfl | rfl | rfl | rfl <;> simp [eA] <;> assumption
          · rw [eI, eA]; simp; rfl
          · rw [eI]; simp; rfl
          · rw [eI, eA, hJA]; simp [putJ_ap]
          · rw [eI]; simp; omega
          · rw [eI]; simp; omega
          · rw [eI, eA]; simpa using t6
          · rw [eI, eA]
            repeat rw [if_neg (by omega)]
          · rw [hJA, putJ_ne _ (by omega), putJ_ne _ (by omega), putJ_ne _ (by omega), putJ_ne _ (by omega), putJ_ne _ (by omega)]
      · refine ⟨-1, I, J, I, J, ?_, ?_, hM⟩
        · unfold f_X10_begin
          simp (disch := omega) only [bd1_s, bd2_s, bd3_s, nm_s, wi_s, ite_bI, bI_1, le_pred, if_true, in_x, cl_nI, vin_nI, nI_add, nI_mul, le_nn, lt_nn, eq_nn, sb, reduceIte, N_0, N_1, N_2, N_3, N_4, N_5, N_6, N_7, N_8, N_9, N_10, N_11, N_12, N_13, N_14, N_16, N_20, N_30, N_31, N_32, N_37, N_40, N_41, N_42, N_43, N_45, N_47, N_48, N_50, N_57, N_59, N_60, N_61, N_62, N_70, N_71, N_72, N_80, N_81, N_82, N_83, N_97, N_98, N_99, N_100, N_101, N_102, N_103, N_104, N_105, N_107, N_108, N_110, N_111, N_112, N_114, N_115, N_116, N_117, N_119, N_121, N_122, N_200, N_220, N_255, N_256, N_257, N_258, N_400, N_438, N_446, N_666, N_999, N_9999, N_10000, N_10010, N_10011, N_10012, N_10013, N_10014, N_10015, N_10016, N_10017, N_10018, N_12345, N_20000, N_20126, N_99999, N_1103515245, L_m999, L_m1, L_0, L_1, L_2, L_3, L_4, L_7, L_8, L_9, L_10, L_12, L_14, L_40, L_48, L_57, L_97, L_99, L_122, L_255, L_400, L_999, L_9999]
          rw [if_pos h0, if_pos h1, if_neg h2]
        · unfold f_X11_begin
          have e1 : f_X11_in a1.toInt64 (-999 : Int64) (999 : Int64) = some (bI (-nI 999 ≤ a1 ∧ a1 ≤ nI 999)) := in_s (by decide) (by decide)
          have e2 : f_X11_in a2.toInt64 (-999 : Int64) (999 : Int64) = some (bI (-nI 999 ≤ a2 ∧ a2 ≤ nI 999)) := in_s (by decide) (by decide)
          rw [e1, e2]
          simp (disch := omega) only [bd1_s, bd2_s, bd3_s, nm_s, wi_s, ite_bI, bI_1, le_pred, if_true, in_x, cl_nI, vin_nI, nI_add, nI_mul, le_nn, lt_nn, eq_nn, sb, reduceIte, N_0, N_1, N_2, N_3, N_4, N_5, N_6, N_7, N_8, N_9, N_10, N_11, N_12, N_13, N_14, N_16, N_20, N_30, N_31, N_32, N_37, N_40, N_41, N_42, N_43, N_45, N_47, N_48, N_50, N_57, N_59, N_60, N_61, N_62, N_70, N_71, N_72, N_80, N_81, N_82, N_83, N_97, N_98, N_99, N_100, N_101, N_102, N_103, N_104, N_105, N_107, N_108, N_110, N_111, N_112, N_114, N_115, N_116, N_117, N_119, N_121, N_122, N_200, N_220, N_255, N_256, N_257, N_258, N_400, N_438, N_446, N_666, N_999, N_9999, N_10000, N_10010, N_10011, N_10012, N_10013, N_10014, N_10015, N_10016, N_10017, N_10018, N_12345, N_20000, N_20126, N_99999, N_1103515245, L_m999, L_m1, L_0, L_1, L_2, L_3, L_4, L_7, L_8, L_9, L_10, L_12, L_14, L_40, L_48, L_57, L_97, L_99, L_122, L_255, L_400, L_999, L_9999]
          rw [if_pos h0, if_pos h1, if_neg h2]
    · refine ⟨-1, I, J, I, J, ?_, ?_, hM⟩
      · unfold f_X10_begin
        simp (disch := omega) only [bd1_s, bd2_s, bd3_s, nm_s, wi_s, ite_bI, bI_1, le_pred, if_true, in_x, cl_nI, vin_nI, nI_add, nI_mul, le_nn, lt_nn, eq_nn, sb, reduceIte, N_0, N_1, N_2, N_3, N_4, N_5, N_6, N_7, N_8, N_9, N_10, N_11, N_12, N_13, N_14, N_16, N_20, N_30, N_31, N_32, N_37, N_40, N_41, N_42, N_43, N_45, N_47, N_48, N_50, N_57, N_59, N_60, N_61, N_62, N_70, N_71, N_72, N_80, N_81, N_82, N_83, N_97, N_98, N_99, N_100, N_101, N_102, N_103, N_104, N_105, N_107, N_108, N_110, N_111, N_112, N_114, N_115, N_116, N_117, N_119, N_121, N_122, N_200, N_220, N_255, N_256, N_257, N_258, N_400, N_438, N_446, N_666, N_999, N_9999, N_10000, N_10010, N_10011, N_10012, N_10013, N_10014, N_10015, N_10016, N_10017, N_10018, N_12345, N_20000, N_20126, N_99999, N_1103515245, L_m999, L_m1, L_0, L_1, L_2, L_3, L_4, L_7, L_8, L_9, L_10, L_12, L_14, L_40, L_48, L_57, L_97, L_99, L_122, L_255, L_400, L_999, L_9999]
        rw [if_pos h0, if_neg h1]
      · unfold f_X11_begin
        have e1 : f_X11_in a1.toInt64 (-999 : Int64) (999 : Int64) = some (bI (-nI 999 ≤ a1 ∧ a1 ≤ nI 999)) := in_s (by decide) (by decide)
        rw [e1]
        simp (disch := omega) only [bd1_s, bd2_s, bd3_s, nm_s, wi_s, ite_bI, bI_1, le_pred, if_true, in_x, cl_nI, vin_nI, nI_add, nI_mul, le_nn, lt_nn, eq_nn, sb, reduceIte, N_0, N_1, N_2, N_3, N_4, N_5, N_6, N_7, N_8, N_9, N_10, N_11, N_12, N_13, N_14, N_16, N_20, N_30, N_31, N_32, N_37, N_40, N_41, N_42, N_43, N_45, N_47, N_48, N_50, N_57, N_59, N_60, N_61, N_62, N_70, N_71, N_72, N_80, N_81, N_82, N_83, N_97, N_98, N_99, N_100, N_101, N_102, N_103, N_104, N_105, N_107, N_108, N_110, N_111, N_112, N_114, N_115, N_116, N_117, N_119, N_121, N_122, N_200, N_220, N_255, N_256, N_257, N_258, N_400, N_438, N_446, N_666, N_999, N_9999, N_10000, N_10010, N_10011, N_10012, N_10013, N_10014, N_10015, N_10016, N_10017, N_10018, N_12345, N_20000, N_20126, N_99999, N_1103515245, L_m999, L_m1, L_0, L_1, L_2, L_3, L_4, L_7, L_8, L_9, L_10, L_12, L_14, L_40, L_48, L_57, L_97, L_99, L_122, L_255, L_400, L_999, L_9999]
        rw [if_pos h0, if_neg h1]
  · refine ⟨-1, I, J, I, J, ?_, ?_, hM⟩
    · unfold f_X10_begin
      simp (disch := omega) only [bd1_s, bd2_s, bd3_s, nm_s, wi_s, ite_bI, bI_1, le_pred, if_true, in_x, cl_nI, vin_nI, nI_add, nI_mul, le_nn, lt_nn, eq_nn, sb, reduceIte, N_0, N_1, N_2, N_3, N_4, N_5, N_6, N_7, N_8, N_9, N_10, N_11, N_12, N_13, N_14, N_16, N_20, N_30, N_31, N_32, N_37, N_40, N_41, N_42, N_43, N_45, N_47, N_48, N_50, N_57, N_59, N_60, N_61, N_62, N_70, N_71, N_72, N_80, N_81, N_82, N_83, N_97, N_98, N_99, N_100, N_101, N_102, N_103, N_104, N_105, N_107, N_108, N_110, N_111, N_112, N_114, N_115, N_116, N_117, N_119, N_121, N_122, N_200, N_220, N_255, N_256, N_257, N_258, N_400, N_438, N_446, N_666, N_999, N_9999, N_10000, N_10010, N_10011, N_10012, N_10013, N_10014, N_10015, N_10016, N_10017, N_10018, N_12345, N_20000, N_20126, N_99999, N_1103515245, L_m999, L_m1, L_0, L_1, L_2, L_3, L_4, L_7, L_8, L_9, L_10, L_12, L_14, L_40, L_48, L_57, L_97, L_99, L_122, L_255, L_400, L_999, L_9999]
      rw [if_neg h0]
    · unfold f_X11_begin
      simp (disch := omega) only [bd1_s, bd2_s, bd3_s, nm_s, wi_s, ite_bI, bI_1, le_pred, if_true, in_x, cl_nI, vin_nI, nI_add, nI_mul, le_nn, lt_nn, eq_nn, sb, reduceIte, N_0, N_1, N_2, N_3, N_4, N_5, N_6, N_7, N_8, N_9, N_10, N_11, N_12, N_13, N_14, N_16, N_20, N_30, N_31, N_32, N_37, N_40, N_41, N_42, N_43, N_45, N_47, N_48, N_50, N_57, N_59, N_60, N_61, N_62, N_70, N_71, N_72, N_80, N_81, N_82, N_83, N_97, N_98, N_99, N_100, N_101, N_102, N_103, N_104, N_105, N_107, N_108, N_110, N_111, N_112, N_114, N_115, N_116, N_117, N_119, N_121, N_122, N_200, N_220, N_255, N_256, N_257, N_258, N_400, N_438, N_446, N_666, N_999, N_9999, N_10000, N_10010, N_10011, N_10012, N_10013, N_10014, N_10015, N_10016, N_10017, N_10018, N_12345, N_20000, N_20126, N_99999, N_1103515245, L_m999, L_m1, L_0, L_1, L_2, L_3, L_4, L_7, L_8, L_9, L_10, L_12, L_14, L_40, L_48, L_57, L_97, L_99, L_122, L_255, L_400, L_999, L_9999]
      rw [if_neg h0]

theorem pE {I : HI} {k j : Nat} {v : Int32} {a b : Nat} (h1 : a = k) (h2 : b = j) : put I k j v a b = v := by rw [put_ap, if_pos ⟨h1, h2⟩]
theorem pN {I : HI} {k j : Nat} {v : Int32} {a b : Nat} (h : a ≠ k ∨ b ≠ j) : put I k j v a b = I a b := by rw [put_ap, if_neg (by omega)]
theorem cE {I : HI} {k l sp dp n a b : Nat} (h1 : a = l) (h2 : dp ≤ b ∧ b < dp + n) : cpyI I k l sp dp n a b = I k (sp + (b - dp)) := by rw [cpyI_ap, if_pos ⟨h1, h2⟩]
theorem cN {I : HI} {k l sp dp n a b : Nat} (h : a ≠ l ∨ b < dp ∨ dp + n ≤ b) : cpyI I k l sp dp n a b = I a b := by rw [cpyI_ap, if_neg (by omega)]
theorem mrec_l {c m : Nat} {J : HJ} (hc : c ≤ 60) (hm : m < 6) : ∀ d i f, i + d = 60 → d < f → ∀ I : HI, I 99 9 = nI c → I 99 10 = nI m → ∃ I2, fL_X11_record_44 f (nI (72 + 61 * m)) (nI i) I J = some (nI m, put I2 99 10 (nI (m + 1))) ∧ (∀ x, i ≤ x → x < c → I2 99 (73 + 61 * m + x) = I 99 (12 + x)) ∧ ∀ a j, ¬ (a = 99 ∧ 73 + 61 * m + i ≤ j ∧ j < 133 + 61 * m) → I2 a j = I a j := by
  refine fuel (L := fL_X11_record_44) (B := fLB_X11_record_44) (fun _ => rfl) (P := fun i g => ∀ I : HI, I 99 9 = nI c → I 99 10 = nI m → ∃ I2, g (nI (72 + 61 * m)) (nI i) I J = some (nI m, put I2 99 10 (nI (m + 1))) ∧ (∀ x, i ≤ x → x < c → I2 99 (73 + 61 * m + x) = I 99 (12 + x)) ∧ ∀ a j, ¬ (a = 99 ∧ 73 + 61 * m + i ≤ j ∧ j < 133 + 61 * m) → I2 a j = I a j) (fun g I h9 h10 => ?_) (fun i g hi ih I h9 h10 => ?_)
  · refine ⟨I, ?_, fun x h1 h2 => by omega, fun a j _ => rfl⟩
    unfold fLB_X11_record_44
    simp (disch := omega) only [bd1_s, bd2_s, bd3_s, nm_s, wi_s, ite_bI, bI_1, le_pred, if_true, in_x, cl_nI, vin_nI, nI_add, nI_mul, le_nn, lt_nn, eq_nn, sb, reduceIte, N_0, N_1, N_2, N_3, N_4, N_5, N_6, N_7, N_8, N_9, N_10, N_11, N_12, N_13, N_14, N_16, N_20, N_30, N_31, N_32, N_37, N_40, N_41, N_42, N_43, N_45, N_47, N_48, N_50, N_57, N_59, N_60, N_61, N_62, N_70, N_71, N_72, N_80, N_81, N_82, N_83, N_97, N_98, N_99, N_100, N_101, N_102, N_103, N_104, N_105, N_107, N_108, N_110, N_111, N_112, N_114, N_115, N_116, N_117, N_119, N_121, N_122, N_200, N_220, N_255, N_256, N_257, N_258, N_400, N_438, N_446, N_666, N_999, N_9999, N_10000, N_10010, N_10011, N_10012, N_10013, N_10014, N_10015, N_10016, N_10017, N_10018, N_12345, N_20000, N_20126, N_99999, N_1103515245, L_m999, L_m1, L_0, L_1, L_2, L_3, L_4, L_7, L_8, L_9, L_10, L_12, L_14, L_40, L_48, L_57, L_97, L_99, L_122, L_255, L_400, L_999, L_9999, if_pos, if_neg, pE, pN, cE, cN, h10]
    all_goals rfl
  · obtain ⟨I2, h1, h2, h3⟩ := ih (put I 99 (73 + 61 * m + i) (if i < c then I 99 (12 + i) else 0)) (by rw [pN (by omega)]; exact h9) (by rw [pN (by omega)]; exact h10)
    refine ⟨I2, ?_, fun x hx1 hx2 => ?_, fun a j hj => ?_⟩
    · unfold fLB_X11_record_44 fB_X11_record_83
      by_cases q : i < c
      · rw [if_pos q] at h1
        simp (disch := omega) only [bd1_s, bd2_s, bd3_s, nm_s, wi_s, ite_bI, bI_1, le_pred, if_true, in_x, cl_nI, vin_nI, nI_add, nI_mul, le_nn, lt_nn, eq_nn, sb, reduceIte, N_0, N_1, N_2, N_3, N_4, N_5, N_6, N_7, N_8, N_9, N_10, N_11, N_12, N_13, N_14, N_16, N_20, N_30, N_31, N_32, N_37, N_40, N_41, N_42, N_43, N_45, N_47, N_48, N_50, N_57, N_59, N_60, N_61, N_62, N_70, N_71, N_72, N_80, N_81, N_82, N_83, N_97, N_98, N_99, N_100, N_101, N_102, N_103, N_104, N_105, N_107, N_108, N_110, N_111, N_112, N_114, N_115, N_116, N_117, N_119, N_121, N_122, N_200, N_220, N_255, N_256, N_257, N_258, N_400, N_438, N_446, N_666, N_999, N_9999, N_10000, N_10010, N_10011, N_10012, N_10013, N_10014, N_10015, N_10016, N_10017, N_10018, N_12345, N_20000, N_20126, N_99999, N_1103515245, L_m999, L_m1, L_0, L_1, L_2, L_3, L_4, L_7, L_8, L_9, L_10, L_12, L_14, L_40, L_48, L_57, L_97, L_99, L_122, L_255, L_400, L_999, L_9999, if_pos, if_neg, pE, pN, cE, cN, h9]
        rw [show 72 + 61 * m + 1 + i = 73 + 61 * m + i by omega]
        exact h1
      · rw [if_neg q] at h1
        simp (disch := omega) only [bd1_s, bd2_s, bd3_s, nm_s, wi_s, ite_bI, bI_1, le_pred, if_true, in_x, cl_nI, vin_nI, nI_add, nI_mul, le_nn, lt_nn, eq_nn, sb, reduceIte, N_0, N_1, N_2, N_3, N_4, N_5, N_6, N_7, N_8, N_9, N_10, N_11, N_12, N_13, N_14, N_16, N_20, N_30, N_31, N_32, N_37, N_40, N_41, N_42, N_43, N_45, N_47, N_48, N_50, N_57, N_59, N_60, N_61, N_62, N_70, N_71, N_72, N_80, N_81, N_82, N_83, N_97, N_98, N_99, N_100, N_101, N_102, N_103, N_104, N_105, N_107, N_108, N_110, N_111, N_112, N_114, N_115, N_116, N_117, N_119, N_121, N_122, N_200, N_220, N_255, N_256, N_257, N_258, N_400, N_438, N_446, N_666, N_999, N_9999, N_10000, N_10010, N_10011, N_10012, N_10013, N_10014, N_10015, N_10016, N_10017, N_10018, N_12345, N_20000, N_20126, N_99999, N_1103515245, L_m999, L_m1, L_0, L_1, L_2, L_3, L_4, L_7, L_8, L_9, L_10, L_12, L_14, L_40, L_48, L_57, L_97, L_99, L_122, L_255, L_400, L_999, L_9999, if_pos, if_neg, pE, pN, cE, cN, h9]
        rw [show 72 + 61 * m + 1 + i = 73 + 61 * m + i by omega]
        exact h1
    · by_cases e : x = i
      · subst e
        rw [h3 _ _ (by omega), pE rfl rfl, if_pos hx2]
      · rw [h2 x (by omega) hx2, pN (by omega)]
    · rw [h3 a j (by omega), pN (by omega)]
theorem sim_record {N : Nat} {I : HI} {J : HJ} (hN : N ≤ 1000000) (hR : Rel N I J) : ∃ (r : Int32) (I1 : HI) (I2 : HI), f_X10_record I J = some (r, I1) ∧ f_X11_record I1 J = some (r, I2) ∧ Rel (N + 400) I2 J := by
  have hM := hR.mono (Nat.le_add_right N 400)
  obtain ⟨t1, ⟨c, c0, c1, c2, c3⟩, t3, t4, t5, t6⟩ := hR.1
  obtain ⟨m, m0, m1, m2, m3⟩ := hR.2.2.1
  by_cases hm : m < 6
  · obtain ⟨IA, hA⟩ : ∃ IA, IA = put (put (cpyI I 3 (16 + 2 * m) 0 0 60) (15 + 2 * m) 1 (nI c)) 13 1 (nI (m + 1)) := ⟨_, rfl⟩
    have eA : ∀ a j, ¬ (a = 16 + 2 * m ∧ j < 60) → ¬ (a = 15 + 2 * m ∧ j = 1) → ¬ (a = 13 ∧ j = 1) → IA a j = I a j := fun a j h1 h2 h3 => by
      rw [hA, pN (by omega), pN (by omega), cN (by omega)]
    have b2 : IA 99 9 = nI c := by rw [eA _ _ (by omega) (by omega) (by omega)]; exact c2
    have b1 : IA 99 10 = nI m := by rw [eA _ _ (by omega) (by omega) (by omega)]; exact m2
    obtain ⟨IB, g1, g2, g3⟩ := mrec_l (J := J) c0 hm 60 0 FU rfl (FU_ge (by omega)) (put IA 99 (72 + 61 * m) (nI c)) (by rw [pN (by omega)]; exact b2) (by rw [pN (by omega)]; exact b1)
    have eI : ∀ a j, ¬ (a = 99 ∧ 72 + 61 * m ≤ j ∧ j < 133 + 61 * m) → ¬ (a = 99 ∧ j = 10) → put IB 99 10 (nI (m + 1)) a j = IA a j := fun a j h1 h2 => by
      rw [pN (by omega), g3 _ _ (by omega), pN (by omega)]
    refine ⟨nI m, IA, put IB 99 10 (nI (m + 1)), ?_, ?_, ?_⟩
    · have k0 : rfn 13 0 = 14 := (lay3 (k := 13) rfl).1
      have k1 : rfn 14 m = 15 + 2 * m := ((lay3 (k := 13) rfl).2 m hm).1
      have k2 : rfn (15 + 2 * m) 0 = 16 + 2 * m := (lay8 ((lay3 (k := 13) rfl).2 m hm).2).trans (by omega)
      have k3 : rfn 2 0 = 3 := lay8 (k := 2) rfl
      unfold f_X10_record f_X4_add f_X9_becomeLike f_X4_size
      simp (disch := omega) only [bd1_s, bd2_s, bd3_s, nm_s, wi_s, ite_bI, bI_1, le_pred, if_true, in_x, cl_nI, vin_nI, nI_add, nI_mul, le_nn, lt_nn, eq_nn, sb, reduceIte, N_0, N_1, N_2, N_3, N_4, N_5, N_6, N_7, N_8, N_9, N_10, N_11, N_12, N_13, N_14, N_16, N_20, N_30, N_31, N_32, N_37, N_40, N_41, N_42, N_43, N_45, N_47, N_48, N_50, N_57, N_59, N_60, N_61, N_62, N_70, N_71, N_72, N_80, N_81, N_82, N_83, N_97, N_98, N_99, N_100, N_101, N_102, N_103, N_104, N_105, N_107, N_108, N_110, N_111, N_112, N_114, N_115, N_116, N_117, N_119, N_121, N_122, N_200, N_220, N_255, N_256, N_257, N_258, N_400, N_438, N_446, N_666, N_999, N_9999, N_10000, N_10010, N_10011, N_10012, N_10013, N_10014, N_10015, N_10016, N_10017, N_10018, N_12345, N_20000, N_20126, N_99999, N_1103515245, L_m999, L_m1, L_0, L_1, L_2, L_3, L_4, L_7, L_8, L_9, L_10, L_12, L_14, L_40, L_48, L_57, L_97, L_99, L_122, L_255, L_400, L_999, L_9999, if_pos, if_neg, pE, pN, cE, cN, m1, c1, k0, k1, k2, k3]
      rw [hA]
      all_goals rfl
    · unfold f_X11_record
      simp (disch := omega) only [bd1_s, bd2_s, bd3_s, nm_s, wi_s, ite_bI, bI_1, le_pred, if_true, in_x, cl_nI, vin_nI, nI_add, nI_mul, le_nn, lt_nn, eq_nn, sb, reduceIte, N_0, N_1, N_2, N_3, N_4, N_5, N_6, N_7, N_8, N_9, N_10, N_11, N_12, N_13, N_14, N_16, N_20, N_30, N_31, N_32, N_37, N_40, N_41, N_42, N_43, N_45, N_47, N_48, N_50, N_57, N_59, N_60, N_61, N_62, N_70, N_71, N_72, N_80, N_81, N_82, N_83, N_97, N_98, N_99, N_100, N_101, N_102, N_103, N_104, N_105, N_107, N_108, N_110, N_111, N_112, N_114, N_115, N_116, N_117, N_119, N_121, N_122, N_200, N_220, N_255, N_256, N_257, N_258, N_400, N_438, N_446, N_666, N_999, N_9999, N_10000, N_10010, N_10011, N_10012, N_10013, N_10014, N_10015, N_10016, N_10017, N_10018, N_12345, N_20000, N_20126, N_99999, N_1103515245, L_m999, L_m1, L_0, L_1, L_2, L_3, L_4, L_7, L_8, L_9, L_10, L_12, L_14, L_40, L_48, L_57, L_97, L_99, L_122, L_255, L_400, L_999, L_9999, if_pos, if_neg, pE, pN, cE, cN, b1, b2]
      exact g1
    · refine hR.rec (by omega) ⟨m + 1, by omega, ?_, ?_, fun r hr => ?_⟩ (fun a j h1 h2 => ?_) (fun a _ _ _ => rfl)
      · rw [eI _ _ (by omega) (by omega), hA, pE rfl rfl]
      · rw [pE rfl rfl]
      · by_cases q : r = m
        · subst q
          refine ⟨c, c0, ?_, ?_, fun i hi => ?_⟩
          · rw [eI _ _ (by omega) (by omega), hA, pN (by omega), pE (by omega) rfl]
          · rw [pN (by omega), g3 _ _ (by omega), pE rfl rfl]
          · rw [eI _ _ (by omega) (by omega), pN (by omega), g2 i (by omega) hi, pN (by omega), eA 99 (12 + i) (by omega) (by omega) (by omega), hA, pN (by omega), pN (by omega), cE (by omega) (by omega), show 0 + (i - 0) = i by omega]
            exact (c3 i hi).1
        · obtain ⟨d, d0, d1, d2, d3⟩ := m3 r (by omega)
          refine ⟨d, d0, ?_, ?_, fun i hi => ?_⟩
          · rw [eI _ _ (by omega) (by omega), eA _ _ (by omega) (by omega) (by omega)]; exact d1
          · rw [eI _ _ (by omega) (by omega), eA _ _ (by omega) (by omega) (by omega)]; exact d2
          · rw [eI _ _ (by omega) (by omega), eI _ _ (by omega) (by omega), eA _ _ (by omega) (by omega) (by omega), eA _ _ (by omega) (by omega) (by omega)]; exact d3 i hi
      · have h3 : ¬ (a = 16 + 2 * m) ∧ ¬ (a = 15 + 2 * m) ∧ ¬ (a = 13 ∧ j = 1) ∧ ¬ (a = 99 ∧ 72 + 61 * m ≤ j ∧ j < 133 + 61 * m) ∧ ¬ (a = 99 ∧ j = 10) := by omega
        rw [eI _ _ (by omega) (by omega), eA _ _ (by omega) (by omega) (by omega)]
  · have e6 : m = 6 := by omega
    subst e6
    refine ⟨-2, I, I, ?_, ?_, hM⟩
    · unfold f_X10_record f_X4_add
      simp (disch := omega) only [bd1_s, bd2_s, bd3_s, nm_s, wi_s, ite_bI, bI_1, le_pred, if_true, in_x, cl_nI, vin_nI, nI_add, nI_mul, le_nn, lt_nn, eq_nn, sb, reduceIte, N_0, N_1, N_2, N_3, N_4, N_5, N_6, N_7, N_8, N_9, N_10, N_11, N_12, N_13, N_14, N_16, N_20, N_30, N_31, N_32, N_37, N_40, N_41, N_42, N_43, N_45, N_47, N_48, N_50, N_57, N_59, N_60, N_61, N_62, N_70, N_71, N_72, N_80, N_81, N_82, N_83, N_97, N_98, N_99, N_100, N_101, N_102, N_103, N_104, N_105, N_107, N_108, N_110, N_111, N_112, N_114, N_115, N_116, N_117, N_119, N_121, N_122, N_200, N_220, N_255, N_256, N_257, N_258, N_400, N_438, N_446, N_666, N_999, N_9999, N_10000, N_10010, N_10011, N_10012, N_10013, N_10014, N_10015, N_10016, N_10017, N_10018, N_12345, N_20000, N_20126, N_99999, N_1103515245, L_m999, L_m1, L_0, L_1, L_2, L_3, L_4, L_7, L_8, L_9, L_10, L_12, L_14, L_40, L_48, L_57, L_97, L_99, L_122, L_255, L_400, L_999, L_9999, if_pos, if_neg, pE, pN, cE, cN, m1]
      all_goals rfl
    · unfold f_X11_record
      simp (disch := omega) only [bd1_s, bd2_s, bd3_s, nm_s, wi_s, ite_bI, bI_1, le_pred, if_true, in_x, cl_nI, vin_nI, nI_add, nI_mul, le_nn, lt_nn, eq_nn, sb, reduceIte, N_0, N_1, N_2, N_3, N_4, N_5, N_6, N_7, N_8, N_9, N_10, N_11, N_12, N_13, N_14, N_16, N_20, N_30, N_31, N_32, N_37, N_40, N_41, N_42, N_43, N_45, N_47, N_48, N_50, N_57, N_59, N_60, N_61, N_62, N_70, N_71, N_72, N_80, N_81, N_82, N_83, N_97, N_98, N_99, N_100, N_101, N_102, N_103, N_104, N_105, N_107, N_108, N_110, N_111, N_112, N_114, N_115, N_116, N_117, N_119, N_121, N_122, N_200, N_220, N_255, N_256, N_257, N_258, N_400, N_438, N_446, N_666, N_999, N_9999, N_10000, N_10010, N_10011, N_10012, N_10013, N_10014, N_10015, N_10016, N_10017, N_10018, N_12345, N_20000, N_20126, N_99999, N_1103515245, L_m999, L_m1, L_0, L_1, L_2, L_3, L_4, L_7, L_8, L_9, L_10, L_12, L_14, L_40, L_48, L_57, L_97, L_99, L_122, L_255, L_400, L_999, L_9999, if_pos, if_neg, pE, pN, cE, cN, m2]
      all_goals rfl
theorem lookr_s {c x : Nat} {I : HI} {J : HJ} (hx : x < 6) (hc : c ≤ 60) (h : I 99 (72 + 61 * x) = nI c) : ∃ I1, f_X11_looksAtRecord (nI x) I J = some I1 ∧ Look I1 c (fun i => I 99 (73 + 61 * x + i)) ∧ ∀ a j, a ≠ 114 → ¬ (a = 98 ∧ j = 27) → I1 a j = I a j := by
  have key : ∀ d i f, i + d = c → d < f → ∀ I : HI, I 98 27 = nI c → ∃ I1, fL_X11_looksAtRecord_18 (nI x) f (nI i) I J = some I1 ∧ (∀ y, i ≤ y → y < c → I1 114 y = I 99 (73 + 61 * x + y)) ∧ ∀ a j, ¬ (a = 114 ∧ i ≤ j) → I1 a j = I a j := by
    refine fuel (L := fL_X11_looksAtRecord_18 (nI x)) (B := fLB_X11_looksAtRecord_18 (nI x)) (fun _ => rfl) (P := fun i g => ∀ I : HI, I 98 27 = nI c → ∃ I1, g (nI i) I J = some I1 ∧ (∀ y, i ≤ y → y < c → I1 114 y = I 99 (73 + 61 * x + y)) ∧ ∀ a j, ¬ (a = 114 ∧ i ≤ j) → I1 a j = I a j) (fun g I h => ?_) (fun i g hi ih I h => ?_)
    · refine ⟨I, ?_, fun x h1 h2 => by omega, fun a j _ => rfl⟩
      unfold fLB_X11_looksAtRecord_18
      rw [h, if_pos (by rw [le_nn (by omega) (by omega)]; omega)]
    · obtain ⟨I1, h1, h2, h3⟩ := ih (put I 114 i (I 99 (73 + 61 * x + i))) (by rw [pN (by omega)]; exact h)
      refine ⟨I1, ?_, fun y hx1 hx2 => ?_, fun a j hj => ?_⟩
      · unfold fLB_X11_looksAtRecord_18
        simp (disch := omega) only [bd1_s, bd2_s, bd3_s, nm_s, wi_s, ite_bI, bI_1, le_pred, if_true, in_x, cl_nI, vin_nI, nI_add, nI_mul, le_nn, lt_nn, eq_nn, sb, reduceIte, N_0, N_1, N_2, N_3, N_4, N_5, N_6, N_7, N_8, N_9, N_10, N_11, N_12, N_13, N_14, N_16, N_20, N_30, N_31, N_32, N_37, N_40, N_41, N_42, N_43, N_45, N_47, N_48, N_50, N_57, N_59, N_60, N_61, N_62, N_70, N_71, N_72, N_80, N_81, N_82, N_83, N_97, N_98, N_99, N_100, N_101, N_102, N_103, N_104, N_105, N_107, N_108, N_110, N_111, N_112, N_114, N_115, N_116, N_117, N_119, N_121, N_122, N_200, N_220, N_255, N_256, N_257, N_258, N_400, N_438, N_446, N_666, N_999, N_9999, N_10000, N_10010, N_10011, N_10012, N_10013, N_10014, N_10015, N_10016, N_10017, N_10018, N_12345, N_20000, N_20126, N_99999, N_1103515245, L_m999, L_m1, L_0, L_1, L_2, L_3, L_4, L_7, L_8, L_9, L_10, L_12, L_14, L_40, L_48, L_57, L_97, L_99, L_122, L_255, L_400, L_999, L_9999, if_pos, if_neg, pE, pN, cE, cN, h]
        rw [show 72 + 61 * x + 1 + i = 73 + 61 * x + i by omega]
        exact h1
      · by_cases e : y = i
        · subst e
          rw [h3 _ _ (by omega), pE rfl rfl]
        · rw [h2 y (by omega) hx2, pN (by omega)]
      · rw [h3 a j (by omega), pN (by omega)]
  obtain ⟨I1, h1, h2, h3⟩ := key c 0 FU (by omega) (FU_ge (by omega)) (put I 98 27 (nI c)) (pE rfl rfl)
  refine ⟨I1, ?_, ⟨hc, ?_, fun i hi => ?_⟩, fun a j ha hb => ?_⟩
  · unfold f_X11_looksAtRecord
    simp (disch := omega) only [bd1_s, bd2_s, bd3_s, nm_s, wi_s, ite_bI, bI_1, le_pred, if_true, in_x, cl_nI, vin_nI, nI_add, nI_mul, le_nn, lt_nn, eq_nn, sb, reduceIte, N_0, N_1, N_2, N_3, N_4, N_5, N_6, N_7, N_8, N_9, N_10, N_11, N_12, N_13, N_14, N_16, N_20, N_30, N_31, N_32, N_37, N_40, N_41, N_42, N_43, N_45, N_47, N_48, N_50, N_57, N_59, N_60, N_61, N_62, N_70, N_71, N_72, N_80, N_81, N_82, N_83, N_97, N_98, N_99, N_100, N_101, N_102, N_103, N_104, N_105, N_107, N_108, N_110, N_111, N_112, N_114, N_115, N_116, N_117, N_119, N_121, N_122, N_200, N_220, N_255, N_256, N_257, N_258, N_400, N_438, N_446, N_666, N_999, N_9999, N_10000, N_10010, N_10011, N_10012, N_10013, N_10014, N_10015, N_10016, N_10017, N_10018, N_12345, N_20000, N_20126, N_99999, N_1103515245, L_m999, L_m1, L_0, L_1, L_2, L_3, L_4, L_7, L_8, L_9, L_10, L_12, L_14, L_40, L_48, L_57, L_97, L_99, L_122, L_255, L_400, L_999, L_9999, if_pos, if_neg, pE, pN, cE, cN, h]
    exact h1
  · rw [h3 _ _ (by omega), pE rfl rfl]
  · rw [h2 i (by omega) hi, pN (by omega)]
  · rw [h3 _ _ (by omega), put_ap, if_neg hb]
theorem sim_recorded {N : Nat} {I : HI} {J : HJ} (hN : N ≤ 1000000) (hR : Rel N I J) (a0 : Int32) (a1 : Int32) : ∃ (r : Int32) (I2 : HI), f_X10_recorded a0 a1 I J = some r ∧ f_X11_recorded a0 a1 I J = some (r, I2) ∧ Rel (N + 400) I2 J := by
  have hM := hR.mono (Nat.le_add_right N 400)
  obtain ⟨m, m0, m1, m2, m3⟩ := hR.2.2.1
  by_cases h0 : nI 0 ≤ a0 ∧ a0 < nI m
  · obtain ⟨x, hx, rfl⟩ := rng2 (by omega) h0
    obtain ⟨c, c0, d1, d2, d3⟩ := m3 x hx
    have kx := ((lay3 (k := 13) rfl).2 x (by omega)).2
    have hv : ∀ i, i < c → I (13 + 2 + 2 * x + 1) i = I 99 (73 + 61 * x + i) := fun i hi => by rw [show 13 + 2 + 2 * x + 1 = 13 + 3 + 2 * x by omega]; exact d3 i hi
    by_cases h1 : nI 0 ≤ a1 ∧ a1 ≤ nI (2 + c)
    · obtain ⟨n, hn, rfl⟩ := rng (by omega) h1
      obtain ⟨I1, g1, g2, g3⟩ := lookr_s (J := J) (x := x) (by omega) c0 d2
      by_cases n0 : n = 0
      · subst n0
        obtain ⟨q, q0, q1, q2⟩ := knd_s (J := J) kx c0 d1
        obtain ⟨p, p0, p1, p2⟩ := mknd_s (J := J) g2
        have e := (q2.of hv).uniq p2
        refine ⟨kndS c q, I1, ?_, ?_, look_rel hR g3⟩
        · unfold f_X10_recorded
          rw [rat_i (k := 13) rfl m0 m1 hx, bd1_s, oel_some, if_pos kx, if_pos N_0.symm, q1, bd1_s]
        · unfold f_X11_recorded
          rw [isRec_s m0 m2]
          simp (disch := omega) only [bd1_s, bd2_s, bd3_s, nm_s, wi_s, ite_bI, bI_1, le_pred, if_true, in_x, cl_nI, vin_nI, nI_add, nI_mul, le_nn, lt_nn, eq_nn, sb, reduceIte, N_0, N_1, N_2, N_3, N_4, N_5, N_6, N_7, N_8, N_9, N_10, N_11, N_12, N_13, N_14, N_16, N_20, N_30, N_31, N_32, N_37, N_40, N_41, N_42, N_43, N_45, N_47, N_48, N_50, N_57, N_59, N_60, N_61, N_62, N_70, N_71, N_72, N_80, N_81, N_82, N_83, N_97, N_98, N_99, N_100, N_101, N_102, N_103, N_104, N_105, N_107, N_108, N_110, N_111, N_112, N_114, N_115, N_116, N_117, N_119, N_121, N_122, N_200, N_220, N_255, N_256, N_257, N_258, N_400, N_438, N_446, N_666, N_999, N_9999, N_10000, N_10010, N_10011, N_10012, N_10013, N_10014, N_10015, N_10016, N_10017, N_10018, N_12345, N_20000, N_20126, N_99999, N_1103515245, L_m999, L_m1, L_0, L_1, L_2, L_3, L_4, L_7, L_8, L_9, L_10, L_12, L_14, L_40, L_48, L_57, L_97, L_99, L_122, L_255, L_400, L_999, L_9999, if_pos, if_neg, pE, pN, cE, cN, d2, g1, p1, e]
      · by_cases n1 : n = 1
        · subst n1
          refine ⟨nI c, I1, ?_, ?_, look_rel hR g3⟩
          · unfold f_X10_recorded f_X9_size
            rw [rat_i (k := 13) rfl m0 m1 hx, bd1_s, oel_some, if_pos kx, if_neg (by decide), if_pos N_1.symm, bd1_s, d1]
          · unfold f_X11_recorded
            rw [isRec_s m0 m2]
            simp (disch := omega) only [bd1_s, bd2_s, bd3_s, nm_s, wi_s, ite_bI, bI_1, le_pred, if_true, in_x, cl_nI, vin_nI, nI_add, nI_mul, le_nn, lt_nn, eq_nn, sb, reduceIte, N_0, N_1, N_2, N_3, N_4, N_5, N_6, N_7, N_8, N_9, N_10, N_11, N_12, N_13, N_14, N_16, N_20, N_30, N_31, N_32, N_37, N_40, N_41, N_42, N_43, N_45, N_47, N_48, N_50, N_57, N_59, N_60, N_61, N_62, N_70, N_71, N_72, N_80, N_81, N_82, N_83, N_97, N_98, N_99, N_100, N_101, N_102, N_103, N_104, N_105, N_107, N_108, N_110, N_111, N_112, N_114, N_115, N_116, N_117, N_119, N_121, N_122, N_200, N_220, N_255, N_256, N_257, N_258, N_400, N_438, N_446, N_666, N_999, N_9999, N_10000, N_10010, N_10011, N_10012, N_10013, N_10014, N_10015, N_10016, N_10017, N_10018, N_12345, N_20000, N_20126, N_99999, N_1103515245, L_m999, L_m1, L_0, L_1, L_2, L_3, L_4, L_7, L_8, L_9, L_10, L_12, L_14, L_40, L_48, L_57, L_97, L_99, L_122, L_255, L_400, L_999, L_9999, if_pos, if_neg, pE, pN, cE, cN, d2, g1, g2.2.1]
        · by_cases n2 : n = 2
          · subst n2
            obtain ⟨q, q0, q1, q2⟩ := per_s (J := J) kx c0 d1
            obtain ⟨p, p0, p1, p2⟩ := mper_s (J := J) g2
            have e := (q2.of hv).uniq p2
            refine ⟨nI q, I1, ?_, ?_, look_rel hR g3⟩
            · unfold f_X10_recorded
              rw [rat_i (k := 13) rfl m0 m1 hx, bd1_s, oel_some, if_pos kx, if_neg (by decide), if_neg (by decide), if_pos N_2.symm, q1, bd1_s]
            · unfold f_X11_recorded
              rw [isRec_s m0 m2]
              simp (disch := omega) only [bd1_s, bd2_s, bd3_s, nm_s, wi_s, ite_bI, bI_1, le_pred, if_true, in_x, cl_nI, vin_nI, nI_add, nI_mul, le_nn, lt_nn, eq_nn, sb, reduceIte, N_0, N_1, N_2, N_3, N_4, N_5, N_6, N_7, N_8, N_9, N_10, N_11, N_12, N_13, N_14, N_16, N_20, N_30, N_31, N_32, N_37, N_40, N_41, N_42, N_43, N_45, N_47, N_48, N_50, N_57, N_59, N_60, N_61, N_62, N_70, N_71, N_72, N_80, N_81, N_82, N_83, N_97, N_98, N_99, N_100, N_101, N_102, N_103, N_104, N_105, N_107, N_108, N_110, N_111, N_112, N_114, N_115, N_116, N_117, N_119, N_121, N_122, N_200, N_220, N_255, N_256, N_257, N_258, N_400, N_438, N_446, N_666, N_999, N_9999, N_10000, N_10010, N_10011, N_10012, N_10013, N_10014, N_10015, N_10016, N_10017, N_10018, N_12345, N_20000, N_20126, N_99999, N_1103515245, L_m999, L_m1, L_0, L_1, L_2, L_3, L_4, L_7, L_8, L_9, L_10, L_12, L_14, L_40, L_48, L_57, L_97, L_99, L_122, L_255, L_400, L_999, L_9999, if_pos, if_neg, pE, pN, cE, cN, d2, g1, p1, e]
          · have hs : f_X9_has (13 + 2 + 2 * x) (nI (n - 3)) I J = some (bI (nI 0 ≤ nI (n - 3) ∧ nI (n - 3) < nI c)) := has_s (by omega) d1
            have ha := at_s (J := J) kx c0 d1 (show n - 3 < c by omega)
            refine ⟨I 99 (73 + 61 * x + (n - 3)), I1, ?_, ?_, look_rel hR g3⟩
            · unfold f_X10_recorded
              rw [rat_i (k := 13) rfl m0 m1 hx, bd1_s, oel_some, if_pos kx]
              simp (disch := omega) only [bd1_s, bd2_s, bd3_s, nm_s, wi_s, ite_bI, bI_1, le_pred, if_true, in_x, cl_nI, vin_nI, nI_add, nI_mul, le_nn, lt_nn, eq_nn, sb, reduceIte, N_0, N_1, N_2, N_3, N_4, N_5, N_6, N_7, N_8, N_9, N_10, N_11, N_12, N_13, N_14, N_16, N_20, N_30, N_31, N_32, N_37, N_40, N_41, N_42, N_43, N_45, N_47, N_48, N_50, N_57, N_59, N_60, N_61, N_62, N_70, N_71, N_72, N_80, N_81, N_82, N_83, N_97, N_98, N_99, N_100, N_101, N_102, N_103, N_104, N_105, N_107, N_108, N_110, N_111, N_112, N_114, N_115, N_116, N_117, N_119, N_121, N_122, N_200, N_220, N_255, N_256, N_257, N_258, N_400, N_438, N_446, N_666, N_999, N_9999, N_10000, N_10010, N_10011, N_10012, N_10013, N_10014, N_10015, N_10016, N_10017, N_10018, N_12345, N_20000, N_20126, N_99999, N_1103515245, L_m999, L_m1, L_0, L_1, L_2, L_3, L_4, L_7, L_8, L_9, L_10, L_12, L_14, L_40, L_48, L_57, L_97, L_99, L_122, L_255, L_400, L_999, L_9999, if_pos, if_neg, pE, pN, cE, cN, hs, ha]
              rw [hv _ (by omega)]
            · have hg := g2.2.2 (n - 3) (by omega)
              unfold f_X11_recorded
              rw [isRec_s m0 m2]
              simp (disch := omega) only [bd1_s, bd2_s, bd3_s, nm_s, wi_s, ite_bI, bI_1, le_pred, if_true, in_x, cl_nI, vin_nI, nI_add, nI_mul, le_nn, lt_nn, eq_nn, sb, reduceIte, N_0, N_1, N_2, N_3, N_4, N_5, N_6, N_7, N_8, N_9, N_10, N_11, N_12, N_13, N_14, N_16, N_20, N_30, N_31, N_32, N_37, N_40, N_41, N_42, N_43, N_45, N_47, N_48, N_50, N_57, N_59, N_60, N_61, N_62, N_70, N_71, N_72, N_80, N_81, N_82, N_83, N_97, N_98, N_99, N_100, N_101, N_102, N_103, N_104, N_105, N_107, N_108, N_110, N_111, N_112, N_114, N_115, N_116, N_117, N_119, N_121, N_122, N_200, N_220, N_255, N_256, N_257, N_258, N_400, N_438, N_446, N_666, N_999, N_9999, N_10000, N_10010, N_10011, N_10012, N_10013, N_10014, N_10015, N_10016, N_10017, N_10018, N_12345, N_20000, N_20126, N_99999, N_1103515245, L_m999, L_m1, L_0, L_1, L_2, L_3, L_4, L_7, L_8, L_9, L_10, L_12, L_14, L_40, L_48, L_57, L_97, L_99, L_122, L_255, L_400, L_999, L_9999, if_pos, if_neg, pE, pN, cE, cN, d2, g1, hg]
    · refine ⟨-1, I, ?_, ?_, hM⟩
      · unfold f_X10_recorded
        rw [rat_i (k := 13) rfl m0 m1 hx, bd1_s, oel_some, if_pos kx]
        have hne : ∀ k, k ≤ 2 → a1 ≠ nI k := fun k hk e => h1 (by rw [e, le_nn (by omega) (by omega), le_nn (by omega) (by omega)]; omega)
        simp only [N_0, N_1, N_2, N_3]
        rw [if_neg (hne 0 (by omega)), if_neg (hne 1 (by omega)), if_neg (hne 2 (by omega))]
        by_cases h3 : a1 < nI 3
        · rw [if_pos h3]
        · rw [if_neg h3]
          have hf : ¬ (nI 0 ≤ a1 - nI 3 ∧ a1 - nI 3 < nI c) := fun q => h1 (by
            have q2 := i_lt.mp q.2
            have e3 : (nI 3).toInt = 3 := by decide
            have e0 : (nI 0).toInt = 0 := by decide
            have h4 : ¬ a1.toInt < 3 := fun q => h3 (i_lt.mpr (by omega))
            have hr := i_rng a1
            rw [i_nat _ (by omega), i_sub (by omega) (by omega)] at q2
            have ec : (nI (2 + c)).toInt = (2 + c : Nat) := i_nat _ (by omega)
            rw [i_le, i_le, ec]
            omega)
          rw [has_s (by omega) d1, bd1_s, bI_f hf, if_pos N_0]
      · unfold f_X11_recorded
        rw [isRec_s m0 m2]
        simp (disch := omega) only [bd1_s, bd2_s, bd3_s, nm_s, wi_s, ite_bI, bI_1, le_pred, if_true, in_x, cl_nI, vin_nI, nI_add, nI_mul, le_nn, lt_nn, eq_nn, sb, reduceIte, N_0, N_1, N_2, N_3, N_4, N_5, N_6, N_7, N_8, N_9, N_10, N_11, N_12, N_13, N_14, N_16, N_20, N_30, N_31, N_32, N_37, N_40, N_41, N_42, N_43, N_45, N_47, N_48, N_50, N_57, N_59, N_60, N_61, N_62, N_70, N_71, N_72, N_80, N_81, N_82, N_83, N_97, N_98, N_99, N_100, N_101, N_102, N_103, N_104, N_105, N_107, N_108, N_110, N_111, N_112, N_114, N_115, N_116, N_117, N_119, N_121, N_122, N_200, N_220, N_255, N_256, N_257, N_258, N_400, N_438, N_446, N_666, N_999, N_9999, N_10000, N_10010, N_10011, N_10012, N_10013, N_10014, N_10015, N_10016, N_10017, N_10018, N_12345, N_20000, N_20126, N_99999, N_1103515245, L_m999, L_m1, L_0, L_1, L_2, L_3, L_4, L_7, L_8, L_9, L_10, L_12, L_14, L_40, L_48, L_57, L_97, L_99, L_122, L_255, L_400, L_999, L_9999, if_pos, if_neg, pE, pN, cE, cN, d2]
        all_goals rw [if_neg h1]
  · refine ⟨-1, I, ?_, ?_, hM⟩
    · unfold f_X10_recorded
      rw [rat_o (k := 13) rfl m0 m1 h0, bd1_s, oel_none]
    · unfold f_X11_recorded
      rw [isRec_s m0 m2, bd1_s, ite_bI, if_neg h0]

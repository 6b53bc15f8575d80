theorem chits_s {I : HI} {J : HJ} {q c k : Nat} {v : Nat → Int32} {a1 : Int32} (h : Row I q c v) (hk : k ≤ 9) : f_X9_countHits q (nI k) a1 I J = some (cS (fun i => ¬ a1 < jabs (told v i k (v i) - v (i + k))) 1 (c - k - 1)) := by
  have hc := h.2.1
  have key : ∀ d i f, i + d = max 1 (c - k) → d < f → 1 ≤ i → ∀ acc, fL_X9_countHits_5 q (nI k) a1 f acc (nI i) I J = some (acc + cS (fun i => ¬ a1 < jabs (told v i k (v i) - v (i + k))) i (max 1 (c - k) - i)) := by
    refine fuel (L := fL_X9_countHits_5 q (nI k) a1) (B := fLB_X9_countHits_5 q (nI k) a1) (fun _ => rfl) (P := fun i g => 1 ≤ i → ∀ acc, g acc (nI i) I J = some (acc + cS (fun i => ¬ a1 < jabs (told v i k (v i) - v (i + k))) i (max 1 (c - k) - i))) (fun g h1 acc => ?_) (fun i g hi ih h1 acc => ?_)
    · unfold fLB_X9_countHits_5
      rw [Nat.sub_self, cS_z, Int32.add_zero, h.2.2.1, nI_add, if_pos (by rw [le_nn (by omega) (by omega)]; omega)]
    · unfold fLB_X9_countHits_5 fB_X9_countHits_42
      rw [h.2.2.1, nI_add, if_neg (by rw [le_nn (by omega) (by omega)]; omega), tah_s h h1 (by omega) hk, h.at (by omega), bd1_s, bd1_s, nm_s, nm_s, nm_s, nI_1, cS_st _ hi]
      by_cases e : a1 < jabs (told v i k (v i) - v (i + k))
      · rw [if_pos e, bI_f (by exact not_not_intro e), Int32.add_zero]
        exact ih (by omega) acc
      · rw [if_neg e, bI_t e]
        exact ih (by omega) (acc + 1)
  have := key (max 1 (c - k) - 1) 1 FU (by omega) (FU_ge (by omega)) (Nat.le_refl _) 0
  rw [Int32.zero_add, show max 1 (c - k) - 1 = c - k - 1 by omega] at this
  exact this
theorem mhits_s {I : HI} {J : HJ} {c k : Nat} {v : Nat → Int32} {a1 : Int32} (h : Look I c v) (hv : ∀ j, j < c → 0 ≤ (v j).toInt) (hk : k ≤ 9) : fL_X11_hits_35 (nI k) a1 FU (nI 0) (nI 1) I J = some (cS (fun i => ¬ a1 < jabs (told v i k (v i) - v (i + k))) 1 (c - k - 1), I) := by
  have hc := h.1
  have key : ∀ d i f, i + d = max 1 (c - k) → d < f → 1 ≤ i → ∀ acc, fL_X11_hits_35 (nI k) a1 f acc (nI i) I J = some (acc + cS (fun i => ¬ a1 < jabs (told v i k (v i) - v (i + k))) i (max 1 (c - k) - i), I) := by
    refine fuel (L := fL_X11_hits_35 (nI k) a1) (B := fLB_X11_hits_35 (nI k) a1) (fun _ => rfl) (P := fun i g => 1 ≤ i → ∀ acc, g acc (nI i) I J = some (acc + cS (fun i => ¬ a1 < jabs (told v i k (v i) - v (i + k))) i (max 1 (c - k) - i), I)) (fun g h1 acc => ?_) (fun i g hi ih h1 acc => ?_)
    · unfold fLB_X11_hits_35
      rw [Nat.sub_self, cS_z, Int32.add_zero, h.2.1, nI_add, if_pos (by rw [le_nn (by omega) (by omega)]; omega)]
    · unfold fLB_X11_hits_35 fB_X11_hits_75
      rw [h.2.1, nI_add, if_neg (by rw [le_nn (by omega) (by omega)]; omega), mtold_s h hv h1 (by omega) hk, bd1_s, if_pos (vin_nI (by omega) (by omega)), cl_nI (by omega), h.2.2 _ (by omega), off_s (told_pos hv h1 (by omega) _ _ (hv _ (by omega))) (hv _ (by omega)), bd1_s, nm_s, nm_s, nm_s, nI_1, cS_st _ hi]
      by_cases e : a1 < jabs (told v i k (v i) - v (i + k))
      · rw [if_pos e, bI_f (by exact not_not_intro e)]
        exact ih (by omega) (acc + 0)
      · rw [if_neg e, bI_t e]
        exact ih (by omega) (acc + 1)
  have := key (max 1 (c - k) - 1) 1 FU (by omega) (FU_ge (by omega)) (Nat.le_refl _) (nI 0)
  rw [show (nI 0 : Int32) = 0 from rfl, Int32.zero_add, show max 1 (c - k) - 1 = c - k - 1 by omega] at this
  exact this
theorem sim_hits {N : Nat} {I : HI} {J : HJ} (hN : N ≤ 1000000) (hR : Rel N I J) (a0 : Int32) (a1 : Int32) : ∃ (r : Int32) (I2 : HI), f_X10_hits a0 a1 I J = some r ∧ f_X11_hits a0 a1 I J = some (r, I2) ∧ Rel (N + 400) I2 J := by
  have hM := hR.mono (Nat.le_add_right N 400)
  by_cases h : nI 1 ≤ a0 ∧ a0 ≤ nI 9
  · by_cases h' : nI 0 ≤ a1 ∧ a1 ≤ nI 9999
    · obtain ⟨n, hn, rfl⟩ := rng (M := 9) (by omega) ⟨by have := i_le.mp h.1; rw [i_le]; have e0 : (0 : Int32).toInt = 0 := by decide
                                                         have e1 : (nI 1).toInt = 1 := by decide
                                                         omega, h.2⟩
      obtain ⟨c, v, I1, h1, h2, h3, h4, h5, h6⟩ := rows_s hR
      have hn1 : 1 ≤ n := by
        have := h.1
        rw [le_nn (by omega) (by omega)] at this
        exact this
      refine ⟨cS (fun i => ¬ a1 < jabs (told v i n (v i) - v (i + n))) 1 (c - n - 1), I1, ?_, ?_, h6⟩
      · unfold f_X10_hits
        simp (disch := omega) only [bd1_s, bd2_s, bd3_s, nm_s, wi_s, ite_bI, bI_1, le_pred, if_true, in_x, cl_nI, vin_nI, nI_add, nI_mul, le_nn, lt_nn, eq_nn, sb, reduceIte, N_0, N_1, N_2, N_3, N_4, N_5, N_6, N_7, N_8, N_9, N_10, N_11, N_12, N_13, N_14, N_16, N_20, N_30, N_31, N_32, N_37, N_40, N_41, N_42, N_43, N_45, N_47, N_48, N_50, N_57, N_59, N_60, N_61, N_62, N_70, N_71, N_72, N_80, N_81, N_82, N_83, N_97, N_98, N_99, N_100, N_101, N_102, N_103, N_104, N_105, N_107, N_108, N_110, N_111, N_112, N_114, N_115, N_116, N_117, N_119, N_121, N_122, N_200, N_220, N_255, N_256, N_257, N_258, N_400, N_438, N_446, N_666, N_999, N_9999, N_10000, N_10010, N_10011, N_10012, N_10013, N_10014, N_10015, N_10016, N_10017, N_10018, N_12345, N_20000, N_20126, N_99999, N_1103515245, L_m999, L_m1, L_0, L_1, L_2, L_3, L_4, L_7, L_8, L_9, L_10, L_12, L_14, L_40, L_48, L_57, L_97, L_99, L_122, L_255, L_400, L_999, L_9999, if_pos, if_neg, pE, pN, cE, cN, chits_s h1 hn]
        all_goals rw [if_pos h']
      · unfold f_X11_hits
        simp (disch := omega) only [bd1_s, bd2_s, bd3_s, nm_s, wi_s, ite_bI, bI_1, le_pred, if_true, in_x, cl_nI, vin_nI, nI_add, nI_mul, le_nn, lt_nn, eq_nn, sb, reduceIte, N_0, N_1, N_2, N_3, N_4, N_5, N_6, N_7, N_8, N_9, N_10, N_11, N_12, N_13, N_14, N_16, N_20, N_30, N_31, N_32, N_37, N_40, N_41, N_42, N_43, N_45, N_47, N_48, N_50, N_57, N_59, N_60, N_61, N_62, N_70, N_71, N_72, N_80, N_81, N_82, N_83, N_97, N_98, N_99, N_100, N_101, N_102, N_103, N_104, N_105, N_107, N_108, N_110, N_111, N_112, N_114, N_115, N_116, N_117, N_119, N_121, N_122, N_200, N_220, N_255, N_256, N_257, N_258, N_400, N_438, N_446, N_666, N_999, N_9999, N_10000, N_10010, N_10011, N_10012, N_10013, N_10014, N_10015, N_10016, N_10017, N_10018, N_12345, N_20000, N_20126, N_99999, N_1103515245, L_m999, L_m1, L_0, L_1, L_2, L_3, L_4, L_7, L_8, L_9, L_10, L_12, L_14, L_40, L_48, L_57, L_97, L_99, L_122, L_255, L_400, L_999, L_9999, if_pos, if_neg, pE, pN, cE, cN, h4, mhits_s h5 h2 hn]
        all_goals rw [if_pos h']
    · refine ⟨-1, I, ?_, ?_, hM⟩
      · unfold f_X10_hits
        simp (disch := omega) only [bd1_s, bd2_s, bd3_s, nm_s, wi_s, ite_bI, bI_1, le_pred, if_true, in_x, cl_nI, vin_nI, nI_add, nI_mul, le_nn, lt_nn, eq_nn, sb, reduceIte, N_0, N_1, N_2, N_3, N_4, N_5, N_6, N_7, N_8, N_9, N_10, N_11, N_12, N_13, N_14, N_16, N_20, N_30, N_31, N_32, N_37, N_40, N_41, N_42, N_43, N_45, N_47, N_48, N_50, N_57, N_59, N_60, N_61, N_62, N_70, N_71, N_72, N_80, N_81, N_82, N_83, N_97, N_98, N_99, N_100, N_101, N_102, N_103, N_104, N_105, N_107, N_108, N_110, N_111, N_112, N_114, N_115, N_116, N_117, N_119, N_121, N_122, N_200, N_220, N_255, N_256, N_257, N_258, N_400, N_438, N_446, N_666, N_999, N_9999, N_10000, N_10010, N_10011, N_10012, N_10013, N_10014, N_10015, N_10016, N_10017, N_10018, N_12345, N_20000, N_20126, N_99999, N_1103515245, L_m999, L_m1, L_0, L_1, L_2, L_3, L_4, L_7, L_8, L_9, L_10, L_12, L_14, L_40, L_48, L_57, L_97, L_99, L_122, L_255, L_400, L_999, L_9999]
        rw [if_pos h, if_neg h']
      · unfold f_X11_hits
        simp (disch := omega) only [bd1_s, bd2_s, bd3_s, nm_s, wi_s, ite_bI, bI_1, le_pred, if_true, in_x, cl_nI, vin_nI, nI_add, nI_mul, le_nn, lt_nn, eq_nn, sb, reduceIte, N_0, N_1, N_2, N_3, N_4, N_5, N_6, N_7, N_8, N_9, N_10, N_11, N_12, N_13, N_14, N_16, N_20, N_30, N_31, N_32, N_37, N_40, N_41, N_42, N_43, N_45, N_47, N_48, N_50, N_57, N_59, N_60, N_61, N_62, N_70, N_71, N_72, N_80, N_81, N_82, N_83, N_97, N_98, N_99, N_100, N_101, N_102, N_103, N_104, N_105, N_107, N_108, N_110, N_111, N_112, N_114, N_115, N_116, N_117, N_119, N_121, N_122, N_200, N_220, N_255, N_256, N_257, N_258, N_400, N_438, N_446, N_666, N_999, N_9999, N_10000, N_10010, N_10011, N_10012, N_10013, N_10014, N_10015, N_10016, N_10017, N_10018, N_12345, N_20000, N_20126, N_99999, N_1103515245, L_m999, L_m1, L_0, L_1, L_2, L_3, L_4, L_7, L_8, L_9, L_10, L_12, L_14, L_40, L_48, L_57, L_97, L_99, L_122, L_255, L_400, L_999, L_9999]
        rw [if_pos h, if_neg h']
  · refine ⟨-1, I, ?_, ?_, hM⟩
    · unfold f_X10_hits
      simp (disch := omega) only [bd1_s, bd2_s, bd3_s, nm_s, wi_s, ite_bI, bI_1, le_pred, if_true, in_x, cl_nI, vin_nI, nI_add, nI_mul, le_nn, lt_nn, eq_nn, sb, reduceIte, N_0, N_1, N_2, N_3, N_4, N_5, N_6, N_7, N_8, N_9, N_10, N_11, N_12, N_13, N_14, N_16, N_20, N_30, N_31, N_32, N_37, N_40, N_41, N_42, N_43, N_45, N_47, N_48, N_50, N_57, N_59, N_60, N_61, N_62, N_70, N_71, N_72, N_80, N_81, N_82, N_83, N_97, N_98, N_99, N_100, N_101, N_102, N_103, N_104, N_105, N_107, N_108, N_110, N_111, N_112, N_114, N_115, N_116, N_117, N_119, N_121, N_122, N_200, N_220, N_255, N_256, N_257, N_258, N_400, N_438, N_446, N_666, N_999, N_9999, N_10000, N_10010, N_10011, N_10012, N_10013, N_10014, N_10015, N_10016, N_10017, N_10018, N_12345, N_20000, N_20126, N_99999, N_1103515245, L_m999, L_m1, L_0, L_1, L_2, L_3, L_4, L_7, L_8, L_9, L_10, L_12, L_14, L_40, L_48, L_57, L_97, L_99, L_122, L_255, L_400, L_999, L_9999]
      rw [if_neg h]
    · unfold f_X11_hits
      simp (disch := omega) only [bd1_s, bd2_s, bd3_s, nm_s, wi_s, ite_bI, bI_1, le_pred, if_true, in_x, cl_nI, vin_nI, nI_add, nI_mul, le_nn, lt_nn, eq_nn, sb, reduceIte, N_0, N_1, N_2, N_3, N_4, N_5, N_6, N_7, N_8, N_9, N_10, N_11, N_12, N_13, N_14, N_16, N_20, N_30, N_31, N_32, N_37, N_40, N_41, N_42, N_43, N_45, N_47, N_48, N_50, N_57, N_59, N_60, N_61, N_62, N_70, N_71, N_72, N_80, N_81, N_82, N_83, N_97, N_98, N_99, N_100, N_101, N_102, N_103, N_104, N_105, N_107, N_108, N_110, N_111, N_112, N_114, N_115, N_116, N_117, N_119, N_121, N_122, N_200, N_220, N_255, N_256, N_257, N_258, N_400, N_438, N_446, N_666, N_999, N_9999, N_10000, N_10010, N_10011, N_10012, N_10013, N_10014, N_10015, N_10016, N_10017, N_10018, N_12345, N_20000, N_20126, N_99999, N_1103515245, L_m999, L_m1, L_0, L_1, L_2, L_3, L_4, L_7, L_8, L_9, L_10, L_12, L_14, L_40, L_48, L_57, L_97, L_99, L_122, L_255, L_400, L_999, L_9999]
      rw [if_neg h]
theorem sim_drift {N : Nat} {I : HI} {J : HJ} (hN : N ≤ 1000000) (hR : Rel N I J) (a0 : Int32) : ∃ (r : Int32) (I2 : HI), f_X10_drift a0 I J = some r ∧ f_X11_drift a0 I J = some (r, I2) ∧ Rel (N + 400) I2 J := by
  obtain ⟨c, v, I1, h1, h2, h3, h4, h5, h6⟩ := rows_s hR
  have hc := h1.2.1
  by_cases hc2 : 2 ≤ c
  · by_cases h : nI 0 ≤ a0 ∧ a0 < nI c
    · obtain ⟨n, hn, rfl⟩ := rng2 (by omega) h
      have hn2 : nI (c - 1) ≠ nI 0 := fun q => by
        rw [eq_nn (by omega) (by omega)] at q
        omega
      refine ⟨v n - v 0 - (v (c - 1) - v 0) * nI n / nI (c - 1) + nI 20000, I1, ?_, ?_, h6⟩
      · unfold f_X10_drift f_X9_size
        have e0 := h1.at (J := J) (show 0 < c by omega)
        have e1 := h1.at (J := J) (show c - 1 < c by omega)
        have e2 := h1.at (J := J) hn
        simp (disch := omega) only [bd1_s, bd2_s, bd3_s, nm_s, wi_s, ite_bI, bI_1, le_pred, if_true, in_x, cl_nI, vin_nI, nI_add, nI_mul, le_nn, lt_nn, eq_nn, sb, reduceIte, N_0, N_1, N_2, N_3, N_4, N_5, N_6, N_7, N_8, N_9, N_10, N_11, N_12, N_13, N_14, N_16, N_20, N_30, N_31, N_32, N_37, N_40, N_41, N_42, N_43, N_45, N_47, N_48, N_50, N_57, N_59, N_60, N_61, N_62, N_70, N_71, N_72, N_80, N_81, N_82, N_83, N_97, N_98, N_99, N_100, N_101, N_102, N_103, N_104, N_105, N_107, N_108, N_110, N_111, N_112, N_114, N_115, N_116, N_117, N_119, N_121, N_122, N_200, N_220, N_255, N_256, N_257, N_258, N_400, N_438, N_446, N_666, N_999, N_9999, N_10000, N_10010, N_10011, N_10012, N_10013, N_10014, N_10015, N_10016, N_10017, N_10018, N_12345, N_20000, N_20126, N_99999, N_1103515245, L_m999, L_m1, L_0, L_1, L_2, L_3, L_4, L_7, L_8, L_9, L_10, L_12, L_14, L_40, L_48, L_57, L_97, L_99, L_122, L_255, L_400, L_999, L_9999, if_pos, if_neg, pE, pN, cE, cN, h3, has_s (by omega) h3, e0, e1, e2]
      · unfold f_X11_drift
        have e0 := h5.2.2 0 (by omega)
        have e1 := h5.2.2 (c - 1) (by omega)
        have e2 := h5.2.2 n hn
        simp (disch := omega) only [bd1_s, bd2_s, bd3_s, nm_s, wi_s, ite_bI, bI_1, le_pred, if_true, in_x, cl_nI, vin_nI, nI_add, nI_mul, le_nn, lt_nn, eq_nn, sb, reduceIte, N_0, N_1, N_2, N_3, N_4, N_5, N_6, N_7, N_8, N_9, N_10, N_11, N_12, N_13, N_14, N_16, N_20, N_30, N_31, N_32, N_37, N_40, N_41, N_42, N_43, N_45, N_47, N_48, N_50, N_57, N_59, N_60, N_61, N_62, N_70, N_71, N_72, N_80, N_81, N_82, N_83, N_97, N_98, N_99, N_100, N_101, N_102, N_103, N_104, N_105, N_107, N_108, N_110, N_111, N_112, N_114, N_115, N_116, N_117, N_119, N_121, N_122, N_200, N_220, N_255, N_256, N_257, N_258, N_400, N_438, N_446, N_666, N_999, N_9999, N_10000, N_10010, N_10011, N_10012, N_10013, N_10014, N_10015, N_10016, N_10017, N_10018, N_12345, N_20000, N_20126, N_99999, N_1103515245, L_m999, L_m1, L_0, L_1, L_2, L_3, L_4, L_7, L_8, L_9, L_10, L_12, L_14, L_40, L_48, L_57, L_97, L_99, L_122, L_255, L_400, L_999, L_9999, if_pos, if_neg, pE, pN, cE, cN, h4, h5.2.1, e0, e1, e2]
    · refine ⟨-3, I1, ?_, ?_, h6⟩
      · unfold f_X10_drift f_X9_size
        simp (disch := omega) only [bd1_s, bd2_s, bd3_s, nm_s, wi_s, ite_bI, bI_1, le_pred, if_true, in_x, cl_nI, vin_nI, nI_add, nI_mul, le_nn, lt_nn, eq_nn, sb, reduceIte, N_0, N_1, N_2, N_3, N_4, N_5, N_6, N_7, N_8, N_9, N_10, N_11, N_12, N_13, N_14, N_16, N_20, N_30, N_31, N_32, N_37, N_40, N_41, N_42, N_43, N_45, N_47, N_48, N_50, N_57, N_59, N_60, N_61, N_62, N_70, N_71, N_72, N_80, N_81, N_82, N_83, N_97, N_98, N_99, N_100, N_101, N_102, N_103, N_104, N_105, N_107, N_108, N_110, N_111, N_112, N_114, N_115, N_116, N_117, N_119, N_121, N_122, N_200, N_220, N_255, N_256, N_257, N_258, N_400, N_438, N_446, N_666, N_999, N_9999, N_10000, N_10010, N_10011, N_10012, N_10013, N_10014, N_10015, N_10016, N_10017, N_10018, N_12345, N_20000, N_20126, N_99999, N_1103515245, L_m999, L_m1, L_0, L_1, L_2, L_3, L_4, L_7, L_8, L_9, L_10, L_12, L_14, L_40, L_48, L_57, L_97, L_99, L_122, L_255, L_400, L_999, L_9999, if_pos, if_neg, pE, pN, cE, cN, h3, has_s (by omega) h3]
        all_goals rw [if_neg h]
      · unfold f_X11_drift
        simp (disch := omega) only [bd1_s, bd2_s, bd3_s, nm_s, wi_s, ite_bI, bI_1, le_pred, if_true, in_x, cl_nI, vin_nI, nI_add, nI_mul, le_nn, lt_nn, eq_nn, sb, reduceIte, N_0, N_1, N_2, N_3, N_4, N_5, N_6, N_7, N_8, N_9, N_10, N_11, N_12, N_13, N_14, N_16, N_20, N_30, N_31, N_32, N_37, N_40, N_41, N_42, N_43, N_45, N_47, N_48, N_50, N_57, N_59, N_60, N_61, N_62, N_70, N_71, N_72, N_80, N_81, N_82, N_83, N_97, N_98, N_99, N_100, N_101, N_102, N_103, N_104, N_105, N_107, N_108, N_110, N_111, N_112, N_114, N_115, N_116, N_117, N_119, N_121, N_122, N_200, N_220, N_255, N_256, N_257, N_258, N_400, N_438, N_446, N_666, N_999, N_9999, N_10000, N_10010, N_10011, N_10012, N_10013, N_10014, N_10015, N_10016, N_10017, N_10018, N_12345, N_20000, N_20126, N_99999, N_1103515245, L_m999, L_m1, L_0, L_1, L_2, L_3, L_4, L_7, L_8, L_9, L_10, L_12, L_14, L_40, L_48, L_57, L_97, L_99, L_122, L_255, L_400, L_999, L_9999, if_pos, if_neg, pE, pN, cE, cN, h4, h5.2.1]
        rw [if_neg (fun q => h ⟨q.1, by
          have q2 := i_le.mp q.2
          rw [i_nat _ (by omega)] at q2
          rw [i_lt, i_nat _ (by omega)]
          omega⟩)]
  · refine ⟨-3, I1, ?_, ?_, h6⟩
    · unfold f_X10_drift f_X9_size
      simp (disch := omega) only [bd1_s, bd2_s, bd3_s, nm_s, wi_s, ite_bI, bI_1, le_pred, if_true, in_x, cl_nI, vin_nI, nI_add, nI_mul, le_nn, lt_nn, eq_nn, sb, reduceIte, N_0, N_1, N_2, N_3, N_4, N_5, N_6, N_7, N_8, N_9, N_10, N_11, N_12, N_13, N_14, N_16, N_20, N_30, N_31, N_32, N_37, N_40, N_41, N_42, N_43, N_45, N_47, N_48, N_50, N_57, N_59, N_60, N_61, N_62, N_70, N_71, N_72, N_80, N_81, N_82, N_83, N_97, N_98, N_99, N_100, N_101, N_102, N_103, N_104, N_105, N_107, N_108, N_110, N_111, N_112, N_114, N_115, N_116, N_117, N_119, N_121, N_122, N_200, N_220, N_255, N_256, N_257, N_258, N_400, N_438, N_446, N_666, N_999, N_9999, N_10000, N_10010, N_10011, N_10012, N_10013, N_10014, N_10015, N_10016, N_10017, N_10018, N_12345, N_20000, N_20126, N_99999, N_1103515245, L_m999, L_m1, L_0, L_1, L_2, L_3, L_4, L_7, L_8, L_9, L_10, L_12, L_14, L_40, L_48, L_57, L_97, L_99, L_122, L_255, L_400, L_999, L_9999, if_pos, if_neg, pE, pN, cE, cN, h3]
    · unfold f_X11_drift
      simp (disch := omega) only [bd1_s, bd2_s, bd3_s, nm_s, wi_s, ite_bI, bI_1, le_pred, if_true, in_x, cl_nI, vin_nI, nI_add, nI_mul, le_nn, lt_nn, eq_nn, sb, reduceIte, N_0, N_1, N_2, N_3, N_4, N_5, N_6, N_7, N_8, N_9, N_10, N_11, N_12, N_13, N_14, N_16, N_20, N_30, N_31, N_32, N_37, N_40, N_41, N_42, N_43, N_45, N_47, N_48, N_50, N_57, N_59, N_60, N_61, N_62, N_70, N_71, N_72, N_80, N_81, N_82, N_83, N_97, N_98, N_99, N_100, N_101, N_102, N_103, N_104, N_105, N_107, N_108, N_110, N_111, N_112, N_114, N_115, N_116, N_117, N_119, N_121, N_122, N_200, N_220, N_255, N_256, N_257, N_258, N_400, N_438, N_446, N_666, N_999, N_9999, N_10000, N_10010, N_10011, N_10012, N_10013, N_10014, N_10015, N_10016, N_10017, N_10018, N_12345, N_20000, N_20126, N_99999, N_1103515245, L_m999, L_m1, L_0, L_1, L_2, L_3, L_4, L_7, L_8, L_9, L_10, L_12, L_14, L_40, L_48, L_57, L_97, L_99, L_122, L_255, L_400, L_999, L_9999, if_pos, if_neg, pE, pN, cE, cN, h4, h5.2.1]
def fld (g : Int32 → Int32 → Int32) (v : Nat → Int32) : Nat → Nat → Int32 → Int32
  | _, 0, x => x
  | i, d + 1, x => fld g v (i + 1) d (g x (v i))
theorem least_s {I : HI} {J : HJ} {k c : Nat} {v : Nat → Int32} (h : Row I k c v) (h1 : 1 ≤ c) : f_X9_least k I J = some (fld jmin v 1 (c - 1) (v 0)) := by
  have hc := h.2.1
  have key : ∀ d i f, i + d = c → d < f → ∀ x, fL_X9_least_8 k f x (nI i) I J = some (fld jmin v i d x) := by
    intro d
    induction d with
    | zero =>
      intro i f hi hf x
      obtain ⟨f, rfl⟩ : ∃ g, f = g + 1 := ⟨f - 1, by omega⟩
      show fLB_X9_least_8 k _ x (nI i) I J = _
      unfold fLB_X9_least_8
      rw [h.2.2.1, if_pos (by rw [le_nn (by omega) (by omega)]; omega)]
      rfl
    | succ d ih =>
      intro i f hi hf x
      obtain ⟨f, rfl⟩ : ∃ g, f = g + 1 := ⟨f - 1, by omega⟩
      show fLB_X9_least_8 k (fL_X9_least_8 k f) x (nI i) I J = some (fld jmin v (i + 1) d (jmin x (v i)))
      unfold fLB_X9_least_8
      rw [h.2.2.1, if_neg (by rw [le_nn (by omega) (by omega)]; omega), h.at (by omega), bd1_s, nm_s, nI_1, nm_s]
      exact ih (i + 1) f (by omega) (by omega) _
  unfold f_X9_least
  rw [N_0, h.at (by omega), bd1_s]
  exact key (c - 1) 1 FU (by omega) (FU_ge (by omega)) _
theorem great_s {I : HI} {J : HJ} {k c : Nat} {v : Nat → Int32} (h : Row I k c v) (h1 : 1 ≤ c) : f_X9_greatest k I J = some (fld jmax v 1 (c - 1) (v 0)) := by
  have hc := h.2.1
  have key : ∀ d i f, i + d = c → d < f → ∀ x, fL_X9_greatest_8 k f x (nI i) I J = some (fld jmax v i d x) := by
    intro d
    induction d with
    | zero =>
      intro i f hi hf x
      obtain ⟨f, rfl⟩ : ∃ g, f = g + 1 := ⟨f - 1, by omega⟩
      show fLB_X9_greatest_8 k _ x (nI i) I J = _
      unfold fLB_X9_greatest_8
      rw [h.2.2.1, if_pos (by rw [le_nn (by omega) (by omega)]; omega)]
      rfl
    | succ d ih =>
      intro i f hi hf x
      obtain ⟨f, rfl⟩ : ∃ g, f = g + 1 := ⟨f - 1, by omega⟩
      show fLB_X9_greatest_8 k (fL_X9_greatest_8 k f) x (nI i) I J = some (fld jmax v (i + 1) d (jmax x (v i)))
      unfold fLB_X9_greatest_8
      rw [h.2.2.1, if_neg (by rw [le_nn (by omega) (by omega)]; omega), h.at (by omega), bd1_s, nm_s, nI_1, nm_s]
      exact ih (i + 1) f (by omega) (by omega) _
  unfold f_X9_greatest
  rw [N_0, h.at (by omega), bd1_s]
  exact key (c - 1) 1 FU (by omega) (FU_ge (by omega)) _
theorem sum_s {I : HI} {J : HJ} {k c : Nat} {v : Nat → Int32} (h : Row I k c v) : f_X9_sum k I J = some (fld (fun x y => x + y) v 0 c (nI 0)) := by
  have hc := h.2.1
  have key : ∀ d i f, i + d = c → d < f → ∀ x, fL_X9_sum_4 k f x (nI i) I J = some (fld (fun x y => x + y) v i d x) := by
    intro d
    induction d with
    | zero =>
      intro i f hi hf x
      obtain ⟨f, rfl⟩ : ∃ g, f = g + 1 := ⟨f - 1, by omega⟩
      show fLB_X9_sum_4 k _ x (nI i) I J = _
      unfold fLB_X9_sum_4
      rw [h.2.2.1, if_pos (by rw [le_nn (by omega) (by omega)]; omega)]
      rfl
    | succ d ih =>
      intro i f hi hf x
      obtain ⟨f, rfl⟩ : ∃ g, f = g + 1 := ⟨f - 1, by omega⟩
      show fLB_X9_sum_4 k (fL_X9_sum_4 k f) x (nI i) I J = some (fld (fun x y => x + y) v (i + 1) d (x + v i))
      unfold fLB_X9_sum_4
      rw [h.2.2.1, if_neg (by rw [le_nn (by omega) (by omega)]; omega), h.at (by omega), bd1_s, nm_s, nI_1, nm_s]
      exact ih (i + 1) f (by omega) (by omega) _
  exact key c 0 FU (by omega) (FU_ge (by omega)) _
theorem mspan_s {I : HI} {J : HJ} {c : Nat} {v : Nat → Int32} {a0 : Int32} (h : Look I c v) : ∀ d i f, i + d = c → d < f → ∀ x y z, fL_X11_span_48 a0 f x y z (nI i) I J = some (if a0 = 0 then fld jmin v i d x else if a0 = 1 then fld jmax v i d y else fld (fun x y => x + y) v i d z, I) := by
  obtain ⟨hc, hl, hk⟩ := h
  intro d
  induction d with
  | zero =>
    intro i f hi hf x y z
    obtain ⟨f, rfl⟩ : ∃ g, f = g + 1 := ⟨f - 1, by omega⟩
    show fLB_X11_span_48 a0 _ x y z (nI i) I J = some (if a0 = 0 then x else if a0 = 1 then y else z, I)
    unfold fLB_X11_span_48
    rw [hl, if_pos (by rw [le_nn (by omega) (by omega)]; omega)]
    by_cases e0 : a0 = 0
    · rw [if_pos e0, if_pos e0]
    · rw [if_neg e0, if_neg e0]
      by_cases e1 : a0 = 1
      · rw [if_pos e1, if_pos e1]
      · rw [if_neg e1, if_neg e1]
  | succ d ih =>
    intro i f hi hf x y z
    obtain ⟨f, rfl⟩ : ∃ g, f = g + 1 := ⟨f - 1, by omega⟩
    show fLB_X11_span_48 a0 (fL_X11_span_48 a0 f) x y z (nI i) I J = some (if a0 = 0 then fld jmin v (i + 1) d (jmin x (v i)) else if a0 = 1 then fld jmax v (i + 1) d (jmax y (v i)) else fld (fun x y => x + y) v (i + 1) d (z + v i), I)
    rw [← ih (i + 1) f (by omega) (by omega)]
    unfold fLB_X11_span_48 fB_X11_span_79 fB_X11_span_102
    rw [hl, if_neg (by rw [le_nn (by omega) (by omega)]; omega)]
    simp (disch := omega) only [bd1_s, bd2_s, bd3_s, nm_s, wi_s, ite_bI, bI_1, le_pred, if_true, in_x, cl_nI, vin_nI, nI_add, nI_mul, le_nn, lt_nn, eq_nn, sb, reduceIte, N_0, N_1, N_2, N_3, N_4, N_5, N_6, N_7, N_8, N_9, N_10, N_11, N_12, N_13, N_14, N_16, N_20, N_30, N_31, N_32, N_37, N_40, N_41, N_42, N_43, N_45, N_47, N_48, N_50, N_57, N_59, N_60, N_61, N_62, N_70, N_71, N_72, N_80, N_81, N_82, N_83, N_97, N_98, N_99, N_100, N_101, N_102, N_103, N_104, N_105, N_107, N_108, N_110, N_111, N_112, N_114, N_115, N_116, N_117, N_119, N_121, N_122, N_200, N_220, N_255, N_256, N_257, N_258, N_400, N_438, N_446, N_666, N_999, N_9999, N_10000, N_10010, N_10011, N_10012, N_10013, N_10014, N_10015, N_10016, N_10017, N_10018, N_12345, N_20000, N_20126, N_99999, N_1103515245, L_m999, L_m1, L_0, L_1, L_2, L_3, L_4, L_7, L_8, L_9, L_10, L_12, L_14, L_40, L_48, L_57, L_97, L_99, L_122, L_255, L_400, L_999, L_9999, hk i (by omega)]
    unfold jmin jmax
    by_cases q1 : x ≤ v i
    · rw [if_pos q1, if_neg (show ¬ v i < x by rw [i_lt]; rw [i_le] at q1; omega)]
      by_cases q2 : v i ≤ y
      · rw [if_pos q2, if_neg (show ¬ y < v i by rw [i_lt]; rw [i_le] at q2; omega)]
      · rw [if_neg q2, if_pos (show y < v i by rw [i_lt]; rw [i_le] at q2; omega)]
    · rw [if_neg q1, if_pos (show v i < x by rw [i_lt]; rw [i_le] at q1; omega)]
      by_cases q2 : v i ≤ y
      · rw [if_pos q2, if_neg (show ¬ y < v i by rw [i_lt]; rw [i_le] at q2; omega)]
      · rw [if_neg q2, if_pos (show y < v i by rw [i_lt]; rw [i_le] at q2; omega)]
theorem sim_span {N : Nat} {I : HI} {J : HJ} (hN : N ≤ 1000000) (hR : Rel N I J) (a0 : Int32) : ∃ (r : Int32) (I2 : HI), f_X10_span a0 I J = some r ∧ f_X11_span a0 I J = some (r, I2) ∧ Rel (N + 400) I2 J := by
  have hM := hR.mono (Nat.le_add_right N 400)
  by_cases h : nI 0 ≤ a0 ∧ a0 ≤ nI 2
  · obtain ⟨c, v, I1, h1, h2, h3, h4, h5, h6⟩ := rows_s hR
    have hc := h1.2.1
    by_cases hc0 : c = 0
    · refine ⟨-3, I1, ?_, ?_, h6⟩
      · unfold f_X10_span f_X9_size
        simp (disch := omega) only [bd1_s, bd2_s, bd3_s, nm_s, wi_s, ite_bI, bI_1, le_pred, if_true, in_x, cl_nI, vin_nI, nI_add, nI_mul, le_nn, lt_nn, eq_nn, sb, reduceIte, N_0, N_1, N_2, N_3, N_4, N_5, N_6, N_7, N_8, N_9, N_10, N_11, N_12, N_13, N_14, N_16, N_20, N_30, N_31, N_32, N_37, N_40, N_41, N_42, N_43, N_45, N_47, N_48, N_50, N_57, N_59, N_60, N_61, N_62, N_70, N_71, N_72, N_80, N_81, N_82, N_83, N_97, N_98, N_99, N_100, N_101, N_102, N_103, N_104, N_105, N_107, N_108, N_110, N_111, N_112, N_114, N_115, N_116, N_117, N_119, N_121, N_122, N_200, N_220, N_255, N_256, N_257, N_258, N_400, N_438, N_446, N_666, N_999, N_9999, N_10000, N_10010, N_10011, N_10012, N_10013, N_10014, N_10015, N_10016, N_10017, N_10018, N_12345, N_20000, N_20126, N_99999, N_1103515245, L_m999, L_m1, L_0, L_1, L_2, L_3, L_4, L_7, L_8, L_9, L_10, L_12, L_14, L_40, L_48, L_57, L_97, L_99, L_122, L_255, L_400, L_999, L_9999, if_pos, if_neg, pE, pN, cE, cN, h3]
        all_goals rw [if_pos h]
      · unfold f_X11_span
        simp (disch := omega) only [bd1_s, bd2_s, bd3_s, nm_s, wi_s, ite_bI, bI_1, le_pred, if_true, in_x, cl_nI, vin_nI, nI_add, nI_mul, le_nn, lt_nn, eq_nn, sb, reduceIte, N_0, N_1, N_2, N_3, N_4, N_5, N_6, N_7, N_8, N_9, N_10, N_11, N_12, N_13, N_14, N_16, N_20, N_30, N_31, N_32, N_37, N_40, N_41, N_42, N_43, N_45, N_47, N_48, N_50, N_57, N_59, N_60, N_61, N_62, N_70, N_71, N_72, N_80, N_81, N_82, N_83, N_97, N_98, N_99, N_100, N_101, N_102, N_103, N_104, N_105, N_107, N_108, N_110, N_111, N_112, N_114, N_115, N_116, N_117, N_119, N_121, N_122, N_200, N_220, N_255, N_256, N_257, N_258, N_400, N_438, N_446, N_666, N_999, N_9999, N_10000, N_10010, N_10011, N_10012, N_10013, N_10014, N_10015, N_10016, N_10017, N_10018, N_12345, N_20000, N_20126, N_99999, N_1103515245, L_m999, L_m1, L_0, L_1, L_2, L_3, L_4, L_7, L_8, L_9, L_10, L_12, L_14, L_40, L_48, L_57, L_97, L_99, L_122, L_255, L_400, L_999, L_9999, if_pos, if_neg, pE, pN, cE, cN, h4, h5.2.1]
        all_goals rw [if_pos h]
    · have ex : jmin (v 0) (v 0) = v 0 := by unfold jmin; split <;> rfl
      have ey : jmax (v 0) (v 0) = v 0 := by unfold jmax; split <;> rfl
      have em : ∀ d, c = d + 1 → fld jmin v 0 c (v 0) = fld jmin v 1 (c - 1) (v 0) ∧ fld jmax v 0 c (v 0) = fld jmax v 1 (c - 1) (v 0) := fun d hd => by
        rw [hd]
        show fld jmin v 1 d (jmin (v 0) (v 0)) = fld jmin v 1 (d + 1 - 1) (v 0) ∧ fld jmax v 1 d (jmax (v 0) (v 0)) = fld jmax v 1 (d + 1 - 1) (v 0)
        rw [ex, ey]
        exact ⟨rfl, rfl⟩
      obtain ⟨em1, em2⟩ := em (c - 1) (by omega)
      refine ⟨if a0 = 0 then fld jmin v 1 (c - 1) (v 0) else if a0 = 1 then fld jmax v 1 (c - 1) (v 0) else fld (fun x y => x + y) v 0 c (nI 0), I1, ?_, ?_, h6⟩
      · unfold f_X10_span f_X9_size
        simp (disch := omega) only [bd1_s, bd2_s, bd3_s, nm_s, wi_s, ite_bI, bI_1, le_pred, if_true, in_x, cl_nI, vin_nI, nI_add, nI_mul, le_nn, lt_nn, eq_nn, sb, reduceIte, N_0, N_1, N_2, N_3, N_4, N_5, N_6, N_7, N_8, N_9, N_10, N_11, N_12, N_13, N_14, N_16, N_20, N_30, N_31, N_32, N_37, N_40, N_41, N_42, N_43, N_45, N_47, N_48, N_50, N_57, N_59, N_60, N_61, N_62, N_70, N_71, N_72, N_80, N_81, N_82, N_83, N_97, N_98, N_99, N_100, N_101, N_102, N_103, N_104, N_105, N_107, N_108, N_110, N_111, N_112, N_114, N_115, N_116, N_117, N_119, N_121, N_122, N_200, N_220, N_255, N_256, N_257, N_258, N_400, N_438, N_446, N_666, N_999, N_9999, N_10000, N_10010, N_10011, N_10012, N_10013, N_10014, N_10015, N_10016, N_10017, N_10018, N_12345, N_20000, N_20126, N_99999, N_1103515245, L_m999, L_m1, L_0, L_1, L_2, L_3, L_4, L_7, L_8, L_9, L_10, L_12, L_14, L_40, L_48, L_57, L_97, L_99, L_122, L_255, L_400, L_999, L_9999, if_pos, if_neg, pE, pN, cE, cN, h3, least_s h1 (show 1 ≤ c by omega), great_s h1 (show 1 ≤ c by omega), sum_s h1]
        by_cases e0 : a0 = nI 0
        · rw [if_pos e0, if_pos e0]
        · rw [if_neg e0, if_neg e0]
          by_cases e1 : a0 = nI 1
          · rw [if_pos e1, if_pos e1]
          · rw [if_neg e1, if_neg e1]
      · unfold f_X11_span
        have e0 := h5.2.2 0 (by omega)
        simp (disch := omega) only [bd1_s, bd2_s, bd3_s, nm_s, wi_s, ite_bI, bI_1, le_pred, if_true, in_x, cl_nI, vin_nI, nI_add, nI_mul, le_nn, lt_nn, eq_nn, sb, reduceIte, N_0, N_1, N_2, N_3, N_4, N_5, N_6, N_7, N_8, N_9, N_10, N_11, N_12, N_13, N_14, N_16, N_20, N_30, N_31, N_32, N_37, N_40, N_41, N_42, N_43, N_45, N_47, N_48, N_50, N_57, N_59, N_60, N_61, N_62, N_70, N_71, N_72, N_80, N_81, N_82, N_83, N_97, N_98, N_99, N_100, N_101, N_102, N_103, N_104, N_105, N_107, N_108, N_110, N_111, N_112, N_114, N_115, N_116, N_117, N_119, N_121, N_122, N_200, N_220, N_255, N_256, N_257, N_258, N_400, N_438, N_446, N_666, N_999, N_9999, N_10000, N_10010, N_10011, N_10012, N_10013, N_10014, N_10015, N_10016, N_10017, N_10018, N_12345, N_20000, N_20126, N_99999, N_1103515245, L_m999, L_m1, L_0, L_1, L_2, L_3, L_4, L_7, L_8, L_9, L_10, L_12, L_14, L_40, L_48, L_57, L_97, L_99, L_122, L_255, L_400, L_999, L_9999, if_pos, if_neg, pE, pN, cE, cN, h4, h5.2.1, e0]
        have := mspan_s (J := J) (a0 := a0) h5 c 0 FU (by omega) (FU_ge (by omega)) (v 0) (v 0) (nI 0)
        rw [em1, em2] at this
        exact this
  · refine ⟨-1, I, ?_, ?_, hM⟩
    · unfold f_X10_span
      simp (disch := omega) only [bd1_s, bd2_s, bd3_s, nm_s, wi_s, ite_bI, bI_1, le_pred, if_true, in_x, cl_nI, vin_nI, nI_add, nI_mul, le_nn, lt_nn, eq_nn, sb, reduceIte, N_0, N_1, N_2, N_3, N_4, N_5, N_6, N_7, N_8, N_9, N_10, N_11, N_12, N_13, N_14, N_16, N_20, N_30, N_31, N_32, N_37, N_40, N_41, N_42, N_43, N_45, N_47, N_48, N_50, N_57, N_59, N_60, N_61, N_62, N_70, N_71, N_72, N_80, N_81, N_82, N_83, N_97, N_98, N_99, N_100, N_101, N_102, N_103, N_104, N_105, N_107, N_108, N_110, N_111, N_112, N_114, N_115, N_116, N_117, N_119, N_121, N_122, N_200, N_220, N_255, N_256, N_257, N_258, N_400, N_438, N_446, N_666, N_999, N_9999, N_10000, N_10010, N_10011, N_10012, N_10013, N_10014, N_10015, N_10016, N_10017, N_10018, N_12345, N_20000, N_20126, N_99999, N_1103515245, L_m999, L_m1, L_0, L_1, L_2, L_3, L_4, L_7, L_8, L_9, L_10, L_12, L_14, L_40, L_48, L_57, L_97, L_99, L_122, L_255, L_400, L_999, L_9999]
      rw [if_neg h]
    · unfold f_X11_span
      simp (disch := omega) only [bd1_s, bd2_s, bd3_s, nm_s, wi_s, ite_bI, bI_1, le_pred, if_true, in_x, cl_nI, vin_nI, nI_add, nI_mul, le_nn, lt_nn, eq_nn, sb, reduceIte, N_0, N_1, N_2, N_3, N_4, N_5, N_6, N_7, N_8, N_9, N_10, N_11, N_12, N_13, N_14, N_16, N_20, N_30, N_31, N_32, N_37, N_40, N_41, N_42, N_43, N_45, N_47, N_48, N_50, N_57, N_59, N_60, N_61, N_62, N_70, N_71, N_72, N_80, N_81, N_82, N_83, N_97, N_98, N_99, N_100, N_101, N_102, N_103, N_104, N_105, N_107, N_108, N_110, N_111, N_112, N_114, N_115, N_116, N_117, N_119, N_121, N_122, N_200, N_220, N_255, N_256, N_257, N_258, N_400, N_438, N_446, N_666, N_999, N_9999, N_10000, N_10010, N_10011, N_10012, N_10013, N_10014, N_10015, N_10016, N_10017, N_10018, N_12345, N_20000, N_20126, N_99999, N_1103515245, L_m999, L_m1, L_0, L_1, L_2, L_3, L_4, L_7, L_8, L_9, L_10, L_12, L_14, L_40, L_48, L_57, L_97, L_99, L_122, L_255, L_400, L_999, L_9999]
      rw [if_neg h]

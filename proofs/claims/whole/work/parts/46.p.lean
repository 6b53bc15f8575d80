theorem two_of {a1 : Int32} (h : nI 0 ≤ a1 ∧ a1 ≤ nI 1) : ∃ w, w < 2 ∧ a1 = nI w := by
  obtain ⟨w, hw, e⟩ := rng (by omega) h
  exact ⟨w, by omega, e⟩
theorem phas_s {m : Nat} {a0 a1 : Int32} {I : HI} {J : HJ} (hm : m ≤ 12) (h : I 70 1 = nI m) : f_X3_has a0 a1 I J = some (bI ((nI 0 ≤ a0 ∧ a0 < nI m) ∧ nI 0 ≤ a1 ∧ a1 ≤ nI 1)) := by
  unfold f_X3_has
  simp (disch := omega) only [bd1_s, bd2_s, bd3_s, nm_s, wi_s, ite_bI, bI_1, le_pred, if_true, in_x, cl_nI, vin_nI, nI_add, nI_mul, le_nn, lt_nn, eq_nn, sb, reduceIte, N_0, N_1, N_2, N_3, N_4, N_5, N_6, N_7, N_8, N_9, N_10, N_11, N_12, N_13, N_14, N_16, N_20, N_30, N_31, N_32, N_37, N_40, N_41, N_42, N_43, N_45, N_47, N_48, N_50, N_57, N_59, N_60, N_61, N_62, N_70, N_71, N_72, N_80, N_81, N_82, N_83, N_97, N_98, N_99, N_100, N_101, N_102, N_103, N_104, N_105, N_107, N_108, N_110, N_111, N_112, N_114, N_115, N_116, N_117, N_119, N_121, N_122, N_200, N_220, N_255, N_256, N_257, N_258, N_400, N_438, N_446, N_666, N_999, N_9999, N_10000, N_10010, N_10011, N_10012, N_10013, N_10014, N_10015, N_10016, N_10017, N_10018, N_12345, N_20000, N_20126, N_99999, N_1103515245, L_m999, L_m1, L_0, L_1, L_2, L_3, L_4, L_7, L_8, L_9, L_10, L_12, L_14, L_40, L_48, L_57, L_97, L_99, L_122, L_255, L_400, L_999, L_9999, h]
  by_cases h0 : nI 0 ≤ a0 ∧ a0 < nI m
  · obtain ⟨n, hn, rfl⟩ := rng2 (by omega) h0
    have e : nI 0 ≤ nI n ∧ nI n < nI m := h0
    rw [if_pos h0]
    simp (disch := omega) only [bd1_s, bd2_s, bd3_s, nm_s, wi_s, ite_bI, bI_1, le_pred, if_true, in_x, cl_nI, vin_nI, nI_add, nI_mul, le_nn, lt_nn, eq_nn, sb, reduceIte, N_0, N_1, N_2, N_3, N_4, N_5, N_6, N_7, N_8, N_9, N_10, N_11, N_12, N_13, N_14, N_16, N_20, N_30, N_31, N_32, N_37, N_40, N_41, N_42, N_43, N_45, N_47, N_48, N_50, N_57, N_59, N_60, N_61, N_62, N_70, N_71, N_72, N_80, N_81, N_82, N_83, N_97, N_98, N_99, N_100, N_101, N_102, N_103, N_104, N_105, N_107, N_108, N_110, N_111, N_112, N_114, N_115, N_116, N_117, N_119, N_121, N_122, N_200, N_220, N_255, N_256, N_257, N_258, N_400, N_438, N_446, N_666, N_999, N_9999, N_10000, N_10010, N_10011, N_10012, N_10013, N_10014, N_10015, N_10016, N_10017, N_10018, N_12345, N_20000, N_20126, N_99999, N_1103515245, L_m999, L_m1, L_0, L_1, L_2, L_3, L_4, L_7, L_8, L_9, L_10, L_12, L_14, L_40, L_48, L_57, L_97, L_99, L_122, L_255, L_400, L_999, L_9999]
    rw [if_neg (by omega)]
    by_cases h1 : nI 0 ≤ a1 ∧ a1 ≤ nI 1
    · rw [if_pos h1, bI_t ⟨by omega, h1⟩]; rfl
    · rw [if_neg h1, bI_f (fun q => h1 q.2)]; rfl
  · rw [if_neg h0, bI_f (fun q => h0 q.1)]; rfl
theorem sim_row {N : Nat} {I : HI} {J : HJ} (hN : N ≤ 1000000) (hR : Rel N I J) (a0 : Int32) (a1 : Int32) : ∃ (r : Int32), f_X10_row a0 a1 I J = some r ∧ f_X11_row a0 a1 I J = some r ∧ Rel (N + 400) I J := by
  obtain ⟨m, m0, m1, m2, m3⟩ := hR.2.2.2.2.1
  have hM := hR.mono (Nat.le_add_right N 400)
  by_cases h0 : nI 0 ≤ a0 ∧ a0 < nI m
  · by_cases h1 : nI 0 ≤ a1 ∧ a1 ≤ nI 1
    · obtain ⟨n, hn, rfl⟩ := rng2 (by omega) h0
      obtain ⟨w, hw, rfl⟩ := two_of h1
      have hv : I (72 + n) w = I 115 (2 * n + w) := by
        have hw2 : w = 0 ∨ w = 1 := by omega
        rcases hw2 with rfl | rfl
        · exact (m3 n hn).1
        · exact (m3 n hn).2
      refine ⟨I 115 (2 * n + w), ?_, ?_, hM⟩
      · unfold f_X10_row f_X3_at
        rw [phas_s m0 m1, bd1_s, ite_bI, if_pos ⟨h0, h1⟩, bd1_s, ite_bI, if_pos ⟨h0, h1⟩, if_pos (vin_nI (by omega) (by omega)), if_pos (vin_nI (by omega) (by omega)), bd1_s, cl_nI (by omega), cl_nI (by omega), lay71 n (by omega), hv]
      · unfold f_X11_row
        simp (disch := omega) only [bd1_s, bd2_s, bd3_s, nm_s, wi_s, ite_bI, bI_1, le_pred, if_true, in_x, cl_nI, vin_nI, nI_add, nI_mul, le_nn, lt_nn, eq_nn, sb, reduceIte, N_0, N_1, N_2, N_3, N_4, N_5, N_6, N_7, N_8, N_9, N_10, N_11, N_12, N_13, N_14, N_16, N_20, N_30, N_31, N_32, N_37, N_40, N_41, N_42, N_43, N_45, N_47, N_48, N_50, N_57, N_59, N_60, N_61, N_62, N_70, N_71, N_72, N_80, N_81, N_82, N_83, N_97, N_98, N_99, N_100, N_101, N_102, N_103, N_104, N_105, N_107, N_108, N_110, N_111, N_112, N_114, N_115, N_116, N_117, N_119, N_121, N_122, N_200, N_220, N_255, N_256, N_257, N_258, N_400, N_438, N_446, N_666, N_999, N_9999, N_10000, N_10010, N_10011, N_10012, N_10013, N_10014, N_10015, N_10016, N_10017, N_10018, N_12345, N_20000, N_20126, N_99999, N_1103515245, L_m999, L_m1, L_0, L_1, L_2, L_3, L_4, L_7, L_8, L_9, L_10, L_12, L_14, L_40, L_48, L_57, L_97, L_99, L_122, L_255, L_400, L_999, L_9999, m2]
        rw [if_pos ⟨by omega, by omega⟩, if_pos ⟨by omega, by omega⟩]
    · refine ⟨-9, ?_, ?_, hM⟩
      · unfold f_X10_row
        rw [phas_s m0 m1, bd1_s, ite_bI, if_neg (fun q => h1 q.2)]
      · unfold f_X11_row
        simp (disch := omega) only [bd1_s, bd2_s, bd3_s, nm_s, wi_s, ite_bI, bI_1, le_pred, if_true, in_x, cl_nI, vin_nI, nI_add, nI_mul, le_nn, lt_nn, eq_nn, sb, reduceIte, N_0, N_1, N_2, N_3, N_4, N_5, N_6, N_7, N_8, N_9, N_10, N_11, N_12, N_13, N_14, N_16, N_20, N_30, N_31, N_32, N_37, N_40, N_41, N_42, N_43, N_45, N_47, N_48, N_50, N_57, N_59, N_60, N_61, N_62, N_70, N_71, N_72, N_80, N_81, N_82, N_83, N_97, N_98, N_99, N_100, N_101, N_102, N_103, N_104, N_105, N_107, N_108, N_110, N_111, N_112, N_114, N_115, N_116, N_117, N_119, N_121, N_122, N_200, N_220, N_255, N_256, N_257, N_258, N_400, N_438, N_446, N_666, N_999, N_9999, N_10000, N_10010, N_10011, N_10012, N_10013, N_10014, N_10015, N_10016, N_10017, N_10018, N_12345, N_20000, N_20126, N_99999, N_1103515245, L_m999, L_m1, L_0, L_1, L_2, L_3, L_4, L_7, L_8, L_9, L_10, L_12, L_14, L_40, L_48, L_57, L_97, L_99, L_122, L_255, L_400, L_999, L_9999, m2]
        rw [if_pos h0, if_neg h1]
  · refine ⟨-9, ?_, ?_, hM⟩
    · unfold f_X10_row
      rw [phas_s m0 m1, bd1_s, ite_bI, if_neg (fun q => h0 q.1)]
    · unfold f_X11_row
      simp (disch := omega) only [bd1_s, bd2_s, bd3_s, nm_s, wi_s, ite_bI, bI_1, le_pred, if_true, in_x, cl_nI, vin_nI, nI_add, nI_mul, le_nn, lt_nn, eq_nn, sb, reduceIte, N_0, N_1, N_2, N_3, N_4, N_5, N_6, N_7, N_8, N_9, N_10, N_11, N_12, N_13, N_14, N_16, N_20, N_30, N_31, N_32, N_37, N_40, N_41, N_42, N_43, N_45, N_47, N_48, N_50, N_57, N_59, N_60, N_61, N_62, N_70, N_71, N_72, N_80, N_81, N_82, N_83, N_97, N_98, N_99, N_100, N_101, N_102, N_103, N_104, N_105, N_107, N_108, N_110, N_111, N_112, N_114, N_115, N_116, N_117, N_119, N_121, N_122, N_200, N_220, N_255, N_256, N_257, N_258, N_400, N_438, N_446, N_666, N_999, N_9999, N_10000, N_10010, N_10011, N_10012, N_10013, N_10014, N_10015, N_10016, N_10017, N_10018, N_12345, N_20000, N_20126, N_99999, N_1103515245, L_m999, L_m1, L_0, L_1, L_2, L_3, L_4, L_7, L_8, L_9, L_10, L_12, L_14, L_40, L_48, L_57, L_97, L_99, L_122, L_255, L_400, L_999, L_9999, m2]
      rw [if_neg h0]
theorem sim_alterRow {N : Nat} {I : HI} {J : HJ} (hN : N ≤ 1000000) (hR : Rel N I J) (a0 : Int32) (a1 : Int32) (a2 : Int32) : ∃ (r : Int32) (I1 : HI) (I2 : HI), f_X10_alterRow a0 a1 a2 I J = some (r, I1) ∧ f_X11_alterRow a0 a1 a2 I1 J = some (r, I2) ∧ Rel (N + 400) I2 J := by
  obtain ⟨m, m0, m1, m2, m3⟩ := hR.2.2.2.2.1
  have hM := hR.mono (Nat.le_add_right N 400)
  by_cases h0 : nI 0 ≤ a0 ∧ a0 < nI m
  · by_cases h1 : nI 0 ≤ a1 ∧ a1 ≤ nI 1
    · obtain ⟨n, hn, rfl⟩ := rng2 (by omega) h0
      obtain ⟨w, hw, rfl⟩ := two_of h1
      have hv : I (72 + n) w = I 115 (2 * n + w) := by
        have hw2 : w = 0 ∨ w = 1 := by omega
        rcases hw2 with rfl | rfl
        · exact (m3 n hn).1
        · exact (m3 n hn).2
      refine ⟨I 115 (2 * n + w), put I (72 + n) w a2, put (put I (72 + n) w a2) 115 (2 * n + w) a2, ?_, ?_, ?_⟩
      · unfold f_X10_alterRow f_X3_at f_X3_alter
        rw [phas_s m0 m1, bd1_s, ite_bI, if_pos ⟨h0, h1⟩, bd1_s, ite_bI, if_pos ⟨h0, h1⟩, if_pos (vin_nI (by omega) (by omega)), if_pos (vin_nI (by omega) (by omega)), bd1_s, bd1_s, ite_bI, if_pos ⟨h0, h1⟩, if_pos (vin_nI (by omega) (by omega)), if_pos (vin_nI (by omega) (by omega)), nm_s, bd1_s, cl_nI (by omega), cl_nI (by omega), lay71 n (by omega), hv]
      · have e29 : put I (72 + n) w a2 98 29 = nI m := by rw [put_ap, if_neg (by omega)]; exact m2
        unfold f_X11_alterRow
        simp (disch := omega) only [bd1_s, bd2_s, bd3_s, nm_s, wi_s, ite_bI, bI_1, le_pred, if_true, in_x, cl_nI, vin_nI, nI_add, nI_mul, le_nn, lt_nn, eq_nn, sb, reduceIte, N_0, N_1, N_2, N_3, N_4, N_5, N_6, N_7, N_8, N_9, N_10, N_11, N_12, N_13, N_14, N_16, N_20, N_30, N_31, N_32, N_37, N_40, N_41, N_42, N_43, N_45, N_47, N_48, N_50, N_57, N_59, N_60, N_61, N_62, N_70, N_71, N_72, N_80, N_81, N_82, N_83, N_97, N_98, N_99, N_100, N_101, N_102, N_103, N_104, N_105, N_107, N_108, N_110, N_111, N_112, N_114, N_115, N_116, N_117, N_119, N_121, N_122, N_200, N_220, N_255, N_256, N_257, N_258, N_400, N_438, N_446, N_666, N_999, N_9999, N_10000, N_10010, N_10011, N_10012, N_10013, N_10014, N_10015, N_10016, N_10017, N_10018, N_12345, N_20000, N_20126, N_99999, N_1103515245, L_m999, L_m1, L_0, L_1, L_2, L_3, L_4, L_7, L_8, L_9, L_10, L_12, L_14, L_40, L_48, L_57, L_97, L_99, L_122, L_255, L_400, L_999, L_9999, e29]
        rw [if_pos ⟨by omega, by omega⟩, if_pos ⟨by omega, by omega⟩, put_ap, if_neg (by omega)]
      · refine hR.proof (by omega) ⟨m, m0, ?_, ?_, fun i hi => ?_⟩ (fun a j h1 h2 => ?_) (fun a _ _ _ => rfl)
        · rw [put_ap, if_neg (by omega), put_ap, if_neg (by omega)]; exact m1
        · rw [put_ap, if_neg (by omega), put_ap, if_neg (by omega)]; exact m2
        · have h3 := m3 i hi
          refine ⟨?_, ?_⟩
          · rw [put_ap, if_neg (by omega), put_ap, put_ap]
            by_cases hq : i = n ∧ w = 0
            · rw [if_pos (by omega), if_pos (by omega)]
            · rw [if_neg (by omega), if_neg (by omega), put_ap, if_neg (by omega)]; exact h3.1
          · rw [put_ap, if_neg (by omega), put_ap, put_ap]
            by_cases hq : i = n ∧ w = 1
            · rw [if_pos (by omega), if_pos (by omega)]
            · rw [if_neg (by omega), if_neg (by omega), put_ap, if_neg (by omega)]; exact h3.2
        · rw [put_ap, if_neg (by omega), put_ap, if_neg (by omega)]
    · refine ⟨-9, I, I, ?_, ?_, hM⟩
      · unfold f_X10_alterRow
        rw [phas_s m0 m1, bd1_s, ite_bI, if_neg (fun q => h1 q.2)]
      · unfold f_X11_alterRow
        simp (disch := omega) only [bd1_s, bd2_s, bd3_s, nm_s, wi_s, ite_bI, bI_1, le_pred, if_true, in_x, cl_nI, vin_nI, nI_add, nI_mul, le_nn, lt_nn, eq_nn, sb, reduceIte, N_0, N_1, N_2, N_3, N_4, N_5, N_6, N_7, N_8, N_9, N_10, N_11, N_12, N_13, N_14, N_16, N_20, N_30, N_31, N_32, N_37, N_40, N_41, N_42, N_43, N_45, N_47, N_48, N_50, N_57, N_59, N_60, N_61, N_62, N_70, N_71, N_72, N_80, N_81, N_82, N_83, N_97, N_98, N_99, N_100, N_101, N_102, N_103, N_104, N_105, N_107, N_108, N_110, N_111, N_112, N_114, N_115, N_116, N_117, N_119, N_121, N_122, N_200, N_220, N_255, N_256, N_257, N_258, N_400, N_438, N_446, N_666, N_999, N_9999, N_10000, N_10010, N_10011, N_10012, N_10013, N_10014, N_10015, N_10016, N_10017, N_10018, N_12345, N_20000, N_20126, N_99999, N_1103515245, L_m999, L_m1, L_0, L_1, L_2, L_3, L_4, L_7, L_8, L_9, L_10, L_12, L_14, L_40, L_48, L_57, L_97, L_99, L_122, L_255, L_400, L_999, L_9999, m2]
        rw [if_pos h0, if_neg h1]
  · refine ⟨-9, I, I, ?_, ?_, hM⟩
    · unfold f_X10_alterRow
      rw [phas_s m0 m1, bd1_s, ite_bI, if_neg (fun q => h0 q.1)]
    · unfold f_X11_alterRow
      simp (disch := omega) only [bd1_s, bd2_s, bd3_s, nm_s, wi_s, ite_bI, bI_1, le_pred, if_true, in_x, cl_nI, vin_nI, nI_add, nI_mul, le_nn, lt_nn, eq_nn, sb, reduceIte, N_0, N_1, N_2, N_3, N_4, N_5, N_6, N_7, N_8, N_9, N_10, N_11, N_12, N_13, N_14, N_16, N_20, N_30, N_31, N_32, N_37, N_40, N_41, N_42, N_43, N_45, N_47, N_48, N_50, N_57, N_59, N_60, N_61, N_62, N_70, N_71, N_72, N_80, N_81, N_82, N_83, N_97, N_98, N_99, N_100, N_101, N_102, N_103, N_104, N_105, N_107, N_108, N_110, N_111, N_112, N_114, N_115, N_116, N_117, N_119, N_121, N_122, N_200, N_220, N_255, N_256, N_257, N_258, N_400, N_438, N_446, N_666, N_999, N_9999, N_10000, N_10010, N_10011, N_10012, N_10013, N_10014, N_10015, N_10016, N_10017, N_10018, N_12345, N_20000, N_20126, N_99999, N_1103515245, L_m999, L_m1, L_0, L_1, L_2, L_3, L_4, L_7, L_8, L_9, L_10, L_12, L_14, L_40, L_48, L_57, L_97, L_99, L_122, L_255, L_400, L_999, L_9999, m2]
      rw [if_neg h0]

theorem in_m1 (a : Int32) : f_X11_in a.toInt64 (-1 : Int64) (4 : Int64) = some (bI (-nI 1 ≤ a ∧ a ≤ nI 4)) := in_s (by decide) (by decide)
theorem sim_sheet {N : Nat} {I : HI} {J : HJ} (hN : N ≤ 1000000) (hR : Rel N I J) (a0 : Int32) (a1 : Int32) (a2 : Int32) : ∃ (r : Int32) (I1 : HI) (I2 : HI), f_X10_sheet a0 a1 a2 I J = some (r, I1) ∧ f_X11_sheet a0 a1 a2 I1 J = some (r, I2) ∧ Rel (N + 400) I2 J := by
  have hM := hR.mono (Nat.le_add_right N 400)
  have hS := hR.2.2.2.2.2.1
  by_cases h0 : nI 0 ≤ a0 ∧ a0 < nI 4
  · obtain ⟨n, hn, rfl⟩ := rng2 (by omega) h0
    by_cases h1 : -nI 1 ≤ a1 ∧ a1 ≤ nI 4
    · have hr1 : -1 ≤ a1.toInt ∧ a1.toInt ≤ 4 := by
        have q1 := i_le.mp h1.1
        have q2 := i_le.mp h1.2
        have e1 : (-nI 1).toInt = -1 := by decide
        have e2 : (nI 4).toInt = 4 := by decide
        omega
      by_cases hm : a1 = -nI 1
      · obtain ⟨I2, g1, g2, g3⟩ := msheet_l (n := n) (a1 := a1) (a2 := a2) (J := J) hn 40 0 FU rfl (FU_ge (by omega)) (put (put (put (put I 85 n (-nI 1)) 86 n (nI 0)) 116 n a1) 117 n (nI 0))
        refine ⟨1, put (put I 85 n (-nI 1)) 86 n (nI 0), I2, ?_, ?_, ?_⟩
        · unfold f_X10_sheet f_X5_becomeMissing
          rw [isSheet_s]
          simp (disch := omega) only [bd1_s, bd2_s, bd3_s, nm_s, wi_s, ite_bI, bI_1, le_pred, if_true, in_x, cl_nI, vin_nI, nI_add, nI_mul, le_nn, lt_nn, eq_nn, sb, reduceIte, N_0, N_1, N_2, N_3, N_4, N_5, N_6, N_7, N_8, N_9, N_10, N_11, N_12, N_13, N_14, N_16, N_20, N_30, N_31, N_32, N_37, N_40, N_41, N_42, N_43, N_45, N_47, N_48, N_50, N_57, N_59, N_60, N_61, N_62, N_70, N_71, N_72, N_80, N_81, N_82, N_83, N_97, N_98, N_99, N_100, N_101, N_102, N_103, N_104, N_105, N_107, N_108, N_110, N_111, N_112, N_114, N_115, N_116, N_117, N_119, N_121, N_122, N_200, N_220, N_255, N_256, N_257, N_258, N_400, N_438, N_446, N_666, N_999, N_9999, N_10000, N_10010, N_10011, N_10012, N_10013, N_10014, N_10015, N_10016, N_10017, N_10018, N_12345, N_20000, N_20126, N_99999, N_1103515245, L_m999, L_m1, L_0, L_1, L_2, L_3, L_4, L_7, L_8, L_9, L_10, L_12, L_14, L_40, L_48, L_57, L_97, L_99, L_122, L_255, L_400, L_999, L_9999]
          rw [if_pos ⟨by omega, hn⟩, if_pos h1, if_pos hm, if_pos ⟨by omega, hn⟩, bd1_s] <;> rfl
        · unfold f_X11_sheet fB_X11_sheet_33 fB_X11_sheet_44 fB_X11_sheet_65
          rw [isOne_s, in_m1]
          simp (disch := omega) only [bd1_s, bd2_s, bd3_s, nm_s, wi_s, ite_bI, bI_1, le_pred, if_true, in_x, cl_nI, vin_nI, nI_add, nI_mul, le_nn, lt_nn, eq_nn, sb, reduceIte, N_0, N_1, N_2, N_3, N_4, N_5, N_6, N_7, N_8, N_9, N_10, N_11, N_12, N_13, N_14, N_16, N_20, N_30, N_31, N_32, N_37, N_40, N_41, N_42, N_43, N_45, N_47, N_48, N_50, N_57, N_59, N_60, N_61, N_62, N_70, N_71, N_72, N_80, N_81, N_82, N_83, N_97, N_98, N_99, N_100, N_101, N_102, N_103, N_104, N_105, N_107, N_108, N_110, N_111, N_112, N_114, N_115, N_116, N_117, N_119, N_121, N_122, N_200, N_220, N_255, N_256, N_257, N_258, N_400, N_438, N_446, N_666, N_999, N_9999, N_10000, N_10010, N_10011, N_10012, N_10013, N_10014, N_10015, N_10016, N_10017, N_10018, N_12345, N_20000, N_20126, N_99999, N_1103515245, L_m999, L_m1, L_0, L_1, L_2, L_3, L_4, L_7, L_8, L_9, L_10, L_12, L_14, L_40, L_48, L_57, L_97, L_99, L_122, L_255, L_400, L_999, L_9999]
          have hl : a1 < nI 0 := by rw [hm]; decide
          have hl2 : ¬ nI 0 ≤ a1 := by rw [hm]; decide
          rw [if_pos ⟨by omega, hn⟩, if_pos h1, if_pos hl, if_pos hl, if_neg hl2]
          exact g1
        · refine hR.sheet (by omega) (fun k hk => ?_) (fun a j h1 h2 => ?_) (fun a _ _ _ => rfl)
          · obtain ⟨c, c0, s1, s2, s3, s4, s5, s6, s7⟩ := hS k hk
            by_cases hq : k = n
            · subst hq
              refine ⟨0, by omega, ?_, ?_, ?_, ?_, ?_, fun _ => rfl, fun x hx => by omega⟩
              · rw [g3 _ _ (by omega), g3 _ _ (by omega), put_ap, if_neg (by omega), put_ap, if_neg (by omega), put_ap, if_neg (by omega), put_ap, if_pos ⟨rfl, rfl⟩, put_ap, if_neg (by omega), put_ap, if_pos ⟨rfl, rfl⟩, hm]
              · rw [g3 _ _ (by omega), put_ap, if_neg (by omega), put_ap, if_neg (by omega), put_ap, if_pos ⟨rfl, rfl⟩]
              · rw [g3 _ _ (by omega), put_ap, if_pos ⟨rfl, rfl⟩]
              · rw [g3 _ _ (by omega), put_ap, if_neg (by omega), put_ap, if_pos ⟨rfl, rfl⟩]; exact hr1.1
              · rw [g3 _ _ (by omega), put_ap, if_neg (by omega), put_ap, if_pos ⟨rfl, rfl⟩]; exact hr1.2
            · have e : ∀ a j, ¬ (a = 118 ∧ 40 * n ≤ j ∧ j < 40 * n + 40) → j ≠ n ∨ (a ≠ 85 ∧ a ≠ 86 ∧ a ≠ 116 ∧ a ≠ 117) → I2 a j = I a j := fun a j h1 h2 => by
                rw [g3 _ _ (by omega), put_ap, if_neg (by omega), put_ap, if_neg (by omega), put_ap, if_neg (by omega), put_ap, if_neg (by omega)]
              refine ⟨c, c0, by rw [e _ _ (by omega) (by omega), e _ _ (by omega) (by omega)]; exact s1, by rw [e _ _ (by omega) (by omega)]; exact s2, by rw [e _ _ (by omega) (by omega)]; exact s3, by rw [e _ _ (by omega) (by omega)]; exact s4, by rw [e _ _ (by omega) (by omega)]; exact s5, by rw [e _ _ (by omega) (by omega)]; exact s6, fun x hx => ?_⟩
              rw [e _ _ (by omega) (by omega), e _ _ (by omega) (by omega)]
              exact s7 x hx
          · rw [g3 _ _ (by omega), put_ap, if_neg (by omega), put_ap, if_neg (by omega), put_ap, if_neg (by omega), put_ap, if_neg (by omega)]
      · have hge : nI 0 ≤ a1 := by
          rw [i_le]
          have e : (nI 0).toInt = 0 := by decide
          have e2 : a1.toInt ≠ -1 := fun q => hm (i_eq.mpr (q.trans (by decide)))
          omega
        have hnl : ¬ a1 < nI 0 := fun q => by have q1 := i_le.mp hge; have q2 := i_lt.mp q; omega
        by_cases h40 : a2 ≤ nI 40
        · by_cases hz : nI 0 ≤ a2
          · obtain ⟨c, hc, rfl⟩ := rng (by omega) ⟨hz, h40⟩
            obtain ⟨I1, b1, b2, b3⟩ := brow_l (n := n) (a1 := a1) (a2 := nI c) (J := J) hn 40 0 FU rfl (FU_ge (by omega)) (put (put I 85 n a1) 86 n (nI c))
            obtain ⟨I2, g1, g2, g3⟩ := msheet_l (n := n) (a1 := a1) (a2 := nI c) (J := J) hn 40 0 FU rfl (FU_ge (by omega)) (put (put I1 116 n a1) 117 n (nI c))
            refine ⟨1, I1, I2, ?_, ?_, ?_⟩
            · unfold f_X10_sheet f_X5_becomeRow
              rw [isSheet_s]
              simp (disch := omega) only [bd1_s, bd2_s, bd3_s, nm_s, wi_s, ite_bI, bI_1, le_pred, if_true, in_x, cl_nI, vin_nI, nI_add, nI_mul, le_nn, lt_nn, eq_nn, sb, reduceIte, N_0, N_1, N_2, N_3, N_4, N_5, N_6, N_7, N_8, N_9, N_10, N_11, N_12, N_13, N_14, N_16, N_20, N_30, N_31, N_32, N_37, N_40, N_41, N_42, N_43, N_45, N_47, N_48, N_50, N_57, N_59, N_60, N_61, N_62, N_70, N_71, N_72, N_80, N_81, N_82, N_83, N_97, N_98, N_99, N_100, N_101, N_102, N_103, N_104, N_105, N_107, N_108, N_110, N_111, N_112, N_114, N_115, N_116, N_117, N_119, N_121, N_122, N_200, N_220, N_255, N_256, N_257, N_258, N_400, N_438, N_446, N_666, N_999, N_9999, N_10000, N_10010, N_10011, N_10012, N_10013, N_10014, N_10015, N_10016, N_10017, N_10018, N_12345, N_20000, N_20126, N_99999, N_1103515245, L_m999, L_m1, L_0, L_1, L_2, L_3, L_4, L_7, L_8, L_9, L_10, L_12, L_14, L_40, L_48, L_57, L_97, L_99, L_122, L_255, L_400, L_999, L_9999]
              rw [if_pos ⟨by omega, hn⟩, if_pos h1, if_neg hm, if_pos (by omega), if_pos (by omega), if_pos ⟨by omega, hn⟩, b1, bd1_s] <;> rfl
            · unfold f_X11_sheet fB_X11_sheet_33 fB_X11_sheet_44 fB_X11_sheet_65
              rw [isOne_s, in_m1]
              simp (disch := omega) only [bd1_s, bd2_s, bd3_s, nm_s, wi_s, ite_bI, bI_1, le_pred, if_true, in_x, cl_nI, vin_nI, nI_add, nI_mul, le_nn, lt_nn, eq_nn, sb, reduceIte, N_0, N_1, N_2, N_3, N_4, N_5, N_6, N_7, N_8, N_9, N_10, N_11, N_12, N_13, N_14, N_16, N_20, N_30, N_31, N_32, N_37, N_40, N_41, N_42, N_43, N_45, N_47, N_48, N_50, N_57, N_59, N_60, N_61, N_62, N_70, N_71, N_72, N_80, N_81, N_82, N_83, N_97, N_98, N_99, N_100, N_101, N_102, N_103, N_104, N_105, N_107, N_108, N_110, N_111, N_112, N_114, N_115, N_116, N_117, N_119, N_121, N_122, N_200, N_220, N_255, N_256, N_257, N_258, N_400, N_438, N_446, N_666, N_999, N_9999, N_10000, N_10010, N_10011, N_10012, N_10013, N_10014, N_10015, N_10016, N_10017, N_10018, N_12345, N_20000, N_20126, N_99999, N_1103515245, L_m999, L_m1, L_0, L_1, L_2, L_3, L_4, L_7, L_8, L_9, L_10, L_12, L_14, L_40, L_48, L_57, L_97, L_99, L_122, L_255, L_400, L_999, L_9999]
              rw [if_pos ⟨by omega, hn⟩, if_pos h1, if_neg hnl, if_neg hnl, if_pos (by omega), if_pos (by omega), if_pos hge]
              exact g1
            · have e : ∀ a j, ¬ (a = 118 ∧ 40 * n ≤ j ∧ j < 40 * n + 40) → ¬ (a = 88 + n ∧ j < 40) → j ≠ n ∨ (a ≠ 85 ∧ a ≠ 86 ∧ a ≠ 116 ∧ a ≠ 117) → I2 a j = I a j := fun a j h1 h2 h3 => by
                rw [g3 _ _ (by omega), put_ap, if_neg (by omega), put_ap, if_neg (by omega), b3 _ _ (by omega), put_ap, if_neg (by omega), put_ap, if_neg (by omega)]
              refine hR.sheet (by omega) (fun k hk => ?_) (fun a j h1 h2 => e _ _ (by omega) (by omega) (by omega)) (fun a _ _ _ => rfl)
              by_cases hq : k = n
              · subst hq
                refine ⟨c, hc, ?_, ?_, ?_, ?_, ?_, fun q => ?_, fun x hx => ?_⟩
                · rw [g3 _ _ (by omega), g3 _ _ (by omega), put_ap, if_neg (by omega), put_ap, if_neg (by omega), b3 _ _ (by omega), put_ap, if_neg (by omega), put_ap, if_pos ⟨rfl, rfl⟩, put_ap, if_neg (by omega), put_ap, if_pos ⟨rfl, rfl⟩]
                · rw [g3 _ _ (by omega), put_ap, if_neg (by omega), put_ap, if_neg (by omega), b3 _ _ (by omega), put_ap, if_pos ⟨rfl, rfl⟩]
                · rw [g3 _ _ (by omega), put_ap, if_pos ⟨rfl, rfl⟩]
                · rw [g3 _ _ (by omega), put_ap, if_neg (by omega), put_ap, if_pos ⟨rfl, rfl⟩]; exact hr1.1
                · rw [g3 _ _ (by omega), put_ap, if_neg (by omega), put_ap, if_pos ⟨rfl, rfl⟩]; exact hr1.2
                · rw [g3 _ _ (by omega), put_ap, if_neg (by omega), put_ap, if_pos ⟨rfl, rfl⟩] at q
                  exact absurd q hm
                · rw [g2 x (by omega) (by omega), g3 _ _ (by omega), put_ap, if_neg (by omega), put_ap, if_neg (by omega), b2 x (by omega) (by omega)]
              · obtain ⟨c, c0, s1, s2, s3, s4, s5, s6, s7⟩ := hS k hk
                refine ⟨c, c0, by rw [e _ _ (by omega) (by omega) (by omega), e _ _ (by omega) (by omega) (by omega)]; exact s1, by rw [e _ _ (by omega) (by omega) (by omega)]; exact s2, by rw [e _ _ (by omega) (by omega) (by omega)]; exact s3, by rw [e _ _ (by omega) (by omega) (by omega)]; exact s4, by rw [e _ _ (by omega) (by omega) (by omega)]; exact s5, by rw [e _ _ (by omega) (by omega) (by omega)]; exact s6, fun x hx => ?_⟩
                rw [e _ _ (by omega) (by omega) (by omega), e _ _ (by omega) (by omega) (by omega)]
                exact s7 x hx
          · refine ⟨-14, I, I, ?_, ?_, hM⟩
            · unfold f_X10_sheet
              rw [isSheet_s]
              simp (disch := omega) only [bd1_s, bd2_s, bd3_s, nm_s, wi_s, ite_bI, bI_1, le_pred, if_true, in_x, cl_nI, vin_nI, nI_add, nI_mul, le_nn, lt_nn, eq_nn, sb, reduceIte, N_0, N_1, N_2, N_3, N_4, N_5, N_6, N_7, N_8, N_9, N_10, N_11, N_12, N_13, N_14, N_16, N_20, N_30, N_31, N_32, N_37, N_40, N_41, N_42, N_43, N_45, N_47, N_48, N_50, N_57, N_59, N_60, N_61, N_62, N_70, N_71, N_72, N_80, N_81, N_82, N_83, N_97, N_98, N_99, N_100, N_101, N_102, N_103, N_104, N_105, N_107, N_108, N_110, N_111, N_112, N_114, N_115, N_116, N_117, N_119, N_121, N_122, N_200, N_220, N_255, N_256, N_257, N_258, N_400, N_438, N_446, N_666, N_999, N_9999, N_10000, N_10010, N_10011, N_10012, N_10013, N_10014, N_10015, N_10016, N_10017, N_10018, N_12345, N_20000, N_20126, N_99999, N_1103515245, L_m999, L_m1, L_0, L_1, L_2, L_3, L_4, L_7, L_8, L_9, L_10, L_12, L_14, L_40, L_48, L_57, L_97, L_99, L_122, L_255, L_400, L_999, L_9999]
              rw [if_pos ⟨by omega, hn⟩, if_pos h1, if_neg hm, if_pos h40, if_neg hz] <;> rfl
            · unfold f_X11_sheet fB_X11_sheet_33
              rw [isOne_s, in_m1]
              simp (disch := omega) only [bd1_s, bd2_s, bd3_s, nm_s, wi_s, ite_bI, bI_1, le_pred, if_true, in_x, cl_nI, vin_nI, nI_add, nI_mul, le_nn, lt_nn, eq_nn, sb, reduceIte, N_0, N_1, N_2, N_3, N_4, N_5, N_6, N_7, N_8, N_9, N_10, N_11, N_12, N_13, N_14, N_16, N_20, N_30, N_31, N_32, N_37, N_40, N_41, N_42, N_43, N_45, N_47, N_48, N_50, N_57, N_59, N_60, N_61, N_62, N_70, N_71, N_72, N_80, N_81, N_82, N_83, N_97, N_98, N_99, N_100, N_101, N_102, N_103, N_104, N_105, N_107, N_108, N_110, N_111, N_112, N_114, N_115, N_116, N_117, N_119, N_121, N_122, N_200, N_220, N_255, N_256, N_257, N_258, N_400, N_438, N_446, N_666, N_999, N_9999, N_10000, N_10010, N_10011, N_10012, N_10013, N_10014, N_10015, N_10016, N_10017, N_10018, N_12345, N_20000, N_20126, N_99999, N_1103515245, L_m999, L_m1, L_0, L_1, L_2, L_3, L_4, L_7, L_8, L_9, L_10, L_12, L_14, L_40, L_48, L_57, L_97, L_99, L_122, L_255, L_400, L_999, L_9999]
              rw [if_pos ⟨by omega, hn⟩, if_pos h1, if_neg hnl, if_neg hnl, if_pos h40, if_neg hz] <;> rfl
        · refine ⟨-1, I, I, ?_, ?_, hM⟩
          · unfold f_X10_sheet
            rw [isSheet_s]
            simp (disch := omega) only [bd1_s, bd2_s, bd3_s, nm_s, wi_s, ite_bI, bI_1, le_pred, if_true, in_x, cl_nI, vin_nI, nI_add, nI_mul, le_nn, lt_nn, eq_nn, sb, reduceIte, N_0, N_1, N_2, N_3, N_4, N_5, N_6, N_7, N_8, N_9, N_10, N_11, N_12, N_13, N_14, N_16, N_20, N_30, N_31, N_32, N_37, N_40, N_41, N_42, N_43, N_45, N_47, N_48, N_50, N_57, N_59, N_60, N_61, N_62, N_70, N_71, N_72, N_80, N_81, N_82, N_83, N_97, N_98, N_99, N_100, N_101, N_102, N_103, N_104, N_105, N_107, N_108, N_110, N_111, N_112, N_114, N_115, N_116, N_117, N_119, N_121, N_122, N_200, N_220, N_255, N_256, N_257, N_258, N_400, N_438, N_446, N_666, N_999, N_9999, N_10000, N_10010, N_10011, N_10012, N_10013, N_10014, N_10015, N_10016, N_10017, N_10018, N_12345, N_20000, N_20126, N_99999, N_1103515245, L_m999, L_m1, L_0, L_1, L_2, L_3, L_4, L_7, L_8, L_9, L_10, L_12, L_14, L_40, L_48, L_57, L_97, L_99, L_122, L_255, L_400, L_999, L_9999]
            rw [if_pos ⟨by omega, hn⟩, if_pos h1, if_neg hm, if_neg h40] <;> rfl
          · unfold f_X11_sheet
            rw [isOne_s, in_m1]
            simp (disch := omega) only [bd1_s, bd2_s, bd3_s, nm_s, wi_s, ite_bI, bI_1, le_pred, if_true, in_x, cl_nI, vin_nI, nI_add, nI_mul, le_nn, lt_nn, eq_nn, sb, reduceIte, N_0, N_1, N_2, N_3, N_4, N_5, N_6, N_7, N_8, N_9, N_10, N_11, N_12, N_13, N_14, N_16, N_20, N_30, N_31, N_32, N_37, N_40, N_41, N_42, N_43, N_45, N_47, N_48, N_50, N_57, N_59, N_60, N_61, N_62, N_70, N_71, N_72, N_80, N_81, N_82, N_83, N_97, N_98, N_99, N_100, N_101, N_102, N_103, N_104, N_105, N_107, N_108, N_110, N_111, N_112, N_114, N_115, N_116, N_117, N_119, N_121, N_122, N_200, N_220, N_255, N_256, N_257, N_258, N_400, N_438, N_446, N_666, N_999, N_9999, N_10000, N_10010, N_10011, N_10012, N_10013, N_10014, N_10015, N_10016, N_10017, N_10018, N_12345, N_20000, N_20126, N_99999, N_1103515245, L_m999, L_m1, L_0, L_1, L_2, L_3, L_4, L_7, L_8, L_9, L_10, L_12, L_14, L_40, L_48, L_57, L_97, L_99, L_122, L_255, L_400, L_999, L_9999]
            rw [if_pos ⟨by omega, hn⟩, if_pos h1, if_neg hnl, if_neg h40] <;> rfl
    · refine ⟨-1, I, I, ?_, ?_, hM⟩
      · unfold f_X10_sheet
        rw [isSheet_s]
        simp (disch := omega) only [bd1_s, bd2_s, bd3_s, nm_s, wi_s, ite_bI, bI_1, le_pred, if_true, in_x, cl_nI, vin_nI, nI_add, nI_mul, le_nn, lt_nn, eq_nn, sb, reduceIte, N_0, N_1, N_2, N_3, N_4, N_5, N_6, N_7, N_8, N_9, N_10, N_11, N_12, N_13, N_14, N_16, N_20, N_30, N_31, N_32, N_37, N_40, N_41, N_42, N_43, N_45, N_47, N_48, N_50, N_57, N_59, N_60, N_61, N_62, N_70, N_71, N_72, N_80, N_81, N_82, N_83, N_97, N_98, N_99, N_100, N_101, N_102, N_103, N_104, N_105, N_107, N_108, N_110, N_111, N_112, N_114, N_115, N_116, N_117, N_119, N_121, N_122, N_200, N_220, N_255, N_256, N_257, N_258, N_400, N_438, N_446, N_666, N_999, N_9999, N_10000, N_10010, N_10011, N_10012, N_10013, N_10014, N_10015, N_10016, N_10017, N_10018, N_12345, N_20000, N_20126, N_99999, N_1103515245, L_m999, L_m1, L_0, L_1, L_2, L_3, L_4, L_7, L_8, L_9, L_10, L_12, L_14, L_40, L_48, L_57, L_97, L_99, L_122, L_255, L_400, L_999, L_9999]
        rw [if_pos ⟨by omega, hn⟩, if_neg h1] <;> rfl
      · unfold f_X11_sheet
        rw [isOne_s, in_m1]
        simp (disch := omega) only [bd1_s, bd2_s, bd3_s, nm_s, wi_s, ite_bI, bI_1, le_pred, if_true, in_x, cl_nI, vin_nI, nI_add, nI_mul, le_nn, lt_nn, eq_nn, sb, reduceIte, N_0, N_1, N_2, N_3, N_4, N_5, N_6, N_7, N_8, N_9, N_10, N_11, N_12, N_13, N_14, N_16, N_20, N_30, N_31, N_32, N_37, N_40, N_41, N_42, N_43, N_45, N_47, N_48, N_50, N_57, N_59, N_60, N_61, N_62, N_70, N_71, N_72, N_80, N_81, N_82, N_83, N_97, N_98, N_99, N_100, N_101, N_102, N_103, N_104, N_105, N_107, N_108, N_110, N_111, N_112, N_114, N_115, N_116, N_117, N_119, N_121, N_122, N_200, N_220, N_255, N_256, N_257, N_258, N_400, N_438, N_446, N_666, N_999, N_9999, N_10000, N_10010, N_10011, N_10012, N_10013, N_10014, N_10015, N_10016, N_10017, N_10018, N_12345, N_20000, N_20126, N_99999, N_1103515245, L_m999, L_m1, L_0, L_1, L_2, L_3, L_4, L_7, L_8, L_9, L_10, L_12, L_14, L_40, L_48, L_57, L_97, L_99, L_122, L_255, L_400, L_999, L_9999]
        rw [if_pos ⟨by omega, hn⟩, if_neg h1] <;> rfl
  · refine ⟨-1, I, I, ?_, ?_, hM⟩
    · unfold f_X10_sheet
      rw [isSheet_s, bd1_s, ite_bI, if_neg h0]
    · unfold f_X11_sheet
      rw [isOne_s, bd1_s, ite_bI, if_neg h0]

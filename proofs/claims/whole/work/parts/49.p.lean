theorem narrowed_same : f_X5_narrowed = f_X11_narrowed := rfl
theorem narrowed_ex (a b : Int32) : ∃ v, f_X11_narrowed a b = some v := by
  unfold f_X11_narrowed
  by_cases h0 : a = 0
  · exact ⟨_, if_pos h0⟩
  · by_cases h1 : a = 1
    · exact ⟨_, (if_neg h0).trans (if_pos h1)⟩
    · by_cases h4 : a = 4
      · by_cases hb : b = 0
        · exact ⟨_, (if_neg h0).trans ((if_neg h1).trans ((if_pos h4).trans (if_pos hb)))⟩
        · exact ⟨_, (if_neg h0).trans ((if_neg h1).trans ((if_pos h4).trans (if_neg hb)))⟩
      · exact ⟨_, (if_neg h0).trans ((if_neg h1).trans (if_neg h4))⟩
theorem sim_put {N : Nat} {I : HI} {J : HJ} (hN : N ≤ 1000000) (hR : Rel N I J) (a0 : Int32) (a1 : Int32) (a2 : Int32) : ∃ (r : Int32) (I1 : HI) (I2 : HI), f_X10_put a0 a1 a2 I J = some (r, I1) ∧ f_X11_put a0 a1 a2 I1 J = some (r, I2) ∧ Rel (N + 400) I2 J := by
  have hM := hR.mono (Nat.le_add_right N 400)
  have hS := hR.2.2.2.2.2.1
  by_cases h0 : nI 0 ≤ a0 ∧ a0 < nI 4
  · obtain ⟨n, hn, rfl⟩ := rng2 (by omega) h0
    obtain ⟨c, c0, s1, s2, s3, s4, s5, s6, s7⟩ := hS n hn
    have hso : f_X5_sortOf (nI n) I J = some (I 116 n) := by
      unfold f_X5_sortOf
      rw [isSheet_s, bd1_s, ite_bI, if_pos h0, if_pos (vin_nI hn (by omega)), cl_nI (by omega), s1]
    by_cases hm : I 116 n = -nI 1
    · refine ⟨-11, I, I, ?_, ?_, hM⟩
      · unfold f_X10_put
        rw [isSheet_s, hso]
        simp (disch := omega) only [bd1_s, bd2_s, bd3_s, nm_s, wi_s, ite_bI, bI_1, le_pred, if_true, in_x, cl_nI, vin_nI, nI_add, nI_mul, le_nn, lt_nn, eq_nn, sb, reduceIte, N_0, N_1, N_2, N_3, N_4, N_5, N_6, N_7, N_8, N_9, N_10, N_11, N_12, N_13, N_14, N_16, N_20, N_30, N_31, N_32, N_37, N_40, N_41, N_42, N_43, N_45, N_47, N_48, N_50, N_57, N_59, N_60, N_61, N_62, N_70, N_71, N_72, N_80, N_81, N_82, N_83, N_97, N_98, N_99, N_100, N_101, N_102, N_103, N_104, N_105, N_107, N_108, N_110, N_111, N_112, N_114, N_115, N_116, N_117, N_119, N_121, N_122, N_200, N_220, N_255, N_256, N_257, N_258, N_400, N_438, N_446, N_666, N_999, N_9999, N_10000, N_10010, N_10011, N_10012, N_10013, N_10014, N_10015, N_10016, N_10017, N_10018, N_12345, N_20000, N_20126, N_99999, N_1103515245, L_m999, L_m1, L_0, L_1, L_2, L_3, L_4, L_7, L_8, L_9, L_10, L_12, L_14, L_40, L_48, L_57, L_97, L_99, L_122, L_255, L_400, L_999, L_9999]
        rw [if_pos ⟨by omega, hn⟩, if_pos hm] <;> rfl
      · unfold f_X11_put
        rw [isOne_s]
        simp (disch := omega) only [bd1_s, bd2_s, bd3_s, nm_s, wi_s, ite_bI, bI_1, le_pred, if_true, in_x, cl_nI, vin_nI, nI_add, nI_mul, le_nn, lt_nn, eq_nn, sb, reduceIte, N_0, N_1, N_2, N_3, N_4, N_5, N_6, N_7, N_8, N_9, N_10, N_11, N_12, N_13, N_14, N_16, N_20, N_30, N_31, N_32, N_37, N_40, N_41, N_42, N_43, N_45, N_47, N_48, N_50, N_57, N_59, N_60, N_61, N_62, N_70, N_71, N_72, N_80, N_81, N_82, N_83, N_97, N_98, N_99, N_100, N_101, N_102, N_103, N_104, N_105, N_107, N_108, N_110, N_111, N_112, N_114, N_115, N_116, N_117, N_119, N_121, N_122, N_200, N_220, N_255, N_256, N_257, N_258, N_400, N_438, N_446, N_666, N_999, N_9999, N_10000, N_10010, N_10011, N_10012, N_10013, N_10014, N_10015, N_10016, N_10017, N_10018, N_12345, N_20000, N_20126, N_99999, N_1103515245, L_m999, L_m1, L_0, L_1, L_2, L_3, L_4, L_7, L_8, L_9, L_10, L_12, L_14, L_40, L_48, L_57, L_97, L_99, L_122, L_255, L_400, L_999, L_9999]
        rw [if_pos ⟨by omega, hn⟩, if_neg (by rw [hm]; decide)] <;> rfl
    · have hp : nI 0 ≤ I 116 n := by
        rw [i_le]
        have e : (nI 0).toInt = 0 := by decide
        have e2 : (I 116 n).toInt ≠ -1 := fun q => hm (i_eq.mpr (q.trans (by decide)))
        omega
      by_cases h2 : nI 0 ≤ a1 ∧ a1 < nI c
      · obtain ⟨i, hi, rfl⟩ := rng2 (by omega) h2
        obtain ⟨v, hv⟩ := narrowed_ex (I 116 n) a2
        refine ⟨1, put I (88 + n) i v, put (put I (88 + n) i v) 118 (40 * n + i) v, ?_, ?_, ?_⟩
        · unfold f_X10_put f_X5_putNarrowed
          rw [isSheet_s, hso, shas_s hn c0 s2]
          simp (disch := omega) only [bd1_s, bd2_s, bd3_s, nm_s, wi_s, ite_bI, bI_1, le_pred, if_true, in_x, cl_nI, vin_nI, nI_add, nI_mul, le_nn, lt_nn, eq_nn, sb, reduceIte, N_0, N_1, N_2, N_3, N_4, N_5, N_6, N_7, N_8, N_9, N_10, N_11, N_12, N_13, N_14, N_16, N_20, N_30, N_31, N_32, N_37, N_40, N_41, N_42, N_43, N_45, N_47, N_48, N_50, N_57, N_59, N_60, N_61, N_62, N_70, N_71, N_72, N_80, N_81, N_82, N_83, N_97, N_98, N_99, N_100, N_101, N_102, N_103, N_104, N_105, N_107, N_108, N_110, N_111, N_112, N_114, N_115, N_116, N_117, N_119, N_121, N_122, N_200, N_220, N_255, N_256, N_257, N_258, N_400, N_438, N_446, N_666, N_999, N_9999, N_10000, N_10010, N_10011, N_10012, N_10013, N_10014, N_10015, N_10016, N_10017, N_10018, N_12345, N_20000, N_20126, N_99999, N_1103515245, L_m999, L_m1, L_0, L_1, L_2, L_3, L_4, L_7, L_8, L_9, L_10, L_12, L_14, L_40, L_48, L_57, L_97, L_99, L_122, L_255, L_400, L_999, L_9999, s1, narrowed_same, hv]
          rw [if_pos ⟨by omega, hn⟩, if_neg hm, if_pos ⟨by omega, by omega⟩, if_pos ⟨by omega, by omega⟩, bd1_s, lay87 n hn] <;> rfl
        · have e1 : put I (88 + n) i v 116 n = I 116 n := by rw [put_ap, if_neg (by omega)]
          have e2 : put I (88 + n) i v 117 n = nI c := by rw [put_ap, if_neg (by omega)]; exact s3
          unfold f_X11_put
          rw [isOne_s]
          simp (disch := omega) only [bd1_s, bd2_s, bd3_s, nm_s, wi_s, ite_bI, bI_1, le_pred, if_true, in_x, cl_nI, vin_nI, nI_add, nI_mul, le_nn, lt_nn, eq_nn, sb, reduceIte, N_0, N_1, N_2, N_3, N_4, N_5, N_6, N_7, N_8, N_9, N_10, N_11, N_12, N_13, N_14, N_16, N_20, N_30, N_31, N_32, N_37, N_40, N_41, N_42, N_43, N_45, N_47, N_48, N_50, N_57, N_59, N_60, N_61, N_62, N_70, N_71, N_72, N_80, N_81, N_82, N_83, N_97, N_98, N_99, N_100, N_101, N_102, N_103, N_104, N_105, N_107, N_108, N_110, N_111, N_112, N_114, N_115, N_116, N_117, N_119, N_121, N_122, N_200, N_220, N_255, N_256, N_257, N_258, N_400, N_438, N_446, N_666, N_999, N_9999, N_10000, N_10010, N_10011, N_10012, N_10013, N_10014, N_10015, N_10016, N_10017, N_10018, N_12345, N_20000, N_20126, N_99999, N_1103515245, L_m999, L_m1, L_0, L_1, L_2, L_3, L_4, L_7, L_8, L_9, L_10, L_12, L_14, L_40, L_48, L_57, L_97, L_99, L_122, L_255, L_400, L_999, L_9999, e1, e2, hv]
          rw [if_pos ⟨by omega, hn⟩, if_pos hp, if_pos ⟨by omega, by omega⟩] <;> rfl
        · refine hR.sheet (by omega) (fun k hk => ?_) (fun a j h1 h2 => ?_) (fun a _ _ _ => rfl)
          · obtain ⟨c, c0, s1, s2, s3, s4, s5, s6, s7⟩ := hS k hk
            have e1 : ∀ a, (85 ≤ a ∧ a ≤ 86) ∨ a = 116 ∨ a = 117 → ∀ j, put (put I (88 + n) i v) 118 (40 * n + i) v a j = I a j := fun a ha j => by rw [put_ap, if_neg (by omega), put_ap, if_neg (by omega)]
            refine ⟨c, c0, by rw [e1 _ (by omega), e1 _ (by omega)]; exact s1, by rw [e1 _ (by omega)]; exact s2, by rw [e1 _ (by omega)]; exact s3, by rw [e1 _ (by omega)]; exact s4, by rw [e1 _ (by omega)]; exact s5, by rw [e1 _ (by omega)]; exact s6, fun x hx => ?_⟩
            rw [put_ap, if_neg (by omega), put_ap, put_ap]
            by_cases hq : k = n ∧ x = i
            · rw [if_pos (by omega), if_pos (by omega)]
            · rw [if_neg (by omega), if_neg (by omega), put_ap, if_neg (by omega)]
              exact s7 x hx
          · rw [put_ap, if_neg (by omega), put_ap, if_neg (by omega)]
      · refine ⟨-12, I, I, ?_, ?_, hM⟩
        · unfold f_X10_put
          rw [isSheet_s, hso, shas_s hn c0 s2]
          simp (disch := omega) only [bd1_s, bd2_s, bd3_s, nm_s, wi_s, ite_bI, bI_1, le_pred, if_true, in_x, cl_nI, vin_nI, nI_add, nI_mul, le_nn, lt_nn, eq_nn, sb, reduceIte, N_0, N_1, N_2, N_3, N_4, N_5, N_6, N_7, N_8, N_9, N_10, N_11, N_12, N_13, N_14, N_16, N_20, N_30, N_31, N_32, N_37, N_40, N_41, N_42, N_43, N_45, N_47, N_48, N_50, N_57, N_59, N_60, N_61, N_62, N_70, N_71, N_72, N_80, N_81, N_82, N_83, N_97, N_98, N_99, N_100, N_101, N_102, N_103, N_104, N_105, N_107, N_108, N_110, N_111, N_112, N_114, N_115, N_116, N_117, N_119, N_121, N_122, N_200, N_220, N_255, N_256, N_257, N_258, N_400, N_438, N_446, N_666, N_999, N_9999, N_10000, N_10010, N_10011, N_10012, N_10013, N_10014, N_10015, N_10016, N_10017, N_10018, N_12345, N_20000, N_20126, N_99999, N_1103515245, L_m999, L_m1, L_0, L_1, L_2, L_3, L_4, L_7, L_8, L_9, L_10, L_12, L_14, L_40, L_48, L_57, L_97, L_99, L_122, L_255, L_400, L_999, L_9999]
          rw [if_pos ⟨by omega, hn⟩, if_neg hm, if_neg h2] <;> rfl
        · unfold f_X11_put
          rw [isOne_s]
          simp (disch := omega) only [bd1_s, bd2_s, bd3_s, nm_s, wi_s, ite_bI, bI_1, le_pred, if_true, in_x, cl_nI, vin_nI, nI_add, nI_mul, le_nn, lt_nn, eq_nn, sb, reduceIte, N_0, N_1, N_2, N_3, N_4, N_5, N_6, N_7, N_8, N_9, N_10, N_11, N_12, N_13, N_14, N_16, N_20, N_30, N_31, N_32, N_37, N_40, N_41, N_42, N_43, N_45, N_47, N_48, N_50, N_57, N_59, N_60, N_61, N_62, N_70, N_71, N_72, N_80, N_81, N_82, N_83, N_97, N_98, N_99, N_100, N_101, N_102, N_103, N_104, N_105, N_107, N_108, N_110, N_111, N_112, N_114, N_115, N_116, N_117, N_119, N_121, N_122, N_200, N_220, N_255, N_256, N_257, N_258, N_400, N_438, N_446, N_666, N_999, N_9999, N_10000, N_10010, N_10011, N_10012, N_10013, N_10014, N_10015, N_10016, N_10017, N_10018, N_12345, N_20000, N_20126, N_99999, N_1103515245, L_m999, L_m1, L_0, L_1, L_2, L_3, L_4, L_7, L_8, L_9, L_10, L_12, L_14, L_40, L_48, L_57, L_97, L_99, L_122, L_255, L_400, L_999, L_9999, s3]
          rw [if_pos ⟨by omega, hn⟩, if_pos hp, if_neg h2] <;> rfl
  · refine ⟨-1, I, I, ?_, ?_, hM⟩
    · unfold f_X10_put
      rw [isSheet_s, bd1_s, ite_bI, if_neg h0]
    · unfold f_X11_put
      rw [isOne_s, bd1_s, ite_bI, if_neg h0]

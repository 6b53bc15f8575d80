theorem told_s {k : Nat} {I : HI} {J : HJ} (hk : oK k = 1) (h : ∀ q, q < 4 → I (k + 7) q = 0 ∨ I (k + 7) q = 1) : f_X2_howManyTold k I J = some (I (k + 7) 0 + I (k + 7) 1 + I (k + 7) 2 + I (k + 7) 3) := by
  have st : ∀ (f : Nat) (acc : Int32) (i : Nat), i < 4 → fL_X2_howManyTold_4 k (f + 1) acc (nI i) I J = fL_X2_howManyTold_4 k f (acc + I (k + 7) i) (nI (i + 1)) I J := fun f acc i hi => by
    show fLB_X2_howManyTold_4 k (fL_X2_howManyTold_4 k f) acc (nI i) I J = _
    unfold fLB_X2_howManyTold_4 fB_X2_howManyTold_21
    simp (disch := omega) only [bd1_s, bd2_s, bd3_s, nm_s, wi_s, ite_bI, bI_1, le_pred, if_true, in_x, cl_nI, vin_nI, nI_add, nI_mul, le_nn, lt_nn, eq_nn, sb, reduceIte, N_0, N_1, N_2, N_3, N_4, N_5, N_6, N_7, N_8, N_9, N_10, N_11, N_12, N_13, N_14, N_16, N_20, N_30, N_31, N_32, N_37, N_40, N_41, N_42, N_43, N_45, N_47, N_48, N_50, N_57, N_59, N_60, N_61, N_62, N_70, N_71, N_72, N_80, N_81, N_82, N_83, N_97, N_98, N_99, N_100, N_101, N_102, N_103, N_104, N_105, N_107, N_108, N_110, N_111, N_112, N_114, N_115, N_116, N_117, N_119, N_121, N_122, N_200, N_220, N_255, N_256, N_257, N_258, N_400, N_438, N_446, N_666, N_999, N_9999, N_10000, N_10010, N_10011, N_10012, N_10013, N_10014, N_10015, N_10016, N_10017, N_10018, N_12345, N_20000, N_20126, N_99999, N_1103515245, L_m999, L_m1, L_0, L_1, L_2, L_3, L_4, L_7, L_8, L_9, L_10, L_12, L_14, L_40, L_48, L_57, L_97, L_99, L_122, L_255, L_400, L_999, L_9999]
    rw [if_neg (by omega), (lay1 hk).2.2.1]
    rcases h i hi with e | e
    · rw [e, if_pos (show (0 : Int32) = nI 0 from rfl), show acc + 0 = acc from Int32.add_zero acc]
    · rw [e, if_neg (by decide), show nI 1 = 1 from rfl]
  unfold f_X2_howManyTold
  rw [show FU = 999995 + 1 + 1 + 1 + 1 + 1 from rfl, N_0, st _ _ 0 (by omega), st _ _ 1 (by omega), st _ _ 2 (by omega), st _ _ 3 (by omega)]
  show fLB_X2_howManyTold_4 k _ _ (nI 4) I J = _
  unfold fLB_X2_howManyTold_4
  rw [if_pos (show (4 : Int32) ≤ nI 4 by decide), show (nI 0 : Int32) = 0 from rfl, Int32.zero_add]
theorem told_01 {k s : Nat} {I : HI} (h : LawR k s I) : ∀ q, q < 4 → I (k + 7) q = 0 ∨ I (k + 7) q = 1 := fun q hq => by
  obtain ⟨n, fr, _, _, _, _, _, _, _, h8⟩ := h.1 q hq
  rw [h8]
  unfold bI
  by_cases hh : 12 ≤ fr <;> simp [hh]
theorem sim_many {N : Nat} {I : HI} {J : HJ} (hN : N ≤ 1000000) (hR : Rel N I J) (a0 : Int32) : ∃ (r : Int32), f_X10_many a0 I J = some r ∧ f_X11_many a0 I J = some r ∧ Rel (N + 400) I J := by
  have hM := hR.mono (Nat.le_add_right N 400)
  obtain ⟨t, l, r, k, p, s, f, c, x, d⟩ := hR
  obtain ⟨-, ⟨tm, c0, c1, c2, -⟩, -⟩ := t
  obtain ⟨rm, r0, r1, r2, -⟩ := r
  obtain ⟨pm, p0, p1, p2, -⟩ := p
  obtain ⟨cm, d0, d1, d2, -⟩ := c
  obtain ⟨xm, x0, x1, x2, -⟩ := x
  have ht := told_s (k := 4) (I := I) (J := J) rfl (told_01 l)
  unfold f_X10_many f_X11_many f_X9_size f_X4_size f_X3_size f_X8_size f_X0_size
  rw [ht]
  simp (disch := omega) only [bd1_s, bd2_s, bd3_s, nm_s, wi_s, ite_bI, bI_1, le_pred, if_true, in_x, cl_nI, vin_nI, nI_add, nI_mul, le_nn, lt_nn, eq_nn, sb, reduceIte, N_0, N_1, N_2, N_3, N_4, N_5, N_6, N_7, N_8, N_9, N_10, N_11, N_12, N_13, N_14, N_16, N_20, N_30, N_31, N_32, N_37, N_40, N_41, N_42, N_43, N_45, N_47, N_48, N_50, N_57, N_59, N_60, N_61, N_62, N_70, N_71, N_72, N_80, N_81, N_82, N_83, N_97, N_98, N_99, N_100, N_101, N_102, N_103, N_104, N_105, N_107, N_108, N_110, N_111, N_112, N_114, N_115, N_116, N_117, N_119, N_121, N_122, N_200, N_220, N_255, N_256, N_257, N_258, N_400, N_438, N_446, N_666, N_999, N_9999, N_10000, N_10010, N_10011, N_10012, N_10013, N_10014, N_10015, N_10016, N_10017, N_10018, N_12345, N_20000, N_20126, N_99999, N_1103515245, L_m999, L_m1, L_0, L_1, L_2, L_3, L_4, L_7, L_8, L_9, L_10, L_12, L_14, L_40, L_48, L_57, L_97, L_99, L_122, L_255, L_400, L_999, L_9999]
  by_cases h0 : a0 = nI 0
  · exact ⟨_, by rw [if_pos h0], by rw [if_pos h0, c1, c2], hM⟩
  · by_cases h1 : a0 = nI 1
    · exact ⟨_, by rw [if_neg h0, if_pos h1], by rw [if_neg h0, if_pos h1, r1, r2], hM⟩
    · by_cases h2 : a0 = nI 2
      · exact ⟨_, by rw [if_neg h0, if_neg h1, if_pos h2], by rw [if_neg h0, if_neg h1, if_pos h2, p1, p2], hM⟩
      · by_cases h3 : a0 = nI 3
        · exact ⟨_, by rw [if_neg h0, if_neg h1, if_neg h2, if_pos h3], by rw [if_neg h0, if_neg h1, if_neg h2, if_pos h3, x1, x2], hM⟩
        · by_cases h4 : a0 = nI 4
          · exact ⟨_, by rw [if_neg h0, if_neg h1, if_neg h2, if_neg h3, if_pos h4], by rw [if_neg h0, if_neg h1, if_neg h2, if_neg h3, if_pos h4, d1, d2], hM⟩
          · by_cases h5 : a0 = nI 5
            · exact ⟨_, by rw [if_neg h0, if_neg h1, if_neg h2, if_neg h3, if_neg h4, if_pos h5], by rw [if_neg h0, if_neg h1, if_neg h2, if_neg h3, if_neg h4, if_pos h5, l.2.1], hM⟩
            · exact ⟨_, by rw [if_neg h0, if_neg h1, if_neg h2, if_neg h3, if_neg h4, if_neg h5], by rw [if_neg h0, if_neg h1, if_neg h2, if_neg h3, if_neg h4, if_neg h5], hM⟩
theorem isSheet_s (a : Int32) : f_X5_isSheet a = some (bI (nI 0 ≤ a ∧ a < nI 4)) := by
  unfold f_X5_isSheet bI
  by_cases h1 : a < 0
  · rw [if_pos h1, if_neg (fun q => by have h2 := i_le.mp q.1; have h3 := i_lt.mp h1; have e : (nI 0).toInt = (0 : Int32).toInt := rfl; omega)]
  · rw [if_neg h1]
    by_cases h2 : (4 : Int32) ≤ a
    · rw [if_pos h2, if_neg (fun q => by have h3 := i_lt.mp q.2; have h4 := i_le.mp h2; have e : (nI 4).toInt = (4 : Int32).toInt := rfl; omega)]
    · rw [if_neg h2, if_pos ⟨by rw [i_lt] at h1; rw [i_le]; have e : (nI 0).toInt = (0 : Int32).toInt := rfl; omega, by rw [i_le] at h2; rw [i_lt]; have e : (nI 4).toInt = (4 : Int32).toInt := rfl; omega⟩]
theorem isOne_s (a : Int32) : f_X11_isOne a = some (bI (nI 0 ≤ a ∧ a < nI 4)) := by
  unfold f_X11_isOne
  simp (disch := omega) only [bd1_s, bd2_s, bd3_s, nm_s, wi_s, ite_bI, bI_1, le_pred, if_true, in_x, cl_nI, vin_nI, nI_add, nI_mul, le_nn, lt_nn, eq_nn, sb, reduceIte, N_0, N_1, N_2, N_3, N_4, N_5, N_6, N_7, N_8, N_9, N_10, N_11, N_12, N_13, N_14, N_16, N_20, N_30, N_31, N_32, N_37, N_40, N_41, N_42, N_43, N_45, N_47, N_48, N_50, N_57, N_59, N_60, N_61, N_62, N_70, N_71, N_72, N_80, N_81, N_82, N_83, N_97, N_98, N_99, N_100, N_101, N_102, N_103, N_104, N_105, N_107, N_108, N_110, N_111, N_112, N_114, N_115, N_116, N_117, N_119, N_121, N_122, N_200, N_220, N_255, N_256, N_257, N_258, N_400, N_438, N_446, N_666, N_999, N_9999, N_10000, N_10010, N_10011, N_10012, N_10013, N_10014, N_10015, N_10016, N_10017, N_10018, N_12345, N_20000, N_20126, N_99999, N_1103515245, L_m999, L_m1, L_0, L_1, L_2, L_3, L_4, L_7, L_8, L_9, L_10, L_12, L_14, L_40, L_48, L_57, L_97, L_99, L_122, L_255, L_400, L_999, L_9999]
  have e : (nI 0 ≤ a ∧ a ≤ nI 3) = (nI 0 ≤ a ∧ a < nI 4) := by
    rw [← le_pred a 4 (by omega), sb 4 1 (by omega)]
  have e2 : bI (nI 0 ≤ a ∧ a ≤ nI 3) = bI (nI 0 ≤ a ∧ a < nI 4) := by unfold bI; simp only [e]
  rw [e2, if_pos bI_zb]
theorem shas_s {n c : Nat} {a1 : Int32} {I : HI} {J : HJ} (hn : n < 4) (hc : c ≤ 40) (h : I 86 n = nI c) : f_X5_has (nI n) a1 I J = some (bI (nI 0 ≤ a1 ∧ a1 < nI c)) := by
  unfold f_X5_has
  rw [isSheet_s, bI_t ⟨by rw [le_nn (by omega) (by omega)]; omega, by rw [lt_nn (by omega) (by omega)]; omega⟩]
  simp (disch := omega) only [bd1_s, bd2_s, bd3_s, nm_s, wi_s, ite_bI, bI_1, le_pred, if_true, in_x, cl_nI, vin_nI, nI_add, nI_mul, le_nn, lt_nn, eq_nn, sb, reduceIte, N_0, N_1, N_2, N_3, N_4, N_5, N_6, N_7, N_8, N_9, N_10, N_11, N_12, N_13, N_14, N_16, N_20, N_30, N_31, N_32, N_37, N_40, N_41, N_42, N_43, N_45, N_47, N_48, N_50, N_57, N_59, N_60, N_61, N_62, N_70, N_71, N_72, N_80, N_81, N_82, N_83, N_97, N_98, N_99, N_100, N_101, N_102, N_103, N_104, N_105, N_107, N_108, N_110, N_111, N_112, N_114, N_115, N_116, N_117, N_119, N_121, N_122, N_200, N_220, N_255, N_256, N_257, N_258, N_400, N_438, N_446, N_666, N_999, N_9999, N_10000, N_10010, N_10011, N_10012, N_10013, N_10014, N_10015, N_10016, N_10017, N_10018, N_12345, N_20000, N_20126, N_99999, N_1103515245, L_m999, L_m1, L_0, L_1, L_2, L_3, L_4, L_7, L_8, L_9, L_10, L_12, L_14, L_40, L_48, L_57, L_97, L_99, L_122, L_255, L_400, L_999, L_9999, h]
  rw [if_neg (by omega)]
  by_cases h0 : nI 0 ≤ a1 ∧ a1 < nI c
  · obtain ⟨i, hi, rfl⟩ := rng2 (by omega) h0
    rw [if_pos h0, bI_t h0]
    simp (disch := omega) only [bd1_s, bd2_s, bd3_s, nm_s, wi_s, ite_bI, bI_1, le_pred, if_true, in_x, cl_nI, vin_nI, nI_add, nI_mul, le_nn, lt_nn, eq_nn, sb, reduceIte, N_0, N_1, N_2, N_3, N_4, N_5, N_6, N_7, N_8, N_9, N_10, N_11, N_12, N_13, N_14, N_16, N_20, N_30, N_31, N_32, N_37, N_40, N_41, N_42, N_43, N_45, N_47, N_48, N_50, N_57, N_59, N_60, N_61, N_62, N_70, N_71, N_72, N_80, N_81, N_82, N_83, N_97, N_98, N_99, N_100, N_101, N_102, N_103, N_104, N_105, N_107, N_108, N_110, N_111, N_112, N_114, N_115, N_116, N_117, N_119, N_121, N_122, N_200, N_220, N_255, N_256, N_257, N_258, N_400, N_438, N_446, N_666, N_999, N_9999, N_10000, N_10010, N_10011, N_10012, N_10013, N_10014, N_10015, N_10016, N_10017, N_10018, N_12345, N_20000, N_20126, N_99999, N_1103515245, L_m999, L_m1, L_0, L_1, L_2, L_3, L_4, L_7, L_8, L_9, L_10, L_12, L_14, L_40, L_48, L_57, L_97, L_99, L_122, L_255, L_400, L_999, L_9999]
    rw [if_neg (by omega)]
  · rw [if_neg h0, bI_f h0]; rfl

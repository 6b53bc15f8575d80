theorem rat_i {k m r : Nat} {I : HI} {J : HJ} (hk : oK k = 3) (hm : m ≤ 6) (h : I k 1 = nI m) (hr : r < m) : f_X4_at k (nI r) I J = some (some (k + 2 + 2 * r)) := by
  obtain ⟨l1, l2⟩ := lay3 hk
  unfold f_X4_at
  simp (disch := omega) only [bd1_s, bd2_s, bd3_s, nm_s, wi_s, ite_bI, bI_1, le_pred, if_true, in_x, cl_nI, vin_nI, nI_add, nI_mul, le_nn, lt_nn, eq_nn, sb, reduceIte, N_0, N_1, N_2, N_3, N_4, N_5, N_6, N_7, N_8, N_9, N_10, N_11, N_12, N_13, N_14, N_16, N_20, N_30, N_31, N_32, N_37, N_40, N_41, N_42, N_43, N_45, N_47, N_48, N_50, N_57, N_59, N_60, N_61, N_62, N_70, N_71, N_72, N_80, N_81, N_82, N_83, N_97, N_98, N_99, N_100, N_101, N_102, N_103, N_104, N_105, N_107, N_108, N_110, N_111, N_112, N_114, N_115, N_116, N_117, N_119, N_121, N_122, N_200, N_220, N_255, N_256, N_257, N_258, N_400, N_438, N_446, N_666, N_999, N_9999, N_10000, N_10010, N_10011, N_10012, N_10013, N_10014, N_10015, N_10016, N_10017, N_10018, N_12345, N_20000, N_20126, N_99999, N_1103515245, L_m999, L_m1, L_0, L_1, L_2, L_3, L_4, L_7, L_8, L_9, L_10, L_12, L_14, L_40, L_48, L_57, L_97, L_99, L_122, L_255, L_400, L_999, L_9999, h]
  rw [if_neg (by omega), if_neg (by omega), if_neg (by omega), l1, (l2 r (by omega)).1]
theorem rat_o {k m : Nat} {a : Int32} {I : HI} {J : HJ} (hk : oK k = 3) (hm : m ≤ 6) (h : I k 1 = nI m) (hr : ¬ (nI 0 ≤ a ∧ a < nI m)) : f_X4_at k a I J = some none := by
  unfold f_X4_at
  by_cases h1 : a < 0
  · rw [if_pos h1]
  · rw [if_neg h1, h]
    have h2 : nI m ≤ a := by
      rw [i_le]
      rw [i_lt] at h1
      have h3 : ¬ a < nI m := fun q => hr ⟨by rw [i_le]; have e : (nI 0).toInt = (0 : Int32).toInt := rfl; omega, q⟩
      rw [i_lt] at h3
      omega
    rw [if_pos h2]
theorem isRec_s {m : Nat} {a : Int32} {I : HI} {J : HJ} (hm : m ≤ 6) (h : I 99 10 = nI m) : f_X11_isRecord a I J = some (bI (nI 0 ≤ a ∧ a < nI m)) := by
  unfold f_X11_isRecord
  simp (disch := omega) only [bd1_s, bd2_s, bd3_s, nm_s, wi_s, ite_bI, bI_1, le_pred, if_true, in_x, cl_nI, vin_nI, nI_add, nI_mul, le_nn, lt_nn, eq_nn, sb, reduceIte, N_0, N_1, N_2, N_3, N_4, N_5, N_6, N_7, N_8, N_9, N_10, N_11, N_12, N_13, N_14, N_16, N_20, N_30, N_31, N_32, N_37, N_40, N_41, N_42, N_43, N_45, N_47, N_48, N_50, N_57, N_59, N_60, N_61, N_62, N_70, N_71, N_72, N_80, N_81, N_82, N_83, N_97, N_98, N_99, N_100, N_101, N_102, N_103, N_104, N_105, N_107, N_108, N_110, N_111, N_112, N_114, N_115, N_116, N_117, N_119, N_121, N_122, N_200, N_220, N_255, N_256, N_257, N_258, N_400, N_438, N_446, N_666, N_999, N_9999, N_10000, N_10010, N_10011, N_10012, N_10013, N_10014, N_10015, N_10016, N_10017, N_10018, N_12345, N_20000, N_20126, N_99999, N_1103515245, L_m999, L_m1, L_0, L_1, L_2, L_3, L_4, L_7, L_8, L_9, L_10, L_12, L_14, L_40, L_48, L_57, L_97, L_99, L_122, L_255, L_400, L_999, L_9999, h]
  rw [if_pos bI_zb]
def cS (Q : Nat → Prop) [DecidablePred Q] : Nat → Nat → Int32
  | _, 0 => 0
  | i, d + 1 => bI (Q i) + cS Q (i + 1) d
theorem cS_z (Q : Nat → Prop) [DecidablePred Q] (i : Nat) : cS Q i 0 = 0 := rfl
theorem cS_s (Q : Nat → Prop) [DecidablePred Q] (i d : Nat) : cS Q i (d + 1) = bI (Q i) + cS Q (i + 1) d := rfl
theorem cS_st (Q : Nat → Prop) [DecidablePred Q] {i N : Nat} (h : i < N) (acc : Int32) : acc + cS Q i (N - i) = acc + bI (Q i) + cS Q (i + 1) (N - (i + 1)) := by
  rw [show N - i = N - (i + 1) + 1 by omega, cS_s, Int32.add_assoc]
theorem cal_s {k a c1 c2 : Nat} {v w : Nat → Int32} {I : HI} {J : HJ} (hk : oK k = 8) (ha : oK a = 8) (h1 : c1 ≤ 60) (h2 : c2 ≤ 60) (e1 : I k 1 = nI c1) (e2 : I a 1 = nI c2) (v1 : ∀ i, i < c1 → I (k + 1) i = v i) (v2 : ∀ i, i < c2 → I (a + 1) i = w i) : f_X9_countAlike k a I J = some (cS (fun i => v i = w i) 0 (min c1 c2)) := by
  have key : ∀ d i f, i + d = min c1 c2 → d < f → ∀ acc, fL_X9_countAlike_4 k a f acc (nI i) I J = some (acc + cS (fun i => v i = w i) i (min c1 c2 - i)) := by
    refine fuel (L := fL_X9_countAlike_4 k a) (B := fLB_X9_countAlike_4 k a) (fun _ => rfl) (P := fun i g => ∀ acc, g acc (nI i) I J = some (acc + cS (fun i => v i = w i) i (min c1 c2 - i))) (fun g acc => ?_) (fun i g hi ih acc => ?_)
    · unfold fLB_X9_countAlike_4
      rw [Nat.sub_self, cS_z, Int32.add_zero, e1, e2]
      by_cases q : c1 ≤ c2
      · rw [if_pos (by rw [le_nn (by omega) (by omega)]; omega)]
      · rw [if_neg (by rw [le_nn (by omega) (by omega)]; omega), if_pos (by rw [le_nn (by omega) (by omega)]; omega)]
    · unfold fLB_X9_countAlike_4 fB_X9_countAlike_36
      rw [e1, e2, if_neg (by rw [le_nn (by omega) (by omega)]; omega), if_neg (by rw [le_nn (by omega) (by omega)]; omega), at_s hk h1 e1 (by omega), bd1_s, at_s ha h2 e2 (by omega), bd1_s, v1 i (by omega), v2 i (by omega), cS_st _ hi, nI_1, nm_s, nm_s, nm_s]
      by_cases q : v i = w i
      · rw [if_pos q, bI_t q]; exact ih (acc + 1)
      · rw [if_neg q, bI_f q, Int32.add_zero]; exact ih acc
  have := key (min c1 c2) 0 FU (by omega) (FU_ge (by omega)) 0
  rw [Int32.zero_add, Nat.sub_zero] at this
  exact this
theorem sim_alike {N : Nat} {I : HI} {J : HJ} (hN : N ≤ 1000000) (hR : Rel N I J) (a0 : Int32) (a1 : Int32) : ∃ (r : Int32), f_X10_alike a0 a1 I J = some r ∧ f_X11_alike a0 a1 I J = some r ∧ Rel (N + 400) I J := by
  have hM := hR.mono (Nat.le_add_right N 400)
  obtain ⟨m, m0, m1, m2, m3⟩ := hR.2.2.1
  by_cases h0 : nI 0 ≤ a0 ∧ a0 < nI m
  · obtain ⟨x, hx, rfl⟩ := rng2 (by omega) h0
    by_cases h1 : nI 0 ≤ a1 ∧ a1 < nI m
    · obtain ⟨y, hy, rfl⟩ := rng2 (by omega) h1
      obtain ⟨c, c0, c1, c2, c3⟩ := m3 x hx
      obtain ⟨d, d0, d1, d2, d3⟩ := m3 y hy
      have kx := ((lay3 (k := 13) rfl).2 x (by omega)).2
      have ky := ((lay3 (k := 13) rfl).2 y (by omega)).2
      refine ⟨cS (fun i => I 99 (73 + 61 * x + i) = I 99 (73 + 61 * y + i)) 0 (min c d), ?_, ?_, hM⟩
      · unfold f_X10_alike
        rw [rat_i (k := 13) rfl m0 m1 hx, rat_i (k := 13) rfl m0 m1 hy, bd1_s, oel_some, if_pos kx, bd1_s, oel_some, if_pos ky, cal_s (v := fun i => I 99 (73 + 61 * x + i)) (w := fun i => I 99 (73 + 61 * y + i)) kx ky c0 d0 c1 d1 (fun i hi => by rw [show 13 + 2 + 2 * x + 1 = 13 + 3 + 2 * x by omega]; exact c3 i hi) (fun i hi => by rw [show 13 + 2 + 2 * y + 1 = 13 + 3 + 2 * y by omega]; exact d3 i hi), bd1_s]
      · have key : ∀ e i f, i + e = min c d → e < f → ∀ acc, fL_X11_alike_23 (nI x) (nI y) f acc (nI i) I J = some (acc + cS (fun i => I 99 (73 + 61 * x + i) = I 99 (73 + 61 * y + i)) i (min c d - i)) := by
          refine fuel (L := fL_X11_alike_23 (nI x) (nI y)) (B := fLB_X11_alike_23 (nI x) (nI y)) (fun _ => rfl) (P := fun i g => ∀ acc, g acc (nI i) I J = some (acc + cS (fun i => I 99 (73 + 61 * x + i) = I 99 (73 + 61 * y + i)) i (min c d - i))) (fun g acc => ?_) (fun i g hi ih acc => ?_)
          · unfold fLB_X11_alike_23
            rw [Nat.sub_self, cS_z, Int32.add_zero]
            simp (disch := omega) only [bd1_s, bd2_s, bd3_s, nm_s, wi_s, ite_bI, bI_1, le_pred, if_true, in_x, cl_nI, vin_nI, nI_add, nI_mul, le_nn, lt_nn, eq_nn, sb, reduceIte, N_0, N_1, N_2, N_3, N_4, N_5, N_6, N_7, N_8, N_9, N_10, N_11, N_12, N_13, N_14, N_16, N_20, N_30, N_31, N_32, N_37, N_40, N_41, N_42, N_43, N_45, N_47, N_48, N_50, N_57, N_59, N_60, N_61, N_62, N_70, N_71, N_72, N_80, N_81, N_82, N_83, N_97, N_98, N_99, N_100, N_101, N_102, N_103, N_104, N_105, N_107, N_108, N_110, N_111, N_112, N_114, N_115, N_116, N_117, N_119, N_121, N_122, N_200, N_220, N_255, N_256, N_257, N_258, N_400, N_438, N_446, N_666, N_999, N_9999, N_10000, N_10010, N_10011, N_10012, N_10013, N_10014, N_10015, N_10016, N_10017, N_10018, N_12345, N_20000, N_20126, N_99999, N_1103515245, L_m999, L_m1, L_0, L_1, L_2, L_3, L_4, L_7, L_8, L_9, L_10, L_12, L_14, L_40, L_48, L_57, L_97, L_99, L_122, L_255, L_400, L_999, L_9999, c2, d2]
            by_cases q : c ≤ d
            · rw [if_pos (by omega)]
            · rw [if_neg (by omega), if_pos (by omega)]
          · unfold fLB_X11_alike_23 fB_X11_alike_100
            simp (disch := omega) only [bd1_s, bd2_s, bd3_s, nm_s, wi_s, ite_bI, bI_1, le_pred, if_true, in_x, cl_nI, vin_nI, nI_add, nI_mul, le_nn, lt_nn, eq_nn, sb, reduceIte, N_0, N_1, N_2, N_3, N_4, N_5, N_6, N_7, N_8, N_9, N_10, N_11, N_12, N_13, N_14, N_16, N_20, N_30, N_31, N_32, N_37, N_40, N_41, N_42, N_43, N_45, N_47, N_48, N_50, N_57, N_59, N_60, N_61, N_62, N_70, N_71, N_72, N_80, N_81, N_82, N_83, N_97, N_98, N_99, N_100, N_101, N_102, N_103, N_104, N_105, N_107, N_108, N_110, N_111, N_112, N_114, N_115, N_116, N_117, N_119, N_121, N_122, N_200, N_220, N_255, N_256, N_257, N_258, N_400, N_438, N_446, N_666, N_999, N_9999, N_10000, N_10010, N_10011, N_10012, N_10013, N_10014, N_10015, N_10016, N_10017, N_10018, N_12345, N_20000, N_20126, N_99999, N_1103515245, L_m999, L_m1, L_0, L_1, L_2, L_3, L_4, L_7, L_8, L_9, L_10, L_12, L_14, L_40, L_48, L_57, L_97, L_99, L_122, L_255, L_400, L_999, L_9999, c2, d2]
            rw [if_neg (by omega), if_neg (by omega), cS_st _ hi, show 72 + 61 * x + 1 + i = 73 + 61 * x + i by omega, show 72 + 61 * y + 1 + i = 73 + 61 * y + i by omega]
            by_cases q : I 99 (73 + 61 * x + i) = I 99 (73 + 61 * y + i)
            · rw [if_pos q, bI_t q]; exact ih (acc + 1)
            · rw [if_neg q, bI_f q]; exact ih (acc + 0)
        have h9 := key (min c d) 0 FU (by omega) (FU_ge (by omega)) 0
        rw [Int32.zero_add, Nat.sub_zero] at h9
        unfold f_X11_alike
        rw [isRec_s m0 m2, isRec_s m0 m2, bd1_s, ite_bI, if_pos h0, bd1_s, ite_bI, if_pos h1]
        exact h9
    · refine ⟨-1, ?_, ?_, hM⟩
      · have kx := ((lay3 (k := 13) rfl).2 x (by omega)).2
        unfold f_X10_alike fB_X10_alike_28
        rw [rat_i (k := 13) rfl m0 m1 hx, rat_o (k := 13) rfl m0 m1 h1, bd1_s, oel_some, if_pos kx, bd1_s, oel_none]
      · unfold f_X11_alike
        rw [isRec_s m0 m2, isRec_s m0 m2, bd1_s, ite_bI, if_pos h0, bd1_s, ite_bI, if_neg h1]
  · refine ⟨-1, ?_, ?_, hM⟩
    · unfold f_X10_alike fB_X10_alike_28
      rw [rat_o (k := 13) rfl m0 m1 h0, bd1_s, oel_none]
      by_cases h1 : nI 0 ≤ a1 ∧ a1 < nI m
      · obtain ⟨y, hy, rfl⟩ := rng2 (by omega) h1
        have ky := ((lay3 (k := 13) rfl).2 y (by omega)).2
        rw [rat_i (k := 13) rfl m0 m1 hy, bd1_s, oel_some, if_pos ky]
      · rw [rat_o (k := 13) rfl m0 m1 h1, bd1_s, oel_none]
    · unfold f_X11_alike
      rw [isRec_s m0 m2, bd1_s, ite_bI, if_neg h0]

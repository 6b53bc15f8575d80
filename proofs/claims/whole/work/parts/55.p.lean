def kndS (c q : Nat) : Int32 := if c = 0 then 6 else if q = 1 then 1 else if q = 2 then 2 else if q = 3 then 4 else if q = 4 then 3 else 5
theorem knd_s {k c : Nat} {I : HI} {J : HJ} (hk : oK k = 8) (hc : c ≤ 60) (h : I k 1 = nI c) : ∃ q, q ≤ 8 ∧ f_X9_findKind k I J = some (kndS c q) ∧ IsPer (I (k + 1)) c q := by
  obtain ⟨q, q0, q1, q2⟩ := per_s (J := J) hk hc h
  refine ⟨q, q0, ?_, q2⟩
  unfold f_X9_findKind kndS
  rw [h, q1]
  simp (disch := omega) only [bd1_s, bd2_s, bd3_s, nm_s, wi_s, ite_bI, bI_1, le_pred, if_true, in_x, cl_nI, vin_nI, nI_add, nI_mul, le_nn, lt_nn, eq_nn, sb, reduceIte, N_0, N_1, N_2, N_3, N_4, N_5, N_6, N_7, N_8, N_9, N_10, N_11, N_12, N_13, N_14, N_16, N_20, N_30, N_31, N_32, N_37, N_40, N_41, N_42, N_43, N_45, N_47, N_48, N_50, N_57, N_59, N_60, N_61, N_62, N_70, N_71, N_72, N_80, N_81, N_82, N_83, N_97, N_98, N_99, N_100, N_101, N_102, N_103, N_104, N_105, N_107, N_108, N_110, N_111, N_112, N_114, N_115, N_116, N_117, N_119, N_121, N_122, N_200, N_220, N_255, N_256, N_257, N_258, N_400, N_438, N_446, N_666, N_999, N_9999, N_10000, N_10010, N_10011, N_10012, N_10013, N_10014, N_10015, N_10016, N_10017, N_10018, N_12345, N_20000, N_20126, N_99999, N_1103515245, L_m999, L_m1, L_0, L_1, L_2, L_3, L_4, L_7, L_8, L_9, L_10, L_12, L_14, L_40, L_48, L_57, L_97, L_99, L_122, L_255, L_400, L_999, L_9999]
  by_cases e : c = 0
  · rw [if_pos e, if_pos e]
  · rw [if_neg e, if_neg e]
    by_cases e1 : q = 1
    · rw [if_pos e1, if_pos e1]
    · rw [if_neg e1, if_neg e1]
      by_cases e2 : q = 2
      · rw [if_pos e2, if_pos e2]
      · rw [if_neg e2, if_neg e2]
        by_cases e3 : q = 3
        · rw [if_pos e3, if_pos e3]
        · rw [if_neg e3, if_neg e3]
          by_cases e4 : q = 4
          · rw [if_pos e4, if_pos e4]
          · rw [if_neg e4, if_neg e4]
theorem mknd_s {c : Nat} {v : Nat → Int32} {I : HI} {J : HJ} (h : Look I c v) : ∃ q, q ≤ 8 ∧ f_X11_kindOf I J = some (kndS c q) ∧ IsPer v c q := by
  obtain ⟨q, q0, q1, q2⟩ := mper_s (J := J) h
  have hc := h.1
  refine ⟨q, q0, ?_, q2⟩
  unfold f_X11_kindOf kndS
  rw [h.2.1, q1]
  simp (disch := omega) only [bd1_s, bd2_s, bd3_s, nm_s, wi_s, ite_bI, bI_1, le_pred, if_true, in_x, cl_nI, vin_nI, nI_add, nI_mul, le_nn, lt_nn, eq_nn, sb, reduceIte, N_0, N_1, N_2, N_3, N_4, N_5, N_6, N_7, N_8, N_9, N_10, N_11, N_12, N_13, N_14, N_16, N_20, N_30, N_31, N_32, N_37, N_40, N_41, N_42, N_43, N_45, N_47, N_48, N_50, N_57, N_59, N_60, N_61, N_62, N_70, N_71, N_72, N_80, N_81, N_82, N_83, N_97, N_98, N_99, N_100, N_101, N_102, N_103, N_104, N_105, N_107, N_108, N_110, N_111, N_112, N_114, N_115, N_116, N_117, N_119, N_121, N_122, N_200, N_220, N_255, N_256, N_257, N_258, N_400, N_438, N_446, N_666, N_999, N_9999, N_10000, N_10010, N_10011, N_10012, N_10013, N_10014, N_10015, N_10016, N_10017, N_10018, N_12345, N_20000, N_20126, N_99999, N_1103515245, L_m999, L_m1, L_0, L_1, L_2, L_3, L_4, L_7, L_8, L_9, L_10, L_12, L_14, L_40, L_48, L_57, L_97, L_99, L_122, L_255, L_400, L_999, L_9999]
  by_cases e : c = 0
  · rw [if_pos e, if_pos e]
  · rw [if_neg e, if_neg e]
    by_cases e1 : q = 1
    · rw [if_pos e1, if_pos e1]
    · rw [if_neg e1, if_neg e1]
      by_cases e2 : q = 2
      · rw [if_pos e2, if_pos e2]
      · rw [if_neg e2, if_neg e2]
        by_cases e3 : q = 3
        · rw [if_pos e3, if_pos e3]
        · rw [if_neg e3, if_neg e3]
          by_cases e4 : q = 4
          · rw [if_pos e4, if_pos e4]
          · rw [if_neg e4, if_neg e4]
theorem look_rel {N : Nat} {I I1 : HI} {J : HJ} (hR : Rel N I J) (h : ∀ a j, a ≠ 114 → ¬ (a = 98 ∧ j = 27) → I1 a j = I a j) : Rel (N + 400) I1 J := (hR.mono (Nat.le_add_right N 400)).of (fun a j hs => h a j (by unfold Scr at hs; omega) (by unfold Scr at hs; omega)) (fun _ _ _ _ => rfl)
theorem sim_period {N : Nat} {I : HI} {J : HJ} (hN : N ≤ 1000000) (hR : Rel N I J) : ∃ (r : Int32) (I2 : HI), f_X10_period I J = some r ∧ f_X11_period I J = some (r, I2) ∧ Rel (N + 400) I2 J := by
  obtain ⟨t1, ⟨c, c0, c1, c2, c3⟩, t3, t4, t5, t6⟩ := hR.1
  obtain ⟨I1, g1, g2, g3⟩ := looks_s (J := J) c0 c2
  obtain ⟨q, q0, q1, q2⟩ := per_s (k := 2) (J := J) rfl c0 c1
  obtain ⟨p, p0, p1, p2⟩ := mper_s (J := J) g2
  have e := (q2.of (fun i hi => (c3 i hi).1)).uniq p2
  refine ⟨nI q, I1, ?_, ?_, look_rel hR g3⟩
  · unfold f_X10_period
    rw [q1, bd1_s]
  · unfold f_X11_period
    rw [g1, bd1_s, p1, bd1_s, e]
theorem sim_kind {N : Nat} {I : HI} {J : HJ} (hN : N ≤ 1000000) (hR : Rel N I J) : ∃ (r : Int32) (I2 : HI), f_X10_kind I J = some r ∧ f_X11_kind I J = some (r, I2) ∧ Rel (N + 400) I2 J := by
  obtain ⟨t1, ⟨c, c0, c1, c2, c3⟩, t3, t4, t5, t6⟩ := hR.1
  obtain ⟨I1, g1, g2, g3⟩ := looks_s (J := J) c0 c2
  obtain ⟨q, q0, q1, q2⟩ := knd_s (k := 2) (J := J) rfl c0 c1
  obtain ⟨p, p0, p1, p2⟩ := mknd_s (J := J) g2
  have e := (q2.of (fun i hi => (c3 i hi).1)).uniq p2
  refine ⟨kndS c q, I1, ?_, ?_, look_rel hR g3⟩
  · unfold f_X10_kind
    rw [q1, bd1_s]
  · unfold f_X11_kind
    rw [g1, bd1_s, p1, bd1_s, e]

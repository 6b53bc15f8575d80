theorem brow_l {n : Nat} {a1 a2 : Int32} {J : HJ} (hn : n < 4) : ∀ d i f, i + d = 40 → d < f → ∀ I : HI, ∃ I1, fL_X5_becomeRow_25 (nI n) a1 a2 f (nI i) I J = some I1 ∧ (∀ x, i ≤ x → x < 40 → I1 (88 + n) x = 0) ∧ ∀ a j, ¬ (a = 88 + n ∧ i ≤ j ∧ j < 40) → I1 a j = I a j := by
  refine fuel (L := fL_X5_becomeRow_25 (nI n) a1 a2) (B := fLB_X5_becomeRow_25 (nI n) a1 a2) (fun _ => rfl) (P := fun i g => ∀ I : HI, ∃ I1, g (nI i) I J = some I1 ∧ (∀ x, i ≤ x → x < 40 → I1 (88 + n) x = 0) ∧ ∀ a j, ¬ (a = 88 + n ∧ i ≤ j ∧ j < 40) → I1 a j = I a j) (fun g I => ?_) (fun i g hi ih I => ?_)
  · refine ⟨I, ?_, fun x h1 h2 => by omega, fun a j _ => rfl⟩
    unfold fLB_X5_becomeRow_25
    rw [if_pos (by decide)]
  · obtain ⟨I1, h1, h2, h3⟩ := ih (put I (88 + n) i 0)
    refine ⟨I1, ?_, fun x hx1 hx2 => ?_, fun a j hj => ?_⟩
    · unfold fLB_X5_becomeRow_25
      simp (disch := omega) only [bd1_s, bd2_s, bd3_s, nm_s, wi_s, ite_bI, bI_1, le_pred, if_true, in_x, cl_nI, vin_nI, nI_add, nI_mul, le_nn, lt_nn, eq_nn, sb, reduceIte, N_0, N_1, N_2, N_3, N_4, N_5, N_6, N_7, N_8, N_9, N_10, N_11, N_12, N_13, N_14, N_16, N_20, N_30, N_31, N_32, N_37, N_40, N_41, N_42, N_43, N_45, N_47, N_48, N_50, N_57, N_59, N_60, N_61, N_62, N_70, N_71, N_72, N_80, N_81, N_82, N_83, N_97, N_98, N_99, N_100, N_101, N_102, N_103, N_104, N_105, N_107, N_108, N_110, N_111, N_112, N_114, N_115, N_116, N_117, N_119, N_121, N_122, N_200, N_220, N_255, N_256, N_257, N_258, N_400, N_438, N_446, N_666, N_999, N_9999, N_10000, N_10010, N_10011, N_10012, N_10013, N_10014, N_10015, N_10016, N_10017, N_10018, N_12345, N_20000, N_20126, N_99999, N_1103515245, L_m999, L_m1, L_0, L_1, L_2, L_3, L_4, L_7, L_8, L_9, L_10, L_12, L_14, L_40, L_48, L_57, L_97, L_99, L_122, L_255, L_400, L_999, L_9999]
      rw [if_neg (by omega), lay87 n hn]
      exact h1
    · by_cases e : x = i
      · subst e
        rw [h3 _ _ (by omega), put_ap, if_pos ⟨rfl, rfl⟩]
      · exact h2 x (by omega) hx2
    · rw [h3 a j (by omega), put_ap, if_neg (by omega)]
theorem msheet_l {n : Nat} {a1 a2 : Int32} {J : HJ} (hn : n < 4) : ∀ d i f, i + d = 40 → d < f → ∀ I : HI, ∃ I1, fL_X11_sheet_69 (nI n) a1 a2 f (nI i) I J = some (1, I1) ∧ (∀ x, i ≤ x → x < 40 → I1 118 (40 * n + x) = 0) ∧ ∀ a j, ¬ (a = 118 ∧ 40 * n + i ≤ j ∧ j < 40 * n + 40) → I1 a j = I a j := by
  refine fuel (L := fL_X11_sheet_69 (nI n) a1 a2) (B := fLB_X11_sheet_69 (nI n) a1 a2) (fun _ => rfl) (P := fun i g => ∀ I : HI, ∃ I1, g (nI i) I J = some (1, I1) ∧ (∀ x, i ≤ x → x < 40 → I1 118 (40 * n + x) = 0) ∧ ∀ a j, ¬ (a = 118 ∧ 40 * n + i ≤ j ∧ j < 40 * n + 40) → I1 a j = I a j) (fun g I => ?_) (fun i g hi ih I => ?_)
  · refine ⟨I, ?_, fun x h1 h2 => by omega, fun a j _ => rfl⟩
    unfold fLB_X11_sheet_69
    rw [if_pos (by decide)]
  · obtain ⟨I1, h1, h2, h3⟩ := ih (put I 118 (40 * n + i) 0)
    refine ⟨I1, ?_, fun x hx1 hx2 => ?_, fun a j hj => ?_⟩
    · unfold fLB_X11_sheet_69
      simp (disch := omega) only [bd1_s, bd2_s, bd3_s, nm_s, wi_s, ite_bI, bI_1, le_pred, if_true, in_x, cl_nI, vin_nI, nI_add, nI_mul, le_nn, lt_nn, eq_nn, sb, reduceIte, N_0, N_1, N_2, N_3, N_4, N_5, N_6, N_7, N_8, N_9, N_10, N_11, N_12, N_13, N_14, N_16, N_20, N_30, N_31, N_32, N_37, N_40, N_41, N_42, N_43, N_45, N_47, N_48, N_50, N_57, N_59, N_60, N_61, N_62, N_70, N_71, N_72, N_80, N_81, N_82, N_83, N_97, N_98, N_99, N_100, N_101, N_102, N_103, N_104, N_105, N_107, N_108, N_110, N_111, N_112, N_114, N_115, N_116, N_117, N_119, N_121, N_122, N_200, N_220, N_255, N_256, N_257, N_258, N_400, N_438, N_446, N_666, N_999, N_9999, N_10000, N_10010, N_10011, N_10012, N_10013, N_10014, N_10015, N_10016, N_10017, N_10018, N_12345, N_20000, N_20126, N_99999, N_1103515245, L_m999, L_m1, L_0, L_1, L_2, L_3, L_4, L_7, L_8, L_9, L_10, L_12, L_14, L_40, L_48, L_57, L_97, L_99, L_122, L_255, L_400, L_999, L_9999]
      rw [if_neg (by omega)]
      exact h1
    · by_cases e : x = i
      · subst e
        rw [h3 _ _ (by omega), put_ap, if_pos ⟨rfl, rfl⟩]
      · exact h2 x (by omega) hx2
    · rw [h3 a j (by omega), put_ap, if_neg (by omega)]

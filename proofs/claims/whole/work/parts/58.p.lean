theorem fuel2 {α β : Type} {L1 : Nat → α} {B1 : α → α} {L2 : Nat → β} {B2 : β → β} (h1 : ∀ f, L1 (f + 1) = B1 (L1 f)) (h2 : ∀ f, L2 (f + 1) = B2 (L2 f)) {P : Nat → α → β → Prop} {N : Nat} (hend : ∀ g1 g2, P N (B1 g1) (B2 g2)) (hstep : ∀ i g1 g2, i < N → P (i + 1) g1 g2 → P i (B1 g1) (B2 g2)) : ∀ (d i f1 f2 : Nat), i + d = N → d < f1 → d < f2 → P i (L1 f1) (L2 f2) := by
  intro d
  induction d with
  | zero =>
    intro i f1 f2 hi hf1 hf2
    obtain ⟨f1, rfl⟩ : ∃ g, f1 = g + 1 := ⟨f1 - 1, by omega⟩
    obtain ⟨f2, rfl⟩ : ∃ g, f2 = g + 1 := ⟨f2 - 1, by omega⟩
    have e : i = N := by omega
    rw [h1, h2, e]
    exact hend _ _
  | succ d ih =>
    intro i f1 f2 hi hf1 hf2
    obtain ⟨f1, rfl⟩ : ∃ g, f1 = g + 1 := ⟨f1 - 1, by omega⟩
    obtain ⟨f2, rfl⟩ : ∃ g, f2 = g + 1 := ⟨f2 - 1, by omega⟩
    rw [h1, h2]
    exact hstep i _ _ (by omega) (ih (i + 1) f1 f2 (by omega) (by omega) (by omega))
def okT (v : Int32) (c : Nat) : Prop := (nI 1 ≤ v ∧ v ≤ nI 9999) ∧ c < 60
theorem ctell_y {c : Nat} {v : Int32} {I : HI} {J : HJ} (h : I 2 1 = nI c) (hv : okT v c) : f_X10_tell v I J = some (nI (c + 1), put (put I 3 c v) 2 1 (nI (c + 1))) := by
  unfold f_X10_tell f_X9_size
  rw [tadd_s (k := 2) rfl hv.2 h, bd2_s]
  simp (disch := omega) only [bd1_s, bd2_s, bd3_s, nm_s, wi_s, ite_bI, bI_1, le_pred, if_true, in_x, cl_nI, vin_nI, nI_add, nI_mul, le_nn, lt_nn, eq_nn, sb, reduceIte, N_0, N_1, N_2, N_3, N_4, N_5, N_6, N_7, N_8, N_9, N_10, N_11, N_12, N_13, N_14, N_16, N_20, N_30, N_31, N_32, N_37, N_40, N_41, N_42, N_43, N_45, N_47, N_48, N_50, N_57, N_59, N_60, N_61, N_62, N_70, N_71, N_72, N_80, N_81, N_82, N_83, N_97, N_98, N_99, N_100, N_101, N_102, N_103, N_104, N_105, N_107, N_108, N_110, N_111, N_112, N_114, N_115, N_116, N_117, N_119, N_121, N_122, N_200, N_220, N_255, N_256, N_257, N_258, N_400, N_438, N_446, N_666, N_999, N_9999, N_10000, N_10010, N_10011, N_10012, N_10013, N_10014, N_10015, N_10016, N_10017, N_10018, N_12345, N_20000, N_20126, N_99999, N_1103515245, L_m999, L_m1, L_0, L_1, L_2, L_3, L_4, L_7, L_8, L_9, L_10, L_12, L_14, L_40, L_48, L_57, L_97, L_99, L_122, L_255, L_400, L_999, L_9999]
  rw [if_pos hv.1, if_neg (by decide), pE rfl rfl]
theorem ctell_n {c : Nat} {v : Int32} {I : HI} {J : HJ} (h : I 2 1 = nI c) (hc : c ≤ 60) (hv : ¬ okT v c) : ∃ r, r ≤ 0 ∧ f_X10_tell v I J = some (r, I) := by
  by_cases h1 : nI 1 ≤ v ∧ v ≤ nI 9999
  · have e : c = 60 := by
      have h2 : ¬ c < 60 := fun q => hv ⟨h1, q⟩
      omega
    subst e
    refine ⟨-2, by decide, ?_⟩
    unfold f_X10_tell
    rw [tadd_f h]
    simp (disch := omega) only [bd1_s, bd2_s, bd3_s, nm_s, wi_s, ite_bI, bI_1, le_pred, if_true, in_x, cl_nI, vin_nI, nI_add, nI_mul, le_nn, lt_nn, eq_nn, sb, reduceIte, N_0, N_1, N_2, N_3, N_4, N_5, N_6, N_7, N_8, N_9, N_10, N_11, N_12, N_13, N_14, N_16, N_20, N_30, N_31, N_32, N_37, N_40, N_41, N_42, N_43, N_45, N_47, N_48, N_50, N_57, N_59, N_60, N_61, N_62, N_70, N_71, N_72, N_80, N_81, N_82, N_83, N_97, N_98, N_99, N_100, N_101, N_102, N_103, N_104, N_105, N_107, N_108, N_110, N_111, N_112, N_114, N_115, N_116, N_117, N_119, N_121, N_122, N_200, N_220, N_255, N_256, N_257, N_258, N_400, N_438, N_446, N_666, N_999, N_9999, N_10000, N_10010, N_10011, N_10012, N_10013, N_10014, N_10015, N_10016, N_10017, N_10018, N_12345, N_20000, N_20126, N_99999, N_1103515245, L_m999, L_m1, L_0, L_1, L_2, L_3, L_4, L_7, L_8, L_9, L_10, L_12, L_14, L_40, L_48, L_57, L_97, L_99, L_122, L_255, L_400, L_999, L_9999]
    rw [if_pos h1]
  · refine ⟨-1, by decide, ?_⟩
    unfold f_X10_tell
    simp (disch := omega) only [bd1_s, bd2_s, bd3_s, nm_s, wi_s, ite_bI, bI_1, le_pred, if_true, in_x, cl_nI, vin_nI, nI_add, nI_mul, le_nn, lt_nn, eq_nn, sb, reduceIte, N_0, N_1, N_2, N_3, N_4, N_5, N_6, N_7, N_8, N_9, N_10, N_11, N_12, N_13, N_14, N_16, N_20, N_30, N_31, N_32, N_37, N_40, N_41, N_42, N_43, N_45, N_47, N_48, N_50, N_57, N_59, N_60, N_61, N_62, N_70, N_71, N_72, N_80, N_81, N_82, N_83, N_97, N_98, N_99, N_100, N_101, N_102, N_103, N_104, N_105, N_107, N_108, N_110, N_111, N_112, N_114, N_115, N_116, N_117, N_119, N_121, N_122, N_200, N_220, N_255, N_256, N_257, N_258, N_400, N_438, N_446, N_666, N_999, N_9999, N_10000, N_10010, N_10011, N_10012, N_10013, N_10014, N_10015, N_10016, N_10017, N_10018, N_12345, N_20000, N_20126, N_99999, N_1103515245, L_m999, L_m1, L_0, L_1, L_2, L_3, L_4, L_7, L_8, L_9, L_10, L_12, L_14, L_40, L_48, L_57, L_97, L_99, L_122, L_255, L_400, L_999, L_9999]
    rw [if_neg h1]
theorem mtell_y {c : Nat} {v : Int32} {I : HI} {J : HJ} (h : I 99 9 = nI c) (hv : okT v c) : f_X11_tell v I J = some (nI (c + 1), put (put I 99 (12 + c) v) 99 9 (nI (c + 1))) := by
  have hc := hv.2
  unfold f_X11_tell
  simp (disch := omega) only [bd1_s, bd2_s, bd3_s, nm_s, wi_s, ite_bI, bI_1, le_pred, if_true, in_x, cl_nI, vin_nI, nI_add, nI_mul, le_nn, lt_nn, eq_nn, sb, reduceIte, N_0, N_1, N_2, N_3, N_4, N_5, N_6, N_7, N_8, N_9, N_10, N_11, N_12, N_13, N_14, N_16, N_20, N_30, N_31, N_32, N_37, N_40, N_41, N_42, N_43, N_45, N_47, N_48, N_50, N_57, N_59, N_60, N_61, N_62, N_70, N_71, N_72, N_80, N_81, N_82, N_83, N_97, N_98, N_99, N_100, N_101, N_102, N_103, N_104, N_105, N_107, N_108, N_110, N_111, N_112, N_114, N_115, N_116, N_117, N_119, N_121, N_122, N_200, N_220, N_255, N_256, N_257, N_258, N_400, N_438, N_446, N_666, N_999, N_9999, N_10000, N_10010, N_10011, N_10012, N_10013, N_10014, N_10015, N_10016, N_10017, N_10018, N_12345, N_20000, N_20126, N_99999, N_1103515245, L_m999, L_m1, L_0, L_1, L_2, L_3, L_4, L_7, L_8, L_9, L_10, L_12, L_14, L_40, L_48, L_57, L_97, L_99, L_122, L_255, L_400, L_999, L_9999, if_pos, if_neg, pE, pN, cE, cN, h]
  rw [if_pos hv.1]
theorem mtell_n {c : Nat} {v : Int32} {I : HI} {J : HJ} (h : I 99 9 = nI c) (hc : c ≤ 60) (hv : ¬ okT v c) : ∃ r, r ≤ 0 ∧ f_X11_tell v I J = some (r, I) := by
  by_cases h1 : nI 1 ≤ v ∧ v ≤ nI 9999
  · have e : c = 60 := by
      have h2 : ¬ c < 60 := fun q => hv ⟨h1, q⟩
      omega
    subst e
    refine ⟨-2, by decide, ?_⟩
    unfold f_X11_tell
    simp (disch := omega) only [bd1_s, bd2_s, bd3_s, nm_s, wi_s, ite_bI, bI_1, le_pred, if_true, in_x, cl_nI, vin_nI, nI_add, nI_mul, le_nn, lt_nn, eq_nn, sb, reduceIte, N_0, N_1, N_2, N_3, N_4, N_5, N_6, N_7, N_8, N_9, N_10, N_11, N_12, N_13, N_14, N_16, N_20, N_30, N_31, N_32, N_37, N_40, N_41, N_42, N_43, N_45, N_47, N_48, N_50, N_57, N_59, N_60, N_61, N_62, N_70, N_71, N_72, N_80, N_81, N_82, N_83, N_97, N_98, N_99, N_100, N_101, N_102, N_103, N_104, N_105, N_107, N_108, N_110, N_111, N_112, N_114, N_115, N_116, N_117, N_119, N_121, N_122, N_200, N_220, N_255, N_256, N_257, N_258, N_400, N_438, N_446, N_666, N_999, N_9999, N_10000, N_10010, N_10011, N_10012, N_10013, N_10014, N_10015, N_10016, N_10017, N_10018, N_12345, N_20000, N_20126, N_99999, N_1103515245, L_m999, L_m1, L_0, L_1, L_2, L_3, L_4, L_7, L_8, L_9, L_10, L_12, L_14, L_40, L_48, L_57, L_97, L_99, L_122, L_255, L_400, L_999, L_9999, h]
    rw [if_pos h1]
  · refine ⟨-1, by decide, ?_⟩
    unfold f_X11_tell
    simp (disch := omega) only [bd1_s, bd2_s, bd3_s, nm_s, wi_s, ite_bI, bI_1, le_pred, if_true, in_x, cl_nI, vin_nI, nI_add, nI_mul, le_nn, lt_nn, eq_nn, sb, reduceIte, N_0, N_1, N_2, N_3, N_4, N_5, N_6, N_7, N_8, N_9, N_10, N_11, N_12, N_13, N_14, N_16, N_20, N_30, N_31, N_32, N_37, N_40, N_41, N_42, N_43, N_45, N_47, N_48, N_50, N_57, N_59, N_60, N_61, N_62, N_70, N_71, N_72, N_80, N_81, N_82, N_83, N_97, N_98, N_99, N_100, N_101, N_102, N_103, N_104, N_105, N_107, N_108, N_110, N_111, N_112, N_114, N_115, N_116, N_117, N_119, N_121, N_122, N_200, N_220, N_255, N_256, N_257, N_258, N_400, N_438, N_446, N_666, N_999, N_9999, N_10000, N_10010, N_10011, N_10012, N_10013, N_10014, N_10015, N_10016, N_10017, N_10018, N_12345, N_20000, N_20126, N_99999, N_1103515245, L_m999, L_m1, L_0, L_1, L_2, L_3, L_4, L_7, L_8, L_9, L_10, L_12, L_14, L_40, L_48, L_57, L_97, L_99, L_122, L_255, L_400, L_999, L_9999, h]
    rw [if_neg h1]
theorem okT_pos {v : Int32} {c : Nat} (h : okT v c) : 0 ≤ v.toInt := by
  have q1 := i_le.mp h.1.1
  have e1 : (nI 1).toInt = 1 := by decide
  omega
theorem in_hi {v lo hi : Int64} (h : hi < v) : f_X11_in v lo hi = some 0 := by
  unfold f_X11_in
  by_cases h1 : lg_cmp v lo < 0
  · rw [if_pos h1]
  · rw [if_neg h1, if_pos (cmp_gt.mpr h)]
theorem add64 {a b : Int32} (h1 : -2147483648 ≤ a.toInt + b.toInt) (h2 : a.toInt + b.toInt < 2147483648) : a.toInt64 + b.toInt64 = (a + b).toInt64 := by
  rw [← Int64.toInt_inj, Int64.toInt_add, Int32.toInt_toInt64, Int32.toInt_toInt64, Int32.toInt_toInt64, i_add h1 h2]
  rw [Int.bmod_def]
  split <;> omega
theorem times_l {s z : Nat} {a1 : Int32} {n : Nat} {w : Nat → Int32} {J : HJ} (hs : s < 4) (hz : z ≤ 40) (hn : n ≤ 40) : ∀ d i f1 f2, i + d = n → d < f1 → d < f2 → ∀ (IC : HI) (c : Nat) (came : Int32), c ≤ 60 → IC 2 1 = nI c → IC 86 s = nI z → (∀ x, x < z → IC (88 + s) x = w x) → ∃ r IC', fL_X10_times_45 (nI s) a1 (nI n) f1 came (nI i) IC J = some (r, IC') ∧ (∀ a j, ¬ (a = 2 ∧ j = 1) → a ≠ 3 → IC' a j = IC a j) ∧ ∀ IM : HI, IM 99 9 = nI c → (∀ x, x < c → IC 3 x = IM 99 (12 + x) ∧ 0 ≤ (IM 99 (12 + x)).toInt) → IM 117 s = nI z → (∀ x, x < z → IM 118 (40 * s + x) = w x) → ∃ IM' c', fL_X11_times_43 (nI s) a1 (nI n) f2 came (nI i) IM J = some (r, IM') ∧ c' ≤ 60 ∧ IC' 2 1 = nI c' ∧ IM' 99 9 = nI c' ∧ (∀ x, x < c' → IC' 3 x = IM' 99 (12 + x) ∧ 0 ≤ (IM' 99 (12 + x)).toInt) ∧ ∀ a j, ¬ (a = 99 ∧ (j = 9 ∨ (12 ≤ j ∧ j < 72))) → IM' a j = IM a j := by
  refine fuel2 (L1 := fL_X10_times_45 (nI s) a1 (nI n)) (B1 := fLB_X10_times_45 (nI s) a1 (nI n)) (L2 := fL_X11_times_43 (nI s) a1 (nI n)) (B2 := fLB_X11_times_43 (nI s) a1 (nI n)) (fun _ => rfl) (fun _ => rfl) (P := fun i g1 g2 => ∀ (IC : HI) (c : Nat) (came : Int32), c ≤ 60 → IC 2 1 = nI c → IC 86 s = nI z → (∀ x, x < z → IC (88 + s) x = w x) → ∃ r IC', g1 came (nI i) IC J = some (r, IC') ∧ (∀ a j, ¬ (a = 2 ∧ j = 1) → a ≠ 3 → IC' a j = IC a j) ∧ ∀ IM : HI, IM 99 9 = nI c → (∀ x, x < c → IC 3 x = IM 99 (12 + x) ∧ 0 ≤ (IM 99 (12 + x)).toInt) → IM 117 s = nI z → (∀ x, x < z → IM 118 (40 * s + x) = w x) → ∃ IM' c', g2 came (nI i) IM J = some (r, IM') ∧ c' ≤ 60 ∧ IC' 2 1 = nI c' ∧ IM' 99 9 = nI c' ∧ (∀ x, x < c' → IC' 3 x = IM' 99 (12 + x) ∧ 0 ≤ (IM' 99 (12 + x)).toInt) ∧ ∀ a j, ¬ (a = 99 ∧ (j = 9 ∨ (12 ≤ j ∧ j < 72))) → IM' a j = IM a j) (fun g1 g2 IC c came hc e1 e2 e3 => ?_) (fun i g1 g2 hi ih IC c came hc e1 e2 e3 => ?_)
  · refine ⟨came, IC, ?_, fun _ _ _ _ => rfl, fun IM f1 f2 f3 f4 => ⟨IM, c, ?_, hc, e1, f1, f2, fun _ _ _ => rfl⟩⟩
    · unfold fLB_X10_times_45
      rw [if_pos (by rw [le_nn (by omega) (by omega)]; omega)]
    · unfold fLB_X11_times_43
      rw [if_pos (by rw [le_nn (by omega) (by omega)]; omega)]
  · have ha := shas_s (a1 := a1 + nI i) (J := J) hs hz e2
    by_cases ho : nI 0 ≤ a1 + nI i ∧ a1 + nI i < nI z
    · obtain ⟨p, hp, ep⟩ := rng2 (by omega) ho
      have e64 : a1.toInt64 + (nI i).toInt64 = (nI p).toInt64 := by
        rw [← ep]
        have hr := i_rng a1
        have e1 : (a1 + nI i).toInt = p := by rw [ep, i_nat _ (by omega)]
        have hb : a1.toInt + (nI i).toInt < 2147483648 := by
          by_cases h : a1.toInt + (nI i).toInt < 2147483648
          · exact h
          · exfalso
            rw [Int32.toInt_add, i_nat _ (by omega), Int.bmod_def] at e1
            rw [i_nat _ (by omega)] at h
            split at e1 <;> omega
        exact add64 (by rw [i_nat _ (by omega)]; omega) hb
      have hv : f_X5_at (nI s) (nI p) IC J = some (w p) := by
        have ha2 := shas_s (a1 := nI p) (J := J) hs hz e2
        unfold f_X5_at
        rw [ha2, bd1_s, ite_bI, if_pos (by rw [← ep]; exact ho), if_pos (vin_nI (by omega) (by omega)), if_pos (vin_nI (by omega) (by omega)), cl_nI (by omega), cl_nI (by omega), lay87 s hs, e3 p hp]
      by_cases hk : okT (w p) c
      · have hcl := hk.2
        obtain ⟨r, IC', h1, h2, h3⟩ := ih (put (put IC 3 c (w p)) 2 1 (nI (c + 1))) (c + 1) (came + 1) (by omega) (pE rfl rfl) (by rw [pN (by omega), pN (by omega)]; exact e2) (fun x hx => by rw [pN (by omega), pN (by omega)]; exact e3 x hx)
        refine ⟨r, IC', ?_, fun a j q1 q2 => ?_, fun IM f1 f2 f3 f4 => ?_⟩
        · unfold fLB_X10_times_45 fB_X10_times_91
          rw [if_neg (by rw [le_nn (by omega) (by omega)]; omega), ha, bd1_s, ite_bI, if_pos ho, ep, hv, bd1_s, ctell_y e1 hk, bd2_s, if_neg (by rw [N_0, le_nn (by omega) (by omega)]; omega), nm_s, nm_s, nI_1]
          exact h1
        · rw [h2 a j q1 q2, pN (by omega), pN (by omega)]
        · obtain ⟨IM', c', k1, k2, k3, k4, k5, k6⟩ := h3 (put (put IM 99 (12 + c) (w p)) 99 9 (nI (c + 1))) (pE rfl rfl) (fun x hx => by
            rw [pN (show 3 ≠ 2 ∨ x ≠ 1 by omega), pN (show 99 ≠ 99 ∨ 12 + x ≠ 9 by omega)]
            by_cases hq : x = c
            · subst hq
              rw [pE rfl rfl, pE rfl rfl]
              exact ⟨rfl, okT_pos hk⟩
            · rw [pN (by omega), pN (by omega)]
              exact f2 x (by omega)) (by rw [pN (by omega), pN (by omega)]; exact f3) (fun x hx => by rw [pN (by omega), pN (by omega)]; exact f4 x hx)
          refine ⟨IM', c', ?_, k2, k3, k4, k5, fun a j q => ?_⟩
          · unfold fLB_X11_times_43 fB_X11_times_105
            rw [if_neg (by rw [le_nn (by omega) (by omega)]; omega), nm_s, e64, Int32.toInt32_toInt64]
            simp (disch := omega) only [bd1_s, bd2_s, bd3_s, nm_s, wi_s, ite_bI, bI_1, le_pred, if_true, in_x, cl_nI, vin_nI, nI_add, nI_mul, le_nn, lt_nn, eq_nn, sb, reduceIte, N_0, N_1, N_2, N_3, N_4, N_5, N_6, N_7, N_8, N_9, N_10, N_11, N_12, N_13, N_14, N_16, N_20, N_30, N_31, N_32, N_37, N_40, N_41, N_42, N_43, N_45, N_47, N_48, N_50, N_57, N_59, N_60, N_61, N_62, N_70, N_71, N_72, N_80, N_81, N_82, N_83, N_97, N_98, N_99, N_100, N_101, N_102, N_103, N_104, N_105, N_107, N_108, N_110, N_111, N_112, N_114, N_115, N_116, N_117, N_119, N_121, N_122, N_200, N_220, N_255, N_256, N_257, N_258, N_400, N_438, N_446, N_666, N_999, N_9999, N_10000, N_10010, N_10011, N_10012, N_10013, N_10014, N_10015, N_10016, N_10017, N_10018, N_12345, N_20000, N_20126, N_99999, N_1103515245, L_m999, L_m1, L_0, L_1, L_2, L_3, L_4, L_7, L_8, L_9, L_10, L_12, L_14, L_40, L_48, L_57, L_97, L_99, L_122, L_255, L_400, L_999, L_9999, if_pos, if_neg, pE, pN, cE, cN, f3]
            rw [f4 p hp, mtell_y f1 hk, bd2_s, if_neg (by rw [le_nn (by omega) (by omega)]; omega)]
            exact k1
          · rw [k6 a j q, pN (by omega), pN (by omega)]
      · obtain ⟨r, IC', h1, h2, h3⟩ := ih IC c came hc e1 e2 e3
        refine ⟨r, IC', ?_, h2, fun IM f1 f2 f3 f4 => ?_⟩
        · obtain ⟨rt, rt0, rt1⟩ := ctell_n (J := J) e1 hc hk
          unfold fLB_X10_times_45 fB_X10_times_91
          rw [if_neg (by rw [le_nn (by omega) (by omega)]; omega), ha, bd1_s, ite_bI, if_pos ho, ep, hv, bd1_s, rt1, bd2_s, if_pos rt0, nm_s, nI_1]
          exact h1
        · obtain ⟨IM', c', k1, k2⟩ := h3 IM f1 f2 f3 f4
          refine ⟨IM', c', ?_, k2⟩
          obtain ⟨rt, rt0, rt1⟩ := mtell_n (J := J) f1 hc hk
          unfold fLB_X11_times_43 fB_X11_times_105
          rw [if_neg (by rw [le_nn (by omega) (by omega)]; omega), nm_s, e64, Int32.toInt32_toInt64]
          simp (disch := omega) only [bd1_s, bd2_s, bd3_s, nm_s, wi_s, ite_bI, bI_1, le_pred, if_true, in_x, cl_nI, vin_nI, nI_add, nI_mul, le_nn, lt_nn, eq_nn, sb, reduceIte, N_0, N_1, N_2, N_3, N_4, N_5, N_6, N_7, N_8, N_9, N_10, N_11, N_12, N_13, N_14, N_16, N_20, N_30, N_31, N_32, N_37, N_40, N_41, N_42, N_43, N_45, N_47, N_48, N_50, N_57, N_59, N_60, N_61, N_62, N_70, N_71, N_72, N_80, N_81, N_82, N_83, N_97, N_98, N_99, N_100, N_101, N_102, N_103, N_104, N_105, N_107, N_108, N_110, N_111, N_112, N_114, N_115, N_116, N_117, N_119, N_121, N_122, N_200, N_220, N_255, N_256, N_257, N_258, N_400, N_438, N_446, N_666, N_999, N_9999, N_10000, N_10010, N_10011, N_10012, N_10013, N_10014, N_10015, N_10016, N_10017, N_10018, N_12345, N_20000, N_20126, N_99999, N_1103515245, L_m999, L_m1, L_0, L_1, L_2, L_3, L_4, L_7, L_8, L_9, L_10, L_12, L_14, L_40, L_48, L_57, L_97, L_99, L_122, L_255, L_400, L_999, L_9999, if_pos, if_neg, pE, pN, cE, cN, f3]
          rw [f4 p hp, rt1, bd2_s, if_pos (show rt ≤ nI 0 from rt0), show (nI 0 : Int32) = 0 from rfl, Int32.add_zero]
          exact k1
    · refine ⟨-12, IC, ?_, fun _ _ _ _ => rfl, fun IM f1 f2 f3 f4 => ⟨IM, c, ?_, hc, e1, f1, f2, fun _ _ _ => rfl⟩⟩
      · unfold fLB_X10_times_45
        rw [if_neg (by rw [le_nn (by omega) (by omega)]; omega), ha, bd1_s, ite_bI, if_neg ho]
      · have hin : f_X11_in (a1.toInt64 + (nI i).toInt64) 0 ((nI z - 1).toInt64) = some 0 := by
          by_cases hb : a1.toInt + (nI i).toInt < 2147483648
          · have hr := i_rng a1
            rw [add64 (by rw [i_nat _ (by omega)]; omega) hb, L_0, in_x, N_1, bI_f]
            rw [le_pred _ _ (by omega)]; exact ho
          · have hr := i_rng a1
            refine in_hi ?_
            rw [Int64.lt_iff_toInt_lt, Int64.toInt_add, Int32.toInt_toInt64, Int32.toInt_toInt64, Int32.toInt_toInt64, Int.bmod_def]
            rw [i_nat _ (by omega)] at hb
            rw [i_nat _ (by omega)]
            have e1 : (nI z - 1).toInt = z - 1 := by rw [N_1, i_sub] <;> rw [i_nat _ (by omega), i_nat 1 (by decide)] <;> omega
            rw [e1]
            split <;> omega
        unfold fLB_X11_times_43
        rw [if_neg (by rw [le_nn (by omega) (by omega)]; omega), nm_s, if_pos (vin_nI (by omega) (by omega)), cl_nI (by omega), f3, hin, bd1_s, if_pos rfl]
theorem sim_times {N : Nat} {I : HI} {J : HJ} (hN : N ≤ 1000000) (hR : Rel N I J) (a0 : Int32) (a1 : Int32) (a2 : Int32) : ∃ (r : Int32) (I1 : HI) (I2 : HI), f_X10_times a0 a1 a2 I J = some (r, I1) ∧ f_X11_times a0 a1 a2 I1 J = some (r, I2) ∧ Rel (N + 400) I2 J := by
  have hM := hR.mono (Nat.le_add_right N 400)
  have hS := hR.2.2.2.2.2.1
  by_cases h0 : nI 0 ≤ a0 ∧ a0 < nI 4
  · obtain ⟨n, hn, rfl⟩ := rng2 (by omega) h0
    obtain ⟨z, z0, s1, s2, s3, s4, s5, s6, s7⟩ := hS n hn
    by_cases h2 : nI 0 ≤ a2 ∧ a2 ≤ nI 40
    · obtain ⟨l, hl, rfl⟩ := rng (by omega) h2
      have hso : f_X5_sortOf (nI n) I J = some (I 116 n) := by
        unfold f_X5_sortOf
        rw [isSheet_s, bd1_s, ite_bI, if_pos h0, if_pos (vin_nI hn (by omega)), cl_nI (by omega), s1]
      by_cases hm : I 116 n = -nI 1
      · refine ⟨-11, I, I, ?_, ?_, hM⟩
        · unfold f_X10_times f_X10_refusalOfSort
          rw [isSheet_s, hso]
          simp (disch := omega) only [bd1_s, bd2_s, bd3_s, nm_s, wi_s, ite_bI, bI_1, le_pred, if_true, in_x, cl_nI, vin_nI, nI_add, nI_mul, le_nn, lt_nn, eq_nn, sb, reduceIte, N_0, N_1, N_2, N_3, N_4, N_5, N_6, N_7, N_8, N_9, N_10, N_11, N_12, N_13, N_14, N_16, N_20, N_30, N_31, N_32, N_37, N_40, N_41, N_42, N_43, N_45, N_47, N_48, N_50, N_57, N_59, N_60, N_61, N_62, N_70, N_71, N_72, N_80, N_81, N_82, N_83, N_97, N_98, N_99, N_100, N_101, N_102, N_103, N_104, N_105, N_107, N_108, N_110, N_111, N_112, N_114, N_115, N_116, N_117, N_119, N_121, N_122, N_200, N_220, N_255, N_256, N_257, N_258, N_400, N_438, N_446, N_666, N_999, N_9999, N_10000, N_10010, N_10011, N_10012, N_10013, N_10014, N_10015, N_10016, N_10017, N_10018, N_12345, N_20000, N_20126, N_99999, N_1103515245, L_m999, L_m1, L_0, L_1, L_2, L_3, L_4, L_7, L_8, L_9, L_10, L_12, L_14, L_40, L_48, L_57, L_97, L_99, L_122, L_255, L_400, L_999, L_9999, if_pos, if_neg, pE, pN, cE, cN]
          all_goals rfl
        · unfold f_X11_times f_X11_taking
          rw [isOne_s]
          simp (disch := omega) only [bd1_s, bd2_s, bd3_s, nm_s, wi_s, ite_bI, bI_1, le_pred, if_true, in_x, cl_nI, vin_nI, nI_add, nI_mul, le_nn, lt_nn, eq_nn, sb, reduceIte, N_0, N_1, N_2, N_3, N_4, N_5, N_6, N_7, N_8, N_9, N_10, N_11, N_12, N_13, N_14, N_16, N_20, N_30, N_31, N_32, N_37, N_40, N_41, N_42, N_43, N_45, N_47, N_48, N_50, N_57, N_59, N_60, N_61, N_62, N_70, N_71, N_72, N_80, N_81, N_82, N_83, N_97, N_98, N_99, N_100, N_101, N_102, N_103, N_104, N_105, N_107, N_108, N_110, N_111, N_112, N_114, N_115, N_116, N_117, N_119, N_121, N_122, N_200, N_220, N_255, N_256, N_257, N_258, N_400, N_438, N_446, N_666, N_999, N_9999, N_10000, N_10010, N_10011, N_10012, N_10013, N_10014, N_10015, N_10016, N_10017, N_10018, N_12345, N_20000, N_20126, N_99999, N_1103515245, L_m999, L_m1, L_0, L_1, L_2, L_3, L_4, L_7, L_8, L_9, L_10, L_12, L_14, L_40, L_48, L_57, L_97, L_99, L_122, L_255, L_400, L_999, L_9999, if_pos, if_neg, pE, pN, cE, cN]
          all_goals first | rfl | (rw [if_neg (by rw [hm]; decide)] <;> rfl)
      · have hp : nI 0 ≤ I 116 n := by
          rw [i_le]
          have e : (nI 0).toInt = 0 := by decide
          have e2 : (I 116 n).toInt ≠ -1 := fun q => hm (i_eq.mpr (q.trans (by decide)))
          omega
        by_cases he : I 116 n = nI 1
        · obtain ⟨t1, ⟨c, c0, c1, c2, c3⟩, t3, t4, t5, t6⟩ := hR.1
          obtain ⟨r, IC', g1, g2, g3⟩ := times_l (a1 := a1) (J := J) hn z0 hl l 0 FU FU (by omega) (FU_ge (by omega)) (FU_ge (by omega)) I c (nI 0) c0 c1 s2 (fun x hx => rfl)
          obtain ⟨IM', c', k1, k2, k3, k4, k5, k6⟩ := g3 IC' (by rw [g2 _ _ (by omega) (by omega)]; exact c2) (fun x hx => by rw [g2 _ _ (by omega) (by omega)]; exact c3 x hx) (by rw [g2 _ _ (by omega) (by omega)]; exact s3) (fun x hx => by rw [g2 _ _ (by omega) (by omega), s7 x hx])
          refine ⟨r, IC', IM', ?_, ?_, ?_⟩
          · unfold f_X10_times f_X10_refusalOfSort
            rw [isSheet_s, hso]
            simp (disch := omega) only [bd1_s, bd2_s, bd3_s, nm_s, wi_s, ite_bI, bI_1, le_pred, if_true, in_x, cl_nI, vin_nI, nI_add, nI_mul, le_nn, lt_nn, eq_nn, sb, reduceIte, N_0, N_1, N_2, N_3, N_4, N_5, N_6, N_7, N_8, N_9, N_10, N_11, N_12, N_13, N_14, N_16, N_20, N_30, N_31, N_32, N_37, N_40, N_41, N_42, N_43, N_45, N_47, N_48, N_50, N_57, N_59, N_60, N_61, N_62, N_70, N_71, N_72, N_80, N_81, N_82, N_83, N_97, N_98, N_99, N_100, N_101, N_102, N_103, N_104, N_105, N_107, N_108, N_110, N_111, N_112, N_114, N_115, N_116, N_117, N_119, N_121, N_122, N_200, N_220, N_255, N_256, N_257, N_258, N_400, N_438, N_446, N_666, N_999, N_9999, N_10000, N_10010, N_10011, N_10012, N_10013, N_10014, N_10015, N_10016, N_10017, N_10018, N_12345, N_20000, N_20126, N_99999, N_1103515245, L_m999, L_m1, L_0, L_1, L_2, L_3, L_4, L_7, L_8, L_9, L_10, L_12, L_14, L_40, L_48, L_57, L_97, L_99, L_122, L_255, L_400, L_999, L_9999, if_pos, if_neg, pE, pN, cE, cN]
            exact g1
          · have e1 : IC' 116 n = I 116 n := g2 _ _ (by omega) (by omega)
            unfold f_X11_times f_X11_taking
            rw [isOne_s]
            simp (disch := omega) only [bd1_s, bd2_s, bd3_s, nm_s, wi_s, ite_bI, bI_1, le_pred, if_true, in_x, cl_nI, vin_nI, nI_add, nI_mul, le_nn, lt_nn, eq_nn, sb, reduceIte, N_0, N_1, N_2, N_3, N_4, N_5, N_6, N_7, N_8, N_9, N_10, N_11, N_12, N_13, N_14, N_16, N_20, N_30, N_31, N_32, N_37, N_40, N_41, N_42, N_43, N_45, N_47, N_48, N_50, N_57, N_59, N_60, N_61, N_62, N_70, N_71, N_72, N_80, N_81, N_82, N_83, N_97, N_98, N_99, N_100, N_101, N_102, N_103, N_104, N_105, N_107, N_108, N_110, N_111, N_112, N_114, N_115, N_116, N_117, N_119, N_121, N_122, N_200, N_220, N_255, N_256, N_257, N_258, N_400, N_438, N_446, N_666, N_999, N_9999, N_10000, N_10010, N_10011, N_10012, N_10013, N_10014, N_10015, N_10016, N_10017, N_10018, N_12345, N_20000, N_20126, N_99999, N_1103515245, L_m999, L_m1, L_0, L_1, L_2, L_3, L_4, L_7, L_8, L_9, L_10, L_12, L_14, L_40, L_48, L_57, L_97, L_99, L_122, L_255, L_400, L_999, L_9999, if_pos, if_neg, pE, pN, cE, cN, e1]
            exact k1
          · have e : ∀ a j, ¬ (a = 99 ∧ (j = 9 ∨ (12 ≤ j ∧ j < 72))) → ¬ (a = 2 ∧ j = 1) → a ≠ 3 → IM' a j = I a j := fun a j h1 h2 h3 => by rw [k6 a j h1, g2 a j h2 h3]
            refine hR.tap (by omega) ⟨fun j hj => ?_, ⟨c', k2, ?_, k4, fun i hi => ?_⟩, ?_, ?_, ?_, ?_⟩ (fun a j h1 h2 => e _ _ (by omega) (by omega) (by omega)) (fun a _ _ _ _ _ => rfl)
            · rw [e _ _ (by omega) (by omega) (by omega), e _ _ (by omega) (by omega) (by omega)]; exact t1 j hj
            · rw [k6 _ _ (by omega)]; exact k3
            · rw [k6 3 _ (by omega)]; exact k5 i hi
            · rw [e _ _ (by omega) (by omega) (by omega)]; exact t3
            · rw [e _ _ (by omega) (by omega) (by omega)]; exact t4
            · rw [e _ _ (by omega) (by omega) (by omega)]; exact ⟨t5.1, by have := t5.2; omega⟩
            · rw [e _ _ (by omega) (by omega) (by omega)]; exact t6
        · refine ⟨-13, I, I, ?_, ?_, hM⟩
          · unfold f_X10_times f_X10_refusalOfSort
            rw [isSheet_s, hso]
            simp (disch := omega) only [bd1_s, bd2_s, bd3_s, nm_s, wi_s, ite_bI, bI_1, le_pred, if_true, in_x, cl_nI, vin_nI, nI_add, nI_mul, le_nn, lt_nn, eq_nn, sb, reduceIte, N_0, N_1, N_2, N_3, N_4, N_5, N_6, N_7, N_8, N_9, N_10, N_11, N_12, N_13, N_14, N_16, N_20, N_30, N_31, N_32, N_37, N_40, N_41, N_42, N_43, N_45, N_47, N_48, N_50, N_57, N_59, N_60, N_61, N_62, N_70, N_71, N_72, N_80, N_81, N_82, N_83, N_97, N_98, N_99, N_100, N_101, N_102, N_103, N_104, N_105, N_107, N_108, N_110, N_111, N_112, N_114, N_115, N_116, N_117, N_119, N_121, N_122, N_200, N_220, N_255, N_256, N_257, N_258, N_400, N_438, N_446, N_666, N_999, N_9999, N_10000, N_10010, N_10011, N_10012, N_10013, N_10014, N_10015, N_10016, N_10017, N_10018, N_12345, N_20000, N_20126, N_99999, N_1103515245, L_m999, L_m1, L_0, L_1, L_2, L_3, L_4, L_7, L_8, L_9, L_10, L_12, L_14, L_40, L_48, L_57, L_97, L_99, L_122, L_255, L_400, L_999, L_9999, if_pos, if_neg, pE, pN, cE, cN]
            all_goals rfl
          · unfold f_X11_times f_X11_taking
            rw [isOne_s]
            simp (disch := omega) only [bd1_s, bd2_s, bd3_s, nm_s, wi_s, ite_bI, bI_1, le_pred, if_true, in_x, cl_nI, vin_nI, nI_add, nI_mul, le_nn, lt_nn, eq_nn, sb, reduceIte, N_0, N_1, N_2, N_3, N_4, N_5, N_6, N_7, N_8, N_9, N_10, N_11, N_12, N_13, N_14, N_16, N_20, N_30, N_31, N_32, N_37, N_40, N_41, N_42, N_43, N_45, N_47, N_48, N_50, N_57, N_59, N_60, N_61, N_62, N_70, N_71, N_72, N_80, N_81, N_82, N_83, N_97, N_98, N_99, N_100, N_101, N_102, N_103, N_104, N_105, N_107, N_108, N_110, N_111, N_112, N_114, N_115, N_116, N_117, N_119, N_121, N_122, N_200, N_220, N_255, N_256, N_257, N_258, N_400, N_438, N_446, N_666, N_999, N_9999, N_10000, N_10010, N_10011, N_10012, N_10013, N_10014, N_10015, N_10016, N_10017, N_10018, N_12345, N_20000, N_20126, N_99999, N_1103515245, L_m999, L_m1, L_0, L_1, L_2, L_3, L_4, L_7, L_8, L_9, L_10, L_12, L_14, L_40, L_48, L_57, L_97, L_99, L_122, L_255, L_400, L_999, L_9999, if_pos, if_neg, pE, pN, cE, cN]
            all_goals rfl
    · refine ⟨-1, I, I, ?_, ?_, hM⟩
      · unfold f_X10_times
        rw [isSheet_s]
        simp (disch := omega) only [bd1_s, bd2_s, bd3_s, nm_s, wi_s, ite_bI, bI_1, le_pred, if_true, in_x, cl_nI, vin_nI, nI_add, nI_mul, le_nn, lt_nn, eq_nn, sb, reduceIte, N_0, N_1, N_2, N_3, N_4, N_5, N_6, N_7, N_8, N_9, N_10, N_11, N_12, N_13, N_14, N_16, N_20, N_30, N_31, N_32, N_37, N_40, N_41, N_42, N_43, N_45, N_47, N_48, N_50, N_57, N_59, N_60, N_61, N_62, N_70, N_71, N_72, N_80, N_81, N_82, N_83, N_97, N_98, N_99, N_100, N_101, N_102, N_103, N_104, N_105, N_107, N_108, N_110, N_111, N_112, N_114, N_115, N_116, N_117, N_119, N_121, N_122, N_200, N_220, N_255, N_256, N_257, N_258, N_400, N_438, N_446, N_666, N_999, N_9999, N_10000, N_10010, N_10011, N_10012, N_10013, N_10014, N_10015, N_10016, N_10017, N_10018, N_12345, N_20000, N_20126, N_99999, N_1103515245, L_m999, L_m1, L_0, L_1, L_2, L_3, L_4, L_7, L_8, L_9, L_10, L_12, L_14, L_40, L_48, L_57, L_97, L_99, L_122, L_255, L_400, L_999, L_9999, if_pos, if_neg, pE, pN, cE, cN]
        all_goals rfl
      · unfold f_X11_times
        rw [isOne_s]
        simp (disch := omega) only [bd1_s, bd2_s, bd3_s, nm_s, wi_s, ite_bI, bI_1, le_pred, if_true, in_x, cl_nI, vin_nI, nI_add, nI_mul, le_nn, lt_nn, eq_nn, sb, reduceIte, N_0, N_1, N_2, N_3, N_4, N_5, N_6, N_7, N_8, N_9, N_10, N_11, N_12, N_13, N_14, N_16, N_20, N_30, N_31, N_32, N_37, N_40, N_41, N_42, N_43, N_45, N_47, N_48, N_50, N_57, N_59, N_60, N_61, N_62, N_70, N_71, N_72, N_80, N_81, N_82, N_83, N_97, N_98, N_99, N_100, N_101, N_102, N_103, N_104, N_105, N_107, N_108, N_110, N_111, N_112, N_114, N_115, N_116, N_117, N_119, N_121, N_122, N_200, N_220, N_255, N_256, N_257, N_258, N_400, N_438, N_446, N_666, N_999, N_9999, N_10000, N_10010, N_10011, N_10012, N_10013, N_10014, N_10015, N_10016, N_10017, N_10018, N_12345, N_20000, N_20126, N_99999, N_1103515245, L_m999, L_m1, L_0, L_1, L_2, L_3, L_4, L_7, L_8, L_9, L_10, L_12, L_14, L_40, L_48, L_57, L_97, L_99, L_122, L_255, L_400, L_999, L_9999, if_pos, if_neg, pE, pN, cE, cN]
        all_goals rfl
  · refine ⟨-1, I, I, ?_, ?_, hM⟩
    · unfold f_X10_times
      rw [isSheet_s, bd1_s, ite_bI, if_neg h0]
    · unfold f_X11_times
      rw [isOne_s, bd1_s, ite_bI, if_neg h0]

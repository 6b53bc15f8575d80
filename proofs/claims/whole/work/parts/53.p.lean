theorem dv (a b : Nat) (ha : a < 2147483648) (hb : b < 2147483648) (h0 : 0 < b) : nI a / nI b = nI (a / b) := by
  have hd : a / b ≤ a := Nat.div_le_self a b
  rw [i_eq, i_nat _ (by omega), Int32.toInt_div_of_ne_right _ _ (fun e => by
    have := i_eq.mp e
    rw [i_nat _ hb] at this
    have e1 : (-1 : Int32).toInt = -1 := by decide
    omega), i_nat _ ha, i_nat _ hb]
  exact Int.ofNat_tdiv a b |>.symm
/-- the look: c times v -/
def Look (I : HI) (c : Nat) (v : Nat → Int32) : Prop := c ≤ 60 ∧ I 98 27 = nI c ∧ ∀ i, i < c → I 114 i = v i
theorem looks_s {c : Nat} {I : HI} {J : HJ} (hc : c ≤ 60) (h : I 99 9 = nI c) : ∃ I1, f_X11_looks I J = some I1 ∧ Look I1 c (fun i => I 99 (12 + i)) ∧ ∀ a j, a ≠ 114 → ¬ (a = 98 ∧ j = 27) → I1 a j = I a j := by
  have key : ∀ d i f, i + d = c → d < f → ∀ I : HI, I 98 27 = nI c → ∃ I1, fL_X11_looks_13 f (nI i) I J = some I1 ∧ (∀ x, i ≤ x → x < c → I1 114 x = I 99 (12 + x)) ∧ ∀ a j, ¬ (a = 114 ∧ i ≤ j) → I1 a j = I a j := by
    refine fuel (L := fL_X11_looks_13) (B := fLB_X11_looks_13) (fun _ => rfl) (P := fun i g => ∀ I : HI, I 98 27 = nI c → ∃ I1, g (nI i) I J = some I1 ∧ (∀ x, i ≤ x → x < c → I1 114 x = I 99 (12 + x)) ∧ ∀ a j, ¬ (a = 114 ∧ i ≤ j) → I1 a j = I a j) (fun g I h => ?_) (fun i g hi ih I h => ?_)
    · refine ⟨I, ?_, fun x h1 h2 => by omega, fun a j _ => rfl⟩
      unfold fLB_X11_looks_13
      rw [h, if_pos (by rw [le_nn (by omega) (by omega)]; omega)]
    · obtain ⟨I1, h1, h2, h3⟩ := ih (put I 114 i (I 99 (12 + i))) (by rw [put_ap, if_neg (by omega)]; exact h)
      refine ⟨I1, ?_, fun x hx1 hx2 => ?_, fun a j hj => ?_⟩
      · unfold fLB_X11_looks_13
        simp (disch := omega) only [bd1_s, bd2_s, bd3_s, nm_s, wi_s, ite_bI, bI_1, le_pred, if_true, in_x, cl_nI, vin_nI, nI_add, nI_mul, le_nn, lt_nn, eq_nn, sb, reduceIte, N_0, N_1, N_2, N_3, N_4, N_5, N_6, N_7, N_8, N_9, N_10, N_11, N_12, N_13, N_14, N_16, N_20, N_30, N_31, N_32, N_37, N_40, N_41, N_42, N_43, N_45, N_47, N_48, N_50, N_57, N_59, N_60, N_61, N_62, N_70, N_71, N_72, N_80, N_81, N_82, N_83, N_97, N_98, N_99, N_100, N_101, N_102, N_103, N_104, N_105, N_107, N_108, N_110, N_111, N_112, N_114, N_115, N_116, N_117, N_119, N_121, N_122, N_200, N_220, N_255, N_256, N_257, N_258, N_400, N_438, N_446, N_666, N_999, N_9999, N_10000, N_10010, N_10011, N_10012, N_10013, N_10014, N_10015, N_10016, N_10017, N_10018, N_12345, N_20000, N_20126, N_99999, N_1103515245, L_m999, L_m1, L_0, L_1, L_2, L_3, L_4, L_7, L_8, L_9, L_10, L_12, L_14, L_40, L_48, L_57, L_97, L_99, L_122, L_255, L_400, L_999, L_9999, h]
        rw [if_neg (by omega)]
        exact h1
      · by_cases e : x = i
        · subst e
          rw [h3 _ _ (by omega), put_ap, if_pos ⟨rfl, rfl⟩]
        · rw [h2 x (by omega) hx2, put_ap, if_neg (by omega)]
      · rw [h3 a j (by omega), put_ap, if_neg (by omega)]
  obtain ⟨I1, h1, h2, h3⟩ := key c 0 FU (by omega) (FU_ge (by omega)) (put I 98 27 (nI c)) (by rw [put_ap, if_pos ⟨rfl, rfl⟩])
  refine ⟨I1, ?_, ⟨hc, ?_, fun i hi => ?_⟩, fun a j ha hb => ?_⟩
  · unfold f_X11_looks
    simp (disch := omega) only [bd1_s, bd2_s, bd3_s, nm_s, wi_s, ite_bI, bI_1, le_pred, if_true, in_x, cl_nI, vin_nI, nI_add, nI_mul, le_nn, lt_nn, eq_nn, sb, reduceIte, N_0, N_1, N_2, N_3, N_4, N_5, N_6, N_7, N_8, N_9, N_10, N_11, N_12, N_13, N_14, N_16, N_20, N_30, N_31, N_32, N_37, N_40, N_41, N_42, N_43, N_45, N_47, N_48, N_50, N_57, N_59, N_60, N_61, N_62, N_70, N_71, N_72, N_80, N_81, N_82, N_83, N_97, N_98, N_99, N_100, N_101, N_102, N_103, N_104, N_105, N_107, N_108, N_110, N_111, N_112, N_114, N_115, N_116, N_117, N_119, N_121, N_122, N_200, N_220, N_255, N_256, N_257, N_258, N_400, N_438, N_446, N_666, N_999, N_9999, N_10000, N_10010, N_10011, N_10012, N_10013, N_10014, N_10015, N_10016, N_10017, N_10018, N_12345, N_20000, N_20126, N_99999, N_1103515245, L_m999, L_m1, L_0, L_1, L_2, L_3, L_4, L_7, L_8, L_9, L_10, L_12, L_14, L_40, L_48, L_57, L_97, L_99, L_122, L_255, L_400, L_999, L_9999, h]
    exact h1
  · rw [h3 _ _ (by omega), put_ap, if_pos ⟨rfl, rfl⟩]
  · rw [h2 i (by omega) hi, put_ap, if_neg (by omega)]
  · rw [h3 _ _ (by omega), put_ap, if_neg hb]
def Prd (v : Nat → Int32) (c p : Nat) : Prop := ∀ j, c / 2 + p ≤ j → j < c → v j = v (j - p)
theorem cab_s {k c p : Nat} {I : HI} {J : HJ} (hk : oK k = 8) (hc : c ≤ 60) (h : I k 1 = nI c) (hp : p ≤ c - c / 2) : ∃ r, f_X9_comesAgainBy k (nI p) (nI (c / 2)) I J = some r ∧ ((r = 1 ∧ Prd (I (k + 1)) c p) ∨ (r = 0 ∧ ¬ Prd (I (k + 1)) c p)) := by
  have key : ∀ d i f, i + d = c → d < f → c / 2 + p ≤ i → ∃ r, fL_X9_comesAgainBy_4 k (nI p) (nI (c / 2)) f (nI i) I J = some r ∧ ((r = 1 ∧ ∀ j, i ≤ j → j < c → I (k + 1) j = I (k + 1) (j - p)) ∨ (r = 0 ∧ ∃ j, i ≤ j ∧ j < c ∧ I (k + 1) j ≠ I (k + 1) (j - p))) := by
    refine fuel (L := fL_X9_comesAgainBy_4 k (nI p) (nI (c / 2))) (B := fLB_X9_comesAgainBy_4 k (nI p) (nI (c / 2))) (fun _ => rfl) (P := fun i g => c / 2 + p ≤ i → ∃ r, g (nI i) I J = some r ∧ ((r = 1 ∧ ∀ j, i ≤ j → j < c → I (k + 1) j = I (k + 1) (j - p)) ∨ (r = 0 ∧ ∃ j, i ≤ j ∧ j < c ∧ I (k + 1) j ≠ I (k + 1) (j - p)))) (fun g hg => ?_) (fun i g hi ih hg => ?_)
    · refine ⟨1, ?_, Or.inl ⟨rfl, fun j h1 h2 => by omega⟩⟩
      unfold fLB_X9_comesAgainBy_4
      rw [h, if_pos (by rw [le_nn (by omega) (by omega)]; omega)]
    · by_cases e : I (k + 1) i = I (k + 1) (i - p)
      · obtain ⟨r, h1, h2⟩ := ih (by omega)
        refine ⟨r, ?_, ?_⟩
        · unfold fLB_X9_comesAgainBy_4
          rw [h, if_neg (by rw [le_nn (by omega) (by omega)]; omega), at_s hk hc h hi, bd1_s, sb _ _ (by omega), at_s hk hc h (show i - p < c by omega), bd1_s, if_pos e, nm_s, nI_1]
          exact h1
        · rcases h2 with ⟨q1, q2⟩ | ⟨q1, j, q2, q3, q4⟩
          · refine Or.inl ⟨q1, fun j h1 h2 => ?_⟩
            by_cases ej : j = i
            · rw [ej]; exact e
            · exact q2 j (by omega) h2
          · exact Or.inr ⟨q1, j, by omega, q3, q4⟩
      · refine ⟨0, ?_, Or.inr ⟨rfl, i, by omega, hi, e⟩⟩
        unfold fLB_X9_comesAgainBy_4
        rw [h, if_neg (by rw [le_nn (by omega) (by omega)]; omega), at_s hk hc h hi, bd1_s, sb _ _ (by omega), at_s hk hc h (show i - p < c by omega), bd1_s, if_neg e]
  obtain ⟨r, h1, h2⟩ := key (c - (c / 2 + p)) (c / 2 + p) FU (by omega) (FU_ge (by omega)) (Nat.le_refl _)
  refine ⟨r, ?_, ?_⟩
  · unfold f_X9_comesAgainBy
    rw [nI_add, nm_s]
    exact h1
  · rcases h2 with ⟨q1, q2⟩ | ⟨q1, j, q2, q3, q4⟩
    · exact Or.inl ⟨q1, q2⟩
    · exact Or.inr ⟨q1, fun q => q4 (q j q2 q3)⟩
theorem mcb_s {c p : Nat} {v : Nat → Int32} {I : HI} {J : HJ} (h : Look I c v) (hp : p ≤ c - c / 2) : ∃ r, f_X11_comesBy (nI p) I J = some r ∧ ((r = 1 ∧ Prd v c p) ∨ (r = 0 ∧ ¬ Prd v c p)) := by
  obtain ⟨hc, hl, hv⟩ := h
  have key : ∀ d i f, i + d = c → d < f → c / 2 + p ≤ i → ∀ x : Int32, (x = 1 ∨ x = 0) → ∃ r, fL_X11_comesBy_11 (nI p) f x (nI i) I J = some r ∧ ((r = 1 ∧ x = 1 ∧ ∀ j, i ≤ j → j < c → v j = v (j - p)) ∨ (r = 0 ∧ (x = 0 ∨ ∃ j, i ≤ j ∧ j < c ∧ v j ≠ v (j - p)))) := by
    refine fuel (L := fL_X11_comesBy_11 (nI p)) (B := fLB_X11_comesBy_11 (nI p)) (fun _ => rfl) (P := fun i g => c / 2 + p ≤ i → ∀ x : Int32, (x = 1 ∨ x = 0) → ∃ r, g x (nI i) I J = some r ∧ ((r = 1 ∧ x = 1 ∧ ∀ j, i ≤ j → j < c → v j = v (j - p)) ∨ (r = 0 ∧ (x = 0 ∨ ∃ j, i ≤ j ∧ j < c ∧ v j ≠ v (j - p))))) (fun g hg x hx => ?_) (fun i g hi ih hg x hx => ?_)
    · refine ⟨x, ?_, ?_⟩
      · unfold fLB_X11_comesBy_11
        rw [hl, if_pos (by rw [le_nn (by omega) (by omega)]; omega), if_pos (by rcases hx with rfl | rfl <;> rfl)]
      · rcases hx with rfl | rfl
        · exact Or.inl ⟨rfl, rfl, fun j h1 h2 => by omega⟩
        · exact Or.inr ⟨rfl, Or.inl rfl⟩
    · rcases hx with rfl | rfl
      · by_cases e : v i = v (i - p)
        · obtain ⟨r, h1, h2⟩ := ih (by omega) 1 (Or.inl rfl)
          refine ⟨r, ?_, ?_⟩
          · unfold fLB_X11_comesBy_11 fB_X11_comesBy_45
            rw [hl, if_neg (by rw [le_nn (by omega) (by omega)]; omega), if_neg (by decide), if_pos (vin_nI (by omega) (by omega)), sb _ _ (by omega), if_pos (vin_nI (by omega) (by omega)), cl_nI (by omega), cl_nI (by omega), hv i hi, hv (i - p) (by omega), if_pos e, nm_s, nI_1]
            exact h1
          · rcases h2 with ⟨q1, q2, q3⟩ | ⟨q1, q2⟩
            · refine Or.inl ⟨q1, rfl, fun j h1 h2 => ?_⟩
              by_cases ej : j = i
              · rw [ej]; exact e
              · exact q3 j (by omega) h2
            · rcases q2 with q2 | ⟨j, q3, q4, q5⟩
              · exact absurd q2 (by decide)
              · exact Or.inr ⟨q1, Or.inr ⟨j, by omega, q4, q5⟩⟩
        · obtain ⟨r, h1, h2⟩ := ih (by omega) 0 (Or.inr rfl)
          refine ⟨r, ?_, Or.inr ⟨?_, Or.inr ⟨i, by omega, hi, e⟩⟩⟩
          · unfold fLB_X11_comesBy_11 fB_X11_comesBy_44 fB_X11_comesBy_45
            rw [hl, if_neg (by rw [le_nn (by omega) (by omega)]; omega), if_neg (by decide), if_pos (vin_nI (by omega) (by omega)), sb _ _ (by omega), if_pos (vin_nI (by omega) (by omega)), cl_nI (by omega), cl_nI (by omega), hv i hi, hv (i - p) (by omega), if_neg e, nm_s, nI_1]
            exact h1
          · rcases h2 with ⟨q1, q2, q3⟩ | ⟨q1, q2⟩
            · exact absurd q2 (by decide)
            · exact q1
      · obtain ⟨r, h1, h2⟩ := ih (by omega) 0 (Or.inr rfl)
        refine ⟨r, ?_, ?_⟩
        · unfold fLB_X11_comesBy_11 fB_X11_comesBy_44 fB_X11_comesBy_45
          rw [hl, if_neg (by rw [le_nn (by omega) (by omega)]; omega), if_pos rfl, nm_s, nI_1]
          exact h1
        · rcases h2 with ⟨q1, q2, q3⟩ | ⟨q1, q2⟩
          · exact absurd q2 (by decide)
          · exact Or.inr ⟨q1, Or.inl rfl⟩
  obtain ⟨r, h1, h2⟩ := key (c - (c / 2 + p)) (c / 2 + p) FU (by omega) (FU_ge (by omega)) (Nat.le_refl _) 1 (Or.inl rfl)
  refine ⟨r, ?_, ?_⟩
  · unfold f_X11_comesBy
    rw [hl, N_2, dv _ _ (by omega) (by omega) (by omega), nI_add, nm_s]
    exact h1
  · rcases h2 with ⟨q1, _, q2⟩ | ⟨q1, q2⟩
    · exact Or.inl ⟨q1, q2⟩
    · rcases q2 with q2 | ⟨j, q3, q4, q5⟩
      · exact absurd q2 (by decide)
      · exact Or.inr ⟨q1, fun q => q5 (q j q3 q4)⟩

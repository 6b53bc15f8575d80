/-! the same of the other tap -/
def HM (I : HI) (y : Nat → Int32) : Prop := ∀ j, j < 9 → I 106 j = y j
theorem HM.pt {i : Nat} {I : HI} {y : Nat → Int32} {v : Int32} (h : HM I y) : HM (put I 106 i v) (ud y i v) := fun j hj => by
  by_cases e : j = i
  · rw [e, pE rfl rfl, ud_e]
  · rw [pN (by omega), ud_n e]; exact h j hj
theorem HM.of {I I2 : HI} {y : Nat → Int32} (h : HM I y) (e : I2 106 = I 106) : HM I2 y := fun j hj => by
  rw [e]; exact h j hj
def LwM (I : HI) (P : Pg) : Prop := ∀ q, q < 4 → (P q).1 ≤ 200 ∧ hgt (P q).2 (P q).1 0 1 ∧ ∃ fr, fr + (P q).1 ≤ 220 ∧ I 99 (438 + 2 * q) = nI fr ∧ I 99 (439 + 2 * q) = nI (fr + (P q).1) ∧ ∀ i, i < (P q).1 → I 99 (446 + fr + i) = trC ((P q).2 i)
theorem LwM.of {I I2 : HI} {P : Pg} (h : LwM I P) (e : I2 99 = I 99) : LwM I2 P := fun q hq => by
  rw [e]; exact h q hq
theorem mw_s {q : Nat} {P : Pg} {x : Nat → Int32} {I : HI} {J : HJ} (hP : LwM I P) (hq : q < 4) (hS : HM I x) : ∃ I1, f_X11_worth (nI q) I J = some (ev P q x, I1) ∧ ∀ b, b ≠ 109 → I1 b = I b := by
  obtain ⟨p1, p2, fr, p3, p4, p5, p6⟩ := hP q hq
  exact mworth_s hq p1 p3 p2 I p4 p5 p6 (fun j hj => hS j (by omega))
def RwM (I : HI) (c : Nat) (u w : Nat → Int32) : Prop := c ≤ 60 ∧ I 98 11 = nI c ∧ ∀ i, i < c → I 107 i = u i ∧ I 108 i = w i
theorem RwM.of {I I2 : HI} {c : Nat} {u w : Nat → Int32} (h : RwM I c u w) (e1 : I2 98 11 = I 98 11) (e2 : I2 107 = I 107) (e3 : I2 108 = I 108) : RwM I2 c u w := ⟨h.1, by rw [e1]; exact h.2.1, fun i hi => by rw [e2, e3]; exact h.2.2 i hi⟩
theorem mdr_s {I : HI} {J : HJ} {y : Nat → Int32} {l : Int32} (h : HM I y) : ∃ I1, fB_X11_drops_67 l I J = some (I1, putJ J 98 13 (J 98 13 + (y 0 - l).toInt64)) ∧ HM I1 (tdr y l) ∧ ∀ a, a ≠ 106 → I1 a = I a := by
  have e0 : I 106 0 = y 0 := h 0 (by omega)
  have e1 : I 106 1 = y 1 := h 1 (by omega)
  have e2 : I 106 2 = y 2 := h 2 (by omega)
  have e5 : I 106 5 = y 5 := h 5 (by omega)
  have z : ∀ v : Int32, nI 0 - v = -v := fun v => Int32.zero_sub v
  refine ⟨put (put (put (put (put I 106 0 l) 106 1 (-(y 1 / nI 2))) 106 2 (-(y 2 / nI 2))) 106 4 (nI 0)) 106 5 (y 5 + nI 1), ?_, (((h.pt (i := 0)).pt (i := 1)).pt (i := 2)).pt (i := 4) |>.pt (i := 5), fun a ha => by rw [put_ne a ha, put_ne a ha, put_ne a ha, put_ne a ha, put_ne a ha]⟩
  unfold fB_X11_drops_67
  simp (disch := omega) only [bd1_s, bd2_s, bd3_s, nm_s, wi_s, ite_bI, bI_1, le_pred, if_true, in_x, cl_nI, vin_nI, nI_add, nI_mul, le_nn, lt_nn, eq_nn, sb, reduceIte, N_0, N_1, N_2, N_3, N_4, N_5, N_6, N_7, N_8, N_9, N_10, N_11, N_12, N_13, N_14, N_16, N_20, N_30, N_31, N_32, N_37, N_40, N_41, N_42, N_43, N_45, N_47, N_48, N_50, N_57, N_59, N_60, N_61, N_62, N_70, N_71, N_72, N_80, N_81, N_82, N_83, N_97, N_98, N_99, N_100, N_101, N_102, N_103, N_104, N_105, N_107, N_108, N_110, N_111, N_112, N_114, N_115, N_116, N_117, N_119, N_121, N_122, N_200, N_220, N_255, N_256, N_257, N_258, N_400, N_438, N_446, N_666, N_999, N_9999, N_10000, N_10010, N_10011, N_10012, N_10013, N_10014, N_10015, N_10016, N_10017, N_10018, N_12345, N_20000, N_20126, N_99999, N_1103515245, L_m999, L_m1, L_0, L_1, L_2, L_3, L_4, L_7, L_8, L_9, L_10, L_12, L_14, L_40, L_48, L_57, L_97, L_99, L_122, L_255, L_400, L_999, L_9999, if_pos, if_neg, pE, pN, cE, cN, e0, e1, e2, e5, z]
theorem mdrops_s {c : Nat} {P : Pg} {y u w : Nat → Int32} {I : HI} {J : HJ} (hP : LwM I P) (hS : HM I y) (hr : RwM I c u w) (hg : goY P y) : ∃ I1, f_X11_drops I J = some (I1, putJ J 98 13 (J 98 13 + (y 0 - leY P y).toInt64)) ∧ HM I1 (tdr y (leY P y)) ∧ RwM I1 (nC P y c) (nU P y c u) (nW P y c w) ∧ ∀ a j, a ≠ 106 → a ≠ 107 → a ≠ 108 → a ≠ 109 → ¬ (a = 98 ∧ j = 11) → I1 a j = I a j := by
  obtain ⟨Ia, a1, a2⟩ := mw_s (J := J) hP (show 3 < 4 by omega) hS
  have sA : HM Ia y := hS.of (a2 _ (by omega))
  obtain ⟨r1, r2, r3⟩ := hr.of (congrFun (a2 98 (by omega)) 11) (a2 _ (by omega)) (a2 _ (by omega))
  have e0 : Ia 106 0 = y 0 := sA 0 (by omega)
  have e4 : Ia 106 4 = y 4 := sA 4 (by omega)
  by_cases hc : c < 60
  · obtain ⟨Ib, hIb⟩ : ∃ Ib, Ib = put (put (put Ia 107 c (y 4)) 108 c (y 0 - leY P y)) 98 11 (nI (c + 1)) := ⟨_, rfl⟩
    have sB : HM Ib y := sA.of (by rw [hIb, put_ne _ (by omega), put_ne _ (by omega), put_ne _ (by omega)])
    obtain ⟨Id, d1, d2, d3⟩ := mdr_s (J := J) (l := leY P y) sB
    refine ⟨Id, ?_, d2, ⟨by unfold nC; split <;> omega, ?_, ?_⟩, fun a j q1 q2 q3 q4 q5 => ?_⟩
    · unfold f_X11_drops
      rw [N_3, a1, bd2_s]
      simp (disch := omega) only [bd1_s, bd2_s, bd3_s, nm_s, wi_s, ite_bI, bI_1, le_pred, if_true, in_x, cl_nI, vin_nI, nI_add, nI_mul, le_nn, lt_nn, eq_nn, sb, reduceIte, N_0, N_1, N_2, N_3, N_4, N_5, N_6, N_7, N_8, N_9, N_10, N_11, N_12, N_13, N_14, N_16, N_20, N_30, N_31, N_32, N_37, N_40, N_41, N_42, N_43, N_45, N_47, N_48, N_50, N_57, N_59, N_60, N_61, N_62, N_70, N_71, N_72, N_80, N_81, N_82, N_83, N_97, N_98, N_99, N_100, N_101, N_102, N_103, N_104, N_105, N_107, N_108, N_110, N_111, N_112, N_114, N_115, N_116, N_117, N_119, N_121, N_122, N_200, N_220, N_255, N_256, N_257, N_258, N_400, N_438, N_446, N_666, N_999, N_9999, N_10000, N_10010, N_10011, N_10012, N_10013, N_10014, N_10015, N_10016, N_10017, N_10018, N_12345, N_20000, N_20126, N_99999, N_1103515245, L_m999, L_m1, L_0, L_1, L_2, L_3, L_4, L_7, L_8, L_9, L_10, L_12, L_14, L_40, L_48, L_57, L_97, L_99, L_122, L_255, L_400, L_999, L_9999, if_pos, if_neg, pE, pN, cE, cN, r2, e0, e4, mheld_s]
      rw [show hld (ev P 3 y) (nI 0) (y 0) = leY P y from rfl, ← hIb]
      exact d1
    · unfold nC
      rw [if_pos ⟨hg, hc⟩, d3 _ (by omega), hIb, pE rfl rfl]
    · unfold nC nU nW
      rw [if_pos ⟨hg, hc⟩, if_pos ⟨hg, hc⟩, if_pos ⟨hg, hc⟩, d3 _ (by omega), d3 _ (by omega), hIb]
      intro i hi
      by_cases e : i = c
      · rw [e, ud_e, ud_e, pN (by omega), pN (by omega), pE rfl rfl, pN (by omega), pE rfl rfl]
        exact ⟨rfl, rfl⟩
      · rw [ud_n e, ud_n e, pN (by omega), pN (by omega), pN (by omega), pN (by omega), pN (by omega), pN (by omega)]
        exact r3 i (by omega)
    · rw [d3 a q1, hIb, pN (by omega), pN (by omega), pN (by omega), a2 a q4]
  · obtain ⟨Id, d1, d2, d3⟩ := mdr_s (J := J) (l := leY P y) sA
    refine ⟨Id, ?_, d2, ⟨by unfold nC; split <;> omega, ?_, ?_⟩, fun a j q1 q2 q3 q4 q5 => ?_⟩
    · unfold f_X11_drops
      rw [N_3, a1, bd2_s]
      simp (disch := omega) only [bd1_s, bd2_s, bd3_s, nm_s, wi_s, ite_bI, bI_1, le_pred, if_true, in_x, cl_nI, vin_nI, nI_add, nI_mul, le_nn, lt_nn, eq_nn, sb, reduceIte, N_0, N_1, N_2, N_3, N_4, N_5, N_6, N_7, N_8, N_9, N_10, N_11, N_12, N_13, N_14, N_16, N_20, N_30, N_31, N_32, N_37, N_40, N_41, N_42, N_43, N_45, N_47, N_48, N_50, N_57, N_59, N_60, N_61, N_62, N_70, N_71, N_72, N_80, N_81, N_82, N_83, N_97, N_98, N_99, N_100, N_101, N_102, N_103, N_104, N_105, N_107, N_108, N_110, N_111, N_112, N_114, N_115, N_116, N_117, N_119, N_121, N_122, N_200, N_220, N_255, N_256, N_257, N_258, N_400, N_438, N_446, N_666, N_999, N_9999, N_10000, N_10010, N_10011, N_10012, N_10013, N_10014, N_10015, N_10016, N_10017, N_10018, N_12345, N_20000, N_20126, N_99999, N_1103515245, L_m999, L_m1, L_0, L_1, L_2, L_3, L_4, L_7, L_8, L_9, L_10, L_12, L_14, L_40, L_48, L_57, L_97, L_99, L_122, L_255, L_400, L_999, L_9999, if_pos, if_neg, pE, pN, cE, cN, r2, e0, e4, mheld_s]
      exact d1
    · unfold nC
      rw [if_neg (fun q => hc q.2), d3 _ (by omega)]; exact r2
    · unfold nC nU nW
      rw [if_neg (fun q => hc q.2), if_neg (fun q => hc q.2), if_neg (fun q => hc q.2), d3 _ (by omega), d3 _ (by omega)]
      exact r3
    · rw [d3 a q1, a2 a q4]
theorem m240_s {c : Nat} {P : Pg} {y u w : Nat → Int32} {I : HI} {J : HJ} (hP : LwM I P) (hS : HM I y) (hr : RwM I c u w) : ∃ I1 J1, fB_X11_ticks_240 I J = some (I1, J1) ∧ HM I1 (tYN P y) ∧ RwM I1 (nC P y c) (nU P y c u) (nW P y c w) ∧ (∀ a j, a ≠ 106 → a ≠ 107 → a ≠ 108 → a ≠ 109 → ¬ (a = 98 ∧ j = 11) → I1 a j = I a j) ∧ J1 98 13 = J 98 13 + tYD P y ∧ ∀ a j, ¬ (a = 98 ∧ j = 13) → J1 a j = J a j := by
  obtain ⟨Ia, a1, a2⟩ := mw_s (J := J) hP (show 2 < 4 by omega) hS
  have sA : HM Ia y := hS.of (a2 _ (by omega))
  have rA := hr.of (congrFun (a2 98 (by omega)) 11) (a2 _ (by omega)) (a2 _ (by omega))
  have pA : LwM Ia P := hP.of (a2 _ (by omega))
  by_cases hg : goY P y
  · obtain ⟨Ib, b1, b2, b3, b4⟩ := mdrops_s (J := J) pA sA rA hg
    refine ⟨Ib, putJ J 98 13 (J 98 13 + (y 0 - leY P y).toInt64), ?_, ?_, b3, fun a j q1 q2 q3 q4 q5 => ?_, ?_, fun a j q => by rw [putJ_ap, if_neg q]⟩
    · unfold fB_X11_ticks_240
      rw [N_2, a1, bd2_s, N_0, if_neg hg, b1, bd2_s]
    · unfold tYN
      rw [if_pos hg]; exact b2
    · rw [b4 a j q1 q2 q3 q4 q5, a2 a q4]
    · unfold tYD
      rw [putJ_ap, if_pos ⟨rfl, rfl⟩, if_pos hg]
  · have hg' : ev P 2 y = nI 0 := Decidable.not_not.mp hg
    refine ⟨Ia, J, ?_, ?_, ?_, fun a j q1 q2 q3 q4 q5 => by rw [a2 a q4], ?_, fun a j q => rfl⟩
    · unfold fB_X11_ticks_240
      rw [N_2, a1, bd2_s, N_0, if_pos hg']
    · unfold tYN
      rw [if_neg hg]; exact sA
    · unfold nC nU nW
      rw [if_neg (fun q => hg q.1), if_neg (fun q => hg q.1), if_neg (fun q => hg q.1)]; exact rA
    · unfold tYD
      rw [if_neg hg, Int64.add_zero]
theorem in_999 (a : Int32) : f_X11_in a.toInt64 (-999 : Int64) (999 : Int64) = some (bI (-nI 999 ≤ a ∧ a ≤ nI 999)) := in_s (by decide) (by decide)
theorem m157_s {I : HI} {J : HJ} {y : Nat → Int32} (hS : HM I y) : ∃ I1, fB_X11_ticks_157 I J = fB_X11_ticks_240 I1 J ∧ HM I1 (tsw (tho y)) ∧ ∀ a, a ≠ 106 → I1 a = I a := by
  have e1 : I 106 1 = y 1 := hS 1 (by omega)
  have e2 : I 106 2 = y 2 := hS 2 (by omega)
  obtain ⟨Ia, hIa⟩ : ∃ Ia, Ia = put I 106 2 (hld (y 2) (-nI 999) (nI 999)) := ⟨_, rfl⟩
  have sA : HM Ia (tho y) := by rw [hIa]; exact HM.pt hS
  have g1 : Ia 106 1 = tho y 1 := sA 1 (by omega)
  have g2 : Ia 106 2 = tho y 2 := sA 2 (by omega)
  by_cases hw : -nI 999 ≤ tho y 1 + tho y 2 ∧ tho y 1 + tho y 2 ≤ nI 999
  · refine ⟨put Ia 106 1 (tho y 1 + tho y 2), ?_, ?_, fun a ha => by rw [put_ne a ha, hIa, put_ne a ha]⟩
    · unfold fB_X11_ticks_157
      simp (disch := omega) only [nm_s, bd1_s, N_0, N_1, N_2, vin_nI, cl_nI, reduceIte, if_true, e2, mheld_s]
      rw [N_999, ← hIa]
      simp (disch := omega) only [g1, g2, pE, in_999, bd1_s, bI_1]
      rw [if_pos hw]
    · unfold tsw
      rw [if_pos hw]; exact HM.pt sA
  · refine ⟨put (put (put Ia 106 1 (tho y 1 + tho y 2)) 106 1 (hld (tho y 1 + tho y 2) (-nI 999) (nI 999))) 106 2 (nI 0), ?_, ?_, fun a ha => by rw [put_ne a ha, put_ne a ha, put_ne a ha, hIa, put_ne a ha]⟩
    · unfold fB_X11_ticks_157
      simp (disch := omega) only [nm_s, bd1_s, N_0, N_1, N_2, vin_nI, cl_nI, reduceIte, if_true, e2, mheld_s]
      rw [N_999, ← hIa]
      simp (disch := omega) only [g1, g2, pE, in_999, bd1_s, bI_1]
      rw [if_neg hw]
    · unfold tsw
      rw [if_neg hw]
      intro j hj
      have := ((HM.pt (i := 1) (v := hld (tho y 1 + tho y 2) (-nI 999) (nI 999)) (HM.pt (i := 1) (v := tho y 1 + tho y 2) sA)).pt (i := 2) (v := nI 0)) j hj
      refine this.trans ?_
      unfold ud
      by_cases q2 : j = 2
      · rw [if_pos q2, if_pos q2]
      · rw [if_neg q2, if_neg q2]
        by_cases q1 : j = 1
        · rw [if_pos q1, if_pos q1]
        · rw [if_neg q1, if_neg q1, if_neg q1]
theorem mtick_s {c : Nat} {P : Pg} {x u w : Nat → Int32} {I : HI} {J : HJ} (hP : LwM I P) (hS : HM I x) (hr : RwM I c u w) (h7 : 0 ≤ (x 7).toInt ∧ (x 7).toInt ≤ 99) : ∃ I1 J1, f_X11_ticks I J = some (I1, J1) ∧ HM I1 (tYN P (t6 P x)) ∧ RwM I1 (nC P (t6 P x) c) (nU P (t6 P x) c u) (nW P (t6 P x) c w) ∧ (∀ a j, a ≠ 106 → a ≠ 107 → a ≠ 108 → a ≠ 109 → ¬ (a = 98 ∧ j = 11) → I1 a j = I a j) ∧ (J1 98 12 = J 98 12 + (tFl P x).toInt64 ∧ J1 98 13 = J 98 13 + tYD P (t6 P x)) ∧ ∀ a j, ¬ (a = 98 ∧ (j = 12 ∨ j = 13)) → J1 a j = J a j := by
  have e3 : I 106 3 = x 3 := hS 3 (by omega)
  have e4 : I 106 4 = x 4 := hS 4 (by omega)
  unfold f_X11_ticks
  simp (disch := omega) only [nm_s, bd1_s, N_0, N_1, N_2, N_3, N_4, N_7, N_8, N_12345, N_1103515245, N_16, N_99999, vin_nI, cl_nI, reduceIte, if_true, e3, e4, pE, pN, mheld_s]
  obtain ⟨Ia, hIa⟩ : ∃ Ia, Ia = put (put I 106 3 (x 3 + nI 1)) 106 4 (x 4 + nI 1) := ⟨_, rfl⟩
  rw [← hIa]
  have eA : ∀ a, a ≠ 106 → Ia a = I a := fun a h => by rw [hIa, put_ne a h, put_ne a h]
  have sA : HM Ia (t1 x) := by rw [hIa]; exact (HM.pt (i := 3) hS).pt (i := 4)
  have pA : LwM Ia P := hP.of (eA _ (by omega))
  obtain ⟨Ib, b1, b2⟩ := mw_s (J := J) pA (show 0 < 4 by omega) sA
  rw [b1, bd2_s]
  have sB : HM Ib (t1 x) := sA.of (b2 _ (by omega))
  have pB : LwM Ib P := pA.of (b2 _ (by omega))
  have f0 : Ib 106 0 = t1 x 0 := sB 0 (by omega)
  rw [f0, N_999, show hld (ev P 0 (t1 x)) (nI 0) (nI 999) = tFl P x from rfl]
  obtain ⟨Ic, hIc⟩ : ∃ Ic, Ic = put Ib 106 0 (hld (t1 x 0 + tFl P x) (nI 0) (nI 99999)) := ⟨_, rfl⟩
  rw [← hIc]
  have sC : HM Ic (t2 P x) := by rw [hIc]; exact HM.pt sB
  have eC : ∀ a, a ≠ 106 → Ic a = Ib a := fun a h => by rw [hIc, put_ne a h]
  have pC : LwM Ic P := pB.of (eC _ (by omega))
  obtain ⟨Id, d1, d2⟩ := mw_s (J := putJ J 98 12 (J 98 12 + (tFl P x).toInt64)) pC (show 1 < 4 by omega) sC
  rw [d1, bd2_s]
  have sD : HM Id (t2 P x) := sC.of (d2 _ (by omega))
  have g2 : Ib 106 2 = t2 P x 2 := by rw [← show Ic 106 2 = Ib 106 2 by rw [hIc, pN (by omega)]]; exact sC 2 (by omega)
  rw [g2]
  obtain ⟨Ie, hIe⟩ : ∃ Ie, Ie = put Id 106 2 (t2 P x 2 - hld (ev P 1 (t2 P x)) (-nI 999) (nI 999)) := ⟨_, rfl⟩
  rw [← hIe]
  have sE : HM Ie (t3 P x) := by rw [hIe]; exact HM.pt sD
  have eE : ∀ a, a ≠ 106 → a ≠ 109 → Ie a = I a := fun a h h2 => by rw [hIe, put_ne a h, d2 a h2, eC a h, b2 a h2, eA a h]
  have g7 : Id 106 7 = t3 P x 7 := by rw [← show Ie 106 7 = Id 106 7 by rw [hIe, pN (by omega)]]; exact sE 7 (by omega)
  have g8 : Id 106 8 = t3 P x 8 := by rw [← show Ie 106 8 = Id 106 8 by rw [hIe, pN (by omega)]]; exact sE 8 (by omega)
  have e32 : t3 P x 2 = t2 P x 2 - hld (ev P 1 (t2 P x)) (-nI 999) (nI 999) := ud_e _ _ _
  have fin : ∀ If : HI, HM If (tsh (t3 P x)) → (∀ a, a ≠ 106 → If a = Ie a) → ∃ I1 J1, fB_X11_ticks_157 If (putJ J 98 12 (J 98 12 + (tFl P x).toInt64)) = some (I1, J1) ∧ HM I1 (tYN P (t6 P x)) ∧ RwM I1 (nC P (t6 P x) c) (nU P (t6 P x) c u) (nW P (t6 P x) c w) ∧ (∀ a j, a ≠ 106 → a ≠ 107 → a ≠ 108 → a ≠ 109 → ¬ (a = 98 ∧ j = 11) → I1 a j = I a j) ∧ (J1 98 12 = J 98 12 + (tFl P x).toInt64 ∧ J1 98 13 = J 98 13 + tYD P (t6 P x)) ∧ ∀ a j, ¬ (a = 98 ∧ (j = 12 ∨ j = 13)) → J1 a j = J a j := by
    intro If sF eF
    obtain ⟨Ig, i1, i2, i3⟩ := m157_s (J := putJ J 98 12 (J 98 12 + (tFl P x).toInt64)) sF
    have eg : ∀ a, a ≠ 106 → a ≠ 109 → Ig a = I a := fun a h h2 => by rw [i3 a h, eF a h, eE a h h2]
    obtain ⟨I1, J1, k1, k2, k3, k4, k5, k6⟩ := m240_s (J := putJ J 98 12 (J 98 12 + (tFl P x).toInt64)) (hP.of (eg _ (by omega) (by omega))) (show HM Ig (t6 P x) from i2) (hr.of (congrFun (eg 98 (by omega) (by omega)) 11) (eg _ (by omega) (by omega)) (eg _ (by omega) (by omega)))
    refine ⟨I1, J1, i1.trans k1, k2, k3, fun a j q1 q2 q3 q4 q5 => by rw [k4 a j q1 q2 q3 q4 q5, eg a q1 q4], ⟨?_, ?_⟩, fun a j q => ?_⟩
    · rw [k6 _ _ (by omega), putJ_ap, if_pos ⟨rfl, rfl⟩]
    · rw [k5, putJ_ap, if_neg (by omega)]
    · rw [k6 _ _ (by omega), putJ_ap, if_neg (by omega)]
  rw [g7]
  by_cases h0 : t3 P x 7 = nI 0
  · rw [if_pos h0]
    exact fin Ie (by unfold tsh; rw [if_pos h0]; exact sE) (fun a _ => rfl)
  · rw [if_neg h0]
    obtain ⟨n, hn, en, en2⟩ := nI_of0 (x := x 7) h7.1
    have hz : ¬ nI 2 * t3 P x 7 + nI 1 = nI 0 := fun q => by
      rw [t3_7, en, nI_mul, nI_add, eq_nn (by omega) (by omega)] at q
      omega
    rw [if_neg hz, g8, ← e32]
    exact fin (put (put Ie 106 8 (t3 P x 8 * nI 1103515245 + nI 12345)) 106 2 (t3 P x 2 + (jrem (jushr (t3 P x 8 * nI 1103515245 + nI 12345) (nI 16)) (nI 2 * t3 P x 7 + nI 1) - t3 P x 7))) (by unfold tsh; rw [if_neg h0]; exact (HM.pt sE).pt) (fun a ha => by rw [put_ne a ha, put_ne a ha])

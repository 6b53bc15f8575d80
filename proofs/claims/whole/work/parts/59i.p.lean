theorem wi_k {a l h : Int32} {lo hi : Nat} (e1 : l = nI lo) (e2 : h = nI hi) : f_X10_isWithin a l h = some (bI (nI lo ≤ a ∧ a ≤ nI hi)) := by
  rw [e1, e2]
  exact wi_s _ _ _
theorem per_ex (v : Nat → Int32) {c : Nat} (hc : c ≤ 60) : ∃ q, q ≤ 8 ∧ IsPer v c q := by
  obtain ⟨q, q0, q1, q2⟩ := per_s (k := 2) (c := c) (I := fun a j => if a = 2 then nI c else v j) (J := fun _ _ => 0) rfl hc rfl
  exact ⟨q, q0, q2.of (fun i _ => rfl)⟩
theorem lookt_s {c : Nat} {u w : Nat → Int32} {I : HI} {J : HJ} (hr : RwM I c u w) : ∃ I1, f_X11_looksAtTrial I J = some I1 ∧ Look I1 c u ∧ ∀ a j, a ≠ 114 → ¬ (a = 98 ∧ j = 27) → I1 a j = I a j := by
  obtain ⟨hc, h, hu⟩ := hr
  have key : ∀ d i f, i + d = c → d < f → ∀ I : HI, I 98 11 = nI c → ∃ I1, fL_X11_looksAtTrial_10 f (nI i) I J = some I1 ∧ (∀ y, i ≤ y → y < c → I1 114 y = I 107 y) ∧ ∀ a j, ¬ (a = 114 ∧ i ≤ j) → I1 a j = I a j := by
    refine fuel (L := fL_X11_looksAtTrial_10) (B := fLB_X11_looksAtTrial_10) (fun _ => rfl) (P := fun i g => ∀ I : HI, I 98 11 = nI c → ∃ I1, g (nI i) I J = some I1 ∧ (∀ y, i ≤ y → y < c → I1 114 y = I 107 y) ∧ ∀ a j, ¬ (a = 114 ∧ i ≤ j) → I1 a j = I a j) (fun g I h => ?_) (fun i g hi ih I h => ?_)
    · refine ⟨I, ?_, fun x h1 h2 => by omega, fun a j _ => rfl⟩
      unfold fLB_X11_looksAtTrial_10
      rw [h, if_pos (by rw [le_nn (by omega) (by omega)]; omega)]
    · obtain ⟨I1, h1, h2, h3⟩ := ih (put I 114 i (I 107 i)) (by rw [pN (by omega)]; exact h)
      refine ⟨I1, ?_, fun y hx1 hx2 => ?_, fun a j hj => ?_⟩
      · unfold fLB_X11_looksAtTrial_10
        simp (disch := omega) only [bd1_s, bd2_s, bd3_s, nm_s, wi_s, ite_bI, bI_1, le_pred, if_true, in_x, cl_nI, vin_nI, nI_add, nI_mul, le_nn, lt_nn, eq_nn, sb, reduceIte, N_0, N_1, N_2, N_3, N_4, N_5, N_6, N_7, N_8, N_9, N_10, N_11, N_12, N_13, N_14, N_16, N_20, N_30, N_31, N_32, N_37, N_40, N_41, N_42, N_43, N_45, N_47, N_48, N_50, N_57, N_59, N_60, N_61, N_62, N_70, N_71, N_72, N_80, N_81, N_82, N_83, N_97, N_98, N_99, N_100, N_101, N_102, N_103, N_104, N_105, N_107, N_108, N_110, N_111, N_112, N_114, N_115, N_116, N_117, N_119, N_121, N_122, N_200, N_220, N_255, N_256, N_257, N_258, N_400, N_438, N_446, N_666, N_999, N_9999, N_10000, N_10010, N_10011, N_10012, N_10013, N_10014, N_10015, N_10016, N_10017, N_10018, N_12345, N_20000, N_20126, N_99999, N_1103515245, L_m999, L_m1, L_0, L_1, L_2, L_3, L_4, L_7, L_8, L_9, L_10, L_12, L_14, L_40, L_48, L_57, L_97, L_99, L_122, L_255, L_400, L_999, L_9999, if_pos, if_neg, pE, pN, cE, cN, h]
        exact h1
      · by_cases e : y = i
        · subst e
          rw [h3 _ _ (by omega), pE rfl rfl]
        · rw [h2 y (by omega) hx2, pN (by omega)]
      · rw [h3 a j (by omega), pN (by omega)]
  obtain ⟨I1, h1, h2, h3⟩ := key c 0 FU (by omega) (FU_ge (by omega)) (put I 98 27 (nI c)) (by rw [pN (by omega)]; exact h)
  refine ⟨I1, ?_, ⟨hc, ?_, fun i hi => ?_⟩, fun a j ha hb => ?_⟩
  · unfold f_X11_looksAtTrial
    rw [h, nm_s]
    exact h1
  · rw [h3 _ _ (by omega), pE rfl rfl]
  · rw [h2 i (by omega) hi, pN (by omega)]; exact (hu i hi).1
  · rw [h3 _ _ (by omega), put_ap, if_neg hb]
def z0 : Nat → Int32 := fun _ => 0
/-- the row of a trial of n ticks from x -/
def trC' (P : Pg) (n : Nat) (x : Nat → Int32) : Nat := (itr P n (x, 0, z0, z0)).2.1
def trU (P : Pg) (n : Nat) (x : Nat → Int32) : Nat → Int32 := (itr P n (x, 0, z0, z0)).2.2.1
theorem trC_le {P : Pg} {n : Nat} {x : Nat → Int32} : trC' P n x ≤ 60 := (itr_mono n (x, 0, z0, z0)).2.1 (Nat.zero_le _)
/-- the class's trial from a heap with one slot of the tap changed -/
theorem ctrial_s {n i : Nat} {P : Pg} {x : Nat → Int32} {v : Int32} {I : HI} {J : HJ} (hB : Both I x P) (hn : n ≤ 400) (hi : i < 9) (h7 : Ok7 (ud x i v)) : ∃ I0 J0 I1 J1, f_X7_goOnFrom 53 1 I J = some (I0, J0) ∧ HS 53 I0 x ∧ f_X7_fillRow 53 (nI n) 4 (put I0 53 (i + 1) v) J0 = some (I1, J1) ∧ Row I1 54 (trC' P n (ud x i v)) (trU P n (ud x i v)) ∧ (∀ a j, a ≠ 12 → a ≠ 53 → a ≠ 54 → a ≠ 55 → I1 a j = I a j) ∧ ∀ a j, a ≠ 53 → J1 a j = J a j := by
  obtain ⟨h1, h2, h3, h4, h5⟩ := hB
  obtain ⟨I0, J0, a1, a2, a3, a4, a5⟩ := goOn_s (k := 53) (J := J) rfl (Or.inl rfl) h3
  have pA : LwC I0 P := h1.of (funext fun j => a4 _ _ (by omega) (by omega)) (fun q hq => funext fun j => a4 _ _ (by omega) (by omega))
  have pB : LwC (put I0 53 (i + 1) v) P := pA.of (put_ne _ (by omega)) (fun q hq => put_ne _ (by omega))
  have sB : HS 53 (put I0 53 (i + 1) v) (ud x i v) := HS.pt a2
  have rB : Row (put I0 53 (i + 1) v) 54 0 z0 := ⟨rfl, by omega, by rw [pN (by omega)]; exact a3.2.2.1, fun i hi => absurd hi (Nat.not_lt_zero i)⟩
  obtain ⟨I1, J1, b1, b2, b3, b4⟩ := fill_s (k := 53) (P := P) rfl (Or.inr (Or.inl rfl)) hn n 0 FU (by omega) (FU_ge (by omega)) _ J0 (ud x i v, 0, z0, z0) pB sB rB h7
  exact ⟨I0, J0, I1, J1, a1, a2, b1, b2, fun a j q1 q2 q3 q4 => by rw [b3 a j q1 q2 q3 q4, pN (by omega), a4 a j (by omega) (by omega)], fun a j q => by rw [b4 a j q, a5 a j q]⟩
theorem mtrial_s {n i : Nat} {P : Pg} {x : Nat → Int32} {v : Int32} {I : HI} {J : HJ} (hB : Both I x P) (hn : n ≤ 400) (hi : i < 9) (h7 : Ok7 (ud x i v)) : ∃ I0 J0 I1 J1, f_X11_opens I J = some (I0, J0) ∧ HM I0 x ∧ f_X11_trial (nI n) (put I0 106 i v) J0 = some (I1, J1) ∧ RwM I1 (trC' P n (ud x i v)) (trU P n (ud x i v)) ((itr P n (ud x i v, 0, z0, z0)).2.2.2) ∧ (∀ a j, a ≠ 106 → a ≠ 107 → a ≠ 108 → a ≠ 109 → ¬ (a = 98 ∧ j = 11) → I1 a j = I a j) ∧ ∀ a j, a ≠ 98 → J1 a j = J a j := by
  obtain ⟨h1, h2, h3, h4, h5⟩ := hB
  obtain ⟨I0, a1, a2, a3, a4⟩ := opens_s (I := I) (J := J)
  have sA : HM I0 x := fun j hj => (a2 j hj).trans (h4 j hj)
  have pA : LwM I0 P := h2.of (funext fun j => a4 _ _ (by omega) (by omega))
  have pB : LwM (put I0 106 i v) P := pA.of (put_ne _ (by omega))
  have rB : RwM (put I0 106 i v) 0 z0 z0 := ⟨by omega, by rw [pN (by omega)]; exact a3, fun i hi => absurd hi (Nat.not_lt_zero i)⟩
  obtain ⟨I1, J1, b1, b2, b3, b4⟩ := mtr_s (P := P) hn n 0 FU (by omega) (FU_ge (by omega)) _ (putJ (putJ J 98 12 0) 98 13 0) (ud x i v, 0, z0, z0) pB (HM.pt sA) rB h7
  exact ⟨I0, _, I1, J1, a1, sA, b1, b2, fun a j q1 q2 q3 q4 q5 => by rw [b3 a j q1 q2 q3 q4 q5, pN (by omega), a4 a j q1 q5], fun a j q => by rw [b4 a j q, putJ_ap, if_neg (by omega), putJ_ap, if_neg (by omega)]⟩
theorem Ok7.u {x : Nat → Int32} {i : Nat} {v : Int32} (h : Ok7 x) (h0 : i ≠ 0) (h7 : i ≠ 7) : Ok7 (ud x i v) := by
  unfold Ok7
  rw [ud_n (by omega), ud_n (by omega)]
  exact h
theorem Scr_of {I I1 : HI} (h : ∀ a j, a ≠ 12 → ¬ (53 ≤ a ∧ a ≤ 58) → ¬ (106 ≤ a ∧ a ≤ 109) → a ≠ 114 → ¬ (a = 98 ∧ (j = 11 ∨ j = 27)) → I1 a j = I a j) : ∀ a j, ¬ Scr a j → I1 a j = I a j := fun a j hs => h a j (by unfold Scr at hs; omega) (by unfold Scr at hs; omega) (by unfold Scr at hs; omega) (by unfold Scr at hs; omega) (by unfold Scr at hs; omega)
theorem cgrid_s {P : Pg} {x : Nat → Int32} {v : Int32} {q : Nat} (hq : IsPer (trU P 400 (ud x 6 v)) (trC' P 400 (ud x 6 v)) q) (I : HI) (J : HJ) (hB : Both I x P) : ∃ I1 J1, f_X10_periodWith v I J = some (nI q, I1, J1) ∧ (∀ a j, ¬ Scr a j → I1 a j = I a j) ∧ ∀ a, a ≠ 53 → a ≠ 56 → a ≠ 98 → J1 a = J a := by
  obtain ⟨I0, J0, I1, J1, a1, a2, a3, a4, a5, a6⟩ := ctrial_s (J := J) (v := v) hB (show 400 ≤ 400 by omega) (show 6 < 9 by omega) (hB.2.2.2.2.u (by omega) (by omega))
  obtain ⟨p, p0, p1, p2⟩ := per_s (k := 54) (J := J1) rfl a4.2.1 a4.2.2.1
  have e := (p2.of (fun i hi => a4.2.2.2 i hi)).uniq hq
  refine ⟨I1, J1, ?_, Scr_of (fun a j q1 q2 q3 q4 q5 => a5 a j q1 (by omega) (by omega) (by omega)), fun a q1 q2 q3 => funext fun j => a6 a j q1⟩
  unfold f_X10_periodWith
  rw [a1, bd2_s, nm_s, show (400 : Int32) = nI 400 from id rfl]
  rw [show put I0 53 7 v = put I0 53 (6 + 1) v from rfl, a3, bd2_s, p1, bd1_s, e]
theorem mgrid_s {P : Pg} {x : Nat → Int32} {v : Int32} {q : Nat} (hq : IsPer (trU P 400 (ud x 6 v)) (trC' P 400 (ud x 6 v)) q) (I : HI) (J : HJ) (hB : Both I x P) : ∃ I1 J1, f_X11_gridOf v I J = some (nI q, I1, J1) ∧ (∀ a j, ¬ Scr a j → I1 a j = I a j) ∧ ∀ a, a ≠ 53 → a ≠ 56 → a ≠ 98 → J1 a = J a := by
  obtain ⟨I0, J0, I1, J1, a1, a2, a3, a4, a5, a6⟩ := mtrial_s (J := J) (v := v) hB (show 400 ≤ 400 by omega) (show 6 < 9 by omega) (hB.2.2.2.2.u (by omega) (by omega))
  obtain ⟨I2, b1, b2, b3⟩ := lookt_s (J := J1) a4
  obtain ⟨p, p0, p1, p2⟩ := mper_s (J := J1) b2
  have e := p2.uniq hq
  refine ⟨I2, J1, ?_, Scr_of (fun a j q1 q2 q3 q4 q5 => by rw [b3 a j q4 (by omega), a5 a j (by omega) (by omega) (by omega) (by omega) (by omega)]), fun a q1 q2 q3 => funext fun j => a6 a j q3⟩
  unfold f_X11_gridOf
  rw [a1, bd2_s, N_6, if_pos (vin_nI (by omega) (by omega)), cl_nI (by omega), nm_s, show (400 : Int32) = nI 400 from id rfl, a3, bd2_s, b1, bd1_s, p1, bd1_s, e]
theorem Rel.scr {N : Nat} {I I2 : HI} {J J2 : HJ} (h : Rel N I J) (hI : ∀ a j, ¬ Scr a j → I2 a j = I a j) (hJ : ∀ a, a ≠ 53 → a ≠ 56 → a ≠ 98 → J2 a = J a) : Rel (N + 400) I2 J2 := (h.of hI hJ).mono (Nat.le_add_right N 400)
theorem sim_grid {N : Nat} {I : HI} {J : HJ} (hN : N ≤ 1000000) (hR : Rel N I J) (a0 : Int32) : ∃ (r : Int32) (I1 : HI) (J1 : HJ) (I2 : HI) (J2 : HJ), f_X10_grid a0 I J = some (r, I1, J1) ∧ f_X11_grid a0 I1 J1 = some (r, I2, J2) ∧ Rel (N + 400) I2 J2 := by
  have hM := hR.mono (Nat.le_add_right N 400)
  by_cases h : nI 0 ≤ a0 ∧ a0 ≤ nI 99
  · have hB := both_of hR
    obtain ⟨q, q0, hq⟩ := per_ex (trU (fun q => ((I 10 q).toNatClampNeg, I (6 + q))) 400 (ud (I 99) 6 a0)) (c := trC' (fun q => ((I 10 q).toNatClampNeg, I (6 + q))) 400 (ud (I 99) 6 a0)) trC_le
    obtain ⟨I1, J1, a1, a2, a3⟩ := cgrid_s hq I J hB
    obtain ⟨I2, J2, b1, b2, b3⟩ := mgrid_s hq I1 J1 (hB.of a2)
    refine ⟨nI q, I1, J1, I2, J2, ?_, ?_, hR.scr (fun a j hs => (b2 a j hs).trans (a2 a j hs)) (fun a h1 h2 h3 => (b3 a h1 h2 h3).trans (a3 a h1 h2 h3))⟩
    · unfold f_X10_grid
      rw [wi_k N_0 N_99, bd1_s, ite_bI, if_pos h, a1, bd3_s]
    · unfold f_X11_grid
      rw [L_0, L_99, in_x, bd1_s, ite_bI, if_pos h, b1, bd3_s]
  · refine ⟨-1, I, J, I, J, ?_, ?_, hM⟩
    · unfold f_X10_grid
      rw [wi_k N_0 N_99, bd1_s, ite_bI, if_neg h]
    · unfold f_X11_grid
      rw [L_0, L_99, in_x, bd1_s, ite_bI, if_neg h]
theorem ispan_s {a0 a1 : Int32} : ∃ r, f_X10_isSpanOfKnobs a0 a1 = some r ∧ f_X11_isSpan a0 a1 = some r ∧ (r = 0 ∨ (r = 1 ∧ ∃ lo hi, a0 = nI lo ∧ a1 = nI hi ∧ lo ≤ hi ∧ hi ≤ 99)) := by
  unfold f_X10_isSpanOfKnobs f_X11_isSpan
  rw [L_0, L_99, in_x, in_x, wi_k N_0 N_99, show f_X10_isWithin a1 a0 99 = some (bI (a0 ≤ a1 ∧ a1 ≤ nI 99)) from wi_s _ _ _]
  simp only [bd1_s, ite_bI]
  by_cases h0 : nI 0 ≤ a0 ∧ a0 ≤ nI 99
  · obtain ⟨lo, hlo, rfl⟩ := rng (by omega) h0
    by_cases h1 : nI lo ≤ a1 ∧ a1 ≤ nI 99
    · have h2 : nI 0 ≤ a1 ∧ a1 ≤ nI 99 := ⟨by have q1 := i_le.mp h1.1; rw [i_nat _ (by omega)] at q1; rw [i_le, i_nat _ (by omega)]; omega, h1.2⟩
      obtain ⟨hi, hhi, rfl⟩ := rng (by omega) h2
      have hle : lo ≤ hi := by
        have := h1.1
        rw [le_nn (by omega) (by omega)] at this
        exact this
      by_cases h3 : (20 : Int32) < nI hi - nI lo
      · exact ⟨0, by rw [if_pos h0, if_pos h1, if_pos h3], by rw [if_pos h0, if_pos h1, if_pos h3], Or.inl rfl⟩
      · exact ⟨1, by rw [if_pos h0, if_pos h1, if_neg h3], by rw [if_pos h0, if_pos h1, if_neg h3], Or.inr ⟨rfl, lo, hi, rfl, rfl, hle, hhi⟩⟩
    · exact ⟨0, by rw [if_pos h0, if_neg h1], by rw [if_pos h0, if_neg h1], Or.inl rfl⟩
  · exact ⟨0, by rw [if_neg h0], by rw [if_neg h0], Or.inl rfl⟩
def dbS (G : Nat → Nat) : Nat → Nat → Int32
  | 0, _ => -3
  | d + 1, k => if 0 < G (k - 1) ∧ G k = 2 * G (k - 1) then nI k else dbS G d (k + 1)
theorem cdbl_s {P : Pg} {x : Nat → Int32} {G : Nat → Nat} {hi : Nat} {a0 : Int32} (hG : ∀ k, G k ≤ 8 ∧ IsPer (trU P 400 (ud x 6 (nI k))) (trC' P 400 (ud x 6 (nI k))) (G k)) (hhi : hi ≤ 99) : ∀ d k f, k + d = hi + 1 → d < f → 1 ≤ k → ∀ (I : HI) (J : HJ), Both I x P → ∃ I1 J1, fL_X10_doubling_21 a0 (nI hi) f (nI (G (k - 1))) (nI k) I J = some (dbS G d k, I1, J1) ∧ (∀ a j, ¬ Scr a j → I1 a j = I a j) ∧ ∀ a, a ≠ 53 → a ≠ 56 → a ≠ 98 → J1 a = J a := by
  intro d
  induction d with
  | zero =>
    intro k f hk hf h1 I J hB
    obtain ⟨f, rfl⟩ : ∃ g, f = g + 1 := ⟨f - 1, by omega⟩
    refine ⟨I, J, ?_, fun _ _ _ => rfl, fun _ _ _ _ => rfl⟩
    show fLB_X10_doubling_21 a0 (nI hi) _ (nI (G (k - 1))) (nI k) I J = some (-3, I, J)
    unfold fLB_X10_doubling_21
    rw [if_pos (by rw [lt_nn (by omega) (by omega)]; omega)]
  | succ d ih =>
    intro k f hk hf h1 I J hB
    obtain ⟨f, rfl⟩ : ∃ g, f = g + 1 := ⟨f - 1, by omega⟩
    obtain ⟨g1, g2⟩ := hG k
    obtain ⟨g3, g4⟩ := hG (k - 1)
    obtain ⟨I1, J1, a1, a2, a3⟩ := cgrid_s g2 I J hB
    obtain ⟨I2, J2, b1, b2, b3⟩ := ih (k + 1) f (by omega) (by omega) (by omega) I1 J1 (hB.of a2)
    rw [Nat.add_sub_cancel] at b1
    show ∃ I1 J1, fLB_X10_doubling_21 a0 (nI hi) (fL_X10_doubling_21 a0 (nI hi) f) (nI (G (k - 1))) (nI k) I J = some (if 0 < G (k - 1) ∧ G k = 2 * G (k - 1) then nI k else dbS G d (k + 1), I1, J1) ∧ _
    unfold fLB_X10_doubling_21 fB_X10_doubling_50
    rw [if_neg (by rw [lt_nn (by omega) (by omega)]; omega), a1, bd3_s]
    simp (disch := omega) only [N_0, N_1, N_2, nI_mul, le_nn, eq_nn, nI_add, nm_s]
    by_cases h2 : G (k - 1) ≤ 0
    · rw [if_pos h2, if_neg (by omega)]
      exact ⟨I2, J2, b1, fun a j hs => (b2 a j hs).trans (a2 a j hs), fun a q1 q2 q3 => (b3 a q1 q2 q3).trans (a3 a q1 q2 q3)⟩
    · rw [if_neg h2]
      by_cases h3 : G k = 2 * G (k - 1)
      · rw [if_pos h3, if_pos ⟨by omega, h3⟩]
        exact ⟨I1, J1, rfl, a2, a3⟩
      · rw [if_neg h3, if_neg (fun q => h3 q.2)]
        exact ⟨I2, J2, b1, fun a j hs => (b2 a j hs).trans (a2 a j hs), fun a q1 q2 q3 => (b3 a q1 q2 q3).trans (a3 a q1 q2 q3)⟩
theorem mdbl_s {P : Pg} {x : Nat → Int32} {G : Nat → Nat} {hi : Nat} {a0 : Int32} (hG : ∀ k, G k ≤ 8 ∧ IsPer (trU P 400 (ud x 6 (nI k))) (trC' P 400 (ud x 6 (nI k))) (G k)) (hhi : hi ≤ 99) : ∀ d k f, k + d = hi + 1 → d < f → 1 ≤ k → ∀ (I : HI) (J : HJ), Both I x P → ∃ I1 J1, fL_X11_doubling_21 a0 (nI hi) f (nI (G (k - 1))) (nI k) I J = some (dbS G d k, I1, J1) ∧ (∀ a j, ¬ Scr a j → I1 a j = I a j) ∧ ∀ a, a ≠ 53 → a ≠ 56 → a ≠ 98 → J1 a = J a := by
  intro d
  induction d with
  | zero =>
    intro k f hk hf h1 I J hB
    obtain ⟨f, rfl⟩ : ∃ g, f = g + 1 := ⟨f - 1, by omega⟩
    refine ⟨I, J, ?_, fun _ _ _ => rfl, fun _ _ _ _ => rfl⟩
    show fLB_X11_doubling_21 a0 (nI hi) _ (nI (G (k - 1))) (nI k) I J = some (-3, I, J)
    unfold fLB_X11_doubling_21
    rw [if_pos (by rw [lt_nn (by omega) (by omega)]; omega)]
  | succ d ih =>
    intro k f hk hf h1 I J hB
    obtain ⟨f, rfl⟩ : ∃ g, f = g + 1 := ⟨f - 1, by omega⟩
    obtain ⟨g1, g2⟩ := hG k
    obtain ⟨g3, g4⟩ := hG (k - 1)
    obtain ⟨I1, J1, a1, a2, a3⟩ := mgrid_s g2 I J hB
    obtain ⟨I2, J2, b1, b2, b3⟩ := ih (k + 1) f (by omega) (by omega) (by omega) I1 J1 (hB.of a2)
    rw [Nat.add_sub_cancel] at b1
    show ∃ I1 J1, fLB_X11_doubling_21 a0 (nI hi) (fL_X11_doubling_21 a0 (nI hi) f) (nI (G (k - 1))) (nI k) I J = some (if 0 < G (k - 1) ∧ G k = 2 * G (k - 1) then nI k else dbS G d (k + 1), I1, J1) ∧ _
    unfold fLB_X11_doubling_21 fB_X11_doubling_50
    rw [if_neg (by rw [lt_nn (by omega) (by omega)]; omega), a1, bd3_s]
    simp (disch := omega) only [N_0, N_1, N_2, nI_mul, le_nn, eq_nn, nI_add, nm_s]
    by_cases h2 : G (k - 1) ≤ 0
    · rw [if_pos h2, if_neg (by omega)]
      exact ⟨I2, J2, b1, fun a j hs => (b2 a j hs).trans (a2 a j hs), fun a q1 q2 q3 => (b3 a q1 q2 q3).trans (a3 a q1 q2 q3)⟩
    · rw [if_neg h2]
      by_cases h3 : G k = 2 * G (k - 1)
      · rw [if_pos h3, if_pos ⟨by omega, h3⟩]
        exact ⟨I1, J1, rfl, a2, a3⟩
      · rw [if_neg h3, if_neg (fun q => h3 q.2)]
        exact ⟨I2, J2, b1, fun a j hs => (b2 a j hs).trans (a2 a j hs), fun a q1 q2 q3 => (b3 a q1 q2 q3).trans (a3 a q1 q2 q3)⟩
theorem per_fun (P : Pg) (x : Nat → Int32) : ∃ G : Nat → Nat, ∀ k, G k ≤ 8 ∧ IsPer (trU P 400 (ud x 6 (nI k))) (trC' P 400 (ud x 6 (nI k))) (G k) := Classical.skolem.mp (fun k => per_ex (trU P 400 (ud x 6 (nI k))) trC_le)
theorem sim_doubling {N : Nat} {I : HI} {J : HJ} (hN : N ≤ 1000000) (hR : Rel N I J) (a0 : Int32) (a1 : Int32) : ∃ (r : Int32) (I1 : HI) (J1 : HJ) (I2 : HI) (J2 : HJ), f_X10_doubling a0 a1 I J = some (r, I1, J1) ∧ f_X11_doubling a0 a1 I1 J1 = some (r, I2, J2) ∧ Rel (N + 400) I2 J2 := by
  have hM := hR.mono (Nat.le_add_right N 400)
  obtain ⟨r, r1, r2, r3⟩ := ispan_s (a0 := a0) (a1 := a1)
  rcases r3 with r3 | ⟨r3, lo, hi, rfl, rfl, hle, hhi⟩
  · refine ⟨-1, I, J, I, J, ?_, ?_, hM⟩
    · unfold f_X10_doubling
      rw [r1, bd1_s, if_pos r3]
    · unfold f_X11_doubling
      rw [r2, bd1_s, if_pos r3]
  · have hB := both_of hR
    obtain ⟨G, hG⟩ := per_fun (fun q => ((I 10 q).toNatClampNeg, I (6 + q))) (I 99)
    obtain ⟨I1, J1, a1, a2, a3⟩ := cgrid_s (hG lo).2 I J hB
    obtain ⟨I2, J2, b1, b2, b3⟩ := cdbl_s (a0 := nI lo) hG hhi (hi - lo) (lo + 1) FU (by omega) (FU_ge (by omega)) (by omega) I1 J1 (hB.of a2)
    have e2 : ∀ a j, ¬ Scr a j → I2 a j = I a j := fun a j hs => (b2 a j hs).trans (a2 a j hs)
    have k2 : ∀ a, a ≠ 53 → a ≠ 56 → a ≠ 98 → J2 a = J a := fun a q1 q2 q3 => (b3 a q1 q2 q3).trans (a3 a q1 q2 q3)
    obtain ⟨I3, J3, c1, c2, c3⟩ := mgrid_s (hG lo).2 I2 J2 (hB.of e2)
    obtain ⟨I4, J4, d1, d2, d3⟩ := mdbl_s (a0 := nI lo) hG hhi (hi - lo) (lo + 1) FU (by omega) (FU_ge (by omega)) (by omega) I3 J3 ((hB.of e2).of c2)
    rw [Nat.add_sub_cancel] at b1 d1
    refine ⟨dbS G (hi - lo) (lo + 1), I2, J2, I4, J4, ?_, ?_, hR.scr (fun a j hs => (d2 a j hs).trans ((c2 a j hs).trans (e2 a j hs))) (fun a q1 q2 q3 => (d3 a q1 q2 q3).trans ((c3 a q1 q2 q3).trans (k2 a q1 q2 q3)))⟩
    · unfold f_X10_doubling
      rw [r1, bd1_s, r3, if_neg (by decide), a1, bd3_s, nI_1, nm_s]
      exact b1
    · unfold f_X11_doubling
      rw [r2, bd1_s, r3, if_neg (by decide), c1, bd3_s, nI_1, nm_s]
      exact d1

theorem in_03 (a : Int32) : f_X11_in a.toInt64 (0 : Int64) (3 : Int64) = some (bI (nI 0 ≤ a ∧ a < nI 4)) := by
  rw [L_0, L_3, in_x]
  have e : (nI 0 ≤ a ∧ a ≤ nI 3) = (nI 0 ≤ a ∧ a < nI 4) := by
    rw [← le_pred a 4 (by omega), sb 4 1 (by omega)]
  have e2 : bI (nI 0 ≤ a ∧ a ≤ nI 3) = bI (nI 0 ≤ a ∧ a < nI 4) := by unfold bI; simp only [e]
  rw [e2]
/-- says on one heap, model's side: what it is worth -/
theorem msay_s {P : Pg} {x : Nat → Int32} {q : Nat} (hq : q < 4) (I : HI) (J : HJ) (hB : Both I x P) : ∃ I1 J1, f_X11_says (nI q) I J = some (ev P q x, I1, J1) ∧ (∀ a j, ¬ Scr a j → I1 a j = I a j) ∧ (∀ a, a ≠ 98 → J1 a = J a) ∧ ∀ a j, a ≠ 106 → a ≠ 109 → ¬ (a = 98 ∧ j = 11) → I1 a j = I a j := by
  obtain ⟨h1, h2, h3, h4, h5⟩ := hB
  obtain ⟨I0, a1, a2, a3, a4⟩ := opens_s (I := I) (J := J)
  have sA : HM I0 x := fun j hj => (a2 j hj).trans (h4 j hj)
  have pA : LwM I0 P := h2.of (funext fun j => a4 _ _ (by omega) (by omega))
  obtain ⟨I1, b1, b2⟩ := mw_s (J := putJ (putJ J 98 12 0) 98 13 0) pA hq sA
  have fr : ∀ a j, a ≠ 106 → a ≠ 109 → ¬ (a = 98 ∧ j = 11) → I1 a j = I a j := fun a j q1 q2 q3 => by rw [b2 a q2, a4 a j q1 q3]
  refine ⟨I1, putJ (putJ J 98 12 0) 98 13 0, ?_, Scr_of (fun a j q1 q2 q3 q4 q5 => fr a j (by omega) (by omega) (by omega)), fun a q3 => by rw [putJ_ne a q3, putJ_ne a q3], fr⟩
  unfold f_X11_says
  rw [in_03, bd1_s, ite_bI, if_pos ⟨by rw [le_nn (by omega) (by omega)]; omega, by rw [lt_nn (by omega) (by omega)]; exact hq⟩, a1, bd2_s, b1, bd2_s]
theorem sim_says {N : Nat} {I : HI} {J : HJ} (hN : N ≤ 1000000) (hR : Rel N I J) (a0 : Int32) : ∃ (r : Int32) (I1 : HI) (I2 : HI) (J2 : HJ), f_X10_says a0 I J = some (r, I1) ∧ f_X11_says a0 I1 J = some (r, I2, J2) ∧ Rel (N + 400) I2 J2 := by
  have hM := hR.mono (Nat.le_add_right N 400)
  by_cases h : nI 0 ≤ a0 ∧ a0 < nI 4
  · obtain ⟨q, hq, rfl⟩ := rng2 (by omega) h
    have hB := both_of hR
    obtain ⟨I1, a1, a2⟩ := cw_s (q := q) (a := 1) (J := J) hB.1 hq (by omega) hB.2.2.1
    have e1 : ∀ a j, ¬ Scr a j → I1 a j = I a j := Scr_of (fun a j q1 q2 q3 q4 q5 => by rw [a2 a q1])
    obtain ⟨I2, J2, b1, b2, b3, b4⟩ := msay_s hq I1 J (hB.of e1)
    refine ⟨_, I1, I2, J2, ?_, b1, hR.scr (fun a j hs => (b2 a j hs).trans (e1 a j hs)) (fun a _ _ q3 => b3 a q3)⟩
    unfold f_X10_says
    rw [a1, bd2_s]
  · refine ⟨0, I, I, J, ?_, ?_, hM⟩
    · unfold f_X10_says f_X2_worth
      rw [isKey_s, bd1_s, ite_bI, if_neg h, bd2_s]
    · unfold f_X11_says
      rw [in_03, bd1_s, ite_bI, if_neg h]
theorem padd_s {c : Nat} {a b : Int32} {I : HI} {J : HJ} (hc : c < 12) (h : I 70 1 = nI c) : f_X3_add a b I J = some (put (put (put I (72 + c) 0 a) (72 + c) 1 b) 70 1 (nI (c + 1))) := by
  have r : rfn 71 c = 72 + c := lay71 c hc
  have z0 : (0 : Int32).toNatClampNeg = 0 := rfl
  have z1 : (1 : Int32).toNatClampNeg = 1 := rfl
  have h1 : put I (72 + c) 0 a 70 1 = nI c := by rw [pN (by omega)]; exact h
  have h2 : put (put I (72 + c) 0 a) (72 + c) 1 b 70 1 = nI c := by rw [pN (by omega)]; exact h1
  have v0 : vin 0 2 = true := vin_nI (n := 0) (by omega) (by omega)
  have v1 : vin 1 2 = true := vin_nI (n := 1) (by omega) (by omega)
  unfold f_X3_add
  rw [h, if_neg (by rw [N_0, lt_nn (by omega) (by omega)]; omega), if_neg (by rw [N_12, le_nn (by omega) (by omega)]; omega), if_pos (vin_nI hc (by omega)), if_pos v0, cl_nI (by omega), r, z0, nm_s, h1, if_pos (vin_nI hc (by omega)), if_pos v1, cl_nI (by omega), r, z1, nm_s, h2, nI_1, nm_s]
theorem cprv_s {n : Nat} {P : Pg} (hn : n ≤ 12) : ∀ d i f, i + d = 400 → d < f → ∀ (I : HI) (J : HJ) (s : Sx), LwC I P → HS 53 I s.1 → Row I 54 s.2.1 s.2.2.1 → Ok7 s.1 → s.2.1 ≤ n → I 70 1 = nI s.2.1 → (∀ j, j < s.2.1 → I (72 + j) 0 = s.2.2.1 j ∧ I (72 + j) 1 = s.2.2.2 j) → ∃ I1 J1 m, fL_X10_prove_32 (nI n) f (nI i) I J = some (nI m, I1, J1) ∧ m = min n (itr P d s).2.1 ∧ I1 70 1 = nI m ∧ (∀ j, j < m → I1 (72 + j) 0 = (itr P d s).2.2.1 j ∧ I1 (72 + j) 1 = (itr P d s).2.2.2 j) ∧ (∀ a j, a ≠ 12 → ¬ (53 ≤ a ∧ a ≤ 55) → ¬ (70 ≤ a ∧ a ≤ 83) → I1 a j = I a j) ∧ ∀ a j, a ≠ 53 → J1 a j = J a j := by
  intro d
  induction d with
  | zero =>
    intro i f hi hf I J s hP hS hr h7 hc hp hrow
    obtain ⟨f, rfl⟩ : ∃ g, f = g + 1 := ⟨f - 1, by omega⟩
    refine ⟨I, J, s.2.1, ?_, by show s.2.1 = min n s.2.1; omega, hp, hrow, fun _ _ _ _ _ => rfl, fun _ _ _ => rfl⟩
    show fLB_X10_prove_32 (nI n) _ (nI i) I J = _
    unfold fLB_X10_prove_32 fB_X10_prove_91 f_X3_size
    rw [N_400, if_pos (by rw [le_nn (by omega) (by omega)]; omega), bd1_s, hp]
  | succ d ih =>
    intro i f hi hf I J s hP hS hr h7 hc hp hrow
    obtain ⟨f, rfl⟩ : ∃ g, f = g + 1 := ⟨f - 1, by omega⟩
    obtain ⟨q1, q2, q3⟩ := itr_mono (P := P) (d + 1) s
    by_cases hcn : s.2.1 = n
    · refine ⟨I, J, s.2.1, ?_, by omega, hp, fun j hj => ?_, fun _ _ _ _ _ => rfl, fun _ _ _ => rfl⟩
      · show fLB_X10_prove_32 (nI n) (fL_X10_prove_32 (nI n) f) (nI i) I J = _
        unfold fLB_X10_prove_32 fB_X10_prove_91 f_X3_size
        rw [N_400, if_neg (by rw [le_nn (by omega) (by omega)]; omega), bd1_s, hp, if_pos (by rw [le_nn (by omega) (by omega)]; omega), bd1_s]
      · have h1 := q3 j hj
        rw [h1.1, h1.2]
        exact hrow j hj
    · obtain ⟨I1, J1, a1, a2, a3, a4, a5, a6, a7⟩ := ctick_s (J := J) rfl (Or.inr (Or.inl rfl)) hP hS hr h7.1 h7.2
      have pA : LwC I1 P := hP.of (funext fun j => a6 _ _ (by omega) (by omega) (by omega) (by omega)) (fun q hq => funext fun j => a6 _ _ (by omega) (by omega) (by omega) (by omega))
      have e70 : I1 70 1 = nI s.2.1 := by rw [a6 _ _ (by omega) (by omega) (by omega) (by omega)]; exact hp
      have erow : ∀ j, j < s.2.1 → I1 (72 + j) 0 = s.2.2.1 j ∧ I1 (72 + j) 1 = s.2.2.2 j := fun j hj => by
        rw [a6 _ _ (by omega) (by omega) (by omega) (by omega), a6 _ _ (by omega) (by omega) (by omega) (by omega)]; exact hrow j hj
      have pre : ∀ R : Option (Int32 × HI × HJ), (if bI (goY P (t6 P s.1)) = 0 then fB_X10_prove_85 (nI n) (fL_X10_prove_32 (nI n) f) (nI i) I1 J1 else bd1 (f_X3_add (I1 53 13) (I1 53 14) I1 J1) fun I28 => fB_X10_prove_85 (nI n) (fL_X10_prove_32 (nI n) f) (nI i) I28 J1) = R → fL_X10_prove_32 (nI n) (f + 1) (nI i) I J = R := fun R hR => by
        show fLB_X10_prove_32 (nI n) (fL_X10_prove_32 (nI n) f) (nI i) I J = _
        unfold fLB_X10_prove_32 f_X3_size
        rw [N_400, if_neg (by rw [le_nn (by omega) (by omega)]; omega), bd1_s, hp, if_neg (by rw [le_nn (by omega) (by omega)]; omega), a1, bd3_s]
        exact hR
      by_cases hg : goY P (t6 P s.1)
      · have hgc : goY P (t6 P s.1) ∧ s.2.1 < 60 := ⟨hg, by omega⟩
        have e1 : (stp P s).2.1 = s.2.1 + 1 := if_pos hgc
        have e2 : (stp P s).2.2.1 = ud s.2.2.1 s.2.1 (t6 P s.1 4) := if_pos hgc
        have e3 : (stp P s).2.2.2 = ud s.2.2.2 s.2.1 (t6 P s.1 0 - leY P (t6 P s.1)) := if_pos hgc
        obtain ⟨m1, m2⟩ := a4 hg
        obtain ⟨I2, hI2⟩ : ∃ I2, I2 = put (put (put I1 (72 + s.2.1) 0 (t6 P s.1 4)) (72 + s.2.1) 1 (t6 P s.1 0 - leY P (t6 P s.1))) 70 1 (nI (s.2.1 + 1)) := ⟨_, rfl⟩
        have f2 : ∀ a j, ¬ (70 ≤ a ∧ a ≤ 83) → I2 a j = I1 a j := fun a j q => by rw [hI2, pN (by omega), pN (by omega), pN (by omega)]
        obtain ⟨I3, J3, m, b1, b2, b3, b4, b5, b6⟩ := ih (i + 1) f (by omega) (by omega) I2 J1 (stp P s) (pA.of (funext fun j => f2 _ _ (by omega)) (fun q hq => funext fun j => f2 _ _ (by omega))) (a2.of (fun j _ _ => f2 _ _ (by omega))) ⟨rfl, a5.2.1, by rw [f2 _ _ (by omega)]; exact a5.2.2.1, fun i hi => by rw [f2 _ _ (by omega)]; exact a5.2.2.2 i hi⟩ h7.st (by rw [e1]; omega) (by rw [e1, hI2, pE rfl rfl]) (fun j hj => by
          rw [e1] at hj
          rw [e2, e3, hI2]
          by_cases q : j = s.2.1
          · rw [q, ud_e, ud_e]
            exact ⟨by rw [pN (by omega), pN (by omega), pE rfl rfl], by rw [pN (by omega), pE rfl rfl]⟩
          · rw [ud_n q, ud_n q]
            have er := erow j (by omega)
            exact ⟨by rw [pN (by omega), pN (by omega), pN (by omega)]; exact er.1, by rw [pN (by omega), pN (by omega), pN (by omega)]; exact er.2⟩)
        refine ⟨I3, J3, m, pre _ ?_, b2, b3, b4, fun a j q1 q2 q3 => ?_, fun a j q => ?_⟩
        · unfold fB_X10_prove_85
          rw [bI_t hg, if_neg (by decide), m1, m2, padd_s (by omega) e70, bd1_s, ← hI2, nI_1, nm_s]
          exact b1
        · rw [b5 a j q1 q2 q3, f2 a j q3, a6 a j q1 (by omega) (by omega) (by omega)]
        · rw [b6 a j q, a7 a j (fun q2 => q q2.1)]
      · have hgc : ¬ (goY P (t6 P s.1) ∧ s.2.1 < 60) := fun q => hg q.1
        have e1 : (stp P s).2.1 = s.2.1 := if_neg hgc
        have e2 : (stp P s).2.2.1 = s.2.2.1 := if_neg hgc
        have e3 : (stp P s).2.2.2 = s.2.2.2 := if_neg hgc
        obtain ⟨I3, J3, m, b1, b2, b3, b4, b5, b6⟩ := ih (i + 1) f (by omega) (by omega) I1 J1 (stp P s) pA a2 a5 h7.st (by rw [e1]; exact hc) (by rw [e1]; exact e70) (fun j hj => by
          rw [e1] at hj
          rw [e2, e3]
          exact erow j hj)
        refine ⟨I3, J3, m, pre _ ?_, b2, b3, b4, fun a j q1 q2 q3 => ?_, fun a j q => ?_⟩
        · unfold fB_X10_prove_85
          rw [bI_f hg, if_pos rfl, nI_1, nm_s]
          exact b1
        · rw [b5 a j q1 q2 q3, a6 a j q1 (by omega) (by omega) (by omega)]
        · rw [b6 a j q, a7 a j (fun q2 => q q2.1)]
theorem mprv_s {m C : Nat} {u w : Nat → Int32} {a0 : Int32} {J : HJ} (hm : m ≤ 12) (hC : m ≤ C) : ∀ d i f, i + d = m → d < f → ∀ I : HI, I 98 29 = nI m → RwM I C u w → ∃ I1, fL_X11_prove_47 a0 f (nI i) I J = some (nI m, I1, J) ∧ (∀ j, i ≤ j → j < m → I1 115 (2 * j) = u j ∧ I1 115 (2 * j + 1) = w j) ∧ ∀ a j, ¬ (a = 115 ∧ 2 * i ≤ j ∧ j < 24) → I1 a j = I a j := by
  refine fuel (L := fL_X11_prove_47 a0) (B := fLB_X11_prove_47 a0) (fun _ => rfl) (P := fun i g => ∀ I : HI, I 98 29 = nI m → RwM I C u w → ∃ I1, g (nI i) I J = some (nI m, I1, J) ∧ (∀ j, i ≤ j → j < m → I1 115 (2 * j) = u j ∧ I1 115 (2 * j + 1) = w j) ∧ ∀ a j, ¬ (a = 115 ∧ 2 * i ≤ j ∧ j < 24) → I1 a j = I a j) (fun g I h hr => ?_) (fun i g hi ih I h hr => ?_)
  · refine ⟨I, ?_, fun j h1 h2 => by omega, fun _ _ _ => rfl⟩
    unfold fLB_X11_prove_47
    rw [h, if_pos (by rw [le_nn (by omega) (by omega)]; omega)]
  · have hc := hr.1
    obtain ⟨r1, r2⟩ := hr.2.2 i (by omega)
    obtain ⟨I1, b1, b2, b3⟩ := ih (put (put I 115 (2 * i) (u i)) 115 (2 * i + 1) (w i)) (by rw [pN (by omega), pN (by omega)]; exact h) (hr.of (by rw [pN (by omega), pN (by omega)]) (by rw [put_ne _ (by omega), put_ne _ (by omega)]) (by rw [put_ne _ (by omega), put_ne _ (by omega)]))
    refine ⟨I1, ?_, fun j h1 h2 => ?_, fun a j q => ?_⟩
    · have e2 : (2 : Int32) * nI i = nI (2 * i) := by rw [N_2, nI_mul]
      unfold fLB_X11_prove_47
      rw [h, if_neg (by rw [le_nn (by omega) (by omega)]; omega), e2, nI_1, if_pos (vin_nI (by omega) (by omega)), if_pos (vin_nI (by omega) (by omega)), cl_nI (n := 2 * i) (by omega), cl_nI (n := i) (by omega), r1, nm_s, if_pos (vin_nI (by omega) (by omega)), if_pos (vin_nI (by omega) (by omega)), cl_nI (n := 2 * i + 1) (by omega), pN (show 108 ≠ 115 ∨ i ≠ 2 * i by omega), r2, nm_s, nI_1, nm_s]
      exact b1
    · by_cases e : j = i
      · subst e
        rw [b3 _ _ (by omega), b3 _ _ (by omega), pN (by omega), pE rfl rfl, pE rfl rfl]
        exact ⟨rfl, rfl⟩
      · exact b2 j (by omega) h2
    · rw [b3 a j (by omega), pN (by omega), pN (by omega)]
/-- a trial of 400 on both sides, from the tap as it is -/
theorem mfull_s {P : Pg} {x : Nat → Int32} {I : HI} {J : HJ} (hB : Both I x P) : ∃ I0 J0 I1 J1, f_X11_opens I J = some (I0, J0) ∧ HM I0 x ∧ f_X11_trial (nI 400) I0 J0 = some (I1, J1) ∧ RwM I1 (itr P 400 (x, 0, z0, z0)).2.1 (itr P 400 (x, 0, z0, z0)).2.2.1 (itr P 400 (x, 0, z0, z0)).2.2.2 ∧ (∀ a j, a ≠ 106 → a ≠ 107 → a ≠ 108 → a ≠ 109 → ¬ (a = 98 ∧ j = 11) → I1 a j = I a j) ∧ ∀ a j, a ≠ 98 → J1 a j = J a j := by
  obtain ⟨h1, h2, h3, h4, h5⟩ := hB
  obtain ⟨I0, a1, a2, a3, a4⟩ := opens_s (I := I) (J := J)
  have sA : HM I0 x := fun j hj => (a2 j hj).trans (h4 j hj)
  have pA : LwM I0 P := h2.of (funext fun j => a4 _ _ (by omega) (by omega))
  have rA : RwM I0 0 z0 z0 := ⟨by omega, a3, fun i hi => absurd hi (Nat.not_lt_zero i)⟩
  obtain ⟨I1, J1, b1, b2, b3, b4⟩ := mtr_s (P := P) (n := 400) (by omega) 400 0 FU (by omega) (FU_ge (by omega)) _ (putJ (putJ J 98 12 0) 98 13 0) (x, 0, z0, z0) pA sA rA h5
  exact ⟨I0, _, I1, J1, a1, sA, b1, b2, fun a j q1 q2 q3 q4 q5 => by rw [b3 a j q1 q2 q3 q4 q5, a4 a j q1 q5], fun a j q => by rw [b4 a j q, putJ_ap, if_neg (by omega), putJ_ap, if_neg (by omega)]⟩
theorem sim_prove {N : Nat} {I : HI} {J : HJ} (hN : N ≤ 1000000) (hR : Rel N I J) (a0 : Int32) : ∃ (r : Int32) (I1 : HI) (J1 : HJ) (I2 : HI) (J2 : HJ), f_X10_prove a0 I J = some (r, I1, J1) ∧ f_X11_prove a0 I1 J1 = some (r, I2, J2) ∧ Rel (N + 400) I2 J2 := by
  have hM := hR.mono (Nat.le_add_right N 400)
  by_cases h : nI 1 ≤ a0 ∧ a0 ≤ nI 12
  · obtain ⟨n, hn1, hn, rfl⟩ := rng_lo (by omega) (by omega) h
    have hB := both_of hR
    obtain ⟨P, hP⟩ : ∃ P : Pg, P = fun q => ((I 10 q).toNatClampNeg, I (6 + q)) := ⟨_, rfl⟩
    rw [← hP] at hB
    obtain ⟨x, hx⟩ : ∃ x, x = I 99 := ⟨_, rfl⟩
    rw [← hx] at hB
    have h1 := hB.1
    obtain ⟨IA, JA, a1, a2, a3, a4, a5⟩ := goOn_s (k := 53) (I := put I 70 1 0) (J := J) rfl (Or.inl rfl) (hB.2.2.1.of (fun j _ _ => by rw [pN (by omega)]))
    have pA : LwC IA P := h1.of (funext fun j => by rw [a4 _ _ (by omega) (by omega), pN (by omega)]) (fun q hq => funext fun j => by rw [a4 _ _ (by omega) (by omega), pN (by omega)])
    obtain ⟨IB, JB, m, b1, b2, b3, b4, b5, b6⟩ := cprv_s (P := P) hn 400 0 FU rfl (FU_ge (by omega)) IA JA (x, 0, z0, z0) pA a2 ⟨a3.1, by show 0 ≤ 60; omega, a3.2.2.1, fun i hi => absurd hi (Nat.not_lt_zero i)⟩ hB.2.2.2.2 (Nat.zero_le _) (by rw [a4 _ _ (by omega) (by omega), pE rfl rfl]; rfl) (fun j hj => absurd hj (Nat.not_lt_zero j))
    have eB : ∀ a j, a ≠ 12 → ¬ (53 ≤ a ∧ a ≤ 55) → ¬ (70 ≤ a ∧ a ≤ 83) → IB a j = I a j := fun a j q1 q2 q3 => by rw [b5 a j q1 q2 q3, a4 _ _ (by omega) (by omega), pN (by omega)]
    have hBB : Both IB x P := ⟨h1.of (funext fun j => eB _ _ (by omega) (by omega) (by omega)) (fun q hq => funext fun j => eB _ _ (by omega) (by omega) (by omega)), hB.2.1.of (funext fun j => eB _ _ (by omega) (by omega) (by omega)), hB.2.2.1.of (fun j _ _ => eB _ _ (by omega) (by omega) (by omega)), fun j hj => by rw [eB _ _ (by omega) (by omega) (by omega)]; exact hB.2.2.2.1 j hj, hB.2.2.2.2⟩
    obtain ⟨I0, J0, IC, JC, c1, c2, c3, c4, c5, c6⟩ := mfull_s (J := JB) hBB
    have hC := c4.1
    obtain ⟨ID, d1, d2, d3⟩ := mprv_s (a0 := nI n) (J := JC) (m := m) (C := (itr P 400 (x, 0, z0, z0)).2.1) (by omega) (by omega) m 0 FU (by omega) (FU_ge (by omega)) (put IC 98 29 (nI m)) (pE rfl rfl) (c4.of (by rw [pN (by omega)]) (put_ne _ (by omega)) (put_ne _ (by omega)))
    refine ⟨nI m, IB, JB, ID, JC, ?_, ?_, ?_⟩
    · unfold f_X10_prove f_X3_becomeEmpty
      rw [wi_k N_1 N_12, bd1_s, ite_bI, if_pos h, nm_s, bd1_s, a1, bd2_s]
      exact b1
    · unfold f_X11_prove fB_X11_prove_42
      rw [L_1, L_12, in_x, bd1_s, ite_bI, if_pos h, c1, bd2_s, N_400, c3, bd2_s, c4.2.1]
      by_cases hq : n ≤ (itr P 400 (x, 0, z0, z0)).2.1
      · have e : m = n := by omega
        rw [if_pos (by rw [le_nn (by omega) (by omega)]; exact hq), nm_s]
        rw [e] at d1 ⊢
        exact d1
      · have e : m = (itr P 400 (x, 0, z0, z0)).2.1 := by omega
        rw [if_neg (by rw [le_nn (by omega) (by omega)]; exact hq), nm_s, ← e]
        exact d1
    · have eD : ∀ a j, a ≠ 12 → ¬ (53 ≤ a ∧ a ≤ 55) → ¬ (70 ≤ a ∧ a ≤ 83) → ¬ (106 ≤ a ∧ a ≤ 109) → a ≠ 115 → ¬ (a = 98 ∧ (j = 11 ∨ j = 29)) → ID a j = I a j := fun a j q1 q2 q3 q4 q5 q6 => by
        rw [d3 a j (by omega), pN (by omega), c5 a j (by omega) (by omega) (by omega) (by omega) (by omega), eB a j q1 q2 q3]
      refine hR.proof (by omega) ⟨m, by omega, ?_, ?_, fun i hi => ?_⟩ (fun a j h1 h2 => eD a j (by unfold Scr at h1; omega) (by unfold Scr at h1; omega) (by omega) (by unfold Scr at h1; omega) (by omega) (by unfold Scr at h1; omega)) (fun a q1 q2 q3 => funext fun j => by rw [c6 a j q3, b6 a j q1, a5 a j q1])
      · rw [d3 _ _ (by omega), pN (by omega), c5 _ _ (by omega) (by omega) (by omega) (by omega) (by omega)]; exact b3
      · rw [d3 _ _ (by omega), pE rfl rfl]
      · obtain ⟨g1, g2⟩ := b4 i hi
        obtain ⟨k1, k2⟩ := d2 i (by omega) hi
        rw [k1, k2, d3 _ _ (by omega), pN (by omega), c5 _ _ (by omega) (by omega) (by omega) (by omega) (by omega), d3 _ _ (by omega), pN (by omega), c5 _ _ (by omega) (by omega) (by omega) (by omega) (by omega)]
        exact ⟨g1, g2⟩
  · refine ⟨-1, I, J, I, J, ?_, ?_, hM⟩
    · unfold f_X10_prove
      rw [wi_k N_1 N_12, bd1_s, ite_bI, if_neg h]
    · unfold f_X11_prove
      rw [L_1, L_12, in_x, bd1_s, ite_bI, if_neg h]

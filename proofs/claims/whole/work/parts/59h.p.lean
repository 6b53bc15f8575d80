/-! trials: the state (x, count, times, weights), tick by tick -/
abbrev Sx : Type := (Nat → Int32) × Nat × (Nat → Int32) × (Nat → Int32)
def stp (P : Pg) (s : Sx) : Sx := (tYN P (t6 P s.1), nC P (t6 P s.1) s.2.1, nU P (t6 P s.1) s.2.1 s.2.2.1, nW P (t6 P s.1) s.2.1 s.2.2.2)
def itr (P : Pg) : Nat → Sx → Sx
  | 0, s => s
  | n + 1, s => itr P n (stp P s)
def Ok7 (x : Nat → Int32) : Prop := (0 ≤ (x 0).toInt ∧ (x 0).toInt ≤ 1000000) ∧ 0 ≤ (x 7).toInt ∧ (x 7).toInt ≤ 99
theorem leY_r {P : Pg} {y : Nat → Int32} (h : 0 ≤ (y 0).toInt) : 0 ≤ (leY P y).toInt ∧ (leY P y).toInt ≤ (y 0).toInt := by
  have e0 : (nI 0).toInt = 0 := by decide
  have h2 := hld_r (v := ev P 3 y) (lo := nI 0) (hi := y 0) (by rw [i_le]; omega)
  rw [i_le, i_le] at h2
  unfold leY
  omega
theorem t6_7 {P : Pg} {x : Nat → Int32} : t6 P x 7 = x 7 := by
  have e1 : ∀ y, tsw y 7 = y 7 := fun y => by
    unfold tsw
    split
    · exact ud_n (by omega)
    · exact (ud_n (by omega)).trans (ud_n (by omega))
  have e2 : ∀ y, tsh y 7 = y 7 := fun y => by
    unfold tsh
    split
    · rfl
    · exact (ud_n (by omega)).trans (ud_n (by omega))
  unfold t6
  rw [e1]
  unfold tho
  rw [ud_n (by omega), e2]
  exact t3_7
theorem t6_4 {P : Pg} {x : Nat → Int32} : t6 P x 4 = x 4 + nI 1 := by
  have e1 : ∀ y, tsw y 4 = y 4 := fun y => by
    unfold tsw
    split
    · exact ud_n (by omega)
    · exact (ud_n (by omega)).trans (ud_n (by omega))
  have e2 : ∀ y, tsh y 4 = y 4 := fun y => by
    unfold tsh
    split
    · rfl
    · exact (ud_n (by omega)).trans (ud_n (by omega))
  unfold t6
  rw [e1]
  unfold tho
  rw [ud_n (by omega), e2]
  unfold t3
  rw [ud_n (by omega)]
  unfold t2
  rw [ud_n (by omega)]
  unfold t1
  exact ud_e _ _ _
theorem tYN_0 {P : Pg} {x : Nat → Int32} : 0 ≤ (tYN P (t6 P x) 0).toInt ∧ (tYN P (t6 P x) 0).toInt ≤ 99999 := by
  have h2 := t2_0 (P := P) (x := x)
  rw [← t6_0] at h2
  unfold tYN
  by_cases h : goY P (t6 P x)
  · rw [if_pos h]
    have h3 := leY_r (P := P) h2.1
    have e : tdr (t6 P x) (leY P (t6 P x)) 0 = leY P (t6 P x) := by
      unfold tdr
      rw [ud_n (by omega), ud_n (by omega), ud_n (by omega), ud_n (by omega), ud_e]
    rw [e]
    omega
  · rw [if_neg h]; exact h2
theorem tYN_7 {P : Pg} {x : Nat → Int32} : tYN P (t6 P x) 7 = x 7 := by
  unfold tYN
  split
  · unfold tdr
    rw [ud_n (by omega), ud_n (by omega), ud_n (by omega), ud_n (by omega), ud_n (by omega), t6_7]
  · exact t6_7
theorem Ok7.st {P : Pg} {x : Nat → Int32} (h : Ok7 x) : Ok7 (tYN P (t6 P x)) := by
  have h2 := tYN_0 (P := P) (x := x)
  refine ⟨⟨h2.1, by omega⟩, ?_⟩
  rw [tYN_7]; exact h.2
theorem itr_full {P : Pg} : ∀ n (s : Sx), 60 ≤ s.2.1 → (itr P n s).2.1 = s.2.1 ∧ (itr P n s).2.2.1 = s.2.2.1
  | 0, s, h => ⟨rfl, rfl⟩
  | n + 1, s, h => by
    have e1 : (stp P s).2.1 = s.2.1 := if_neg (fun q => by have := q.2; omega)
    have e2 : (stp P s).2.2.1 = s.2.2.1 := if_neg (fun q => by have := q.2; omega)
    have := itr_full (P := P) n (stp P s) (by rw [e1]; exact h)
    rw [e1, e2] at this
    exact this
theorem stp_mono {P : Pg} (s : Sx) : s.2.1 ≤ (stp P s).2.1 ∧ (s.2.1 ≤ 60 → (stp P s).2.1 ≤ 60) ∧ ∀ j, j < s.2.1 → (stp P s).2.2.1 j = s.2.2.1 j ∧ (stp P s).2.2.2 j = s.2.2.2 j := by
  by_cases h : goY P (t6 P s.1) ∧ s.2.1 < 60
  · have e1 : (stp P s).2.1 = s.2.1 + 1 := if_pos h
    have e2 : (stp P s).2.2.1 = ud s.2.2.1 s.2.1 (t6 P s.1 4) := if_pos h
    have e3 : (stp P s).2.2.2 = ud s.2.2.2 s.2.1 (t6 P s.1 0 - leY P (t6 P s.1)) := if_pos h
    rw [e1, e2, e3]
    exact ⟨by omega, fun _ => by omega, fun j hj => ⟨ud_n (by omega), ud_n (by omega)⟩⟩
  · have e1 : (stp P s).2.1 = s.2.1 := if_neg h
    have e2 : (stp P s).2.2.1 = s.2.2.1 := if_neg h
    have e3 : (stp P s).2.2.2 = s.2.2.2 := if_neg h
    rw [e1, e2, e3]
    exact ⟨Nat.le_refl _, fun q => q, fun j hj => ⟨rfl, rfl⟩⟩
theorem itr_mono {P : Pg} : ∀ n (s : Sx), s.2.1 ≤ (itr P n s).2.1 ∧ (s.2.1 ≤ 60 → (itr P n s).2.1 ≤ 60) ∧ ∀ j, j < s.2.1 → (itr P n s).2.2.1 j = s.2.2.1 j ∧ (itr P n s).2.2.2 j = s.2.2.2 j
  | 0, s => ⟨Nat.le_refl _, fun q => q, fun _ _ => ⟨rfl, rfl⟩⟩
  | n + 1, s => by
    obtain ⟨a1, a2, a3⟩ := stp_mono (P := P) s
    obtain ⟨b1, b2, b3⟩ := itr_mono (P := P) n (stp P s)
    refine ⟨Nat.le_trans a1 b1, fun q => b2 (a2 q), fun j hj => ?_⟩
    have h1 := a3 j hj
    have h2 := b3 j (by omega)
    exact ⟨h2.1.trans h1.1, h2.2.trans h1.2⟩
/-- the class's trial -/
theorem fill_s {k n : Nat} {P : Pg} (hk : oK k = 6) (hkl : k = 1 ∨ k = 53 ∨ k = 56) (hn : n ≤ 400) : ∀ d i f, i + d = n → d < f → ∀ (I : HI) (J : HJ) (s : Sx), LwC I P → HS k I s.1 → Row I (k + 1) s.2.1 s.2.2.1 → Ok7 s.1 → ∃ I1 J1, fL_X7_fillRow_2 k (nI n) 4 f (nI i) I J = some (I1, J1) ∧ Row I1 (k + 1) (itr P d s).2.1 (itr P d s).2.2.1 ∧ (∀ a j, a ≠ 12 → a ≠ k → a ≠ k + 1 → a ≠ k + 2 → I1 a j = I a j) ∧ ∀ a j, a ≠ k → J1 a j = J a j := by
  have r0 : rfn k 0 = k + 1 := (lay6 hk).1
  intro d
  induction d with
  | zero =>
    intro i f hi hf I J s hP hS hr h7
    obtain ⟨f, rfl⟩ : ∃ g, f = g + 1 := ⟨f - 1, by omega⟩
    refine ⟨I, J, ?_, hr, fun _ _ _ _ _ _ => rfl, fun _ _ _ => rfl⟩
    show fLB_X7_fillRow_2 k (nI n) 4 _ (nI i) I J = _
    unfold fLB_X7_fillRow_2
    rw [if_pos (by rw [le_nn (by omega) (by omega)]; omega)]
  | succ d ih =>
    intro i f hi hf I J s hP hS hr h7
    obtain ⟨f, rfl⟩ : ∃ g, f = g + 1 := ⟨f - 1, by omega⟩
    have hc := hr.2.1
    by_cases hfull : s.2.1 < 60
    · obtain ⟨I1, J1, a1, a2, a3, a4, a5, a6, a7⟩ := ctick_s (J := J) hk hkl hP hS hr h7.1 h7.2
      have pA : LwC I1 P := hP.of (funext fun j => a6 _ _ (by omega) (by omega) (by omega) (by omega)) (fun q hq => funext fun j => a6 _ _ (by omega) (by omega) (by omega) (by omega))
      obtain ⟨I2, J2, b1, b2, b3, b4⟩ := ih (i + 1) f (by omega) (by omega) I1 J1 (stp P s) pA a2 a5 h7.st
      refine ⟨I2, J2, ?_, b2, fun a j q1 q2 q3 q4 => ?_, fun a j q => ?_⟩
      · show fLB_X7_fillRow_2 k (nI n) 4 (fL_X7_fillRow_2 k (nI n) 4 f) (nI i) I J = _
        unfold fLB_X7_fillRow_2 f_X9_isFull
        rw [if_neg (by rw [le_nn (by omega) (by omega)]; omega), r0, hr.2.2.1, if_pos (by rw [N_60, lt_nn (by omega) (by omega)]; exact hfull), bd1_s, if_pos rfl, a1, bd3_s, nI_1, nm_s]
        exact b1
      · rw [b3 a j q1 q2 q3 q4, a6 a j q1 q3 q4 (fun q => q2 q.1)]
      · rw [b4 a j q, a7 a j (fun q2 => q q2.1)]
    · obtain ⟨e1, e2⟩ := itr_full (P := P) (d + 1) s (by omega)
      refine ⟨I, J, ?_, by rw [e1, e2]; exact hr, fun _ _ _ _ _ _ => rfl, fun _ _ _ => rfl⟩
      show fLB_X7_fillRow_2 k (nI n) 4 (fL_X7_fillRow_2 k (nI n) 4 f) (nI i) I J = _
      unfold fLB_X7_fillRow_2 f_X9_isFull
      rw [if_neg (by rw [le_nn (by omega) (by omega)]; omega), r0, hr.2.2.1, if_neg (by rw [N_60, lt_nn (by omega) (by omega)]; exact hfull), bd1_s, if_neg (by decide)]
/-- the model's trial -/
theorem mtr_s {n : Nat} {P : Pg} (hn : n ≤ 400) : ∀ d i f, i + d = n → d < f → ∀ (I : HI) (J : HJ) (s : Sx), LwM I P → HM I s.1 → RwM I s.2.1 s.2.2.1 s.2.2.2 → Ok7 s.1 → ∃ I1 J1, fL_X11_trial_2 (nI n) f (nI i) I J = some (I1, J1) ∧ RwM I1 (itr P d s).2.1 (itr P d s).2.2.1 (itr P d s).2.2.2 ∧ (∀ a j, a ≠ 106 → a ≠ 107 → a ≠ 108 → a ≠ 109 → ¬ (a = 98 ∧ j = 11) → I1 a j = I a j) ∧ ∀ a j, a ≠ 98 → J1 a j = J a j := by
  intro d
  induction d with
  | zero =>
    intro i f hi hf I J s hP hS hr h7
    obtain ⟨f, rfl⟩ : ∃ g, f = g + 1 := ⟨f - 1, by omega⟩
    refine ⟨I, J, ?_, hr, fun _ _ _ _ _ _ _ => rfl, fun _ _ _ => rfl⟩
    show fLB_X11_trial_2 (nI n) _ (nI i) I J = _
    unfold fLB_X11_trial_2
    rw [if_pos (by rw [le_nn (by omega) (by omega)]; omega)]
  | succ d ih =>
    intro i f hi hf I J s hP hS hr h7
    obtain ⟨f, rfl⟩ : ∃ g, f = g + 1 := ⟨f - 1, by omega⟩
    obtain ⟨I1, J1, a1, a2, a3, a4, a5, a6⟩ := mtick_s (J := J) hP hS hr h7.2
    obtain ⟨I2, J2, b1, b2, b3, b4⟩ := ih (i + 1) f (by omega) (by omega) I1 J1 (stp P s) (hP.of (funext fun j => a4 _ _ (by omega) (by omega) (by omega) (by omega) (by omega))) a2 a3 h7.st
    refine ⟨I2, J2, ?_, b2, fun a j q1 q2 q3 q4 q5 => ?_, fun a j q => ?_⟩
    · show fLB_X11_trial_2 (nI n) (fL_X11_trial_2 (nI n) f) (nI i) I J = _
      unfold fLB_X11_trial_2
      rw [if_neg (by rw [le_nn (by omega) (by omega)]; omega), a1, bd2_s, nI_1, nm_s]
      exact b1
    · rw [b3 a j q1 q2 q3 q4 q5, a4 a j q1 q2 q3 q4 q5]
    · rw [b4 a j q, a6 a j (fun q2 => q q2.1)]
theorem opens_s {I : HI} {J : HJ} : ∃ I1, f_X11_opens I J = some (I1, putJ (putJ J 98 12 0) 98 13 0) ∧ HM I1 (I 99) ∧ I1 98 11 = nI 0 ∧ ∀ a j, a ≠ 106 → ¬ (a = 98 ∧ j = 11) → I1 a j = I a j := by
  have key : ∀ d i f, i + d = 9 → d < f → ∀ I : HI, ∃ I1, fL_X11_opens_2 f (nI i) I J = some (I1, putJ (putJ J 98 12 0) 98 13 0) ∧ (∀ j, i ≤ j → j < 9 → I1 106 j = I 99 j) ∧ I1 98 11 = nI 0 ∧ ∀ a j, ¬ (a = 106 ∧ i ≤ j ∧ j < 9) → ¬ (a = 98 ∧ j = 11) → I1 a j = I a j := by
    refine fuel (L := fL_X11_opens_2) (B := fLB_X11_opens_2) (fun _ => rfl) (P := fun i g => ∀ I : HI, ∃ I1, g (nI i) I J = some (I1, putJ (putJ J 98 12 0) 98 13 0) ∧ (∀ j, i ≤ j → j < 9 → I1 106 j = I 99 j) ∧ I1 98 11 = nI 0 ∧ ∀ a j, ¬ (a = 106 ∧ i ≤ j ∧ j < 9) → ¬ (a = 98 ∧ j = 11) → I1 a j = I a j) (fun g I => ?_) (fun i g hi ih I => ?_)
    · refine ⟨put I 98 11 0, ?_, fun j h1 h2 => by omega, pE rfl rfl, fun a j h1 h2 => pN (by omega)⟩
      unfold fLB_X11_opens_2
      rw [if_pos (by decide), nm_s, nm_s, nm_s]
    · obtain ⟨I1, h1, h2, h3, h4⟩ := ih (put I 106 i (I 99 i))
      refine ⟨I1, ?_, fun j q1 q2 => ?_, h3, fun a j q1 q2 => ?_⟩
      · unfold fLB_X11_opens_2
        rw [if_neg (by rw [N_9, le_nn (by omega) (by omega)]; omega), if_pos (vin_nI (by omega) (by omega)), if_pos (vin_nI (by omega) (by omega)), cl_nI (by omega), nm_s, nI_1, nm_s]
        exact h1
      · by_cases e : j = i
        · subst e
          rw [h4 _ _ (by omega) (by omega), pE rfl rfl]
        · rw [h2 j (by omega) q2, pN (by omega)]
      · rw [h4 a j (by omega) q2, pN (by omega)]
  obtain ⟨I1, h1, h2, h3, h4⟩ := key 9 0 FU rfl (FU_ge (by omega)) I
  exact ⟨I1, h1, fun j hj => h2 j (by omega) hj, h3, fun a j q1 q2 => h4 a j (by omega) q2⟩
theorem goOn_s {k : Nat} {I : HI} {J : HJ} {x : Nat → Int32} (hk : oK k = 6) (hkl : k = 53 ∨ k = 56) (hS : HS 1 I x) : ∃ I1 J1, f_X7_goOnFrom k 1 I J = some (I1, J1) ∧ HS k I1 x ∧ Row I1 (k + 1) 0 (fun _ => 0) ∧ (∀ a j, ¬ (a = k ∧ 1 ≤ j ∧ j ≤ 12) → ¬ (a = k + 1 ∧ j = 1) → I1 a j = I a j) ∧ ∀ a j, a ≠ k → J1 a j = J a j := by
  have r0 : rfn k 0 = k + 1 := (lay6 hk).1
  have s0 := hS 0 (by omega)
  have s1 := hS 1 (by omega)
  have s2 := hS 2 (by omega)
  have s3 := hS 3 (by omega)
  have s4 := hS 4 (by omega)
  have s5 := hS 5 (by omega)
  have s6 := hS 6 (by omega)
  have s7 := hS 7 (by omega)
  have s8 := hS 8 (by omega)
  obtain ⟨Ia, hIa⟩ : ∃ Ia, Ia = put (put (put (put (put (put (put (put (put I k 1 (x 0)) k 2 (x 1)) k 3 (x 2)) k 4 (x 3)) k 5 (x 4)) k 6 (x 5)) k 7 (x 6)) k 8 (x 7)) k 9 (x 8) := ⟨_, rfl⟩
  have sA : HS k Ia x := fun j hj => by
    have hj9 : j = 0 ∨ j = 1 ∨ j = 2 ∨ j = 3 ∨ j = 4 ∨ j = 5 ∨ j = 6 ∨ j = 7 ∨ j = 8 := by omega
    rw [hIa]
    rcases hj9 with rfl | rfl | rfl | rfl | rfl | rfl | rfl | rfl | rfl <;> simp (disch := omega) only [pE, pN]
  have eA : ∀ a j, ¬ (a = k ∧ 1 ≤ j ∧ j ≤ 9) → Ia a j = I a j := fun a j q => by
    rw [hIa, pN (by omega), pN (by omega), pN (by omega), pN (by omega), pN (by omega), pN (by omega), pN (by omega), pN (by omega), pN (by omega)]
  refine ⟨put (put Ia k 12 (I 1 12)) (k + 1) 1 (nI 0), putJ (putJ J k 10 (J 1 10)) k 11 (putJ J k 10 (J 1 10) 1 11), ?_, sA.of (fun j q1 q2 => by rw [pN (by omega), pN (by omega)]), ⟨(lay6 hk).2, by omega, pE rfl rfl, fun i hi => absurd hi (Nat.not_lt_zero i)⟩, fun a j q1 q2 => by rw [pN (by omega), pN (by omega), eA _ _ (by omega)], fun a j q => by rw [putJ_ap, if_neg (by omega), putJ_ap, if_neg (by omega)]⟩
  have t0 : I 1 1 = x 0 := s0
  have t1 : I 1 2 = x 1 := s1
  have t2 : I 1 3 = x 2 := s2
  have t3 : I 1 4 = x 3 := s3
  have t4 : I 1 5 = x 4 := s4
  have t5 : I 1 6 = x 5 := s5
  have t6 : I 1 7 = x 6 := s6
  have t7 : I 1 8 = x 7 := s7
  have t8 : I 1 9 = x 8 := s8
  unfold f_X7_goOnFrom f_X9_becomeEmpty
  rw [hIa]
  simp (disch := omega) only [nm_s, bd1_s, N_0, pE, pN, t0, t1, t2, t3, t4, t5, t6, t7, t8, r0]
/-- what both sides start a trial from -/
def Both (I : HI) (x : Nat → Int32) (P : Pg) : Prop := LwC I P ∧ LwM I P ∧ HS 1 I x ∧ (∀ j, j < 9 → I 99 j = x j) ∧ Ok7 x
theorem both_of {N : Nat} {I : HI} {J : HJ} (hR : Rel N I J) : Both I (I 99) (fun q => ((I 10 q).toNatClampNeg, I (6 + q))) := by
  obtain ⟨t1, -, -, t4, t5, t6⟩ := hR.1
  have hl : ∀ q, q < 4 → ∃ n fr, n ≤ 200 ∧ I 10 q = nI n ∧ hgt (I (6 + q)) n 0 1 ∧ fr + n ≤ 220 ∧ I 99 (438 + 2 * q) = nI fr ∧ I 99 (439 + 2 * q) = nI (fr + n) ∧ (∀ i, i < n → I 99 (446 + fr + i) = trC (I (6 + q) i)) := fun q hq => by
    obtain ⟨n, fr, b1, b2, b3, b4, b5, b6, b7, b8⟩ := hR.2.1.1 q hq
    exact ⟨n, fr, b1, b2, b3, b4, b5, b6, b7⟩
  refine ⟨fun q hq => ?_, fun q hq => ?_, fun j hj => t1 j hj, fun _ _ => rfl, ⟨⟨t4.1, by omega⟩, t6⟩⟩
  · obtain ⟨n, fr, b1, b2, b3, b4, b5, b6, b7⟩ := hl q hq
    have e : (I 10 q).toNatClampNeg = n := by rw [b2, cl_nI (by omega)]
    refine ⟨by show (I 10 q).toNatClampNeg ≤ 200; rw [e]; exact b1, ?_, fun i _ => rfl, ?_⟩
    · show I 10 q = nI (I 10 q).toNatClampNeg
      rw [e]; exact b2
    · show hgt (I (6 + q)) (I 10 q).toNatClampNeg 0 1
      rw [e]; exact b3
  · obtain ⟨n, fr, b1, b2, b3, b4, b5, b6, b7⟩ := hl q hq
    have e : (I 10 q).toNatClampNeg = n := by rw [b2, cl_nI (by omega)]
    show (I 10 q).toNatClampNeg ≤ 200 ∧ hgt (I (6 + q)) (I 10 q).toNatClampNeg 0 1 ∧ ∃ fr, fr + (I 10 q).toNatClampNeg ≤ 220 ∧ I 99 (438 + 2 * q) = nI fr ∧ I 99 (439 + 2 * q) = nI (fr + (I 10 q).toNatClampNeg) ∧ ∀ i, i < (I 10 q).toNatClampNeg → I 99 (446 + fr + i) = trC (I (6 + q) i)
    rw [e]
    exact ⟨b1, b3, fr, b4, b5, b6, b7⟩
theorem Both.of {I I2 : HI} {x : Nat → Int32} {P : Pg} (h : Both I x P) (e : ∀ a j, ¬ Scr a j → I2 a j = I a j) : Both I2 x P := by
  obtain ⟨h1, h2, h3, h4, h5⟩ := h
  refine ⟨h1.of (funext fun j => e _ _ (by unfold Scr; omega)) (fun q hq => funext fun j => e _ _ (by unfold Scr; omega)), h2.of (funext fun j => e _ _ (by unfold Scr; omega)), fun j hj => ?_, fun j hj => ?_, h5⟩
  · rw [e _ _ (by unfold Scr; omega)]; exact h3 j hj
  · rw [e _ _ (by unfold Scr; omega)]; exact h4 j hj

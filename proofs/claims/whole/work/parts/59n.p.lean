def flA (P : Pg) : Nat → (Nat → Int32) → Int64
  | 0, _ => 0
  | n + 1, x => (tFl P x).toInt64 + flA P n (tYN P (t6 P x))
def drA (P : Pg) : Nat → (Nat → Int32) → Int64
  | 0, _ => 0
  | n + 1, x => tYD P (t6 P x) + drA P n (tYN P (t6 P x))
def Sv (M : Nat) (s : Sx) : Prop := (0 ≤ (s.1 0).toInt ∧ (s.1 0).toInt ≤ 99999) ∧ (0 ≤ (s.1 4).toInt ∧ (s.1 4).toInt ≤ M) ∧ (0 ≤ (s.1 7).toInt ∧ (s.1 7).toInt ≤ 99) ∧ ∀ i, i < s.2.1 → 0 ≤ (s.2.2.1 i).toInt
theorem Sv.st {M : Nat} {P : Pg} {s : Sx} (h : Sv M s) (hM : M ≤ 100000000) : Sv (M + 1) (stp P s) := by
  obtain ⟨h0, h4, h7, hu⟩ := h
  have e4 : (t6 P s.1 4).toInt = (s.1 4).toInt + 1 := by
    have e1 : (nI 1).toInt = 1 := by decide
    rw [t6_4, i_add (by omega) (by omega), e1]
  refine ⟨tYN_0, ?_, ?_, fun i hi => ?_⟩
  · show 0 ≤ (tYN P (t6 P s.1) 4).toInt ∧ (tYN P (t6 P s.1) 4).toInt ≤ (M + 1 : Nat)
    unfold tYN
    by_cases hg : goY P (t6 P s.1)
    · rw [if_pos hg]
      have e : tdr (t6 P s.1) (leY P (t6 P s.1)) 4 = nI 0 := by
        unfold tdr
        rw [ud_n (by omega), ud_e]
      have e0 : (nI 0).toInt = 0 := by decide
      rw [e, e0]
      omega
    · rw [if_neg hg, e4]
      omega
  · show 0 ≤ (tYN P (t6 P s.1) 7).toInt ∧ _
    rw [show (stp P s).1 7 = tYN P (t6 P s.1) 7 from rfl, tYN_7]
    exact h7
  · by_cases hg : goY P (t6 P s.1) ∧ s.2.1 < 60
    · have e1 : (stp P s).2.1 = s.2.1 + 1 := if_pos hg
      have e2 : (stp P s).2.2.1 = ud s.2.2.1 s.2.1 (t6 P s.1 4) := if_pos hg
      rw [e1] at hi
      rw [e2]
      by_cases q : i = s.2.1
      · rw [q, ud_e, e4]; omega
      · rw [ud_n q]; exact hu i (by omega)
    · have e1 : (stp P s).2.1 = s.2.1 := if_neg hg
      have e2 : (stp P s).2.2.1 = s.2.2.1 := if_neg hg
      rw [e1] at hi
      rw [e2]
      exact hu i hi
theorem Sv.it {P : Pg} : ∀ (n M : Nat) (s : Sx), M + n ≤ 100000000 → Sv M s → Sv (M + n) (itr P n s)
  | 0, M, s, _, h => h
  | n + 1, M, s, hM, h => by
    have := Sv.it (P := P) n (M + 1) (stp P s) (by omega) (h.st (by omega))
    rw [show M + 1 + n = M + (n + 1) by omega] at this
    exact this
theorem Sv.ok {M : Nat} {s : Sx} (h : Sv M s) : Ok7 s.1 := ⟨⟨h.1.1, by have := h.1.2; omega⟩, h.2.2.1⟩
theorem crun_s {n : Nat} {b : Int32} {P : Pg} (hn : n ≤ 400) : ∀ d i f, i + d = n → d < f → ∀ (I : HI) (J : HJ) (s : Sx), LwC I P → HS 1 I s.1 → Row I 2 s.2.1 s.2.2.1 → Ok7 s.1 → ∃ I1 J1, fL_X10_run_23 (nI n) f b (nI i) I J = some ((itr P d s).1 5 - b, I1, J1) ∧ HS 1 I1 (itr P d s).1 ∧ Row I1 2 (itr P d s).2.1 (itr P d s).2.2.1 ∧ (J1 1 10 = J 1 10 + flA P d s.1 ∧ J1 1 11 = J 1 11 + drA P d s.1) ∧ (∀ a j, a ≠ 12 → a ≠ 2 → a ≠ 3 → ¬ (a = 1 ∧ (j ≤ 9 ∨ j = 13 ∨ j = 14)) → I1 a j = I a j) ∧ ∀ a j, ¬ (a = 1 ∧ (j = 10 ∨ j = 11)) → J1 a j = J a j := by
  intro d
  induction d with
  | zero =>
    intro i f hi hf I J s hP hS hr h7
    obtain ⟨f, rfl⟩ : ∃ g, f = g + 1 := ⟨f - 1, by omega⟩
    have e6 : I 1 6 = s.1 5 := hS 5 (by omega)
    refine ⟨I, J, ?_, hS, hr, ⟨(Int64.add_zero _).symm, (Int64.add_zero _).symm⟩, fun _ _ _ _ _ _ => rfl, fun _ _ _ => rfl⟩
    show fLB_X10_run_23 (nI n) _ b (nI i) I J = some (s.1 5 - b, I, J)
    unfold fLB_X10_run_23
    rw [if_pos (by rw [le_nn (by omega) (by omega)]; omega), e6]
  | succ d ih =>
    intro i f hi hf I J s hP hS hr h7
    obtain ⟨f, rfl⟩ : ∃ g, f = g + 1 := ⟨f - 1, by omega⟩
    obtain ⟨I1, J1, a1, a2, a3, a4, a5, a6, a7⟩ := ctick_s (J := J) rfl (Or.inl rfl) hP hS hr h7.1 h7.2
    have pA : LwC I1 P := hP.of (funext fun j => a6 _ _ (by omega) (by omega) (by omega) (by omega)) (fun q hq => funext fun j => a6 _ _ (by omega) (by omega) (by omega) (by omega))
    obtain ⟨I2, J2, b1, b2, b3, b4, b5, b6⟩ := ih (i + 1) f (by omega) (by omega) I1 J1 (stp P s) pA a2 a5 h7.st
    refine ⟨I2, J2, ?_, b2, b3, ⟨?_, ?_⟩, fun a j q1 q2 q3 q4 => ?_, fun a j q => ?_⟩
    · show fLB_X10_run_23 (nI n) (fL_X10_run_23 (nI n) f) b (nI i) I J = _
      unfold fLB_X10_run_23
      rw [if_neg (by rw [le_nn (by omega) (by omega)]; omega), a1, bd3_s, nI_1, nm_s]
      exact b1
    · rw [b4.1, a3.1, Int64.add_assoc]
      rfl
    · rw [b4.2, a3.2, Int64.add_assoc]
      rfl
    · rw [b5 a j q1 q2 q3 q4, a6 a j q1 q2 q3 q4]
    · rw [b6 a j q, a7 a j q]
theorem LwM.of2 {I I2 : HI} {P : Pg} (h : LwM I P) (e : ∀ j, 438 ≤ j → j < 666 → I2 99 j = I 99 j) : LwM I2 P := fun q hq => by
  obtain ⟨p1, p2, fr, p3, p4, p5, p6⟩ := h q hq
  refine ⟨p1, p2, fr, p3, ?_, ?_, fun i hi => ?_⟩
  · rw [e _ (by omega) (by omega)]; exact p4
  · rw [e _ (by omega) (by omega)]; exact p5
  · rw [e _ (by omega) (by omega)]; exact p6 i hi
theorem mrun_s {a0 b : Int32} {P : Pg} : ∀ d, d ≤ 400 → ∀ f, d < f → ∀ (I : HI) (J : HJ) (s : Sx), s.2.1 ≤ 60 → LwM I P → HM I s.1 → I 98 11 = nI 0 → I 99 9 = nI s.2.1 → (∀ j, j < s.2.1 → I 99 (12 + j) = s.2.2.1 j) → Ok7 s.1 → ∃ I1 J1, fL_X11_run_27 a0 f b (nI d) I J = fL_X11_run_100 a0 FU b (nI 0) I1 J1 ∧ HM I1 (itr P d s).1 ∧ I1 99 9 = nI (itr P d s).2.1 ∧ (∀ j, j < (itr P d s).2.1 → I1 99 (12 + j) = (itr P d s).2.2.1 j) ∧ (J1 98 12 = J 98 12 + flA P d s.1 ∧ J1 98 13 = J 98 13 + drA P d s.1) ∧ (∀ a j, ¬ (106 ≤ a ∧ a ≤ 109) → ¬ (a = 98 ∧ j = 11) → ¬ (a = 99 ∧ (j = 9 ∨ (12 ≤ j ∧ j < 72))) → I1 a j = I a j) ∧ ∀ a j, ¬ (a = 98 ∧ (j = 12 ∨ j = 13)) → J1 a j = J a j := by
  intro d
  induction d with
  | zero =>
    intro hd f hf I J s hc hP hS h11 h9 hu h7
    obtain ⟨f, rfl⟩ : ∃ g, f = g + 1 := ⟨f - 1, by omega⟩
    refine ⟨I, J, ?_, hS, h9, hu, ⟨(Int64.add_zero _).symm, (Int64.add_zero _).symm⟩, fun _ _ _ _ _ => rfl, fun _ _ _ => rfl⟩
    show fLB_X11_run_27 a0 _ b (nI 0) I J = _
    unfold fLB_X11_run_27
    rw [if_pos (by decide), N_0]
  | succ d ih =>
    intro hd f hf I J s hc hP hS h11 h9 hu h7
    obtain ⟨f, rfl⟩ : ∃ g, f = g + 1 := ⟨f - 1, by omega⟩
    obtain ⟨I1, J1, a1, a2, a3, a4, a5, a6⟩ := mtick_s (c := 0) (u := z0) (w := z0) (J := J) hP hS ⟨by omega, h11, fun i hi => absurd hi (Nat.not_lt_zero i)⟩ h7.2
    have e9 : I1 99 9 = nI s.2.1 := by rw [a4 _ _ (by omega) (by omega) (by omega) (by omega) (by omega)]; exact h9
    have eu : ∀ j, j < s.2.1 → I1 99 (12 + j) = s.2.2.1 j := fun j hj => by rw [a4 _ _ (by omega) (by omega) (by omega) (by omega) (by omega)]; exact hu j hj
    have pA : LwM I1 P := hP.of2 (fun j _ _ => a4 _ _ (by omega) (by omega) (by omega) (by omega) (by omega))
    -- what the rest does from a heap I2
    have rest : ∀ I2 : HI, HM I2 (stp P s).1 → I2 98 11 = nI 0 → I2 99 9 = nI (stp P s).2.1 → (∀ j, j < (stp P s).2.1 → I2 99 (12 + j) = (stp P s).2.2.1 j) → (∀ a j, ¬ (a = 98 ∧ j = 11) → ¬ (a = 99 ∧ (j = 9 ∨ (12 ≤ j ∧ j < 72))) → I2 a j = I1 a j) → fLB_X11_run_27 a0 (fL_X11_run_27 a0 f) b (nI (d + 1)) I J = fL_X11_run_27 a0 f b (nI d) I2 J1 → ∃ I3 J3, fL_X11_run_27 a0 (f + 1) b (nI (d + 1)) I J = fL_X11_run_100 a0 FU b (nI 0) I3 J3 ∧ HM I3 (itr P (d + 1) s).1 ∧ I3 99 9 = nI (itr P (d + 1) s).2.1 ∧ (∀ j, j < (itr P (d + 1) s).2.1 → I3 99 (12 + j) = (itr P (d + 1) s).2.2.1 j) ∧ (J3 98 12 = J 98 12 + flA P (d + 1) s.1 ∧ J3 98 13 = J 98 13 + drA P (d + 1) s.1) ∧ (∀ a j, ¬ (106 ≤ a ∧ a ≤ 109) → ¬ (a = 98 ∧ j = 11) → ¬ (a = 99 ∧ (j = 9 ∨ (12 ≤ j ∧ j < 72))) → I3 a j = I a j) ∧ ∀ a j, ¬ (a = 98 ∧ (j = 12 ∨ j = 13)) → J3 a j = J a j := by
      intro I2 g1 g2 g3 g4 g5 g6
      obtain ⟨I3, J3, b1, b2, b3, b4, b5, b6, b7⟩ := ih (by omega) f (by omega) I2 J1 (stp P s) ((stp_mono s).2.1 hc) (pA.of2 (fun j _ _ => g5 _ _ (by omega) (by omega))) g1 g2 g3 g4 h7.st
      refine ⟨I3, J3, g6.trans b1, b2, b3, b4, ⟨?_, ?_⟩, fun a j q1 q2 q3 => ?_, fun a j q => ?_⟩
      · rw [b5.1, a5.1, Int64.add_assoc]
        rfl
      · rw [b5.2, a5.2, Int64.add_assoc]
        rfl
      · rw [b6 a j q1 q2 q3, g5 a j q2 q3, a4 a j (by omega) (by omega) (by omega) (by omega) q2]
      · rw [b7 a j q, a6 a j q]
    have pd : nI (d + 1) + (-1 : Int32) = nI d := prd1 d
    have go1 : fLB_X11_run_27 a0 (fL_X11_run_27 a0 f) b (nI (d + 1)) I J = if (I1 98 11) ≤ 0 then fL_X11_run_27 a0 f b (nI d) I1 J1 else (if 60 ≤ I1 99 9 then fB_X11_run_89 a0 (fL_X11_run_27 a0 f) b (nI d) I1 J1 else fB_X11_run_89 a0 (fL_X11_run_27 a0 f) b (nI d) (put (put I1 99 (12 + s.2.1) (I1 107 0)) 99 9 (nI (s.2.1 + 1))) J1) := by
      unfold fLB_X11_run_27
      rw [if_neg (by rw [N_0, le_nn (by omega) (by omega)]; omega), a1, bd2_s, pd, nm_s]
      have v9 : vin 9 666 = true := vin_nI (n := 9) (by omega) (by omega)
      have v0 : vin 0 60 = true := vin_nI (n := 0) (by omega) (by omega)
      have c9 : (9 : Int32).toNatClampNeg = 9 := rfl
      have c0 : (0 : Int32).toNatClampNeg = 0 := rfl
      have e12 : (12 : Int32) + nI s.2.1 = nI (12 + s.2.1) := by rw [N_12, nI_add]
      rw [if_pos v9, if_pos v9, if_pos v0, c9, c0, e9, e12, if_pos (vin_nI (by omega) (by omega)), cl_nI (by omega), nm_s, if_pos v9, if_pos v9, pN (show 99 ≠ 99 ∨ 9 ≠ 12 + s.2.1 by omega), e9, nI_1, nm_s]
    by_cases hg : goY P (t6 P s.1)
    · have f11 : I1 98 11 = nI 1 := by
        have := a3.2.1
        have e : nC P (t6 P s.1) 0 = 1 := if_pos ⟨hg, by omega⟩
        rw [e] at this
        exact this
      have f0 : I1 107 0 = t6 P s.1 4 := by
        have h1 : nC P (t6 P s.1) 0 = 1 := if_pos ⟨hg, by omega⟩
        have h2 := (a3.2.2 0 (by rw [h1]; omega)).1
        have h3 : nU P (t6 P s.1) 0 z0 = ud z0 0 (t6 P s.1 4) := if_pos ⟨hg, by omega⟩
        rw [h3, ud_e] at h2
        exact h2
      rw [f11, if_neg (by decide), e9, f0] at go1
      by_cases hc6 : s.2.1 < 60
      · have hgc : goY P (t6 P s.1) ∧ s.2.1 < 60 := ⟨hg, hc6⟩
        have e1 : (stp P s).2.1 = s.2.1 + 1 := if_pos hgc
        have e2 : (stp P s).2.2.1 = ud s.2.2.1 s.2.1 (t6 P s.1 4) := if_pos hgc
        rw [if_neg (by rw [N_60, le_nn (by omega) (by omega)]; omega)] at go1
        unfold fB_X11_run_89 at go1
        rw [nm_s] at go1
        refine rest (put (put (put I1 99 (12 + s.2.1) (t6 P s.1 4)) 99 9 (nI (s.2.1 + 1))) 98 11 0) (a2.of (by rw [put_ne _ (by omega), put_ne _ (by omega), put_ne _ (by omega)])) (pE rfl rfl) (by rw [pN (by omega), pE rfl rfl, e1]) (fun j hj => ?_) (fun a j q1 q2 => by rw [pN (by omega), pN (by omega), pN (by omega)]) go1
        rw [e1] at hj
        rw [e2, pN (by omega), pN (by omega)]
        by_cases q : j = s.2.1
        · rw [q, pE rfl rfl, ud_e]
        · rw [pN (by omega), ud_n q]; exact eu j (by omega)
      · have hgc : ¬ (goY P (t6 P s.1) ∧ s.2.1 < 60) := fun q => hc6 q.2
        have e1 : (stp P s).2.1 = s.2.1 := if_neg hgc
        have e2 : (stp P s).2.2.1 = s.2.2.1 := if_neg hgc
        rw [if_pos (by rw [N_60, le_nn (by omega) (by omega)]; omega)] at go1
        unfold fB_X11_run_89 at go1
        rw [nm_s] at go1
        refine rest (put I1 98 11 0) (a2.of (by rw [put_ne _ (by omega)])) (pE rfl rfl) (by rw [pN (by omega), e1]; exact e9) (fun j hj => ?_) (fun a j q1 q2 => by rw [pN (by omega)]) go1
        rw [e1] at hj
        rw [e2, pN (by omega)]
        exact eu j hj
    · have f11 : I1 98 11 = nI 0 := by
        have := a3.2.1
        have e : nC P (t6 P s.1) 0 = 0 := if_neg (fun q => hg q.1)
        rw [e] at this
        exact this
      have hgc : ¬ (goY P (t6 P s.1) ∧ s.2.1 < 60) := fun q => hg q.1
      have e1 : (stp P s).2.1 = s.2.1 := if_neg hgc
      have e2 : (stp P s).2.2.1 = s.2.2.1 := if_neg hgc
      rw [f11, if_pos (by decide)] at go1
      exact rest I1 a2 f11 (by rw [e1]; exact e9) (fun j hj => by rw [e1] at hj; rw [e2]; exact eu j hj) (fun a j q1 q2 => rfl) go1
theorem mcpy_s {a0 b : Int32} {J : HJ} : ∀ d i f, i + d = 9 → d < f → ∀ I : HI, ∃ I1, fL_X11_run_100 a0 f b (nI i) I J = some (I1 99 5 - b, I1, putJ (putJ J 101 0 (J 101 0 + J 98 12)) 101 1 (J 101 1 + J 98 13)) ∧ (∀ j, i ≤ j → j < 9 → I1 99 j = I 106 j) ∧ ∀ a j, ¬ (a = 99 ∧ i ≤ j ∧ j < 9) → I1 a j = I a j := by
  refine fuel (L := fL_X11_run_100 a0) (B := fLB_X11_run_100 a0) (fun _ => rfl) (P := fun i g => ∀ I : HI, ∃ I1, g b (nI i) I J = some (I1 99 5 - b, I1, putJ (putJ J 101 0 (J 101 0 + J 98 12)) 101 1 (J 101 1 + J 98 13)) ∧ (∀ j, i ≤ j → j < 9 → I1 99 j = I 106 j) ∧ ∀ a j, ¬ (a = 99 ∧ i ≤ j ∧ j < 9) → I1 a j = I a j) (fun g I => ?_) (fun i g hi ih I => ?_)
  · refine ⟨I, ?_, fun j h1 h2 => by omega, fun _ _ _ => rfl⟩
    have v0 : vin 0 3 = true := vin_nI (n := 0) (by omega) (by omega)
    have v1 : vin 1 3 = true := vin_nI (n := 1) (by omega) (by omega)
    have v5 : vin 5 666 = true := vin_nI (n := 5) (by omega) (by omega)
    have c0 : (0 : Int32).toNatClampNeg = 0 := rfl
    have c1 : (1 : Int32).toNatClampNeg = 1 := rfl
    have c5 : (5 : Int32).toNatClampNeg = 5 := rfl
    unfold fLB_X11_run_100
    rw [if_pos (by decide), if_pos v0, if_pos v0, c0, nm_s, if_pos v1, if_pos v1, c1, putJ_ap J _ _ _ 101 1, if_neg (by omega), putJ_ap J _ _ _ 98 13, if_neg (by omega), nm_s, if_pos v5, c5]
  · obtain ⟨I1, h1, h2, h3⟩ := ih (put I 99 i (I 106 i))
    refine ⟨I1, ?_, fun j q1 q2 => ?_, fun a j q => ?_⟩
    · unfold fLB_X11_run_100
      rw [if_neg (by rw [N_9, le_nn (by omega) (by omega)]; omega), if_pos (vin_nI (by omega) (by omega)), if_pos (vin_nI (by omega) (by omega)), cl_nI (by omega), nm_s, nI_1, nm_s]
      exact h1
    · by_cases e : j = i
      · subst e
        rw [h3 _ _ (by omega), pE rfl rfl]
      · rw [h2 j (by omega) q2, pN (by omega)]
    · rw [h3 a j (by omega), pN (by omega)]
theorem sim_run {N : Nat} {I : HI} {J : HJ} (hN : N ≤ 1000000) (hR : Rel N I J) (a0 : Int32) : ∃ (r : Int32) (I1 : HI) (J1 : HJ) (I2 : HI) (J2 : HJ), f_X10_run a0 I J = some (r, I1, J1) ∧ f_X11_run a0 I1 J1 = some (r, I2, J2) ∧ Rel (N + 400) I2 J2 := by
  have hM := hR.mono (Nat.le_add_right N 400)
  by_cases h : nI 0 ≤ a0 ∧ a0 ≤ nI 400
  · obtain ⟨n, hn, rfl⟩ := rng (by omega) h
    have hB := both_of hR
    obtain ⟨P, hP⟩ : ∃ P : Pg, P = fun q => ((I 10 q).toNatClampNeg, I (6 + q)) := ⟨_, rfl⟩
    rw [← hP] at hB
    obtain ⟨x, hx⟩ : ∃ x, x = I 99 := ⟨_, rfl⟩
    rw [← hx] at hB
    obtain ⟨t1, ⟨c, c0, c1, c2, c3⟩, t3, t4, t5, t6⟩ := hR.1
    rw [← hx] at t4 t5 t6
    obtain ⟨s, hs⟩ : ∃ s : Sx, s = (x, c, fun i => I 99 (12 + i), z0) := ⟨_, rfl⟩
    have s1 : s.1 = x := by rw [hs]
    have s2 : s.2.1 = c := by rw [hs]
    have s3 : ∀ i, s.2.2.1 i = I 99 (12 + i) := fun i => by rw [hs]
    have hSv : Sv N s := ⟨by rw [s1]; exact t4, by rw [s1]; exact t5, by rw [s1]; exact t6, fun i hi => by rw [s3]; exact (c3 i (by rw [← s2]; exact hi)).2⟩
    have hSv2 := hSv.it (P := P) n N s (by omega)
    obtain ⟨IA, JA, a1, a2, a3, a4, a5, a6⟩ := crun_s (b := x 5) (P := P) hn n 0 FU (by omega) (FU_ge (by omega)) I J s hB.1 (by rw [s1]; exact hB.2.2.1) ⟨rfl, by rw [s2]; exact c0, by rw [s2]; exact c1, fun i hi => by rw [s3]; exact (c3 i (by rw [← s2]; exact hi)).1⟩ hSv.ok
    obtain ⟨IB, b1, b2, b3, b4⟩ := opens_s (I := IA) (J := JA)
    have e99 : ∀ j, IA 99 j = I 99 j := fun j => a5 _ _ (by omega) (by omega) (by omega) (by omega)
    have eB : ∀ j, IB 99 j = I 99 j := fun j => by rw [b4 _ _ (by omega) (by omega)]; exact e99 j
    obtain ⟨IC, JC, d1, d2, d3, d4, d5, d6, d7⟩ := mrun_s (a0 := nI n) (b := x 5) (P := P) n hn FU (FU_ge (by omega)) IB (putJ (putJ JA 98 12 0) 98 13 0) s (by rw [s2]; exact c0) (hB.2.1.of2 (fun j _ _ => eB j)) (fun j hj => by rw [s1, b2 j hj, e99]; exact hB.2.2.2.1 j hj) b3 (by rw [s2, eB]; exact c2) (fun j hj => by rw [eB, s3]) hSv.ok
    obtain ⟨ID, k1, k2, k3⟩ := mcpy_s (a0 := nI n) (b := x 5) (J := JC) 9 0 FU rfl (FU_ge (by omega)) IC
    have j12 : putJ (putJ JA 98 12 0) 98 13 0 98 12 = 0 := by rw [putJ_ap, if_neg (by omega), putJ_ap, if_pos ⟨rfl, rfl⟩]
    have j13 : putJ (putJ JA 98 12 0) 98 13 0 98 13 = 0 := by rw [putJ_ap, if_pos ⟨rfl, rfl⟩]
    have hx5 : I 1 6 = x 5 := hB.2.2.1 5 (by omega)
    have eD : ∀ a j, ¬ (106 ≤ a ∧ a ≤ 109) → ¬ (a = 98 ∧ j = 11) → ¬ (a = 99 ∧ (j < 10 ∨ (12 ≤ j ∧ j < 72))) → ID a j = IA a j := fun a j q1 q2 q3 => by rw [k3 a j (by omega), d6 a j q1 q2 (by omega), b4 a j (by omega) q2]
    have eDI : ∀ a j, a ≠ 12 → ¬ (1 ≤ a ∧ a ≤ 3) → ¬ (106 ≤ a ∧ a ≤ 109) → ¬ (a = 98 ∧ j = 11) → ¬ (a = 99 ∧ (j < 10 ∨ (12 ≤ j ∧ j < 72))) → ID a j = I a j := fun a j q1 q2 q3 q4 q5 => by rw [eD a j q3 q4 q5, a5 a j q1 (by omega) (by omega) (by omega)]
    have jC : ∀ a j, a ≠ 98 → JC a j = JA a j := fun a j q => by rw [d7 a j (by omega), putJ_ap, if_neg (by omega), putJ_ap, if_neg (by omega)]
    have ID99 : ∀ j, j < 9 → ID 99 j = (itr P n s).1 j := fun j hj => by rw [k2 j (by omega) hj]; exact d2 j hj
    refine ⟨(itr P n s).1 5 - x 5, IA, JA, ID, putJ (putJ JC 101 0 (JC 101 0 + JC 98 12)) 101 1 (JC 101 1 + JC 98 13), ?_, ?_, ?_⟩
    · unfold f_X10_run
      rw [wi_k N_0 N_400, bd1_s, ite_bI, if_pos h, hx5, nm_s]
      exact a1
    · have v5 : vin 5 666 = true := vin_nI (n := 5) (by omega) (by omega)
      have c5 : (5 : Int32).toNatClampNeg = 5 := rfl
      have h5 : IB 99 5 = x 5 := by rw [eB, hx]
      unfold f_X11_run
      rw [L_0, L_400, in_x, bd1_s, ite_bI, if_pos h, b1, bd2_s, if_pos v5, c5, h5, nm_s, d1, k1, ID99 5 (by omega)]
    · refine hR.tap (by omega) ⟨fun j hj => ?_, ⟨(itr P n s).2.1, a3.2.1, ?_, ?_, fun i hi => ?_⟩, ⟨?_, ?_, ?_⟩, ?_, ?_, ?_⟩ (fun a j h1 h2 => eDI a j (by unfold Scr at h1; omega) (by omega) (by unfold Scr at h1; omega) (by unfold Scr at h1; omega) (by omega)) (fun a q1 q2 q3 q4 q5 => funext fun j => by rw [putJ_ap, if_neg (by omega), putJ_ap, if_neg (by omega), jC a j q3, a6 a j (by omega)])
      · rw [eD _ _ (by omega) (by omega) (by omega), ID99 j hj]; exact a2 j hj
      · rw [eD _ _ (by omega) (by omega) (by omega)]; exact a3.2.2.1
      · rw [k3 _ _ (by omega)]; exact d3
      · rw [eD 3 _ (by omega) (by omega) (by omega), k3 99 _ (by omega), d4 i hi]
        exact ⟨a3.2.2.2 i hi, hSv2.2.2.2 i hi⟩
      · rw [putJ_ap, if_neg (by omega), putJ_ap, if_neg (by omega), putJ_ap, if_neg (by omega), putJ_ap, if_pos ⟨rfl, rfl⟩, jC _ _ (by omega), jC _ _ (by omega), a4.1, a6 101 0 (by omega), d5.1, j12, Int64.zero_add, t3.1]
      · rw [putJ_ap, if_neg (by omega), putJ_ap, if_neg (by omega), putJ_ap, if_pos ⟨rfl, rfl⟩, jC _ _ (by omega), jC _ _ (by omega), a4.2, a6 101 1 (by omega), d5.2, j13, Int64.zero_add, t3.2.1]
      · rw [putJ_ap, if_neg (by omega), putJ_ap, if_neg (by omega), eD _ _ (by omega) (by omega) (by omega), a5 _ _ (by omega) (by omega) (by omega) (by omega), jC _ _ (by omega), a6 101 2 (by omega)]; exact t3.2.2
      · rw [ID99 0 (by omega)]; exact hSv2.1
      · rw [ID99 4 (by omega)]
        have := hSv2.2.1
        exact ⟨this.1, by omega⟩
      · rw [ID99 7 (by omega)]; exact hSv2.2.2.1
  · refine ⟨-1, I, J, I, J, ?_, ?_, hM⟩
    · unfold f_X10_run
      rw [wi_k N_0 N_400, bd1_s, ite_bI, if_neg h]
    · unfold f_X11_run
      rw [L_0, L_400, in_x, bd1_s, ite_bI, if_neg h]

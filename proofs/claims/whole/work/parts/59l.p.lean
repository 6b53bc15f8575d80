def jMt (p0 p1 U W : Nat → Int32) (C k : Nat) : Prop := k < C ∧ p0 k = U k ∧ p1 k = W k
def JR (p0 p1 U W : Nat → Int32) (m C : Nat) (r : Int32) : Prop := (∃ k, k < m ∧ (∀ j, j < k → jMt p0 p1 U W C j) ∧ ¬ jMt p0 p1 U W C k ∧ r = nI (k + 1)) ∨ ((∀ j, j < m → jMt p0 p1 U W C j) ∧ r = 0)
theorem JR.uniq {p0 p1 U W : Nat → Int32} {m C : Nat} {r s : Int32} (h1 : JR p0 p1 U W m C r) (h2 : JR p0 p1 U W m C s) : r = s := by
  rcases h1 with ⟨k, a1, a2, a3, a4⟩ | ⟨a1, a2⟩ <;> rcases h2 with ⟨l, b1, b2, b3, b4⟩ | ⟨b1, b2⟩
  · rcases Nat.lt_trichotomy k l with h | h | h
    · exact absurd (b2 k h) a3
    · rw [a4, b4, h]
    · exact absurd (a2 l h) b3
  · exact absurd (b1 k a1) a3
  · exact absurd (a1 l b1) b3
  · rw [a2, b2]
theorem pat_s {c m : Nat} {I : HI} {J : HJ} (hm : m ≤ 12) (h : I 70 1 = nI m) (hc : c < m) : f_X3_at (nI c) 0 I J = some (I (72 + c) 0) ∧ f_X3_at (nI c) 1 I J = some (I (72 + c) 1) := by
  have r : rfn 71 c = 72 + c := lay71 c (by omega)
  have z0 : (0 : Int32).toNatClampNeg = 0 := rfl
  have z1 : (1 : Int32).toNatClampNeg = 1 := rfl
  have v0 : vin 0 2 = true := vin_nI (n := 0) (by omega) (by omega)
  have v1 : vin 1 2 = true := vin_nI (n := 1) (by omega) (by omega)
  have hr : nI 0 ≤ nI c ∧ nI c < nI m := ⟨by rw [le_nn (by omega) (by omega)]; omega, by rw [lt_nn (by omega) (by omega)]; exact hc⟩
  constructor
  · unfold f_X3_at
    rw [phas_s hm h, bd1_s, ite_bI, if_pos ⟨hr, by decide⟩, if_pos (vin_nI (by omega) (by omega)), if_pos v0, cl_nI (by omega), r, z0]
  · unfold f_X3_at
    rw [phas_s hm h, bd1_s, ite_bI, if_pos ⟨hr, by decide⟩, if_pos (vin_nI (by omega) (by omega)), if_pos v1, cl_nI (by omega), r, z1]
theorem ptells_s {c m : Nat} {a b : Int32} {I : HI} {J : HJ} (hm : m ≤ 12) (h : I 70 1 = nI m) (hc : c < m) : f_X3_tells (nI c) a b I J = some (bI (I (72 + c) 0 = a ∧ I (72 + c) 1 = b)) := by
  obtain ⟨e0, e1⟩ := pat_s (J := J) hm h hc
  unfold f_X3_tells
  rw [e0, e1, bd1_s, bd1_s]
  by_cases q0 : I (72 + c) 0 = a
  · by_cases q1 : I (72 + c) 1 = b
    · rw [if_pos q0, if_pos q1, bI_t ⟨q0, q1⟩]
    · rw [if_pos q0, if_neg q1, bI_f (fun q => q1 q.2)]
  · rw [if_neg q0, bI_f (fun q => q0 q.1)]
theorem cjud_s {m : Nat} {P : Pg} {p0 p1 : Nat → Int32} (hm : m ≤ 12) : ∀ d i f, i + d = 400 → d < f → ∀ (I : HI) (J : HJ) (s : Sx), LwC I P → HS 53 I s.1 → Row I 54 s.2.1 s.2.2.1 → Ok7 s.1 → s.2.1 ≤ m → I 70 1 = nI m → (∀ j, j < m → I (72 + j) 0 = p0 j ∧ I (72 + j) 1 = p1 j) → (∀ j, j < s.2.1 → p0 j = s.2.2.1 j ∧ p1 j = s.2.2.2 j) → ∃ r I1 J1, fL_X10_judge_15 f (nI s.2.1) (nI i) I J = some (r, I1, J1) ∧ JR p0 p1 (itr P d s).2.2.1 (itr P d s).2.2.2 m (itr P d s).2.1 r ∧ (∀ a j, a ≠ 12 → ¬ (53 ≤ a ∧ a ≤ 55) → I1 a j = I a j) ∧ ∀ a j, a ≠ 53 → J1 a j = J a j := by
  intro d
  induction d with
  | zero =>
    intro i f hi hf I J s hP hS hr h7 hc hp hrow hmt
    obtain ⟨f, rfl⟩ : ∃ g, f = g + 1 := ⟨f - 1, by omega⟩
    have hm0 : ∀ j, j < s.2.1 → jMt p0 p1 s.2.2.1 s.2.2.2 s.2.1 j := fun j hj => ⟨hj, hmt j hj⟩
    by_cases hq : m ≤ s.2.1
    · refine ⟨0, I, J, ?_, Or.inr ⟨fun j hj => hm0 j (by omega), rfl⟩, fun _ _ _ _ => rfl, fun _ _ _ => rfl⟩
      show fLB_X10_judge_15 _ (nI s.2.1) (nI i) I J = _
      unfold fLB_X10_judge_15 fB_X10_judge_85 f_X3_size
      rw [N_400, if_pos (by rw [le_nn (by omega) (by omega)]; omega), bd1_s, hp, if_pos (by rw [le_nn (by omega) (by omega)]; omega)]
    · refine ⟨nI (s.2.1 + 1), I, J, ?_, Or.inl ⟨s.2.1, by omega, hm0, fun q => absurd q.1 (Nat.lt_irrefl _), rfl⟩, fun _ _ _ _ => rfl, fun _ _ _ => rfl⟩
      show fLB_X10_judge_15 _ (nI s.2.1) (nI i) I J = _
      unfold fLB_X10_judge_15 fB_X10_judge_85 f_X3_size
      rw [N_400, if_pos (by rw [le_nn (by omega) (by omega)]; omega), bd1_s, hp, if_neg (by rw [le_nn (by omega) (by omega)]; omega), nI_1]
  | succ d ih =>
    intro i f hi hf I J s hP hS hr h7 hc hp hrow hmt
    obtain ⟨f, rfl⟩ : ∃ g, f = g + 1 := ⟨f - 1, by omega⟩
    obtain ⟨q1, q2, q3⟩ := itr_mono (P := P) (d + 1) s
    by_cases hq : m ≤ s.2.1
    · refine ⟨0, I, J, ?_, Or.inr ⟨fun j hj => ⟨by omega, by rw [(q3 j (by omega)).1]; exact (hmt j (by omega)).1, by rw [(q3 j (by omega)).2]; exact (hmt j (by omega)).2⟩, rfl⟩, fun _ _ _ _ => rfl, fun _ _ _ => rfl⟩
      show fLB_X10_judge_15 (fL_X10_judge_15 f) (nI s.2.1) (nI i) I J = _
      unfold fLB_X10_judge_15 fB_X10_judge_85 f_X3_size
      rw [N_400, if_neg (by rw [le_nn (by omega) (by omega)]; omega), bd1_s, hp, if_pos (by rw [le_nn (by omega) (by omega)]; omega), bd1_s, if_pos (by rw [le_nn (by omega) (by omega)]; omega)]
    · obtain ⟨I1, J1, a1, a2, a3, a4, a5, a6, a7⟩ := ctick_s (J := J) rfl (Or.inr (Or.inl rfl)) hP hS hr h7.1 h7.2
      have pA : LwC I1 P := hP.of (funext fun j => a6 _ _ (by omega) (by omega) (by omega) (by omega)) (fun q hq => funext fun j => a6 _ _ (by omega) (by omega) (by omega) (by omega))
      have e70 : I1 70 1 = nI m := by rw [a6 _ _ (by omega) (by omega) (by omega) (by omega)]; exact hp
      have erow : ∀ j, j < m → I1 (72 + j) 0 = p0 j ∧ I1 (72 + j) 1 = p1 j := fun j hj => by
        rw [a6 _ _ (by omega) (by omega) (by omega) (by omega), a6 _ _ (by omega) (by omega) (by omega) (by omega)]; exact hrow j hj
      by_cases hg : goY P (t6 P s.1)
      · have hgc : goY P (t6 P s.1) ∧ s.2.1 < 60 := ⟨hg, by omega⟩
        have e1 : (stp P s).2.1 = s.2.1 + 1 := if_pos hgc
        have e2 : (stp P s).2.2.1 = ud s.2.2.1 s.2.1 (t6 P s.1 4) := if_pos hgc
        have e3 : (stp P s).2.2.2 = ud s.2.2.2 s.2.1 (t6 P s.1 0 - leY P (t6 P s.1)) := if_pos hgc
        obtain ⟨m1, m2⟩ := a4 hg
        have er := erow s.2.1 (by omega)
        have pt := ptells_s (a := t6 P s.1 4) (b := t6 P s.1 0 - leY P (t6 P s.1)) (J := J1) hm e70 (show s.2.1 < m by omega)
        rw [er.1, er.2] at pt
        by_cases hh : p0 s.2.1 = t6 P s.1 4 ∧ p1 s.2.1 = t6 P s.1 0 - leY P (t6 P s.1)
        · obtain ⟨r, I3, J3, b1, b2, b3, b4⟩ := ih (i + 1) f (by omega) (by omega) I1 J1 (stp P s) pA a2 a5 h7.st (by rw [e1]; omega) e70 erow (fun j hj => by
            rw [e1] at hj
            rw [e2, e3]
            by_cases q : j = s.2.1
            · rw [q, ud_e, ud_e]; exact hh
            · rw [ud_n q, ud_n q]; exact hmt j (by omega))
          refine ⟨r, I3, J3, ?_, b2, fun a j q1 q2 => ?_, fun a j q => ?_⟩
          · show fLB_X10_judge_15 (fL_X10_judge_15 f) (nI s.2.1) (nI i) I J = _
            unfold fLB_X10_judge_15 fB_X10_judge_79 f_X3_size
            rw [e1] at b1
            rw [N_400, if_neg (by rw [le_nn (by omega) (by omega)]; omega), bd1_s, hp, if_neg (by rw [le_nn (by omega) (by omega)]; omega), a1, bd3_s, bI_t hg, if_neg (by decide), m1, m2, pt, bd1_s, bI_t hh, if_neg (by decide), nI_1, nm_s, nI_1, nm_s]
            exact b1
          · rw [b3 a j q1 q2, a6 a j q1 (by omega) (by omega) (by omega)]
          · rw [b4 a j q, a7 a j (fun q2 => q q2.1)]
        · obtain ⟨w1, w2, w3⟩ := itr_mono (P := P) d (stp P s)
          have w4 := w3 s.2.1 (by rw [e1]; omega)
          rw [e2, e3, ud_e, ud_e] at w4
          refine ⟨nI (s.2.1 + 1), I1, J1, ?_, Or.inl ⟨s.2.1, by omega, fun j hj => ⟨by omega, by rw [(q3 j hj).1]; exact (hmt j hj).1, by rw [(q3 j hj).2]; exact (hmt j hj).2⟩, fun q => ?_, rfl⟩, fun a j q1 q2 => a6 a j q1 (by omega) (by omega) (by omega), fun a j q => a7 a j (fun q2 => q q2.1)⟩
          · show fLB_X10_judge_15 (fL_X10_judge_15 f) (nI s.2.1) (nI i) I J = _
            unfold fLB_X10_judge_15 f_X3_size
            rw [N_400, if_neg (by rw [le_nn (by omega) (by omega)]; omega), bd1_s, hp, if_neg (by rw [le_nn (by omega) (by omega)]; omega), a1, bd3_s, bI_t hg, if_neg (by decide), m1, m2, pt, bd1_s, bI_f hh, if_pos rfl, nI_1]
          · exact hh ⟨q.2.1.trans w4.1, q.2.2.trans w4.2⟩
      · have hgc : ¬ (goY P (t6 P s.1) ∧ s.2.1 < 60) := fun q => hg q.1
        have e1 : (stp P s).2.1 = s.2.1 := if_neg hgc
        have e2 : (stp P s).2.2.1 = s.2.2.1 := if_neg hgc
        have e3 : (stp P s).2.2.2 = s.2.2.2 := if_neg hgc
        obtain ⟨r, I3, J3, b1, b2, b3, b4⟩ := ih (i + 1) f (by omega) (by omega) I1 J1 (stp P s) pA a2 a5 h7.st (by rw [e1]; exact hc) e70 erow (fun j hj => by
          rw [e1] at hj
          rw [e2, e3]
          exact hmt j hj)
        refine ⟨r, I3, J3, ?_, b2, fun a j q1 q2 => ?_, fun a j q => ?_⟩
        · show fLB_X10_judge_15 (fL_X10_judge_15 f) (nI s.2.1) (nI i) I J = _
          unfold fLB_X10_judge_15 fB_X10_judge_79 f_X3_size
          rw [e1] at b1
          rw [N_400, if_neg (by rw [le_nn (by omega) (by omega)]; omega), bd1_s, hp, if_neg (by rw [le_nn (by omega) (by omega)]; omega), a1, bd3_s, bI_f hg, if_pos rfl, nI_1, nm_s]
          exact b1
        · rw [b3 a j q1 q2, a6 a j q1 (by omega) (by omega) (by omega)]
        · rw [b4 a j q, a7 a j (fun q2 => q q2.1)]
theorem mjud_s {m C : Nat} {p0 p1 u w : Nat → Int32} {I : HI} {J : HJ} (hm : m ≤ 12) (h : I 98 29 = nI m) (hr : RwM I C u w) (hrow : ∀ j, j < m → I 115 (2 * j) = p0 j ∧ I 115 (2 * j + 1) = p1 j) : ∀ d i f, i + d = m → d < f → (∀ j, j < i → jMt p0 p1 u w C j) → ∃ r, fL_X11_judge_13 f (nI i) I J = some (r, I, J) ∧ JR p0 p1 u w m C r := by
  have hC := hr.1
  refine fuel (L := fL_X11_judge_13) (B := fLB_X11_judge_13) (fun _ => rfl) (P := fun i g => (∀ j, j < i → jMt p0 p1 u w C j) → ∃ r, g (nI i) I J = some (r, I, J) ∧ JR p0 p1 u w m C r) (fun g hj => ?_) (fun i g hi ih hj => ?_)
  · refine ⟨0, ?_, Or.inr ⟨hj, rfl⟩⟩
    unfold fLB_X11_judge_13
    rw [h, if_pos (by rw [le_nn (by omega) (by omega)]; omega)]
  · have e2 : (2 : Int32) * nI i = nI (2 * i) := by rw [N_2, nI_mul]
    have ro := hrow i hi
    by_cases hC2 : C ≤ i
    · refine ⟨nI (i + 1), ?_, Or.inl ⟨i, hi, hj, fun q => by have := q.1; omega, rfl⟩⟩
      unfold fLB_X11_judge_13
      rw [h, if_neg (by rw [le_nn (by omega) (by omega)]; omega), hr.2.1, if_pos (by rw [le_nn (by omega) (by omega)]; omega), nI_1]
    · have ru := hr.2.2 i (by omega)
      by_cases g0 : p0 i = u i
      · by_cases g1 : p1 i = w i
        · obtain ⟨r, r1, r2⟩ := ih (fun j hj2 => by
            by_cases q : j = i
            · rw [q]; exact ⟨by omega, g0, g1⟩
            · exact hj j (by omega))
          refine ⟨r, ?_, r2⟩
          unfold fLB_X11_judge_13
          rw [h, if_neg (by rw [le_nn (by omega) (by omega)]; omega), hr.2.1, if_neg (by rw [le_nn (by omega) (by omega)]; omega), e2, nI_1, nI_1, if_pos (vin_nI (by omega) (by omega)), if_pos (vin_nI (by omega) (by omega)), cl_nI (n := 2 * i) (by omega), cl_nI (n := i) (by omega), ro.1, ru.1, if_pos g0, if_pos (vin_nI (by omega) (by omega)), if_pos (vin_nI (by omega) (by omega)), cl_nI (n := 2 * i + 1) (by omega), ro.2, ru.2, if_pos g1, nm_s]
          exact r1
        · refine ⟨nI (i + 1), ?_, Or.inl ⟨i, hi, hj, fun q => g1 q.2.2, rfl⟩⟩
          unfold fLB_X11_judge_13
          rw [h, if_neg (by rw [le_nn (by omega) (by omega)]; omega), hr.2.1, if_neg (by rw [le_nn (by omega) (by omega)]; omega), e2, nI_1, nI_1, if_pos (vin_nI (by omega) (by omega)), if_pos (vin_nI (by omega) (by omega)), cl_nI (n := 2 * i) (by omega), cl_nI (n := i) (by omega), ro.1, ru.1, if_pos g0, if_pos (vin_nI (by omega) (by omega)), if_pos (vin_nI (by omega) (by omega)), cl_nI (n := 2 * i + 1) (by omega), ro.2, ru.2, if_neg g1]
      · refine ⟨nI (i + 1), ?_, Or.inl ⟨i, hi, hj, fun q => g0 q.2.1, rfl⟩⟩
        unfold fLB_X11_judge_13
        rw [h, if_neg (by rw [le_nn (by omega) (by omega)]; omega), hr.2.1, if_neg (by rw [le_nn (by omega) (by omega)]; omega), e2, nI_1, nI_1, if_pos (vin_nI (by omega) (by omega)), if_pos (vin_nI (by omega) (by omega)), cl_nI (n := 2 * i) (by omega), cl_nI (n := i) (by omega), ro.1, ru.1, if_neg g0]
theorem sim_judge {N : Nat} {I : HI} {J : HJ} (hN : N ≤ 1000000) (hR : Rel N I J) : ∃ (r : Int32) (I1 : HI) (J1 : HJ) (I2 : HI) (J2 : HJ), f_X10_judge I J = some (r, I1, J1) ∧ f_X11_judge I1 J1 = some (r, I2, J2) ∧ Rel (N + 400) I2 J2 := by
  have hB := both_of hR
  obtain ⟨P, hP⟩ : ∃ P : Pg, P = fun q => ((I 10 q).toNatClampNeg, I (6 + q)) := ⟨_, rfl⟩
  rw [← hP] at hB
  obtain ⟨x, hx⟩ : ∃ x, x = I 99 := ⟨_, rfl⟩
  rw [← hx] at hB
  obtain ⟨m, m0, m1, m2, m3⟩ := hR.2.2.2.2.1
  have h1 := hB.1
  obtain ⟨IA, JA, a1, a2, a3, a4, a5⟩ := goOn_s (k := 53) (I := I) (J := J) rfl (Or.inl rfl) hB.2.2.1
  have pA : LwC IA P := h1.of (funext fun j => a4 _ _ (by omega) (by omega)) (fun q hq => funext fun j => a4 _ _ (by omega) (by omega))
  obtain ⟨r, IB, JB, b1, b2, b3, b4⟩ := cjud_s (m := m) (P := P) (p0 := fun j => I 115 (2 * j)) (p1 := fun j => I 115 (2 * j + 1)) m0 400 0 FU rfl (FU_ge (by omega)) IA JA (x, 0, z0, z0) pA a2 ⟨a3.1, by show 0 ≤ 60; omega, a3.2.2.1, fun i hi => absurd hi (Nat.not_lt_zero i)⟩ hB.2.2.2.2 (Nat.zero_le _) (by rw [a4 _ _ (by omega) (by omega)]; exact m1) (fun j hj => by rw [a4 _ _ (by omega) (by omega), a4 _ _ (by omega) (by omega)]; exact m3 j hj) (fun j hj => absurd hj (Nat.not_lt_zero j))
  have eB : ∀ a j, a ≠ 12 → ¬ (53 ≤ a ∧ a ≤ 55) → IB a j = I a j := fun a j q1 q2 => by rw [b3 a j q1 q2, a4 _ _ (by omega) (by omega)]
  have sB := Scr_of (fun a j q1 q2 q3 q4 q5 => eB a j q1 (by omega))
  obtain ⟨I0, J0, IC, JC, c1, c2, c3, c4, c5, c6⟩ := mfull_s (J := JB) (hB.of sB)
  obtain ⟨r2, d1, d2⟩ := mjud_s (J := JC) (p0 := fun j => I 115 (2 * j)) (p1 := fun j => I 115 (2 * j + 1)) m0 (by rw [c5 _ _ (by omega) (by omega) (by omega) (by omega) (by omega), eB _ _ (by omega) (by omega)]; exact m2) c4 (fun j hj => by rw [c5 _ _ (by omega) (by omega) (by omega) (by omega) (by omega), c5 _ _ (by omega) (by omega) (by omega) (by omega) (by omega), eB _ _ (by omega) (by omega), eB _ _ (by omega) (by omega)]; exact ⟨rfl, rfl⟩) m 0 FU (by omega) (FU_ge (by omega)) (fun j hj => absurd hj (Nat.not_lt_zero j))
  have e := b2.uniq d2
  subst e
  refine ⟨r, IB, JB, IC, JC, ?_, ?_, hR.scr (Scr_of (fun a j q1 q2 q3 q4 q5 => by rw [c5 a j (by omega) (by omega) (by omega) (by omega) (by omega), eB a j q1 (by omega)])) (fun a q1 q2 q3 => funext fun j => by rw [c6 a j q3, b4 a j q1, a5 a j q1])⟩
  · unfold f_X10_judge
    rw [a1, bd2_s]
    exact b1
  · unfold f_X11_judge
    rw [c1, bd2_s, N_400, c3, bd2_s]
    exact d1

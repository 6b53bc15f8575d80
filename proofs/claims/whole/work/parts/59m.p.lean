theorem t2_same {P : Pg} {x x1 x2 : Nat → Int32} {y : Int32} (h0 : 0 ≤ (x 0).toInt ∧ (x 0).toInt ≤ 99999) (hy : 0 ≤ y.toInt ∧ y.toInt ≤ 999) (e1 : x1 = ud x 0 (jmin (nI 99999) (x 0 + y))) (e2 : x2 = ud x 0 (x 0 + y)) : t2 P x1 = t2 P x2 := by
  have es : (x 0 + y).toInt = (x 0).toInt + y.toInt := i_add (by omega) (by omega)
  have e9 : (nI 99999).toInt = 99999 := by decide
  by_cases hq : (x 0).toInt + y.toInt ≤ 99999
  · have e : x1 = x2 := by
      rw [e1, e2]
      congr 1
      unfold jmin
      by_cases hl : x 0 + y < nI 99999
      · rw [if_pos hl]
      · rw [if_neg hl]
        rw [i_eq]; rw [i_lt] at hl; omega
    rw [e]
  · have f1 := tFl_r (P := P) (x := x1)
    have f2 := tFl_r (P := P) (x := x2)
    have g1 : t1 x1 0 = nI 99999 := by
      unfold t1
      rw [ud_n (by omega), ud_n (by omega), e1, ud_e]
      unfold jmin
      rw [if_neg (by rw [i_lt]; omega)]
    have g2 : t1 x2 0 = x 0 + y := by
      unfold t1
      rw [ud_n (by omega), ud_n (by omega), e2, ud_e]
    have big : ∀ v : Int32, 99999 ≤ v.toInt → hld v (nI 0) (nI 99999) = nI 99999 := fun v hv => by
      have e0 : (nI 0).toInt = 0 := by decide
      unfold hld
      rw [if_pos (by rw [i_le]; omega)]
      by_cases hl : v ≤ nI 99999
      · rw [if_pos hl]
        rw [i_eq]; rw [i_le] at hl; omega
      · rw [if_neg hl]
    have k1 : hld (t1 x1 0 + tFl P x1) (nI 0) (nI 99999) = nI 99999 := big _ (by rw [g1, i_add (by omega) (by omega)]; omega)
    have k2 : hld (t1 x2 0 + tFl P x2) (nI 0) (nI 99999) = nI 99999 := big _ (by rw [g2, i_add (by rw [es]; omega) (by rw [es]; omega), es]; omega)
    unfold t2
    rw [k1, k2]
    funext j
    by_cases q : j = 0
    · rw [q, ud_e, ud_e]
    · rw [ud_n q, ud_n q]
      unfold t1
      have ex : ∀ i, i ≠ 0 → x1 i = x2 i := fun i hi => by rw [e1, e2, ud_n hi, ud_n hi]
      rw [ex 3 (by omega), ex 4 (by omega)]
      by_cases q4 : j = 4
      · rw [q4, ud_e, ud_e]
      · rw [ud_n q4, ud_n q4]
        by_cases q3 : j = 3
        · rw [q3, ud_e, ud_e]
        · rw [ud_n q3, ud_n q3]
          exact ex j q
theorem itr_same {P : Pg} {n : Nat} {x1 x2 : Nat → Int32} (h : t2 P x1 = t2 P x2) : itr P (n + 1) (x1, 0, z0, z0) = itr P (n + 1) (x2, 0, z0, z0) := by
  have e6 : t6 P x1 = t6 P x2 := by
    unfold t6 t3
    rw [h]
  show itr P n (stp P (x1, 0, z0, z0)) = itr P n (stp P (x2, 0, z0, z0))
  have es : stp P (x1, 0, z0, z0) = stp P (x2, 0, z0, z0) := by
    unfold stp
    show (tYN P (t6 P x1), nC P (t6 P x1) 0, nU P (t6 P x1) 0 z0, nW P (t6 P x1) 0 z0) = (tYN P (t6 P x2), nC P (t6 P x2) 0, nU P (t6 P x2) 0 z0, nW P (t6 P x2) 0 z0)
    rw [e6]
  rw [es]
def uMt (U V : Nat → Int32) (c d k : Nat) : Prop := k < c ∧ k < d ∧ U k = V k
def UR (U V : Nat → Int32) (c d : Nat) (r : Int32) : Prop := (∃ k, (k < c ∨ k < d) ∧ (∀ j, j < k → uMt U V c d j) ∧ ¬ uMt U V c d k ∧ r = nI k) ∨ ((∀ j, j < c ∨ j < d → uMt U V c d j) ∧ r = -3)
theorem UR.uniq {U V : Nat → Int32} {c d : Nat} {r s : Int32} (h1 : UR U V c d r) (h2 : UR U V c d s) : r = s := by
  rcases h1 with ⟨k, a1, a2, a3, a4⟩ | ⟨a1, a2⟩ <;> rcases h2 with ⟨l, b1, b2, b3, b4⟩ | ⟨b1, b2⟩
  · rcases Nat.lt_trichotomy k l with h | h | h
    · exact absurd (b2 k h) a3
    · rw [a4, b4, h]
    · exact absurd (a2 l h) b3
  · exact absurd (b1 k a1) a3
  · exact absurd (a1 l b1) b3
  · rw [a2, b2]
theorem funl_s {k a c d : Nat} {U V : Nat → Int32} {I : HI} {J : HJ} (hr : Row I k c U) (hs : Row I a d V) : ∃ r, f_X9_firstUnlike k a I J = some r ∧ ((∃ x, x ≤ 60 ∧ r = nI x ∧ UR U V c d (nI x)) ∨ (r = -1 ∧ UR U V c d (-3))) := by
  have hc := hr.2.1
  have hd := hs.2.1
  have key : ∀ e i f, i + e = max c d → e < f → (∀ j, j < i → uMt U V c d j) → ∃ r, fL_X9_firstUnlike_2 k a f (nI i) I J = some r ∧ ((∃ x, x ≤ 60 ∧ r = nI x ∧ UR U V c d (nI x)) ∨ (r = -1 ∧ UR U V c d (-3))) := by
    refine fuel (L := fL_X9_firstUnlike_2 k a) (B := fLB_X9_firstUnlike_2 k a) (fun _ => rfl) (P := fun i g => (∀ j, j < i → uMt U V c d j) → ∃ r, g (nI i) I J = some r ∧ ((∃ x, x ≤ 60 ∧ r = nI x ∧ UR U V c d (nI x)) ∨ (r = -1 ∧ UR U V c d (-3)))) (fun g hj => ?_) (fun i g hi ih hj => ?_)
    · refine ⟨-1, ?_, Or.inr ⟨rfl, Or.inr ⟨fun j q => hj j (by omega), rfl⟩⟩⟩
      unfold fLB_X9_firstUnlike_2
      rw [hr.2.2.1, hs.2.2.1, if_neg (by rw [lt_nn (by omega) (by omega)]; omega), if_pos (by rw [le_nn (by omega) (by omega)]; omega)]
    · have ent : fLB_X9_firstUnlike_2 k a g (nI i) I J = fB_X9_firstUnlike_18 k a g (nI i) I J := by
        unfold fLB_X9_firstUnlike_2
        rw [hr.2.2.1, hs.2.2.1]
        by_cases q : i < c
        · rw [if_pos (by rw [lt_nn (by omega) (by omega)]; exact q)]
        · rw [if_neg (by rw [lt_nn (by omega) (by omega)]; exact q), if_neg (by rw [le_nn (by omega) (by omega)]; omega)]
      rw [ent]
      have h1 : f_X9_has k (nI i) I J = some (bI (nI 0 ≤ nI i ∧ nI i < nI c)) := has_s (by omega) hr.2.2.1
      have h2 : f_X9_has a (nI i) I J = some (bI (nI 0 ≤ nI i ∧ nI i < nI d)) := has_s (by omega) hs.2.2.1
      have ex : ∀ n, n ≤ 60 → ((nI 0 ≤ nI i ∧ nI i < nI n) ↔ i < n) := fun n hn => by
        rw [le_nn (by omega) (by omega), lt_nn (by omega) (by omega)]
        omega
      unfold fB_X9_firstUnlike_18
      rw [h1, h2, bd1_s, ite_bI]
      by_cases q1 : i < c
      · rw [if_pos ((ex c hc).mpr q1), bd1_s, ite_bI]
        by_cases q2 : i < d
        · rw [if_pos ((ex d hd).mpr q2), hr.at q1, hs.at q2, bd1_s, bd1_s]
          by_cases q3 : U i = V i
          · rw [if_pos q3, nI_1, nm_s]
            exact ih (fun j hj2 => by
              by_cases q : j = i
              · rw [q]; exact ⟨q1, q2, q3⟩
              · exact hj j (by omega))
          · rw [if_neg q3]
            exact ⟨_, rfl, Or.inl ⟨i, by omega, rfl, Or.inl ⟨i, Or.inl q1, hj, fun q => q3 q.2.2, rfl⟩⟩⟩
        · rw [if_neg (fun q => q2 ((ex d hd).mp q))]
          exact ⟨_, rfl, Or.inl ⟨i, by omega, rfl, Or.inl ⟨i, Or.inl q1, hj, fun q => q2 q.2.1, rfl⟩⟩⟩
      · rw [if_neg (fun q => q1 ((ex c hc).mp q))]
        exact ⟨_, rfl, Or.inl ⟨i, by omega, rfl, Or.inl ⟨i, by omega, hj, fun q => q1 q.1, rfl⟩⟩⟩
  exact key (max c d) 0 FU (by omega) (FU_ge (by omega)) (fun j hj => absurd hj (Nat.not_lt_zero j))
theorem mlost_s {c d : Nat} {U V w : Nat → Int32} {a0 : Int32} {I : HI} {J : HJ} (hl : Look I c U) (hr : RwM I d V w) : ∃ r, fL_X11_lost_52 a0 FU (nI 0) I J = some (r, I, J) ∧ UR U V c d r := by
  have hc := hl.1
  have hd := hr.1
  have key : ∀ e i f, i + e = max c d → e < f → (∀ j, j < i → uMt U V c d j) → ∃ r, fL_X11_lost_52 a0 f (nI i) I J = some (r, I, J) ∧ UR U V c d r := by
    refine fuel (L := fL_X11_lost_52 a0) (B := fLB_X11_lost_52 a0) (fun _ => rfl) (P := fun i g => (∀ j, j < i → uMt U V c d j) → ∃ r, g (nI i) I J = some (r, I, J) ∧ UR U V c d r) (fun g hj => ?_) (fun i g hi ih hj => ?_)
    · refine ⟨-3, ?_, Or.inr ⟨fun j q => hj j (by omega), rfl⟩⟩
      unfold fLB_X11_lost_52
      rw [hl.2.1, hr.2.1, if_neg (by rw [lt_nn (by omega) (by omega)]; omega), if_pos (by rw [le_nn (by omega) (by omega)]; omega)]
    · have ent : fLB_X11_lost_52 a0 g (nI i) I J = fB_X11_lost_68 a0 g (nI i) I J := by
        unfold fLB_X11_lost_52
        rw [hl.2.1, hr.2.1]
        by_cases q : i < c
        · rw [if_pos (by rw [lt_nn (by omega) (by omega)]; exact q)]
        · rw [if_neg (by rw [lt_nn (by omega) (by omega)]; exact q), if_neg (by rw [le_nn (by omega) (by omega)]; omega)]
      rw [ent]
      unfold fB_X11_lost_68
      rw [hl.2.1, hr.2.1]
      by_cases q1 : i < c
      · rw [if_neg (by rw [le_nn (by omega) (by omega)]; omega)]
        by_cases q2 : i < d
        · rw [if_neg (by rw [le_nn (by omega) (by omega)]; omega), if_pos (vin_nI (by omega) (by omega)), if_pos (vin_nI (by omega) (by omega)), cl_nI (by omega), hl.2.2 i q1, (hr.2.2 i q2).1]
          by_cases q3 : U i = V i
          · rw [if_pos q3, nI_1, nm_s]
            exact ih (fun j hj2 => by
              by_cases q : j = i
              · rw [q]; exact ⟨q1, q2, q3⟩
              · exact hj j (by omega))
          · rw [if_neg q3]
            exact ⟨_, rfl, Or.inl ⟨i, Or.inl q1, hj, fun q => q3 q.2.2, rfl⟩⟩
        · rw [if_pos (by rw [le_nn (by omega) (by omega)]; omega)]
          exact ⟨_, rfl, Or.inl ⟨i, Or.inl q1, hj, fun q => q2 q.2.1, rfl⟩⟩
      · rw [if_pos (by rw [le_nn (by omega) (by omega)]; omega)]
        exact ⟨_, rfl, Or.inl ⟨i, by omega, hj, fun q => q1 q.1, rfl⟩⟩
  exact key (max c d) 0 FU (by omega) (FU_ge (by omega)) (fun j hj => absurd hj (Nat.not_lt_zero j))
theorem sim_lost {N : Nat} {I : HI} {J : HJ} (hN : N ≤ 1000000) (hR : Rel N I J) (a0 : Int32) : ∃ (r : Int32) (I1 : HI) (J1 : HJ) (I2 : HI) (J2 : HJ), f_X10_lost a0 I J = some (r, I1, J1) ∧ f_X11_lost a0 I1 J1 = some (r, I2, J2) ∧ Rel (N + 400) I2 J2 := by
  have hM := hR.mono (Nat.le_add_right N 400)
  by_cases h : nI 0 ≤ a0 ∧ a0 ≤ nI 999
  · have hy : 0 ≤ a0.toInt ∧ a0.toInt ≤ 999 := by
      have q1 := i_le.mp h.1
      have q2 := i_le.mp h.2
      have e1 : (nI 0).toInt = 0 := by decide
      have e2 : (nI 999).toInt = 999 := by decide
      omega
    have hB := both_of hR
    have hw0 := hR.1.2.2.2.1
    obtain ⟨P, hP⟩ : ∃ P : Pg, P = fun q => ((I 10 q).toNatClampNeg, I (6 + q)) := ⟨_, rfl⟩
    rw [← hP] at hB
    obtain ⟨x, hx⟩ : ∃ x, x = I 99 := ⟨_, rfl⟩
    rw [← hx] at hB hw0
    have h1 := hB.1
    have h7 := hB.2.2.2.2
    obtain ⟨x1, ex1⟩ : ∃ x1, x1 = ud x 0 (jmin (nI 99999) (x 0 + a0)) := ⟨_, rfl⟩
    obtain ⟨x2, ex2⟩ : ∃ x2, x2 = ud x 0 (x 0 + a0) := ⟨_, rfl⟩
    have hsame := itr_same (n := 399) (t2_same (P := P) hw0 hy ex1 ex2)
    have es : (x 0 + a0).toInt = (x 0).toInt + a0.toInt := i_add (by omega) (by omega)
    have h72 : Ok7 x2 := by
      unfold Ok7
      rw [ex2, ud_e, ud_n (by omega)]
      exact ⟨by omega, h7.2⟩
    have h71 : Ok7 x1 := by
      have e9 : (nI 99999).toInt = 99999 := by decide
      unfold Ok7
      rw [ex1, ud_e, ud_n (by omega)]
      refine ⟨?_, h7.2⟩
      unfold jmin
      split <;> omega
    -- the class
    obtain ⟨IA, JA, a1, a2, a3, a4, a5⟩ := goOn_s (k := 53) (I := I) (J := J) rfl (Or.inl rfl) hB.2.2.1
    have pA : LwC IA P := h1.of (funext fun j => a4 _ _ (by omega) (by omega)) (fun q hq => funext fun j => a4 _ _ (by omega) (by omega))
    obtain ⟨IB, JB, b1, b2, b3, b4⟩ := fill_s (k := 53) (P := P) (n := 400) rfl (Or.inr (Or.inl rfl)) (by omega) 400 0 FU (by omega) (FU_ge (by omega)) IA JA (x, 0, z0, z0) pA a2 ⟨a3.1, by show 0 ≤ 60; omega, a3.2.2.1, fun i hi => absurd hi (Nat.not_lt_zero i)⟩ h7
    have eB : ∀ a j, a ≠ 12 → ¬ (53 ≤ a ∧ a ≤ 55) → IB a j = I a j := fun a j q1 q2 => by rw [b3 a j q1 (by omega) (by omega) (by omega), a4 a j (by omega) (by omega)]
    obtain ⟨IC, JC, c1, c2, c3, c4, c5⟩ := goOn_s (k := 56) (I := IB) (J := JB) rfl (Or.inr rfl) (hB.2.2.1.of (fun j _ _ => eB _ _ (by omega) (by omega)))
    have f1 : IC 56 1 = x 0 := c2 0 (by omega)
    have pC : LwC (put IC 56 1 (jmin 99999 (x 0 + a0))) P := h1.of (funext fun j => by rw [pN (by omega), c4 _ _ (by omega) (by omega), eB _ _ (by omega) (by omega)]) (fun q hq => funext fun j => by rw [pN (by omega), c4 _ _ (by omega) (by omega), eB _ _ (by omega) (by omega)])
    have sC : HS 56 (put IC 56 1 (jmin 99999 (x 0 + a0))) x1 := by
      rw [ex1, N_99999]
      exact HS.pt (i := 0) c2
    obtain ⟨ID, JD, d1, d2, d3, d4⟩ := fill_s (k := 56) (P := P) (n := 400) rfl (Or.inr (Or.inr rfl)) (by omega) 400 0 FU (by omega) (FU_ge (by omega)) (put IC 56 1 (jmin 99999 (x 0 + a0))) JC (x1, 0, z0, z0) pC sC ⟨c3.1, by show 0 ≤ 60; omega, by rw [pN (by omega)]; exact c3.2.2.1, fun i hi => absurd hi (Nat.not_lt_zero i)⟩ h71
    have eD : ∀ a j, a ≠ 12 → ¬ (56 ≤ a ∧ a ≤ 58) → ID a j = IB a j := fun a j q1 q2 => by rw [d3 a j q1 (by omega) (by omega) (by omega), pN (by omega), c4 _ _ (by omega) (by omega)]
    have r1 : Row ID 54 (itr P 400 (x, 0, z0, z0)).2.1 (itr P 400 (x, 0, z0, z0)).2.2.1 := ⟨b2.1, b2.2.1, by rw [eD _ _ (by omega) (by omega)]; exact b2.2.2.1, fun i hi => by rw [eD _ _ (by omega) (by omega)]; exact b2.2.2.2 i hi⟩
    rw [hsame] at d2
    obtain ⟨r, k1, k2⟩ := funl_s (J := JD) r1 d2
    have eDI : ∀ a j, a ≠ 12 → ¬ (53 ≤ a ∧ a ≤ 58) → ID a j = I a j := fun a j q1 q2 => by rw [eD a j q1 (by omega), eB a j q1 (by omega)]
    have sD := Scr_of (fun a j q1 q2 q3 q4 q5 => eDI a j q1 q2)
    -- the model
    obtain ⟨I0, J0, IE, JE, g1, g2, g3, g4, g5, g6⟩ := mfull_s (J := JD) (hB.of sD)
    obtain ⟨IF, l1, l2, l3⟩ := lookt_s (J := JE) g4
    have eF : ∀ a j, ¬ (106 ≤ a ∧ a ≤ 109) → a ≠ 114 → ¬ (a = 98 ∧ (j = 11 ∨ j = 27)) → IF a j = ID a j := fun a j q1 q2 q3 => by rw [l3 a j q2 (by omega), g5 a j (by omega) (by omega) (by omega) (by omega) (by omega)]
    have hBF : Both IF x P := (hB.of sD).of (Scr_of (fun a j q1 q2 q3 q4 q5 => eF a j q3 q4 q5))
    obtain ⟨hF1, hF2, hF3, hF4, hF5⟩ := hBF
    obtain ⟨IG, o1, o2, o3, o4⟩ := opens_s (I := IF) (J := JE)
    have sG : HM IG x := fun j hj => (o2 j hj).trans (hF4 j hj)
    have pG : LwM (put IG 106 0 (x 0 + a0)) P := hF2.of (by rw [put_ne _ (by omega)]; exact funext fun j => o4 _ _ (by omega) (by omega))
    have fG : IG 106 0 = x 0 := sG 0 (by omega)
    obtain ⟨IH, JH, m1, m2, m3, m4⟩ := mtr_s (P := P) (n := 400) (by omega) 400 0 FU (by omega) (FU_ge (by omega)) (put IG 106 0 (x 0 + a0)) (putJ (putJ JE 98 12 0) 98 13 0) (x2, 0, z0, z0) pG (by rw [ex2]; exact HM.pt sG) ⟨by show 0 ≤ 60; omega, by rw [pN (by omega)]; exact o3, fun i hi => absurd hi (Nat.not_lt_zero i)⟩ h72
    have eH : ∀ a j, ¬ (106 ≤ a ∧ a ≤ 109) → ¬ (a = 98 ∧ j = 11) → IH a j = IF a j := fun a j q1 q2 => by rw [m3 a j (by omega) (by omega) (by omega) (by omega) q2, pN (by omega), o4 _ _ (by omega) q2]
    have lH : Look IH (itr P 400 (x, 0, z0, z0)).2.1 (itr P 400 (x, 0, z0, z0)).2.2.1 := ⟨l2.1, by rw [eH _ _ (by omega) (by omega)]; exact l2.2.1, fun i hi => by rw [eH _ _ (by omega) (by omega)]; exact l2.2.2 i hi⟩
    obtain ⟨r2, n1, n2⟩ := mlost_s (a0 := a0) (J := JH) lH m2
    have fin : ∀ a j, ¬ Scr a j → IH a j = I a j := Scr_of (fun a j q1 q2 q3 q4 q5 => by rw [eH a j q3 (by omega), eF a j q3 q4 q5, eDI a j q1 q2])
    have finJ : ∀ a, a ≠ 53 → a ≠ 56 → a ≠ 98 → JH a = J a := fun a q1 q2 q3 => funext fun j => by rw [m4 a j q3, putJ_ap, if_neg (by omega), putJ_ap, if_neg (by omega), g6 a j q3, d4 a j q2, c5 a j q2, b4 a j q1, a5 a j q1]
    refine ⟨r2, ID, JD, IH, JH, ?_, ?_, hR.scr fin finJ⟩
    · rw [← N_0] at b1 d1
      unfold f_X10_lost f_X7_fillRow f_X7_addWeight
      rw [wi_k N_0 N_999, bd1_s, ite_bI, if_pos h, a1, bd2_s, N_400, b1, bd2_s, c1, bd2_s, f1, nm_s, bd1_s, d1, bd2_s, k1, bd1_s]
      rcases k2 with ⟨y, y1, y2, y3⟩ | ⟨y2, y3⟩
      · rw [y2, if_pos (by rw [N_0, le_nn (by omega) (by omega)]; omega), y3.uniq n2]
      · rw [y2, if_neg (by decide), y3.uniq n2]
    · unfold f_X11_lost
      have v0 : vin 0 9 = true := vin_nI (n := 0) (by omega) (by omega)
      rw [L_0, L_999, in_x, bd1_s, ite_bI, if_pos h, g1, bd2_s, N_400, g3, bd2_s, l1, bd1_s, o1, bd2_s, if_pos v0, if_pos v0, show (0 : Int32).toNatClampNeg = 0 from rfl, fG, nm_s]
      rw [← N_0] at m1
      unfold f_X11_trial
      rw [m1, bd2_s]
      exact n1
  · refine ⟨-1, I, J, I, J, ?_, ?_, hM⟩
    · unfold f_X10_lost
      rw [wi_k N_0 N_999, bd1_s, ite_bI, if_neg h]
    · unfold f_X11_lost
      rw [L_0, L_999, in_x, bd1_s, ite_bI, if_neg h]

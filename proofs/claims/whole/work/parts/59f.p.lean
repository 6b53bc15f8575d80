/-! one tick: one picture for the two taps -/
def hld (v lo hi : Int32) : Int32 := if lo ≤ v then (if v ≤ hi then v else hi) else lo
abbrev Pg : Type := Nat → Nat × (Nat → Int32)
def ev (P : Pg) (q : Nat) (x : Nat → Int32) : Int32 := evl x (P q).2 (P q).1
def t1 (x : Nat → Int32) : Nat → Int32 := ud (ud x 3 (x 3 + nI 1)) 4 (x 4 + nI 1)
def tFl (P : Pg) (x : Nat → Int32) : Int32 := hld (ev P 0 (t1 x)) (nI 0) (nI 999)
def t2 (P : Pg) (x : Nat → Int32) : Nat → Int32 := ud (t1 x) 0 (hld (t1 x 0 + tFl P x) (nI 0) (nI 99999))
def t3 (P : Pg) (x : Nat → Int32) : Nat → Int32 := ud (t2 P x) 2 (t2 P x 2 - hld (ev P 1 (t2 P x)) (-nI 999) (nI 999))
def tsh (y : Nat → Int32) : Nat → Int32 := if y 7 = nI 0 then y else ud (ud y 8 (y 8 * nI 1103515245 + nI 12345)) 2 (y 2 + (jrem (jushr (y 8 * nI 1103515245 + nI 12345) (nI 16)) (nI 2 * y 7 + nI 1) - y 7))
def tho (y : Nat → Int32) : Nat → Int32 := ud y 2 (hld (y 2) (-nI 999) (nI 999))
def tsw (y : Nat → Int32) : Nat → Int32 := if -nI 999 ≤ y 1 + y 2 ∧ y 1 + y 2 ≤ nI 999 then ud y 1 (y 1 + y 2) else ud (ud y 1 (hld (y 1 + y 2) (-nI 999) (nI 999))) 2 (nI 0)
def t6 (P : Pg) (x : Nat → Int32) : Nat → Int32 := tsw (tho (tsh (t3 P x)))
abbrev goY (P : Pg) (y : Nat → Int32) : Prop := ¬ ev P 2 y = nI 0
def leY (P : Pg) (y : Nat → Int32) : Int32 := hld (ev P 3 y) (nI 0) (y 0)
def tdr (y : Nat → Int32) (l : Int32) : Nat → Int32 := ud (ud (ud (ud (ud y 0 l) 1 (-(y 1 / nI 2))) 2 (-(y 2 / nI 2))) 4 (nI 0)) 5 (y 5 + nI 1)
def tYN (P : Pg) (y : Nat → Int32) : Nat → Int32 := if goY P y then tdr y (leY P y) else y
def tYD (P : Pg) (y : Nat → Int32) : Int64 := if goY P y then (y 0 - leY P y).toInt64 else 0
def nC (P : Pg) (y : Nat → Int32) (c : Nat) : Nat := if goY P y ∧ c < 60 then c + 1 else c
def nU (P : Pg) (y : Nat → Int32) (c : Nat) (u : Nat → Int32) : Nat → Int32 := if goY P y ∧ c < 60 then ud u c (y 4) else u
def nW (P : Pg) (y : Nat → Int32) (c : Nat) (w : Nat → Int32) : Nat → Int32 := if goY P y ∧ c < 60 then ud w c (y 0 - leY P y) else w
theorem hld_r {v lo hi : Int32} (h : lo ≤ hi) : lo ≤ hld v lo hi ∧ hld v lo hi ≤ hi := by
  unfold hld
  rw [i_le] at h
  by_cases h1 : lo ≤ v
  · rw [if_pos h1]
    by_cases h2 : v ≤ hi
    · rw [if_pos h2]; exact ⟨h1, h2⟩
    · rw [if_neg h2, i_le, i_le]; omega
  · rw [if_neg h1, i_le, i_le]; omega
theorem held_s {v lo hi : Int32} (h : lo ≤ hi) : f_X10_heldTo v lo hi = some (hld v lo hi) := by
  unfold f_X10_heldTo hld jmax jmin
  rw [i_le] at h
  by_cases h1 : lo ≤ v
  · rw [if_pos h1]
    by_cases h2 : v ≤ hi
    · rw [if_pos h2]
      by_cases h3 : v < hi
      · rw [if_pos h3]
        by_cases h4 : lo < v
        · rw [if_pos h4]
        · rw [if_neg h4]
          congr 1
          rw [i_eq]; rw [i_le] at h1; rw [i_lt] at h4; omega
      · rw [if_neg h3]
        have e : hi = v := by rw [i_eq]; rw [i_le] at h2; rw [i_lt] at h3; omega
        rw [e]
        by_cases h4 : lo < v
        · rw [if_pos h4]
        · rw [if_neg h4]
          congr 1
          rw [i_eq]; rw [i_le] at h1; rw [i_lt] at h4; omega
    · have h3 : ¬ v < hi := by rw [i_lt]; rw [i_le] at h2; omega
      rw [if_neg h2, if_neg h3]
      by_cases h4 : lo < hi
      · rw [if_pos h4]
      · rw [if_neg h4]
        congr 1
        rw [i_eq]; rw [i_lt] at h4; omega
  · have h5 : ¬ lo < v := by rw [i_lt]; rw [i_le] at h1; omega
    have h3 : v < hi := by rw [i_lt]; rw [i_le] at h1; omega
    rw [if_neg h1, if_pos h3, if_neg h5]
theorem mheld_s {v lo hi : Int32} : f_X11_held v lo hi = some (hld v lo hi) := by
  unfold f_X11_held hld
  by_cases h1 : lo ≤ v
  · rw [if_pos h1, if_pos h1]
    by_cases h2 : v ≤ hi
    · rw [if_pos h2, if_pos h2]
    · rw [if_neg h2, if_neg h2]
  · rw [if_neg h1, if_neg h1]
theorem jmin_h {w : Int32} (h : 0 ≤ w.toInt) : jmin (nI 99999) w = hld w (nI 0) (nI 99999) := by
  have e0 : (nI 0).toInt = 0 := by decide
  unfold jmin hld
  rw [if_pos (show nI 0 ≤ w by rw [i_le]; omega)]
  by_cases h1 : w < nI 99999
  · rw [if_pos h1, if_pos (by rw [i_lt] at h1; rw [i_le]; omega)]
  · rw [if_neg h1]
    by_cases h2 : w ≤ nI 99999
    · rw [if_pos h2]
      rw [i_eq]; rw [i_lt] at h1; rw [i_le] at h2; omega
    · rw [if_neg h2]
def HS (k : Nat) (I : HI) (y : Nat → Int32) : Prop := ∀ j, j < 9 → I k (j + 1) = y j
theorem HS.pt {k i : Nat} {I : HI} {y : Nat → Int32} {v : Int32} (h : HS k I y) : HS k (put I k (i + 1) v) (ud y i v) := fun j hj => by
  by_cases e : j = i
  · rw [e, pE rfl rfl, ud_e]
  · rw [pN (by omega), ud_n e]; exact h j hj
theorem HS.of {k : Nat} {I I2 : HI} {y : Nat → Int32} (h : HS k I y) (e : ∀ j, 1 ≤ j → j ≤ 9 → I2 k j = I k j) : HS k I2 y := fun j hj => by
  rw [e (j + 1) (by omega) (by omega)]; exact h j hj
theorem shake_s {k : Nat} {I : HI} {J : HJ} {y : Nat → Int32} (h : HS k I y) (h7 : 0 ≤ (y 7).toInt ∧ (y 7).toInt ≤ 99) : ∃ I1, f_X7_shakeSpeed k I J = some I1 ∧ HS k I1 (tsh y) ∧ ∀ a j, ¬ (a = k ∧ (j = 3 ∨ j = 9)) → I1 a j = I a j := by
  have e8 : I k 8 = y 7 := h 7 (by omega)
  have e9 : I k 9 = y 8 := h 8 (by omega)
  have e3 : I k 3 = y 2 := h 2 (by omega)
  obtain ⟨n, hn, en, en2⟩ := nI_of0 (x := y 7) h7.1
  by_cases h0 : y 7 = nI 0
  · refine ⟨I, ?_, ?_, fun _ _ _ => rfl⟩
    · unfold f_X7_shakeSpeed
      simp only [nm_s, N_0, e8]
      rw [if_pos h0]
    · unfold tsh
      rw [if_pos h0]; exact h
  · have hz : ¬ nI 2 * y 7 + nI 1 = nI 0 := fun q => by
      rw [en, nI_mul, nI_add, eq_nn (by omega) (by omega)] at q
      omega
    refine ⟨put (put I k 9 (y 8 * nI 1103515245 + nI 12345)) k 3 (y 2 + (jrem (jushr (y 8 * nI 1103515245 + nI 12345) (nI 16)) (nI 2 * y 7 + nI 1) - y 7)), ?_, ?_, fun a j hj => ?_⟩
    · unfold f_X7_shakeSpeed
      simp (disch := omega) only [nm_s, N_0, N_1, N_2, N_16, N_12345, N_1103515245, e8, e9, e3, pE, pN]
      rw [if_neg h0, if_neg hz, if_neg hz]
    · unfold tsh
      rw [if_neg h0]
      exact (HS.pt (i := 8) h).pt (i := 2)
    · rw [pN (by omega), pN (by omega)]
theorem m999 : (-nI 999 : Int32) ≤ nI 999 := by decide
theorem swayOn_s {k : Nat} {I : HI} {J : HJ} {y : Nat → Int32} (h : HS k I y) : ∃ I1, f_X7_swayOn k I J = some I1 ∧ HS k I1 (tsw y) ∧ ∀ a j, ¬ (a = k ∧ (j = 2 ∨ j = 3)) → I1 a j = I a j := by
  have e2 : I k 2 = y 1 := h 1 (by omega)
  have e3 : I k 3 = y 2 := h 2 (by omega)
  by_cases hw : -nI 999 ≤ y 1 + y 2 ∧ y 1 + y 2 ≤ nI 999
  · refine ⟨put I k 2 (y 1 + y 2), ?_, ?_, fun a j hj => ?_⟩
    · unfold f_X7_swayOn
      simp (disch := omega) only [nm_s, wi_s, bd1_s, bI_1, N_0, N_999, e2, e3, pE, pN]
      rw [if_pos hw]
    · unfold tsw
      rw [if_pos hw]
      exact HS.pt (i := 1) h
    · rw [pN (by omega)]
  · refine ⟨put (put (put I k 2 (y 1 + y 2)) k 2 (hld (y 1 + y 2) (-nI 999) (nI 999))) k 3 (nI 0), ?_, ?_, fun a j hj => ?_⟩
    · unfold f_X7_swayOn
      simp (disch := omega) only [nm_s, wi_s, bd1_s, bI_1, N_0, N_999, e2, e3, pE, pN, held_s m999]
      rw [if_neg hw]
    · unfold tsw
      rw [if_neg hw]
      intro j hj
      have := ((HS.pt (i := 1) (v := hld (y 1 + y 2) (-nI 999) (nI 999)) (HS.pt (i := 1) (v := y 1 + y 2) h)).pt (i := 2) (v := nI 0)) j hj
      refine this.trans ?_
      unfold ud
      by_cases q2 : j = 2
      · rw [if_pos q2, if_pos q2]
      · rw [if_neg q2, if_neg q2]
        by_cases q1 : j = 1
        · rw [if_pos q1, if_pos q1]
        · rw [if_neg q1, if_neg q1, if_neg q1]
    · rw [pN (by omega), pN (by omega), pN (by omega)]
theorem letDrop_s {k c : Nat} {I : HI} {J : HJ} {y u : Nat → Int32} {l : Int32} (hk : oK k = 6) (h : HS k I y) (hr : Row I (k + 1) c u) : ∃ I1, f_X7_letDrop k l I J = some (I1, putJ J k 11 (J k 11 + (y 0 - l).toInt64)) ∧ HS k I1 (tdr y l) ∧ (I1 k 13 = y 4 ∧ I1 k 14 = y 0 - l) ∧ Row I1 (k + 1) (if c < 60 then c + 1 else c) (if c < 60 then ud u c (y 4) else u) ∧ ∀ a j, a ≠ k + 1 → a ≠ k + 2 → ¬ (a = k ∧ (j ≤ 9 ∨ j = 13 ∨ j = 14)) → I1 a j = I a j := by
  have e1 : I k 1 = y 0 := h 0 (by omega)
  have e2 : I k 2 = y 1 := h 1 (by omega)
  have e3 : I k 3 = y 2 := h 2 (by omega)
  have e5 : I k 5 = y 4 := h 4 (by omega)
  have e6 : I k 6 = y 5 := h 5 (by omega)
  have r0 : rfn k 0 = k + 1 := (lay6 hk).1
  obtain ⟨k8, hc, hc1, hc2⟩ := hr
  obtain ⟨Ia, hIa⟩ : ∃ Ia, Ia = put (put (put (put (put (put (put I k 13 (y 4)) k 14 (y 0 - l)) k 1 l) k 2 (-(y 1 / nI 2))) k 3 (-(y 2 / nI 2))) k 5 (nI 0)) k 6 (y 5 + nI 1) := ⟨_, rfl⟩
  have hSa : HS k Ia (tdr y l) := by
    rw [hIa]
    have h1 : HS k (put (put I k 13 (y 4)) k 14 (y 0 - l)) y := h.of (fun j h1 h2 => by rw [pN (by omega), pN (by omega)])
    exact ((((h1.pt (i := 0)).pt (i := 1)).pt (i := 2)).pt (i := 4)).pt (i := 5)
  have eA : ∀ a j, ¬ (a = k ∧ (j ≤ 9 ∨ j = 13 ∨ j = 14)) → Ia a j = I a j := fun a j q => by
    rw [hIa, pN (by omega), pN (by omega), pN (by omega), pN (by omega), pN (by omega), pN (by omega), pN (by omega)]
  have e13 : Ia k 13 = y 4 := by rw [hIa, pN (by omega), pN (by omega), pN (by omega), pN (by omega), pN (by omega), pN (by omega), pE rfl rfl]
  have e14 : Ia k 14 = y 0 - l := by rw [hIa, pN (by omega), pN (by omega), pN (by omega), pN (by omega), pN (by omega), pE rfl rfl]
  have ef : f_X7_letDrop k l I J = bd2 (f_X9_add (k + 1) (Ia k 13) Ia (putJ J k 11 (J k 11 + (y 0 - l).toInt64))) fun r20 I21 => some (I21, putJ J k 11 (J k 11 + (y 0 - l).toInt64)) := by
    unfold f_X7_letDrop
    rw [hIa]
    simp (disch := omega) only [nm_s, N_0, N_1, N_2, e1, e2, e3, e5, e6, r0, pE, pN]
  have c1a : Ia (k + 1) 1 = nI c := by rw [eA _ _ (by omega)]; exact hc1
  by_cases hf : c < 60
  · refine ⟨put (put Ia (k + 1 + 1) c (y 4)) (k + 1) 1 (nI (c + 1)), ?_, hSa.of (fun j h1 h2 => by rw [pN (by omega), pN (by omega)]), ⟨by rw [pN (by omega), pN (by omega)]; exact e13, by rw [pN (by omega), pN (by omega)]; exact e14⟩, ?_, fun a j q1 q2 q3 => ?_⟩
    · rw [ef, e13, tadd_s k8 hf c1a, bd2_s]
    · rw [if_pos hf, if_pos hf]
      refine ⟨k8, by omega, pE rfl rfl, fun i hi => ?_⟩
      rw [pN (by omega)]
      by_cases e : i = c
      · rw [e, pE rfl rfl, ud_e]
      · rw [pN (by omega), eA _ _ (by omega), ud_n e]; exact hc2 i (by omega)
    · rw [pN (by omega), pN (by omega), eA _ _ q3]
  · have e : c = 60 := by omega
    subst e
    refine ⟨Ia, ?_, hSa, ⟨e13, e14⟩, ?_, fun a j q1 q2 q3 => eA _ _ q3⟩
    · rw [ef, tadd_f c1a, bd2_s]
    · rw [if_neg hf, if_neg hf]
      exact ⟨k8, hc, c1a, fun i hi => by rw [eA _ _ (by omega)]; exact hc2 i hi⟩
def LwC (I : HI) (P : Pg) : Prop := ∀ q, q < 4 → (P q).1 ≤ 200 ∧ I 10 q = nI (P q).1 ∧ (∀ i, i < (P q).1 → I (6 + q) i = (P q).2 i) ∧ hgt (P q).2 (P q).1 0 1
theorem LwC.of {I I2 : HI} {P : Pg} (h : LwC I P) (e1 : I2 10 = I 10) (e2 : ∀ q, q < 4 → I2 (6 + q) = I (6 + q)) : LwC I2 P := fun q hq => by
  rw [e1, e2 q hq]; exact h q hq
theorem cw_s {q a : Nat} {P : Pg} {x : Nat → Int32} {I : HI} {J : HJ} (hP : LwC I P) (hq : q < 4) (ha : a ≠ 12) (hS : HS a I x) : ∃ I1, f_X2_worth 4 (nI q) a I J = some (ev P q x, I1) ∧ ∀ b, b ≠ 12 → I1 b = I b := by
  obtain ⟨p1, p2, p3, p4⟩ := hP q hq
  exact cworth_s hq ha p1 p4 I p2 p3 (fun j hj => hS j (by omega))
theorem t6_0 {P : Pg} {x : Nat → Int32} : t6 P x 0 = t2 P x 0 := by
  have e1 : ∀ y, tsw y 0 = y 0 := fun y => by
    unfold tsw
    split
    · exact ud_n (by omega)
    · exact (ud_n (by omega)).trans (ud_n (by omega))
  have e2 : ∀ y, tsh y 0 = y 0 := fun y => by
    unfold tsh
    split
    · rfl
    · exact (ud_n (by omega)).trans (ud_n (by omega))
  unfold t6
  rw [e1]
  show tho (tsh (t3 P x)) 0 = _
  unfold tho
  rw [ud_n (by omega), e2]
  unfold t3
  exact ud_n (by omega)
theorem t2_0 {P : Pg} {x : Nat → Int32} : 0 ≤ (t2 P x 0).toInt ∧ (t2 P x 0).toInt ≤ 99999 := by
  have h := hld_r (v := t1 x 0 + tFl P x) (lo := nI 0) (hi := nI 99999) (by decide)
  rw [i_le, i_le] at h
  have e0 : (nI 0).toInt = 0 := by decide
  have e1 : (nI 99999).toInt = 99999 := by decide
  have e : t2 P x 0 = hld (t1 x 0 + tFl P x) (nI 0) (nI 99999) := ud_e _ _ _
  rw [e]
  omega
theorem t3_7 {P : Pg} {x : Nat → Int32} : t3 P x 7 = x 7 := by
  unfold t3
  rw [ud_n (by omega)]
  unfold t2
  rw [ud_n (by omega)]
  unfold t1
  rw [ud_n (by omega), ud_n (by omega)]
theorem tFl_r {P : Pg} {x : Nat → Int32} : 0 ≤ (tFl P x).toInt ∧ (tFl P x).toInt ≤ 999 := by
  have h := hld_r (v := ev P 0 (t1 x)) (lo := nI 0) (hi := nI 999) (by decide)
  rw [i_le, i_le] at h
  have e0 : (nI 0).toInt = 0 := by decide
  have e1 : (nI 999).toInt = 999 := by decide
  unfold tFl
  omega
theorem ctick_s {k c : Nat} {P : Pg} {x u : Nat → Int32} {I : HI} {J : HJ} (hk : oK k = 6) (hkl : k = 1 ∨ k = 53 ∨ k = 56) (hP : LwC I P) (hS : HS k I x) (hr : Row I (k + 1) c u) (hw : 0 ≤ (x 0).toInt ∧ (x 0).toInt ≤ 1000000) (h7 : 0 ≤ (x 7).toInt ∧ (x 7).toInt ≤ 99) : ∃ I1 J1, f_X7_goOneTick k 4 I J = some (bI (goY P (t6 P x)), I1, J1) ∧ HS k I1 (tYN P (t6 P x)) ∧ (J1 k 10 = J k 10 + (tFl P x).toInt64 ∧ J1 k 11 = J k 11 + tYD P (t6 P x)) ∧ (goY P (t6 P x) → I1 k 13 = t6 P x 4 ∧ I1 k 14 = t6 P x 0 - leY P (t6 P x)) ∧ Row I1 (k + 1) (nC P (t6 P x) c) (nU P (t6 P x) c u) ∧ (∀ a j, a ≠ 12 → a ≠ k + 1 → a ≠ k + 2 → ¬ (a = k ∧ (j ≤ 9 ∨ j = 13 ∨ j = 14)) → I1 a j = I a j) ∧ ∀ a j, ¬ (a = k ∧ (j = 10 ∨ j = 11)) → J1 a j = J a j := by
  have e4 : I k 4 = x 3 := hS 3 (by omega)
  have e5 : I k 5 = x 4 := hS 4 (by omega)
  have hk12 : k ≠ 12 ∧ k + 1 ≠ 12 ∧ k + 2 ≠ 12 := by omega
  have hk10 : k ≠ 10 ∧ k + 1 ≠ 10 ∧ k + 2 ≠ 10 := by omega
  have hk6 : ∀ q, q < 4 → 6 + q ≠ k ∧ 6 + q ≠ k + 1 ∧ 6 + q ≠ k + 2 ∧ 6 + q ≠ 12 := fun q hq => by omega
  unfold f_X7_goOneTick f_X7_addWeight
  simp (disch := omega) only [nm_s, bd1_s, N_0, N_1, N_2, N_3, N_999, N_99999, e4, e5, pE, pN]
  obtain ⟨Ia, hIa⟩ : ∃ Ia, Ia = put (put I k 4 (x 3 + nI 1)) k 5 (x 4 + nI 1) := ⟨_, rfl⟩
  rw [← hIa]
  have eA : ∀ a j, a ≠ k → Ia a j = I a j := fun a j h => by rw [hIa, pN (by omega), pN (by omega)]
  have eAx : ∀ j, ¬ (j = 4 ∨ j = 5) → Ia k j = I k j := fun j h => by rw [hIa, pN (by omega), pN (by omega)]
  have sA : HS k Ia (t1 x) := by rw [hIa]; exact (HS.pt (i := 3) hS).pt (i := 4)
  have pA : LwC Ia P := hP.of (funext fun j => eA _ _ (by omega)) (fun q hq => funext fun j => eA _ _ (by have := hk6 q hq; omega))
  obtain ⟨Ib, b1, b2⟩ := cw_s (q := 0) (J := J) pA (by omega) hk12.1 sA
  rw [b1, bd2_s, held_s (by decide), bd1_s]
  have sB : HS k Ib (t1 x) := sA.of (fun j _ _ => by rw [b2 k hk12.1])
  have pB : LwC Ib P := pA.of (b2 _ (by omega)) (fun q hq => b2 _ (by have := hk6 q hq; omega))
  have f1 : Ib k 1 = t1 x 0 := sB 0 (by omega)
  have f3 : Ib k 3 = t1 x 2 := sB 2 (by omega)
  have x10 : t1 x 0 = x 0 := by unfold t1; rw [ud_n (by omega), ud_n (by omega)]
  have hfl := tFl_r (P := P) (x := x)
  have hsum : 0 ≤ (t1 x 0 + tFl P x).toInt := by rw [x10, i_add (by omega) (by omega)]; omega
  rw [f1, show hld (ev P 0 (t1 x)) (nI 0) (nI 999) = tFl P x from rfl, jmin_h hsum]
  obtain ⟨Ic, hIc⟩ : ∃ Ic, Ic = put Ib k 1 (hld (t1 x 0 + tFl P x) (nI 0) (nI 99999)) := ⟨_, rfl⟩
  rw [← hIc]
  have sC : HS k Ic (t2 P x) := by rw [hIc]; exact HS.pt (i := 0) sB
  have eC : ∀ a j, ¬ (a = k ∧ j = 1) → Ic a j = Ib a j := fun a j h => by rw [hIc, pN (by omega)]
  have pC : LwC Ic P := pB.of (funext fun j => eC _ _ (by omega)) (fun q hq => funext fun j => eC _ _ (by have := hk6 q hq; omega))
  obtain ⟨Id, d1, d2⟩ := cw_s (q := 1) (J := putJ J k 10 (J k 10 + (tFl P x).toInt64)) pC (by omega) hk12.1 sC
  rw [d1, bd2_s, held_s m999, bd1_s]
  have sD : HS k Id (t2 P x) := sC.of (fun j _ _ => by rw [d2 k hk12.1])
  have pD : LwC Id P := pC.of (d2 _ (by omega)) (fun q hq => d2 _ (by have := hk6 q hq; omega))
  have g3 : Ib k 3 = t2 P x 2 := by rw [← eC k 3 (by omega)]; exact sC 2 (by omega)
  rw [g3]
  obtain ⟨Ie, hIe⟩ : ∃ Ie, Ie = put Id k 3 (t2 P x 2 - hld (ev P 1 (t2 P x)) (-nI 999) (nI 999)) := ⟨_, rfl⟩
  rw [← hIe]
  have sE : HS k Ie (t3 P x) := by rw [hIe]; exact HS.pt (i := 2) sD
  have eE : ∀ a j, ¬ (a = k ∧ j = 3) → Ie a j = Id a j := fun a j h => by rw [hIe, pN (by omega)]
  obtain ⟨If, f1, sF, eF⟩ := shake_s (J := putJ J k 10 (J k 10 + (tFl P x).toInt64)) sE (by rw [t3_7]; exact h7)
  rw [f1, bd1_s, held_s m999, bd1_s]
  have g4 : If k 3 = tsh (t3 P x) 2 := sF 2 (by omega)
  rw [g4]
  obtain ⟨Ig, hIg⟩ : ∃ Ig, Ig = put If k 3 (hld (tsh (t3 P x) 2) (-nI 999) (nI 999)) := ⟨_, rfl⟩
  rw [← hIg]
  have sG : HS k Ig (tho (tsh (t3 P x))) := by rw [hIg]; exact HS.pt (i := 2) sF
  have eG : ∀ a j, ¬ (a = k ∧ j = 3) → Ig a j = If a j := fun a j h => by rw [hIg, pN (by omega)]
  obtain ⟨Ih, h1, sH, eH⟩ := swayOn_s (J := putJ J k 10 (J k 10 + (tFl P x).toInt64)) sG
  rw [h1, bd1_s]
  have sH' : HS k Ih (t6 P x) := sH
  have eHD : ∀ a j, ¬ (a = k ∧ (j = 2 ∨ j = 3 ∨ j = 9)) → Ih a j = Id a j := fun a j q => by
    rw [eH _ _ (by omega), eG _ _ (by omega), eF _ _ (by omega), eE _ _ (by omega)]
  have pH : LwC Ih P := pD.of (funext fun j => eHD _ _ (by omega)) (fun q hq => funext fun j => eHD _ _ (by have := hk6 q hq; omega))
  obtain ⟨Ij, j1, j2⟩ := cw_s (q := 2) (J := putJ J k 10 (J k 10 + (tFl P x).toInt64)) pH (by omega) hk12.1 sH'
  rw [j1, bd2_s]
  have sJ : HS k Ij (t6 P x) := sH'.of (fun j _ _ => by rw [j2 k hk12.1])
  have pJ : LwC Ij P := pH.of (j2 _ (by omega)) (fun q hq => j2 _ (by have := hk6 q hq; omega))
  have eIJ : ∀ a j, a ≠ 12 → ¬ (a = k ∧ j ≤ 9) → Ij a j = I a j := fun a j q1 q2 => by
    rw [j2 a q1, eHD _ _ (by omega), d2 a q1, eC _ _ (by omega), b2 a q1, hIa, pN (by omega), pN (by omega)]
  by_cases hg : goY P (t6 P x)
  · rw [if_neg hg]
    obtain ⟨Il, l1, l2⟩ := cw_s (q := 3) (J := putJ J k 10 (J k 10 + (tFl P x).toInt64)) pJ (by omega) hk12.1 sJ
    have sL : HS k Il (t6 P x) := sJ.of (fun j _ _ => by rw [l2 k hk12.1])
    have gl : Il k 1 = t6 P x 0 := sL 0 (by omega)
    have hle : nI 0 ≤ t6 P x 0 := by
      rw [t6_0, i_le]
      exact t2_0.1
    rw [l1, bd2_s, gl, held_s hle, bd1_s]
    have eIL : ∀ a j, a ≠ 12 → ¬ (a = k ∧ j ≤ 9) → Il a j = I a j := fun a j q1 q2 => by
      rw [l2 a q1, eIJ a j q1 q2]
    have rL : Row Il (k + 1) c u := ⟨hr.1, hr.2.1, by rw [eIL _ _ (by omega) (by omega)]; exact hr.2.2.1, fun i hi => by rw [eIL _ _ (by omega) (by omega)]; exact hr.2.2.2 i hi⟩
    obtain ⟨Im, m1, sM, eM, rM, fM⟩ := letDrop_s (J := putJ J k 10 (J k 10 + (tFl P x).toInt64)) (l := leY P (t6 P x)) hk sL rL
    refine ⟨Im, putJ (putJ J k 10 (J k 10 + (tFl P x).toInt64)) k 11 ((putJ J k 10 (J k 10 + (tFl P x).toInt64)) k 11 + (t6 P x 0 - leY P (t6 P x)).toInt64), ?_, ?_, ⟨?_, ?_⟩, fun _ => eM, ?_, fun a j q1 q2 q3 q4 => ?_, fun a j q => ?_⟩
    · rw [show hld (ev P 3 (t6 P x)) (nI 0) (t6 P x 0) = leY P (t6 P x) from rfl, m1, bd2_s, bI_t hg]
      all_goals rfl
    · unfold tYN
      rw [if_pos hg]; exact sM
    · rw [putJ_ap, if_neg (by omega), putJ_ap, if_pos ⟨rfl, rfl⟩]
    · unfold tYD
      rw [putJ_ap, if_pos ⟨rfl, rfl⟩, putJ_ap, if_neg (by omega), if_pos hg]
    · unfold nC nU
      by_cases hc : c < 60
      · rw [if_pos ⟨hg, hc⟩, if_pos ⟨hg, hc⟩]
        rw [if_pos hc, if_pos hc] at rM
        exact rM
      · rw [if_neg (fun q => hc q.2), if_neg (fun q => hc q.2)]
        rw [if_neg hc, if_neg hc] at rM
        exact rM
    · rw [fM a j q2 q3 q4, eIL a j q1 (by omega)]
    · rw [putJ_ap, if_neg (by omega), putJ_ap, if_neg (by omega)]
  · have hg' : ev P 2 (t6 P x) = nI 0 := Decidable.not_not.mp hg
    rw [if_pos hg']
    refine ⟨Ij, putJ J k 10 (J k 10 + (tFl P x).toInt64), ?_, ?_, ⟨?_, ?_⟩, fun q => absurd q hg, ?_, fun a j q1 q2 q3 q4 => eIJ a j q1 (by omega), fun a j q => ?_⟩
    · rw [bI_f hg]
      all_goals rfl
    · unfold tYN
      rw [if_neg hg]; exact sJ
    · rw [putJ_ap, if_pos ⟨rfl, rfl⟩]
    · unfold tYD
      rw [putJ_ap, if_neg (by omega), if_neg hg, Int64.add_zero]
    · unfold nC nU
      rw [if_neg (fun q => hg q.1), if_neg (fun q => hg q.1)]
      exact ⟨hr.1, hr.2.1, by rw [eIJ _ _ (by omega) (by omega)]; exact hr.2.2.1, fun i hi => by rw [eIJ _ _ (by omega) (by omega)]; exact hr.2.2.2 i hi⟩
    · rw [putJ_ap, if_neg (by omega)]

/-! the keys and the names -/
theorem MW.wd {b : Nat → Int32} {N f t : Nat} {w : List Int32} (ht : t ≤ N) (h : MW b f t w) (hl : 0 < w.length) (hw : Lt (w.getD 0 0)) : prt b N f = nI 257 := by
  have h1 := h.1
  have h2 := h.2 0 hl
  exact prt_lt (by omega) (by rw [show b f = w.getD 0 0 from h2]; exact hw)
theorem FU_w (n : Nat) (h : n ≤ 1000) : FU = (FU - n) + n := by unfold FU; omega
theorem key_s {b : Nat → Int32} {N f t : Nat} {I K : HI} {J : HJ} (hN : N ≤ 200) (hB : ByR b N) (hft : f ≤ t) (htN : t ≤ N) (hb : ByC I b N) (h4 : I 59 4 = prt b N f) (h5 : I 59 5 = nI f) (h6 : I 59 6 = nI t) (mb : ByM K b N) (k5 : K 98 20 = nI f) (k6 : K 98 21 = nI t) : (f_X8_placeAmong 0 I J = some (-1) ∧ f_X11_keyHere K J = some (-1)) ∨ ∃ k, k < 4 ∧ f < N ∧ Lt (b f) ∧ f_X8_placeAmong 0 I J = some (nI k) ∧ f_X11_keyHere K J = some (nI k) := by
  obtain ⟨r0, a0, t0⟩ := misn4 (w0 := 102) (w1 := 108) (w2 := 111) (w3 := 119) (J := J) hN hft htN mb k5 k6 (by decide) (by decide) (by decide) (by decide)
  obtain ⟨r1, a1, t1⟩ := misn4 (w0 := 112) (w1 := 117) (w2 := 108) (w3 := 108) (J := J) hN hft htN mb k5 k6 (by decide) (by decide) (by decide) (by decide)
  obtain ⟨r2, a2, t2⟩ := misn4 (w0 := 103) (w1 := 111) (w2 := 101) (w3 := 115) (J := J) hN hft htN mb k5 k6 (by decide) (by decide) (by decide) (by decide)
  obtain ⟨r3, a3, t3⟩ := misn4 (w0 := 108) (w1 := 101) (w2 := 102) (w3 := 116) (J := J) hN hft htN mb k5 k6 (by decide) (by decide) (by decide) (by decide)
  have pre : prt b N f = nI 257 → f_X8_placeAmong 0 I J = fL_X8_placeAmong_25 0 FU (nI 0) (nI f) 1 (nI 0) I J := fun h => by
    unfold f_X8_placeAmong
    rw [N_257, if_pos (h4.trans h), nm_s, h5]
    rfl
  have pno : ¬ prt b N f = nI 257 → f_X8_placeAmong 0 I J = some (-1) := fun h => by
    unfold f_X8_placeAmong
    rw [N_257, if_neg (fun q => h (h4.symm.trans q))]
  have q0 := word_l (a0 := 0) (o := 0) (k := 0) (w := [102, 108, 111, 119]) (J := J) hN htN hft (by omega) (by omega) (by decide) hb h5 h6 (by decide) (by decide) (by decide +kernel) (by decide +kernel) ((FU - 21) + 16)
  have q1 := word_l (a0 := 0) (o := 5) (k := 1) (w := [112, 117, 108, 108]) (J := J) hN htN hft (by omega) (by omega) (by decide) hb h5 h6 (by decide) (by decide) (by decide +kernel) (by decide +kernel) ((FU - 21) + 11)
  have q2 := word_l (a0 := 0) (o := 10) (k := 2) (w := [103, 111, 101, 115]) (J := J) hN htN hft (by omega) (by omega) (by decide) hb h5 h6 (by decide) (by decide) (by decide +kernel) (by decide +kernel) ((FU - 21) + 6)
  have q3 := word_l (a0 := 0) (o := 15) (k := 3) (w := [108, 101, 102, 116]) (J := J) hN htN hft (by omega) (by omega) (by decide) hb h5 h6 (by decide) (by decide) (by decide +kernel) (by decide +kernel) ((FU - 21) + 1)
  have c0 : prt b N f = nI 257 → f_X8_placeAmong 0 I J = fL_X8_placeAmong_25 0 ((FU - 21) + 21) (nI 0) (nI f) 1 (nI 0) I J := fun h => by rw [pre h, ← FU_w 21 (by omega)]
  by_cases m0 : MW b f t [102, 108, 111, 119]
  · have hw := m0.wd htN (by decide) (by decide)
    obtain ⟨z1, z2⟩ := prt_wd hB hw
    refine Or.inr ⟨0, by omega, z1, z2, (c0 hw).trans (q0.1 m0), ?_⟩
    have e0 : r0 = 1 := t0.elim (fun q => q.1) (fun q => absurd m0 q.2)
    unfold f_X11_keyHere
    rw [a0, bd1_s, e0, if_neg (by decide)]
    rfl
  have e0 : r0 = 0 := t0.elim (fun q => absurd q.2 m0) (fun q => q.1)
  have c1 : prt b N f = nI 257 → f_X8_placeAmong 0 I J = fL_X8_placeAmong_25 0 ((FU - 21) + 16) (nI 1) (nI f) 1 (nI 5) I J := fun h => (c0 h).trans (q0.2 m0)
  by_cases m1 : MW b f t [112, 117, 108, 108]
  · have hw := m1.wd htN (by decide) (by decide)
    obtain ⟨z1, z2⟩ := prt_wd hB hw
    refine Or.inr ⟨1, by omega, z1, z2, (c1 hw).trans (q1.1 m1), ?_⟩
    have e1 : r1 = 1 := t1.elim (fun q => q.1) (fun q => absurd m1 q.2)
    unfold f_X11_keyHere
    rw [a0, bd1_s, e0, if_pos rfl, a1, bd1_s, e1, if_neg (by decide)]
    rfl
  have e1 : r1 = 0 := t1.elim (fun q => absurd q.2 m1) (fun q => q.1)
  have c2 : prt b N f = nI 257 → f_X8_placeAmong 0 I J = fL_X8_placeAmong_25 0 ((FU - 21) + 11) (nI 2) (nI f) 1 (nI 10) I J := fun h => (c1 h).trans (q1.2 m1)
  by_cases m2 : MW b f t [103, 111, 101, 115]
  · have hw := m2.wd htN (by decide) (by decide)
    obtain ⟨z1, z2⟩ := prt_wd hB hw
    refine Or.inr ⟨2, by omega, z1, z2, (c2 hw).trans (q2.1 m2), ?_⟩
    have e2 : r2 = 1 := t2.elim (fun q => q.1) (fun q => absurd m2 q.2)
    unfold f_X11_keyHere
    rw [a0, bd1_s, e0, if_pos rfl, a1, bd1_s, e1, if_pos rfl, a2, bd1_s, e2, if_neg (by decide)]
    rfl
  have e2 : r2 = 0 := t2.elim (fun q => absurd q.2 m2) (fun q => q.1)
  have c3 : prt b N f = nI 257 → f_X8_placeAmong 0 I J = fL_X8_placeAmong_25 0 ((FU - 21) + 6) (nI 3) (nI f) 1 (nI 15) I J := fun h => (c2 h).trans (q2.2 m2)
  by_cases m3 : MW b f t [108, 101, 102, 116]
  · have hw := m3.wd htN (by decide) (by decide)
    obtain ⟨z1, z2⟩ := prt_wd hB hw
    refine Or.inr ⟨3, by omega, z1, z2, (c3 hw).trans (q3.1 m3), ?_⟩
    have e3 : r3 = 1 := t3.elim (fun q => q.1) (fun q => absurd m3 q.2)
    unfold f_X11_keyHere
    rw [a0, bd1_s, e0, if_pos rfl, a1, bd1_s, e1, if_pos rfl, a2, bd1_s, e2, if_pos rfl, a3, bd1_s, e3, if_neg (by decide)]
    rfl
  have e3 : r3 = 0 := t3.elim (fun q => absurd q.2 m3) (fun q => q.1)
  have c4 : prt b N f = nI 257 → f_X8_placeAmong 0 I J = fL_X8_placeAmong_25 0 ((FU - 21) + 1) (nI 4) (nI f) 1 (nI 20) I J := fun h => (c3 h).trans (q3.2 m3)
  refine Or.inl ⟨?_, ?_⟩
  · by_cases hw : prt b N f = nI 257
    · rw [c4 hw]
      show fLB_X8_placeAmong_25 0 _ _ _ _ _ I J = _
      unfold fLB_X8_placeAmong_25
      rw [if_pos (by decide +kernel)]
    · exact pno hw
  · unfold f_X11_keyHere
    rw [a0, bd1_s, e0, if_pos rfl, a1, bd1_s, e1, if_pos rfl, a2, bd1_s, e2, if_pos rfl, a3, bd1_s, e3, if_pos rfl]
theorem name_s {b : Nat → Int32} {N f t : Nat} {I K : HI} {J : HJ} (hN : N ≤ 200) (hB : ByR b N) (hft : f ≤ t) (htN : t ≤ N) (hb : ByC I b N) (h4 : I 59 4 = prt b N f) (h5 : I 59 5 = nI f) (h6 : I 59 6 = nI t) (mb : ByM K b N) (k5 : K 98 20 = nI f) (k6 : K 98 21 = nI t) : (f_X8_placeAmong 1 I J = some (-1) ∧ f_X11_nameHere K J = some (-1)) ∨ ∃ k, k < 7 ∧ f < N ∧ Lt (b f) ∧ f_X8_placeAmong 1 I J = some (nI k) ∧ f_X11_nameHere K J = some (nI k) := by
  obtain ⟨r0, a0, t0⟩ := misn6 (w0 := 119) (w1 := 101) (w2 := 105) (w3 := 103) (w4 := 104) (w5 := 116) (J := J) hN hft htN mb k5 k6 (by decide) (by decide) (by decide) (by decide) (by decide) (by decide)
  obtain ⟨r1, a1, t1⟩ := misn4 (w0 := 115) (w1 := 119) (w2 := 97) (w3 := 121) (J := J) hN hft htN mb k5 k6 (by decide) (by decide) (by decide) (by decide)
  obtain ⟨r2, a2, t2⟩ := misn5 (w0 := 115) (w1 := 112) (w2 := 101) (w3 := 101) (w4 := 100) (J := J) hN hft htN mb k5 k6 (by decide) (by decide) (by decide) (by decide) (by decide)
  obtain ⟨r3, a3, t3⟩ := misn4 (w0 := 116) (w1 := 105) (w2 := 99) (w3 := 107) (J := J) hN hft htN mb k5 k6 (by decide) (by decide) (by decide) (by decide)
  obtain ⟨r4, a4, t4⟩ := misn5 (w0 := 115) (w1 := 105) (w2 := 110) (w3 := 99) (w4 := 101) (J := J) hN hft htN mb k5 k6 (by decide) (by decide) (by decide) (by decide) (by decide)
  obtain ⟨r5, a5, t5⟩ := misn5 (w0 := 100) (w1 := 114) (w2 := 111) (w3 := 112) (w4 := 115) (J := J) hN hft htN mb k5 k6 (by decide) (by decide) (by decide) (by decide) (by decide)
  obtain ⟨r6, a6, t6⟩ := misn4 (w0 := 107) (w1 := 110) (w2 := 111) (w3 := 98) (J := J) hN hft htN mb k5 k6 (by decide) (by decide) (by decide) (by decide)
  have pre : prt b N f = nI 257 → f_X8_placeAmong 1 I J = fL_X8_placeAmong_25 1 FU (nI 0) (nI f) 1 (nI 0) I J := fun h => by
    unfold f_X8_placeAmong
    rw [N_257, if_pos (h4.trans h), nm_s, h5]
    rfl
  have pno : ¬ prt b N f = nI 257 → f_X8_placeAmong 1 I J = some (-1) := fun h => by
    unfold f_X8_placeAmong
    rw [N_257, if_neg (fun q => h (h4.symm.trans q))]
  have q0 := word_l (a0 := 1) (o := 0) (k := 0) (w := [119, 101, 105, 103, 104, 116]) (J := J) hN htN hft (by omega) (by omega) (by decide) hb h5 h6 (by decide) (by decide) (by decide +kernel) (by decide +kernel) ((FU - 41) + 34)
  have q1 := word_l (a0 := 1) (o := 7) (k := 1) (w := [115, 119, 97, 121]) (J := J) hN htN hft (by omega) (by omega) (by decide) hb h5 h6 (by decide) (by decide) (by decide +kernel) (by decide +kernel) ((FU - 41) + 29)
  have q2 := word_l (a0 := 1) (o := 12) (k := 2) (w := [115, 112, 101, 101, 100]) (J := J) hN htN hft (by omega) (by omega) (by decide) hb h5 h6 (by decide) (by decide) (by decide +kernel) (by decide +kernel) ((FU - 41) + 23)
  have q3 := word_l (a0 := 1) (o := 18) (k := 3) (w := [116, 105, 99, 107]) (J := J) hN htN hft (by omega) (by omega) (by decide) hb h5 h6 (by decide) (by decide) (by decide +kernel) (by decide +kernel) ((FU - 41) + 18)
  have q4 := word_l (a0 := 1) (o := 23) (k := 4) (w := [115, 105, 110, 99, 101]) (J := J) hN htN hft (by omega) (by omega) (by decide) hb h5 h6 (by decide) (by decide) (by decide +kernel) (by decide +kernel) ((FU - 41) + 12)
  have q5 := word_l (a0 := 1) (o := 29) (k := 5) (w := [100, 114, 111, 112, 115]) (J := J) hN htN hft (by omega) (by omega) (by decide) hb h5 h6 (by decide) (by decide) (by decide +kernel) (by decide +kernel) ((FU - 41) + 6)
  have q6 := word_l (a0 := 1) (o := 35) (k := 6) (w := [107, 110, 111, 98]) (J := J) hN htN hft (by omega) (by omega) (by decide) hb h5 h6 (by decide) (by decide) (by decide +kernel) (by decide +kernel) ((FU - 41) + 1)
  have c0 : prt b N f = nI 257 → f_X8_placeAmong 1 I J = fL_X8_placeAmong_25 1 ((FU - 41) + 41) (nI 0) (nI f) 1 (nI 0) I J := fun h => by rw [pre h, ← FU_w 41 (by omega)]
  by_cases m0 : MW b f t [119, 101, 105, 103, 104, 116]
  · have hw := m0.wd htN (by decide) (by decide)
    obtain ⟨z1, z2⟩ := prt_wd hB hw
    refine Or.inr ⟨0, by omega, z1, z2, (c0 hw).trans (q0.1 m0), ?_⟩
    have e0 : r0 = 1 := t0.elim (fun q => q.1) (fun q => absurd m0 q.2)
    unfold f_X11_nameHere
    rw [a0, bd1_s, e0, if_neg (by decide)]
    rfl
  have e0 : r0 = 0 := t0.elim (fun q => absurd q.2 m0) (fun q => q.1)
  have c1 : prt b N f = nI 257 → f_X8_placeAmong 1 I J = fL_X8_placeAmong_25 1 ((FU - 41) + 34) (nI 1) (nI f) 1 (nI 7) I J := fun h => (c0 h).trans (q0.2 m0)
  by_cases m1 : MW b f t [115, 119, 97, 121]
  · have hw := m1.wd htN (by decide) (by decide)
    obtain ⟨z1, z2⟩ := prt_wd hB hw
    refine Or.inr ⟨1, by omega, z1, z2, (c1 hw).trans (q1.1 m1), ?_⟩
    have e1 : r1 = 1 := t1.elim (fun q => q.1) (fun q => absurd m1 q.2)
    unfold f_X11_nameHere
    rw [a0, bd1_s, e0, if_pos rfl, a1, bd1_s, e1, if_neg (by decide)]
    rfl
  have e1 : r1 = 0 := t1.elim (fun q => absurd q.2 m1) (fun q => q.1)
  have c2 : prt b N f = nI 257 → f_X8_placeAmong 1 I J = fL_X8_placeAmong_25 1 ((FU - 41) + 29) (nI 2) (nI f) 1 (nI 12) I J := fun h => (c1 h).trans (q1.2 m1)
  by_cases m2 : MW b f t [115, 112, 101, 101, 100]
  · have hw := m2.wd htN (by decide) (by decide)
    obtain ⟨z1, z2⟩ := prt_wd hB hw
    refine Or.inr ⟨2, by omega, z1, z2, (c2 hw).trans (q2.1 m2), ?_⟩
    have e2 : r2 = 1 := t2.elim (fun q => q.1) (fun q => absurd m2 q.2)
    unfold f_X11_nameHere
    rw [a0, bd1_s, e0, if_pos rfl, a1, bd1_s, e1, if_pos rfl, a2, bd1_s, e2, if_neg (by decide)]
    rfl
  have e2 : r2 = 0 := t2.elim (fun q => absurd q.2 m2) (fun q => q.1)
  have c3 : prt b N f = nI 257 → f_X8_placeAmong 1 I J = fL_X8_placeAmong_25 1 ((FU - 41) + 23) (nI 3) (nI f) 1 (nI 18) I J := fun h => (c2 h).trans (q2.2 m2)
  by_cases m3 : MW b f t [116, 105, 99, 107]
  · have hw := m3.wd htN (by decide) (by decide)
    obtain ⟨z1, z2⟩ := prt_wd hB hw
    refine Or.inr ⟨3, by omega, z1, z2, (c3 hw).trans (q3.1 m3), ?_⟩
    have e3 : r3 = 1 := t3.elim (fun q => q.1) (fun q => absurd m3 q.2)
    unfold f_X11_nameHere
    rw [a0, bd1_s, e0, if_pos rfl, a1, bd1_s, e1, if_pos rfl, a2, bd1_s, e2, if_pos rfl, a3, bd1_s, e3, if_neg (by decide)]
    rfl
  have e3 : r3 = 0 := t3.elim (fun q => absurd q.2 m3) (fun q => q.1)
  have c4 : prt b N f = nI 257 → f_X8_placeAmong 1 I J = fL_X8_placeAmong_25 1 ((FU - 41) + 18) (nI 4) (nI f) 1 (nI 23) I J := fun h => (c3 h).trans (q3.2 m3)
  by_cases m4 : MW b f t [115, 105, 110, 99, 101]
  · have hw := m4.wd htN (by decide) (by decide)
    obtain ⟨z1, z2⟩ := prt_wd hB hw
    refine Or.inr ⟨4, by omega, z1, z2, (c4 hw).trans (q4.1 m4), ?_⟩
    have e4 : r4 = 1 := t4.elim (fun q => q.1) (fun q => absurd m4 q.2)
    unfold f_X11_nameHere
    rw [a0, bd1_s, e0, if_pos rfl, a1, bd1_s, e1, if_pos rfl, a2, bd1_s, e2, if_pos rfl, a3, bd1_s, e3, if_pos rfl, a4, bd1_s, e4, if_neg (by decide)]
    rfl
  have e4 : r4 = 0 := t4.elim (fun q => absurd q.2 m4) (fun q => q.1)
  have c5 : prt b N f = nI 257 → f_X8_placeAmong 1 I J = fL_X8_placeAmong_25 1 ((FU - 41) + 12) (nI 5) (nI f) 1 (nI 29) I J := fun h => (c4 h).trans (q4.2 m4)
  by_cases m5 : MW b f t [100, 114, 111, 112, 115]
  · have hw := m5.wd htN (by decide) (by decide)
    obtain ⟨z1, z2⟩ := prt_wd hB hw
    refine Or.inr ⟨5, by omega, z1, z2, (c5 hw).trans (q5.1 m5), ?_⟩
    have e5 : r5 = 1 := t5.elim (fun q => q.1) (fun q => absurd m5 q.2)
    unfold f_X11_nameHere
    rw [a0, bd1_s, e0, if_pos rfl, a1, bd1_s, e1, if_pos rfl, a2, bd1_s, e2, if_pos rfl, a3, bd1_s, e3, if_pos rfl, a4, bd1_s, e4, if_pos rfl, a5, bd1_s, e5, if_neg (by decide)]
    rfl
  have e5 : r5 = 0 := t5.elim (fun q => absurd q.2 m5) (fun q => q.1)
  have c6 : prt b N f = nI 257 → f_X8_placeAmong 1 I J = fL_X8_placeAmong_25 1 ((FU - 41) + 6) (nI 6) (nI f) 1 (nI 35) I J := fun h => (c5 h).trans (q5.2 m5)
  by_cases m6 : MW b f t [107, 110, 111, 98]
  · have hw := m6.wd htN (by decide) (by decide)
    obtain ⟨z1, z2⟩ := prt_wd hB hw
    refine Or.inr ⟨6, by omega, z1, z2, (c6 hw).trans (q6.1 m6), ?_⟩
    have e6 : r6 = 1 := t6.elim (fun q => q.1) (fun q => absurd m6 q.2)
    unfold f_X11_nameHere
    rw [a0, bd1_s, e0, if_pos rfl, a1, bd1_s, e1, if_pos rfl, a2, bd1_s, e2, if_pos rfl, a3, bd1_s, e3, if_pos rfl, a4, bd1_s, e4, if_pos rfl, a5, bd1_s, e5, if_pos rfl, a6, bd1_s, e6, if_neg (by decide)]
    rfl
  have e6 : r6 = 0 := t6.elim (fun q => absurd q.2 m6) (fun q => q.1)
  have c7 : prt b N f = nI 257 → f_X8_placeAmong 1 I J = fL_X8_placeAmong_25 1 ((FU - 41) + 1) (nI 7) (nI f) 1 (nI 40) I J := fun h => (c6 h).trans (q6.2 m6)
  refine Or.inl ⟨?_, ?_⟩
  · by_cases hw : prt b N f = nI 257
    · rw [c7 hw]
      show fLB_X8_placeAmong_25 1 _ _ _ _ _ I J = _
      unfold fLB_X8_placeAmong_25
      rw [if_pos (by decide +kernel)]
    · exact pno hw
  · unfold f_X11_nameHere
    rw [a0, bd1_s, e0, if_pos rfl, a1, bd1_s, e1, if_pos rfl, a2, bd1_s, e2, if_pos rfl, a3, bd1_s, e3, if_pos rfl, a4, bd1_s, e4, if_pos rfl, a5, bd1_s, e5, if_pos rfl, a6, bd1_s, e6, if_pos rfl]

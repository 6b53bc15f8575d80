theorem TkF.scr {N : Nat} {I I1 : HI} {J J1 : HJ} (hR : Rel N I J) (h : TkF I I1 J J1) : Rel (N + 400) I1 J1 := hR.scr (fun a j hs => h.1 a j (by unfold Scr at hs; omega) (by unfold Scr at hs; omega) (by unfold Scr at hs; omega)) (fun a _ _ q3 => h.2 a q3)
theorem as_s {a1 : Int32} (h : (nI 0 ≤ a1 ∧ a1 ≤ nI 7) ∨ (nI 10 ≤ a1 ∧ a1 ≤ nI 14)) : ∃ s, (s ≤ 7 ∨ (10 ≤ s ∧ s ≤ 14)) ∧ a1 = nI s := by
  rcases h with h | h
  · obtain ⟨s, hs, e⟩ := rng (by omega) h
    exact ⟨s, Or.inl hs, e⟩
  · obtain ⟨s, h1, h2, e⟩ := rng_lo (by omega) (by omega) h
    exact ⟨s, Or.inr ⟨h1, h2⟩, e⟩
theorem ctkn_s {n s : Nat} {I : HI} {J : HJ} (hn : n < 4) (hs : s ≤ 7 ∨ (10 ≤ s ∧ s ≤ 14)) : f_X10_taken (nI n) (nI s) I J = fB_X10_taken_34 (nI n) (nI s) I J := by
  unfold f_X10_taken
  rw [isShelf_s, bd1_s, ite_bI, if_pos (shr hn), wi_k N_0 N_7, wi_k N_10 N_14, bd1_s, bd1_s, ite_bI, ite_bI]
  rcases hs with hs | ⟨h1, h2⟩
  · rw [if_pos ⟨by rw [le_nn (by omega) (by omega)]; omega, by rw [le_nn (by omega) (by omega)]; omega⟩]
  · rw [if_neg (fun q => by have := q.2; rw [le_nn (by omega) (by omega)] at this; omega), if_pos ⟨by rw [le_nn (by omega) (by omega)]; omega, by rw [le_nn (by omega) (by omega)]; omega⟩]
theorem mtkn_s {n s : Nat} {I : HI} {J : HJ} (hn : n < 4) (hs : s ≤ 7 ∨ (10 ≤ s ∧ s ≤ 14)) : f_X11_taken (nI n) (nI s) I J = fB_X11_taken_35 (nI n) (nI s) I J := by
  unfold f_X11_taken
  rw [isOne_s, bd1_s, ite_bI, if_pos (shr hn), L_0, L_7, L_10, L_14, in_x, in_x, bd1_s, bd1_s, ite_bI, ite_bI]
  rcases hs with hs | ⟨h1, h2⟩
  · rw [if_pos ⟨by rw [le_nn (by omega) (by omega)]; omega, by rw [le_nn (by omega) (by omega)]; omega⟩]
  · rw [if_neg (fun q => by have := q.2; rw [le_nn (by omega) (by omega)] at this; omega), if_pos ⟨by rw [le_nn (by omega) (by omega)]; omega, by rw [le_nn (by omega) (by omega)]; omega⟩]
/-- model: of no kind -/
theorem mta_no {n s : Nat} {I I1 : HI} {J J1 : HJ} (hn : n < 4) (ht : f_X11_takes (nI n) I J = some (I1, J1)) (hk : I1 98 36 = -1) (h2 : ¬ I1 119 n = 2) : fB_X11_taken_35 (nI n) (nI s) I J = some (-11, I1, J1) := by
  unfold fB_X11_taken_35 fB_X11_taken_55
  rw [ht, bd2_s, if_pos (vin_nI hn (by omega)), cl_nI (by omega), if_neg h2, if_pos rfl, hk, if_neg (by decide)]
/-- model: of a kind k, and no row of a sheet -/
theorem mta_k {n s k : Nat} {u : Int32} {I I1 : HI} {J J1 : HJ} (hn : n < 4) (hs : s ≤ 7 ∨ (10 ≤ s ∧ s ≤ 14)) (hk8 : k < 8) (ht : f_X11_takes (nI n) I J = some (I1, J1)) (hk : I1 98 36 = nI k) (hu : I1 98 37 = u) (h2 : ¬ I1 119 n = 2) : ∃ r, f_X1_isUnder (nI k) (nI s) = some r ∧ fB_X11_taken_35 (nI n) (nI s) I J = some (if r = 0 then -13 else u, I1, J1) := by
  have pre : fB_X11_taken_35 (nI n) (nI s) I J = fB_X11_taken_70 (nI n) (nI s) 0 I1 J1 := by
    unfold fB_X11_taken_35 fB_X11_taken_55
    rw [ht, bd2_s, if_pos (vin_nI hn (by omega)), cl_nI (by omega), if_neg h2, if_pos rfl, hk, if_pos (by rw [N_0, le_nn (by omega) (by omega)]; omega)]
  rw [pre]
  have t := und_t k hk8 s (by omega)
  rcases hs with hs | ⟨h1, h2⟩
  · have e1 := t.1 (by omega)
    obtain ⟨r, hr⟩ : ∃ r, f_X11_isUnder (nI k) (nI s) = some r := by
      rcases und_x k hk8 s (by omega) with h | h
      · exact ⟨_, h⟩
      · exact ⟨_, h⟩
    refine ⟨r, e1.trans hr, ?_⟩
    unfold fB_X11_taken_70
    rw [if_pos (by rw [N_10, lt_nn (by omega) (by omega)]; omega), if_pos rfl, hk, hr, bd1_s, hu]
    by_cases hr0 : r = 0
    · rw [if_pos hr0, if_pos hr0]
    · rw [if_neg hr0, if_neg hr0]
  · refine ⟨0, t.2 h1, ?_⟩
    unfold fB_X11_taken_70
    rw [if_neg (by rw [N_10, lt_nn (by omega) (by omega)]; omega), if_pos rfl, if_pos rfl]
theorem cta_k {n s k w : Nat} {u r : Int32} {I : HI} {J : HJ} (hn : n < 4) (hw : w = 0 ∨ w = 1) (h1 : f_X10_heldOn (nI n) I J = some (nI w)) (h2 : I 94 n = u) (h3 : f_X10_kindOn (nI n) I J = some (nI k)) (hr : f_X1_isUnder (nI k) (nI s) = some r) : fB_X10_taken_34 (nI n) (nI s) I J = some (if r = 0 then -13 else u) := by
  obtain ⟨w1, w2, w3⟩ := what_s (I := I) (J := J) hn
  unfold fB_X10_taken_34
  rw [w2, bd1_s, h1, bd1_s, h2, h3, bd1_s, hr, bd1_s]
  have e : (if r = 0 then some (-13) else some u) = some (if r = 0 then (-13 : Int32) else u) := by split <;> rfl
  rcases hw with rfl | rfl
  · rw [if_pos N_0.symm]; exact e
  · rw [if_neg (by decide), if_pos N_1.symm]; exact e
theorem cta_no {n s : Nat} {I : HI} {J : HJ} (hn : n < 4) (h1 : f_X10_heldOn (nI n) I J = some 3) : fB_X10_taken_34 (nI n) (nI s) I J = some (-11) := by
  obtain ⟨w1, w2, w3⟩ := what_s (I := I) (J := J) hn
  unfold fB_X10_taken_34
  rw [w2, bd1_s, h1, bd1_s, if_neg (by decide), if_neg (by decide), if_neg (by decide)]
theorem sim_taken {N : Nat} {I : HI} {J : HJ} (hN : N ≤ 1000000) (hR : Rel N I J) (a0 : Int32) (a1 : Int32) : ∃ (r : Int32) (I2 : HI) (J2 : HJ), f_X10_taken a0 a1 I J = some r ∧ f_X11_taken a0 a1 I J = some (r, I2, J2) ∧ Rel (N + 400) I2 J2 := by
  have hM := hR.mono (Nat.le_add_right N 400)
  by_cases h0 : nI 0 ≤ a0 ∧ a0 < nI 4
  · obtain ⟨n, hn, rfl⟩ := rng2 (by omega) h0
    by_cases h1 : (nI 0 ≤ a1 ∧ a1 ≤ nI 7) ∨ (nI 10 ≤ a1 ∧ a1 ≤ nI 14)
    · obtain ⟨s, hs, rfl⟩ := as_s h1
      rw [ctkn_s hn hs, mtkn_s hn hs]
      obtain ⟨m, m0, m1, m2, m3⟩ := hR.2.2.1
      obtain ⟨b1, b2⟩ := hR.2.2.2.2.2.2.1 n hn
      rcases b2 with ⟨c1, c2, c3⟩ | ⟨c1, c2, c3, c4⟩ | ⟨c1, c2, c3, c4, c5⟩ | c1
      · -- a record
        obtain ⟨x, hx, ex, -⟩ := nI_of0 c3
        rw [c1] at b1
        by_cases hlt : x < m
        · obtain ⟨c, d0, d1, d2, d3⟩ := m3 x hlt
          have kx : oK (13 + 2 + 2 * x) = 8 := ((lay3 (k := 13) rfl).2 x (by omega)).2
          obtain ⟨q, q0, hq⟩ := per_ex (fun i => I 99 (73 + 61 * x + i)) d0
          obtain ⟨k, k1, k2, ek⟩ := knd_k c q
          have hrow : Row I (13 + 2 + 2 * x) c (fun i => I 99 (73 + 61 * x + i)) := ⟨kx, d0, d1, fun i hi => by rw [show 13 + 2 + 2 * x + 1 = 13 + 3 + 2 * x by omega]; exact d3 i hi⟩
          obtain ⟨I1, t1, t2, t3, t4, t5⟩ := mtk_rec (J := J) (v := fun i => I 99 (73 + 61 * x + i)) hn c1 ex m0 m2 hlt d0 d2 (fun i hi => rfl) hq
          obtain ⟨r, r1, r2⟩ := mta_k hn hs (show k < 8 by omega) t1 (t2.trans ek) t3 (by rw [t5.1 _ _ (by omega) (by omega) (by omega), c1]; decide)
          refine ⟨_, I1, J, ?_, r2, t5.scr hR⟩
          exact cta_k hn (Or.inl rfl) (hld_rec hn b1 (c2.trans ex) m0 m1 hlt) (c2.trans ex) ((knd_rec hn b1 (c2.trans ex) m0 m1 hlt hrow hq).trans (by rw [ek])) r1
        · have hno : ¬ (nI 0 ≤ I 120 n ∧ I 120 n < nI m) := fun q => by
            have := q.2
            rw [ex, lt_nn (by omega) (by omega)] at this
            omega
          obtain ⟨I1, t1, t2, t3⟩ := mtk_gone (J := J) hn c1 m0 m2 hno
          exact ⟨-11, I1, J, cta_no hn (hld_gone hn b1 m0 m1 (by rw [c2]; exact hno)), mta_no hn t1 t2 (by rw [t3.1 _ _ (by omega) (by omega) (by omega), c1]; decide), t3.scr hR⟩
      · -- a law
        obtain ⟨x, hx, ex, ex2⟩ := nI_of0 c3
        rw [c1] at b1
        have hB := both_of hR
        obtain ⟨I1, J1, t1, t2, t3, t4, t5⟩ := mtk_law (J := J) hn c1 ex (by omega) hB
        obtain ⟨r, r1, r2⟩ := mta_k hn hs (show 7 < 8 by omega) t1 (t2.trans N_7) t3 (by rw [t5.1 _ _ (by omega) (by omega) (by omega), c1]; decide)
        refine ⟨_, I1, J1, ?_, r2, t5.scr hR⟩
        exact cta_k hn (Or.inr rfl) ((hld_no hn (by rw [b1]; decide)).trans (by rw [b1]; rfl)) (c2.trans ex) ((knd_law hn b1).trans (by rw [N_7])) r1
      · -- a row of a sheet
        obtain ⟨t, ht, et, et2⟩ := nI_of0 c3
        rw [c1] at b1
        obtain ⟨w1, w2, w3⟩ := what_s (I := I) (J := J) hn
        obtain ⟨I1, t1, t2, t3⟩ := mtk_no (I := I) (J := J) hn (by rw [c1]; decide) (by rw [c1]; decide)
        have e119 : I1 119 n = 2 := by rw [t3.1 _ _ (by omega) (by omega) (by omega)]; exact c1
        have e120 : I1 120 n = nI t := by rw [t3.1 _ _ (by omega) (by omega) (by omega)]; exact et
        have e121 : I1 121 n = I 121 n := t3.1 _ _ (by omega) (by omega) (by omega)
        have pre : fB_X11_taken_35 (nI n) (nI s) I J = fB_X11_taken_70 (nI n) (nI s) 1 I1 J := by
          unfold fB_X11_taken_35 fB_X11_taken_55
          rw [t1, bd2_s, if_pos (vin_nI hn (by omega)), cl_nI (by omega), if_pos e119, if_neg (by decide)]
        have cpre : fB_X10_taken_34 (nI n) (nI s) I J = if nI s - 10 = nI t then some (I 121 n) else some (-13) := by
          unfold fB_X10_taken_34
          rw [w2, bd1_s, hld_no hn (by rw [b1]; decide), bd1_s, b1, if_neg (by decide), if_neg (by decide), if_pos rfl, w3, bd1_s, c2, et, c5]
        rw [pre, cpre]
        unfold fB_X11_taken_70
        rcases hs with hs | ⟨h1, h2⟩
        · have hne : ¬ nI s - 10 = nI t := fun q => by
            have e2 : (nI s - 10).toInt = (nI t).toInt := by rw [q]
            have e10 : (10 : Int32).toInt = 10 := by decide
            rw [i_sub (by rw [i_nat _ (by omega), e10]; omega) (by rw [i_nat _ (by omega), e10]; omega), i_nat _ (by omega), i_nat _ (by omega), e10] at e2
            omega
          refine ⟨-13, I1, J, by rw [if_neg hne], ?_, t3.scr hR⟩
          rw [if_pos (by rw [N_10, lt_nn (by omega) (by omega)]; omega), if_neg (by decide)]
        · rw [if_neg (show ¬ nI s < 10 by rw [N_10, lt_nn (by omega) (by omega)]; omega), if_neg (show ¬ (1 : Int32) = 0 by decide), if_pos (vin_nI hn (by omega)), cl_nI (by omega), e120, e121, if_pos (vin_nI hn (by omega))]
          by_cases hq : nI s - 10 = nI t
          · exact ⟨I 121 n, I1, J, by rw [if_pos hq], by rw [if_pos hq.symm], t3.scr hR⟩
          · exact ⟨-13, I1, J, by rw [if_neg hq], by rw [if_neg (fun q => hq q.symm)], t3.scr hR⟩
      · rw [c1] at b1
        obtain ⟨I1, t1, t2, t3⟩ := mtk_no (I := I) (J := J) hn (by rw [c1]; decide) (by rw [c1]; decide)
        exact ⟨-11, I1, J, cta_no hn ((hld_no hn (by rw [b1]; decide)).trans (by rw [b1])), mta_no hn t1 t2 (by rw [t3.1 _ _ (by omega) (by omega) (by omega), c1]; decide), t3.scr hR⟩
    · refine ⟨-1, I, J, ?_, ?_, hM⟩
      · unfold f_X10_taken
        rw [isShelf_s, bd1_s, ite_bI, if_pos h0, wi_k N_0 N_7, wi_k N_10 N_14, bd1_s, bd1_s, ite_bI, ite_bI, if_neg (fun q => h1 (Or.inl q)), if_neg (fun q => h1 (Or.inr q))]
      · unfold f_X11_taken
        rw [isOne_s, bd1_s, ite_bI, if_pos h0, L_0, L_7, L_10, L_14, in_x, in_x, bd1_s, bd1_s, ite_bI, ite_bI, if_neg (fun q => h1 (Or.inl q)), if_neg (fun q => h1 (Or.inr q))]
  · refine ⟨-1, I, J, ?_, ?_, hM⟩
    · unfold f_X10_taken
      rw [isShelf_s, bd1_s, ite_bI, if_neg h0]
    · unfold f_X11_taken
      rw [isOne_s, bd1_s, ite_bI, if_neg h0]

theorem knd_k (c q : Nat) : ∃ k, 1 ≤ k ∧ k ≤ 6 ∧ kndS c q = nI k := by
  unfold kndS
  by_cases h0 : c = 0
  · exact ⟨6, by omega, by omega, by rw [if_pos h0]; exact N_6⟩
  · by_cases h1 : q = 1
    · exact ⟨1, by omega, by omega, by rw [if_neg h0, if_pos h1]; exact N_1⟩
    · by_cases h2 : q = 2
      · exact ⟨2, by omega, by omega, by rw [if_neg h0, if_neg h1, if_pos h2]; exact N_2⟩
      · by_cases h3 : q = 3
        · exact ⟨4, by omega, by omega, by rw [if_neg h0, if_neg h1, if_neg h2, if_pos h3]; exact N_4⟩
        · by_cases h4 : q = 4
          · exact ⟨3, by omega, by omega, by rw [if_neg h0, if_neg h1, if_neg h2, if_neg h3, if_pos h4]; exact N_3⟩
          · exact ⟨5, by omega, by omega, by rw [if_neg h0, if_neg h1, if_neg h2, if_neg h3, if_neg h4]; exact N_5⟩
theorem shr {n : Nat} (hn : n < 4) : nI 0 ≤ nI n ∧ nI n < nI 4 := ⟨by rw [le_nn (by omega) (by omega)]; omega, by rw [lt_nn (by omega) (by omega)]; exact hn⟩
theorem what_s {n : Nat} {I : HI} {J : HJ} (hn : n < 4) : f_X6_whatOn (nI n) I J = some (I 93 n) ∧ f_X6_numberOn (nI n) I J = some (I 94 n) ∧ f_X6_itemsOn (nI n) I J = some (I 95 n) := by
  refine ⟨?_, ?_, ?_⟩
  · unfold f_X6_whatOn
    rw [isShelf_s, bd1_s, ite_bI, if_pos (shr hn), if_pos (vin_nI hn (by omega)), cl_nI (by omega)]
  · unfold f_X6_numberOn
    rw [isShelf_s, bd1_s, ite_bI, if_pos (shr hn), if_pos (vin_nI hn (by omega)), cl_nI (by omega)]
  · unfold f_X6_itemsOn
    rw [isShelf_s, bd1_s, ite_bI, if_pos (shr hn), if_pos (vin_nI hn (by omega)), cl_nI (by omega)]
theorem hld_no {n : Nat} {I : HI} {J : HJ} (hn : n < 4) (h : ¬ I 93 n = 0) : f_X10_heldOn (nI n) I J = some (I 93 n) := by
  obtain ⟨w1, w2, w3⟩ := what_s (I := I) (J := J) hn
  unfold f_X10_heldOn fB_X10_heldOn_35 fB_X10_heldOn_36
  rw [w1, bd1_s, if_neg h, if_pos rfl]
theorem hld_rec {n x m : Nat} {I : HI} {J : HJ} (hn : n < 4) (h : I 93 n = 0) (hx : I 94 n = nI x) (hm : m ≤ 6) (h1 : I 13 1 = nI m) (hlt : x < m) : f_X10_heldOn (nI n) I J = some 0 := by
  obtain ⟨w1, w2, w3⟩ := what_s (I := I) (J := J) hn
  have o8 : oK (13 + 2 + 2 * x) = 8 := ((lay3 (k := 13) rfl).2 x (by omega)).2
  unfold f_X10_heldOn fB_X10_heldOn_35 fB_X10_heldOn_36
  rw [w1, bd1_s, if_pos h, w2, bd1_s, hx, rat_i (k := 13) rfl hm h1 hlt, bd1_s, oel_some, if_pos o8, if_pos rfl, h]
theorem hld_gone {n m : Nat} {I : HI} {J : HJ} (hn : n < 4) (h : I 93 n = 0) (hm : m ≤ 6) (h1 : I 13 1 = nI m) (hx : ¬ (nI 0 ≤ I 94 n ∧ I 94 n < nI m)) : f_X10_heldOn (nI n) I J = some 3 := by
  obtain ⟨w1, w2, w3⟩ := what_s (I := I) (J := J) hn
  unfold f_X10_heldOn fB_X10_heldOn_35 fB_X10_heldOn_36
  rw [w1, bd1_s, if_pos h, w2, bd1_s, rat_o (k := 13) rfl hm h1 hx, bd1_s, oel_none, if_neg (by decide)]
theorem knd_rec {n x m c q : Nat} {v : Nat → Int32} {I : HI} {J : HJ} (hn : n < 4) (h : I 93 n = 0) (hx : I 94 n = nI x) (hm : m ≤ 6) (h1 : I 13 1 = nI m) (hlt : x < m) (hr : Row I (13 + 2 + 2 * x) c v) (hq : IsPer v c q) : f_X10_kindOn (nI n) I J = some (kndS c q) := by
  obtain ⟨w1, w2, w3⟩ := what_s (I := I) (J := J) hn
  have o8 : oK (13 + 2 + 2 * x) = 8 := ((lay3 (k := 13) rfl).2 x (by omega)).2
  obtain ⟨p, p0, p1, p2⟩ := knd_s (J := J) o8 hr.2.1 hr.2.2.1
  have e := (p2.of (fun i hi => hr.2.2.2 i hi)).uniq hq
  unfold f_X10_kindOn
  rw [w1, bd1_s, h, if_neg (by decide), w2, bd1_s, hx, rat_i (k := 13) rfl hm h1 hlt, bd1_s, oel_some, if_pos o8, p1, bd1_s, e]
theorem knd_law {n : Nat} {I : HI} {J : HJ} (hn : n < 4) (h : I 93 n = 1) : f_X10_kindOn (nI n) I J = some 7 := by
  obtain ⟨w1, w2, w3⟩ := what_s (I := I) (J := J) hn
  unfold f_X10_kindOn
  rw [w1, bd1_s, if_pos h]
/-- what takes leaves as it was -/
def TkF (I I1 : HI) (J J1 : HJ) : Prop := (∀ a j, ¬ (106 ≤ a ∧ a ≤ 109) → a ≠ 114 → ¬ (a = 98 ∧ (j = 11 ∨ j = 27 ∨ (36 ≤ j ∧ j ≤ 38))) → I1 a j = I a j) ∧ ∀ a, a ≠ 98 → J1 a = J a
theorem mtk_no {n : Nat} {I : HI} {J : HJ} (hn : n < 4) (h : ¬ I 119 n = 0) (h1 : ¬ I 119 n = 1) : ∃ I1, f_X11_takes (nI n) I J = some (I1, J) ∧ I1 98 36 = -1 ∧ TkF I I1 J J := by
  refine ⟨put (put I 98 36 (-1)) 98 37 (I 120 n), ?_, by rw [pN (by omega), pE rfl rfl], fun a j q1 q2 q3 => by rw [pN (by omega), pN (by omega)], fun _ _ => rfl⟩
  have e : put (put I 98 36 (-1)) 98 37 (I 120 n) 119 n = I 119 n := by rw [pN (by omega), pN (by omega)]
  unfold f_X11_takes fB_X11_takes_58
  rw [cl_nI (by omega)]
  simp only [if_pos (vin_nI hn (show 4 < 2147483648 by omega)), nm_s]
  rw [e, if_neg h, if_neg h1]
theorem mtk_gone {n m : Nat} {I : HI} {J : HJ} (hn : n < 4) (h : I 119 n = 0) (hm : m ≤ 6) (h10 : I 99 10 = nI m) (hx : ¬ (nI 0 ≤ I 120 n ∧ I 120 n < nI m)) : ∃ I1, f_X11_takes (nI n) I J = some (I1, J) ∧ I1 98 36 = -1 ∧ TkF I I1 J J := by
  refine ⟨put (put I 98 36 (-1)) 98 37 (I 120 n), ?_, by rw [pN (by omega), pE rfl rfl], fun a j q1 q2 q3 => by rw [pN (by omega), pN (by omega)], fun _ _ => rfl⟩
  have e : put (put I 98 36 (-1)) 98 37 (I 120 n) 119 n = I 119 n := by rw [pN (by omega), pN (by omega)]
  have e10 : put (put I 98 36 (-1)) 98 37 (I 120 n) 99 10 = nI m := by rw [pN (by omega), pN (by omega)]; exact h10
  unfold f_X11_takes fB_X11_takes_58
  rw [cl_nI (by omega)]
  simp only [if_pos (vin_nI hn (show 4 < 2147483648 by omega)), nm_s]
  rw [e, if_pos h, isRec_s hm e10, bd1_s, ite_bI, if_neg hx, if_neg (by rw [h]; decide)]
theorem mtk_rec {n x m c q : Nat} {v : Nat → Int32} {I : HI} {J : HJ} (hn : n < 4) (h : I 119 n = 0) (hx : I 120 n = nI x) (hm : m ≤ 6) (h10 : I 99 10 = nI m) (hlt : x < m) (hc : c ≤ 60) (h72 : I 99 (72 + 61 * x) = nI c) (hv : ∀ i, i < c → I 99 (73 + 61 * x + i) = v i) (hq : IsPer v c q) : ∃ I1, f_X11_takes (nI n) I J = some (I1, J) ∧ I1 98 36 = kndS c q ∧ I1 98 37 = nI x ∧ I1 98 38 = nI c ∧ TkF I I1 J J := by
  obtain ⟨Ia, hIa⟩ : ∃ Ia, Ia = put (put I 98 36 (-1)) 98 37 (nI x) := ⟨_, rfl⟩
  have eA : ∀ a j, ¬ (a = 98 ∧ (36 ≤ j ∧ j ≤ 37)) → Ia a j = I a j := fun a j q => by rw [hIa, pN (by omega), pN (by omega)]
  obtain ⟨Ib, b1, b2, b3⟩ := lookr_s (I := Ia) (J := J) (x := x) (by omega) hc (by rw [eA _ _ (by omega)]; exact h72)
  obtain ⟨p, p0, p1, p2⟩ := mknd_s (J := J) b2
  have e := (p2.of (w := v) (fun i hi => by rw [eA _ _ (by omega)]; exact hv i hi)).uniq hq
  have eL : put Ib 98 36 (kndS c p) 98 27 = nI c := by rw [pN (by omega)]; exact b2.2.1
  refine ⟨put (put Ib 98 36 (kndS c p)) 98 38 (nI c), ?_, by rw [pN (by omega), pE rfl rfl, e], by rw [pN (by omega), pN (by omega), b3 _ _ (by omega) (by omega), hIa, pE rfl rfl], pE rfl rfl, fun a j q1 q2 q3 => by rw [pN (by omega), pN (by omega), b3 _ _ (by omega) (by omega), eA _ _ (by omega)], fun _ _ => rfl⟩
  have e119 : Ia 119 n = 0 := by rw [eA _ _ (by omega)]; exact h
  have e10 : Ia 99 10 = nI m := by rw [eA _ _ (by omega)]; exact h10
  unfold f_X11_takes fB_X11_takes_58
  rw [cl_nI (by omega), hx]
  simp only [if_pos (vin_nI hn (show 4 < 2147483648 by omega)), nm_s]
  rw [← hIa, if_pos e119, isRec_s hm e10, bd1_s, ite_bI, if_pos ⟨by rw [le_nn (by omega) (by omega)]; omega, by rw [lt_nn (by omega) (by omega)]; exact hlt⟩, b1, bd1_s, p1, bd1_s, eL]
theorem mtk_law {n x : Nat} {y : Nat → Int32} {P : Pg} {I : HI} {J : HJ} (hn : n < 4) (h : I 119 n = 1) (hx : I 120 n = nI x) (hlt : x < 4) (hB : Both I y P) : ∃ I1 J1, f_X11_takes (nI n) I J = some (I1, J1) ∧ I1 98 36 = 7 ∧ I1 98 37 = nI x ∧ I1 98 38 = ev P x y ∧ TkF I I1 J J1 := by
  obtain ⟨Ia, hIa⟩ : ∃ Ia, Ia = put (put (put I 98 36 (-1)) 98 37 (nI x)) 98 36 7 := ⟨_, rfl⟩
  have eA : ∀ a j, ¬ (a = 98 ∧ (36 ≤ j ∧ j ≤ 37)) → Ia a j = I a j := fun a j q => by rw [hIa, pN (by omega), pN (by omega), pN (by omega)]
  have hBA : Both Ia y P := hB.of (fun a j hs => eA a j (by unfold Scr at hs; omega))
  obtain ⟨Ib, Jb, b1, b2, b3, b4⟩ := msay_s hlt Ia J hBA
  refine ⟨put Ib 98 38 (ev P x y), Jb, ?_, by rw [pN (by omega), b4 _ _ (by omega) (by omega) (by omega), hIa, pE rfl rfl], by rw [pN (by omega), b4 _ _ (by omega) (by omega) (by omega), hIa, pN (by omega), pE rfl rfl], pE rfl rfl, fun a j q1 q2 q3 => by rw [pN (by omega), b4 _ _ (by omega) (by omega) (by omega), eA _ _ (by omega)], fun a q => ?_⟩
  · have e119 : put (put I 98 36 (-1)) 98 37 (nI x) 119 n = 1 := by rw [pN (by omega), pN (by omega)]; exact h
    unfold f_X11_takes fB_X11_takes_58
    rw [cl_nI (by omega), hx]
    simp only [if_pos (vin_nI hn (show 4 < 2147483648 by omega)), nm_s]
    rw [e119, if_neg (by decide), if_pos rfl, ← hIa, b1, bd3_s]
  · exact b3 a q
theorem und_t : ∀ k, k < 8 → ∀ s, s < 15 → (s < 8 → f_X1_isUnder (nI k) (nI s) = f_X11_isUnder (nI k) (nI s)) ∧ (10 ≤ s → f_X1_isUnder (nI k) (nI s) = some 0) := by decide +kernel
theorem und_x : ∀ k, k < 8 → ∀ s, s < 8 → f_X11_isUnder (nI k) (nI s) = some 0 ∨ f_X11_isUnder (nI k) (nI s) = some 1 := by decide +kernel

theorem TapR.cp {N k s w k' s' w' : Nat} {I I2 : HI} {J J2 : HJ} (h : TapR N k s w I J) (e1 : ∀ j, 1 ≤ j → j ≤ 9 → I2 k' j = I k j) (e12 : I2 k' 12 = I k 12) (e2 : I2 (k' + 1) 1 = I (k + 1) 1) (e3 : ∀ i, i < 60 → I2 (k' + 2) i = I (k + 2) i) (e4 : ∀ j, j < 666 → I2 s' j = I s j) (e5 : J2 k' 10 = J k 10 ∧ J2 k' 11 = J k 11) (e6 : ∀ j, j < 3 → J2 w' j = J w j) : TapR N k' s' w' I2 J2 := by
  obtain ⟨a1, ⟨c, c0, c1, c2, c3⟩, a3, a4, a5, a6⟩ := h
  refine ⟨fun j hj => ?_, ⟨c, c0, ?_, ?_, fun i hi => ?_⟩, ?_, ?_, ?_, ?_⟩
  · rw [e1 _ (by omega) (by omega), e4 _ (by omega)]; exact a1 j hj
  · rw [e2]; exact c1
  · rw [e4 _ (by omega)]; exact c2
  · rw [e3 _ (by omega), e4 _ (by omega)]; exact c3 i hi
  · rw [e5.1, e5.2, e6 _ (by omega), e6 _ (by omega), e6 _ (by omega), e12]; exact a3
  · rw [e4 _ (by omega)]; exact a4
  · rw [e4 _ (by omega)]; exact a5
  · rw [e4 _ (by omega)]; exact a6
theorem LawR.cp {k s k' s' : Nat} {I I2 : HI} (h : LawR k s I) (e1 : ∀ q i, q < 4 → i < 200 → I2 (k' + 2 + q) i = I (k + 2 + q) i) (e2 : ∀ q, q < 4 → I2 (k' + 6) q = I (k + 6) q) (e3 : ∀ q, q < 4 → I2 (k' + 7) q = I (k + 7) q) (e4 : ∀ j, j < 666 → I2 s' j = I s j) (e5 : I2 103 = I 103) : LawR k' s' I2 := by
  obtain ⟨a1, a2, a3⟩ := h
  refine ⟨fun q hq => ?_, ?_, fun i hi => ?_⟩
  · obtain ⟨n, fr, b1, b2, b3, b4, b5, b6, b7, b8⟩ := a1 q hq
    refine ⟨n, fr, b1, by rw [e2 q hq]; exact b2, hgt_of (fun i hi => e1 q i hq (by omega)) b3, b4, by rw [e4 _ (by omega)]; exact b5, by rw [e4 _ (by omega)]; exact b6, fun i hi => ?_, by rw [e3 q hq]; exact b8⟩
    rw [e4 _ (by omega), e1 q i hq (by omega)]
    exact b7 i hi
  · rw [e4 _ (by omega), e3 0 (by omega), e3 1 (by omega), e3 2 (by omega), e3 3 (by omega)]; exact a2
  · rw [e4 _ (by omega), e5]; exact a3 i hi
theorem RecR.cp {k s k' s' m : Nat} {I I2 : HI} (h : RecR k s I) (hm : I k 1 = nI m) (hm6 : m ≤ 6) (e1 : I2 k' 1 = nI m) (e2 : ∀ r, r < m → I2 (k' + 2 + 2 * r) 1 = I (k + 2 + 2 * r) 1 ∧ ∀ i, i < 60 → I2 (k' + 3 + 2 * r) i = I (k + 3 + 2 * r) i) (e4 : ∀ j, j < 666 → I2 s' j = I s j) : RecR k' s' I2 := by
  obtain ⟨m', a0, a1, a2, a3⟩ := h
  have e : m' = m := nI_inj (by omega) (by omega) (a1.symm.trans hm)
  subst e
  refine ⟨m', a0, e1, by rw [e4 _ (by omega)]; exact a2, fun r hr => ?_⟩
  obtain ⟨c, b0, b1, b2, b3⟩ := a3 r hr
  obtain ⟨d1, d2⟩ := e2 r hr
  refine ⟨c, b0, by rw [d1]; exact b1, by rw [e4 _ (by omega)]; exact b2, fun i hi => ?_⟩
  rw [d2 i (by omega), e4 _ (by omega)]
  exact b3 i hi
theorem tlk_s {k a : Nat} {I : HI} {J : HJ} (hka : (k = 27 ∧ a = 1) ∨ (k = 1 ∧ a = 27)) : ∃ I1 J1, f_X7_becomeLike k a I J = some (I1, J1) ∧ (∀ j, 1 ≤ j → j ≤ 9 → I1 k j = I a j) ∧ I1 k 12 = I a 12 ∧ I1 (k + 1) 1 = I (a + 1) 1 ∧ (∀ i, i < 60 → I1 (k + 2) i = I (a + 2) i) ∧ (∀ x j, ¬ (k ≤ x ∧ x ≤ k + 2) → I1 x j = I x j) ∧ (J1 k 10 = J a 10 ∧ J1 k 11 = J a 11) ∧ ∀ x, x ≠ k → J1 x = J x := by
  have rk : rfn k 0 = k + 1 := by rcases hka with ⟨rfl, rfl⟩ | ⟨rfl, rfl⟩ <;> exact (lay6 rfl).1
  have ra : rfn a 0 = a + 1 := by rcases hka with ⟨rfl, rfl⟩ | ⟨rfl, rfl⟩ <;> exact (lay6 rfl).1
  have rk1 : rfn (k + 1) 0 = k + 2 := by rcases hka with ⟨rfl, rfl⟩ | ⟨rfl, rfl⟩ <;> exact lay8 rfl
  have ra1 : rfn (a + 1) 0 = a + 2 := by rcases hka with ⟨rfl, rfl⟩ | ⟨rfl, rfl⟩ <;> exact lay8 rfl
  obtain ⟨Ia, hIa⟩ : ∃ Ia, Ia = put (put (put (put (put (put (put (put (put I k 1 (I a 1)) k 2 (I a 2)) k 3 (I a 3)) k 4 (I a 4)) k 5 (I a 5)) k 6 (I a 6)) k 7 (I a 7)) k 8 (I a 8)) k 9 (I a 9) := ⟨_, rfl⟩
  have sA : ∀ j, 1 ≤ j → j ≤ 9 → Ia k j = I a j := fun j h1 h2 => by
    have hj9 : j = 1 ∨ j = 2 ∨ j = 3 ∨ j = 4 ∨ j = 5 ∨ j = 6 ∨ j = 7 ∨ j = 8 ∨ j = 9 := by omega
    rw [hIa]
    rcases hj9 with rfl | rfl | rfl | rfl | rfl | rfl | rfl | rfl | rfl <;> simp (disch := omega) only [pE, pN]
  have eA : ∀ x j, ¬ (x = k ∧ 1 ≤ j ∧ j ≤ 9) → Ia x j = I x j := fun x j q => by
    rw [hIa, pN (by omega), pN (by omega), pN (by omega), pN (by omega), pN (by omega), pN (by omega), pN (by omega), pN (by omega), pN (by omega)]
  refine ⟨put (cpyI (put (put Ia k 12 (I a 12)) (k + 1) 1 (nI 0)) (a + 2) (k + 2) 0 0 60) (k + 1) 1 (I (a + 1) 1), putJ (putJ J k 10 (J a 10)) k 11 (J a 11), ?_, fun j h1 h2 => ?_, ?_, pE rfl rfl, fun i hi => ?_, fun x j q => ?_, ⟨?_, ?_⟩, fun x q => ?_⟩
  · have ja : putJ J k 10 (J a 10) a 11 = J a 11 := by rw [putJ_ap, if_neg (by omega)]
    have cp : (0 ≤ (0 : Int32) ∧ 0 ≤ (0 : Int32) ∧ 0 ≤ (60 : Int32) ∧ (0 : Int32).toNatClampNeg + (60 : Int32).toNatClampNeg ≤ 60 ∧ (0 : Int32).toNatClampNeg + (60 : Int32).toNatClampNeg ≤ 60) := by decide
    have z0 : (0 : Int32).toNatClampNeg = 0 := rfl
    have z60 : (60 : Int32).toNatClampNeg = 60 := rfl
    unfold f_X7_becomeLike f_X7_goOnFrom f_X9_becomeEmpty f_X9_becomeLike
    rw [hIa]
    simp only [if_pos cp]
    simp only [z0, z60]
    simp (disch := omega) only [nm_s, bd1_s, bd2_s, N_0, pE, pN, cN, rk, ra, rk1, ra1, ja]
  · rw [pN (by omega), cN (by omega), pN (by omega), pN (by omega)]; exact sA j h1 h2
  · rw [pN (by omega), cN (by omega), pN (by omega), pE rfl rfl]
  · rw [pN (by omega), cE rfl (by omega), pN (by omega), pN (by omega), eA _ _ (by omega), show 0 + (i - 0) = i by omega]
  · rw [pN (by omega), cN (by omega), pN (by omega), pN (by omega), eA _ _ (by omega)]
  · rw [putJ_ap, if_neg (by omega), putJ_ap, if_pos ⟨rfl, rfl⟩]
  · rw [putJ_ap, if_pos ⟨rfl, rfl⟩]
  · rw [putJ_ne x q, putJ_ne x q]
theorem llk_s {k a : Nat} {I : HI} {J : HJ} (hka : (k = 30 ∧ a = 4) ∨ (k = 4 ∧ a = 30)) (hz : ∀ q, q < 4 → I (a + 7) q = 0 ∨ I (a + 7) q = 1) : ∃ I1, f_X2_becomeLike k a I J = some I1 ∧ (∀ q, q < 4 → I1 (k + 6) q = I (a + 6) q ∧ I1 (k + 7) q = I (a + 7) q ∧ ∀ i, i < 200 → I1 (k + 2 + q) i = I (a + 2 + q) i) ∧ ∀ x j, ¬ (k + 2 ≤ x ∧ x ≤ k + 7) → I1 x j = I x j := by
  have lk : rfn k 0 = k + 1 ∧ rfn k 1 = k + 6 ∧ rfn k 2 = k + 7 ∧ rfn k 3 = k + 8 ∧ ∀ i, i < 4 → rfn (k + 1) i = k + 2 + i := by rcases hka with ⟨rfl, rfl⟩ | ⟨rfl, rfl⟩ <;> exact lay1 rfl
  have la : rfn a 0 = a + 1 ∧ rfn a 1 = a + 6 ∧ rfn a 2 = a + 7 ∧ rfn a 3 = a + 8 ∧ ∀ i, i < 4 → rfn (a + 1) i = a + 2 + i := by rcases hka with ⟨rfl, rfl⟩ | ⟨rfl, rfl⟩ <;> exact lay1 rfl
  have cp : (0 ≤ (0 : Int32) ∧ 0 ≤ (0 : Int32) ∧ 0 ≤ (200 : Int32) ∧ (0 : Int32).toNatClampNeg + (200 : Int32).toNatClampNeg ≤ 200 ∧ (0 : Int32).toNatClampNeg + (200 : Int32).toNatClampNeg ≤ 200) := by decide
  have z0 : (0 : Int32).toNatClampNeg = 0 := rfl
  have z200 : (200 : Int32).toNatClampNeg = 200 := rfl
  have key : ∀ d i f, i + d = 4 → d < f → ∀ I : HI, (∀ q, q < 4 → I (a + 7) q = 0 ∨ I (a + 7) q = 1) → ∃ I1, fL_X2_becomeLike_2 k a f (nI i) I J = some I1 ∧ (∀ q, i ≤ q → q < 4 → I1 (k + 6) q = I (a + 6) q ∧ I1 (k + 7) q = I (a + 7) q ∧ ∀ i, i < 200 → I1 (k + 2 + q) i = I (a + 2 + q) i) ∧ ∀ x j, ¬ (k + 2 + i ≤ x ∧ x ≤ k + 5) → ¬ ((x = k + 6 ∨ x = k + 7) ∧ i ≤ j ∧ j < 4) → I1 x j = I x j := by
    refine fuel (L := fL_X2_becomeLike_2 k a) (B := fLB_X2_becomeLike_2 k a) (fun _ => rfl) (P := fun i g => ∀ I : HI, (∀ q, q < 4 → I (a + 7) q = 0 ∨ I (a + 7) q = 1) → ∃ I1, g (nI i) I J = some I1 ∧ (∀ q, i ≤ q → q < 4 → I1 (k + 6) q = I (a + 6) q ∧ I1 (k + 7) q = I (a + 7) q ∧ ∀ i, i < 200 → I1 (k + 2 + q) i = I (a + 2 + q) i) ∧ ∀ x j, ¬ (k + 2 + i ≤ x ∧ x ≤ k + 5) → ¬ ((x = k + 6 ∨ x = k + 7) ∧ i ≤ j ∧ j < 4) → I1 x j = I x j) (fun g I hz => ?_) (fun i g hi ih I hz => ?_)
    · refine ⟨I, ?_, fun q h1 h2 => by omega, fun _ _ _ _ => rfl⟩
      unfold fLB_X2_becomeLike_2
      rw [if_pos (by decide)]
    · obtain ⟨I2, hI2⟩ : ∃ I2, I2 = cpyI (put (put I (k + 6) i (I (a + 6) i)) (k + 7) i (I (a + 7) i)) (a + 2 + i) (k + 2 + i) 0 0 200 := ⟨_, rfl⟩
      have f2 : ∀ x j, ¬ (x = k + 2 + i) → ¬ ((x = k + 6 ∨ x = k + 7) ∧ j = i) → I2 x j = I x j := fun x j q1 q2 => by rw [hI2, cN (by omega), pN (by omega), pN (by omega)]
      obtain ⟨I1, b1, b2, b3⟩ := ih I2 (fun q hq => by rw [f2 _ _ (by omega) (by omega)]; exact hz q hq)
      have zb1 : zb (I (a + 7) i) = true := by rcases hz i hi with e | e <;> rw [e] <;> rfl
      refine ⟨I1, ?_, fun q h1 h2 => ?_, fun x j q1 q2 => ?_⟩
      · unfold fLB_X2_becomeLike_2
        rw [if_neg (by rw [N_4, le_nn (by omega) (by omega)]; omega), lk.1, lk.2.1, lk.2.2.1, la.1, la.2.1, la.2.2.1, cl_nI (by omega), lk.2.2.2.2 i hi, la.2.2.2.2 i hi]
        simp only [if_pos cp, z0, z200, if_pos (vin_nI hi (show 4 < 2147483648 by omega)), nm_s]
        rw [pN (show a + 7 ≠ k + 6 ∨ i ≠ i by omega), if_pos zb1, ← hI2, nI_1]
        exact b1
      · by_cases e : q = i
        · subst e
          refine ⟨?_, ?_, fun j hj => ?_⟩
          · rw [b3 _ _ (by omega) (by omega), hI2, cN (by omega), pN (by omega), pE rfl rfl]
          · rw [b3 _ _ (by omega) (by omega), hI2, cN (by omega), pE rfl rfl]
          · rw [b3 _ _ (by omega) (by omega), hI2, cE rfl (by omega), pN (by omega), pN (by omega), show 0 + (j - 0) = j by omega]
        · obtain ⟨g1, g2, g3⟩ := b2 q (by omega) h2
          refine ⟨?_, ?_, fun j hj => ?_⟩
          · rw [g1, f2 _ _ (by omega) (by omega)]
          · rw [g2, f2 _ _ (by omega) (by omega)]
          · rw [g3 j hj, f2 _ _ (by omega) (by omega)]
      · rw [b3 x j (by omega) (by omega), f2 x j (by omega) (by omega)]
  obtain ⟨I1, b1, b2, b3⟩ := key 4 0 FU rfl (FU_ge (by omega)) I hz
  exact ⟨I1, b1, fun q hq => b2 q (by omega) hq, fun x j q => b3 x j (by omega) (by omega)⟩
theorem radd_s {k a m : Nat} {I : HI} {J : HJ} (hk : oK k = 3) (ha : oK a = 8) (hm : m < 6) (h : I k 1 = nI m) (hne : a ≠ k ∧ a ≠ k + 2 + 2 * m ∧ a ≠ k + 3 + 2 * m) : f_X4_add k a I J = some (1, put (put (cpyI I (a + 1) (k + 3 + 2 * m) 0 0 60) (k + 2 + 2 * m) 1 (I a 1)) k 1 (nI (m + 1))) := by
  have k0 : rfn k 0 = k + 1 := (lay3 hk).1
  have k1 : rfn (k + 1) m = k + 2 + 2 * m := ((lay3 hk).2 m hm).1
  have k2 : rfn (k + 2 + 2 * m) 0 = k + 3 + 2 * m := (lay8 ((lay3 hk).2 m hm).2).trans (by omega)
  have k3 : rfn a 0 = a + 1 := lay8 ha
  have cp : (0 ≤ (0 : Int32) ∧ 0 ≤ (0 : Int32) ∧ 0 ≤ (60 : Int32) ∧ (0 : Int32).toNatClampNeg + (60 : Int32).toNatClampNeg ≤ 60 ∧ (0 : Int32).toNatClampNeg + (60 : Int32).toNatClampNeg ≤ 60) := by decide
  have z0 : (0 : Int32).toNatClampNeg = 0 := rfl
  have z60 : (60 : Int32).toNatClampNeg = 60 := rfl
  unfold f_X4_add f_X9_becomeLike
  rw [if_pos cp, z0, z60, h, if_neg (by rw [N_0, lt_nn (by omega) (by omega)]; omega), if_neg (by rw [N_6, le_nn (by omega) (by omega)]; omega), if_pos (vin_nI (by omega) (by omega)), if_pos (vin_nI (by omega) (by omega)), cl_nI (by omega), k0, k1, k2, k3, nm_s, nm_s, bd1_s, nm_s, cN (show a ≠ k + 3 + 2 * m ∨ 1 < 0 ∨ 0 + 60 ≤ 1 by omega), pN (show k ≠ k + 2 + 2 * m ∨ 1 ≠ 1 by omega), cN (show k ≠ k + 3 + 2 * m ∨ 1 < 0 ∨ 0 + 60 ≤ 1 by omega), h, nI_1]
theorem rlk_s {k a m : Nat} {I : HI} {J : HJ} (hka : (k = 39 ∧ a = 13) ∨ (k = 13 ∧ a = 39)) (hm : m ≤ 6) (h : I a 1 = nI m) : ∃ I1, f_X4_becomeLike k a I J = some I1 ∧ I1 k 1 = nI m ∧ (∀ r, r < m → I1 (k + 2 + 2 * r) 1 = I (a + 2 + 2 * r) 1 ∧ ∀ i, i < 60 → I1 (k + 3 + 2 * r) i = I (a + 3 + 2 * r) i) ∧ ∀ x j, ¬ (k ≤ x ∧ x ≤ k + 13) → I1 x j = I x j := by
  have ok : oK k = 3 := by rcases hka with ⟨rfl, rfl⟩ | ⟨rfl, rfl⟩ <;> rfl
  have oa : oK a = 3 := by rcases hka with ⟨rfl, rfl⟩ | ⟨rfl, rfl⟩ <;> rfl
  have key : ∀ d i f, i + d = m → d < f → ∀ I : HI, I a 1 = nI m → I k 1 = nI i → ∃ I1, fL_X4_becomeLike_7 k a f (nI i) I J = some I1 ∧ I1 k 1 = nI m ∧ (∀ r, i ≤ r → r < m → I1 (k + 2 + 2 * r) 1 = I (a + 2 + 2 * r) 1 ∧ ∀ j, j < 60 → I1 (k + 3 + 2 * r) j = I (a + 3 + 2 * r) j) ∧ ∀ x j, ¬ (x = k) → ¬ (k + 2 + 2 * i ≤ x ∧ x ≤ k + 13) → I1 x j = I x j := by
    refine fuel (L := fL_X4_becomeLike_7 k a) (B := fLB_X4_becomeLike_7 k a) (fun _ => rfl) (P := fun i g => ∀ I : HI, I a 1 = nI m → I k 1 = nI i → ∃ I1, g (nI i) I J = some I1 ∧ I1 k 1 = nI m ∧ (∀ r, i ≤ r → r < m → I1 (k + 2 + 2 * r) 1 = I (a + 2 + 2 * r) 1 ∧ ∀ j, j < 60 → I1 (k + 3 + 2 * r) j = I (a + 3 + 2 * r) j) ∧ ∀ x j, ¬ (x = k) → ¬ (k + 2 + 2 * i ≤ x ∧ x ≤ k + 13) → I1 x j = I x j) (fun g I h1 h2 => ?_) (fun i g hi ih I h1 h2 => ?_)
    · refine ⟨I, ?_, h2, fun r q1 q2 => by omega, fun _ _ _ _ => rfl⟩
      unfold fLB_X4_becomeLike_7
      rw [h1, if_pos (by rw [le_nn (by omega) (by omega)]; omega)]
    · have o8 : oK (a + 2 + 2 * i) = 8 := ((lay3 oa).2 i (by omega)).2
      obtain ⟨I2, hI2⟩ : ∃ I2, I2 = put (put (cpyI I (a + 2 + 2 * i + 1) (k + 3 + 2 * i) 0 0 60) (k + 2 + 2 * i) 1 (I (a + 2 + 2 * i) 1)) k 1 (nI (i + 1)) := ⟨_, rfl⟩
      have f2 : ∀ x j, x ≠ k → x ≠ k + 2 + 2 * i → x ≠ k + 3 + 2 * i → I2 x j = I x j := fun x j q1 q2 q3 => by rw [hI2, pN (by omega), pN (by omega), cN (by omega)]
      obtain ⟨I1, b1, b2, b3, b4⟩ := ih I2 (by rw [f2 _ _ (by omega) (by omega) (by omega)]; exact h1) (by rw [hI2, pE rfl rfl])
      refine ⟨I1, ?_, b2, fun r q1 q2 => ?_, fun x j q1 q2 => ?_⟩
      · unfold fLB_X4_becomeLike_7 fB_X4_becomeLike_37
        rw [h1, if_neg (by rw [le_nn (by omega) (by omega)]; omega), if_neg (by rw [N_6, le_nn (by omega) (by omega)]; omega), rat_i oa hm h1 hi, bd1_s, oel_some, if_pos o8, radd_s ok o8 (by omega) h2 (by omega), bd2_s, ← hI2, nI_1, nm_s]
        exact b1
      · by_cases e : r = i
        · subst e
          refine ⟨?_, fun j hj => ?_⟩
          · rw [b4 _ _ (by omega) (by omega), hI2, pN (by omega), pE rfl rfl]
          · rw [b4 _ _ (by omega) (by omega), hI2, pN (by omega), pN (by omega), cE rfl (by omega), show 0 + (j - 0) = j by omega, show a + 2 + 2 * r + 1 = a + 3 + 2 * r by omega]
        · obtain ⟨g1, g2⟩ := b3 r (by omega) q2
          refine ⟨?_, fun j hj => ?_⟩
          · rw [g1, f2 _ _ (by omega) (by omega) (by omega)]
          · rw [g2 j hj, f2 _ _ (by omega) (by omega) (by omega)]
      · rw [b4 x j q1 (by omega), f2 x j q1 (by omega) (by omega)]
  obtain ⟨I1, b1, b2, b3, b4⟩ := key m 0 FU (by omega) (FU_ge (by omega)) (put I k 1 0) (by rw [pN (by omega)]; exact h) (pE rfl rfl)
  refine ⟨I1, b1, b2, fun r hr => ?_, fun x j q => ?_⟩
  · obtain ⟨g1, g2⟩ := b3 r (by omega) hr
    refine ⟨?_, fun j hj => ?_⟩
    · rw [g1, pN (by omega)]
    · rw [g2 j hj, pN (by omega)]
  · rw [b4 x j (by omega) (by omega), pN (by omega)]
theorem mkeep_s {I : HI} {J : HJ} : ∃ I1 J1, f_X11_keep I J = some (1, I1, J1) ∧ (∀ j, j < 666 → I1 100 j = I 99 j) ∧ I1 98 4 = 1 ∧ (∀ a j, a ≠ 100 → ¬ (a = 98 ∧ j = 4) → I1 a j = I a j) ∧ (∀ j, j < 3 → J1 102 j = J 101 j) ∧ ∀ a, a ≠ 102 → J1 a = J a := by
  have kw : ∀ d i f, i + d = 3 → d < f → ∀ (I : HI) (J : HJ), ∃ J1, fL_X11_keep_29 f (nI i) I J = some (1, put I 98 4 1, J1) ∧ (∀ j, i ≤ j → j < 3 → J1 102 j = J 101 j) ∧ ∀ a j, ¬ (a = 102 ∧ i ≤ j ∧ j < 3) → J1 a j = J a j := by
    refine fuel (L := fL_X11_keep_29) (B := fLB_X11_keep_29) (fun _ => rfl) (P := fun i g => ∀ (I : HI) (J : HJ), ∃ J1, g (nI i) I J = some (1, put I 98 4 1, J1) ∧ (∀ j, i ≤ j → j < 3 → J1 102 j = J 101 j) ∧ ∀ a j, ¬ (a = 102 ∧ i ≤ j ∧ j < 3) → J1 a j = J a j) (fun g I J => ?_) (fun i g hi ih I J => ?_)
    · refine ⟨J, ?_, fun j h1 h2 => by omega, fun _ _ _ => rfl⟩
      unfold fLB_X11_keep_29
      rw [if_pos (by decide), nm_s]
    · obtain ⟨J1, b1, b2, b3⟩ := ih I (putJ J 102 i (J 101 i))
      refine ⟨J1, ?_, fun j q1 q2 => ?_, fun a j q => ?_⟩
      · unfold fLB_X11_keep_29
        rw [if_neg (by rw [N_3, le_nn (by omega) (by omega)]; omega), if_pos (vin_nI (by omega) (by omega)), if_pos (vin_nI (by omega) (by omega)), cl_nI (by omega), nm_s, nI_1, nm_s]
        exact b1
      · by_cases e : j = i
        · subst e
          rw [b3 _ _ (by omega), putJ_ap, if_pos ⟨rfl, rfl⟩]
        · rw [b2 j (by omega) q2, putJ_ap, if_neg (by omega)]
      · rw [b3 a j (by omega), putJ_ap, if_neg (by omega)]
  have ks : ∀ d i f, i + d = 666 → d < f → ∀ (I : HI), ∃ I1, fL_X11_keep_2 f (nI i) I J = fL_X11_keep_29 FU 0 I1 J ∧ (∀ j, i ≤ j → j < 666 → I1 100 j = I 99 j) ∧ ∀ a j, ¬ (a = 100 ∧ i ≤ j ∧ j < 666) → I1 a j = I a j := by
    refine fuel (L := fL_X11_keep_2) (B := fLB_X11_keep_2) (fun _ => rfl) (P := fun i g => ∀ (I : HI), ∃ I1, g (nI i) I J = fL_X11_keep_29 FU 0 I1 J ∧ (∀ j, i ≤ j → j < 666 → I1 100 j = I 99 j) ∧ ∀ a j, ¬ (a = 100 ∧ i ≤ j ∧ j < 666) → I1 a j = I a j) (fun g I => ?_) (fun i g hi ih I => ?_)
    · refine ⟨I, ?_, fun j h1 h2 => by omega, fun _ _ _ => rfl⟩
      unfold fLB_X11_keep_2
      rw [if_pos (by decide)]
    · obtain ⟨I1, b1, b2, b3⟩ := ih (put I 100 i (I 99 i))
      refine ⟨I1, ?_, fun j q1 q2 => ?_, fun a j q => ?_⟩
      · unfold fLB_X11_keep_2
        rw [if_neg (by rw [N_666, le_nn (by omega) (by omega)]; omega), if_pos (vin_nI (by omega) (by omega)), if_pos (vin_nI (by omega) (by omega)), cl_nI (by omega), nm_s, nI_1, nm_s]
        exact b1
      · by_cases e : j = i
        · subst e
          rw [b3 _ _ (by omega), pE rfl rfl]
        · rw [b2 j (by omega) q2, pN (by omega)]
      · rw [b3 a j (by omega), pN (by omega)]
  obtain ⟨I1, b1, b2, b3⟩ := ks 666 0 FU rfl (FU_ge (by omega)) I
  obtain ⟨J1, c1, c2, c3⟩ := kw 3 0 FU rfl (FU_ge (by omega)) I1 J
  refine ⟨put I1 98 4 1, J1, b1.trans c1, fun j hj => by rw [pN (by omega)]; exact b2 j (by omega) hj, pE rfl rfl, fun a j q1 q2 => by rw [pN (by omega), b3 a j (by omega)], fun j hj => c2 j (by omega) hj, fun a q => funext fun j => c3 a j (by omega)⟩
theorem magain_s {I : HI} {J : HJ} (h : ¬ I 98 4 = 0) : ∃ I1 J1, f_X11_again I J = some (1, I1, J1) ∧ (∀ j, j < 666 → I1 99 j = I 100 j) ∧ (∀ a j, a ≠ 99 → I1 a j = I a j) ∧ (∀ j, j < 3 → J1 101 j = J 102 j) ∧ ∀ a, a ≠ 101 → J1 a = J a := by
  have kw : ∀ d i f, i + d = 3 → d < f → ∀ (I : HI) (J : HJ), ∃ J1, fL_X11_again_39 f (nI i) I J = some (1, I, J1) ∧ (∀ j, i ≤ j → j < 3 → J1 101 j = J 102 j) ∧ ∀ a j, ¬ (a = 101 ∧ i ≤ j ∧ j < 3) → J1 a j = J a j := by
    refine fuel (L := fL_X11_again_39) (B := fLB_X11_again_39) (fun _ => rfl) (P := fun i g => ∀ (I : HI) (J : HJ), ∃ J1, g (nI i) I J = some (1, I, J1) ∧ (∀ j, i ≤ j → j < 3 → J1 101 j = J 102 j) ∧ ∀ a j, ¬ (a = 101 ∧ i ≤ j ∧ j < 3) → J1 a j = J a j) (fun g I J => ?_) (fun i g hi ih I J => ?_)
    · refine ⟨J, ?_, fun j h1 h2 => by omega, fun _ _ _ => rfl⟩
      unfold fLB_X11_again_39
      rw [if_pos (by decide)]
    · obtain ⟨J1, b1, b2, b3⟩ := ih I (putJ J 101 i (J 102 i))
      refine ⟨J1, ?_, fun j q1 q2 => ?_, fun a j q => ?_⟩
      · unfold fLB_X11_again_39
        rw [if_neg (by rw [N_3, le_nn (by omega) (by omega)]; omega), if_pos (vin_nI (by omega) (by omega)), if_pos (vin_nI (by omega) (by omega)), cl_nI (by omega), nm_s, nI_1, nm_s]
        exact b1
      · by_cases e : j = i
        · subst e
          rw [b3 _ _ (by omega), putJ_ap, if_pos ⟨rfl, rfl⟩]
        · rw [b2 j (by omega) q2, putJ_ap, if_neg (by omega)]
      · rw [b3 a j (by omega), putJ_ap, if_neg (by omega)]
  have ks : ∀ d i f, i + d = 666 → d < f → ∀ (I : HI), ∃ I1, fL_X11_again_12 f (nI i) I J = fL_X11_again_39 FU 0 I1 J ∧ (∀ j, i ≤ j → j < 666 → I1 99 j = I 100 j) ∧ ∀ a j, ¬ (a = 99 ∧ i ≤ j ∧ j < 666) → I1 a j = I a j := by
    refine fuel (L := fL_X11_again_12) (B := fLB_X11_again_12) (fun _ => rfl) (P := fun i g => ∀ (I : HI), ∃ I1, g (nI i) I J = fL_X11_again_39 FU 0 I1 J ∧ (∀ j, i ≤ j → j < 666 → I1 99 j = I 100 j) ∧ ∀ a j, ¬ (a = 99 ∧ i ≤ j ∧ j < 666) → I1 a j = I a j) (fun g I => ?_) (fun i g hi ih I => ?_)
    · refine ⟨I, ?_, fun j h1 h2 => by omega, fun _ _ _ => rfl⟩
      unfold fLB_X11_again_12
      rw [if_pos (by decide)]
    · obtain ⟨I1, b1, b2, b3⟩ := ih (put I 99 i (I 100 i))
      refine ⟨I1, ?_, fun j q1 q2 => ?_, fun a j q => ?_⟩
      · unfold fLB_X11_again_12
        rw [if_neg (by rw [N_666, le_nn (by omega) (by omega)]; omega), if_pos (vin_nI (by omega) (by omega)), if_pos (vin_nI (by omega) (by omega)), cl_nI (by omega), nm_s, nI_1, nm_s]
        exact b1
      · by_cases e : j = i
        · subst e
          rw [b3 _ _ (by omega), pE rfl rfl]
        · rw [b2 j (by omega) q2, pN (by omega)]
      · rw [b3 a j (by omega), pN (by omega)]
  obtain ⟨I1, b1, b2, b3⟩ := ks 666 0 FU rfl (FU_ge (by omega)) I
  obtain ⟨J1, c1, c2, c3⟩ := kw 3 0 FU rfl (FU_ge (by omega)) I1 J
  refine ⟨I1, J1, ?_, fun j hj => b2 j (by omega) hj, fun a j q1 => b3 a j (by omega), fun j hj => c2 j (by omega) hj, fun a q => funext fun j => c3 a j (by omega)⟩
  unfold f_X11_again
  rw [if_neg h]
  exact b1.trans c1
theorem sim_keep {N : Nat} {I : HI} {J : HJ} (hN : N ≤ 1000000) (hR : Rel N I J) : ∃ (r : Int32) (I1 : HI) (J1 : HJ) (I2 : HI) (J2 : HJ), f_X10_keep I J = some (r, I1, J1) ∧ f_X11_keep I1 J1 = some (r, I2, J2) ∧ Rel (N + 400) I2 J2 := by
  have h := hR
  obtain ⟨t, l, r, -⟩ := h
  obtain ⟨m, m0, m1, m2, m3⟩ := r
  obtain ⟨IA, JA, a1, a2, a3, a4, a5, a6, a7, a8⟩ := tlk_s (k := 27) (a := 1) (I := I) (J := J) (Or.inl ⟨rfl, rfl⟩)
  obtain ⟨IB, b1, b2, b3⟩ := llk_s (k := 30) (a := 4) (I := IA) (J := JA) (Or.inl ⟨rfl, rfl⟩) (fun q hq => by rw [a6 _ _ (by omega)]; exact told_01 l q hq)
  obtain ⟨IC, c1, c2, c3, c4⟩ := rlk_s (k := 39) (a := 13) (m := m) (I := IB) (J := JA) (Or.inl ⟨rfl, rfl⟩) m0 (by rw [b3 _ _ (by omega), a6 _ _ (by omega)]; exact m1)
  obtain ⟨ID, JD, d1, d2, d3, d4, d5, d6⟩ := mkeep_s (I := put IC 0 6 1) (J := JA)
  have eC : ∀ a j, ¬ (27 ≤ a ∧ a ≤ 52) → IC a j = I a j := fun a j q => by rw [c4 a j (by omega), b3 a j (by omega), a6 a j (by omega)]
  have eD : ∀ a j, ¬ (27 ≤ a ∧ a ≤ 52) → a ≠ 100 → ¬ (a = 98 ∧ j = 4) → ¬ (a = 0 ∧ j = 6) → ID a j = I a j := fun a j q1 q2 q3 q4 => by rw [d4 a j q2 q3, pN (by omega), eC a j q1]
  have eK : ∀ a j, 27 ≤ a → a ≤ 52 → ID a j = IC a j := fun a j q1 q2 => by rw [d4 a j (by omega) (by omega), pN (by omega)]
  have hs : ∀ j, j < 666 → ID 100 j = I 99 j := fun j hj => by rw [d2 j hj, pN (by omega), eC _ _ (by omega)]
  have jw : ∀ j, j < 3 → JD 102 j = J 101 j := fun j hj => by rw [d5 j hj, a8 _ (by omega)]
  refine ⟨1, put IC 0 6 1, JA, ID, JD, ?_, d1, ?_⟩
  · unfold f_X10_keep
    rw [a1, bd2_s, b1, bd1_s, c1, bd1_s, nm_s]
  · have k06 : ID 0 6 = 1 := by rw [d4 _ _ (by omega) (by omega), pE rfl rfl]
    refine hR.kept (by omega) ⟨by rw [k06, d3], Or.inr ⟨k06, ?_, ?_, ?_⟩⟩ (fun a j h1 h2 => eD a j (by omega) (by omega) (by omega) (by omega)) (fun a q1 q2 q3 q4 q5 => by rw [d6 a q5, a8 a q4])
    · refine (t.mono (show N ≤ N + 400 by omega)).cp (fun j q1 q2 => ?_) ?_ ?_ (fun i hi => ?_) hs ?_ jw
      · rw [eK _ _ (by omega) (by omega), c4 _ _ (by omega), b3 _ _ (by omega)]; exact a2 j q1 q2
      · rw [eK _ _ (by omega) (by omega), c4 _ _ (by omega), b3 _ _ (by omega)]; exact a3
      · rw [eK _ _ (by omega) (by omega), c4 _ _ (by omega), b3 _ _ (by omega)]; exact a4
      · rw [eK _ _ (by omega) (by omega), c4 _ _ (by omega), b3 _ _ (by omega)]; exact a5 i hi
      · rw [d6 27 (by omega)]; exact a7
    · refine l.cp (fun q i hq hi => ?_) (fun q hq => ?_) (fun q hq => ?_) hs (funext fun j => eD _ _ (by omega) (by omega) (by omega) (by omega))
      · rw [eK _ _ (by omega) (by omega), c4 _ _ (by omega), (b2 q hq).2.2 i hi, a6 _ _ (by omega)]
      · rw [eK _ _ (by omega) (by omega), c4 _ _ (by omega), (b2 q hq).1, a6 _ _ (by omega)]
      · rw [eK _ _ (by omega) (by omega), c4 _ _ (by omega), (b2 q hq).2.1, a6 _ _ (by omega)]
    · refine RecR.cp (k := 13) (s := 99) (m := m) ⟨m, m0, m1, m2, m3⟩ m1 m0 ?_ (fun r hr => ⟨?_, fun i hi => ?_⟩) hs
      · rw [eK _ _ (by omega) (by omega)]; exact c2
      · rw [eK _ _ (by omega) (by omega), (c3 r hr).1, b3 _ _ (by omega), a6 _ _ (by omega)]
      · rw [eK _ _ (by omega) (by omega), (c3 r hr).2 i hi, b3 _ _ (by omega), a6 _ _ (by omega)]
theorem sim_again {N : Nat} {I : HI} {J : HJ} (hN : N ≤ 1000000) (hR : Rel N I J) : ∃ (r : Int32) (I1 : HI) (J1 : HJ) (I2 : HI) (J2 : HJ), f_X10_again I J = some (r, I1, J1) ∧ f_X11_again I1 J1 = some (r, I2, J2) ∧ Rel (N + 400) I2 J2 := by
  have hM := hR.mono (Nat.le_add_right N 400)
  obtain ⟨t, l, r, ⟨k1, k2⟩, p, s, f, c, x, d⟩ := hR
  rcases k2 with k2 | ⟨k2, kt, kl, kr⟩
  · refine ⟨-3, I, J, I, J, ?_, ?_, hM⟩
    · unfold f_X10_again
      rw [if_pos k2]
    · unfold f_X11_again
      rw [if_pos (by rw [← k1]; exact k2)]
  · have kr' := kr
    obtain ⟨m, m0, m1, m2, m3⟩ := kr'
    obtain ⟨IA, JA, a1, a2, a3, a4, a5, a6, a7, a8⟩ := tlk_s (k := 1) (a := 27) (I := I) (J := J) (Or.inr ⟨rfl, rfl⟩)
    obtain ⟨IB, b1, b2, b3⟩ := llk_s (k := 4) (a := 30) (I := IA) (J := JA) (Or.inr ⟨rfl, rfl⟩) (fun q hq => by rw [a6 _ _ (by omega)]; exact told_01 kl q hq)
    obtain ⟨IC, c1, c2, c3, c4⟩ := rlk_s (k := 13) (a := 39) (m := m) (I := IB) (J := JA) (Or.inr ⟨rfl, rfl⟩) m0 (by rw [b3 _ _ (by omega), a6 _ _ (by omega)]; exact m1)
    have eC : ∀ a j, ¬ (1 ≤ a ∧ a ≤ 3) → ¬ (6 ≤ a ∧ a ≤ 11) → ¬ (13 ≤ a ∧ a ≤ 26) → IC a j = I a j := fun a j q1 q2 q3 => by rw [c4 a j (by omega), b3 a j (by omega), a6 a j (by omega)]
    have n98 : ¬ IC 98 4 = 0 := by rw [eC _ _ (by omega) (by omega) (by omega), ← k1, k2]; decide
    obtain ⟨ID, JD, d1, d2, d3, d4, d5⟩ := magain_s (J := JA) n98
    have eD : ∀ a j, ¬ (1 ≤ a ∧ a ≤ 3) → ¬ (6 ≤ a ∧ a ≤ 11) → ¬ (13 ≤ a ∧ a ≤ 26) → a ≠ 99 → ID a j = I a j := fun a j q1 q2 q3 q4 => by rw [d3 a j q4, eC a j q1 q2 q3]
    have hs : ∀ j, j < 666 → ID 99 j = I 100 j := fun j hj => by rw [d2 j hj, eC _ _ (by omega) (by omega) (by omega)]
    have jw : ∀ j, j < 3 → JD 101 j = J 102 j := fun j hj => by rw [d4 j hj, a8 _ (by omega)]
    have hE : ∀ a j, ¬ (1 ≤ a ∧ a ≤ 26) → a ≠ 99 → ID a j = I a j := fun a j q1 q2 => eD a j (by omega) (by omega) (by omega) q2
    have hEJ : ∀ a, a ≠ 1 → a ≠ 101 → JD a = J a := fun a q1 q2 => by rw [d5 a q2, a8 a q1]
    refine ⟨1, IC, JA, ID, JD, ?_, d1, ?_, ?_, ?_, ?_, ?_, ?_, ?_, ?_, ?_, ?_⟩
    · unfold f_X10_again
      rw [if_neg (by rw [k2]; decide), a1, bd2_s, b1, bd1_s, c1, bd1_s]
    · refine (kt.mono (show N ≤ N + 400 by omega)).cp (fun j q1 q2 => ?_) ?_ ?_ (fun i hi => ?_) hs ?_ jw
      · rw [d3 _ _ (by omega), c4 _ _ (by omega), b3 _ _ (by omega)]; exact a2 j q1 q2
      · rw [d3 _ _ (by omega), c4 _ _ (by omega), b3 _ _ (by omega)]; exact a3
      · rw [d3 _ _ (by omega), c4 _ _ (by omega), b3 _ _ (by omega)]; exact a4
      · rw [d3 _ _ (by omega), c4 _ _ (by omega), b3 _ _ (by omega)]; exact a5 i hi
      · rw [d5 1 (by omega)]; exact a7
    · refine kl.cp (fun q i hq hi => ?_) (fun q hq => ?_) (fun q hq => ?_) hs (funext fun j => hE _ _ (by omega) (by omega))
      · rw [d3 _ _ (by omega), c4 _ _ (by omega), (b2 q hq).2.2 i hi, a6 _ _ (by omega)]
      · rw [d3 _ _ (by omega), c4 _ _ (by omega), (b2 q hq).1, a6 _ _ (by omega)]
      · rw [d3 _ _ (by omega), c4 _ _ (by omega), (b2 q hq).2.1, a6 _ _ (by omega)]
    · refine RecR.cp (k := 39) (s := 100) (m := m) kr m1 m0 ?_ (fun r hr => ⟨?_, fun i hi => ?_⟩) hs
      · rw [d3 _ _ (by omega)]; exact c2
      · rw [d3 _ _ (by omega), (c3 r hr).1, b3 _ _ (by omega), a6 _ _ (by omega)]
      · rw [d3 _ _ (by omega), (c3 r hr).2 i hi, b3 _ _ (by omega), a6 _ _ (by omega)]
    · have kk : KeptR (N + 400) I J := KeptR.mono ⟨k1, Or.inr ⟨k2, kt, kl, kr⟩⟩ (by omega)
      exact kk.of (hE _ _ (by omega) (by omega)) (hE _ _ (by omega) (by omega)) (fun a i q1 q2 _ => hE _ _ (by omega) (by omega)) (funext fun j => hE _ _ (by omega) (by omega)) (hEJ _ (by omega) (by omega)) (hEJ _ (by omega) (by omega)) (funext fun j => hE _ _ (by omega) (by omega))
    · exact p.of (hE _ _ (by omega) (by omega)) (hE _ _ (by omega) (by omega)) (fun i j _ _ => hE _ _ (by omega) (by omega)) (fun j _ => hE _ _ (by omega) (by omega))
    · exact s.of (fun k _ => ⟨hE _ _ (by omega) (by omega), hE _ _ (by omega) (by omega), hE _ _ (by omega) (by omega), hE _ _ (by omega) (by omega)⟩) (fun k i _ _ => hE _ _ (by omega) (by omega)) (fun j _ => hE _ _ (by omega) (by omega))
    · exact f.of (fun k _ => ⟨hE _ _ (by omega) (by omega), hE _ _ (by omega) (by omega), hE _ _ (by omega) (by omega), hE _ _ (by omega) (by omega), hE _ _ (by omega) (by omega), hE _ _ (by omega) (by omega)⟩)
    · exact c.of (hE _ _ (by omega) (by omega)) (hE _ _ (by omega) (by omega)) (fun i _ => ⟨hE _ _ (by omega) (by omega), hE _ _ (by omega) (by omega)⟩)
    · exact x.of (hE _ _ (by omega) (by omega)) (hE _ _ (by omega) (by omega)) (fun i _ => ⟨hE _ _ (by omega) (by omega), hE _ _ (by omega) (by omega)⟩)
    · exact ⟨(funext fun j => hE _ _ (by omega) (by omega)).trans d.1, (funext fun j => hE _ _ (by omega) (by omega)).trans d.2.1, (funext fun j => hE _ _ (by omega) (by omega)).trans d.2.2⟩

/-! reading the tape -/
theorem llk60 {k a : Nat} {I : HI} {J : HJ} (hka : k = 4 ∧ a = 60) (hz : ∀ q, q < 4 → I (a + 7) q = 0 ∨ I (a + 7) q = 1) : ∃ I1, f_X2_becomeLike k a I J = some I1 ∧ (∀ q, q < 4 → I1 (k + 6) q = I (a + 6) q ∧ I1 (k + 7) q = I (a + 7) q ∧ ∀ i, i < 200 → I1 (k + 2 + q) i = I (a + 2 + q) i) ∧ ∀ x j, ¬ (k + 2 ≤ x ∧ x ≤ k + 7) → I1 x j = I x j := by
  have lk : rfn k 0 = k + 1 ∧ rfn k 1 = k + 6 ∧ rfn k 2 = k + 7 ∧ rfn k 3 = k + 8 ∧ ∀ i, i < 4 → rfn (k + 1) i = k + 2 + i := by obtain ⟨rfl, rfl⟩ := hka; exact lay1 rfl
  have la : rfn a 0 = a + 1 ∧ rfn a 1 = a + 6 ∧ rfn a 2 = a + 7 ∧ rfn a 3 = a + 8 ∧ ∀ i, i < 4 → rfn (a + 1) i = a + 2 + i := by obtain ⟨rfl, rfl⟩ := hka; exact lay1 rfl
  have cp : (0 ≤ (0 : Int32) ∧ 0 ≤ (0 : Int32) ∧ 0 ≤ (200 : Int32) ∧ (0 : Int32).toNatClampNeg + (200 : Int32).toNatClampNeg ≤ 200 ∧ (0 : Int32).toNatClampNeg + (200 : Int32).toNatClampNeg ≤ 200) := by decide
  have z0 : (0 : Int32).toNatClampNeg = 0 := rfl
  have z200 : (200 : Int32).toNatClampNeg = 200 := rfl
  have key : ∀ d i f, i + d = 4 → d < f → ∀ I : HI, (∀ q, q < 4 → I (a + 7) q = 0 ∨ I (a + 7) q = 1) → ∃ I1, fL_X2_becomeLike_2 k a f (nI i) I J = some I1 ∧ (∀ q, i ≤ q → q < 4 → I1 (k + 6) q = I (a + 6) q ∧ I1 (k + 7) q = I (a + 7) q ∧ ∀ i, i < 200 → I1 (k + 2 + q) i = I (a + 2 + q) i) ∧ ∀ x j, ¬ (k + 2 + i ≤ x ∧ x ≤ k + 5) → ¬ ((x = k + 6 ∨ x = k + 7) ∧ i ≤ j ∧ j < 4) → I1 x j = I x j := by
    refine fuel (L := fL_X2_becomeLike_2 k a) (B := fLB_X2_becomeLike_2 k a) (fun _ => rfl) (P := fun i g => ∀ I : HI, (∀ q, q < 4 → I (a + 7) q = 0 ∨ I (a + 7) q = 1) → ∃ I1, g (nI i) I J = some I1 ∧ (∀ q, i ≤ q → q < 4 → I1 (k + 6) q = I (a + 6) q ∧ I1 (k + 7) q = I (a + 7) q ∧ ∀ i, i < 200 → I1 (k + 2 + q) i = I (a + 2 + q) i) ∧ ∀ x j, ¬ (k + 2 + i ≤ x ∧ x ≤ k + 5) → ¬ ((x = k + 6 ∨ x = k + 7) ∧ i ≤ j ∧ j < 4) → I1 x j = I x j) (fun g I hz => ?_) (fun i g hi ih I hz => ?_)
    · refine ⟨I, ?_, fun q h1 h2 => by omega, fun _ _ _ _ => rfl⟩
      unfold fLB_X2_becomeLike_2
      rw [if_pos (by decide)]
    · obtain ⟨I2, hI2⟩ : ∃ I2, I2 = cpyI (put (put I (k + 6) i (I (a + 6) i)) (k + 7) i (I (a + 7) i)) (a + 2 + i) (k + 2 + i) 0 0 200 := ⟨_, rfl⟩
      have f2 : ∀ x j, ¬ (x = k + 2 + i) → ¬ ((x = k + 6 ∨ x = k + 7) ∧ j = i) → I2 x j = I x j := fun x j q1 q2 => by rw [hI2, cN (by omega), pN (by omega), pN (by omega)]
      obtain ⟨I1, b1, b2, b3⟩ := ih I2 (fun q hq => by rw [f2 _ _ (by omega) (by omega)]; exact hz q hq)
      have zb1 : zb (I (a + 7) i) = true := by rcases hz i hi with e | e <;> rw [e] <;> rfl
      refine ⟨I1, ?_, fun q h1 h2 => ?_, fun x j q1 q2 => ?_⟩
      · unfold fLB_X2_becomeLike_2
        rw [if_neg (by rw [N_4, le_nn (by omega) (by omega)]; omega), lk.1, lk.2.1, lk.2.2.1, la.1, la.2.1, la.2.2.1, cl_nI (by omega), lk.2.2.2.2 i hi, la.2.2.2.2 i hi]
        simp only [if_pos cp, z0, z200, if_pos (vin_nI hi (show 4 < 2147483648 by omega)), nm_s]
        rw [pN (show a + 7 ≠ k + 6 ∨ i ≠ i by omega), if_pos zb1, ← hI2, nI_1]
        exact b1
      · by_cases e : q = i
        · subst e
          refine ⟨?_, ?_, fun j hj => ?_⟩
          · rw [b3 _ _ (by omega) (by omega), hI2, cN (by omega), pN (by omega), pE rfl rfl]
          · rw [b3 _ _ (by omega) (by omega), hI2, cN (by omega), pE rfl rfl]
          · rw [b3 _ _ (by omega) (by omega), hI2, cE rfl (by omega), pN (by omega), pN (by omega), show 0 + (j - 0) = j by omega]
        · obtain ⟨g1, g2, g3⟩ := b2 q (by omega) h2
          refine ⟨?_, ?_, fun j hj => ?_⟩
          · rw [g1, f2 _ _ (by omega) (by omega)]
          · rw [g2, f2 _ _ (by omega) (by omega)]
          · rw [g3 j hj, f2 _ _ (by omega) (by omega)]
      · rw [b3 x j (by omega) (by omega), f2 x j (by omega) (by omega)]
  obtain ⟨I1, b1, b2, b3⟩ := key 4 0 FU rfl (FU_ge (by omega)) I hz
  exact ⟨I1, b1, fun q hq => b2 q (by omega) hq, fun x j q => b3 x j (by omega) (by omega)⟩
theorem mfst_l {J : HJ} : ∀ d i f, i + d = 4 → d < f → ∀ K : HI, ∃ K1, fL_X11_read_28 f (nI i) K J = (bd1 (f_X11_next K1 J) fun I33 => fL_X11_read_67 FU I33 J) ∧ (∀ q, i ≤ q → q < 4 → K1 112 q = K 104 q ∧ K1 113 q = K 105 q) ∧ ∀ a j, ¬ ((a = 112 ∨ a = 113) ∧ i ≤ j ∧ j < 4) → K1 a j = K a j := by
  refine fuel (L := fL_X11_read_28) (B := fLB_X11_read_28) (fun _ => rfl) (P := fun i g => ∀ K : HI, ∃ K1, g (nI i) K J = (bd1 (f_X11_next K1 J) fun I33 => fL_X11_read_67 FU I33 J) ∧ (∀ q, i ≤ q → q < 4 → K1 112 q = K 104 q ∧ K1 113 q = K 105 q) ∧ ∀ a j, ¬ ((a = 112 ∨ a = 113) ∧ i ≤ j ∧ j < 4) → K1 a j = K a j) (fun g K => ?_) (fun i g hi ih K => ?_)
  · refine ⟨K, ?_, fun q h1 h2 => by omega, fun _ _ _ => rfl⟩
    unfold fLB_X11_read_28
    rw [if_pos (by decide)]
  · obtain ⟨K1, b1, b2, b3⟩ := ih (put (put K 112 i (K 104 i)) 113 i (K 105 i))
    refine ⟨K1, ?_, fun q h1 h2 => ?_, fun a j q => ?_⟩
    · unfold fLB_X11_read_28
      rw [if_neg (by rw [N_4, le_nn (by omega) (by omega)]; omega)]
      simp only [if_pos (vin_nI hi (show 4 < 2147483648 by omega)), nm_s]
      rw [cl_nI (by omega), pN (show 105 ≠ 112 ∨ i ≠ i by omega), nI_1]
      exact b1
    · by_cases e : q = i
      · subst e
        rw [b3 _ _ (by omega), b3 _ _ (by omega), pE rfl rfl, pN (by omega), pE rfl rfl]
        exact ⟨rfl, rfl⟩
      · obtain ⟨g1, g2⟩ := b2 q (by omega) h2
        rw [g1, g2, pN (by omega), pN (by omega), pN (by omega), pN (by omega)]
        exact ⟨rfl, rfl⟩
    · rw [b3 a j (by omega), pN (by omega), pN (by omega)]
theorem mc1_l {st : Nat} {J : HJ} (hst : st ≤ 220) : ∀ d i f, i + d = 220 → d < f → ∀ K : HI, K 98 23 = nI st → ∃ K1, fL_X11_read_115 f (nI i) K J = fL_X11_read_158 FU 0 K1 J ∧ (∀ j, i ≤ j → j < 220 → K1 99 (446 + j) = if j < st then K 111 j else 0) ∧ ∀ a j, ¬ (a = 99 ∧ 446 + i ≤ j ∧ j < 666) → K1 a j = K a j := by
  refine fuel (L := fL_X11_read_115) (B := fLB_X11_read_115) (fun _ => rfl) (P := fun i g => ∀ K : HI, K 98 23 = nI st → ∃ K1, g (nI i) K J = fL_X11_read_158 FU 0 K1 J ∧ (∀ j, i ≤ j → j < 220 → K1 99 (446 + j) = if j < st then K 111 j else 0) ∧ ∀ a j, ¬ (a = 99 ∧ 446 + i ≤ j ∧ j < 666) → K1 a j = K a j) (fun g K hk => ?_) (fun i g hi ih K hk => ?_)
  · refine ⟨K, ?_, fun q h1 h2 => by omega, fun _ _ _ => rfl⟩
    unfold fLB_X11_read_115
    rw [if_pos (by decide)]
  · obtain ⟨v, hv⟩ : ∃ v, v = if i < st then K 111 i else 0 := ⟨_, rfl⟩
    obtain ⟨K1, b1, b2, b3⟩ := ih (put K 99 (446 + i) v) (by rw [pN (by omega)]; exact hk)
    refine ⟨K1, ?_, fun q h1 h2 => ?_, fun a j q => ?_⟩
    · unfold fLB_X11_read_115 fB_X11_read_149
      rw [if_neg (by rw [N_220, le_nn (by omega) (by omega)]; omega), hk, N_446, nI_add, if_pos (vin_nI (show 446 + i < 666 by omega) (show 666 < 2147483648 by omega)), if_pos (vin_nI (show 446 + i < 666 by omega) (show 666 < 2147483648 by omega)), cl_nI (by omega), cl_nI (by omega), nm_s, nm_s, nm_s, nm_s, nI_1]
      by_cases q : i < st
      · rw [if_pos q] at hv
        rw [if_neg (by rw [le_nn (by omega) (by omega)]; omega), if_pos (vin_nI (show i < 220 by omega) (by omega))]
        rw [hv] at b1
        exact b1
      · rw [if_neg q] at hv
        rw [if_pos (by rw [le_nn (by omega) (by omega)]; omega)]
        rw [hv] at b1
        exact b1
    · by_cases e : q = i
      · subst e
        rw [b3 _ _ (by omega), pE rfl rfl]
        exact hv
      · rw [b2 q (by omega) h2, pN (by omega)]
    · rw [b3 a j (by omega), pN (by omega)]
theorem mc2_l {J : HJ} : ∀ d i f, i + d = 4 → d < f → ∀ K : HI, ∃ K1, fL_X11_read_158 f (nI i) K J = fL_X11_read_217 FU 0 (put K1 99 11 0) J ∧ (∀ q, i ≤ q → q < 4 → K1 99 (438 + 2 * q) = K 112 q ∧ K1 99 (439 + 2 * q) = K 113 q) ∧ ∀ a j, ¬ (a = 99 ∧ 438 + 2 * i ≤ j ∧ j < 446) → K1 a j = K a j := by
  refine fuel (L := fL_X11_read_158) (B := fLB_X11_read_158) (fun _ => rfl) (P := fun i g => ∀ K : HI, ∃ K1, g (nI i) K J = fL_X11_read_217 FU 0 (put K1 99 11 0) J ∧ (∀ q, i ≤ q → q < 4 → K1 99 (438 + 2 * q) = K 112 q ∧ K1 99 (439 + 2 * q) = K 113 q) ∧ ∀ a j, ¬ (a = 99 ∧ 438 + 2 * i ≤ j ∧ j < 446) → K1 a j = K a j) (fun g K => ?_) (fun i g hi ih K => ?_)
  · refine ⟨K, ?_, fun q h1 h2 => by omega, fun _ _ _ => rfl⟩
    unfold fLB_X11_read_158
    rw [if_pos (by decide), if_pos (by decide), nm_s]
    rfl
  · obtain ⟨K1, b1, b2, b3⟩ := ih (put (put K 99 (438 + 2 * i) (K 112 i)) 99 (438 + 2 * i + 1) (K 113 i))
    refine ⟨K1, ?_, fun q h1 h2 => ?_, fun a j q => ?_⟩
    · unfold fLB_X11_read_158
      rw [if_neg (by rw [N_4, le_nn (by omega) (by omega)]; omega), N_438, N_2, nI_mul, nI_add, nI_1]
      simp only [if_pos (vin_nI hi (show 4 < 2147483648 by omega)), if_pos (vin_nI (show 438 + 2 * i < 666 by omega) (show 666 < 2147483648 by omega)), if_pos (vin_nI (show 438 + 2 * i + 1 < 666 by omega) (show 666 < 2147483648 by omega)), nm_s]
      rw [cl_nI (show 438 + 2 * i < 2147483648 by omega), cl_nI (show 438 + 2 * i + 1 < 2147483648 by omega), cl_nI (show i < 2147483648 by omega), pN (show 113 ≠ 99 ∨ i ≠ 438 + 2 * i by omega), nI_1]
      exact b1
    · by_cases e : q = i
      · subst e
        rw [b3 _ _ (by omega), b3 _ _ (by omega), pN (by omega), pE rfl rfl, pE rfl (by omega)]
        exact ⟨rfl, rfl⟩
      · obtain ⟨g1, g2⟩ := b2 q (by omega) h2
        rw [g1, g2, pN (by omega), pN (by omega), pN (by omega), pN (by omega)]
        exact ⟨rfl, rfl⟩
    · rw [b3 a j (by omega), pN (by omega), pN (by omega)]
def smf (w : Nat → Int32) : Nat → Nat → Int32 → Int32
  | 0, _, v => v
  | d + 1, i, v => smf w d (i + 1) (v + w i)
theorem mc3_l {w : Nat → Int32} {J : HJ} : ∀ d i f, i + d = 4 → d < f → ∀ (K : HI) (v : Int32), K 99 11 = v → (∀ q, q < 4 → (K 112 q < 12 ∧ w q = 0) ∨ (¬ K 112 q < 12 ∧ w q = 1)) → ∃ K1, fL_X11_read_217 f (nI i) K J = some (smf w d i v, K1) ∧ K1 99 11 = smf w d i v ∧ ∀ a j, ¬ (a = 99 ∧ j = 11) → K1 a j = K a j := by
  intro d
  induction d with
  | zero =>
    intro i f hi hf K v hv hw
    obtain ⟨f, rfl⟩ : ∃ g, f = g + 1 := ⟨f - 1, by omega⟩
    have e : i = 4 := by omega
    subst e
    refine ⟨K, ?_, hv, fun _ _ _ => rfl⟩
    show fLB_X11_read_217 _ (nI 4) K J = _
    unfold fLB_X11_read_217
    rw [if_pos (by decide), if_pos (by decide), show (11 : Int32).toNatClampNeg = 11 from rfl, hv]
    rfl
  | succ d ih =>
    intro i f hi hf K v hv hw
    obtain ⟨f, rfl⟩ : ∃ g, f = g + 1 := ⟨f - 1, by omega⟩
    obtain ⟨K1, b1, b2, b3⟩ := ih (i + 1) f (by omega) (by omega) (put K 99 11 (v + w i)) (v + w i) (pE rfl rfl) (fun q hq => by rw [pN (by omega)]; exact hw q hq)
    refine ⟨K1, ?_, b2, fun a j q => by rw [b3 a j q, pN (by omega)]⟩
    show fLB_X11_read_217 _ (nI i) K J = some (smf w d (i + 1) (v + w i), K1)
    unfold fLB_X11_read_217 fB_X11_read_246
    rw [if_neg (by rw [N_4, le_nn (by omega) (by omega)]; omega), if_pos (by decide), if_pos (vin_nI (show i < 4 by omega) (by omega)), cl_nI (by omega)]
    rcases hw i (by omega) with ⟨q1, q2⟩ | ⟨q1, q2⟩
    · rw [if_pos q1, if_pos (by decide), show (11 : Int32).toNatClampNeg = 11 from rfl, hv, nm_s, nm_s, nI_1]
      rw [q2] at b1 ⊢
      exact b1
    · rw [if_neg q1, if_pos (by decide), show (11 : Int32).toNatClampNeg = 11 from rfl, hv, nm_s, nm_s, nI_1]
      rw [q2] at b1 ⊢
      exact b1
theorem mend_s {st : Nat} {w : Nat → Int32} {K : HI} {J : HJ} (h25 : K 98 25 = 0) (h23 : K 98 23 = nI st) (hst : st ≤ 220) (hw : ∀ q, q < 4 → (K 112 q < 12 ∧ w q = 0) ∨ (¬ K 112 q < 12 ∧ w q = 1)) : ∃ K1, fB_X11_read_92 K J = some (w 0 + w 1 + w 2 + w 3, K1) ∧ K1 99 11 = w 0 + w 1 + w 2 + w 3 ∧ (∀ j, 12 ≤ j → j < 220 → K1 99 (446 + j) = if j < st then K 111 j else 0) ∧ (∀ j, j < 12 → K1 99 (446 + j) = K 99 (446 + j)) ∧ (∀ q, q < 4 → K1 99 (438 + 2 * q) = K 112 q ∧ K1 99 (439 + 2 * q) = K 113 q) ∧ K1 98 19 = 0 ∧ ∀ a j, ¬ (a = 99 ∧ (j = 11 ∨ (438 ≤ j ∧ j < 666))) → ¬ (a = 98 ∧ j = 19) → K1 a j = K a j := by
  obtain ⟨A, a1, a2, a3⟩ := mc1_l (J := J) hst 208 12 FU (by omega) (FU_ge (by omega)) (put K 98 19 0) (by rw [pN (by omega)]; exact h23)
  obtain ⟨B, b1, b2, b3⟩ := mc2_l (J := J) 4 0 FU (by omega) (FU_ge (by omega)) A
  obtain ⟨C, c1, c2, c3⟩ := mc3_l (w := w) (J := J) 4 0 FU (by omega) (FU_ge (by omega)) (put B 99 11 0) 0 (pE rfl rfl) (fun q hq => by rw [pN (by omega), b3 _ _ (by omega), a3 _ _ (by omega), pN (by omega)]; exact hw q hq)
  have es : smf w 4 0 0 = w 0 + w 1 + w 2 + w 3 := by
    show 0 + w 0 + w 1 + w 2 + w 3 = _
    rw [Int32.zero_add]
  rw [es] at c1 c2
  refine ⟨C, ?_, c2, fun j h1 h2 => ?_, fun j hj => ?_, fun q hq => ⟨?_, ?_⟩, ?_, fun a j q1 q2 => ?_⟩
  · unfold fB_X11_read_92
    rw [nm_s, pN (show 98 ≠ 98 ∨ 25 ≠ 19 by omega), if_pos h25]
    exact a1.trans (b1.trans c1)
  · rw [c3 _ _ (by omega), pN (by omega), b3 _ _ (by omega), a2 j h1 h2, pN (by omega)]
  · rw [c3 _ _ (by omega), pN (by omega), b3 _ _ (by omega), a3 _ _ (by omega), pN (by omega)]
  · rw [c3 _ _ (by omega), pN (by omega), (b2 q (by omega) hq).1, a3 _ _ (by omega), pN (by omega)]
  · rw [c3 _ _ (by omega), pN (by omega), (b2 q (by omega) hq).2, a3 _ _ (by omega), pN (by omega)]
  · rw [c3 _ _ (by omega), pN (by omega), b3 _ _ (by omega), a3 _ _ (by omega), pE rfl rfl]
  · rw [c3 _ _ (by omega), pN (by omega), b3 _ _ (by omega), a3 _ _ (by omega), pN (by omega)]
theorem dr_0 {I K : HI} (h1 : ∀ q, q < 4 → I (62 + q) = rowOf (stV q) (I (62 + q))) (h2 : ∀ q, q < 4 → I 66 q = nI (sl q) ∧ I 67 q = 0) (h3 : ∀ q, q < 4 → K 112 q = I0 104 q ∧ K 113 q = I0 105 q) : ∀ q, q < 4 → DR q 12 I K := by
  intro q hq
  have row : ∀ i, i < sl q → I (62 + q) i = (stV q).getD i 0 := fun i hi => by
    rw [h1 q hq]
    exact if_pos hi
  have mk : ∀ n fr, n ≤ 200 → sl q = n → hgt (fun i => (stV q).getD i 0) n 0 1 → fr + n ≤ 12 → fr < 12 → I0 104 q = nI fr → I0 105 q = nI (fr + n) → (∀ i, i < n → I0 103 (fr + i) = trC ((stV q).getD i 0)) → DR q 12 I K := fun n fr g0 g1 g2 g3 g4 g5 g6 g7 => by
    subst g1
    refine ⟨sl q, fr, g0, (h2 q hq).1, hgt_of row g2, g3, (h3 q hq).1.trans g5, (h3 q hq).2.trans g6, fun i hi => ?_, by rw [bI_f (by omega)]; exact (h2 q hq).2⟩
    unfold CD
    rw [if_pos (by omega), row i hi]
    exact g7 i hi
  have hq2 : q = 0 ∨ q = 1 ∨ q = 2 ∨ q = 3 := by omega
  rcases hq2 with rfl | rfl | rfl | rfl
  · exact mk 1 0 (by decide) rfl ⟨0, rfl, Or.inl ⟨Or.inr (by decide +kernel), by decide, rfl⟩⟩ (by decide) (by decide) (by decide +kernel) (by decide +kernel) (by decide +kernel)
  · exact mk 3 1 (by decide) rfl ⟨2, ⟨1, ⟨0, rfl, Or.inl ⟨Or.inr (by decide +kernel), by decide, rfl⟩⟩, Or.inl ⟨Or.inl (by decide +kernel), by decide, rfl⟩⟩, Or.inr (Or.inr ⟨by unfold isSg; decide +kernel, by decide, by decide, rfl⟩)⟩ (by decide) (by decide) (by decide +kernel) (by decide +kernel) (by decide +kernel)
  · exact mk 3 4 (by decide) rfl ⟨2, ⟨1, ⟨0, rfl, Or.inl ⟨Or.inr (by decide +kernel), by decide, rfl⟩⟩, Or.inl ⟨Or.inl (by decide +kernel), by decide, rfl⟩⟩, Or.inr (Or.inr ⟨by unfold isSg; decide +kernel, by decide, by decide, rfl⟩)⟩ (by decide) (by decide) (by decide +kernel) (by decide +kernel) (by decide +kernel)
  · exact mk 5 7 (by decide) rfl ⟨2, ⟨1, ⟨2, ⟨1, ⟨0, rfl, Or.inl ⟨Or.inr (by decide +kernel), by decide, rfl⟩⟩, Or.inl ⟨Or.inl (by decide +kernel), by decide, rfl⟩⟩, Or.inr (Or.inr ⟨by unfold isSg; decide +kernel, by decide, by decide, rfl⟩)⟩, Or.inl ⟨Or.inr (by decide +kernel), by decide, rfl⟩⟩, Or.inr (Or.inr ⟨by unfold isSg; decide +kernel, by decide, by decide, rfl⟩)⟩ (by decide) (by decide) (by decide +kernel) (by decide +kernel) (by decide +kernel)
/-- the whole text, on both sides -/
theorem read_j {b : Nat → Int32} {N : Nat} {I Y : HI} {J : HJ} (hN : N ≤ 200) (hB : ByR b N) (hb : ByC I b N) (my : ByM Y b N) (h104 : Y 104 = I0 104) (h105 : Y 105 = I0 105) : ∃ r I1 K1, f_X8_tellsLaws I J = some (r, I1) ∧ f_X11_read Y J = fB_X11_read_92 K1 J ∧ FL I I1 ∧ GM Y K1 ∧ ((r = 1 ∧ ∃ k st f t, LwS b N k st f t I1 K1) ∨ (r = 0 ∧ Bad b N I1 K1)) := by
  obtain ⟨IA, a1, a2, a3, a4, a5⟩ := becomeAsAtFirst_s (k := 60) (I := I) (J := J) rfl
  have fA : FL I (put IA 59 6 0) := fun a j q1 q2 => by
    rw [pN (by omega), a5 a (by omega)]
  obtain ⟨f1, t1, g1, g2, g3, g4⟩ := nxt_s (b := b) (t := 0) hN (Nat.zero_le N)
  obtain ⟨IB, b1, b2, b3, b4, b5⟩ := g3 (put IA 59 6 0) J ⟨by rw [fA _ _ (by omega) (by omega)]; exact hb.1, fun i hi => by rw [fA _ _ (by omega) (by omega)]; exact hb.2 i hi⟩ (pE rfl rfl)
  obtain ⟨KA, hKA⟩ : ∃ KA, KA = put (put (put (put (put Y 98 21 0) 98 22 0) 98 23 12) 98 24 0) 98 25 0 := ⟨_, rfl⟩
  have fKA : ∀ a j, ¬ (a = 98 ∧ 21 ≤ j ∧ j ≤ 25) → KA a j = Y a j := fun a j q => by rw [hKA, pN (by omega), pN (by omega), pN (by omega), pN (by omega), pN (by omega)]
  obtain ⟨KB, c1, c2, c3⟩ := mfst_l (J := J) 4 0 FU (by omega) (FU_ge (by omega)) KA
  obtain ⟨KC, d1, d2, d3, d4⟩ := g4 KB J ⟨by rw [c3 _ _ (by omega), fKA _ _ (by omega)]; exact my.1, fun i hi => by rw [c3 _ _ (by omega), fKA _ _ (by omega)]; exact my.2 i hi⟩ (by rw [c3 _ _ (by omega), hKA, pN (by omega), pN (by omega), pN (by omega), pN (by omega), pE rfl rfl]; exact N_0)
  have fC : ∀ a j, ¬ (a = 98 ∧ 20 ≤ j ∧ j ≤ 25) → ¬ (a = 112 ∨ a = 113) → KC a j = Y a j := fun a j q1 q2 => by rw [d4 _ _ (by omega), c3 _ _ (by omega), fKA _ _ (by omega)]
  have gC : GM Y KC := fun a j q1 q2 => fC a j q1 (by omega)
  have fB : FL I IB := fA.tr (fun a j q1 q2 => b5 a j (by omega))
  have hle := g2.le
  have k25 : KC 98 25 = 0 := by rw [d4 _ _ (by omega), c3 _ _ (by omega), hKA, pE rfl rfl]
  have k24 : KC 98 24 = 0 := by rw [d4 _ _ (by omega), c3 _ _ (by omega), hKA, pN (by omega), pE rfl rfl]
  have k23 : KC 98 23 = 12 := by rw [d4 _ _ (by omega), c3 _ _ (by omega), hKA, pN (by omega), pN (by omega), pE rfl rfl]
  have k22 : KC 98 22 = 0 := by rw [d4 _ _ (by omega), c3 _ _ (by omega), hKA, pN (by omega), pN (by omega), pN (by omega), pE rfl rfl]
  have h0 : LwS b N 0 12 f1 t1 IB KC := by
    refine ⟨g2, ⟨⟨by rw [fB _ _ (by omega) (by omega)]; exact hb.1, fun i hi => by rw [fB _ _ (by omega) (by omega)]; exact hb.2 i hi⟩, b4, b2, b3⟩, ⟨⟨by rw [fC _ _ (by omega) (by omega)]; exact my.1, fun i hi => by rw [fC _ _ (by omega) (by omega)]; exact my.2 i hi⟩, d2, d3, k22, k23, k25⟩, ⟨by omega, by omega⟩, ⟨k24, by omega⟩, ?_⟩
    have eI : ∀ a, 62 ≤ a → a ≤ 67 → IB a = IA a := fun a h1 h2 => funext fun j => by rw [b5 _ _ (by omega), pN (by omega)]
    refine dr_0 (fun q hq => ?_) (fun q hq => ?_) (fun q hq => ?_)
    · rw [eI _ (by omega) (by omega)]
      have e := a2 q hq
      funext j
      unfold rowOf
      by_cases z : j < (stV q).length
      · rw [if_pos z, show IA (62 + q) = rowOf (stV q) (I (60 + 2 + q)) from e]
        unfold rowOf
        rw [if_pos z]
      · rw [if_neg z]
    · rw [eI _ (by omega) (by omega), eI _ (by omega) (by omega)]
      exact a3 q hq
    · rw [d4 _ _ (by omega), d4 _ _ (by omega), (c2 q (by omega) hq).1, (c2 q (by omega) hq).2, fKA _ _ (by omega), fKA _ _ (by omega), h104, h105]
      exact ⟨rfl, rfl⟩
  obtain ⟨r, I1, K1, x1, x2, x3, x4, x5⟩ := laws_l (J := J) hN hB N FU FU 0 12 f1 t1 IB KC (by omega) (FU_ge (by omega)) (FU_ge (by omega)) h0
  refine ⟨r, I1, K1, ?_, ?_, fB.tr x3, gC.tr x4, x5⟩
  · unfold f_X8_tellsLaws
    rw [a1, bd1_s, nm_s, b1, bd1_s]
    exact x1
  · unfold f_X11_read
    rw [nm_s, nm_s, nm_s, nm_s, nm_s, ← hKA]
    rw [show fL_X11_read_28 FU 0 KA J = _ from c1, d1, bd1_s]
    exact x2
theorem sim_read {N : Nat} {I : HI} {J : HJ} (hN : N ≤ 1000000) (hR : Rel N I J) : ∃ (r : Int32) (I1 : HI) (I2 : HI), f_X10_read I J = some (r, I1) ∧ f_X11_read I1 J = some (r, I2) ∧ Rel (N + 400) I2 J := by
  obtain ⟨m, m0, m1, m2, m3⟩ := hR.2.2.2.2.2.2.2.2.1
  obtain ⟨e103, e104, e105⟩ := hR.2.2.2.2.2.2.2.2.2
  obtain ⟨-, -, eL⟩ := hR.2.1
  have hB : ByR (I 110) m := ⟨m0, fun i hi => (m3 i hi).2⟩
  have hb : ByC I (I 110) m := ⟨m1, fun i hi => (m3 i hi).1⟩
  obtain ⟨r, I1, K0, x1, -, x3, -, x5⟩ := read_j (J := J) m0 hB hb (Y := I) ⟨m2, fun i hi => rfl⟩ e104 e105
  -- what the class leaves, and the model over it
  have again : ∀ X : HI, (∀ a j, ¬ (a = 59 ∧ 2 ≤ j ∧ j ≤ 6) → ¬ (62 ≤ a ∧ a ≤ 67) → ¬ (6 ≤ a ∧ a ≤ 11) → X a j = I a j) → ∃ K1, f_X11_read X J = fB_X11_read_92 K1 J ∧ GM X K1 ∧ ((r = 1 ∧ ∃ k st f t, LwS (I 110) m k st f t I1 K1) ∨ (r = 0 ∧ Bad (I 110) m I1 K1)) := fun X hX => by
    have hf : ∀ a, a ≠ 59 → ¬ (62 ≤ a ∧ a ≤ 67) → ¬ (6 ≤ a ∧ a ≤ 11) → X a = I a := fun a q1 q2 q3 => funext fun j => hX a j (by omega) q2 q3
    obtain ⟨r', I1', K1, y1, y2, y3, y4, y5⟩ := read_j (J := J) m0 hB hb (Y := X) ⟨by rw [hX _ _ (by omega) (by omega) (by omega)]; exact m2, fun i hi => by rw [hX _ _ (by omega) (by omega) (by omega)]⟩ ((hf _ (by omega) (by omega) (by omega)).trans e104) ((hf _ (by omega) (by omega) (by omega)).trans e105)
    have e := Option.some.inj (x1.symm.trans y1)
    have er : r = r' := congrArg Prod.fst e
    have eI : I1 = I1' := congrArg Prod.snd e
    subst er
    subst eI
    exact ⟨K1, y2, y4, y5⟩
  have hr01 : r = 1 ∨ r = 0 := x5.imp (fun q => q.1) (fun q => q.1)
  rcases hr01 with hr | hr
  · -- no fault
    have dz : ∀ q, q < 4 → I1 67 q = 0 ∨ I1 67 q = 1 := fun q hq => by
      rcases x5 with ⟨-, k, st, f, t, z⟩ | ⟨q0, -⟩
      · obtain ⟨n, fr, z1, z2, z3, z4, z5, z6, z7, z8⟩ := z.2.2.2.2.2 q hq
        rw [z8]
        by_cases w : 12 ≤ fr
        · exact Or.inr (bI_t w)
        · exact Or.inl (bI_f w)
      · rw [hr] at q0; exact absurd q0 (by decide)
    obtain ⟨X, y1, y2, y3⟩ := llk60 (k := 4) (a := 60) (I := put I1 59 2 0) (J := J) ⟨rfl, rfl⟩ (fun q hq => by rw [pN (by omega)]; exact dz q hq)
    have fX : ∀ a j, ¬ (a = 59 ∧ 2 ≤ j ∧ j ≤ 6) → ¬ (62 ≤ a ∧ a ≤ 67) → ¬ (6 ≤ a ∧ a ≤ 11) → X a j = I a j := fun a j q1 q2 q3 => by rw [y3 a j (by omega), pN (by omega), x3 a j (by omega) q2]
    obtain ⟨K1, z1, z2, z3⟩ := again X fX
    obtain ⟨k, st, f, t, hS⟩ : ∃ k st f t, LwS (I 110) m k st f t I1 K1 := by
      rcases z3 with ⟨-, q⟩ | ⟨q0, -⟩
      · exact q
      · rw [hr] at q0; exact absurd q0 (by decide)
    obtain ⟨s1, s2, s3, ⟨s4, s5⟩, s6, s7⟩ := hS
    have hst : st ≤ 220 := by have := s1.le; omega
    obtain ⟨I2, w1, w2, w3, w4, w5, w6, w7⟩ := mend_s (w := fun q => I1 67 q) (J := J) s3.2.2.2.2.2 s3.2.2.2.2.1 hst (fun q hq => by
      obtain ⟨n, fr, u1, u2, u3, u4, u5, u6, u7, u8⟩ := s7 q hq
      rw [u5, u8, N_12, lt_nn (by omega) (by omega)]
      by_cases v : 12 ≤ fr
      · exact Or.inr ⟨by omega, bI_t v⟩
      · exact Or.inl ⟨by omega, bI_f v⟩)
    have e11 : ∀ q, q < 4 → X 11 q = I1 67 q := fun q hq => by rw [(y2 q hq).2.1, pN (by omega)]
    have f2 : ∀ a j, ¬ (a = 99 ∧ (j = 11 ∨ (438 ≤ j ∧ j < 666))) → ¬ (a = 98 ∧ 19 ≤ j ∧ j ≤ 25) → ¬ (111 ≤ a ∧ a ≤ 113) → I2 a j = X a j := fun a j q1 q2 q3 => by rw [w7 a j q1 (by omega), z2 a j (by omega) q3]
    refine ⟨I1 67 0 + I1 67 1 + I1 67 2 + I1 67 3, X, I2, ?_, z1.trans w1, ?_⟩
    · unfold f_X10_read f_X8_faultPlace f_X8_useUp
      rw [x1, bd2_s, bd1_s, nm_s, bd1_s, hr, if_neg (by decide), y1, bd1_s, told_s (k := 4) rfl (fun q hq => by rw [show 4 + 7 = 11 from rfl, e11 q hq]; exact dz q hq), bd1_s, show 4 + 7 = 11 from rfl, e11 0 (by omega), e11 1 (by omega), e11 2 (by omega), e11 3 (by omega)]
    · have hT : Rel N (put (put I 59 2 0) 98 19 0) J := hR.tape (Nat.le_refl _) ⟨0, by omega, by rw [pN (by omega), pE rfl rfl]; exact N_0, pE rfl rfl, fun i hi => absurd hi (Nat.not_lt_zero i)⟩ (fun a j q1 q2 => by rw [pN (by omega), pN (by omega)]) (fun _ _ _ _ => rfl)
      refine hT.law (by omega) ⟨fun q hq => ?_, ?_, fun i hi => ?_⟩ (fun a j q1 q2 => ?_) (fun _ _ _ _ => rfl)
      · obtain ⟨n, fr, u1, u2, u3, u4, u5, u6, u7, u8⟩ := s7 q hq
        refine ⟨n, fr, u1, ?_, ?_, by omega, ?_, ?_, fun i hi => ?_, ?_⟩
        · rw [f2 _ _ (by omega) (by omega) (by omega), (y2 q hq).1, pN (by omega)]; exact u2
        · refine hgt_of (fun i hi => ?_) u3
          rw [f2 _ _ (by omega) (by omega) (by omega), (y2 q hq).2.2 i (by omega), pN (by omega)]
        · rw [(w5 q hq).1]; exact u5
        · rw [(w5 q hq).2]; exact u6
        · have ex : I2 (4 + 2 + q) i = I1 (62 + q) i := by rw [f2 _ _ (by omega) (by omega) (by omega), (y2 q hq).2.2 i (by omega), pN (by omega)]
          rw [ex, ← u7 i hi]
          unfold CD
          by_cases v : fr + i < 12
          · rw [if_pos v, show 446 + fr + i = 446 + (fr + i) by omega, w4 _ v, z2 _ _ (by omega) (by omega), fX _ _ (by omega) (by omega) (by omega), eL _ v, e103]
          · rw [if_neg v, show 446 + fr + i = 446 + (fr + i) by omega, w3 _ (by omega) (by omega), if_pos (by omega)]
        · rw [f2 _ _ (by omega) (by omega) (by omega), e11 q hq]; exact u8
      · show I2 99 11 = I2 11 0 + I2 11 1 + I2 11 2 + I2 11 3
        rw [w2, f2 11 _ (by omega) (by omega) (by omega), f2 11 _ (by omega) (by omega) (by omega), f2 11 _ (by omega) (by omega) (by omega), f2 11 _ (by omega) (by omega) (by omega), e11 0 (by omega), e11 1 (by omega), e11 2 (by omega), e11 3 (by omega)]
      · rw [w4 i hi, z2 _ _ (by omega) (by omega), fX _ _ (by omega) (by omega) (by omega), f2 _ _ (by omega) (by omega) (by omega), fX _ _ (by omega) (by omega) (by omega)]
        exact eL i hi
      · by_cases v : a = 59 ∧ j = 2
        · obtain ⟨rfl, rfl⟩ := v
          rw [f2 _ _ (by omega) (by omega) (by omega), y3 _ _ (by omega), pE rfl rfl, pN (by omega), pE rfl rfl]
        · by_cases v2 : a = 98 ∧ j = 19
          · obtain ⟨rfl, rfl⟩ := v2
            rw [w6, pE rfl rfl]
          · rw [pN (by omega), pN (by omega)]
            have hs : ¬ Scr a j := q1
            unfold Scr at q1
            rw [f2 _ _ (by omega) (by omega) (by omega), fX _ _ (by omega) (by omega) (by omega)]
  · -- a fault
    have fX : ∀ a j, ¬ (a = 59 ∧ 2 ≤ j ∧ j ≤ 6) → ¬ (62 ≤ a ∧ a ≤ 67) → ¬ (6 ≤ a ∧ a ≤ 11) → put I1 59 2 0 a j = I a j := fun a j q1 q2 q3 => by rw [pN (by omega), x3 a j (by omega) q2]
    obtain ⟨K1, z1, z2, z3⟩ := again (put I1 59 2 0) fX
    obtain ⟨e, s1, s2, s3, s4, s5⟩ : Bad (I 110) m I1 K1 := by
      rcases z3 with ⟨q0, -⟩ | ⟨-, q⟩
      · rw [hr] at q0; exact absurd q0 (by decide)
      · exact q
    refine ⟨-100 - nI e, put I1 59 2 0, put K1 98 19 0, ?_, ?_, ?_⟩
    · unfold f_X10_read f_X8_faultPlace f_X8_useUp
      rw [x1, bd2_s, bd1_s, nm_s, bd1_s, hr, if_pos rfl, s1]
    · rw [z1]
      unfold fB_X11_read_92
      rw [nm_s, pN (show 98 ≠ 98 ∨ 25 ≠ 19 by omega), s4, if_neg (by decide), pN (show 98 ≠ 98 ∨ 20 ≠ 19 by omega), s3]
    · refine hR.tape (by omega) ⟨0, by omega, by rw [pN (by omega), z2 _ _ (by omega) (by omega), pE rfl rfl]; exact N_0, pE rfl rfl, fun i hi => absurd hi (Nat.not_lt_zero i)⟩ (fun a j q1 q2 => ?_) (fun _ _ _ _ => rfl)
      unfold Scr at q1
      rw [pN (by omega), z2 _ _ (by omega) (by omega), pN (by omega), x3 _ _ (by omega) (by omega)]

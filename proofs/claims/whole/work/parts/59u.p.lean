theorem sh_u : ∀ i, i < 8 → (((nI (8 * i)).toInt64.toUInt64 &&& Int64.toUInt64 63).toBitVec % 64#64).toNat = 8 * i := by decide
theorem sh_s : ∀ i, i < 8 → (((nI (8 * i)).toInt64 &&& 63).toBitVec.smod 64#64).toNat = 8 * i := by decide
theorem by_lo (x : Int64) {i : Nat} (hi : i < 8) : (jlushr x (nI (8 * i))).toInt32 &&& 255 = (jlshr x (nI (8 * i)) &&& (255 : Int64)).toInt32 := by
  have h1 : ∀ j, j < 32 → (255#32).getLsbD j = decide (j < 8) := by decide
  have h2 : ∀ j, j < 64 → (255#64).getLsbD j = decide (j < 8) := by decide
  refine Int32.toBitVec_inj.mp (BitVec.eq_of_getLsbD_eq fun j hj => ?_)
  show (((x.toBitVec >>> (((nI (8 * i)).toInt64.toUInt64 &&& Int64.toUInt64 63).toBitVec % 64#64)).signExtend 32) &&& 255#32).getLsbD j = ((((x.toBitVec.sshiftRight (((nI (8 * i)).toInt64 &&& 63).toBitVec.smod 64#64).toNat) &&& 255#64)).signExtend 32).getLsbD j
  rw [BitVec.getLsbD_and, BitVec.getLsbD_signExtend, BitVec.getLsbD_signExtend, BitVec.getLsbD_and, BitVec.getLsbD_sshiftRight, sh_s i hi, h1 j hj, h2 j (by omega), BitVec.ushiftRight_eq', sh_u i hi, BitVec.getLsbD_ushiftRight]
  by_cases h8 : j < 8
  · rw [if_pos (show j < 64 by omega), if_pos (show j < 64 by omega), if_pos (show 8 * i + j < 64 by omega)]
    simp [h8, hj, show ¬ 64 ≤ j by omega]
  · rw [if_pos (show j < 64 by omega), if_pos (show j < 64 by omega)]
    simp [h8]
theorem and255 (y : Int32) : 0 ≤ (y &&& 255).toInt ∧ (y &&& 255).toInt ≤ 255 := by
  have h : (y &&& 255).toBitVec.toNat ≤ 255 := by
    show (y.toBitVec &&& 255#32).toNat ≤ 255
    rw [BitVec.toNat_and]
    exact Nat.and_le_right
  have e : (y &&& 255).toInt = (y &&& 255).toBitVec.toInt := rfl
  rw [e, BitVec.toInt_eq_toNat_cond]
  split <;> omega
theorem ctb_s {x : Int64} {n m : Nat} {J : HJ} (hn : n ≤ 8) (hm : m + n ≤ 200) : ∀ d i f, i + d = n → d < f → ∀ I : HI, I 59 2 = nI m → ∃ I1, fL_X8_takeBytes_21 x (nI n) f (nI i) I J = some (1, I1) ∧ I1 59 2 = nI (m + n) ∧ (∀ j, i ≤ j → j < n → I1 69 (m + j) = (jlushr x (nI (8 * j))).toInt32 &&& 255) ∧ ∀ a j, ¬ (a = 59 ∧ j = 2) → ¬ (a = 69 ∧ m + i ≤ j ∧ j < m + n) → I1 a j = I a j := by
  refine fuel (L := fL_X8_takeBytes_21 x (nI n)) (B := fLB_X8_takeBytes_21 x (nI n)) (fun _ => rfl) (P := fun i g => ∀ I : HI, I 59 2 = nI m → ∃ I1, g (nI i) I J = some (1, I1) ∧ I1 59 2 = nI (m + n) ∧ (∀ j, i ≤ j → j < n → I1 69 (m + j) = (jlushr x (nI (8 * j))).toInt32 &&& 255) ∧ ∀ a j, ¬ (a = 59 ∧ j = 2) → ¬ (a = 69 ∧ m + i ≤ j ∧ j < m + n) → I1 a j = I a j) (fun g I h => ?_) (fun i g hi ih I h => ?_)
  · refine ⟨put I 59 2 (nI (m + n)), ?_, pE rfl rfl, fun j h1 h2 => by omega, fun a j q1 q2 => by rw [pN (by omega)]⟩
    unfold fLB_X8_takeBytes_21
    rw [if_pos (by rw [le_nn (by omega) (by omega)]; omega), h, nI_add, nm_s]
  · obtain ⟨I1, b1, b2, b3, b4⟩ := ih (put I 69 (m + i) ((jlushr x (nI (8 * i))).toInt32 &&& 255)) (by rw [pN (by omega)]; exact h)
    have e8 : (8 : Int32) * nI i = nI (8 * i) := by rw [N_8, nI_mul]
    refine ⟨I1, ?_, b2, fun j q1 q2 => ?_, fun a j q1 q2 => ?_⟩
    · unfold fLB_X8_takeBytes_21
      rw [if_neg (by rw [le_nn (by omega) (by omega)]; omega), h, nI_add, if_pos (vin_nI (by omega) (by omega)), cl_nI (by omega), e8, nm_s, nI_1, nm_s]
      exact b1
    · by_cases e : j = i
      · subst e
        rw [b4 _ _ (by omega) (by omega), pE rfl rfl]
      · exact b3 j (by omega) q2
    · rw [b4 a j q1 (by omega), pN (by omega)]
theorem mfd_s {x : Int64} {n m : Nat} {J : HJ} (hn : n ≤ 8) (hm : m + n ≤ 200) : ∀ d i f, i + d = n → d < f → ∀ I : HI, I 98 19 = nI (m + i) → ∃ I1, fL_X11_feed_32 x (nI n) f (nI i) I J = some (nI (m + n), I1) ∧ I1 98 19 = nI (m + n) ∧ (∀ j, i ≤ j → j < n → I1 110 (m + j) = (jlushr x (nI (8 * j))).toInt32 &&& 255) ∧ ∀ a j, ¬ (a = 98 ∧ j = 19) → ¬ (a = 110 ∧ m + i ≤ j ∧ j < m + n) → I1 a j = I a j := by
  refine fuel (L := fL_X11_feed_32 x (nI n)) (B := fLB_X11_feed_32 x (nI n)) (fun _ => rfl) (P := fun i g => ∀ I : HI, I 98 19 = nI (m + i) → ∃ I1, g (nI i) I J = some (nI (m + n), I1) ∧ I1 98 19 = nI (m + n) ∧ (∀ j, i ≤ j → j < n → I1 110 (m + j) = (jlushr x (nI (8 * j))).toInt32 &&& 255) ∧ ∀ a j, ¬ (a = 98 ∧ j = 19) → ¬ (a = 110 ∧ m + i ≤ j ∧ j < m + n) → I1 a j = I a j) (fun g I h => ?_) (fun i g hi ih I h => ?_)
  · refine ⟨I, ?_, h, fun j h1 h2 => by omega, fun _ _ _ _ => rfl⟩
    unfold fLB_X11_feed_32
    rw [if_pos (by rw [le_nn (by omega) (by omega)]; omega), h]
  · obtain ⟨I1, b1, b2, b3, b4⟩ := ih (put (put I 110 (m + i) ((jlushr x (nI (8 * i))).toInt32 &&& 255)) 98 19 (nI (m + (i + 1)))) (pE rfl rfl)
    have e8 : (8 : Int32) * nI i = nI (8 * i) := by rw [N_8, nI_mul]
    refine ⟨I1, ?_, b2, fun j q1 q2 => ?_, fun a j q1 q2 => ?_⟩
    · unfold fLB_X11_feed_32
      rw [if_neg (by rw [le_nn (by omega) (by omega)]; omega), h, if_pos (vin_nI (by omega) (by omega)), cl_nI (by omega), e8, ← by_lo x (by omega), nm_s, pN (show 98 ≠ 110 ∨ 19 ≠ m + i by omega), h, nI_1, nm_s, nI_1, nm_s]
      exact b1
    · by_cases e : j = i
      · subst e
        rw [b4 _ _ (by omega) (by omega), pN (by omega), pE rfl rfl]
      · exact b3 j (by omega) q2
    · rw [b4 a j q1 (by omega), pN (by omega), pN (by omega)]
theorem sim_feed {N : Nat} {I : HI} {J : HJ} (hN : N ≤ 1000000) (hR : Rel N I J) (a0 : Int64) (a1 : Int32) : ∃ (r : Int32) (I1 : HI) (I2 : HI), f_X10_feed a0 a1 I J = some (r, I1) ∧ f_X11_feed a0 a1 I1 J = some (r, I2) ∧ Rel (N + 400) I2 J := by
  have hM := hR.mono (Nat.le_add_right N 400)
  have in18 : f_X11_in a1.toInt64 (1 : Int64) (8 : Int64) = some (bI (nI 1 ≤ a1 ∧ a1 ≤ nI 8)) := by rw [L_1, L_8, in_x]
  by_cases h : nI 1 ≤ a1 ∧ a1 ≤ nI 8
  · obtain ⟨n, hn1, hn, rfl⟩ := rng_lo (by omega) (by omega) h
    obtain ⟨m, m0, m1, m2, m3⟩ := hR.2.2.2.2.2.2.2.2.1
    by_cases hc : m + n ≤ 200
    · obtain ⟨IA, a1', a2, a3, a4⟩ := ctb_s (x := a0) (J := J) hn hc n 0 FU (by omega) (FU_ge (by omega)) I m1
      obtain ⟨IB, b1, b2, b3, b4⟩ := mfd_s (x := a0) (J := J) hn hc n 0 FU (by omega) (FU_ge (by omega)) IA (by rw [a4 _ _ (by omega) (by omega)]; exact m2)
      refine ⟨nI (m + n), IA, IB, ?_, ?_, ?_⟩
      · unfold f_X10_feed f_X8_takeBytes f_X8_size
        rw [wi_k N_1 N_8, bd1_s, ite_bI, if_pos h, if_neg (by rw [N_0, lt_nn (by omega) (by omega)]; omega), m1, N_200, sb _ _ m0, if_pos (by rw [le_nn (by omega) (by omega)]; omega), N_0, a1', bd2_s, if_neg (by decide), bd1_s, a2]
      · unfold f_X11_feed
        rw [in18, bd1_s, ite_bI, if_pos h, a4 _ _ (by omega) (by omega), m2, nI_add, if_pos (by rw [N_200, le_nn (by omega) (by omega)]; omega)]
        exact b1
      · have e : ∀ a j, ¬ (a = 59 ∧ j = 2) → a ≠ 69 → ¬ (a = 98 ∧ j = 19) → a ≠ 110 → IB a j = I a j := fun a j q1 q2 q3 q4 => by rw [b4 a j q3 (by omega), a4 a j q1 (by omega)]
        refine hR.tape (by omega) ⟨m + n, hc, ?_, b2, fun i hi => ?_⟩ (fun a j h1 h2 => e a j (by omega) (by omega) (by omega) (by omega)) (fun a _ _ _ => rfl)
        · rw [b4 _ _ (by omega) (by omega)]; exact a2
        · rw [b4 69 _ (by omega) (by omega)]
          by_cases q : i < m
          · rw [a4 69 _ (by omega) (by omega), b4 110 _ (by omega) (by omega), a4 110 _ (by omega) (by omega)]
            exact m3 i q
          · obtain ⟨k, rfl⟩ : ∃ k, i = m + k := ⟨i - m, by omega⟩
            rw [a3 k (by omega) (by omega), b3 k (by omega) (by omega)]
            exact ⟨rfl, and255 _⟩
    · refine ⟨-2, I, I, ?_, ?_, hM⟩
      · unfold f_X10_feed f_X8_takeBytes
        rw [wi_k N_1 N_8, bd1_s, ite_bI, if_pos h, if_neg (by rw [N_0, lt_nn (by omega) (by omega)]; omega), m1, N_200, sb _ _ m0, if_neg (by rw [le_nn (by omega) (by omega)]; omega), bd2_s, if_pos rfl]
      · unfold f_X11_feed
        rw [in18, bd1_s, ite_bI, if_pos h, m2, nI_add, if_neg (by rw [N_200, le_nn (by omega) (by omega)]; omega)]
  · refine ⟨-1, I, I, ?_, ?_, hM⟩
    · unfold f_X10_feed
      rw [wi_k N_1 N_8, bd1_s, ite_bI, if_neg h]
    · unfold f_X11_feed
      rw [in18, bd1_s, ite_bI, if_neg h]

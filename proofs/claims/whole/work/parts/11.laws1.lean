theorem isKey_in {k q : Nat} (h : q < 4) : f_X2_isKey k (nI q) = some 1 := by
  unfold f_X2_isKey
  rw [if_neg (nI_pos (by omega)), show (4 : Int32) = nI 4 from rfl, if_neg (by rw [le_nn (by omega) (by omega)]; omega)]
theorem isKey_out {k : Nat} {x : Int32} (h : ¬ vin x 4 = true) : f_X2_isKey k x = some 0 := by
  unfold f_X2_isKey
  by_cases h1 : x < 0
  · rw [if_pos h1]
  · by_cases h2 : (4 : Int32) ≤ x
    · rw [if_neg h1, if_pos h2]
    · exfalso
      obtain ⟨n, hn, rfl, e⟩ := nI_of0 (x := x) (by rw [i_lt] at h1; have : (0 : Int32).toInt = 0 := rfl; omega)
      apply h
      refine vin_nI ?_ (by omega)
      rw [show (4 : Int32) = nI 4 from rfl, le_nn (by omega) hn] at h2
      omega
theorem tellAnew_s {k q : Nat} {I : HI} {J : HJ} (hk : oK k = 1) (hq : q < 4) : f_X2_tellAnew k (nI q) I J = some (put (put I (k + 6) q 0) (k + 7) q 1) := by
  obtain ⟨-, e1, e2, -⟩ := lay1 hk
  simp [f_X2_tellAnew, isKey_in hq, bd1_s, nm_s, vin_nI hq, cl_nI (show q < 2147483648 by omega), e1, e2]
theorem add_s {k q c : Nat} {v : Int32} {I : HI} {J : HJ} (hk : oK k = 1) (hq : q < 4) (hc : c < 200) (h : I (k + 6) q = nI c) : f_X2_add k (nI q) v I J = some (put (put I (k + 2 + q) c v) (k + 6) q (nI (c + 1))) := by
  obtain ⟨e0, e1, -, -, e3⟩ := lay1 hk
  have h2 : ¬ (200 : Int32) ≤ nI c := by rw [show (200 : Int32) = nI 200 from rfl, le_nn (by omega) (by omega)]; omega
  have h3 : put I (k + 2 + q) c v (k + 6) q = nI c := by rw [put_ap, if_neg (by omega)]; exact h
  simp [f_X2_add, isKey_in hq, bd1_s, nm_s, vin_nI hq, cl_nI (show q < 2147483648 by omega), cl_nI (show c < 2147483648 by omega), e0, e1, e3 q hq, h, h2, vin_nI hc, h3, nI_1]
/-- a key's cells: the first ones of L, the others as they were -/
def rowOf (L : List Int32) (f : Nat → Int32) : Nat → Int32 := fun j => if j < L.length then L.getD j 0 else f j
theorem write_l {k q t : Nat} {J : HJ} (hk : oK k = 1) (hq : q < 4) (ht : sl t ≤ 200) : ∀ (d f i : Nat) (I : HI), i + d = sl t → d < f → I (k + 6) q = nI i → (∀ j, j < i → I (k + 2 + q) j = (stV t).getD j 0) → ∃ I1, fL_X2_write_7 k (nI q) t f (nI i) I J = some I1 ∧ I1 (k + 2 + q) = rowOf (stV t) (I (k + 2 + q)) ∧ I1 (k + 6) = upd (I (k + 6)) q (nI (sl t)) ∧ I1 (k + 7) = upd (I (k + 7)) q 0 ∧ ∀ a, a ≠ k + 2 + q → a ≠ k + 6 → a ≠ k + 7 → I1 a = I a := by
  obtain ⟨e0, e1, e2, e4, e3⟩ := lay1 hk
  intro d
  induction d with
  | zero =>
    intro f i I hi hf hc hr
    obtain ⟨f, rfl⟩ : ∃ g, f = g + 1 := ⟨f - 1, by omega⟩
    refine ⟨put I (k + 7) q 0, ?_, ?_, ?_, ?_, ?_⟩
    · show fLB_X2_write_7 k (nI q) t (fL_X2_write_7 k (nI q) t f) (nI i) I J = _
      unfold fLB_X2_write_7
      rw [if_pos (show Int32.ofNat (sl t) ≤ nI i from nI_le (by omega) (by omega))]
      simp [vin_nI hq, cl_nI (show q < 2147483648 by omega), e2, nm_s]
    · rw [put_ne _ (by omega)]
      funext j
      unfold rowOf
      by_cases h : j < (stV t).length
      · rw [if_pos h]; exact hr j (by unfold sl at hi; omega)
      · rw [if_neg h]
    · rw [put_ne _ (by omega)]
      funext j
      unfold upd
      by_cases h : j = q
      · subst h; rw [if_pos rfl, hc]; congr 1
      · rw [if_neg h]
    · rw [put_eq]
    · intro a h1 h2 h3
      exact put_ne a h3
  | succ d ih =>
    intro f i I hi hf hc hr
    obtain ⟨f, rfl⟩ : ∃ g, f = g + 1 := ⟨f - 1, by omega⟩
    obtain ⟨I1, h1, h2, h3, h4, h5⟩ := ih f (i + 1) (put (put I (k + 2 + q) i (sv t (nI i))) (k + 6) q (nI (i + 1))) (by omega) (by omega) (by rw [put_ap, if_pos ⟨rfl, rfl⟩]) (by
      intro j hj
      rw [put_ap, if_neg (by omega), put_ap]
      by_cases h : j = i
      · subst h
        rw [if_pos ⟨rfl, rfl⟩]
        unfold sv
        rw [cl_nI (by omega)]
      · rw [if_neg (by omega)]; exact hr j (by omega))
    refine ⟨I1, ?_, ?_, ?_, ?_, ?_⟩
    · show fLB_X2_write_7 k (nI q) t (fL_X2_write_7 k (nI q) t f) (nI i) I J = _
      unfold fLB_X2_write_7
      rw [if_neg (show ¬ Int32.ofNat (sl t) ≤ nI i from nI_ge (by omega) (by omega)), if_pos (vin_nI (show i < sl t by omega) (by omega)), add_s hk hq (show i < 200 by omega) hc, bd1_s, nm_s, nI_1]
      exact h1
    · rw [h2, put_ne _ (by omega), put_eq]
      funext j
      unfold rowOf upd
      by_cases h : j < (stV t).length
      · rw [if_pos h, if_pos h]
      · rw [if_neg h, if_neg h, if_neg (by unfold sl at hi; omega)]
    · rw [h3, put_eq, put_ne _ (by omega)]
      funext j
      unfold upd
      by_cases h : j = q <;> simp [h]
    · rw [h4, put_ne _ (by omega), put_ne _ (by omega)]
    · intro a g1 g2 g3
      rw [h5 a g1 g2 g3, put_ne _ g2, put_ne _ g1]
theorem write_s {k q t : Nat} {I : HI} {J : HJ} (hk : oK k = 1) (hq : q < 4) (ht : sl t ≤ 200) : ∃ I1, f_X2_write k (nI q) t I J = some I1 ∧ I1 (k + 2 + q) = rowOf (stV t) (I (k + 2 + q)) ∧ I1 (k + 6) = upd (I (k + 6)) q (nI (sl t)) ∧ I1 (k + 7) = upd (I (k + 7)) q 0 ∧ ∀ a, a ≠ k + 2 + q → a ≠ k + 6 → a ≠ k + 7 → I1 a = I a := by
  obtain ⟨I1, h1, h2, h3, h4, h5⟩ := write_l (J := J) hk hq ht (sl t) FU 0 (put (put I (k + 6) q 0) (k + 7) q 1) (by omega) (FU_ge (by omega)) (by rw [put_ap, if_neg (by omega), put_ap, if_pos ⟨rfl, rfl⟩]; rfl) (fun j hj => absurd hj (Nat.not_lt_zero j))
  refine ⟨I1, ?_, ?_, ?_, ?_, ?_⟩
  · unfold f_X2_write
    rw [tellAnew_s hk hq, bd1_s]
    exact h1
  · rw [h2, put_ne _ (by omega), put_ne _ (by omega)]
  · rw [h3, put_ne _ (by omega), put_eq]
    funext j
    unfold upd
    by_cases h : j = q <;> simp [h]
  · rw [h4, put_eq, put_ne _ (by omega)]
    funext j
    unfold upd
    by_cases h : j = q <;> simp [h]
  · intro a g1 g2 g3
    rw [h5 a g1 g2 g3, put_ne _ g3, put_ne _ g2]
theorem becomeAsAtFirst_s {k : Nat} {I : HI} {J : HJ} (hk : oK k = 1) : ∃ I1, f_X2_becomeAsAtFirst k I J = some I1 ∧ (∀ q, q < 4 → I1 (k + 2 + q) = rowOf (stV q) (I (k + 2 + q))) ∧ (∀ q, q < 4 → I1 (k + 6) q = nI (sl q) ∧ I1 (k + 7) q = 0) ∧ (∀ j, 4 ≤ j → I1 (k + 6) j = I (k + 6) j ∧ I1 (k + 7) j = I (k + 7) j) ∧ ∀ a, (a < k + 2 ∨ k + 7 < a) → I1 a = I a := by
  obtain ⟨A, a1, a2, a3, a4, a5⟩ := write_s (t := 0) (I := I) (J := J) hk (show 0 < 4 by omega) (by decide)
  obtain ⟨B, b1, b2, b3, b4, b5⟩ := write_s (t := 1) (I := A) (J := J) hk (show 1 < 4 by omega) (by decide)
  obtain ⟨C, c1, c2, c3, c4, c5⟩ := write_s (t := 2) (I := B) (J := J) hk (show 2 < 4 by omega) (by decide)
  obtain ⟨D, d1, d2, d3, d4, d5⟩ := write_s (t := 3) (I := C) (J := J) hk (show 3 < 4 by omega) (by decide)
  refine ⟨D, ?_, ?_, ?_, ?_, ?_⟩
  · unfold f_X2_becomeAsAtFirst
    rw [show (0 : Int32) = nI 0 from rfl, show (1 : Int32) = nI 1 from rfl, show (2 : Int32) = nI 2 from rfl, show (3 : Int32) = nI 3 from rfl, a1, bd1_s, b1, bd1_s, c1, bd1_s, d1, bd1_s]
  · intro q hq
    match q, hq with
    | 0, _ => rw [d5 _ (by omega) (by omega) (by omega), c5 _ (by omega) (by omega) (by omega), b5 _ (by omega) (by omega) (by omega), a2]
    | 1, _ => rw [d5 _ (by omega) (by omega) (by omega), c5 _ (by omega) (by omega) (by omega), b2, a5 _ (by omega) (by omega) (by omega)]
    | 2, _ => rw [d5 _ (by omega) (by omega) (by omega), c2, b5 _ (by omega) (by omega) (by omega), a5 _ (by omega) (by omega) (by omega)]
    | 3, _ => rw [d2, c5 _ (by omega) (by omega) (by omega), b5 _ (by omega) (by omega) (by omega), a5 _ (by omega) (by omega) (by omega)]
  · intro q hq
    rw [d3, c3, b3, a3, d4, c4, b4, a4]
    match q, hq with
    | 0, _ => exact ⟨rfl, rfl⟩
    | 1, _ => exact ⟨rfl, rfl⟩
    | 2, _ => exact ⟨rfl, rfl⟩
    | 3, _ => exact ⟨rfl, rfl⟩
  · intro j hj
    rw [d3, c3, b3, a3, d4, c4, b4, a4]
    simp [upd, show j ≠ 0 by omega, show j ≠ 1 by omega, show j ≠ 2 by omega, show j ≠ 3 by omega]
  · intro a ha
    rw [d5 _ (by omega) (by omega) (by omega), c5 _ (by omega) (by omega) (by omega), b5 _ (by omega) (by omega) (by omega), a5 _ (by omega) (by omega) (by omega)]

/-! the model's laws(): as at the first -/
theorem nI_mul (a b : Nat) : nI a * nI b = nI (a * b) := (Int32.ofNat_mul a b).symm
theorem mlaws_b {J : HJ} : ∀ (d f i : Nat) (I : HI), i + d = 4 → d < f → ∃ I1, fL_X11_laws_43 f (nI i) I J = some I1 ∧ (∀ j, i ≤ j → j < 4 → I1 99 (438 + 2 * j) = I 104 j ∧ I1 99 (439 + 2 * j) = I 105 j) ∧ I1 99 11 = 0 ∧ ∀ a j, (a ≠ 99 ∨ (j ≠ 11 ∧ j < 438 + 2 * i) ∨ 446 ≤ j) → I1 a j = I a j := by
  intro d
  induction d with
  | zero =>
    intro f i I hi hf
    obtain ⟨f, rfl⟩ : ∃ g, f = g + 1 := ⟨f - 1, by omega⟩
    refine ⟨put I 99 11 0, ?_, fun j h1 h2 => by omega, by rw [put_ap, if_pos ⟨rfl, rfl⟩], fun a j h => by rw [put_ap, if_neg (by omega)]⟩
    show fLB_X11_laws_43 (fL_X11_laws_43 f) (nI i) I J = _
    unfold fLB_X11_laws_43
    rw [if_pos (show (4 : Int32) ≤ nI i by rw [show (4 : Int32) = nI 4 from rfl, le_nn (by omega) (by omega)]; omega), if_pos (by decide)]
    rfl
  | succ d ih =>
    intro f i I hi hf
    obtain ⟨f, rfl⟩ : ∃ g, f = g + 1 := ⟨f - 1, by omega⟩
    have e2 : (438 : Int32) + (2 : Int32) * nI i = nI (438 + 2 * i) := by
      show nI 438 + nI 2 * nI i = _
      rw [nI_mul, nI_add]
    have e3 : nI (438 + 2 * i) + (1 : Int32) = nI (439 + 2 * i) := by rw [nI_1]; congr 1; omega
    obtain ⟨I1, h1, h2, h3, h4⟩ := ih f (i + 1) (put (put I 99 (438 + 2 * i) (I 104 i)) 99 (439 + 2 * i) (I 105 i)) (by omega) (by omega)
    refine ⟨I1, ?_, ?_, h3, ?_⟩
    · show fLB_X11_laws_43 (fL_X11_laws_43 f) (nI i) I J = _
      unfold fLB_X11_laws_43
      rw [if_neg (show ¬ (4 : Int32) ≤ nI i by rw [show (4 : Int32) = nI 4 from rfl, le_nn (by omega) (by omega)]; omega), if_pos (vin_nI (show i < 4 by omega) (by omega)), e2, if_pos (vin_nI (show 438 + 2 * i < 666 by omega) (by omega)), nm_s, if_pos (vin_nI (show i < 4 by omega) (by omega)), e3, if_pos (vin_nI (show 439 + 2 * i < 666 by omega) (by omega)), nm_s, nm_s, nI_1, cl_nI (by omega), cl_nI (by omega), cl_nI (by omega), put_ap I _ _ _ 105, if_neg (by omega)]
      exact h1
    · intro j hj hj4
      by_cases e : j = i
      · subst e
        rw [h4 99 _ (by omega), h4 99 _ (by omega), put_ap, if_neg (by omega), put_ap, if_pos ⟨rfl, rfl⟩, put_ap, if_pos ⟨rfl, rfl⟩]
        exact ⟨rfl, rfl⟩
      · have h := h2 j (by omega) hj4
        rw [h.1, h.2, put_ap, if_neg (by omega), put_ap, if_neg (by omega), put_ap, if_neg (by omega), put_ap, if_neg (by omega)]
        exact ⟨rfl, rfl⟩
    · intro a j h
      rw [h4 a j (by omega), put_ap, if_neg (by omega), put_ap, if_neg (by omega)]
theorem mlaws_a {J : HJ} : ∀ (d f i : Nat) (I : HI), i + d = 220 → d < f → ∃ I1, fL_X11_laws_2 f (nI i) I J = some I1 ∧ (∀ j, i ≤ j → j < 220 → I1 99 (446 + j) = if j < 12 then I 103 j else 0) ∧ (∀ j, j < 4 → I1 99 (438 + 2 * j) = I 104 j ∧ I1 99 (439 + 2 * j) = I 105 j) ∧ I1 99 11 = 0 ∧ ∀ a j, (a ≠ 99 ∨ (j ≠ 11 ∧ j < 438) ∨ (446 ≤ j ∧ j < 446 + i) ∨ 666 ≤ j) → I1 a j = I a j := by
  intro d
  induction d with
  | zero =>
    intro f i I hi hf
    obtain ⟨f, rfl⟩ : ∃ g, f = g + 1 := ⟨f - 1, by omega⟩
    obtain ⟨I1, h1, h2, h3, h4⟩ := mlaws_b (J := J) 4 FU 0 I rfl (FU_ge (by omega))
    refine ⟨I1, ?_, fun j h1 h2 => by omega, fun j hj => h2 j (by omega) hj, h3, fun a j h => h4 a j (by omega)⟩
    show fLB_X11_laws_2 (fL_X11_laws_2 f) (nI i) I J = _
    unfold fLB_X11_laws_2
    rw [if_pos (show (220 : Int32) ≤ nI i by rw [show (220 : Int32) = nI 220 from rfl, le_nn (by omega) (by omega)]; omega)]
    exact h1
  | succ d ih =>
    intro f i I hi hf
    obtain ⟨f, rfl⟩ : ∃ g, f = g + 1 := ⟨f - 1, by omega⟩
    have e2 : (446 : Int32) + nI i = nI (446 + i) := nI_add 446 i
    obtain ⟨I1, h1, h2, h3, h3b, h4⟩ := ih f (i + 1) (put I 99 (446 + i) (if i < 12 then I 103 i else 0)) (by omega) (by omega)
    refine ⟨I1, ?_, ?_, ?_, h3b, ?_⟩
    · show fLB_X11_laws_2 (fL_X11_laws_2 f) (nI i) I J = _
      unfold fLB_X11_laws_2 fB_X11_laws_34
      rw [if_neg (show ¬ (220 : Int32) ≤ nI i by rw [show (220 : Int32) = nI 220 from rfl, le_nn (by omega) (by omega)]; omega), e2]
      by_cases h : i < 12
      · rw [if_neg (show ¬ (12 : Int32) ≤ nI i by rw [show (12 : Int32) = nI 12 from rfl, le_nn (by omega) (by omega)]; omega), if_pos (vin_nI (show i < 12 by omega) (by omega)), if_pos (vin_nI (show 446 + i < 666 by omega) (by omega)), nm_s, nm_s, nI_1, cl_nI (by omega), cl_nI (by omega)]
        rw [if_pos h] at h1
        exact h1
      · rw [if_pos (show (12 : Int32) ≤ nI i by rw [show (12 : Int32) = nI 12 from rfl, le_nn (by omega) (by omega)]; omega), if_pos (vin_nI (show 446 + i < 666 by omega) (by omega)), nm_s, nm_s, nI_1, cl_nI (by omega)]
        rw [if_neg h] at h1
        exact h1
    · intro j hj hj4
      by_cases e : j = i
      · subst e
        rw [h4 99 _ (by omega), put_ap, if_pos ⟨rfl, rfl⟩]
      · rw [h2 j (by omega) hj4, put_ne 103 (by decide)]
    · intro j hj
      have h := h3 j hj
      rw [h.1, h.2, put_ap, if_neg (by omega), put_ap, if_neg (by omega)]
      exact ⟨rfl, rfl⟩
    · intro a j h
      rw [h4 a j (by omega), put_ap, if_neg (by omega)]
theorem mlaws_s {I : HI} {J : HJ} : ∃ I1, f_X11_laws I J = some I1 ∧ (∀ j, j < 220 → I1 99 (446 + j) = if j < 12 then I 103 j else 0) ∧ (∀ j, j < 4 → I1 99 (438 + 2 * j) = I 104 j ∧ I1 99 (439 + 2 * j) = I 105 j) ∧ I1 99 11 = 0 ∧ ∀ a j, (a ≠ 99 ∨ (j ≠ 11 ∧ j < 438) ∨ 666 ≤ j) → I1 a j = I a j := by
  obtain ⟨I1, h1, h2, h3, h4, h5⟩ := mlaws_a (J := J) 220 FU 0 I rfl (FU_ge (by omega))
  exact ⟨I1, h1, fun j hj => h2 j (by omega) hj, h3, h4, fun a j h => h5 a j (by omega)⟩

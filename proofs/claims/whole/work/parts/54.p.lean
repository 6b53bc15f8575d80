def perM (c : Nat) : Nat := if (c - c / 2) / 2 < 8 then (c - c / 2) / 2 else 8
def IsPer (v : Nat → Int32) (c q : Nat) : Prop := (q = 0 ∧ ∀ x, 1 ≤ x → x ≤ perM c → ¬ Prd v c x) ∨ (1 ≤ q ∧ q ≤ perM c ∧ Prd v c q ∧ ∀ x, 1 ≤ x → x < q → ¬ Prd v c x)
theorem IsPer.uniq {v : Nat → Int32} {c p q : Nat} (h1 : IsPer v c p) (h2 : IsPer v c q) : p = q := by
  rcases h1 with ⟨a1, a2⟩ | ⟨a1, a2, a3, a4⟩ <;> rcases h2 with ⟨b1, b2⟩ | ⟨b1, b2, b3, b4⟩
  · omega
  · exact absurd b3 (a2 q b1 b2)
  · exact absurd a3 (b2 p a1 a2)
  · rcases Nat.lt_trichotomy p q with h | h | h
    · exact absurd a3 (b4 p a1 h)
    · exact h
    · exact absurd b3 (a4 q b1 h)
theorem Prd.of {v w : Nat → Int32} {c p : Nat} (h : ∀ i, i < c → v i = w i) (hp : Prd v c p) : Prd w c p := fun j h1 h2 => by
  rw [← h j h2, ← h (j - p) (by omega)]
  exact hp j h1 h2
theorem Prd.iff {v w : Nat → Int32} {c p : Nat} (h : ∀ i, i < c → v i = w i) : Prd v c p ↔ Prd w c p := ⟨Prd.of h, Prd.of (fun i hi => (h i hi).symm)⟩
theorem IsPer.of {v w : Nat → Int32} {c q : Nat} (h : ∀ i, i < c → v i = w i) (hp : IsPer v c q) : IsPer w c q := by
  rcases hp with ⟨a1, a2⟩ | ⟨a1, a2, a3, a4⟩
  · exact Or.inl ⟨a1, fun x h1 h2 q => a2 x h1 h2 ((Prd.iff h).mpr q)⟩
  · exact Or.inr ⟨a1, a2, a3.of h, fun x h1 h2 q => a4 x h1 h2 ((Prd.iff h).mpr q)⟩
theorem per_s {k c : Nat} {I : HI} {J : HJ} (hk : oK k = 8) (hc : c ≤ 60) (h : I k 1 = nI c) : ∃ q, q ≤ 8 ∧ f_X9_findPeriod k I J = some (nI q) ∧ IsPer (I (k + 1)) c q := by
  have hM : perM c ≤ 8 ∧ perM c ≤ (c - c / 2) / 2 := by unfold perM; split <;> omega
  have e6 : c - c / 2 ≤ c := Nat.sub_le _ _
  have e5 : c - (c - c / 2) = c / 2 := by omega
  have hM2 : perM c + 1 > 8 ∨ perM c + 1 > (c - c / 2) / 2 := by unfold perM; split <;> omega
  have key : ∀ d i f, i + d = perM c + 1 → d < f → 1 ≤ i → ∃ q, q ≤ 8 ∧ fL_X9_findPeriod_14 k f (nI (c - c / 2)) (nI i) I J = some (nI q) ∧ ((q = 0 ∧ ∀ x, i ≤ x → x ≤ perM c → ¬ Prd (I (k + 1)) c x) ∨ (i ≤ q ∧ q ≤ perM c ∧ Prd (I (k + 1)) c q ∧ ∀ x, i ≤ x → x < q → ¬ Prd (I (k + 1)) c x)) := by
    refine fuel (L := fL_X9_findPeriod_14 k) (B := fLB_X9_findPeriod_14 k) (fun _ => rfl) (P := fun i g => 1 ≤ i → ∃ q, q ≤ 8 ∧ g (nI (c - c / 2)) (nI i) I J = some (nI q) ∧ ((q = 0 ∧ ∀ x, i ≤ x → x ≤ perM c → ¬ Prd (I (k + 1)) c x) ∨ (i ≤ q ∧ q ≤ perM c ∧ Prd (I (k + 1)) c q ∧ ∀ x, i ≤ x → x < q → ¬ Prd (I (k + 1)) c x))) (fun g hg => ?_) (fun i g hi ih hg => ?_)
    · refine ⟨0, by omega, ?_, Or.inl ⟨rfl, fun x h1 h2 => by omega⟩⟩
      unfold fLB_X9_findPeriod_14
      rw [N_8, N_2, dv _ _ (by omega) (by omega) (by omega)]
      by_cases h8 : 8 < perM c + 1
      · rw [if_pos (by rw [lt_nn (by omega) (by omega)]; exact h8)]; rfl
      · rw [if_neg (by rw [lt_nn (by omega) (by omega)]; exact h8), if_pos (by rw [lt_nn (by omega) (by omega)]; omega)]; rfl
    · obtain ⟨r, r1, r2⟩ := cab_s (J := J) hk hc h (p := i) (by omega)
      rcases r2 with ⟨e1, e2⟩ | ⟨e1, e2⟩
      · refine ⟨i, by omega, ?_, Or.inr ⟨Nat.le_refl _, by omega, e2, fun x h1 h2 => by omega⟩⟩
        unfold fLB_X9_findPeriod_14
        rw [N_8, N_2, dv _ _ (by omega) (by omega) (by omega), if_neg (by rw [lt_nn (by omega) (by omega)]; omega), if_neg (by rw [lt_nn (by omega) (by omega)]; omega), h, sb _ _ e6, e5, r1, bd1_s, e1, if_neg (by decide)]
      · obtain ⟨q, q0, q1, q2⟩ := ih (by omega)
        refine ⟨q, q0, ?_, ?_⟩
        · unfold fLB_X9_findPeriod_14
          rw [N_8, N_2, dv _ _ (by omega) (by omega) (by omega), if_neg (by rw [lt_nn (by omega) (by omega)]; omega), if_neg (by rw [lt_nn (by omega) (by omega)]; omega), h, sb _ _ e6, e5, r1, bd1_s, e1, if_pos rfl, nI_1, nm_s]
          exact q1
        · rcases q2 with ⟨a1, a2⟩ | ⟨a1, a2, a3, a4⟩
          · refine Or.inl ⟨a1, fun x h1 h2 => ?_⟩
            by_cases ex : x = i
            · rw [ex]; exact e2
            · exact a2 x (by omega) h2
          · refine Or.inr ⟨by omega, a2, a3, fun x h1 h2 => ?_⟩
            by_cases ex : x = i
            · rw [ex]; exact e2
            · exact a4 x (by omega) h2
  obtain ⟨q, q0, q1, q2⟩ := key (perM c) 1 FU (by omega) (FU_ge (by omega)) (Nat.le_refl _)
  refine ⟨q, q0, ?_, q2⟩
  unfold f_X9_findPeriod
  rw [h, N_2, dv _ _ (by omega) (by omega) (by omega), sb _ _ (Nat.div_le_self c 2), nm_s]
  exact q1
theorem prd1 (n : Nat) : nI (n + 1) + (-1 : Int32) = nI n := by
  rw [← nI_1]
  show nI n + nI 1 + -(nI 1) = nI n
  rw [Int32.add_assoc, Int32.add_right_neg, Int32.add_zero]
theorem mper_s {c : Nat} {v : Nat → Int32} {I : HI} {J : HJ} (h : Look I c v) : ∃ q, q ≤ 8 ∧ f_X11_periodOf I J = some (nI q) ∧ IsPer v c q := by
  have hM : perM c ≤ 8 ∧ perM c ≤ (c - c / 2) / 2 := by unfold perM; split <;> omega
  have hc := h.1
  have key : ∀ d i f, i + d = perM c → d < f → ∀ x, x ≤ 8 → ∃ q, q ≤ 8 ∧ fL_X11_periodOf_29 f (nI x) (nI (perM c - i)) I J = some (nI q) ∧ ((q = x ∧ ∀ y, 1 ≤ y → y ≤ perM c - i → ¬ Prd v c y) ∨ (1 ≤ q ∧ q ≤ perM c - i ∧ Prd v c q ∧ ∀ y, 1 ≤ y → y < q → ¬ Prd v c y)) := by
    refine fuel (L := fL_X11_periodOf_29) (B := fLB_X11_periodOf_29) (fun _ => rfl) (P := fun i g => ∀ x, x ≤ 8 → ∃ q, q ≤ 8 ∧ g (nI x) (nI (perM c - i)) I J = some (nI q) ∧ ((q = x ∧ ∀ y, 1 ≤ y → y ≤ perM c - i → ¬ Prd v c y) ∨ (1 ≤ q ∧ q ≤ perM c - i ∧ Prd v c q ∧ ∀ y, 1 ≤ y → y < q → ¬ Prd v c y))) (fun g x hx => ?_) (fun i g hi ih x hx => ?_)
    · refine ⟨x, hx, ?_, Or.inl ⟨rfl, fun y h1 h2 => by omega⟩⟩
      unfold fLB_X11_periodOf_29
      rw [Nat.sub_self, if_pos (by decide)]
    · obtain ⟨p, hp⟩ : ∃ p, perM c - i = p + 1 := ⟨perM c - i - 1, by omega⟩
      have hp2 : perM c - (i + 1) = p := by omega
      rw [hp2] at ih
      rw [hp]
      obtain ⟨r, r1, r2⟩ := mcb_s (J := J) h (p := p + 1) (by omega)
      rcases r2 with ⟨e1, e2⟩ | ⟨e1, e2⟩
      · obtain ⟨q, q0, q1, q2⟩ := ih (p + 1) (by omega)
        refine ⟨q, q0, ?_, Or.inr ?_⟩
        · unfold fLB_X11_periodOf_29 fB_X11_periodOf_46
          rw [if_neg (show ¬ nI (p + 1) ≤ (0 : Int32) by rw [N_0, le_nn (by omega) (by omega)]; omega), r1, bd1_s, e1, if_neg (by decide), prd1, nm_s]
          exact q1
        · rcases q2 with ⟨a1, a2⟩ | ⟨a1, a2, a3, a4⟩
          · exact ⟨by omega, by omega, by rw [a1]; exact e2, fun y h1 h2 => a2 y h1 (by omega)⟩
          · exact ⟨a1, by omega, a3, a4⟩
      · obtain ⟨q, q0, q1, q2⟩ := ih x hx
        refine ⟨q, q0, ?_, ?_⟩
        · unfold fLB_X11_periodOf_29 fB_X11_periodOf_46
          rw [if_neg (show ¬ nI (p + 1) ≤ (0 : Int32) by rw [N_0, le_nn (by omega) (by omega)]; omega), r1, bd1_s, e1, if_pos rfl, prd1, nm_s]
          exact q1
        · rcases q2 with ⟨a1, a2⟩ | ⟨a1, a2, a3, a4⟩
          · refine Or.inl ⟨a1, fun y h1 h2 => ?_⟩
            by_cases ey : y = p + 1
            · rw [ey]; exact e2
            · exact a2 y h1 (by omega)
          · exact Or.inr ⟨a1, by omega, a3, a4⟩
  obtain ⟨q, q0, q1, q2⟩ := key (perM c) 0 FU (by omega) (FU_ge (by omega)) 0 (by omega)
  refine ⟨q, q0, ?_, q2⟩
  unfold f_X11_periodOf fB_X11_periodOf_28
  rw [h.2.1, N_2, dv _ _ (by omega) (by omega) (by omega), sb _ _ (by omega), dv _ _ (by omega) (by omega) (by omega), nm_s, N_8]
  rw [Nat.sub_zero] at q1
  by_cases h8 : 8 ≤ (c - c / 2) / 2
  · rw [if_pos (by rw [le_nn (by omega) (by omega)]; exact h8)]
    have e : perM c = 8 := by unfold perM; rw [if_neg (by omega)]
    rw [e] at q1
    exact q1
  · rw [if_neg (by rw [le_nn (by omega) (by omega)]; exact h8)]
    have e : perM c = (c - c / 2) / 2 := by unfold perM; rw [if_pos (by omega)]
    rw [e] at q1
    exact q1

def wiS (G : Nat → Nat) : Nat → Nat → Int32 → Int32
  | 0, _, acc => acc
  | d + 1, k, acc => wiS G d (k + 1) (if G k = 3 then acc + nI 1 else acc)
theorem cwin_s {P : Pg} {x : Nat → Int32} {G : Nat → Nat} {hi : Nat} {a0 : Int32} (hG : ∀ k, G k ≤ 8 ∧ IsPer (trU P 400 (ud x 6 (nI k))) (trC' P 400 (ud x 6 (nI k))) (G k)) (hhi : hi ≤ 99) : ∀ d k f, k + d = hi + 1 → d < f → ∀ (acc : Int32) (I : HI) (J : HJ), Both I x P → ∃ I1 J1, fL_X10_windows_15 a0 (nI hi) f acc (nI k) I J = some (wiS G d k acc, I1, J1) ∧ (∀ a j, ¬ Scr a j → I1 a j = I a j) ∧ ∀ a, a ≠ 53 → a ≠ 56 → a ≠ 98 → J1 a = J a := by
  intro d
  induction d with
  | zero =>
    intro k f hk hf acc I J hB
    obtain ⟨f, rfl⟩ : ∃ g, f = g + 1 := ⟨f - 1, by omega⟩
    refine ⟨I, J, ?_, fun _ _ _ => rfl, fun _ _ _ _ => rfl⟩
    show fLB_X10_windows_15 a0 (nI hi) _ acc (nI k) I J = some (acc, I, J)
    unfold fLB_X10_windows_15
    rw [if_pos (by rw [lt_nn (by omega) (by omega)]; omega)]
  | succ d ih =>
    intro k f hk hf acc I J hB
    obtain ⟨f, rfl⟩ : ∃ g, f = g + 1 := ⟨f - 1, by omega⟩
    obtain ⟨g1, g2⟩ := hG k
    obtain ⟨I1, J1, a1, a2, a3⟩ := cgrid_s g2 I J hB
    obtain ⟨I2, J2, b1, b2, b3⟩ := ih (k + 1) f (by omega) (by omega) (if G k = 3 then acc + nI 1 else acc) I1 J1 (hB.of a2)
    refine ⟨I2, J2, ?_, fun a j hs => (b2 a j hs).trans (a2 a j hs), fun a q1 q2 q3 => (b3 a q1 q2 q3).trans (a3 a q1 q2 q3)⟩
    show fLB_X10_windows_15 a0 (nI hi) (fL_X10_windows_15 a0 (nI hi) f) acc (nI k) I J = some (wiS G d (k + 1) (if G k = 3 then acc + nI 1 else acc), I2, J2)
    unfold fLB_X10_windows_15 fB_X10_windows_34
    rw [if_neg (by rw [lt_nn (by omega) (by omega)]; omega), a1, bd3_s]
    simp (disch := omega) only [N_1, N_3, eq_nn, nI_add, nm_s]
    by_cases h3 : G k = 3
    · rw [if_pos h3]
      rw [if_pos h3] at b1 ⊢
      exact b1
    · rw [if_neg h3]
      rw [if_neg h3] at b1 ⊢
      exact b1
theorem mwin_s {P : Pg} {x : Nat → Int32} {G : Nat → Nat} {hi : Nat} {a0 : Int32} (hG : ∀ k, G k ≤ 8 ∧ IsPer (trU P 400 (ud x 6 (nI k))) (trC' P 400 (ud x 6 (nI k))) (G k)) (hhi : hi ≤ 99) : ∀ d k f, k + d = hi + 1 → d < f → ∀ (acc : Int32) (I : HI) (J : HJ), Both I x P → ∃ I1 J1, fL_X11_windows_15 a0 (nI hi) f acc (nI k) I J = some (wiS G d k acc, I1, J1) ∧ (∀ a j, ¬ Scr a j → I1 a j = I a j) ∧ ∀ a, a ≠ 53 → a ≠ 56 → a ≠ 98 → J1 a = J a := by
  intro d
  induction d with
  | zero =>
    intro k f hk hf acc I J hB
    obtain ⟨f, rfl⟩ : ∃ g, f = g + 1 := ⟨f - 1, by omega⟩
    refine ⟨I, J, ?_, fun _ _ _ => rfl, fun _ _ _ _ => rfl⟩
    show fLB_X11_windows_15 a0 (nI hi) _ acc (nI k) I J = some (acc, I, J)
    unfold fLB_X11_windows_15
    rw [if_pos (by rw [lt_nn (by omega) (by omega)]; omega)]
  | succ d ih =>
    intro k f hk hf acc I J hB
    obtain ⟨f, rfl⟩ : ∃ g, f = g + 1 := ⟨f - 1, by omega⟩
    obtain ⟨g1, g2⟩ := hG k
    obtain ⟨I1, J1, a1, a2, a3⟩ := mgrid_s g2 I J hB
    obtain ⟨I2, J2, b1, b2, b3⟩ := ih (k + 1) f (by omega) (by omega) (if G k = 3 then acc + nI 1 else acc) I1 J1 (hB.of a2)
    refine ⟨I2, J2, ?_, fun a j hs => (b2 a j hs).trans (a2 a j hs), fun a q1 q2 q3 => (b3 a q1 q2 q3).trans (a3 a q1 q2 q3)⟩
    show fLB_X11_windows_15 a0 (nI hi) (fL_X11_windows_15 a0 (nI hi) f) acc (nI k) I J = some (wiS G d (k + 1) (if G k = 3 then acc + nI 1 else acc), I2, J2)
    unfold fLB_X11_windows_15 fB_X11_windows_37
    rw [if_neg (by rw [lt_nn (by omega) (by omega)]; omega), a1, bd3_s]
    simp (disch := omega) only [N_1, N_3, eq_nn, nI_add, nm_s]
    by_cases h3 : G k = 3
    · rw [if_pos h3]
      rw [if_pos h3] at b1 ⊢
      exact b1
    · rw [if_neg h3, Int32.add_zero]
      rw [if_neg h3] at b1 ⊢
      exact b1
theorem sim_windows {N : Nat} {I : HI} {J : HJ} (hN : N ≤ 1000000) (hR : Rel N I J) (a0 : Int32) (a1 : Int32) : ∃ (r : Int32) (I1 : HI) (J1 : HJ) (I2 : HI) (J2 : HJ), f_X10_windows a0 a1 I J = some (r, I1, J1) ∧ f_X11_windows a0 a1 I1 J1 = some (r, I2, J2) ∧ Rel (N + 400) I2 J2 := by
  have hM := hR.mono (Nat.le_add_right N 400)
  obtain ⟨r, r1, r2, r3⟩ := ispan_s (a0 := a0) (a1 := a1)
  rcases r3 with r3 | ⟨r3, lo, hi, rfl, rfl, hle, hhi⟩
  · refine ⟨-1, I, J, I, J, ?_, ?_, hM⟩
    · unfold f_X10_windows
      rw [r1, bd1_s, if_pos r3]
    · unfold f_X11_windows
      rw [r2, bd1_s, if_pos r3]
  · have hB := both_of hR
    obtain ⟨G, hG⟩ := per_fun (fun q => ((I 10 q).toNatClampNeg, I (6 + q))) (I 99)
    obtain ⟨I1, J1, a1, a2, a3⟩ := cwin_s (a0 := nI lo) hG hhi (hi + 1 - lo) lo FU (by omega) (FU_ge (by omega)) 0 I J hB
    obtain ⟨I2, J2, b1, b2, b3⟩ := mwin_s (a0 := nI lo) hG hhi (hi + 1 - lo) lo FU (by omega) (FU_ge (by omega)) 0 I1 J1 (hB.of a2)
    refine ⟨wiS G (hi + 1 - lo) lo 0, I1, J1, I2, J2, ?_, ?_, hR.scr (fun a j hs => (b2 a j hs).trans (a2 a j hs)) (fun a q1 q2 q3 => (b3 a q1 q2 q3).trans (a3 a q1 q2 q3))⟩
    · unfold f_X10_windows
      rw [r1, bd1_s, r3, if_neg (by decide)]
      exact a1
    · unfold f_X11_windows
      rw [r2, bd1_s, r3, if_neg (by decide)]
      exact b1
def evB (P : Pg) (n : Nat) (x : Nat → Int32) : Prop := ∃ q, IsPer (trU P n x) (trC' P n x) q ∧ kndS (trC' P n x) q = 1
theorem ceven_s {P : Pg} {x : Nat → Int32} {v : Int32} {n : Nat} (hn : n ≤ 400) (I : HI) (J : HJ) (hB : Both I x P) : ∃ r I1 J1, f_X10_isEvenWith v (nI n) I J = some (r, I1, J1) ∧ Tr r (evB P n (ud x 2 (x 2 + v))) ∧ (∀ a j, ¬ Scr a j → I1 a j = I a j) ∧ ∀ a, a ≠ 53 → a ≠ 56 → a ≠ 98 → J1 a = J a := by
  obtain ⟨I0, J0, I1, J1, a1, a2, a3, a4, a5, a6⟩ := ctrial_s (J := J) (v := x 2 + v) hB hn (show 2 < 9 by omega) (hB.2.2.2.2.u (by omega) (by omega))
  obtain ⟨p, p0, p1, p2⟩ := knd_s (k := 54) (J := J1) rfl a4.2.1 a4.2.2.1
  have p3 := p2.of (fun i hi => a4.2.2.2 i hi)
  have ex : I0 53 3 = x 2 := a2 2 (by omega)
  have ef : f_X10_isEvenWith v (nI n) I J = if kndS (trC' P n (ud x 2 (x 2 + v))) p = 1 then some (1, I1, J1) else some (0, I1, J1) := by
    unfold f_X10_isEvenWith
    rw [a1, bd2_s, nm_s, ex, show put I0 53 3 (x 2 + v) = put I0 53 (2 + 1) (x 2 + v) from rfl, a3, bd2_s, p1, bd1_s]
  have hs := Scr_of (fun a j q1 q2 q3 q4 q5 => a5 a j q1 (by omega) (by omega) (by omega))
  by_cases h : kndS (trC' P n (ud x 2 (x 2 + v))) p = 1
  · exact ⟨1, I1, J1, by rw [ef, if_pos h], Or.inl ⟨rfl, p, p3, h⟩, hs, fun a q1 q2 q3 => funext fun j => a6 a j q1⟩
  · refine ⟨0, I1, J1, by rw [ef, if_neg h], Or.inr ⟨rfl, fun q => ?_⟩, hs, fun a q1 q2 q3 => funext fun j => a6 a j q1⟩
    obtain ⟨p', h1, h2⟩ := q
    rw [p3.uniq h1] at h
    exact h h2
theorem meven_s {P : Pg} {x : Nat → Int32} {v : Int32} {n : Nat} (hn : n ≤ 400) (I : HI) (J : HJ) (hB : Both I x P) : ∃ r I1 J1, f_X11_isEvenBy v (nI n) I J = some (r, I1, J1) ∧ Tr r (evB P n (ud x 2 (x 2 + v))) ∧ (∀ a j, ¬ Scr a j → I1 a j = I a j) ∧ ∀ a, a ≠ 53 → a ≠ 56 → a ≠ 98 → J1 a = J a := by
  obtain ⟨I0, J0, I1, J1, a1, a2, a3, a4, a5, a6⟩ := mtrial_s (J := J) (v := x 2 + v) hB hn (show 2 < 9 by omega) (hB.2.2.2.2.u (by omega) (by omega))
  obtain ⟨I2, b1, b2, b3⟩ := lookt_s (J := J1) a4
  obtain ⟨p, p0, p1, p3⟩ := mknd_s (J := J1) b2
  have ex : I0 106 2 = x 2 := a2 2 (by omega)
  have ef : f_X11_isEvenBy v (nI n) I J = if kndS (trC' P n (ud x 2 (x 2 + v))) p = 1 then some (1, I2, J1) else some (0, I2, J1) := by
    unfold f_X11_isEvenBy
    rw [a1, bd2_s, N_2, if_pos (vin_nI (by omega) (by omega)), if_pos (vin_nI (by omega) (by omega)), cl_nI (by omega), ex, nm_s, a3, bd2_s, b1, bd1_s, p1, bd1_s]
  have hs := Scr_of (fun a j q1 q2 q3 q4 q5 => (b3 a j q4 (by omega)).trans (a5 a j (by omega) (by omega) (by omega) (by omega) (by omega)))
  by_cases h : kndS (trC' P n (ud x 2 (x 2 + v))) p = 1
  · exact ⟨1, I2, J1, by rw [ef, if_pos h], Or.inl ⟨rfl, p, p3, h⟩, hs, fun a q1 q2 q3 => funext fun j => a6 a j q3⟩
  · refine ⟨0, I2, J1, by rw [ef, if_neg h], Or.inr ⟨rfl, fun q => ?_⟩, hs, fun a q1 q2 q3 => funext fun j => a6 a j q3⟩
    obtain ⟨p', h1, h2⟩ := q
    rw [p3.uniq h1] at h
    exact h h2
/-- what both loops find: E says of which sizes the trial is even -/
def toR (E : Int32 → Prop) (k : Nat) (r : Int32) : Prop := (∃ s, k ≤ s ∧ s ≤ 30 ∧ (∀ y, k ≤ y → y < s → ¬ E (nI y) ∧ ¬ E (-nI y)) ∧ ((E (nI s) ∧ r = nI 100 + nI s) ∨ (¬ E (nI s) ∧ E (-nI s) ∧ r = nI 100 - nI s))) ∨ ((∀ y, k ≤ y → y ≤ 30 → ¬ E (nI y) ∧ ¬ E (-nI y)) ∧ r = -3)
theorem toR.uniq {E : Int32 → Prop} {k : Nat} {r r2 : Int32} (h1 : toR E k r) (h2 : toR E k r2) : r = r2 := by
  rcases h1 with ⟨s, a1, a2, a3, a4⟩ | ⟨a1, a2⟩ <;> rcases h2 with ⟨t, b1, b2, b3, b4⟩ | ⟨b1, b2⟩
  · have e : s = t := by
      rcases Nat.lt_trichotomy s t with h | h | h
      · have := b3 s a1 h
        rcases a4 with ⟨q, _⟩ | ⟨_, q, _⟩
        · exact absurd q this.1
        · exact absurd q this.2
      · exact h
      · have := a3 t b1 h
        rcases b4 with ⟨q, _⟩ | ⟨_, q, _⟩
        · exact absurd q this.1
        · exact absurd q this.2
    subst e
    rcases a4 with ⟨q1, q2⟩ | ⟨q1, q2, q3⟩ <;> rcases b4 with ⟨w1, w2⟩ | ⟨w1, w2, w3⟩
    · rw [q2, w2]
    · exact absurd q1 w1
    · exact absurd w1 q1
    · rw [q3, w3]
  · have := b1 s a1 a2
    rcases a4 with ⟨q, _⟩ | ⟨_, q, _⟩
    · exact absurd q this.1
    · exact absurd q this.2
  · have := a1 t b1 b2
    rcases b4 with ⟨q, _⟩ | ⟨_, q, _⟩
    · exact absurd q this.1
    · exact absurd q this.2
  · rw [a2, b2]
theorem toR.st {E : Int32 → Prop} {k : Nat} {r : Int32} (h : toR E (k + 1) r) (h1 : ¬ E (nI k)) (h2 : ¬ E (-nI k)) : toR E k r := by
  have ext : ∀ y, k ≤ y → (k + 1 ≤ y → ¬ E (nI y) ∧ ¬ E (-nI y)) → ¬ E (nI y) ∧ ¬ E (-nI y) := fun y q1 q2 => by
    by_cases e : y = k
    · rw [e]; exact ⟨h1, h2⟩
    · exact q2 (by omega)
  rcases h with ⟨s, a1, a2, a3, a4⟩ | ⟨a1, a2⟩
  · exact Or.inl ⟨s, by omega, a2, fun y q1 q2 => ext y q1 (fun q => a3 y q q2), a4⟩
  · exact Or.inr ⟨fun y q1 q2 => ext y q1 (fun q => a1 y q q2), a2⟩
theorem ctou_s {P : Pg} {x : Nat → Int32} {n : Nat} (hn : n ≤ 400) : ∀ d k f, k + d = 31 → d < f → ∀ (I : HI) (J : HJ), Both I x P → ∃ r I1 J1, fL_X10_touch_15 (nI n) f (nI k) I J = some (r, I1, J1) ∧ toR (fun v => evB P n (ud x 2 (x 2 + v))) k r ∧ (∀ a j, ¬ Scr a j → I1 a j = I a j) ∧ ∀ a, a ≠ 53 → a ≠ 56 → a ≠ 98 → J1 a = J a := by
  intro d
  induction d with
  | zero =>
    intro k f hk hf I J hB
    obtain ⟨f, rfl⟩ : ∃ g, f = g + 1 := ⟨f - 1, by omega⟩
    refine ⟨-3, I, J, ?_, Or.inr ⟨fun y q1 q2 => by omega, rfl⟩, fun _ _ _ => rfl, fun _ _ _ _ => rfl⟩
    show fLB_X10_touch_15 (nI n) _ (nI k) I J = some (-3, I, J)
    unfold fLB_X10_touch_15
    rw [N_30, if_pos (by rw [lt_nn (by omega) (by omega)]; omega)]
  | succ d ih =>
    intro k f hk hf I J hB
    obtain ⟨f, rfl⟩ : ∃ g, f = g + 1 := ⟨f - 1, by omega⟩
    obtain ⟨r1, I1, J1, a1, a2, a3, a4⟩ := ceven_s (v := nI k) hn I J hB
    rcases a2 with ⟨e1, e2⟩ | ⟨e1, e2⟩
    · refine ⟨nI 100 + nI k, I1, J1, ?_, Or.inl ⟨k, Nat.le_refl _, by omega, fun y q1 q2 => by omega, Or.inl ⟨e2, rfl⟩⟩, a3, a4⟩
      show fLB_X10_touch_15 (nI n) (fL_X10_touch_15 (nI n) f) (nI k) I J = _
      unfold fLB_X10_touch_15
      rw [N_30, if_neg (by rw [lt_nn (by omega) (by omega)]; omega), a1, bd3_s, e1, if_neg (by decide)]
      rfl
    · obtain ⟨r2, I2, J2, b1, b2, b3, b4⟩ := ceven_s (v := -nI k) hn I1 J1 (hB.of a3)
      have c3 : ∀ a j, ¬ Scr a j → I2 a j = I a j := fun a j hs => (b3 a j hs).trans (a3 a j hs)
      have c4 : ∀ a, a ≠ 53 → a ≠ 56 → a ≠ 98 → J2 a = J a := fun a q1 q2 q3 => (b4 a q1 q2 q3).trans (a4 a q1 q2 q3)
      rcases b2 with ⟨g1, g2⟩ | ⟨g1, g2⟩
      · refine ⟨nI 100 - nI k, I2, J2, ?_, Or.inl ⟨k, Nat.le_refl _, by omega, fun y q1 q2 => by omega, Or.inr ⟨e2, g2, rfl⟩⟩, c3, c4⟩
        show fLB_X10_touch_15 (nI n) (fL_X10_touch_15 (nI n) f) (nI k) I J = _
        unfold fLB_X10_touch_15
        rw [N_30, if_neg (by rw [lt_nn (by omega) (by omega)]; omega), a1, bd3_s, e1, if_pos rfl, b1, bd3_s, g1, if_neg (by decide)]
        rfl
      · obtain ⟨r, I3, J3, k1, k2, k3, k4⟩ := ih (k + 1) f (by omega) (by omega) I2 J2 (hB.of c3)
        refine ⟨r, I3, J3, ?_, k2.st e2 g2, fun a j hs => (k3 a j hs).trans (c3 a j hs), fun a q1 q2 q3 => (k4 a q1 q2 q3).trans (c4 a q1 q2 q3)⟩
        show fLB_X10_touch_15 (nI n) (fL_X10_touch_15 (nI n) f) (nI k) I J = _
        unfold fLB_X10_touch_15
        rw [N_30, if_neg (by rw [lt_nn (by omega) (by omega)]; omega), a1, bd3_s, e1, if_pos rfl, b1, bd3_s, g1, if_pos rfl, nI_1, nm_s]
        exact k1
theorem mtou_s {P : Pg} {x : Nat → Int32} {n : Nat} (hn : n ≤ 400) : ∀ d k f, k + d = 31 → d < f → ∀ (I : HI) (J : HJ), Both I x P → ∃ r I1 J1, fL_X11_touch_16 (nI n) f (nI k) I J = some (r, I1, J1) ∧ toR (fun v => evB P n (ud x 2 (x 2 + v))) k r ∧ (∀ a j, ¬ Scr a j → I1 a j = I a j) ∧ ∀ a, a ≠ 53 → a ≠ 56 → a ≠ 98 → J1 a = J a := by
  intro d
  induction d with
  | zero =>
    intro k f hk hf I J hB
    obtain ⟨f, rfl⟩ : ∃ g, f = g + 1 := ⟨f - 1, by omega⟩
    refine ⟨-3, I, J, ?_, Or.inr ⟨fun y q1 q2 => by omega, rfl⟩, fun _ _ _ => rfl, fun _ _ _ _ => rfl⟩
    show fLB_X11_touch_16 (nI n) _ (nI k) I J = some (-3, I, J)
    unfold fLB_X11_touch_16
    rw [N_30, if_pos (by rw [lt_nn (by omega) (by omega)]; omega)]
  | succ d ih =>
    intro k f hk hf I J hB
    obtain ⟨f, rfl⟩ : ∃ g, f = g + 1 := ⟨f - 1, by omega⟩
    obtain ⟨r1, I1, J1, a1, a2, a3, a4⟩ := meven_s (v := nI k) hn I J hB
    rcases a2 with ⟨e1, e2⟩ | ⟨e1, e2⟩
    · refine ⟨nI 100 + nI k, I1, J1, ?_, Or.inl ⟨k, Nat.le_refl _, by omega, fun y q1 q2 => by omega, Or.inl ⟨e2, rfl⟩⟩, a3, a4⟩
      show fLB_X11_touch_16 (nI n) (fL_X11_touch_16 (nI n) f) (nI k) I J = _
      unfold fLB_X11_touch_16
      rw [N_30, if_neg (by rw [lt_nn (by omega) (by omega)]; omega), a1, bd3_s, e1, if_neg (by decide)]
      rfl
    · by_cases k0 : k = 0
      · obtain ⟨r, I3, J3, k1, k2, k3, k4⟩ := ih (k + 1) f (by omega) (by omega) I1 J1 (hB.of a3)
        refine ⟨r, I3, J3, ?_, k2.st e2 (by rw [k0] at e2 ⊢; exact e2), fun a j hs => (k3 a j hs).trans (a3 a j hs), fun a q1 q2 q3 => (k4 a q1 q2 q3).trans (a4 a q1 q2 q3)⟩
        show fLB_X11_touch_16 (nI n) (fL_X11_touch_16 (nI n) f) (nI k) I J = _
        unfold fLB_X11_touch_16 fB_X11_touch_56
        rw [N_30, if_neg (by rw [lt_nn (by omega) (by omega)]; omega), a1, bd3_s, e1, if_pos rfl, if_pos (by rw [N_0, le_nn (by omega) (by omega)]; omega), nI_1, nm_s]
        exact k1
      · obtain ⟨r2, I2, J2, b1, b2, b3, b4⟩ := meven_s (v := -nI k) hn I1 J1 (hB.of a3)
        have c3 : ∀ a j, ¬ Scr a j → I2 a j = I a j := fun a j hs => (b3 a j hs).trans (a3 a j hs)
        have c4 : ∀ a, a ≠ 53 → a ≠ 56 → a ≠ 98 → J2 a = J a := fun a q1 q2 q3 => (b4 a q1 q2 q3).trans (a4 a q1 q2 q3)
        have ez : (0 : Int32) - nI k = -nI k := Int32.zero_sub _
        rcases b2 with ⟨g1, g2⟩ | ⟨g1, g2⟩
        · refine ⟨nI 100 - nI k, I2, J2, ?_, Or.inl ⟨k, Nat.le_refl _, by omega, fun y q1 q2 => by omega, Or.inr ⟨e2, g2, rfl⟩⟩, c3, c4⟩
          show fLB_X11_touch_16 (nI n) (fL_X11_touch_16 (nI n) f) (nI k) I J = _
          unfold fLB_X11_touch_16
          rw [N_30, if_neg (by rw [lt_nn (by omega) (by omega)]; omega), a1, bd3_s, e1, if_pos rfl, if_neg (show ¬ nI k ≤ (0 : Int32) by rw [N_0, le_nn (by omega) (by omega)]; omega), ez, b1, bd3_s, g1, if_neg (by decide)]
          rfl
        · obtain ⟨r, I3, J3, k1, k2, k3, k4⟩ := ih (k + 1) f (by omega) (by omega) I2 J2 (hB.of c3)
          refine ⟨r, I3, J3, ?_, k2.st e2 g2, fun a j hs => (k3 a j hs).trans (c3 a j hs), fun a q1 q2 q3 => (k4 a q1 q2 q3).trans (c4 a q1 q2 q3)⟩
          show fLB_X11_touch_16 (nI n) (fL_X11_touch_16 (nI n) f) (nI k) I J = _
          unfold fLB_X11_touch_16 fB_X11_touch_56
          rw [N_30, if_neg (by rw [lt_nn (by omega) (by omega)]; omega), a1, bd3_s, e1, if_pos rfl, if_neg (show ¬ nI k ≤ (0 : Int32) by rw [N_0, le_nn (by omega) (by omega)]; omega), ez, b1, bd3_s, g1, if_pos rfl, nI_1, nm_s]
          exact k1
theorem rng_lo {a : Int32} {l M : Nat} (hM : M < 2147483648) (hl : l < 2147483648) (h : nI l ≤ a ∧ a ≤ nI M) : ∃ n, l ≤ n ∧ n ≤ M ∧ a = nI n := by
  have h1 := i_le.mp h.1
  rw [i_nat _ hl] at h1
  obtain ⟨n, hn, e⟩ := rng hM ⟨by rw [i_le]; have e0 : (0 : Int32).toInt = 0 := by decide
                                  omega, h.2⟩
  refine ⟨n, ?_, hn, e⟩
  rw [e, i_nat _ (by omega)] at h1
  omega
theorem sim_touch {N : Nat} {I : HI} {J : HJ} (hN : N ≤ 1000000) (hR : Rel N I J) (a0 : Int32) : ∃ (r : Int32) (I1 : HI) (J1 : HJ) (I2 : HI) (J2 : HJ), f_X10_touch a0 I J = some (r, I1, J1) ∧ f_X11_touch a0 I1 J1 = some (r, I2, J2) ∧ Rel (N + 400) I2 J2 := by
  have hM := hR.mono (Nat.le_add_right N 400)
  by_cases h : nI 1 ≤ a0 ∧ a0 ≤ nI 400
  · obtain ⟨n, hn1, hn, rfl⟩ := rng_lo (by omega) (by omega) h
    have hB := both_of hR
    obtain ⟨r, I1, J1, a1, a2, a3, a4⟩ := ctou_s hn 31 0 FU rfl (FU_ge (by omega)) I J hB
    obtain ⟨r2, I2, J2, b1, b2, b3, b4⟩ := mtou_s hn 31 0 FU rfl (FU_ge (by omega)) I1 J1 (hB.of a3)
    have e := a2.uniq b2
    subst e
    refine ⟨r, I1, J1, I2, J2, ?_, ?_, hR.scr (fun a j hs => (b3 a j hs).trans (a3 a j hs)) (fun a q1 q2 q3 => (b4 a q1 q2 q3).trans (a4 a q1 q2 q3))⟩
    · unfold f_X10_touch
      rw [wi_k N_1 N_400, bd1_s, ite_bI, if_pos h]
      exact a1
    · unfold f_X11_touch
      rw [L_1, L_400, in_x, bd1_s, ite_bI, if_pos h]
      exact b1
  · refine ⟨-1, I, J, I, J, ?_, ?_, hM⟩
    · unfold f_X10_touch
      rw [wi_k N_1 N_400, bd1_s, ite_bI, if_neg h]
    · unfold f_X11_touch
      rw [L_1, L_400, in_x, bd1_s, ite_bI, if_neg h]

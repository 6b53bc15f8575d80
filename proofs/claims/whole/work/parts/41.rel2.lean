theorem ProofR.of {I I2 : HI} (h : ProofR I) (h1 : I2 70 1 = I 70 1) (h2 : I2 98 29 = I 98 29) (h3 : ∀ i j, i < 12 → j < 2 → I2 (72 + i) j = I (72 + i) j) (h4 : ∀ j, j < 24 → I2 115 j = I 115 j) : ProofR I2 := by
  obtain ⟨m, a0, a1, a2, a3⟩ := h
  refine ⟨m, a0, by rw [h1]; exact a1, by rw [h2]; exact a2, fun i hi => ?_⟩
  rw [h3 _ _ (by omega) (by omega), h3 _ _ (by omega) (by omega), h4 _ (by omega), h4 _ (by omega)]
  exact a3 i hi
theorem SheetR.of {I I2 : HI} (h : SheetR I) (h1 : ∀ k, k < 4 → I2 85 k = I 85 k ∧ I2 86 k = I 86 k ∧ I2 116 k = I 116 k ∧ I2 117 k = I 117 k) (h2 : ∀ k i, k < 4 → i < 40 → I2 (88 + k) i = I (88 + k) i) (h3 : ∀ j, j < 160 → I2 118 j = I 118 j) : SheetR I2 := by
  intro k hk
  obtain ⟨c, a0, a1, a2, a3, a4, a5, a6, a7⟩ := h k hk
  obtain ⟨b1, b2, b3, b4⟩ := h1 k hk
  refine ⟨c, a0, by rw [b1, b3]; exact a1, by rw [b2]; exact a2, by rw [b4]; exact a3, by rw [b3]; exact a4, by rw [b3]; exact a5, by rw [b3]; exact a6, fun i hi => ?_⟩
  rw [h2 _ _ hk (by omega), h3 _ (by omega)]
  exact a7 i hi
theorem ShelfR.of {I I2 : HI} (h : ShelfR I) (h1 : ∀ k, k < 4 → I2 93 k = I 93 k ∧ I2 94 k = I 94 k ∧ I2 95 k = I 95 k ∧ I2 119 k = I 119 k ∧ I2 120 k = I 120 k ∧ I2 121 k = I 121 k) : ShelfR I2 := by
  intro k hk
  obtain ⟨b1, b2, b3, b4, b5, b6⟩ := h1 k hk
  rw [b1, b2, b3, b4, b5, b6]
  exact h k hk
theorem ActR.of {I I2 : HI} (h : ActR I) (h1 : I2 96 1 = I 96 1) (h2 : I2 98 40 = I 98 40) (h3 : ∀ i, i < 30 → I2 97 i = I 97 i ∧ I2 122 i = I 122 i) : ActR I2 := by
  obtain ⟨m, a0, a1, a2, a3⟩ := h
  refine ⟨m, a0, by rw [h1]; exact a1, by rw [h2]; exact a2, fun i hi => ?_⟩
  rw [(h3 i (by omega)).1, (h3 i (by omega)).2]
  exact a3 i hi
theorem TapeR.of {I I2 : HI} (h : TapeR I) (h1 : I2 59 2 = I 59 2) (h2 : I2 98 19 = I 98 19) (h3 : ∀ i, i < 200 → I2 69 i = I 69 i ∧ I2 110 i = I 110 i) : TapeR I2 := by
  obtain ⟨m, a0, a1, a2, a3⟩ := h
  refine ⟨m, a0, by rw [h1]; exact a1, by rw [h2]; exact a2, fun i hi => ?_⟩
  rw [(h3 i (by omega)).1, (h3 i (by omega)).2]
  exact a3 i hi
theorem KeptR.of {N : Nat} {I I2 : HI} {J J2 : HJ} (h : KeptR N I J) (h1 : I2 0 6 = I 0 6) (h2 : I2 98 4 = I 98 4) (h3 : ∀ a i, 27 ≤ a → a < 53 → a ≠ 38 → I2 a i = I a i) (h4 : I2 100 = I 100) (h5 : J2 27 = J 27) (h6 : J2 102 = J 102) (h7 : I2 103 = I 103) : KeptR N I2 J2 := by
  obtain ⟨a1, a2⟩ := h
  refine ⟨by rw [h1, h2]; exact a1, ?_⟩
  rcases a2 with q | ⟨q, t, l, r⟩
  · exact Or.inl (by rw [h1]; exact q)
  · refine Or.inr ⟨by rw [h1]; exact q, t.of (fun j _ _ => h3 _ _ (by omega) (by omega) (by omega)) (h3 _ _ (by omega) (by omega) (by omega)) (fun i _ => h3 _ _ (by omega) (by omega) (by omega)) (fun j _ _ _ => by rw [h4]) h5 h6, l.of (fun q i hq _ => h3 _ _ (by omega) (by omega) (by omega)) (fun q _ => h3 _ _ (by omega) (by omega) (by omega)) (fun q _ => h3 _ _ (by omega) (by omega) (by omega)) (by rw [h4]) (fun j _ _ => by rw [h4]) (fun i _ => by rw [h7]), r.of (h3 _ _ (by omega) (by omega) (by omega)) (fun a i ha hb _ => h3 _ _ (by omega) (by omega) (by omega)) (fun j _ _ => by rw [h4]) (by rw [h4])⟩
theorem KeptR.mono {N N2 : Nat} {I : HI} {J : HJ} (h : KeptR N I J) (hN : N ≤ N2) : KeptR N2 I J := ⟨h.1, h.2.imp id (fun q => ⟨q.1, q.2.1.mono hN, q.2.2⟩)⟩
theorem Rel.mono {N N2 : Nat} {I : HI} {J : HJ} (h : Rel N I J) (hN : N ≤ N2) : Rel N2 I J := ⟨h.1.mono hN, h.2.1, h.2.2.1, h.2.2.2.1.mono hN, h.2.2.2.2⟩
/-- what no part of the relation reads -/
def Scr (a j : Nat) : Prop := a = 12 ∨ a = 38 ∨ (53 ≤ a ∧ a ≤ 58) ∨ (60 ≤ a ∧ a ≤ 68) ∨ (a = 59 ∧ j ≠ 2) ∨ (106 ≤ a ∧ a ≤ 109) ∨ (111 ≤ a ∧ a ≤ 114) ∨ (a = 98 ∧ j ≠ 4 ∧ j ≠ 19 ∧ j ≠ 29 ∧ j ≠ 40) ∨ (a = 96 ∧ j ≠ 1)
theorem Rel.of {N : Nat} {I I2 : HI} {J J2 : HJ} (h : Rel N I J) (hI : ∀ a j, ¬ Scr a j → I2 a j = I a j) (hJ : ∀ a, a ≠ 53 → a ≠ 56 → a ≠ 98 → J2 a = J a) : Rel N I2 J2 := by
  have e : ∀ a, a ≠ 12 → a ≠ 38 → ¬ (53 ≤ a ∧ a ≤ 68) → a ≠ 96 → a ≠ 98 → ¬ (106 ≤ a ∧ a ≤ 109) → ¬ (111 ≤ a ∧ a ≤ 114) → I2 a = I a := fun a _ _ _ _ _ _ _ => funext fun j => hI a j (by unfold Scr; omega)
  obtain ⟨t, l, r, k, p, s, f, c, x, d⟩ := h
  have e99 := e 99 (by omega) (by omega) (by omega) (by omega) (by omega) (by omega) (by omega)
  refine ⟨t.of (fun j _ _ => hI _ _ (by unfold Scr; omega)) (hI _ _ (by unfold Scr; omega)) (fun i _ => hI _ _ (by unfold Scr; omega)) (fun j _ _ _ => by rw [e99]) (hJ _ (by omega) (by omega) (by omega)) (hJ _ (by omega) (by omega) (by omega)),
    l.of (fun q i hq _ => hI _ _ (by unfold Scr; omega)) (fun q _ => hI _ _ (by unfold Scr; omega)) (fun q _ => hI _ _ (by unfold Scr; omega)) (by rw [e99]) (fun j _ _ => by rw [e99]) (fun i _ => hI _ _ (by unfold Scr; omega)),
    r.of (hI _ _ (by unfold Scr; omega)) (fun a i ha hb _ => hI _ _ (by unfold Scr; omega)) (fun j _ _ => by rw [e99]) (by rw [e99]),
    k.of (hI _ _ (by unfold Scr; omega)) (hI _ _ (by unfold Scr; omega)) (fun a i ha hb hc => hI _ _ (by unfold Scr; omega)) (e 100 (by omega) (by omega) (by omega) (by omega) (by omega) (by omega) (by omega)) (hJ _ (by omega) (by omega) (by omega)) (hJ _ (by omega) (by omega) (by omega)) (e 103 (by omega) (by omega) (by omega) (by omega) (by omega) (by omega) (by omega)),
    p.of (hI _ _ (by unfold Scr; omega)) (hI _ _ (by unfold Scr; omega)) (fun i j hi _ => hI _ _ (by unfold Scr; omega)) (fun j _ => hI _ _ (by unfold Scr; omega)),
    s.of (fun k _ => ⟨hI _ _ (by unfold Scr; omega), hI _ _ (by unfold Scr; omega), hI _ _ (by unfold Scr; omega), hI _ _ (by unfold Scr; omega)⟩) (fun k i hk _ => hI _ _ (by unfold Scr; omega)) (fun j _ => hI _ _ (by unfold Scr; omega)),
    f.of (fun k _ => ⟨hI _ _ (by unfold Scr; omega), hI _ _ (by unfold Scr; omega), hI _ _ (by unfold Scr; omega), hI _ _ (by unfold Scr; omega), hI _ _ (by unfold Scr; omega), hI _ _ (by unfold Scr; omega)⟩),
    c.of (hI _ _ (by unfold Scr; omega)) (hI _ _ (by unfold Scr; omega)) (fun i _ => ⟨hI _ _ (by unfold Scr; omega), hI _ _ (by unfold Scr; omega)⟩),
    x.of (hI _ _ (by unfold Scr; omega)) (hI _ _ (by unfold Scr; omega)) (fun i _ => ⟨hI _ _ (by unfold Scr; omega), hI _ _ (by unfold Scr; omega)⟩), ?_⟩
  have e103 := e 103 (by omega) (by omega) (by omega) (by omega) (by omega) (by omega) (by omega)
  have e104 := e 104 (by omega) (by omega) (by omega) (by omega) (by omega) (by omega) (by omega)
  have e105 := e 105 (by omega) (by omega) (by omega) (by omega) (by omega) (by omega) (by omega)
  exact ⟨e103.trans d.1, e104.trans d.2.1, e105.trans d.2.2⟩
theorem rel_0 : Rel 0 I0 (fun _ _ => 0) := by
  refine ⟨⟨by decide +kernel, ⟨0, by decide, by decide +kernel, by decide +kernel, fun i hi => by omega⟩, ⟨rfl, rfl, by decide +kernel⟩, by decide +kernel, by decide +kernel, by decide +kernel⟩, ⟨fun q hq => ?_, by decide +kernel, by decide +kernel⟩, ⟨0, by decide, by decide +kernel, by decide +kernel, fun r hr => by omega⟩, ⟨by decide +kernel, Or.inl (by decide +kernel)⟩, ⟨0, by decide, by decide +kernel, by decide +kernel, fun i hi => by omega⟩, fun k hk => ⟨0, by omega, ?_⟩, fun k hk => ?_, ⟨0, by decide, by decide +kernel, by decide +kernel, fun i hi => by omega⟩, ⟨0, by decide, by decide +kernel, by decide +kernel, fun i hi => by omega⟩, ⟨rfl, rfl, rfl⟩⟩
  · have hq2 : q = 0 ∨ q = 1 ∨ q = 2 ∨ q = 3 := by omega
    rcases hq2 with rfl | rfl | rfl | rfl
    · refine ⟨1, 0, by decide, by decide +kernel, ⟨0, rfl, Or.inl ⟨Or.inr (by decide +kernel), by decide, rfl⟩⟩, by decide, by decide +kernel, by decide +kernel, by decide +kernel, by decide +kernel⟩
    · refine ⟨3, 1, by decide, by decide +kernel, ⟨2, ⟨1, ⟨0, rfl, Or.inl ⟨Or.inr (by decide +kernel), by decide, rfl⟩⟩, Or.inl ⟨Or.inl (by decide +kernel), by decide, rfl⟩⟩, Or.inr (Or.inr ⟨by unfold isSg; decide +kernel, by decide, by decide, rfl⟩)⟩, by decide, by decide +kernel, by decide +kernel, by decide +kernel, by decide +kernel⟩
    · refine ⟨3, 4, by decide, by decide +kernel, ⟨2, ⟨1, ⟨0, rfl, Or.inl ⟨Or.inr (by decide +kernel), by decide, rfl⟩⟩, Or.inl ⟨Or.inl (by decide +kernel), by decide, rfl⟩⟩, Or.inr (Or.inr ⟨by unfold isSg; decide +kernel, by decide, by decide, rfl⟩)⟩, by decide, by decide +kernel, by decide +kernel, by decide +kernel, by decide +kernel⟩
    · refine ⟨5, 7, by decide, by decide +kernel, ⟨2, ⟨1, ⟨2, ⟨1, ⟨0, rfl, Or.inl ⟨Or.inr (by decide +kernel), by decide, rfl⟩⟩, Or.inl ⟨Or.inl (by decide +kernel), by decide, rfl⟩⟩, Or.inr (Or.inr ⟨by unfold isSg; decide +kernel, by decide, by decide, rfl⟩)⟩, Or.inl ⟨Or.inr (by decide +kernel), by decide, rfl⟩⟩, Or.inr (Or.inr ⟨by unfold isSg; decide +kernel, by decide, by decide, rfl⟩)⟩, by decide, by decide +kernel, by decide +kernel, by decide +kernel, by decide +kernel⟩
  · have hq2 : k = 0 ∨ k = 1 ∨ k = 2 ∨ k = 3 := by omega
    rcases hq2 with rfl | rfl | rfl | rfl <;> exact ⟨by decide +kernel, by decide +kernel, by decide +kernel, by decide +kernel, by decide +kernel, fun _ => rfl, fun i hi => by omega⟩
  · have hq2 : k = 0 ∨ k = 1 ∨ k = 2 ∨ k = 3 := by omega
    rcases hq2 with rfl | rfl | rfl | rfl <;> exact ⟨by decide +kernel, Or.inr (Or.inr (Or.inr (by decide +kernel)))⟩

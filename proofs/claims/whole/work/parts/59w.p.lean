/-! the words of a text -/
def MW (b : Nat → Int32) (f t : Nat) (w : List Int32) : Prop := t = f + w.length ∧ ∀ j, j < w.length → b (f + j) = w.getD j 0
def LK (b : Nat → Int32) (f t : Nat) (w : List Int32) (j : Nat) : Prop := ∀ i, i < j → f + i < t ∧ b (f + i) = w.getD i 0
theorem word_l {a0 o k N f t : Nat} {w : List Int32} {b : Nat → Int32} {I : HI} {J : HJ} (hN : N ≤ 200) (htN : t ≤ N) (hft : f ≤ t) (ho : o ≤ 100) (hk : k ≤ 100) (hw : w.length ≤ 10) (hb : ByC I b N) (h5 : I 59 5 = nI f) (h6 : I 59 6 = nI t) (hlen : o + w.length < lenJS.getD a0 0) (hl2 : lenJS.getD a0 0 ≤ 1000) (hch : ∀ j, j < w.length → chJS a0 (nI (o + j)) = w.getD j 0 ∧ ¬ w.getD j 0 = 32) (hbl : chJS a0 (nI (o + w.length)) = 32) (F : Nat) : (MW b f t w → fL_X8_placeAmong_25 a0 (F + (w.length + 1)) (nI k) (nI f) 1 (nI o) I J = some (nI k)) ∧ (¬ MW b f t w → fL_X8_placeAmong_25 a0 (F + (w.length + 1)) (nI k) (nI f) 1 (nI o) I J = fL_X8_placeAmong_25 a0 F (nI (k + 1)) (nI f) 1 (nI (o + w.length + 1)) I J) := by
  have inner : ∀ d j, j + d = w.length → ∀ x : Int32, Tr x (LK b f t w j) → (MW b f t w → fL_X8_placeAmong_25 a0 (F + (d + 1)) (nI k) (nI (f + j)) x (nI (o + j)) I J = some (nI k)) ∧ (¬ MW b f t w → fL_X8_placeAmong_25 a0 (F + (d + 1)) (nI k) (nI (f + j)) x (nI (o + j)) I J = fL_X8_placeAmong_25 a0 F (nI (k + 1)) (nI f) 1 (nI (o + w.length + 1)) I J) := by
    intro d
    induction d with
    | zero =>
      intro j hj x hx
      have ej : j = w.length := by omega
      subst ej
      have pre : fL_X8_placeAmong_25 a0 (F + (0 + 1)) (nI k) (nI (f + w.length)) x (nI (o + w.length)) I J = if x = 0 then fL_X8_placeAmong_25 a0 F (nI (k + 1)) (nI f) 1 (nI (o + w.length + 1)) I J else (if nI (f + w.length) = nI t then some (nI k) else fL_X8_placeAmong_25 a0 F (nI (k + 1)) (nI f) 1 (nI (o + w.length + 1)) I J) := by
        show fLB_X8_placeAmong_25 a0 (fL_X8_placeAmong_25 a0 F) (nI k) (nI (f + w.length)) x (nI (o + w.length)) I J = _
        unfold fLB_X8_placeAmong_25 fB_X8_placeAmong_112 fB_X8_placeAmong_123
        rw [if_neg (by rw [le_nn (by omega) (by omega)]; omega), if_pos (vin_nI (by omega) (by omega)), hbl, nm_s, if_pos rfl, h5, h6, nI_1, nI_1, nm_s, nm_s, nm_s]
      rw [pre]
      rcases hx with ⟨x1, x2⟩ | ⟨x1, x2⟩
      · rw [x1, if_neg (by decide)]
        refine ⟨fun h => ?_, fun h => ?_⟩
        · rw [if_pos (by rw [h.1])]
        · rw [if_neg (fun q => h ⟨?_, fun j hj => (x2 j hj).2⟩)]
          rw [eq_nn (by omega) (by omega)] at q
          omega
      · rw [x1, if_pos rfl]
        exact ⟨fun h => absurd (fun i hi => ⟨by have := h.1; omega, h.2 i hi⟩) x2, fun h => rfl⟩
    | succ d ih =>
      intro j hj x hx
      have hjl : j < w.length := by omega
      obtain ⟨c1, c2⟩ := hch j hjl
      -- one letter on
      have step : ∃ y, Tr y (LK b f t w (j + 1)) ∧ fL_X8_placeAmong_25 a0 (F + (d + 1 + 1)) (nI k) (nI (f + j)) x (nI (o + j)) I J = fL_X8_placeAmong_25 a0 (F + (d + 1)) (nI k) (nI (f + (j + 1))) y (nI (o + (j + 1))) I J := by
        have lkn : ¬ (LK b f t w j ∧ f + j < t ∧ b (f + j) = w.getD j 0) → ¬ LK b f t w (j + 1) := fun h q => h ⟨fun i hi => q i (by omega), (q j (by omega)).1, (q j (by omega)).2⟩
        show ∃ y, Tr y (LK b f t w (j + 1)) ∧ fLB_X8_placeAmong_25 a0 (fL_X8_placeAmong_25 a0 (F + (d + 1))) (nI k) (nI (f + j)) x (nI (o + j)) I J = _
        unfold fLB_X8_placeAmong_25 fB_X8_placeAmong_88 fB_X8_placeAmong_89 fB_X8_placeAmong_123
        rw [if_neg (by rw [le_nn (by omega) (by omega)]; omega), if_pos (vin_nI (by omega) (by omega)), c1, nm_s, if_neg c2, nI_1, nI_1, nm_s, nm_s, nm_s, nm_s, h6]
        rcases hx with ⟨x1, x2⟩ | ⟨x1, x2⟩
        · rw [x1, if_neg (show ¬ (1 : Int32) = 0 by decide), if_neg (show ¬ nI (f + j) < 0 by rw [N_0, lt_nn (by omega) (by omega)]; omega)]
          by_cases q1 : t ≤ f + j
          · exact ⟨0, Or.inr ⟨rfl, lkn (fun q => by have := q.2.1; omega)⟩, by rw [if_pos (by rw [le_nn (by omega) (by omega)]; omega)]; rfl⟩
          · rw [if_neg (show ¬ nI t ≤ nI (f + j) by rw [le_nn (by omega) (by omega)]; omega), if_neg (show ¬ 200 ≤ nI (f + j) by rw [N_200, le_nn (by omega) (by omega)]; omega), if_pos (vin_nI (by omega) (by omega)), cl_nI (by omega), hb.2 _ (by omega)]
            by_cases q2 : b (f + j) = w.getD j 0
            · exact ⟨1, Or.inl ⟨rfl, fun i hi => by
                by_cases e : i = j
                · rw [e]; exact ⟨by omega, q2⟩
                · exact x2 i (by omega)⟩, by rw [if_pos q2]; rfl⟩
            · exact ⟨0, Or.inr ⟨rfl, lkn (fun q => q2 q.2.2)⟩, by rw [if_neg q2]; rfl⟩
        · exact ⟨0, Or.inr ⟨rfl, lkn (fun q => x2 q.1)⟩, by rw [x1, if_pos rfl]; rfl⟩
      obtain ⟨y, y1, y2⟩ := step
      obtain ⟨g1, g2⟩ := ih (j + 1) (by omega) y y1
      exact ⟨fun h => y2.trans (g1 h), fun h => y2.trans (g2 h)⟩
  exact inner w.length 0 (by omega) 1 (Or.inl ⟨rfl, fun i hi => absurd hi (Nat.not_lt_zero i)⟩)
theorem misAt {b : Nat → Int32} {N f k : Nat} {v : Int32} {I : HI} {J : HJ} (hN : N ≤ 200) (hk : k ≤ 10) (hf : f ≤ N) (hb : ByM I b N) (h : I 98 20 = nI f) (hv : ¬ v = 0) : ∃ r, f_X11_isAt (nI k) v I J = some r ∧ Tr r (bat b N (f + k) = v) := by
  unfold f_X11_isAt fB_X11_isAt_18
  rw [if_neg hv, h, nI_add, mby hN hb (by omega), bd1_s]
  by_cases q : bat b N (f + k) = v
  · exact ⟨1, by rw [if_pos q], Or.inl ⟨rfl, q⟩⟩
  · exact ⟨0, by rw [if_neg q], Or.inr ⟨rfl, q⟩⟩
theorem misAt0 {k : Int32} {I : HI} {J : HJ} : f_X11_isAt k 0 I J = some 1 := by
  unfold f_X11_isAt fB_X11_isAt_18
  rw [if_pos rfl]
theorem misn4 {b : Nat → Int32} {N f t : Nat} {w0 w1 w2 w3 : Int32} {I : HI} {J : HJ} (hN : N ≤ 200) (hft : f ≤ t) (htN : t ≤ N) (hb : ByM I b N) (h5 : I 98 20 = nI f) (h6 : I 98 21 = nI t) (z0 : ¬ w0 = 0) (z1 : ¬ w1 = 0) (z2 : ¬ w2 = 0) (z3 : ¬ w3 = 0) : ∃ r, f_X11_isName w0 w1 w2 w3 0 0 I J = some r ∧ Tr r (MW b f t [w0, w1, w2, w3]) := by
  have mk : t = f + 4 → b (f + 0) = w0 → b (f + 1) = w1 → b (f + 2) = w2 → b (f + 3) = w3 → MW b f t [w0, w1, w2, w3] := fun h e0 e1 e2 e3 => ⟨h, fun j hj => by
    have hj2 : j < 4 := hj
    have hj3 : j = 0 ∨ j = 1 ∨ j = 2 ∨ j = 3 := by omega
    rcases hj3 with rfl | rfl | rfl | rfl <;> assumption⟩
  unfold f_X11_isName fB_X11_isName_20
  rw [if_pos rfl, h5, h6, sb _ _ hft]
  by_cases hl : t = f + 4
  · rw [if_pos (by rw [show t - f = 4 by omega]; rfl)]
    obtain ⟨r0, a0, c0⟩ := misAt (k := 0) (J := J) hN (by omega) (by omega) hb h5 z0
    rw [bat_i (by omega)] at c0
    obtain ⟨r1, a1, c1⟩ := misAt (k := 1) (J := J) hN (by omega) (by omega) hb h5 z1
    rw [bat_i (by omega)] at c1
    obtain ⟨r2, a2, c2⟩ := misAt (k := 2) (J := J) hN (by omega) (by omega) hb h5 z2
    rw [bat_i (by omega)] at c2
    obtain ⟨r3, a3, c3⟩ := misAt (k := 3) (J := J) hN (by omega) (by omega) hb h5 z3
    rw [bat_i (by omega)] at c3
    rw [show f_X11_isAt 0 w0 I J = some r0 from a0, show f_X11_isAt 1 w1 I J = some r1 from a1, show f_X11_isAt 2 w2 I J = some r2 from a2, show f_X11_isAt 3 w3 I J = some r3 from a3]
    rw [misAt0, misAt0]
    simp only [bd1_s]
    rcases c0 with ⟨p0, q0⟩ | ⟨p0, q0⟩
    case inr => exact ⟨0, by rw [p0, if_pos rfl], Or.inr ⟨rfl, fun q => q0 (q.2 0 (show 0 < 4 by omega))⟩⟩
    rw [p0, if_neg (show ¬ (1 : Int32) = 0 by decide)]
    rcases c1 with ⟨p1, q1⟩ | ⟨p1, q1⟩
    case inr => exact ⟨0, by rw [p1, if_pos rfl], Or.inr ⟨rfl, fun q => q1 (q.2 1 (show 1 < 4 by omega))⟩⟩
    rw [p1, if_neg (show ¬ (1 : Int32) = 0 by decide)]
    rcases c2 with ⟨p2, q2⟩ | ⟨p2, q2⟩
    case inr => exact ⟨0, by rw [p2, if_pos rfl], Or.inr ⟨rfl, fun q => q2 (q.2 2 (show 2 < 4 by omega))⟩⟩
    rw [p2, if_neg (show ¬ (1 : Int32) = 0 by decide)]
    rcases c3 with ⟨p3, q3⟩ | ⟨p3, q3⟩
    case inr => exact ⟨0, by rw [p3, if_pos rfl], Or.inr ⟨rfl, fun q => q3 (q.2 3 (show 3 < 4 by omega))⟩⟩
    rw [p3, if_neg (show ¬ (1 : Int32) = 0 by decide)]
    exact ⟨1, by rw [if_neg (show ¬ (1 : Int32) = 0 by decide), if_neg (show ¬ (1 : Int32) = 0 by decide)], Or.inl ⟨rfl, mk hl q0 q1 q2 q3⟩⟩
  · refine ⟨0, by rw [if_neg (fun q => hl (by
      have q2 : nI (t - f) = nI 4 := q
      rw [eq_nn (by omega) (by omega)] at q2
      omega))], Or.inr ⟨rfl, fun q => hl q.1⟩⟩
theorem misn5 {b : Nat → Int32} {N f t : Nat} {w0 w1 w2 w3 w4 : Int32} {I : HI} {J : HJ} (hN : N ≤ 200) (hft : f ≤ t) (htN : t ≤ N) (hb : ByM I b N) (h5 : I 98 20 = nI f) (h6 : I 98 21 = nI t) (z0 : ¬ w0 = 0) (z1 : ¬ w1 = 0) (z2 : ¬ w2 = 0) (z3 : ¬ w3 = 0) (z4 : ¬ w4 = 0) : ∃ r, f_X11_isName w0 w1 w2 w3 w4 0 I J = some r ∧ Tr r (MW b f t [w0, w1, w2, w3, w4]) := by
  have mk : t = f + 5 → b (f + 0) = w0 → b (f + 1) = w1 → b (f + 2) = w2 → b (f + 3) = w3 → b (f + 4) = w4 → MW b f t [w0, w1, w2, w3, w4] := fun h e0 e1 e2 e3 e4 => ⟨h, fun j hj => by
    have hj2 : j < 5 := hj
    have hj3 : j = 0 ∨ j = 1 ∨ j = 2 ∨ j = 3 ∨ j = 4 := by omega
    rcases hj3 with rfl | rfl | rfl | rfl | rfl <;> assumption⟩
  unfold f_X11_isName fB_X11_isName_20
  rw [if_neg z4, if_pos rfl, h5, h6, sb _ _ hft]
  by_cases hl : t = f + 5
  · rw [if_pos (by rw [show t - f = 5 by omega]; rfl)]
    obtain ⟨r0, a0, c0⟩ := misAt (k := 0) (J := J) hN (by omega) (by omega) hb h5 z0
    rw [bat_i (by omega)] at c0
    obtain ⟨r1, a1, c1⟩ := misAt (k := 1) (J := J) hN (by omega) (by omega) hb h5 z1
    rw [bat_i (by omega)] at c1
    obtain ⟨r2, a2, c2⟩ := misAt (k := 2) (J := J) hN (by omega) (by omega) hb h5 z2
    rw [bat_i (by omega)] at c2
    obtain ⟨r3, a3, c3⟩ := misAt (k := 3) (J := J) hN (by omega) (by omega) hb h5 z3
    rw [bat_i (by omega)] at c3
    obtain ⟨r4, a4, c4⟩ := misAt (k := 4) (J := J) hN (by omega) (by omega) hb h5 z4
    rw [bat_i (by omega)] at c4
    rw [show f_X11_isAt 0 w0 I J = some r0 from a0, show f_X11_isAt 1 w1 I J = some r1 from a1, show f_X11_isAt 2 w2 I J = some r2 from a2, show f_X11_isAt 3 w3 I J = some r3 from a3, show f_X11_isAt 4 w4 I J = some r4 from a4]
    rw [misAt0]
    simp only [bd1_s]
    rcases c0 with ⟨p0, q0⟩ | ⟨p0, q0⟩
    case inr => exact ⟨0, by rw [p0, if_pos rfl], Or.inr ⟨rfl, fun q => q0 (q.2 0 (show 0 < 5 by omega))⟩⟩
    rw [p0, if_neg (show ¬ (1 : Int32) = 0 by decide)]
    rcases c1 with ⟨p1, q1⟩ | ⟨p1, q1⟩
    case inr => exact ⟨0, by rw [p1, if_pos rfl], Or.inr ⟨rfl, fun q => q1 (q.2 1 (show 1 < 5 by omega))⟩⟩
    rw [p1, if_neg (show ¬ (1 : Int32) = 0 by decide)]
    rcases c2 with ⟨p2, q2⟩ | ⟨p2, q2⟩
    case inr => exact ⟨0, by rw [p2, if_pos rfl], Or.inr ⟨rfl, fun q => q2 (q.2 2 (show 2 < 5 by omega))⟩⟩
    rw [p2, if_neg (show ¬ (1 : Int32) = 0 by decide)]
    rcases c3 with ⟨p3, q3⟩ | ⟨p3, q3⟩
    case inr => exact ⟨0, by rw [p3, if_pos rfl], Or.inr ⟨rfl, fun q => q3 (q.2 3 (show 3 < 5 by omega))⟩⟩
    rw [p3, if_neg (show ¬ (1 : Int32) = 0 by decide)]
    rcases c4 with ⟨p4, q4⟩ | ⟨p4, q4⟩
    case inr => exact ⟨0, by rw [p4, if_pos rfl], Or.inr ⟨rfl, fun q => q4 (q.2 4 (show 4 < 5 by omega))⟩⟩
    rw [p4, if_neg (show ¬ (1 : Int32) = 0 by decide)]
    exact ⟨1, by rw [if_neg (show ¬ (1 : Int32) = 0 by decide)], Or.inl ⟨rfl, mk hl q0 q1 q2 q3 q4⟩⟩
  · refine ⟨0, by rw [if_neg (fun q => hl (by
      have q2 : nI (t - f) = nI 5 := q
      rw [eq_nn (by omega) (by omega)] at q2
      omega))], Or.inr ⟨rfl, fun q => hl q.1⟩⟩
theorem misn6 {b : Nat → Int32} {N f t : Nat} {w0 w1 w2 w3 w4 w5 : Int32} {I : HI} {J : HJ} (hN : N ≤ 200) (hft : f ≤ t) (htN : t ≤ N) (hb : ByM I b N) (h5 : I 98 20 = nI f) (h6 : I 98 21 = nI t) (z0 : ¬ w0 = 0) (z1 : ¬ w1 = 0) (z2 : ¬ w2 = 0) (z3 : ¬ w3 = 0) (z4 : ¬ w4 = 0) (z5 : ¬ w5 = 0) : ∃ r, f_X11_isName w0 w1 w2 w3 w4 w5 I J = some r ∧ Tr r (MW b f t [w0, w1, w2, w3, w4, w5]) := by
  have mk : t = f + 6 → b (f + 0) = w0 → b (f + 1) = w1 → b (f + 2) = w2 → b (f + 3) = w3 → b (f + 4) = w4 → b (f + 5) = w5 → MW b f t [w0, w1, w2, w3, w4, w5] := fun h e0 e1 e2 e3 e4 e5 => ⟨h, fun j hj => by
    have hj2 : j < 6 := hj
    have hj3 : j = 0 ∨ j = 1 ∨ j = 2 ∨ j = 3 ∨ j = 4 ∨ j = 5 := by omega
    rcases hj3 with rfl | rfl | rfl | rfl | rfl | rfl <;> assumption⟩
  unfold f_X11_isName fB_X11_isName_20
  rw [if_neg z4, if_neg z5, h5, h6, sb _ _ hft]
  by_cases hl : t = f + 6
  · rw [if_pos (by rw [show t - f = 6 by omega]; rfl)]
    obtain ⟨r0, a0, c0⟩ := misAt (k := 0) (J := J) hN (by omega) (by omega) hb h5 z0
    rw [bat_i (by omega)] at c0
    obtain ⟨r1, a1, c1⟩ := misAt (k := 1) (J := J) hN (by omega) (by omega) hb h5 z1
    rw [bat_i (by omega)] at c1
    obtain ⟨r2, a2, c2⟩ := misAt (k := 2) (J := J) hN (by omega) (by omega) hb h5 z2
    rw [bat_i (by omega)] at c2
    obtain ⟨r3, a3, c3⟩ := misAt (k := 3) (J := J) hN (by omega) (by omega) hb h5 z3
    rw [bat_i (by omega)] at c3
    obtain ⟨r4, a4, c4⟩ := misAt (k := 4) (J := J) hN (by omega) (by omega) hb h5 z4
    rw [bat_i (by omega)] at c4
    obtain ⟨r5, a5, c5⟩ := misAt (k := 5) (J := J) hN (by omega) (by omega) hb h5 z5
    rw [bat_i (by omega)] at c5
    rw [show f_X11_isAt 0 w0 I J = some r0 from a0, show f_X11_isAt 1 w1 I J = some r1 from a1, show f_X11_isAt 2 w2 I J = some r2 from a2, show f_X11_isAt 3 w3 I J = some r3 from a3, show f_X11_isAt 4 w4 I J = some r4 from a4, show f_X11_isAt 5 w5 I J = some r5 from a5]
    simp only [bd1_s]
    rcases c0 with ⟨p0, q0⟩ | ⟨p0, q0⟩
    case inr => exact ⟨0, by rw [p0, if_pos rfl], Or.inr ⟨rfl, fun q => q0 (q.2 0 (show 0 < 6 by omega))⟩⟩
    rw [p0, if_neg (show ¬ (1 : Int32) = 0 by decide)]
    rcases c1 with ⟨p1, q1⟩ | ⟨p1, q1⟩
    case inr => exact ⟨0, by rw [p1, if_pos rfl], Or.inr ⟨rfl, fun q => q1 (q.2 1 (show 1 < 6 by omega))⟩⟩
    rw [p1, if_neg (show ¬ (1 : Int32) = 0 by decide)]
    rcases c2 with ⟨p2, q2⟩ | ⟨p2, q2⟩
    case inr => exact ⟨0, by rw [p2, if_pos rfl], Or.inr ⟨rfl, fun q => q2 (q.2 2 (show 2 < 6 by omega))⟩⟩
    rw [p2, if_neg (show ¬ (1 : Int32) = 0 by decide)]
    rcases c3 with ⟨p3, q3⟩ | ⟨p3, q3⟩
    case inr => exact ⟨0, by rw [p3, if_pos rfl], Or.inr ⟨rfl, fun q => q3 (q.2 3 (show 3 < 6 by omega))⟩⟩
    rw [p3, if_neg (show ¬ (1 : Int32) = 0 by decide)]
    rcases c4 with ⟨p4, q4⟩ | ⟨p4, q4⟩
    case inr => exact ⟨0, by rw [p4, if_pos rfl], Or.inr ⟨rfl, fun q => q4 (q.2 4 (show 4 < 6 by omega))⟩⟩
    rw [p4, if_neg (show ¬ (1 : Int32) = 0 by decide)]
    rcases c5 with ⟨p5, q5⟩ | ⟨p5, q5⟩
    case inr => exact ⟨0, by rw [p5, if_pos rfl], Or.inr ⟨rfl, fun q => q5 (q.2 5 (show 5 < 6 by omega))⟩⟩
    rw [p5, if_neg (show ¬ (1 : Int32) = 0 by decide)]
    exact ⟨1, rfl, Or.inl ⟨rfl, mk hl q0 q1 q2 q3 q4 q5⟩⟩
  · refine ⟨0, by rw [if_neg (fun q => hl (by
      have q2 : nI (t - f) = nI 6 := q
      rw [eq_nn (by omega) (by omega)] at q2
      omega))], Or.inr ⟨rfl, fun q => hl q.1⟩⟩

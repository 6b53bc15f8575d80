def IsOrd (v : Nat → Int32) (c q : Nat) : Prop := (q = 0 ∧ ∀ x, 1 ≤ x → x ≤ 4 → ¬ OrP v c x) ∨ (1 ≤ q ∧ q ≤ 4 ∧ OrP v c q ∧ ∀ x, 1 ≤ x → x < q → ¬ OrP v c x)
theorem IsOrd.uniq {v : Nat → Int32} {c p q : Nat} (h1 : IsOrd v c p) (h2 : IsOrd v c q) : p = q := by
  rcases h1 with ⟨a1, a2⟩ | ⟨a1, a2, a3, a4⟩ <;> rcases h2 with ⟨b1, b2⟩ | ⟨b1, b2, b3, b4⟩
  · omega
  · exact absurd b3 (a2 q b1 b2)
  · exact absurd a3 (b2 p a1 a2)
  · rcases Nat.lt_trichotomy p q with h | h | h
    · exact absurd a3 (b4 p a1 h)
    · exact h
    · exact absurd b3 (a4 q b1 h)
theorem ford_s {I : HI} {J : HJ} {k c : Nat} {v : Nat → Int32} (h : Row I k c v) : ∃ q, q ≤ 4 ∧ f_X9_findOrder k I J = some (nI q) ∧ IsOrd v c q := by
  have key : ∀ d i f, i + d = 5 → d < f → 1 ≤ i → ∃ q, q ≤ 4 ∧ fL_X9_findOrder_2 k f (nI i) I J = some (nI q) ∧ ((q = 0 ∧ ∀ x, i ≤ x → x ≤ 4 → ¬ OrP v c x) ∨ (i ≤ q ∧ q ≤ 4 ∧ OrP v c q ∧ ∀ x, i ≤ x → x < q → ¬ OrP v c x)) := by
    refine fuel (L := fL_X9_findOrder_2 k) (B := fLB_X9_findOrder_2 k) (fun _ => rfl) (P := fun i g => 1 ≤ i → ∃ q, q ≤ 4 ∧ g (nI i) I J = some (nI q) ∧ ((q = 0 ∧ ∀ x, i ≤ x → x ≤ 4 → ¬ OrP v c x) ∨ (i ≤ q ∧ q ≤ 4 ∧ OrP v c q ∧ ∀ x, i ≤ x → x < q → ¬ OrP v c x))) (fun g hg => ?_) (fun i g hi ih hg => ?_)
    · refine ⟨0, by omega, ?_, Or.inl ⟨rfl, fun x h1 h2 => by omega⟩⟩
      unfold fLB_X9_findOrder_2
      rw [if_pos (by decide)]; rfl
    · obtain ⟨r, r1, r2⟩ := cord_s (J := J) h (k := i) (by omega)
      rcases r2 with ⟨e1, e2⟩ | ⟨e1, e2⟩
      · refine ⟨i, by omega, ?_, Or.inr ⟨Nat.le_refl _, by omega, e2, fun x h1 h2 => by omega⟩⟩
        unfold fLB_X9_findOrder_2
        rw [if_neg (by rw [N_4, lt_nn (by omega) (by omega)]; omega), r1, bd1_s, e1, if_neg (by decide)]
      · obtain ⟨q, q0, q1, q2⟩ := ih (by omega)
        refine ⟨q, q0, ?_, ?_⟩
        · unfold fLB_X9_findOrder_2
          rw [if_neg (by rw [N_4, lt_nn (by omega) (by omega)]; omega), r1, bd1_s, e1, if_pos rfl, nI_1, nm_s]
          exact q1
        · rcases q2 with ⟨a1, a2⟩ | ⟨a1, a2, a3, a4⟩
          · refine Or.inl ⟨a1, fun x h1 h2 => ?_⟩
            by_cases ex : x = i
            · rw [ex]; exact e2
            · exact a2 x (by omega) h2
          · refine Or.inr ⟨by omega, a2, a3, fun x h1 h2 => ?_⟩
            by_cases ex : x = i
            · rw [ex]; exact e2
            · exact a4 x (by omega) h2
  exact key 4 1 FU (by omega) (FU_ge (by omega)) (Nat.le_refl _)
theorem mford_s {I : HI} {J : HJ} {c : Nat} {v : Nat → Int32} (h : Look I c v) : ∃ q, q ≤ 4 ∧ fL_X11_order_8 FU (nI 0) (nI 4) I J = some (nI q, I) ∧ IsOrd v c q := by
  have key : ∀ d i f, i + d = 4 → d < f → ∀ x, x ≤ 4 → ∃ q, q ≤ 4 ∧ fL_X11_order_8 f (nI x) (nI (4 - i)) I J = some (nI q, I) ∧ ((q = x ∧ ∀ y, 1 ≤ y → y ≤ 4 - i → ¬ OrP v c y) ∨ (1 ≤ q ∧ q ≤ 4 - i ∧ OrP v c q ∧ ∀ y, 1 ≤ y → y < q → ¬ OrP v c y)) := by
    refine fuel (L := fL_X11_order_8) (B := fLB_X11_order_8) (fun _ => rfl) (P := fun i g => ∀ x, x ≤ 4 → ∃ q, q ≤ 4 ∧ g (nI x) (nI (4 - i)) I J = some (nI q, I) ∧ ((q = x ∧ ∀ y, 1 ≤ y → y ≤ 4 - i → ¬ OrP v c y) ∨ (1 ≤ q ∧ q ≤ 4 - i ∧ OrP v c q ∧ ∀ y, 1 ≤ y → y < q → ¬ OrP v c y))) (fun g x hx => ?_) (fun i g hi ih x hx => ?_)
    · refine ⟨x, hx, ?_, Or.inl ⟨rfl, fun y h1 h2 => by omega⟩⟩
      unfold fLB_X11_order_8
      rw [Nat.sub_self, if_pos (by decide)]
    · obtain ⟨p, hp⟩ : ∃ p, 4 - i = p + 1 := ⟨4 - i - 1, by omega⟩
      have hp2 : 4 - (i + 1) = p := by omega
      rw [hp2] at ih
      rw [hp]
      obtain ⟨r, r1, r2⟩ := mord_s (J := J) h (k := p + 1) (by omega)
      rcases r2 with ⟨e1, e2⟩ | ⟨e1, e2⟩
      · obtain ⟨q, q0, q1, q2⟩ := ih (p + 1) (by omega)
        refine ⟨q, q0, ?_, Or.inr ?_⟩
        · unfold fLB_X11_order_8 fB_X11_order_25
          rw [if_neg (show ¬ nI (p + 1) ≤ (0 : Int32) by rw [N_0, le_nn (by omega) (by omega)]; omega), r1, bd1_s, e1, if_neg (by decide), prd1, nm_s]
          exact q1
        · rcases q2 with ⟨a1, a2⟩ | ⟨a1, a2, a3, a4⟩
          · exact ⟨by omega, by omega, by rw [a1]; exact e2, fun y h1 h2 => a2 y h1 (by omega)⟩
          · exact ⟨a1, by omega, a3, a4⟩
      · obtain ⟨q, q0, q1, q2⟩ := ih x hx
        refine ⟨q, q0, ?_, ?_⟩
        · unfold fLB_X11_order_8 fB_X11_order_25
          rw [if_neg (show ¬ nI (p + 1) ≤ (0 : Int32) by rw [N_0, le_nn (by omega) (by omega)]; omega), r1, bd1_s, e1, if_pos rfl, prd1, nm_s]
          exact q1
        · rcases q2 with ⟨a1, a2⟩ | ⟨a1, a2, a3, a4⟩
          · refine Or.inl ⟨a1, fun y h1 h2 => ?_⟩
            by_cases ey : y = p + 1
            · rw [ey]; exact e2
            · exact a2 y h1 (by omega)
          · exact Or.inr ⟨a1, by omega, a3, a4⟩
  exact key 4 0 FU (by omega) (FU_ge (by omega)) 0 (by omega)
/-- the tap's row on both sides -/
theorem rows_s {N : Nat} {I : HI} {J : HJ} (hR : Rel N I J) : ∃ c v I1, Row I 2 c v ∧ (∀ i, i < c → 0 ≤ (v i).toInt) ∧ I 2 1 = nI c ∧ f_X11_looks I J = some I1 ∧ Look I1 c v ∧ Rel (N + 400) I1 J := by
  obtain ⟨t1, ⟨c, c0, c1, c2, c3⟩, t3, t4, t5, t6⟩ := hR.1
  obtain ⟨I1, g1, g2, g3⟩ := looks_s (J := J) c0 c2
  exact ⟨c, fun i => I 99 (12 + i), I1, ⟨rfl, c0, c1, fun i hi => (c3 i hi).1⟩, fun i hi => (c3 i hi).2, c1, g1, g2, look_rel hR g3⟩
theorem sim_order {N : Nat} {I : HI} {J : HJ} (hN : N ≤ 1000000) (hR : Rel N I J) : ∃ (r : Int32) (I2 : HI), f_X10_order I J = some r ∧ f_X11_order I J = some (r, I2) ∧ Rel (N + 400) I2 J := by
  obtain ⟨c, v, I1, h1, h2, h3, h4, h5, h6⟩ := rows_s hR
  obtain ⟨q, q0, q1, q2⟩ := ford_s (J := J) h1
  obtain ⟨p, p0, p1, p2⟩ := mford_s (J := J) h5
  have e := q2.uniq p2
  refine ⟨nI q, I1, ?_, ?_, h6⟩
  · unfold f_X10_order
    rw [q1, bd1_s]
  · unfold f_X11_order
    rw [h4, bd1_s, e]
    exact p1
def neaF (v : Nat → Int32) (x : Int32) : Nat → Nat → Nat → Nat
  | _, m, 0 => m
  | j, m, d + 1 => neaF v x (j + 1) (if jabs (v m - x) < jabs (v j - x) then m else j) d
def nea (v : Nat → Int32) (i : Nat) (x : Int32) : Nat := neaF v x 1 0 (i - 1)
theorem neaF_lt {v : Nat → Int32} {x : Int32} : ∀ d j m, m < j → neaF v x j m d < j + d
  | 0, j, m, h => h
  | d + 1, j, m, h => by
    have := neaF_lt (v := v) (x := x) d (j + 1) (if jabs (v m - x) < jabs (v j - x) then m else j) (by split <;> omega)
    show neaF v x (j + 1) _ d < _
    omega
theorem nea_lt {v : Nat → Int32} {x : Int32} {i : Nat} (h : 1 ≤ i) : nea v i x < i := by
  have := neaF_lt (v := v) (x := x) (i - 1) 1 0 (by omega)
  unfold nea
  omega
def told (v : Nat → Int32) (i : Nat) : Nat → Int32 → Int32
  | 0, x => x
  | d + 1, x => told v i d (v (nea v i x + 1))
theorem near_s {I : HI} {J : HJ} {k c i : Nat} {v : Nat → Int32} {x : Int32} (h : Row I k c v) (h1 : 1 ≤ i) (hi : i < c) : f_X9_nearestBefore k (nI i) x I J = some (nI (nea v i x)) := by
  have hc := h.2.1
  have key : ∀ d j f, j + d = i → d < f → ∀ m, m < j → fL_X9_nearestBefore_5 k (nI i) x f (nI m) (nI j) I J = some (nI (neaF v x j m d)) := by
    intro d
    induction d with
    | zero =>
      intro j f hj hf m hm
      obtain ⟨f, rfl⟩ : ∃ g, f = g + 1 := ⟨f - 1, by omega⟩
      show fLB_X9_nearestBefore_5 k (nI i) x _ (nI m) (nI j) I J = _
      unfold fLB_X9_nearestBefore_5
      rw [if_pos (by rw [le_nn (by omega) (by omega)]; omega)]
      rfl
    | succ d ih =>
      intro j f hj hf m hm
      obtain ⟨f, rfl⟩ : ∃ g, f = g + 1 := ⟨f - 1, by omega⟩
      show fLB_X9_nearestBefore_5 k (nI i) x (fL_X9_nearestBefore_5 k (nI i) x f) (nI m) (nI j) I J = some (nI (neaF v x (j + 1) (if jabs (v m - x) < jabs (v j - x) then m else j) d))
      unfold fLB_X9_nearestBefore_5 fB_X9_nearestBefore_38
      rw [if_neg (by rw [le_nn (by omega) (by omega)]; omega), h.at (by omega), h.at (by omega), bd1_s, bd1_s, nm_s, nm_s, nI_1]
      by_cases q : jabs (v m - x) < jabs (v j - x)
      · rw [if_pos q, if_pos q]
        exact ih (j + 1) f (by omega) (by omega) m (by omega)
      · rw [if_neg q, if_neg q]
        exact ih (j + 1) f (by omega) (by omega) j (by omega)
  exact key (i - 1) 1 FU (by omega) (FU_ge (by omega)) 0 (by omega)
theorem tah_s {I : HI} {J : HJ} {k c i n : Nat} {v : Nat → Int32} (h : Row I k c v) (h1 : 1 ≤ i) (hi : i < c) (hn : n ≤ 9) : f_X9_toldAhead k (nI i) (nI n) I J = some (told v i n (v i)) := by
  have hc := h.2.1
  have key : ∀ d j f, j + d = n → d < f → ∀ x, fL_X9_toldAhead_9 k (nI i) (nI n) f x (nI j) I J = some (told v i d x) := by
    intro d
    induction d with
    | zero =>
      intro j f hj hf x
      obtain ⟨f, rfl⟩ : ∃ g, f = g + 1 := ⟨f - 1, by omega⟩
      show fLB_X9_toldAhead_9 k (nI i) (nI n) _ x (nI j) I J = _
      unfold fLB_X9_toldAhead_9
      rw [if_pos (by rw [le_nn (by omega) (by omega)]; omega)]
      rfl
    | succ d ih =>
      intro j f hj hf x
      obtain ⟨f, rfl⟩ : ∃ g, f = g + 1 := ⟨f - 1, by omega⟩
      have hlt := nea_lt (v := v) (x := x) h1
      show fLB_X9_toldAhead_9 k (nI i) (nI n) (fL_X9_toldAhead_9 k (nI i) (nI n) f) x (nI j) I J = some (told v i d (v (nea v i x + 1)))
      unfold fLB_X9_toldAhead_9
      rw [if_neg (by rw [le_nn (by omega) (by omega)]; omega), near_s h h1 hi, bd1_s, nI_1, h.at (by omega), bd1_s, nI_1, nm_s]
      exact ih (j + 1) f (by omega) (by omega) _
  unfold f_X9_toldAhead
  rw [h.at hi, bd1_s]
  exact key n 0 FU (by omega) (FU_ge (by omega)) _
theorem off_s {a b : Int32} (ha : 0 ≤ a.toInt) (hb : 0 ≤ b.toInt) : f_X11_off a b = some (jabs (a - b)) := by
  have hra := i_rng a
  have hrb := i_rng b
  have e0 : (0 : Int32).toInt = 0 := by decide
  have es : (a - b).toInt = a.toInt - b.toInt := i_sub (by omega) (by omega)
  unfold f_X11_off jabs
  by_cases h : b ≤ a
  · rw [if_pos h, if_pos (by rw [i_le] at h ⊢; omega)]
  · rw [if_neg h, if_neg (by rw [i_le] at h ⊢; omega)]
    congr 1
    rw [i_eq, i_sub (x := b) (y := a) (by omega) (by omega), i_sub (x := 0) (by omega) (by omega), es, e0]
    omega
theorem told_pos {v : Nat → Int32} {c i : Nat} (hv : ∀ j, j < c → 0 ≤ (v j).toInt) (h1 : 1 ≤ i) (hi : i < c) : ∀ d x, 0 ≤ x.toInt → 0 ≤ (told v i d x).toInt
  | 0, x, h => h
  | d + 1, x, h => told_pos hv h1 hi d _ (hv _ (by have := nea_lt (v := v) (x := x) h1; omega))
theorem mtold_s {I : HI} {J : HJ} {c i n : Nat} {v : Nat → Int32} (h : Look I c v) (hv : ∀ j, j < c → 0 ≤ (v j).toInt) (h1 : 1 ≤ i) (hi : i < c) (hn : n ≤ 9) : f_X11_toldFrom (nI i) (nI n) I J = some (told v i n (v i)) := by
  obtain ⟨hc, hl, hk⟩ := h
  have inner : ∀ (g : Int32 → Int32 → HI → HJ → Option Int32) (x : Int32) (y : Nat), y < 100 → 0 ≤ x.toInt → ∀ d j f, j + d = i → d < f → ∀ m, m < j → fL_X11_toldFrom_22 (nI i) (nI n) g f x (nI y) (nI m) (nI j) I J = g (v (neaF v x j m d + 1)) (nI (y + 1)) I J := by
    intro g x y hy hx d
    induction d with
    | zero =>
      intro j f hj hf m hm
      obtain ⟨f, rfl⟩ : ∃ g, f = g + 1 := ⟨f - 1, by omega⟩
      show fLB_X11_toldFrom_22 (nI i) (nI n) g _ x (nI y) (nI m) (nI j) I J = g (v (m + 1)) (nI (y + 1)) I J
      unfold fLB_X11_toldFrom_22
      rw [if_pos (by rw [le_nn (by omega) (by omega)]; omega), nI_1, if_pos (vin_nI (by omega) (by omega)), cl_nI (by omega), hk _ (by omega), nm_s, nm_s, nI_1]
    | succ d ih =>
      intro j f hj hf m hm
      obtain ⟨f, rfl⟩ : ∃ g, f = g + 1 := ⟨f - 1, by omega⟩
      show fLB_X11_toldFrom_22 (nI i) (nI n) g (fL_X11_toldFrom_22 (nI i) (nI n) g f) x (nI y) (nI m) (nI j) I J = g (v (neaF v x (j + 1) (if jabs (v m - x) < jabs (v j - x) then m else j) d + 1)) (nI (y + 1)) I J
      unfold fLB_X11_toldFrom_22 fB_X11_toldFrom_60
      rw [if_neg (by rw [le_nn (by omega) (by omega)]; omega), if_pos (vin_nI (by omega) (by omega)), cl_nI (by omega), hk _ (by omega), off_s (hv _ (by omega)) hx, bd1_s, if_pos (vin_nI (by omega) (by omega)), cl_nI (by omega), hk _ (by omega), off_s (hv _ (by omega)) hx, bd1_s, nm_s, nI_1]
      by_cases q : jabs (v m - x) < jabs (v j - x)
      · rw [if_pos q, if_pos q]
        exact ih (j + 1) f (by omega) (by omega) m (by omega)
      · rw [if_neg q, if_neg q]
        exact ih (j + 1) f (by omega) (by omega) j (by omega)
  have key : ∀ d j f, j + d = n → d < f → ∀ x, 0 ≤ x.toInt → fL_X11_toldFrom_10 (nI i) (nI n) f x (nI j) I J = some (told v i d x) := by
    intro d
    induction d with
    | zero =>
      intro j f hj hf x hx
      obtain ⟨f, rfl⟩ : ∃ g, f = g + 1 := ⟨f - 1, by omega⟩
      show fLB_X11_toldFrom_10 (nI i) (nI n) _ x (nI j) I J = _
      unfold fLB_X11_toldFrom_10
      rw [if_pos (by rw [le_nn (by omega) (by omega)]; omega)]
      rfl
    | succ d ih =>
      intro j f hj hf x hx
      obtain ⟨f, rfl⟩ : ∃ g, f = g + 1 := ⟨f - 1, by omega⟩
      have hlt := nea_lt (v := v) (x := x) h1
      show fLB_X11_toldFrom_10 (nI i) (nI n) (fL_X11_toldFrom_10 (nI i) (nI n) f) x (nI j) I J = some (told v i d (v (nea v i x + 1)))
      unfold fLB_X11_toldFrom_10
      rw [if_neg (by rw [le_nn (by omega) (by omega)]; omega)]
      exact (inner _ x j (by omega) hx (i - 1) 1 FU (by omega) (FU_ge (by omega)) 0 (by omega)).trans (ih (j + 1) f (by omega) (by omega) _ (hv (nea v i x + 1) (by omega)))
  unfold f_X11_toldFrom
  rw [if_pos (vin_nI (by omega) (by omega)), cl_nI (by omega), hk _ (by omega), nm_s]
  exact key n 0 FU (by omega) (FU_ge (by omega)) _ (hv _ hi)
theorem sim_ahead {N : Nat} {I : HI} {J : HJ} (hN : N ≤ 1000000) (hR : Rel N I J) (a0 : Int32) : ∃ (r : Int32) (I2 : HI), f_X10_ahead a0 I J = some r ∧ f_X11_ahead a0 I J = some (r, I2) ∧ Rel (N + 400) I2 J := by
  have hM := hR.mono (Nat.le_add_right N 400)
  by_cases h : nI 1 ≤ a0 ∧ a0 ≤ nI 9
  · obtain ⟨n, hn, rfl⟩ := rng (M := 9) (by omega) ⟨by have := i_le.mp h.1; rw [i_le]; have e0 : (0 : Int32).toInt = 0 := by decide
                                                       have e1 : (nI 1).toInt = 1 := by decide
                                                       omega, h.2⟩
    obtain ⟨c, v, I1, h1, h2, h3, h4, h5, h6⟩ := rows_s hR
    have hc := h1.2.1
    have hn1 : 1 ≤ n := by
      have := h.1
      rw [le_nn (by omega) (by omega)] at this
      exact this
    by_cases hc2 : 2 ≤ c
    · refine ⟨told v (c - 1) n (v (c - 1)), I1, ?_, ?_, h6⟩
      · unfold f_X10_ahead f_X9_size
        have e := tah_s (J := J) (n := n) h1 (show 1 ≤ c - 1 by omega) (by omega) hn
        simp (disch := omega) only [bd1_s, bd2_s, bd3_s, nm_s, wi_s, ite_bI, bI_1, le_pred, if_true, in_x, cl_nI, vin_nI, nI_add, nI_mul, le_nn, lt_nn, eq_nn, sb, reduceIte, N_0, N_1, N_2, N_3, N_4, N_5, N_6, N_7, N_8, N_9, N_10, N_11, N_12, N_13, N_14, N_16, N_20, N_30, N_31, N_32, N_37, N_40, N_41, N_42, N_43, N_45, N_47, N_48, N_50, N_57, N_59, N_60, N_61, N_62, N_70, N_71, N_72, N_80, N_81, N_82, N_83, N_97, N_98, N_99, N_100, N_101, N_102, N_103, N_104, N_105, N_107, N_108, N_110, N_111, N_112, N_114, N_115, N_116, N_117, N_119, N_121, N_122, N_200, N_220, N_255, N_256, N_257, N_258, N_400, N_438, N_446, N_666, N_999, N_9999, N_10000, N_10010, N_10011, N_10012, N_10013, N_10014, N_10015, N_10016, N_10017, N_10018, N_12345, N_20000, N_20126, N_99999, N_1103515245, L_m999, L_m1, L_0, L_1, L_2, L_3, L_4, L_7, L_8, L_9, L_10, L_12, L_14, L_40, L_48, L_57, L_97, L_99, L_122, L_255, L_400, L_999, L_9999, if_pos, if_neg, pE, pN, cE, cN, h3, e]
      · unfold f_X11_ahead
        have e := mtold_s (J := J) (n := n) h5 h2 (show 1 ≤ c - 1 by omega) (by omega) hn
        simp (disch := omega) only [bd1_s, bd2_s, bd3_s, nm_s, wi_s, ite_bI, bI_1, le_pred, if_true, in_x, cl_nI, vin_nI, nI_add, nI_mul, le_nn, lt_nn, eq_nn, sb, reduceIte, N_0, N_1, N_2, N_3, N_4, N_5, N_6, N_7, N_8, N_9, N_10, N_11, N_12, N_13, N_14, N_16, N_20, N_30, N_31, N_32, N_37, N_40, N_41, N_42, N_43, N_45, N_47, N_48, N_50, N_57, N_59, N_60, N_61, N_62, N_70, N_71, N_72, N_80, N_81, N_82, N_83, N_97, N_98, N_99, N_100, N_101, N_102, N_103, N_104, N_105, N_107, N_108, N_110, N_111, N_112, N_114, N_115, N_116, N_117, N_119, N_121, N_122, N_200, N_220, N_255, N_256, N_257, N_258, N_400, N_438, N_446, N_666, N_999, N_9999, N_10000, N_10010, N_10011, N_10012, N_10013, N_10014, N_10015, N_10016, N_10017, N_10018, N_12345, N_20000, N_20126, N_99999, N_1103515245, L_m999, L_m1, L_0, L_1, L_2, L_3, L_4, L_7, L_8, L_9, L_10, L_12, L_14, L_40, L_48, L_57, L_97, L_99, L_122, L_255, L_400, L_999, L_9999, if_pos, if_neg, pE, pN, cE, cN, h4, h5.2.1, e]
    · refine ⟨-3, I1, ?_, ?_, h6⟩
      · unfold f_X10_ahead f_X9_size
        simp (disch := omega) only [bd1_s, bd2_s, bd3_s, nm_s, wi_s, ite_bI, bI_1, le_pred, if_true, in_x, cl_nI, vin_nI, nI_add, nI_mul, le_nn, lt_nn, eq_nn, sb, reduceIte, N_0, N_1, N_2, N_3, N_4, N_5, N_6, N_7, N_8, N_9, N_10, N_11, N_12, N_13, N_14, N_16, N_20, N_30, N_31, N_32, N_37, N_40, N_41, N_42, N_43, N_45, N_47, N_48, N_50, N_57, N_59, N_60, N_61, N_62, N_70, N_71, N_72, N_80, N_81, N_82, N_83, N_97, N_98, N_99, N_100, N_101, N_102, N_103, N_104, N_105, N_107, N_108, N_110, N_111, N_112, N_114, N_115, N_116, N_117, N_119, N_121, N_122, N_200, N_220, N_255, N_256, N_257, N_258, N_400, N_438, N_446, N_666, N_999, N_9999, N_10000, N_10010, N_10011, N_10012, N_10013, N_10014, N_10015, N_10016, N_10017, N_10018, N_12345, N_20000, N_20126, N_99999, N_1103515245, L_m999, L_m1, L_0, L_1, L_2, L_3, L_4, L_7, L_8, L_9, L_10, L_12, L_14, L_40, L_48, L_57, L_97, L_99, L_122, L_255, L_400, L_999, L_9999, if_pos, if_neg, pE, pN, cE, cN, h3]
      · unfold f_X11_ahead
        simp (disch := omega) only [bd1_s, bd2_s, bd3_s, nm_s, wi_s, ite_bI, bI_1, le_pred, if_true, in_x, cl_nI, vin_nI, nI_add, nI_mul, le_nn, lt_nn, eq_nn, sb, reduceIte, N_0, N_1, N_2, N_3, N_4, N_5, N_6, N_7, N_8, N_9, N_10, N_11, N_12, N_13, N_14, N_16, N_20, N_30, N_31, N_32, N_37, N_40, N_41, N_42, N_43, N_45, N_47, N_48, N_50, N_57, N_59, N_60, N_61, N_62, N_70, N_71, N_72, N_80, N_81, N_82, N_83, N_97, N_98, N_99, N_100, N_101, N_102, N_103, N_104, N_105, N_107, N_108, N_110, N_111, N_112, N_114, N_115, N_116, N_117, N_119, N_121, N_122, N_200, N_220, N_255, N_256, N_257, N_258, N_400, N_438, N_446, N_666, N_999, N_9999, N_10000, N_10010, N_10011, N_10012, N_10013, N_10014, N_10015, N_10016, N_10017, N_10018, N_12345, N_20000, N_20126, N_99999, N_1103515245, L_m999, L_m1, L_0, L_1, L_2, L_3, L_4, L_7, L_8, L_9, L_10, L_12, L_14, L_40, L_48, L_57, L_97, L_99, L_122, L_255, L_400, L_999, L_9999, if_pos, if_neg, pE, pN, cE, cN, h4, h5.2.1]
  · refine ⟨-1, I, ?_, ?_, hM⟩
    · unfold f_X10_ahead
      simp (disch := omega) only [bd1_s, bd2_s, bd3_s, nm_s, wi_s, ite_bI, bI_1, le_pred, if_true, in_x, cl_nI, vin_nI, nI_add, nI_mul, le_nn, lt_nn, eq_nn, sb, reduceIte, N_0, N_1, N_2, N_3, N_4, N_5, N_6, N_7, N_8, N_9, N_10, N_11, N_12, N_13, N_14, N_16, N_20, N_30, N_31, N_32, N_37, N_40, N_41, N_42, N_43, N_45, N_47, N_48, N_50, N_57, N_59, N_60, N_61, N_62, N_70, N_71, N_72, N_80, N_81, N_82, N_83, N_97, N_98, N_99, N_100, N_101, N_102, N_103, N_104, N_105, N_107, N_108, N_110, N_111, N_112, N_114, N_115, N_116, N_117, N_119, N_121, N_122, N_200, N_220, N_255, N_256, N_257, N_258, N_400, N_438, N_446, N_666, N_999, N_9999, N_10000, N_10010, N_10011, N_10012, N_10013, N_10014, N_10015, N_10016, N_10017, N_10018, N_12345, N_20000, N_20126, N_99999, N_1103515245, L_m999, L_m1, L_0, L_1, L_2, L_3, L_4, L_7, L_8, L_9, L_10, L_12, L_14, L_40, L_48, L_57, L_97, L_99, L_122, L_255, L_400, L_999, L_9999]
      rw [if_neg h]
    · unfold f_X11_ahead
      simp (disch := omega) only [bd1_s, bd2_s, bd3_s, nm_s, wi_s, ite_bI, bI_1, le_pred, if_true, in_x, cl_nI, vin_nI, nI_add, nI_mul, le_nn, lt_nn, eq_nn, sb, reduceIte, N_0, N_1, N_2, N_3, N_4, N_5, N_6, N_7, N_8, N_9, N_10, N_11, N_12, N_13, N_14, N_16, N_20, N_30, N_31, N_32, N_37, N_40, N_41, N_42, N_43, N_45, N_47, N_48, N_50, N_57, N_59, N_60, N_61, N_62, N_70, N_71, N_72, N_80, N_81, N_82, N_83, N_97, N_98, N_99, N_100, N_101, N_102, N_103, N_104, N_105, N_107, N_108, N_110, N_111, N_112, N_114, N_115, N_116, N_117, N_119, N_121, N_122, N_200, N_220, N_255, N_256, N_257, N_258, N_400, N_438, N_446, N_666, N_999, N_9999, N_10000, N_10010, N_10011, N_10012, N_10013, N_10014, N_10015, N_10016, N_10017, N_10018, N_12345, N_20000, N_20126, N_99999, N_1103515245, L_m999, L_m1, L_0, L_1, L_2, L_3, L_4, L_7, L_8, L_9, L_10, L_12, L_14, L_40, L_48, L_57, L_97, L_99, L_122, L_255, L_400, L_999, L_9999]
      rw [if_neg h]

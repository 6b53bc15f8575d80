/-- how many of d places from i on -/
def cN' (Q : Nat → Prop) [DecidablePred Q] : Nat → Nat → Nat
  | _, 0 => 0
  | i, d + 1 => (if Q i then 1 else 0) + cN' Q (i + 1) d
theorem cN_le (Q : Nat → Prop) [DecidablePred Q] : ∀ d i, cN' Q i d ≤ d
  | 0, i => Nat.le_refl _
  | d + 1, i => by
    have := cN_le Q d (i + 1)
    show (if Q i then 1 else 0) + cN' Q (i + 1) d ≤ d + 1
    split <;> omega
def c2 (Q : Nat → Nat → Prop) [∀ b a, Decidable (Q b a)] : Nat → Nat → Nat
  | _, 0 => 0
  | b, d + 1 => cN' (Q b) 0 b + c2 Q (b + 1) d
theorem c2_le (Q : Nat → Nat → Prop) [∀ b a, Decidable (Q b a)] : ∀ d b, b + d ≤ 60 → c2 Q b d ≤ 60 * d
  | 0, b, _ => Nat.le_refl _
  | d + 1, b, h => by
    have h1 := c2_le Q d (b + 1) (by omega)
    have h2 := cN_le (Q b) b 0
    show cN' (Q b) 0 b + c2 Q (b + 1) d ≤ 60 * (d + 1)
    omega
abbrev apQ (v : Nat → Int32) (x : Int32) (b a : Nat) : Prop := ¬ x < jabs (v a - v b)
abbrev lkQ (v : Nat → Int32) (x : Int32) (b a : Nat) : Prop := apQ v x b a ∧ apQ v x (b + 1) (a + 1)
theorem apart_s {I : HI} {J : HJ} {q c a b : Nat} {v : Nat → Int32} {x : Int32} (h : Row I q c v) (ha : a < c) (hb : b < c) : f_X9_isApart q (nI a) (nI b) x I J = some (bI (apQ v x b a)) := by
  unfold f_X9_isApart
  rw [h.at ha, h.at hb, bd1_s, bd1_s]
  by_cases e : x < jabs (v a - v b)
  · rw [if_pos e, bI_f (by exact not_not_intro e)]
  · rw [if_neg e, bI_t e]
theorem ctwo_s {I : HI} {J : HJ} {q c : Nat} {v : Nat → Int32} {x z : Int32} (Q : Nat → Nat → Prop) [∀ b a, Decidable (Q b a)] (h : Row I q c v) (hz : (z = 0 ∧ ∀ b a, Q b a ↔ apQ v x b a) ∨ (z = 1 ∧ ∀ b a, Q b a ↔ lkQ v x b a)) : f_X9_countTwos q x z I J = some (nI (c2 Q 1 (c - 2))) := by
  have hc := h.2.1
  have inner : ∀ (g : Int32 → Int32 → HI → HJ → Option Int32) (b : Nat), b + 1 < c → ∀ d i f, i + d = b → d < f → ∀ acc, fL_X9_countTwos_19 q x z g f (nI acc) (nI b) (nI i) I J = g (nI (acc + cN' (Q b) i d)) (nI (b + 1)) I J := by
    intro g b hb d
    induction d with
    | zero =>
      intro i f hi hf acc
      obtain ⟨f, rfl⟩ : ∃ g, f = g + 1 := ⟨f - 1, by omega⟩
      show fLB_X9_countTwos_19 q x z g _ (nI acc) (nI b) (nI i) I J = g (nI acc) (nI (b + 1)) I J
      unfold fLB_X9_countTwos_19
      rw [if_pos (by rw [le_nn (by omega) (by omega)]; omega), nI_1, nm_s]
    | succ d ih =>
      intro i f hi hf acc
      obtain ⟨f, rfl⟩ : ∃ g, f = g + 1 := ⟨f - 1, by omega⟩
      show fLB_X9_countTwos_19 q x z g (fL_X9_countTwos_19 q x z g f) (nI acc) (nI b) (nI i) I J = g (nI (acc + ((if Q b i then 1 else 0) + cN' (Q b) (i + 1) d))) (nI (b + 1)) I J
      unfold fLB_X9_countTwos_19 fB_X9_countTwos_61 fB_X9_countTwos_58 fB_X9_countTwos_61
      rw [if_neg (by rw [le_nn (by omega) (by omega)]; omega), nI_1, nI_1, nI_1, apart_s h (by omega) (by omega), apart_s h (by omega) (by omega), bd1_s, ite_bI, bd1_s, ite_bI, nm_s, nm_s, nm_s]
      rcases hz with ⟨z1, z2⟩ | ⟨z1, z2⟩
      · by_cases e : apQ v x b i
        · rw [if_pos e, if_pos z1, if_pos ((z2 b i).mpr e), ih (i + 1) f (by omega) (by omega), Nat.add_assoc]
        · rw [if_neg e, if_neg (fun q => e ((z2 b i).mp q)), ih (i + 1) f (by omega) (by omega), Nat.zero_add]
      · by_cases e : apQ v x b i
        · rw [if_pos e, if_neg (by rw [z1]; decide)]
          by_cases e2 : apQ v x (b + 1) (i + 1)
          · rw [if_pos e2, if_pos ((z2 b i).mpr ⟨e, e2⟩), ih (i + 1) f (by omega) (by omega), Nat.add_assoc]
          · rw [if_neg e2, if_neg (fun q => e2 ((z2 b i).mp q).2), ih (i + 1) f (by omega) (by omega), Nat.zero_add]
        · rw [if_neg e, if_neg (fun q => e ((z2 b i).mp q).1), ih (i + 1) f (by omega) (by omega), Nat.zero_add]
  have key : ∀ d b f, 1 ≤ b → b + d + 1 = max c 2 → d < f → ∀ acc, fL_X9_countTwos_5 q x z f (nI acc) (nI b) I J = some (nI (acc + c2 Q b d)) := by
    intro d
    induction d with
    | zero =>
      intro b f h1b hi hf acc
      obtain ⟨f, rfl⟩ : ∃ g, f = g + 1 := ⟨f - 1, by omega⟩
      show fLB_X9_countTwos_5 q x z _ (nI acc) (nI b) I J = some (nI acc)
      unfold fLB_X9_countTwos_5
      rw [h.2.2.1, nI_1, if_pos (by rw [le_nn (by omega) (by omega)]; omega)]
    | succ d ih =>
      intro b f h1b hi hf acc
      obtain ⟨f, rfl⟩ : ∃ g, f = g + 1 := ⟨f - 1, by omega⟩
      show fLB_X9_countTwos_5 q x z (fL_X9_countTwos_5 q x z f) (nI acc) (nI b) I J = some (nI (acc + (cN' (Q b) 0 b + c2 Q (b + 1) d)))
      unfold fLB_X9_countTwos_5
      rw [h.2.2.1, nI_1, if_neg (by rw [le_nn (by omega) (by omega)]; omega)]
      exact (inner _ b (by omega) b 0 FU (by omega) (FU_ge (by omega)) acc).trans ((ih (b + 1) f (by omega) (by omega) (by omega) _).trans (by rw [Nat.add_assoc]))
  have := key (max c 2 - 2) 1 FU (by omega) (by omega) (FU_ge (by omega)) 0
  rw [Nat.zero_add, show max c 2 - 2 = c - 2 by omega] at this
  exact this
theorem rm_s {a b : Nat} (ha : a < 2147483648) (hb : b < 2147483648) (h0 : 0 < b) : jrem (nI a) (nI b) = nI (a % b) := by
  have hm : a % b < b := Nat.mod_lt _ h0
  have e : a = a % b + a / b * b := by have := Nat.mod_add_div a b; rw [Nat.mul_comm] at this; omega
  unfold jrem
  rw [dv a b ha hb h0, nI_mul, sb _ _ (by omega)]
  congr 1
  omega
/-- Euclid: so many turns are enough -/
theorem gcd_c {a0 a1 : Int32} : ∀ n a b t f, a < 2147483648 → b < 2 ^ n → n ≤ 13 → 2 * n + t ≤ 40 → 2 * n < f → fL_X10_commonMeasure_7 a0 a1 f (nI a) (nI b) (nI t) = some (nI (Nat.gcd a b)) := by
  intro n
  induction n with
  | zero =>
    intro a b t f ha hb _ ht hf
    obtain ⟨f, rfl⟩ : ∃ g, f = g + 1 := ⟨f - 1, by omega⟩
    have e : b = 0 := by omega
    subst e
    show fLB_X10_commonMeasure_7 a0 a1 _ (nI a) (nI 0) (nI t) = _
    unfold fLB_X10_commonMeasure_7
    rw [if_neg (by rw [show (50 : Int32) = nI 50 from id rfl, le_nn (by omega) (by omega)]; omega), if_pos N_0.symm, Nat.gcd_zero_right]
  | succ n ih =>
    intro a b t f ha hb hn ht hf
    have hp : 2 ^ (n + 1) = 2 * 2 ^ n := by rw [Nat.pow_succ, Nat.mul_comm]
    have hp2 : 2 ^ (n + 1) ≤ 2 ^ 13 := Nat.pow_le_pow_right (by omega) hn
    obtain ⟨f, rfl⟩ : ∃ g, f = g + 1 := ⟨f - 1, by omega⟩
    obtain ⟨f, rfl⟩ : ∃ g, f = g + 1 := ⟨f - 1, by omega⟩
    show fLB_X10_commonMeasure_7 a0 a1 (fLB_X10_commonMeasure_7 a0 a1 (fL_X10_commonMeasure_7 a0 a1 f)) (nI a) (nI b) (nI t) = _
    by_cases b0 : b = 0
    · subst b0
      unfold fLB_X10_commonMeasure_7
      rw [if_neg (by rw [show (50 : Int32) = nI 50 from id rfl, le_nn (by omega) (by omega)]; omega), if_pos N_0.symm, Nat.gcd_zero_right]
    · have hm : a % b < b := Nat.mod_lt _ (by omega)
      have nz : ∀ y, 0 < y → y < 2147483648 → ¬ nI y = (0 : Int32) := fun y h1 h2 q => by
        rw [N_0, eq_nn h2 (by omega)] at q
        omega
      have e1 : fLB_X10_commonMeasure_7 a0 a1 (fLB_X10_commonMeasure_7 a0 a1 (fL_X10_commonMeasure_7 a0 a1 f)) (nI a) (nI b) (nI t) = fLB_X10_commonMeasure_7 a0 a1 (fL_X10_commonMeasure_7 a0 a1 f) (nI b) (nI (a % b)) (nI (t + 1)) := by
        rw [fLB_X10_commonMeasure_7]
        rw [if_neg (by rw [show (50 : Int32) = nI 50 from id rfl, le_nn (by omega) (by omega)]; omega), if_neg (nz b (by omega) (by omega)), if_neg (nz b (by omega) (by omega)), rm_s ha (by omega) (by omega), nm_s, nm_s, nI_1]
      rw [e1]
      have eg : Nat.gcd a b = Nat.gcd b (a % b) := by rw [Nat.gcd_comm a b, Nat.gcd_rec b a, Nat.gcd_comm]
      rw [eg]
      by_cases m0 : a % b = 0
      · rw [m0]
        unfold fLB_X10_commonMeasure_7
        rw [if_neg (by rw [show (50 : Int32) = nI 50 from id rfl, le_nn (by omega) (by omega)]; omega), if_pos N_0.symm, Nat.gcd_zero_right]
      · have hm2 : b % (a % b) < a % b := Nat.mod_lt _ (by omega)
        have hsum : b % (a % b) + (a % b) ≤ b := by
          have := Nat.mod_add_div b (a % b)
          have h1 : 1 ≤ b / (a % b) := (Nat.le_div_iff_mul_le (by omega)).mpr (by omega)
          have h2 : a % b * 1 ≤ a % b * (b / (a % b)) := Nat.mul_le_mul_left _ h1
          omega
        rw [fLB_X10_commonMeasure_7]
        rw [if_neg (by rw [show (50 : Int32) = nI 50 from id rfl, le_nn (by omega) (by omega)]; omega), if_neg (nz _ (by omega) (by omega)), if_neg (nz _ (by omega) (by omega)), rm_s (by omega) (by omega) (by omega), nm_s, nm_s, nI_1, ih (a % b) (b % (a % b)) (t + 1 + 1) f (by omega) (by omega) (by omega) (by omega) (by omega)]
        have eg2 : Nat.gcd b (a % b) = Nat.gcd (a % b) (b % (a % b)) := by rw [Nat.gcd_comm b, Nat.gcd_rec (a % b) b, Nat.gcd_comm]
        rw [eg2]
theorem gcd_m {a0 a1 : Int32} : ∀ n a b f, a < 2147483648 → b ≤ n → n < 2147483648 → n < f → fL_X11_divisor_4 a0 a1 f (nI a) (nI b) = some (nI (Nat.gcd a b)) := by
  intro n
  induction n with
  | zero =>
    intro a b f ha hb hn hf
    obtain ⟨f, rfl⟩ : ∃ g, f = g + 1 := ⟨f - 1, by omega⟩
    have e : b = 0 := by omega
    subst e
    show fLB_X11_divisor_4 a0 a1 _ (nI a) (nI 0) = _
    unfold fLB_X11_divisor_4
    rw [if_pos (by decide), Nat.gcd_zero_right]
  | succ n ih =>
    intro a b f ha hb hn hf
    obtain ⟨f, rfl⟩ : ∃ g, f = g + 1 := ⟨f - 1, by omega⟩
    show fLB_X11_divisor_4 a0 a1 (fL_X11_divisor_4 a0 a1 f) (nI a) (nI b) = _
    by_cases b0 : b = 0
    · subst b0
      unfold fLB_X11_divisor_4
      rw [if_pos (by decide), Nat.gcd_zero_right]
    · have hm : a % b < b := Nat.mod_lt _ (by omega)
      have eg : Nat.gcd a b = Nat.gcd b (a % b) := by rw [Nat.gcd_comm a b, Nat.gcd_rec b a, Nat.gcd_comm]
      unfold fLB_X11_divisor_4
      rw [N_0, if_neg (by rw [le_nn (by omega) (by omega)]; omega), if_neg (by rw [eq_nn (by omega) (by omega)]; omega), rm_s ha (by omega) (by omega), nm_s, eg]
      exact ih b (a % b) f (by omega) (by omega) (by omega) (by omega)
theorem mrule_s {I : HI} {J : HJ} {c : Nat} {v : Nat → Int32} {x a1 : Int32} (h : Look I c v) (hv : ∀ j, j < c → 0 ≤ (v j).toInt) : ∀ d b f, 1 ≤ b → b + d + 1 = max c 2 → d < f → ∀ al go, fL_X11_rule_36 x a1 f (nI al) (nI go) (nI b) I J = fLB_X11_rule_36 x a1 (fun _ _ _ _ _ => none) (nI (al + c2 (apQ v x) b d)) (nI (go + c2 (lkQ v x) b d)) (nI (b + d)) I J := by
  obtain ⟨hc, hl, hk⟩ := h
  have inner : ∀ (g : Int32 → Int32 → Int32 → HI → HJ → Option (Int32 × HI)) (b : Nat), b + 1 < c → ∀ d i f, i + d = b → d < f → ∀ al go, fL_X11_rule_50 x a1 g f (nI al) (nI go) (nI b) (nI i) I J = g (nI (al + cN' (apQ v x b) i d)) (nI (go + cN' (lkQ v x b) i d)) (nI (b + 1)) I J := by
    intro g b hb d
    induction d with
    | zero =>
      intro i f hi hf al go
      obtain ⟨f, rfl⟩ : ∃ g, f = g + 1 := ⟨f - 1, by omega⟩
      show fLB_X11_rule_50 x a1 g _ (nI al) (nI go) (nI b) (nI i) I J = g (nI al) (nI go) (nI (b + 1)) I J
      unfold fLB_X11_rule_50
      rw [if_pos (by rw [le_nn (by omega) (by omega)]; omega), nI_1, nm_s]
    | succ d ih =>
      intro i f hi hf al go
      obtain ⟨f, rfl⟩ : ∃ g, f = g + 1 := ⟨f - 1, by omega⟩
      show fLB_X11_rule_50 x a1 g (fL_X11_rule_50 x a1 g f) (nI al) (nI go) (nI b) (nI i) I J = g (nI (al + ((if apQ v x b i then 1 else 0) + cN' (apQ v x b) (i + 1) d))) (nI (go + ((if lkQ v x b i then 1 else 0) + cN' (lkQ v x b) (i + 1) d))) (nI (b + 1)) I J
      unfold fLB_X11_rule_50 fB_X11_rule_113 fB_X11_rule_116
      rw [if_neg (by rw [le_nn (by omega) (by omega)]; omega), if_pos (vin_nI (by omega) (by omega)), if_pos (vin_nI (by omega) (by omega)), cl_nI (by omega), cl_nI (by omega), hk _ (by omega), hk _ (by omega), off_s (hv _ (by omega)) (hv _ (by omega)), bd1_s, nI_1, nI_1, nI_1, nm_s, nm_s]
      by_cases e : x < jabs (v i - v b)
      · rw [if_pos e, if_neg (show ¬ apQ v x b i from not_not_intro e), if_neg (show ¬ lkQ v x b i from fun q => q.1 e), ih (i + 1) f (by omega) (by omega), Nat.zero_add, Nat.zero_add]
      · rw [if_neg e, if_pos (show apQ v x b i from e), nm_s, if_pos (vin_nI (by omega) (by omega)), if_pos (vin_nI (by omega) (by omega)), cl_nI (by omega), cl_nI (by omega), hk _ (by omega), hk _ (by omega), off_s (hv _ (by omega)) (hv _ (by omega)), bd1_s, nm_s, nm_s, nm_s]
        by_cases e2 : x < jabs (v (i + 1) - v (b + 1))
        · rw [if_pos e2, if_neg (show ¬ lkQ v x b i from fun q => q.2 e2), Int32.add_zero, ih (i + 1) f (by omega) (by omega), Nat.zero_add, Nat.add_assoc]
        · rw [if_neg e2, if_pos (show lkQ v x b i from ⟨e, e2⟩), nI_1, ih (i + 1) f (by omega) (by omega), Nat.add_assoc, Nat.add_assoc]
  intro d
  induction d with
  | zero =>
    intro b f h1b hi hf al go
    obtain ⟨f, rfl⟩ : ∃ g, f = g + 1 := ⟨f - 1, by omega⟩
    show fLB_X11_rule_36 x a1 _ (nI al) (nI go) (nI b) I J = fLB_X11_rule_36 x a1 _ (nI al) (nI go) (nI b) I J
    unfold fLB_X11_rule_36
    have hle : nI c ≤ nI (b + 1) := by rw [le_nn (by omega) (by omega)]; omega
    rw [hl, nI_1, if_pos hle, if_pos hle]
  | succ d ih =>
    intro b f h1b hi hf al go
    obtain ⟨f, rfl⟩ : ∃ g, f = g + 1 := ⟨f - 1, by omega⟩
    show fLB_X11_rule_36 x a1 (fL_X11_rule_36 x a1 f) (nI al) (nI go) (nI b) I J = fLB_X11_rule_36 x a1 (fun _ _ _ _ _ => none) (nI (al + (cN' (apQ v x b) 0 b + c2 (apQ v x) (b + 1) d))) (nI (go + (cN' (lkQ v x b) 0 b + c2 (lkQ v x) (b + 1) d))) (nI (b + (d + 1))) I J
    have e := ih (b + 1) f (by omega) (by omega) (by omega) (al + cN' (apQ v x b) 0 b) (go + cN' (lkQ v x b) 0 b)
    rw [Nat.add_assoc, Nat.add_assoc, show b + 1 + d = b + (d + 1) by omega] at e
    rw [← e]
    rw [fLB_X11_rule_36]
    rw [hl, nI_1, if_neg (by rw [le_nn (by omega) (by omega)]; omega)]
    exact inner _ b (by omega) b 0 FU (by omega) (FU_ge (by omega)) al go
theorem sim_rule {N : Nat} {I : HI} {J : HJ} (hN : N ≤ 1000000) (hR : Rel N I J) (a0 : Int32) (a1 : Int32) : ∃ (r : Int32) (I2 : HI), f_X10_rule a0 a1 I J = some r ∧ f_X11_rule a0 a1 I J = some (r, I2) ∧ Rel (N + 400) I2 J := by
  have hM := hR.mono (Nat.le_add_right N 400)
  by_cases h : nI 0 ≤ a0 ∧ a0 ≤ nI 9999
  · by_cases h' : nI 0 ≤ a1 ∧ a1 ≤ nI 1
    · obtain ⟨n, hn, rfl⟩ := rng (by omega) h'
      obtain ⟨c, v, I1, h1, h2, h3, h4, h5, h6⟩ := rows_s hR
      have hc := h1.2.1
      obtain ⟨al, hal⟩ : ∃ al, al = c2 (apQ v a0) 1 (c - 2) := ⟨_, rfl⟩
      obtain ⟨go, hgo⟩ : ∃ go, go = c2 (lkQ v a0) 1 (c - 2) := ⟨_, rfl⟩
      have bal : al ≤ 3600 := by
        by_cases hc2 : 2 ≤ c
        · have := c2_le (apQ v a0) (c - 2) 1 (by omega); omega
        · rw [hal, show c - 2 = 0 by omega]; exact Nat.zero_le _
      have bgo : go ≤ 3600 := by
        by_cases hc2 : 2 ≤ c
        · have := c2_le (lkQ v a0) (c - 2) 1 (by omega); omega
        · rw [hgo, show c - 2 = 0 by omega]; exact Nat.zero_le _
      have k1 : f_X9_countTwos 2 a0 (nI 0) I J = some (nI al) := by rw [hal]; exact ctwo_s (apQ v a0) h1 (Or.inl ⟨rfl, fun b a => Iff.rfl⟩)
      have k2 : f_X9_countTwos 2 a0 (nI 1) I J = some (nI go) := by rw [hgo]; exact ctwo_s (lkQ v a0) h1 (Or.inr ⟨rfl, fun b a => Iff.rfl⟩)
      have m1 := mrule_s (J := J) (x := a0) (a1 := nI n) h5 h2 (max c 2 - 2) 1 FU (by omega) (by omega) (FU_ge (by omega)) 0 0
      rw [Nat.zero_add, Nat.zero_add, show max c 2 - 2 = c - 2 by omega, ← hal, ← hgo] at m1
      have hle : c ≤ 1 + (c - 2) + 1 := by omega
      have g1 : f_X10_commonMeasure (nI go) (nI al) = some (nI (Nat.gcd go al)) := gcd_c 12 go al 0 FU (by omega) (by omega) (by omega) (by omega) (FU_ge (by omega))
      have g2 : f_X11_divisor (nI go) (nI al) = some (nI (Nat.gcd go al)) := gcd_m 3600 go al FU (by omega) bal (by omega) (FU_ge (by omega))
      by_cases z : al = 0
      · refine ⟨-3, I1, ?_, ?_, h6⟩
        · unfold f_X10_rule
          simp (disch := omega) only [bd1_s, bd2_s, bd3_s, nm_s, wi_s, ite_bI, bI_1, le_pred, if_true, in_x, cl_nI, vin_nI, nI_add, nI_mul, le_nn, lt_nn, eq_nn, sb, reduceIte, N_0, N_1, N_2, N_3, N_4, N_5, N_6, N_7, N_8, N_9, N_10, N_11, N_12, N_13, N_14, N_16, N_20, N_30, N_31, N_32, N_37, N_40, N_41, N_42, N_43, N_45, N_47, N_48, N_50, N_57, N_59, N_60, N_61, N_62, N_70, N_71, N_72, N_80, N_81, N_82, N_83, N_97, N_98, N_99, N_100, N_101, N_102, N_103, N_104, N_105, N_107, N_108, N_110, N_111, N_112, N_114, N_115, N_116, N_117, N_119, N_121, N_122, N_200, N_220, N_255, N_256, N_257, N_258, N_400, N_438, N_446, N_666, N_999, N_9999, N_10000, N_10010, N_10011, N_10012, N_10013, N_10014, N_10015, N_10016, N_10017, N_10018, N_12345, N_20000, N_20126, N_99999, N_1103515245, L_m999, L_m1, L_0, L_1, L_2, L_3, L_4, L_7, L_8, L_9, L_10, L_12, L_14, L_40, L_48, L_57, L_97, L_99, L_122, L_255, L_400, L_999, L_9999, if_pos, if_neg, pE, pN, cE, cN, k1]
          all_goals try rw [if_pos h]
        · unfold f_X11_rule
          simp (disch := omega) only [bd1_s, bd2_s, bd3_s, nm_s, wi_s, ite_bI, bI_1, le_pred, if_true, in_x, cl_nI, vin_nI, nI_add, nI_mul, le_nn, lt_nn, eq_nn, sb, reduceIte, N_0, N_1, N_2, N_3, N_4, N_5, N_6, N_7, N_8, N_9, N_10, N_11, N_12, N_13, N_14, N_16, N_20, N_30, N_31, N_32, N_37, N_40, N_41, N_42, N_43, N_45, N_47, N_48, N_50, N_57, N_59, N_60, N_61, N_62, N_70, N_71, N_72, N_80, N_81, N_82, N_83, N_97, N_98, N_99, N_100, N_101, N_102, N_103, N_104, N_105, N_107, N_108, N_110, N_111, N_112, N_114, N_115, N_116, N_117, N_119, N_121, N_122, N_200, N_220, N_255, N_256, N_257, N_258, N_400, N_438, N_446, N_666, N_999, N_9999, N_10000, N_10010, N_10011, N_10012, N_10013, N_10014, N_10015, N_10016, N_10017, N_10018, N_12345, N_20000, N_20126, N_99999, N_1103515245, L_m999, L_m1, L_0, L_1, L_2, L_3, L_4, L_7, L_8, L_9, L_10, L_12, L_14, L_40, L_48, L_57, L_97, L_99, L_122, L_255, L_400, L_999, L_9999, if_pos, if_neg, pE, pN, cE, cN, h4]
          all_goals try rw [if_pos h]
          refine Eq.trans m1 ?_
          unfold fLB_X11_rule_36
          simp (disch := omega) only [bd1_s, bd2_s, bd3_s, nm_s, wi_s, ite_bI, bI_1, le_pred, if_true, in_x, cl_nI, vin_nI, nI_add, nI_mul, le_nn, lt_nn, eq_nn, sb, reduceIte, N_0, N_1, N_2, N_3, N_4, N_5, N_6, N_7, N_8, N_9, N_10, N_11, N_12, N_13, N_14, N_16, N_20, N_30, N_31, N_32, N_37, N_40, N_41, N_42, N_43, N_45, N_47, N_48, N_50, N_57, N_59, N_60, N_61, N_62, N_70, N_71, N_72, N_80, N_81, N_82, N_83, N_97, N_98, N_99, N_100, N_101, N_102, N_103, N_104, N_105, N_107, N_108, N_110, N_111, N_112, N_114, N_115, N_116, N_117, N_119, N_121, N_122, N_200, N_220, N_255, N_256, N_257, N_258, N_400, N_438, N_446, N_666, N_999, N_9999, N_10000, N_10010, N_10011, N_10012, N_10013, N_10014, N_10015, N_10016, N_10017, N_10018, N_12345, N_20000, N_20126, N_99999, N_1103515245, L_m999, L_m1, L_0, L_1, L_2, L_3, L_4, L_7, L_8, L_9, L_10, L_12, L_14, L_40, L_48, L_57, L_97, L_99, L_122, L_255, L_400, L_999, L_9999, if_pos, if_neg, pE, pN, cE, cN, h5.2.1]
      · have hg : 0 < Nat.gcd go al := Nat.gcd_pos_of_pos_right _ (by omega)
        have hg2 : Nat.gcd go al ≤ al := Nat.gcd_le_right _ (by omega)
        refine ⟨if n = 0 then nI go / nI (Nat.gcd go al) else nI al / nI (Nat.gcd go al), I1, ?_, ?_, h6⟩
        · unfold f_X10_rule fB_X10_rule_82
          simp (disch := omega) only [bd1_s, bd2_s, bd3_s, nm_s, wi_s, ite_bI, bI_1, le_pred, if_true, in_x, cl_nI, vin_nI, nI_add, nI_mul, le_nn, lt_nn, eq_nn, sb, reduceIte, N_0, N_1, N_2, N_3, N_4, N_5, N_6, N_7, N_8, N_9, N_10, N_11, N_12, N_13, N_14, N_16, N_20, N_30, N_31, N_32, N_37, N_40, N_41, N_42, N_43, N_45, N_47, N_48, N_50, N_57, N_59, N_60, N_61, N_62, N_70, N_71, N_72, N_80, N_81, N_82, N_83, N_97, N_98, N_99, N_100, N_101, N_102, N_103, N_104, N_105, N_107, N_108, N_110, N_111, N_112, N_114, N_115, N_116, N_117, N_119, N_121, N_122, N_200, N_220, N_255, N_256, N_257, N_258, N_400, N_438, N_446, N_666, N_999, N_9999, N_10000, N_10010, N_10011, N_10012, N_10013, N_10014, N_10015, N_10016, N_10017, N_10018, N_12345, N_20000, N_20126, N_99999, N_1103515245, L_m999, L_m1, L_0, L_1, L_2, L_3, L_4, L_7, L_8, L_9, L_10, L_12, L_14, L_40, L_48, L_57, L_97, L_99, L_122, L_255, L_400, L_999, L_9999, if_pos, if_neg, pE, pN, cE, cN, k1, k2, g1]
          all_goals try rw [if_pos h]
          by_cases n0 : n = 0
          · rw [if_pos n0, if_pos n0]
          · rw [if_neg n0, if_neg n0]
        · unfold f_X11_rule
          simp (disch := omega) only [bd1_s, bd2_s, bd3_s, nm_s, wi_s, ite_bI, bI_1, le_pred, if_true, in_x, cl_nI, vin_nI, nI_add, nI_mul, le_nn, lt_nn, eq_nn, sb, reduceIte, N_0, N_1, N_2, N_3, N_4, N_5, N_6, N_7, N_8, N_9, N_10, N_11, N_12, N_13, N_14, N_16, N_20, N_30, N_31, N_32, N_37, N_40, N_41, N_42, N_43, N_45, N_47, N_48, N_50, N_57, N_59, N_60, N_61, N_62, N_70, N_71, N_72, N_80, N_81, N_82, N_83, N_97, N_98, N_99, N_100, N_101, N_102, N_103, N_104, N_105, N_107, N_108, N_110, N_111, N_112, N_114, N_115, N_116, N_117, N_119, N_121, N_122, N_200, N_220, N_255, N_256, N_257, N_258, N_400, N_438, N_446, N_666, N_999, N_9999, N_10000, N_10010, N_10011, N_10012, N_10013, N_10014, N_10015, N_10016, N_10017, N_10018, N_12345, N_20000, N_20126, N_99999, N_1103515245, L_m999, L_m1, L_0, L_1, L_2, L_3, L_4, L_7, L_8, L_9, L_10, L_12, L_14, L_40, L_48, L_57, L_97, L_99, L_122, L_255, L_400, L_999, L_9999, if_pos, if_neg, pE, pN, cE, cN, h4]
          all_goals try rw [if_pos h]
          refine Eq.trans m1 ?_
          unfold fLB_X11_rule_36
          simp (disch := omega) only [bd1_s, bd2_s, bd3_s, nm_s, wi_s, ite_bI, bI_1, le_pred, if_true, in_x, cl_nI, vin_nI, nI_add, nI_mul, le_nn, lt_nn, eq_nn, sb, reduceIte, N_0, N_1, N_2, N_3, N_4, N_5, N_6, N_7, N_8, N_9, N_10, N_11, N_12, N_13, N_14, N_16, N_20, N_30, N_31, N_32, N_37, N_40, N_41, N_42, N_43, N_45, N_47, N_48, N_50, N_57, N_59, N_60, N_61, N_62, N_70, N_71, N_72, N_80, N_81, N_82, N_83, N_97, N_98, N_99, N_100, N_101, N_102, N_103, N_104, N_105, N_107, N_108, N_110, N_111, N_112, N_114, N_115, N_116, N_117, N_119, N_121, N_122, N_200, N_220, N_255, N_256, N_257, N_258, N_400, N_438, N_446, N_666, N_999, N_9999, N_10000, N_10010, N_10011, N_10012, N_10013, N_10014, N_10015, N_10016, N_10017, N_10018, N_12345, N_20000, N_20126, N_99999, N_1103515245, L_m999, L_m1, L_0, L_1, L_2, L_3, L_4, L_7, L_8, L_9, L_10, L_12, L_14, L_40, L_48, L_57, L_97, L_99, L_122, L_255, L_400, L_999, L_9999, if_pos, if_neg, pE, pN, cE, cN, h5.2.1, g2]
          by_cases n0 : n = 0
          · rw [if_pos n0, if_pos n0]
          · rw [if_neg n0, if_neg n0]
    · refine ⟨-1, I, ?_, ?_, hM⟩
      · unfold f_X10_rule
        simp (disch := omega) only [bd1_s, bd2_s, bd3_s, nm_s, wi_s, ite_bI, bI_1, le_pred, if_true, in_x, cl_nI, vin_nI, nI_add, nI_mul, le_nn, lt_nn, eq_nn, sb, reduceIte, N_0, N_1, N_2, N_3, N_4, N_5, N_6, N_7, N_8, N_9, N_10, N_11, N_12, N_13, N_14, N_16, N_20, N_30, N_31, N_32, N_37, N_40, N_41, N_42, N_43, N_45, N_47, N_48, N_50, N_57, N_59, N_60, N_61, N_62, N_70, N_71, N_72, N_80, N_81, N_82, N_83, N_97, N_98, N_99, N_100, N_101, N_102, N_103, N_104, N_105, N_107, N_108, N_110, N_111, N_112, N_114, N_115, N_116, N_117, N_119, N_121, N_122, N_200, N_220, N_255, N_256, N_257, N_258, N_400, N_438, N_446, N_666, N_999, N_9999, N_10000, N_10010, N_10011, N_10012, N_10013, N_10014, N_10015, N_10016, N_10017, N_10018, N_12345, N_20000, N_20126, N_99999, N_1103515245, L_m999, L_m1, L_0, L_1, L_2, L_3, L_4, L_7, L_8, L_9, L_10, L_12, L_14, L_40, L_48, L_57, L_97, L_99, L_122, L_255, L_400, L_999, L_9999]
        rw [if_pos h, if_neg h']
      · unfold f_X11_rule
        simp (disch := omega) only [bd1_s, bd2_s, bd3_s, nm_s, wi_s, ite_bI, bI_1, le_pred, if_true, in_x, cl_nI, vin_nI, nI_add, nI_mul, le_nn, lt_nn, eq_nn, sb, reduceIte, N_0, N_1, N_2, N_3, N_4, N_5, N_6, N_7, N_8, N_9, N_10, N_11, N_12, N_13, N_14, N_16, N_20, N_30, N_31, N_32, N_37, N_40, N_41, N_42, N_43, N_45, N_47, N_48, N_50, N_57, N_59, N_60, N_61, N_62, N_70, N_71, N_72, N_80, N_81, N_82, N_83, N_97, N_98, N_99, N_100, N_101, N_102, N_103, N_104, N_105, N_107, N_108, N_110, N_111, N_112, N_114, N_115, N_116, N_117, N_119, N_121, N_122, N_200, N_220, N_255, N_256, N_257, N_258, N_400, N_438, N_446, N_666, N_999, N_9999, N_10000, N_10010, N_10011, N_10012, N_10013, N_10014, N_10015, N_10016, N_10017, N_10018, N_12345, N_20000, N_20126, N_99999, N_1103515245, L_m999, L_m1, L_0, L_1, L_2, L_3, L_4, L_7, L_8, L_9, L_10, L_12, L_14, L_40, L_48, L_57, L_97, L_99, L_122, L_255, L_400, L_999, L_9999]
        rw [if_pos h, if_neg h']
  · refine ⟨-1, I, ?_, ?_, hM⟩
    · unfold f_X10_rule
      simp (disch := omega) only [bd1_s, bd2_s, bd3_s, nm_s, wi_s, ite_bI, bI_1, le_pred, if_true, in_x, cl_nI, vin_nI, nI_add, nI_mul, le_nn, lt_nn, eq_nn, sb, reduceIte, N_0, N_1, N_2, N_3, N_4, N_5, N_6, N_7, N_8, N_9, N_10, N_11, N_12, N_13, N_14, N_16, N_20, N_30, N_31, N_32, N_37, N_40, N_41, N_42, N_43, N_45, N_47, N_48, N_50, N_57, N_59, N_60, N_61, N_62, N_70, N_71, N_72, N_80, N_81, N_82, N_83, N_97, N_98, N_99, N_100, N_101, N_102, N_103, N_104, N_105, N_107, N_108, N_110, N_111, N_112, N_114, N_115, N_116, N_117, N_119, N_121, N_122, N_200, N_220, N_255, N_256, N_257, N_258, N_400, N_438, N_446, N_666, N_999, N_9999, N_10000, N_10010, N_10011, N_10012, N_10013, N_10014, N_10015, N_10016, N_10017, N_10018, N_12345, N_20000, N_20126, N_99999, N_1103515245, L_m999, L_m1, L_0, L_1, L_2, L_3, L_4, L_7, L_8, L_9, L_10, L_12, L_14, L_40, L_48, L_57, L_97, L_99, L_122, L_255, L_400, L_999, L_9999]
      rw [if_neg h]
    · unfold f_X11_rule
      simp (disch := omega) only [bd1_s, bd2_s, bd3_s, nm_s, wi_s, ite_bI, bI_1, le_pred, if_true, in_x, cl_nI, vin_nI, nI_add, nI_mul, le_nn, lt_nn, eq_nn, sb, reduceIte, N_0, N_1, N_2, N_3, N_4, N_5, N_6, N_7, N_8, N_9, N_10, N_11, N_12, N_13, N_14, N_16, N_20, N_30, N_31, N_32, N_37, N_40, N_41, N_42, N_43, N_45, N_47, N_48, N_50, N_57, N_59, N_60, N_61, N_62, N_70, N_71, N_72, N_80, N_81, N_82, N_83, N_97, N_98, N_99, N_100, N_101, N_102, N_103, N_104, N_105, N_107, N_108, N_110, N_111, N_112, N_114, N_115, N_116, N_117, N_119, N_121, N_122, N_200, N_220, N_255, N_256, N_257, N_258, N_400, N_438, N_446, N_666, N_999, N_9999, N_10000, N_10010, N_10011, N_10012, N_10013, N_10014, N_10015, N_10016, N_10017, N_10018, N_12345, N_20000, N_20126, N_99999, N_1103515245, L_m999, L_m1, L_0, L_1, L_2, L_3, L_4, L_7, L_8, L_9, L_10, L_12, L_14, L_40, L_48, L_57, L_97, L_99, L_122, L_255, L_400, L_999, L_9999]
      rw [if_neg h]

/-! the pure part: loops by fuel; the two halves of the heap -/
theorem fuel {α : Type} {L : Nat → α} {B : α → α} (hL : ∀ f, L (f + 1) = B (L f)) {P : Nat → α → Prop} {N : Nat} (hend : ∀ g, P N (B g)) (hstep : ∀ i g, i < N → P (i + 1) g → P i (B g)) : ∀ (d i f : Nat), i + d = N → d < f → P i (L f) := by
  intro d
  induction d with
  | zero =>
    intro i f hi hf
    obtain ⟨f, rfl⟩ : ∃ g, f = g + 1 := ⟨f - 1, by omega⟩
    have e : i = N := by omega
    rw [hL, e]
    exact hend _
  | succ d ih =>
    intro i f hi hf
    obtain ⟨f, rfl⟩ : ∃ g, f = g + 1 := ⟨f - 1, by omega⟩
    rw [hL]
    exact hstep i _ (by omega) (ih (i + 1) f (by omega) (by omega))
def bI (p : Prop) [Decidable p] : Int32 := if p then 1 else 0
theorem bI_t {p : Prop} [Decidable p] (h : p) : bI p = 1 := if_pos h
theorem bI_f {p : Prop} [Decidable p] (h : ¬ p) : bI p = 0 := if_neg h
theorem bI_0 {p : Prop} [Decidable p] : (bI p = 0) = ¬ p := by
  unfold bI
  by_cases h : p <;> simp [h]
theorem bI_zb {p : Prop} [Decidable p] : zb (bI p) = true := by
  unfold bI
  by_cases h : p <;> simp [h, zb]
theorem ite_bI {p : Prop} [Decidable p] {α : Type} (a b : α) : (if bI p = 0 then a else b) = if p then b else a := by
  unfold bI
  by_cases h : p <;> simp [h]
theorem wi_s (a lo hi : Int32) : f_X10_isWithin a lo hi = some (bI (lo ≤ a ∧ a ≤ hi)) := by
  unfold f_X10_isWithin bI
  by_cases h1 : a < lo
  · rw [if_pos h1, if_neg (fun h => by have h2 := i_le.mp h.1; have h3 := i_lt.mp h1; omega)]
  · rw [if_neg h1]
    by_cases h2 : hi < a
    · rw [if_pos h2, if_neg (fun h => by have h3 := i_le.mp h.2; have h4 := i_lt.mp h2; omega)]
    · rw [if_neg h2, if_pos ⟨by rw [i_lt] at h1; rw [i_le]; omega, by rw [i_lt] at h2; rw [i_le]; omega⟩]
theorem cmp_lt {x y : Int64} : lg_cmp x y < 0 ↔ x < y := by
  unfold lg_cmp
  by_cases h : y < x
  · rw [if_pos h]
    exact ⟨fun q => absurd q (by decide), fun q => absurd h (Int64.not_lt.mpr (Int64.le_of_lt q))⟩
  · rw [if_neg h]
    by_cases h2 : x = y
    · rw [if_pos h2]
      exact ⟨fun q => absurd q (by decide), fun q => by rw [h2] at q; exact absurd q (Int64.lt_irrefl)⟩
    · rw [if_neg h2]
      exact ⟨fun _ => Int64.lt_of_le_of_ne (Int64.not_lt.mp h) h2, fun _ => by decide⟩
theorem cmp_gt {x y : Int64} : 0 < lg_cmp x y ↔ y < x := by
  unfold lg_cmp
  by_cases h : y < x
  · rw [if_pos h]
    exact ⟨fun _ => h, fun _ => by decide⟩
  · rw [if_neg h]
    by_cases h2 : x = y
    · rw [if_pos h2]
      exact ⟨fun q => absurd q (by decide), fun q => absurd q h⟩
    · rw [if_neg h2]
      exact ⟨fun q => absurd q (by decide), fun q => absurd q h⟩
theorem l_lt {a b : Int32} : (a.toInt64 < b.toInt64) ↔ a < b := by
  rw [Int64.lt_iff_toInt_lt, Int32.toInt_toInt64, Int32.toInt_toInt64, i_lt]
theorem in_s {a l h : Int32} {lo hi : Int64} (e1 : l.toInt64 = lo) (e2 : h.toInt64 = hi) : f_X11_in a.toInt64 lo hi = some (bI (l ≤ a ∧ a ≤ h)) := by
  subst e1
  subst e2
  unfold f_X11_in bI
  by_cases h1 : a < l
  · rw [if_pos (cmp_lt.mpr (l_lt.mpr h1)), if_neg (fun h => by have h2 := i_le.mp h.1; have h3 := i_lt.mp h1; omega)]
  · rw [if_neg (fun q => h1 (l_lt.mp (cmp_lt.mp q)))]
    by_cases h2 : h < a
    · rw [if_pos (cmp_gt.mpr (l_lt.mpr h2)), if_neg (fun h => by have h3 := i_le.mp h.2; have h4 := i_lt.mp h2; omega)]
    · rw [if_neg (fun q => h2 (l_lt.mp (cmp_gt.mp q))), if_pos ⟨by rw [i_lt] at h1; rw [i_le]; omega, by rw [i_lt] at h2; rw [i_le]; omega⟩]
/-! what the two halves have in common -/
def TapR (N k s w : Nat) (I : HI) (J : HJ) : Prop :=
  (∀ j, j < 9 → I k (j + 1) = I s j) ∧ (∃ c, c ≤ 60 ∧ I (k + 1) 1 = nI c ∧ I s 9 = nI c ∧ ∀ i, i < c → I (k + 2) i = I s (12 + i) ∧ 0 ≤ (I s (12 + i)).toInt) ∧
  (J k 10 = J w 0 ∧ J k 11 = J w 1 ∧ (I k 12).toInt64 = J w 2) ∧ (0 ≤ (I s 0).toInt ∧ (I s 0).toInt ≤ 99999) ∧ (0 ≤ (I s 4).toInt ∧ (I s 4).toInt ≤ N) ∧ 0 ≤ (I s 7).toInt ∧ (I s 7).toInt ≤ 99
def trC (c : Int32) : Int32 := if c = 20043 then 10011 else if c = 20045 then 10012 else if c = 20042 then 10013 else if c = 20047 then 10014 else if c = 20037 then 10015 else if c = 20060 then 10016 else if c = 20061 then 10017 else if c = 20062 then 10018 else if c = 20126 then 10010 else c
def isSg (c : Int32) : Prop := c = 20043 ∨ c = 20045 ∨ c = 20042 ∨ c = 20047 ∨ c = 20037 ∨ c = 20060 ∨ c = 20061 ∨ c = 20062
def isVal (c : Int32) : Prop := (0 ≤ c.toInt ∧ c.toInt ≤ 9999) ∨ (10000 ≤ c.toInt ∧ c.toInt ≤ 10006)
/-- the height of the stack behind n cells, from height h -/
def hgt (f : Nat → Int32) : Nat → Nat → Nat → Prop
  | 0, h, h1 => h1 = h
  | n + 1, h, h1 => ∃ m, hgt f n h m ∧ ((isVal (f n) ∧ m < 32 ∧ h1 = m + 1) ∨ (f n = 20126 ∧ 0 < m ∧ m ≤ 32 ∧ h1 = m) ∨ (isSg (f n) ∧ 2 ≤ m ∧ m ≤ 32 ∧ h1 = m - 1))
def LawR1 (k s q : Nat) (I : HI) : Prop := ∃ n fr, n ≤ 200 ∧ I (k + 6) q = nI n ∧ hgt (I (k + 2 + q)) n 0 1 ∧ fr + n ≤ 220 ∧ I s (438 + 2 * q) = nI fr ∧ I s (439 + 2 * q) = nI (fr + n) ∧ (∀ i, i < n → I s (446 + fr + i) = trC (I (k + 2 + q) i)) ∧ I (k + 7) q = bI (12 ≤ fr)
def LawR (k s : Nat) (I : HI) : Prop := (∀ q, q < 4 → LawR1 k s q I) ∧ I s 11 = I (k + 7) 0 + I (k + 7) 1 + I (k + 7) 2 + I (k + 7) 3 ∧ ∀ i, i < 12 → I s (446 + i) = I 103 i
def RecR1 (k s r : Nat) (I : HI) : Prop := ∃ c, c ≤ 60 ∧ I (k + 2 + 2 * r) 1 = nI c ∧ I s (72 + 61 * r) = nI c ∧ ∀ i, i < c → I (k + 3 + 2 * r) i = I s (73 + 61 * r + i)
def RecR (k s : Nat) (I : HI) : Prop := ∃ m, m ≤ 6 ∧ I k 1 = nI m ∧ I s 10 = nI m ∧ ∀ r, r < m → RecR1 k s r I
def KeptR (N : Nat) (I : HI) (J : HJ) : Prop := I 0 6 = I 98 4 ∧ (I 0 6 = 0 ∨ (I 0 6 = 1 ∧ TapR N 27 100 102 I J ∧ LawR 30 100 I ∧ RecR 39 100 I))
def ProofR (I : HI) : Prop := ∃ m, m ≤ 12 ∧ I 70 1 = nI m ∧ I 98 29 = nI m ∧ ∀ i, i < m → I (72 + i) 0 = I 115 (2 * i) ∧ I (72 + i) 1 = I 115 (2 * i + 1)
def SheetR (I : HI) : Prop := ∀ k, k < 4 → ∃ c, c ≤ 40 ∧ I 85 k = I 116 k ∧ I 86 k = nI c ∧ I 117 k = nI c ∧ -1 ≤ (I 116 k).toInt ∧ (I 116 k).toInt ≤ 4 ∧ (I 116 k = -1 → c = 0) ∧ ∀ i, i < c → I (88 + k) i = I 118 (40 * k + i)
def ShelfR (I : HI) : Prop := ∀ k, k < 4 → I 93 k = I 119 k ∧ ((I 119 k = 0 ∧ I 94 k = I 120 k ∧ 0 ≤ (I 120 k).toInt) ∨ (I 119 k = 1 ∧ I 94 k = I 120 k ∧ 0 ≤ (I 120 k).toInt ∧ (I 120 k).toInt ≤ 3) ∨ (I 119 k = 2 ∧ I 94 k = I 120 k ∧ 0 ≤ (I 120 k).toInt ∧ (I 120 k).toInt ≤ 4 ∧ I 95 k = I 121 k) ∨ I 119 k = 3)
def ActR (I : HI) : Prop := ∃ m, m ≤ 30 ∧ I 96 1 = nI m ∧ I 98 40 = nI m ∧ ∀ i, i < m → I 97 i = I 122 i
def TapeR (I : HI) : Prop := ∃ m, m ≤ 200 ∧ I 59 2 = nI m ∧ I 98 19 = nI m ∧ ∀ i, i < m → I 69 i = I 110 i ∧ 0 ≤ (I 110 i).toInt ∧ (I 110 i).toInt ≤ 255
def ConstR (I : HI) : Prop := I 103 = I0 103 ∧ I 104 = I0 104 ∧ I 105 = I0 105
def Rel (N : Nat) (I : HI) (J : HJ) : Prop := TapR N 1 99 101 I J ∧ LawR 4 99 I ∧ RecR 13 99 I ∧ KeptR N I J ∧ ProofR I ∧ SheetR I ∧ ShelfR I ∧ ActR I ∧ TapeR I ∧ ConstR I
/-! what a part of the relation reads -/
theorem TapR.of {N k s w : Nat} {I I2 : HI} {J J2 : HJ} (h : TapR N k s w I J) (h1 : ∀ j, 1 ≤ j → j ≤ 12 → I2 k j = I k j) (h2 : I2 (k + 1) 1 = I (k + 1) 1) (h3 : ∀ i, i < 60 → I2 (k + 2) i = I (k + 2) i) (h4 : ∀ j, j < 72 → j ≠ 10 → j ≠ 11 → I2 s j = I s j) (h5 : J2 k = J k) (h6 : J2 w = J w) : TapR N k s w I2 J2 := by
  obtain ⟨a1, ⟨c, c0, c1, c2, c3⟩, a3, a4, a5, a6⟩ := h
  refine ⟨fun j hj => ?_, ⟨c, c0, ?_, ?_, fun i hi => ?_⟩, ?_, ?_, ?_, ?_⟩
  · rw [h1 _ (by omega) (by omega), h4 _ (by omega) (by omega) (by omega)]; exact a1 j hj
  · rw [h2]; exact c1
  · rw [h4 _ (by omega) (by omega) (by omega)]; exact c2
  · rw [h3 _ (by omega), h4 _ (by omega) (by omega) (by omega)]; exact c3 i hi
  · rw [h5, h6, h1 _ (by omega) (by omega)]; exact a3
  · rw [h4 _ (by omega) (by omega) (by omega)]; exact a4
  · rw [h4 _ (by omega) (by omega) (by omega)]; exact a5
  · rw [h4 _ (by omega) (by omega) (by omega)]; exact a6
theorem TapR.mono {N N2 k s w : Nat} {I : HI} {J : HJ} (h : TapR N k s w I J) (hN : N ≤ N2) : TapR N2 k s w I J := ⟨h.1, h.2.1, h.2.2.1, h.2.2.2.1, ⟨h.2.2.2.2.1.1, by have := h.2.2.2.2.1.2; omega⟩, h.2.2.2.2.2⟩
theorem hgt_of {f f2 : Nat → Int32} : ∀ {n h h1 : Nat}, (∀ i, i < n → f2 i = f i) → hgt f n h h1 → hgt f2 n h h1
  | 0, _, _, _, a => a
  | n + 1, _, _, e, ⟨m, a, b⟩ => ⟨m, hgt_of (fun i hi => e i (by omega)) a, by rw [e n (by omega)]; exact b⟩
theorem LawR.of {k s : Nat} {I I2 : HI} (h : LawR k s I) (h1 : ∀ q i, q < 4 → i < 200 → I2 (k + 2 + q) i = I (k + 2 + q) i) (h2 : ∀ q, q < 4 → I2 (k + 6) q = I (k + 6) q) (h3 : ∀ q, q < 4 → I2 (k + 7) q = I (k + 7) q) (h4 : I2 s 11 = I s 11) (h5 : ∀ j, 438 ≤ j → j < 666 → I2 s j = I s j) (h6 : ∀ i, i < 12 → I2 103 i = I 103 i) : LawR k s I2 := by
  obtain ⟨a1, a2, a3⟩ := h
  refine ⟨fun q hq => ?_, ?_, fun i hi => ?_⟩
  · obtain ⟨n, fr, b1, b2, b3, b4, b5, b6, b7, b8⟩ := a1 q hq
    refine ⟨n, fr, b1, by rw [h2 q hq]; exact b2, hgt_of (fun i hi => h1 q i hq (by omega)) b3, b4, by rw [h5 _ (by omega) (by omega)]; exact b5, by rw [h5 _ (by omega) (by omega)]; exact b6, fun i hi => ?_, by rw [h3 q hq]; exact b8⟩
    rw [h5 _ (by omega) (by omega), h1 q i hq (by omega)]
    exact b7 i hi
  · rw [h4, h3 0 (by omega), h3 1 (by omega), h3 2 (by omega), h3 3 (by omega)]; exact a2
  · rw [h5 _ (by omega) (by omega), h6 i hi]; exact a3 i hi
theorem RecR.of {k s : Nat} {I I2 : HI} (h : RecR k s I) (h1 : I2 k 1 = I k 1) (h2 : ∀ a i, k + 2 ≤ a → a < k + 14 → i < 60 → I2 a i = I a i) (h3 : ∀ j, 72 ≤ j → j < 438 → I2 s j = I s j) (h4 : I2 s 10 = I s 10) : RecR k s I2 := by
  obtain ⟨m, a0, a1, a2, a3⟩ := h
  refine ⟨m, a0, by rw [h1]; exact a1, by rw [h4]; exact a2, fun r hr => ?_⟩
  obtain ⟨c, b0, b1, b2, b3⟩ := a3 r hr
  refine ⟨c, b0, by rw [h2 _ _ (by omega) (by omega) (by omega)]; exact b1, by rw [h3 _ (by omega) (by omega)]; exact b2, fun i hi => ?_⟩
  rw [h2 _ _ (by omega) (by omega) (by omega), h3 _ (by omega) (by omega)]
  exact b3 i hi

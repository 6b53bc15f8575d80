/-! plain numbers: Int32 by Nat and Int; the heap's updates; the folded words of the methods' meanings -/
theorem bd1_s {α ρ : Type} (a : α) (k : α → Option ρ) : bd1 (some a) k = k a := rfl
theorem bd2_s {α β ρ : Type} (a : α) (b : β) (k : α → β → Option ρ) : bd2 (some (a, b)) k = k a b := rfl
theorem bd3_s {α β γ ρ : Type} (a : α) (b : β) (c : γ) (k : α → β → γ → Option ρ) : bd3 (some (a, b, c)) k = k a b c := rfl
theorem nm_s {α β : Type} (x : α) (k : α → β) : nm x k = k x := rfl
theorem oel_none {ρ : Type} (a : ρ) (b : Nat → ρ) : oel none a b = a := rfl
theorem oel_some {ρ : Type} (a : ρ) (b : Nat → ρ) (k : Nat) : oel (some k) a b = b k := rfl
theorem i_lt {a b : Int32} : a < b ↔ a.toInt < b.toInt := Int32.lt_iff_toInt_lt
theorem i_le {a b : Int32} : a ≤ b ↔ a.toInt ≤ b.toInt := Int32.le_iff_toInt_le
theorem i_eq {a b : Int32} : a = b ↔ a.toInt = b.toInt := Int32.toInt_inj.symm
theorem i_rng (x : Int32) : -2147483648 ≤ x.toInt ∧ x.toInt < 2147483648 := by
  have h1 := Int32.le_toInt x
  have h2 := Int32.toInt_lt x
  omega
theorem i_bmod {z : Int} (h1 : -2147483648 ≤ z) (h2 : z < 2147483648) : z.bmod (2 ^ 32) = z := by
  rw [Int.bmod_def]
  split <;> omega
theorem i_add {x y : Int32} (h1 : -2147483648 ≤ x.toInt + y.toInt) (h2 : x.toInt + y.toInt < 2147483648) : (x + y).toInt = x.toInt + y.toInt := by
  rw [Int32.toInt_add]; exact i_bmod h1 h2
theorem i_sub {x y : Int32} (h1 : -2147483648 ≤ x.toInt - y.toInt) (h2 : x.toInt - y.toInt < 2147483648) : (x - y).toInt = x.toInt - y.toInt := by
  rw [Int32.toInt_sub]; exact i_bmod h1 h2
theorem i_mul {x y : Int32} (h1 : -2147483648 ≤ x.toInt * y.toInt) (h2 : x.toInt * y.toInt < 2147483648) : (x * y).toInt = x.toInt * y.toInt := by
  rw [Int32.toInt_mul]; exact i_bmod h1 h2
theorem i_neg {x : Int32} (h : x.toInt ≠ -2147483648) : (-x).toInt = -x.toInt := by
  rw [Int32.toInt_neg]
  have := i_rng x
  exact i_bmod (by omega) (by omega)
theorem i_nat (n : Nat) (h : n < 2147483648) : (nI n).toInt = (n : Int) := nI_toInt (by omega)
theorem nI_of0 {x : Int32} (h : 0 ≤ x.toInt) : ∃ n : Nat, n < 2147483648 ∧ x = nI n ∧ x.toInt = n := by
  have hr := i_rng x
  refine ⟨x.toInt.toNat, by omega, ?_, by omega⟩
  rw [i_eq, i_nat _ (by omega)]
  omega
theorem cl_nI {n : Nat} (h : n < 2147483648) : (nI n).toNatClampNeg = n := nI_clamp (by omega)
theorem cl_lit (n : Nat) (h : n < 2147483648) : (OfNat.ofNat n : Int32).toNatClampNeg = n := cl_nI h
theorem vin_nI {n N : Nat} (h : n < N) (hN : N < 2147483648) : vin (nI n) N = true := by
  simp only [vin, Bool.and_eq_true, decide_eq_true_eq]
  refine ⟨?_, by rw [cl_nI (by omega)]; exact h⟩
  rw [i_le, i_nat _ (by omega)]
  show (0 : Int) ≤ _
  omega
theorem vin_ex {x : Int32} {N : Nat} (h : vin x N = true) (hN : N < 2147483648) : ∃ n, n < N ∧ x = nI n := by
  obtain ⟨j, hj, e⟩ := vp_in_of (vin_in h) (by omega)
  exact ⟨j, hj, e⟩
theorem nI_inj {a b : Nat} (ha : a < 2147483648) (hb : b < 2147483648) (h : nI a = nI b) : a = b := (nI_eq (by omega) (by omega)).mp h
theorem le_nn {a b : Nat} (ha : a < 2147483648) (hb : b < 2147483648) : (nI a ≤ nI b) = (a ≤ b) := propext (nI_leI (by omega) (by omega))
theorem lt_nn {a b : Nat} (ha : a < 2147483648) (hb : b < 2147483648) : (nI a < nI b) = (a < b) := propext (nI_ltI (by omega) (by omega))
theorem eq_nn {a b : Nat} (ha : a < 2147483648) (hb : b < 2147483648) : (nI a = nI b) = (a = b) := propext (nI_eq (by omega) (by omega))
theorem put_ap (I : HI) (k j : Nat) (v : Int32) (a b : Nat) : put I k j v a b = if a = k ∧ b = j then v else I a b := by
  unfold put va_up upd
  by_cases h1 : a = k
  · subst h1
    by_cases h2 : b = j <;> simp [h2]
  · simp [h1]
theorem putJ_ap (J : HJ) (k j : Nat) (v : Int64) (a b : Nat) : putJ J k j v a b = if a = k ∧ b = j then v else J a b := by
  unfold putJ va_up vp_updL
  by_cases h1 : a = k
  · subst h1
    by_cases h2 : b = j <;> simp [h2]
  · simp [h1]
theorem cpyI_ap (I : HI) (a b sp dp n x y : Nat) : cpyI I a b sp dp n x y = if x = b ∧ dp ≤ y ∧ y < dp + n then I a (sp + (y - dp)) else I x y := by
  unfold cpyI va_up va_cpy
  by_cases h1 : x = b
  · subst h1
    by_cases h2 : dp ≤ y ∧ y < dp + n <;> simp [h2]
  · simp [h1]
/-- every part of a loop's fuel -/
theorem FU_ge {n : Nat} (h : n ≤ 100000) : n < FU := by unfold FU; omega
/-! where things lie -/
theorem lay1 {k : Nat} (h : oK k = 1) : rfn k 0 = k + 1 ∧ rfn k 1 = k + 6 ∧ rfn k 2 = k + 7 ∧ rfn k 3 = k + 8 ∧ ∀ i, i < 4 → rfn (k + 1) i = k + 2 + i := (by decide +kernel : ∀ k, k < nO → oK k = 1 → rfn k 0 = k + 1 ∧ rfn k 1 = k + 6 ∧ rfn k 2 = k + 7 ∧ rfn k 3 = k + 8 ∧ ∀ i, i < 4 → rfn (k + 1) i = k + 2 + i) k (oK_lt h (by decide)) h
theorem lay8 {k : Nat} (h : oK k = 8) : rfn k 0 = k + 1 := (by decide +kernel : ∀ k, k < nO → oK k = 8 → rfn k 0 = k + 1) k (oK_lt h (by decide)) h
theorem lay6 {k : Nat} (h : oK k = 6) : rfn k 0 = k + 1 ∧ oK (k + 1) = 8 := (by decide +kernel : ∀ k, k < nO → oK k = 6 → rfn k 0 = k + 1 ∧ oK (k + 1) = 8) k (oK_lt h (by decide)) h
theorem lay3 {k : Nat} (h : oK k = 3) : rfn k 0 = k + 1 ∧ ∀ i, i < 6 → rfn (k + 1) i = k + 2 + 2 * i ∧ oK (k + 2 + 2 * i) = 8 := (by decide +kernel : ∀ k, k < nO → oK k = 3 → rfn k 0 = k + 1 ∧ ∀ i, i < 6 → rfn (k + 1) i = k + 2 + 2 * i ∧ oK (k + 2 + 2 * i) = 8) k (oK_lt h (by decide)) h
theorem lay71 : ∀ i, i < 12 → rfn 71 i = 72 + i := by decide +kernel
theorem lay87 : ∀ i, i < 4 → rfn 87 i = 88 + i := by decide +kernel

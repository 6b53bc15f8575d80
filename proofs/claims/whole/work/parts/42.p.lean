/-! numbers as the two sides use them: literals, places, ranges -/
theorem N_0 : (0 : Int32) = nI 0 := id rfl
theorem N_1 : (1 : Int32) = nI 1 := id rfl
theorem N_2 : (2 : Int32) = nI 2 := id rfl
theorem N_3 : (3 : Int32) = nI 3 := id rfl
theorem N_4 : (4 : Int32) = nI 4 := id rfl
theorem N_5 : (5 : Int32) = nI 5 := id rfl
theorem N_6 : (6 : Int32) = nI 6 := id rfl
theorem N_7 : (7 : Int32) = nI 7 := id rfl
theorem N_8 : (8 : Int32) = nI 8 := id rfl
theorem N_9 : (9 : Int32) = nI 9 := id rfl
theorem N_10 : (10 : Int32) = nI 10 := id rfl
theorem N_11 : (11 : Int32) = nI 11 := id rfl
theorem N_12 : (12 : Int32) = nI 12 := id rfl
theorem N_13 : (13 : Int32) = nI 13 := id rfl
theorem N_14 : (14 : Int32) = nI 14 := id rfl
theorem N_16 : (16 : Int32) = nI 16 := id rfl
theorem N_20 : (20 : Int32) = nI 20 := id rfl
theorem N_30 : (30 : Int32) = nI 30 := id rfl
theorem N_31 : (31 : Int32) = nI 31 := id rfl
theorem N_32 : (32 : Int32) = nI 32 := id rfl
theorem N_37 : (37 : Int32) = nI 37 := id rfl
theorem N_40 : (40 : Int32) = nI 40 := id rfl
theorem N_41 : (41 : Int32) = nI 41 := id rfl
theorem N_42 : (42 : Int32) = nI 42 := id rfl
theorem N_43 : (43 : Int32) = nI 43 := id rfl
theorem N_45 : (45 : Int32) = nI 45 := id rfl
theorem N_47 : (47 : Int32) = nI 47 := id rfl
theorem N_48 : (48 : Int32) = nI 48 := id rfl
theorem N_50 : (50 : Int32) = nI 50 := id rfl
theorem N_57 : (57 : Int32) = nI 57 := id rfl
theorem N_59 : (59 : Int32) = nI 59 := id rfl
theorem N_60 : (60 : Int32) = nI 60 := id rfl
theorem N_61 : (61 : Int32) = nI 61 := id rfl
theorem N_62 : (62 : Int32) = nI 62 := id rfl
theorem N_70 : (70 : Int32) = nI 70 := id rfl
theorem N_71 : (71 : Int32) = nI 71 := id rfl
theorem N_72 : (72 : Int32) = nI 72 := id rfl
theorem N_80 : (80 : Int32) = nI 80 := id rfl
theorem N_81 : (81 : Int32) = nI 81 := id rfl
theorem N_82 : (82 : Int32) = nI 82 := id rfl
theorem N_83 : (83 : Int32) = nI 83 := id rfl
theorem N_97 : (97 : Int32) = nI 97 := id rfl
theorem N_98 : (98 : Int32) = nI 98 := id rfl
theorem N_99 : (99 : Int32) = nI 99 := id rfl
theorem N_100 : (100 : Int32) = nI 100 := id rfl
theorem N_101 : (101 : Int32) = nI 101 := id rfl
theorem N_102 : (102 : Int32) = nI 102 := id rfl
theorem N_103 : (103 : Int32) = nI 103 := id rfl
theorem N_104 : (104 : Int32) = nI 104 := id rfl
theorem N_105 : (105 : Int32) = nI 105 := id rfl
theorem N_107 : (107 : Int32) = nI 107 := id rfl
theorem N_108 : (108 : Int32) = nI 108 := id rfl
theorem N_110 : (110 : Int32) = nI 110 := id rfl
theorem N_111 : (111 : Int32) = nI 111 := id rfl
theorem N_112 : (112 : Int32) = nI 112 := id rfl
theorem N_114 : (114 : Int32) = nI 114 := id rfl
theorem N_115 : (115 : Int32) = nI 115 := id rfl
theorem N_116 : (116 : Int32) = nI 116 := id rfl
theorem N_117 : (117 : Int32) = nI 117 := id rfl
theorem N_119 : (119 : Int32) = nI 119 := id rfl
theorem N_121 : (121 : Int32) = nI 121 := id rfl
theorem N_122 : (122 : Int32) = nI 122 := id rfl
theorem N_200 : (200 : Int32) = nI 200 := id rfl
theorem N_220 : (220 : Int32) = nI 220 := id rfl
theorem N_255 : (255 : Int32) = nI 255 := id rfl
theorem N_256 : (256 : Int32) = nI 256 := id rfl
theorem N_257 : (257 : Int32) = nI 257 := id rfl
theorem N_258 : (258 : Int32) = nI 258 := id rfl
theorem N_400 : (400 : Int32) = nI 400 := id rfl
theorem N_438 : (438 : Int32) = nI 438 := id rfl
theorem N_446 : (446 : Int32) = nI 446 := id rfl
theorem N_666 : (666 : Int32) = nI 666 := id rfl
theorem N_999 : (999 : Int32) = nI 999 := id rfl
theorem N_9999 : (9999 : Int32) = nI 9999 := id rfl
theorem N_10000 : (10000 : Int32) = nI 10000 := id rfl
theorem N_10010 : (10010 : Int32) = nI 10010 := id rfl
theorem N_10011 : (10011 : Int32) = nI 10011 := id rfl
theorem N_10012 : (10012 : Int32) = nI 10012 := id rfl
theorem N_10013 : (10013 : Int32) = nI 10013 := id rfl
theorem N_10014 : (10014 : Int32) = nI 10014 := id rfl
theorem N_10015 : (10015 : Int32) = nI 10015 := id rfl
theorem N_10016 : (10016 : Int32) = nI 10016 := id rfl
theorem N_10017 : (10017 : Int32) = nI 10017 := id rfl
theorem N_10018 : (10018 : Int32) = nI 10018 := id rfl
theorem N_12345 : (12345 : Int32) = nI 12345 := id rfl
theorem N_20000 : (20000 : Int32) = nI 20000 := id rfl
theorem N_20126 : (20126 : Int32) = nI 20126 := id rfl
theorem N_99999 : (99999 : Int32) = nI 99999 := id rfl
theorem N_1103515245 : (1103515245 : Int32) = nI 1103515245 := id rfl
theorem L_m999 : (-999 : Int64) = Int32.toInt64 (-999) := by decide
theorem L_m1 : (-1 : Int64) = Int32.toInt64 (-1) := by decide
theorem L_0 : (0 : Int64) = (nI 0).toInt64 := by decide
theorem L_1 : (1 : Int64) = (nI 1).toInt64 := by decide
theorem L_2 : (2 : Int64) = (nI 2).toInt64 := by decide
theorem L_3 : (3 : Int64) = (nI 3).toInt64 := by decide
theorem L_4 : (4 : Int64) = (nI 4).toInt64 := by decide
theorem L_7 : (7 : Int64) = (nI 7).toInt64 := by decide
theorem L_8 : (8 : Int64) = (nI 8).toInt64 := by decide
theorem L_9 : (9 : Int64) = (nI 9).toInt64 := by decide
theorem L_10 : (10 : Int64) = (nI 10).toInt64 := by decide
theorem L_12 : (12 : Int64) = (nI 12).toInt64 := by decide
theorem L_14 : (14 : Int64) = (nI 14).toInt64 := by decide
theorem L_40 : (40 : Int64) = (nI 40).toInt64 := by decide
theorem L_48 : (48 : Int64) = (nI 48).toInt64 := by decide
theorem L_57 : (57 : Int64) = (nI 57).toInt64 := by decide
theorem L_97 : (97 : Int64) = (nI 97).toInt64 := by decide
theorem L_99 : (99 : Int64) = (nI 99).toInt64 := by decide
theorem L_122 : (122 : Int64) = (nI 122).toInt64 := by decide
theorem L_255 : (255 : Int64) = (nI 255).toInt64 := by decide
theorem L_400 : (400 : Int64) = (nI 400).toInt64 := by decide
theorem L_999 : (999 : Int64) = (nI 999).toInt64 := by decide
theorem L_9999 : (9999 : Int64) = (nI 9999).toInt64 := by decide
theorem sb (a b : Nat) (h : b ≤ a) : nI a - nI b = nI (a - b) := by
  have e : nI a = nI (a - b) + nI b := by rw [nI_add]; congr 1; omega
  rw [e]
  exact Int32.add_sub_cancel _ _
theorem rng {a : Int32} {M : Nat} (hM : M < 2147483648) (h : 0 ≤ a ∧ a ≤ nI M) : ∃ n, n ≤ M ∧ a = nI n := by
  have h1 := i_le.mp h.1
  have h2 := i_le.mp h.2
  rw [i_nat _ hM] at h2
  obtain ⟨n, hn, e, e2⟩ := nI_of0 (x := a) h1
  exact ⟨n, by omega, e⟩
theorem rng' {a : Int32} {M : Nat} (hM : M < 2147483648) (h0 : 0 < M) (h : 0 ≤ a ∧ a ≤ nI M - 1) : ∃ n, n < M ∧ a = nI n := by
  rw [show nI M - (1 : Int32) = nI (M - 1) from sb M 1 h0] at h
  obtain ⟨n, hn, e⟩ := rng (by omega) h
  exact ⟨n, by omega, e⟩
theorem rng0 {a : Int32} : ¬ (0 ≤ a ∧ a ≤ nI 0 - 1) := fun h => by
  have h1 := i_le.mp h.1
  have h2 := i_le.mp h.2
  have e : (nI 0 - 1 : Int32).toInt = -1 := by decide
  rw [e] at h2
  have e0 : (0 : Int32).toInt = 0 := by decide
  omega
theorem in_x (a b c : Int32) : f_X11_in a.toInt64 b.toInt64 c.toInt64 = some (bI (b ≤ a ∧ a ≤ c)) := in_s rfl rfl
theorem le_pred (a : Int32) (c : Nat) (hc : c < 2147483648) : (a ≤ nI c - nI 1) = (a < nI c) := by
  have e : (nI c - nI 1).toInt = (c : Int) - 1 := by
    rw [i_sub] <;> rw [i_nat _ hc, i_nat 1 (by decide)] <;> omega
  apply propext
  rw [i_le, i_lt, e, i_nat _ hc]
  omega
theorem rng2 {a : Int32} {c : Nat} (hc : c < 2147483648) (h : nI 0 ≤ a ∧ a < nI c) : ∃ n, n < c ∧ a = nI n := by
  have h1 := i_le.mp h.1
  have h2 := i_lt.mp h.2
  rw [i_nat _ hc] at h2
  obtain ⟨n, hn, e, e2⟩ := nI_of0 (x := a) h1
  exact ⟨n, by omega, e⟩
theorem has_s {k c : Nat} {a : Int32} {I : HI} {J : HJ} (hc : c < 2147483648) (h : I k 1 = nI c) : f_X9_has k a I J = some (bI (nI 0 ≤ a ∧ a < nI c)) := by
  unfold f_X9_has bI
  rw [h]
  by_cases h1 : a < 0
  · rw [if_pos h1, if_neg (fun q => by have h2 := i_le.mp q.1; have h3 := i_lt.mp h1; have e : (nI 0).toInt = (0 : Int32).toInt := rfl; omega)]
  · rw [if_neg h1]
    by_cases h2 : nI c ≤ a
    · rw [if_pos h2, if_neg (fun q => by have h3 := i_lt.mp q.2; have h4 := i_le.mp h2; omega)]
    · rw [if_neg h2, if_pos ⟨by rw [i_lt] at h1; rw [i_le]; have e : (nI 0).toInt = (0 : Int32).toInt := rfl; omega, by rw [i_le] at h2; rw [i_lt]; omega⟩]
theorem bI_1 {p : Prop} [Decidable p] {α : Type} (a b : α) : (if bI p = nI 0 then a else b) = if p then b else a := ite_bI a b
theorem at_s {k c i : Nat} {I : HI} {J : HJ} (hk : oK k = 8) (hc : c ≤ 60) (h : I k 1 = nI c) (hi : i < c) : f_X9_at k (nI i) I J = some (I (k + 1) i) := by
  unfold f_X9_at
  rw [has_s (by omega) h, bI_t ⟨by rw [le_nn (by omega) (by omega)]; omega, by rw [lt_nn (by omega) (by omega)]; omega⟩, bd1_s, if_neg (by decide), N_60, if_neg (by rw [le_nn (by omega) (by omega)]; omega), if_pos (vin_nI (by omega) (by omega)), lay8 hk, cl_nI (by omega)]

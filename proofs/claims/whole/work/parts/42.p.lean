/-! numbers as the two sides use them: literals, places, ranges -/
theorem N_0 : (0 : Int32) = nI 0 := rfl
theorem N_1 : (1 : Int32) = nI 1 := rfl
theorem N_2 : (2 : Int32) = nI 2 := rfl
theorem N_3 : (3 : Int32) = nI 3 := rfl
theorem N_4 : (4 : Int32) = nI 4 := rfl
theorem N_5 : (5 : Int32) = nI 5 := rfl
theorem N_6 : (6 : Int32) = nI 6 := rfl
theorem N_7 : (7 : Int32) = nI 7 := rfl
theorem N_8 : (8 : Int32) = nI 8 := rfl
theorem N_9 : (9 : Int32) = nI 9 := rfl
theorem N_10 : (10 : Int32) = nI 10 := rfl
theorem N_11 : (11 : Int32) = nI 11 := rfl
theorem N_12 : (12 : Int32) = nI 12 := rfl
theorem N_13 : (13 : Int32) = nI 13 := rfl
theorem N_14 : (14 : Int32) = nI 14 := rfl
theorem N_16 : (16 : Int32) = nI 16 := rfl
theorem N_20 : (20 : Int32) = nI 20 := rfl
theorem N_30 : (30 : Int32) = nI 30 := rfl
theorem N_31 : (31 : Int32) = nI 31 := rfl
theorem N_32 : (32 : Int32) = nI 32 := rfl
theorem N_37 : (37 : Int32) = nI 37 := rfl
theorem N_40 : (40 : Int32) = nI 40 := rfl
theorem N_41 : (41 : Int32) = nI 41 := rfl
theorem N_42 : (42 : Int32) = nI 42 := rfl
theorem N_43 : (43 : Int32) = nI 43 := rfl
theorem N_45 : (45 : Int32) = nI 45 := rfl
theorem N_47 : (47 : Int32) = nI 47 := rfl
theorem N_48 : (48 : Int32) = nI 48 := rfl
theorem N_50 : (50 : Int32) = nI 50 := rfl
theorem N_57 : (57 : Int32) = nI 57 := rfl
theorem N_59 : (59 : Int32) = nI 59 := rfl
theorem N_60 : (60 : Int32) = nI 60 := rfl
theorem N_61 : (61 : Int32) = nI 61 := rfl
theorem N_62 : (62 : Int32) = nI 62 := rfl
theorem N_70 : (70 : Int32) = nI 70 := rfl
theorem N_71 : (71 : Int32) = nI 71 := rfl
theorem N_72 : (72 : Int32) = nI 72 := rfl
theorem N_80 : (80 : Int32) = nI 80 := rfl
theorem N_81 : (81 : Int32) = nI 81 := rfl
theorem N_82 : (82 : Int32) = nI 82 := rfl
theorem N_83 : (83 : Int32) = nI 83 := rfl
theorem N_97 : (97 : Int32) = nI 97 := rfl
theorem N_98 : (98 : Int32) = nI 98 := rfl
theorem N_99 : (99 : Int32) = nI 99 := rfl
theorem N_100 : (100 : Int32) = nI 100 := rfl
theorem N_101 : (101 : Int32) = nI 101 := rfl
theorem N_102 : (102 : Int32) = nI 102 := rfl
theorem N_103 : (103 : Int32) = nI 103 := rfl
theorem N_104 : (104 : Int32) = nI 104 := rfl
theorem N_105 : (105 : Int32) = nI 105 := rfl
theorem N_107 : (107 : Int32) = nI 107 := rfl
theorem N_108 : (108 : Int32) = nI 108 := rfl
theorem N_110 : (110 : Int32) = nI 110 := rfl
theorem N_111 : (111 : Int32) = nI 111 := rfl
theorem N_112 : (112 : Int32) = nI 112 := rfl
theorem N_114 : (114 : Int32) = nI 114 := rfl
theorem N_115 : (115 : Int32) = nI 115 := rfl
theorem N_116 : (116 : Int32) = nI 116 := rfl
theorem N_117 : (117 : Int32) = nI 117 := rfl
theorem N_119 : (119 : Int32) = nI 119 := rfl
theorem N_121 : (121 : Int32) = nI 121 := rfl
theorem N_122 : (122 : Int32) = nI 122 := rfl
theorem N_200 : (200 : Int32) = nI 200 := rfl
theorem N_220 : (220 : Int32) = nI 220 := rfl
theorem N_255 : (255 : Int32) = nI 255 := rfl
theorem N_256 : (256 : Int32) = nI 256 := rfl
theorem N_257 : (257 : Int32) = nI 257 := rfl
theorem N_258 : (258 : Int32) = nI 258 := rfl
theorem N_400 : (400 : Int32) = nI 400 := rfl
theorem N_438 : (438 : Int32) = nI 438 := rfl
theorem N_446 : (446 : Int32) = nI 446 := rfl
theorem N_666 : (666 : Int32) = nI 666 := rfl
theorem N_999 : (999 : Int32) = nI 999 := rfl
theorem N_9999 : (9999 : Int32) = nI 9999 := rfl
theorem N_10000 : (10000 : Int32) = nI 10000 := rfl
theorem N_10010 : (10010 : Int32) = nI 10010 := rfl
theorem N_10011 : (10011 : Int32) = nI 10011 := rfl
theorem N_10012 : (10012 : Int32) = nI 10012 := rfl
theorem N_10013 : (10013 : Int32) = nI 10013 := rfl
theorem N_10014 : (10014 : Int32) = nI 10014 := rfl
theorem N_10015 : (10015 : Int32) = nI 10015 := rfl
theorem N_10016 : (10016 : Int32) = nI 10016 := rfl
theorem N_10017 : (10017 : Int32) = nI 10017 := rfl
theorem N_10018 : (10018 : Int32) = nI 10018 := rfl
theorem N_12345 : (12345 : Int32) = nI 12345 := rfl
theorem N_20000 : (20000 : Int32) = nI 20000 := rfl
theorem N_20126 : (20126 : Int32) = nI 20126 := rfl
theorem N_99999 : (99999 : Int32) = nI 99999 := rfl
theorem N_1103515245 : (1103515245 : Int32) = nI 1103515245 := rfl
theorem L_m999 : (-999 : Int64) = Int32.toInt64 (-999) := by decide
theorem L_m1 : (-1 : Int64) = Int32.toInt64 (-1) := by decide
theorem L_0 : (0 : Int64) = (nI 0).toInt64 := by decide
theorem L_1 : (1 : Int64) = (nI 1).toInt64 := by decide
theorem L_2 : (2 : Int64) = (nI 2).toInt64 := by decide
theorem L_3 : (3 : Int64) = (nI 3).toInt64 := by decide
theorem L_4 : (4 : Int64) = (nI 4).toInt64 := by decide
theorem L_7 : (7 : Int64) = (nI 7).toInt64 := by decide
theorem L_8 : (8 : Int64) = (nI 8).toInt64 := by decide
theorem L_9 : (9 : Int64) = (nI 9).toInt64 := by decide
theorem L_10 : (10 : Int64) = (nI 10).toInt64 := by decide
theorem L_12 : (12 : Int64) = (nI 12).toInt64 := by decide
theorem L_14 : (14 : Int64) = (nI 14).toInt64 := by decide
theorem L_40 : (40 : Int64) = (nI 40).toInt64 := by decide
theorem L_48 : (48 : Int64) = (nI 48).toInt64 := by decide
theorem L_57 : (57 : Int64) = (nI 57).toInt64 := by decide
theorem L_97 : (97 : Int64) = (nI 97).toInt64 := by decide
theorem L_99 : (99 : Int64) = (nI 99).toInt64 := by decide
theorem L_122 : (122 : Int64) = (nI 122).toInt64 := by decide
theorem L_255 : (255 : Int64) = (nI 255).toInt64 := by decide
theorem L_400 : (400 : Int64) = (nI 400).toInt64 := by decide
theorem L_999 : (999 : Int64) = (nI 999).toInt64 := by decide
theorem L_9999 : (9999 : Int64) = (nI 9999).toInt64 := by decide
theorem sb (a b : Nat) (h : b ≤ a) : nI a - nI b = nI (a - b) := by
  have e : nI a = nI (a - b) + nI b := by rw [nI_add]; congr 1; omega
  rw [e]
  exact Int32.add_sub_cancel _ _
theorem rng {a : Int32} {M : Nat} (hM : M < 2147483648) (h : 0 ≤ a ∧ a ≤ nI M) : ∃ n, n ≤ M ∧ a = nI n := by
  have h1 := i_le.mp h.1
  have h2 := i_le.mp h.2
  rw [i_nat _ hM] at h2
  obtain ⟨n, hn, e, e2⟩ := nI_of0 (x := a) h1
  exact ⟨n, by omega, e⟩
theorem rng' {a : Int32} {M : Nat} (hM : M < 2147483648) (h0 : 0 < M) (h : 0 ≤ a ∧ a ≤ nI M - 1) : ∃ n, n < M ∧ a = nI n := by
  rw [show nI M - (1 : Int32) = nI (M - 1) from sb M 1 h0] at h
  obtain ⟨n, hn, e⟩ := rng (by omega) h
  exact ⟨n, by omega, e⟩
theorem rng0 {a : Int32} : ¬ (0 ≤ a ∧ a ≤ nI 0 - 1) := fun h => by
  have h1 := i_le.mp h.1
  have h2 := i_le.mp h.2
  have e : (nI 0 - 1 : Int32).toInt = -1 := by decide
  rw [e] at h2
  have e0 : (0 : Int32).toInt = 0 := by decide
  omega
theorem in_x (a b c : Int32) : f_X11_in a.toInt64 b.toInt64 c.toInt64 = some (bI (b ≤ a ∧ a ≤ c)) := in_s rfl rfl
theorem sim_seed {N : Nat} {I : HI} {J : HJ} (hN : N ≤ 1000000) (hR : Rel N I J) (a0 : Int32) : ∃ (r : Int32) (I1 : HI) (I2 : HI), f_X10_seed a0 I J = some (r, I1) ∧ f_X11_seed a0 I1 J = some (r, I2) ∧ Rel (N + 400) I2 J := by
  obtain ⟨t, l, r, k, p, s, f, c, x, d⟩ := hR
  refine ⟨I 1 9, put I 1 9 a0, put (put I 1 9 a0) 99 8 a0, rfl, ?_, ?_⟩
  · unfold f_X11_seed
    simp (disch := first | omega | decide) only [bd1_s, bd2_s, bd3_s, nm_s, wi_s, ite_bI, if_true, in_x, cl_nI, vin_nI, nI_add, nI_mul, le_nn, lt_nn, eq_nn, sb, reduceIte, N_0, N_1, N_2, N_3, N_4, N_5, N_6, N_7, N_8, N_9, N_10, N_11, N_12, N_13, N_14, N_16, N_20, N_30, N_31, N_32, N_37, N_40, N_41, N_42, N_43, N_45, N_47, N_48, N_50, N_57, N_59, N_60, N_61, N_62, N_70, N_71, N_72, N_80, N_81, N_82, N_83, N_97, N_98, N_99, N_100, N_101, N_102, N_103, N_104, N_105, N_107, N_108, N_110, N_111, N_112, N_114, N_115, N_116, N_117, N_119, N_121, N_122, N_200, N_220, N_255, N_256, N_257, N_258, N_400, N_438, N_446, N_666, N_999, N_9999, N_10000, N_10010, N_10011, N_10012, N_10013, N_10014, N_10015, N_10016, N_10017, N_10018, N_12345, N_20000, N_20126, N_99999, N_1103515245, L_m999, L_m1, L_0, L_1, L_2, L_3, L_4, L_7, L_8, L_9, L_10, L_12, L_14, L_40, L_48, L_57, L_97, L_99, L_122, L_255, L_400, L_999, L_9999]
    rw [t.1 8 (by omega)]
    simp [put_ap]
  · sorry

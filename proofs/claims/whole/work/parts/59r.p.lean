def bC (I : HI) (c : Nat) (b : Int32) : HI := put (put I 97 c b) 96 1 (nI (c + 1))
def bM (I : HI) (c : Nat) (b : Int32) : HI := put (put I 122 c b) 98 40 (nI (c + 1))
def apC (I : HI) : Nat → List Int32 → HI
  | _, [] => I
  | c, b :: L => apC (bC I c b) (c + 1) L
def apM (I : HI) : Nat → List Int32 → HI
  | _, [] => I
  | c, b :: L => apM (bM I c b) (c + 1) L
theorem apC_c {I : HI} {c : Nat} {b : Int32} {L : List Int32} : apC (bC I c b) (c + 1) L = apC I c (b :: L) := rfl
theorem apM_c {I : HI} {c : Nat} {b : Int32} {L : List Int32} : apM (bM I c b) (c + 1) L = apM I c (b :: L) := rfl
theorem bC_1 {I : HI} {c : Nat} {b : Int32} : bC I c b 96 1 = nI (c + 1) := pE rfl rfl
theorem bC_o {I : HI} {c j : Nat} {b : Int32} (h : j ≠ 1) : bC I c b 96 j = I 96 j := by
  unfold bC
  rw [pN (by omega), pN (by omega)]
theorem bM_1 {I : HI} {c : Nat} {b : Int32} : bM I c b 98 40 = nI (c + 1) := pE rfl rfl
theorem bM_o {I : HI} {c j : Nat} {b : Int32} (h : j ≠ 40) : bM I c b 98 j = I 98 j := by
  unfold bM
  rw [pN (by omega), pN (by omega)]
theorem apC_f : ∀ (L : List Int32) (I : HI) (c a j : Nat), a ≠ 97 → ¬ (a = 96 ∧ j = 1) → apC I c L a j = I a j
  | [], _, _, _, _, _, _ => rfl
  | b :: L, I, c, a, j, h1, h2 => by
    show apC (bC I c b) (c + 1) L a j = _
    rw [apC_f L _ _ _ _ h1 h2]
    unfold bC
    rw [pN (by omega), pN (by omega)]
theorem apM_f : ∀ (L : List Int32) (I : HI) (c a j : Nat), a ≠ 122 → ¬ (a = 98 ∧ j = 40) → apM I c L a j = I a j
  | [], _, _, _, _, _, _ => rfl
  | b :: L, I, c, a, j, h1, h2 => by
    show apM (bM I c b) (c + 1) L a j = _
    rw [apM_f L _ _ _ _ h1 h2]
    unfold bM
    rw [pN (by omega), pN (by omega)]
theorem apC_o {L : List Int32} {I : HI} {c j : Nat} (h : j ≠ 1) : apC I c L 96 j = I 96 j := apC_f L I c 96 j (by omega) (by omega)
theorem apM_o {L : List Int32} {I : HI} {c j : Nat} (h : j ≠ 40) : apM I c L 98 j = I 98 j := apM_f L I c 98 j (by omega) (by omega)
theorem apC_n : ∀ (L : List Int32) (I : HI) (c : Nat), I 96 1 = nI c → apC I c L 96 1 = nI (c + L.length)
  | [], _, _, h => h
  | b :: L, I, c, h => by
    have := apC_n L (bC I c b) (c + 1) bC_1
    show apC (bC I c b) (c + 1) L 96 1 = nI (c + (L.length + 1))
    rw [this, show c + 1 + L.length = c + (L.length + 1) by omega]
theorem apM_n : ∀ (L : List Int32) (I : HI) (c : Nat), I 98 40 = nI c → apM I c L 98 40 = nI (c + L.length)
  | [], _, _, h => h
  | b :: L, I, c, h => by
    have := apM_n L (bM I c b) (c + 1) bM_1
    show apM (bM I c b) (c + 1) L 98 40 = nI (c + (L.length + 1))
    rw [this, show c + 1 + L.length = c + (L.length + 1) by omega]
theorem apC_a : ∀ (L M : List Int32) (I : HI) (c : Nat), apC (apC I c L) (c + L.length) M = apC I c (L ++ M)
  | [], _, _, _ => rfl
  | b :: L, M, I, c => by
    show apC (apC (bC I c b) (c + 1) L) (c + (L.length + 1)) M = apC (bC I c b) (c + 1) (L ++ M)
    rw [show c + (L.length + 1) = c + 1 + L.length by omega]
    exact apC_a L M _ _
theorem apM_a : ∀ (L M : List Int32) (I : HI) (c : Nat), apM (apM I c L) (c + L.length) M = apM I c (L ++ M)
  | [], _, _, _ => rfl
  | b :: L, M, I, c => by
    show apM (apM (bM I c b) (c + 1) L) (c + (L.length + 1)) M = apM (bM I c b) (c + 1) (L ++ M)
    rw [show c + (L.length + 1) = c + 1 + L.length by omega]
    exact apM_a L M _ _
/-- what both wrote is the same -/
theorem ap_same : ∀ (L : List Int32) (I K : HI) (c : Nat), (∀ i, i < c → I 97 i = K 122 i) → ∀ i, i < c + L.length → apC I c L 97 i = apM K c L 122 i
  | [], _, _, _, h, i, hi => h i hi
  | b :: L, I, K, c, h, i, hi => ap_same L (bC I c b) (bM K c b) (c + 1) (fun j hj => by
      unfold bC bM
      rw [pN (show 97 ≠ 96 ∨ j ≠ 1 by omega), pN (show 122 ≠ 98 ∨ j ≠ 40 by omega)]
      by_cases q : j = c
      · rw [q, pE rfl rfl, pE rfl rfl]
      · rw [pN (by omega), pN (by omega)]
        exact h j (by omega)) i (by
          have : (b :: L).length = L.length + 1 := rfl
          omega)
theorem cbg {c : Nat} {b : Int32} {I : HI} {J : HJ} (hc : c < 30) (h : I 96 1 = nI c) : f_X0_beginBody b I J = some (bC I c b) := by
  unfold f_X0_beginBody bC
  rw [h, if_neg (by rw [N_0, lt_nn (by omega) (by omega)]; omega), if_neg (by rw [N_30, le_nn (by omega) (by omega)]; omega), if_pos (vin_nI hc (by omega)), cl_nI (by omega), nm_s, pN (show 96 ≠ 97 ∨ 1 ≠ c by omega), h, nI_1, nm_s]
theorem mran {c : Nat} {b : Int32} {I : HI} {J : HJ} (hc : c < 30) (h : I 98 40 = nI c) : f_X11_ran b I J = some (bM I c b) := by
  unfold f_X11_ran bM
  rw [h, if_neg (by rw [N_30, le_nn (by omega) (by omega)]; omega), if_pos (vin_nI hc (by omega)), cl_nI (by omega), nm_s, pN (show 98 ≠ 122 ∨ 40 ≠ c by omega), h, nI_1, nm_s]
theorem le20 {e : Nat} (h : e ≤ 20) : nI e ≤ (20 : Int32) := by rw [N_20, le_nn (by omega) (by omega)]; exact h
theorem ab_1 : f_X1_above (nI 1) = some (nI 0) := by decide +kernel
theorem ab_2 : f_X1_above (nI 2) = some (nI 0) := by decide +kernel
theorem ab_3 : f_X1_above (nI 3) = some (nI 2) := by decide +kernel
theorem ab_4 : f_X1_above (nI 4) = some (nI 0) := by decide +kernel
theorem ab_5 : f_X1_above (nI 5) = some (nI 0) := by decide +kernel
theorem ab_6 : f_X1_above (nI 6) = some (nI 5) := by decide +kernel
def gB : Nat → List Int32
  | 2 => [30, 10]
  | 3 => [40, 30, 10]
  | 6 => [70, 10]
  | 7 => [80]
  | _ => [10]
def gV (a x : Int32) : Nat → Int32
  | 2 => (x + a) * 5
  | 3 => (x + a) * 5 ^^^ a
  | 6 => x + a - 6
  | 7 => a - x
  | _ => x + a
def sB : Nat → List Int32
  | 1 => 20 :: 11 :: gB 1
  | 4 => 50 :: 11 :: gB 4
  | 7 => 81 :: gB 7
  | k => 11 :: gB k
def sV (a n x : Int32) : Nat → Int32
  | 1 => gV a x 1 * 2 - 3
  | 4 => 0 - gV a x 4 * 2
  | 7 => gV a x 7 * n
  | k => gV a x k * 2
def pQ (z x : Int32) : Int32 := if z = 0 then 0 else x / z
def pB : Nat → List Int32
  | 3 => [41, 12]
  | 5 => [61, 12]
  | 6 => [71, 61, 12]
  | 7 => [82]
  | _ => [12]
def pV (a n x : Int32) : Nat → Int32
  | 3 => pQ (a - n) (x + 1)
  | 5 => pQ (a - n) (x - 1)
  | 6 => pQ (a - n) (x - 1) ^^^ 1
  | 7 => x &&& a
  | _ => pQ (a - n) x
def pF (I : HI) (z : Int32) : HI := if z = 0 then put I 96 2 1 else I
def pH (k : Nat) (z : Int32) (I : HI) : HI := if k = 7 then I else pF I z
def tB : Nat → List Int32
  | 2 => (31 :: 13 :: sB 2) ++ pB 2
  | 3 => (31 :: 13 :: sB 3) ++ pB 3
  | 5 => 60 :: 13 :: sB 5
  | 6 => 60 :: 13 :: sB 6
  | 7 => (83 :: sB 7) ++ pB 7
  | k => 13 :: sB k
def tV (a n x : Int32) : Nat → Int32
  | 2 => (sV a n x 2 ^^^ n) + pV a n n 2
  | 3 => (sV a n x 3 ^^^ n) + pV a n n 3
  | 5 => (sV a n x 5 ^^^ n) * 2
  | 6 => (sV a n x 6 ^^^ n) * 2
  | 7 => sV a n x 7 - pV a n n 7
  | k => sV a n x k ^^^ n
theorem gB_l : ∀ k, k < 8 → (gB k).length ≤ 3 := by decide
theorem sB_l : ∀ k, k < 8 → (sB k).length ≤ 5 := by decide
theorem pB_l : ∀ k, k < 8 → (pB k).length ≤ 3 := by decide
theorem cg_0 {d e c : Nat} {a n x : Int32} {I : HI} {J : HJ} (he : e + 1 ≤ 20) (hc : c + 1 ≤ 28) (h1 : I 96 1 = nI c) (h4 : I 96 4 = n) (h5 : I 96 5 = a) : grp_X0_grows (d + 1) (nI 0) x (nI e) I J = some (x + a, apC I c [10]) := by
  show fb_X0_grows (grp_X0_grows (d + 0)) (nI 0) x (nI e) I J = _
  unfold fb_X0_grows
  rw [if_pos (le20 (by omega)), if_pos (show (nI 0 : Int32) = 0 by decide), cbg (by omega) h1, bd1_s, bC_o (by omega), h5]
  rfl
theorem cg_1 {d e c : Nat} {a n x : Int32} {I : HI} {J : HJ} (he : e + 2 ≤ 20) (hc : c + 2 ≤ 28) (h1 : I 96 1 = nI c) (h4 : I 96 4 = n) (h5 : I 96 5 = a) : grp_X0_grows (d + 2) (nI 1) x (nI e) I J = some (x + a, apC I c [10]) := by
  show fb_X0_grows (grp_X0_grows (d + 1)) (nI 1) x (nI e) I J = _
  unfold fb_X0_grows
  rw [if_pos (le20 (by omega)), if_neg (show ¬ (nI 1 : Int32) = 0 by decide), if_neg (show ¬ (nI 1 : Int32) = 2 by decide), if_neg (show ¬ (nI 1 : Int32) = 3 by decide), if_neg (show ¬ (nI 1 : Int32) = 6 by decide), if_neg (show ¬ (nI 1 : Int32) = 7 by decide), ab_1, bd1_s, nI_1, cg_0 (by omega) (by omega) h1 h4 h5, bd2_s]
theorem cg_4 {d e c : Nat} {a n x : Int32} {I : HI} {J : HJ} (he : e + 2 ≤ 20) (hc : c + 2 ≤ 28) (h1 : I 96 1 = nI c) (h4 : I 96 4 = n) (h5 : I 96 5 = a) : grp_X0_grows (d + 2) (nI 4) x (nI e) I J = some (x + a, apC I c [10]) := by
  show fb_X0_grows (grp_X0_grows (d + 1)) (nI 4) x (nI e) I J = _
  unfold fb_X0_grows
  rw [if_pos (le20 (by omega)), if_neg (show ¬ (nI 4 : Int32) = 0 by decide), if_neg (show ¬ (nI 4 : Int32) = 2 by decide), if_neg (show ¬ (nI 4 : Int32) = 3 by decide), if_neg (show ¬ (nI 4 : Int32) = 6 by decide), if_neg (show ¬ (nI 4 : Int32) = 7 by decide), ab_4, bd1_s, nI_1, cg_0 (by omega) (by omega) h1 h4 h5, bd2_s]
theorem cg_5 {d e c : Nat} {a n x : Int32} {I : HI} {J : HJ} (he : e + 2 ≤ 20) (hc : c + 2 ≤ 28) (h1 : I 96 1 = nI c) (h4 : I 96 4 = n) (h5 : I 96 5 = a) : grp_X0_grows (d + 2) (nI 5) x (nI e) I J = some (x + a, apC I c [10]) := by
  show fb_X0_grows (grp_X0_grows (d + 1)) (nI 5) x (nI e) I J = _
  unfold fb_X0_grows
  rw [if_pos (le20 (by omega)), if_neg (show ¬ (nI 5 : Int32) = 0 by decide), if_neg (show ¬ (nI 5 : Int32) = 2 by decide), if_neg (show ¬ (nI 5 : Int32) = 3 by decide), if_neg (show ¬ (nI 5 : Int32) = 6 by decide), if_neg (show ¬ (nI 5 : Int32) = 7 by decide), ab_5, bd1_s, nI_1, cg_0 (by omega) (by omega) h1 h4 h5, bd2_s]
theorem cg_2 {d e c : Nat} {a n x : Int32} {I : HI} {J : HJ} (he : e + 2 ≤ 20) (hc : c + 2 ≤ 28) (h1 : I 96 1 = nI c) (h4 : I 96 4 = n) (h5 : I 96 5 = a) : grp_X0_grows (d + 2) (nI 2) x (nI e) I J = some ((x + a) * 5, apC I c [30, 10]) := by
  show fb_X0_grows (grp_X0_grows (d + 1)) (nI 2) x (nI e) I J = _
  unfold fb_X0_grows
  rw [if_pos (le20 (by omega)), if_neg (show ¬ (nI 2 : Int32) = 0 by decide), if_pos (show (nI 2 : Int32) = 2 by decide), cbg (by omega) h1, bd1_s, ab_2, bd1_s, nI_1, cg_0 (by omega) (by omega) bC_1 ((bC_o (by omega)).trans h4) ((bC_o (by omega)).trans h5), bd2_s]
  rfl
theorem cg_3 {d e c : Nat} {a n x : Int32} {I : HI} {J : HJ} (he : e + 3 ≤ 20) (hc : c + 3 ≤ 28) (h1 : I 96 1 = nI c) (h4 : I 96 4 = n) (h5 : I 96 5 = a) : grp_X0_grows (d + 3) (nI 3) x (nI e) I J = some ((x + a) * 5 ^^^ a, apC I c [40, 30, 10]) := by
  show fb_X0_grows (grp_X0_grows (d + 2)) (nI 3) x (nI e) I J = _
  unfold fb_X0_grows
  rw [if_pos (le20 (by omega)), if_neg (show ¬ (nI 3 : Int32) = 0 by decide), if_neg (show ¬ (nI 3 : Int32) = 2 by decide), if_pos (show (nI 3 : Int32) = 3 by decide), cbg (by omega) h1, bd1_s, ab_3, bd1_s, nI_1, cg_2 (by omega) (by omega) bC_1 ((bC_o (by omega)).trans h4) ((bC_o (by omega)).trans h5), bd2_s, apC_o (by omega), bC_o (by omega), h5]
  rfl
theorem cg_6 {d e c : Nat} {a n x : Int32} {I : HI} {J : HJ} (he : e + 3 ≤ 20) (hc : c + 3 ≤ 28) (h1 : I 96 1 = nI c) (h4 : I 96 4 = n) (h5 : I 96 5 = a) : grp_X0_grows (d + 3) (nI 6) x (nI e) I J = some (x + a - 6, apC I c [70, 10]) := by
  show fb_X0_grows (grp_X0_grows (d + 2)) (nI 6) x (nI e) I J = _
  unfold fb_X0_grows
  rw [if_pos (le20 (by omega)), if_neg (show ¬ (nI 6 : Int32) = 0 by decide), if_neg (show ¬ (nI 6 : Int32) = 2 by decide), if_neg (show ¬ (nI 6 : Int32) = 3 by decide), if_pos (show (nI 6 : Int32) = 6 by decide), cbg (by omega) h1, bd1_s, ab_6, bd1_s, nI_1, cg_5 (by omega) (by omega) bC_1 ((bC_o (by omega)).trans h4) ((bC_o (by omega)).trans h5), bd2_s]
  rfl
theorem cg_7 {d e c : Nat} {a n x : Int32} {I : HI} {J : HJ} (he : e + 1 ≤ 20) (hc : c + 1 ≤ 28) (h1 : I 96 1 = nI c) (h4 : I 96 4 = n) (h5 : I 96 5 = a) : grp_X0_grows (d + 1) (nI 7) x (nI e) I J = some (a - x, apC I c [80]) := by
  show fb_X0_grows (grp_X0_grows (d + 0)) (nI 7) x (nI e) I J = _
  unfold fb_X0_grows
  rw [if_pos (le20 (by omega)), if_neg (show ¬ (nI 7 : Int32) = 0 by decide), if_neg (show ¬ (nI 7 : Int32) = 2 by decide), if_neg (show ¬ (nI 7 : Int32) = 3 by decide), if_neg (show ¬ (nI 7 : Int32) = 6 by decide), if_pos (show (nI 7 : Int32) = 7 by decide), cbg (by omega) h1, bd1_s, bC_o (by omega), h5]
  rfl
theorem cgr {k e c : Nat} {a n x : Int32} {I : HI} {J : HJ} (hk : k < 8) (he : e ≤ 15) (hc : c ≤ 24) (h1 : I 96 1 = nI c) (h4 : I 96 4 = n) (h5 : I 96 5 = a) : f_X0_grows 40 (nI k) x (nI e) I J = some (gV a x k, apC I c (gB k)) := by
  have hk8 : k = 0 ∨ k = 1 ∨ k = 2 ∨ k = 3 ∨ k = 4 ∨ k = 5 ∨ k = 6 ∨ k = 7 := by omega
  rcases hk8 with rfl | rfl | rfl | rfl | rfl | rfl | rfl | rfl
  · exact cg_0 (d := 39) (by omega) (by omega) h1 h4 h5
  · exact cg_1 (d := 38) (by omega) (by omega) h1 h4 h5
  · exact cg_2 (d := 38) (by omega) (by omega) h1 h4 h5
  · exact cg_3 (d := 37) (by omega) (by omega) h1 h4 h5
  · exact cg_4 (d := 38) (by omega) (by omega) h1 h4 h5
  · exact cg_5 (d := 38) (by omega) (by omega) h1 h4 h5
  · exact cg_6 (d := 37) (by omega) (by omega) h1 h4 h5
  · exact cg_7 (d := 39) (by omega) (by omega) h1 h4 h5
theorem cs_b {d k e c : Nat} {a n x : Int32} {I : HI} {J : HJ} (hk : k < 8) (he : e + 1 ≤ 15) (hc : c + 1 ≤ 24) (h1 : I 96 1 = nI c) (h4 : I 96 4 = n) (h5 : I 96 5 = a) (h3 : I 96 3 = nI k) : grp_X0_swings (d + 1) (nI 0) x (nI e) I J = some (gV a x k * 2, apC I c (11 :: gB k)) := by
  show fb_X0_swings (grp_X0_swings d) (nI 0) x (nI e) I J = _
  unfold fb_X0_swings
  rw [if_pos (le20 (by omega)), if_pos (show (nI 0 : Int32) = 0 by decide), cbg (by omega) h1, bd1_s, bC_o (by omega), h3, nI_1, (cgr (n := n) hk (by omega) (by omega) bC_1 ((bC_o (by omega)).trans h4) ((bC_o (by omega)).trans h5)), bd2_s]
  rfl
theorem cs_0 {d e c : Nat} {a n x : Int32} {I : HI} {J : HJ} (he : e + 1 ≤ 15) (hc : c + 1 ≤ 24) (h1 : I 96 1 = nI c) (h4 : I 96 4 = n) (h5 : I 96 5 = a) (h3 : I 96 3 = nI 0) : grp_X0_swings (d + 1) (nI 0) x (nI e) I J = some (gV a x 0 * 2, apC I c (11 :: gB 0)) := (cs_b (n := n) (k := 0) (by omega) (by omega) (by omega) h1 h4 h5 h3)
theorem cs_2 {d e c : Nat} {a n x : Int32} {I : HI} {J : HJ} (he : e + 2 ≤ 15) (hc : c + 2 ≤ 24) (h1 : I 96 1 = nI c) (h4 : I 96 4 = n) (h5 : I 96 5 = a) (h3 : I 96 3 = nI 2) : grp_X0_swings (d + 2) (nI 2) x (nI e) I J = some (gV a x 2 * 2, apC I c (11 :: gB 2)) := by
  show fb_X0_swings (grp_X0_swings (d + 1)) (nI 2) x (nI e) I J = _
  unfold fb_X0_swings
  rw [if_pos (le20 (by omega)), if_neg (show ¬ (nI 2 : Int32) = 0 by decide), if_neg (show ¬ (nI 2 : Int32) = 1 by decide), if_neg (show ¬ (nI 2 : Int32) = 4 by decide), if_neg (show ¬ (nI 2 : Int32) = 7 by decide), ab_2, bd1_s, nI_1, (cs_b (n := n) (k := 2) (by omega) (by omega) (by omega) h1 h4 h5 h3), bd2_s]
theorem cs_5 {d e c : Nat} {a n x : Int32} {I : HI} {J : HJ} (he : e + 2 ≤ 15) (hc : c + 2 ≤ 24) (h1 : I 96 1 = nI c) (h4 : I 96 4 = n) (h5 : I 96 5 = a) (h3 : I 96 3 = nI 5) : grp_X0_swings (d + 2) (nI 5) x (nI e) I J = some (gV a x 5 * 2, apC I c (11 :: gB 5)) := by
  show fb_X0_swings (grp_X0_swings (d + 1)) (nI 5) x (nI e) I J = _
  unfold fb_X0_swings
  rw [if_pos (le20 (by omega)), if_neg (show ¬ (nI 5 : Int32) = 0 by decide), if_neg (show ¬ (nI 5 : Int32) = 1 by decide), if_neg (show ¬ (nI 5 : Int32) = 4 by decide), if_neg (show ¬ (nI 5 : Int32) = 7 by decide), ab_5, bd1_s, nI_1, (cs_b (n := n) (k := 5) (by omega) (by omega) (by omega) h1 h4 h5 h3), bd2_s]
theorem cs_3m {d e c : Nat} {a n x : Int32} {I : HI} {J : HJ} (he : e + 2 ≤ 15) (hc : c + 2 ≤ 24) (h1 : I 96 1 = nI c) (h4 : I 96 4 = n) (h5 : I 96 5 = a) (h3 : I 96 3 = nI 3) : grp_X0_swings (d + 2) (nI 2) x (nI e) I J = some (gV a x 3 * 2, apC I c (11 :: gB 3)) := by
  show fb_X0_swings (grp_X0_swings (d + 1)) (nI 2) x (nI e) I J = _
  unfold fb_X0_swings
  rw [if_pos (le20 (by omega)), if_neg (show ¬ (nI 2 : Int32) = 0 by decide), if_neg (show ¬ (nI 2 : Int32) = 1 by decide), if_neg (show ¬ (nI 2 : Int32) = 4 by decide), if_neg (show ¬ (nI 2 : Int32) = 7 by decide), ab_2, bd1_s, nI_1, (cs_b (n := n) (k := 3) (by omega) (by omega) (by omega) h1 h4 h5 h3), bd2_s]
theorem cs_3 {d e c : Nat} {a n x : Int32} {I : HI} {J : HJ} (he : e + 3 ≤ 15) (hc : c + 3 ≤ 24) (h1 : I 96 1 = nI c) (h4 : I 96 4 = n) (h5 : I 96 5 = a) (h3 : I 96 3 = nI 3) : grp_X0_swings (d + 3) (nI 3) x (nI e) I J = some (gV a x 3 * 2, apC I c (11 :: gB 3)) := by
  show fb_X0_swings (grp_X0_swings (d + 2)) (nI 3) x (nI e) I J = _
  unfold fb_X0_swings
  rw [if_pos (le20 (by omega)), if_neg (show ¬ (nI 3 : Int32) = 0 by decide), if_neg (show ¬ (nI 3 : Int32) = 1 by decide), if_neg (show ¬ (nI 3 : Int32) = 4 by decide), if_neg (show ¬ (nI 3 : Int32) = 7 by decide), ab_3, bd1_s, nI_1, cs_3m (by omega) (by omega) h1 h4 h5 h3, bd2_s]
theorem cs_6m {d e c : Nat} {a n x : Int32} {I : HI} {J : HJ} (he : e + 2 ≤ 15) (hc : c + 2 ≤ 24) (h1 : I 96 1 = nI c) (h4 : I 96 4 = n) (h5 : I 96 5 = a) (h3 : I 96 3 = nI 6) : grp_X0_swings (d + 2) (nI 5) x (nI e) I J = some (gV a x 6 * 2, apC I c (11 :: gB 6)) := by
  show fb_X0_swings (grp_X0_swings (d + 1)) (nI 5) x (nI e) I J = _
  unfold fb_X0_swings
  rw [if_pos (le20 (by omega)), if_neg (show ¬ (nI 5 : Int32) = 0 by decide), if_neg (show ¬ (nI 5 : Int32) = 1 by decide), if_neg (show ¬ (nI 5 : Int32) = 4 by decide), if_neg (show ¬ (nI 5 : Int32) = 7 by decide), ab_5, bd1_s, nI_1, (cs_b (n := n) (k := 6) (by omega) (by omega) (by omega) h1 h4 h5 h3), bd2_s]
theorem cs_6 {d e c : Nat} {a n x : Int32} {I : HI} {J : HJ} (he : e + 3 ≤ 15) (hc : c + 3 ≤ 24) (h1 : I 96 1 = nI c) (h4 : I 96 4 = n) (h5 : I 96 5 = a) (h3 : I 96 3 = nI 6) : grp_X0_swings (d + 3) (nI 6) x (nI e) I J = some (gV a x 6 * 2, apC I c (11 :: gB 6)) := by
  show fb_X0_swings (grp_X0_swings (d + 2)) (nI 6) x (nI e) I J = _
  unfold fb_X0_swings
  rw [if_pos (le20 (by omega)), if_neg (show ¬ (nI 6 : Int32) = 0 by decide), if_neg (show ¬ (nI 6 : Int32) = 1 by decide), if_neg (show ¬ (nI 6 : Int32) = 4 by decide), if_neg (show ¬ (nI 6 : Int32) = 7 by decide), ab_6, bd1_s, nI_1, cs_6m (by omega) (by omega) h1 h4 h5 h3, bd2_s]
theorem cs_1 {d e c : Nat} {a n x : Int32} {I : HI} {J : HJ} (he : e + 2 ≤ 15) (hc : c + 2 ≤ 24) (h1 : I 96 1 = nI c) (h4 : I 96 4 = n) (h5 : I 96 5 = a) (h3 : I 96 3 = nI 1) : grp_X0_swings (d + 2) (nI 1) x (nI e) I J = some (gV a x 1 * 2 - 3, apC I c (20 :: 11 :: gB 1)) := by
  show fb_X0_swings (grp_X0_swings (d + 1)) (nI 1) x (nI e) I J = _
  unfold fb_X0_swings
  rw [if_pos (le20 (by omega)), if_neg (show ¬ (nI 1 : Int32) = 0 by decide), if_pos (show (nI 1 : Int32) = 1 by decide), cbg (by omega) h1, bd1_s, ab_1, bd1_s, nI_1, (cs_b (n := n) (k := 1) (by omega) (by omega) (by omega) bC_1 ((bC_o (by omega)).trans h4) ((bC_o (by omega)).trans h5) ((bC_o (by omega)).trans h3)), bd2_s]
  rfl
theorem cs_4 {d e c : Nat} {a n x : Int32} {I : HI} {J : HJ} (he : e + 2 ≤ 15) (hc : c + 2 ≤ 24) (h1 : I 96 1 = nI c) (h4 : I 96 4 = n) (h5 : I 96 5 = a) (h3 : I 96 3 = nI 4) : grp_X0_swings (d + 2) (nI 4) x (nI e) I J = some (0 - gV a x 4 * 2, apC I c (50 :: 11 :: gB 4)) := by
  show fb_X0_swings (grp_X0_swings (d + 1)) (nI 4) x (nI e) I J = _
  unfold fb_X0_swings
  rw [if_pos (le20 (by omega)), if_neg (show ¬ (nI 4 : Int32) = 0 by decide), if_neg (show ¬ (nI 4 : Int32) = 1 by decide), if_pos (show (nI 4 : Int32) = 4 by decide), cbg (by omega) h1, bd1_s, ab_4, bd1_s, nI_1, (cs_b (n := n) (k := 4) (by omega) (by omega) (by omega) bC_1 ((bC_o (by omega)).trans h4) ((bC_o (by omega)).trans h5) ((bC_o (by omega)).trans h3)), bd2_s]
  rfl
theorem cs_7 {d e c : Nat} {a n x : Int32} {I : HI} {J : HJ} (he : e + 1 ≤ 15) (hc : c + 1 ≤ 24) (h1 : I 96 1 = nI c) (h4 : I 96 4 = n) (h5 : I 96 5 = a) (h3 : I 96 3 = nI 7) : grp_X0_swings (d + 1) (nI 7) x (nI e) I J = some (gV a x 7 * n, apC I c (81 :: gB 7)) := by
  show fb_X0_swings (grp_X0_swings (d + 0)) (nI 7) x (nI e) I J = _
  unfold fb_X0_swings
  rw [if_pos (le20 (by omega)), if_neg (show ¬ (nI 7 : Int32) = 0 by decide), if_neg (show ¬ (nI 7 : Int32) = 1 by decide), if_neg (show ¬ (nI 7 : Int32) = 4 by decide), if_pos (show (nI 7 : Int32) = 7 by decide), cbg (by omega) h1, bd1_s, bC_o (by omega), h3, nI_1, (cgr (n := n) (show 7 < 8 by omega) (by omega) (by omega) bC_1 ((bC_o (by omega)).trans h4) ((bC_o (by omega)).trans h5)), bd2_s, apC_o (by omega), bC_o (by omega), h4]
  rfl
theorem csw {k e c : Nat} {a n x : Int32} {I : HI} {J : HJ} (hk : k < 8) (he : e ≤ 12) (hc : c ≤ 21) (h1 : I 96 1 = nI c) (h4 : I 96 4 = n) (h5 : I 96 5 = a) (h3 : I 96 3 = nI k) : f_X0_swings 40 (nI k) x (nI e) I J = some (sV a n x k, apC I c (sB k)) := by
  have hk8 : k = 0 ∨ k = 1 ∨ k = 2 ∨ k = 3 ∨ k = 4 ∨ k = 5 ∨ k = 6 ∨ k = 7 := by omega
  rcases hk8 with rfl | rfl | rfl | rfl | rfl | rfl | rfl | rfl
  · exact cs_0 (d := 39) (by omega) (by omega) h1 h4 h5 h3
  · exact cs_1 (d := 38) (by omega) (by omega) h1 h4 h5 h3
  · exact cs_2 (d := 38) (by omega) (by omega) h1 h4 h5 h3
  · exact cs_3 (d := 37) (by omega) (by omega) h1 h4 h5 h3
  · exact cs_4 (d := 38) (by omega) (by omega) h1 h4 h5 h3
  · exact cs_5 (d := 38) (by omega) (by omega) h1 h4 h5 h3
  · exact cs_6 (d := 37) (by omega) (by omega) h1 h4 h5 h3
  · exact cs_7 (d := 39) (by omega) (by omega) h1 h4 h5 h3
theorem cp_0 {d e c : Nat} {a n x : Int32} {I : HI} {J : HJ} (he : e + 1 ≤ 20) (hc : c + 1 ≤ 28) (h1 : I 96 1 = nI c) (h4 : I 96 4 = n) (h5 : I 96 5 = a) : grp_X0_parts (d + 1) (nI 0) x (nI e) I J = some (pQ (a - n) x, pF (apC I c [12]) (a - n)) := by
  show fb_X0_parts (grp_X0_parts d) (nI 0) x (nI e) I J = _
  unfold fb_X0_parts f_X0_partedBy
  rw [if_pos (le20 (by omega)), if_pos (show (nI 0 : Int32) = 0 by decide), cbg (by omega) h1, bd1_s, bC_o (by omega), bC_o (by omega), h4, h5]
  unfold pQ pF
  by_cases hz : a - n = 0
  · rw [if_pos hz, if_pos hz, if_pos hz, nm_s, bd2_s]
    rfl
  · rw [if_neg hz, if_neg hz, if_neg hz, if_neg hz, bd2_s]
    rfl
theorem cp_1 {d e c : Nat} {a n x : Int32} {I : HI} {J : HJ} (he : e + 2 ≤ 20) (hc : c + 2 ≤ 28) (h1 : I 96 1 = nI c) (h4 : I 96 4 = n) (h5 : I 96 5 = a) : grp_X0_parts (d + 2) (nI 1) x (nI e) I J = some (pQ (a - n) x, pF (apC I c [12]) (a - n)) := by
  show fb_X0_parts (grp_X0_parts (d + 1)) (nI 1) x (nI e) I J = _
  unfold fb_X0_parts
  rw [if_pos (le20 (by omega)), if_neg (show ¬ (nI 1 : Int32) = 0 by decide), if_neg (show ¬ (nI 1 : Int32) = 3 by decide), if_neg (show ¬ (nI 1 : Int32) = 5 by decide), if_neg (show ¬ (nI 1 : Int32) = 6 by decide), if_neg (show ¬ (nI 1 : Int32) = 7 by decide), ab_1, bd1_s, nI_1, cp_0 (by omega) (by omega) h1 h4 h5, bd2_s]
theorem cp_2 {d e c : Nat} {a n x : Int32} {I : HI} {J : HJ} (he : e + 2 ≤ 20) (hc : c + 2 ≤ 28) (h1 : I 96 1 = nI c) (h4 : I 96 4 = n) (h5 : I 96 5 = a) : grp_X0_parts (d + 2) (nI 2) x (nI e) I J = some (pQ (a - n) x, pF (apC I c [12]) (a - n)) := by
  show fb_X0_parts (grp_X0_parts (d + 1)) (nI 2) x (nI e) I J = _
  unfold fb_X0_parts
  rw [if_pos (le20 (by omega)), if_neg (show ¬ (nI 2 : Int32) = 0 by decide), if_neg (show ¬ (nI 2 : Int32) = 3 by decide), if_neg (show ¬ (nI 2 : Int32) = 5 by decide), if_neg (show ¬ (nI 2 : Int32) = 6 by decide), if_neg (show ¬ (nI 2 : Int32) = 7 by decide), ab_2, bd1_s, nI_1, cp_0 (by omega) (by omega) h1 h4 h5, bd2_s]
theorem cp_4 {d e c : Nat} {a n x : Int32} {I : HI} {J : HJ} (he : e + 2 ≤ 20) (hc : c + 2 ≤ 28) (h1 : I 96 1 = nI c) (h4 : I 96 4 = n) (h5 : I 96 5 = a) : grp_X0_parts (d + 2) (nI 4) x (nI e) I J = some (pQ (a - n) x, pF (apC I c [12]) (a - n)) := by
  show fb_X0_parts (grp_X0_parts (d + 1)) (nI 4) x (nI e) I J = _
  unfold fb_X0_parts
  rw [if_pos (le20 (by omega)), if_neg (show ¬ (nI 4 : Int32) = 0 by decide), if_neg (show ¬ (nI 4 : Int32) = 3 by decide), if_neg (show ¬ (nI 4 : Int32) = 5 by decide), if_neg (show ¬ (nI 4 : Int32) = 6 by decide), if_neg (show ¬ (nI 4 : Int32) = 7 by decide), ab_4, bd1_s, nI_1, cp_0 (by omega) (by omega) h1 h4 h5, bd2_s]
theorem cp_3 {d e c : Nat} {a n x : Int32} {I : HI} {J : HJ} (he : e + 3 ≤ 20) (hc : c + 3 ≤ 28) (h1 : I 96 1 = nI c) (h4 : I 96 4 = n) (h5 : I 96 5 = a) : grp_X0_parts (d + 3) (nI 3) x (nI e) I J = some (pQ (a - n) (x + 1), pF (apC I c [41, 12]) (a - n)) := by
  show fb_X0_parts (grp_X0_parts (d + 2)) (nI 3) x (nI e) I J = _
  unfold fb_X0_parts
  rw [if_pos (le20 (by omega)), if_neg (show ¬ (nI 3 : Int32) = 0 by decide), if_pos (show (nI 3 : Int32) = 3 by decide), cbg (by omega) h1, bd1_s, ab_3, bd1_s]
  rw [nI_1 e, cp_2 (by omega) (by omega) bC_1 ((bC_o (by omega)).trans h4) ((bC_o (by omega)).trans h5), bd2_s]
  rfl
theorem cp_5 {d e c : Nat} {a n x : Int32} {I : HI} {J : HJ} (he : e + 2 ≤ 20) (hc : c + 2 ≤ 28) (h1 : I 96 1 = nI c) (h4 : I 96 4 = n) (h5 : I 96 5 = a) : grp_X0_parts (d + 2) (nI 5) x (nI e) I J = some (pQ (a - n) (x - 1), pF (apC I c [61, 12]) (a - n)) := by
  show fb_X0_parts (grp_X0_parts (d + 1)) (nI 5) x (nI e) I J = _
  unfold fb_X0_parts
  rw [if_pos (le20 (by omega)), if_neg (show ¬ (nI 5 : Int32) = 0 by decide), if_neg (show ¬ (nI 5 : Int32) = 3 by decide), if_pos (show (nI 5 : Int32) = 5 by decide), cbg (by omega) h1, bd1_s, ab_5, bd1_s]
  rw [nI_1 e, cp_0 (by omega) (by omega) bC_1 ((bC_o (by omega)).trans h4) ((bC_o (by omega)).trans h5), bd2_s]
  rfl
theorem cp_6 {d e c : Nat} {a n x : Int32} {I : HI} {J : HJ} (he : e + 3 ≤ 20) (hc : c + 3 ≤ 28) (h1 : I 96 1 = nI c) (h4 : I 96 4 = n) (h5 : I 96 5 = a) : grp_X0_parts (d + 3) (nI 6) x (nI e) I J = some (pQ (a - n) (x - 1) ^^^ 1, pF (apC I c [71, 61, 12]) (a - n)) := by
  show fb_X0_parts (grp_X0_parts (d + 2)) (nI 6) x (nI e) I J = _
  unfold fb_X0_parts
  rw [if_pos (le20 (by omega)), if_neg (show ¬ (nI 6 : Int32) = 0 by decide), if_neg (show ¬ (nI 6 : Int32) = 3 by decide), if_neg (show ¬ (nI 6 : Int32) = 5 by decide), if_pos (show (nI 6 : Int32) = 6 by decide), cbg (by omega) h1, bd1_s, ab_6, bd1_s]
  rw [nI_1 e, cp_5 (by omega) (by omega) bC_1 ((bC_o (by omega)).trans h4) ((bC_o (by omega)).trans h5), bd2_s]
  rfl
theorem cp_7 {d e c : Nat} {a n x : Int32} {I : HI} {J : HJ} (he : e + 1 ≤ 20) (hc : c + 1 ≤ 28) (h1 : I 96 1 = nI c) (h4 : I 96 4 = n) (h5 : I 96 5 = a) : grp_X0_parts (d + 1) (nI 7) x (nI e) I J = some (x &&& a, apC I c [82]) := by
  show fb_X0_parts (grp_X0_parts (d + 0)) (nI 7) x (nI e) I J = _
  unfold fb_X0_parts
  rw [if_pos (le20 (by omega)), if_neg (show ¬ (nI 7 : Int32) = 0 by decide), if_neg (show ¬ (nI 7 : Int32) = 3 by decide), if_neg (show ¬ (nI 7 : Int32) = 5 by decide), if_neg (show ¬ (nI 7 : Int32) = 6 by decide), if_pos (show (nI 7 : Int32) = 7 by decide), cbg (by omega) h1, bd1_s, bC_o (by omega), h5]
  rfl
theorem cpa {k e c : Nat} {a n x : Int32} {I : HI} {J : HJ} (hk : k < 8) (he : e ≤ 15) (hc : c ≤ 24) (h1 : I 96 1 = nI c) (h4 : I 96 4 = n) (h5 : I 96 5 = a) : f_X0_parts 40 (nI k) x (nI e) I J = some (pV a n x k, pH k (a - n) (apC I c (pB k))) := by
  have hk8 : k = 0 ∨ k = 1 ∨ k = 2 ∨ k = 3 ∨ k = 4 ∨ k = 5 ∨ k = 6 ∨ k = 7 := by omega
  rcases hk8 with rfl | rfl | rfl | rfl | rfl | rfl | rfl | rfl
  · exact cp_0 (d := 39) (by omega) (by omega) h1 h4 h5
  · exact cp_1 (d := 38) (by omega) (by omega) h1 h4 h5
  · exact cp_2 (d := 38) (by omega) (by omega) h1 h4 h5
  · exact cp_3 (d := 37) (by omega) (by omega) h1 h4 h5
  · exact cp_4 (d := 38) (by omega) (by omega) h1 h4 h5
  · exact cp_5 (d := 38) (by omega) (by omega) h1 h4 h5
  · exact cp_6 (d := 37) (by omega) (by omega) h1 h4 h5
  · exact cp_7 (d := 39) (by omega) (by omega) h1 h4 h5
theorem ctl_b {d k e c : Nat} {a n x : Int32} {I : HI} {J : HJ} (hk : k < 8) (he : e + 1 ≤ 12) (hc : c + 1 ≤ 16) (h1 : I 96 1 = nI c) (h4 : I 96 4 = n) (h5 : I 96 5 = a) (h3 : I 96 3 = nI k) : grp_X0_tells (d + 1) (nI 0) x (nI e) I J = some (sV a n x k ^^^ n, apC I c (13 :: sB k)) := by
  show fb_X0_tells (grp_X0_tells d) (nI 0) x (nI e) I J = _
  unfold fb_X0_tells
  rw [if_pos (le20 (by omega)), if_pos (show (nI 0 : Int32) = 0 by decide), cbg (by omega) h1, bd1_s, bC_o (by omega), h3, nI_1, (csw hk (by omega) (by omega) bC_1 ((bC_o (by omega)).trans h4) ((bC_o (by omega)).trans h5) ((bC_o (by omega)).trans h3)), bd2_s, apC_o (by omega), bC_o (by omega), h4]
  rfl
theorem ctl_0 {d e c : Nat} {a n x : Int32} {I : HI} {J : HJ} (he : e + 1 ≤ 12) (hc : c + 1 ≤ 16) (h1 : I 96 1 = nI c) (h4 : I 96 4 = n) (h5 : I 96 5 = a) (h3 : I 96 3 = nI 0) : grp_X0_tells (d + 1) (nI 0) x (nI e) I J = some (sV a n x 0 ^^^ n, apC I c (13 :: sB 0)) := (ctl_b (k := 0) (by omega) (by omega) (by omega) h1 h4 h5 h3)
theorem ctl_1 {d e c : Nat} {a n x : Int32} {I : HI} {J : HJ} (he : e + 2 ≤ 12) (hc : c + 2 ≤ 16) (h1 : I 96 1 = nI c) (h4 : I 96 4 = n) (h5 : I 96 5 = a) (h3 : I 96 3 = nI 1) : grp_X0_tells (d + 2) (nI 1) x (nI e) I J = some (sV a n x 1 ^^^ n, apC I c (13 :: sB 1)) := by
  show fb_X0_tells (grp_X0_tells (d + 1)) (nI 1) x (nI e) I J = _
  unfold fb_X0_tells
  rw [if_pos (le20 (by omega)), if_neg (show ¬ (nI 1 : Int32) = 0 by decide), if_neg (show ¬ (nI 1 : Int32) = 2 by decide), if_neg (show ¬ (nI 1 : Int32) = 5 by decide), if_neg (show ¬ (nI 1 : Int32) = 7 by decide), ab_1, bd1_s, nI_1, (ctl_b (k := 1) (by omega) (by omega) (by omega) h1 h4 h5 h3), bd2_s]
theorem ctl_4 {d e c : Nat} {a n x : Int32} {I : HI} {J : HJ} (he : e + 2 ≤ 12) (hc : c + 2 ≤ 16) (h1 : I 96 1 = nI c) (h4 : I 96 4 = n) (h5 : I 96 5 = a) (h3 : I 96 3 = nI 4) : grp_X0_tells (d + 2) (nI 4) x (nI e) I J = some (sV a n x 4 ^^^ n, apC I c (13 :: sB 4)) := by
  show fb_X0_tells (grp_X0_tells (d + 1)) (nI 4) x (nI e) I J = _
  unfold fb_X0_tells
  rw [if_pos (le20 (by omega)), if_neg (show ¬ (nI 4 : Int32) = 0 by decide), if_neg (show ¬ (nI 4 : Int32) = 2 by decide), if_neg (show ¬ (nI 4 : Int32) = 5 by decide), if_neg (show ¬ (nI 4 : Int32) = 7 by decide), ab_4, bd1_s, nI_1, (ctl_b (k := 4) (by omega) (by omega) (by omega) h1 h4 h5 h3), bd2_s]
theorem ctl_5 {d e c : Nat} {a n x : Int32} {I : HI} {J : HJ} (he : e + 2 ≤ 12) (hc : c + 2 ≤ 16) (h1 : I 96 1 = nI c) (h4 : I 96 4 = n) (h5 : I 96 5 = a) (h3 : I 96 3 = nI 5) : grp_X0_tells (d + 2) (nI 5) x (nI e) I J = some ((sV a n x 5 ^^^ n) * 2, apC I c (60 :: 13 :: sB 5)) := by
  show fb_X0_tells (grp_X0_tells (d + 1)) (nI 5) x (nI e) I J = _
  unfold fb_X0_tells
  rw [if_pos (le20 (by omega)), if_neg (show ¬ (nI 5 : Int32) = 0 by decide), if_neg (show ¬ (nI 5 : Int32) = 2 by decide), if_pos (show (nI 5 : Int32) = 5 by decide), cbg (by omega) h1, bd1_s, ab_5, bd1_s, nI_1, (ctl_b (k := 5) (by omega) (by omega) (by omega) bC_1 ((bC_o (by omega)).trans h4) ((bC_o (by omega)).trans h5) ((bC_o (by omega)).trans h3)), bd2_s]
  rfl
theorem ctl_6m {d e c : Nat} {a n x : Int32} {I : HI} {J : HJ} (he : e + 2 ≤ 12) (hc : c + 2 ≤ 16) (h1 : I 96 1 = nI c) (h4 : I 96 4 = n) (h5 : I 96 5 = a) (h3 : I 96 3 = nI 6) : grp_X0_tells (d + 2) (nI 5) x (nI e) I J = some ((sV a n x 6 ^^^ n) * 2, apC I c (60 :: 13 :: sB 6)) := by
  show fb_X0_tells (grp_X0_tells (d + 1)) (nI 5) x (nI e) I J = _
  unfold fb_X0_tells
  rw [if_pos (le20 (by omega)), if_neg (show ¬ (nI 5 : Int32) = 0 by decide), if_neg (show ¬ (nI 5 : Int32) = 2 by decide), if_pos (show (nI 5 : Int32) = 5 by decide), cbg (by omega) h1, bd1_s, ab_5, bd1_s, nI_1, (ctl_b (k := 6) (by omega) (by omega) (by omega) bC_1 ((bC_o (by omega)).trans h4) ((bC_o (by omega)).trans h5) ((bC_o (by omega)).trans h3)), bd2_s]
  rfl
theorem ctl_6 {d e c : Nat} {a n x : Int32} {I : HI} {J : HJ} (he : e + 3 ≤ 12) (hc : c + 3 ≤ 16) (h1 : I 96 1 = nI c) (h4 : I 96 4 = n) (h5 : I 96 5 = a) (h3 : I 96 3 = nI 6) : grp_X0_tells (d + 3) (nI 6) x (nI e) I J = some ((sV a n x 6 ^^^ n) * 2, apC I c (60 :: 13 :: sB 6)) := by
  show fb_X0_tells (grp_X0_tells (d + 2)) (nI 6) x (nI e) I J = _
  unfold fb_X0_tells
  rw [if_pos (le20 (by omega)), if_neg (show ¬ (nI 6 : Int32) = 0 by decide), if_neg (show ¬ (nI 6 : Int32) = 2 by decide), if_neg (show ¬ (nI 6 : Int32) = 5 by decide), if_neg (show ¬ (nI 6 : Int32) = 7 by decide), ab_6, bd1_s, nI_1, ctl_6m (by omega) (by omega) h1 h4 h5 h3, bd2_s]
theorem ctl_2 {d e c : Nat} {a n x : Int32} {I : HI} {J : HJ} (he : e + 2 ≤ 12) (hc : c + 2 ≤ 16) (h1 : I 96 1 = nI c) (h4 : I 96 4 = n) (h5 : I 96 5 = a) (h3 : I 96 3 = nI 2) : grp_X0_tells (d + 2) (nI 2) x (nI e) I J = some ((sV a n x 2 ^^^ n) + pV a n n 2, pH 2 (a - n) (apC I c ((31 :: 13 :: sB 2) ++ pB 2))) := by
  show fb_X0_tells (grp_X0_tells (d + 1)) (nI 2) x (nI e) I J = _
  unfold fb_X0_tells
  rw [if_pos (le20 (by omega)), if_neg (show ¬ (nI 2 : Int32) = 0 by decide), if_pos (show (nI 2 : Int32) = 2 by decide), cbg (by omega) h1, bd1_s, ab_2, bd1_s, nI_1, (ctl_b (k := 2) (by omega) (by omega) (by omega) bC_1 ((bC_o (by omega)).trans h4) ((bC_o (by omega)).trans h5) ((bC_o (by omega)).trans h3)), bd2_s, apC_o (by omega), apC_o (by omega), bC_o (by omega), bC_o (by omega), h3, h4]
  rw [apC_c, (cpa (k := 2) (e := e + 1) (x := n) (c := c + ((31 :: 13 :: sB 2)).length) (n := n) (a := a) (I := apC I c (31 :: 13 :: sB 2)) (J := J) (by omega) (by omega) (by have h := sB_l 2 (by omega); show c + ((sB 2).length + 1 + 1) ≤ 24; omega) (apC_n (31 :: 13 :: sB 2) I c h1) ((apC_o (by omega)).trans h4) ((apC_o (by omega)).trans h5)), bd2_s, apC_a]
theorem ctl_3m {d e c : Nat} {a n x : Int32} {I : HI} {J : HJ} (he : e + 2 ≤ 12) (hc : c + 2 ≤ 16) (h1 : I 96 1 = nI c) (h4 : I 96 4 = n) (h5 : I 96 5 = a) (h3 : I 96 3 = nI 3) : grp_X0_tells (d + 2) (nI 2) x (nI e) I J = some ((sV a n x 3 ^^^ n) + pV a n n 3, pH 3 (a - n) (apC I c ((31 :: 13 :: sB 3) ++ pB 3))) := by
  show fb_X0_tells (grp_X0_tells (d + 1)) (nI 2) x (nI e) I J = _
  unfold fb_X0_tells
  rw [if_pos (le20 (by omega)), if_neg (show ¬ (nI 2 : Int32) = 0 by decide), if_pos (show (nI 2 : Int32) = 2 by decide), cbg (by omega) h1, bd1_s, ab_2, bd1_s, nI_1, (ctl_b (k := 3) (by omega) (by omega) (by omega) bC_1 ((bC_o (by omega)).trans h4) ((bC_o (by omega)).trans h5) ((bC_o (by omega)).trans h3)), bd2_s, apC_o (by omega), apC_o (by omega), bC_o (by omega), bC_o (by omega), h3, h4]
  rw [apC_c, (cpa (k := 3) (e := e + 1) (x := n) (c := c + ((31 :: 13 :: sB 3)).length) (n := n) (a := a) (I := apC I c (31 :: 13 :: sB 3)) (J := J) (by omega) (by omega) (by have h := sB_l 3 (by omega); show c + ((sB 3).length + 1 + 1) ≤ 24; omega) (apC_n (31 :: 13 :: sB 3) I c h1) ((apC_o (by omega)).trans h4) ((apC_o (by omega)).trans h5)), bd2_s, apC_a]
theorem ctl_3 {d e c : Nat} {a n x : Int32} {I : HI} {J : HJ} (he : e + 3 ≤ 12) (hc : c + 3 ≤ 16) (h1 : I 96 1 = nI c) (h4 : I 96 4 = n) (h5 : I 96 5 = a) (h3 : I 96 3 = nI 3) : grp_X0_tells (d + 3) (nI 3) x (nI e) I J = some ((sV a n x 3 ^^^ n) + pV a n n 3, pH 3 (a - n) (apC I c ((31 :: 13 :: sB 3) ++ pB 3))) := by
  show fb_X0_tells (grp_X0_tells (d + 2)) (nI 3) x (nI e) I J = _
  unfold fb_X0_tells
  rw [if_pos (le20 (by omega)), if_neg (show ¬ (nI 3 : Int32) = 0 by decide), if_neg (show ¬ (nI 3 : Int32) = 2 by decide), if_neg (show ¬ (nI 3 : Int32) = 5 by decide), if_neg (show ¬ (nI 3 : Int32) = 7 by decide), ab_3, bd1_s, nI_1, ctl_3m (by omega) (by omega) h1 h4 h5 h3, bd2_s]
theorem ctl_7 {d e c : Nat} {a n x : Int32} {I : HI} {J : HJ} (he : e + 1 ≤ 12) (hc : c + 1 ≤ 16) (h1 : I 96 1 = nI c) (h4 : I 96 4 = n) (h5 : I 96 5 = a) (h3 : I 96 3 = nI 7) : grp_X0_tells (d + 1) (nI 7) x (nI e) I J = some (sV a n x 7 - pV a n n 7, pH 7 (a - n) (apC I c ((83 :: sB 7) ++ pB 7))) := by
  show fb_X0_tells (grp_X0_tells d) (nI 7) x (nI e) I J = _
  unfold fb_X0_tells
  rw [if_pos (le20 (by omega)), if_neg (show ¬ (nI 7 : Int32) = 0 by decide), if_neg (show ¬ (nI 7 : Int32) = 2 by decide), if_neg (show ¬ (nI 7 : Int32) = 5 by decide), if_pos (show (nI 7 : Int32) = 7 by decide), cbg (by omega) h1, bd1_s, bC_o (by omega), h3, nI_1, (csw (show 7 < 8 by omega) (by omega) (by omega) bC_1 ((bC_o (by omega)).trans h4) ((bC_o (by omega)).trans h5) ((bC_o (by omega)).trans h3)), bd2_s, apC_o (by omega), apC_o (by omega), bC_o (by omega), bC_o (by omega), h3, h4]
  rw [apC_c, (cpa (k := 7) (e := e + 1) (x := n) (c := c + ((83 :: sB 7)).length) (n := n) (a := a) (I := apC I c (83 :: sB 7)) (J := J) (by omega) (by omega) (by have h := sB_l 7 (by omega); show c + ((sB 7).length + 1) ≤ 24; omega) (apC_n (83 :: sB 7) I c h1) ((apC_o (by omega)).trans h4) ((apC_o (by omega)).trans h5)), bd2_s, apC_a]

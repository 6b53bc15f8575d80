theorem sub_z {a n : Int32} : a - n = 0 ↔ a = n := ⟨fun h => by
  have e := Int32.sub_add_cancel a n
  rw [h, Int32.zero_add] at e
  exact e.symm, fun h => by rw [h]; exact Int32.sub_self n⟩
def mF (I : HI) (z : Int32) : HI := put I 98 41 (if z = 0 then 1 else 0)
def mH (k : Nat) (z : Int32) (I : HI) : HI := if k = 7 then I else mF I z
theorem ctl {k e c : Nat} {a n x : Int32} {I : HI} {J : HJ} (hk : k < 8) (he : e ≤ 9) (hc : c ≤ 12) (h1 : I 96 1 = nI c) (h4 : I 96 4 = n) (h5 : I 96 5 = a) (h3 : I 96 3 = nI k) : f_X0_tells 40 (nI k) x (nI e) I J = some (tV a n x k, if k = 2 ∨ k = 3 then pF (apC I c (tB k)) (a - n) else apC I c (tB k)) := by
  have hk8 : k = 0 ∨ k = 1 ∨ k = 2 ∨ k = 3 ∨ k = 4 ∨ k = 5 ∨ k = 6 ∨ k = 7 := by omega
  rcases hk8 with rfl | rfl | rfl | rfl | rfl | rfl | rfl | rfl
  · rw [if_neg (by omega)]
    exact ctl_0 (d := 39) (by omega) (by omega) h1 h4 h5 h3
  · rw [if_neg (by omega)]
    exact ctl_1 (d := 38) (by omega) (by omega) h1 h4 h5 h3
  · rw [if_pos (by omega)]
    exact ctl_2 (d := 38) (by omega) (by omega) h1 h4 h5 h3
  · rw [if_pos (by omega)]
    exact ctl_3 (d := 37) (by omega) (by omega) h1 h4 h5 h3
  · rw [if_neg (by omega)]
    exact ctl_4 (d := 38) (by omega) (by omega) h1 h4 h5 h3
  · rw [if_neg (by omega)]
    exact ctl_5 (d := 38) (by omega) (by omega) h1 h4 h5 h3
  · rw [if_neg (by omega)]
    exact ctl_6 (d := 37) (by omega) (by omega) h1 h4 h5 h3
  · rw [if_neg (by omega)]
    exact ctl_7 (d := 39) (by omega) (by omega) h1 h4 h5 h3
theorem mag {c : Nat} {a x : Int32} {I : HI} {J : HJ} (hc : c ≤ 25) (h40 : I 98 40 = nI c) (h38 : I 98 38 = a) : f_X11_anyGrows x I J = some (x + a, apM I c [10]) := by
  unfold f_X11_anyGrows
  rw [mran (by omega) h40, bd1_s, bM_o (by omega), h38]
  rfl
theorem mtg {c : Nat} {a x : Int32} {I : HI} {J : HJ} (hc : c ≤ 24) (h40 : I 98 40 = nI c) (h38 : I 98 38 = a) : f_X11_twosGrows x I J = some ((x + a) * 5, apM I c [30, 10]) := by
  unfold f_X11_twosGrows
  rw [mran (by omega) h40, bd1_s, mag (by omega) bM_1 ((bM_o (by omega)).trans h38), bd2_s, apM_c]
theorem mgr {k c : Nat} (hk : k < 8) {a n x : Int32} {I : HI} {J : HJ} (hc : c ≤ 23) (h40 : I 98 40 = nI c) (h36 : I 98 36 = nI k) (h37 : I 98 37 = n) (h38 : I 98 38 = a) : f_X11_grows x I J = some (gV a x k, apM I c (gB k)) := by
  have hk8 : k = 0 ∨ k = 1 ∨ k = 2 ∨ k = 3 ∨ k = 4 ∨ k = 5 ∨ k = 6 ∨ k = 7 := by omega
  unfold f_X11_grows
  rw [nm_s, h36]
  rcases hk8 with rfl | rfl | rfl | rfl | rfl | rfl | rfl | rfl
  · rw [if_neg (show ¬ (nI 0 : Int32) = 2 by decide), if_neg (show ¬ (nI 0 : Int32) = 3 by decide), if_neg (show ¬ (nI 0 : Int32) = 6 by decide), if_neg (show ¬ (nI 0 : Int32) = 7 by decide), mag (by omega) h40 h38, bd2_s]
    rfl
  · rw [if_neg (show ¬ (nI 1 : Int32) = 2 by decide), if_neg (show ¬ (nI 1 : Int32) = 3 by decide), if_neg (show ¬ (nI 1 : Int32) = 6 by decide), if_neg (show ¬ (nI 1 : Int32) = 7 by decide), mag (by omega) h40 h38, bd2_s]
    rfl
  · rw [if_pos (show (nI 2 : Int32) = 2 by decide), mtg (by omega) h40 h38, bd2_s]
    rfl
  · rw [if_neg (show ¬ (nI 3 : Int32) = 2 by decide), if_pos (show (nI 3 : Int32) = 3 by decide), mran (by omega) h40, bd1_s, mtg (by omega) bM_1 ((bM_o (by omega)).trans h38), bd2_s, apM_o (by omega), bM_o (by omega), h38, apM_c]
    rfl
  · rw [if_neg (show ¬ (nI 4 : Int32) = 2 by decide), if_neg (show ¬ (nI 4 : Int32) = 3 by decide), if_neg (show ¬ (nI 4 : Int32) = 6 by decide), if_neg (show ¬ (nI 4 : Int32) = 7 by decide), mag (by omega) h40 h38, bd2_s]
    rfl
  · rw [if_neg (show ¬ (nI 5 : Int32) = 2 by decide), if_neg (show ¬ (nI 5 : Int32) = 3 by decide), if_neg (show ¬ (nI 5 : Int32) = 6 by decide), if_neg (show ¬ (nI 5 : Int32) = 7 by decide), mag (by omega) h40 h38, bd2_s]
    rfl
  · rw [if_neg (show ¬ (nI 6 : Int32) = 2 by decide), if_neg (show ¬ (nI 6 : Int32) = 3 by decide), if_pos (show (nI 6 : Int32) = 6 by decide), mran (by omega) h40, bd1_s, mag (by omega) bM_1 ((bM_o (by omega)).trans h38), bd2_s, apM_c]
    rfl
  · rw [if_neg (show ¬ (nI 7 : Int32) = 2 by decide), if_neg (show ¬ (nI 7 : Int32) = 3 by decide), if_neg (show ¬ (nI 7 : Int32) = 6 by decide), if_pos (show (nI 7 : Int32) = 7 by decide), mran (by omega) h40, bd1_s, bM_o (by omega), h38]
    rfl
theorem mas {k c : Nat} {a n x : Int32} {I : HI} {J : HJ} (hk : k < 8) (hc : c ≤ 22) (h40 : I 98 40 = nI c) (h36 : I 98 36 = nI k) (h37 : I 98 37 = n) (h38 : I 98 38 = a) : f_X11_anySwings x I J = some (gV a x k * 2, apM I c (11 :: gB k)) := by
  unfold f_X11_anySwings
  rw [mran (by omega) h40, bd1_s, mgr hk (by omega) bM_1 ((bM_o (by omega)).trans h36) ((bM_o (by omega)).trans h37) ((bM_o (by omega)).trans h38), bd2_s, apM_c]
theorem msw {k c : Nat} {a n x : Int32} {I : HI} {J : HJ} (hk : k < 8) (hc : c ≤ 21) (h40 : I 98 40 = nI c) (h36 : I 98 36 = nI k) (h37 : I 98 37 = n) (h38 : I 98 38 = a) : f_X11_swings x I J = some (sV a n x k, apM I c (sB k)) := by
  have hk8 : k = 0 ∨ k = 1 ∨ k = 2 ∨ k = 3 ∨ k = 4 ∨ k = 5 ∨ k = 6 ∨ k = 7 := by omega
  unfold f_X11_swings
  rw [nm_s, h36]
  rcases hk8 with rfl | rfl | rfl | rfl | rfl | rfl | rfl | rfl
  · rw [if_neg (show ¬ (nI 0 : Int32) = 1 by decide), if_neg (show ¬ (nI 0 : Int32) = 4 by decide), if_neg (show ¬ (nI 0 : Int32) = 7 by decide), mas (by omega) (by omega) h40 h36 h37 h38, bd2_s]
    rfl
  · rw [if_pos (show (nI 1 : Int32) = 1 by decide), mran (by omega) h40, bd1_s, mas (k := 1) (by omega) (by omega) bM_1 ((bM_o (by omega)).trans h36) ((bM_o (by omega)).trans h37) ((bM_o (by omega)).trans h38), bd2_s, apM_c]
    rfl
  · rw [if_neg (show ¬ (nI 2 : Int32) = 1 by decide), if_neg (show ¬ (nI 2 : Int32) = 4 by decide), if_neg (show ¬ (nI 2 : Int32) = 7 by decide), mas (by omega) (by omega) h40 h36 h37 h38, bd2_s]
    rfl
  · rw [if_neg (show ¬ (nI 3 : Int32) = 1 by decide), if_neg (show ¬ (nI 3 : Int32) = 4 by decide), if_neg (show ¬ (nI 3 : Int32) = 7 by decide), mas (by omega) (by omega) h40 h36 h37 h38, bd2_s]
    rfl
  · rw [if_neg (show ¬ (nI 4 : Int32) = 1 by decide), if_pos (show (nI 4 : Int32) = 4 by decide), mran (by omega) h40, bd1_s, mas (k := 4) (by omega) (by omega) bM_1 ((bM_o (by omega)).trans h36) ((bM_o (by omega)).trans h37) ((bM_o (by omega)).trans h38), bd2_s, apM_c]
    rfl
  · rw [if_neg (show ¬ (nI 5 : Int32) = 1 by decide), if_neg (show ¬ (nI 5 : Int32) = 4 by decide), if_neg (show ¬ (nI 5 : Int32) = 7 by decide), mas (by omega) (by omega) h40 h36 h37 h38, bd2_s]
    rfl
  · rw [if_neg (show ¬ (nI 6 : Int32) = 1 by decide), if_neg (show ¬ (nI 6 : Int32) = 4 by decide), if_neg (show ¬ (nI 6 : Int32) = 7 by decide), mas (by omega) (by omega) h40 h36 h37 h38, bd2_s]
    rfl
  · rw [if_neg (show ¬ (nI 7 : Int32) = 1 by decide), if_neg (show ¬ (nI 7 : Int32) = 4 by decide), if_pos (show (nI 7 : Int32) = 7 by decide), mran (by omega) h40, bd1_s, mgr (k := 7) (by omega) (by omega) bM_1 ((bM_o (by omega)).trans h36) ((bM_o (by omega)).trans h37) ((bM_o (by omega)).trans h38), bd2_s, apM_o (by omega), bM_o (by omega), h37, apM_c]
    rfl
theorem map0 {c : Nat} {a n x : Int32} {I : HI} {J : HJ} (hc : c ≤ 25) (h40 : I 98 40 = nI c) (h37 : I 98 37 = n) (h38 : I 98 38 = a) : f_X11_anyParts x I J = some (pQ (a - n) x, mF (apM I c [12]) (a - n)) := by
  unfold f_X11_anyParts fB_X11_anyParts_23
  have z1 : zb (1 : Int32) = true := rfl
  have z0 : zb (0 : Int32) = true := rfl
  rw [mran (by omega) h40, bd1_s, bM_o (by omega), bM_o (by omega), h37, h38, if_pos z1, if_pos z0, nm_s, nm_s]
  unfold pQ mF
  by_cases hz : a - n = 0
  · have hz2 := sub_z.mp hz
    rw [if_pos hz2, if_pos hz, if_pos hz, pE rfl rfl, if_neg (by decide)]
    rfl
  · have hz2 : ¬ a = n := fun q => hz (sub_z.mpr q)
    rw [if_neg hz2, if_neg hz, if_neg hz, pE rfl rfl, if_pos rfl, pN (by omega), pN (by omega), bM_o (by omega), bM_o (by omega), h37, h38, if_neg hz]
    rfl
theorem mmud {c : Nat} {a n x : Int32} {I : HI} {J : HJ} (hc : c ≤ 24) (h40 : I 98 40 = nI c) (h37 : I 98 37 = n) (h38 : I 98 38 = a) : f_X11_mudParts x I J = some (pQ (a - n) (x - 1), mF (apM I c [61, 12]) (a - n)) := by
  unfold f_X11_mudParts
  rw [mran (by omega) h40, bd1_s, map0 (by omega) bM_1 ((bM_o (by omega)).trans h37) ((bM_o (by omega)).trans h38), bd2_s, apM_c]
theorem mpa {k c : Nat} {a n x : Int32} {I : HI} {J : HJ} (hk : k < 8) (hc : c ≤ 23) (h40 : I 98 40 = nI c) (h36 : I 98 36 = nI k) (h37 : I 98 37 = n) (h38 : I 98 38 = a) : f_X11_parts x I J = some (pV a n x k, mH k (a - n) (apM I c (pB k))) := by
  have hk8 : k = 0 ∨ k = 1 ∨ k = 2 ∨ k = 3 ∨ k = 4 ∨ k = 5 ∨ k = 6 ∨ k = 7 := by omega
  unfold f_X11_parts
  rw [nm_s, h36]
  rcases hk8 with rfl | rfl | rfl | rfl | rfl | rfl | rfl | rfl
  · rw [if_neg (show ¬ (nI 0 : Int32) = 3 by decide), if_neg (show ¬ (nI 0 : Int32) = 5 by decide), if_neg (show ¬ (nI 0 : Int32) = 6 by decide), if_neg (show ¬ (nI 0 : Int32) = 7 by decide), map0 (by omega) h40 h37 h38, bd2_s]
    rfl
  · rw [if_neg (show ¬ (nI 1 : Int32) = 3 by decide), if_neg (show ¬ (nI 1 : Int32) = 5 by decide), if_neg (show ¬ (nI 1 : Int32) = 6 by decide), if_neg (show ¬ (nI 1 : Int32) = 7 by decide), map0 (by omega) h40 h37 h38, bd2_s]
    rfl
  · rw [if_neg (show ¬ (nI 2 : Int32) = 3 by decide), if_neg (show ¬ (nI 2 : Int32) = 5 by decide), if_neg (show ¬ (nI 2 : Int32) = 6 by decide), if_neg (show ¬ (nI 2 : Int32) = 7 by decide), map0 (by omega) h40 h37 h38, bd2_s]
    rfl
  · rw [if_pos (show (nI 3 : Int32) = 3 by decide), mran (by omega) h40, bd1_s, map0 (by omega) bM_1 ((bM_o (by omega)).trans h37) ((bM_o (by omega)).trans h38), bd2_s, apM_c]
    rfl
  · rw [if_neg (show ¬ (nI 4 : Int32) = 3 by decide), if_neg (show ¬ (nI 4 : Int32) = 5 by decide), if_neg (show ¬ (nI 4 : Int32) = 6 by decide), if_neg (show ¬ (nI 4 : Int32) = 7 by decide), map0 (by omega) h40 h37 h38, bd2_s]
    rfl
  · rw [if_neg (show ¬ (nI 5 : Int32) = 3 by decide), if_pos (show (nI 5 : Int32) = 5 by decide), mmud (by omega) h40 h37 h38, bd2_s]
    rfl
  · rw [if_neg (show ¬ (nI 6 : Int32) = 3 by decide), if_neg (show ¬ (nI 6 : Int32) = 5 by decide), if_pos (show (nI 6 : Int32) = 6 by decide), mran (by omega) h40, bd1_s, mmud (by omega) bM_1 ((bM_o (by omega)).trans h37) ((bM_o (by omega)).trans h38), bd2_s, apM_c]
    rfl
  · rw [if_neg (show ¬ (nI 7 : Int32) = 3 by decide), if_neg (show ¬ (nI 7 : Int32) = 5 by decide), if_neg (show ¬ (nI 7 : Int32) = 6 by decide), if_pos (show (nI 7 : Int32) = 7 by decide), mran (by omega) h40, bd1_s, bM_o (by omega), h38]
    rfl
theorem mat_ {k c : Nat} {a n x : Int32} {I : HI} {J : HJ} (hk : k < 8) (hc : c ≤ 20) (h40 : I 98 40 = nI c) (h36 : I 98 36 = nI k) (h37 : I 98 37 = n) (h38 : I 98 38 = a) : f_X11_anyTells x I J = some (sV a n x k ^^^ n, apM I c (13 :: sB k)) := by
  unfold f_X11_anyTells
  rw [mran (by omega) h40, bd1_s, msw hk (by omega) bM_1 ((bM_o (by omega)).trans h36) ((bM_o (by omega)).trans h37) ((bM_o (by omega)).trans h38), bd2_s, apM_o (by omega), bM_o (by omega), h37, apM_c]
theorem mte {k c : Nat} {a n x : Int32} {I : HI} {J : HJ} (hk : k < 8) (hc : c ≤ 12) (h40 : I 98 40 = nI c) (h36 : I 98 36 = nI k) (h37 : I 98 37 = n) (h38 : I 98 38 = a) : f_X11_tells x I J = some (tV a n x k, if k = 2 ∨ k = 3 then mF (apM I c (tB k)) (a - n) else apM I c (tB k)) := by
  have hk8 : k = 0 ∨ k = 1 ∨ k = 2 ∨ k = 3 ∨ k = 4 ∨ k = 5 ∨ k = 6 ∨ k = 7 := by omega
  unfold f_X11_tells
  rw [nm_s, h36]
  rcases hk8 with rfl | rfl | rfl | rfl | rfl | rfl | rfl | rfl
  · rw [if_neg (show ¬ (0 = 2 ∨ 0 = 3) by omega), if_neg (show ¬ (nI 0 : Int32) = 2 by decide), if_neg (show ¬ (nI 0 : Int32) = 3 by decide), if_neg (show ¬ (nI 0 : Int32) = 5 by decide), if_neg (show ¬ (nI 0 : Int32) = 6 by decide), if_neg (show ¬ (nI 0 : Int32) = 7 by decide), mat_ (k := 0) (by omega) (by omega) h40 h36 h37 h38, bd2_s]
    rfl
  · rw [if_neg (show ¬ (1 = 2 ∨ 1 = 3) by omega), if_neg (show ¬ (nI 1 : Int32) = 2 by decide), if_neg (show ¬ (nI 1 : Int32) = 3 by decide), if_neg (show ¬ (nI 1 : Int32) = 5 by decide), if_neg (show ¬ (nI 1 : Int32) = 6 by decide), if_neg (show ¬ (nI 1 : Int32) = 7 by decide), mat_ (k := 1) (by omega) (by omega) h40 h36 h37 h38, bd2_s]
    rfl
  · rw [if_pos (show 2 = 2 ∨ 2 = 3 by omega)]
    have hl := sB_l 2 (by omega)
    have hp := mpa (k := 2) (c := c + (31 :: 13 :: sB 2).length) (n := n) (a := a) (x := n) (I := apM I c (31 :: 13 :: sB 2)) (J := J) (by omega) (by show c + ((sB 2).length + 1 + 1) ≤ 23; omega) (apM_n _ I c h40) ((apM_o (by omega)).trans h36) ((apM_o (by omega)).trans h37) ((apM_o (by omega)).trans h38)
    rw [if_pos (show (nI 2 : Int32) = 2 by decide), mran (by omega) h40, bd1_s, mat_ (k := 2) (by omega) (by omega) bM_1 ((bM_o (by omega)).trans h36) ((bM_o (by omega)).trans h37) ((bM_o (by omega)).trans h38), bd2_s, apM_o (by omega), bM_o (by omega), h37, apM_c, hp, bd2_s, apM_a]
    rfl
  · rw [if_pos (show 3 = 2 ∨ 3 = 3 by omega)]
    have hl := sB_l 3 (by omega)
    have hp := mpa (k := 3) (c := c + (31 :: 13 :: sB 3).length) (n := n) (a := a) (x := n) (I := apM I c (31 :: 13 :: sB 3)) (J := J) (by omega) (by show c + ((sB 3).length + 1 + 1) ≤ 23; omega) (apM_n _ I c h40) ((apM_o (by omega)).trans h36) ((apM_o (by omega)).trans h37) ((apM_o (by omega)).trans h38)
    rw [if_neg (show ¬ (nI 3 : Int32) = 2 by decide), if_pos (show (nI 3 : Int32) = 3 by decide), mran (by omega) h40, bd1_s, mat_ (k := 3) (by omega) (by omega) bM_1 ((bM_o (by omega)).trans h36) ((bM_o (by omega)).trans h37) ((bM_o (by omega)).trans h38), bd2_s, apM_o (by omega), bM_o (by omega), h37, apM_c, hp, bd2_s, apM_a]
    rfl
  · rw [if_neg (show ¬ (4 = 2 ∨ 4 = 3) by omega), if_neg (show ¬ (nI 4 : Int32) = 2 by decide), if_neg (show ¬ (nI 4 : Int32) = 3 by decide), if_neg (show ¬ (nI 4 : Int32) = 5 by decide), if_neg (show ¬ (nI 4 : Int32) = 6 by decide), if_neg (show ¬ (nI 4 : Int32) = 7 by decide), mat_ (k := 4) (by omega) (by omega) h40 h36 h37 h38, bd2_s]
    rfl
  · rw [if_neg (show ¬ (5 = 2 ∨ 5 = 3) by omega), if_neg (show ¬ (nI 5 : Int32) = 2 by decide), if_neg (show ¬ (nI 5 : Int32) = 3 by decide), if_pos (show (nI 5 : Int32) = 5 by decide), mran (by omega) h40, bd1_s, mat_ (k := 5) (by omega) (by omega) bM_1 ((bM_o (by omega)).trans h36) ((bM_o (by omega)).trans h37) ((bM_o (by omega)).trans h38), bd2_s, apM_c]
    rfl
  · rw [if_neg (show ¬ (6 = 2 ∨ 6 = 3) by omega), if_neg (show ¬ (nI 6 : Int32) = 2 by decide), if_neg (show ¬ (nI 6 : Int32) = 3 by decide), if_neg (show ¬ (nI 6 : Int32) = 5 by decide), if_pos (show (nI 6 : Int32) = 6 by decide), mran (by omega) h40, bd1_s, mat_ (k := 6) (by omega) (by omega) bM_1 ((bM_o (by omega)).trans h36) ((bM_o (by omega)).trans h37) ((bM_o (by omega)).trans h38), bd2_s, apM_c]
    rfl
  · rw [if_neg (show ¬ (7 = 2 ∨ 7 = 3) by omega)]
    have hl := sB_l 7 (by omega)
    have hp := mpa (k := 7) (c := c + (83 :: sB 7).length) (n := n) (a := a) (x := n) (I := apM I c (83 :: sB 7)) (J := J) (by omega) (by show c + ((sB 7).length + 1) ≤ 23; omega) (apM_n _ I c h40) ((apM_o (by omega)).trans h36) ((apM_o (by omega)).trans h37) ((apM_o (by omega)).trans h38)
    rw [if_neg (show ¬ (nI 7 : Int32) = 2 by decide), if_neg (show ¬ (nI 7 : Int32) = 3 by decide), if_neg (show ¬ (nI 7 : Int32) = 5 by decide), if_neg (show ¬ (nI 7 : Int32) = 6 by decide), if_pos (show (nI 7 : Int32) = 7 by decide), mran (by omega) h40, bd1_s, msw (k := 7) (by omega) (by omega) bM_1 ((bM_o (by omega)).trans h36) ((bM_o (by omega)).trans h37) ((bM_o (by omega)).trans h38), bd2_s, apM_o (by omega), bM_o (by omega), h37, apM_c, hp, bd2_s, show mH 7 (a - n) = id from rfl]
    show some (_, apM (apM I c (83 :: sB 7)) _ (pB 7)) = _
    rw [apM_a]
    rfl

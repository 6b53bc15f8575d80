/-! one law, all laws -/
def CD (K : HI) (j : Nat) : Int32 := if j < 12 then I0 103 j else K 111 j
def DR (q st : Nat) (I K : HI) : Prop := ∃ n fr, n ≤ 200 ∧ I 66 q = nI n ∧ hgt (I (62 + q)) n 0 1 ∧ fr + n ≤ st ∧ K 112 q = nI fr ∧ K 113 q = nI (fr + n) ∧ (∀ i, i < n → CD K (fr + i) = trC (I (62 + q) i)) ∧ I 67 q = bI (12 ≤ fr)
theorem DR.of {q st st1 : Nat} {I K I1 K1 : HI} (h : DR q st I K) (hst : st ≤ st1) (h1 : I1 66 q = I 66 q) (h2 : ∀ i, I1 (62 + q) i = I (62 + q) i) (h3 : I1 67 q = I 67 q) (h4 : K1 112 q = K 112 q) (h5 : K1 113 q = K 113 q) (h6 : ∀ j, j < st → K1 111 j = K 111 j) : DR q st1 I1 K1 := by
  obtain ⟨n, fr, a1, a2, a3, a4, a5, a6, a7, a8⟩ := h
  refine ⟨n, fr, a1, h1.trans a2, hgt_of (fun i _ => h2 i) a3, by omega, h4.trans a5, h5.trans a6, fun i hi => ?_, h3.trans a8⟩
  rw [h2 i, ← a7 i hi]
  unfold CD
  rw [h6 _ (by omega)]
def LwS (b : Nat → Int32) (N k st f t : Nat) (I K : HI) : Prop := TK b N f t ∧ (ByC I b N ∧ I 59 4 = prt b N f ∧ I 59 5 = nI f ∧ I 59 6 = nI t) ∧ MP b N K 0 st f t ∧ (12 ≤ st ∧ st ≤ 12 + f) ∧ (K 98 24 = nI k ∧ k ≤ 8) ∧ ∀ q, q < 4 → DR q st I K
def FL (I I1 : HI) : Prop := ∀ a j, ¬ (a = 59 ∧ 3 ≤ j ∧ j ≤ 6) → ¬ (62 ≤ a ∧ a ≤ 67) → I1 a j = I a j
def GM (K K1 : HI) : Prop := ∀ a j, ¬ (a = 98 ∧ 20 ≤ j ∧ j ≤ 25) → ¬ (111 ≤ a ∧ a ≤ 113) → K1 a j = K a j
theorem FL.tr {I I1 I2 : HI} (h1 : FL I I1) (h2 : FL I1 I2) : FL I I2 := fun a j q1 q2 => (h2 a j q1 q2).trans (h1 a j q1 q2)
theorem GM.tr {K K1 K2 : HI} (h1 : GM K K1) (h2 : GM K1 K2) : GM K K2 := fun a j q1 q2 => (h2 a j q1 q2).trans (h1 a j q1 q2)
theorem FC.fl {key : Nat} {I I1 : HI} (h : FC key I I1) (hk : key < 4) : FL I I1 := fun a j q1 q2 => h a j (by omega) (by omega) (by omega)
theorem FM.gm {bg : Nat} {K K1 : HI} (h : FM bg K K1) : GM K K1 := fun a j q1 q2 => h a j (by omega) (by omega)
/-- a law that can't begin -/
theorem law_w {b : Nat → Int32} {N st f t : Nat} {v : Int32} {K : HI} {J : HJ} (hN : N ≤ 200) (hM : MP b N K 0 st f t) (hf : f ≤ N) (hk : f_X11_keyHere K J = some v) (h : v < 0 ∨ 8 ≤ K 98 24) : f_X11_oneLaw K J = some (put K 98 25 1) := by
  have w := hM.wrong hf
  have e : fB_X11_oneLaw_28 v (K 98 23) K J = some (put K 98 25 1) := by
    unfold fB_X11_oneLaw_28 fB_X11_oneLaw_29 fB_X11_oneLaw_55
    rw [needs_n hM.2.2.2.2.2, bd1_s, w.cmp (d := 36), bd1_s, w.2.1, mby hN w.1 (by omega), bd1_s, w.needs, w.needs, bd1_s, pE rfl rfl, if_neg (show ¬ (1 : Int32) = 0 by decide)]
    by_cases z : bat b N f = 59
    · rw [if_pos z]
    · rw [if_neg z]
  unfold f_X11_oneLaw
  rw [hk, bd1_s, nm_s]
  by_cases h1 : v < 0
  · rw [if_pos h1]; exact e
  · rw [if_neg h1, if_pos (h.resolve_left h1)]; exact e
theorem law_s {b : Nat → Int32} {N k st f t : Nat} {I K : HI} {J : HJ} (hN : N ≤ 200) (hB : ByR b N) (h0 : LwS b N k st f t I K) (hf : f < N) (hk8 : k < 8) : ∃ r I1 K1, f_X8_tellsLaw I J = some (r, I1) ∧ f_X11_oneLaw K J = some K1 ∧ FL I I1 ∧ GM K K1 ∧ ((r = 1 ∧ ∃ st' f' t', f < f' ∧ LwS b N (k + 1) st' f' t' I1 K1) ∨ (r = 0 ∧ Bad b N I1 K1)) := by
  obtain ⟨ht, ⟨c1, c3, c4, c5⟩, hM, ⟨s1, s2⟩, ⟨d1, d2⟩, hD⟩ := h0
  have hz := ht.le
  obtain ⟨m1, m2, m3, m4, m5, m6⟩ := id hM
  rcases key_s (J := J) hN hB hz.1 hz.2.1 c1 c3 c4 c5 m1 m2 m3 with ⟨a1, a2⟩ | ⟨key, hk, -, -, a1, a2⟩
  · refine ⟨0, put I 59 3 (-1), put K 98 25 1, ?_, law_w hN hM (Nat.le_trans hz.1 hz.2.1) a2 (Or.inl (by decide)), fun a j q1 q2 => pN (by omega), fun a j q1 q2 => pN (by omega), Or.inr ⟨rfl, f, by rw [pN (by omega)]; exact c4, hM.wrong (Nat.le_trans hz.1 hz.2.1)⟩⟩
    unfold f_X8_tellsLaw
    rw [a1, bd1_s, nm_s, pE rfl rfl, if_neg (by decide)]
  · -- the beginning
    have h1 : PP b N key st 0 f t 0 0 (put (put (put I 59 3 (nI key)) 66 key 0) 67 key 1) K := ⟨ht, ⟨⟨by rw [pN (by omega), pN (by omega), pN (by omega)]; exact c1.1, fun i hi => by rw [pN (by omega), pN (by omega), pN (by omega)]; exact c1.2 i hi⟩, by rw [pN (by omega), pN (by omega), pE rfl rfl], by rw [pN (by omega), pN (by omega), pN (by omega)]; exact c3, by rw [pN (by omega), pN (by omega), pN (by omega)]; exact c4, by rw [pN (by omega), pN (by omega), pN (by omega)]; exact c5⟩, hM, by rw [pN (by omega), pE rfl rfl]; exact N_0, rfl, fun i hi => absurd hi (Nat.not_lt_zero i)⟩
    obtain ⟨f1, t1, I1, K1, u1, u2, u3, u4, u5, u6⟩ := h1.next (J := J) hN hk
    have lt1 := hz.2.2 hf
    have hS : Spec b N key st 0 0 (f_X8_tellsJoined 40 0 0) (f_X11_compared 40) := (all_s hN hB hk s1 4 0 rfl).2 40 40 (by omega) (by omega)
    obtain ⟨r, I2, K2, v1, v2, v3, v4, v5⟩ := hS I1 K1 J f1 t1 0 0 u4 (by omega) (by omega)
    have ec : ∀ R, (if r = 0 then some (0, I2) else if I2 59 4 = 59 then (bd1 (f_X8_goToNext I2 J) fun I23 => some (1, I23)) else some (0, I2)) = R → f_X8_tellsLaw I J = R := fun R hRR => by
      unfold f_X8_tellsLaw
      rw [a1, bd1_s, nm_s, pE rfl rfl, if_pos (by rw [N_0, le_nn (by omega) (by omega)]; omega), tellAnew_s (k := 60) rfl hk, bd1_s, u2, bd1_s, v1, bd2_s]
      exact hRR
    have em : ∀ R, (bd1 (f_X11_byteAt (K2 98 20) K2 J) fun r24 => if r24 = 59 then fB_X11_oneLaw_55 (nI key) (nI st) 1 K2 J else fB_X11_oneLaw_55 (nI key) (nI st) 0 K2 J) = R → f_X11_oneLaw K J = R := fun R hRR => by
      unfold f_X11_oneLaw
      rw [a2, bd1_s, nm_s, if_neg (by rw [N_0, lt_nn (by omega) (by omega)]; omega), d1, if_neg (by rw [N_8, le_nn (by omega) (by omega)]; omega)]
      unfold fB_X11_oneLaw_29
      rw [needs_y m6, u3, bd1_s, v2, bd1_s, m5]
      exact hRR
    have fl0 : FL I (put (put (put I 59 3 (nI key)) 66 key 0) 67 key 1) := fun a j q1 q2 => by rw [pN (by omega), pN (by omega), pN (by omega)]
    have flI : FL I I2 := (fl0.tr (u5.fl hk)).tr (v3.fl hk)
    have gmK : GM K K2 := u6.gm.tr v4.gm
    rcases v5 with ⟨hr, f2, t2, n2, w1, w2, w3⟩ | ⟨hr, e, w1, w2⟩
    · have hle2 := w3.1.le
      have hb2 : f_X11_byteAt (K2 98 20) K2 J = some (bat b N f2) := by rw [w3.2.2.1.2.1]; exact mby hN w3.2.2.1.1 (by omega)
      by_cases q : f2 < N ∧ b f2 = nI 59
      · obtain ⟨f3, t3, I3, K3, x1, x2, x3, x4, x5, x6⟩ := w3.next (J := J) hN hk
        have lt2 := hle2.2.2 q.1
        obtain ⟨y1, ⟨y21, y22, y23, y24, y25⟩, ⟨y31, y32, y33, y34, y35, y36⟩, ⟨y4, y5, y6⟩⟩ := x4
        have h24 : K3 98 24 = nI k := by rw [x6 98 24 (by omega) (by omega), v4 98 24 (by omega) (by omega), u6 98 24 (by omega) (by omega)]; exact d1
        have pk : ∀ a j, ¬ (a = 112 ∧ j = key) → ¬ (a = 113 ∧ j = key) → ¬ (a = 98 ∧ j = 24) → put (put (put K3 112 key (nI st)) 113 key (nI (st + n2))) 98 24 (nI (k + 1)) a j = K3 a j := fun a j q1 q2 q3 => by rw [pN (by omega), pN (by omega), pN (by omega)]
        have gm3 : GM K3 (put (put (put K3 112 key (nI st)) 113 key (nI (st + n2))) 98 24 (nI (k + 1))) := fun a j q1 q2 => pk a j (by omega) (by omega) (by omega)
        refine ⟨1, I3, put (put (put K3 112 key (nI st)) 113 key (nI (st + n2))) 98 24 (nI (k + 1)), ec _ ?_, em _ ?_, flI.tr (x5.fl hk), (gmK.tr x6.gm).tr gm3, Or.inl ⟨rfl, st + n2, f3, t3, by omega, y1, ⟨y21, y23, y24, y25⟩, ⟨⟨by rw [pk _ _ (by omega) (by omega) (by omega)]; exact y31.1, fun i hi => by rw [pk _ _ (by omega) (by omega) (by omega)]; exact y31.2 i hi⟩, by rw [pk _ _ (by omega) (by omega) (by omega)]; exact y32, by rw [pk _ _ (by omega) (by omega) (by omega)]; exact y33, by rw [pk _ _ (by omega) (by omega) (by omega)]; exact y34, by rw [pk _ _ (by omega) (by omega) (by omega)]; exact y35, by rw [pk _ _ (by omega) (by omega) (by omega)]; exact y36⟩, ⟨by omega, by omega⟩, ⟨pE rfl rfl, by omega⟩, fun q' hq' => ?_⟩⟩
        · rw [hr, if_neg (by decide), w3.2.1.2.2.1, prt_sg q.1 (by rw [q.2]; decide) (by rw [q.2]; decide), q.2, if_pos N_59.symm, x2, bd1_s]
        · unfold fB_X11_oneLaw_55
          rw [hb2, bd1_s, bat_i q.1, q.2, if_pos N_59.symm, needs_y w3.2.2.1.2.2.2.2.2, x3, bd1_s, if_pos y36, if_pos (vin_nI hk (by omega)), cl_nI (by omega), nm_s, if_pos (vin_nI hk (by omega)), pN (show 98 ≠ 112 ∨ 23 ≠ key by omega), y35, nm_s, pN (show 98 ≠ 113 ∨ 24 ≠ key by omega), pN (show 98 ≠ 112 ∨ 24 ≠ key by omega), h24, nI_1, nm_s]
        · by_cases e : q' = key
          · subst e
            refine ⟨n2, st, by omega, y4, y5, by omega, by rw [pN (by omega), pN (by omega), pE rfl rfl], by rw [pN (by omega), pE rfl rfl], fun i hi => ?_, ?_⟩
            · unfold CD
              rw [if_neg (by omega), pk _ _ (by omega) (by omega) (by omega)]
              exact y6 i hi
            · rw [x5 67 q' (by omega) (by omega) (by omega), v3 67 q' (by omega) (by omega) (by omega), u5 67 q' (by omega) (by omega) (by omega), pE rfl rfl, bI_t s1]
          · have fi : ∀ a j, a ≠ 62 + key → ¬ (a = 59 ∧ 3 ≤ j ∧ j ≤ 6) → ¬ (a = 66 ∧ j = key) → ¬ (a = 67 ∧ j = key) → I3 a j = I a j := fun a j g1 g2 g3 g4 => by rw [x5 a j g1 (by omega) g3, v3 a j g1 (by omega) g3, u5 a j g1 (by omega) g3, pN (by omega), pN (by omega), pN (by omega)]
            have fk : ∀ a j, ¬ (a = 98 ∧ 20 ≤ j ∧ j ≤ 25 ∧ j ≠ 24) → ¬ (a = 111 ∧ st ≤ j) → K3 a j = K a j := fun a j g1 g2 => by rw [x6 a j g1 g2, v4 a j g1 g2, u6 a j g1 g2]
            refine (hD q' hq').of (by omega) (fi _ _ (by omega) (by omega) (by omega) (by omega)) (fun i => fi _ _ (by omega) (by omega) (by omega) (by omega)) (fi _ _ (by omega) (by omega) (by omega) (by omega)) ?_ ?_ (fun j hj => ?_)
            · rw [pk _ _ (by omega) (by omega) (by omega)]; exact fk _ _ (by omega) (by omega)
            · rw [pk _ _ (by omega) (by omega) (by omega)]; exact fk _ _ (by omega) (by omega)
            · rw [pk _ _ (by omega) (by omega) (by omega)]; exact fk _ _ (by omega) (by omega)
      · refine ⟨0, I2, put K2 98 25 1, ec _ ?_, em _ ?_, flI, gmK.tr (fun a j q1 q2 => pN (by omega)), Or.inr ⟨rfl, f2, w3.2.1.2.2.2.1, w3.2.2.1.wrong (Nat.le_trans hle2.1 hle2.2.1)⟩⟩
        · rw [hr, if_neg (by decide), w3.2.1.2.2.1, if_neg (fun z => q (by
            have z1 := prt_is (c := 59) (Nat.le_trans hle2.1 hle2.2.1) (by omega) (z.trans N_59)
            exact ⟨z1.1, z1.2.1⟩))]
        · unfold fB_X11_oneLaw_55
          rw [hb2, bd1_s, if_neg (fun z => q (by
            obtain ⟨z1, z2⟩ := bat_sg (by decide) z
            exact ⟨z1, z2.trans N_59⟩)), needs_n w3.2.2.1.2.2.2.2.2, bd1_s, pE rfl rfl, if_neg (by decide)]
    · refine ⟨0, I2, K2, ec _ ?_, em _ ?_, flI, gmK, Or.inr ⟨rfl, e, w1, w2⟩⟩
      · rw [hr, if_pos rfl]
      · have he := w2.2.2.2
        unfold fB_X11_oneLaw_55
        rw [w2.2.1, mby hN w2.1 (by omega), bd1_s, w2.needs, w2.needs, bd1_s, w2.2.2.1, if_neg (show ¬ (1 : Int32) = 0 by decide)]
        by_cases z : bat b N e = 59
        · rw [if_pos z]
        · rw [if_neg z]
theorem prt_ne {b : Nat → Int32} {N f : Nat} (hB : ByR b N) (hf : f < N) : ¬ prt b N f = nI 256 := fun h => by
  by_cases h1 : Lt (b f)
  · rw [prt_lt hf h1, eq_nn (by omega) (by omega)] at h; omega
  · by_cases h2 : Dg (b f)
    · rw [prt_dg hf h2, eq_nn (by omega) (by omega)] at h; omega
    · rw [prt_sg hf h1 h2] at h
      exact hB.ne hf (by omega) (by omega) h
theorem mloop_w {b : Nat → Int32} {N e F : Nat} {K : HI} {J : HJ} (h : Wr b N K e) : fL_X11_read_67 (F + 1) K J = fB_X11_read_92 K J := by
  show fLB_X11_read_67 _ K J = _
  unfold fLB_X11_read_67
  rw [h.2.2.1, if_neg (by decide)]
theorem laws_l {b : Nat → Int32} {N : Nat} {J : HJ} (hN : N ≤ 200) (hB : ByR b N) : ∀ (D F1 F2 k st f t : Nat) (I K : HI), N - f ≤ D → D < F1 → D + 1 < F2 → LwS b N k st f t I K → ∃ r I1 K1, fL_X8_tellsLaws_18 F1 (nI k) I J = some (r, I1) ∧ fL_X11_read_67 F2 K J = fB_X11_read_92 K1 J ∧ FL I I1 ∧ GM K K1 ∧ ((r = 1 ∧ ∃ k' st' f' t', LwS b N k' st' f' t' I1 K1) ∨ (r = 0 ∧ Bad b N I1 K1)) := by
  intro D
  induction D with
  | zero =>
    intro F1 F2 k st f t I K hD h1 h2 h0
    obtain ⟨F1, rfl⟩ : ∃ g, F1 = g + 1 := ⟨F1 - 1, by omega⟩
    obtain ⟨F2, rfl⟩ : ∃ g, F2 = g + 1 := ⟨F2 - 1, by omega⟩
    have hz := h0.1.le
    have e : I 59 4 = 256 := h0.2.1.2.1.trans (prt_end (by omega))
    refine ⟨1, I, K, ?_, ?_, fun _ _ _ _ => rfl, fun _ _ _ _ => rfl, Or.inl ⟨rfl, k, st, f, t, h0⟩⟩
    · show fLB_X8_tellsLaws_18 _ (nI k) I J = _
      unfold fLB_X8_tellsLaws_18 fB_X8_tellsLaws_49
      rw [if_pos e]
      by_cases q : 8 ≤ nI k
      · rw [if_pos q]
      · rw [if_neg q, if_pos e]
    · show fLB_X11_read_67 _ K J = _
      unfold fLB_X11_read_67
      rw [if_pos h0.2.2.1.2.2.2.2.2, h0.2.2.1.1.1, h0.2.2.1.2.1, if_pos (by rw [le_nn (by omega) (by omega)]; omega)]
  | succ D ih =>
    intro F1 F2 k st f t I K hD h1 h2 h0
    obtain ⟨F1, rfl⟩ : ∃ g, F1 = g + 1 := ⟨F1 - 1, by omega⟩
    obtain ⟨F2, rfl⟩ : ∃ g, F2 = g + 1 := ⟨F2 - 1, by omega⟩
    have hz := h0.1.le
    have hk := h0.2.2.2.2.1.2
    by_cases hf : f < N
    · have em : fL_X11_read_67 (F2 + 1) K J = bd1 (f_X11_oneLaw K J) fun I31 => fL_X11_read_67 F2 I31 J := by
        show fLB_X11_read_67 _ K J = _
        unfold fLB_X11_read_67
        rw [if_pos h0.2.2.1.2.2.2.2.2, h0.2.2.1.1.1, h0.2.2.1.2.1, if_neg (by rw [le_nn (by omega) (by omega)]; omega)]
      have ne : ¬ I 59 4 = 256 := fun q => prt_ne hB hf (h0.2.1.2.1.symm.trans (q.trans N_256))
      obtain ⟨F3, rfl⟩ : ∃ g, F2 = g + 1 := ⟨F2 - 1, by omega⟩
      by_cases hk8 : k < 8
      · have ec : fL_X8_tellsLaws_18 (F1 + 1) (nI k) I J = bd2 (f_X8_tellsLaw I J) fun r10 I11 => if r10 = 0 then some (0, I11) else fL_X8_tellsLaws_18 F1 (nI (k + 1)) I11 J := by
          show fLB_X8_tellsLaws_18 _ (nI k) I J = _
          unfold fLB_X8_tellsLaws_18
          rw [if_neg (by rw [N_8, le_nn (by omega) (by omega)]; omega), if_neg ne, nI_1]
          rfl
        obtain ⟨r, I1, K1, x1, x2, x3, x4, x5⟩ := law_s (J := J) hN hB h0 hf hk8
        rcases x5 with ⟨hr, st', f', t', y1, y2⟩ | ⟨hr, e, y1, y2⟩
        · obtain ⟨r2, I2, K2, z1, z2, z3, z4, z5⟩ := ih F1 (F3 + 1) (k + 1) st' f' t' I1 K1 (by omega) (by omega) (by omega) y2
          refine ⟨r2, I2, K2, ?_, ?_, x3.tr z3, x4.tr z4, z5⟩
          · rw [ec, x1, bd2_s, hr, if_neg (by decide)]; exact z1
          · rw [em, x2, bd1_s]; exact z2
        · refine ⟨0, I1, K1, ?_, ?_, x3, x4, Or.inr ⟨rfl, e, y1, y2⟩⟩
          · rw [ec, x1, bd2_s, hr, if_pos rfl]
          · rw [em, x2, bd1_s]; exact mloop_w y2
      · -- a ninth law
        have c := h0.2.1
        have m := h0.2.2.1
        have hv : ∃ v, f_X11_keyHere K J = some v := (key_s hN hB hz.1 hz.2.1 c.1 c.2.1 c.2.2.1 c.2.2.2 m.1 m.2.1 m.2.2.1).elim (fun q => ⟨_, q.2⟩) (fun ⟨x, _, _, _, _, q⟩ => ⟨_, q⟩)
        obtain ⟨v, hv⟩ := hv
        have w := m.wrong (Nat.le_trans hz.1 hz.2.1)
        refine ⟨0, I, put K 98 25 1, ?_, ?_, fun _ _ _ _ => rfl, fun a j q1 q2 => pN (by omega), Or.inr ⟨rfl, f, c.2.2.1, w⟩⟩
        · show fLB_X8_tellsLaws_18 _ (nI k) I J = _
          unfold fLB_X8_tellsLaws_18 fB_X8_tellsLaws_49
          rw [if_pos (by rw [N_8, le_nn (by omega) (by omega)]; omega), if_neg ne]
        · rw [em, law_w hN m (Nat.le_trans hz.1 hz.2.1) hv (Or.inr (by rw [h0.2.2.2.2.1.1, N_8, le_nn (by omega) (by omega)]; omega)), bd1_s]
          exact mloop_w w
    · have e : I 59 4 = 256 := h0.2.1.2.1.trans (prt_end hf)
      refine ⟨1, I, K, ?_, ?_, fun _ _ _ _ => rfl, fun _ _ _ _ => rfl, Or.inl ⟨rfl, k, st, f, t, h0⟩⟩
      · show fLB_X8_tellsLaws_18 _ (nI k) I J = _
        unfold fLB_X8_tellsLaws_18 fB_X8_tellsLaws_49
        rw [if_pos e]
        by_cases q : 8 ≤ nI k
        · rw [if_pos q]
        · rw [if_neg q, if_pos e]
      · show fLB_X11_read_67 _ K J = _
        unfold fLB_X11_read_67
        rw [if_pos h0.2.2.1.2.2.2.2.2, h0.2.2.1.1.1, h0.2.2.1.2.1, if_pos (by rw [le_nn (by omega) (by omega)]; omega)]

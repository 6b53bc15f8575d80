/-! the class's ONE, by the part at hand -/
theorem c1_st {d : Nat} : f_X8_tellsOne (d + 1) = fb_X8_tellsOne (f_X8_tellsJoined d) (f_X8_tellsOne d) (f_X8_tellsLess d) (f_X8_tellsBracket d) := rfl
theorem cb_st {d : Nat} : f_X8_tellsBracket (d + 1) = fb_X8_tellsBracket (f_X8_tellsJoined d) (f_X8_tellsOne d) (f_X8_tellsLess d) (f_X8_tellsBracket d) := rfl
theorem cl_st {d : Nat} : f_X8_tellsLess (d + 1) = fb_X8_tellsLess (f_X8_tellsJoined d) (f_X8_tellsOne d) (f_X8_tellsLess d) (f_X8_tellsBracket d) := rfl
theorem cj_st {d : Nat} : f_X8_tellsJoined (d + 1) = fb_X8_tellsJoined (f_X8_tellsJoined d) (f_X8_tellsOne d) (f_X8_tellsLess d) (f_X8_tellsBracket d) := rfl
theorem c_pa {d o : Nat} {I : HI} {J : HJ} (h : I 59 4 = nI 40) (ho : o ≤ 4) : f_X8_tellsOne (d + 1) (nI o) I J = if 4 ≤ o then some (0, I) else bd2 (f_X8_tellsBracket d (nI (o + 1)) I J) fun r I1 => if r = 0 then some (0, I1) else some (1, I1) := by
  rw [c1_st]
  unfold fb_X8_tellsOne
  rw [h, nm_s, if_pos N_40.symm]
  by_cases q : 4 ≤ o
  · rw [if_pos q, if_pos (by rw [N_4, le_nn (by omega) (by omega)]; exact q)]
  · rw [if_neg q, if_neg (by rw [N_4, le_nn (by omega) (by omega)]; exact q), nI_1]
theorem c_mi {d o : Nat} {I : HI} {J : HJ} (h : I 59 4 = nI 45) (ho : o ≤ 4) : f_X8_tellsOne (d + 1) (nI o) I J = if 4 ≤ o then some (0, I) else bd2 (f_X8_tellsLess d (nI (o + 1)) I J) fun r I1 => if r = 0 then some (0, I1) else some (1, I1) := by
  rw [c1_st]
  unfold fb_X8_tellsOne
  rw [h, nm_s, if_neg (show ¬ nI 45 = 40 by decide), if_pos N_45.symm]
  by_cases q : 4 ≤ o
  · rw [if_pos q, if_pos (by rw [N_4, le_nn (by omega) (by omega)]; exact q)]
  · rw [if_neg q, if_neg (by rw [N_4, le_nn (by omega) (by omega)]; exact q), nI_1]
theorem c_wd {d o : Nat} {I I1 : HI} {J : HJ} {r : Int32} (h : I 59 4 = nI 257) (hr : zb r = true) (e : f_X8_tellsName I J = some (r, I1)) : f_X8_tellsOne (d + 1) (nI o) I J = some (r, I1) := by
  rw [c1_st]
  unfold fb_X8_tellsOne
  rw [h, nm_s, if_neg (show ¬ nI 257 = 40 by decide), if_neg (show ¬ nI 257 = 45 by decide), if_pos N_257.symm, e, bd2_s, if_pos hr]
theorem c_dg {d o : Nat} {I I1 : HI} {J : HJ} {r : Int32} (h : I 59 4 = nI 258) (hr : zb r = true) (e : f_X8_tellsNumber I J = some (r, I1)) : f_X8_tellsOne (d + 1) (nI o) I J = some (r, I1) := by
  rw [c1_st]
  unfold fb_X8_tellsOne
  rw [h, nm_s, if_neg (show ¬ nI 258 = 40 by decide), if_neg (show ¬ nI 258 = 45 by decide), if_neg (show ¬ nI 258 = 257 by decide), if_pos N_258.symm, e, bd2_s, if_pos hr]
theorem c_no {d o : Nat} {I : HI} {J : HJ} (h1 : ¬ I 59 4 = nI 40) (h2 : ¬ I 59 4 = nI 45) (h3 : ¬ I 59 4 = nI 257) (h4 : ¬ I 59 4 = nI 258) : f_X8_tellsOne (d + 1) (nI o) I J = some (0, I) := by
  rw [c1_st]
  unfold fb_X8_tellsOne
  rw [nm_s, N_40, N_45, N_257, N_258, if_neg h1, if_neg h2, if_neg h3, if_neg h4]
theorem bracket_s {b : Nat → Int32} {N key bg o f t n h dE m : Nat} {g1 g2 g3 : HI → HJ → Option HI} {I K : HI} {J : HJ} (hN : N ≤ 200) (hk : key < 4) (hE : Spec b N key bg (o + 1) (3 * (o + 1)) (f_X8_tellsJoined dE 0 (nI (o + 1))) (f_X11_compared m)) (h0 : PP b N key bg o f t n h I K) (hle : bg + n ≤ 12 + f) (hh : h ≤ 3 * o + 3) (hf : f < N) : ∃ r I1 K1, f_X8_tellsBracket (dE + 1) (nI (o + 1)) I J = some (r, I1) ∧ fB_X11_one_112 g1 g2 g3 (f_X11_compared m) 1 K J = some K1 ∧ RS b N key bg o f n (h + 1) r I K I1 K1 := by
  obtain ⟨f1, t1, I1, K1, u1, u2, u3, u4, u5, u6⟩ := h0.next (J := J) hN hk
  have lt1 := h0.1.le.2.2 hf
  have k6 := h0.2.2.1.2.2.2.2.2
  have k22 := u4.2.2.1.2.2.2.1
  obtain ⟨r, I2, K2, v1, v2, v3, v4, v5⟩ := hE I1 (put K1 98 22 (nI (o + 1))) J f1 t1 n h u4.opn (by omega) (by omega)
  have fm2 : FM bg K K2 := (u6.tr (FM.pt (by omega))).tr v4
  rw [cb_st]
  unfold fb_X8_tellsBracket fB_X11_one_112 fB_X11_one_148
  rw [u2, bd1_s, v1, bd2_s, needs_y k6, u3, bd1_s, nm_s, k22, nI_1, v2, bd1_s]
  rcases v5 with ⟨hr, f2, t2, n2, w1, w2, w3⟩ | ⟨hr, e, w1, w2⟩
  · have hle2 := w3.1.le
    rw [hr, if_neg (by decide), w3.2.1.2.2.1, w3.2.2.1.2.1, mby hN w3.2.2.1.1 (by omega), bd1_s]
    by_cases q : f2 < N ∧ b f2 = nI 41
    · obtain ⟨f3, t3, I3, K3, x1, x2, x3, x4, x5, x6⟩ := w3.next (J := J) hN hk
      refine ⟨1, I3, put K3 98 22 (nI o), ?_, ?_, (u5.tr v3).tr x5, (fm2.tr x6).tr (FM.pt (by omega)), Or.inl ⟨rfl, f3, t3, n2, by omega, by omega, x4.opn⟩⟩
      · rw [prt_sg q.1 (by rw [q.2]; decide) (by rw [q.2]; decide), q.2, if_pos N_41.symm, x2, bd1_s]
      · rw [bat_i q.1, q.2, if_pos N_41.symm, needs_y w3.2.2.1.2.2.2.2.2, x3, bd1_s, nm_s, x4.2.2.1.2.2.2.1, N_1, sb _ _ (by omega)]
        rfl
    · refine ⟨0, I2, put (put K2 98 25 1) 98 22 (nI o), ?_, ?_, u5.tr v3, (fm2.tr (FM.pt (by omega))).tr (FM.pt (by omega)), Or.inr ⟨rfl, f2, w3.2.1.2.2.2.1, (w3.2.2.1.wrong (Nat.le_trans hle2.1 hle2.2.1)).put22⟩⟩
      · rw [if_neg (fun z => q (by
          have z1 := prt_is (c := 41) (Nat.le_trans hle2.1 hle2.2.1) (by omega) (z.trans N_41)
          exact ⟨z1.1, z1.2.1⟩))]
      · rw [if_neg (fun z => q (by
          by_cases z0 : f2 < N
          · rw [bat_i z0] at z
            exact ⟨z0, z.trans N_41⟩
          · rw [bat_o z0] at z
            exact absurd z (by decide))), needs_n w3.2.2.1.2.2.2.2.2, bd1_s, nm_s, pN (show 98 ≠ 98 ∨ 22 ≠ 25 by omega), w3.2.2.1.2.2.2.1, N_1, sb _ _ (by omega)]
        rfl
  · refine ⟨0, I2, put K2 98 22 (K2 98 22 - 1), ?_, ?_, u5.tr v3, fm2.tr (FM.pt (by omega)), Or.inr ⟨rfl, e, w1, w2.put22⟩⟩
    · rw [hr, if_pos rfl]
    · have he := w2.2.2.2
      rw [w2.2.1, mby hN w2.1 (by omega), bd1_s, w2.needs, w2.needs]
      by_cases z : bat b N e = 41
      · rw [if_pos z, bd1_s, nm_s]
      · rw [if_neg z, bd1_s, nm_s]
theorem less_s {b : Nat → Int32} {N key bg o f t n h dE m : Nat} {g2 g3 g4 : HI → HJ → Option HI} {I K : HI} {J : HJ} (hN : N ≤ 200) (hk : key < 4) (hbg : 12 ≤ bg) (ho : o < 4) (hO : Spec b N key bg (o + 1) (3 * (o + 1) + 3) (f_X8_tellsOne dE (nI (o + 1))) (f_X11_one m)) (h0 : PP b N key bg o f t n h I K) (hle : bg + n ≤ 12 + f) (hh : h ≤ 3 * o + 3) (hf : f < N) : ∃ r I1 K1, f_X8_tellsLess (dE + 1) (nI (o + 1)) I J = some (r, I1) ∧ fB_X11_one_52 (f_X11_one m) g2 g3 g4 1 K J = some K1 ∧ RS b N key bg o f n (h + 1) r I K I1 K1 := by
  obtain ⟨f1, t1, I1, K1, u1, u2, u3, u4, u5, u6⟩ := h0.next (J := J) hN hk
  have lt1 := h0.1.le.2.2 hf
  have k6 := h0.2.2.1.2.2.2.2.2
  have k22 := u4.2.2.1.2.2.2.1
  obtain ⟨r, I2, K2, v1, v2, v3, v4, v5⟩ := hO I1 (put K1 98 22 (nI (o + 1))) J f1 t1 n h u4.opn (by omega) (by omega)
  have fm2 : FM bg K K2 := (u6.tr (FM.pt (by omega))).tr v4
  rw [cl_st]
  unfold fb_X8_tellsLess fB_X11_one_52
  rw [u2, bd1_s, v1, bd2_s, needs_y k6, u3, bd1_s, nm_s, k22, nI_1, v2, bd1_s, nm_s]
  rcases v5 with ⟨hr, f2, t2, n2, w1, w2, w3⟩ | ⟨hr, e, w1, w2⟩
  · have hle2 := w3.1.le
    have w4 := w3.opn (o1 := o)
    obtain ⟨I3, K3, x1, x2, x3, x4, x5⟩ := w4.app (J := J) (v := 20126) (h1 := h + 1) hk (by omega) (by omega) (Or.inr (Or.inl ⟨rfl, by omega, by omega, rfl⟩))
    rw [trC_m, ← N_10010] at x2
    refine ⟨1, I3, K3, ?_, ?_, (u5.tr v3).tr x4, (fm2.tr (FM.pt (by omega))).tr x5, Or.inl ⟨rfl, f2, t2, n2 + 1, by omega, by omega, x3⟩⟩
    · rw [hr, if_neg (by decide), x1, bd1_s]
    · rw [w3.2.2.1.2.2.2.1, N_1, sb _ _ (by omega), show o + 1 - 1 = o from rfl, x2, bd1_s]
  · refine ⟨0, I2, put K2 98 22 (K2 98 22 - 1), ?_, ?_, u5.tr v3, fm2.tr (FM.pt (by omega)), Or.inr ⟨rfl, e, w1, w2.put22⟩⟩
    · rw [hr, if_pos rfl]
    · rw [w2.put22.emits, bd1_s]
theorem ten_k (k : Nat) : (10000 : Int32) + nI k = nI (10000 + k) := by rw [N_10000, nI_add]
/-- a ONE, on both sides -/
theorem one_s {b : Nat → Int32} {N key bg o dE m : Nat} (hN : N ≤ 200) (hB : ByR b N) (hk : key < 4) (hbg : 12 ≤ bg) (ho : o ≤ 4) (hm : 4 ≤ m) (hE : o < 4 → Spec b N key bg (o + 1) (3 * (o + 1)) (f_X8_tellsJoined dE 0 (nI (o + 1))) (f_X11_compared m)) (hO : o < 4 → Spec b N key bg (o + 1) (3 * (o + 1) + 3) (f_X8_tellsOne dE (nI (o + 1))) (f_X11_one m)) : Spec b N key bg o (3 * o + 3) (f_X8_tellsOne (dE + 2) (nI o)) (f_X11_one (m + 1)) := by
  intro I K J f t n h h0 hle hh
  have hz := h0.1.le
  have hfN : f ≤ N := Nat.le_trans hz.1 hz.2.1
  have hc := h0.2.1
  have hM := h0.2.2.1
  obtain ⟨c1, c2, c3, c4, c5⟩ := id hc
  obtain ⟨m1, m2, m3, m4, m5, m6⟩ := id hM
  by_cases hf : f < N
  case neg =>
    -- the end
    obtain ⟨K1, x1, x2, x3⟩ := bad_s (J := J) (m := m) (bg := bg) hN hM hfN (by rw [bat_o hf]; decide) (by rw [bat_o hf]; decide) (by rw [bat_o hf]; decide) (by omega) (by omega) ((name_s hN hB hz.1 hz.2.1 c1 c3 c4 c5 m1 m2 m3).elim (fun q => q.2) (fun ⟨k, q1, q2, q3⟩ => absurd q2 hf))
    have e : I 59 4 = nI 256 := c3.trans (prt_end hf)
    exact ⟨0, I, K1, c_no (by rw [e]; decide) (by rw [e]; decide) (by rw [e]; decide) (by rw [e]; decide), x1, FC.re, x3, Or.inr ⟨rfl, f, c4, x2⟩⟩
  by_cases hd : Dg (b f)
  · obtain ⟨r, I1, K1, x1, x2, x3⟩ := number_s (J := J) hN hk hbg h0 hle (by omega) hf hd
    refine ⟨r, I1, K1, c_dg (c3.trans (prt_dg hf hd)) ?_ x1, (m_dg hN hM hf hd).trans x2, x3⟩
    rcases x3.2.2 with ⟨q, -⟩ | ⟨q, -⟩ <;> rw [q] <;> rfl
  by_cases hl : Lt (b f)
  · have e : I 59 4 = nI 257 := c3.trans (prt_lt hf hl)
    have ne1 : ¬ b f = 45 := fun q => by rw [q] at hl; exact absurd hl (by decide)
    have ne2 : ¬ b f = 40 := fun q => by rw [q] at hl; exact absurd hl (by decide)
    rcases name_s (J := J) hN hB hz.1 hz.2.1 c1 c3 c4 c5 m1 m2 m3 with ⟨a1, a2⟩ | ⟨k, hk7, -, -, a1, a2⟩
    · obtain ⟨K1, x1, x2, x3⟩ := bad_s (J := J) (m := m) (bg := bg) hN hM hfN (by rw [bat_i hf]; exact hd) (by rw [bat_i hf]; exact ne1) (by rw [bat_i hf]; exact ne2) (by omega) (by omega) a2
      refine ⟨0, I, K1, c_wd e rfl ?_, x1, FC.re, x3, Or.inr ⟨rfl, f, c4, x2⟩⟩
      unfold f_X8_tellsName
      rw [a1, bd1_s, if_neg (by decide)]
    · have iv : isVal (nI (10000 + k)) := Or.inr (by rw [i_nat _ (by omega)]; omega)
      obtain ⟨I1, K1, x1, x2, x3, x4, x5⟩ := h0.app (J := J) (h1 := h + 1) hk (by omega) (by omega) (Or.inl ⟨iv, by omega, rfl⟩)
      obtain ⟨f', t', I2, K2, b0, b1, b2, b3, b4, b5⟩ := x3.next (J := J) hN hk
      have lt1 := hz.2.2 hf
      refine ⟨1, I2, K2, c_wd e rfl ?_, ?_, x4.tr b4, x5.tr b5, Or.inl ⟨rfl, f', t', n + 1, by omega, by omega, b3⟩⟩
      · unfold f_X8_tellsName
        rw [a1, bd1_s, if_pos (by rw [N_0, le_nn (by omega) (by omega)]; omega), ten_k, x1, bd1_s, b1, bd1_s]
      · rw [trC_v iv] at x2
        rw [m_nm hN hM hfN (by rw [bat_i hf]; exact hd) (by rw [bat_i hf]; exact ne1) (by rw [bat_i hf]; exact ne2), a2, bd1_s, ten_k, x2, bd1_s, if_neg (by rw [N_0, lt_nn (by omega) (by omega)]; omega), needs_y x3.2.2.1.2.2.2.2.2]
        exact b2
  have e : I 59 4 = b f := c3.trans (prt_sg hf hl hd)
  by_cases h45 : b f = 45
  · have e2 : I 59 4 = nI 45 := (e.trans h45).trans N_45
    by_cases q : 4 ≤ o
    · refine ⟨0, I, put (put (put K 98 25 1) 98 22 ((put K 98 25 1) 98 22 + 1)) 98 22 ((put K 98 25 1) 98 22 + 1 - 1), ?_, ?_, FC.re, ((FM.pt (by omega)).tr (FM.pt (by omega))).tr (FM.pt (by omega)), Or.inr ⟨rfl, f, c4, (hM.wrong hfN).put22.put22⟩⟩
      · rw [c_mi e2 ho, if_pos q]
      · obtain ⟨m, rfl⟩ : ∃ m1, m = m1 + 1 := ⟨m - 1, by omega⟩
        have w := hM.wrong hfN
        rw [m_mi hN hM hf h45 ho, if_pos q]
        unfold fB_X11_one_52
        rw [needs_n m6, bd1_s, nm_s, w.put22.one, bd1_s, nm_s, w.put22.put22.emits, bd1_s, pE rfl rfl]
    · obtain ⟨r, I1, K1, x1, x2, x3⟩ := less_s (g2 := f_X11_product m) (g3 := f_X11_sum m) (g4 := f_X11_compared m) (J := J) hN hk hbg (by omega) (hO (by omega)) h0 hle hh hf
      refine ⟨r, I1, K1, ?_, ?_, x3⟩
      · rw [c_mi e2 ho, if_neg q, x1, bd2_s]
        rcases x3.2.2 with ⟨z, -⟩ | ⟨z, -⟩ <;> rw [z]
        · rw [if_neg (by decide)]
        · rw [if_pos rfl]
      · rw [m_mi hN hM hf h45 ho, if_neg q]
        exact x2
  by_cases h40 : b f = 40
  · have e2 : I 59 4 = nI 40 := (e.trans h40).trans N_40
    by_cases q : 4 ≤ o
    · refine ⟨0, I, put (put (put K 98 25 1) 98 22 ((put K 98 25 1) 98 22 + 1)) 98 22 ((put K 98 25 1) 98 22 + 1 - 1), ?_, ?_, FC.re, ((FM.pt (by omega)).tr (FM.pt (by omega))).tr (FM.pt (by omega)), Or.inr ⟨rfl, f, c4, (hM.wrong hfN).put22.put22⟩⟩
      · rw [c_pa e2 ho, if_pos q]
      · obtain ⟨m, rfl⟩ : ∃ m1, m = m1 + 4 := ⟨m - 4, by omega⟩
        have w := hM.wrong hfN
        have w2 := w.put22 (v := (put K 98 25 1) 98 22 + 1)
        rw [m_pa hN hM hf h40 ho, if_pos q]
        unfold fB_X11_one_112 fB_X11_one_148
        rw [needs_n m6, bd1_s, nm_s, w2.cmp, bd1_s, w2.2.1, mby hN w2.1 (by omega), bd1_s, w2.needs, w2.needs, bat_i hf, if_neg (fun q => absurd (h40.symm.trans q) (by decide)), bd1_s, nm_s, pE rfl rfl]
    · obtain ⟨r, I1, K1, x1, x2, x3⟩ := bracket_s (g1 := f_X11_one m) (g2 := f_X11_product m) (g3 := f_X11_sum m) (J := J) hN hk (hE (by omega)) h0 hle hh hf
      refine ⟨r, I1, K1, ?_, ?_, x3⟩
      · rw [c_pa e2 ho, if_neg q, x1, bd2_s]
        rcases x3.2.2 with ⟨z, -⟩ | ⟨z, -⟩ <;> rw [z]
        · rw [if_neg (by decide)]
        · rw [if_pos rfl]
      · rw [m_pa hN hM hf h40 ho, if_neg q]
        exact x2
  obtain ⟨K1, x1, x2, x3⟩ := bad_s (J := J) (m := m) (bg := bg) hN hM hfN (by rw [bat_i hf]; exact hd) (by rw [bat_i hf]; exact h45) (by rw [bat_i hf]; exact h40) (by omega) (by omega) ((name_s hN hB hz.1 hz.2.1 c1 c3 c4 c5 m1 m2 m3).elim (fun q => q.2) (fun ⟨k, q1, q2, q3, _⟩ => absurd q3 hl))
  exact ⟨0, I, K1, c_no (by rw [e, ← N_40]; exact h40) (by rw [e, ← N_45]; exact h45) (by rw [e]; exact hB.ne hf (by omega) (by omega)) (by rw [e]; exact hB.ne hf (by omega) (by omega)), x1, FC.re, x3, Or.inr ⟨rfl, f, c4, x2⟩⟩

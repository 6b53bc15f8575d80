/-! the signs, and the levels of an E -/
def Sg (l : Nat) (v : Int32) : Prop := (l = 0 ∧ (v = 60 ∨ v = 61 ∨ v = 62)) ∨ (l = 1 ∧ (v = 43 ∨ v = 45)) ∨ (l = 2 ∧ (v = 42 ∨ v = 47 ∨ v = 37))
theorem lev_i {b : Nat → Int32} {N f l : Nat} (h : f < N) (s : Sg l (b f)) : prt b N f = b f ∧ f_X8_levelOf (b f) = some (nI l) ∧ isSg (20000 + b f) := by
  unfold isSg
  rcases s with ⟨hl, e | e | e⟩ | ⟨hl, e | e⟩ | ⟨hl, e | e | e⟩ <;> subst hl <;> exact ⟨prt_sg h (by rw [e]; decide) (by rw [e]; decide), by rw [e]; rfl, by rw [e]; decide⟩
theorem lev_o {b : Nat → Int32} {N f l : Nat} (hf : f ≤ N) (h : ¬ (f < N ∧ Sg l (b f))) (hl : l ≤ 2) : ∃ v, f_X8_levelOf (prt b N f) = some v ∧ ¬ v = nI l := by
  have key : ∀ c l', c < 256 → l' < 3 → prt b N f = nI c → Sg l' (nI c) → ¬ nI l' = nI l := fun c l' hc hl' e s z => by
    rw [eq_nn (by omega) (by omega)] at z
    subst z
    obtain ⟨z1, z2, -⟩ := prt_is hf hc e
    exact h ⟨z1, by rw [z2]; exact s⟩
  unfold f_X8_levelOf
  by_cases e1 : prt b N f = 37
  · exact ⟨2, by rw [if_pos e1], key 37 2 (by omega) (by omega) (e1.trans N_37) (Or.inr (Or.inr ⟨rfl, Or.inr (Or.inr rfl)⟩))⟩
  rw [if_neg e1]
  by_cases e2 : prt b N f = 42
  · exact ⟨2, by rw [if_pos e2], key 42 2 (by omega) (by omega) (e2.trans N_42) (Or.inr (Or.inr ⟨rfl, Or.inl rfl⟩))⟩
  rw [if_neg e2]
  by_cases e3 : prt b N f = 43
  · exact ⟨1, by rw [if_pos e3], key 43 1 (by omega) (by omega) (e3.trans N_43) (Or.inr (Or.inl ⟨rfl, Or.inl rfl⟩))⟩
  rw [if_neg e3]
  by_cases e4 : prt b N f = 45
  · exact ⟨1, by rw [if_pos e4], key 45 1 (by omega) (by omega) (e4.trans N_45) (Or.inr (Or.inl ⟨rfl, Or.inr rfl⟩))⟩
  rw [if_neg e4]
  by_cases e5 : prt b N f = 47
  · exact ⟨2, by rw [if_pos e5], key 47 2 (by omega) (by omega) (e5.trans N_47) (Or.inr (Or.inr ⟨rfl, Or.inr (Or.inl rfl)⟩))⟩
  rw [if_neg e5]
  by_cases e6 : prt b N f = 60
  · exact ⟨0, by rw [if_pos e6], key 60 0 (by omega) (by omega) (e6.trans N_60) (Or.inl ⟨rfl, Or.inl rfl⟩)⟩
  rw [if_neg e6]
  by_cases e7 : prt b N f = 61
  · exact ⟨0, by rw [if_pos e7], key 61 0 (by omega) (by omega) (e7.trans N_61) (Or.inl ⟨rfl, Or.inr (Or.inl rfl)⟩)⟩
  rw [if_neg e7]
  by_cases e8 : prt b N f = 62
  · exact ⟨0, by rw [if_pos e8], key 62 0 (by omega) (by omega) (e8.trans N_62) (Or.inl ⟨rfl, Or.inr (Or.inr rfl)⟩)⟩
  rw [if_neg e8]
  exact ⟨3, rfl, fun z => by
    rw [N_3, eq_nn (by omega) (by omega)] at z
    omega⟩
/-- a sign and what is joined by it -/
theorem iter {b : Nat → Int32} {N key bg o hl f t n h : Nat} {v : Int32} {c : HI → HJ → Option (Int32 × HI)} {m : HI → HJ → Option HI} (C : HI → Option (Int32 × HI)) (M : HI → Option HI) {I K : HI} {J : HJ} (hN : N ≤ 200) (hk : key < 4) (hbg : 12 ≤ bg) (hs : Spec b N key bg o hl c m) (h0 : PP b N key bg o f t n (h + 1) I K) (hle : bg + n ≤ 12 + f) (hh : h + 1 ≤ hl) (h31 : h + 2 ≤ 32) (hf : f < N) (sg : isSg (20000 + v)) : ∃ I1 K1, FC key I I1 ∧ FM bg K K1 ∧ (bd1 (f_X11_needs 1 K J) fun K1 => bd1 (m K1 J) fun K2 => bd1 (f_X11_emits (trC (20000 + v)) K2 J) fun K3 => M K3) = M K1 ∧ (((bd1 (f_X8_goToNext I J) fun I21 => bd2 (c I21 J) fun r23 I24 => if r23 = 0 then some (0, I24) else bd1 (f_X2_add 60 (I24 59 3) (20000 + v) I24 J) fun I26 => C I26) = some (0, I1) ∧ Bad b N I1 K1) ∨ ((bd1 (f_X8_goToNext I J) fun I21 => bd2 (c I21 J) fun r23 I24 => if r23 = 0 then some (0, I24) else bd1 (f_X2_add 60 (I24 59 3) (20000 + v) I24 J) fun I26 => C I26) = C I1 ∧ ∃ f' t' n', f < f' ∧ n' + f ≤ n + f' ∧ PP b N key bg o f' t' n' (h + 1) I1 K1)) := by
  obtain ⟨f1, t1, I1, K1, u1, u2, u3, u4, u5, u6⟩ := h0.next (J := J) hN hk
  have lt1 := h0.1.le.2.2 hf
  have k6 := h0.2.2.1.2.2.2.2.2
  obtain ⟨r, I2, K2, v1, v2, v3, v4, v5⟩ := hs I1 K1 J f1 t1 n (h + 1) u4 (by omega) hh
  rw [u2, bd1_s, v1, bd2_s, needs_y k6, u3, bd1_s, v2, bd1_s]
  rcases v5 with ⟨hr, f2, t2, n2, w1, w2, w3⟩ | ⟨hr, e, w1, w2⟩
  · have hle2 := w3.1.le
    obtain ⟨I3, K3, x1, x2, x3, x4, x5⟩ := w3.app (J := J) (v := 20000 + v) (h1 := h + 1) hk (by omega) (by omega) (Or.inr (Or.inr ⟨sg, by omega, by omega, rfl⟩))
    refine ⟨I3, K3, (u5.tr v3).tr x4, (u6.tr v4).tr x5, by rw [x2, bd1_s], Or.inr ⟨by rw [hr, if_neg (by decide), x1, bd1_s], f2, t2, n2 + 1, by omega, by omega, x3⟩⟩
  · exact ⟨I2, K2, u5.tr v3, u6.tr v4, by rw [w2.emits, bd1_s], Or.inl ⟨by rw [hr, if_pos rfl], e, w1, w2⟩⟩
theorem lvl_l {b : Nat → Int32} {N key bg o l d h : Nat} {mm : HI → HJ → Option HI} {L : Nat → HI → HJ → Option HI} {B : (HI → HJ → Option HI) → HI → HJ → Option HI} {J : HJ} (hN : N ≤ 200) (hk : key < 4) (hbg : 12 ≤ bg) (ho : o ≤ 4) (hl : l ≤ 2) (hL : ∀ F, L (F + 1) = B (L F))
    (hB1 : ∀ (r : HI → HJ → Option HI) (K : HI) (st f t : Nat), MP b N K o st f t → f < N → Sg l (b f) → B r K J = bd1 (f_X11_needs 1 K J) fun K1 => bd1 (mm K1 J) fun K2 => bd1 (f_X11_emits (trC (20000 + b f)) K2 J) fun K3 => r K3 J)
    (hB2 : ∀ (r : HI → HJ → Option HI) (K : HI) (st f t : Nat), MP b N K o st f t → f ≤ N → ¬ (f < N ∧ Sg l (b f)) → B r K J = some K)
    (hB3 : ∀ (r : HI → HJ → Option HI) (K : HI) (e : Nat), Wr b N K e → B r K J = some K)
    (hs : Spec b N key bg o (3 * o + (l + 1)) (f_X8_tellsJoined d (nI (l + 1)) (nI o)) mm) (hh : h ≤ 3 * o + l) :
    ∀ (D F1 F2 i f t n : Nat) (I K : HI), N - f ≤ D → D < F1 → D < F2 → i ≤ f → PP b N key bg o f t n (h + 1) I K → bg + n ≤ 12 + f → ∃ r I1 K1, fL_X8_tellsJoined_39 (f_X8_tellsJoined d) (f_X8_tellsOne d) (f_X8_tellsLess d) (f_X8_tellsBracket d) (nI l) (nI o) F1 (nI 200) (nI i) I J = some (r, I1) ∧ L F2 K J = some K1 ∧ FC key I I1 ∧ FM bg K K1 ∧ ((r = 1 ∧ ∃ f' t' n', f ≤ f' ∧ n' + f ≤ n + f' ∧ PP b N key bg o f' t' n' (h + 1) I1 K1) ∨ (r = 0 ∧ Bad b N I1 K1)) := by
  intro D
  induction D with
  | zero =>
    intro F1 F2 i f t n I K hD h1 h2 hi h0 hle
    obtain ⟨F1, rfl⟩ : ∃ g, F1 = g + 1 := ⟨F1 - 1, by omega⟩
    obtain ⟨F2, rfl⟩ : ∃ g, F2 = g + 1 := ⟨F2 - 1, by omega⟩
    have hz := h0.1.le
    have nsg : ¬ (f < N ∧ Sg l (b f)) := fun q => by omega
    refine ⟨1, I, K, ?_, ?_, FC.re, FM.re, Or.inl ⟨rfl, f, t, n, Nat.le_refl _, Nat.le_refl _, h0⟩⟩
    · show fLB_X8_tellsJoined_39 _ _ _ _ (nI l) (nI o) _ (nI 200) (nI i) I J = _
      unfold fLB_X8_tellsJoined_39
      by_cases q : nI 200 ≤ nI i
      · rw [if_pos q]
      · obtain ⟨v, v1, v2⟩ := lev_o (Nat.le_trans hz.1 hz.2.1) nsg hl
        rw [if_neg q, h0.2.1.2.2.1, v1, bd1_s, if_neg v2]
    · rw [hL]
      exact hB2 _ _ _ _ _ h0.2.2.1 (Nat.le_trans hz.1 hz.2.1) nsg
  | succ D ih =>
    intro F1 F2 i f t n I K hD h1 h2 hi h0 hle
    obtain ⟨F1, rfl⟩ : ∃ g, F1 = g + 1 := ⟨F1 - 1, by omega⟩
    obtain ⟨F2, rfl⟩ : ∃ g, F2 = g + 1 := ⟨F2 - 1, by omega⟩
    have hz := h0.1.le
    by_cases sg : f < N ∧ Sg l (b f)
    · obtain ⟨p1, p2, p3⟩ := lev_i sg.1 sg.2
      obtain ⟨I1, K1, x1, x2, x3, x4⟩ := iter (v := b f) (fun I26 => fL_X8_tellsJoined_39 (f_X8_tellsJoined d) (f_X8_tellsOne d) (f_X8_tellsLess d) (f_X8_tellsBracket d) (nI l) (nI o) F1 (nI 200) (nI (i + 1)) I26 J) (fun K3 => L F2 K3 J) (J := J) hN hk hbg hs h0 hle (by omega) (by omega) sg.1 p3
      have ec : fL_X8_tellsJoined_39 (f_X8_tellsJoined d) (f_X8_tellsOne d) (f_X8_tellsLess d) (f_X8_tellsBracket d) (nI l) (nI o) (F1 + 1) (nI 200) (nI i) I J = bd1 (f_X8_goToNext I J) fun I21 => bd2 (f_X8_tellsJoined d (nI (l + 1)) (nI o) I21 J) fun r23 I24 => if r23 = 0 then some (0, I24) else bd1 (f_X2_add 60 (I24 59 3) (20000 + b f) I24 J) fun I26 => fL_X8_tellsJoined_39 (f_X8_tellsJoined d) (f_X8_tellsOne d) (f_X8_tellsLess d) (f_X8_tellsBracket d) (nI l) (nI o) F1 (nI 200) (nI (i + 1)) I26 J := by
        show fLB_X8_tellsJoined_39 _ _ _ _ (nI l) (nI o) _ (nI 200) (nI i) I J = _
        unfold fLB_X8_tellsJoined_39
        rw [if_neg (by rw [le_nn (by omega) (by omega)]; omega), h0.2.1.2.2.1, p1, p2, bd1_s, if_pos rfl, nm_s, nI_1, nI_1]
        rfl
      have em : L (F2 + 1) K J = bd1 (f_X11_needs 1 K J) fun K1 => bd1 (mm K1 J) fun K2 => bd1 (f_X11_emits (trC (20000 + b f)) K2 J) fun K3 => L F2 K3 J := by
        rw [hL]
        exact hB1 _ _ _ _ _ h0.2.2.1 sg.1 sg.2
      rcases x4 with ⟨y1, e, y2, y3⟩ | ⟨y1, f', t', n', y2, y3, y4⟩
      · refine ⟨0, I1, K1, ec.trans y1, em.trans (x3.trans ?_), x1, x2, Or.inr ⟨rfl, e, y2, y3⟩⟩
        obtain ⟨F2, rfl⟩ : ∃ g, F2 = g + 1 := ⟨F2 - 1, by omega⟩
        show L (F2 + 1) K1 J = _
        rw [hL]
        exact hB3 _ _ _ y3
      · obtain ⟨r, I2, K2, z1, z2, z3, z4, z5⟩ := ih F1 F2 (i + 1) f' t' n' I1 K1 (by omega) (by omega) (by omega) (by omega) y4 (by omega)
        refine ⟨r, I2, K2, ec.trans (y1.trans z1), em.trans (x3.trans z2), x1.tr z3, x2.tr z4, z5.imp (fun ⟨q, f2, t2, n2, g1, g2, g3⟩ => ⟨q, f2, t2, n2, by omega, by omega, g3⟩) id⟩
    · refine ⟨1, I, K, ?_, ?_, FC.re, FM.re, Or.inl ⟨rfl, f, t, n, Nat.le_refl _, Nat.le_refl _, h0⟩⟩
      · show fLB_X8_tellsJoined_39 _ _ _ _ (nI l) (nI o) _ (nI 200) (nI i) I J = _
        unfold fLB_X8_tellsJoined_39
        by_cases q : nI 200 ≤ nI i
        · rw [if_pos q]
        · obtain ⟨v, v1, v2⟩ := lev_o (Nat.le_trans hz.1 hz.2.1) sg hl
          rw [if_neg q, h0.2.1.2.2.1, v1, bd1_s, if_neg v2]
      · rw [hL]
        exact hB2 _ _ _ _ _ h0.2.2.1 (Nat.le_trans hz.1 hz.2.1) sg
/-- SUM and TERM -/
theorem lvl_s {b : Nat → Int32} {N key bg o l d : Nat} {ml mm : HI → HJ → Option HI} {L : Nat → HI → HJ → Option HI} {B : (HI → HJ → Option HI) → HI → HJ → Option HI} (hN : N ≤ 200) (hk : key < 4) (hbg : 12 ≤ bg) (ho : o ≤ 4) (hl1 : 1 ≤ l) (hl : l ≤ 2) (hM : ∀ K J, ml K J = bd1 (mm K J) fun K1 => L FU K1 J) (hL : ∀ F, L (F + 1) = B (L F))
    (hB1 : ∀ (J : HJ) (r : HI → HJ → Option HI) (K : HI) (st f t : Nat), MP b N K o st f t → f < N → Sg l (b f) → B r K J = bd1 (f_X11_needs 1 K J) fun K1 => bd1 (mm K1 J) fun K2 => bd1 (f_X11_emits (trC (20000 + b f)) K2 J) fun K3 => r K3 J)
    (hB2 : ∀ (J : HJ) (r : HI → HJ → Option HI) (K : HI) (st f t : Nat), MP b N K o st f t → f ≤ N → ¬ (f < N ∧ Sg l (b f)) → B r K J = some K)
    (hB3 : ∀ (J : HJ) (r : HI → HJ → Option HI) (K : HI) (e : Nat), Wr b N K e → B r K J = some K)
    (hs : Spec b N key bg o (3 * o + (l + 1)) (f_X8_tellsJoined d (nI (l + 1)) (nI o)) mm) : Spec b N key bg o (3 * o + l) (f_X8_tellsJoined (d + 1) (nI l) (nI o)) ml := by
  intro I K J f t n h h0 hle hh
  obtain ⟨r, I1, K1, v1, v2, v3, v4, v5⟩ := hs I K J f t n h h0 hle (by omega)
  rw [cj_st, hM, v2, bd1_s]
  unfold fb_X8_tellsJoined fB_X8_tellsJoined_35
  rw [if_neg (show ¬ nI l = 3 by rw [N_3, eq_nn (by omega) (by omega)]; omega), nI_1, v1, bd2_s]
  rcases v5 with ⟨hr, f2, t2, n2, w1, w2, w3⟩ | ⟨hr, e, w1, w2⟩
  · have hle2 := w3.1.le
    obtain ⟨r2, I2, K2, z1, z2, z3, z4, z5⟩ := lvl_l (J := J) hN hk hbg ho hl hL (hB1 J) (hB2 J) (hB3 J) hs hh N FU FU 0 f2 t2 n2 I1 K1 (by omega) (FU_ge (by omega)) (FU_ge (by omega)) (by omega) w3 (by omega)
    refine ⟨r2, I2, K2, ?_, z2, v3.tr z3, v4.tr z4, z5.imp (fun ⟨q, f3, t3, n3, g1, g2, g3⟩ => ⟨q, f3, t3, n3, by omega, by omega, g3⟩) id⟩
    rw [hr, if_neg (by decide), if_neg (show ¬ nI l = 0 by rw [N_0, eq_nn (by omega) (by omega)]; omega)]
    exact z1
  · refine ⟨0, I1, K1, ?_, ?_, v3, v4, Or.inr ⟨rfl, e, w1, w2⟩⟩
    · rw [hr, if_pos rfl]
    · rw [show FU = 999999 + 1 from rfl, hL]
      exact hB3 J _ _ _ w2
theorem prod_1 {b : Nat → Int32} {N o st f t : Nat} {g1 g2 g3 g4 r : HI → HJ → Option HI} {K : HI} {J : HJ} (hN : N ≤ 200) (h : MP b N K o st f t) (hf : f < N) (s : Sg 2 (b f)) : fLB_X11_product_4 g1 g2 g3 g4 r K J = bd1 (f_X11_needs 1 K J) fun K1 => bd1 (g1 K1 J) fun K2 => bd1 (f_X11_emits (trC (20000 + b f)) K2 J) fun K3 => r K3 J := by
  unfold fLB_X11_product_4 fB_X11_product_31 fB_X11_product_77
  rw [h.isSign hN (by omega), h.isSign hN (by omega), h.isSign hN (by omega), bat_i hf, h.2.1, mby hN h.1 (by omega), bat_i hf, bd1_s, bd1_s, bd1_s, bd1_s, ite_bI, ite_bI, ite_bI]
  rcases s with ⟨hl, -⟩ | ⟨hl, -⟩ | ⟨-, e | e | e⟩
  · omega
  · omega
  · rw [e]; simp only [if_pos (show (42 : Int32) = 42 from rfl)]; rfl
  · rw [e]; simp only [if_neg (show ¬ (47 : Int32) = 42 by decide), if_pos (show (47 : Int32) = 47 from rfl)]; rfl
  · rw [e]; simp only [if_neg (show ¬ (37 : Int32) = 42 by decide), if_neg (show ¬ (37 : Int32) = 47 by decide), if_pos (show (37 : Int32) = 37 from rfl)]; rfl
theorem bat_sg {b : Nat → Int32} {N f : Nat} {v : Int32} (hv : ¬ (-1 : Int32) = v) (h : bat b N f = v) : f < N ∧ b f = v := by
  by_cases q : f < N
  · rw [bat_i q] at h; exact ⟨q, h⟩
  · rw [bat_o q] at h; exact absurd h hv
theorem prod_2 {b : Nat → Int32} {N o st f t : Nat} {g1 g2 g3 g4 r : HI → HJ → Option HI} {K : HI} {J : HJ} (hN : N ≤ 200) (h : MP b N K o st f t) (hf : f ≤ N) (s : ¬ (f < N ∧ Sg 2 (b f))) : fLB_X11_product_4 g1 g2 g3 g4 r K J = some K := by
  unfold fLB_X11_product_4
  rw [h.isSign hN hf, h.isSign hN hf, h.isSign hN hf, bd1_s, bd1_s, bd1_s, ite_bI, ite_bI, ite_bI, if_neg (fun q => ?_), if_neg (fun q => ?_), if_neg (fun q => ?_)]
  · obtain ⟨z1, z2⟩ := bat_sg (by decide) q
    exact s ⟨z1, Or.inr (Or.inr ⟨rfl, Or.inr (Or.inr z2)⟩)⟩
  · obtain ⟨z1, z2⟩ := bat_sg (by decide) q
    exact s ⟨z1, Or.inr (Or.inr ⟨rfl, Or.inr (Or.inl z2)⟩)⟩
  · obtain ⟨z1, z2⟩ := bat_sg (by decide) q
    exact s ⟨z1, Or.inr (Or.inr ⟨rfl, Or.inl z2⟩)⟩
theorem sum_1 {b : Nat → Int32} {N o st f t : Nat} {g1 g2 g3 g4 r : HI → HJ → Option HI} {K : HI} {J : HJ} (hN : N ≤ 200) (h : MP b N K o st f t) (hf : f < N) (s : Sg 1 (b f)) : fLB_X11_sum_4 g1 g2 g3 g4 r K J = bd1 (f_X11_needs 1 K J) fun K1 => bd1 (g2 K1 J) fun K2 => bd1 (f_X11_emits (trC (20000 + b f)) K2 J) fun K3 => r K3 J := by
  unfold fLB_X11_sum_4 fB_X11_sum_22 fB_X11_sum_56
  rw [h.isSign hN (by omega), h.isSign hN (by omega), bat_i hf, h.2.1, mby hN h.1 (by omega), bat_i hf, bd1_s, bd1_s, bd1_s, ite_bI, ite_bI]
  rcases s with ⟨hl, -⟩ | ⟨-, e | e⟩ | ⟨hl, -⟩
  · omega
  · rw [e]; simp only [if_pos (show (43 : Int32) = 43 from rfl)]; rfl
  · rw [e]; simp only [if_neg (show ¬ (45 : Int32) = 43 by decide), if_pos (show (45 : Int32) = 45 from rfl)]; rfl
  · omega
theorem sum_2 {b : Nat → Int32} {N o st f t : Nat} {g1 g2 g3 g4 r : HI → HJ → Option HI} {K : HI} {J : HJ} (hN : N ≤ 200) (h : MP b N K o st f t) (hf : f ≤ N) (s : ¬ (f < N ∧ Sg 1 (b f))) : fLB_X11_sum_4 g1 g2 g3 g4 r K J = some K := by
  unfold fLB_X11_sum_4
  rw [h.isSign hN hf, h.isSign hN hf, bd1_s, bd1_s, ite_bI, ite_bI, if_neg (fun q => ?_), if_neg (fun q => ?_)]
  · obtain ⟨z1, z2⟩ := bat_sg (by decide) q
    exact s ⟨z1, Or.inr (Or.inl ⟨rfl, Or.inr z2⟩)⟩
  · obtain ⟨z1, z2⟩ := bat_sg (by decide) q
    exact s ⟨z1, Or.inr (Or.inl ⟨rfl, Or.inl z2⟩)⟩
/-- what is compared, behind its first SUM -/
def cmpB (g1 g2 g3 g4 : HI → HJ → Option HI) (I : HI) (J : HJ) : Option HI := bd1 (f_X11_isSign 60 I J) fun r27 => if r27 = 0 then (bd1 (f_X11_isSign 61 I J) fun r29 => if r29 = 0 then (bd1 (f_X11_isSign 62 I J) fun r31 => if r31 = 0 then some I else fB_X11_compared_31 g1 g2 g3 g4 I J) else fB_X11_compared_31 g1 g2 g3 g4 I J) else fB_X11_compared_31 g1 g2 g3 g4 I J
theorem cmpB_st {m : Nat} {K : HI} {J : HJ} : f_X11_compared (m + 1) K J = bd1 (f_X11_sum m K J) fun K1 => cmpB (f_X11_one m) (f_X11_product m) (f_X11_sum m) (f_X11_compared m) K1 J := rfl
theorem cmpB_1 {b : Nat → Int32} {N o st f t : Nat} {g1 g2 g3 g4 : HI → HJ → Option HI} {K : HI} {J : HJ} (hN : N ≤ 200) (h : MP b N K o st f t) (hf : f < N) (s : Sg 0 (b f)) : cmpB g1 g2 g3 g4 K J = bd1 (f_X11_needs 1 K J) fun K1 => bd1 (g3 K1 J) fun K2 => bd1 (f_X11_emits (trC (20000 + b f)) K2 J) fun K3 => some K3 := by
  unfold cmpB fB_X11_compared_31 fB_X11_compared_77
  rw [h.isSign hN (by omega), h.isSign hN (by omega), h.isSign hN (by omega), bat_i hf, h.2.1, mby hN h.1 (by omega), bat_i hf, bd1_s, bd1_s, bd1_s, bd1_s, ite_bI, ite_bI, ite_bI]
  rcases s with ⟨-, e | e | e⟩ | ⟨hl, -⟩ | ⟨hl, -⟩
  · rw [e]; simp only [if_pos (show (60 : Int32) = 60 from rfl)]; rfl
  · rw [e]; simp only [if_neg (show ¬ (61 : Int32) = 60 by decide), if_pos (show (61 : Int32) = 61 from rfl)]; rfl
  · rw [e]; simp only [if_neg (show ¬ (62 : Int32) = 60 by decide), if_neg (show ¬ (62 : Int32) = 61 by decide), if_pos (show (62 : Int32) = 62 from rfl)]; rfl
  · omega
  · omega
theorem cmpB_2 {b : Nat → Int32} {N o st f t : Nat} {g1 g2 g3 g4 : HI → HJ → Option HI} {K : HI} {J : HJ} (hN : N ≤ 200) (h : MP b N K o st f t) (hf : f ≤ N) (s : ¬ (f < N ∧ Sg 0 (b f))) : cmpB g1 g2 g3 g4 K J = some K := by
  unfold cmpB
  rw [h.isSign hN hf, h.isSign hN hf, h.isSign hN hf, bd1_s, bd1_s, bd1_s, ite_bI, ite_bI, ite_bI, if_neg (fun q => ?_), if_neg (fun q => ?_), if_neg (fun q => ?_)]
  · obtain ⟨z1, z2⟩ := bat_sg (by decide) q
    exact s ⟨z1, Or.inl ⟨rfl, Or.inr (Or.inr z2)⟩⟩
  · obtain ⟨z1, z2⟩ := bat_sg (by decide) q
    exact s ⟨z1, Or.inl ⟨rfl, Or.inr (Or.inl z2)⟩⟩
  · obtain ⟨z1, z2⟩ := bat_sg (by decide) q
    exact s ⟨z1, Or.inl ⟨rfl, Or.inl z2⟩⟩
theorem cmpB_3 {b : Nat → Int32} {N e : Nat} {g1 g2 g3 g4 : HI → HJ → Option HI} {K : HI} {J : HJ} (h : Wr b N K e) : cmpB g1 g2 g3 g4 K J = some K := by
  unfold cmpB
  rw [h.isSign, bd1_s, if_pos rfl, h.isSign, bd1_s, if_pos rfl, h.isSign, bd1_s, if_pos rfl]
/-- an E -/
theorem cmp_s {b : Nat → Int32} {N key bg o d m : Nat} (hN : N ≤ 200) (hk : key < 4) (hbg : 12 ≤ bg) (ho : o ≤ 4) (hs : Spec b N key bg o (3 * o + 1) (f_X8_tellsJoined d (nI 1) (nI o)) (f_X11_sum m)) : Spec b N key bg o (3 * o) (f_X8_tellsJoined (d + 1) 0 (nI o)) (f_X11_compared (m + 1)) := by
  intro I K J f t n h h0 hle hh
  obtain ⟨r, I1, K1, v1, v2, v3, v4, v5⟩ := hs I K J f t n h h0 hle (by omega)
  rw [cj_st, cmpB_st, v2, bd1_s]
  unfold fb_X8_tellsJoined fB_X8_tellsJoined_35
  rw [if_neg (show ¬ (0 : Int32) = 3 by decide), show (0 : Int32) + 1 = nI 1 from rfl, v1, bd2_s]
  rcases v5 with ⟨hr, f2, t2, n2, w1, w2, w3⟩ | ⟨hr, e, w1, w2⟩
  · have hle2 := w3.1.le
    rw [hr, if_neg (show ¬ (1 : Int32) = 0 by decide), if_pos rfl, show FU = 999998 + 1 + 1 from rfl]
    show ∃ r I1_1 K1_1, fLB_X8_tellsJoined_39 (f_X8_tellsJoined d) (f_X8_tellsOne d) (f_X8_tellsLess d) (f_X8_tellsBracket d) 0 (nI o) (fL_X8_tellsJoined_39 (f_X8_tellsJoined d) (f_X8_tellsOne d) (f_X8_tellsLess d) (f_X8_tellsBracket d) 0 (nI o) (999998 + 1)) 1 0 I1 J = some (r, I1_1) ∧ _
    unfold fLB_X8_tellsJoined_39
    rw [if_neg (show ¬ (1 : Int32) ≤ 0 by decide), w3.2.1.2.2.1]
    by_cases sg : f2 < N ∧ Sg 0 (b f2)
    · obtain ⟨p1, p2, p3⟩ := lev_i sg.1 sg.2
      obtain ⟨I2, K2, x1, x2, x3, x4⟩ := iter (v := b f2) (fun I26 => some (1, I26)) (fun K3 => some K3) (J := J) hN hk hbg hs w3 (by omega) (by omega) (by omega) sg.1 p3
      rw [p1, p2, bd1_s, if_pos (show nI 0 = 0 from rfl), nm_s, cmpB_1 hN w3.2.2.1 sg.1 sg.2]
      rcases x4 with ⟨y1, e, y2, y3⟩ | ⟨y1, f', t', n', y2, y3, y4⟩
      · exact ⟨0, I2, K2, y1, x3, v3.tr x1, v4.tr x2, Or.inr ⟨rfl, e, y2, y3⟩⟩
      · exact ⟨1, I2, K2, y1, x3, v3.tr x1, v4.tr x2, Or.inl ⟨rfl, f', t', n', by omega, by omega, y4⟩⟩
    · obtain ⟨v, z1, z2⟩ := lev_o (Nat.le_trans hle2.1 hle2.2.1) sg (by omega)
      exact ⟨1, I1, K1, by rw [z1, bd1_s, if_neg (fun q => z2 (q.trans N_0))], cmpB_2 hN w3.2.2.1 (Nat.le_trans hle2.1 hle2.2.1) sg, v3, v4, Or.inl ⟨rfl, f2, t2, n2, w1, w2, w3⟩⟩
  · exact ⟨0, I1, K1, by rw [hr, if_pos rfl], cmpB_3 w2, v3, v4, Or.inr ⟨rfl, e, w1, w2⟩⟩
theorem j3_s {b : Nat → Int32} {N key bg o d hl : Nat} {m : HI → HJ → Option HI} (hs : Spec b N key bg o hl (f_X8_tellsOne d (nI o)) m) : Spec b N key bg o hl (f_X8_tellsJoined (d + 1) (nI 3) (nI o)) m := by
  intro I K J f t n h h0 hle hh
  obtain ⟨r, I1, K1, v1, v2, v3⟩ := hs I K J f t n h h0 hle hh
  refine ⟨r, I1, K1, ?_, v2, v3⟩
  rw [cj_st]
  unfold fb_X8_tellsJoined
  rw [if_pos N_3.symm, v1, bd2_s]
  rcases v3.2.2 with ⟨q, -⟩ | ⟨q, -⟩ <;> rw [q] <;> rfl
theorem all_s {b : Nat → Int32} {N key bg : Nat} (hN : N ≤ 200) (hB : ByR b N) (hk : key < 4) (hbg : 12 ≤ bg) : ∀ k o, o + k = 4 → (∀ d m, 6 * k + 2 ≤ d → 4 * k + 5 ≤ m → Spec b N key bg o (3 * o + 3) (f_X8_tellsOne d (nI o)) (f_X11_one m)) ∧ (∀ d m, 6 * k + 6 ≤ d → 4 * k + 8 ≤ m → Spec b N key bg o (3 * o) (f_X8_tellsJoined d 0 (nI o)) (f_X11_compared m)) := by
  intro k
  induction k with
  | zero =>
    intro o ho
    have h1 : ∀ d m, 6 * 0 + 2 ≤ d → 4 * 0 + 5 ≤ m → Spec b N key bg o (3 * o + 3) (f_X8_tellsOne d (nI o)) (f_X11_one m) := fun d m hd hm => by
      obtain ⟨d, rfl⟩ : ∃ g, d = g + 2 := ⟨d - 2, by omega⟩
      obtain ⟨m, rfl⟩ : ∃ g, m = g + 1 := ⟨m - 1, by omega⟩
      exact one_s hN hB hk hbg (by omega) (by omega) (fun q => absurd q (by omega)) (fun q => absurd q (by omega))
    refine ⟨h1, fun d m hd hm => ?_⟩
    obtain ⟨d, rfl⟩ : ∃ g, d = g + 1 + 1 + 1 + 1 := ⟨d - 4, by omega⟩
    obtain ⟨m, rfl⟩ : ∃ g, m = g + 1 + 1 + 1 := ⟨m - 3, by omega⟩
    have s3 := j3_s (h1 d m (by omega) (by omega))
    have s2 := lvl_s (l := 2) (ml := f_X11_product (m + 1)) (L := fL_X11_product_4 (f_X11_one m) (f_X11_product m) (f_X11_sum m) (f_X11_compared m)) (B := fLB_X11_product_4 (f_X11_one m) (f_X11_product m) (f_X11_sum m) (f_X11_compared m)) hN hk hbg (show o ≤ 4 by omega) (by omega) (by omega) (fun K J => rfl) (fun F => rfl) (fun J r K st f t q1 q2 q3 => prod_1 hN q1 q2 q3) (fun J r K st f t q1 q2 q3 => prod_2 hN q1 q2 q3) (fun J r K e q => q.prodL) s3
    have s1 := lvl_s (l := 1) (ml := f_X11_sum (m + 1 + 1)) (L := fL_X11_sum_4 (f_X11_one (m + 1)) (f_X11_product (m + 1)) (f_X11_sum (m + 1)) (f_X11_compared (m + 1))) (B := fLB_X11_sum_4 (f_X11_one (m + 1)) (f_X11_product (m + 1)) (f_X11_sum (m + 1)) (f_X11_compared (m + 1))) hN hk hbg (show o ≤ 4 by omega) (by omega) (by omega) (fun K J => rfl) (fun F => rfl) (fun J r K st f t q1 q2 q3 => sum_1 hN q1 q2 q3) (fun J r K st f t q1 q2 q3 => sum_2 hN q1 q2 q3) (fun J r K e q => q.sumL) s2
    exact cmp_s hN hk hbg (by omega) s1
  | succ k ih =>
    intro o ho
    obtain ⟨i1, i2⟩ := ih (o + 1) (by omega)
    have h1 : ∀ d m, 6 * (k + 1) + 2 ≤ d → 4 * (k + 1) + 5 ≤ m → Spec b N key bg o (3 * o + 3) (f_X8_tellsOne d (nI o)) (f_X11_one m) := fun d m hd hm => by
      obtain ⟨d, rfl⟩ : ∃ g, d = g + 2 := ⟨d - 2, by omega⟩
      obtain ⟨m, rfl⟩ : ∃ g, m = g + 1 := ⟨m - 1, by omega⟩
      exact one_s hN hB hk hbg (by omega) (by omega) (fun q => i2 d m (by omega) (by omega)) (fun q => i1 d m (by omega) (by omega))
    refine ⟨h1, fun d m hd hm => ?_⟩
    obtain ⟨d, rfl⟩ : ∃ g, d = g + 1 + 1 + 1 + 1 := ⟨d - 4, by omega⟩
    obtain ⟨m, rfl⟩ : ∃ g, m = g + 1 + 1 + 1 := ⟨m - 3, by omega⟩
    have s3 := j3_s (h1 d m (by omega) (by omega))
    have s2 := lvl_s (l := 2) (ml := f_X11_product (m + 1)) (L := fL_X11_product_4 (f_X11_one m) (f_X11_product m) (f_X11_sum m) (f_X11_compared m)) (B := fLB_X11_product_4 (f_X11_one m) (f_X11_product m) (f_X11_sum m) (f_X11_compared m)) hN hk hbg (show o ≤ 4 by omega) (by omega) (by omega) (fun K J => rfl) (fun F => rfl) (fun J r K st f t q1 q2 q3 => prod_1 hN q1 q2 q3) (fun J r K st f t q1 q2 q3 => prod_2 hN q1 q2 q3) (fun J r K e q => q.prodL) s3
    have s1 := lvl_s (l := 1) (ml := f_X11_sum (m + 1 + 1)) (L := fL_X11_sum_4 (f_X11_one (m + 1)) (f_X11_product (m + 1)) (f_X11_sum (m + 1)) (f_X11_compared (m + 1))) (B := fLB_X11_sum_4 (f_X11_one (m + 1)) (f_X11_product (m + 1)) (f_X11_sum (m + 1)) (f_X11_compared (m + 1))) hN hk hbg (show o ≤ 4 by omega) (by omega) (by omega) (fun K J => rfl) (fun F => rfl) (fun J r K st f t q1 q2 q3 => sum_1 hN q1 q2 q3) (fun J r K st f t q1 q2 q3 => sum_2 hN q1 q2 q3) (fun J r K e q => q.sumL) s2
    exact cmp_s hN hk hbg (by omega) s1

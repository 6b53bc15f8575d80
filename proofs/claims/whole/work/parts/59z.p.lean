/-! a number, and a ONE -/
def nv (b : Nat → Int32) (f : Nat) : Nat → Nat
  | 0 => 0
  | j + 1 => 10 * nv b f j + ((b (f + j)).toInt.toNat - 48)
theorem dg_n {v : Int32} (h : Dg v) : ∃ c, 48 ≤ c ∧ c ≤ 57 ∧ v = nI c ∧ v.toInt.toNat = c := by
  obtain ⟨c, h1, h2, h3⟩ := rng_lo (by omega) (by omega) h
  refine ⟨c, h1, h2, h3, ?_⟩
  rw [h3, i_nat _ (by omega)]
  rfl
theorem nv_c {b : Nat → Int32} {f j : Nat} (h : Dg (b (f + j))) : nI (nv b f j) * 10 + b (f + j) - 48 = nI (nv b f (j + 1)) := by
  obtain ⟨c, h1, h2, h3, h4⟩ := dg_n h
  show _ = nI (10 * nv b f j + ((b (f + j)).toInt.toNat - 48))
  rw [h4, h3, N_10, N_48, nI_mul, nI_add, sb _ _ (by omega)]
  congr 1
  omega
theorem nv_m {b : Nat → Int32} {f j : Nat} (h : Dg (b (f + j))) : 10 * nI (nv b f j) + b (f + j) - 48 = nI (nv b f (j + 1)) := by
  rw [← nv_c h, Int32.mul_comm]
theorem nv_lt {b : Nat → Int32} {f : Nat} : ∀ j, (∀ i, i < j → Dg (b (f + i))) → nv b f j + 1 ≤ 10 ^ j
  | 0, _ => Nat.le_refl 1
  | j + 1, h => by
    obtain ⟨c, h1, h2, h3, h4⟩ := dg_n (h j (by omega))
    have ih := nv_lt j (fun i hi => h i (by omega))
    show 10 * nv b f j + ((b (f + j)).toInt.toNat - 48) + 1 ≤ _
    rw [h4, Nat.pow_succ]
    omega
theorem cnum {b : Nat → Int32} {N f t : Nat} {J : HJ} (hN : N ≤ 200) (hft : f ≤ t) (htN : t ≤ N) (hd : ∀ i, f ≤ i → i < t → Dg (b i)) : ∀ d i fu, i + d = t - f → d < fu → ∀ I : HI, ByC I b N → I 59 6 = nI t → fL_X8_tellsNumber_22 fu (nI (nv b f i)) (nI (f + i)) I J = fB_X8_tellsNumber_58 (nI (nv b f (t - f))) I J := by
  refine fuel (L := fL_X8_tellsNumber_22) (B := fLB_X8_tellsNumber_22) (fun _ => rfl) (P := fun i g => ∀ I : HI, ByC I b N → I 59 6 = nI t → g (nI (nv b f i)) (nI (f + i)) I J = fB_X8_tellsNumber_58 (nI (nv b f (t - f))) I J) (fun g I hb h => ?_) (fun i g hi ih I hb h => ?_)
  · unfold fLB_X8_tellsNumber_22
    rw [h, if_pos (by rw [le_nn (by omega) (by omega)]; omega)]
  · unfold fLB_X8_tellsNumber_22
    rw [h, if_neg (by rw [le_nn (by omega) (by omega)]; omega), if_neg (by rw [N_200, le_nn (by omega) (by omega)]; omega), if_pos (vin_nI (by omega) (by omega)), cl_nI (by omega), hb.2 _ (by omega), nv_c (hd _ (by omega) (by omega)), nm_s, nI_1, nm_s]
    exact ih I hb h
theorem mnum {b : Nat → Int32} {N f t e : Nat} {J : HJ} (hN : N ≤ 200) (hft : f ≤ t) (htN : t ≤ N) (hd : ∀ i, f ≤ i → i < t → Dg (b i)) (he : e ≤ t - f) (he4 : e ≤ 4) (hee : e = t - f ∨ e = 4) : ∀ d i fu, i + d = e → d < fu → ∀ K : HI, ByM K b N → K 98 20 = nI f → K 98 21 = nI t → fL_X11_number_7 fu (nI (nv b f i)) (nI (f + i)) K J = fB_X11_number_46 (nI (nv b f e)) K J := by
  refine fuel (L := fL_X11_number_7) (B := fLB_X11_number_7) (fun _ => rfl) (P := fun i g => ∀ K : HI, ByM K b N → K 98 20 = nI f → K 98 21 = nI t → g (nI (nv b f i)) (nI (f + i)) K J = fB_X11_number_46 (nI (nv b f e)) K J) (fun g K hb h5 h6 => ?_) (fun i g hi ih K hb h5 h6 => ?_)
  · unfold fLB_X11_number_7
    rw [h6, h5, N_4, nI_add]
    by_cases q : t ≤ f + e
    · rw [if_pos (by rw [le_nn (by omega) (by omega)]; omega)]
    · rw [if_neg (by rw [le_nn (by omega) (by omega)]; omega), if_pos (by rw [le_nn (by omega) (by omega)]; omega)]
  · unfold fLB_X11_number_7
    rw [h6, h5, N_4, nI_add, if_neg (by rw [le_nn (by omega) (by omega)]; omega), if_neg (by rw [le_nn (by omega) (by omega)]; omega), if_pos (vin_nI (by omega) (by omega)), cl_nI (by omega), hb.2 _ (by omega), nv_m (hd _ (by omega) (by omega)), nm_s, nI_1, nm_s]
    exact ih K hb h5 h6
theorem MP.emit {b : Nat → Int32} {N o st f t : Nat} {K : HI} {J : HJ} (h : MP b N K o st f t) (hs : st < 220) (v : Int32) : f_X11_emits v K J = some (put (put K 111 st v) 98 23 (nI (st + 1))) ∧ MP b N (put (put K 111 st v) 98 23 (nI (st + 1))) o (st + 1) f t := by
  obtain ⟨m1, m2, m3, m4, m5, m6⟩ := h
  have fm : ∀ a j, ¬ (a = 98 ∧ j = 23) → ¬ (a = 111 ∧ j = st) → put (put K 111 st v) 98 23 (nI (st + 1)) a j = K a j := fun a j q1 q2 => by rw [pN (by omega), pN (by omega)]
  refine ⟨?_, ⟨by rw [fm _ _ (by omega) (by omega)]; exact m1.1, fun i hi => by rw [fm _ _ (by omega) (by omega)]; exact m1.2 i hi⟩, by rw [fm _ _ (by omega) (by omega)]; exact m2, by rw [fm _ _ (by omega) (by omega)]; exact m3, by rw [fm _ _ (by omega) (by omega)]; exact m4, pE rfl rfl, by rw [fm _ _ (by omega) (by omega)]; exact m6⟩
  unfold f_X11_emits
  rw [if_pos m6, m5, if_pos (vin_nI hs (by omega)), cl_nI (by omega), nm_s, pN (show 98 ≠ 111 ∨ 23 ≠ st by omega), m5, nI_1, nm_s]
/-- a number, on both sides -/
theorem number_s {b : Nat → Int32} {N key bg o f t n h : Nat} {I K : HI} {J : HJ} (hN : N ≤ 200) (hk : key < 4) (hbg : 12 ≤ bg) (h0 : PP b N key bg o f t n h I K) (hle : bg + n ≤ 12 + f) (hh : h < 32) (hf : f < N) (hd : Dg (b f)) : ∃ r I1 K1, f_X8_tellsNumber I J = some (r, I1) ∧ f_X11_number K J = some K1 ∧ RS b N key bg o f n (h + 1) r I K I1 K1 := by
  have hz := h0
  obtain ⟨ht, ⟨c1, c2, c3, c4, c5⟩, hM, l1⟩ := h0
  obtain ⟨m1, m2, m3, m4, m5, m6⟩ := id hM
  have hle2 := ht.le
  have run : Run b N Dg f t := by
    rcases ht with ⟨q, -⟩ | ⟨-, ⟨q, -⟩ | ⟨-, q⟩ | ⟨-, q, -⟩⟩
    · omega
    · exact absurd hd (LtDg q)
    · exact q
    · exact absurd hd q
  obtain ⟨u1, u2, u3, u4⟩ := run
  have ec : f_X8_tellsNumber I J = if t - f ≤ 4 then fB_X8_tellsNumber_58 (nI (nv b f (t - f))) I J else some (0, I) := by
    unfold f_X8_tellsNumber
    rw [c5, c4, sb _ _ (by omega)]
    by_cases q : t - f ≤ 4
    · rw [if_pos (by rw [N_4, le_nn (by omega) (by omega)]; exact q), if_pos q, nm_s]
      exact cnum hN (by omega) u2 u3 (t - f) 0 FU (by omega) (FU_ge (by omega)) I c1 c5
    · rw [if_neg (by rw [N_4, le_nn (by omega) (by omega)]; exact q), if_neg q]
  have em : ∀ e, e ≤ t - f → e ≤ 4 → (e = t - f ∨ e = 4) → f_X11_number K J = fB_X11_number_46 (nI (nv b f e)) K J := fun e e1 e2 e3 => by
    unfold f_X11_number
    rw [m2, nm_s]
    exact mnum hN (by omega) u2 u3 e1 e2 e3 e 0 FU (by omega) (FU_ge (by omega)) K m1 m2 m3
  by_cases q : t - f ≤ 4
  · have hv : nv b f (t - f) ≤ 9999 := by
      have h1 := nv_lt (b := b) (f := f) (t - f) (fun i hi => u3 _ (by omega) (by omega))
      have h2 : 10 ^ (t - f) ≤ 10 ^ 4 := Nat.pow_le_pow_right (by decide) q
      omega
    have iv : isVal (nI (nv b f (t - f))) := Or.inl (by rw [i_nat _ (by omega)]; omega)
    obtain ⟨I1, K1, a1, a2, a3, a4, a5⟩ := hz.app (J := J) hk (by omega) (by omega) (Or.inl ⟨iv, hh, rfl⟩)
    obtain ⟨f', t', I2, K2, b0, b1, b2, b3, b4, b5⟩ := a3.next (J := J) hN hk
    refine ⟨1, I2, K2, ?_, ?_, a4.tr b4, a5.tr b5, Or.inl ⟨rfl, f', t', n + 1, by omega, by omega, b3⟩⟩
    · rw [ec, if_pos q]
      unfold fB_X8_tellsNumber_58
      rw [a1, bd1_s, b1, bd1_s]
    · rw [em (t - f) (by omega) q (Or.inl rfl)]
      unfold fB_X11_number_46 fB_X11_number_70
      rw [trC_v iv] at a2
      obtain ⟨-, -, ⟨-, k2, k3, -, -, k6⟩, -⟩ := a3
      rw [a2, bd1_s, k2, k3, sb _ _ (by omega), if_neg (by rw [N_4, lt_nn (by omega) (by omega)]; omega), needs_y k6, b2, bd1_s]
  · obtain ⟨e1, e2⟩ := hM.emit (J := J) (show bg + n < 220 by omega) (nI (nv b f 4))
    refine ⟨0, I, _, ?_, ?_, FC.re, ?_, Or.inr ⟨rfl, f, c4, e2.wrong (by omega)⟩⟩
    · rw [ec, if_neg q]
    · rw [em 4 (by omega) (by omega) (Or.inr rfl)]
      unfold fB_X11_number_46 fB_X11_number_70
      rw [e1, bd1_s, e2.2.1, e2.2.2.1, sb _ _ (by omega), if_pos (by rw [N_4, lt_nn (by omega) (by omega)]; omega), needs_n e2.2.2.2.2.2, bd1_s]
    · exact ((FM.pt (by omega)).tr (FM.pt (by omega))).tr (FM.pt (by omega))
/-- the model's ONE, by the byte that stands there -/
theorem m_dg {b : Nat → Int32} {N o st f t m : Nat} {K : HI} {J : HJ} (hN : N ≤ 200) (h : MP b N K o st f t) (hf : f < N) (hd : Dg (b f)) : f_X11_one (m + 1) K J = f_X11_number K J := by
  rw [one_st]
  unfold fb_X11_one
  rw [if_pos h.2.2.2.2.2, h.2.1, mby hN h.1 (by omega), bd1_s, bat_i hf, mdg_s, bd1_s, ite_bI, if_pos hd, bd1_id]
theorem m_mi {b : Nat → Int32} {N o st f t m : Nat} {K : HI} {J : HJ} (hN : N ≤ 200) (h : MP b N K o st f t) (hf : f < N) (hd : b f = 45) (ho : o ≤ 4) : f_X11_one (m + 1) K J = fB_X11_one_52 (f_X11_one m) (f_X11_product m) (f_X11_sum m) (f_X11_compared m) (if 4 ≤ o then 0 else 1) K J := by
  rw [one_st]
  unfold fb_X11_one
  rw [if_pos h.2.2.2.2.2, h.isSign hN (by omega), h.2.1, mby hN h.1 (by omega), bd1_s, bat_i hf, hd, mdg_s, bd1_s, ite_bI, if_neg (by decide), bd1_s, ite_bI, if_pos rfl, h.2.2.2.1]
  by_cases q : 4 ≤ o
  · rw [if_pos q, if_pos (by rw [N_4, le_nn (by omega) (by omega)]; exact q)]
  · rw [if_neg q, if_neg (by rw [N_4, le_nn (by omega) (by omega)]; exact q)]
theorem m_pa {b : Nat → Int32} {N o st f t m : Nat} {K : HI} {J : HJ} (hN : N ≤ 200) (h : MP b N K o st f t) (hf : f < N) (hd : b f = 40) (ho : o ≤ 4) : f_X11_one (m + 1) K J = fB_X11_one_112 (f_X11_one m) (f_X11_product m) (f_X11_sum m) (f_X11_compared m) (if 4 ≤ o then 0 else 1) K J := by
  rw [one_st]
  unfold fb_X11_one
  rw [if_pos h.2.2.2.2.2, h.isSign hN (by omega), h.isSign hN (by omega), h.2.1, mby hN h.1 (by omega), bd1_s, bat_i hf, hd, mdg_s, bd1_s, ite_bI, if_neg (by decide), bd1_s, ite_bI, if_neg (by decide), bd1_s, ite_bI, if_pos rfl, h.2.2.2.1]
  by_cases q : 4 ≤ o
  · rw [if_pos q, if_pos (by rw [N_4, le_nn (by omega) (by omega)]; exact q)]
  · rw [if_neg q, if_neg (by rw [N_4, le_nn (by omega) (by omega)]; exact q)]
theorem m_nm {b : Nat → Int32} {N o st f t m : Nat} {K : HI} {J : HJ} (hN : N ≤ 200) (h : MP b N K o st f t) (hf : f ≤ N) (h1 : ¬ Dg (bat b N f)) (h2 : ¬ bat b N f = 45) (h3 : ¬ bat b N f = 40) : f_X11_one (m + 1) K J = bd1 (f_X11_nameHere K J) fun r63 => bd1 (f_X11_emits (10000 + r63) K J) fun I65 => if r63 < 0 then f_X11_needs 0 I65 J else f_X11_needs 1 I65 J := by
  rw [one_st]
  unfold fb_X11_one fB_X11_one_188
  rw [if_pos h.2.2.2.2.2, h.isSign hN (by omega), h.isSign hN (by omega), h.2.1, mby hN h.1 (by omega), bd1_s, mdg_s, bd1_s, ite_bI, if_neg h1, bd1_s, ite_bI, if_neg h2, bd1_s, ite_bI, if_neg h3]
  simp only [bd1_id]
theorem bad_s {b : Nat → Int32} {N o st f t m bg : Nat} {K : HI} {J : HJ} (hN : N ≤ 200) (h : MP b N K o st f t) (hf : f ≤ N) (h1 : ¬ Dg (bat b N f)) (h2 : ¬ bat b N f = 45) (h3 : ¬ bat b N f = 40) (hs : st < 220) (hbg : bg ≤ st) (hn : f_X11_nameHere K J = some (-1)) : ∃ K1, f_X11_one (m + 1) K J = some K1 ∧ Wr b N K1 f ∧ FM bg K K1 := by
  obtain ⟨e1, e2⟩ := h.emit (J := J) hs (10000 + -1)
  refine ⟨_, ?_, e2.wrong hf, ((FM.pt (by omega)).tr (FM.pt (by omega))).tr (FM.pt (by omega))⟩
  rw [m_nm hN h hf h1 h2 h3, hn, bd1_s, e1, bd1_s, if_pos (by decide), needs_n e2.2.2.2.2.2]

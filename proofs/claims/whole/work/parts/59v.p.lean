/-! the text, part by part, on both sides -/
abbrev Lt (v : Int32) : Prop := nI 97 ≤ v ∧ v ≤ nI 122
abbrev Dg (v : Int32) : Prop := nI 48 ≤ v ∧ v ≤ nI 57
def Run (b : Nat → Int32) (N : Nat) (p : Int32 → Prop) (f t : Nat) : Prop := f < t ∧ t ≤ N ∧ (∀ i, f ≤ i → i < t → p (b i)) ∧ (t = N ∨ ¬ p (b t))
def TK (b : Nat → Int32) (N f t : Nat) : Prop := (f = N ∧ t = N) ∨ (f < N ∧ ((Lt (b f) ∧ Run b N Lt f t) ∨ (Dg (b f) ∧ Run b N Dg f t) ∨ (¬ Lt (b f) ∧ ¬ Dg (b f) ∧ t = f + 1)))
def prt (b : Nat → Int32) (N f : Nat) : Int32 := if f < N then (if Lt (b f) then nI 257 else if Dg (b f) then nI 258 else b f) else nI 256
def ByC (I : HI) (b : Nat → Int32) (N : Nat) : Prop := I 59 2 = nI N ∧ ∀ i, i < N → I 69 i = b i
def ByM (I : HI) (b : Nat → Int32) (N : Nat) : Prop := I 98 19 = nI N ∧ ∀ i, i < N → I 110 i = b i
def ByR (b : Nat → Int32) (N : Nat) : Prop := N ≤ 200 ∧ ∀ i, i < N → 0 ≤ (b i).toInt ∧ (b i).toInt ≤ 255
theorem TK.le {b : Nat → Int32} {N f t : Nat} (h : TK b N f t) : f ≤ t ∧ t ≤ N ∧ (f < N → f < t) := by
  rcases h with ⟨h1, h2⟩ | ⟨h1, ⟨-, h2⟩ | ⟨-, h2⟩ | ⟨-, -, h2⟩⟩
  · omega
  · have := h2.1; have := h2.2.1; omega
  · have := h2.1; have := h2.2.1; omega
  · omega
theorem ex_run (p : Nat → Prop) (N : Nat) : ∀ d t, t + d = N → ∃ e, t ≤ e ∧ e ≤ N ∧ (∀ i, t ≤ i → i < e → p i) ∧ (e = N ∨ ¬ p e)
  | 0, t, h => ⟨t, Nat.le_refl _, by omega, fun i h1 h2 => by omega, Or.inl (by omega)⟩
  | d + 1, t, h => by
    by_cases q : p t
    · obtain ⟨e, h1, h2, h3, h4⟩ := ex_run p N d (t + 1) (by omega)
      refine ⟨e, by omega, h2, fun i q1 q2 => ?_, h4⟩
      by_cases qe : i = t
      · rw [qe]; exact q
      · exact h3 i (by omega) q2
    · exact ⟨t, Nat.le_refl _, by omega, fun i h1 h2 => by omega, Or.inr q⟩
theorem cle_s (v : Int32) : f_X8_isLetter v = some (bI (Lt v)) := wi_k (a := v) (l := 97) (h := 122) N_97 N_122
theorem cdg_s (v : Int32) : f_X8_isDigit v = some (bI (Dg v)) := wi_k (a := v) (l := 48) (h := 57) N_48 N_57
theorem mle_s (v : Int32) : f_X11_isLetter v = some (bI (Lt v)) := by
  unfold f_X11_isLetter
  rw [L_97, L_122, in_x, bd1_s, if_pos bI_zb]
theorem mdg_s (v : Int32) : f_X11_isDigit v = some (bI (Dg v)) := by
  unfold f_X11_isDigit
  rw [L_48, L_57, in_x, bd1_s, if_pos bI_zb]
def bat (b : Nat → Int32) (N i : Nat) : Int32 := if i < N then b i else -1
theorem mby {b : Nat → Int32} {N i : Nat} {I : HI} {J : HJ} (hN : N ≤ 200) (h : ByM I b N) (hi : i < 2147483648) : f_X11_byteAt (nI i) I J = some (bat b N i) := by
  unfold f_X11_byteAt bat
  rw [h.1]
  by_cases q : i < N
  · rw [if_neg (by rw [le_nn (by omega) (by omega)]; omega), if_pos (vin_nI (by omega) (by omega)), cl_nI (by omega), if_pos q, h.2 i q]
  · rw [if_pos (by rw [le_nn (by omega) (by omega)]; omega), if_neg q]
theorem bat_i {b : Nat → Int32} {N i : Nat} (h : i < N) : bat b N i = b i := if_pos h
theorem bat_o {b : Nat → Int32} {N i : Nat} (h : ¬ i < N) : bat b N i = -1 := if_neg h
theorem nLt1 : ¬ Lt (-1) := by decide
theorem nDg1 : ¬ Dg (-1) := by decide
theorem LtDg {v : Int32} (h : Lt v) : ¬ Dg v := fun q => by
  have h1 := i_le.mp h.1
  have h2 := i_le.mp q.2
  have e1 : (nI 97).toInt = 97 := by decide
  have e2 : (nI 57).toInt = 57 := by decide
  omega
theorem ByC.pt {I : HI} {b : Nat → Int32} {N j : Nat} {v : Int32} (h : ByC I b N) (hj : j ≠ 2) : ByC (put I 59 j v) b N := ⟨by rw [pN (by omega)]; exact h.1, fun i hi => by rw [pN (by omega)]; exact h.2 i hi⟩
theorem ByM.pt {I : HI} {b : Nat → Int32} {N j : Nat} {v : Int32} (h : ByM I b N) (hj : j ≠ 19) : ByM (put I 98 j v) b N := ⟨by rw [pN (by omega)]; exact h.1, fun i hi => by rw [pN (by omega)]; exact h.2 i hi⟩
theorem ByC.of {I I2 : HI} {b : Nat → Int32} {N : Nat} (h : ByC I b N) (e : ∀ a j, ¬ (a = 59 ∧ j ≠ 2) → a ≤ 59 ∨ a = 69 → I2 a j = I a j) : ByC I2 b N := ⟨by rw [e _ _ (by omega) (by omega)]; exact h.1, fun i hi => by rw [e _ _ (by omega) (by omega)]; exact h.2 i hi⟩
theorem cskip {b : Nat → Int32} {N e : Nat} {J : HJ} (hN : N ≤ 200) (he : e ≤ N) (hend : e = N ∨ ¬ b e = nI 32) : ∀ d i f, i + d = e → d < f → (∀ x, i ≤ x → x < e → b x = nI 32) → ∀ I : HI, ByC I b N → I 59 5 = nI i → ∃ I1, fL_X8_goToNext_8 f I J = fB_X8_goToNext_56 I1 J ∧ I1 59 5 = nI e ∧ ∀ a j, ¬ (a = 59 ∧ j = 5) → I1 a j = I a j := by
  refine fuel (L := fL_X8_goToNext_8) (B := fLB_X8_goToNext_8) (fun _ => rfl) (P := fun i g => (∀ x, i ≤ x → x < e → b x = nI 32) → ∀ I : HI, ByC I b N → I 59 5 = nI i → ∃ I1, g I J = fB_X8_goToNext_56 I1 J ∧ I1 59 5 = nI e ∧ ∀ a j, ¬ (a = 59 ∧ j = 5) → I1 a j = I a j) (fun g _ I hb h => ?_) (fun i g hi ih hx I hb h => ?_)
  · refine ⟨I, ?_, h, fun _ _ _ => rfl⟩
    unfold fLB_X8_goToNext_8
    rw [hb.1, h]
    by_cases q : e = N
    · rw [if_pos (by rw [le_nn (by omega) (by omega)]; omega)]
    · have q2 := hend.resolve_left q
      rw [if_neg (by rw [le_nn (by omega) (by omega)]; omega), if_neg (by rw [N_200, le_nn (by omega) (by omega)]; omega), if_pos (vin_nI (by omega) (by omega)), cl_nI (by omega), hb.2 e (by omega), N_32, if_neg q2]
  · obtain ⟨I1, h1, h2, h3⟩ := ih (fun x q1 q2 => hx x (by omega) q2) (put I 59 5 (nI (i + 1))) (hb.pt (by omega)) (pE rfl rfl)
    refine ⟨I1, ?_, h2, fun a j q => by rw [h3 a j q, pN (by omega)]⟩
    unfold fLB_X8_goToNext_8
    rw [hb.1, h, if_neg (by rw [le_nn (by omega) (by omega)]; omega), if_neg (by rw [N_200, le_nn (by omega) (by omega)]; omega), if_pos (vin_nI (by omega) (by omega)), cl_nI (by omega), hb.2 i (by omega), N_32, if_pos (hx i (Nat.le_refl _) hi), nI_1, nm_s]
    exact h1
theorem crunL {b : Nat → Int32} {N e : Nat} {J : HJ} (hN : N ≤ 200) (he : e ≤ N) (hend : e = N ∨ ¬ Lt (b e)) : ∀ d i f, i + d = e → d < f → (∀ x, i ≤ x → x < e → Lt (b x)) → ∀ I : HI, ByC I b N → I 59 6 = nI i → ∃ I1, fL_X8_goToNext_134 f I J = some I1 ∧ I1 59 6 = nI e ∧ ∀ a j, ¬ (a = 59 ∧ j = 6) → I1 a j = I a j := by
  refine fuel (L := fL_X8_goToNext_134) (B := fLB_X8_goToNext_134) (fun _ => rfl) (P := fun i g => (∀ x, i ≤ x → x < e → Lt (b x)) → ∀ I : HI, ByC I b N → I 59 6 = nI i → ∃ I1, g I J = some I1 ∧ I1 59 6 = nI e ∧ ∀ a j, ¬ (a = 59 ∧ j = 6) → I1 a j = I a j) (fun g _ I hb h => ?_) (fun i g hi ih hx I hb h => ?_)
  · refine ⟨I, ?_, h, fun _ _ _ => rfl⟩
    unfold fLB_X8_goToNext_134
    rw [hb.1, h]
    by_cases q : e = N
    · rw [if_pos (by rw [le_nn (by omega) (by omega)]; omega)]
    · have q2 := hend.resolve_left q
      rw [if_neg (by rw [le_nn (by omega) (by omega)]; omega), if_neg (by rw [N_200, le_nn (by omega) (by omega)]; omega), if_pos (vin_nI (by omega) (by omega)), cl_nI (by omega), hb.2 e (by omega), cle_s, bd1_s, ite_bI, if_neg q2]
  · obtain ⟨I1, h1, h2, h3⟩ := ih (fun x q1 q2 => hx x (by omega) q2) (put I 59 6 (nI (i + 1))) (hb.pt (by omega)) (pE rfl rfl)
    refine ⟨I1, ?_, h2, fun a j q => by rw [h3 a j q, pN (by omega)]⟩
    unfold fLB_X8_goToNext_134
    rw [hb.1, h, if_neg (by rw [le_nn (by omega) (by omega)]; omega), if_neg (by rw [N_200, le_nn (by omega) (by omega)]; omega), if_pos (vin_nI (by omega) (by omega)), cl_nI (by omega), hb.2 i (by omega), cle_s, bd1_s, ite_bI, if_pos (hx i (Nat.le_refl _) hi), nI_1, nm_s]
    exact h1
theorem crunD {b : Nat → Int32} {N e : Nat} {J : HJ} (hN : N ≤ 200) (he : e ≤ N) (hend : e = N ∨ ¬ Dg (b e)) : ∀ d i f, i + d = e → d < f → (∀ x, i ≤ x → x < e → Dg (b x)) → ∀ I : HI, ByC I b N → I 59 6 = nI i → ∃ I1, fL_X8_goToNext_197 f I J = some I1 ∧ I1 59 6 = nI e ∧ ∀ a j, ¬ (a = 59 ∧ j = 6) → I1 a j = I a j := by
  refine fuel (L := fL_X8_goToNext_197) (B := fLB_X8_goToNext_197) (fun _ => rfl) (P := fun i g => (∀ x, i ≤ x → x < e → Dg (b x)) → ∀ I : HI, ByC I b N → I 59 6 = nI i → ∃ I1, g I J = some I1 ∧ I1 59 6 = nI e ∧ ∀ a j, ¬ (a = 59 ∧ j = 6) → I1 a j = I a j) (fun g _ I hb h => ?_) (fun i g hi ih hx I hb h => ?_)
  · refine ⟨I, ?_, h, fun _ _ _ => rfl⟩
    unfold fLB_X8_goToNext_197
    rw [hb.1, h]
    by_cases q : e = N
    · rw [if_pos (by rw [le_nn (by omega) (by omega)]; omega)]
    · have q2 := hend.resolve_left q
      rw [if_neg (by rw [le_nn (by omega) (by omega)]; omega), if_neg (by rw [N_200, le_nn (by omega) (by omega)]; omega), if_pos (vin_nI (by omega) (by omega)), cl_nI (by omega), hb.2 e (by omega), cdg_s, bd1_s, ite_bI, if_neg q2]
  · obtain ⟨I1, h1, h2, h3⟩ := ih (fun x q1 q2 => hx x (by omega) q2) (put I 59 6 (nI (i + 1))) (hb.pt (by omega)) (pE rfl rfl)
    refine ⟨I1, ?_, h2, fun a j q => by rw [h3 a j q, pN (by omega)]⟩
    unfold fLB_X8_goToNext_197
    rw [hb.1, h, if_neg (by rw [le_nn (by omega) (by omega)]; omega), if_neg (by rw [N_200, le_nn (by omega) (by omega)]; omega), if_pos (vin_nI (by omega) (by omega)), cl_nI (by omega), hb.2 i (by omega), cdg_s, bd1_s, ite_bI, if_pos (hx i (Nat.le_refl _) hi), nI_1, nm_s]
    exact h1
/-- the class at a part's first byte -/
theorem cpart {b : Nat → Int32} {N f t : Nat} {I : HI} {J : HJ} (hN : N ≤ 200) (ht : TK b N f t) (hb : ByC I b N) (h : I 59 5 = nI f) : ∃ I1, fB_X8_goToNext_56 I J = some I1 ∧ I1 59 5 = nI f ∧ I1 59 6 = nI t ∧ I1 59 4 = prt b N f ∧ ∀ a j, ¬ (a = 59 ∧ 4 ≤ j ∧ j ≤ 6) → I1 a j = I a j := by
  have hle := ht.le
  rcases ht with ⟨h1, h2⟩ | ⟨h1, hk⟩
  · refine ⟨put (put I 59 4 (nI 256)) 59 6 (nI f), ?_, by rw [pN (by omega), pN (by omega)]; exact h, by rw [pE rfl rfl, h1, h2], by rw [pN (by omega), pE rfl rfl]; unfold prt; rw [if_neg (by omega)], fun a j q => by rw [pN (by omega), pN (by omega)]⟩
    unfold fB_X8_goToNext_56 fB_X8_goToNext_84
    rw [h, hb.1, if_neg (by rw [N_0, lt_nn (by omega) (by omega)]; omega), if_pos (by rw [le_nn (by omega) (by omega)]; omega), nm_s, pN (show 59 ≠ 59 ∨ 5 ≠ 4 by omega), h, nm_s, N_256]
  · have pre : fB_X8_goToNext_56 I J = bd1 (f_X8_isLetter (b f)) fun r30 => if r30 = 0 then (bd1 (f_X8_isDigit (b f)) fun r32 => if r32 = 0 then some (put (put I 59 6 (nI (f + 1))) 59 4 (b f)) else fL_X8_goToNext_197 FU (put (put I 59 6 (nI (f + 1))) 59 4 (nI 258)) J) else fL_X8_goToNext_134 FU (put (put I 59 6 (nI (f + 1))) 59 4 (nI 257)) J := by
      unfold fB_X8_goToNext_56
      rw [h, hb.1, if_neg (by rw [N_0, lt_nn (by omega) (by omega)]; omega), if_neg (by rw [le_nn (by omega) (by omega)]; omega), if_pos (by rw [N_200, lt_nn (by omega) (by omega)]; omega), if_pos (vin_nI (by omega) (by omega)), cl_nI (by omega), hb.2 f h1, nI_1, nm_s, nm_s, N_258, N_257]
      rfl
    rw [pre, cle_s, bd1_s, ite_bI]
    rcases hk with ⟨k1, k2⟩ | ⟨k1, k2⟩ | ⟨k1, k2, k3⟩
    · rw [if_pos k1]
      obtain ⟨I1, w1, w2, w3⟩ := crunL (J := J) hN k2.2.1 k2.2.2.2 (t - (f + 1)) (f + 1) FU (by have := k2.1; omega) (FU_ge (by omega)) (fun x q1 q2 => k2.2.2.1 x (by omega) q2) (put (put I 59 6 (nI (f + 1))) 59 4 (nI 257)) ((hb.pt (by omega)).pt (by omega)) (by rw [pN (by omega), pE rfl rfl])
      refine ⟨I1, w1, by rw [w3 _ _ (by omega), pN (by omega), pN (by omega)]; exact h, w2, ?_, fun a j q => by rw [w3 a j (by omega), pN (by omega), pN (by omega)]⟩
      rw [w3 _ _ (by omega), pE rfl rfl]
      unfold prt
      rw [if_pos h1, if_pos k1]
    · have nl : ¬ Lt (b f) := fun q => LtDg q k1
      rw [if_neg nl, cdg_s, bd1_s, ite_bI, if_pos k1]
      obtain ⟨I1, w1, w2, w3⟩ := crunD (J := J) hN k2.2.1 k2.2.2.2 (t - (f + 1)) (f + 1) FU (by have := k2.1; omega) (FU_ge (by omega)) (fun x q1 q2 => k2.2.2.1 x (by omega) q2) (put (put I 59 6 (nI (f + 1))) 59 4 (nI 258)) ((hb.pt (by omega)).pt (by omega)) (by rw [pN (by omega), pE rfl rfl])
      refine ⟨I1, w1, by rw [w3 _ _ (by omega), pN (by omega), pN (by omega)]; exact h, w2, ?_, fun a j q => by rw [w3 a j (by omega), pN (by omega), pN (by omega)]⟩
      rw [w3 _ _ (by omega), pE rfl rfl]
      unfold prt
      rw [if_pos h1, if_neg nl, if_pos k1]
    · rw [if_neg k1, cdg_s, bd1_s, ite_bI, if_neg k2]
      refine ⟨put (put I 59 6 (nI (f + 1))) 59 4 (b f), rfl, by rw [pN (by omega), pN (by omega)]; exact h, by rw [pN (by omega), pE rfl rfl, k3], ?_, fun a j q => by rw [pN (by omega), pN (by omega)]⟩
      rw [pE rfl rfl]
      unfold prt
      rw [if_pos h1, if_neg k1, if_neg k2]
/-- the model's loops -/
theorem mrunW {b : Nat → Int32} {N e : Nat} {J : HJ} (hN : N ≤ 200) (he : e ≤ N) (hend : e = N ∨ ¬ Lt (b e)) : ∀ d i f, i + d = e → d < f → (∀ x, i ≤ x → x < e → Lt (b x)) → ∀ I : HI, ByM I b N → I 98 21 = nI i → ∃ I1, fL_X11_next_86 f 1 0 I J = some I1 ∧ I1 98 21 = nI e ∧ ∀ a j, ¬ (a = 98 ∧ j = 21) → I1 a j = I a j := by
  refine fuel (L := fL_X11_next_86) (B := fLB_X11_next_86) (fun _ => rfl) (P := fun i g => (∀ x, i ≤ x → x < e → Lt (b x)) → ∀ I : HI, ByM I b N → I 98 21 = nI i → ∃ I1, g 1 0 I J = some I1 ∧ I1 98 21 = nI e ∧ ∀ a j, ¬ (a = 98 ∧ j = 21) → I1 a j = I a j) (fun g _ I hb h => ?_) (fun i g hi ih hx I hb h => ?_)
  · refine ⟨I, ?_, h, fun _ _ _ => rfl⟩
    have nl : ¬ Lt (bat b N e) := by
      by_cases q : e < N
      · rw [bat_i q]; exact hend.resolve_left (by omega)
      · rw [bat_o q]; exact nLt1
    unfold fLB_X11_next_86 fB_X11_next_104
    rw [if_neg (by decide), h, mby hN hb (by omega), bd1_s, mle_s, bd1_s, ite_bI, if_neg nl, if_pos rfl]
  · obtain ⟨I1, h1, h2, h3⟩ := ih (fun x q1 q2 => hx x (by omega) q2) (put I 98 21 (nI (i + 1))) (hb.pt (by omega)) (pE rfl rfl)
    refine ⟨I1, ?_, h2, fun a j q => by rw [h3 a j q, pN (by omega)]⟩
    unfold fLB_X11_next_86 fB_X11_next_122
    rw [if_neg (by decide), h, mby hN hb (by omega), bd1_s, mle_s, bd1_s, ite_bI, bat_i (by omega), if_pos (hx i (Nat.le_refl _) hi), nI_1, nm_s]
    exact h1
theorem mrunN {b : Nat → Int32} {N e : Nat} {J : HJ} (hN : N ≤ 200) (he : e ≤ N) (hend : e = N ∨ ¬ Dg (b e)) : ∀ d i f, i + d = e → d < f → (∀ x, i ≤ x → x < e → Dg (b x)) → ∀ I : HI, ByM I b N → I 98 21 = nI i → ∃ I1, fL_X11_next_86 f 0 1 I J = some I1 ∧ I1 98 21 = nI e ∧ ∀ a j, ¬ (a = 98 ∧ j = 21) → I1 a j = I a j := by
  refine fuel (L := fL_X11_next_86) (B := fLB_X11_next_86) (fun _ => rfl) (P := fun i g => (∀ x, i ≤ x → x < e → Dg (b x)) → ∀ I : HI, ByM I b N → I 98 21 = nI i → ∃ I1, g 0 1 I J = some I1 ∧ I1 98 21 = nI e ∧ ∀ a j, ¬ (a = 98 ∧ j = 21) → I1 a j = I a j) (fun g _ I hb h => ?_) (fun i g hi ih hx I hb h => ?_)
  · refine ⟨I, ?_, h, fun _ _ _ => rfl⟩
    have nl : ¬ Dg (bat b N e) := by
      by_cases q : e < N
      · rw [bat_i q]; exact hend.resolve_left (by omega)
      · rw [bat_o q]; exact nDg1
    unfold fLB_X11_next_86 fB_X11_next_104
    rw [if_pos rfl, if_neg (by decide), h, mby hN hb (by omega), bd1_s, mdg_s, bd1_s, ite_bI, if_neg nl]
  · obtain ⟨I1, h1, h2, h3⟩ := ih (fun x q1 q2 => hx x (by omega) q2) (put I 98 21 (nI (i + 1))) (hb.pt (by omega)) (pE rfl rfl)
    refine ⟨I1, ?_, h2, fun a j q => by rw [h3 a j q, pN (by omega)]⟩
    unfold fLB_X11_next_86 fB_X11_next_104 fB_X11_next_122
    rw [if_pos rfl, if_neg (by decide), h, mby hN hb (by omega), bd1_s, mdg_s, bd1_s, ite_bI, bat_i (by omega), if_pos (hx i (Nat.le_refl _) hi), nI_1, nm_s]
    exact h1
theorem mrun0 {f : Nat} {I : HI} {J : HJ} : fL_X11_next_86 (f + 1) 0 0 I J = some I := by
  show fLB_X11_next_86 _ 0 0 I J = _
  unfold fLB_X11_next_86 fB_X11_next_104
  rw [if_pos rfl, if_pos rfl]
/-- what the model does at a part's first byte -/
def mPart (I : HI) (J : HJ) : Option HI := bd1 (f_X11_byteAt (I 98 20) I J) fun r35 => bd1 (f_X11_isLetter r35) fun r37 => bd1 (f_X11_byteAt (I 98 20) I J) fun r39 => bd1 (f_X11_isDigit r39) fun r41 => if (I 98 19) ≤ (I 98 20) then (fB_X11_next_83 r37 r41 (I 98 20) I J) else (fB_X11_next_83 r37 r41 ((I 98 20) + 1) I J)
theorem mskip {b : Nat → Int32} {N e : Nat} {J : HJ} (hN : N ≤ 200) (he : e ≤ N) (hend : e = N ∨ ¬ b e = nI 32) : ∀ d i f, i + d = e → d < f → (∀ x, i ≤ x → x < e → b x = nI 32) → ∀ I : HI, ByM I b N → I 98 20 = nI i → ∃ I1, fL_X11_next_8 f I J = mPart I1 J ∧ I1 98 20 = nI e ∧ ∀ a j, ¬ (a = 98 ∧ j = 20) → I1 a j = I a j := by
  refine fuel (L := fL_X11_next_8) (B := fLB_X11_next_8) (fun _ => rfl) (P := fun i g => (∀ x, i ≤ x → x < e → b x = nI 32) → ∀ I : HI, ByM I b N → I 98 20 = nI i → ∃ I1, g I J = mPart I1 J ∧ I1 98 20 = nI e ∧ ∀ a j, ¬ (a = 98 ∧ j = 20) → I1 a j = I a j) (fun g _ I hb h => ?_) (fun i g hi ih hx I hb h => ?_)
  · refine ⟨I, ?_, h, fun _ _ _ => rfl⟩
    have nb : ¬ bat b N e = 32 := by
      by_cases q : e < N
      · rw [bat_i q]; exact hend.resolve_left (by omega)
      · rw [bat_o q]; decide
    unfold fLB_X11_next_8 mPart
    rw [h, mby hN hb (by omega), bd1_s, if_neg nb]
  · obtain ⟨I1, h1, h2, h3⟩ := ih (fun x q1 q2 => hx x (by omega) q2) (put I 98 20 (nI (i + 1))) (hb.pt (by omega)) (pE rfl rfl)
    refine ⟨I1, ?_, h2, fun a j q => by rw [h3 a j q, pN (by omega)]⟩
    unfold fLB_X11_next_8
    rw [h, mby hN hb (by omega), bd1_s, bat_i (by omega), hx i (Nat.le_refl _) hi, if_pos N_32.symm, nI_1, nm_s]
    exact h1
theorem mpart {b : Nat → Int32} {N f t : Nat} {I : HI} {J : HJ} (hN : N ≤ 200) (ht : TK b N f t) (hb : ByM I b N) (h : I 98 20 = nI f) : ∃ I1, mPart I J = some I1 ∧ I1 98 20 = nI f ∧ I1 98 21 = nI t ∧ ∀ a j, ¬ (a = 98 ∧ j = 21) → I1 a j = I a j := by
  have hle := ht.le
  unfold mPart
  rw [h, mby hN hb (by omega), bd1_s, mle_s, bd1_s, bd1_s, mdg_s, bd1_s, hb.1]
  rcases ht with ⟨h1, h2⟩ | ⟨h1, hk⟩
  · rw [bat_o (by omega), if_pos (by rw [le_nn (by omega) (by omega)]; omega), bI_f nLt1, bI_f nDg1]
    unfold fB_X11_next_83
    rw [nm_s, show FU = 999999 + 1 from rfl, mrun0]
    exact ⟨_, rfl, by rw [pN (by omega)]; exact h, by rw [pE rfl rfl, h1, h2], fun a j q => by rw [pN (by omega)]⟩
  · rw [bat_i h1, if_neg (by rw [le_nn (by omega) (by omega)]; omega), nI_1]
    unfold fB_X11_next_83
    rw [nm_s]
    rcases hk with ⟨k1, k2⟩ | ⟨k1, k2⟩ | ⟨k1, k2, k3⟩
    · rw [bI_t k1, bI_f (LtDg k1)]
      obtain ⟨I1, w1, w2, w3⟩ := mrunW (J := J) hN k2.2.1 k2.2.2.2 (t - (f + 1)) (f + 1) FU (by have := k2.1; omega) (FU_ge (by omega)) (fun x q1 q2 => k2.2.2.1 x (by omega) q2) (put I 98 21 (nI (f + 1))) (hb.pt (by omega)) (pE rfl rfl)
      exact ⟨I1, w1, by rw [w3 _ _ (by omega), pN (by omega)]; exact h, w2, fun a j q => by rw [w3 a j q, pN (by omega)]⟩
    · rw [bI_f (fun q => LtDg q k1), bI_t k1]
      obtain ⟨I1, w1, w2, w3⟩ := mrunN (J := J) hN k2.2.1 k2.2.2.2 (t - (f + 1)) (f + 1) FU (by have := k2.1; omega) (FU_ge (by omega)) (fun x q1 q2 => k2.2.2.1 x (by omega) q2) (put I 98 21 (nI (f + 1))) (hb.pt (by omega)) (pE rfl rfl)
      exact ⟨I1, w1, by rw [w3 _ _ (by omega), pN (by omega)]; exact h, w2, fun a j q => by rw [w3 a j q, pN (by omega)]⟩
    · rw [bI_f k1, bI_f k2, show FU = 999999 + 1 from rfl, mrun0]
      exact ⟨_, rfl, by rw [pN (by omega)]; exact h, by rw [pE rfl rfl, k3], fun a j q => by rw [pN (by omega)]⟩
theorem ex_tk (b : Nat → Int32) (N f : Nat) (hf : f ≤ N) : ∃ t, TK b N f t := by
  by_cases h : f < N
  · by_cases h1 : Lt (b f)
    · obtain ⟨e, e1, e2, e3, e4⟩ := ex_run (fun i => Lt (b i)) N (N - (f + 1)) (f + 1) (by omega)
      exact ⟨e, Or.inr ⟨h, Or.inl ⟨h1, by omega, e2, fun i q1 q2 => by
        by_cases q : i = f
        · rw [q]; exact h1
        · exact e3 i (by omega) q2, e4⟩⟩⟩
    · by_cases h2 : Dg (b f)
      · obtain ⟨e, e1, e2, e3, e4⟩ := ex_run (fun i => Dg (b i)) N (N - (f + 1)) (f + 1) (by omega)
        exact ⟨e, Or.inr ⟨h, Or.inr (Or.inl ⟨h2, by omega, e2, fun i q1 q2 => by
          by_cases q : i = f
          · rw [q]; exact h2
          · exact e3 i (by omega) q2, e4⟩)⟩⟩
      · exact ⟨f + 1, Or.inr ⟨h, Or.inr (Or.inr ⟨h1, h2, rfl⟩)⟩⟩
  · exact ⟨N, Or.inl ⟨by omega, rfl⟩⟩
/-- the next part, on both sides -/
theorem nxt_s {b : Nat → Int32} {N t : Nat} (hN : N ≤ 200) (ht : t ≤ N) : ∃ f' t', t ≤ f' ∧ TK b N f' t' ∧ (∀ (I : HI) (J : HJ), ByC I b N → I 59 6 = nI t → ∃ I1, f_X8_goToNext I J = some I1 ∧ I1 59 5 = nI f' ∧ I1 59 6 = nI t' ∧ I1 59 4 = prt b N f' ∧ ∀ a j, ¬ (a = 59 ∧ 4 ≤ j ∧ j ≤ 6) → I1 a j = I a j) ∧ ∀ (I : HI) (J : HJ), ByM I b N → I 98 21 = nI t → ∃ I1, f_X11_next I J = some I1 ∧ I1 98 20 = nI f' ∧ I1 98 21 = nI t' ∧ ∀ a j, ¬ (a = 98 ∧ 20 ≤ j ∧ j ≤ 21) → I1 a j = I a j := by
  obtain ⟨e, e1, e2, e3, e4⟩ := ex_run (fun i => b i = nI 32) N (N - t) t (by omega)
  obtain ⟨t', ht'⟩ := ex_tk b N e e2
  refine ⟨e, t', e1, ht', fun I J hb h => ?_, fun I J hb h => ?_⟩
  · obtain ⟨I1, a1, a2, a3⟩ := cskip (J := J) hN e2 e4 (e - t) t FU (by omega) (FU_ge (by omega)) e3 (put I 59 5 (nI t)) (hb.pt (by omega)) (pE rfl rfl)
    have hb1 : ByC I1 b N := ⟨by rw [a3 _ _ (by omega), pN (by omega)]; exact hb.1, fun i hi => by rw [a3 _ _ (by omega), pN (by omega)]; exact hb.2 i hi⟩
    obtain ⟨I2, c1, c2, c3, c4, c5⟩ := cpart (J := J) hN ht' hb1 a2
    refine ⟨I2, ?_, c2, c3, c4, fun a j q => by rw [c5 a j q, a3 a j (by omega), pN (by omega)]⟩
    unfold f_X8_goToNext
    rw [h, nm_s, a1]
    exact c1
  · obtain ⟨I1, a1, a2, a3⟩ := mskip (J := J) hN e2 e4 (e - t) t FU (by omega) (FU_ge (by omega)) e3 (put I 98 20 (nI t)) (hb.pt (by omega)) (pE rfl rfl)
    have hb1 : ByM I1 b N := ⟨by rw [a3 _ _ (by omega), pN (by omega)]; exact hb.1, fun i hi => by rw [a3 _ _ (by omega), pN (by omega)]; exact hb.2 i hi⟩
    obtain ⟨I2, c1, c2, c3, c5⟩ := mpart (J := J) hN ht' hb1 a2
    refine ⟨I2, ?_, c2, c3, fun a j q => by rw [c5 a j (by omega), a3 a j (by omega), pN (by omega)]⟩
    unfold f_X11_next
    rw [h, nm_s, a1]
    exact c1

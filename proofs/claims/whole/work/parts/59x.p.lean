/-! reading a text: the pictures of both sides, the small steps -/
theorem putS {I : HI} {a j : Nat} {v : Int32} (h : I a j = v) : put I a j v = I := by
  funext x y
  rw [put_ap]
  by_cases q : x = a ∧ y = j
  · rw [if_pos q, q.1, q.2]; exact h.symm
  · rw [if_neg q]
theorem bd1_id {α : Type} (m : Option α) : (bd1 m fun r => some r) = m := by
  cases m <;> rfl
def CP (b : Nat → Int32) (N : Nat) (I : HI) (key f t : Nat) : Prop := ByC I b N ∧ I 59 3 = nI key ∧ I 59 4 = prt b N f ∧ I 59 5 = nI f ∧ I 59 6 = nI t
def MP (b : Nat → Int32) (N : Nat) (K : HI) (o st f t : Nat) : Prop := ByM K b N ∧ K 98 20 = nI f ∧ K 98 21 = nI t ∧ K 98 22 = nI o ∧ K 98 23 = nI st ∧ K 98 25 = 0
def Cls (I K : HI) (key bg n h : Nat) : Prop := I 66 key = nI n ∧ hgt (I (62 + key)) n 0 h ∧ ∀ i, i < n → K 111 (bg + i) = trC (I (62 + key) i)
def PP (b : Nat → Int32) (N key bg o f t n h : Nat) (I K : HI) : Prop := TK b N f t ∧ CP b N I key f t ∧ MP b N K o (bg + n) f t ∧ Cls I K key bg n h
def FC (key : Nat) (I I1 : HI) : Prop := ∀ a j, a ≠ 62 + key → ¬ (a = 59 ∧ 4 ≤ j ∧ j ≤ 6) → ¬ (a = 66 ∧ j = key) → I1 a j = I a j
def FM (bg : Nat) (K K1 : HI) : Prop := ∀ a j, ¬ (a = 98 ∧ 20 ≤ j ∧ j ≤ 25 ∧ j ≠ 24) → ¬ (a = 111 ∧ bg ≤ j) → K1 a j = K a j
def Wr (b : Nat → Int32) (N : Nat) (K : HI) (e : Nat) : Prop := ByM K b N ∧ K 98 20 = nI e ∧ K 98 25 = 1 ∧ e ≤ N
def Bad (b : Nat → Int32) (N : Nat) (I1 K1 : HI) : Prop := ∃ e, I1 59 5 = nI e ∧ Wr b N K1 e
theorem FC.re {key : Nat} {I : HI} : FC key I I := fun _ _ _ _ _ => Eq.refl _
theorem FM.re {bg : Nat} {K : HI} : FM bg K K := fun _ _ _ _ => Eq.refl _
theorem FC.tr {key : Nat} {I I1 I2 : HI} (h1 : FC key I I1) (h2 : FC key I1 I2) : FC key I I2 := fun a j q1 q2 q3 => (h2 a j q1 q2 q3).trans (h1 a j q1 q2 q3)
theorem FM.tr {bg : Nat} {K K1 K2 : HI} (h1 : FM bg K K1) (h2 : FM bg K1 K2) : FM bg K K2 := fun a j q1 q2 => (h2 a j q1 q2).trans (h1 a j q1 q2)
theorem FC.pt {key a j : Nat} {v : Int32} {I : HI} (h : a = 62 + key ∨ (a = 59 ∧ 4 ≤ j ∧ j ≤ 6) ∨ (a = 66 ∧ j = key)) : FC key I (put I a j v) := fun x y q1 q2 q3 => pN (by omega)
theorem FM.pt {bg a j : Nat} {v : Int32} {K : HI} (h : (a = 98 ∧ 20 ≤ j ∧ j ≤ 25 ∧ j ≠ 24) ∨ (a = 111 ∧ bg ≤ j)) : FM bg K (put K a j v) := fun x y q1 q2 => pN (by omega)
/-- the model when it is wrong does nothing more -/
theorem Wr.needs {b : Nat → Int32} {N e : Nat} {K : HI} {J : HJ} (x : Int32) (h : Wr b N K e) : f_X11_needs x K J = some K := by
  unfold f_X11_needs fB_X11_needs_12 fB_X11_needs_17
  rw [h.2.2.1, if_neg (by decide), if_pos (by decide), nm_s, pE rfl rfl, if_neg (by decide), putS h.2.2.1]
theorem Wr.emits {b : Nat → Int32} {N e : Nat} {K : HI} {J : HJ} (x : Int32) (h : Wr b N K e) : f_X11_emits x K J = some K := by
  unfold f_X11_emits
  rw [h.2.2.1, if_neg (by decide)]
theorem Wr.isSign {b : Nat → Int32} {N e : Nat} {K : HI} {J : HJ} (x : Int32) (h : Wr b N K e) : f_X11_isSign x K J = some 0 := by
  unfold f_X11_isSign
  rw [h.2.2.1, if_neg (by decide)]
theorem Wr.put22 {b : Nat → Int32} {N e : Nat} {K : HI} {v : Int32} (h : Wr b N K e) : Wr b N (put K 98 22 v) e := ⟨h.1.pt (by omega), by rw [pN (by omega)]; exact h.2.1, by rw [pN (by omega)]; exact h.2.2.1, h.2.2.2⟩
theorem one_st {d : Nat} : f_X11_one (d + 1) = fb_X11_one (f_X11_one d) (f_X11_product d) (f_X11_sum d) (f_X11_compared d) := rfl
theorem prod_st {d : Nat} : f_X11_product (d + 1) = fb_X11_product (f_X11_one d) (f_X11_product d) (f_X11_sum d) (f_X11_compared d) := rfl
theorem sum_st {d : Nat} : f_X11_sum (d + 1) = fb_X11_sum (f_X11_one d) (f_X11_product d) (f_X11_sum d) (f_X11_compared d) := rfl
theorem cmp_st {d : Nat} : f_X11_compared (d + 1) = fb_X11_compared (f_X11_one d) (f_X11_product d) (f_X11_sum d) (f_X11_compared d) := rfl
theorem Wr.one {b : Nat → Int32} {N e d : Nat} {K : HI} {J : HJ} (h : Wr b N K e) : f_X11_one (d + 1) K J = some K := by
  rw [one_st]
  unfold fb_X11_one
  rw [h.2.2.1, if_neg (by decide)]
theorem Wr.prodL {b : Nat → Int32} {N e : Nat} {K : HI} {J : HJ} {g1 g2 g3 g4 r : HI → HJ → Option HI} (h : Wr b N K e) : fLB_X11_product_4 g1 g2 g3 g4 r K J = some K := by
  unfold fLB_X11_product_4
  rw [h.isSign, bd1_s, if_pos rfl, h.isSign, bd1_s, if_pos rfl, h.isSign, bd1_s, if_pos rfl]
theorem Wr.sumL {b : Nat → Int32} {N e : Nat} {K : HI} {J : HJ} {g1 g2 g3 g4 r : HI → HJ → Option HI} (h : Wr b N K e) : fLB_X11_sum_4 g1 g2 g3 g4 r K J = some K := by
  unfold fLB_X11_sum_4
  rw [h.isSign, bd1_s, if_pos rfl, h.isSign, bd1_s, if_pos rfl]
theorem Wr.prod {b : Nat → Int32} {N e d : Nat} {K : HI} {J : HJ} (h : Wr b N K e) : f_X11_product (d + 2) K J = some K := by
  rw [prod_st]
  unfold fb_X11_product
  rw [h.one, bd1_s]
  exact h.prodL
theorem Wr.sum {b : Nat → Int32} {N e d : Nat} {K : HI} {J : HJ} (h : Wr b N K e) : f_X11_sum (d + 3) K J = some K := by
  rw [sum_st]
  unfold fb_X11_sum
  rw [h.prod, bd1_s]
  exact h.sumL
theorem Wr.cmp {b : Nat → Int32} {N e d : Nat} {K : HI} {J : HJ} (h : Wr b N K e) : f_X11_compared (d + 4) K J = some K := by
  rw [cmp_st]
  unfold fb_X11_compared
  rw [h.sum, bd1_s, h.isSign, bd1_s, if_pos rfl, h.isSign, bd1_s, if_pos rfl, h.isSign, bd1_s, if_pos rfl]
/-- the model when it is not wrong -/
theorem needs_y {K : HI} {J : HJ} (h : K 98 25 = 0) : f_X11_needs 1 K J = f_X11_next K J := by
  unfold f_X11_needs fB_X11_needs_17
  rw [if_pos h, if_neg (by decide), if_pos (by decide), nm_s, pE rfl rfl, if_pos rfl, putS h, bd1_id]
theorem needs_n {K : HI} {J : HJ} (h : K 98 25 = 0) : f_X11_needs 0 K J = some (put K 98 25 1) := by
  unfold f_X11_needs fB_X11_needs_12 fB_X11_needs_17
  rw [if_pos h, if_pos rfl, if_pos (by decide), nm_s, pE rfl rfl, if_neg (by decide)]
theorem MP.wrong {b : Nat → Int32} {N o st f t : Nat} {K : HI} (h : MP b N K o st f t) (hf : f ≤ N) : Wr b N (put K 98 25 1) f := ⟨h.1.pt (by omega), by rw [pN (by omega)]; exact h.2.1, pE rfl rfl, hf⟩
theorem MP.isSign {b : Nat → Int32} {N o st f t : Nat} {K : HI} {J : HJ} (hN : N ≤ 200) (h : MP b N K o st f t) (hf : f ≤ N) (x : Int32) : f_X11_isSign x K J = some (bI (bat b N f = x)) := by
  unfold f_X11_isSign
  rw [if_pos h.2.2.2.2.2, h.2.1, mby hN h.1 (by omega), bd1_s]
  unfold bI
  by_cases q : bat b N f = x
  · rw [if_pos q, if_pos q]
  · rw [if_neg q, if_neg q]
theorem PP.next {b : Nat → Int32} {N key bg o f t n h : Nat} {I K : HI} {J : HJ} (hN : N ≤ 200) (hk : key < 4) (h0 : PP b N key bg o f t n h I K) : ∃ f' t' I1 K1, t ≤ f' ∧ f_X8_goToNext I J = some I1 ∧ f_X11_next K J = some K1 ∧ PP b N key bg o f' t' n h I1 K1 ∧ FC key I I1 ∧ FM bg K K1 := by
  obtain ⟨ht, ⟨c1, c2, c3, c4, c5⟩, ⟨m1, m2, m3, m4, m5, m6⟩, ⟨l1, l2, l3⟩⟩ := h0
  obtain ⟨f', t', g1, g2, g3, g4⟩ := nxt_s (b := b) hN ht.le.2.1
  obtain ⟨I1, a1, a2, a3, a4, a5⟩ := g3 I J c1 c5
  obtain ⟨K1, b1, b2, b3, b4⟩ := g4 K J m1 m3
  refine ⟨f', t', I1, K1, g1, a1, b1, ⟨g2, ⟨⟨by rw [a5 _ _ (by omega)]; exact c1.1, fun i hi => by rw [a5 _ _ (by omega)]; exact c1.2 i hi⟩, by rw [a5 _ _ (by omega)]; exact c2, a4, a2, a3⟩, ⟨⟨by rw [b4 _ _ (by omega)]; exact m1.1, fun i hi => by rw [b4 _ _ (by omega)]; exact m1.2 i hi⟩, b2, b3, by rw [b4 _ _ (by omega)]; exact m4, by rw [b4 _ _ (by omega)]; exact m5, by rw [b4 _ _ (by omega)]; exact m6⟩, ⟨by rw [a5 _ _ (by omega)]; exact l1, hgt_of (fun i hi => a5 _ _ (by omega)) l2, fun i hi => by rw [b4 _ _ (by omega), a5 _ _ (by omega)]; exact l3 i hi⟩⟩, fun a j q1 q2 q3 => a5 a j q2, fun a j q1 q2 => b4 a j (by omega)⟩
/-- one cell more -/
theorem PP.app {b : Nat → Int32} {N key bg o f t n h h1 : Nat} {v : Int32} {I K : HI} {J : HJ} (hk : key < 4) (h0 : PP b N key bg o f t n h I K) (hn : n < 200) (hb : bg + n < 220) (hv : (isVal v ∧ h < 32 ∧ h1 = h + 1) ∨ (v = 20126 ∧ 0 < h ∧ h ≤ 32 ∧ h1 = h) ∨ (isSg v ∧ 2 ≤ h ∧ h ≤ 32 ∧ h1 = h - 1)) : ∃ I1 K1, f_X2_add 60 (I 59 3) v I J = some I1 ∧ f_X11_emits (trC v) K J = some K1 ∧ PP b N key bg o f t (n + 1) h1 I1 K1 ∧ FC key I I1 ∧ FM bg K K1 := by
  obtain ⟨ht, ⟨c1, c2, c3, c4, c5⟩, ⟨m1, m2, m3, m4, m5, m6⟩, ⟨l1, l2, l3⟩⟩ := h0
  have fc : ∀ a j, ¬ (a = 62 + key ∧ j = n) → ¬ (a = 66 ∧ j = key) → put (put I (62 + key) n v) 66 key (nI (n + 1)) a j = I a j := fun a j q1 q2 => by rw [pN (by omega), pN (by omega)]
  have fm : ∀ a j, ¬ (a = 98 ∧ j = 23) → ¬ (a = 111 ∧ j = bg + n) → put (put K 111 (bg + n) (trC v)) 98 23 (nI (bg + (n + 1))) a j = K a j := fun a j q1 q2 => by rw [pN (by omega), pN (by omega)]
  have ecell : put (put I (62 + key) n v) 66 key (nI (n + 1)) (62 + key) n = v := by rw [pN (by omega), pE rfl rfl]
  refine ⟨put (put I (62 + key) n v) 66 key (nI (n + 1)), put (put K 111 (bg + n) (trC v)) 98 23 (nI (bg + (n + 1))), ?_, ?_, ⟨ht, ⟨⟨by rw [fc _ _ (by omega) (by omega)]; exact c1.1, fun i hi => by rw [fc _ _ (by omega) (by omega)]; exact c1.2 i hi⟩, by rw [fc _ _ (by omega) (by omega)]; exact c2, by rw [fc _ _ (by omega) (by omega)]; exact c3, by rw [fc _ _ (by omega) (by omega)]; exact c4, by rw [fc _ _ (by omega) (by omega)]; exact c5⟩, ⟨⟨by rw [fm _ _ (by omega) (by omega)]; exact m1.1, fun i hi => by rw [fm _ _ (by omega) (by omega)]; exact m1.2 i hi⟩, by rw [fm _ _ (by omega) (by omega)]; exact m2, by rw [fm _ _ (by omega) (by omega)]; exact m3, by rw [fm _ _ (by omega) (by omega)]; exact m4, pE rfl rfl, by rw [fm _ _ (by omega) (by omega)]; exact m6⟩, pE rfl rfl, ⟨h, hgt_of (fun i hi => fc _ _ (by omega) (by omega)) l2, by rw [ecell]; exact hv⟩, fun i hi => ?_⟩, fun a j q1 q2 q3 => fc a j (by omega) (by omega), fun a j q1 q2 => fm a j (by omega) (by omega)⟩
  · rw [c2]
    exact add_s (k := 60) rfl hk hn l1
  · unfold f_X11_emits
    rw [if_pos m6, m5, if_pos (vin_nI hb (by omega)), cl_nI (by omega), nm_s, pN (show 98 ≠ 111 ∨ 23 ≠ bg + n by omega), m5, nI_1, nm_s, Nat.add_assoc]
  · by_cases q : i = n
    · subst q
      rw [ecell, pN (by omega), pE rfl rfl]
    · rw [fc _ _ (by omega) (by omega), fm _ _ (by omega) (by omega)]
      exact l3 i (by omega)
theorem PP.opn {b : Nat → Int32} {N key bg o o1 f t n h : Nat} {I K : HI} (h0 : PP b N key bg o f t n h I K) : PP b N key bg o1 f t n h I (put K 98 22 (nI o1)) := by
  obtain ⟨ht, hc, ⟨m1, m2, m3, m4, m5, m6⟩, ⟨l1, l2, l3⟩⟩ := h0
  exact ⟨ht, hc, ⟨m1.pt (by omega), by rw [pN (by omega)]; exact m2, by rw [pN (by omega)]; exact m3, pE rfl rfl, by rw [pN (by omega)]; exact m5, by rw [pN (by omega)]; exact m6⟩, l1, l2, fun i hi => by rw [pN (by omega)]; exact l3 i hi⟩
/-- what a reading of a piece does on both sides -/
def RS (b : Nat → Int32) (N key bg o f n h : Nat) (r : Int32) (I K I1 K1 : HI) : Prop := FC key I I1 ∧ FM bg K K1 ∧ ((r = 1 ∧ ∃ f' t' n', f < f' ∧ n' + f ≤ n + f' ∧ PP b N key bg o f' t' n' h I1 K1) ∨ (r = 0 ∧ Bad b N I1 K1))
def Spec (b : Nat → Int32) (N key bg o hl : Nat) (c : HI → HJ → Option (Int32 × HI)) (m : HI → HJ → Option HI) : Prop := ∀ (I K : HI) (J : HJ) (f t n h : Nat), PP b N key bg o f t n h I K → bg + n ≤ 12 + f → h ≤ hl → ∃ r I1 K1, c I J = some (r, I1) ∧ m K J = some K1 ∧ RS b N key bg o f n (h + 1) r I K I1 K1
theorem prt_end {b : Nat → Int32} {N f : Nat} (h : ¬ f < N) : prt b N f = nI 256 := if_neg h
theorem prt_lt {b : Nat → Int32} {N f : Nat} (h : f < N) (h1 : Lt (b f)) : prt b N f = nI 257 := by unfold prt; rw [if_pos h, if_pos h1]
theorem prt_dg {b : Nat → Int32} {N f : Nat} (h : f < N) (h1 : Dg (b f)) : prt b N f = nI 258 := by unfold prt; rw [if_pos h, if_neg (fun q => LtDg q h1), if_pos h1]
theorem prt_sg {b : Nat → Int32} {N f : Nat} (h : f < N) (h1 : ¬ Lt (b f)) (h2 : ¬ Dg (b f)) : prt b N f = b f := by unfold prt; rw [if_pos h, if_neg h1, if_neg h2]
theorem ByR.ne {b : Nat → Int32} {N f c : Nat} (h : ByR b N) (hf : f < N) (hc : 255 < c) (hc2 : c < 2147483648) : ¬ b f = nI c := fun q => by
  have h1 := (h.2 f hf).2
  rw [q, i_nat _ hc2] at h1
  omega
/-- a part that is a small sign: that byte stands there -/
theorem prt_is {b : Nat → Int32} {N f c : Nat} (hf : f ≤ N) (hc : c < 256) (h : prt b N f = nI c) : f < N ∧ b f = nI c ∧ ¬ Lt (b f) ∧ ¬ Dg (b f) := by
  by_cases h0 : f < N
  · by_cases h1 : Lt (b f)
    · rw [prt_lt h0 h1, eq_nn (by omega) (by omega)] at h; omega
    · by_cases h2 : Dg (b f)
      · rw [prt_dg h0 h2, eq_nn (by omega) (by omega)] at h; omega
      · rw [prt_sg h0 h1 h2] at h
        exact ⟨h0, h, h1, h2⟩
  · rw [prt_end h0, eq_nn (by omega) (by omega)] at h; omega
theorem prt_wd {b : Nat → Int32} {N f : Nat} (hB : ByR b N) (h : prt b N f = nI 257) : f < N ∧ Lt (b f) := by
  by_cases h0 : f < N
  · by_cases h1 : Lt (b f)
    · exact ⟨h0, h1⟩
    · by_cases h2 : Dg (b f)
      · rw [prt_dg h0 h2, eq_nn (by omega) (by omega)] at h; omega
      · rw [prt_sg h0 h1 h2] at h
        exact absurd h (hB.ne h0 (by omega) (by omega))
  · rw [prt_end h0, eq_nn (by omega) (by omega)] at h; omega

def aV (a n x : Int32) (k : Nat) : Nat → Int32
  | 0 => gV a x k
  | 1 => sV a n x k
  | 2 => pV a n x k
  | _ => tV a n x k
def aB (k : Nat) : Nat → List Int32
  | 0 => gB k
  | 1 => sB k
  | 2 => pB k
  | _ => tB k
abbrev aF (k p : Nat) : Prop := (p = 2 ∧ k ≠ 7) ∨ (p = 3 ∧ (k = 2 ∨ k = 3))
def aR (a n x : Int32) (k p : Nat) : Int32 := if aF k p ∧ a - n = 0 then -15 else aV a n x k p
theorem aB_l : ∀ k, k < 8 → ∀ p, p < 4 → (aB k p).length ≤ 10 := by decide
theorem cans {k p : Nat} {a n x : Int32} {I : HI} {J : HJ} (hk : k < 8) (hp : p < 4) (h1 : I 96 1 = nI 0) (h2 : I 96 2 = 0) (h3 : I 96 3 = nI k) (h4 : I 96 4 = n) (h5 : I 96 5 = a) : ∃ H, f_X0_answer (nI p) x I J = some (aR a n x k p, H) ∧ ∀ b j, ¬ (b = 96 ∧ j = 2) → H b j = apC I 0 (aB k p) b j := by
  have fin0 : ∀ (V : Int32) (L : List Int32), f_X0_byAct (nI p) x I J = some (V, apC I 0 L) → f_X0_answer (nI p) x I J = some (V, apC I 0 L) := fun V L h => by
    unfold f_X0_answer
    rw [h, bd2_s, apC_o (by omega), if_pos h2]
  have finF : ∀ (V : Int32) (L : List Int32), f_X0_byAct (nI p) x I J = some (V, pF (apC I 0 L) (a - n)) → ∃ H, f_X0_answer (nI p) x I J = some (if a - n = 0 then -15 else V, H) ∧ ∀ b j, ¬ (b = 96 ∧ j = 2) → H b j = apC I 0 L b j := fun V L h => by
    unfold pF at h
    by_cases hz : a - n = 0
    · rw [if_pos hz] at h ⊢
      refine ⟨put (apC I 0 L) 96 2 1, ?_, fun b j q => by rw [pN (by omega)]⟩
      unfold f_X0_answer
      rw [h, bd2_s, pE rfl rfl, if_neg (by decide)]
    · rw [if_neg hz] at h ⊢
      exact ⟨apC I 0 L, fin0 V L h, fun _ _ _ => rfl⟩
  have hp4 : p = 0 ∨ p = 1 ∨ p = 2 ∨ p = 3 := by omega
  rcases hp4 with rfl | rfl | rfl | rfl
  · have e : aR a n x k 0 = gV a x k := if_neg (by omega)
    have hg := cgr (e := 0) (x := x) (J := J) hk (by omega) (by omega) h1 h4 h5
    rw [← N_0] at hg
    rw [e]
    refine ⟨_, fin0 (gV a x k) (gB k) ?_, fun _ _ _ => rfl⟩
    unfold f_X0_byAct
    rw [if_pos N_0.symm, h3, hg, bd2_s]
  · have e : aR a n x k 1 = sV a n x k := if_neg (by omega)
    have hg := csw (e := 0) (x := x) (J := J) hk (by omega) (by omega) h1 h4 h5 h3
    rw [← N_0] at hg
    rw [e]
    refine ⟨_, fin0 (sV a n x k) (sB k) ?_, fun _ _ _ => rfl⟩
    unfold f_X0_byAct
    rw [if_neg (by decide), if_pos N_1.symm, h3, hg, bd2_s]
  · have hg := cpa (e := 0) (x := x) (J := J) hk (by omega) (by omega) h1 h4 h5
    rw [← N_0] at hg
    have hb : f_X0_byAct (nI 2) x I J = some (pV a n x k, pH k (a - n) (apC I 0 (pB k))) := by
      unfold f_X0_byAct
      rw [if_neg (by decide), if_neg (by decide), if_pos N_2.symm, h3, hg, bd2_s]
    unfold pH at hb
    by_cases h7 : k = 7
    · have e : aR a n x k 2 = pV a n x k := if_neg (by omega)
      rw [if_pos h7] at hb
      rw [e]
      exact ⟨_, fin0 (pV a n x k) (pB k) hb, fun _ _ _ => rfl⟩
    · rw [if_neg h7] at hb
      obtain ⟨H, e1, e2⟩ := finF _ _ hb
      refine ⟨H, ?_, e2⟩
      rw [e1]
      unfold aR
      by_cases hz : a - n = 0
      · rw [if_pos hz, if_pos ⟨Or.inl ⟨rfl, h7⟩, hz⟩]
      · rw [if_neg hz, if_neg (fun q => hz q.2)]
        rfl
  · have hg := ctl (e := 0) (x := x) (J := J) hk (by omega) (by omega) h1 h4 h5 h3
    rw [← N_0] at hg
    have hb : f_X0_byAct (nI 3) x I J = some (tV a n x k, if k = 2 ∨ k = 3 then pF (apC I 0 (tB k)) (a - n) else apC I 0 (tB k)) := by
      unfold f_X0_byAct
      rw [if_neg (by decide), if_neg (by decide), if_neg (by decide), if_pos N_3.symm, h3, hg, bd2_s]
    by_cases h23 : k = 2 ∨ k = 3
    · rw [if_pos h23] at hb
      obtain ⟨H, e1, e2⟩ := finF _ _ hb
      refine ⟨H, ?_, e2⟩
      rw [e1]
      unfold aR
      by_cases hz : a - n = 0
      · rw [if_pos hz, if_pos ⟨Or.inr ⟨rfl, h23⟩, hz⟩]
      · rw [if_neg hz, if_neg (fun q => hz q.2)]
        rfl
    · have e : aR a n x k 3 = tV a n x k := if_neg (by omega)
      rw [if_neg h23] at hb
      rw [e]
      exact ⟨_, fin0 (tV a n x k) (tB k) hb, fun _ _ _ => rfl⟩
/-- what act does of a kind -/
def mBody (p : Nat) (a0 a1 x : Int32) (I : HI) (J : HJ) : Option (Int32 × HI × HJ) := if nI p = 0 then (bd2 (f_X11_grows x I J) fun r40 I41 => fB_X11_act_88 a0 a1 x r40 I41 J) else (if nI p = 1 then (bd2 (f_X11_swings x I J) fun r37 I38 => fB_X11_act_88 a0 a1 x r37 I38 J) else (if nI p = 2 then (bd2 (f_X11_parts x I J) fun r34 I35 => fB_X11_act_88 a0 a1 x r34 I35 J) else (bd2 (f_X11_tells x I J) fun r31 I32 => fB_X11_act_88 a0 a1 x r31 I32 J)))
theorem mans {k p : Nat} {a n x a0 a1 : Int32} {I : HI} {J : HJ} (hk : k < 8) (hp : p < 4) (h40 : I 98 40 = nI 0) (h41 : I 98 41 = 0) (h36 : I 98 36 = nI k) (h37 : I 98 37 = n) (h38 : I 98 38 = a) : ∃ H, mBody p a0 a1 x I J = some (aR a n x k p, H, J) ∧ ∀ b j, ¬ (b = 98 ∧ j = 41) → H b j = apM I 0 (aB k p) b j := by
  have fin0 : ∀ (V : Int32) (L : List Int32), fB_X11_act_88 a0 a1 x V (apM I 0 L) J = some (V, apM I 0 L, J) := fun V L => by
    unfold fB_X11_act_88
    rw [apM_o (by omega), if_pos h41]
  have finF : ∀ (V : Int32) (L : List Int32), ∃ H, fB_X11_act_88 a0 a1 x V (mF (apM I 0 L) (a - n)) J = some (if a - n = 0 then -15 else V, H, J) ∧ ∀ b j, ¬ (b = 98 ∧ j = 41) → H b j = apM I 0 L b j := fun V L => by
    refine ⟨mF (apM I 0 L) (a - n), ?_, fun b j q => by unfold mF; rw [pN (by omega)]⟩
    unfold fB_X11_act_88 mF
    rw [pE rfl rfl]
    by_cases hz : a - n = 0
    · rw [if_pos hz, if_pos hz, if_neg (by decide)]
    · rw [if_neg hz, if_neg hz, if_pos rfl]
  have hp4 : p = 0 ∨ p = 1 ∨ p = 2 ∨ p = 3 := by omega
  unfold mBody
  rcases hp4 with rfl | rfl | rfl | rfl
  · have e : aR a n x k 0 = gV a x k := if_neg (by omega)
    rw [e, if_pos N_0.symm, mgr (x := x) (J := J) hk (by omega) h40 h36 h37 h38, bd2_s, fin0]
    exact ⟨_, rfl, fun _ _ _ => rfl⟩
  · have e : aR a n x k 1 = sV a n x k := if_neg (by omega)
    rw [e, if_neg (by decide), if_pos N_1.symm, msw (x := x) (J := J) hk (by omega) h40 h36 h37 h38, bd2_s, fin0]
    exact ⟨_, rfl, fun _ _ _ => rfl⟩
  · rw [if_neg (by decide), if_neg (by decide), if_pos N_2.symm, mpa (x := x) (J := J) hk (by omega) h40 h36 h37 h38, bd2_s]
    unfold mH
    by_cases h7 : k = 7
    · have e : aR a n x k 2 = pV a n x k := if_neg (by omega)
      rw [if_pos h7, e, fin0]
      exact ⟨_, rfl, fun _ _ _ => rfl⟩
    · rw [if_neg h7]
      obtain ⟨H, e1, e2⟩ := finF (pV a n x k) (pB k)
      refine ⟨H, ?_, e2⟩
      rw [e1]
      unfold aR
      by_cases hz : a - n = 0
      · rw [if_pos hz, if_pos ⟨Or.inl ⟨rfl, h7⟩, hz⟩]
      · rw [if_neg hz, if_neg (fun q => hz q.2)]
        rfl
  · rw [if_neg (by decide), if_neg (by decide), if_neg (by decide), mte (x := x) (J := J) hk (by omega) h40 h36 h37 h38, bd2_s]
    by_cases h23 : k = 2 ∨ k = 3
    · rw [if_pos h23]
      obtain ⟨H, e1, e2⟩ := finF (tV a n x k) (tB k)
      refine ⟨H, ?_, e2⟩
      rw [e1]
      unfold aR
      by_cases hz : a - n = 0
      · rw [if_pos hz, if_pos ⟨Or.inr ⟨rfl, h23⟩, hz⟩]
      · rw [if_neg hz, if_neg (fun q => hz q.2)]
        rfl
    · have e : aR a n x k 3 = tV a n x k := if_neg (by omega)
      rw [if_neg h23, e, fin0]
      exact ⟨_, rfl, fun _ _ _ => rfl⟩
/-- the relation, when both wrote the bodies L -/
theorem act_rel {N : Nat} {I I2 : HI} {J J2 : HJ} {m : Nat} (hR : Rel N I J) (hm : m ≤ 30) (e1 : I2 96 1 = nI m) (e2 : I2 98 40 = nI m) (e3 : ∀ i, i < m → I2 97 i = I2 122 i) (hI : ∀ a j, ¬ Scr a j → ¬ ((a = 96 ∧ j = 1) ∨ a = 97 ∨ (a = 98 ∧ j = 40) ∨ a = 122) → I2 a j = I a j) (hJ : ∀ a, a ≠ 53 → a ≠ 56 → a ≠ 98 → J2 a = J a) : Rel (N + 400) I2 J2 := hR.act (by omega) ⟨m, hm, e1, e2, e3⟩ hI hJ
theorem fgt_s {I : HI} {J : HJ} : f_X0_forget I J = some (put (put I 96 1 0) 96 2 0) := rfl
/-- no act: both forget -/
theorem act_no {N : Nat} {I I2 : HI} {J J2 : HJ} {a0 a1 a2 : Int32} (hR : Rel N I J) (h1 : f_X10_act a0 a1 a2 I J = some (0, put (put I 96 1 0) 96 2 0)) (h2 : f_X11_act a0 a1 a2 (put (put I 96 1 0) 96 2 0) J = some (0, I2, J2)) (ht : TkF (put (put (put I 96 1 0) 96 2 0) 98 40 0) I2 J J2) : ∃ (r : Int32) (I1 : HI) (I2 : HI) (J2 : HJ), f_X10_act a0 a1 a2 I J = some (r, I1) ∧ f_X11_act a0 a1 a2 I1 J = some (r, I2, J2) ∧ Rel (N + 400) I2 J2 := by
  refine ⟨0, _, I2, J2, h1, h2, act_rel hR (m := 0) (by omega) ?_ ?_ (fun i hi => absurd hi (Nat.not_lt_zero i)) (fun a j q1 q2 => ?_) (fun a _ _ q => ht.2 a q)⟩
  · rw [ht.1 _ _ (by omega) (by omega) (by omega), pN (by omega), pN (by omega), pE rfl rfl]; rfl
  · rw [ht.1 _ _ (by omega) (by omega) (by omega), pE rfl rfl]; rfl
  · rw [ht.1 _ _ (by unfold Scr at q1; omega) (by unfold Scr at q1; omega) (by unfold Scr at q1; omega), pN (by omega), pN (by unfold Scr at q1; omega), pN (by omega)]
/-- an act of kind k -/
theorem act_k {N k p n : Nat} {u v x : Int32} {I IC : HI} {J : HJ} {a0 : Int32} (hR : Rel N I J) (hk : k < 8) (hp : p < 4) (hn : n < 4) (e0 : a0 = nI n)
    (hc1 : IC 96 1 = nI 0) (hc2 : IC 96 2 = 0) (hc3 : IC 96 3 = nI k) (hc4 : IC 96 4 = u) (hc5 : IC 96 5 = v) (hcf : ∀ a j, a ≠ 12 → a ≠ 96 → IC a j = I a j)
    (hcr : ∀ r H, f_X0_answer (nI p) x IC J = some (r, H) → f_X10_act a0 (nI p) x I J = some (r, H))
    (hm : ∀ H, (∀ a j, a ≠ 12 → a ≠ 96 → a ≠ 97 → H a j = I a j) → ∃ IM JM, f_X11_takes a0 (put H 98 40 0) J = some (IM, JM) ∧ IM 98 36 = nI k ∧ IM 98 37 = u ∧ IM 98 38 = v ∧ TkF (put H 98 40 0) IM J JM) : ∃ (r : Int32) (I1 : HI) (I2 : HI) (J2 : HJ), f_X10_act a0 (nI p) x I J = some (r, I1) ∧ f_X11_act a0 (nI p) x I1 J = some (r, I2, J2) ∧ Rel (N + 400) I2 J2 := by
  obtain ⟨H, g1, g2⟩ := cans (x := x) (J := J) hk hp hc1 hc2 hc3 hc4 hc5
  have hl := aB_l k hk p hp
  have eH : ∀ a j, a ≠ 12 → a ≠ 96 → a ≠ 97 → H a j = I a j := fun a j q1 q2 q3 => by
    rw [g2 a j (by omega), apC_f _ _ _ _ _ q3 (by omega), hcf a j q1 q2]
  obtain ⟨IM, JM, t1, t2, t3, t4, t5⟩ := hm H eH
  obtain ⟨IM2, hIM2⟩ : ∃ IM2, IM2 = put IM 98 41 0 := ⟨_, rfl⟩
  obtain ⟨H2, k1, k2⟩ := mans (n := u) (a := v) (p := p) (x := x) (a0 := a0) (a1 := nI p) (I := IM2) (J := JM) hk hp (by rw [hIM2, pN (by omega), t5.1 _ _ (by omega) (by omega) (by omega), pE rfl rfl]; rfl) (by rw [hIM2, pE rfl rfl]) (by rw [hIM2, pN (by omega)]; exact t2) (by rw [hIM2, pN (by omega)]; exact t3) (by rw [hIM2, pN (by omega)]; exact t4)
  have f97 : ∀ j, H2 97 j = H 97 j := fun j => by
    rw [k2 _ _ (by omega), apM_f _ _ _ _ _ (by omega) (by omega), hIM2, pN (by omega), t5.1 _ _ (by omega) (by omega) (by omega), pN (by omega)]
  refine ⟨aR v u x k p, H, H2, JM, hcr _ _ g1, ?_, act_rel hR (m := (aB k p).length) (by omega) ?_ ?_ (fun i hi => ?_) (fun a j q1 q2 => ?_) (fun a _ _ q => t5.2 a q)⟩
  · have hin : f_X11_in (nI p).toInt64 0 3 = some (bI (nI 0 ≤ nI p ∧ nI p < nI 4)) := in_03 _
    unfold f_X11_act
    rw [nm_s, e0, isOne_s, bd1_s, ite_bI, if_pos (shr hn), hin, bd1_s, ite_bI, if_pos (shr hp), ← e0, t1, bd2_s, t2, if_pos (by rw [N_0, le_nn (by omega) (by omega)]; omega), nm_s, ← hIM2]
    exact k1
  · rw [k2 _ _ (by omega), apM_f _ _ _ _ _ (by omega) (by omega), hIM2, pN (by omega), t5.1 _ _ (by omega) (by omega) (by omega), pN (by omega), g2 _ _ (by omega), apC_n _ _ _ hc1, Nat.zero_add]
  · have h40 : IM2 98 40 = nI 0 := by rw [hIM2, pN (by omega), t5.1 _ _ (by omega) (by omega) (by omega), pE rfl rfl]; rfl
    rw [k2 _ _ (by omega), apM_n _ _ _ h40, Nat.zero_add]
  · rw [f97, g2 _ _ (by omega), k2 122 i (by omega)]
    exact ap_same (aB k p) IC IM2 0 (fun j hj => absurd hj (Nat.not_lt_zero j)) i (by omega)
  · rw [k2 _ _ (by unfold Scr at q1; omega), apM_f _ _ _ _ _ (by omega) (by omega), hIM2, pN (by unfold Scr at q1; omega), t5.1 _ _ (by unfold Scr at q1; omega) (by unfold Scr at q1; omega) (by unfold Scr at q1; omega), pN (by omega)]
    by_cases h96 : a = 96
    · exact absurd (show Scr a j by unfold Scr; omega) q1
    · rw [eH _ _ (by unfold Scr at q1; omega) h96 (by omega)]
theorem mact_no {n p : Nat} {x : Int32} {I IM : HI} {J JM : HJ} (hn : n < 4) (hp : p < 4) (t1 : f_X11_takes (nI n) (put I 98 40 0) J = some (IM, JM)) (t2 : IM 98 36 = -1) : f_X11_act (nI n) (nI p) x I J = some (0, IM, JM) := by
  have hin : f_X11_in (nI p).toInt64 0 3 = some (bI (nI 0 ≤ nI p ∧ nI p < nI 4)) := in_03 _
  unfold f_X11_act
  rw [nm_s, isOne_s, bd1_s, ite_bI, if_pos (shr hn), hin, bd1_s, ite_bI, if_pos (shr hp), t1, bd2_s, t2, if_neg (by decide)]
theorem cact_pre {n p : Nat} {x : Int32} {I : HI} {J : HJ} (hn : n < 4) (hp : p < 4) {R : Option (Int32 × HI)} (h : (bd1 (f_X6_numberOn (nI n) (put (put I 96 1 0) 96 2 0) J) fun r47 => bd1 (f_X10_heldOn (nI n) (put (put I 96 1 0) 96 2 0) J) fun r49 => if r49 = 0 then (bd1 (f_X4_at 13 r47 (put (put I 96 1 0) 96 2 0) J) fun r52 => oel r52 (bd1 (f_X10_kindOn (nI n) (put (put I 96 1 0) 96 2 0) J) fun r55 => fB_X10_act_108 (nI n) (nI p) x 0 r47 r55 (put (put I 96 1 0) 96 2 0) J) (fun q54 => if oK q54 = 8 then (bd1 (f_X10_kindOn (nI n) (put (put I 96 1 0) 96 2 0) J) fun r58 => bd1 (f_X9_size q54 (put (put I 96 1 0) 96 2 0) J) fun r60 => fB_X10_act_108 (nI n) (nI p) x r60 r47 r58 (put (put I 96 1 0) 96 2 0) J) else none)) else (if r49 = 1 then (bd2 (f_X2_worth 4 r47 1 (put (put I 96 1 0) 96 2 0) J) fun r63 I64 => bd1 (f_X0_takeThing 7 r47 r63 I64 J) fun I66 => bd2 (f_X0_answer (nI p) x I66 J) fun r68 I69 => some (r68, I69)) else (some (0, (put (put I 96 1 0) 96 2 0))))) = R) : f_X10_act (nI n) (nI p) x I J = R := by
  unfold f_X10_act
  rw [fgt_s, bd1_s, isShelf_s, bd1_s, ite_bI, if_pos (shr hn), wi_k N_0 N_3, bd1_s, ite_bI, if_pos ⟨by rw [le_nn (by omega) (by omega)]; omega, by rw [le_nn (by omega) (by omega)]; omega⟩]
  exact h
theorem tk_s {k u v : Int32} {I : HI} {J : HJ} : f_X0_takeThing k u v I J = some (put (put (put I 96 3 k) 96 4 u) 96 5 v) := rfl
theorem sim_act {N : Nat} {I : HI} {J : HJ} (hN : N ≤ 1000000) (hR : Rel N I J) (a0 : Int32) (a1 : Int32) (a2 : Int32) : ∃ (r : Int32) (I1 : HI) (I2 : HI) (J2 : HJ), f_X10_act a0 a1 a2 I J = some (r, I1) ∧ f_X11_act a0 a1 a2 I1 J = some (r, I2, J2) ∧ Rel (N + 400) I2 J2 := by
  obtain ⟨If, hIf⟩ : ∃ If, If = put (put I 96 1 0) 96 2 0 := ⟨_, rfl⟩
  have eF : ∀ a j, a ≠ 96 → If a j = I a j := fun a j q => by rw [hIf, pN (by omega), pN (by omega)]
  have tk0 : TkF (put If 98 40 0) (put If 98 40 0) J J := ⟨fun _ _ _ _ _ => rfl, fun _ _ => rfl⟩
  by_cases h0 : nI 0 ≤ a0 ∧ a0 < nI 4
  · obtain ⟨n, hn, rfl⟩ := rng2 (by omega) h0
    by_cases h1 : nI 0 ≤ a1 ∧ a1 ≤ nI 3
    · obtain ⟨p, hp, rfl⟩ := rng (by omega) h1
      have hp4 : p < 4 := by omega
      obtain ⟨m, m0, m1, m2, m3⟩ := hR.2.2.1
      obtain ⟨b1, b2⟩ := hR.2.2.2.2.2.2.1 n hn
      obtain ⟨w1, w2, w3⟩ := what_s (I := If) (J := J) hn
      have f93 : If 93 n = I 93 n := eF _ _ (by omega)
      have f94 : If 94 n = I 94 n := eF _ _ (by omega)
      have f13 : If 13 1 = nI m := by rw [eF _ _ (by omega)]; exact m1
      -- nothing is there
      have none_there : f_X10_heldOn (nI n) If J = some 3 ∨ f_X10_heldOn (nI n) If J = some 2 → (∃ IM, f_X11_takes (nI n) (put If 98 40 0) J = some (IM, J) ∧ IM 98 36 = -1 ∧ TkF (put If 98 40 0) IM J J) → ∃ (r : Int32) (I1 : HI) (I2 : HI) (J2 : HJ), f_X10_act (nI n) (nI p) a2 I J = some (r, I1) ∧ f_X11_act (nI n) (nI p) a2 I1 J = some (r, I2, J2) ∧ Rel (N + 400) I2 J2 := by
        intro hh ⟨IM, t1, t2, t3⟩
        rw [hIf] at t3
        refine act_no hR (I2 := IM) (J2 := J) (cact_pre hn hp4 ?_) (by rw [← hIf]; exact mact_no hn hp4 t1 t2) t3
        rw [← hIf]
        rcases hh with hh | hh
        · rw [w2, bd1_s, hh, bd1_s, if_neg (by decide), if_neg (by decide)]
        · rw [w2, bd1_s, hh, bd1_s, if_neg (by decide), if_neg (by decide)]
      rcases b2 with ⟨c1, c2, c3⟩ | ⟨c1, c2, c3, c4⟩ | ⟨c1, c2, c3, c4, c5⟩ | c1
      · obtain ⟨x, hx, ex, -⟩ := nI_of0 c3
        rw [c1] at b1
        by_cases hlt : x < m
        · obtain ⟨c, d0, d1, d2, d3⟩ := m3 x hlt
          have kx : oK (13 + 2 + 2 * x) = 8 := ((lay3 (k := 13) rfl).2 x (by omega)).2
          obtain ⟨q, q0, hq⟩ := per_ex (fun i => I 99 (73 + 61 * x + i)) d0
          obtain ⟨k, k1, k2, ek⟩ := knd_k c q
          have hrow : Row If (13 + 2 + 2 * x) c (fun i => I 99 (73 + 61 * x + i)) := ⟨kx, d0, by rw [eF _ _ (by omega)]; exact d1, fun i hi => by rw [eF _ _ (by omega), show 13 + 2 + 2 * x + 1 = 13 + 3 + 2 * x by omega]; exact d3 i hi⟩
          have hh := hld_rec (J := J) hn (f93.trans b1) ((f94.trans c2).trans ex) m0 f13 hlt
          have hkk := knd_rec (J := J) hn (f93.trans b1) ((f94.trans c2).trans ex) m0 f13 hlt hrow hq
          refine act_k (k := k) (p := p) (n := n) (u := nI x) (v := nI c) (IC := put (put (put If 96 3 (nI k)) 96 4 (nI x)) 96 5 (nI c)) hR (by omega) hp4 hn rfl ?_ ?_ ?_ ?_ ?_ (fun a j q1 q2 => ?_) (fun r H hr => ?_) (fun H hH => ?_)
          · rw [pN (by omega), pN (by omega), pN (by omega), hIf, pN (by omega), pE rfl rfl]; rfl
          · rw [pN (by omega), pN (by omega), pN (by omega), hIf, pE rfl rfl]
          · rw [pN (by omega), pN (by omega), pE rfl rfl]
          · rw [pN (by omega), pE rfl rfl]
          · rw [pE rfl rfl]
          · rw [pN (by omega), pN (by omega), pN (by omega), eF _ _ q2]
          · refine cact_pre hn hp4 ?_
            rw [← hIf, w2, bd1_s, hh, bd1_s, if_pos rfl, f94, c2, ex, rat_i (k := 13) rfl m0 f13 hlt, bd1_s, oel_some, if_pos kx, hkk, bd1_s]
            unfold f_X9_size fB_X10_act_108
            rw [bd1_s, hrow.2.2.1, tk_s, bd1_s, ek, hr, bd2_s]
          · obtain ⟨IM, t1, t2, t3, t4, t5⟩ := mtk_rec (I := put H 98 40 0) (J := J) (v := fun i => I 99 (73 + 61 * x + i)) hn (by rw [pN (by omega), hH _ _ (by omega) (by omega) (by omega)]; exact c1) (by rw [pN (by omega), hH _ _ (by omega) (by omega) (by omega)]; exact ex) m0 (by rw [pN (by omega), hH _ _ (by omega) (by omega) (by omega)]; exact m2) hlt d0 (by rw [pN (by omega), hH _ _ (by omega) (by omega) (by omega)]; exact d2) (fun i hi => by rw [pN (by omega), hH _ _ (by omega) (by omega) (by omega)]) hq
            exact ⟨IM, J, t1, t2.trans ek, t3, t4, t5⟩
        · have hno : ¬ (nI 0 ≤ I 120 n ∧ I 120 n < nI m) := fun q => by
            have := q.2
            rw [ex, lt_nn (by omega) (by omega)] at this
            omega
          refine none_there (Or.inl (hld_gone hn (f93.trans b1) m0 f13 (by rw [f94, c2]; exact hno))) ?_
          exact mtk_gone (m := m) hn (by rw [pN (by omega), eF _ _ (by omega)]; exact c1) m0 (by rw [pN (by omega), eF _ _ (by omega)]; exact m2) (by rw [pN (by omega), eF _ _ (by omega)]; exact hno)
      · obtain ⟨x, hx, ex, ex2⟩ := nI_of0 c3
        rw [c1] at b1
        have hB := both_of hR
        have hBf : Both If (I 99) (fun q => ((I 10 q).toNatClampNeg, I (6 + q))) := ⟨hB.1.of (funext fun j => eF _ _ (by omega)) (fun q hq => funext fun j => eF _ _ (by omega)), hB.2.1.of (funext fun j => eF _ _ (by omega)), hB.2.2.1.of (fun j _ _ => eF _ _ (by omega)), fun j hj => eF _ _ (by omega), hB.2.2.2.2⟩
        obtain ⟨IW, v1, v2⟩ := cw_s (q := x) (a := 1) (J := J) hBf.1 (by omega) (by omega) hBf.2.2.1
        have hh : f_X10_heldOn (nI n) If J = some 1 := (hld_no hn (by rw [f93, b1]; decide)).trans (by rw [f93, b1])
        refine act_k (k := 7) (p := p) (n := n) (u := nI x) (v := ev (fun q => ((I 10 q).toNatClampNeg, I (6 + q))) x (I 99)) (IC := put (put (put IW 96 3 7) 96 4 (nI x)) 96 5 (ev (fun q => ((I 10 q).toNatClampNeg, I (6 + q))) x (I 99))) hR (by omega) hp4 hn rfl ?_ ?_ ?_ ?_ ?_ (fun a j q1 q2 => ?_) (fun r H hr => ?_) (fun H hH => ?_)
        · rw [pN (by omega), pN (by omega), pN (by omega), v2 _ (by omega), hIf, pN (by omega), pE rfl rfl]; rfl
        · rw [pN (by omega), pN (by omega), pN (by omega), v2 _ (by omega), hIf, pE rfl rfl]
        · rw [pN (by omega), pN (by omega), pE rfl rfl]; exact N_7
        · rw [pN (by omega), pE rfl rfl]
        · rw [pE rfl rfl]
        · rw [pN (by omega), pN (by omega), pN (by omega), v2 _ q1, eF _ _ q2]
        · refine cact_pre hn hp4 ?_
          rw [← hIf, w2, bd1_s, hh, bd1_s, if_neg (by decide), if_pos rfl, f94, c2, ex, v1, bd2_s, tk_s, bd1_s, hr, bd2_s]
        · have hBH : Both (put H 98 40 0) (I 99) (fun q => ((I 10 q).toNatClampNeg, I (6 + q))) := ⟨hB.1.of (funext fun j => by rw [pN (by omega), hH _ _ (by omega) (by omega) (by omega)]) (fun q hq => funext fun j => by rw [pN (by omega), hH _ _ (by omega) (by omega) (by omega)]), hB.2.1.of (funext fun j => by rw [pN (by omega), hH _ _ (by omega) (by omega) (by omega)]), hB.2.2.1.of (fun j _ _ => by rw [pN (by omega), hH _ _ (by omega) (by omega) (by omega)]), fun j hj => by rw [pN (by omega), hH _ _ (by omega) (by omega) (by omega)], hB.2.2.2.2⟩
          obtain ⟨IM, JM, t1, t2, t3, t4, t5⟩ := mtk_law (I := put H 98 40 0) (J := J) hn (by rw [pN (by omega), hH _ _ (by omega) (by omega) (by omega)]; exact c1) (by rw [pN (by omega), hH _ _ (by omega) (by omega) (by omega)]; exact ex) (show x < 4 by omega) hBH
          exact ⟨IM, JM, t1, t2.trans N_7, t3, t4, t5⟩
      · rw [c1] at b1
        refine none_there (Or.inr ((hld_no hn (by rw [f93, b1]; decide)).trans (by rw [f93, b1]))) ?_
        exact mtk_no hn (by rw [pN (by omega), eF _ _ (by omega), c1]; decide) (by rw [pN (by omega), eF _ _ (by omega), c1]; decide)
      · rw [c1] at b1
        refine none_there (Or.inl ((hld_no hn (by rw [f93, b1]; decide)).trans (by rw [f93, b1]))) ?_
        exact mtk_no hn (by rw [pN (by omega), eF _ _ (by omega), c1]; decide) (by rw [pN (by omega), eF _ _ (by omega), c1]; decide)
    · have hin : f_X11_in a1.toInt64 0 3 = some (bI (nI 0 ≤ a1 ∧ a1 ≤ nI 3)) := by rw [L_0, L_3, in_x]
      refine act_no hR (I2 := put If 98 40 0) (J2 := J) ?_ ?_ (by rw [← hIf]; exact tk0)
      · unfold f_X10_act
        rw [fgt_s, bd1_s, isShelf_s, bd1_s, ite_bI, if_pos h0, wi_k N_0 N_3, bd1_s, ite_bI, if_neg h1]
      · unfold f_X11_act
        rw [← hIf, nm_s, isOne_s, bd1_s, ite_bI, if_pos h0, hin, bd1_s, ite_bI, if_neg h1]
  · refine act_no hR (I2 := put If 98 40 0) (J2 := J) ?_ ?_ (by rw [← hIf]; exact tk0)
    · unfold f_X10_act
      rw [fgt_s, bd1_s, isShelf_s, bd1_s, ite_bI, if_neg h0]
    · unfold f_X11_act
      rw [← hIf, nm_s, isOne_s, bd1_s, ite_bI, if_neg h0]

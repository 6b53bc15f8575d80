theorem FIN_two {k n' : Nat} {R R1 : HR} {I I1 : HI} {J J1 : HJ} {rk ra : Nat → Option Nat} {ik ia : Nat → Int32} (h : CS (fun i => i = k ∨ i = k + 1) I0 (k + 1) n' R I J R1 I1 J1) (hk : k < k + 1) (hp : OP k R1 I1 J1 rk ik) (ha : OP (k + 1) R1 I1 J1 ra ia) (hr : rk = oR k) (hi : ik = I0 k) (hr2 : ra = oR (k + 1)) (hi2 : ia = I0 (k + 1)) : FIN (k + 1) k n' R I J R1 I1 J1 := ⟨fun i h1 h2 => h.2.2.1 i h1 (fun q => by omega), fun i h1 => by
  by_cases e : i = k
  · subst e; exact ⟨hp.1.trans hr, hp.2.1.trans hi, hp.2.2⟩
  · by_cases e2 : i = k + 1
    · subst e2; exact ⟨ha.1.trans hr2, ha.2.1.trans hi2, ha.2.2⟩
    · exact h.2.2.2 i (by omega) (by omega) (fun q => by omega)⟩
def ZT : HI := fun _ _ => 0
theorem laws_tail {p : Program} {l : Launch} {e : Env} {s : State} {m : MethodId} {args : Array Value} {below : List Frame} {meth : Method} {c : Code} {g : GG} {ad ad1 : Nat → Nat} {R R1 : HR} {I I1 : HI} {J J1 : HJ} {k : Nat} {rk : Nat → Option Nat}
    (f0 : FO k 1 [some (k + 1), some (k + 6), some (k + 7), some (k + 8)] []) (f1 : oK (k + 1) = 15 ∧ oL (k + 1) = 4 ∧ k + 1 ≠ 99 ∧ oRs.getD (k + 1) [] = [some (k + 2), some (k + 3), some (k + 4), some (k + 5)] ∧ i0T.getD (k + 1) [] = [])
    (f2 : FA (k + 2) 11 200 [10006]) (f3 : FA (k + 3) 11 200 [10001, 4, 20047]) (f4 : FA (k + 4) 11 200 [10000, 100, 20062]) (f5 : FA (k + 5) 11 200 [10000, 5, 20047, 10001, 20043]) (f6 : FA (k + 6) 11 4 [1, 3, 3, 5]) (f7 : FA (k + 7) 13 4 []) (f8 : FA (k + 8) 11 32 []) (hkO : k < 90)
    (C : Cx p s m args meth c RX2 cX2_init 1 g (AZ ad (k + 1) s.heap.size)) (hr : meth.sig.returnType = none) (hAd : ∀ i, i < k + 1 → ad1 i = ad i) (hRF : true = true → ∀ i, i < k + 1 → i ≠ k → (k + 1 = 99 ∨ (oK i ≠ 9 ∧ oK i ≠ 7)) → R i = oR i)
    (hC : CS (fun i => i = k) ZT (k + 1) (k + 9) R I J R1 I1 J1) (hK : OP k R1 I1 J1 rk (fun _ => 0)) (hk9 : rk = oR k)
    (d1 : decode cX2_init 39 = .ok (.invokevirtual 27, 3)) (d2 : decode cX2_init 42 = .ok (.return_, 1)) :
    V p l e (RMc 4 90 8 844) s m args below meth c (MQ below (va_Qv (fun (u : KS) => (∀ i, i < k + 1 → u.1 i = ad i) ∧ (∀ i, i < k + 9 → AZ ad (k + 1) s.heap.size (u.1 i)) ∧ NI (k + 9) u.2.1 u.2.2.1 u.2.2.2 ∧ FIN (k + 1) k (k + 9) R I J u.2.1 u.2.2.1 u.2.2.2) (fun u t => WD g u.1 (k + 9) u.2.1 u.2.2.1 u.2.2.2 t) (AZ ad (k + 1) s.heap.size)) args s 8 844 (AZ ad (k + 1) s.heap.size)) 1 8 844 g (AZ ad (k + 1) s.heap.size) ad1 (k + 9) R1 I1 J1 39 [(0, .ref (ad1 k))] [.ref (ad1 k)] := by
  obtain ⟨I9, hq9, b1, b2, b3, b4⟩ := becomeAsAtFirst_s (k := k) (I := I1) (J := J1) f0.2.1
  have hR9 : ∀ a, a < k + 9 → (oK a ≠ 9 ∧ oK a ≠ 7) → R1 a = oR a := fun a ha ho => by
    by_cases e1 : a = k
    · subst e1; exact hK.1.trans hk9
    · by_cases e2 : a < k + 1
      · rw [(hC.2.2.1 a e2 e1).1]
        exact hRF rfl a e2 e1 (Or.inr ho)
      · exact (hC.2.2.2 a (by omega) ha e1).1
  have hrf : RF (k + 9) R1 := fun a ha hor => by
    have ho : oK a ≠ 9 ∧ oK a ≠ 7 := hor.elim id (fun q => absurd q (by show ¬ k + 9 = 123; omega))
    have h9 := hR9 a ha ho
    refine ⟨h9, fun j q hq => hC.1.1 a ha j q ?_⟩
    rw [h9]; exact hq
  refine r_cvv C (rest := []) (c_X2_becomeAsAtFirst (k := k) hrf ⟨f0.2.1, by omega⟩ hq9) fm_X2_becomeAsAtFirst lk_X2_27 (kd := 1) ⟨f0.2.1, by omega⟩ ⟨_, ct_1 f0.2.1⟩ rfl rfl ⟨rfl, rfl, (Nat.le_of_ble_eq_true rfl), (Nat.le_of_ble_eq_true rfl)⟩ (Nat.le_of_ble_eq_true rfl) rfl d1 ?_
  have hF : FIN (k + 1) k (k + 9) R I J R1 I9 J1 := by
    refine ⟨fun i h1 h2 => ?_, fun i h1 => ?_⟩
    · have h := hC.2.2.1 i h1 h2
      exact ⟨h.1, (b4 i (by omega)).trans h.2.1, h.2.2⟩
    · by_cases e1 : i = k
      · subst e1
        exact ⟨hK.1.trans hk9, (b4 _ (by omega)).trans (hK.2.1.trans (by rw [f0.i]; rfl)), hK.2.2⟩
      · have h := hC.2.2.2 i (by omega) (by omega) e1
        refine ⟨h.1, ?_, h.2.2⟩
        have hz : I1 i = fun _ => 0 := h.2.1
        have hi : i = k + 1 ∨ i = k + 2 ∨ i = k + 3 ∨ i = k + 4 ∨ i = k + 5 ∨ i = k + 6 ∨ i = k + 7 ∨ i = k + 8 := by omega
        rcases hi with rfl | rfl | rfl | rfl | rfl | rfl | rfl | rfl
        · rw [b4 _ (by omega), hz, I0_of f1.2.2.1 f1.2.2.2.2]; rfl
        · rw [b1 0 (by omega), hz, f2.i]; funext j; rcases j with _|j <;> simp [rowOf, stV]
        · rw [b1 1 (by omega), hz, f3.i]; funext j; rcases j with _|_|_|j <;> simp [rowOf, stV]
        · rw [b1 2 (by omega), hz, f4.i]; funext j; rcases j with _|_|_|j <;> simp [rowOf, stV]
        · rw [b1 3 (by omega), hz, f5.i]; funext j; rcases j with _|_|_|_|_|j <;> simp [rowOf, stV]
        · rw [f6.i]
          funext j
          by_cases hj : j < 4
          · rw [(b2 j hj).1]
            rcases j with _|_|_|_|j
            · rfl
            · rfl
            · rfl
            · rfl
            · omega
          · rw [(b3 j (by omega)).1, hz]
            rcases j with _|_|_|_|j <;> first | omega | simp
        · rw [f7.z]
          funext j
          by_cases hj : j < 4
          · exact (b2 j hj).2
          · rw [(b3 j (by omega)).2, hz]
        · rw [b4 _ (by omega), hz, f8.z]
  exact r_kret C hr hAd ⟨hC.1.1, fun a ha => by
    have h := hC.1.2 a ha
    exact ⟨h.1, (b4 a (by omega)).trans h.2.1, h.2.2⟩⟩ hF d2
theorem oRs_len : oRs.length = 123 := by decide +kernel
theorem oR_ge {a : Nat} (h : 123 ≤ a) : oR a = fun _ => none := by
  have e : oRs.getD a [] = [] := by
    rw [List.getD_eq_getElem?_getD, List.getElem?_eq_none (show oRs.length ≤ a by rw [oRs_len]; exact h)]
    rfl
  rw [oR_of e]
  rfl
theorem model_tail {p : Program} {l : Launch} {e : Env} {s : State} {m : MethodId} {args : Array Value} {below : List Frame} {meth : Method} {c : Code} {g : GG} {ad ad1 : Nat → Nat} {R R1 : HR} {I I1 : HI} {J J1 : HJ} {rk : Nat → Option Nat}
    (C : Cx p s m args meth c RX11 cX11_init 1 g (AZ ad 99 s.heap.size)) (hr : meth.sig.returnType = none) (hAd : ∀ i, i < 99 → ad1 i = ad i) (hRF : true = true → ∀ i, i < 99 → i ≠ 98 → (99 = 99 ∨ (oK i ≠ 9 ∧ oK i ≠ 7)) → R i = oR i)
    (hC : CS (fun i => i = 98 ∨ i = 99) I0 99 123 R I J R1 I1 J1) (hK : OP 98 R1 I1 J1 rk (fun _ => 0)) (hS : OP 99 R1 I1 J1 (fun _ => none) (upd (upd (fun _ => 0) 6 10) 8 1)) (hk9 : rk = oR 98)
    (d1 : decode cX11_init 349 = .ok (.invokevirtual 83, 3)) (d2 : decode cX11_init 352 = .ok (.return_, 1)) :
    V p l e (RMc 2 60 24 2429) s m args below meth c (MQ below (va_Qv (fun (u : KS) => (∀ i, i < 99 → u.1 i = ad i) ∧ (∀ i, i < 123 → AZ ad 99 s.heap.size (u.1 i)) ∧ NI 123 u.2.1 u.2.2.1 u.2.2.2 ∧ FIN 99 98 123 R I J u.2.1 u.2.2.1 u.2.2.2) (fun u t => WD g u.1 123 u.2.1 u.2.2.1 u.2.2.2 t) (AZ ad 99 s.heap.size)) args s 24 2429 (AZ ad 99 s.heap.size)) 1 24 2429 g (AZ ad 99 s.heap.size) ad1 123 R1 I1 J1 349 [(0, .ref (ad1 98))] [.ref (ad1 98)] := by
  obtain ⟨I9, hq9, b1, b2, b3, b4⟩ := mlaws_s (I := I1) (J := J1)
  have f98 : FO 98 10 [some 99, some 100, some 101, some 102, none, some 103, some 104, some 105, some 106, some 107, some 108, none, none, none, some 109, some 110, some 111, some 112, some 113, none, none, none, none, none, none, none, some 114, none, some 115, none, some 116, some 117, some 118, some 119, some 120, some 121, none, none, none, some 122, none, none] [] := by decide +kernel
  have hfin : ∀ a, a < 123 → R1 a = oR a := fun a ha => by
    by_cases e1 : a = 98
    · subst e1; exact hK.1.trans hk9
    · by_cases e2 : a = 99
      · subst e2; exact hS.1.trans (by rw [oR_of (show oRs.getD 99 [] = [] by decide +kernel)]; rfl)
      · by_cases e3 : a < 99
        · rw [(hC.2.2.1 a e3 (by omega)).1]
          exact hRF rfl a e3 e1 (Or.inl rfl)
        · exact (hC.2.2.2 a (by omega) ha (by omega)).1
  have hRR : R1 = oR := funext fun a => by
    by_cases ha : a < 123
    · exact hfin a ha
    · rw [(hC.1.2 a (by omega)).1]
      rw [oR_ge (by omega)]
  have hi : ∀ a, a ≠ 99 → I9 a = I1 a := fun a ha => funext fun j => b4 a j (Or.inl ha)
  have e103 : I1 103 = I0 103 := (hC.2.2.2 103 (by omega) (by omega) (by omega)).2.1
  have e104 : I1 104 = I0 104 := (hC.2.2.2 104 (by omega) (by omega) (by omega)).2.1
  have e105 : I1 105 = I0 105 := (hC.2.2.2 105 (by omega) (by omega) (by omega)).2.1
  rw [hRR]
  refine r_cvv C (rest := []) (c_X11_laws hq9) fm_X11_laws lk_X11_83 (kd := 10) o_98 ⟨_, ct_10 o_98.1⟩ rfl rfl ⟨rfl, rfl, (Nat.le_of_ble_eq_true rfl), (Nat.le_of_ble_eq_true rfl)⟩ (Nat.le_of_ble_eq_true rfl) rfl d1 ?_
  have h99 : I9 99 = I0 99 := by
    funext j
    show _ = if 99 = 99 then (if j = 6 then (10 : Int32) else if j = 8 then 1 else if j < 438 then 0 else if j < 446 then ([0, 1, 1, 4, 4, 7, 7, 12] : List Int32).getD (j - 438) 0 else ([10006, 10001, 4, 10014, 10000, 100, 10018, 10000, 5, 10014, 10001, 10011] : List Int32).getD (j - 446) 0) else (i0T.getD 99 []).getD j 0
    rw [if_pos rfl]
    by_cases h1 : j < 438
    · by_cases h11 : j = 11
      · subst h11; rw [b3]; decide
      · rw [b4 99 j (by omega), hS.2.1]
        unfold upd
        by_cases h8 : j = 8
        · subst h8; decide
        · rw [if_neg h8]
          by_cases h6 : j = 6
          · rw [if_pos h6, if_pos h6]
          · rw [if_neg h6, if_neg h6, if_neg h8, if_pos h1]
    · rw [if_neg (by omega), if_neg (by omega), if_neg h1]
      by_cases h2 : j < 446
      · rw [if_pos h2]
        have hb := b2 ((j - 438) / 2) (by omega)
        rw [e104, e105] at hb
        have hj : j = 438 ∨ j = 439 ∨ j = 440 ∨ j = 441 ∨ j = 442 ∨ j = 443 ∨ j = 444 ∨ j = 445 := by omega
        rcases hj with rfl | rfl | rfl | rfl | rfl | rfl | rfl | rfl
        · exact hb.1
        · exact hb.2
        · exact hb.1
        · exact hb.2
        · exact hb.1
        · exact hb.2
        · exact hb.1
        · exact hb.2
      · rw [if_neg h2]
        by_cases h3 : j < 666
        · have hb := b1 (j - 446) (by omega)
          rw [show 446 + (j - 446) = j by omega, e103] at hb
          rw [hb, I0_of (show 103 ≠ 99 by decide) (show i0T.getD 103 [] = [10006, 10001, 4, 10014, 10000, 100, 10018, 10000, 5, 10014, 10001, 10011] by decide +kernel)]
          by_cases h4 : j - 446 < 12
          · rw [if_pos h4]
          · rw [if_neg h4, List.getD_eq_getElem?_getD, List.getElem?_eq_none (by show 12 ≤ j - 446; omega)]
            rfl
        · rw [b4 99 j (by omega), hS.2.1]
          unfold upd
          rw [if_neg (by omega), if_neg (by omega), List.getD_eq_getElem?_getD, List.getElem?_eq_none (by show 12 ≤ j - 446; omega)]
          rfl
  have hF : FIN 99 98 123 R I J oR I9 J1 := by
    refine ⟨fun i h1 h2 => ?_, fun i h1 => ?_⟩
    · have h := hC.2.2.1 i h1 (by omega)
      exact ⟨by rw [← hRR]; exact h.1, (hi i (by omega)).trans h.2.1, h.2.2⟩
    · by_cases e1 : i = 98
      · subst e1
        exact ⟨rfl, (hi _ (by omega)).trans (hK.2.1.trans (by rw [f98.i]; rfl)), hK.2.2⟩
      · by_cases e2 : i = 99
        · subst e2
          exact ⟨rfl, h99, hS.2.2⟩
        · have h := hC.2.2.2 i (by omega) (by omega) (by omega)
          exact ⟨rfl, (hi _ e2).trans h.2.1, h.2.2⟩
  exact r_kret C hr hAd ⟨fun k hk j q h => oR_lt k j q h, fun a ha => by
    have h := hC.1.2 a ha
    exact ⟨by rw [← hRR]; exact h.1, (hi a (by omega)).trans h.2.1, h.2.2⟩⟩ hF d2
set_option maxHeartbeats 4000000 in
theorem c_X9_init {l : Launch} {g : GG} {k : Nat} (f0 : FO k 8 [some (k + 1)] []) (f1 : FA (k + 1) 11 60 []) : CK l yX9_init cX9_init 1 (RMc 1 22 1 60) 1 60 g (k + 1) k (k + 2) false := by
  refine CK_of (by decide +kernel) rfl (by decide) (fun p e s m args below meth c ad R I J hni hAO C hr hNI hkn hRF z1 z2 z3 => ?_)
  have hA0 : ∀ q, s.heap.size ≤ q → AZ ad (k + 1) s.heap.size q := fun q h => Or.inr h
  have hC : CS (fun i => i = k) (I0) (k + 1) (k + 1) R I J R I J := CS.start hNI
  have hK : OP k R I J (fun _ => none) (fun _ => 0) := ⟨z1, z2, z3⟩
  have hAd : ∀ i, i < k + 1 → ad i = ad i := fun _ _ => rfl
  refine r_aload_n C 0 rfl rfl dX9_init_0 ?_
  refine r_objInit C li_X9_1 (Nat.le_of_ble_eq_true rfl) (Nat.le_of_ble_eq_true rfl) dX9_init_1 ?_
  refine r_aload_n C 0 rfl rfl dX9_init_4 ?_
  refine r_bipush C (v := 60) (by decide) dX9_init_5 ?_
  refine r_newi C hA0 hC.1 (N := 60) f1.2.1 f1.2.2.1 (by decide) (by decide) (by decide) (Nat.le_of_ble_eq_true rfl) (Nat.le_of_ble_eq_true rfl) dX9_init_7 (fun ad1 he1 => ?_)
  rw [← he1 k (by omega)]
  have hAd : ∀ i, i < k + 1 → ad1 i = ad i := fun i hi => (he1 i (by omega)).trans (hAd i hi)
  have hC := CS.arr hC f1.r f1.z
  refine pR_X9_9 C hni (q := (k + 1)) ⟨f0.2.1, by omega⟩ dX9_init_9 ?_
  have hC := hC.sR (k := k) (j := 0) (q := (k + 1)) rfl (by omega) (by omega)
  have hK := hK.sR (j := 0) (q := (k + 1))
  refine r_wid (a := 1) (b := 60) (Nat.le_of_ble_eq_true rfl) (Nat.le_of_ble_eq_true rfl) ⟨(Nat.le_of_ble_eq_true rfl), (Nat.le_of_ble_eq_true rfl)⟩ ?_
  exact r_kret C hr hAd hC.1 (hC.fin (by omega) hK (by rw [(f0).r]; funext j; rcases j with _|j <;> simp [va_up]) (by rw [(f0).i]; rfl)) dX9_init_12
set_option maxHeartbeats 4000000 in
theorem c_X7_init {l : Launch} {g : GG} {k : Nat} (f0 : FO k 6 [some (k + 1)] [0, 0, 0, 0, 0, 0, 0, 10, 0, 1]) (f1 : FO (k + 1) 8 [some (k + 2)] []) (f2 : FA (k + 2) 11 60 []) : CK l yX7_init cX7_init 1 (RMc 2 60 2 62) 2 62 g (k + 1) k (k + 3) false := by
  refine CK_of (by decide +kernel) rfl (by decide) (fun p e s m args below meth c ad R I J hni hAO C hr hNI hkn hRF z1 z2 z3 => ?_)
  have hA0 : ∀ q, s.heap.size ≤ q → AZ ad (k + 1) s.heap.size q := fun q h => Or.inr h
  have hC : CS (fun i => i = k) (I0) (k + 1) (k + 1) R I J R I J := CS.start hNI
  have hK : OP k R I J (fun _ => none) (fun _ => 0) := ⟨z1, z2, z3⟩
  have hAd : ∀ i, i < k + 1 → ad i = ad i := fun _ _ => rfl
  refine r_aload_n C 0 rfl rfl dX7_init_0 ?_
  refine r_objInit C li_X7_1 (Nat.le_of_ble_eq_true rfl) (Nat.le_of_ble_eq_true rfl) dX7_init_1 ?_
  refine r_aload_n C 0 rfl rfl dX7_init_4 ?_
  have hz := hC.1.2 (k + 1) (Nat.le_refl _)
  have hN := hC.1.new
  refine nw_X9 C hA0 hC.1 f1.2.1 lc_X7_7 (Nat.le_of_ble_eq_true rfl) (Nat.le_of_ble_eq_true rfl) dX7_init_5 (fun ad1 he1 => ?_)
  rw [← he1 k (by omega)]
  have hAd : ∀ i, i < k + 1 → ad1 i = ad i := fun i hi => (he1 i (by omega)).trans (hAd i hi)
  refine r_dup C rfl dX7_init_8 ?_
  refine r_ckN C hAO hA0 hN (c_X9_init (g := g) (k := (k + 1)) f1 f2) fk_X9 rfl (by decide +kernel) nk_X7_9 (by omega) (fun h => nomatch h) hz ⟨rfl, rfl, (Nat.le_of_ble_eq_true rfl), (Nat.le_of_ble_eq_true rfl)⟩ (Nat.le_of_ble_eq_true rfl) (Nat.le_of_ble_eq_true rfl) (Nat.le_of_ble_eq_true rfl) dX7_init_9 (fun ad2 R2 I2 J2 he2 hN2 hF2 => ?_)
  rw [← he2 k (by omega)]
  rw [← he2 (k + 1) (by omega)]
  have hAd : ∀ i, i < k + 1 → ad2 i = ad i := fun i hi => (he2 i (by omega)).trans (hAd i hi)
  have hK := hK.call hF2 (by omega)
  have hC := hC.call hN2 hF2 (by omega) (fun _ _ _ => rfl)
  refine pR_X7_10 C hni (q := (k + 1)) ⟨f0.2.1, by omega⟩ dX7_init_12 ?_
  have hC := hC.sR (k := k) (j := 0) (q := (k + 1)) rfl (by omega) (by omega)
  have hK := hK.sR (j := 0) (q := (k + 1))
  refine r_aload_n C 0 rfl rfl dX7_init_15 ?_
  refine r_bipush C (v := 10) (by decide) dX7_init_16 ?_
  refine pf_X7_16 C ⟨f0.2.1, by omega⟩ dX7_init_18 ?_
  have hC := hC.sI (k := k) (j := 7) (v := 10) rfl (by omega)
  have hK := hK.sI (j := 7) (v := 10)
  refine r_aload_n C 0 rfl rfl dX7_init_21 ?_
  refine r_iconst C (v := 1) (by decide) dX7_init_22 ?_
  refine pf_X7_20 C ⟨f0.2.1, by omega⟩ dX7_init_23 ?_
  have hC := hC.sI (k := k) (j := 9) (v := 1) rfl (by omega)
  have hK := hK.sI (j := 9) (v := 1)
  refine r_wid (a := 2) (b := 62) (Nat.le_of_ble_eq_true rfl) (Nat.le_of_ble_eq_true rfl) ⟨(Nat.le_of_ble_eq_true rfl), (Nat.le_of_ble_eq_true rfl)⟩ ?_
  exact r_kret C hr hAd hC.1 (hC.fin (by omega) hK (by rw [(f0).r]; funext j; rcases j with _|j <;> simp [va_up]) (by rw [(f0).i]; funext j; rcases j with _|_|_|_|_|_|_|_|_|_|j <;> simp [upd])) dX7_init_26
set_option maxHeartbeats 4000000 in
theorem c_X2_init {l : Launch} {g : GG} {k : Nat} (f0 : FO k 1 [some (k + 1), some (k + 6), some (k + 7), some (k + 8)] []) (f1 : oK (k + 1) = 15 ∧ oL (k + 1) = 4 ∧ (k + 1) ≠ 99 ∧ oRs.getD (k + 1) [] = [some (k + 2), some (k + 3), some (k + 4), some (k + 5)] ∧ i0T.getD (k + 1) [] = []) (f2 : FA (k + 2) 11 200 [10006]) (f3 : FA (k + 3) 11 200 [10001, 4, 20047]) (f4 : FA (k + 4) 11 200 [10000, 100, 20062]) (f5 : FA (k + 5) 11 200 [10000, 5, 20047, 10001, 20043]) (f6 : FA (k + 6) 11 4 [1, 3, 3, 5]) (f7 : FA (k + 7) 13 4 []) (f8 : FA (k + 8) 11 32 []) (hkO : k < 90) : CK l yX2_init cX2_init 1 (RMc 4 90 8 844) 8 844 g (k + 1) k (k + 9) true := by
  refine CK_of (by decide +kernel) rfl (by decide) (fun p e s m args below meth c ad R I J hni hAO C hr hNI hkn hRF z1 z2 z3 => ?_)
  have hA0 : ∀ q, s.heap.size ≤ q → AZ ad (k + 1) s.heap.size q := fun q h => Or.inr h
  have hC : CS (fun i => i = k) (ZT) (k + 1) (k + 1) R I J R I J := CS.start hNI
  have hK : OP k R I J (fun _ => none) (fun _ => 0) := ⟨z1, z2, z3⟩
  have hAd : ∀ i, i < k + 1 → ad i = ad i := fun _ _ => rfl
  refine r_aload_n C 0 rfl rfl dX2_init_0 ?_
  refine r_objInit C li_X2_3 (Nat.le_of_ble_eq_true rfl) (Nat.le_of_ble_eq_true rfl) dX2_init_1 ?_
  refine r_aload_n C 0 rfl rfl dX2_init_4 ?_
  refine r_iconst C (v := 4) (by decide) dX2_init_5 ?_
  refine r_sipush C (v := 200) (by decide) dX2_init_6 ?_
  have hin : ∀ i, i < 4 → oK (k + 1 + 1 + i) = 11 ∧ oL (k + 1 + 1 + i) = 200 ∧ oR (k + 1 + 1 + i) = (fun _ => none) ∧ ZT (k + 1 + 1 + i) = fun _ => 0 := by
    intro i hi
    rcases i with _|_|_|_|i
    · exact ⟨f2.2.1, f2.2.2.1, f2.r, rfl⟩
    · exact ⟨f3.2.1, f3.2.2.1, f3.r, rfl⟩
    · exact ⟨f4.2.1, f4.2.2.1, f4.r, rfl⟩
    · exact ⟨f5.2.1, f5.2.2.1, f5.r, rfl⟩
    · omega
  refine r_mna C hAO hA0 hC.1 (N := 4) (M := 200) f1.1 f1.2.1 (fun i hi => ⟨(hin i hi).1, (hin i hi).2.1⟩) (by decide) (by decide) (by decide) (by decide) (by decide) (by decide) (by decide) lc_X2_11 (Nat.le_of_ble_eq_true rfl) (Nat.le_of_ble_eq_true rfl) dX2_init_9 (fun ad1 he1 => ?_)
  rw [← he1 k (by omega)]
  have hAd : ∀ i, i < k + 1 → ad1 i = ad i := fun i hi => (he1 i (by omega)).trans (hAd i hi)
  have hro : oR (k + 1) = fun i => if i < 4 then some (k + 1 + 1 + i) else none := by
    rw [oR_of f1.2.2.2.1]
    funext j
    rcases j with _|_|_|_|j
    · rfl
    · rfl
    · rfl
    · rfl
    · show none = if j + 4 < 4 then _ else none
      rw [if_neg (by omega)]
  have hC := hC.rows hro rfl (fun i hi => (hin i hi).2.2)
  have hK := hK.rows (n' := k + 1) (x := fun i => if i < 4 then some (k + 1 + 1 + i) else none) (by omega)
  refine pR_X2_13 C hni (q := (k + 1)) ⟨f0.2.1, by omega⟩ dX2_init_13 ?_
  have hC := hC.sR (k := k) (j := 0) (q := (k + 1)) rfl (by omega) (by omega)
  have hK := hK.sR (j := 0) (q := (k + 1))
  refine r_aload_n C 0 rfl rfl dX2_init_16 ?_
  refine r_iconst C (v := 4) (by decide) dX2_init_17 ?_
  refine r_newi C hA0 hC.1 (N := 4) f6.2.1 f6.2.2.1 (by decide) (by decide) (by decide) (Nat.le_of_ble_eq_true rfl) (Nat.le_of_ble_eq_true rfl) dX2_init_18 (fun ad2 he2 => ?_)
  rw [← he2 k (by omega)]
  have hAd : ∀ i, i < k + 1 → ad2 i = ad i := fun i hi => (he2 i (by omega)).trans (hAd i hi)
  have hC := CS.arr hC f6.r rfl
  refine pR_X2_16 C hni (q := (k + 6)) ⟨f0.2.1, by omega⟩ dX2_init_20 ?_
  have hC := hC.sR (k := k) (j := 1) (q := (k + 6)) rfl (by omega) (by omega)
  have hK := hK.sR (j := 1) (q := (k + 6))
  refine r_aload_n C 0 rfl rfl dX2_init_23 ?_
  refine r_iconst C (v := 4) (by decide) dX2_init_24 ?_
  refine r_newz C hA0 hC.1 (N := 4) f7.2.1 f7.2.2.1 (by decide) (by decide) (by decide) (Nat.le_of_ble_eq_true rfl) (Nat.le_of_ble_eq_true rfl) dX2_init_25 (fun ad3 he3 => ?_)
  rw [← he3 k (by omega)]
  have hAd : ∀ i, i < k + 1 → ad3 i = ad i := fun i hi => (he3 i (by omega)).trans (hAd i hi)
  have hC := CS.arr hC f7.r rfl
  refine pR_X2_20 C hni (q := (k + 7)) ⟨f0.2.1, by omega⟩ dX2_init_27 ?_
  have hC := hC.sR (k := k) (j := 2) (q := (k + 7)) rfl (by omega) (by omega)
  have hK := hK.sR (j := 2) (q := (k + 7))
  refine r_aload_n C 0 rfl rfl dX2_init_30 ?_
  refine r_bipush C (v := 32) (by decide) dX2_init_31 ?_
  refine r_newi C hA0 hC.1 (N := 32) f8.2.1 f8.2.2.1 (by decide) (by decide) (by decide) (Nat.le_of_ble_eq_true rfl) (Nat.le_of_ble_eq_true rfl) dX2_init_33 (fun ad4 he4 => ?_)
  rw [← he4 k (by omega)]
  have hAd : ∀ i, i < k + 1 → ad4 i = ad i := fun i hi => (he4 i (by omega)).trans (hAd i hi)
  have hC := CS.arr hC f8.r rfl
  refine pR_X2_24 C hni (q := (k + 8)) ⟨f0.2.1, by omega⟩ dX2_init_35 ?_
  have hC := hC.sR (k := k) (j := 3) (q := (k + 8)) rfl (by omega) (by omega)
  have hK := hK.sR (j := 3) (q := (k + 8))
  refine r_aload_n C 0 rfl rfl dX2_init_38 ?_
  have hk9 : (va_up (va_up (va_up (va_up (fun _ => none) 0 (some (k + 1))) 1 (some (k + 6))) 2 (some (k + 7))) 3 (some (k + 8)) : Nat → Option Nat) = oR k := by
    rw [f0.r]
    funext j
    rcases j with _|_|_|_|j <;> simp [va_up]
  have hRk := hK.1.trans hk9
  refine r_pc (pc1 := 39) rfl ?_
  refine r_wid (a := 8) (b := 844) (Nat.le_of_ble_eq_true rfl) (Nat.le_of_ble_eq_true rfl) ⟨(Nat.le_of_ble_eq_true rfl), (Nat.le_of_ble_eq_true rfl)⟩ ?_
  exact laws_tail f0 f1 f2 f3 f4 f5 f6 f7 f8 hkO C hr hAd hRF hC hK hk9 dX2_init_39 dX2_init_42
set_option maxHeartbeats 4000000 in
theorem c_X4_init {l : Launch} {g : GG} {k : Nat} (f0 : FO k 3 [some (k + 1)] []) (f1 : oK (k + 1) = 14 ∧ oL (k + 1) = 6 ∧ (k + 1) ≠ 99 ∧ oRs.getD (k + 1) [] = [some (k + 2), some (k + 4), some (k + 6), some (k + 8), some (k + 10), some (k + 12)] ∧ i0T.getD (k + 1) [] = []) (f2 : FO (k + 2) 8 [some (k + 3)] []) (f3 : FA (k + 3) 11 60 []) (f4 : FO (k + 4) 8 [some (k + 5)] []) (f5 : FA (k + 5) 11 60 []) (f6 : FO (k + 6) 8 [some (k + 7)] []) (f7 : FA (k + 7) 11 60 []) (f8 : FO (k + 8) 8 [some (k + 9)] []) (f9 : FA (k + 9) 11 60 []) (f10 : FO (k + 10) 8 [some (k + 11)] []) (f11 : FA (k + 11) 11 60 []) (f12 : FO (k + 12) 8 [some (k + 13)] []) (f13 : FA (k + 13) 11 60 []) : CK l yX4_init cX4_init 2 (RMc 2 70 13 378) 13 378 g (k + 1) k (k + 14) false := by
  refine CK_of (by decide +kernel) rfl (by decide) (fun p e s m args below meth c ad R I J hni hAO C hr hNI hkn hRF z1 z2 z3 => ?_)
  have hA0 : ∀ q, s.heap.size ≤ q → AZ ad (k + 1) s.heap.size q := fun q h => Or.inr h
  have hC : CS (fun i => i = k ∨ i = k + 1) (I0) (k + 1) (k + 1) R I J R I J := CS.start hNI
  have hK : OP k R I J (fun _ => none) (fun _ => 0) := ⟨z1, z2, z3⟩
  have hAd : ∀ i, i < k + 1 → ad i = ad i := fun _ _ => rfl
  refine r_aload_n C 0 rfl rfl dX4_init_0 ?_
  refine r_objInit C li_X4_1 (Nat.le_of_ble_eq_true rfl) (Nat.le_of_ble_eq_true rfl) dX4_init_1 ?_
  refine r_aload_n C 0 rfl rfl dX4_init_4 ?_
  refine r_bipush C (v := 6) (by decide) dX4_init_5 ?_
  have hA := OP.opn hC.1
  refine r_newT C hAO hA0 hC.1 (N := 6) f1.1 f1.2.1 (by decide) (by decide) (by decide) lc_X4_9 (Nat.le_of_ble_eq_true rfl) (Nat.le_of_ble_eq_true rfl) dX4_init_7 (fun ad1 he1 => ?_)
  rw [← he1 k (by omega)]
  have hAd : ∀ i, i < k + 1 → ad1 i = ad i := fun i hi => (he1 i (by omega)).trans (hAd i hi)
  have hC := hC.opn (Or.inr rfl)
  refine pR_X4_11 C hni (q := (k + 1)) ⟨f0.2.1, by omega⟩ dX4_init_10 ?_
  have hC := hC.sR (k := k) (j := 0) (q := (k + 1)) (Or.inl rfl) (by omega) (by omega)
  have hK := hK.sR (j := 0) (q := (k + 1))
  have hA := hA.sRne (j := 0) (q := (k + 1)) (a := k) (by omega)
  refine r_iconst C (v := 0) (by decide) dX4_init_13 ?_
  refine r_istore_n C (lv1 := [(1, .int 0), (0, .ref (ad1 k))]) rfl (by decide) rfl dX4_init_14 ?_
  refine r_iload_n C 0 rfl rfl dX4_init_15 ?_
  refine r_bipush C (v := 6) (by decide) dX4_init_16 ?_
  refine r_icmp_ge C (tgt := 40) (XA := 0) (XB := 1) (z := 1) (by decide) dX4_init_18 (by decide) (fun h => absurd h (by decide)) (fun _ => ?_)
  refine r_aload_n C 1 rfl rfl dX4_init_21 ?_
  refine r_getf C (v := .ref (ad1 (k + 1))) (by omega) (ct_3 f0.2.1) rfl in_X4 0 (by decide) rfl lk_X4_11 (congrArg (fun (q : Nat → Option Nat) => some (va_re ad1 (q 0))) hK.1) dX4_init_22 ?_
  refine r_iload_n C 0 rfl rfl dX4_init_25 ?_
  have hz := hC.1.2 (k + 2) (Nat.le_refl _)
  have hN := hC.1.new
  refine nw_X9 C hA0 hC.1 f2.2.1 lc_X4_9 (Nat.le_of_ble_eq_true rfl) (Nat.le_of_ble_eq_true rfl) dX4_init_26 (fun ad2 he2 => ?_)
  rw [← he2 k (by omega)]
  rw [← he2 (k + 1) (by omega)]
  have hAd : ∀ i, i < k + 1 → ad2 i = ad i := fun i hi => (he2 i (by omega)).trans (hAd i hi)
  refine r_dup C rfl dX4_init_29 ?_
  refine r_ckN C hAO hA0 hN (c_X9_init (g := g) (k := (k + 2)) f2 f3) fk_X9 rfl (by decide +kernel) nk_X4_15 (by omega) (fun h => nomatch h) hz ⟨rfl, rfl, (Nat.le_of_ble_eq_true rfl), (Nat.le_of_ble_eq_true rfl)⟩ (Nat.le_of_ble_eq_true rfl) (Nat.le_of_ble_eq_true rfl) (Nat.le_of_ble_eq_true rfl) dX4_init_30 (fun ad3 R3 I3 J3 he3 hN3 hF3 => ?_)
  rw [← he3 k (by omega)]
  rw [← he3 (k + 1) (by omega)]
  rw [← he3 (k + 2) (by omega)]
  have hAd : ∀ i, i < k + 1 → ad3 i = ad i := fun i hi => (he3 i (by omega)).trans (hAd i hi)
  have hA := hA.call hF3 (by omega)
  have hK := hK.call hF3 (by omega)
  have hC := hC.call hN3 hF3 (by omega) (fun _ _ _ => rfl)
  refine r_aastT C (N := 6) ⟨f1.1, by omega, f1.2.1⟩ ⟨f2.2.1, by omega⟩ (vin_in (by decide)) dX4_init_33 ?_
  rw [show Int32.toNatClampNeg 0 = 0 from by decide]
  have hC := hC.sR (k := (k + 1)) (j := 0) (q := (k + 2)) (Or.inr rfl) (by omega) (by omega)
  have hA := hA.sR (j := 0) (q := (k + 2))
  have hK := hK.sRne (j := 0) (q := (k + 2)) (a := (k + 1)) (by omega)
  refine r_iinc C (v := 1) (k := 0) (lv1 := [(1, .int 1), (0, .ref (ad3 k))]) rfl (by decide) (by decide) rfl dX4_init_34 ?_
  refine r_goto C (tgt := 15) dX4_init_37 (by decide) ?_
  refine r_iload_n C 0 rfl rfl dX4_init_15 ?_
  refine r_bipush C (v := 6) (by decide) dX4_init_16 ?_
  refine r_icmp_ge C (tgt := 40) (XA := 0) (XB := 1) (z := 1) (by decide) dX4_init_18 (by decide) (fun h => absurd h (by decide)) (fun _ => ?_)
  refine r_aload_n C 1 rfl rfl dX4_init_21 ?_
  refine r_getf C (v := .ref (ad3 (k + 1))) (by omega) (ct_3 f0.2.1) rfl in_X4 0 (by decide) rfl lk_X4_11 (congrArg (fun (q : Nat → Option Nat) => some (va_re ad3 (q 0))) hK.1) dX4_init_22 ?_
  refine r_iload_n C 0 rfl rfl dX4_init_25 ?_
  have hz := hC.1.2 (k + 4) (Nat.le_refl _)
  have hN := hC.1.new
  refine nw_X9 C hA0 hC.1 f4.2.1 lc_X4_9 (Nat.le_of_ble_eq_true rfl) (Nat.le_of_ble_eq_true rfl) dX4_init_26 (fun ad4 he4 => ?_)
  rw [← he4 k (by omega)]
  rw [← he4 (k + 1) (by omega)]
  have hAd : ∀ i, i < k + 1 → ad4 i = ad i := fun i hi => (he4 i (by omega)).trans (hAd i hi)
  refine r_dup C rfl dX4_init_29 ?_
  refine r_ckN C hAO hA0 hN (c_X9_init (g := g) (k := (k + 4)) f4 f5) fk_X9 rfl (by decide +kernel) nk_X4_15 (by omega) (fun h => nomatch h) hz ⟨rfl, rfl, (Nat.le_of_ble_eq_true rfl), (Nat.le_of_ble_eq_true rfl)⟩ (Nat.le_of_ble_eq_true rfl) (Nat.le_of_ble_eq_true rfl) (Nat.le_of_ble_eq_true rfl) dX4_init_30 (fun ad5 R5 I5 J5 he5 hN5 hF5 => ?_)
  rw [← he5 k (by omega)]
  rw [← he5 (k + 1) (by omega)]
  rw [← he5 (k + 4) (by omega)]
  have hAd : ∀ i, i < k + 1 → ad5 i = ad i := fun i hi => (he5 i (by omega)).trans (hAd i hi)
  have hA := hA.call hF5 (by omega)
  have hK := hK.call hF5 (by omega)
  have hC := hC.call hN5 hF5 (by omega) (fun _ _ _ => rfl)
  refine r_aastT C (N := 6) ⟨f1.1, by omega, f1.2.1⟩ ⟨f4.2.1, by omega⟩ (vin_in (by decide)) dX4_init_33 ?_
  rw [show Int32.toNatClampNeg 1 = 1 from by decide]
  have hC := hC.sR (k := (k + 1)) (j := 1) (q := (k + 4)) (Or.inr rfl) (by omega) (by omega)
  have hA := hA.sR (j := 1) (q := (k + 4))
  have hK := hK.sRne (j := 1) (q := (k + 4)) (a := (k + 1)) (by omega)
  refine r_iinc C (v := 2) (k := 0) (lv1 := [(1, .int 2), (0, .ref (ad5 k))]) rfl (by decide) (by decide) rfl dX4_init_34 ?_
  refine r_goto C (tgt := 15) dX4_init_37 (by decide) ?_
  refine r_iload_n C 0 rfl rfl dX4_init_15 ?_
  refine r_bipush C (v := 6) (by decide) dX4_init_16 ?_
  refine r_icmp_ge C (tgt := 40) (XA := 0) (XB := 1) (z := 1) (by decide) dX4_init_18 (by decide) (fun h => absurd h (by decide)) (fun _ => ?_)
  refine r_aload_n C 1 rfl rfl dX4_init_21 ?_
  refine r_getf C (v := .ref (ad5 (k + 1))) (by omega) (ct_3 f0.2.1) rfl in_X4 0 (by decide) rfl lk_X4_11 (congrArg (fun (q : Nat → Option Nat) => some (va_re ad5 (q 0))) hK.1) dX4_init_22 ?_
  refine r_iload_n C 0 rfl rfl dX4_init_25 ?_
  have hz := hC.1.2 (k + 6) (Nat.le_refl _)
  have hN := hC.1.new
  refine nw_X9 C hA0 hC.1 f6.2.1 lc_X4_9 (Nat.le_of_ble_eq_true rfl) (Nat.le_of_ble_eq_true rfl) dX4_init_26 (fun ad6 he6 => ?_)
  rw [← he6 k (by omega)]
  rw [← he6 (k + 1) (by omega)]
  have hAd : ∀ i, i < k + 1 → ad6 i = ad i := fun i hi => (he6 i (by omega)).trans (hAd i hi)
  refine r_dup C rfl dX4_init_29 ?_
  refine r_ckN C hAO hA0 hN (c_X9_init (g := g) (k := (k + 6)) f6 f7) fk_X9 rfl (by decide +kernel) nk_X4_15 (by omega) (fun h => nomatch h) hz ⟨rfl, rfl, (Nat.le_of_ble_eq_true rfl), (Nat.le_of_ble_eq_true rfl)⟩ (Nat.le_of_ble_eq_true rfl) (Nat.le_of_ble_eq_true rfl) (Nat.le_of_ble_eq_true rfl) dX4_init_30 (fun ad7 R7 I7 J7 he7 hN7 hF7 => ?_)
  rw [← he7 k (by omega)]
  rw [← he7 (k + 1) (by omega)]
  rw [← he7 (k + 6) (by omega)]
  have hAd : ∀ i, i < k + 1 → ad7 i = ad i := fun i hi => (he7 i (by omega)).trans (hAd i hi)
  have hA := hA.call hF7 (by omega)
  have hK := hK.call hF7 (by omega)
  have hC := hC.call hN7 hF7 (by omega) (fun _ _ _ => rfl)
  refine r_aastT C (N := 6) ⟨f1.1, by omega, f1.2.1⟩ ⟨f6.2.1, by omega⟩ (vin_in (by decide)) dX4_init_33 ?_
  rw [show Int32.toNatClampNeg 2 = 2 from by decide]
  have hC := hC.sR (k := (k + 1)) (j := 2) (q := (k + 6)) (Or.inr rfl) (by omega) (by omega)
  have hA := hA.sR (j := 2) (q := (k + 6))
  have hK := hK.sRne (j := 2) (q := (k + 6)) (a := (k + 1)) (by omega)
  refine r_iinc C (v := 3) (k := 0) (lv1 := [(1, .int 3), (0, .ref (ad7 k))]) rfl (by decide) (by decide) rfl dX4_init_34 ?_
  refine r_goto C (tgt := 15) dX4_init_37 (by decide) ?_
  refine r_iload_n C 0 rfl rfl dX4_init_15 ?_
  refine r_bipush C (v := 6) (by decide) dX4_init_16 ?_
  refine r_icmp_ge C (tgt := 40) (XA := 0) (XB := 1) (z := 1) (by decide) dX4_init_18 (by decide) (fun h => absurd h (by decide)) (fun _ => ?_)
  refine r_aload_n C 1 rfl rfl dX4_init_21 ?_
  refine r_getf C (v := .ref (ad7 (k + 1))) (by omega) (ct_3 f0.2.1) rfl in_X4 0 (by decide) rfl lk_X4_11 (congrArg (fun (q : Nat → Option Nat) => some (va_re ad7 (q 0))) hK.1) dX4_init_22 ?_
  refine r_iload_n C 0 rfl rfl dX4_init_25 ?_
  have hz := hC.1.2 (k + 8) (Nat.le_refl _)
  have hN := hC.1.new
  refine nw_X9 C hA0 hC.1 f8.2.1 lc_X4_9 (Nat.le_of_ble_eq_true rfl) (Nat.le_of_ble_eq_true rfl) dX4_init_26 (fun ad8 he8 => ?_)
  rw [← he8 k (by omega)]
  rw [← he8 (k + 1) (by omega)]
  have hAd : ∀ i, i < k + 1 → ad8 i = ad i := fun i hi => (he8 i (by omega)).trans (hAd i hi)
  refine r_dup C rfl dX4_init_29 ?_
  refine r_ckN C hAO hA0 hN (c_X9_init (g := g) (k := (k + 8)) f8 f9) fk_X9 rfl (by decide +kernel) nk_X4_15 (by omega) (fun h => nomatch h) hz ⟨rfl, rfl, (Nat.le_of_ble_eq_true rfl), (Nat.le_of_ble_eq_true rfl)⟩ (Nat.le_of_ble_eq_true rfl) (Nat.le_of_ble_eq_true rfl) (Nat.le_of_ble_eq_true rfl) dX4_init_30 (fun ad9 R9 I9 J9 he9 hN9 hF9 => ?_)
  rw [← he9 k (by omega)]
  rw [← he9 (k + 1) (by omega)]
  rw [← he9 (k + 8) (by omega)]
  have hAd : ∀ i, i < k + 1 → ad9 i = ad i := fun i hi => (he9 i (by omega)).trans (hAd i hi)
  have hA := hA.call hF9 (by omega)
  have hK := hK.call hF9 (by omega)
  have hC := hC.call hN9 hF9 (by omega) (fun _ _ _ => rfl)
  refine r_aastT C (N := 6) ⟨f1.1, by omega, f1.2.1⟩ ⟨f8.2.1, by omega⟩ (vin_in (by decide)) dX4_init_33 ?_
  rw [show Int32.toNatClampNeg 3 = 3 from by decide]
  have hC := hC.sR (k := (k + 1)) (j := 3) (q := (k + 8)) (Or.inr rfl) (by omega) (by omega)
  have hA := hA.sR (j := 3) (q := (k + 8))
  have hK := hK.sRne (j := 3) (q := (k + 8)) (a := (k + 1)) (by omega)
  refine r_iinc C (v := 4) (k := 0) (lv1 := [(1, .int 4), (0, .ref (ad9 k))]) rfl (by decide) (by decide) rfl dX4_init_34 ?_
  refine r_goto C (tgt := 15) dX4_init_37 (by decide) ?_
  refine r_iload_n C 0 rfl rfl dX4_init_15 ?_
  refine r_bipush C (v := 6) (by decide) dX4_init_16 ?_
  refine r_icmp_ge C (tgt := 40) (XA := 0) (XB := 1) (z := 1) (by decide) dX4_init_18 (by decide) (fun h => absurd h (by decide)) (fun _ => ?_)
  refine r_aload_n C 1 rfl rfl dX4_init_21 ?_
  refine r_getf C (v := .ref (ad9 (k + 1))) (by omega) (ct_3 f0.2.1) rfl in_X4 0 (by decide) rfl lk_X4_11 (congrArg (fun (q : Nat → Option Nat) => some (va_re ad9 (q 0))) hK.1) dX4_init_22 ?_
  refine r_iload_n C 0 rfl rfl dX4_init_25 ?_
  have hz := hC.1.2 (k + 10) (Nat.le_refl _)
  have hN := hC.1.new
  refine nw_X9 C hA0 hC.1 f10.2.1 lc_X4_9 (Nat.le_of_ble_eq_true rfl) (Nat.le_of_ble_eq_true rfl) dX4_init_26 (fun ad10 he10 => ?_)
  rw [← he10 k (by omega)]
  rw [← he10 (k + 1) (by omega)]
  have hAd : ∀ i, i < k + 1 → ad10 i = ad i := fun i hi => (he10 i (by omega)).trans (hAd i hi)
  refine r_dup C rfl dX4_init_29 ?_
  refine r_ckN C hAO hA0 hN (c_X9_init (g := g) (k := (k + 10)) f10 f11) fk_X9 rfl (by decide +kernel) nk_X4_15 (by omega) (fun h => nomatch h) hz ⟨rfl, rfl, (Nat.le_of_ble_eq_true rfl), (Nat.le_of_ble_eq_true rfl)⟩ (Nat.le_of_ble_eq_true rfl) (Nat.le_of_ble_eq_true rfl) (Nat.le_of_ble_eq_true rfl) dX4_init_30 (fun ad11 R11 I11 J11 he11 hN11 hF11 => ?_)
  rw [← he11 k (by omega)]
  rw [← he11 (k + 1) (by omega)]
  rw [← he11 (k + 10) (by omega)]
  have hAd : ∀ i, i < k + 1 → ad11 i = ad i := fun i hi => (he11 i (by omega)).trans (hAd i hi)
  have hA := hA.call hF11 (by omega)
  have hK := hK.call hF11 (by omega)
  have hC := hC.call hN11 hF11 (by omega) (fun _ _ _ => rfl)
  refine r_aastT C (N := 6) ⟨f1.1, by omega, f1.2.1⟩ ⟨f10.2.1, by omega⟩ (vin_in (by decide)) dX4_init_33 ?_
  rw [show Int32.toNatClampNeg 4 = 4 from by decide]
  have hC := hC.sR (k := (k + 1)) (j := 4) (q := (k + 10)) (Or.inr rfl) (by omega) (by omega)
  have hA := hA.sR (j := 4) (q := (k + 10))
  have hK := hK.sRne (j := 4) (q := (k + 10)) (a := (k + 1)) (by omega)
  refine r_iinc C (v := 5) (k := 0) (lv1 := [(1, .int 5), (0, .ref (ad11 k))]) rfl (by decide) (by decide) rfl dX4_init_34 ?_
  refine r_goto C (tgt := 15) dX4_init_37 (by decide) ?_
  refine r_iload_n C 0 rfl rfl dX4_init_15 ?_
  refine r_bipush C (v := 6) (by decide) dX4_init_16 ?_
  refine r_icmp_ge C (tgt := 40) (XA := 0) (XB := 1) (z := 1) (by decide) dX4_init_18 (by decide) (fun h => absurd h (by decide)) (fun _ => ?_)
  refine r_aload_n C 1 rfl rfl dX4_init_21 ?_
  refine r_getf C (v := .ref (ad11 (k + 1))) (by omega) (ct_3 f0.2.1) rfl in_X4 0 (by decide) rfl lk_X4_11 (congrArg (fun (q : Nat → Option Nat) => some (va_re ad11 (q 0))) hK.1) dX4_init_22 ?_
  refine r_iload_n C 0 rfl rfl dX4_init_25 ?_
  have hz := hC.1.2 (k + 12) (Nat.le_refl _)
  have hN := hC.1.new
  refine nw_X9 C hA0 hC.1 f12.2.1 lc_X4_9 (Nat.le_of_ble_eq_true rfl) (Nat.le_of_ble_eq_true rfl) dX4_init_26 (fun ad12 he12 => ?_)
  rw [← he12 k (by omega)]
  rw [← he12 (k + 1) (by omega)]
  have hAd : ∀ i, i < k + 1 → ad12 i = ad i := fun i hi => (he12 i (by omega)).trans (hAd i hi)
  refine r_dup C rfl dX4_init_29 ?_
  refine r_ckN C hAO hA0 hN (c_X9_init (g := g) (k := (k + 12)) f12 f13) fk_X9 rfl (by decide +kernel) nk_X4_15 (by omega) (fun h => nomatch h) hz ⟨rfl, rfl, (Nat.le_of_ble_eq_true rfl), (Nat.le_of_ble_eq_true rfl)⟩ (Nat.le_of_ble_eq_true rfl) (Nat.le_of_ble_eq_true rfl) (Nat.le_of_ble_eq_true rfl) dX4_init_30 (fun ad13 R13 I13 J13 he13 hN13 hF13 => ?_)
  rw [← he13 k (by omega)]
  rw [← he13 (k + 1) (by omega)]
  rw [← he13 (k + 12) (by omega)]
  have hAd : ∀ i, i < k + 1 → ad13 i = ad i := fun i hi => (he13 i (by omega)).trans (hAd i hi)
  have hA := hA.call hF13 (by omega)
  have hK := hK.call hF13 (by omega)
  have hC := hC.call hN13 hF13 (by omega) (fun _ _ _ => rfl)
  refine r_aastT C (N := 6) ⟨f1.1, by omega, f1.2.1⟩ ⟨f12.2.1, by omega⟩ (vin_in (by decide)) dX4_init_33 ?_
  rw [show Int32.toNatClampNeg 5 = 5 from by decide]
  have hC := hC.sR (k := (k + 1)) (j := 5) (q := (k + 12)) (Or.inr rfl) (by omega) (by omega)
  have hA := hA.sR (j := 5) (q := (k + 12))
  have hK := hK.sRne (j := 5) (q := (k + 12)) (a := (k + 1)) (by omega)
  refine r_iinc C (v := 6) (k := 0) (lv1 := [(1, .int 6), (0, .ref (ad13 k))]) rfl (by decide) (by decide) rfl dX4_init_34 ?_
  refine r_goto C (tgt := 15) dX4_init_37 (by decide) ?_
  refine r_iload_n C 0 rfl rfl dX4_init_15 ?_
  refine r_bipush C (v := 6) (by decide) dX4_init_16 ?_
  refine r_icmp_ge C (tgt := 40) (XA := 0) (XB := 1) (z := 0) (by decide) dX4_init_18 (by decide) (fun _ => ?_) (fun h => absurd h (by decide))
  refine r_wid (a := 13) (b := 378) (Nat.le_of_ble_eq_true rfl) (Nat.le_of_ble_eq_true rfl) ⟨(Nat.le_of_ble_eq_true rfl), (Nat.le_of_ble_eq_true rfl)⟩ ?_
  have hFF : FIN (k + 1) k (k + 14) R I J _ _ _ := FIN_two hC (by omega) hK hA (by rw [f0.r]; funext j; rcases j with _|j <;> simp [va_up]) (by rw [f0.i]; rfl) (by rw [oR_of f1.2.2.2.1]; funext j; rcases j with _|_|_|_|_|_|j <;> simp [va_up]) (by rw [I0_of f1.2.2.1 f1.2.2.2.2]; rfl)
  exact r_kret C hr hAd hC.1 hFF dX4_init_40
set_option maxHeartbeats 4000000 in
theorem c_X8_init {l : Launch} {g : GG} {k : Nat} (f0 : FO k 7 [some (k + 1), some (k + 10)] []) (f1 : FO (k + 1) 1 [some (k + 2), some (k + 7), some (k + 8), some (k + 9)] []) (f2 : oK (k + 2) = 15 ∧ oL (k + 2) = 4 ∧ (k + 2) ≠ 99 ∧ oRs.getD (k + 2) [] = [some (k + 3), some (k + 4), some (k + 5), some (k + 6)] ∧ i0T.getD (k + 2) [] = []) (f3 : FA (k + 3) 11 200 [10006]) (f4 : FA (k + 4) 11 200 [10001, 4, 20047]) (f5 : FA (k + 5) 11 200 [10000, 100, 20062]) (f6 : FA (k + 6) 11 200 [10000, 5, 20047, 10001, 20043]) (f7 : FA (k + 7) 11 4 [1, 3, 3, 5]) (f8 : FA (k + 8) 13 4 []) (f9 : FA (k + 9) 11 32 []) (f10 : FA (k + 10) 11 200 []) (hkO : k < 90) : CK l yX8_init cX8_init 1 (RMc 5 130 10 1048) 10 1048 g (k + 1) k (k + 11) true := by
  refine CK_of (by decide +kernel) rfl (by decide) (fun p e s m args below meth c ad R I J hni hAO C hr hNI hkn hRF z1 z2 z3 => ?_)
  have hA0 : ∀ q, s.heap.size ≤ q → AZ ad (k + 1) s.heap.size q := fun q h => Or.inr h
  have hC : CS (fun i => i = k) (I0) (k + 1) (k + 1) R I J R I J := CS.start hNI
  have hK : OP k R I J (fun _ => none) (fun _ => 0) := ⟨z1, z2, z3⟩
  have hAd : ∀ i, i < k + 1 → ad i = ad i := fun _ _ => rfl
  refine r_aload_n C 0 rfl rfl dX8_init_0 ?_
  refine r_objInit C li_X8_1 (Nat.le_of_ble_eq_true rfl) (Nat.le_of_ble_eq_true rfl) dX8_init_1 ?_
  refine r_aload_n C 0 rfl rfl dX8_init_4 ?_
  have hz := hC.1.2 (k + 1) (Nat.le_refl _)
  have hN := hC.1.new
  refine nw_X2 C hA0 hC.1 f1.2.1 lc_X8_7 (Nat.le_of_ble_eq_true rfl) (Nat.le_of_ble_eq_true rfl) dX8_init_5 (fun ad1 he1 => ?_)
  rw [← he1 k (by omega)]
  have hAd : ∀ i, i < k + 1 → ad1 i = ad i := fun i hi => (he1 i (by omega)).trans (hAd i hi)
  refine r_dup C rfl dX8_init_8 ?_
  refine r_ck C hAO hA0 hN (c_X2_init (g := g) (k := (k + 1)) f1 f2 f3 f4 f5 f6 f7 f8 f9 (by omega)) fk_X2 rfl (by decide +kernel) li_X8_9 (by omega) (fun _ i h1 h2 h3 => by
    have h4 := h3.elim (fun q => absurd q (by omega)) id
    have hik : i ≠ k := fun q => h4.2 (by rw [q]; exact f0.2.1)
    rw [(hC.2.2.1 i (by omega) hik).1]
    exact hRF rfl i (by omega) hik (Or.inr h4)) hz ⟨rfl, rfl, (Nat.le_of_ble_eq_true rfl), (Nat.le_of_ble_eq_true rfl)⟩ (Nat.le_of_ble_eq_true rfl) (Nat.le_of_ble_eq_true rfl) (Nat.le_of_ble_eq_true rfl) dX8_init_9 (fun ad2 R2 I2 J2 he2 hN2 hF2 => ?_)
  rw [← he2 k (by omega)]
  rw [← he2 (k + 1) (by omega)]
  have hAd : ∀ i, i < k + 1 → ad2 i = ad i := fun i hi => (he2 i (by omega)).trans (hAd i hi)
  have hK := hK.call hF2 (by omega)
  have hC := hC.call hN2 hF2 (by omega) (fun _ _ _ => rfl)
  refine pR_X8_10 C hni (q := (k + 1)) ⟨f0.2.1, by omega⟩ dX8_init_12 ?_
  have hC := hC.sR (k := k) (j := 0) (q := (k + 1)) rfl (by omega) (by omega)
  have hK := hK.sR (j := 0) (q := (k + 1))
  refine r_aload_n C 0 rfl rfl dX8_init_15 ?_
  refine r_sipush C (v := 200) (by decide) dX8_init_16 ?_
  refine r_newi C hA0 hC.1 (N := 200) f10.2.1 f10.2.2.1 (by decide) (by decide) (by decide) (Nat.le_of_ble_eq_true rfl) (Nat.le_of_ble_eq_true rfl) dX8_init_19 (fun ad3 he3 => ?_)
  rw [← he3 k (by omega)]
  have hAd : ∀ i, i < k + 1 → ad3 i = ad i := fun i hi => (he3 i (by omega)).trans (hAd i hi)
  have hC := CS.arr hC f10.r f10.z
  refine pR_X8_16 C hni (q := (k + 10)) ⟨f0.2.1, by omega⟩ dX8_init_21 ?_
  have hC := hC.sR (k := k) (j := 1) (q := (k + 10)) rfl (by omega) (by omega)
  have hK := hK.sR (j := 1) (q := (k + 10))
  refine r_wid (a := 10) (b := 1048) (Nat.le_of_ble_eq_true rfl) (Nat.le_of_ble_eq_true rfl) ⟨(Nat.le_of_ble_eq_true rfl), (Nat.le_of_ble_eq_true rfl)⟩ ?_
  exact r_kret C hr hAd hC.1 (hC.fin (by omega) hK (by rw [(f0).r]; funext j; rcases j with _|_|j <;> simp [va_up]) (by rw [(f0).i]; rfl)) dX8_init_24
set_option maxHeartbeats 4000000 in
theorem c_X3_init {l : Launch} {g : GG} {k : Nat} (f0 : FO k 2 [some (k + 1)] []) (f1 : oK (k + 1) = 15 ∧ oL (k + 1) = 12 ∧ (k + 1) ≠ 99 ∧ oRs.getD (k + 1) [] = [some (k + 2), some (k + 3), some (k + 4), some (k + 5), some (k + 6), some (k + 7), some (k + 8), some (k + 9), some (k + 10), some (k + 11), some (k + 12), some (k + 13)] ∧ i0T.getD (k + 1) [] = []) (f2 : FA (k + 2) 11 2 []) (f3 : FA (k + 3) 11 2 []) (f4 : FA (k + 4) 11 2 []) (f5 : FA (k + 5) 11 2 []) (f6 : FA (k + 6) 11 2 []) (f7 : FA (k + 7) 11 2 []) (f8 : FA (k + 8) 11 2 []) (f9 : FA (k + 9) 11 2 []) (f10 : FA (k + 10) 11 2 []) (f11 : FA (k + 11) 11 2 []) (f12 : FA (k + 12) 11 2 []) (f13 : FA (k + 13) 11 2 []) : CK l yX3_init cX3_init 1 (RMc 1 30 13 36) 13 36 g (k + 1) k (k + 14) false := by
  refine CK_of (by decide +kernel) rfl (by decide) (fun p e s m args below meth c ad R I J hni hAO C hr hNI hkn hRF z1 z2 z3 => ?_)
  have hA0 : ∀ q, s.heap.size ≤ q → AZ ad (k + 1) s.heap.size q := fun q h => Or.inr h
  have hC : CS (fun i => i = k) (I0) (k + 1) (k + 1) R I J R I J := CS.start hNI
  have hK : OP k R I J (fun _ => none) (fun _ => 0) := ⟨z1, z2, z3⟩
  have hAd : ∀ i, i < k + 1 → ad i = ad i := fun _ _ => rfl
  refine r_aload_n C 0 rfl rfl dX3_init_0 ?_
  refine r_objInit C li_X3_1 (Nat.le_of_ble_eq_true rfl) (Nat.le_of_ble_eq_true rfl) dX3_init_1 ?_
  refine r_aload_n C 0 rfl rfl dX3_init_4 ?_
  refine r_bipush C (v := 12) (by decide) dX3_init_5 ?_
  refine r_iconst C (v := 2) (by decide) dX3_init_7 ?_
  have hin : ∀ i, i < 12 → oK (k + 1 + 1 + i) = 11 ∧ oL (k + 1 + 1 + i) = 2 ∧ oR (k + 1 + 1 + i) = (fun _ => none) ∧ I0 (k + 1 + 1 + i) = fun _ => 0 := by
    intro i hi
    rcases i with _|_|_|_|_|_|_|_|_|_|_|_|i
    · exact ⟨f2.2.1, f2.2.2.1, f2.r, f2.z⟩
    · exact ⟨f3.2.1, f3.2.2.1, f3.r, f3.z⟩
    · exact ⟨f4.2.1, f4.2.2.1, f4.r, f4.z⟩
    · exact ⟨f5.2.1, f5.2.2.1, f5.r, f5.z⟩
    · exact ⟨f6.2.1, f6.2.2.1, f6.r, f6.z⟩
    · exact ⟨f7.2.1, f7.2.2.1, f7.r, f7.z⟩
    · exact ⟨f8.2.1, f8.2.2.1, f8.r, f8.z⟩
    · exact ⟨f9.2.1, f9.2.2.1, f9.r, f9.z⟩
    · exact ⟨f10.2.1, f10.2.2.1, f10.r, f10.z⟩
    · exact ⟨f11.2.1, f11.2.2.1, f11.r, f11.z⟩
    · exact ⟨f12.2.1, f12.2.2.1, f12.r, f12.z⟩
    · exact ⟨f13.2.1, f13.2.2.1, f13.r, f13.z⟩
    · omega
  refine r_mna C hAO hA0 hC.1 (N := 12) (M := 2) f1.1 f1.2.1 (fun i hi => ⟨(hin i hi).1, (hin i hi).2.1⟩) (by decide) (by decide) (by decide) (by decide) (by decide) (by decide) (by decide) lc_X3_9 (Nat.le_of_ble_eq_true rfl) (Nat.le_of_ble_eq_true rfl) dX3_init_8 (fun ad1 he1 => ?_)
  rw [← he1 k (by omega)]
  have hAd : ∀ i, i < k + 1 → ad1 i = ad i := fun i hi => (he1 i (by omega)).trans (hAd i hi)
  have hro : oR (k + 1) = fun i => if i < 12 then some (k + 1 + 1 + i) else none := by
    rw [oR_of f1.2.2.2.1]
    funext j
    rcases j with _|_|_|_|_|_|_|_|_|_|_|_|j
    · rfl
    · rfl
    · rfl
    · rfl
    · rfl
    · rfl
    · rfl
    · rfl
    · rfl
    · rfl
    · rfl
    · rfl
    · show none = if j + 12 < 12 then _ else none
      rw [if_neg (by omega)]
  have hC := hC.rows hro (I0_of f1.2.2.1 f1.2.2.2.2) (fun i hi => (hin i hi).2.2)
  have hK := hK.rows (n' := k + 1) (x := fun i => if i < 12 then some (k + 1 + 1 + i) else none) (by omega)
  refine pR_X3_11 C hni (q := (k + 1)) ⟨f0.2.1, by omega⟩ dX3_init_12 ?_
  have hC := hC.sR (k := k) (j := 0) (q := (k + 1)) rfl (by omega) (by omega)
  have hK := hK.sR (j := 0) (q := (k + 1))
  refine r_wid (a := 13) (b := 36) (Nat.le_of_ble_eq_true rfl) (Nat.le_of_ble_eq_true rfl) ⟨(Nat.le_of_ble_eq_true rfl), (Nat.le_of_ble_eq_true rfl)⟩ ?_
  exact r_kret C hr hAd hC.1 (hC.fin (by omega) hK (by rw [(f0).r]; funext j; rcases j with _|j <;> simp [va_up]) (by rw [(f0).i]; rfl)) dX3_init_15
set_option maxHeartbeats 4000000 in
theorem c_X5_init {l : Launch} {g : GG} {k : Nat} (f0 : FO k 4 [some (k + 1), some (k + 2), some (k + 3)] []) (f1 : FA (k + 1) 11 4 [-1, -1, -1, -1]) (f2 : FA (k + 2) 11 4 []) (f3 : oK (k + 3) = 15 ∧ oL (k + 3) = 4 ∧ (k + 3) ≠ 99 ∧ oRs.getD (k + 3) [] = [some (k + 4), some (k + 5), some (k + 6), some (k + 7)] ∧ i0T.getD (k + 3) [] = []) (f4 : FA (k + 4) 11 40 []) (f5 : FA (k + 5) 11 40 []) (f6 : FA (k + 6) 11 40 []) (f7 : FA (k + 7) 11 40 []) : CK l yX5_init cX5_init 1 (RMc 1 30 7 172) 7 172 g (k + 1) k (k + 8) false := by
  refine CK_of (by decide +kernel) rfl (by decide) (fun p e s m args below meth c ad R I J hni hAO C hr hNI hkn hRF z1 z2 z3 => ?_)
  have hA0 : ∀ q, s.heap.size ≤ q → AZ ad (k + 1) s.heap.size q := fun q h => Or.inr h
  have hC : CS (fun i => i = k) (I0) (k + 1) (k + 1) R I J R I J := CS.start hNI
  have hK : OP k R I J (fun _ => none) (fun _ => 0) := ⟨z1, z2, z3⟩
  have hAd : ∀ i, i < k + 1 → ad i = ad i := fun _ _ => rfl
  refine r_aload_n C 0 rfl rfl dX5_init_0 ?_
  refine r_objInit C li_X5_1 (Nat.le_of_ble_eq_true rfl) (Nat.le_of_ble_eq_true rfl) dX5_init_1 ?_
  refine r_aload_n C 0 rfl rfl dX5_init_4 ?_
  refine r_iconst C (v := 4) (by decide) dX5_init_5 ?_
  refine r_newi C hA0 hC.1 (N := 4) f1.2.1 f1.2.2.1 (by decide) (by decide) (by decide) (Nat.le_of_ble_eq_true rfl) (Nat.le_of_ble_eq_true rfl) dX5_init_6 (fun ad1 he1 => ?_)
  rw [← he1 k (by omega)]
  have hAd : ∀ i, i < k + 1 → ad1 i = ad i := fun i hi => (he1 i (by omega)).trans (hAd i hi)
  have hD : CS (fun i => i = (k + 1) ∨ (fun i => i = k) i) (I0) (k + 1) (k + 2) R I J _ _ _ := CS.opn (O := fun i => i = (k + 1) ∨ (fun i => i = k) i) ⟨hC.1, hC.2.1, fun i h1 h2 => hC.2.2.1 i h1 (fun q => h2 (Or.inr q)), fun i h1 h2 h3 => hC.2.2.2 i h1 h2 (fun q => h3 (Or.inr q))⟩ (Or.inl rfl)
  have hO := OP.opn hC.1
  refine r_dup C rfl dX5_init_8 ?_
  refine r_iconst C (v := 0) (by decide) dX5_init_9 ?_
  refine r_iconst C (v := -1) (by decide) dX5_init_10 ?_
  refine r_iast C (ρ := Nat) (X := some 0) (z := 0) ⟨f1.2.1, by omega, f1.2.2.1⟩ (by decide) dX5_init_11 (fun _ => ?_)
  rw [show Int32.toNatClampNeg 0 = 0 from by decide]
  have hD := hD.sI (j := 0) (v := -1) (Or.inl rfl) (by omega)
  have hO := hO.sI (j := 0) (v := -1)
  have hK := hK.sIne (j := 0) (v := -1) (a := (k + 1)) (by omega)
  refine r_dup C rfl dX5_init_12 ?_
  refine r_iconst C (v := 1) (by decide) dX5_init_13 ?_
  refine r_iconst C (v := -1) (by decide) dX5_init_14 ?_
  refine r_iast C (ρ := Nat) (X := some 0) (z := 0) ⟨f1.2.1, by omega, f1.2.2.1⟩ (by decide) dX5_init_15 (fun _ => ?_)
  rw [show Int32.toNatClampNeg 1 = 1 from by decide]
  have hD := hD.sI (j := 1) (v := -1) (Or.inl rfl) (by omega)
  have hO := hO.sI (j := 1) (v := -1)
  have hK := hK.sIne (j := 1) (v := -1) (a := (k + 1)) (by omega)
  refine r_dup C rfl dX5_init_16 ?_
  refine r_iconst C (v := 2) (by decide) dX5_init_17 ?_
  refine r_iconst C (v := -1) (by decide) dX5_init_18 ?_
  refine r_iast C (ρ := Nat) (X := some 0) (z := 0) ⟨f1.2.1, by omega, f1.2.2.1⟩ (by decide) dX5_init_19 (fun _ => ?_)
  rw [show Int32.toNatClampNeg 2 = 2 from by decide]
  have hD := hD.sI (j := 2) (v := -1) (Or.inl rfl) (by omega)
  have hO := hO.sI (j := 2) (v := -1)
  have hK := hK.sIne (j := 2) (v := -1) (a := (k + 1)) (by omega)
  refine r_dup C rfl dX5_init_20 ?_
  refine r_iconst C (v := 3) (by decide) dX5_init_21 ?_
  refine r_iconst C (v := -1) (by decide) dX5_init_22 ?_
  refine r_iast C (ρ := Nat) (X := some 0) (z := 0) ⟨f1.2.1, by omega, f1.2.2.1⟩ (by decide) dX5_init_23 (fun _ => ?_)
  rw [show Int32.toNatClampNeg 3 = 3 from by decide]
  have hD := hD.sI (j := 3) (v := -1) (Or.inl rfl) (by omega)
  have hO := hO.sI (j := 3) (v := -1)
  have hK := hK.sIne (j := 3) (v := -1) (a := (k + 1)) (by omega)
  have hC := hD.cls (O2 := fun i => i = k) (fun i h => h) (by omega) hO f1.r.symm (Eq.trans (funext fun j => by rcases j with _|_|_|_|j <;> simp [upd]) f1.i.symm)
  refine pR_X5_9 C hni (q := (k + 1)) ⟨f0.2.1, by omega⟩ dX5_init_24 ?_
  have hC := hC.sR (k := k) (j := 0) (q := (k + 1)) rfl (by omega) (by omega)
  have hK := hK.sR (j := 0) (q := (k + 1))
  refine r_aload_n C 0 rfl rfl dX5_init_27 ?_
  refine r_iconst C (v := 4) (by decide) dX5_init_28 ?_
  refine r_newi C hA0 hC.1 (N := 4) f2.2.1 f2.2.2.1 (by decide) (by decide) (by decide) (Nat.le_of_ble_eq_true rfl) (Nat.le_of_ble_eq_true rfl) dX5_init_29 (fun ad2 he2 => ?_)
  rw [← he2 k (by omega)]
  have hAd : ∀ i, i < k + 1 → ad2 i = ad i := fun i hi => (he2 i (by omega)).trans (hAd i hi)
  have hC := CS.arr hC f2.r f2.z
  refine pR_X5_13 C hni (q := (k + 2)) ⟨f0.2.1, by omega⟩ dX5_init_31 ?_
  have hC := hC.sR (k := k) (j := 1) (q := (k + 2)) rfl (by omega) (by omega)
  have hK := hK.sR (j := 1) (q := (k + 2))
  refine r_aload_n C 0 rfl rfl dX5_init_34 ?_
  refine r_iconst C (v := 4) (by decide) dX5_init_35 ?_
  refine r_bipush C (v := 40) (by decide) dX5_init_36 ?_
  have hin : ∀ i, i < 4 → oK (k + 3 + 1 + i) = 11 ∧ oL (k + 3 + 1 + i) = 40 ∧ oR (k + 3 + 1 + i) = (fun _ => none) ∧ I0 (k + 3 + 1 + i) = fun _ => 0 := by
    intro i hi
    rcases i with _|_|_|_|i
    · exact ⟨f4.2.1, f4.2.2.1, f4.r, f4.z⟩
    · exact ⟨f5.2.1, f5.2.2.1, f5.r, f5.z⟩
    · exact ⟨f6.2.1, f6.2.2.1, f6.r, f6.z⟩
    · exact ⟨f7.2.1, f7.2.2.1, f7.r, f7.z⟩
    · omega
  refine r_mna C hAO hA0 hC.1 (N := 4) (M := 40) f3.1 f3.2.1 (fun i hi => ⟨(hin i hi).1, (hin i hi).2.1⟩) (by decide) (by decide) (by decide) (by decide) (by decide) (by decide) (by decide) lc_X5_16 (Nat.le_of_ble_eq_true rfl) (Nat.le_of_ble_eq_true rfl) dX5_init_38 (fun ad3 he3 => ?_)
  rw [← he3 k (by omega)]
  have hAd : ∀ i, i < k + 1 → ad3 i = ad i := fun i hi => (he3 i (by omega)).trans (hAd i hi)
  have hro : oR (k + 3) = fun i => if i < 4 then some (k + 3 + 1 + i) else none := by
    rw [oR_of f3.2.2.2.1]
    funext j
    rcases j with _|_|_|_|j
    · rfl
    · rfl
    · rfl
    · rfl
    · show none = if j + 4 < 4 then _ else none
      rw [if_neg (by omega)]
  have hC := hC.rows hro (I0_of f3.2.2.1 f3.2.2.2.2) (fun i hi => (hin i hi).2.2)
  have hK := hK.rows (n' := k + 3) (x := fun i => if i < 4 then some (k + 3 + 1 + i) else none) (by omega)
  refine pR_X5_18 C hni (q := (k + 3)) ⟨f0.2.1, by omega⟩ dX5_init_42 ?_
  have hC := hC.sR (k := k) (j := 2) (q := (k + 3)) rfl (by omega) (by omega)
  have hK := hK.sR (j := 2) (q := (k + 3))
  refine r_wid (a := 7) (b := 172) (Nat.le_of_ble_eq_true rfl) (Nat.le_of_ble_eq_true rfl) ⟨(Nat.le_of_ble_eq_true rfl), (Nat.le_of_ble_eq_true rfl)⟩ ?_
  exact r_kret C hr hAd hC.1 (hC.fin (by omega) hK (by rw [(f0).r]; funext j; rcases j with _|_|_|j <;> simp [va_up]) (by rw [(f0).i]; rfl)) dX5_init_45
set_option maxHeartbeats 4000000 in
theorem c_X6_init {l : Launch} {g : GG} {k : Nat} (f0 : FO k 5 [some (k + 1), some (k + 2), some (k + 3)] []) (f1 : FA (k + 1) 11 4 [3, 3, 3, 3]) (f2 : FA (k + 2) 11 4 []) (f3 : FA (k + 3) 11 4 []) : CK l yX6_init cX6_init 1 (RMc 1 30 3 12) 3 12 g (k + 1) k (k + 4) false := by
  refine CK_of (by decide +kernel) rfl (by decide) (fun p e s m args below meth c ad R I J hni hAO C hr hNI hkn hRF z1 z2 z3 => ?_)
  have hA0 : ∀ q, s.heap.size ≤ q → AZ ad (k + 1) s.heap.size q := fun q h => Or.inr h
  have hC : CS (fun i => i = k) (I0) (k + 1) (k + 1) R I J R I J := CS.start hNI
  have hK : OP k R I J (fun _ => none) (fun _ => 0) := ⟨z1, z2, z3⟩
  have hAd : ∀ i, i < k + 1 → ad i = ad i := fun _ _ => rfl
  refine r_aload_n C 0 rfl rfl dX6_init_0 ?_
  refine r_objInit C li_X6_1 (Nat.le_of_ble_eq_true rfl) (Nat.le_of_ble_eq_true rfl) dX6_init_1 ?_
  refine r_aload_n C 0 rfl rfl dX6_init_4 ?_
  refine r_iconst C (v := 4) (by decide) dX6_init_5 ?_
  refine r_newi C hA0 hC.1 (N := 4) f1.2.1 f1.2.2.1 (by decide) (by decide) (by decide) (Nat.le_of_ble_eq_true rfl) (Nat.le_of_ble_eq_true rfl) dX6_init_6 (fun ad1 he1 => ?_)
  rw [← he1 k (by omega)]
  have hAd : ∀ i, i < k + 1 → ad1 i = ad i := fun i hi => (he1 i (by omega)).trans (hAd i hi)
  have hD : CS (fun i => i = (k + 1) ∨ (fun i => i = k) i) (I0) (k + 1) (k + 2) R I J _ _ _ := CS.opn (O := fun i => i = (k + 1) ∨ (fun i => i = k) i) ⟨hC.1, hC.2.1, fun i h1 h2 => hC.2.2.1 i h1 (fun q => h2 (Or.inr q)), fun i h1 h2 h3 => hC.2.2.2 i h1 h2 (fun q => h3 (Or.inr q))⟩ (Or.inl rfl)
  have hO := OP.opn hC.1
  refine r_dup C rfl dX6_init_8 ?_
  refine r_iconst C (v := 0) (by decide) dX6_init_9 ?_
  refine r_iconst C (v := 3) (by decide) dX6_init_10 ?_
  refine r_iast C (ρ := Nat) (X := some 0) (z := 0) ⟨f1.2.1, by omega, f1.2.2.1⟩ (by decide) dX6_init_11 (fun _ => ?_)
  rw [show Int32.toNatClampNeg 0 = 0 from by decide]
  have hD := hD.sI (j := 0) (v := 3) (Or.inl rfl) (by omega)
  have hO := hO.sI (j := 0) (v := 3)
  have hK := hK.sIne (j := 0) (v := 3) (a := (k + 1)) (by omega)
  refine r_dup C rfl dX6_init_12 ?_
  refine r_iconst C (v := 1) (by decide) dX6_init_13 ?_
  refine r_iconst C (v := 3) (by decide) dX6_init_14 ?_
  refine r_iast C (ρ := Nat) (X := some 0) (z := 0) ⟨f1.2.1, by omega, f1.2.2.1⟩ (by decide) dX6_init_15 (fun _ => ?_)
  rw [show Int32.toNatClampNeg 1 = 1 from by decide]
  have hD := hD.sI (j := 1) (v := 3) (Or.inl rfl) (by omega)
  have hO := hO.sI (j := 1) (v := 3)
  have hK := hK.sIne (j := 1) (v := 3) (a := (k + 1)) (by omega)
  refine r_dup C rfl dX6_init_16 ?_
  refine r_iconst C (v := 2) (by decide) dX6_init_17 ?_
  refine r_iconst C (v := 3) (by decide) dX6_init_18 ?_
  refine r_iast C (ρ := Nat) (X := some 0) (z := 0) ⟨f1.2.1, by omega, f1.2.2.1⟩ (by decide) dX6_init_19 (fun _ => ?_)
  rw [show Int32.toNatClampNeg 2 = 2 from by decide]
  have hD := hD.sI (j := 2) (v := 3) (Or.inl rfl) (by omega)
  have hO := hO.sI (j := 2) (v := 3)
  have hK := hK.sIne (j := 2) (v := 3) (a := (k + 1)) (by omega)
  refine r_dup C rfl dX6_init_20 ?_
  refine r_iconst C (v := 3) (by decide) dX6_init_21 ?_
  refine r_iconst C (v := 3) (by decide) dX6_init_22 ?_
  refine r_iast C (ρ := Nat) (X := some 0) (z := 0) ⟨f1.2.1, by omega, f1.2.2.1⟩ (by decide) dX6_init_23 (fun _ => ?_)
  rw [show Int32.toNatClampNeg 3 = 3 from by decide]
  have hD := hD.sI (j := 3) (v := 3) (Or.inl rfl) (by omega)
  have hO := hO.sI (j := 3) (v := 3)
  have hK := hK.sIne (j := 3) (v := 3) (a := (k + 1)) (by omega)
  have hC := hD.cls (O2 := fun i => i = k) (fun i h => h) (by omega) hO f1.r.symm (Eq.trans (funext fun j => by rcases j with _|_|_|_|j <;> simp [upd]) f1.i.symm)
  refine pR_X6_9 C hni (q := (k + 1)) ⟨f0.2.1, by omega⟩ dX6_init_24 ?_
  have hC := hC.sR (k := k) (j := 0) (q := (k + 1)) rfl (by omega) (by omega)
  have hK := hK.sR (j := 0) (q := (k + 1))
  refine r_aload_n C 0 rfl rfl dX6_init_27 ?_
  refine r_iconst C (v := 4) (by decide) dX6_init_28 ?_
  refine r_newi C hA0 hC.1 (N := 4) f2.2.1 f2.2.2.1 (by decide) (by decide) (by decide) (Nat.le_of_ble_eq_true rfl) (Nat.le_of_ble_eq_true rfl) dX6_init_29 (fun ad2 he2 => ?_)
  rw [← he2 k (by omega)]
  have hAd : ∀ i, i < k + 1 → ad2 i = ad i := fun i hi => (he2 i (by omega)).trans (hAd i hi)
  have hC := CS.arr hC f2.r f2.z
  refine pR_X6_13 C hni (q := (k + 2)) ⟨f0.2.1, by omega⟩ dX6_init_31 ?_
  have hC := hC.sR (k := k) (j := 1) (q := (k + 2)) rfl (by omega) (by omega)
  have hK := hK.sR (j := 1) (q := (k + 2))
  refine r_aload_n C 0 rfl rfl dX6_init_34 ?_
  refine r_iconst C (v := 4) (by decide) dX6_init_35 ?_
  refine r_newi C hA0 hC.1 (N := 4) f3.2.1 f3.2.2.1 (by decide) (by decide) (by decide) (Nat.le_of_ble_eq_true rfl) (Nat.le_of_ble_eq_true rfl) dX6_init_36 (fun ad3 he3 => ?_)
  rw [← he3 k (by omega)]
  have hAd : ∀ i, i < k + 1 → ad3 i = ad i := fun i hi => (he3 i (by omega)).trans (hAd i hi)
  have hC := CS.arr hC f3.r f3.z
  refine pR_X6_16 C hni (q := (k + 3)) ⟨f0.2.1, by omega⟩ dX6_init_38 ?_
  have hC := hC.sR (k := k) (j := 2) (q := (k + 3)) rfl (by omega) (by omega)
  have hK := hK.sR (j := 2) (q := (k + 3))
  refine r_wid (a := 3) (b := 12) (Nat.le_of_ble_eq_true rfl) (Nat.le_of_ble_eq_true rfl) ⟨(Nat.le_of_ble_eq_true rfl), (Nat.le_of_ble_eq_true rfl)⟩ ?_
  exact r_kret C hr hAd hC.1 (hC.fin (by omega) hK (by rw [(f0).r]; funext j; rcases j with _|_|_|j <;> simp [va_up]) (by rw [(f0).i]; rfl)) dX6_init_41
set_option maxHeartbeats 4000000 in
theorem c_X0_init {l : Launch} {g : GG} {k : Nat} (f0 : FO k 0 [some (k + 1)] [0, 0, 0, -1]) (f1 : FA (k + 1) 11 30 []) : CK l yX0_init cX0_init 1 (RMc 1 30 1 30) 1 30 g (k + 1) k (k + 2) false := by
  refine CK_of (by decide +kernel) rfl (by decide) (fun p e s m args below meth c ad R I J hni hAO C hr hNI hkn hRF z1 z2 z3 => ?_)
  have hA0 : ∀ q, s.heap.size ≤ q → AZ ad (k + 1) s.heap.size q := fun q h => Or.inr h
  have hC : CS (fun i => i = k) (I0) (k + 1) (k + 1) R I J R I J := CS.start hNI
  have hK : OP k R I J (fun _ => none) (fun _ => 0) := ⟨z1, z2, z3⟩
  have hAd : ∀ i, i < k + 1 → ad i = ad i := fun _ _ => rfl
  refine r_aload_n C 0 rfl rfl dX0_init_0 ?_
  refine r_objInit C li_X0_3 (Nat.le_of_ble_eq_true rfl) (Nat.le_of_ble_eq_true rfl) dX0_init_1 ?_
  refine r_aload_n C 0 rfl rfl dX0_init_4 ?_
  refine r_bipush C (v := 30) (by decide) dX0_init_5 ?_
  refine r_newi C hA0 hC.1 (N := 30) f1.2.1 f1.2.2.1 (by decide) (by decide) (by decide) (Nat.le_of_ble_eq_true rfl) (Nat.le_of_ble_eq_true rfl) dX0_init_7 (fun ad1 he1 => ?_)
  rw [← he1 k (by omega)]
  have hAd : ∀ i, i < k + 1 → ad1 i = ad i := fun i hi => (he1 i (by omega)).trans (hAd i hi)
  have hC := CS.arr hC f1.r f1.z
  refine pR_X0_11 C hni (q := (k + 1)) ⟨f0.2.1, by omega⟩ dX0_init_9 ?_
  have hC := hC.sR (k := k) (j := 0) (q := (k + 1)) rfl (by omega) (by omega)
  have hK := hK.sR (j := 0) (q := (k + 1))
  refine r_aload_n C 0 rfl rfl dX0_init_12 ?_
  refine r_iconst C (v := -1) (by decide) dX0_init_13 ?_
  refine pf_X0_17 C ⟨f0.2.1, by omega⟩ dX0_init_14 ?_
  have hC := hC.sI (k := k) (j := 3) (v := -1) rfl (by omega)
  have hK := hK.sI (j := 3) (v := -1)
  refine r_wid (a := 1) (b := 30) (Nat.le_of_ble_eq_true rfl) (Nat.le_of_ble_eq_true rfl) ⟨(Nat.le_of_ble_eq_true rfl), (Nat.le_of_ble_eq_true rfl)⟩ ?_
  exact r_kret C hr hAd hC.1 (hC.fin (by omega) hK (by rw [(f0).r]; funext j; rcases j with _|j <;> simp [va_up]) (by rw [(f0).i]; funext j; rcases j with _|_|_|_|j <;> simp [upd])) dX0_init_17
set_option maxHeartbeats 4000000 in
theorem c_X10_init {l : Launch} {g : GG}  : CK l yX10_init cX10_init 1 (RMc 6 170 97 4083) 97 4083 g (1) 0 (98) true := by
  refine CK_of (by decide +kernel) rfl (by decide) (fun p e s m args below meth c ad R I J hni hAO C hr hNI hkn hRF z1 z2 z3 => ?_)
  have hA0 : ∀ q, s.heap.size ≤ q → AZ ad (1) s.heap.size q := fun q h => Or.inr h
  have hC : CS (fun i => i = 0) (I0) (1) (1) R I J R I J := CS.start hNI
  have hK : OP 0 R I J (fun _ => none) (fun _ => 0) := ⟨z1, z2, z3⟩
  have hAd : ∀ i, i < 1 → ad i = ad i := fun _ _ => rfl
  refine r_aload_n C 0 rfl rfl dX10_init_0 ?_
  refine r_objInit C li_X10_1 (Nat.le_of_ble_eq_true rfl) (Nat.le_of_ble_eq_true rfl) dX10_init_1 ?_
  refine r_aload_n C 0 rfl rfl dX10_init_4 ?_
  have hz := hC.1.2 1 (Nat.le_refl _)
  have hN := hC.1.new
  refine nw_X7 C hA0 hC.1 (by decide +kernel : oK 1 = 6) lc_X10_7 (Nat.le_of_ble_eq_true rfl) (Nat.le_of_ble_eq_true rfl) dX10_init_5 (fun ad1 he1 => ?_)
  rw [← he1 0 (by omega)]
  have hAd : ∀ i, i < 1 → ad1 i = ad i := fun i hi => (he1 i (by omega)).trans (hAd i hi)
  refine r_dup C rfl dX10_init_8 ?_
  refine r_ckN C hAO hA0 hN (c_X7_init (g := g) (k := 1) (by decide +kernel) (by decide +kernel) (by decide +kernel)) fk_X7 rfl (by decide +kernel) nk_X10_9 (by omega) (fun h => nomatch h) hz ⟨rfl, rfl, (Nat.le_of_ble_eq_true rfl), (Nat.le_of_ble_eq_true rfl)⟩ (Nat.le_of_ble_eq_true rfl) (Nat.le_of_ble_eq_true rfl) (Nat.le_of_ble_eq_true rfl) dX10_init_9 (fun ad2 R2 I2 J2 he2 hN2 hF2 => ?_)
  rw [← he2 0 (by omega)]
  rw [← he2 1 (by omega)]
  have hAd : ∀ i, i < 1 → ad2 i = ad i := fun i hi => (he2 i (by omega)).trans (hAd i hi)
  have hK := hK.call hF2 (by omega)
  have hC := hC.call hN2 hF2 (by omega) (fun _ _ _ => rfl)
  refine pR_X10_10 C hni (q := 1) ⟨(by decide +kernel : oK 0 = 9), by omega⟩ dX10_init_12 ?_
  have hC := hC.sR (k := 0) (j := 0) (q := 1) rfl (by omega) (by omega)
  have hK := hK.sR (j := 0) (q := 1)
  refine r_aload_n C 0 rfl rfl dX10_init_15 ?_
  have hz := hC.1.2 4 (Nat.le_refl _)
  have hN := hC.1.new
  refine nw_X2 C hA0 hC.1 (by decide +kernel : oK 4 = 1) lc_X10_16 (Nat.le_of_ble_eq_true rfl) (Nat.le_of_ble_eq_true rfl) dX10_init_16 (fun ad3 he3 => ?_)
  rw [← he3 0 (by omega)]
  have hAd : ∀ i, i < 1 → ad3 i = ad i := fun i hi => (he3 i (by omega)).trans (hAd i hi)
  refine r_dup C rfl dX10_init_19 ?_
  refine r_ck C hAO hA0 hN (c_X2_init (g := g) (k := 4) (by decide +kernel) (by decide +kernel) (by decide +kernel) (by decide +kernel) (by decide +kernel) (by decide +kernel) (by decide +kernel) (by decide +kernel) (by decide +kernel) (by decide)) fk_X2 rfl (by decide +kernel) li_X10_18 (by omega) (fun _ i h1 h2 h3 => by
    have h4 := h3.elim (fun q => absurd q (by decide)) id
    have hik : i ≠ 0 := fun q => h4.1 (by rw [q]; decide +kernel)
    exact (hC.2.2.2 i (by omega) (by omega) hik).1) hz ⟨rfl, rfl, (Nat.le_of_ble_eq_true rfl), (Nat.le_of_ble_eq_true rfl)⟩ (Nat.le_of_ble_eq_true rfl) (Nat.le_of_ble_eq_true rfl) (Nat.le_of_ble_eq_true rfl) dX10_init_20 (fun ad4 R4 I4 J4 he4 hN4 hF4 => ?_)
  rw [← he4 0 (by omega)]
  rw [← he4 4 (by omega)]
  have hAd : ∀ i, i < 1 → ad4 i = ad i := fun i hi => (he4 i (by omega)).trans (hAd i hi)
  have hK := hK.call hF4 (by omega)
  have hC := hC.call hN4 hF4 (by omega) (fun _ _ _ => rfl)
  refine pR_X10_19 C hni (q := 4) ⟨(by decide +kernel : oK 0 = 9), by omega⟩ dX10_init_23 ?_
  have hC := hC.sR (k := 0) (j := 1) (q := 4) rfl (by omega) (by omega)
  have hK := hK.sR (j := 1) (q := 4)
  refine r_aload_n C 0 rfl rfl dX10_init_26 ?_
  have hz := hC.1.2 13 (Nat.le_refl _)
  have hN := hC.1.new
  refine nw_X4 C hA0 hC.1 (by decide +kernel : oK 13 = 3) lc_X10_23 (Nat.le_of_ble_eq_true rfl) (Nat.le_of_ble_eq_true rfl) dX10_init_27 (fun ad5 he5 => ?_)
  rw [← he5 0 (by omega)]
  have hAd : ∀ i, i < 1 → ad5 i = ad i := fun i hi => (he5 i (by omega)).trans (hAd i hi)
  refine r_dup C rfl dX10_init_30 ?_
  refine r_ck C hAO hA0 hN (c_X4_init (g := g) (k := 13) (by decide +kernel) (by decide +kernel) (by decide +kernel) (by decide +kernel) (by decide +kernel) (by decide +kernel) (by decide +kernel) (by decide +kernel) (by decide +kernel) (by decide +kernel) (by decide +kernel) (by decide +kernel) (by decide +kernel) (by decide +kernel)) fk_X4 rfl (by decide +kernel) li_X10_25 (by omega) (fun h => nomatch h) hz ⟨rfl, rfl, (Nat.le_of_ble_eq_true rfl), (Nat.le_of_ble_eq_true rfl)⟩ (Nat.le_of_ble_eq_true rfl) (Nat.le_of_ble_eq_true rfl) (Nat.le_of_ble_eq_true rfl) dX10_init_31 (fun ad6 R6 I6 J6 he6 hN6 hF6 => ?_)
  rw [← he6 0 (by omega)]
  rw [← he6 13 (by omega)]
  have hAd : ∀ i, i < 1 → ad6 i = ad i := fun i hi => (he6 i (by omega)).trans (hAd i hi)
  have hK := hK.call hF6 (by omega)
  have hC := hC.call hN6 hF6 (by omega) (fun _ _ _ => rfl)
  refine pR_X10_26 C hni (q := 13) ⟨(by decide +kernel : oK 0 = 9), by omega⟩ dX10_init_34 ?_
  have hC := hC.sR (k := 0) (j := 2) (q := 13) rfl (by omega) (by omega)
  have hK := hK.sR (j := 2) (q := 13)
  refine r_aload_n C 0 rfl rfl dX10_init_37 ?_
  have hz := hC.1.2 27 (Nat.le_refl _)
  have hN := hC.1.new
  refine nw_X7 C hA0 hC.1 (by decide +kernel : oK 27 = 6) lc_X10_7 (Nat.le_of_ble_eq_true rfl) (Nat.le_of_ble_eq_true rfl) dX10_init_38 (fun ad7 he7 => ?_)
  rw [← he7 0 (by omega)]
  have hAd : ∀ i, i < 1 → ad7 i = ad i := fun i hi => (he7 i (by omega)).trans (hAd i hi)
  refine r_dup C rfl dX10_init_41 ?_
  refine r_ckN C hAO hA0 hN (c_X7_init (g := g) (k := 27) (by decide +kernel) (by decide +kernel) (by decide +kernel)) fk_X7 rfl (by decide +kernel) nk_X10_9 (by omega) (fun h => nomatch h) hz ⟨rfl, rfl, (Nat.le_of_ble_eq_true rfl), (Nat.le_of_ble_eq_true rfl)⟩ (Nat.le_of_ble_eq_true rfl) (Nat.le_of_ble_eq_true rfl) (Nat.le_of_ble_eq_true rfl) dX10_init_42 (fun ad8 R8 I8 J8 he8 hN8 hF8 => ?_)
  rw [← he8 0 (by omega)]
  rw [← he8 27 (by omega)]
  have hAd : ∀ i, i < 1 → ad8 i = ad i := fun i hi => (he8 i (by omega)).trans (hAd i hi)
  have hK := hK.call hF8 (by omega)
  have hC := hC.call hN8 hF8 (by omega) (fun _ _ _ => rfl)
  refine pR_X10_30 C hni (q := 27) ⟨(by decide +kernel : oK 0 = 9), by omega⟩ dX10_init_45 ?_
  have hC := hC.sR (k := 0) (j := 3) (q := 27) rfl (by omega) (by omega)
  have hK := hK.sR (j := 3) (q := 27)
  refine r_aload_n C 0 rfl rfl dX10_init_48 ?_
  have hz := hC.1.2 30 (Nat.le_refl _)
  have hN := hC.1.new
  refine nw_X2 C hA0 hC.1 (by decide +kernel : oK 30 = 1) lc_X10_16 (Nat.le_of_ble_eq_true rfl) (Nat.le_of_ble_eq_true rfl) dX10_init_49 (fun ad9 he9 => ?_)
  rw [← he9 0 (by omega)]
  have hAd : ∀ i, i < 1 → ad9 i = ad i := fun i hi => (he9 i (by omega)).trans (hAd i hi)
  refine r_dup C rfl dX10_init_52 ?_
  refine r_ck C hAO hA0 hN (c_X2_init (g := g) (k := 30) (by decide +kernel) (by decide +kernel) (by decide +kernel) (by decide +kernel) (by decide +kernel) (by decide +kernel) (by decide +kernel) (by decide +kernel) (by decide +kernel) (by decide)) fk_X2 rfl (by decide +kernel) li_X10_18 (by omega) (fun _ i h1 h2 h3 => by
    have h4 := h3.elim (fun q => absurd q (by decide)) id
    have hik : i ≠ 0 := fun q => h4.1 (by rw [q]; decide +kernel)
    exact (hC.2.2.2 i (by omega) (by omega) hik).1) hz ⟨rfl, rfl, (Nat.le_of_ble_eq_true rfl), (Nat.le_of_ble_eq_true rfl)⟩ (Nat.le_of_ble_eq_true rfl) (Nat.le_of_ble_eq_true rfl) (Nat.le_of_ble_eq_true rfl) dX10_init_53 (fun ad10 R10 I10 J10 he10 hN10 hF10 => ?_)
  rw [← he10 0 (by omega)]
  rw [← he10 30 (by omega)]
  have hAd : ∀ i, i < 1 → ad10 i = ad i := fun i hi => (he10 i (by omega)).trans (hAd i hi)
  have hK := hK.call hF10 (by omega)
  have hC := hC.call hN10 hF10 (by omega) (fun _ _ _ => rfl)
  refine pR_X10_33 C hni (q := 30) ⟨(by decide +kernel : oK 0 = 9), by omega⟩ dX10_init_56 ?_
  have hC := hC.sR (k := 0) (j := 4) (q := 30) rfl (by omega) (by omega)
  have hK := hK.sR (j := 4) (q := 30)
  refine r_aload_n C 0 rfl rfl dX10_init_59 ?_
  have hz := hC.1.2 39 (Nat.le_refl _)
  have hN := hC.1.new
  refine nw_X4 C hA0 hC.1 (by decide +kernel : oK 39 = 3) lc_X10_23 (Nat.le_of_ble_eq_true rfl) (Nat.le_of_ble_eq_true rfl) dX10_init_60 (fun ad11 he11 => ?_)
  rw [← he11 0 (by omega)]
  have hAd : ∀ i, i < 1 → ad11 i = ad i := fun i hi => (he11 i (by omega)).trans (hAd i hi)
  refine r_dup C rfl dX10_init_63 ?_
  refine r_ck C hAO hA0 hN (c_X4_init (g := g) (k := 39) (by decide +kernel) (by decide +kernel) (by decide +kernel) (by decide +kernel) (by decide +kernel) (by decide +kernel) (by decide +kernel) (by decide +kernel) (by decide +kernel) (by decide +kernel) (by decide +kernel) (by decide +kernel) (by decide +kernel) (by decide +kernel)) fk_X4 rfl (by decide +kernel) li_X10_25 (by omega) (fun h => nomatch h) hz ⟨rfl, rfl, (Nat.le_of_ble_eq_true rfl), (Nat.le_of_ble_eq_true rfl)⟩ (Nat.le_of_ble_eq_true rfl) (Nat.le_of_ble_eq_true rfl) (Nat.le_of_ble_eq_true rfl) dX10_init_64 (fun ad12 R12 I12 J12 he12 hN12 hF12 => ?_)
  rw [← he12 0 (by omega)]
  rw [← he12 39 (by omega)]
  have hAd : ∀ i, i < 1 → ad12 i = ad i := fun i hi => (he12 i (by omega)).trans (hAd i hi)
  have hK := hK.call hF12 (by omega)
  have hC := hC.call hN12 hF12 (by omega) (fun _ _ _ => rfl)
  refine pR_X10_36 C hni (q := 39) ⟨(by decide +kernel : oK 0 = 9), by omega⟩ dX10_init_67 ?_
  have hC := hC.sR (k := 0) (j := 5) (q := 39) rfl (by omega) (by omega)
  have hK := hK.sR (j := 5) (q := 39)
  refine r_aload_n C 0 rfl rfl dX10_init_70 ?_
  have hz := hC.1.2 53 (Nat.le_refl _)
  have hN := hC.1.new
  refine nw_X7 C hA0 hC.1 (by decide +kernel : oK 53 = 6) lc_X10_7 (Nat.le_of_ble_eq_true rfl) (Nat.le_of_ble_eq_true rfl) dX10_init_71 (fun ad13 he13 => ?_)
  rw [← he13 0 (by omega)]
  have hAd : ∀ i, i < 1 → ad13 i = ad i := fun i hi => (he13 i (by omega)).trans (hAd i hi)
  refine r_dup C rfl dX10_init_74 ?_
  refine r_ckN C hAO hA0 hN (c_X7_init (g := g) (k := 53) (by decide +kernel) (by decide +kernel) (by decide +kernel)) fk_X7 rfl (by decide +kernel) nk_X10_9 (by omega) (fun h => nomatch h) hz ⟨rfl, rfl, (Nat.le_of_ble_eq_true rfl), (Nat.le_of_ble_eq_true rfl)⟩ (Nat.le_of_ble_eq_true rfl) (Nat.le_of_ble_eq_true rfl) (Nat.le_of_ble_eq_true rfl) dX10_init_75 (fun ad14 R14 I14 J14 he14 hN14 hF14 => ?_)
  rw [← he14 0 (by omega)]
  rw [← he14 53 (by omega)]
  have hAd : ∀ i, i < 1 → ad14 i = ad i := fun i hi => (he14 i (by omega)).trans (hAd i hi)
  have hK := hK.call hF14 (by omega)
  have hC := hC.call hN14 hF14 (by omega) (fun _ _ _ => rfl)
  refine pR_X10_39 C hni (q := 53) ⟨(by decide +kernel : oK 0 = 9), by omega⟩ dX10_init_78 ?_
  have hC := hC.sR (k := 0) (j := 7) (q := 53) rfl (by omega) (by omega)
  have hK := hK.sR (j := 7) (q := 53)
  refine r_aload_n C 0 rfl rfl dX10_init_81 ?_
  have hz := hC.1.2 56 (Nat.le_refl _)
  have hN := hC.1.new
  refine nw_X7 C hA0 hC.1 (by decide +kernel : oK 56 = 6) lc_X10_7 (Nat.le_of_ble_eq_true rfl) (Nat.le_of_ble_eq_true rfl) dX10_init_82 (fun ad15 he15 => ?_)
  rw [← he15 0 (by omega)]
  have hAd : ∀ i, i < 1 → ad15 i = ad i := fun i hi => (he15 i (by omega)).trans (hAd i hi)
  refine r_dup C rfl dX10_init_85 ?_
  refine r_ckN C hAO hA0 hN (c_X7_init (g := g) (k := 56) (by decide +kernel) (by decide +kernel) (by decide +kernel)) fk_X7 rfl (by decide +kernel) nk_X10_9 (by omega) (fun h => nomatch h) hz ⟨rfl, rfl, (Nat.le_of_ble_eq_true rfl), (Nat.le_of_ble_eq_true rfl)⟩ (Nat.le_of_ble_eq_true rfl) (Nat.le_of_ble_eq_true rfl) (Nat.le_of_ble_eq_true rfl) dX10_init_86 (fun ad16 R16 I16 J16 he16 hN16 hF16 => ?_)
  rw [← he16 0 (by omega)]
  rw [← he16 56 (by omega)]
  have hAd : ∀ i, i < 1 → ad16 i = ad i := fun i hi => (he16 i (by omega)).trans (hAd i hi)
  have hK := hK.call hF16 (by omega)
  have hC := hC.call hN16 hF16 (by omega) (fun _ _ _ => rfl)
  refine pR_X10_42 C hni (q := 56) ⟨(by decide +kernel : oK 0 = 9), by omega⟩ dX10_init_89 ?_
  have hC := hC.sR (k := 0) (j := 8) (q := 56) rfl (by omega) (by omega)
  have hK := hK.sR (j := 8) (q := 56)
  refine r_aload_n C 0 rfl rfl dX10_init_92 ?_
  have hz := hC.1.2 59 (Nat.le_refl _)
  have hN := hC.1.new
  refine nw_X8 C hA0 hC.1 (by decide +kernel : oK 59 = 7) lc_X10_45 (Nat.le_of_ble_eq_true rfl) (Nat.le_of_ble_eq_true rfl) dX10_init_93 (fun ad17 he17 => ?_)
  rw [← he17 0 (by omega)]
  have hAd : ∀ i, i < 1 → ad17 i = ad i := fun i hi => (he17 i (by omega)).trans (hAd i hi)
  refine r_dup C rfl dX10_init_96 ?_
  refine r_ckN C hAO hA0 hN (c_X8_init (g := g) (k := 59) (by decide +kernel) (by decide +kernel) (by decide +kernel) (by decide +kernel) (by decide +kernel) (by decide +kernel) (by decide +kernel) (by decide +kernel) (by decide +kernel) (by decide +kernel) (by decide +kernel) (by decide)) fk_X8 rfl (by decide +kernel) nk_X10_47 (by omega) (fun _ i h1 h2 h3 => by
    have h4 := h3.elim (fun q => absurd q (by decide)) id
    have hik : i ≠ 0 := fun q => h4.1 (by rw [q]; decide +kernel)
    exact (hC.2.2.2 i (by omega) (by omega) hik).1) hz ⟨rfl, rfl, (Nat.le_of_ble_eq_true rfl), (Nat.le_of_ble_eq_true rfl)⟩ (Nat.le_of_ble_eq_true rfl) (Nat.le_of_ble_eq_true rfl) (Nat.le_of_ble_eq_true rfl) dX10_init_97 (fun ad18 R18 I18 J18 he18 hN18 hF18 => ?_)
  rw [← he18 0 (by omega)]
  rw [← he18 59 (by omega)]
  have hAd : ∀ i, i < 1 → ad18 i = ad i := fun i hi => (he18 i (by omega)).trans (hAd i hi)
  have hK := hK.call hF18 (by omega)
  have hC := hC.call hN18 hF18 (by omega) (fun _ _ _ => rfl)
  refine pR_X10_48 C hni (q := 59) ⟨(by decide +kernel : oK 0 = 9), by omega⟩ dX10_init_100 ?_
  have hC := hC.sR (k := 0) (j := 9) (q := 59) rfl (by omega) (by omega)
  have hK := hK.sR (j := 9) (q := 59)
  refine r_aload_n C 0 rfl rfl dX10_init_103 ?_
  have hz := hC.1.2 70 (Nat.le_refl _)
  have hN := hC.1.new
  refine nw_X3 C hA0 hC.1 (by decide +kernel : oK 70 = 2) lc_X10_52 (Nat.le_of_ble_eq_true rfl) (Nat.le_of_ble_eq_true rfl) dX10_init_104 (fun ad19 he19 => ?_)
  rw [← he19 0 (by omega)]
  have hAd : ∀ i, i < 1 → ad19 i = ad i := fun i hi => (he19 i (by omega)).trans (hAd i hi)
  refine r_dup C rfl dX10_init_107 ?_
  refine r_ckN C hAO hA0 hN (c_X3_init (g := g) (k := 70) (by decide +kernel) (by decide +kernel) (by decide +kernel) (by decide +kernel) (by decide +kernel) (by decide +kernel) (by decide +kernel) (by decide +kernel) (by decide +kernel) (by decide +kernel) (by decide +kernel) (by decide +kernel) (by decide +kernel) (by decide +kernel)) fk_X3 rfl (by decide +kernel) nk_X10_54 (by omega) (fun h => nomatch h) hz ⟨rfl, rfl, (Nat.le_of_ble_eq_true rfl), (Nat.le_of_ble_eq_true rfl)⟩ (Nat.le_of_ble_eq_true rfl) (Nat.le_of_ble_eq_true rfl) (Nat.le_of_ble_eq_true rfl) dX10_init_108 (fun ad20 R20 I20 J20 he20 hN20 hF20 => ?_)
  rw [← he20 0 (by omega)]
  rw [← he20 70 (by omega)]
  have hAd : ∀ i, i < 1 → ad20 i = ad i := fun i hi => (he20 i (by omega)).trans (hAd i hi)
  have hK := hK.call hF20 (by omega)
  have hC := hC.call hN20 hF20 (by omega) (fun _ _ _ => rfl)
  refine pR_X10_55 C hni (q := 70) ⟨(by decide +kernel : oK 0 = 9), by omega⟩ dX10_init_111 ?_
  have hC := hC.sR (k := 0) (j := 10) (q := 70) rfl (by omega) (by omega)
  have hK := hK.sR (j := 10) (q := 70)
  refine r_aload_n C 0 rfl rfl dX10_init_114 ?_
  have hz := hC.1.2 84 (Nat.le_refl _)
  have hN := hC.1.new
  refine nw_X5 C hA0 hC.1 (by decide +kernel : oK 84 = 4) lc_X10_59 (Nat.le_of_ble_eq_true rfl) (Nat.le_of_ble_eq_true rfl) dX10_init_115 (fun ad21 he21 => ?_)
  rw [← he21 0 (by omega)]
  have hAd : ∀ i, i < 1 → ad21 i = ad i := fun i hi => (he21 i (by omega)).trans (hAd i hi)
  refine r_dup C rfl dX10_init_118 ?_
  refine r_ckN C hAO hA0 hN (c_X5_init (g := g) (k := 84) (by decide +kernel) (by decide +kernel) (by decide +kernel) (by decide +kernel) (by decide +kernel) (by decide +kernel) (by decide +kernel) (by decide +kernel)) fk_X5 rfl (by decide +kernel) nk_X10_61 (by omega) (fun h => nomatch h) hz ⟨rfl, rfl, (Nat.le_of_ble_eq_true rfl), (Nat.le_of_ble_eq_true rfl)⟩ (Nat.le_of_ble_eq_true rfl) (Nat.le_of_ble_eq_true rfl) (Nat.le_of_ble_eq_true rfl) dX10_init_119 (fun ad22 R22 I22 J22 he22 hN22 hF22 => ?_)
  rw [← he22 0 (by omega)]
  rw [← he22 84 (by omega)]
  have hAd : ∀ i, i < 1 → ad22 i = ad i := fun i hi => (he22 i (by omega)).trans (hAd i hi)
  have hK := hK.call hF22 (by omega)
  have hC := hC.call hN22 hF22 (by omega) (fun _ _ _ => rfl)
  refine pR_X10_62 C hni (q := 84) ⟨(by decide +kernel : oK 0 = 9), by omega⟩ dX10_init_122 ?_
  have hC := hC.sR (k := 0) (j := 11) (q := 84) rfl (by omega) (by omega)
  have hK := hK.sR (j := 11) (q := 84)
  refine r_aload_n C 0 rfl rfl dX10_init_125 ?_
  have hz := hC.1.2 92 (Nat.le_refl _)
  have hN := hC.1.new
  refine nw_X6 C hA0 hC.1 (by decide +kernel : oK 92 = 5) lc_X10_66 (Nat.le_of_ble_eq_true rfl) (Nat.le_of_ble_eq_true rfl) dX10_init_126 (fun ad23 he23 => ?_)
  rw [← he23 0 (by omega)]
  have hAd : ∀ i, i < 1 → ad23 i = ad i := fun i hi => (he23 i (by omega)).trans (hAd i hi)
  refine r_dup C rfl dX10_init_129 ?_
  refine r_ckN C hAO hA0 hN (c_X6_init (g := g) (k := 92) (by decide +kernel) (by decide +kernel) (by decide +kernel) (by decide +kernel)) fk_X6 rfl (by decide +kernel) nk_X10_68 (by omega) (fun h => nomatch h) hz ⟨rfl, rfl, (Nat.le_of_ble_eq_true rfl), (Nat.le_of_ble_eq_true rfl)⟩ (Nat.le_of_ble_eq_true rfl) (Nat.le_of_ble_eq_true rfl) (Nat.le_of_ble_eq_true rfl) dX10_init_130 (fun ad24 R24 I24 J24 he24 hN24 hF24 => ?_)
  rw [← he24 0 (by omega)]
  rw [← he24 92 (by omega)]
  have hAd : ∀ i, i < 1 → ad24 i = ad i := fun i hi => (he24 i (by omega)).trans (hAd i hi)
  have hK := hK.call hF24 (by omega)
  have hC := hC.call hN24 hF24 (by omega) (fun _ _ _ => rfl)
  refine pR_X10_69 C hni (q := 92) ⟨(by decide +kernel : oK 0 = 9), by omega⟩ dX10_init_133 ?_
  have hC := hC.sR (k := 0) (j := 12) (q := 92) rfl (by omega) (by omega)
  have hK := hK.sR (j := 12) (q := 92)
  refine r_aload_n C 0 rfl rfl dX10_init_136 ?_
  have hz := hC.1.2 96 (Nat.le_refl _)
  have hN := hC.1.new
  refine nw_X0 C hA0 hC.1 (by decide +kernel : oK 96 = 0) lc_X10_73 (Nat.le_of_ble_eq_true rfl) (Nat.le_of_ble_eq_true rfl) dX10_init_137 (fun ad25 he25 => ?_)
  rw [← he25 0 (by omega)]
  have hAd : ∀ i, i < 1 → ad25 i = ad i := fun i hi => (he25 i (by omega)).trans (hAd i hi)
  refine r_dup C rfl dX10_init_140 ?_
  refine r_ckN C hAO hA0 hN (c_X0_init (g := g) (k := 96) (by decide +kernel) (by decide +kernel)) fk_X0 rfl (by decide +kernel) nk_X10_75 (by omega) (fun h => nomatch h) hz ⟨rfl, rfl, (Nat.le_of_ble_eq_true rfl), (Nat.le_of_ble_eq_true rfl)⟩ (Nat.le_of_ble_eq_true rfl) (Nat.le_of_ble_eq_true rfl) (Nat.le_of_ble_eq_true rfl) dX10_init_141 (fun ad26 R26 I26 J26 he26 hN26 hF26 => ?_)
  rw [← he26 0 (by omega)]
  rw [← he26 96 (by omega)]
  have hAd : ∀ i, i < 1 → ad26 i = ad i := fun i hi => (he26 i (by omega)).trans (hAd i hi)
  have hK := hK.call hF26 (by omega)
  have hC := hC.call hN26 hF26 (by omega) (fun _ _ _ => rfl)
  refine pR_X10_76 C hni (q := 96) ⟨(by decide +kernel : oK 0 = 9), by omega⟩ dX10_init_144 ?_
  have hC := hC.sR (k := 0) (j := 13) (q := 96) rfl (by omega) (by omega)
  have hK := hK.sR (j := 13) (q := 96)
  refine r_wid (a := 97) (b := 4083) (Nat.le_of_ble_eq_true rfl) (Nat.le_of_ble_eq_true rfl) ⟨(Nat.le_of_ble_eq_true rfl), (Nat.le_of_ble_eq_true rfl)⟩ ?_
  exact r_kret C hr hAd hC.1 (hC.fin (by omega) hK (by rw [((by decide +kernel : FO 0 9 [some 1, some 4, some 13, some 27, some 30, some 39, none, some 53, some 56, some 59, some 70, some 84, some 92, some 96] [])).r]; funext j; rcases j with _|_|_|_|_|_|_|_|_|_|_|_|_|_|j <;> simp [va_up]) (by rw [((by decide +kernel : FO 0 9 [some 1, some 4, some 13, some 27, some 30, some 39, none, some 53, some 56, some 59, some 70, some 84, some 92, some 96] [])).i]; rfl)) dX10_init_147
set_option maxHeartbeats 4000000 in
theorem c_X11_init {l : Launch} {g : GG}  : CK l yX11_init cX11_init 1 (RMc 2 60 24 2429) 24 2429 g (99) 98 (123) true := by
  refine CK_of (by decide +kernel) rfl (by decide) (fun p e s m args below meth c ad R I J hni hAO C hr hNI hkn hRF z1 z2 z3 => ?_)
  have hA0 : ∀ q, s.heap.size ≤ q → AZ ad (99) s.heap.size q := fun q h => Or.inr h
  have hC : CS (fun i => i = 98 ∨ i = 99) (I0) (99) (99) R I J R I J := CS.start hNI
  have hK : OP 98 R I J (fun _ => none) (fun _ => 0) := ⟨z1, z2, z3⟩
  have hAd : ∀ i, i < 99 → ad i = ad i := fun _ _ => rfl
  refine r_aload_n C 0 rfl rfl dX11_init_0 ?_
  refine r_objInit C li_X11_1 (Nat.le_of_ble_eq_true rfl) (Nat.le_of_ble_eq_true rfl) dX11_init_1 ?_
  refine r_aload_n C 0 rfl rfl dX11_init_4 ?_
  refine r_sipush C (v := 666) (by decide) dX11_init_5 ?_
  refine r_newi C hA0 hC.1 (N := 666) (by decide +kernel : oK 99 = 11) (by decide +kernel : oL 99 = 666) (by decide) (by decide) (by decide) (Nat.le_of_ble_eq_true rfl) (Nat.le_of_ble_eq_true rfl) dX11_init_8 (fun ad1 he1 => ?_)
  rw [← he1 98 (by omega)]
  have hAd : ∀ i, i < 99 → ad1 i = ad i := fun i hi => (he1 i (by omega)).trans (hAd i hi)
  have hS := OP.opn hC.1
  have hC := hC.opn (Or.inr rfl)
  refine pR_X11_7 C hni (q := 99) ⟨(by decide +kernel : oK 98 = 10), by omega⟩ dX11_init_10 ?_
  have hC := hC.sR (k := 98) (j := 0) (q := 99) (Or.inl rfl) (by omega) (by omega)
  have hK := hK.sR (j := 0) (q := 99)
  have hS := hS.sRne (j := 0) (q := 99) (a := 98) (by decide)
  refine r_aload_n C 0 rfl rfl dX11_init_13 ?_
  refine r_sipush C (v := 666) (by decide) dX11_init_14 ?_
  refine r_newi C hA0 hC.1 (N := 666) (by decide +kernel : oK 100 = 11) (by decide +kernel : oL 100 = 666) (by decide) (by decide) (by decide) (Nat.le_of_ble_eq_true rfl) (Nat.le_of_ble_eq_true rfl) dX11_init_17 (fun ad2 he2 => ?_)
  rw [← he2 98 (by omega)]
  have hAd : ∀ i, i < 99 → ad2 i = ad i := fun i hi => (he2 i (by omega)).trans (hAd i hi)
  have hC := CS.arr hC (by decide +kernel : FA 100 11 666 []).r (by decide +kernel : FA 100 11 666 []).z
  refine pR_X11_13 C hni (q := 100) ⟨(by decide +kernel : oK 98 = 10), by omega⟩ dX11_init_19 ?_
  have hC := hC.sR (k := 98) (j := 1) (q := 100) (Or.inl rfl) (by omega) (by omega)
  have hK := hK.sR (j := 1) (q := 100)
  have hS := hS.sRne (j := 1) (q := 100) (a := 98) (by decide)
  refine r_aload_n C 0 rfl rfl dX11_init_22 ?_
  refine r_iconst C (v := 3) (by decide) dX11_init_23 ?_
  refine r_newj C hA0 hC.1 (N := 3) (by decide +kernel : oK 101 = 12) (by decide +kernel : oL 101 = 3) (by decide) (by decide) (by decide) (Nat.le_of_ble_eq_true rfl) (Nat.le_of_ble_eq_true rfl) dX11_init_24 (fun ad3 he3 => ?_)
  rw [← he3 98 (by omega)]
  have hAd : ∀ i, i < 99 → ad3 i = ad i := fun i hi => (he3 i (by omega)).trans (hAd i hi)
  have hC := CS.arr hC (by decide +kernel : FA 101 12 3 []).r (by decide +kernel : FA 101 12 3 []).z
  refine pR_X11_16 C hni (q := 101) ⟨(by decide +kernel : oK 98 = 10), by omega⟩ dX11_init_26 ?_
  have hC := hC.sR (k := 98) (j := 2) (q := 101) (Or.inl rfl) (by omega) (by omega)
  have hK := hK.sR (j := 2) (q := 101)
  have hS := hS.sRne (j := 2) (q := 101) (a := 98) (by decide)
  refine r_aload_n C 0 rfl rfl dX11_init_29 ?_
  refine r_iconst C (v := 3) (by decide) dX11_init_30 ?_
  refine r_newj C hA0 hC.1 (N := 3) (by decide +kernel : oK 102 = 12) (by decide +kernel : oL 102 = 3) (by decide) (by decide) (by decide) (Nat.le_of_ble_eq_true rfl) (Nat.le_of_ble_eq_true rfl) dX11_init_31 (fun ad4 he4 => ?_)
  rw [← he4 98 (by omega)]
  have hAd : ∀ i, i < 99 → ad4 i = ad i := fun i hi => (he4 i (by omega)).trans (hAd i hi)
  have hC := CS.arr hC (by decide +kernel : FA 102 12 3 []).r (by decide +kernel : FA 102 12 3 []).z
  refine pR_X11_20 C hni (q := 102) ⟨(by decide +kernel : oK 98 = 10), by omega⟩ dX11_init_33 ?_
  have hC := hC.sR (k := 98) (j := 3) (q := 102) (Or.inl rfl) (by omega) (by omega)
  have hK := hK.sR (j := 3) (q := 102)
  have hS := hS.sRne (j := 3) (q := 102) (a := 98) (by decide)
  refine r_aload_n C 0 rfl rfl dX11_init_36 ?_
  refine r_bipush C (v := 12) (by decide) dX11_init_37 ?_
  refine r_newi C hA0 hC.1 (N := 12) (by decide +kernel : oK 103 = 11) (by decide +kernel : oL 103 = 12) (by decide) (by decide) (by decide) (Nat.le_of_ble_eq_true rfl) (Nat.le_of_ble_eq_true rfl) dX11_init_39 (fun ad5 he5 => ?_)
  rw [← he5 98 (by omega)]
  have hAd : ∀ i, i < 99 → ad5 i = ad i := fun i hi => (he5 i (by omega)).trans (hAd i hi)
  have hD : CS (fun i => i = 103 ∨ (fun i => i = 98 ∨ i = 99) i) (I0) (99) (104) R I J _ _ _ := CS.opn (O := fun i => i = 103 ∨ (fun i => i = 98 ∨ i = 99) i) ⟨hC.1, hC.2.1, fun i h1 h2 => hC.2.2.1 i h1 (fun q => h2 (Or.inr q)), fun i h1 h2 h3 => hC.2.2.2 i h1 h2 (fun q => h3 (Or.inr q))⟩ (Or.inl rfl)
  have hO := OP.opn hC.1
  refine r_dup C rfl dX11_init_41 ?_
  refine r_iconst C (v := 0) (by decide) dX11_init_42 ?_
  refine r_sipush C (v := 10006) (by decide) dX11_init_43 ?_
  refine r_iast C (ρ := Nat) (X := some 0) (z := 0) ⟨(by decide +kernel : oK 103 = 11), by omega, (by decide +kernel : oL 103 = 12)⟩ (by decide) dX11_init_46 (fun _ => ?_)
  rw [show Int32.toNatClampNeg 0 = 0 from by decide]
  have hD := hD.sI (j := 0) (v := 10006) (Or.inl rfl) (by omega)
  have hO := hO.sI (j := 0) (v := 10006)
  have hK := hK.sIne (j := 0) (v := 10006) (a := 103) (by omega)
  have hS := hS.sIne (j := 0) (v := 10006) (a := 103) (by omega)
  refine r_dup C rfl dX11_init_47 ?_
  refine r_iconst C (v := 1) (by decide) dX11_init_48 ?_
  refine r_sipush C (v := 10001) (by decide) dX11_init_49 ?_
  refine r_iast C (ρ := Nat) (X := some 0) (z := 0) ⟨(by decide +kernel : oK 103 = 11), by omega, (by decide +kernel : oL 103 = 12)⟩ (by decide) dX11_init_52 (fun _ => ?_)
  rw [show Int32.toNatClampNeg 1 = 1 from by decide]
  have hD := hD.sI (j := 1) (v := 10001) (Or.inl rfl) (by omega)
  have hO := hO.sI (j := 1) (v := 10001)
  have hK := hK.sIne (j := 1) (v := 10001) (a := 103) (by omega)
  have hS := hS.sIne (j := 1) (v := 10001) (a := 103) (by omega)
  refine r_dup C rfl dX11_init_53 ?_
  refine r_iconst C (v := 2) (by decide) dX11_init_54 ?_
  refine r_iconst C (v := 4) (by decide) dX11_init_55 ?_
  refine r_iast C (ρ := Nat) (X := some 0) (z := 0) ⟨(by decide +kernel : oK 103 = 11), by omega, (by decide +kernel : oL 103 = 12)⟩ (by decide) dX11_init_56 (fun _ => ?_)
  rw [show Int32.toNatClampNeg 2 = 2 from by decide]
  have hD := hD.sI (j := 2) (v := 4) (Or.inl rfl) (by omega)
  have hO := hO.sI (j := 2) (v := 4)
  have hK := hK.sIne (j := 2) (v := 4) (a := 103) (by omega)
  have hS := hS.sIne (j := 2) (v := 4) (a := 103) (by omega)
  refine r_dup C rfl dX11_init_57 ?_
  refine r_iconst C (v := 3) (by decide) dX11_init_58 ?_
  refine r_sipush C (v := 10014) (by decide) dX11_init_59 ?_
  refine r_iast C (ρ := Nat) (X := some 0) (z := 0) ⟨(by decide +kernel : oK 103 = 11), by omega, (by decide +kernel : oL 103 = 12)⟩ (by decide) dX11_init_62 (fun _ => ?_)
  rw [show Int32.toNatClampNeg 3 = 3 from by decide]
  have hD := hD.sI (j := 3) (v := 10014) (Or.inl rfl) (by omega)
  have hO := hO.sI (j := 3) (v := 10014)
  have hK := hK.sIne (j := 3) (v := 10014) (a := 103) (by omega)
  have hS := hS.sIne (j := 3) (v := 10014) (a := 103) (by omega)
  refine r_dup C rfl dX11_init_63 ?_
  refine r_iconst C (v := 4) (by decide) dX11_init_64 ?_
  refine r_sipush C (v := 10000) (by decide) dX11_init_65 ?_
  refine r_iast C (ρ := Nat) (X := some 0) (z := 0) ⟨(by decide +kernel : oK 103 = 11), by omega, (by decide +kernel : oL 103 = 12)⟩ (by decide) dX11_init_68 (fun _ => ?_)
  rw [show Int32.toNatClampNeg 4 = 4 from by decide]
  have hD := hD.sI (j := 4) (v := 10000) (Or.inl rfl) (by omega)
  have hO := hO.sI (j := 4) (v := 10000)
  have hK := hK.sIne (j := 4) (v := 10000) (a := 103) (by omega)
  have hS := hS.sIne (j := 4) (v := 10000) (a := 103) (by omega)
  refine r_dup C rfl dX11_init_69 ?_
  refine r_iconst C (v := 5) (by decide) dX11_init_70 ?_
  refine r_bipush C (v := 100) (by decide) dX11_init_71 ?_
  refine r_iast C (ρ := Nat) (X := some 0) (z := 0) ⟨(by decide +kernel : oK 103 = 11), by omega, (by decide +kernel : oL 103 = 12)⟩ (by decide) dX11_init_73 (fun _ => ?_)
  rw [show Int32.toNatClampNeg 5 = 5 from by decide]
  have hD := hD.sI (j := 5) (v := 100) (Or.inl rfl) (by omega)
  have hO := hO.sI (j := 5) (v := 100)
  have hK := hK.sIne (j := 5) (v := 100) (a := 103) (by omega)
  have hS := hS.sIne (j := 5) (v := 100) (a := 103) (by omega)
  refine r_dup C rfl dX11_init_74 ?_
  refine r_bipush C (v := 6) (by decide) dX11_init_75 ?_
  refine r_sipush C (v := 10018) (by decide) dX11_init_77 ?_
  refine r_iast C (ρ := Nat) (X := some 0) (z := 0) ⟨(by decide +kernel : oK 103 = 11), by omega, (by decide +kernel : oL 103 = 12)⟩ (by decide) dX11_init_80 (fun _ => ?_)
  rw [show Int32.toNatClampNeg 6 = 6 from by decide]
  have hD := hD.sI (j := 6) (v := 10018) (Or.inl rfl) (by omega)
  have hO := hO.sI (j := 6) (v := 10018)
  have hK := hK.sIne (j := 6) (v := 10018) (a := 103) (by omega)
  have hS := hS.sIne (j := 6) (v := 10018) (a := 103) (by omega)
  refine r_dup C rfl dX11_init_81 ?_
  refine r_bipush C (v := 7) (by decide) dX11_init_82 ?_
  refine r_sipush C (v := 10000) (by decide) dX11_init_84 ?_
  refine r_iast C (ρ := Nat) (X := some 0) (z := 0) ⟨(by decide +kernel : oK 103 = 11), by omega, (by decide +kernel : oL 103 = 12)⟩ (by decide) dX11_init_87 (fun _ => ?_)
  rw [show Int32.toNatClampNeg 7 = 7 from by decide]
  have hD := hD.sI (j := 7) (v := 10000) (Or.inl rfl) (by omega)
  have hO := hO.sI (j := 7) (v := 10000)
  have hK := hK.sIne (j := 7) (v := 10000) (a := 103) (by omega)
  have hS := hS.sIne (j := 7) (v := 10000) (a := 103) (by omega)
  refine r_dup C rfl dX11_init_88 ?_
  refine r_bipush C (v := 8) (by decide) dX11_init_89 ?_
  refine r_iconst C (v := 5) (by decide) dX11_init_91 ?_
  refine r_iast C (ρ := Nat) (X := some 0) (z := 0) ⟨(by decide +kernel : oK 103 = 11), by omega, (by decide +kernel : oL 103 = 12)⟩ (by decide) dX11_init_92 (fun _ => ?_)
  rw [show Int32.toNatClampNeg 8 = 8 from by decide]
  have hD := hD.sI (j := 8) (v := 5) (Or.inl rfl) (by omega)
  have hO := hO.sI (j := 8) (v := 5)
  have hK := hK.sIne (j := 8) (v := 5) (a := 103) (by omega)
  have hS := hS.sIne (j := 8) (v := 5) (a := 103) (by omega)
  refine r_dup C rfl dX11_init_93 ?_
  refine r_bipush C (v := 9) (by decide) dX11_init_94 ?_
  refine r_sipush C (v := 10014) (by decide) dX11_init_96 ?_
  refine r_iast C (ρ := Nat) (X := some 0) (z := 0) ⟨(by decide +kernel : oK 103 = 11), by omega, (by decide +kernel : oL 103 = 12)⟩ (by decide) dX11_init_99 (fun _ => ?_)
  rw [show Int32.toNatClampNeg 9 = 9 from by decide]
  have hD := hD.sI (j := 9) (v := 10014) (Or.inl rfl) (by omega)
  have hO := hO.sI (j := 9) (v := 10014)
  have hK := hK.sIne (j := 9) (v := 10014) (a := 103) (by omega)
  have hS := hS.sIne (j := 9) (v := 10014) (a := 103) (by omega)
  refine r_dup C rfl dX11_init_100 ?_
  refine r_bipush C (v := 10) (by decide) dX11_init_101 ?_
  refine r_sipush C (v := 10001) (by decide) dX11_init_103 ?_
  refine r_iast C (ρ := Nat) (X := some 0) (z := 0) ⟨(by decide +kernel : oK 103 = 11), by omega, (by decide +kernel : oL 103 = 12)⟩ (by decide) dX11_init_106 (fun _ => ?_)
  rw [show Int32.toNatClampNeg 10 = 10 from by decide]
  have hD := hD.sI (j := 10) (v := 10001) (Or.inl rfl) (by omega)
  have hO := hO.sI (j := 10) (v := 10001)
  have hK := hK.sIne (j := 10) (v := 10001) (a := 103) (by omega)
  have hS := hS.sIne (j := 10) (v := 10001) (a := 103) (by omega)
  refine r_dup C rfl dX11_init_107 ?_
  refine r_bipush C (v := 11) (by decide) dX11_init_108 ?_
  refine r_sipush C (v := 10011) (by decide) dX11_init_110 ?_
  refine r_iast C (ρ := Nat) (X := some 0) (z := 0) ⟨(by decide +kernel : oK 103 = 11), by omega, (by decide +kernel : oL 103 = 12)⟩ (by decide) dX11_init_113 (fun _ => ?_)
  rw [show Int32.toNatClampNeg 11 = 11 from by decide]
  have hD := hD.sI (j := 11) (v := 10011) (Or.inl rfl) (by omega)
  have hO := hO.sI (j := 11) (v := 10011)
  have hK := hK.sIne (j := 11) (v := 10011) (a := 103) (by omega)
  have hS := hS.sIne (j := 11) (v := 10011) (a := 103) (by omega)
  have hC := hD.cls (O2 := fun i => i = 98 ∨ i = 99) (fun i h => h) (by omega) hO (by decide +kernel : FA 103 11 12 [10006, 10001, 4, 10014, 10000, 100, 10018, 10000, 5, 10014, 10001, 10011]).r.symm (Eq.trans (funext fun j => by rcases j with _|_|_|_|_|_|_|_|_|_|_|_|j <;> simp [upd]) (by decide +kernel : FA 103 11 12 [10006, 10001, 4, 10014, 10000, 100, 10018, 10000, 5, 10014, 10001, 10011]).i.symm)
  refine pR_X11_23 C hni (q := 103) ⟨(by decide +kernel : oK 98 = 10), by omega⟩ dX11_init_114 ?_
  have hC := hC.sR (k := 98) (j := 5) (q := 103) (Or.inl rfl) (by omega) (by omega)
  have hK := hK.sR (j := 5) (q := 103)
  have hS := hS.sRne (j := 5) (q := 103) (a := 98) (by decide)
  refine r_aload_n C 0 rfl rfl dX11_init_117 ?_
  refine r_iconst C (v := 4) (by decide) dX11_init_118 ?_
  refine r_newi C hA0 hC.1 (N := 4) (by decide +kernel : oK 104 = 11) (by decide +kernel : oL 104 = 4) (by decide) (by decide) (by decide) (Nat.le_of_ble_eq_true rfl) (Nat.le_of_ble_eq_true rfl) dX11_init_119 (fun ad6 he6 => ?_)
  rw [← he6 98 (by omega)]
  have hAd : ∀ i, i < 99 → ad6 i = ad i := fun i hi => (he6 i (by omega)).trans (hAd i hi)
  have hD : CS (fun i => i = 104 ∨ (fun i => i = 98 ∨ i = 99) i) (I0) (99) (105) R I J _ _ _ := CS.opn (O := fun i => i = 104 ∨ (fun i => i = 98 ∨ i = 99) i) ⟨hC.1, hC.2.1, fun i h1 h2 => hC.2.2.1 i h1 (fun q => h2 (Or.inr q)), fun i h1 h2 h3 => hC.2.2.2 i h1 h2 (fun q => h3 (Or.inr q))⟩ (Or.inl rfl)
  have hO := OP.opn hC.1
  refine r_dup C rfl dX11_init_121 ?_
  refine r_iconst C (v := 0) (by decide) dX11_init_122 ?_
  refine r_iconst C (v := 0) (by decide) dX11_init_123 ?_
  refine r_iast C (ρ := Nat) (X := some 0) (z := 0) ⟨(by decide +kernel : oK 104 = 11), by omega, (by decide +kernel : oL 104 = 4)⟩ (by decide) dX11_init_124 (fun _ => ?_)
  rw [show Int32.toNatClampNeg 0 = 0 from by decide]
  have hD := hD.sI (j := 0) (v := 0) (Or.inl rfl) (by omega)
  have hO := hO.sI (j := 0) (v := 0)
  have hK := hK.sIne (j := 0) (v := 0) (a := 104) (by omega)
  have hS := hS.sIne (j := 0) (v := 0) (a := 104) (by omega)
  refine r_dup C rfl dX11_init_125 ?_
  refine r_iconst C (v := 1) (by decide) dX11_init_126 ?_
  refine r_iconst C (v := 1) (by decide) dX11_init_127 ?_
  refine r_iast C (ρ := Nat) (X := some 0) (z := 0) ⟨(by decide +kernel : oK 104 = 11), by omega, (by decide +kernel : oL 104 = 4)⟩ (by decide) dX11_init_128 (fun _ => ?_)
  rw [show Int32.toNatClampNeg 1 = 1 from by decide]
  have hD := hD.sI (j := 1) (v := 1) (Or.inl rfl) (by omega)
  have hO := hO.sI (j := 1) (v := 1)
  have hK := hK.sIne (j := 1) (v := 1) (a := 104) (by omega)
  have hS := hS.sIne (j := 1) (v := 1) (a := 104) (by omega)
  refine r_dup C rfl dX11_init_129 ?_
  refine r_iconst C (v := 2) (by decide) dX11_init_130 ?_
  refine r_iconst C (v := 4) (by decide) dX11_init_131 ?_
  refine r_iast C (ρ := Nat) (X := some 0) (z := 0) ⟨(by decide +kernel : oK 104 = 11), by omega, (by decide +kernel : oL 104 = 4)⟩ (by decide) dX11_init_132 (fun _ => ?_)
  rw [show Int32.toNatClampNeg 2 = 2 from by decide]
  have hD := hD.sI (j := 2) (v := 4) (Or.inl rfl) (by omega)
  have hO := hO.sI (j := 2) (v := 4)
  have hK := hK.sIne (j := 2) (v := 4) (a := 104) (by omega)
  have hS := hS.sIne (j := 2) (v := 4) (a := 104) (by omega)
  refine r_dup C rfl dX11_init_133 ?_
  refine r_iconst C (v := 3) (by decide) dX11_init_134 ?_
  refine r_bipush C (v := 7) (by decide) dX11_init_135 ?_
  refine r_iast C (ρ := Nat) (X := some 0) (z := 0) ⟨(by decide +kernel : oK 104 = 11), by omega, (by decide +kernel : oL 104 = 4)⟩ (by decide) dX11_init_137 (fun _ => ?_)
  rw [show Int32.toNatClampNeg 3 = 3 from by decide]
  have hD := hD.sI (j := 3) (v := 7) (Or.inl rfl) (by omega)
  have hO := hO.sI (j := 3) (v := 7)
  have hK := hK.sIne (j := 3) (v := 7) (a := 104) (by omega)
  have hS := hS.sIne (j := 3) (v := 7) (a := 104) (by omega)
  have hC := hD.cls (O2 := fun i => i = 98 ∨ i = 99) (fun i h => h) (by omega) hO (by decide +kernel : FA 104 11 4 [0, 1, 4, 7]).r.symm (Eq.trans (funext fun j => by rcases j with _|_|_|_|j <;> simp [upd]) (by decide +kernel : FA 104 11 4 [0, 1, 4, 7]).i.symm)
  refine pR_X11_26 C hni (q := 104) ⟨(by decide +kernel : oK 98 = 10), by omega⟩ dX11_init_138 ?_
  have hC := hC.sR (k := 98) (j := 6) (q := 104) (Or.inl rfl) (by omega) (by omega)
  have hK := hK.sR (j := 6) (q := 104)
  have hS := hS.sRne (j := 6) (q := 104) (a := 98) (by decide)
  refine r_aload_n C 0 rfl rfl dX11_init_141 ?_
  refine r_iconst C (v := 4) (by decide) dX11_init_142 ?_
  refine r_newi C hA0 hC.1 (N := 4) (by decide +kernel : oK 105 = 11) (by decide +kernel : oL 105 = 4) (by decide) (by decide) (by decide) (Nat.le_of_ble_eq_true rfl) (Nat.le_of_ble_eq_true rfl) dX11_init_143 (fun ad7 he7 => ?_)
  rw [← he7 98 (by omega)]
  have hAd : ∀ i, i < 99 → ad7 i = ad i := fun i hi => (he7 i (by omega)).trans (hAd i hi)
  have hD : CS (fun i => i = 105 ∨ (fun i => i = 98 ∨ i = 99) i) (I0) (99) (106) R I J _ _ _ := CS.opn (O := fun i => i = 105 ∨ (fun i => i = 98 ∨ i = 99) i) ⟨hC.1, hC.2.1, fun i h1 h2 => hC.2.2.1 i h1 (fun q => h2 (Or.inr q)), fun i h1 h2 h3 => hC.2.2.2 i h1 h2 (fun q => h3 (Or.inr q))⟩ (Or.inl rfl)
  have hO := OP.opn hC.1
  refine r_dup C rfl dX11_init_145 ?_
  refine r_iconst C (v := 0) (by decide) dX11_init_146 ?_
  refine r_iconst C (v := 1) (by decide) dX11_init_147 ?_
  refine r_iast C (ρ := Nat) (X := some 0) (z := 0) ⟨(by decide +kernel : oK 105 = 11), by omega, (by decide +kernel : oL 105 = 4)⟩ (by decide) dX11_init_148 (fun _ => ?_)
  rw [show Int32.toNatClampNeg 0 = 0 from by decide]
  have hD := hD.sI (j := 0) (v := 1) (Or.inl rfl) (by omega)
  have hO := hO.sI (j := 0) (v := 1)
  have hK := hK.sIne (j := 0) (v := 1) (a := 105) (by omega)
  have hS := hS.sIne (j := 0) (v := 1) (a := 105) (by omega)
  refine r_dup C rfl dX11_init_149 ?_
  refine r_iconst C (v := 1) (by decide) dX11_init_150 ?_
  refine r_iconst C (v := 4) (by decide) dX11_init_151 ?_
  refine r_iast C (ρ := Nat) (X := some 0) (z := 0) ⟨(by decide +kernel : oK 105 = 11), by omega, (by decide +kernel : oL 105 = 4)⟩ (by decide) dX11_init_152 (fun _ => ?_)
  rw [show Int32.toNatClampNeg 1 = 1 from by decide]
  have hD := hD.sI (j := 1) (v := 4) (Or.inl rfl) (by omega)
  have hO := hO.sI (j := 1) (v := 4)
  have hK := hK.sIne (j := 1) (v := 4) (a := 105) (by omega)
  have hS := hS.sIne (j := 1) (v := 4) (a := 105) (by omega)
  refine r_dup C rfl dX11_init_153 ?_
  refine r_iconst C (v := 2) (by decide) dX11_init_154 ?_
  refine r_bipush C (v := 7) (by decide) dX11_init_155 ?_
  refine r_iast C (ρ := Nat) (X := some 0) (z := 0) ⟨(by decide +kernel : oK 105 = 11), by omega, (by decide +kernel : oL 105 = 4)⟩ (by decide) dX11_init_157 (fun _ => ?_)
  rw [show Int32.toNatClampNeg 2 = 2 from by decide]
  have hD := hD.sI (j := 2) (v := 7) (Or.inl rfl) (by omega)
  have hO := hO.sI (j := 2) (v := 7)
  have hK := hK.sIne (j := 2) (v := 7) (a := 105) (by omega)
  have hS := hS.sIne (j := 2) (v := 7) (a := 105) (by omega)
  refine r_dup C rfl dX11_init_158 ?_
  refine r_iconst C (v := 3) (by decide) dX11_init_159 ?_
  refine r_bipush C (v := 12) (by decide) dX11_init_160 ?_
  refine r_iast C (ρ := Nat) (X := some 0) (z := 0) ⟨(by decide +kernel : oK 105 = 11), by omega, (by decide +kernel : oL 105 = 4)⟩ (by decide) dX11_init_162 (fun _ => ?_)
  rw [show Int32.toNatClampNeg 3 = 3 from by decide]
  have hD := hD.sI (j := 3) (v := 12) (Or.inl rfl) (by omega)
  have hO := hO.sI (j := 3) (v := 12)
  have hK := hK.sIne (j := 3) (v := 12) (a := 105) (by omega)
  have hS := hS.sIne (j := 3) (v := 12) (a := 105) (by omega)
  have hC := hD.cls (O2 := fun i => i = 98 ∨ i = 99) (fun i h => h) (by omega) hO (by decide +kernel : FA 105 11 4 [1, 4, 7, 12]).r.symm (Eq.trans (funext fun j => by rcases j with _|_|_|_|j <;> simp [upd]) (by decide +kernel : FA 105 11 4 [1, 4, 7, 12]).i.symm)
  refine pR_X11_29 C hni (q := 105) ⟨(by decide +kernel : oK 98 = 10), by omega⟩ dX11_init_163 ?_
  have hC := hC.sR (k := 98) (j := 7) (q := 105) (Or.inl rfl) (by omega) (by omega)
  have hK := hK.sR (j := 7) (q := 105)
  have hS := hS.sRne (j := 7) (q := 105) (a := 98) (by decide)
  refine r_aload_n C 0 rfl rfl dX11_init_166 ?_
  refine r_bipush C (v := 9) (by decide) dX11_init_167 ?_
  refine r_newi C hA0 hC.1 (N := 9) (by decide +kernel : oK 106 = 11) (by decide +kernel : oL 106 = 9) (by decide) (by decide) (by decide) (Nat.le_of_ble_eq_true rfl) (Nat.le_of_ble_eq_true rfl) dX11_init_169 (fun ad8 he8 => ?_)
  rw [← he8 98 (by omega)]
  have hAd : ∀ i, i < 99 → ad8 i = ad i := fun i hi => (he8 i (by omega)).trans (hAd i hi)
  have hC := CS.arr hC (by decide +kernel : FA 106 11 9 []).r (by decide +kernel : FA 106 11 9 []).z
  refine pR_X11_32 C hni (q := 106) ⟨(by decide +kernel : oK 98 = 10), by omega⟩ dX11_init_171 ?_
  have hC := hC.sR (k := 98) (j := 8) (q := 106) (Or.inl rfl) (by omega) (by omega)
  have hK := hK.sR (j := 8) (q := 106)
  have hS := hS.sRne (j := 8) (q := 106) (a := 98) (by decide)
  refine r_aload_n C 0 rfl rfl dX11_init_174 ?_
  refine r_bipush C (v := 60) (by decide) dX11_init_175 ?_
  refine r_newi C hA0 hC.1 (N := 60) (by decide +kernel : oK 107 = 11) (by decide +kernel : oL 107 = 60) (by decide) (by decide) (by decide) (Nat.le_of_ble_eq_true rfl) (Nat.le_of_ble_eq_true rfl) dX11_init_177 (fun ad9 he9 => ?_)
  rw [← he9 98 (by omega)]
  have hAd : ∀ i, i < 99 → ad9 i = ad i := fun i hi => (he9 i (by omega)).trans (hAd i hi)
  have hC := CS.arr hC (by decide +kernel : FA 107 11 60 []).r (by decide +kernel : FA 107 11 60 []).z
  refine pR_X11_35 C hni (q := 107) ⟨(by decide +kernel : oK 98 = 10), by omega⟩ dX11_init_179 ?_
  have hC := hC.sR (k := 98) (j := 9) (q := 107) (Or.inl rfl) (by omega) (by omega)
  have hK := hK.sR (j := 9) (q := 107)
  have hS := hS.sRne (j := 9) (q := 107) (a := 98) (by decide)
  refine r_aload_n C 0 rfl rfl dX11_init_182 ?_
  refine r_bipush C (v := 60) (by decide) dX11_init_183 ?_
  refine r_newi C hA0 hC.1 (N := 60) (by decide +kernel : oK 108 = 11) (by decide +kernel : oL 108 = 60) (by decide) (by decide) (by decide) (Nat.le_of_ble_eq_true rfl) (Nat.le_of_ble_eq_true rfl) dX11_init_185 (fun ad10 he10 => ?_)
  rw [← he10 98 (by omega)]
  have hAd : ∀ i, i < 99 → ad10 i = ad i := fun i hi => (he10 i (by omega)).trans (hAd i hi)
  have hC := CS.arr hC (by decide +kernel : FA 108 11 60 []).r (by decide +kernel : FA 108 11 60 []).z
  refine pR_X11_38 C hni (q := 108) ⟨(by decide +kernel : oK 98 = 10), by omega⟩ dX11_init_187 ?_
  have hC := hC.sR (k := 98) (j := 10) (q := 108) (Or.inl rfl) (by omega) (by omega)
  have hK := hK.sR (j := 10) (q := 108)
  have hS := hS.sRne (j := 10) (q := 108) (a := 98) (by decide)
  refine r_aload_n C 0 rfl rfl dX11_init_190 ?_
  refine r_sipush C (v := 220) (by decide) dX11_init_191 ?_
  refine r_newi C hA0 hC.1 (N := 220) (by decide +kernel : oK 109 = 11) (by decide +kernel : oL 109 = 220) (by decide) (by decide) (by decide) (Nat.le_of_ble_eq_true rfl) (Nat.le_of_ble_eq_true rfl) dX11_init_194 (fun ad11 he11 => ?_)
  rw [← he11 98 (by omega)]
  have hAd : ∀ i, i < 99 → ad11 i = ad i := fun i hi => (he11 i (by omega)).trans (hAd i hi)
  have hC := CS.arr hC (by decide +kernel : FA 109 11 220 []).r (by decide +kernel : FA 109 11 220 []).z
  refine pR_X11_41 C hni (q := 109) ⟨(by decide +kernel : oK 98 = 10), by omega⟩ dX11_init_196 ?_
  have hC := hC.sR (k := 98) (j := 14) (q := 109) (Or.inl rfl) (by omega) (by omega)
  have hK := hK.sR (j := 14) (q := 109)
  have hS := hS.sRne (j := 14) (q := 109) (a := 98) (by decide)
  refine r_aload_n C 0 rfl rfl dX11_init_199 ?_
  refine r_sipush C (v := 200) (by decide) dX11_init_200 ?_
  refine r_newi C hA0 hC.1 (N := 200) (by decide +kernel : oK 110 = 11) (by decide +kernel : oL 110 = 200) (by decide) (by decide) (by decide) (Nat.le_of_ble_eq_true rfl) (Nat.le_of_ble_eq_true rfl) dX11_init_203 (fun ad12 he12 => ?_)
  rw [← he12 98 (by omega)]
  have hAd : ∀ i, i < 99 → ad12 i = ad i := fun i hi => (he12 i (by omega)).trans (hAd i hi)
  have hC := CS.arr hC (by decide +kernel : FA 110 11 200 []).r (by decide +kernel : FA 110 11 200 []).z
  refine pR_X11_44 C hni (q := 110) ⟨(by decide +kernel : oK 98 = 10), by omega⟩ dX11_init_205 ?_
  have hC := hC.sR (k := 98) (j := 15) (q := 110) (Or.inl rfl) (by omega) (by omega)
  have hK := hK.sR (j := 15) (q := 110)
  have hS := hS.sRne (j := 15) (q := 110) (a := 98) (by decide)
  refine r_aload_n C 0 rfl rfl dX11_init_208 ?_
  refine r_sipush C (v := 220) (by decide) dX11_init_209 ?_
  refine r_newi C hA0 hC.1 (N := 220) (by decide +kernel : oK 111 = 11) (by decide +kernel : oL 111 = 220) (by decide) (by decide) (by decide) (Nat.le_of_ble_eq_true rfl) (Nat.le_of_ble_eq_true rfl) dX11_init_212 (fun ad13 he13 => ?_)
  rw [← he13 98 (by omega)]
  have hAd : ∀ i, i < 99 → ad13 i = ad i := fun i hi => (he13 i (by omega)).trans (hAd i hi)
  have hC := CS.arr hC (by decide +kernel : FA 111 11 220 []).r (by decide +kernel : FA 111 11 220 []).z
  refine pR_X11_47 C hni (q := 111) ⟨(by decide +kernel : oK 98 = 10), by omega⟩ dX11_init_214 ?_
  have hC := hC.sR (k := 98) (j := 16) (q := 111) (Or.inl rfl) (by omega) (by omega)
  have hK := hK.sR (j := 16) (q := 111)
  have hS := hS.sRne (j := 16) (q := 111) (a := 98) (by decide)
  refine r_aload_n C 0 rfl rfl dX11_init_217 ?_
  refine r_iconst C (v := 4) (by decide) dX11_init_218 ?_
  refine r_newi C hA0 hC.1 (N := 4) (by decide +kernel : oK 112 = 11) (by decide +kernel : oL 112 = 4) (by decide) (by decide) (by decide) (Nat.le_of_ble_eq_true rfl) (Nat.le_of_ble_eq_true rfl) dX11_init_219 (fun ad14 he14 => ?_)
  rw [← he14 98 (by omega)]
  have hAd : ∀ i, i < 99 → ad14 i = ad i := fun i hi => (he14 i (by omega)).trans (hAd i hi)
  have hC := CS.arr hC (by decide +kernel : FA 112 11 4 []).r (by decide +kernel : FA 112 11 4 []).z
  refine pR_X11_50 C hni (q := 112) ⟨(by decide +kernel : oK 98 = 10), by omega⟩ dX11_init_221 ?_
  have hC := hC.sR (k := 98) (j := 17) (q := 112) (Or.inl rfl) (by omega) (by omega)
  have hK := hK.sR (j := 17) (q := 112)
  have hS := hS.sRne (j := 17) (q := 112) (a := 98) (by decide)
  refine r_aload_n C 0 rfl rfl dX11_init_224 ?_
  refine r_iconst C (v := 4) (by decide) dX11_init_225 ?_
  refine r_newi C hA0 hC.1 (N := 4) (by decide +kernel : oK 113 = 11) (by decide +kernel : oL 113 = 4) (by decide) (by decide) (by decide) (Nat.le_of_ble_eq_true rfl) (Nat.le_of_ble_eq_true rfl) dX11_init_226 (fun ad15 he15 => ?_)
  rw [← he15 98 (by omega)]
  have hAd : ∀ i, i < 99 → ad15 i = ad i := fun i hi => (he15 i (by omega)).trans (hAd i hi)
  have hC := CS.arr hC (by decide +kernel : FA 113 11 4 []).r (by decide +kernel : FA 113 11 4 []).z
  refine pR_X11_53 C hni (q := 113) ⟨(by decide +kernel : oK 98 = 10), by omega⟩ dX11_init_228 ?_
  have hC := hC.sR (k := 98) (j := 18) (q := 113) (Or.inl rfl) (by omega) (by omega)
  have hK := hK.sR (j := 18) (q := 113)
  have hS := hS.sRne (j := 18) (q := 113) (a := 98) (by decide)
  refine r_aload_n C 0 rfl rfl dX11_init_231 ?_
  refine r_bipush C (v := 60) (by decide) dX11_init_232 ?_
  refine r_newi C hA0 hC.1 (N := 60) (by decide +kernel : oK 114 = 11) (by decide +kernel : oL 114 = 60) (by decide) (by decide) (by decide) (Nat.le_of_ble_eq_true rfl) (Nat.le_of_ble_eq_true rfl) dX11_init_234 (fun ad16 he16 => ?_)
  rw [← he16 98 (by omega)]
  have hAd : ∀ i, i < 99 → ad16 i = ad i := fun i hi => (he16 i (by omega)).trans (hAd i hi)
  have hC := CS.arr hC (by decide +kernel : FA 114 11 60 []).r (by decide +kernel : FA 114 11 60 []).z
  refine pR_X11_56 C hni (q := 114) ⟨(by decide +kernel : oK 98 = 10), by omega⟩ dX11_init_236 ?_
  have hC := hC.sR (k := 98) (j := 26) (q := 114) (Or.inl rfl) (by omega) (by omega)
  have hK := hK.sR (j := 26) (q := 114)
  have hS := hS.sRne (j := 26) (q := 114) (a := 98) (by decide)
  refine r_aload_n C 0 rfl rfl dX11_init_239 ?_
  refine r_bipush C (v := 24) (by decide) dX11_init_240 ?_
  refine r_newi C hA0 hC.1 (N := 24) (by decide +kernel : oK 115 = 11) (by decide +kernel : oL 115 = 24) (by decide) (by decide) (by decide) (Nat.le_of_ble_eq_true rfl) (Nat.le_of_ble_eq_true rfl) dX11_init_242 (fun ad17 he17 => ?_)
  rw [← he17 98 (by omega)]
  have hAd : ∀ i, i < 99 → ad17 i = ad i := fun i hi => (he17 i (by omega)).trans (hAd i hi)
  have hC := CS.arr hC (by decide +kernel : FA 115 11 24 []).r (by decide +kernel : FA 115 11 24 []).z
  refine pR_X11_59 C hni (q := 115) ⟨(by decide +kernel : oK 98 = 10), by omega⟩ dX11_init_244 ?_
  have hC := hC.sR (k := 98) (j := 28) (q := 115) (Or.inl rfl) (by omega) (by omega)
  have hK := hK.sR (j := 28) (q := 115)
  have hS := hS.sRne (j := 28) (q := 115) (a := 98) (by decide)
  refine r_aload_n C 0 rfl rfl dX11_init_247 ?_
  refine r_iconst C (v := 4) (by decide) dX11_init_248 ?_
  refine r_newi C hA0 hC.1 (N := 4) (by decide +kernel : oK 116 = 11) (by decide +kernel : oL 116 = 4) (by decide) (by decide) (by decide) (Nat.le_of_ble_eq_true rfl) (Nat.le_of_ble_eq_true rfl) dX11_init_249 (fun ad18 he18 => ?_)
  rw [← he18 98 (by omega)]
  have hAd : ∀ i, i < 99 → ad18 i = ad i := fun i hi => (he18 i (by omega)).trans (hAd i hi)
  have hD : CS (fun i => i = 116 ∨ (fun i => i = 98 ∨ i = 99) i) (I0) (99) (117) R I J _ _ _ := CS.opn (O := fun i => i = 116 ∨ (fun i => i = 98 ∨ i = 99) i) ⟨hC.1, hC.2.1, fun i h1 h2 => hC.2.2.1 i h1 (fun q => h2 (Or.inr q)), fun i h1 h2 h3 => hC.2.2.2 i h1 h2 (fun q => h3 (Or.inr q))⟩ (Or.inl rfl)
  have hO := OP.opn hC.1
  refine r_dup C rfl dX11_init_251 ?_
  refine r_iconst C (v := 0) (by decide) dX11_init_252 ?_
  refine r_iconst C (v := -1) (by decide) dX11_init_253 ?_
  refine r_iast C (ρ := Nat) (X := some 0) (z := 0) ⟨(by decide +kernel : oK 116 = 11), by omega, (by decide +kernel : oL 116 = 4)⟩ (by decide) dX11_init_254 (fun _ => ?_)
  rw [show Int32.toNatClampNeg 0 = 0 from by decide]
  have hD := hD.sI (j := 0) (v := -1) (Or.inl rfl) (by omega)
  have hO := hO.sI (j := 0) (v := -1)
  have hK := hK.sIne (j := 0) (v := -1) (a := 116) (by omega)
  have hS := hS.sIne (j := 0) (v := -1) (a := 116) (by omega)
  refine r_dup C rfl dX11_init_255 ?_
  refine r_iconst C (v := 1) (by decide) dX11_init_256 ?_
  refine r_iconst C (v := -1) (by decide) dX11_init_257 ?_
  refine r_iast C (ρ := Nat) (X := some 0) (z := 0) ⟨(by decide +kernel : oK 116 = 11), by omega, (by decide +kernel : oL 116 = 4)⟩ (by decide) dX11_init_258 (fun _ => ?_)
  rw [show Int32.toNatClampNeg 1 = 1 from by decide]
  have hD := hD.sI (j := 1) (v := -1) (Or.inl rfl) (by omega)
  have hO := hO.sI (j := 1) (v := -1)
  have hK := hK.sIne (j := 1) (v := -1) (a := 116) (by omega)
  have hS := hS.sIne (j := 1) (v := -1) (a := 116) (by omega)
  refine r_dup C rfl dX11_init_259 ?_
  refine r_iconst C (v := 2) (by decide) dX11_init_260 ?_
  refine r_iconst C (v := -1) (by decide) dX11_init_261 ?_
  refine r_iast C (ρ := Nat) (X := some 0) (z := 0) ⟨(by decide +kernel : oK 116 = 11), by omega, (by decide +kernel : oL 116 = 4)⟩ (by decide) dX11_init_262 (fun _ => ?_)
  rw [show Int32.toNatClampNeg 2 = 2 from by decide]
  have hD := hD.sI (j := 2) (v := -1) (Or.inl rfl) (by omega)
  have hO := hO.sI (j := 2) (v := -1)
  have hK := hK.sIne (j := 2) (v := -1) (a := 116) (by omega)
  have hS := hS.sIne (j := 2) (v := -1) (a := 116) (by omega)
  refine r_dup C rfl dX11_init_263 ?_
  refine r_iconst C (v := 3) (by decide) dX11_init_264 ?_
  refine r_iconst C (v := -1) (by decide) dX11_init_265 ?_
  refine r_iast C (ρ := Nat) (X := some 0) (z := 0) ⟨(by decide +kernel : oK 116 = 11), by omega, (by decide +kernel : oL 116 = 4)⟩ (by decide) dX11_init_266 (fun _ => ?_)
  rw [show Int32.toNatClampNeg 3 = 3 from by decide]
  have hD := hD.sI (j := 3) (v := -1) (Or.inl rfl) (by omega)
  have hO := hO.sI (j := 3) (v := -1)
  have hK := hK.sIne (j := 3) (v := -1) (a := 116) (by omega)
  have hS := hS.sIne (j := 3) (v := -1) (a := 116) (by omega)
  have hC := hD.cls (O2 := fun i => i = 98 ∨ i = 99) (fun i h => h) (by omega) hO (by decide +kernel : FA 116 11 4 [-1, -1, -1, -1]).r.symm (Eq.trans (funext fun j => by rcases j with _|_|_|_|j <;> simp [upd]) (by decide +kernel : FA 116 11 4 [-1, -1, -1, -1]).i.symm)
  refine pR_X11_62 C hni (q := 116) ⟨(by decide +kernel : oK 98 = 10), by omega⟩ dX11_init_267 ?_
  have hC := hC.sR (k := 98) (j := 30) (q := 116) (Or.inl rfl) (by omega) (by omega)
  have hK := hK.sR (j := 30) (q := 116)
  have hS := hS.sRne (j := 30) (q := 116) (a := 98) (by decide)
  refine r_aload_n C 0 rfl rfl dX11_init_270 ?_
  refine r_iconst C (v := 4) (by decide) dX11_init_271 ?_
  refine r_newi C hA0 hC.1 (N := 4) (by decide +kernel : oK 117 = 11) (by decide +kernel : oL 117 = 4) (by decide) (by decide) (by decide) (Nat.le_of_ble_eq_true rfl) (Nat.le_of_ble_eq_true rfl) dX11_init_272 (fun ad19 he19 => ?_)
  rw [← he19 98 (by omega)]
  have hAd : ∀ i, i < 99 → ad19 i = ad i := fun i hi => (he19 i (by omega)).trans (hAd i hi)
  have hC := CS.arr hC (by decide +kernel : FA 117 11 4 []).r (by decide +kernel : FA 117 11 4 []).z
  refine pR_X11_65 C hni (q := 117) ⟨(by decide +kernel : oK 98 = 10), by omega⟩ dX11_init_274 ?_
  have hC := hC.sR (k := 98) (j := 31) (q := 117) (Or.inl rfl) (by omega) (by omega)
  have hK := hK.sR (j := 31) (q := 117)
  have hS := hS.sRne (j := 31) (q := 117) (a := 98) (by decide)
  refine r_aload_n C 0 rfl rfl dX11_init_277 ?_
  refine r_sipush C (v := 160) (by decide) dX11_init_278 ?_
  refine r_newi C hA0 hC.1 (N := 160) (by decide +kernel : oK 118 = 11) (by decide +kernel : oL 118 = 160) (by decide) (by decide) (by decide) (Nat.le_of_ble_eq_true rfl) (Nat.le_of_ble_eq_true rfl) dX11_init_281 (fun ad20 he20 => ?_)
  rw [← he20 98 (by omega)]
  have hAd : ∀ i, i < 99 → ad20 i = ad i := fun i hi => (he20 i (by omega)).trans (hAd i hi)
  have hC := CS.arr hC (by decide +kernel : FA 118 11 160 []).r (by decide +kernel : FA 118 11 160 []).z
  refine pR_X11_68 C hni (q := 118) ⟨(by decide +kernel : oK 98 = 10), by omega⟩ dX11_init_283 ?_
  have hC := hC.sR (k := 98) (j := 32) (q := 118) (Or.inl rfl) (by omega) (by omega)
  have hK := hK.sR (j := 32) (q := 118)
  have hS := hS.sRne (j := 32) (q := 118) (a := 98) (by decide)
  refine r_aload_n C 0 rfl rfl dX11_init_286 ?_
  refine r_iconst C (v := 4) (by decide) dX11_init_287 ?_
  refine r_newi C hA0 hC.1 (N := 4) (by decide +kernel : oK 119 = 11) (by decide +kernel : oL 119 = 4) (by decide) (by decide) (by decide) (Nat.le_of_ble_eq_true rfl) (Nat.le_of_ble_eq_true rfl) dX11_init_288 (fun ad21 he21 => ?_)
  rw [← he21 98 (by omega)]
  have hAd : ∀ i, i < 99 → ad21 i = ad i := fun i hi => (he21 i (by omega)).trans (hAd i hi)
  have hD : CS (fun i => i = 119 ∨ (fun i => i = 98 ∨ i = 99) i) (I0) (99) (120) R I J _ _ _ := CS.opn (O := fun i => i = 119 ∨ (fun i => i = 98 ∨ i = 99) i) ⟨hC.1, hC.2.1, fun i h1 h2 => hC.2.2.1 i h1 (fun q => h2 (Or.inr q)), fun i h1 h2 h3 => hC.2.2.2 i h1 h2 (fun q => h3 (Or.inr q))⟩ (Or.inl rfl)
  have hO := OP.opn hC.1
  refine r_dup C rfl dX11_init_290 ?_
  refine r_iconst C (v := 0) (by decide) dX11_init_291 ?_
  refine r_iconst C (v := 3) (by decide) dX11_init_292 ?_
  refine r_iast C (ρ := Nat) (X := some 0) (z := 0) ⟨(by decide +kernel : oK 119 = 11), by omega, (by decide +kernel : oL 119 = 4)⟩ (by decide) dX11_init_293 (fun _ => ?_)
  rw [show Int32.toNatClampNeg 0 = 0 from by decide]
  have hD := hD.sI (j := 0) (v := 3) (Or.inl rfl) (by omega)
  have hO := hO.sI (j := 0) (v := 3)
  have hK := hK.sIne (j := 0) (v := 3) (a := 119) (by omega)
  have hS := hS.sIne (j := 0) (v := 3) (a := 119) (by omega)
  refine r_dup C rfl dX11_init_294 ?_
  refine r_iconst C (v := 1) (by decide) dX11_init_295 ?_
  refine r_iconst C (v := 3) (by decide) dX11_init_296 ?_
  refine r_iast C (ρ := Nat) (X := some 0) (z := 0) ⟨(by decide +kernel : oK 119 = 11), by omega, (by decide +kernel : oL 119 = 4)⟩ (by decide) dX11_init_297 (fun _ => ?_)
  rw [show Int32.toNatClampNeg 1 = 1 from by decide]
  have hD := hD.sI (j := 1) (v := 3) (Or.inl rfl) (by omega)
  have hO := hO.sI (j := 1) (v := 3)
  have hK := hK.sIne (j := 1) (v := 3) (a := 119) (by omega)
  have hS := hS.sIne (j := 1) (v := 3) (a := 119) (by omega)
  refine r_dup C rfl dX11_init_298 ?_
  refine r_iconst C (v := 2) (by decide) dX11_init_299 ?_
  refine r_iconst C (v := 3) (by decide) dX11_init_300 ?_
  refine r_iast C (ρ := Nat) (X := some 0) (z := 0) ⟨(by decide +kernel : oK 119 = 11), by omega, (by decide +kernel : oL 119 = 4)⟩ (by decide) dX11_init_301 (fun _ => ?_)
  rw [show Int32.toNatClampNeg 2 = 2 from by decide]
  have hD := hD.sI (j := 2) (v := 3) (Or.inl rfl) (by omega)
  have hO := hO.sI (j := 2) (v := 3)
  have hK := hK.sIne (j := 2) (v := 3) (a := 119) (by omega)
  have hS := hS.sIne (j := 2) (v := 3) (a := 119) (by omega)
  refine r_dup C rfl dX11_init_302 ?_
  refine r_iconst C (v := 3) (by decide) dX11_init_303 ?_
  refine r_iconst C (v := 3) (by decide) dX11_init_304 ?_
  refine r_iast C (ρ := Nat) (X := some 0) (z := 0) ⟨(by decide +kernel : oK 119 = 11), by omega, (by decide +kernel : oL 119 = 4)⟩ (by decide) dX11_init_305 (fun _ => ?_)
  rw [show Int32.toNatClampNeg 3 = 3 from by decide]
  have hD := hD.sI (j := 3) (v := 3) (Or.inl rfl) (by omega)
  have hO := hO.sI (j := 3) (v := 3)
  have hK := hK.sIne (j := 3) (v := 3) (a := 119) (by omega)
  have hS := hS.sIne (j := 3) (v := 3) (a := 119) (by omega)
  have hC := hD.cls (O2 := fun i => i = 98 ∨ i = 99) (fun i h => h) (by omega) hO (by decide +kernel : FA 119 11 4 [3, 3, 3, 3]).r.symm (Eq.trans (funext fun j => by rcases j with _|_|_|_|j <;> simp [upd]) (by decide +kernel : FA 119 11 4 [3, 3, 3, 3]).i.symm)
  refine pR_X11_71 C hni (q := 119) ⟨(by decide +kernel : oK 98 = 10), by omega⟩ dX11_init_306 ?_
  have hC := hC.sR (k := 98) (j := 33) (q := 119) (Or.inl rfl) (by omega) (by omega)
  have hK := hK.sR (j := 33) (q := 119)
  have hS := hS.sRne (j := 33) (q := 119) (a := 98) (by decide)
  refine r_aload_n C 0 rfl rfl dX11_init_309 ?_
  refine r_iconst C (v := 4) (by decide) dX11_init_310 ?_
  refine r_newi C hA0 hC.1 (N := 4) (by decide +kernel : oK 120 = 11) (by decide +kernel : oL 120 = 4) (by decide) (by decide) (by decide) (Nat.le_of_ble_eq_true rfl) (Nat.le_of_ble_eq_true rfl) dX11_init_311 (fun ad22 he22 => ?_)
  rw [← he22 98 (by omega)]
  have hAd : ∀ i, i < 99 → ad22 i = ad i := fun i hi => (he22 i (by omega)).trans (hAd i hi)
  have hC := CS.arr hC (by decide +kernel : FA 120 11 4 []).r (by decide +kernel : FA 120 11 4 []).z
  refine pR_X11_74 C hni (q := 120) ⟨(by decide +kernel : oK 98 = 10), by omega⟩ dX11_init_313 ?_
  have hC := hC.sR (k := 98) (j := 34) (q := 120) (Or.inl rfl) (by omega) (by omega)
  have hK := hK.sR (j := 34) (q := 120)
  have hS := hS.sRne (j := 34) (q := 120) (a := 98) (by decide)
  refine r_aload_n C 0 rfl rfl dX11_init_316 ?_
  refine r_iconst C (v := 4) (by decide) dX11_init_317 ?_
  refine r_newi C hA0 hC.1 (N := 4) (by decide +kernel : oK 121 = 11) (by decide +kernel : oL 121 = 4) (by decide) (by decide) (by decide) (Nat.le_of_ble_eq_true rfl) (Nat.le_of_ble_eq_true rfl) dX11_init_318 (fun ad23 he23 => ?_)
  rw [← he23 98 (by omega)]
  have hAd : ∀ i, i < 99 → ad23 i = ad i := fun i hi => (he23 i (by omega)).trans (hAd i hi)
  have hC := CS.arr hC (by decide +kernel : FA 121 11 4 []).r (by decide +kernel : FA 121 11 4 []).z
  refine pR_X11_77 C hni (q := 121) ⟨(by decide +kernel : oK 98 = 10), by omega⟩ dX11_init_320 ?_
  have hC := hC.sR (k := 98) (j := 35) (q := 121) (Or.inl rfl) (by omega) (by omega)
  have hK := hK.sR (j := 35) (q := 121)
  have hS := hS.sRne (j := 35) (q := 121) (a := 98) (by decide)
  refine r_aload_n C 0 rfl rfl dX11_init_323 ?_
  refine r_bipush C (v := 30) (by decide) dX11_init_324 ?_
  refine r_newi C hA0 hC.1 (N := 30) (by decide +kernel : oK 122 = 11) (by decide +kernel : oL 122 = 30) (by decide) (by decide) (by decide) (Nat.le_of_ble_eq_true rfl) (Nat.le_of_ble_eq_true rfl) dX11_init_326 (fun ad24 he24 => ?_)
  rw [← he24 98 (by omega)]
  have hAd : ∀ i, i < 99 → ad24 i = ad i := fun i hi => (he24 i (by omega)).trans (hAd i hi)
  have hC := CS.arr hC (by decide +kernel : FA 122 11 30 []).r (by decide +kernel : FA 122 11 30 []).z
  refine pR_X11_80 C hni (q := 122) ⟨(by decide +kernel : oK 98 = 10), by omega⟩ dX11_init_328 ?_
  have hC := hC.sR (k := 98) (j := 39) (q := 122) (Or.inl rfl) (by omega) (by omega)
  have hK := hK.sR (j := 39) (q := 122)
  have hS := hS.sRne (j := 39) (q := 122) (a := 98) (by decide)
  refine r_aload_n C 0 rfl rfl dX11_init_331 ?_
  refine r_getf C (v := .ref (ad24 99)) (by omega) (ct_10 (by decide +kernel : oK 98 = 10)) rfl in_X11 0 (by decide) rfl lk_X11_7 (congrArg (fun (q : Nat → Option Nat) => some (va_re ad24 (q 0))) hK.1) dX11_init_332 ?_
  refine r_bipush C (v := 6) (by decide) dX11_init_335 ?_
  refine r_bipush C (v := 10) (by decide) dX11_init_337 ?_
  refine r_iast C (ρ := Nat) (X := some 0) (z := 0) ⟨(by decide +kernel : oK 99 = 11), by omega, (by decide +kernel : oL 99 = 666)⟩ (by decide) dX11_init_339 (fun _ => ?_)
  rw [show Int32.toNatClampNeg 6 = 6 from by decide]
  have hS := (hS : OP 99 _ _ _ _ _).sI (j := 6) (v := 10)
  have hK := hK.sIne (j := 6) (v := 10) (a := 99) (by decide)
  have hC := hC.sI (j := 6) (v := 10) (Or.inr rfl) (by omega)
  refine r_aload_n C 0 rfl rfl dX11_init_340 ?_
  refine r_getf C (v := .ref (ad24 99)) (by omega) (ct_10 (by decide +kernel : oK 98 = 10)) rfl in_X11 0 (by decide) rfl lk_X11_7 (congrArg (fun (q : Nat → Option Nat) => some (va_re ad24 (q 0))) hK.1) dX11_init_341 ?_
  refine r_bipush C (v := 8) (by decide) dX11_init_344 ?_
  refine r_iconst C (v := 1) (by decide) dX11_init_346 ?_
  refine r_iast C (ρ := Nat) (X := some 0) (z := 0) ⟨(by decide +kernel : oK 99 = 11), by omega, (by decide +kernel : oL 99 = 666)⟩ (by decide) dX11_init_347 (fun _ => ?_)
  rw [show Int32.toNatClampNeg 8 = 8 from by decide]
  have hS := (hS : OP 99 _ _ _ _ _).sI (j := 8) (v := 1)
  have hK := hK.sIne (j := 8) (v := 1) (a := 99) (by decide)
  have hC := hC.sI (j := 8) (v := 1) (Or.inr rfl) (by omega)
  refine r_aload_n C 0 rfl rfl dX11_init_348 ?_
  have hk9 : ((va_up (va_up (va_up (va_up (va_up (va_up (va_up (va_up (va_up (va_up (va_up (va_up (va_up (va_up (va_up (va_up (va_up (va_up (va_up (va_up (va_up (va_up (va_up (va_up (fun _ => none) 0 (some 99)) 1 (some 100)) 2 (some 101)) 3 (some 102)) 5 (some 103)) 6 (some 104)) 7 (some 105)) 8 (some 106)) 9 (some 107)) 10 (some 108)) 14 (some 109)) 15 (some 110)) 16 (some 111)) 17 (some 112)) 18 (some 113)) 26 (some 114)) 28 (some 115)) 30 (some 116)) 31 (some 117)) 32 (some 118)) 33 (some 119)) 34 (some 120)) 35 (some 121)) 39 (some 122)) : Nat → Option Nat) = oR 98 := by
    rw [((by decide +kernel : FO 98 10 [some 99, some 100, some 101, some 102, none, some 103, some 104, some 105, some 106, some 107, some 108, none, none, none, some 109, some 110, some 111, some 112, some 113, none, none, none, none, none, none, none, some 114, none, some 115, none, some 116, some 117, some 118, some 119, some 120, some 121, none, none, none, some 122, none, none] [])).r]
    funext j
    rcases j with _|_|_|_|_|_|_|_|_|_|_|_|_|_|_|_|_|_|_|_|_|_|_|_|_|_|_|_|_|_|_|_|_|_|_|_|_|_|_|_|_|_|j <;> simp [va_up]
  refine r_pc (pc1 := 349) rfl ?_
  refine r_wid (a := 24) (b := 2429) (Nat.le_of_ble_eq_true rfl) (Nat.le_of_ble_eq_true rfl) ⟨(Nat.le_of_ble_eq_true rfl), (Nat.le_of_ble_eq_true rfl)⟩ ?_
  exact model_tail C hr hAd hRF hC hK hS hk9 dX11_init_349 dX11_init_352

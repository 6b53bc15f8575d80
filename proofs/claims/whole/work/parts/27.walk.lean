theorem FIN_two {k n' : Nat} {R R1 : HR} {I I1 : HI} {J J1 : HJ} {rk ra : Nat → Option Nat} {ik ia : Nat → Int32} (h : CS (fun i => i = k ∨ i = k + 1) I0 (k + 1) n' R I J R1 I1 J1) (hk : k < k + 1) (hp : OP k R1 I1 J1 rk ik) (ha : OP (k + 1) R1 I1 J1 ra ia) (hr : rk = oR k) (hi : ik = I0 k) (hr2 : ra = oR (k + 1)) (hi2 : ia = I0 (k + 1)) : FIN (k + 1) k n' R I J R1 I1 J1 := ⟨fun i h1 h2 => h.2.2.1 i h1 (fun q => by omega), fun i h1 => by
  by_cases e : i = k
  · subst e; exact ⟨hp.1.trans hr, hp.2.1.trans hi, hp.2.2⟩
  · by_cases e2 : i = k + 1
    · subst e2; exact ⟨ha.1.trans hr2, ha.2.1.trans hi2, ha.2.2⟩
    · exact h.2.2.2 i (by omega) (by omega) (fun q => by omega)⟩
def ZT : HI := fun _ _ => 0
theorem laws_tail {p : Program} {l : Launch} {e : Env} {s : State} {m : MethodId} {args : Array Value} {below : List Frame} {meth : Method} {c : Code} {g : GG} {ad ad1 : Nat → Nat} {R R1 : HR} {I I1 : HI} {J J1 : HJ} {k : Nat} {rk : Nat → Option Nat}
    (f0 : FO k 1 [some (k + 1), some (k + 6), some (k + 7), some (k + 8)] []) (f1 : oK (k + 1) = 15 ∧ oL (k + 1) = 4 ∧ k + 1 ≠ 99 ∧ oRs.getD (k + 1) [] = [some (k + 2), some (k + 3), some (k + 4), some (k + 5)] ∧ i0T.getD (k + 1) [] = [])
    (f2 : FA (k + 2) 11 200 [10006]) (f3 : FA (k + 3) 11 200 [10001, 4, 20047]) (f4 : FA (k + 4) 11 200 [10000, 100, 20062]) (f5 : FA (k + 5) 11 200 [10000, 5, 20047, 10001, 20043]) (f6 : FA (k + 6) 11 4 [1, 3, 3, 5]) (f7 : FA (k + 7) 13 4 []) (f8 : FA (k + 8) 11 32 []) (hkO : k < 100)
    (C : Cx p s m args meth c RX2 cX2_init 1 g (AZ ad (k + 1) s.heap.size)) (hr : meth.sig.returnType = none) (hAd : ∀ i, i < k + 1 → ad1 i = ad i) (hRF : true = true → ∀ i, i < k + 1 → i ≠ k → oK i ≠ 9 → oK i ≠ 7 → R i = oR i)
    (hC : CS (fun i => i = k) ZT (k + 1) (k + 9) R I J R1 I1 J1) (hK : OP k R1 I1 J1 rk (fun _ => 0)) (hk9 : rk = oR k)
    (d1 : decode cX2_init 39 = .ok (.invokevirtual 27, 3)) (d2 : decode cX2_init 42 = .ok (.return_, 1)) :
    V p l e (RMc 4 90 8 844) s m args below meth c (MQ below (va_Qv (fun (u : KS) => (∀ i, i < k + 1 → u.1 i = ad i) ∧ (∀ i, i < k + 9 → AZ ad (k + 1) s.heap.size (u.1 i)) ∧ NI (k + 9) u.2.1 u.2.2.1 u.2.2.2 ∧ FIN (k + 1) k (k + 9) R I J u.2.1 u.2.2.1 u.2.2.2) (fun u t => WD g u.1 (k + 9) u.2.1 u.2.2.1 u.2.2.2 t) (AZ ad (k + 1) s.heap.size)) args s 8 844 (AZ ad (k + 1) s.heap.size)) 1 8 844 g (AZ ad (k + 1) s.heap.size) ad1 (k + 9) R1 I1 J1 39 [(0, .ref (ad1 k))] [.ref (ad1 k)] := by
  obtain ⟨I9, hq9, b1, b2, b3, b4⟩ := becomeAsAtFirst_s (k := k) (I := I1) (J := J1) f0.2.1
  have hR9 : ∀ a, a < k + 9 → (oK a ≠ 9 ∧ oK a ≠ 7) → R1 a = oR a := fun a ha ho => by
    by_cases e1 : a = k
    · subst e1; exact hK.1.trans hk9
    · by_cases e2 : a < k + 1
      · rw [(hC.2.2.1 a e2 e1).1]
        exact hRF rfl a e2 e1 ho.1 ho.2
      · exact (hC.2.2.2 a (by omega) ha e1).1
  have hrf : RF (k + 9) R1 := fun a ha hor => by
    have ho : oK a ≠ 9 ∧ oK a ≠ 7 := hor.elim id (fun q => absurd q (by show ¬ k + 9 = 123; omega))
    have h9 := hR9 a ha ho
    refine ⟨h9, fun j q hq => hC.1.1 a ha j q ?_⟩
    rw [h9]; exact hq
  refine r_cvv C (rest := []) (c_X2_becomeAsAtFirst (k := k) hrf ⟨f0.2.1, by omega⟩ hq9) fm_X2_becomeAsAtFirst lk_X2_27 (kd := 1) ⟨f0.2.1, by omega⟩ ⟨_, ct_1 f0.2.1⟩ rfl rfl ⟨rfl, rfl, (Nat.le_of_ble_eq_true rfl), (Nat.le_of_ble_eq_true rfl)⟩ (Nat.le_of_ble_eq_true rfl) rfl d1 ?_
  have hF : FIN (k + 1) k (k + 9) R I J R1 I9 J1 := by
    refine ⟨fun i h1 h2 => ?_, fun i h1 => ?_⟩
    · have h := hC.2.2.1 i h1 h2
      exact ⟨h.1, (b4 i (by omega)).trans h.2.1, h.2.2⟩
    · by_cases e1 : i = k
      · subst e1
        exact ⟨hK.1.trans hk9, (b4 _ (by omega)).trans (hK.2.1.trans (by rw [f0.i]; rfl)), hK.2.2⟩
      · have h := hC.2.2.2 i (by omega) (by omega) e1
        refine ⟨h.1, ?_, h.2.2⟩
        have hz : I1 i = fun _ => 0 := h.2.1
        have hi : i = k + 1 ∨ i = k + 2 ∨ i = k + 3 ∨ i = k + 4 ∨ i = k + 5 ∨ i = k + 6 ∨ i = k + 7 ∨ i = k + 8 := by omega
        rcases hi with rfl | rfl | rfl | rfl | rfl | rfl | rfl | rfl
        · rw [b4 _ (by omega), hz, I0_of f1.2.2.1 f1.2.2.2.2]; rfl
        · rw [b1 0 (by omega), hz, f2.i]; funext j; rcases j with _|j <;> simp [rowOf, stV]
        · rw [b1 1 (by omega), hz, f3.i]; funext j; rcases j with _|_|_|j <;> simp [rowOf, stV]
        · rw [b1 2 (by omega), hz, f4.i]; funext j; rcases j with _|_|_|j <;> simp [rowOf, stV]
        · rw [b1 3 (by omega), hz, f5.i]; funext j; rcases j with _|_|_|_|_|j <;> simp [rowOf, stV]
        · rw [f6.i]
          funext j
          by_cases hj : j < 4
          · rw [(b2 j hj).1]
            rcases j with _|_|_|_|j
            · rfl
            · rfl
            · rfl
            · rfl
            · omega
          · rw [(b3 j (by omega)).1, hz]
            rcases j with _|_|_|_|j <;> first | omega | simp
        · rw [f7.z]
          funext j
          by_cases hj : j < 4
          · exact (b2 j hj).2
          · rw [(b3 j (by omega)).2, hz]
        · rw [b4 _ (by omega), hz, f8.z]
  exact r_kret C hr hAd ⟨hC.1.1, fun a ha => by
    have h := hC.1.2 a ha
    exact ⟨h.1, (b4 a (by omega)).trans h.2.1, h.2.2⟩⟩ hF d2
set_option maxHeartbeats 4000000 in
theorem c_X9_init {l : Launch} {g : GG} {k : Nat} (f0 : FO k 8 [some (k + 1)] []) (f1 : FA (k + 1) 11 60 []) : CK l yX9_init cX9_init 1 (RMc 1 22 1 60) 1 60 g (k + 1) k (k + 2) false := by
  refine CK_of (by decide +kernel) rfl (by decide) (fun p e s m args below meth c ad R I J hni hAO C hr hNI hkn hRF z1 z2 z3 => ?_)
  have hA0 : ∀ q, s.heap.size ≤ q → AZ ad (k + 1) s.heap.size q := fun q h => Or.inr h
  have hC : CS (fun i => i = k) (I0) (k + 1) (k + 1) R I J R I J := CS.start hNI
  have hK : OP k R I J (fun _ => none) (fun _ => 0) := ⟨z1, z2, z3⟩
  have hAd : ∀ i, i < k + 1 → ad i = ad i := fun _ _ => rfl
  refine r_aload_n C 0 rfl rfl dX9_init_0 ?_
  refine r_objInit C li_X9_1 (Nat.le_of_ble_eq_true rfl) (Nat.le_of_ble_eq_true rfl) dX9_init_1 ?_
  refine r_aload_n C 0 rfl rfl dX9_init_4 ?_
  refine r_bipush C (v := 60) (by decide) dX9_init_5 ?_
  refine r_newi C hA0 hC.1 (N := 60) f1.2.1 f1.2.2.1 (by decide) (by decide) (by decide) (Nat.le_of_ble_eq_true rfl) (Nat.le_of_ble_eq_true rfl) dX9_init_7 (fun ad1 he1 => ?_)
  rw [← he1 k (by omega)]
  have hAd : ∀ i, i < k + 1 → ad1 i = ad i := fun i hi => (he1 i (by omega)).trans (hAd i hi)
  have hC := CS.arr hC f1.r f1.z
  refine pR_X9_9 C hni (q := (k + 1)) ⟨f0.2.1, by omega⟩ dX9_init_9 ?_
  have hC := hC.sR (k := k) (j := 0) (q := (k + 1)) rfl (by omega) (by omega)
  have hK := hK.sR (j := 0) (q := (k + 1))
  refine r_wid (a := 1) (b := 60) (Nat.le_of_ble_eq_true rfl) (Nat.le_of_ble_eq_true rfl) ⟨(Nat.le_of_ble_eq_true rfl), (Nat.le_of_ble_eq_true rfl)⟩ ?_
  exact r_kret C hr hAd hC.1 (hC.fin (by omega) hK (by rw [(f0).r]; funext j; rcases j with _|j <;> simp [va_up]) (by rw [(f0).i]; rfl)) dX9_init_12
set_option maxHeartbeats 4000000 in
theorem c_X7_init {l : Launch} {g : GG} {k : Nat} (f0 : FO k 6 [some (k + 1)] [0, 0, 0, 0, 0, 0, 0, 10, 0, 1]) (f1 : FO (k + 1) 8 [some (k + 2)] []) (f2 : FA (k + 2) 11 60 []) : CK l yX7_init cX7_init 1 (RMc 2 60 2 62) 2 62 g (k + 1) k (k + 3) false := by
  refine CK_of (by decide +kernel) rfl (by decide) (fun p e s m args below meth c ad R I J hni hAO C hr hNI hkn hRF z1 z2 z3 => ?_)
  have hA0 : ∀ q, s.heap.size ≤ q → AZ ad (k + 1) s.heap.size q := fun q h => Or.inr h
  have hC : CS (fun i => i = k) (I0) (k + 1) (k + 1) R I J R I J := CS.start hNI
  have hK : OP k R I J (fun _ => none) (fun _ => 0) := ⟨z1, z2, z3⟩
  have hAd : ∀ i, i < k + 1 → ad i = ad i := fun _ _ => rfl
  refine r_aload_n C 0 rfl rfl dX7_init_0 ?_
  refine r_objInit C li_X7_1 (Nat.le_of_ble_eq_true rfl) (Nat.le_of_ble_eq_true rfl) dX7_init_1 ?_
  refine r_aload_n C 0 rfl rfl dX7_init_4 ?_
  have hz := hC.1.2 (k + 1) (Nat.le_refl _)
  have hN := hC.1.new
  refine nw_X9 C hA0 hC.1 f1.2.1 lc_X7_7 (Nat.le_of_ble_eq_true rfl) (Nat.le_of_ble_eq_true rfl) dX7_init_5 (fun ad1 he1 => ?_)
  rw [← he1 k (by omega)]
  have hAd : ∀ i, i < k + 1 → ad1 i = ad i := fun i hi => (he1 i (by omega)).trans (hAd i hi)
  refine r_dup C rfl dX7_init_8 ?_
  refine r_ckN C hAO hA0 hN (c_X9_init (g := g) (k := (k + 1)) f1 f2) fk_X9 rfl (by decide +kernel) nk_X7_9 (by omega) (fun h => nomatch h) hz ⟨rfl, rfl, (Nat.le_of_ble_eq_true rfl), (Nat.le_of_ble_eq_true rfl)⟩ (Nat.le_of_ble_eq_true rfl) (Nat.le_of_ble_eq_true rfl) (Nat.le_of_ble_eq_true rfl) dX7_init_9 (fun ad2 R2 I2 J2 he2 hN2 hF2 => ?_)
  rw [← he2 k (by omega)]
  rw [← he2 (k + 1) (by omega)]
  have hAd : ∀ i, i < k + 1 → ad2 i = ad i := fun i hi => (he2 i (by omega)).trans (hAd i hi)
  have hK := hK.call hF2 (by omega)
  have hC := hC.call hN2 hF2 (by omega) (fun _ _ _ => rfl)
  refine pR_X7_10 C hni (q := (k + 1)) ⟨f0.2.1, by omega⟩ dX7_init_12 ?_
  have hC := hC.sR (k := k) (j := 0) (q := (k + 1)) rfl (by omega) (by omega)
  have hK := hK.sR (j := 0) (q := (k + 1))
  refine r_aload_n C 0 rfl rfl dX7_init_15 ?_
  refine r_bipush C (v := 10) (by decide) dX7_init_16 ?_
  refine pf_X7_16 C ⟨f0.2.1, by omega⟩ dX7_init_18 ?_
  have hC := hC.sI (k := k) (j := 7) (v := 10) rfl (by omega)
  have hK := hK.sI (j := 7) (v := 10)
  refine r_aload_n C 0 rfl rfl dX7_init_21 ?_
  refine r_iconst C (v := 1) (by decide) dX7_init_22 ?_
  refine pf_X7_20 C ⟨f0.2.1, by omega⟩ dX7_init_23 ?_
  have hC := hC.sI (k := k) (j := 9) (v := 1) rfl (by omega)
  have hK := hK.sI (j := 9) (v := 1)
  refine r_wid (a := 2) (b := 62) (Nat.le_of_ble_eq_true rfl) (Nat.le_of_ble_eq_true rfl) ⟨(Nat.le_of_ble_eq_true rfl), (Nat.le_of_ble_eq_true rfl)⟩ ?_
  exact r_kret C hr hAd hC.1 (hC.fin (by omega) hK (by rw [(f0).r]; funext j; rcases j with _|j <;> simp [va_up]) (by rw [(f0).i]; funext j; rcases j with _|_|_|_|_|_|_|_|_|_|j <;> simp [upd])) dX7_init_26
set_option maxHeartbeats 4000000 in
theorem c_X2_init {l : Launch} {g : GG} {k : Nat} (f0 : FO k 1 [some (k + 1), some (k + 6), some (k + 7), some (k + 8)] []) (f1 : oK (k + 1) = 15 ∧ oL (k + 1) = 4 ∧ (k + 1) ≠ 99 ∧ oRs.getD (k + 1) [] = [some (k + 2), some (k + 3), some (k + 4), some (k + 5)] ∧ i0T.getD (k + 1) [] = []) (f2 : FA (k + 2) 11 200 [10006]) (f3 : FA (k + 3) 11 200 [10001, 4, 20047]) (f4 : FA (k + 4) 11 200 [10000, 100, 20062]) (f5 : FA (k + 5) 11 200 [10000, 5, 20047, 10001, 20043]) (f6 : FA (k + 6) 11 4 [1, 3, 3, 5]) (f7 : FA (k + 7) 13 4 []) (f8 : FA (k + 8) 11 32 []) (hkO : k < 100) : CK l yX2_init cX2_init 1 (RMc 4 90 8 844) 8 844 g (k + 1) k (k + 9) true := by
  refine CK_of (by decide +kernel) rfl (by decide) (fun p e s m args below meth c ad R I J hni hAO C hr hNI hkn hRF z1 z2 z3 => ?_)
  have hA0 : ∀ q, s.heap.size ≤ q → AZ ad (k + 1) s.heap.size q := fun q h => Or.inr h
  have hC : CS (fun i => i = k) (ZT) (k + 1) (k + 1) R I J R I J := CS.start hNI
  have hK : OP k R I J (fun _ => none) (fun _ => 0) := ⟨z1, z2, z3⟩
  have hAd : ∀ i, i < k + 1 → ad i = ad i := fun _ _ => rfl
  refine r_aload_n C 0 rfl rfl dX2_init_0 ?_
  refine r_objInit C li_X2_3 (Nat.le_of_ble_eq_true rfl) (Nat.le_of_ble_eq_true rfl) dX2_init_1 ?_
  refine r_aload_n C 0 rfl rfl dX2_init_4 ?_
  refine r_iconst C (v := 4) (by decide) dX2_init_5 ?_
  refine r_sipush C (v := 200) (by decide) dX2_init_6 ?_
  have hin : ∀ i, i < 4 → oK (k + 1 + 1 + i) = 11 ∧ oL (k + 1 + 1 + i) = 200 ∧ oR (k + 1 + 1 + i) = (fun _ => none) ∧ ZT (k + 1 + 1 + i) = fun _ => 0 := by
    intro i hi
    rcases i with _|_|_|_|i
    · exact ⟨f2.2.1, f2.2.2.1, f2.r, rfl⟩
    · exact ⟨f3.2.1, f3.2.2.1, f3.r, rfl⟩
    · exact ⟨f4.2.1, f4.2.2.1, f4.r, rfl⟩
    · exact ⟨f5.2.1, f5.2.2.1, f5.r, rfl⟩
    · omega
  refine r_mna C hAO hA0 hC.1 (N := 4) (M := 200) f1.1 f1.2.1 (fun i hi => ⟨(hin i hi).1, (hin i hi).2.1⟩) (by decide) (by decide) (by decide) (by decide) (by decide) (by decide) (by decide) lc_X2_11 (Nat.le_of_ble_eq_true rfl) (Nat.le_of_ble_eq_true rfl) dX2_init_9 (fun ad1 he1 => ?_)
  rw [← he1 k (by omega)]
  have hAd : ∀ i, i < k + 1 → ad1 i = ad i := fun i hi => (he1 i (by omega)).trans (hAd i hi)
  have hro : oR (k + 1) = fun i => if i < 4 then some (k + 1 + 1 + i) else none := by
    rw [oR_of f1.2.2.2.1]
    funext j
    rcases j with _|_|_|_|j
    · rfl
    · rfl
    · rfl
    · rfl
    · show none = if j + 4 < 4 then _ else none
      rw [if_neg (by omega)]
  have hC := hC.rows hro rfl (fun i hi => (hin i hi).2.2)
  have hK := hK.rows (n' := k + 1) (x := fun i => if i < 4 then some (k + 1 + 1 + i) else none) (by omega)
  refine pR_X2_13 C hni (q := (k + 1)) ⟨f0.2.1, by omega⟩ dX2_init_13 ?_
  have hC := hC.sR (k := k) (j := 0) (q := (k + 1)) rfl (by omega) (by omega)
  have hK := hK.sR (j := 0) (q := (k + 1))
  refine r_aload_n C 0 rfl rfl dX2_init_16 ?_
  refine r_iconst C (v := 4) (by decide) dX2_init_17 ?_
  refine r_newi C hA0 hC.1 (N := 4) f6.2.1 f6.2.2.1 (by decide) (by decide) (by decide) (Nat.le_of_ble_eq_true rfl) (Nat.le_of_ble_eq_true rfl) dX2_init_18 (fun ad2 he2 => ?_)
  rw [← he2 k (by omega)]
  have hAd : ∀ i, i < k + 1 → ad2 i = ad i := fun i hi => (he2 i (by omega)).trans (hAd i hi)
  have hC := CS.arr hC f6.r rfl
  refine pR_X2_16 C hni (q := (k + 6)) ⟨f0.2.1, by omega⟩ dX2_init_20 ?_
  have hC := hC.sR (k := k) (j := 1) (q := (k + 6)) rfl (by omega) (by omega)
  have hK := hK.sR (j := 1) (q := (k + 6))
  refine r_aload_n C 0 rfl rfl dX2_init_23 ?_
  refine r_iconst C (v := 4) (by decide) dX2_init_24 ?_
  refine r_newz C hA0 hC.1 (N := 4) f7.2.1 f7.2.2.1 (by decide) (by decide) (by decide) (Nat.le_of_ble_eq_true rfl) (Nat.le_of_ble_eq_true rfl) dX2_init_25 (fun ad3 he3 => ?_)
  rw [← he3 k (by omega)]
  have hAd : ∀ i, i < k + 1 → ad3 i = ad i := fun i hi => (he3 i (by omega)).trans (hAd i hi)
  have hC := CS.arr hC f7.r rfl
  refine pR_X2_20 C hni (q := (k + 7)) ⟨f0.2.1, by omega⟩ dX2_init_27 ?_
  have hC := hC.sR (k := k) (j := 2) (q := (k + 7)) rfl (by omega) (by omega)
  have hK := hK.sR (j := 2) (q := (k + 7))
  refine r_aload_n C 0 rfl rfl dX2_init_30 ?_
  refine r_bipush C (v := 32) (by decide) dX2_init_31 ?_
  refine r_newi C hA0 hC.1 (N := 32) f8.2.1 f8.2.2.1 (by decide) (by decide) (by decide) (Nat.le_of_ble_eq_true rfl) (Nat.le_of_ble_eq_true rfl) dX2_init_33 (fun ad4 he4 => ?_)
  rw [← he4 k (by omega)]
  have hAd : ∀ i, i < k + 1 → ad4 i = ad i := fun i hi => (he4 i (by omega)).trans (hAd i hi)
  have hC := CS.arr hC f8.r rfl
  refine pR_X2_24 C hni (q := (k + 8)) ⟨f0.2.1, by omega⟩ dX2_init_35 ?_
  have hC := hC.sR (k := k) (j := 3) (q := (k + 8)) rfl (by omega) (by omega)
  have hK := hK.sR (j := 3) (q := (k + 8))
  refine r_aload_n C 0 rfl rfl dX2_init_38 ?_
  have hk9 : (va_up (va_up (va_up (va_up (fun _ => none) 0 (some (k + 1))) 1 (some (k + 6))) 2 (some (k + 7))) 3 (some (k + 8)) : Nat → Option Nat) = oR k := by
    rw [f0.r]
    funext j
    rcases j with _|_|_|_|j <;> simp [va_up]
  have hRk := hK.1.trans hk9
  refine r_pc (pc1 := 39) rfl ?_
  refine r_wid (a := 8) (b := 844) (Nat.le_of_ble_eq_true rfl) (Nat.le_of_ble_eq_true rfl) ⟨(Nat.le_of_ble_eq_true rfl), (Nat.le_of_ble_eq_true rfl)⟩ ?_
  exact laws_tail f0 f1 f2 f3 f4 f5 f6 f7 f8 hkO C hr hAd hRF hC hK hk9 dX2_init_39 dX2_init_42
set_option maxHeartbeats 4000000 in
theorem c_X4_init {l : Launch} {g : GG} {k : Nat} (f0 : FO k 3 [some (k + 1)] []) (f1 : oK (k + 1) = 14 ∧ oL (k + 1) = 6 ∧ (k + 1) ≠ 99 ∧ oRs.getD (k + 1) [] = [some (k + 2), some (k + 4), some (k + 6), some (k + 8), some (k + 10), some (k + 12)] ∧ i0T.getD (k + 1) [] = []) (f2 : FO (k + 2) 8 [some (k + 3)] []) (f3 : FA (k + 3) 11 60 []) (f4 : FO (k + 4) 8 [some (k + 5)] []) (f5 : FA (k + 5) 11 60 []) (f6 : FO (k + 6) 8 [some (k + 7)] []) (f7 : FA (k + 7) 11 60 []) (f8 : FO (k + 8) 8 [some (k + 9)] []) (f9 : FA (k + 9) 11 60 []) (f10 : FO (k + 10) 8 [some (k + 11)] []) (f11 : FA (k + 11) 11 60 []) (f12 : FO (k + 12) 8 [some (k + 13)] []) (f13 : FA (k + 13) 11 60 []) : CK l yX4_init cX4_init 2 (RMc 2 70 13 378) 13 378 g (k + 1) k (k + 14) false := by
  refine CK_of (by decide +kernel) rfl (by decide) (fun p e s m args below meth c ad R I J hni hAO C hr hNI hkn hRF z1 z2 z3 => ?_)
  have hA0 : ∀ q, s.heap.size ≤ q → AZ ad (k + 1) s.heap.size q := fun q h => Or.inr h
  have hC : CS (fun i => i = k ∨ i = k + 1) (I0) (k + 1) (k + 1) R I J R I J := CS.start hNI
  have hK : OP k R I J (fun _ => none) (fun _ => 0) := ⟨z1, z2, z3⟩
  have hAd : ∀ i, i < k + 1 → ad i = ad i := fun _ _ => rfl
  refine r_aload_n C 0 rfl rfl dX4_init_0 ?_
  refine r_objInit C li_X4_1 (Nat.le_of_ble_eq_true rfl) (Nat.le_of_ble_eq_true rfl) dX4_init_1 ?_
  refine r_aload_n C 0 rfl rfl dX4_init_4 ?_
  refine r_bipush C (v := 6) (by decide) dX4_init_5 ?_
  have hA := OP.opn hC.1
  refine r_newT C hAO hA0 hC.1 (N := 6) f1.1 f1.2.1 (by decide) (by decide) (by decide) lc_X4_9 (Nat.le_of_ble_eq_true rfl) (Nat.le_of_ble_eq_true rfl) dX4_init_7 (fun ad1 he1 => ?_)
  rw [← he1 k (by omega)]
  have hAd : ∀ i, i < k + 1 → ad1 i = ad i := fun i hi => (he1 i (by omega)).trans (hAd i hi)
  have hC := hC.opn (Or.inr rfl)
  refine pR_X4_11 C hni (q := (k + 1)) ⟨f0.2.1, by omega⟩ dX4_init_10 ?_
  have hC := hC.sR (k := k) (j := 0) (q := (k + 1)) (Or.inl rfl) (by omega) (by omega)
  have hK := hK.sR (j := 0) (q := (k + 1))
  have hA := hA.sRne (j := 0) (q := (k + 1)) (a := k) (by omega)
  refine r_iconst C (v := 0) (by decide) dX4_init_13 ?_
  refine r_istore_n C (lv1 := [(1, .int 0), (0, .ref (ad1 k))]) rfl (by decide) rfl dX4_init_14 ?_
  refine r_iload_n C 0 rfl rfl dX4_init_15 ?_
  refine r_bipush C (v := 6) (by decide) dX4_init_16 ?_
  refine r_icmp_ge C (tgt := 40) (XA := 0) (XB := 1) (z := 1) (by decide) dX4_init_18 (by decide) (fun h => absurd h (by decide)) (fun _ => ?_)
  refine r_aload_n C 1 rfl rfl dX4_init_21 ?_
  refine r_getf C (v := .ref (ad1 (k + 1))) (by omega) (ct_3 f0.2.1) rfl in_X4 0 (by decide) rfl lk_X4_11 (congrArg (fun (q : Nat → Option Nat) => some (va_re ad1 (q 0))) hK.1) dX4_init_22 ?_
  refine r_iload_n C 0 rfl rfl dX4_init_25 ?_
  have hz := hC.1.2 (k + 2) (Nat.le_refl _)
  have hN := hC.1.new
  refine nw_X9 C hA0 hC.1 f2.2.1 lc_X4_9 (Nat.le_of_ble_eq_true rfl) (Nat.le_of_ble_eq_true rfl) dX4_init_26 (fun ad2 he2 => ?_)
  rw [← he2 k (by omega)]
  rw [← he2 (k + 1) (by omega)]
  have hAd : ∀ i, i < k + 1 → ad2 i = ad i := fun i hi => (he2 i (by omega)).trans (hAd i hi)
  refine r_dup C rfl dX4_init_29 ?_
  refine r_ckN C hAO hA0 hN (c_X9_init (g := g) (k := (k + 2)) f2 f3) fk_X9 rfl (by decide +kernel) nk_X4_15 (by omega) (fun h => nomatch h) hz ⟨rfl, rfl, (Nat.le_of_ble_eq_true rfl), (Nat.le_of_ble_eq_true rfl)⟩ (Nat.le_of_ble_eq_true rfl) (Nat.le_of_ble_eq_true rfl) (Nat.le_of_ble_eq_true rfl) dX4_init_30 (fun ad3 R3 I3 J3 he3 hN3 hF3 => ?_)
  rw [← he3 k (by omega)]
  rw [← he3 (k + 1) (by omega)]
  rw [← he3 (k + 2) (by omega)]
  have hAd : ∀ i, i < k + 1 → ad3 i = ad i := fun i hi => (he3 i (by omega)).trans (hAd i hi)
  have hA := hA.call hF3 (by omega)
  have hK := hK.call hF3 (by omega)
  have hC := hC.call hN3 hF3 (by omega) (fun _ _ _ => rfl)
  refine r_aastT C (N := 6) ⟨f1.1, by omega, f1.2.1⟩ ⟨f2.2.1, by omega⟩ (vin_in (by decide)) dX4_init_33 ?_
  rw [show Int32.toNatClampNeg 0 = 0 from by decide]
  have hC := hC.sR (k := (k + 1)) (j := 0) (q := (k + 2)) (Or.inr rfl) (by omega) (by omega)
  have hA := hA.sR (j := 0) (q := (k + 2))
  have hK := hK.sRne (j := 0) (q := (k + 2)) (a := (k + 1)) (by omega)
  refine r_iinc C (v := 1) (k := 0) (lv1 := [(1, .int 1), (0, .ref (ad3 k))]) rfl (by decide) (by decide) rfl dX4_init_34 ?_
  refine r_goto C (tgt := 15) dX4_init_37 (by decide) ?_
  refine r_iload_n C 0 rfl rfl dX4_init_15 ?_
  refine r_bipush C (v := 6) (by decide) dX4_init_16 ?_
  refine r_icmp_ge C (tgt := 40) (XA := 0) (XB := 1) (z := 1) (by decide) dX4_init_18 (by decide) (fun h => absurd h (by decide)) (fun _ => ?_)
  refine r_aload_n C 1 rfl rfl dX4_init_21 ?_
  refine r_getf C (v := .ref (ad3 (k + 1))) (by omega) (ct_3 f0.2.1) rfl in_X4 0 (by decide) rfl lk_X4_11 (congrArg (fun (q : Nat → Option Nat) => some (va_re ad3 (q 0))) hK.1) dX4_init_22 ?_
  refine r_iload_n C 0 rfl rfl dX4_init_25 ?_
  have hz := hC.1.2 (k + 4) (Nat.le_refl _)
  have hN := hC.1.new
  refine nw_X9 C hA0 hC.1 f4.2.1 lc_X4_9 (Nat.le_of_ble_eq_true rfl) (Nat.le_of_ble_eq_true rfl) dX4_init_26 (fun ad4 he4 => ?_)
  rw [← he4 k (by omega)]
  rw [← he4 (k + 1) (by omega)]
  have hAd : ∀ i, i < k + 1 → ad4 i = ad i := fun i hi => (he4 i (by omega)).trans (hAd i hi)
  refine r_dup C rfl dX4_init_29 ?_
  refine r_ckN C hAO hA0 hN (c_X9_init (g := g) (k := (k + 4)) f4 f5) fk_X9 rfl (by decide +kernel) nk_X4_15 (by omega) (fun h => nomatch h) hz ⟨rfl, rfl, (Nat.le_of_ble_eq_true rfl), (Nat.le_of_ble_eq_true rfl)⟩ (Nat.le_of_ble_eq_true rfl) (Nat.le_of_ble_eq_true rfl) (Nat.le_of_ble_eq_true rfl) dX4_init_30 (fun ad5 R5 I5 J5 he5 hN5 hF5 => ?_)
  rw [← he5 k (by omega)]
  rw [← he5 (k + 1) (by omega)]
  rw [← he5 (k + 4) (by omega)]
  have hAd : ∀ i, i < k + 1 → ad5 i = ad i := fun i hi => (he5 i (by omega)).trans (hAd i hi)
  have hA := hA.call hF5 (by omega)
  have hK := hK.call hF5 (by omega)
  have hC := hC.call hN5 hF5 (by omega) (fun _ _ _ => rfl)
  refine r_aastT C (N := 6) ⟨f1.1, by omega, f1.2.1⟩ ⟨f4.2.1, by omega⟩ (vin_in (by decide)) dX4_init_33 ?_
  rw [show Int32.toNatClampNeg 1 = 1 from by decide]
  have hC := hC.sR (k := (k + 1)) (j := 1) (q := (k + 4)) (Or.inr rfl) (by omega) (by omega)
  have hA := hA.sR (j := 1) (q := (k + 4))
  have hK := hK.sRne (j := 1) (q := (k + 4)) (a := (k + 1)) (by omega)
  refine r_iinc C (v := 2) (k := 0) (lv1 := [(1, .int 2), (0, .ref (ad5 k))]) rfl (by decide) (by decide) rfl dX4_init_34 ?_
  refine r_goto C (tgt := 15) dX4_init_37 (by decide) ?_
  refine r_iload_n C 0 rfl rfl dX4_init_15 ?_
  refine r_bipush C (v := 6) (by decide) dX4_init_16 ?_
  refine r_icmp_ge C (tgt := 40) (XA := 0) (XB := 1) (z := 1) (by decide) dX4_init_18 (by decide) (fun h => absurd h (by decide)) (fun _ => ?_)
  refine r_aload_n C 1 rfl rfl dX4_init_21 ?_
  refine r_getf C (v := .ref (ad5 (k + 1))) (by omega) (ct_3 f0.2.1) rfl in_X4 0 (by decide) rfl lk_X4_11 (congrArg (fun (q : Nat → Option Nat) => some (va_re ad5 (q 0))) hK.1) dX4_init_22 ?_
  refine r_iload_n C 0 rfl rfl dX4_init_25 ?_
  have hz := hC.1.2 (k + 6) (Nat.le_refl _)
  have hN := hC.1.new
  refine nw_X9 C hA0 hC.1 f6.2.1 lc_X4_9 (Nat.le_of_ble_eq_true rfl) (Nat.le_of_ble_eq_true rfl) dX4_init_26 (fun ad6 he6 => ?_)
  rw [← he6 k (by omega)]
  rw [← he6 (k + 1) (by omega)]
  have hAd : ∀ i, i < k + 1 → ad6 i = ad i := fun i hi => (he6 i (by omega)).trans (hAd i hi)
  refine r_dup C rfl dX4_init_29 ?_
  refine r_ckN C hAO hA0 hN (c_X9_init (g := g) (k := (k + 6)) f6 f7) fk_X9 rfl (by decide +kernel) nk_X4_15 (by omega) (fun h => nomatch h) hz ⟨rfl, rfl, (Nat.le_of_ble_eq_true rfl), (Nat.le_of_ble_eq_true rfl)⟩ (Nat.le_of_ble_eq_true rfl) (Nat.le_of_ble_eq_true rfl) (Nat.le_of_ble_eq_true rfl) dX4_init_30 (fun ad7 R7 I7 J7 he7 hN7 hF7 => ?_)
  rw [← he7 k (by omega)]
  rw [← he7 (k + 1) (by omega)]
  rw [← he7 (k + 6) (by omega)]
  have hAd : ∀ i, i < k + 1 → ad7 i = ad i := fun i hi => (he7 i (by omega)).trans (hAd i hi)
  have hA := hA.call hF7 (by omega)
  have hK := hK.call hF7 (by omega)
  have hC := hC.call hN7 hF7 (by omega) (fun _ _ _ => rfl)
  refine r_aastT C (N := 6) ⟨f1.1, by omega, f1.2.1⟩ ⟨f6.2.1, by omega⟩ (vin_in (by decide)) dX4_init_33 ?_
  rw [show Int32.toNatClampNeg 2 = 2 from by decide]
  have hC := hC.sR (k := (k + 1)) (j := 2) (q := (k + 6)) (Or.inr rfl) (by omega) (by omega)
  have hA := hA.sR (j := 2) (q := (k + 6))
  have hK := hK.sRne (j := 2) (q := (k + 6)) (a := (k + 1)) (by omega)
  refine r_iinc C (v := 3) (k := 0) (lv1 := [(1, .int 3), (0, .ref (ad7 k))]) rfl (by decide) (by decide) rfl dX4_init_34 ?_
  refine r_goto C (tgt := 15) dX4_init_37 (by decide) ?_
  refine r_iload_n C 0 rfl rfl dX4_init_15 ?_
  refine r_bipush C (v := 6) (by decide) dX4_init_16 ?_
  refine r_icmp_ge C (tgt := 40) (XA := 0) (XB := 1) (z := 1) (by decide) dX4_init_18 (by decide) (fun h => absurd h (by decide)) (fun _ => ?_)
  refine r_aload_n C 1 rfl rfl dX4_init_21 ?_
  refine r_getf C (v := .ref (ad7 (k + 1))) (by omega) (ct_3 f0.2.1) rfl in_X4 0 (by decide) rfl lk_X4_11 (congrArg (fun (q : Nat → Option Nat) => some (va_re ad7 (q 0))) hK.1) dX4_init_22 ?_
  refine r_iload_n C 0 rfl rfl dX4_init_25 ?_
  have hz := hC.1.2 (k + 8) (Nat.le_refl _)
  have hN := hC.1.new
  refine nw_X9 C hA0 hC.1 f8.2.1 lc_X4_9 (Nat.le_of_ble_eq_true rfl) (Nat.le_of_ble_eq_true rfl) dX4_init_26 (fun ad8 he8 => ?_)
  rw [← he8 k (by omega)]
  rw [← he8 (k + 1) (by omega)]
  have hAd : ∀ i, i < k + 1 → ad8 i = ad i := fun i hi => (he8 i (by omega)).trans (hAd i hi)
  refine r_dup C rfl dX4_init_29 ?_
  refine r_ckN C hAO hA0 hN (c_X9_init (g := g) (k := (k + 8)) f8 f9) fk_X9 rfl (by decide +kernel) nk_X4_15 (by omega) (fun h => nomatch h) hz ⟨rfl, rfl, (Nat.le_of_ble_eq_true rfl), (Nat.le_of_ble_eq_true rfl)⟩ (Nat.le_of_ble_eq_true rfl) (Nat.le_of_ble_eq_true rfl) (Nat.le_of_ble_eq_true rfl) dX4_init_30 (fun ad9 R9 I9 J9 he9 hN9 hF9 => ?_)
  rw [← he9 k (by omega)]
  rw [← he9 (k + 1) (by omega)]
  rw [← he9 (k + 8) (by omega)]
  have hAd : ∀ i, i < k + 1 → ad9 i = ad i := fun i hi => (he9 i (by omega)).trans (hAd i hi)
  have hA := hA.call hF9 (by omega)
  have hK := hK.call hF9 (by omega)
  have hC := hC.call hN9 hF9 (by omega) (fun _ _ _ => rfl)
  refine r_aastT C (N := 6) ⟨f1.1, by omega, f1.2.1⟩ ⟨f8.2.1, by omega⟩ (vin_in (by decide)) dX4_init_33 ?_
  rw [show Int32.toNatClampNeg 3 = 3 from by decide]
  have hC := hC.sR (k := (k + 1)) (j := 3) (q := (k + 8)) (Or.inr rfl) (by omega) (by omega)
  have hA := hA.sR (j := 3) (q := (k + 8))
  have hK := hK.sRne (j := 3) (q := (k + 8)) (a := (k + 1)) (by omega)
  refine r_iinc C (v := 4) (k := 0) (lv1 := [(1, .int 4), (0, .ref (ad9 k))]) rfl (by decide) (by decide) rfl dX4_init_34 ?_
  refine r_goto C (tgt := 15) dX4_init_37 (by decide) ?_
  refine r_iload_n C 0 rfl rfl dX4_init_15 ?_
  refine r_bipush C (v := 6) (by decide) dX4_init_16 ?_
  refine r_icmp_ge C (tgt := 40) (XA := 0) (XB := 1) (z := 1) (by decide) dX4_init_18 (by decide) (fun h => absurd h (by decide)) (fun _ => ?_)
  refine r_aload_n C 1 rfl rfl dX4_init_21 ?_
  refine r_getf C (v := .ref (ad9 (k + 1))) (by omega) (ct_3 f0.2.1) rfl in_X4 0 (by decide) rfl lk_X4_11 (congrArg (fun (q : Nat → Option Nat) => some (va_re ad9 (q 0))) hK.1) dX4_init_22 ?_
  refine r_iload_n C 0 rfl rfl dX4_init_25 ?_
  have hz := hC.1.2 (k + 10) (Nat.le_refl _)
  have hN := hC.1.new
  refine nw_X9 C hA0 hC.1 f10.2.1 lc_X4_9 (Nat.le_of_ble_eq_true rfl) (Nat.le_of_ble_eq_true rfl) dX4_init_26 (fun ad10 he10 => ?_)
  rw [← he10 k (by omega)]
  rw [← he10 (k + 1) (by omega)]
  have hAd : ∀ i, i < k + 1 → ad10 i = ad i := fun i hi => (he10 i (by omega)).trans (hAd i hi)
  refine r_dup C rfl dX4_init_29 ?_
  refine r_ckN C hAO hA0 hN (c_X9_init (g := g) (k := (k + 10)) f10 f11) fk_X9 rfl (by decide +kernel) nk_X4_15 (by omega) (fun h => nomatch h) hz ⟨rfl, rfl, (Nat.le_of_ble_eq_true rfl), (Nat.le_of_ble_eq_true rfl)⟩ (Nat.le_of_ble_eq_true rfl) (Nat.le_of_ble_eq_true rfl) (Nat.le_of_ble_eq_true rfl) dX4_init_30 (fun ad11 R11 I11 J11 he11 hN11 hF11 => ?_)
  rw [← he11 k (by omega)]
  rw [← he11 (k + 1) (by omega)]
  rw [← he11 (k + 10) (by omega)]
  have hAd : ∀ i, i < k + 1 → ad11 i = ad i := fun i hi => (he11 i (by omega)).trans (hAd i hi)
  have hA := hA.call hF11 (by omega)
  have hK := hK.call hF11 (by omega)
  have hC := hC.call hN11 hF11 (by omega) (fun _ _ _ => rfl)
  refine r_aastT C (N := 6) ⟨f1.1, by omega, f1.2.1⟩ ⟨f10.2.1, by omega⟩ (vin_in (by decide)) dX4_init_33 ?_
  rw [show Int32.toNatClampNeg 4 = 4 from by decide]
  have hC := hC.sR (k := (k + 1)) (j := 4) (q := (k + 10)) (Or.inr rfl) (by omega) (by omega)
  have hA := hA.sR (j := 4) (q := (k + 10))
  have hK := hK.sRne (j := 4) (q := (k + 10)) (a := (k + 1)) (by omega)
  refine r_iinc C (v := 5) (k := 0) (lv1 := [(1, .int 5), (0, .ref (ad11 k))]) rfl (by decide) (by decide) rfl dX4_init_34 ?_
  refine r_goto C (tgt := 15) dX4_init_37 (by decide) ?_
  refine r_iload_n C 0 rfl rfl dX4_init_15 ?_
  refine r_bipush C (v := 6) (by decide) dX4_init_16 ?_
  refine r_icmp_ge C (tgt := 40) (XA := 0) (XB := 1) (z := 1) (by decide) dX4_init_18 (by decide) (fun h => absurd h (by decide)) (fun _ => ?_)
  refine r_aload_n C 1 rfl rfl dX4_init_21 ?_
  refine r_getf C (v := .ref (ad11 (k + 1))) (by omega) (ct_3 f0.2.1) rfl in_X4 0 (by decide) rfl lk_X4_11 (congrArg (fun (q : Nat → Option Nat) => some (va_re ad11 (q 0))) hK.1) dX4_init_22 ?_
  refine r_iload_n C 0 rfl rfl dX4_init_25 ?_
  have hz := hC.1.2 (k + 12) (Nat.le_refl _)
  have hN := hC.1.new
  refine nw_X9 C hA0 hC.1 f12.2.1 lc_X4_9 (Nat.le_of_ble_eq_true rfl) (Nat.le_of_ble_eq_true rfl) dX4_init_26 (fun ad12 he12 => ?_)
  rw [← he12 k (by omega)]
  rw [← he12 (k + 1) (by omega)]
  have hAd : ∀ i, i < k + 1 → ad12 i = ad i := fun i hi => (he12 i (by omega)).trans (hAd i hi)
  refine r_dup C rfl dX4_init_29 ?_
  refine r_ckN C hAO hA0 hN (c_X9_init (g := g) (k := (k + 12)) f12 f13) fk_X9 rfl (by decide +kernel) nk_X4_15 (by omega) (fun h => nomatch h) hz ⟨rfl, rfl, (Nat.le_of_ble_eq_true rfl), (Nat.le_of_ble_eq_true rfl)⟩ (Nat.le_of_ble_eq_true rfl) (Nat.le_of_ble_eq_true rfl) (Nat.le_of_ble_eq_true rfl) dX4_init_30 (fun ad13 R13 I13 J13 he13 hN13 hF13 => ?_)
  rw [← he13 k (by omega)]
  rw [← he13 (k + 1) (by omega)]
  rw [← he13 (k + 12) (by omega)]
  have hAd : ∀ i, i < k + 1 → ad13 i = ad i := fun i hi => (he13 i (by omega)).trans (hAd i hi)
  have hA := hA.call hF13 (by omega)
  have hK := hK.call hF13 (by omega)
  have hC := hC.call hN13 hF13 (by omega) (fun _ _ _ => rfl)
  refine r_aastT C (N := 6) ⟨f1.1, by omega, f1.2.1⟩ ⟨f12.2.1, by omega⟩ (vin_in (by decide)) dX4_init_33 ?_
  rw [show Int32.toNatClampNeg 5 = 5 from by decide]
  have hC := hC.sR (k := (k + 1)) (j := 5) (q := (k + 12)) (Or.inr rfl) (by omega) (by omega)
  have hA := hA.sR (j := 5) (q := (k + 12))
  have hK := hK.sRne (j := 5) (q := (k + 12)) (a := (k + 1)) (by omega)
  refine r_iinc C (v := 6) (k := 0) (lv1 := [(1, .int 6), (0, .ref (ad13 k))]) rfl (by decide) (by decide) rfl dX4_init_34 ?_
  refine r_goto C (tgt := 15) dX4_init_37 (by decide) ?_
  refine r_iload_n C 0 rfl rfl dX4_init_15 ?_
  refine r_bipush C (v := 6) (by decide) dX4_init_16 ?_
  refine r_icmp_ge C (tgt := 40) (XA := 0) (XB := 1) (z := 0) (by decide) dX4_init_18 (by decide) (fun _ => ?_) (fun h => absurd h (by decide))
  refine r_wid (a := 13) (b := 378) (Nat.le_of_ble_eq_true rfl) (Nat.le_of_ble_eq_true rfl) ⟨(Nat.le_of_ble_eq_true rfl), (Nat.le_of_ble_eq_true rfl)⟩ ?_
  have hFF : FIN (k + 1) k (k + 14) R I J _ _ _ := FIN_two hC (by omega) hK hA (by rw [f0.r]; funext j; rcases j with _|j <;> simp [va_up]) (by rw [f0.i]; rfl) (by rw [oR_of f1.2.2.2.1]; funext j; rcases j with _|_|_|_|_|_|j <;> simp [va_up]) (by rw [I0_of f1.2.2.1 f1.2.2.2.2]; rfl)
  exact r_kret C hr hAd hC.1 hFF dX4_init_40
set_option maxHeartbeats 4000000 in
theorem c_X8_init {l : Launch} {g : GG} {k : Nat} (f0 : FO k 7 [some (k + 1), some (k + 10)] []) (f1 : FO (k + 1) 1 [some (k + 2), some (k + 7), some (k + 8), some (k + 9)] []) (f2 : oK (k + 2) = 15 ∧ oL (k + 2) = 4 ∧ (k + 2) ≠ 99 ∧ oRs.getD (k + 2) [] = [some (k + 3), some (k + 4), some (k + 5), some (k + 6)] ∧ i0T.getD (k + 2) [] = []) (f3 : FA (k + 3) 11 200 [10006]) (f4 : FA (k + 4) 11 200 [10001, 4, 20047]) (f5 : FA (k + 5) 11 200 [10000, 100, 20062]) (f6 : FA (k + 6) 11 200 [10000, 5, 20047, 10001, 20043]) (f7 : FA (k + 7) 11 4 [1, 3, 3, 5]) (f8 : FA (k + 8) 13 4 []) (f9 : FA (k + 9) 11 32 []) (f10 : FA (k + 10) 11 200 []) (hkO : k < 100) : CK l yX8_init cX8_init 1 (RMc 5 130 10 1048) 10 1048 g (k + 1) k (k + 11) true := by
  refine CK_of (by decide +kernel) rfl (by decide) (fun p e s m args below meth c ad R I J hni hAO C hr hNI hkn hRF z1 z2 z3 => ?_)
  have hA0 : ∀ q, s.heap.size ≤ q → AZ ad (k + 1) s.heap.size q := fun q h => Or.inr h
  have hC : CS (fun i => i = k) (I0) (k + 1) (k + 1) R I J R I J := CS.start hNI
  have hK : OP k R I J (fun _ => none) (fun _ => 0) := ⟨z1, z2, z3⟩
  have hAd : ∀ i, i < k + 1 → ad i = ad i := fun _ _ => rfl
  refine r_aload_n C 0 rfl rfl dX8_init_0 ?_
  refine r_objInit C li_X8_1 (Nat.le_of_ble_eq_true rfl) (Nat.le_of_ble_eq_true rfl) dX8_init_1 ?_
  refine r_aload_n C 0 rfl rfl dX8_init_4 ?_
  have hz := hC.1.2 (k + 1) (Nat.le_refl _)
  have hN := hC.1.new
  refine nw_X2 C hA0 hC.1 f1.2.1 lc_X8_7 (Nat.le_of_ble_eq_true rfl) (Nat.le_of_ble_eq_true rfl) dX8_init_5 (fun ad1 he1 => ?_)
  rw [← he1 k (by omega)]
  have hAd : ∀ i, i < k + 1 → ad1 i = ad i := fun i hi => (he1 i (by omega)).trans (hAd i hi)
  refine r_dup C rfl dX8_init_8 ?_
  refine r_ck C hAO hA0 hN (c_X2_init (g := g) (k := (k + 1)) f1 f2 f3 f4 f5 f6 f7 f8 f9 (by omega)) fk_X2 rfl (by decide +kernel) li_X8_9 (by omega) (fun _ i h1 h2 h3 h4 => by
    have hik : i ≠ k := fun q => h4 (by rw [q]; exact f0.2.1)
    rw [(hC.2.2.1 i (by omega) hik).1]
    exact hRF rfl i (by omega) hik h3 h4) hz ⟨rfl, rfl, (Nat.le_of_ble_eq_true rfl), (Nat.le_of_ble_eq_true rfl)⟩ (Nat.le_of_ble_eq_true rfl) (Nat.le_of_ble_eq_true rfl) (Nat.le_of_ble_eq_true rfl) dX8_init_9 (fun ad2 R2 I2 J2 he2 hN2 hF2 => ?_)
  rw [← he2 k (by omega)]
  rw [← he2 (k + 1) (by omega)]
  have hAd : ∀ i, i < k + 1 → ad2 i = ad i := fun i hi => (he2 i (by omega)).trans (hAd i hi)
  have hK := hK.call hF2 (by omega)
  have hC := hC.call hN2 hF2 (by omega) (fun _ _ _ => rfl)
  refine pR_X8_10 C hni (q := (k + 1)) ⟨f0.2.1, by omega⟩ dX8_init_12 ?_
  have hC := hC.sR (k := k) (j := 0) (q := (k + 1)) rfl (by omega) (by omega)
  have hK := hK.sR (j := 0) (q := (k + 1))
  refine r_aload_n C 0 rfl rfl dX8_init_15 ?_
  refine r_sipush C (v := 200) (by decide) dX8_init_16 ?_
  refine r_newi C hA0 hC.1 (N := 200) f10.2.1 f10.2.2.1 (by decide) (by decide) (by decide) (Nat.le_of_ble_eq_true rfl) (Nat.le_of_ble_eq_true rfl) dX8_init_19 (fun ad3 he3 => ?_)
  rw [← he3 k (by omega)]
  have hAd : ∀ i, i < k + 1 → ad3 i = ad i := fun i hi => (he3 i (by omega)).trans (hAd i hi)
  have hC := CS.arr hC f10.r f10.z
  refine pR_X8_16 C hni (q := (k + 10)) ⟨f0.2.1, by omega⟩ dX8_init_21 ?_
  have hC := hC.sR (k := k) (j := 1) (q := (k + 10)) rfl (by omega) (by omega)
  have hK := hK.sR (j := 1) (q := (k + 10))
  refine r_wid (a := 10) (b := 1048) (Nat.le_of_ble_eq_true rfl) (Nat.le_of_ble_eq_true rfl) ⟨(Nat.le_of_ble_eq_true rfl), (Nat.le_of_ble_eq_true rfl)⟩ ?_
  exact r_kret C hr hAd hC.1 (hC.fin (by omega) hK (by rw [(f0).r]; funext j; rcases j with _|_|j <;> simp [va_up]) (by rw [(f0).i]; rfl)) dX8_init_24
set_option maxHeartbeats 4000000 in
theorem c_X3_init {l : Launch} {g : GG} {k : Nat} (f0 : FO k 2 [some (k + 1)] []) (f1 : oK (k + 1) = 15 ∧ oL (k + 1) = 12 ∧ (k + 1) ≠ 99 ∧ oRs.getD (k + 1) [] = [some (k + 2), some (k + 3), some (k + 4), some (k + 5), some (k + 6), some (k + 7), some (k + 8), some (k + 9), some (k + 10), some (k + 11), some (k + 12), some (k + 13)] ∧ i0T.getD (k + 1) [] = []) (f2 : FA (k + 2) 11 2 []) (f3 : FA (k + 3) 11 2 []) (f4 : FA (k + 4) 11 2 []) (f5 : FA (k + 5) 11 2 []) (f6 : FA (k + 6) 11 2 []) (f7 : FA (k + 7) 11 2 []) (f8 : FA (k + 8) 11 2 []) (f9 : FA (k + 9) 11 2 []) (f10 : FA (k + 10) 11 2 []) (f11 : FA (k + 11) 11 2 []) (f12 : FA (k + 12) 11 2 []) (f13 : FA (k + 13) 11 2 []) : CK l yX3_init cX3_init 1 (RMc 1 30 13 36) 13 36 g (k + 1) k (k + 14) false := by
  refine CK_of (by decide +kernel) rfl (by decide) (fun p e s m args below meth c ad R I J hni hAO C hr hNI hkn hRF z1 z2 z3 => ?_)
  have hA0 : ∀ q, s.heap.size ≤ q → AZ ad (k + 1) s.heap.size q := fun q h => Or.inr h
  have hC : CS (fun i => i = k) (I0) (k + 1) (k + 1) R I J R I J := CS.start hNI
  have hK : OP k R I J (fun _ => none) (fun _ => 0) := ⟨z1, z2, z3⟩
  have hAd : ∀ i, i < k + 1 → ad i = ad i := fun _ _ => rfl
  refine r_aload_n C 0 rfl rfl dX3_init_0 ?_
  refine r_objInit C li_X3_1 (Nat.le_of_ble_eq_true rfl) (Nat.le_of_ble_eq_true rfl) dX3_init_1 ?_
  refine r_aload_n C 0 rfl rfl dX3_init_4 ?_
  refine r_bipush C (v := 12) (by decide) dX3_init_5 ?_
  refine r_iconst C (v := 2) (by decide) dX3_init_7 ?_
  have hin : ∀ i, i < 12 → oK (k + 1 + 1 + i) = 11 ∧ oL (k + 1 + 1 + i) = 2 ∧ oR (k + 1 + 1 + i) = (fun _ => none) ∧ I0 (k + 1 + 1 + i) = fun _ => 0 := by
    intro i hi
    rcases i with _|_|_|_|_|_|_|_|_|_|_|_|i
    · exact ⟨f2.2.1, f2.2.2.1, f2.r, f2.z⟩
    · exact ⟨f3.2.1, f3.2.2.1, f3.r, f3.z⟩
    · exact ⟨f4.2.1, f4.2.2.1, f4.r, f4.z⟩
    · exact ⟨f5.2.1, f5.2.2.1, f5.r, f5.z⟩
    · exact ⟨f6.2.1, f6.2.2.1, f6.r, f6.z⟩
    · exact ⟨f7.2.1, f7.2.2.1, f7.r, f7.z⟩
    · exact ⟨f8.2.1, f8.2.2.1, f8.r, f8.z⟩
    · exact ⟨f9.2.1, f9.2.2.1, f9.r, f9.z⟩
    · exact ⟨f10.2.1, f10.2.2.1, f10.r, f10.z⟩
    · exact ⟨f11.2.1, f11.2.2.1, f11.r, f11.z⟩
    · exact ⟨f12.2.1, f12.2.2.1, f12.r, f12.z⟩
    · exact ⟨f13.2.1, f13.2.2.1, f13.r, f13.z⟩
    · omega
  refine r_mna C hAO hA0 hC.1 (N := 12) (M := 2) f1.1 f1.2.1 (fun i hi => ⟨(hin i hi).1, (hin i hi).2.1⟩) (by decide) (by decide) (by decide) (by decide) (by decide) (by decide) (by decide) lc_X3_9 (Nat.le_of_ble_eq_true rfl) (Nat.le_of_ble_eq_true rfl) dX3_init_8 (fun ad1 he1 => ?_)
  rw [← he1 k (by omega)]
  have hAd : ∀ i, i < k + 1 → ad1 i = ad i := fun i hi => (he1 i (by omega)).trans (hAd i hi)
  have hro : oR (k + 1) = fun i => if i < 12 then some (k + 1 + 1 + i) else none := by
    rw [oR_of f1.2.2.2.1]
    funext j
    rcases j with _|_|_|_|_|_|_|_|_|_|_|_|j
    · rfl
    · rfl
    · rfl
    · rfl
    · rfl
    · rfl
    · rfl
    · rfl
    · rfl
    · rfl
    · rfl
    · rfl
    · show none = if j + 12 < 12 then _ else none
      rw [if_neg (by omega)]
  have hC := hC.rows hro (I0_of f1.2.2.1 f1.2.2.2.2) (fun i hi => (hin i hi).2.2)
  have hK := hK.rows (n' := k + 1) (x := fun i => if i < 12 then some (k + 1 + 1 + i) else none) (by omega)
  refine pR_X3_11 C hni (q := (k + 1)) ⟨f0.2.1, by omega⟩ dX3_init_12 ?_
  have hC := hC.sR (k := k) (j := 0) (q := (k + 1)) rfl (by omega) (by omega)
  have hK := hK.sR (j := 0) (q := (k + 1))
  refine r_wid (a := 13) (b := 36) (Nat.le_of_ble_eq_true rfl) (Nat.le_of_ble_eq_true rfl) ⟨(Nat.le_of_ble_eq_true rfl), (Nat.le_of_ble_eq_true rfl)⟩ ?_
  exact r_kret C hr hAd hC.1 (hC.fin (by omega) hK (by rw [(f0).r]; funext j; rcases j with _|j <;> simp [va_up]) (by rw [(f0).i]; rfl)) dX3_init_15
set_option maxHeartbeats 4000000 in
theorem c_X5_init {l : Launch} {g : GG} {k : Nat} (f0 : FO k 4 [some (k + 1), some (k + 2), some (k + 3)] []) (f1 : FA (k + 1) 11 4 [-1, -1, -1, -1]) (f2 : FA (k + 2) 11 4 []) (f3 : oK (k + 3) = 15 ∧ oL (k + 3) = 4 ∧ (k + 3) ≠ 99 ∧ oRs.getD (k + 3) [] = [some (k + 4), some (k + 5), some (k + 6), some (k + 7)] ∧ i0T.getD (k + 3) [] = []) (f4 : FA (k + 4) 11 40 []) (f5 : FA (k + 5) 11 40 []) (f6 : FA (k + 6) 11 40 []) (f7 : FA (k + 7) 11 40 []) : CK l yX5_init cX5_init 1 (RMc 1 30 7 172) 7 172 g (k + 1) k (k + 8) false := by
  refine CK_of (by decide +kernel) rfl (by decide) (fun p e s m args below meth c ad R I J hni hAO C hr hNI hkn hRF z1 z2 z3 => ?_)
  have hA0 : ∀ q, s.heap.size ≤ q → AZ ad (k + 1) s.heap.size q := fun q h => Or.inr h
  have hC : CS (fun i => i = k) (I0) (k + 1) (k + 1) R I J R I J := CS.start hNI
  have hK : OP k R I J (fun _ => none) (fun _ => 0) := ⟨z1, z2, z3⟩
  have hAd : ∀ i, i < k + 1 → ad i = ad i := fun _ _ => rfl
  refine r_aload_n C 0 rfl rfl dX5_init_0 ?_
  refine r_objInit C li_X5_1 (Nat.le_of_ble_eq_true rfl) (Nat.le_of_ble_eq_true rfl) dX5_init_1 ?_
  refine r_aload_n C 0 rfl rfl dX5_init_4 ?_
  refine r_iconst C (v := 4) (by decide) dX5_init_5 ?_
  refine r_newi C hA0 hC.1 (N := 4) f1.2.1 f1.2.2.1 (by decide) (by decide) (by decide) (Nat.le_of_ble_eq_true rfl) (Nat.le_of_ble_eq_true rfl) dX5_init_6 (fun ad1 he1 => ?_)
  rw [← he1 k (by omega)]
  have hAd : ∀ i, i < k + 1 → ad1 i = ad i := fun i hi => (he1 i (by omega)).trans (hAd i hi)
  have hD : CS (fun i => i = (k + 1) ∨ (fun i => i = k) i) (I0) (k + 1) (k + 2) R I J _ _ _ := CS.opn (O := fun i => i = (k + 1) ∨ (fun i => i = k) i) ⟨hC.1, hC.2.1, fun i h1 h2 => hC.2.2.1 i h1 (fun q => h2 (Or.inr q)), fun i h1 h2 h3 => hC.2.2.2 i h1 h2 (fun q => h3 (Or.inr q))⟩ (Or.inl rfl)
  have hO := OP.opn hC.1
  refine r_dup C rfl dX5_init_8 ?_
  refine r_iconst C (v := 0) (by decide) dX5_init_9 ?_
  refine r_iconst C (v := -1) (by decide) dX5_init_10 ?_
  refine r_iast C (ρ := Nat) (X := some 0) (z := 0) ⟨f1.2.1, by omega, f1.2.2.1⟩ (by decide) dX5_init_11 (fun _ => ?_)
  rw [show Int32.toNatClampNeg 0 = 0 from by decide]
  have hD := hD.sI (j := 0) (v := -1) (Or.inl rfl) (by omega)
  have hO := hO.sI (j := 0) (v := -1)
  have hK := hK.sIne (j := 0) (v := -1) (a := (k + 1)) (by omega)
  refine r_dup C rfl dX5_init_12 ?_
  refine r_iconst C (v := 1) (by decide) dX5_init_13 ?_
  refine r_iconst C (v := -1) (by decide) dX5_init_14 ?_
  refine r_iast C (ρ := Nat) (X := some 0) (z := 0) ⟨f1.2.1, by omega, f1.2.2.1⟩ (by decide) dX5_init_15 (fun _ => ?_)
  rw [show Int32.toNatClampNeg 1 = 1 from by decide]
  have hD := hD.sI (j := 1) (v := -1) (Or.inl rfl) (by omega)
  have hO := hO.sI (j := 1) (v := -1)
  have hK := hK.sIne (j := 1) (v := -1) (a := (k + 1)) (by omega)
  refine r_dup C rfl dX5_init_16 ?_
  refine r_iconst C (v := 2) (by decide) dX5_init_17 ?_
  refine r_iconst C (v := -1) (by decide) dX5_init_18 ?_
  refine r_iast C (ρ := Nat) (X := some 0) (z := 0) ⟨f1.2.1, by omega, f1.2.2.1⟩ (by decide) dX5_init_19 (fun _ => ?_)
  rw [show Int32.toNatClampNeg 2 = 2 from by decide]
  have hD := hD.sI (j := 2) (v := -1) (Or.inl rfl) (by omega)
  have hO := hO.sI (j := 2) (v := -1)
  have hK := hK.sIne (j := 2) (v := -1) (a := (k + 1)) (by omega)
  refine r_dup C rfl dX5_init_20 ?_
  refine r_iconst C (v := 3) (by decide) dX5_init_21 ?_
  refine r_iconst C (v := -1) (by decide) dX5_init_22 ?_
  refine r_iast C (ρ := Nat) (X := some 0) (z := 0) ⟨f1.2.1, by omega, f1.2.2.1⟩ (by decide) dX5_init_23 (fun _ => ?_)
  rw [show Int32.toNatClampNeg 3 = 3 from by decide]
  have hD := hD.sI (j := 3) (v := -1) (Or.inl rfl) (by omega)
  have hO := hO.sI (j := 3) (v := -1)
  have hK := hK.sIne (j := 3) (v := -1) (a := (k + 1)) (by omega)
  have hC := hD.cls (O2 := fun i => i = k) (fun i h => h) (by omega) hO f1.r.symm (Eq.trans (funext fun j => by rcases j with _|_|_|_|j <;> simp [upd]) f1.i.symm)
  refine pR_X5_9 C hni (q := (k + 1)) ⟨f0.2.1, by omega⟩ dX5_init_24 ?_
  have hC := hC.sR (k := k) (j := 0) (q := (k + 1)) rfl (by omega) (by omega)
  have hK := hK.sR (j := 0) (q := (k + 1))
  refine r_aload_n C 0 rfl rfl dX5_init_27 ?_
  refine r_iconst C (v := 4) (by decide) dX5_init_28 ?_
  refine r_newi C hA0 hC.1 (N := 4) f2.2.1 f2.2.2.1 (by decide) (by decide) (by decide) (Nat.le_of_ble_eq_true rfl) (Nat.le_of_ble_eq_true rfl) dX5_init_29 (fun ad2 he2 => ?_)
  rw [← he2 k (by omega)]
  have hAd : ∀ i, i < k + 1 → ad2 i = ad i := fun i hi => (he2 i (by omega)).trans (hAd i hi)
  have hC := CS.arr hC f2.r f2.z
  refine pR_X5_13 C hni (q := (k + 2)) ⟨f0.2.1, by omega⟩ dX5_init_31 ?_
  have hC := hC.sR (k := k) (j := 1) (q := (k + 2)) rfl (by omega) (by omega)
  have hK := hK.sR (j := 1) (q := (k + 2))
  refine r_aload_n C 0 rfl rfl dX5_init_34 ?_
  refine r_iconst C (v := 4) (by decide) dX5_init_35 ?_
  refine r_bipush C (v := 40) (by decide) dX5_init_36 ?_
  have hin : ∀ i, i < 4 → oK (k + 3 + 1 + i) = 11 ∧ oL (k + 3 + 1 + i) = 40 ∧ oR (k + 3 + 1 + i) = (fun _ => none) ∧ I0 (k + 3 + 1 + i) = fun _ => 0 := by
    intro i hi
    rcases i with _|_|_|_|i
    · exact ⟨f4.2.1, f4.2.2.1, f4.r, f4.z⟩
    · exact ⟨f5.2.1, f5.2.2.1, f5.r, f5.z⟩
    · exact ⟨f6.2.1, f6.2.2.1, f6.r, f6.z⟩
    · exact ⟨f7.2.1, f7.2.2.1, f7.r, f7.z⟩
    · omega
  refine r_mna C hAO hA0 hC.1 (N := 4) (M := 40) f3.1 f3.2.1 (fun i hi => ⟨(hin i hi).1, (hin i hi).2.1⟩) (by decide) (by decide) (by decide) (by decide) (by decide) (by decide) (by decide) lc_X5_16 (Nat.le_of_ble_eq_true rfl) (Nat.le_of_ble_eq_true rfl) dX5_init_38 (fun ad3 he3 => ?_)
  rw [← he3 k (by omega)]
  have hAd : ∀ i, i < k + 1 → ad3 i = ad i := fun i hi => (he3 i (by omega)).trans (hAd i hi)
  have hro : oR (k + 3) = fun i => if i < 4 then some (k + 3 + 1 + i) else none := by
    rw [oR_of f3.2.2.2.1]
    funext j
    rcases j with _|_|_|_|j
    · rfl
    · rfl
    · rfl
    · rfl
    · show none = if j + 4 < 4 then _ else none
      rw [if_neg (by omega)]
  have hC := hC.rows hro (I0_of f3.2.2.1 f3.2.2.2.2) (fun i hi => (hin i hi).2.2)
  have hK := hK.rows (n' := k + 3) (x := fun i => if i < 4 then some (k + 3 + 1 + i) else none) (by omega)
  refine pR_X5_18 C hni (q := (k + 3)) ⟨f0.2.1, by omega⟩ dX5_init_42 ?_
  have hC := hC.sR (k := k) (j := 2) (q := (k + 3)) rfl (by omega) (by omega)
  have hK := hK.sR (j := 2) (q := (k + 3))
  refine r_wid (a := 7) (b := 172) (Nat.le_of_ble_eq_true rfl) (Nat.le_of_ble_eq_true rfl) ⟨(Nat.le_of_ble_eq_true rfl), (Nat.le_of_ble_eq_true rfl)⟩ ?_
  exact r_kret C hr hAd hC.1 (hC.fin (by omega) hK (by rw [(f0).r]; funext j; rcases j with _|_|_|j <;> simp [va_up]) (by rw [(f0).i]; rfl)) dX5_init_45
set_option maxHeartbeats 4000000 in
theorem c_X6_init {l : Launch} {g : GG} {k : Nat} (f0 : FO k 5 [some (k + 1), some (k + 2), some (k + 3)] []) (f1 : FA (k + 1) 11 4 [3, 3, 3, 3]) (f2 : FA (k + 2) 11 4 []) (f3 : FA (k + 3) 11 4 []) : CK l yX6_init cX6_init 1 (RMc 1 30 3 12) 3 12 g (k + 1) k (k + 4) false := by
  refine CK_of (by decide +kernel) rfl (by decide) (fun p e s m args below meth c ad R I J hni hAO C hr hNI hkn hRF z1 z2 z3 => ?_)
  have hA0 : ∀ q, s.heap.size ≤ q → AZ ad (k + 1) s.heap.size q := fun q h => Or.inr h
  have hC : CS (fun i => i = k) (I0) (k + 1) (k + 1) R I J R I J := CS.start hNI
  have hK : OP k R I J (fun _ => none) (fun _ => 0) := ⟨z1, z2, z3⟩
  have hAd : ∀ i, i < k + 1 → ad i = ad i := fun _ _ => rfl
  refine r_aload_n C 0 rfl rfl dX6_init_0 ?_
  refine r_objInit C li_X6_1 (Nat.le_of_ble_eq_true rfl) (Nat.le_of_ble_eq_true rfl) dX6_init_1 ?_
  refine r_aload_n C 0 rfl rfl dX6_init_4 ?_
  refine r_iconst C (v := 4) (by decide) dX6_init_5 ?_
  refine r_newi C hA0 hC.1 (N := 4) f1.2.1 f1.2.2.1 (by decide) (by decide) (by decide) (Nat.le_of_ble_eq_true rfl) (Nat.le_of_ble_eq_true rfl) dX6_init_6 (fun ad1 he1 => ?_)
  rw [← he1 k (by omega)]
  have hAd : ∀ i, i < k + 1 → ad1 i = ad i := fun i hi => (he1 i (by omega)).trans (hAd i hi)
  have hD : CS (fun i => i = (k + 1) ∨ (fun i => i = k) i) (I0) (k + 1) (k + 2) R I J _ _ _ := CS.opn (O := fun i => i = (k + 1) ∨ (fun i => i = k) i) ⟨hC.1, hC.2.1, fun i h1 h2 => hC.2.2.1 i h1 (fun q => h2 (Or.inr q)), fun i h1 h2 h3 => hC.2.2.2 i h1 h2 (fun q => h3 (Or.inr q))⟩ (Or.inl rfl)
  have hO := OP.opn hC.1
  refine r_dup C rfl dX6_init_8 ?_
  refine r_iconst C (v := 0) (by decide) dX6_init_9 ?_
  refine r_iconst C (v := 3) (by decide) dX6_init_10 ?_
  refine r_iast C (ρ := Nat) (X := some 0) (z := 0) ⟨f1.2.1, by omega, f1.2.2.1⟩ (by decide) dX6_init_11 (fun _ => ?_)
  rw [show Int32.toNatClampNeg 0 = 0 from by decide]
  have hD := hD.sI (j := 0) (v := 3) (Or.inl rfl) (by omega)
  have hO := hO.sI (j := 0) (v := 3)
  have hK := hK.sIne (j := 0) (v := 3) (a := (k + 1)) (by omega)
  refine r_dup C rfl dX6_init_12 ?_
  refine r_iconst C (v := 1) (by decide) dX6_init_13 ?_
  refine r_iconst C (v := 3) (by decide) dX6_init_14 ?_
  refine r_iast C (ρ := Nat) (X := some 0) (z := 0) ⟨f1.2.1, by omega, f1.2.2.1⟩ (by decide) dX6_init_15 (fun _ => ?_)
  rw [show Int32.toNatClampNeg 1 = 1 from by decide]
  have hD := hD.sI (j := 1) (v := 3) (Or.inl rfl) (by omega)
  have hO := hO.sI (j := 1) (v := 3)
  have hK := hK.sIne (j := 1) (v := 3) (a := (k + 1)) (by omega)
  refine r_dup C rfl dX6_init_16 ?_
  refine r_iconst C (v := 2) (by decide) dX6_init_17 ?_
  refine r_iconst C (v := 3) (by decide) dX6_init_18 ?_
  refine r_iast C (ρ := Nat) (X := some 0) (z := 0) ⟨f1.2.1, by omega, f1.2.2.1⟩ (by decide) dX6_init_19 (fun _ => ?_)
  rw [show Int32.toNatClampNeg 2 = 2 from by decide]
  have hD := hD.sI (j := 2) (v := 3) (Or.inl rfl) (by omega)
  have hO := hO.sI (j := 2) (v := 3)
  have hK := hK.sIne (j := 2) (v := 3) (a := (k + 1)) (by omega)
  refine r_dup C rfl dX6_init_20 ?_
  refine r_iconst C (v := 3) (by decide) dX6_init_21 ?_
  refine r_iconst C (v := 3) (by decide) dX6_init_22 ?_
  refine r_iast C (ρ := Nat) (X := some 0) (z := 0) ⟨f1.2.1, by omega, f1.2.2.1⟩ (by decide) dX6_init_23 (fun _ => ?_)
  rw [show Int32.toNatClampNeg 3 = 3 from by decide]
  have hD := hD.sI (j := 3) (v := 3) (Or.inl rfl) (by omega)
  have hO := hO.sI (j := 3) (v := 3)
  have hK := hK.sIne (j := 3) (v := 3) (a := (k + 1)) (by omega)
  have hC := hD.cls (O2 := fun i => i = k) (fun i h => h) (by omega) hO f1.r.symm (Eq.trans (funext fun j => by rcases j with _|_|_|_|j <;> simp [upd]) f1.i.symm)
  refine pR_X6_9 C hni (q := (k + 1)) ⟨f0.2.1, by omega⟩ dX6_init_24 ?_
  have hC := hC.sR (k := k) (j := 0) (q := (k + 1)) rfl (by omega) (by omega)
  have hK := hK.sR (j := 0) (q := (k + 1))
  refine r_aload_n C 0 rfl rfl dX6_init_27 ?_
  refine r_iconst C (v := 4) (by decide) dX6_init_28 ?_
  refine r_newi C hA0 hC.1 (N := 4) f2.2.1 f2.2.2.1 (by decide) (by decide) (by decide) (Nat.le_of_ble_eq_true rfl) (Nat.le_of_ble_eq_true rfl) dX6_init_29 (fun ad2 he2 => ?_)
  rw [← he2 k (by omega)]
  have hAd : ∀ i, i < k + 1 → ad2 i = ad i := fun i hi => (he2 i (by omega)).trans (hAd i hi)
  have hC := CS.arr hC f2.r f2.z
  refine pR_X6_13 C hni (q := (k + 2)) ⟨f0.2.1, by omega⟩ dX6_init_31 ?_
  have hC := hC.sR (k := k) (j := 1) (q := (k + 2)) rfl (by omega) (by omega)
  have hK := hK.sR (j := 1) (q := (k + 2))
  refine r_aload_n C 0 rfl rfl dX6_init_34 ?_
  refine r_iconst C (v := 4) (by decide) dX6_init_35 ?_
  refine r_newi C hA0 hC.1 (N := 4) f3.2.1 f3.2.2.1 (by decide) (by decide) (by decide) (Nat.le_of_ble_eq_true rfl) (Nat.le_of_ble_eq_true rfl) dX6_init_36 (fun ad3 he3 => ?_)
  rw [← he3 k (by omega)]
  have hAd : ∀ i, i < k + 1 → ad3 i = ad i := fun i hi => (he3 i (by omega)).trans (hAd i hi)
  have hC := CS.arr hC f3.r f3.z
  refine pR_X6_16 C hni (q := (k + 3)) ⟨f0.2.1, by omega⟩ dX6_init_38 ?_
  have hC := hC.sR (k := k) (j := 2) (q := (k + 3)) rfl (by omega) (by omega)
  have hK := hK.sR (j := 2) (q := (k + 3))
  refine r_wid (a := 3) (b := 12) (Nat.le_of_ble_eq_true rfl) (Nat.le_of_ble_eq_true rfl) ⟨(Nat.le_of_ble_eq_true rfl), (Nat.le_of_ble_eq_true rfl)⟩ ?_
  exact r_kret C hr hAd hC.1 (hC.fin (by omega) hK (by rw [(f0).r]; funext j; rcases j with _|_|_|j <;> simp [va_up]) (by rw [(f0).i]; rfl)) dX6_init_41
set_option maxHeartbeats 4000000 in
theorem c_X0_init {l : Launch} {g : GG} {k : Nat} (f0 : FO k 0 [some (k + 1)] [0, 0, 0, -1]) (f1 : FA (k + 1) 11 30 []) : CK l yX0_init cX0_init 1 (RMc 1 30 1 30) 1 30 g (k + 1) k (k + 2) false := by
  refine CK_of (by decide +kernel) rfl (by decide) (fun p e s m args below meth c ad R I J hni hAO C hr hNI hkn hRF z1 z2 z3 => ?_)
  have hA0 : ∀ q, s.heap.size ≤ q → AZ ad (k + 1) s.heap.size q := fun q h => Or.inr h
  have hC : CS (fun i => i = k) (I0) (k + 1) (k + 1) R I J R I J := CS.start hNI
  have hK : OP k R I J (fun _ => none) (fun _ => 0) := ⟨z1, z2, z3⟩
  have hAd : ∀ i, i < k + 1 → ad i = ad i := fun _ _ => rfl
  refine r_aload_n C 0 rfl rfl dX0_init_0 ?_
  refine r_objInit C li_X0_3 (Nat.le_of_ble_eq_true rfl) (Nat.le_of_ble_eq_true rfl) dX0_init_1 ?_
  refine r_aload_n C 0 rfl rfl dX0_init_4 ?_
  refine r_bipush C (v := 30) (by decide) dX0_init_5 ?_
  refine r_newi C hA0 hC.1 (N := 30) f1.2.1 f1.2.2.1 (by decide) (by decide) (by decide) (Nat.le_of_ble_eq_true rfl) (Nat.le_of_ble_eq_true rfl) dX0_init_7 (fun ad1 he1 => ?_)
  rw [← he1 k (by omega)]
  have hAd : ∀ i, i < k + 1 → ad1 i = ad i := fun i hi => (he1 i (by omega)).trans (hAd i hi)
  have hC := CS.arr hC f1.r f1.z
  refine pR_X0_11 C hni (q := (k + 1)) ⟨f0.2.1, by omega⟩ dX0_init_9 ?_
  have hC := hC.sR (k := k) (j := 0) (q := (k + 1)) rfl (by omega) (by omega)
  have hK := hK.sR (j := 0) (q := (k + 1))
  refine r_aload_n C 0 rfl rfl dX0_init_12 ?_
  refine r_iconst C (v := -1) (by decide) dX0_init_13 ?_
  refine pf_X0_17 C ⟨f0.2.1, by omega⟩ dX0_init_14 ?_
  have hC := hC.sI (k := k) (j := 3) (v := -1) rfl (by omega)
  have hK := hK.sI (j := 3) (v := -1)
  refine r_wid (a := 1) (b := 30) (Nat.le_of_ble_eq_true rfl) (Nat.le_of_ble_eq_true rfl) ⟨(Nat.le_of_ble_eq_true rfl), (Nat.le_of_ble_eq_true rfl)⟩ ?_
  exact r_kret C hr hAd hC.1 (hC.fin (by omega) hK (by rw [(f0).r]; funext j; rcases j with _|j <;> simp [va_up]) (by rw [(f0).i]; funext j; rcases j with _|_|_|_|j <;> simp [upd])) dX0_init_17

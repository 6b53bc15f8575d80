section START
variable {p : Program} {l : Launch} {e : Env} {Rm : Room} {s : State} {m : MethodId} {args : Array Value} {below : List Frame} {meth : Method} {c : Code} {Q : State → Prop}
variable {nL : Nat} {g : GG} {ad : Nat → Nat} {n : Nat} {R : HR} {I : HI} {J : HJ} {pc : Nat} {lv : List (Nat × Value)} {st : List Value} {nc ns : Nat}
theorem r_narrow (kk : V p l e Rm s m args below meth c Q nL nc ns g (AW ad n) ad n R I J pc lv st) : V p l e Rm s m args below meth c Q nL nc ns g (fun q => s.heap.size ≤ q) ad n R I J pc lv st := fun H locs ls hP hS hl hV =>
  va_forget (fun q hq => hS.2.2 q hq) (kk H [] ls hP ⟨hS.1, fun q h1 _ => hS.2.1 q h1 (Nat.not_le.mpr h1), fun _ h => by cases h⟩ hl ⟨hV.1, hV.2.1, fun k hk => ⟨k, hk, rfl⟩⟩)
end START
def tmJS (i : Nat) : Term := .string "UnevenTap$Text" (ixJS i)
theorem stat_start {args : Array Value} {s : State} (hts : ∀ w ∈ lw_tbl, w.before args s = true) (hs : ∀ w ∈ flatC (Jvm.Cond.and given_1 narrow_1), w.before args s = true) {A : Nat → Prop} (hA : ∀ a : Nat, a < s.heap.size → ¬ A a) : ∃ (T : Nat → Nat) (K V : Nat → Nat), ∀ (D : va_G) (cA : Nat → ClassId), Stat (D, cA, T, K, V) A s s.heap := by
  have h1 : ∀ t, t < 5 → ∃ a : Nat, va_Z (stC t) (stN t) "[I" (.ref a) A s s.heap ∧ va_T .int a (sl t) (fun j => .int ((stV t).getD j 0)) A s s.heap := by
    intro t ht
    have hz : ∀ t, t < 5 → (Cond.laysStatic (stC t) (stN t) "[I") ∈ lw_tbl ∧ (Cond.initialized (stC t)) ∈ lw_tbl ∧ (Cond.arrayOf (.static (stC t) (stN t) "[I") .int) ∈ flatC (Jvm.Cond.and given_1 narrow_1) ∧ (Cond.eq (.length (.static (stC t) (stN t) "[I")) (.int (Int32.ofNat (sl t)))) ∈ flatC (Jvm.Cond.and given_1 narrow_1) ∧ ∀ j, j < sl t → (Cond.eq (.elem (.static (stC t) (stN t) "[I") (.int (Int32.ofNat j))) (.int ((stV t).getD j 0))) ∈ flatC (Jvm.Cond.and given_1 narrow_1) := by decide +kernel
    obtain ⟨z1, z2, z3, z4, z5⟩ := hz t ht
    have hN : sl t < 2 ^ 31 := (by decide : ∀ t, t < 5 → sl t < 2 ^ 31) t ht
    obtain ⟨a, a1, a2⟩ := va_Tof (f := fun j => .int ((stV t).getD j 0)) (A := A) hN (hs _ z3) (va_eqt (hs _ z4)) (fun j hj => va_eqt (hs _ (z5 j hj))) hA
    exact ⟨a, va_Zof (hts _ z1) (hts _ z2) a1 hA, a2⟩
  have h1c : ∀ t : Nat, ∃ a : Nat, t < 5 → va_Z (stC t) (stN t) "[I" (.ref a) A s s.heap ∧ va_T .int a (sl t) (fun j => .int ((stV t).getD j 0)) A s s.heap := fun t => by
    by_cases ht : t < 5
    · obtain ⟨a, ha⟩ := h1 t ht
      exact ⟨a, fun _ => ha⟩
    · exact ⟨0, fun h => absurd h ht⟩
  obtain ⟨T, hT⟩ := Classical.axiomOfChoice h1c
  have hx : ∀ i, i < nJS → lenJS.getD i 0 < 2 ^ 31 ∧ (Cond.exactly (tmJS i) "java/lang/String") ∈ flatC (Jvm.Cond.and given_1 narrow_1) ∧ (Cond.eq (.field (tmJS i) "java/lang/String" "coder" "B") (.int 0)) ∈ flatC (Jvm.Cond.and given_1 narrow_1) ∧ (Cond.arrayOf (.field (tmJS i) "java/lang/String" "value" "[B") .byte) ∈ flatC (Jvm.Cond.and given_1 narrow_1) ∧ (Cond.eq (.length (.field (tmJS i) "java/lang/String" "value" "[B")) (.int (Int32.ofNat (lenJS.getD i 0)))) ∈ flatC (Jvm.Cond.and given_1 narrow_1) ∧ ∀ j, j < lenJS.getD i 0 → (Cond.eq (.elem (.field (tmJS i) "java/lang/String" "value" "[B") (.int (Int32.ofNat j))) (.int ((bytJS.getD i []).getD j 0))) ∈ flatC (Jvm.Cond.and given_1 narrow_1) := by decide +kernel
  obtain ⟨K, V, k1, k2⟩ := vk_Sof (args := args) (s := s) (N := nJS) (tm := tmJS) (len := lenJS) (byt := bytJS) (A := A) (fun i hi => (hx i hi).1) (fun i hi => hs _ (hx i hi).2.1) (fun i hi => hs _ (hx i hi).2.2.1) (fun i hi => hs _ (hx i hi).2.2.2.1) (fun i hi => hs _ (hx i hi).2.2.2.2.1) (fun i hi j hj => hs _ ((hx i hi).2.2.2.2.2 j hj))
    (fun i j hi hj hij => by
      have hq : (Cond.not (Cond.eq (tmJS 0) (tmJS 1))) ∈ flatC (Jvm.Cond.and given_1 narrow_1) := by decide +kernel
      have hi2 : i = 0 ∨ i = 1 := by unfold nJS at hi; omega
      have hj2 : j = 0 ∨ j = 1 := by unfold nJS at hj; omega
      rcases hi2 with rfl | rfl <;> rcases hj2 with rfl | rfl
      · exact absurd rfl hij
      · exact Or.inl (hs _ hq)
      · exact Or.inr (hs _ hq)
      · exact absurd rfl hij) hA
  refine ⟨T, K, V, fun D cA => ⟨fun t ht => hT t ht, k1, fun i hi => ?_, ?_, ?_⟩⟩
  · have hw : ∀ i, i < 2 → (Cond.stringRef "UnevenTap$Text" (ixJS i) (txJS i)) ∈ lw_tbl := by decide +kernel
    exact vk_R.of (hts _ (hw i hi)) (k2 i hi)
  · exact va_Zof (hts _ (by decide +kernel)) (hts _ (by decide +kernel)) (va_eqi (hs _ (by decide +kernel))) hA
  · exact va_Zqof (hts _ (by decide +kernel)) (hts _ (by decide +kernel)) (hs _ (by decide +kernel)) hA
theorem K_start {args : Array Value} {s : State} (hts : ∀ w ∈ lw_tbl, w.before args s = true) : ∃ (D : va_G) (cA : Nat → ClassId), ∀ (T K V : Nat → Nat), va_K D vwCl (tyW (D, cA, T, K, V)) s := by
  have hw : ∀ w ∈ WALL, w.before args s = true := fun w h => hts w (List.mem_filter.mp h).1
  obtain ⟨c0, i0, k0⟩ := u_known hw in_X0 (hw _ wi_X0)
  obtain ⟨c1, i1, k1⟩ := u_known hw in_X2 (hw _ wi_X2)
  obtain ⟨c2, i2, k2⟩ := u_known hw in_X3 (hw _ wi_X3)
  obtain ⟨c3, i3, k3⟩ := u_known hw in_X4 (hw _ wi_X4)
  obtain ⟨c4, i4, k4⟩ := u_known hw in_X5 (hw _ wi_X5)
  obtain ⟨c5, i5, k5⟩ := u_known hw in_X6 (hw _ wi_X6)
  obtain ⟨c6, i6, k6⟩ := u_known hw in_X7 (hw _ wi_X7)
  obtain ⟨c7, i7, k7⟩ := u_known hw in_X8 (hw _ wi_X8)
  obtain ⟨c8, i8, k8⟩ := u_known hw in_X9 (hw _ wi_X9)
  obtain ⟨c9, i9, k9⟩ := u_known hw in_X10 (hw _ wi_X10)
  obtain ⟨c10, i10, k10⟩ := u_known hw in_X11 (hw _ wi_X11)
  have hr : ∀ t : FieldType, (∀ C, t ≠ .object C) → (Cond.arrayClass t).before args s = true → ∃ cA, ArrOfT s cA t ∧ va_RA s cA t := fun t ho h => by
    obtain ⟨c, k, comp, h1, h2, h3⟩ := Cond.arrayClass_spec h
    refine ⟨c, fun N z => ⟨(fun q hq => by cases hq), k, h2, comp, h3⟩, ?_⟩
    cases t <;> first | exact h1 | exact absurd rfl (ho _)
  obtain ⟨aI, aI1⟩ := hr .int (fun C h => by cases h) (hts _ (by decide +kernel))
  obtain ⟨aJ, aJ1⟩ := hr .long (fun C h => by cases h) (hts _ (by decide +kernel))
  obtain ⟨aZ, aZ1⟩ := hr .boolean (fun C h => by cases h) (hts _ (by decide +kernel))
  obtain ⟨q1, q2, q3, q4, q5, q6, q7, q8⟩ := Cond.arrayOver_spec (hts (Cond.arrayOver (.object "UnevenTap$Times")) (by decide +kernel))
  obtain ⟨r1, r2, r3, r4, r5, r6, r7, r8⟩ := arrayOverA_spec (hts (Cond.arrayOver (.array .int)) (by decide +kernel))
  refine ⟨(fun c => match c with | 0 => c0 | 1 => c1 | 2 => c2 | 3 => c3 | 4 => c4 | 5 => c5 | 6 => c6 | 7 => c7 | 8 => c8 | 9 => c9 | _ => c10, fun c => match c with | 0 => i0 | 1 => i1 | 2 => i2 | 3 => i3 | 4 => i4 | 5 => i5 | 6 => i6 | 7 => i7 | 8 => i8 | 9 => i9 | _ => i10), (fun k => match k with | 0 => aI | 1 => aJ | 2 => aZ | 3 => q2 | _ => r2), fun T K V => ⟨fun k q hq => ?_, fun k q hq => ?_⟩⟩
  · rcases k with _|_|_|_|_|_|_|_|_|_|_|k
    · have h := Option.some.inj (show some (_, _, _) = some q from hq); rw [← h]; exact k0
    · have h := Option.some.inj (show some (_, _, _) = some q from hq); rw [← h]; exact k1
    · have h := Option.some.inj (show some (_, _, _) = some q from hq); rw [← h]; exact k2
    · have h := Option.some.inj (show some (_, _, _) = some q from hq); rw [← h]; exact k3
    · have h := Option.some.inj (show some (_, _, _) = some q from hq); rw [← h]; exact k4
    · have h := Option.some.inj (show some (_, _, _) = some q from hq); rw [← h]; exact k5
    · have h := Option.some.inj (show some (_, _, _) = some q from hq); rw [← h]; exact k6
    · have h := Option.some.inj (show some (_, _, _) = some q from hq); rw [← h]; exact k7
    · have h := Option.some.inj (show some (_, _, _) = some q from hq); rw [← h]; exact k8
    · have h := Option.some.inj (show some (_, _, _) = some q from hq); rw [← h]; exact k9
    · have h := Option.some.inj (show some (_, _, _) = some q from hq); rw [← h]; exact k10
    · exact absurd (show (none : Option vw_C) = some q from hq) (by simp)
  · rcases k with _|_|_|_|_|k
    · have h := Option.some.inj (show some (_, _) = some q from hq); rw [← h]; exact aI1
    · have h := Option.some.inj (show some (_, _) = some q from hq); rw [← h]; exact aJ1
    · have h := Option.some.inj (show some (_, _) = some q from hq); rw [← h]; exact aZ1
    · have h := Option.some.inj (show some (_, _) = some q from hq); rw [← h]
      exact ⟨fun N z => ⟨(fun q hq => by cases hq), q3, q6, q1, q7⟩, q3, q1, q6, q7, q4, q8⟩
    · have h := Option.some.inj (show some (_, _) = some q from hq); rw [← h]
      exact ⟨fun N z => ⟨(fun q hq => by cases hq), r3, r6, r1, r7⟩, r8⟩
    · exact absurd (show (none : Option (ClassId × FieldType)) = some q from hq) (by simp)
theorem I0_ge {a : Nat} (h : 123 ≤ a) : I0 a = fun _ => 0 := by
  have e0 : i0T.length = 123 := by decide +kernel
  have e : i0T.getD a [] = [] := by
    rw [List.getD_eq_getElem?_getD, List.getElem?_eq_none (show i0T.length ≤ a by rw [e0]; exact h)]
    rfl
  exact I0_of (by omega) e
def R_law : String := "UnevenTapLaw"
def lw_P (b : Addr) (xs : List Int32) (args : Array Value) (s : State) : Prop := args = #[.ref b] ∧ s.IntsAt b xs ∧ xs.length ≤ 2048 ∧ (Jvm.Cond.and given_1 narrow_1).before args s = true
def lw_Q (_ : Array Value) (s : State) (o : Outcome) (t : State) : Prop := o = .returned (some (.int 1)) ∧ Framed s o t [] 600000 7302250
def lw_Z (below : List Frame) (a : Array Value) (s : State) : State → Prop := fun t => ∃ o, t.status = .running ∧ Ended t below o ∧ lw_Q a s o t
/-- the law's own end, with 1 on the stack, nothing written that was there before, its room as the claim has it -/
theorem lw_ret {p : Program} {l : Launch} {e : Env} {s : State} {m : MethodId} {below : List Frame} {meth : Method} {c : Code} {b : Nat} (hx : p.tables.exec = Jvm.exec) (hb : c.code = code) (hr : meth.sig.returnType = ret) (hlocks : meth.locks = false) {pc : Nat} {H : Heap} {ls : Array Slot} (hdg : decode code pc = .ok (.ireturn, 1)) : W p l e room_1 s m #[Value.ref b] below meth c H [] 600000 7302250 (lw_Z below #[Value.ref b] s) (F0 m pc ls [.int 1]) := by
  intro T hT X
  obtain ⟨fs, hret, hrun, hended, hW, hframe⟩ := X.leave (v := some (.int 1)) (hlocks := hlocks) (fun h => by rw [hr] at h; cases h)
  have hmeth' : T.vm.method? m = some meth := X.method'
  refine ⟨T.setFrames fs, ?_, .returned (some (.int 1)), hrun, hended, rfl, ⟨_, rfl⟩, hW, hframe⟩
  jvm_step X.here [X.here.top, hx, hb, hdg, hmeth', hr, ret, narrow_b1]
  (try refine ⟨rfl, ?_⟩); (try refine ⟨rfl, ?_⟩)
  first | (intro acts; rw [hret _ acts rfl rfl rfl]) | rw [hret _ _ rfl rfl rfl]
  exact Steps.refl _
/-- what holds at the law's entry: the machine, the code, the tables' words (any of lw_tbl by 'hts w (by decide +kernel)'), the script of L ints xs at the cell b, what the Statement gives of the start (any of its parts by flat_of_before) -/
def lw_At (p : Program) (s : State) (m : MethodId) (meth : Method) (c : Code) (b L : Nat) (xs : Nat → Int32) : Prop :=
  p.tables.exec = Jvm.exec ∧ c.code = code ∧ meth.sig.returnType = ret ∧ c.maxLocals = 4 ∧ s.vm.findClass R_law = some m.cls ∧ (∀ w ∈ lw_tbl, w.before #[Value.ref b] s = true) ∧ va_X b L xs s s.heap ∧ b < s.heap.size ∧ meth.locks = false ∧ (Jvm.Cond.and given_1 narrow_1).before #[Value.ref b] s = true
set_option maxHeartbeats 4000000 in
theorem whole_start {p : Program} {e : Env} {s : State} {m : MethodId} {below : List Frame} {meth : Method} {c : Code} (l : Launch) (hflags : l.flags = flags0) {b L : Nat} {xs : Nat → Int32} (hL : L ≤ 2048) (C0 : lw_At p s m meth c b L xs) : W p l e room_1 s m #[Value.ref b] below meth c s.heap [] 0 0 (lw_Z below #[Value.ref b] s) (entryFrame m ([Value.ref b] : List Value).toArray 4) := by
  obtain ⟨hx, hcode, hret, hmL, hown, hts, hX, hbl, hlocks, hgv⟩ := C0
  have hs := flat_of_before _ hgv
  have hw : ∀ w ∈ WALL, w.before #[Value.ref b] s = true := fun w h => hts w (List.mem_filter.mp h).1
  have hA : ∀ a : Nat, a < s.heap.size → ¬ (fun q => s.heap.size ≤ q) a := fun a h => Nat.not_le.mpr h
  obtain ⟨T, K, V0, hst⟩ := stat_start hts hs (A := fun q => s.heap.size ≤ q) hA
  obtain ⟨D, cA, hK⟩ := K_start hts
  have hNW : ∀ w ∈ NW, w ∈ lw_tbl := by decide +kernel
  have hN : Nst s := fun w hw2 => by
    obtain ⟨a, i, x, hh, rfl⟩ := NW_form hw2
    exact va_Nw.of rfl (hts _ (hNW _ hw2))
  have hAO : AOs s := ⟨va_AO.of (hts _ (by decide +kernel)), va_AOA.of (hts _ (by decide +kernel))⟩
  obtain ⟨g, hg⟩ : ∃ g : GG, g = (D, cA, T, K, V0) := ⟨_, rfl⟩
  have hKg : va_K g.1 vwCl (tyW g) s := by rw [hg]; exact hK T K V0
  have hSg : Stat g (fun q => s.heap.size ≤ q) s s.heap := by rw [hg]; exact hst D cA
  have C : Cx p s m #[Value.ref b] meth c RL code 4 g (fun q => s.heap.size ≤ q) := ⟨hx, hcode, hmL, hown, hw, ⟨hKg, hSg, hN⟩, hlocks⟩
  have hA0 : ∀ q, s.heap.size ≤ q → (fun q => s.heap.size ≤ q) q := fun q h => h
  have hNI : NI 0 (fun _ _ => none) (fun _ _ => 0) (fun _ _ => 0) := ⟨fun k hk => absurd hk (Nat.not_lt_zero _), fun k _ => ⟨rfl, rfl, rfl⟩⟩
  have key : V p l e room_1 s m #[Value.ref b] below meth c (lw_Z below #[Value.ref b] s) 4 0 0 g (fun q => s.heap.size ≤ q) (fun _ => 0) 0 (fun _ _ => none) (fun _ _ => 0) (fun _ _ => 0) 0 [(0, .ref b)] [] := by
    have hz := hNI.2 0 (Nat.le_refl _)
    have hN0 := hNI.new
    refine nw_X10 C hA0 hNI (by decide +kernel) lc_L_7 (Nat.le_of_ble_eq_true rfl) (Nat.le_of_ble_eq_true rfl) dL_law_0 (fun ad1 _ => ?_)
    refine r_dup C rfl dL_law_3 ?_
    refine r_ck C hAO hA0 hN0 (c_X10_init (g := g)) fk_X10 rfl (by decide +kernel) li_L_9 (by omega) (fun _ i h1 h2 => absurd h1 (by omega)) hz ⟨rfl, rfl, (Nat.le_of_ble_eq_true rfl), (Nat.le_of_ble_eq_true rfl)⟩ (Nat.le_of_ble_eq_true rfl) (Nat.le_of_ble_eq_true rfl) (Nat.le_of_ble_eq_true rfl) dL_law_4 (fun ad2 R2 I2 J2 he2 hN2 hF2 => ?_)
    rw [← he2 0 (by omega)]
    refine r_astore_n C (lv1 := [(1, .ref (ad2 0)), (0, .ref b)]) rfl (by decide) rfl dL_law_7 ?_
    have hz2 := hN2.2 98 (Nat.le_refl _)
    have hN3 := hN2.new
    refine nw_X11 C hA0 hN2 (by decide +kernel) lc_L_10 (Nat.le_of_ble_eq_true rfl) (Nat.le_of_ble_eq_true rfl) dL_law_8 (fun ad3 he3 => ?_)
    rw [← he3 0 (by omega)]
    refine r_dup C rfl dL_law_11 ?_
    refine r_ck C hAO hA0 hN3 (c_X11_init (g := g)) fk_X11 rfl (by decide +kernel) li_L_12 (by omega) (fun _ i h1 h2 _ => (hF2.2 i (by omega)).1) hz2 ⟨rfl, rfl, (Nat.le_of_ble_eq_true rfl), (Nat.le_of_ble_eq_true rfl)⟩ (Nat.le_of_ble_eq_true rfl) (Nat.le_of_ble_eq_true rfl) (Nat.le_of_ble_eq_true rfl) dL_law_12 (fun ad4 R4 I4 J4 he4 hN4 hF4 => ?_)
    rw [← he4 0 (by omega), ← he4 98 (by omega)]
    refine r_astore_n C (lv1 := [(2, .ref (ad4 98)), (1, .ref (ad4 0)), (0, .ref b)]) rfl (by decide) rfl dL_law_15 ?_
    refine r_iconst C (v := 0) (by decide) dL_law_16 ?_
    refine r_istore_n C (lv1 := [(3, .int 0), (2, .ref (ad4 98)), (1, .ref (ad4 0)), (0, .ref b)]) rfl (by decide) rfl dL_law_17 ?_
    have hfin : ∀ i, i < 123 → R4 i = oR i ∧ I4 i = I0 i ∧ J4 i = fun _ => 0 := fun i hi => by
      by_cases h1 : i < 98
      · have h := hF4.1 i (by omega) (by omega)
        have h2 := hF2.2 i (by omega)
        exact ⟨h.1.trans h2.1, h.2.1.trans h2.2.1, h.2.2.trans h2.2.2⟩
      · exact hF4.2 i (by omega)
    have eR : R4 = oR := funext fun a => by
      by_cases ha : a < 123
      · exact (hfin a ha).1
      · rw [(hN4.2 a (by omega)).1, oR_ge (by omega)]
    have eI : I4 = I0 := funext fun a => by
      by_cases ha : a < 123
      · exact (hfin a ha).2.1
      · rw [(hN4.2 a (by omega)).2.1, I0_ge (by omega)]
    have eJ : J4 = fun _ _ => 0 := funext fun a => by
      by_cases ha : a < 123
      · exact (hfin a ha).2.2
      · rw [(hN4.2 a (by omega)).2.2]
    rw [eR, eI, eJ]
    refine r_wid (a := 600000) (b := 7302250) (Nat.le_of_ble_eq_true rfl) (Nat.le_of_ble_eq_true rfl) ⟨(Nat.le_of_ble_eq_true rfl), (Nat.le_of_ble_eq_true rfl)⟩ ?_
    refine r_pc (pc1 := 18) rfl ?_
    refine r_sub (lv1 := [(3, .int 0), (0, .ref b), (1, .ref (ad4 0)), (2, .ref (ad4 98))]) [0, 3, 2, 1] rfl ?_
    intro H locs ls hP hS hl hV
    have hAW : ∀ q, AW ad4 nO q → s.heap.size ≤ q := AW_A hV.2.2
    have C2 : Cx p s m #[Value.ref b] meth c RL code 4 g (AW ad4 nO) := ⟨C.1, C.2.1, C.2.2.1, C.2.2.2.1, C.2.2.2.2.1, ⟨hKg, hSg.narrow hAW, hN⟩, hlocks⟩
    have hbA : ¬ AW ad4 nO b := fun h => absurd (hAW b h) (Nat.not_le.mpr hbl)
    refine r_narrow (n := nO) (lb_loop C2 hX hbl hbA hL (fun I J i => ?_) (L + 1) 0 (Nat.zero_le _) (by omega) I0 (fun _ _ => 0) rel_0 0 rfl) H locs ls hP hS hl hV
    refine r_iconst C2 (v := 1) (by decide) dL_law_1406 ?_
    intro H9 locs9 ls9 hP9 hS9 hl9 hV9
    exact va_forget (fun q hq => hAW _ (hS9.2.2 q hq)) (lw_ret hx hcode hret hlocks (by decide +kernel))
  have hl := lv_entry ([.ref b]) (n := 4) (by show 1 ≤ 4; omega)
  rw [lg_entry_eq]
  exact key _ _ _ (fun k q h => by simp [WL] at h) va_S.rf hl ⟨⟨Nat.zero_le _, Nat.zero_le _⟩, fun i j hi => absurd hi (Nat.not_lt_zero _), fun k hk => absurd hk (Nat.not_lt_zero _)⟩
set_option maxHeartbeats 4000000 in
theorem lw_walk (l : Launch) (hflags : l.flags = flags0) (b : Addr) (xs : List Int32) : MetFree l x (headSpec (Jvm.Cond.code x code maxLocals ret :: tables_1) room_1) (lw_P b xs) (fun _ _ _ _ _ => True) lw_Q := by
  refine MetFree.of_bodyS (code := code) (maxLocals := maxLocals) (ret := ret) (by decide) ?_ ?_
  · intro args s m h hn
    obtain ⟨meth, c, h1, h2, h3, h4, h5, h6, -, -⟩ := Cond.code_spec hn (atoms_spec (ws := Jvm.Cond.code x code maxLocals ret :: tables_1) h _ List.mem_cons_self)
    exact ⟨meth, c, h1, h2, h3, h4, h5, h6⟩
  · intro p e s m args below meth c s₁ B hml0 hP _
    obtain ⟨rfl, hx, hbd, hgv⟩ := hP
    obtain ⟨scr, harrAt, hlist, hof, hsmall⟩ := hx
    obtain ⟨hcb, hkn, -, -⟩ := State.arrayAt?_spec harrAt
    have hown : s.vm.findClass R_law = some m.cls := findClass_of_methodNamed B.named
    have hts0 : ∀ c ∈ (Jvm.Cond.code x code maxLocals ret :: tables_1), c.before #[Value.ref b] s = true := atoms_spec (ws := Jvm.Cond.code x code maxLocals ret :: tables_1) B.pre
    have hts : ∀ w ∈ lw_tbl, w.before #[Value.ref b] s = true := k2_hts_sels lw_privs (fun w hw => hts0 w (List.mem_cons_of_mem _ hw)) lw_privs_ok
    have hml : c.maxLocals = 4 := B.maxLocals_eq (hts0 _ List.mem_cons_self)
    have X₀ : Stand p l e room_1 s m #[Value.ref b] below meth c s₁ [] 0 0 := Stand.of_body B
    have hh0 : s₁.heap = s.heap := by rw [B.state]; rfl
    have hsz : scr.slots.size = xs.length := by rw [← Array.length_toList, hlist, List.length_map]
    have hval : ∀ j : Nat, j < xs.length → scr.slots[j]? = some (.int (xs.getD j 0)) := fun j hj => by
      rw [← Array.getElem?_toList, hlist]
      simp [hj]
    have hbl : b < s.heap.size := (Array.getElem?_eq_some_iff.mp hcb).1
    have hX : va_X b xs.length (fun j => xs.getD j 0) s s.heap := ⟨scr, hcb, hof, hkn, hsz, hval⟩
    have K : W p l e room_1 s m #[Value.ref b] below meth c s₁.heap [] 0 0 (lw_Z below #[Value.ref b] s) (entryFrame m ([Value.ref b] : List Value).toArray 4) := by
      rw [hh0]
      exact whole_start l hflags hbd ⟨B.exec, B.bytes, B.returns, hml, hown, hts, hX, hbl, B.notSynchronized, hgv⟩
    obtain ⟨t, a1, o, b1, b2, b3⟩ := K s₁ rfl X₀
    exact ⟨t, o, a1, b1, b2, b3⟩
theorem lw_pre_spec {args : Array Value} {s : State} (h : (Jvm.Cond.and given_1 narrow_1).before args s = true) (hr : rest_1_c.before args s = true) : ∃ (b : Addr) (xs : List Int32), lw_P b xs args s := by
  have hs := flat_of_before _ h
  have hq := flat_of_before _ hr
  have hc : (Cond.count 1).before args s = true := hs _ (by decide +kernel)
  have harr : (Cond.arrayOf (.arg 0) .int).before args s = true := hs _ (by decide +kernel)
  have hle : (Cond.le (.length (.arg 0)) (.int 2048)).before args s = true := hs _ (by decide +kernel)
  have hlen : (Cond.isInt (.length (.arg 0))).before args s = true := hq _ (by decide +kernel)
  have hall : (Cond.all (.arg 0) (.isInt (.elem (.arg 0) (.index 0)))).before args s = true := hq _ (by decide +kernel)
  obtain ⟨b, xs, hb, hx⟩ := State.ints_of_pre rfl harr hlen hall
  have hsm : xs.length < 2 ^ 31 := hx.choose_spec.2.2.2
  have hev : (Term.length (.arg 0)).eval args s none [] s = some (.int xs.length.toInt32) := hx.length_eval hb
  have hv := Cond.le_ints hev (show (Term.int 2048).eval args s none [] s = some (.int 2048) from rfl)
  have hd : xs.length.toInt32 ≤ 2048 := by
    simpa [Cond.before, Cond.holds, hv] using hle
  have hN : xs.length ≤ 2048 := (Int32.ofNat_le_ofNat hsm (by decide)).mp (show Int32.ofNat xs.length ≤ Int32.ofNat 2048 from hd)
  exact ⟨b, xs, Cond.one_arg hc (show args[0]? = some (.ref b) from hb), hx, hN, h⟩
theorem lw_comes (l : Launch) (hflags : l.flags = flags0) : Comes l x (Jvm.Cond.code x code maxLocals ret :: tables_1) room_1 (fun tb e args s => Calls_1 tb e args s ∧ rest_1 tb e args s ∧ Pre_1 tb e args s)
    (fun _ _ args s o t => lw_Q args s o t) := by
  intro p e ha hc hk s m args below hf hfit hheap happ hpre
  obtain ⟨b, xs, hP⟩ := lw_pre_spec hpre.2.2 hpre.2.1
  obtain ⟨k, o, h1, h2, h3, hQ⟩ := lw_walk l hflags b xs p e ha hc hk s m args below hf ((Spec.applies_iff_loose hf).mp happ).1 hP trivial
  exact ⟨k, o, h1, h2, h3, hQ⟩
theorem lw_frame {s t : State} {o : Outcome} {args : Array Value} (h : Framed s o t [] 600000 7302250) :
    Framed s o t (fieldLocs frame_1_writes args s ++ arrayLocs frame_1_arrays args s ++ staticLocs frame_1_statics s) 600000 7302250 := h
theorem lw_limb (L : Cond) (hL : ∀ (args : Array Value) (s t : State), L.after args s (.returned (some (.int 1))) t = true) :
    ArmFor flags0 classFile x code maxLocals ret World_1 tables_1 room_1 Calls_1 rest_1 Pre_1
      (fun tb e a s o t => postC L tb e a s o t ∧ Framed s o t (fieldLocs frame_1_writes a s ++ arrayLocs frame_1_arrays a s ++ staticLocs frame_1_statics s) 600000 7302250) := by
  intro l hflags _ _ p e ha hc hk s m args below hf hfit hheap happ hpre
  obtain ⟨k, o, h1, h2, h3, rfl, hF⟩ := lw_comes l hflags p e ha hc hk s m args below hf hfit hheap happ hpre
  exact ⟨k, _, h1, h2, h3, hL args s _, lw_frame hF⟩
theorem i_vc : Claimed_1_1 ∧ Claimed_1_2 := ⟨lw_limb limb_1_1 (fun args s t => by simp [limb_1_1, Cond.after, Cond.holds, Cond.value]), lw_limb limb_1_2 (fun args s t => Cond.after_iff.mpr (by
  first | (rw [show limb_1_2 = Cond.eq .result (.int 1) from rfl, Cond.eq_ints (x := 1) (y := 1) rfl rfl]; simp; done) | (simp [limb_1_2, Cond.value, Term.eval]; done)))⟩

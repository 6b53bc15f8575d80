def i0T : List (List Int32) := [[], [0, 0, 0, 0, 0, 0, 0, 10, 0, 1], [], [], [], [], [10006], [10001, 4, 20047], [10000, 100, 20062], [10000, 5, 20047, 10001, 20043], [1, 3, 3, 5], [], [], [], [], [], [], [], [], [], [], [], [], [], [], [], [], [0, 0, 0, 0, 0, 0, 0, 10, 0, 1], [], [], [], [], [10006], [10001, 4, 20047], [10000, 100, 20062], [10000, 5, 20047, 10001, 20043], [1, 3, 3, 5], [], [], [], [], [], [], [], [], [], [], [], [], [], [], [], [], [0, 0, 0, 0, 0, 0, 0, 10, 0, 1], [], [], [0, 0, 0, 0, 0, 0, 0, 10, 0, 1], [], [], [], [], [], [10006], [10001, 4, 20047], [10000, 100, 20062], [10000, 5, 20047, 10001, 20043], [1, 3, 3, 5], [], [], [], [], [], [], [], [], [], [], [], [], [], [], [], [], [], [], [-1, -1, -1, -1], [], [], [], [], [], [], [], [3, 3, 3, 3], [], [], [0, 0, 0, -1], [], [], [], [], [], [], [10006, 10001, 4, 10014, 10000, 100, 10018, 10000, 5, 10014, 10001, 10011], [0, 1, 4, 7], [1, 4, 7, 12], [], [], [], [], [], [], [], [], [], [], [-1, -1, -1, -1], [], [], [3, 3, 3, 3], [], [], []]
def I0 : HI := fun k j => if k = 99 then (if j = 6 then 10 else if j = 8 then 1 else if j < 438 then 0 else if j < 446 then ([0, 1, 1, 4, 4, 7, 7, 12] : List Int32).getD (j - 438) 0 else ([10006, 10001, 4, 10014, 10000, 100, 10018, 10000, 5, 10014, 10001, 10011] : List Int32).getD (j - 446) 0) else (i0T.getD k []).getD j 0
def putR (R : HR) (k j : Nat) (v : Option Nat) : HR := va_up R k (va_up (R k) j v)
theorem putR_ne {R : HR} {k j : Nat} {v : Option Nat} (a : Nat) (h : a ≠ k) : putR R k j v a = R a := va_up_ne _ _ h
theorem putR_eq {R : HR} {k j : Nat} {v : Option Nat} : putR R k j v k = va_up (R k) j v := va_up_self _ _ _
/-- the first n are made: they name one another only; the others are plain -/
def NI (n : Nat) (R : HR) (I : HI) (J : HJ) : Prop := (∀ k, k < n → ∀ j q, R k j = some q → q < n) ∧ ∀ k, n ≤ k → R k = (fun _ => none) ∧ I k = (fun _ => 0) ∧ J k = (fun _ => 0)
theorem NI.new {n : Nat} {R : HR} {I : HI} {J : HJ} (h : NI n R I J) : NI (n + 1) R I J := ⟨fun k hk j q hq => by
  by_cases e : k = n
  · subst e
    rw [(h.2 k (Nat.le_refl _)).1] at hq
    cases hq
  · have := h.1 k (by omega) j q hq
    omega, fun k hk => h.2 k (by omega)⟩
theorem NI.putR {n k j q : Nat} {R : HR} {I : HI} {J : HJ} (h : NI n R I J) (hk : k < n) (hq : q < n) : NI n (putR R k j (some q)) I J := ⟨fun a ha b x hx => by
  by_cases e : a = k
  · subst e
    rw [putR_eq] at hx
    unfold va_up at hx
    by_cases e2 : b = j
    · rw [if_pos e2] at hx; cases hx; exact hq
    · rw [if_neg e2] at hx; exact h.1 a ha b x hx
  · rw [putR_ne _ e] at hx; exact h.1 a ha b x hx, fun a ha => by rw [putR_ne _ (by omega)]; exact h.2 a ha⟩
theorem NI.put {n k j : Nat} {v : Int32} {R : HR} {I : HI} {J : HJ} (h : NI n R I J) (hk : k < n) : NI n R (put I k j v) J := ⟨h.1, fun a ha => by rw [put_ne _ (by omega)]; exact h.2 a ha⟩
theorem NI.rows {n N : Nat} {R : HR} {I : HI} {J : HJ} (h : NI n R I J) : NI (n + 1 + N) (va_up R n (fun i => if i < N then some (n + 1 + i) else none)) I J := by
  refine ⟨?_, ?_⟩
  · intro k hk j q hq
    by_cases e : k = n
    · subst e
      rw [va_up_self] at hq
      by_cases e2 : j < N
      · rw [if_pos e2] at hq
        have := Option.some.inj hq
        omega
      · rw [if_neg e2] at hq
        cases hq
    · rw [va_up_ne _ _ e] at hq
      by_cases e3 : k < n
      · have := h.1 k e3 j q hq
        omega
      · rw [(h.2 k (by omega)).1] at hq
        cases hq
  · intro k hk
    rw [va_up_ne _ _ (by omega)]
    exact h.2 k (by omega)
theorem re_ad {ad ad1 : Nat → Nat} {r : Option Nat} (h : ∀ q, r = some q → ad1 q = ad q) : va_re ad1 r = va_re ad r := by
  cases r with
  | none => rfl
  | some q => show Value.ref (ad1 q) = Value.ref (ad q); rw [h q rfl]
theorem ct_ad {g : GG} {ad ad1 : Nat → Nat} {k : Nat} {r : Nat → Option Nat} {i : Nat → Int32} {j : Nat → Int64} (h : ∀ b q, r b = some q → ad1 q = ad q) : ct g ad1 k r i j = ct g ad k r i j := by
  have e : ∀ b, va_re ad1 (r b) = va_re ad (r b) := fun b => re_ad (h b)
  have e2 : (fun q => (r q).map ad1) = fun q => (r q).map ad := funext fun b => by
    cases hb : r b with
    | none => rfl
    | some q => show some (ad1 q) = some (ad q); rw [h b q hb]
  unfold ct
  simp only [e, e2]
theorem D_WL {g : GG} {ad : Nat → Nat} {n : Nat} {R : HR} {I : HI} {J : HJ} {A : Nat → Prop} (h : va_D A (WL g ad n R I J)) : adOk ad n ∧ ∀ k, k < n → A (ad k) := ⟨fun i j hi hj e => h.1 i j _ _ (WL_get hi) (WL_get hj) e, fun k hk => h.2 k _ (WL_get hk)⟩
theorem WL_push {g : GG} {ad : Nat → Nat} {n q : Nat} {R : HR} {I : HI} {J : HJ} {e : va_E} (h : NI n R I J) (he : ct g ad n (fun _ => none) (fun _ => 0) (fun _ => 0) = e) : WL g ad n R I J ++ [(q, e)] = WL g (va_up ad n q) (n + 1) R I J := by
  unfold WL
  rw [List.range_succ, List.map_append, List.map_cons, List.map_nil, va_up_self, (h.2 n (Nat.le_refl _)).1, (h.2 n (Nat.le_refl _)).2.1, (h.2 n (Nat.le_refl _)).2.2]
  congr 1
  · apply List.map_congr_left
    intro k hk
    have hk := List.mem_range.mp hk
    rw [va_up_ne _ _ (by omega), ct_ad (ad := ad) (ad1 := va_up ad n q) (fun b x hx => va_up_ne _ _ (by have := h.1 k hk b x hx; omega))]
  · rw [ct_ad (ad := ad) (fun b x hx => by cases hx), he]
theorem WL_setR {g : GG} {ad : Nat → Nat} {n : Nat} {R R1 : HR} {I : HI} {J : HJ} {k : Nat} {e : va_E} (h : k < n) (he : ct g ad k (R1 k) (I k) (J k) = e) (hR : ∀ a, a ≠ k → R1 a = R a) : (WL g ad n R I J).set k (ad k, e) = WL g ad n R1 I J := by
  apply List.ext_getElem?
  intro j
  have hl : k < (WL g ad n R I J).length := by simpa [WL] using h
  by_cases hj : j = k
  · subst hj
    rw [List.getElem?_set_self hl, WL_get h, he]
  · rw [List.getElem?_set_ne (Ne.symm hj)]
    by_cases hn : j < n
    · rw [WL_get hn, WL_get hn, hR j hj]
    · rw [List.getElem?_eq_none (by simpa [WL] using Nat.not_lt.mp hn), List.getElem?_eq_none (by simpa [WL] using Nat.not_lt.mp hn)]
theorem str_ai : (FieldType.array FieldType.int).toString = "[" ++ FieldType.int.toString := rfl
def AZ (ad : Nat → Nat) (n sz : Nat) : Nat → Prop := fun q => AW ad n q ∨ sz ≤ q
/-- behind a constructor: k and the cells from n on are as they stay -/
def FIN (n k n1 : Nat) (R : HR) (I : HI) (J : HJ) (R1 : HR) (I1 : HI) (J1 : HJ) : Prop := (∀ i, i < n → i ≠ k → R1 i = R i ∧ I1 i = I i ∧ J1 i = J i) ∧ ∀ i, (i = k ∨ (n ≤ i ∧ i < n1)) → R1 i = oR i ∧ I1 i = I0 i ∧ J1 i = fun _ => 0
def AOs (U : State) : Prop := va_AO "UnevenTap$Times" U ∧ va_AOA .int U
theorem AOs.moved {u U : State} (hvm : u.vm.Alike U.vm) (h : AOs u) : AOs U := ⟨va_AO.moved hvm h.1, va_AOA.moved hvm h.2⟩
theorem AOs.blind {U : State} {fr : JFrame} {mk : MethodId} {a : Array Value} (h : AOs U) : AOs (U.calling fr mk a) := AOs.moved (Vm.Alike.refl _) h
abbrev KS : Type := (Nat → Nat) × HR × HI × HJ
def CK (l : Launch) (y : MethodName) (cc : ByteArray) (nL : Nat) (rm : Room) (mc ms : Nat) (g : GG) (n k n1 : Nat) (fl : Bool) : Prop := ∀ (ad : Nat → Nat) (R : HR) (I : HI) (J : HJ) (sz : Nat), NI n R I J → k < n → (fl = true → ∀ i, i < n → i ≠ k → (n = 99 ∨ (oK i ≠ 9 ∧ oK i ≠ 7)) → R i = oR i) → R k = (fun _ => none) → I k = (fun _ => 0) → J k = (fun _ => 0) →
  Met l y (.code y cc nL none :: WALL) rm (va_Pc [.ref (ad k)] (fun U => U.heap.size = sz ∧ WD g ad n R I J U ∧ AOs U)) (va_Qv (fun (u : KS) => (∀ i, i < n → u.1 i = ad i) ∧ (∀ i, i < n1 → AZ ad n sz (u.1 i)) ∧ NI n1 u.2.1 u.2.2.1 u.2.2.2 ∧ FIN n k n1 R I J u.2.1 u.2.2.1 u.2.2.2) (fun u t => WD g u.1 n1 u.2.1 u.2.2.1 u.2.2.2 t) (AZ ad n sz)) mc ms (AZ ad n sz)
theorem Z_wide {C n d : String} {v : Value} {A : Nat → Prop} {U : State} {H : Heap} (h : va_Z C n d v A U H) : va_Z C n d v (fun q => A q ∨ H.size ≤ q) U H := by
  obtain ⟨cf, kf, fi, f, a, cell, h1, h2, h3, h4, h5, h6, h7, h8⟩ := h
  exact ⟨cf, kf, fi, f, a, cell, h1, h2, h3, h4, h5, h6, h7, fun q => q.elim h8 (fun q => by have := (Array.getElem?_eq_some_iff.mp h5).1; omega)⟩
theorem T_wide {ty : FieldType} {t N : Nat} {f : Nat → Value} {A : Nat → Prop} {U : State} {H : Heap} (h : va_T ty t N f A U H) : va_T ty t N f (fun q => A q ∨ H.size ≤ q) U H := by
  obtain ⟨cell, h1, h2, h3, h4, h5, h6, h7⟩ := h
  exact ⟨cell, h1, h2, h3, h4, h5, h6, fun q => q.elim h7 (fun q => by have := (Array.getElem?_eq_some_iff.mp h1).1; omega)⟩
theorem O_wide {E : String} {t : Nat} {A : Nat → Prop} {U : State} {H : Heap} (h : va_O E t A U H) : va_O E t (fun q => A q ∨ H.size ≤ q) U H := by
  obtain ⟨cell, h1, h2, h3, h4⟩ := h
  exact ⟨cell, h1, h2, h3, fun q => q.elim h4 (fun q => by have := (Array.getElem?_eq_some_iff.mp h1).1; omega)⟩
theorem OF_wide {o n d : String} {v : Value} {t : Nat} {A : Nat → Prop} {U : State} {H : Heap} (h : va_OF o n d v t A U H) : va_OF o n d v t (fun q => A q ∨ H.size ≤ q) U H := by
  obtain ⟨cf, k, i, f, cell, h1, h2, h3, h4, h5, h6⟩ := h
  exact ⟨cf, k, i, f, cell, h1, h2, h3, h4, h5, fun q => q.elim h6 (fun q => by have := (Array.getElem?_eq_some_iff.mp h3).1; omega)⟩
theorem Stat_wide {g : GG} {A : Nat → Prop} {U : State} {H : Heap} (h : Stat g A U H) : Stat g (fun q => A q ∨ H.size ≤ q) U H :=
  ⟨fun t ht => ⟨Z_wide (h.1 t ht).1, T_wide (h.1 t ht).2⟩, ⟨fun i hi => ⟨O_wide (h.2.1.1 i hi).1, OF_wide (h.2.1.1 i hi).2.1, OF_wide (h.2.1.1 i hi).2.2.1, T_wide (h.2.1.1 i hi).2.2.2⟩, h.2.1.2⟩, h.2.2.1, Z_wide h.2.2.2.1, h.2.2.2.2.elim (fun z => Or.inl (Z_wide z)) (fun ⟨t, z⟩ => Or.inr ⟨t, Z_wide z⟩)⟩
theorem w_oiI : Cond.instanceMethod objectInit ∈ WALL := List.mem_filter.mpr ⟨by decide +kernel, by decide +kernel⟩
theorem w_oiC : Cond.code objectInit ⟨#[0xb1]⟩ 1 none ∈ WALL := List.mem_filter.mpr ⟨by decide +kernel, by decide +kernel⟩
theorem w_acI : Cond.arrayClass .int ∈ WALL := List.mem_filter.mpr ⟨by decide +kernel, by decide +kernel⟩
theorem w_acJ : Cond.arrayClass .long ∈ WALL := List.mem_filter.mpr ⟨by decide +kernel, by decide +kernel⟩
theorem w_acZ : Cond.arrayClass .boolean ∈ WALL := List.mem_filter.mpr ⟨by decide +kernel, by decide +kernel⟩
section CTOR
variable {p : Program} {l : Launch} {e : Env} {Rm : Room} {s : State} {m : MethodId} {args : Array Value} {below : List Frame} {meth : Method} {c : Code} {Q : State → Prop}
variable {own : String} {cc : ByteArray} {nL : Nat} {g : GG} {ad : Nat → Nat} {n : Nat} {R : HR} {I : HI} {J : HJ} {pc : Nat} {lv : List (Nat × Value)} {st : List Value} {A : Nat → Prop} {nc ns : Nat}
theorem r_objInit (C : Cx p s m args meth c own cc nL g A) {ix a : Nat} (hlk : Cond.methodLink own ix objectInit ∈ WALL) (hfr : 1 ≤ Rm.frames) (hlo : (st.map fun v => v.category).sum + 12 ≤ Rm.locals) (hdg : decode cc pc = .ok (.invokespecial ix, 3)) (kk : V p l e Rm s m args below meth c Q nL nc ns g A ad n R I J (pc + 3) lv st) : V p l e Rm s m args below meth c Q nL nc ns g A ad n R I J pc lv (.ref a :: st) := fun H locs ls hP hS hl hV =>
  W.objInit C.1 C.2.1 C.2.2.2.1 (C.2.2.2.2.1 _ hlk) (C.2.2.2.2.1 _ w_oiI) (C.2.2.2.2.1 _ w_oiC) rfl (by rw [C.2.2.1]; exact hl.1) rfl hdg hfr (by show 2 * 0 + _ + 12 ≤ _; omega) (kk H locs ls hP hS hl hV)
theorem r_wid {a b : Nat} (h1 : nc ≤ a) (h2 : ns ≤ b) (h3 : a ≤ Rm.cells ∧ b ≤ Rm.slots) (kk : V p l e Rm s m args below meth c Q nL a b g A ad n R I J pc lv st) : V p l e Rm s m args below meth c Q nL nc ns g A ad n R I J pc lv st := fun H locs ls hP hS hl hV => W.widen h1 h2 (kk H locs ls hP hS hl ⟨h3, hV.2⟩)
theorem r_new (C : Cx p s m args meth c own cc nL g A) (hA0 : ∀ q, s.heap.size ≤ q → A q) (hNI : NI n R I J) {Cn : String} {T : u_T} {ty : Nat → FieldType} {N kd ix : Nat} {fs : List Value} (hct : ct g ad n (fun _ => none) (fun _ => 0) (fun _ => 0) = .inr (kd, fs)) (hc : vwCl[kd]? = some (Cn, T, N)) (hws : ∀ w ∈ u_ws Cn T N, w ∈ WALL) (hty : ∀ k, k < N → parseFieldDescriptor (T k).2.2.1 = some (ty k)) (hlk : Cond.classLink own ix Cn ∈ WALL) (hin : Cond.instantiable Cn N ∈ WALL) (hini : Cond.initialized Cn ∈ WALL) (hfs : ∀ j, j < N → defaultValue (ty j) = vp_V fs j) (h1 : nc + 1 ≤ Rm.cells) (h2 : ns + N ≤ Rm.slots) (hdg : decode cc pc = .ok (.new ix, 3)) (kk : ∀ ad1 : Nat → Nat, (∀ k, k < n → ad1 k = ad k) → V p l e Rm s m args below meth c Q nL (nc + 1) (ns + N) g A ad1 (n + 1) R I J (pc + 3) lv (.ref (ad1 n) :: st)) : V p l e Rm s m args below meth c Q nL nc ns g A ad n R I J pc lv st := fun H locs ls hP hS hl hV => by
  refine va_new C.1 C.2.1 C.2.2.2.2.1 hws ty hty C.2.2.2.1 (C.2.2.2.2.1 _ hlk) (C.2.2.2.2.1 _ hin) (C.2.2.2.2.1 _ hini) C.2.2.2.2.2.1.1 hP (WL_DA hV.2) hS hA0 hc hfs h1 h2 hdg (fun q H1 hP1 hD1 hS1 => ?_)
  rw [WL_push hNI hct] at hP1 hD1
  have hk := kk (va_up ad n q) (fun k hk => va_up_ne _ _ (by omega))
  rw [va_up_self] at hk
  exact hk H1 locs ls hP1 hS1 hl ⟨⟨h1, h2⟩, D_WL hD1⟩
theorem r_newi (C : Cx p s m args meth c own cc nL g A) (hA0 : ∀ q, s.heap.size ≤ q → A q) (hNI : NI n R I J) {N : Nat} {v : Int32} (hk : oK n = 11) (hL : oL n = N) (hv : ¬ v < 0) (hN : v.toNatClampNeg = N) (hby : N * componentBytes .int ≤ 536870912) (h1 : nc + 1 ≤ Rm.cells) (h2 : ns + N ≤ Rm.slots) (hdg : decode cc pc = .ok (.newarray .int, 2)) (kk : ∀ ad1 : Nat → Nat, (∀ k, k < n → ad1 k = ad k) → V p l e Rm s m args below meth c Q nL (nc + 1) (ns + N) g A ad1 (n + 1) R I J (pc + 2) lv (.ref (ad1 n) :: st)) : V p l e Rm s m args below meth c Q nL nc ns g A ad n R I J pc lv (.int v :: st) := fun H locs ls hP hS hl hV => by
  have hK := C.2.2.2.2.2.1.1
  refine va_newa (atype := .int) (ty := .int) (a0 := (N, .inl (fun _ => 0))) C.1 C.2.1 (C.2.2.2.2.1 _ w_acI) rfl hK hP (WL_DA hV.2) hS hA0 (fun _ => rfl) hv hN hby h1 h2 hdg (fun q cA H1 hK1 hP1 hD1 hS1 => ?_)
  have e1 := va_nm_int (hK1.2 5 _ rfl).2
  have e2 := va_nm_int (hK.2 0 _ rfl).2
  have e3 : cA = g.2.1 0 := Option.some.inj (e1.symm.trans e2)
  rw [e3, WL_push hNI (by rw [ct_11 hk, hL])] at hP1 hD1
  have hk9 := kk (va_up ad n q) (fun k hk => va_up_ne _ _ (by omega))
  rw [va_up_self] at hk9
  exact hk9 H1 locs ls hP1 hS1 hl ⟨⟨h1, h2⟩, D_WL hD1⟩
theorem r_newj (C : Cx p s m args meth c own cc nL g A) (hA0 : ∀ q, s.heap.size ≤ q → A q) (hNI : NI n R I J) {N : Nat} {v : Int32} (hk : oK n = 12) (hL : oL n = N) (hv : ¬ v < 0) (hN : v.toNatClampNeg = N) (hby : N * componentBytes .long ≤ 536870912) (h1 : nc + 1 ≤ Rm.cells) (h2 : ns + N ≤ Rm.slots) (hdg : decode cc pc = .ok (.newarray .long, 2)) (kk : ∀ ad1 : Nat → Nat, (∀ k, k < n → ad1 k = ad k) → V p l e Rm s m args below meth c Q nL (nc + 1) (ns + N) g A ad1 (n + 1) R I J (pc + 2) lv (.ref (ad1 n) :: st)) : V p l e Rm s m args below meth c Q nL nc ns g A ad n R I J pc lv (.int v :: st) := fun H locs ls hP hS hl hV => by
  have hK := C.2.2.2.2.2.1.1
  refine va_newa (atype := .long) (ty := .long) (a0 := (N, .inr (.inl (fun _ => 0)))) C.1 C.2.1 (C.2.2.2.2.1 _ w_acJ) rfl hK hP (WL_DA hV.2) hS hA0 (fun _ => rfl) hv hN hby h1 h2 hdg (fun q cA H1 hK1 hP1 hD1 hS1 => ?_)
  have e1 := va_nm_long (hK1.2 5 _ rfl).2
  have e2 := va_nm_long (hK.2 1 _ rfl).2
  have e3 : cA = g.2.1 1 := Option.some.inj (e1.symm.trans e2)
  rw [e3, WL_push hNI (by rw [ct_12 hk, hL])] at hP1 hD1
  have hk9 := kk (va_up ad n q) (fun k hk => va_up_ne _ _ (by omega))
  rw [va_up_self] at hk9
  exact hk9 H1 locs ls hP1 hS1 hl ⟨⟨h1, h2⟩, D_WL hD1⟩
theorem r_newz (C : Cx p s m args meth c own cc nL g A) (hA0 : ∀ q, s.heap.size ≤ q → A q) (hNI : NI n R I J) {N : Nat} {v : Int32} (hk : oK n = 13) (hL : oL n = N) (hv : ¬ v < 0) (hN : v.toNatClampNeg = N) (hby : N * componentBytes .boolean ≤ 536870912) (h1 : nc + 1 ≤ Rm.cells) (h2 : ns + N ≤ Rm.slots) (hdg : decode cc pc = .ok (.newarray .boolean, 2)) (kk : ∀ ad1 : Nat → Nat, (∀ k, k < n → ad1 k = ad k) → V p l e Rm s m args below meth c Q nL (nc + 1) (ns + N) g A ad1 (n + 1) R I J (pc + 2) lv (.ref (ad1 n) :: st)) : V p l e Rm s m args below meth c Q nL nc ns g A ad n R I J pc lv (.int v :: st) := fun H locs ls hP hS hl hV => by
  have hK := C.2.2.2.2.2.1.1
  refine va_newa (atype := .boolean) (ty := .boolean) (a0 := (N, .inl (fun _ => 0))) C.1 C.2.1 (C.2.2.2.2.1 _ w_acZ) rfl hK hP (WL_DA hV.2) hS hA0 (fun _ => rfl) hv hN hby h1 h2 hdg (fun q cA H1 hK1 hP1 hD1 hS1 => ?_)
  have e1 := va_nm_boolean (hK1.2 5 _ rfl).2
  have e2 := va_nm_boolean (hK.2 2 _ rfl).2
  have e3 : cA = g.2.1 2 := Option.some.inj (e1.symm.trans e2)
  rw [e3, WL_push hNI (by rw [ct_13 hk, hL])] at hP1 hD1
  have hk9 := kk (va_up ad n q) (fun k hk => va_up_ne _ _ (by omega))
  rw [va_up_self] at hk9
  exact hk9 H1 locs ls hP1 hS1 hl ⟨⟨h1, h2⟩, D_WL hD1⟩
theorem r_newT (C : Cx p s m args meth c own cc nL g A) (hAO : AOs s) (hA0 : ∀ q, s.heap.size ≤ q → A q) (hNI : NI n R I J) {N ix : Nat} {v : Int32} (hk : oK n = 14) (hL : oL n = N) (hv : ¬ v < 0) (hN : v.toNatClampNeg = N) (hby : N * 4 ≤ 536870912) (hlk : Cond.classLink own ix "UnevenTap$Times" ∈ WALL) (h1 : nc + 1 ≤ Rm.cells) (h2 : ns + N ≤ Rm.slots) (hdg : decode cc pc = .ok (.anewarray ix, 3)) (kk : ∀ ad1 : Nat → Nat, (∀ k, k < n → ad1 k = ad k) → V p l e Rm s m args below meth c Q nL (nc + 1) (ns + N) g A ad1 (n + 1) R I J (pc + 3) lv (.ref (ad1 n) :: st)) : V p l e Rm s m args below meth c Q nL nc ns g A ad n R I J pc lv (.int v :: st) := fun H locs ls hP hS hl hV => by
  have hK := C.2.2.2.2.2.1.1
  refine va_newq C.1 C.2.1 C.2.2.2.1 (C.2.2.2.2.1 _ hlk) hAO.1 hK hP (WL_DA hV.2) hS hA0 hv hN hby h1 h2 hdg (fun q cA H1 hK1 hP1 hD1 hS1 => ?_)
  obtain ⟨_, _, _, _, _, e1⟩ := (hK1.2 5 _ rfl).2
  obtain ⟨_, _, _, _, _, e2⟩ := (hK.2 3 _ rfl).2
  have e3 : cA = g.2.1 3 := Option.some.inj (e1.symm.trans e2)
  rw [e3, WL_push hNI (by rw [ct_14 hk, hL]; rfl)] at hP1 hD1
  have hk9 := kk (va_up ad n q) (fun k hk => va_up_ne _ _ (by omega))
  rw [va_up_self] at hk9
  exact hk9 H1 locs ls hP1 hS1 hl ⟨⟨h1, h2⟩, D_WL hD1⟩
theorem r_mna (C : Cx p s m args meth c own cc nL g A) (hAO : AOs s) (hA0 : ∀ q, s.heap.size ≤ q → A q) (hNI : NI n R I J) {N M ix : Nat} {v w : Int32} (hk : oK n = 15) (hL : oL n = N) (hin : ∀ i, i < N → oK (n + 1 + i) = 11 ∧ oL (n + 1 + i) = M) (hv : ¬ v < 0) (hN : v.toNatClampNeg = N) (hw : ¬ w < 0) (hM : w.toNatClampNeg = M) (hb1 : N * 4 ≤ 536870912) (hb2 : M * componentBytes .int ≤ 536870912) (hb3 : M ≤ 536870912) (hlk : Cond.classLink own ix "[[I" ∈ WALL) (h1 : nc + (1 + N) ≤ Rm.cells) (h2 : ns + (N + N * M) ≤ Rm.slots) (hdg : decode cc pc = .ok (.multianewarray ix 2, 4)) (kk : ∀ ad1 : Nat → Nat, (∀ k, k < n → ad1 k = ad k) → V p l e Rm s m args below meth c Q nL (nc + 1 + N) (ns + N + N * M) g A ad1 (n + 1 + N) (va_up R n (fun i => if i < N then some (n + 1 + i) else none)) I J (pc + 4) lv (.ref (ad1 n) :: st)) : V p l e Rm s m args below meth c Q nL nc ns g A ad n R I J pc lv (.int w :: .int v :: st) := fun H locs ls hP hS hl hV => by
  have hK := C.2.2.2.2.2.1.1
  have hcy : s.vm.findClass (FieldType.array FieldType.int).toString = some (g.2.1 0) := by rw [str_ai]; exact (hK.2 0 _ rfl).2
  refine va_mna (X := WL g ad n R I J) (L := []) (f := fun _ => .inr (0, [])) (z := (M, .inl (fun _ => 0))) C.1 C.2.1 C.2.2.2.1 (C.2.2.2.2.1 _ hlk) hAO.2 (C.2.2.2.2.1 _ w_acI) hcy hK (by rw [show va_pl [] (fun _ => (.inr (0, []) : va_E)) = [] from rfl, List.append_nil]; exact hP) (by rw [show va_pl [] (fun _ => (.inr (0, []) : va_E)) = [] from rfl, List.append_nil]; exact WL_DA hV.2) hS hA0 hv hw hN hM hb1 hb2 hb3 rfl rfl h1 h2 (fun c => by rw [vp_cell_i, ← arrV_new]; rfl) hdg (fun q r cA H1 hr _ hK1 hP1 hD1 hS1 => ?_)
  have e1 : s.vm.findClass ("[" ++ (FieldType.array FieldType.int).toString) = some cA := (hK1.2 5 _ rfl).2
  have e2 : s.vm.findClass ("[" ++ (FieldType.array FieldType.int).toString) = some (g.2.1 4) := (hK.2 4 _ rfl).2
  have e3 : cA = g.2.1 4 := Option.some.inj (e1.symm.trans e2)
  subst e3
  have hk9 := kk (fun k => if k < n then ad k else if k = n then q else r (k - n - 1)) (fun k hk => if_pos hk)
  have hlen : (WL g ad n R I J).length = n := by simp [WL]
  have key : ∀ (k : Nat) (x : Nat × va_E), (WL g (fun k => if k < n then ad k else if k = n then q else r (k - n - 1)) (n + 1 + N) (va_up R n (fun i => if i < N then some (n + 1 + i) else none)) I J)[k]? = some x → ((WL g ad n R I J ++ [(q, .inl (g.2.1 4, N, .inr (.inr (.inr (.inr (fun i => if i < N then some (r i) else none))))))]) ++ va_pl ([] ++ (List.range N).map r) (vr_up (fun _ => .inr (0, [])) ((List.range N).map r) (.inl (g.2.1 0, (M, .inl (fun _ => 0))))))[k]? = some x := by
    intro k x hx
    have hkl : k < n + 1 + N := by
      have h9 := (List.getElem?_eq_some_iff.mp hx).1
      simpa [WL] using h9
    rw [WL_get hkl] at hx
    cases hx
    by_cases c1 : k < n
    · rw [List.getElem?_append_left (by rw [List.length_append, hlen]; simp; omega), List.getElem?_append_left (by rw [hlen]; exact c1), WL_get c1, if_pos c1, va_up_ne _ _ (by omega)]
      rw [ct_ad (ad := ad) (fun b x hx => if_pos (hNI.1 k c1 b x hx))]
    · by_cases c2 : k = n
      · subst c2
        rw [List.getElem?_append_left (by rw [List.length_append, hlen]; simp), List.getElem?_append_right (by rw [hlen]; exact Nat.le_refl _), hlen, Nat.sub_self]
        rw [if_neg (Nat.lt_irrefl _), if_pos rfl, va_up_self, ct_15 hk, hL]
        show some _ = some _
        congr 9
        funext i
        by_cases hi : i < N
        · rw [if_pos hi, if_pos hi]
          show some (r i) = some (if k + 1 + i < k then ad (k + 1 + i) else if k + 1 + i = k then q else r (k + 1 + i - k - 1))
          rw [if_neg (by omega), if_neg (by omega), show k + 1 + i - k - 1 = i by omega]
        · rw [if_neg hi, if_neg hi]; rfl
      · obtain ⟨i, rfl⟩ : ∃ i, k = n + 1 + i := ⟨k - n - 1, by omega⟩
        have hi : i < N := by omega
        rw [List.getElem?_append_right (by rw [List.length_append, hlen]; simp)]
        have e9 : n + 1 + i - (WL g ad n R I J ++ [(q, (.inl (g.2.1 4, N, .inr (.inr (.inr (.inr (fun i => if i < N then some (r i) else none))))) : va_E))]).length = i := by
          rw [List.length_append, hlen]; simp
        rw [e9]
        unfold va_pl
        rw [List.nil_append, List.getElem?_map, List.getElem?_map, List.getElem?_range hi]
        have hz := hNI.2 (n + 1 + i) (by omega)
        show some (r i, vr_up _ _ _ (r i)) = some _
        rw [vr_up_in (List.mem_map.mpr ⟨i, List.mem_range.mpr hi, rfl⟩), if_neg (by omega), if_neg (by omega), va_up_ne _ _ (by omega), hz.1, hz.2.1, hz.2.2, ct_11 (hin i hi).1, (hin i hi).2, show n + 1 + i - n - 1 = i by omega]
  have hP2 := hP1.by id key
  have hD2 := va_D.by hD1 id key (fun i j _ _ h => h)
  have hq9 : (if n < n then ad n else if n = n then q else r (n - n - 1)) = q := by rw [if_neg (Nat.lt_irrefl _), if_pos rfl]
  rw [hq9] at hk9
  exact hk9 H1 locs ls hP2 hS1 hl ⟨⟨by omega, by omega⟩, D_WL hD2⟩
theorem r_putFR (C : Cx p s m args meth c own cc nL g A) (hni : meth.name = "<init>") {Cn : String} {T : u_T} {ty0 : Nat → FieldType} {N kd ix k q : Nat} {fs : List Value} {ty : FieldType} (hk : k < n) (hct : ct g ad k (R k) (I k) (J k) = .inr (kd, fs)) (hc : vwCl[kd]? = some (Cn, T, N)) (hws : ∀ w ∈ u_ws Cn T N, w ∈ WALL) (hty : ∀ k, k < N → parseFieldDescriptor (T k).2.2.1 = some (ty0 k)) (hnm : ∀ a, a < N → ∀ b, b < N → a ≠ b → (T a).2.1 ≠ (T b).2.1) (j : Nat) (hj : j < N) (hTj : (T j).1 = Cn) (hown : (T j).1 = own) (hlk : Cond.fieldLink own ix Cn (T j).2.1 (T j).2.2.1 ∈ WALL) (hfin : (T j).2.2.2 = true) (hd : parseFieldDescriptor (T j).2.2.1 = some ty) (hn : narrow ty (.ref (ad q)) = .ref (ad q)) (hfit : fits ty (.ref (ad q)) = true) (hl9 : j < fs.length) (hct1 : ct g ad k (va_up (R k) j (some q)) (I k) (J k) = .inr (kd, fs.set j (.ref (ad q)))) (hdg : decode cc pc = .ok (.putfield ix, 3)) (kk : V p l e Rm s m args below meth c Q nL nc ns g A ad n (putR R k j (some q)) I J (pc + 3) lv st) : V p l e Rm s m args below meth c Q nL nc ns g A ad n R I J pc lv (.ref (ad q) :: .ref (ad k) :: st) := fun H locs ls hP hS hl hV =>
  va_putF (ref := Cn) C.1 C.2.1 C.2.2.2.2.1 hws ty0 hty hnm C.2.2.2.1 C.2.2.2.2.2.1.1 hP (WL_DA hV.2) hS k (by rw [WL_get hk, hct]) hc j hj (C.2.2.2.2.1 _ hlk) (fun x h => by rw [← hTj]; exact h) hfin hni hown hd hn hfit hl9 hdg (fun H1 locs1 hP1 _ hS1 => kk H1 locs1 ls (by rw [WL_setR hk (by rw [putR_eq]; exact hct1) putR_ne] at hP1; exact hP1) hS1 hl hV)
theorem r_aastT (C : Cx p s m args meth c own cc nL g A) {a q N : Nat} {i : Int32} (ha : OA n a 14 N) (hq : OB n q 8) (hin : vp_in i N) (hdg : decode cc pc = .ok (.aastore, 1)) (kk : V p l e Rm s m args below meth c Q nL nc ns g A ad n (putR R a i.toNatClampNeg (some q)) I J (pc + 1) lv st) : V p l e Rm s m args below meth c Q nL nc ns g A ad n R I J pc lv (.ref (ad q) :: .int i :: .ref (ad a) :: st) := fun H locs ls hP hS hl hV =>
  va_astq C.1 C.2.1 C.2.2.2.2.2.1.1 hP (WL_DA hV.2) hS a 3 q 8 (by rw [WL_get ha.2.1, ct_14 ha.1, ha.2.2]) rfl (by rw [WL_get hq.2, ct_8 hq.1]) rfl hin hdg (fun H1 locs1 hP1 _ hS1 => kk H1 locs1 ls (by
    rw [WL_setR (R1 := putR R a i.toNatClampNeg (some q)) ha.2.1 (by
      rw [ct_14 ha.1, ha.2.2, putR_eq]
      congr 7
      funext b
      unfold va_up
      by_cases hb : b = i.toNatClampNeg <;> simp [hb]) putR_ne] at hP1
    exact hP1) hS1 hl hV)
theorem r_ck (C : Cx p s m args meth c own cc nL g A) (hAO : AOs s) (hA0 : ∀ q, s.heap.size ≤ q → A q) (hNI : NI n R I J) {y : MethodName} {bytes : ByteArray} {maxL ix k n1 mc ms : Nat} {fl : Bool} {rm : Room} (hM : CK l y bytes maxL rm mc ms g n k n1 fl) (F : Cond.instanceMethod y ∈ WALL ∧ Cond.initialized y.cls ∈ WALL ∧ Cond.code y bytes maxL none ∈ WALL ∧ y.cls ≠ "java/lang/invoke/MethodHandle" ∧ y.cls ≠ "java/lang/invoke/VarHandle") (hy : y.name = "<init>") (hd : (parseMethodDescriptor y.desc).map (fun d => d.parameters.length) = some 0) (hlk : Cond.methodLink own ix y ∈ WALL) (hk : k < n) (hRF : fl = true → ∀ i, i < n → i ≠ k → (n = 99 ∨ (oK i ≠ 9 ∧ oK i ≠ 7)) → R i = oR i) (hz : R k = (fun _ => none) ∧ I k = (fun _ => 0) ∧ J k = (fun _ => 0)) (hR : rm.cells = mc ∧ rm.slots = ms ∧ rm.frames + 1 ≤ Rm.frames ∧ 8 + (maxL + 11) + rm.locals ≤ Rm.locals) (hw : (st.map fun v => v.category).sum ≤ 8) (h1 : nc + mc ≤ Rm.cells) (h2 : ns + ms ≤ Rm.slots) (hdg : decode cc pc = .ok (.invokespecial ix, 3)) (kk : ∀ (ad1 : Nat → Nat) (R1 : HR) (I1 : HI) (J1 : HJ), (∀ i, i < n → ad1 i = ad i) → NI n1 R1 I1 J1 → FIN n k n1 R I J R1 I1 J1 → V p l e Rm s m args below meth c Q nL (nc + mc) (ns + ms) g A ad1 n1 R1 I1 J1 (pc + 3) lv st) : V p l e Rm s m args below meth c Q nL nc ns g A ad n R I J pc lv (.ref (ad k) :: st) := fun H locs ls hP hS hl hV => by
  have hAZ : ∀ q, AZ ad n H.size q → A q := fun q h => h.elim (AW_A hV.2.2 q) (fun h => hA0 q (Nat.le_trans hS.1 h))
  refine va_callv (va_runI (As := []) (rest := st) (Ts := WALL) ⟨C.1, C.2.1, C.2.2.1, C.2.2.2.1, C.2.2.2.2.1⟩ (hM ad R I J H.size hNI hk hRF hz.1 hz.2.1 hz.2.2) (cwI 0 C.2.2.2.2.1 (wall_sub (fun w hw => by
    rcases List.mem_cons.mp hw with h | h
    · rw [h]; exact F.2.2.1
    · exact h)) rfl hR.1 hR.2.1 (C.2.2.2.2.1 _ F.2.1) (C.2.2.2.2.1 _ hlk) (C.2.2.2.2.1 _ F.1) hy ⟨F.2.2.2.1, F.2.2.2.2, hd⟩ ⟨hR.2.2.1, hR.2.2.2⟩) ⟨fun a U fr mk q => ⟨q.1, q.2.1, q.2.2.1.blind, q.2.2.2.blind⟩, fun U hU hW => ⟨rfl, by rw [hU], ⟨by rw [hU]; exact hP, by rw [hU]; exact WS_of C hV.2 hS hW⟩, hAO.moved hW.alike⟩⟩ rfl rfl hl.1 rfl (lv_room hw) hdg ⟨h1, h2⟩) hS (fun q _ h => hAZ q h) hAZ (fun u t H1 locs1 ht hvm hw9 hB hz1 hk1 hS1 => ?_)
  obtain ⟨u1, u2, u3, u4⟩ := u
  obtain ⟨g1, g2, g3, g4⟩ := hw9
  exact kk u1 u2 u3 u4 g1 g3 g4 H1 locs1 ls (by rw [← ht]; exact hB.1) hS1 hl ⟨⟨h1, h2⟩, hB.2.1, fun i hi => hAZ _ (g2 i hi)⟩
theorem r_ckN (C : Cx p s m args meth c own cc nL g A) (hAO : AOs s) (hA0 : ∀ q, s.heap.size ≤ q → A q) (hNI : NI n R I J) {y : MethodName} {bytes : ByteArray} {maxL ix k n1 mc ms : Nat} {fl : Bool} {rm : Room} (hM : CK l y bytes maxL rm mc ms g n k n1 fl) (F : Cond.instanceMethod y ∈ WALL ∧ Cond.initialized y.cls ∈ WALL ∧ Cond.code y bytes maxL none ∈ WALL ∧ y.cls ≠ "java/lang/invoke/MethodHandle" ∧ y.cls ≠ "java/lang/invoke/VarHandle") (hy : y.name = "<init>") (hd : (parseMethodDescriptor y.desc).map (fun d => d.parameters.length) = some 0) (hlk : Cond.methodLinkNest own ix y "UnevenTap" ∈ NW) (hk : k < n) (hRF : fl = true → ∀ i, i < n → i ≠ k → (n = 99 ∨ (oK i ≠ 9 ∧ oK i ≠ 7)) → R i = oR i) (hz : R k = (fun _ => none) ∧ I k = (fun _ => 0) ∧ J k = (fun _ => 0)) (hR : rm.cells = mc ∧ rm.slots = ms ∧ rm.frames + 1 ≤ Rm.frames ∧ 8 + (maxL + 11) + rm.locals ≤ Rm.locals) (hw : (st.map fun v => v.category).sum ≤ 8) (h1 : nc + mc ≤ Rm.cells) (h2 : ns + ms ≤ Rm.slots) (hdg : decode cc pc = .ok (.invokespecial ix, 3)) (kk : ∀ (ad1 : Nat → Nat) (R1 : HR) (I1 : HI) (J1 : HJ), (∀ i, i < n → ad1 i = ad i) → NI n1 R1 I1 J1 → FIN n k n1 R I J R1 I1 J1 → V p l e Rm s m args below meth c Q nL (nc + mc) (ns + ms) g A ad1 n1 R1 I1 J1 (pc + 3) lv st) : V p l e Rm s m args below meth c Q nL nc ns g A ad n R I J pc lv (.ref (ad k) :: st) := fun H locs ls hP hS hl hV => by
  have hAZ : ∀ q, AZ ad n H.size q → A q := fun q h => h.elim (AW_A hV.2.2 q) (fun h => hA0 q (Nat.le_trans hS.1 h))
  refine va_callv (va_runIN (As := []) (rest := st) (Ts := WALL) ⟨C.1, C.2.1, C.2.2.1, C.2.2.2.1, C.2.2.2.2.1⟩ (hM ad R I J H.size hNI hk hRF hz.1 hz.2.1 hz.2.2) ⟨va_cnB 0 C.2.2.2.2.1 (wall_sub (fun w hw => by
    rcases List.mem_cons.mp hw with h | h
    · rw [h]; exact F.2.2.1
    · exact h)) rfl hR.1 hR.2.1 (C.2.2.2.2.2.1.2.2 _ hlk) (C.2.2.2.2.1 _ F.2.1) ⟨F.2.2.2.1, F.2.2.2.2, hd⟩ ⟨hR.2.2.1, hR.2.2.2⟩, hy, C.2.2.2.2.1 _ F.1⟩ ⟨fun a U fr mk q => ⟨q.1, q.2.1, q.2.2.1.blind, q.2.2.2.blind⟩, fun U hU hW => ⟨rfl, by rw [hU], ⟨by rw [hU]; exact hP, by rw [hU]; exact WS_of C hV.2 hS hW⟩, hAO.moved hW.alike⟩⟩ rfl rfl hl.1 rfl (lv_room hw) hdg ⟨h1, h2⟩) hS (fun q _ h => hAZ q h) hAZ (fun u t H1 locs1 ht hvm hw9 hB hz1 hk1 hS1 => ?_)
  obtain ⟨u1, u2, u3, u4⟩ := u
  obtain ⟨g1, g2, g3, g4⟩ := hw9
  exact kk u1 u2 u3 u4 g1 g3 g4 H1 locs1 ls (by rw [← ht]; exact hB.1) hS1 hl ⟨⟨h1, h2⟩, hB.2.1, fun i hi => hAZ _ (g2 i hi)⟩
theorem r_kret (C : Cx p s m args meth c own cc nL g (AZ ad n s.heap.size)) {k n1 mc ms : Nat} {ad1 : Nat → Nat} {R1 : HR} {I1 : HI} {J1 : HJ} (hr : meth.sig.returnType = none) (h1 : ∀ i, i < n → ad1 i = ad i) (h2 : NI n1 R1 I1 J1) (h3 : FIN n k n1 R I J R1 I1 J1) (hdg : decode cc pc = .ok (.return_, 1)) : V p l e Rm s m args below meth c (MQ below (va_Qv (fun (u : KS) => (∀ i, i < n → u.1 i = ad i) ∧ (∀ i, i < n1 → AZ ad n s.heap.size (u.1 i)) ∧ NI n1 u.2.1 u.2.2.1 u.2.2.2 ∧ FIN n k n1 R I J u.2.1 u.2.2.1 u.2.2.2) (fun u t => WD g u.1 n1 u.2.1 u.2.2.1 u.2.2.2 t) (AZ ad n s.heap.size)) args s mc ms (AZ ad n s.heap.size)) nL mc ms g (AZ ad n s.heap.size) ad1 n1 R1 I1 J1 pc lv [] := fun H locs ls hP hS hl hV =>
  W.vret C.1 C.2.1 hr (fun t ht hW => ⟨⟨(ad1, R1, I1, J1), rfl, ⟨h1, fun i hi => hV.2.2 i hi, h2, h3⟩, by rw [ht]; exact hP, by rw [ht]; exact WS_of C hV.2 hS hW⟩, hS.F ht⟩) hS.2.2 hdg C.2.2.2.2.2.2
end CTOR
theorem CK_of {l : Launch} {y : MethodName} {cc : ByteArray} {nL : Nat} {rm : Room} {mc ms : Nat} {g : GG} {n k n1 : Nat} {fl : Bool} (hy : plainName y.cls = true) (hyn : y.name = "<init>") (hnL : 1 ≤ nL)
    (body : ∀ (p : Program) (e : Env) (s : State) (m : MethodId) (args : Array Value) (below : List Frame) (meth : Method) (c : Code) (ad : Nat → Nat) (R : HR) (I : HI) (J : HJ), meth.name = "<init>" → AOs s → Cx p s m args meth c y.cls cc nL g (AZ ad n s.heap.size) → meth.sig.returnType = none → NI n R I J → k < n → (fl = true → ∀ i, i < n → i ≠ k → (n = 99 ∨ (oK i ≠ 9 ∧ oK i ≠ 7)) → R i = oR i) → R k = (fun _ => none) → I k = (fun _ => 0) → J k = (fun _ => 0) → V p l e rm s m args below meth c (MQ below (va_Qv (fun (u : KS) => (∀ i, i < n → u.1 i = ad i) ∧ (∀ i, i < n1 → AZ ad n s.heap.size (u.1 i)) ∧ NI n1 u.2.1 u.2.2.1 u.2.2.2 ∧ FIN n k n1 R I J u.2.1 u.2.2.1 u.2.2.2) (fun u t => WD g u.1 n1 u.2.1 u.2.2.1 u.2.2.2 t) (AZ ad n s.heap.size)) args s mc ms (AZ ad n s.heap.size)) nL 0 0 g (AZ ad n s.heap.size) ad n R I J 0 [(0, .ref (ad k))] []) : CK l y cc nL rm mc ms g n k n1 fl := by
  intro ad R I J sz hNI hk hRF z1 z2 z3
  refine Met.ofW (cc := cc) (maxL := nL) (ret := none) hy rfl ?_
  intro p e s m args below meth c s₁ B hml hv
  obtain ⟨rfl, rfl, ⟨hP, hWS⟩, hAO⟩ := hv
  have hts := atoms_spec (ws := .code y cc nL none :: WALL) B.pre
  have C : Cx p s m #[Value.ref (ad k)] meth c y.cls cc nL g (AZ ad n s.heap.size) := ⟨B.exec, B.bytes, hml, findClass_of_methodNamed B.named, fun w hw => hts w (List.mem_cons_of_mem _ hw), ⟨hWS.2.1, Stat_wide hWS.2.2.1, hWS.2.2.2⟩, B.notSynchronized⟩
  have hni : meth.name = "<init>" := by rw [← hyn]; exact (name_of_methodNamed B.named B.method).1
  have k9 := body p e s m #[Value.ref (ad k)] below meth c ad R I J hni hAO C B.returns hNI hk hRF z1 z2 z3
  have hl := lv_entry ([.ref (ad k)]) (n := nL) hnL
  rw [lg_entry_eq]
  exact k9 _ _ _ hP va_S.rf hl ⟨⟨Nat.zero_le _, Nat.zero_le _⟩, hWS.1, fun i hi => Or.inl ⟨i, hi, rfl⟩⟩

/-- behind the start of a constructor: what is not open is as it was, or as it stays -/
def CS (O : Nat → Prop) (T : HI) (n n' : Nat) (R : HR) (I : HI) (J : HJ) (R1 : HR) (I1 : HI) (J1 : HJ) : Prop := NI n' R1 I1 J1 ∧ n ≤ n' ∧ (∀ i, i < n → ¬ O i → R1 i = R i ∧ I1 i = I i ∧ J1 i = J i) ∧ ∀ i, n ≤ i → i < n' → ¬ O i → R1 i = oR i ∧ I1 i = T i ∧ J1 i = fun _ => 0
def OP (k : Nat) (R1 : HR) (I1 : HI) (J1 : HJ) (rk : Nat → Option Nat) (ik : Nat → Int32) : Prop := R1 k = rk ∧ I1 k = ik ∧ J1 k = fun _ => 0
section CSS
variable {O : Nat → Prop} {T : HI} {n n' n2 k q j : Nat} {R R1 R2 : HR} {I I1 I2 : HI} {J J1 J2 : HJ} {rk : Nat → Option Nat} {ik : Nat → Int32} {v : Int32}
theorem CS.start (h : NI n R I J) : CS O T n n R I J R I J := ⟨h, Nat.le_refl _, fun _ _ _ => ⟨rfl, rfl, rfl⟩, fun i h1 h2 => absurd h2 (Nat.not_lt.mpr h1)⟩
theorem CS.call (h : CS O T n n' R I J R1 I1 J1) (hN : NI n2 R2 I2 J2) (hF : FIN (n' + 1) n' n2 R1 I1 J1 R2 I2 J2) (hn : n' + 1 ≤ n2) (hT : ∀ i, n' ≤ i → i < n2 → T i = I0 i) : CS O T n n2 R I J R2 I2 J2 := by
  refine ⟨hN, Nat.le_trans h.2.1 (by omega), fun i hi ho => ?_, fun i h1 h2 ho => ?_⟩
  · have e := hF.1 i (by have := h.2.1; omega) (by have := h.2.1; omega)
    have e2 := h.2.2.1 i hi ho
    exact ⟨e.1.trans e2.1, e.2.1.trans e2.2.1, e.2.2.trans e2.2.2⟩
  · by_cases hi : i < n'
    · have e := hF.1 i (by omega) (by omega)
      have e2 := h.2.2.2 i h1 hi ho
      exact ⟨e.1.trans e2.1, e.2.1.trans e2.2.1, e.2.2.trans e2.2.2⟩
    · have e := hF.2 i (by omega)
      rw [hT i (by omega) h2]
      exact e
theorem OP.call (h : OP k R1 I1 J1 rk ik) (hF : FIN (n' + 1) n' n2 R1 I1 J1 R2 I2 J2) (hk : k < n') : OP k R2 I2 J2 rk ik := by
  have e := hF.1 k (by omega) (by omega)
  exact ⟨e.1.trans h.1, e.2.1.trans h.2.1, e.2.2.trans h.2.2⟩
theorem CS.sR (h : CS O T n n' R I J R1 I1 J1) (hO : O k) (hk : k < n') (hq : q < n') : CS O T n n' R I J (putR R1 k j (some q)) I1 J1 := by
  refine ⟨h.1.putR hk hq, h.2.1, fun i hi ho => ?_, fun i h1 h2 ho => ?_⟩ <;> rw [putR_ne i (fun e => ho (e ▸ hO))]
  · exact h.2.2.1 i hi ho
  · exact h.2.2.2 i h1 h2 ho
theorem OP.sR (h : OP k R1 I1 J1 rk ik) : OP k (putR R1 k j (some q)) I1 J1 (va_up rk j (some q)) ik := ⟨by rw [putR_eq, h.1], h.2⟩
theorem OP.sRne {a : Nat} (h : OP k R1 I1 J1 rk ik) (ha : k ≠ a) : OP k (putR R1 a j (some q)) I1 J1 rk ik := ⟨by rw [putR_ne k ha]; exact h.1, h.2⟩
theorem CS.sI (h : CS O T n n' R I J R1 I1 J1) (hO : O k) (hk : k < n') : CS O T n n' R I J R1 (put I1 k j v) J1 := by
  refine ⟨h.1.put hk, h.2.1, fun i hi ho => ?_, fun i h1 h2 ho => ?_⟩ <;> rw [put_ne i (fun e => ho (e ▸ hO))]
  · exact h.2.2.1 i hi ho
  · exact h.2.2.2 i h1 h2 ho
theorem OP.sI (h : OP k R1 I1 J1 rk ik) : OP k R1 (put I1 k j v) J1 rk (upd ik j v) := ⟨h.1, by rw [put_eq, h.2.1], h.2.2⟩
theorem OP.sIne {a : Nat} (h : OP k R1 I1 J1 rk ik) (ha : k ≠ a) : OP k R1 (put I1 a j v) J1 rk ik := ⟨h.1, by rw [put_ne k ha]; exact h.2.1, h.2.2⟩
theorem CS.opn (h : CS O T n n' R I J R1 I1 J1) (hO : O n') : CS O T n (n' + 1) R I J R1 I1 J1 := ⟨h.1.new, by have := h.2.1; omega, h.2.2.1, fun i h1 h2 ho => by
  by_cases e : i = n'
  · exact absurd (e ▸ hO) ho
  · exact h.2.2.2 i h1 (by omega) ho⟩
theorem OP.opn (h : NI n' R1 I1 J1) : OP n' R1 I1 J1 (fun _ => none) (fun _ => 0) := h.2 n' (Nat.le_refl _)
/-- a new cell is closed -/
theorem CS.cls (h : CS O T n (n' + 1) R I J R1 I1 J1) {O2 : Nat → Prop} (hO : ∀ i, O i → i = n' ∨ O2 i) (hn : n ≤ n') (hp : OP n' R1 I1 J1 rk ik) (hr : rk = oR n') (hi : ik = T n') : CS O2 T n (n' + 1) R I J R1 I1 J1 := ⟨h.1, h.2.1, fun i hi2 ho => h.2.2.1 i hi2 (fun q => (hO i q).elim (fun e => by omega) ho), fun i h1 h2 ho => by
  by_cases e : i = n'
  · subst e; exact ⟨hp.1.trans hr, hp.2.1.trans hi, hp.2.2⟩
  · exact h.2.2.2 i h1 h2 (fun q => (hO i q).elim e ho)⟩
theorem CS.arr (h : CS O T n n' R I J R1 I1 J1) (hr : oR n' = fun _ => none) (hi : T n' = fun _ => 0) : CS O T n (n' + 1) R I J R1 I1 J1 := ⟨h.1.new, by have := h.2.1; omega, h.2.2.1, fun i h1 h2 ho => by
  by_cases e : i = n'
  · subst e
    rw [hr, hi]
    exact h.1.2 _ (Nat.le_refl _)
  · exact h.2.2.2 i h1 (by omega) ho⟩
theorem CS.rows {N : Nat} (h : CS O T n n' R I J R1 I1 J1) (hr : oR n' = fun i => if i < N then some (n' + 1 + i) else none) (hi : T n' = fun _ => 0) (hin : ∀ i, i < N → oR (n' + 1 + i) = (fun _ => none) ∧ T (n' + 1 + i) = fun _ => 0) : CS O T n (n' + 1 + N) R I J (va_up R1 n' (fun i => if i < N then some (n' + 1 + i) else none)) I1 J1 := by
  refine ⟨h.1.rows, by have := h.2.1; omega, fun i hi2 ho => ?_, fun i h1 h2 ho => ?_⟩
  · rw [va_up_ne _ _ (by have := h.2.1; omega)]
    exact h.2.2.1 i hi2 ho
  · by_cases e : i = n'
    · subst e
      rw [va_up_self, hr, hi]
      exact ⟨rfl, (h.1.2 _ (Nat.le_refl _)).2⟩
    · rw [va_up_ne _ _ e]
      by_cases e2 : i < n'
      · exact h.2.2.2 i h1 e2 ho
      · obtain ⟨a, rfl⟩ : ∃ a, i = n' + 1 + a := ⟨i - n' - 1, by omega⟩
        rw [(hin a (by omega)).1, (hin a (by omega)).2]
        exact h.1.2 _ (by omega)
theorem OP.rows {x : Nat → Option Nat} (h : OP k R1 I1 J1 rk ik) (hk : k ≠ n') : OP k (va_up R1 n' x) I1 J1 rk ik := ⟨by rw [va_up_ne _ _ hk]; exact h.1, h.2⟩
theorem CS.fin (h : CS (fun i => i = k) I0 n n' R I J R1 I1 J1) (hk : k < n) (hp : OP k R1 I1 J1 rk ik) (hr : rk = oR k) (hi : ik = I0 k) : FIN n k n' R I J R1 I1 J1 := ⟨fun i h1 h2 => h.2.2.1 i h1 h2, fun i h1 => by
  by_cases e : i = k
  · subst e; exact ⟨hp.1.trans hr, hp.2.1.trans hi, hp.2.2⟩
  · exact h.2.2.2 i (by omega) (by omega) e⟩
end CSS
/-- what an object number is -/
abbrev FO (k kd : Nat) (rs : List (Option Nat)) (is : List Int32) : Prop := k ≠ 99 ∧ oK k = kd ∧ oRs.getD k [] = rs ∧ i0T.getD k [] = is
abbrev FA (k kd N : Nat) (is : List Int32) : Prop := k ≠ 99 ∧ oK k = kd ∧ oL k = N ∧ oRs.getD k [] = [] ∧ i0T.getD k [] = is
theorem I0_of {k : Nat} {is : List Int32} (h : k ≠ 99) (h2 : i0T.getD k [] = is) : I0 k = fun j => is.getD j 0 := funext fun j => by
  show (if k = 99 then _ else (i0T.getD k []).getD j 0) = _
  rw [if_neg h, h2]
theorem oR_of {k : Nat} {rs : List (Option Nat)} (h2 : oRs.getD k [] = rs) : oR k = fun j => rs.getD j none := funext fun j => by
  show (oRs.getD k []).getD j none = _
  rw [h2]
theorem FA.r {k kd N : Nat} {is : List Int32} (h : FA k kd N is) : oR k = fun _ => none := oR_of h.2.2.2.1
theorem FA.i {k kd N : Nat} {is : List Int32} (h : FA k kd N is) : I0 k = fun j => is.getD j 0 := I0_of h.1 h.2.2.2.2
theorem FA.z {k kd N : Nat} (h : FA k kd N []) : I0 k = fun _ => 0 := I0_of h.1 h.2.2.2.2
theorem FO.r {k kd : Nat} {rs : List (Option Nat)} {is : List Int32} (h : FO k kd rs is) : oR k = fun j => rs.getD j none := oR_of h.2.2.1
theorem FO.i {k kd : Nat} {rs : List (Option Nat)} {is : List Int32} (h : FO k kd rs is) : I0 k = fun j => is.getD j 0 := I0_of h.1 h.2.2.2
def RMc (f lo c sl : Nat) : Room := { frames := f, cells := c, slots := sl, locals := lo }
theorem wi_X9 : Cond.instantiable RX9 2 ∈ WALL := wall_i 113 (by decide +kernel) (by decide +kernel)
theorem wt_X9 : Cond.initialized RX9 ∈ WALL := wall_i 82 (by decide +kernel) (by decide +kernel)
theorem fk_X9 : Cond.instanceMethod yX9_init ∈ WALL ∧ Cond.initialized yX9_init.cls ∈ WALL ∧ Cond.code yX9_init cX9_init 1 none ∈ WALL ∧ yX9_init.cls ≠ "java/lang/invoke/MethodHandle" ∧ yX9_init.cls ≠ "java/lang/invoke/VarHandle" := ⟨wall_i 115 (by decide +kernel) (by decide +kernel), wt_X9, wall_i 116 (by decide +kernel) (by decide +kernel), by decide +kernel, by decide +kernel⟩
theorem wi_X7 : Cond.instantiable RX7 15 ∈ WALL := wall_i 107 (by decide +kernel) (by decide +kernel)
theorem wt_X7 : Cond.initialized RX7 ∈ WALL := wall_i 81 (by decide +kernel) (by decide +kernel)
theorem fk_X7 : Cond.instanceMethod yX7_init ∈ WALL ∧ Cond.initialized yX7_init.cls ∈ WALL ∧ Cond.code yX7_init cX7_init 1 none ∈ WALL ∧ yX7_init.cls ≠ "java/lang/invoke/MethodHandle" ∧ yX7_init.cls ≠ "java/lang/invoke/VarHandle" := ⟨wall_i 109 (by decide +kernel) (by decide +kernel), wt_X7, wall_i 110 (by decide +kernel) (by decide +kernel), by decide +kernel, by decide +kernel⟩
theorem wi_X2 : Cond.instantiable RX2 4 ∈ WALL := wall_i 188 (by decide +kernel) (by decide +kernel)
theorem wt_X2 : Cond.initialized RX2 ∈ WALL := wall_i 83 (by decide +kernel) (by decide +kernel)
theorem fk_X2 : Cond.instanceMethod yX2_init ∈ WALL ∧ Cond.initialized yX2_init.cls ∈ WALL ∧ Cond.code yX2_init cX2_init 1 none ∈ WALL ∧ yX2_init.cls ≠ "java/lang/invoke/MethodHandle" ∧ yX2_init.cls ≠ "java/lang/invoke/VarHandle" := ⟨wall_i 190 (by decide +kernel) (by decide +kernel), wt_X2, wall_i 191 (by decide +kernel) (by decide +kernel), by decide +kernel, by decide +kernel⟩
theorem wi_X4 : Cond.instantiable RX4 2 ∈ WALL := wall_i 238 (by decide +kernel) (by decide +kernel)
theorem wt_X4 : Cond.initialized RX4 ∈ WALL := wall_i 84 (by decide +kernel) (by decide +kernel)
theorem fk_X4 : Cond.instanceMethod yX4_init ∈ WALL ∧ Cond.initialized yX4_init.cls ∈ WALL ∧ Cond.code yX4_init cX4_init 2 none ∈ WALL ∧ yX4_init.cls ≠ "java/lang/invoke/MethodHandle" ∧ yX4_init.cls ≠ "java/lang/invoke/VarHandle" := ⟨wall_i 240 (by decide +kernel) (by decide +kernel), wt_X4, wall_i 241 (by decide +kernel) (by decide +kernel), by decide +kernel, by decide +kernel⟩
theorem wi_X8 : Cond.instantiable RX8 7 ∈ WALL := wall_i 254 (by decide +kernel) (by decide +kernel)
theorem wt_X8 : Cond.initialized RX8 ∈ WALL := wall_i 85 (by decide +kernel) (by decide +kernel)
theorem fk_X8 : Cond.instanceMethod yX8_init ∈ WALL ∧ Cond.initialized yX8_init.cls ∈ WALL ∧ Cond.code yX8_init cX8_init 1 none ∈ WALL ∧ yX8_init.cls ≠ "java/lang/invoke/MethodHandle" ∧ yX8_init.cls ≠ "java/lang/invoke/VarHandle" := ⟨wall_i 256 (by decide +kernel) (by decide +kernel), wt_X8, wall_i 257 (by decide +kernel) (by decide +kernel), by decide +kernel, by decide +kernel⟩
theorem wi_X3 : Cond.instantiable RX3 2 ∈ WALL := wall_i 285 (by decide +kernel) (by decide +kernel)
theorem wt_X3 : Cond.initialized RX3 ∈ WALL := wall_i 86 (by decide +kernel) (by decide +kernel)
theorem fk_X3 : Cond.instanceMethod yX3_init ∈ WALL ∧ Cond.initialized yX3_init.cls ∈ WALL ∧ Cond.code yX3_init cX3_init 1 none ∈ WALL ∧ yX3_init.cls ≠ "java/lang/invoke/MethodHandle" ∧ yX3_init.cls ≠ "java/lang/invoke/VarHandle" := ⟨wall_i 287 (by decide +kernel) (by decide +kernel), wt_X3, wall_i 288 (by decide +kernel) (by decide +kernel), by decide +kernel, by decide +kernel⟩
theorem wi_X5 : Cond.instantiable RX5 3 ∈ WALL := wall_i 299 (by decide +kernel) (by decide +kernel)
theorem wt_X5 : Cond.initialized RX5 ∈ WALL := wall_i 87 (by decide +kernel) (by decide +kernel)
theorem fk_X5 : Cond.instanceMethod yX5_init ∈ WALL ∧ Cond.initialized yX5_init.cls ∈ WALL ∧ Cond.code yX5_init cX5_init 1 none ∈ WALL ∧ yX5_init.cls ≠ "java/lang/invoke/MethodHandle" ∧ yX5_init.cls ≠ "java/lang/invoke/VarHandle" := ⟨wall_i 301 (by decide +kernel) (by decide +kernel), wt_X5, wall_i 302 (by decide +kernel) (by decide +kernel), by decide +kernel, by decide +kernel⟩
theorem wi_X6 : Cond.instantiable RX6 3 ∈ WALL := wall_i 316 (by decide +kernel) (by decide +kernel)
theorem wt_X6 : Cond.initialized RX6 ∈ WALL := wall_i 88 (by decide +kernel) (by decide +kernel)
theorem fk_X6 : Cond.instanceMethod yX6_init ∈ WALL ∧ Cond.initialized yX6_init.cls ∈ WALL ∧ Cond.code yX6_init cX6_init 1 none ∈ WALL ∧ yX6_init.cls ≠ "java/lang/invoke/MethodHandle" ∧ yX6_init.cls ≠ "java/lang/invoke/VarHandle" := ⟨wall_i 318 (by decide +kernel) (by decide +kernel), wt_X6, wall_i 319 (by decide +kernel) (by decide +kernel), by decide +kernel, by decide +kernel⟩
theorem wi_X0 : Cond.instantiable RX0 6 ∈ WALL := wall_i 332 (by decide +kernel) (by decide +kernel)
theorem wt_X0 : Cond.initialized RX0 ∈ WALL := wall_i 89 (by decide +kernel) (by decide +kernel)
theorem fk_X0 : Cond.instanceMethod yX0_init ∈ WALL ∧ Cond.initialized yX0_init.cls ∈ WALL ∧ Cond.code yX0_init cX0_init 1 none ∈ WALL ∧ yX0_init.cls ≠ "java/lang/invoke/MethodHandle" ∧ yX0_init.cls ≠ "java/lang/invoke/VarHandle" := ⟨wall_i 334 (by decide +kernel) (by decide +kernel), wt_X0, wall_i 335 (by decide +kernel) (by decide +kernel), by decide +kernel, by decide +kernel⟩
theorem wi_X10 : Cond.instantiable RX10 14 ∈ WALL := wall_i 99 (by decide +kernel) (by decide +kernel)
theorem wt_X10 : Cond.initialized RX10 ∈ WALL := wall_i 80 (by decide +kernel) (by decide +kernel)
theorem fk_X10 : Cond.instanceMethod yX10_init ∈ WALL ∧ Cond.initialized yX10_init.cls ∈ WALL ∧ Cond.code yX10_init cX10_init 1 none ∈ WALL ∧ yX10_init.cls ≠ "java/lang/invoke/MethodHandle" ∧ yX10_init.cls ≠ "java/lang/invoke/VarHandle" := ⟨wall_i 101 (by decide +kernel) (by decide +kernel), wt_X10, wall_i 102 (by decide +kernel) (by decide +kernel), by decide +kernel, by decide +kernel⟩
theorem wi_X11 : Cond.instantiable RX11 42 ∈ WALL := wall_i 1089 (by decide +kernel) (by decide +kernel)
theorem wt_X11 : Cond.initialized RX11 ∈ WALL := wall_i 90 (by decide +kernel) (by decide +kernel)
theorem fk_X11 : Cond.instanceMethod yX11_init ∈ WALL ∧ Cond.initialized yX11_init.cls ∈ WALL ∧ Cond.code yX11_init cX11_init 1 none ∈ WALL ∧ yX11_init.cls ≠ "java/lang/invoke/MethodHandle" ∧ yX11_init.cls ≠ "java/lang/invoke/VarHandle" := ⟨wall_i 1091 (by decide +kernel) (by decide +kernel), wt_X11, wall_i 1092 (by decide +kernel) (by decide +kernel), by decide +kernel, by decide +kernel⟩
theorem lc_L_7 : Cond.classLink "UnevenTapLaw" 7 "UnevenTap" ∈ WALL := wall_i 98 (by decide +kernel) (by decide +kernel)
theorem lc_X10_7 : Cond.classLink "UnevenTap" 7 "UnevenTap$Tap" ∈ WALL := wall_i 106 (by decide +kernel) (by decide +kernel)
theorem nk_X10_9 : Cond.methodLinkNest "UnevenTap" 9 yX7_init "UnevenTap" ∈ NW := by decide +kernel
theorem lc_X7_7 : Cond.classLink "UnevenTap$Tap" 7 "UnevenTap$Times" ∈ WALL := wall_i 112 (by decide +kernel) (by decide +kernel)
theorem nk_X7_9 : Cond.methodLinkNest "UnevenTap$Tap" 9 yX9_init "UnevenTap" ∈ NW := by decide +kernel
theorem lc_X10_16 : Cond.classLink "UnevenTap" 16 "UnevenTap$Laws" ∈ WALL := wall_i 187 (by decide +kernel) (by decide +kernel)
theorem lc_X2_11 : Cond.classLink "UnevenTap$Laws" 11 "[[I" ∈ WALL := wall_i 193 (by decide +kernel) (by decide +kernel)
theorem lc_X10_23 : Cond.classLink "UnevenTap" 23 "UnevenTap$Records" ∈ WALL := wall_i 237 (by decide +kernel) (by decide +kernel)
theorem lc_X4_9 : Cond.classLink "UnevenTap$Records" 9 "UnevenTap$Times" ∈ WALL := wall_i 243 (by decide +kernel) (by decide +kernel)
theorem nk_X4_15 : Cond.methodLinkNest "UnevenTap$Records" 15 yX9_init "UnevenTap" ∈ NW := by decide +kernel
theorem lc_X10_45 : Cond.classLink "UnevenTap" 45 "UnevenTap$Text" ∈ WALL := wall_i 253 (by decide +kernel) (by decide +kernel)
theorem nk_X10_47 : Cond.methodLinkNest "UnevenTap" 47 yX8_init "UnevenTap" ∈ NW := by decide +kernel
theorem lc_X8_7 : Cond.classLink "UnevenTap$Text" 7 "UnevenTap$Laws" ∈ WALL := wall_i 259 (by decide +kernel) (by decide +kernel)
theorem lc_X10_52 : Cond.classLink "UnevenTap" 52 "UnevenTap$Proof" ∈ WALL := wall_i 284 (by decide +kernel) (by decide +kernel)
theorem nk_X10_54 : Cond.methodLinkNest "UnevenTap" 54 yX3_init "UnevenTap" ∈ NW := by decide +kernel
theorem lc_X3_9 : Cond.classLink "UnevenTap$Proof" 9 "[[I" ∈ WALL := wall_i 290 (by decide +kernel) (by decide +kernel)
theorem lc_X10_59 : Cond.classLink "UnevenTap" 59 "UnevenTap$Sheets" ∈ WALL := wall_i 298 (by decide +kernel) (by decide +kernel)
theorem nk_X10_61 : Cond.methodLinkNest "UnevenTap" 61 yX5_init "UnevenTap" ∈ NW := by decide +kernel
theorem lc_X5_16 : Cond.classLink "UnevenTap$Sheets" 16 "[[I" ∈ WALL := wall_i 304 (by decide +kernel) (by decide +kernel)
theorem lc_X10_66 : Cond.classLink "UnevenTap" 66 "UnevenTap$Shelves" ∈ WALL := wall_i 315 (by decide +kernel) (by decide +kernel)
theorem nk_X10_68 : Cond.methodLinkNest "UnevenTap" 68 yX6_init "UnevenTap" ∈ NW := by decide +kernel
theorem lc_X10_73 : Cond.classLink "UnevenTap" 73 "UnevenTap$Acts" ∈ WALL := wall_i 331 (by decide +kernel) (by decide +kernel)
theorem nk_X10_75 : Cond.methodLinkNest "UnevenTap" 75 yX0_init "UnevenTap" ∈ NW := by decide +kernel
theorem lc_L_10 : Cond.classLink "UnevenTapLaw" 10 "UnevenTapModel" ∈ WALL := wall_i 1088 (by decide +kernel) (by decide +kernel)
theorem li_X9_1 : Cond.methodLink "UnevenTap$Times" 1 objectInit ∈ WALL := wall_i 117 (by decide +kernel) (by decide +kernel)
theorem li_X7_1 : Cond.methodLink "UnevenTap$Tap" 1 objectInit ∈ WALL := wall_i 111 (by decide +kernel) (by decide +kernel)
theorem li_X2_3 : Cond.methodLink "UnevenTap$Laws" 3 objectInit ∈ WALL := wall_i 192 (by decide +kernel) (by decide +kernel)
theorem li_X4_1 : Cond.methodLink "UnevenTap$Records" 1 objectInit ∈ WALL := wall_i 242 (by decide +kernel) (by decide +kernel)
theorem li_X8_1 : Cond.methodLink "UnevenTap$Text" 1 objectInit ∈ WALL := wall_i 258 (by decide +kernel) (by decide +kernel)
theorem li_X8_9 : Cond.methodLink "UnevenTap$Text" 9 yX2_init ∈ WALL := wall_i 260 (by decide +kernel) (by decide +kernel)
theorem li_X3_1 : Cond.methodLink "UnevenTap$Proof" 1 objectInit ∈ WALL := wall_i 289 (by decide +kernel) (by decide +kernel)
theorem li_X5_1 : Cond.methodLink "UnevenTap$Sheets" 1 objectInit ∈ WALL := wall_i 303 (by decide +kernel) (by decide +kernel)
theorem li_X6_1 : Cond.methodLink "UnevenTap$Shelves" 1 objectInit ∈ WALL := wall_i 320 (by decide +kernel) (by decide +kernel)
theorem li_X0_3 : Cond.methodLink "UnevenTap$Acts" 3 objectInit ∈ WALL := wall_i 336 (by decide +kernel) (by decide +kernel)
theorem li_X10_1 : Cond.methodLink "UnevenTap" 1 objectInit ∈ WALL := wall_i 103 (by decide +kernel) (by decide +kernel)
theorem li_X10_18 : Cond.methodLink "UnevenTap" 18 yX2_init ∈ WALL := wall_i 189 (by decide +kernel) (by decide +kernel)
theorem li_X10_25 : Cond.methodLink "UnevenTap" 25 yX4_init ∈ WALL := wall_i 239 (by decide +kernel) (by decide +kernel)
theorem li_X11_1 : Cond.methodLink "UnevenTapModel" 1 objectInit ∈ WALL := wall_i 1093 (by decide +kernel) (by decide +kernel)
theorem li_L_9 : Cond.methodLink "UnevenTapLaw" 9 yX10_init ∈ WALL := wall_i 100 (by decide +kernel) (by decide +kernel)
theorem li_L_12 : Cond.methodLink "UnevenTapLaw" 12 yX11_init ∈ WALL := wall_i 1090 (by decide +kernel) (by decide +kernel)
section INIT
variable {p : Program} {l : Launch} {e : Env} {Rm : Room} {s : State} {m : MethodId} {args : Array Value} {below : List Frame} {meth : Method} {c : Code} {Q : State → Prop}
variable {own : String} {cc : ByteArray} {nL : Nat} {g : GG} {ad : Nat → Nat} {n : Nat} {R : HR} {I : HI} {J : HJ} {pc : Nat} {lv : List (Nat × Value)} {st : List Value} {A : Nat → Prop} {nc ns : Nat}
theorem df_X9 {ad : Nat → Nat} {g : GG} {n : Nat} {fs : List Value} (h : ct g ad n (fun _ => none) (fun _ => 0) (fun _ => 0) = .inr (8, fs)) (hk : oK n = 8) : ∀ j, j < 2 → defaultValue (tyX9 j) = vp_V fs j := by
  rw [ct_8 hk] at h
  have h2 := congrArg (fun (q : va_E) => match q with | .inr (_, fs) => fs | .inl _ => []) h
  have h3 : _ = fs := h2
  rw [← h3]
  intro j hj
  rcases j with _|_|j
  · rfl
  · rfl
  · omega
theorem nw_X9 (C : Cx p s m args meth c own cc nL g A) (hA0 : ∀ q, s.heap.size ≤ q → A q) (hNI : NI n R I J) {ix : Nat} (hk : oK n = 8) (hlk : Cond.classLink own ix RX9 ∈ WALL) (h1 : nc + 1 ≤ Rm.cells) (h2 : ns + 2 ≤ Rm.slots) (hdg : decode cc pc = .ok (.new ix, 3)) (kk : ∀ ad1 : Nat → Nat, (∀ k, k < n → ad1 k = ad k) → V p l e Rm s m args below meth c Q nL (nc + 1) (ns + 2) g A ad1 (n + 1) R I J (pc + 3) lv (.ref (ad1 n) :: st)) : V p l e Rm s m args below meth c Q nL nc ns g A ad n R I J pc lv st :=
  r_new C hA0 hNI (ct_8 hk) rfl in_X9 tyX9_ok hlk wi_X9 wt_X9 (df_X9 (g := g) (ad := ad) (ct_8 hk) hk) h1 h2 hdg kk
theorem df_X7 {ad : Nat → Nat} {g : GG} {n : Nat} {fs : List Value} (h : ct g ad n (fun _ => none) (fun _ => 0) (fun _ => 0) = .inr (6, fs)) (hk : oK n = 6) : ∀ j, j < 15 → defaultValue (tyX7 j) = vp_V fs j := by
  rw [ct_6 hk] at h
  have h2 := congrArg (fun (q : va_E) => match q with | .inr (_, fs) => fs | .inl _ => []) h
  have h3 : _ = fs := h2
  rw [← h3]
  intro j hj
  rcases j with _|_|_|_|_|_|_|_|_|_|_|_|_|_|_|j
  · rfl
  · rfl
  · rfl
  · rfl
  · rfl
  · rfl
  · rfl
  · rfl
  · rfl
  · rfl
  · rfl
  · rfl
  · rfl
  · rfl
  · rfl
  · omega
theorem nw_X7 (C : Cx p s m args meth c own cc nL g A) (hA0 : ∀ q, s.heap.size ≤ q → A q) (hNI : NI n R I J) {ix : Nat} (hk : oK n = 6) (hlk : Cond.classLink own ix RX7 ∈ WALL) (h1 : nc + 1 ≤ Rm.cells) (h2 : ns + 15 ≤ Rm.slots) (hdg : decode cc pc = .ok (.new ix, 3)) (kk : ∀ ad1 : Nat → Nat, (∀ k, k < n → ad1 k = ad k) → V p l e Rm s m args below meth c Q nL (nc + 1) (ns + 15) g A ad1 (n + 1) R I J (pc + 3) lv (.ref (ad1 n) :: st)) : V p l e Rm s m args below meth c Q nL nc ns g A ad n R I J pc lv st :=
  r_new C hA0 hNI (ct_6 hk) rfl in_X7 tyX7_ok hlk wi_X7 wt_X7 (df_X7 (g := g) (ad := ad) (ct_6 hk) hk) h1 h2 hdg kk
theorem df_X2 {ad : Nat → Nat} {g : GG} {n : Nat} {fs : List Value} (h : ct g ad n (fun _ => none) (fun _ => 0) (fun _ => 0) = .inr (1, fs)) (hk : oK n = 1) : ∀ j, j < 4 → defaultValue (tyX2 j) = vp_V fs j := by
  rw [ct_1 hk] at h
  have h2 := congrArg (fun (q : va_E) => match q with | .inr (_, fs) => fs | .inl _ => []) h
  have h3 : _ = fs := h2
  rw [← h3]
  intro j hj
  rcases j with _|_|_|_|j
  · rfl
  · rfl
  · rfl
  · rfl
  · omega
theorem nw_X2 (C : Cx p s m args meth c own cc nL g A) (hA0 : ∀ q, s.heap.size ≤ q → A q) (hNI : NI n R I J) {ix : Nat} (hk : oK n = 1) (hlk : Cond.classLink own ix RX2 ∈ WALL) (h1 : nc + 1 ≤ Rm.cells) (h2 : ns + 4 ≤ Rm.slots) (hdg : decode cc pc = .ok (.new ix, 3)) (kk : ∀ ad1 : Nat → Nat, (∀ k, k < n → ad1 k = ad k) → V p l e Rm s m args below meth c Q nL (nc + 1) (ns + 4) g A ad1 (n + 1) R I J (pc + 3) lv (.ref (ad1 n) :: st)) : V p l e Rm s m args below meth c Q nL nc ns g A ad n R I J pc lv st :=
  r_new C hA0 hNI (ct_1 hk) rfl in_X2 tyX2_ok hlk wi_X2 wt_X2 (df_X2 (g := g) (ad := ad) (ct_1 hk) hk) h1 h2 hdg kk
theorem df_X4 {ad : Nat → Nat} {g : GG} {n : Nat} {fs : List Value} (h : ct g ad n (fun _ => none) (fun _ => 0) (fun _ => 0) = .inr (3, fs)) (hk : oK n = 3) : ∀ j, j < 2 → defaultValue (tyX4 j) = vp_V fs j := by
  rw [ct_3 hk] at h
  have h2 := congrArg (fun (q : va_E) => match q with | .inr (_, fs) => fs | .inl _ => []) h
  have h3 : _ = fs := h2
  rw [← h3]
  intro j hj
  rcases j with _|_|j
  · rfl
  · rfl
  · omega
theorem nw_X4 (C : Cx p s m args meth c own cc nL g A) (hA0 : ∀ q, s.heap.size ≤ q → A q) (hNI : NI n R I J) {ix : Nat} (hk : oK n = 3) (hlk : Cond.classLink own ix RX4 ∈ WALL) (h1 : nc + 1 ≤ Rm.cells) (h2 : ns + 2 ≤ Rm.slots) (hdg : decode cc pc = .ok (.new ix, 3)) (kk : ∀ ad1 : Nat → Nat, (∀ k, k < n → ad1 k = ad k) → V p l e Rm s m args below meth c Q nL (nc + 1) (ns + 2) g A ad1 (n + 1) R I J (pc + 3) lv (.ref (ad1 n) :: st)) : V p l e Rm s m args below meth c Q nL nc ns g A ad n R I J pc lv st :=
  r_new C hA0 hNI (ct_3 hk) rfl in_X4 tyX4_ok hlk wi_X4 wt_X4 (df_X4 (g := g) (ad := ad) (ct_3 hk) hk) h1 h2 hdg kk
theorem df_X8 {ad : Nat → Nat} {g : GG} {n : Nat} {fs : List Value} (h : ct g ad n (fun _ => none) (fun _ => 0) (fun _ => 0) = .inr (7, fs)) (hk : oK n = 7) : ∀ j, j < 7 → defaultValue (tyX8 j) = vp_V fs j := by
  rw [ct_7 hk] at h
  have h2 := congrArg (fun (q : va_E) => match q with | .inr (_, fs) => fs | .inl _ => []) h
  have h3 : _ = fs := h2
  rw [← h3]
  intro j hj
  rcases j with _|_|_|_|_|_|_|j
  · rfl
  · rfl
  · rfl
  · rfl
  · rfl
  · rfl
  · rfl
  · omega
theorem nw_X8 (C : Cx p s m args meth c own cc nL g A) (hA0 : ∀ q, s.heap.size ≤ q → A q) (hNI : NI n R I J) {ix : Nat} (hk : oK n = 7) (hlk : Cond.classLink own ix RX8 ∈ WALL) (h1 : nc + 1 ≤ Rm.cells) (h2 : ns + 7 ≤ Rm.slots) (hdg : decode cc pc = .ok (.new ix, 3)) (kk : ∀ ad1 : Nat → Nat, (∀ k, k < n → ad1 k = ad k) → V p l e Rm s m args below meth c Q nL (nc + 1) (ns + 7) g A ad1 (n + 1) R I J (pc + 3) lv (.ref (ad1 n) :: st)) : V p l e Rm s m args below meth c Q nL nc ns g A ad n R I J pc lv st :=
  r_new C hA0 hNI (ct_7 hk) rfl in_X8 tyX8_ok hlk wi_X8 wt_X8 (df_X8 (g := g) (ad := ad) (ct_7 hk) hk) h1 h2 hdg kk
theorem df_X3 {ad : Nat → Nat} {g : GG} {n : Nat} {fs : List Value} (h : ct g ad n (fun _ => none) (fun _ => 0) (fun _ => 0) = .inr (2, fs)) (hk : oK n = 2) : ∀ j, j < 2 → defaultValue (tyX3 j) = vp_V fs j := by
  rw [ct_2 hk] at h
  have h2 := congrArg (fun (q : va_E) => match q with | .inr (_, fs) => fs | .inl _ => []) h
  have h3 : _ = fs := h2
  rw [← h3]
  intro j hj
  rcases j with _|_|j
  · rfl
  · rfl
  · omega
theorem nw_X3 (C : Cx p s m args meth c own cc nL g A) (hA0 : ∀ q, s.heap.size ≤ q → A q) (hNI : NI n R I J) {ix : Nat} (hk : oK n = 2) (hlk : Cond.classLink own ix RX3 ∈ WALL) (h1 : nc + 1 ≤ Rm.cells) (h2 : ns + 2 ≤ Rm.slots) (hdg : decode cc pc = .ok (.new ix, 3)) (kk : ∀ ad1 : Nat → Nat, (∀ k, k < n → ad1 k = ad k) → V p l e Rm s m args below meth c Q nL (nc + 1) (ns + 2) g A ad1 (n + 1) R I J (pc + 3) lv (.ref (ad1 n) :: st)) : V p l e Rm s m args below meth c Q nL nc ns g A ad n R I J pc lv st :=
  r_new C hA0 hNI (ct_2 hk) rfl in_X3 tyX3_ok hlk wi_X3 wt_X3 (df_X3 (g := g) (ad := ad) (ct_2 hk) hk) h1 h2 hdg kk
theorem df_X5 {ad : Nat → Nat} {g : GG} {n : Nat} {fs : List Value} (h : ct g ad n (fun _ => none) (fun _ => 0) (fun _ => 0) = .inr (4, fs)) (hk : oK n = 4) : ∀ j, j < 3 → defaultValue (tyX5 j) = vp_V fs j := by
  rw [ct_4 hk] at h
  have h2 := congrArg (fun (q : va_E) => match q with | .inr (_, fs) => fs | .inl _ => []) h
  have h3 : _ = fs := h2
  rw [← h3]
  intro j hj
  rcases j with _|_|_|j
  · rfl
  · rfl
  · rfl
  · omega
theorem nw_X5 (C : Cx p s m args meth c own cc nL g A) (hA0 : ∀ q, s.heap.size ≤ q → A q) (hNI : NI n R I J) {ix : Nat} (hk : oK n = 4) (hlk : Cond.classLink own ix RX5 ∈ WALL) (h1 : nc + 1 ≤ Rm.cells) (h2 : ns + 3 ≤ Rm.slots) (hdg : decode cc pc = .ok (.new ix, 3)) (kk : ∀ ad1 : Nat → Nat, (∀ k, k < n → ad1 k = ad k) → V p l e Rm s m args below meth c Q nL (nc + 1) (ns + 3) g A ad1 (n + 1) R I J (pc + 3) lv (.ref (ad1 n) :: st)) : V p l e Rm s m args below meth c Q nL nc ns g A ad n R I J pc lv st :=
  r_new C hA0 hNI (ct_4 hk) rfl in_X5 tyX5_ok hlk wi_X5 wt_X5 (df_X5 (g := g) (ad := ad) (ct_4 hk) hk) h1 h2 hdg kk
theorem df_X6 {ad : Nat → Nat} {g : GG} {n : Nat} {fs : List Value} (h : ct g ad n (fun _ => none) (fun _ => 0) (fun _ => 0) = .inr (5, fs)) (hk : oK n = 5) : ∀ j, j < 3 → defaultValue (tyX6 j) = vp_V fs j := by
  rw [ct_5 hk] at h
  have h2 := congrArg (fun (q : va_E) => match q with | .inr (_, fs) => fs | .inl _ => []) h
  have h3 : _ = fs := h2
  rw [← h3]
  intro j hj
  rcases j with _|_|_|j
  · rfl
  · rfl
  · rfl
  · omega
theorem nw_X6 (C : Cx p s m args meth c own cc nL g A) (hA0 : ∀ q, s.heap.size ≤ q → A q) (hNI : NI n R I J) {ix : Nat} (hk : oK n = 5) (hlk : Cond.classLink own ix RX6 ∈ WALL) (h1 : nc + 1 ≤ Rm.cells) (h2 : ns + 3 ≤ Rm.slots) (hdg : decode cc pc = .ok (.new ix, 3)) (kk : ∀ ad1 : Nat → Nat, (∀ k, k < n → ad1 k = ad k) → V p l e Rm s m args below meth c Q nL (nc + 1) (ns + 3) g A ad1 (n + 1) R I J (pc + 3) lv (.ref (ad1 n) :: st)) : V p l e Rm s m args below meth c Q nL nc ns g A ad n R I J pc lv st :=
  r_new C hA0 hNI (ct_5 hk) rfl in_X6 tyX6_ok hlk wi_X6 wt_X6 (df_X6 (g := g) (ad := ad) (ct_5 hk) hk) h1 h2 hdg kk
theorem df_X0 {ad : Nat → Nat} {g : GG} {n : Nat} {fs : List Value} (h : ct g ad n (fun _ => none) (fun _ => 0) (fun _ => 0) = .inr (0, fs)) (hk : oK n = 0) : ∀ j, j < 6 → defaultValue (tyX0 j) = vp_V fs j := by
  rw [ct_0 hk] at h
  have h2 := congrArg (fun (q : va_E) => match q with | .inr (_, fs) => fs | .inl _ => []) h
  have h3 : _ = fs := h2
  rw [← h3]
  intro j hj
  rcases j with _|_|_|_|_|_|j
  · rfl
  · rfl
  · rfl
  · rfl
  · rfl
  · rfl
  · omega
theorem nw_X0 (C : Cx p s m args meth c own cc nL g A) (hA0 : ∀ q, s.heap.size ≤ q → A q) (hNI : NI n R I J) {ix : Nat} (hk : oK n = 0) (hlk : Cond.classLink own ix RX0 ∈ WALL) (h1 : nc + 1 ≤ Rm.cells) (h2 : ns + 6 ≤ Rm.slots) (hdg : decode cc pc = .ok (.new ix, 3)) (kk : ∀ ad1 : Nat → Nat, (∀ k, k < n → ad1 k = ad k) → V p l e Rm s m args below meth c Q nL (nc + 1) (ns + 6) g A ad1 (n + 1) R I J (pc + 3) lv (.ref (ad1 n) :: st)) : V p l e Rm s m args below meth c Q nL nc ns g A ad n R I J pc lv st :=
  r_new C hA0 hNI (ct_0 hk) rfl in_X0 tyX0_ok hlk wi_X0 wt_X0 (df_X0 (g := g) (ad := ad) (ct_0 hk) hk) h1 h2 hdg kk
theorem df_X10 {ad : Nat → Nat} {g : GG} {n : Nat} {fs : List Value} (h : ct g ad n (fun _ => none) (fun _ => 0) (fun _ => 0) = .inr (9, fs)) (hk : oK n = 9) : ∀ j, j < 14 → defaultValue (tyX10 j) = vp_V fs j := by
  rw [ct_9 hk] at h
  have h2 := congrArg (fun (q : va_E) => match q with | .inr (_, fs) => fs | .inl _ => []) h
  have h3 : _ = fs := h2
  rw [← h3]
  intro j hj
  rcases j with _|_|_|_|_|_|_|_|_|_|_|_|_|_|j
  · rfl
  · rfl
  · rfl
  · rfl
  · rfl
  · rfl
  · rfl
  · rfl
  · rfl
  · rfl
  · rfl
  · rfl
  · rfl
  · rfl
  · omega
theorem nw_X10 (C : Cx p s m args meth c own cc nL g A) (hA0 : ∀ q, s.heap.size ≤ q → A q) (hNI : NI n R I J) {ix : Nat} (hk : oK n = 9) (hlk : Cond.classLink own ix RX10 ∈ WALL) (h1 : nc + 1 ≤ Rm.cells) (h2 : ns + 14 ≤ Rm.slots) (hdg : decode cc pc = .ok (.new ix, 3)) (kk : ∀ ad1 : Nat → Nat, (∀ k, k < n → ad1 k = ad k) → V p l e Rm s m args below meth c Q nL (nc + 1) (ns + 14) g A ad1 (n + 1) R I J (pc + 3) lv (.ref (ad1 n) :: st)) : V p l e Rm s m args below meth c Q nL nc ns g A ad n R I J pc lv st :=
  r_new C hA0 hNI (ct_9 hk) rfl in_X10 tyX10_ok hlk wi_X10 wt_X10 (df_X10 (g := g) (ad := ad) (ct_9 hk) hk) h1 h2 hdg kk
theorem df_X11 {ad : Nat → Nat} {g : GG} {n : Nat} {fs : List Value} (h : ct g ad n (fun _ => none) (fun _ => 0) (fun _ => 0) = .inr (10, fs)) (hk : oK n = 10) : ∀ j, j < 42 → defaultValue (tyX11 j) = vp_V fs j := by
  rw [ct_10 hk] at h
  have h2 := congrArg (fun (q : va_E) => match q with | .inr (_, fs) => fs | .inl _ => []) h
  have h3 : _ = fs := h2
  rw [← h3]
  intro j hj
  rcases j with _|_|_|_|_|_|_|_|_|_|_|_|_|_|_|_|_|_|_|_|_|_|_|_|_|_|_|_|_|_|_|_|_|_|_|_|_|_|_|_|_|_|j
  · rfl
  · rfl
  · rfl
  · rfl
  · rfl
  · rfl
  · rfl
  · rfl
  · rfl
  · rfl
  · rfl
  · rfl
  · rfl
  · rfl
  · rfl
  · rfl
  · rfl
  · rfl
  · rfl
  · rfl
  · rfl
  · rfl
  · rfl
  · rfl
  · rfl
  · rfl
  · rfl
  · rfl
  · rfl
  · rfl
  · rfl
  · rfl
  · rfl
  · rfl
  · rfl
  · rfl
  · rfl
  · rfl
  · rfl
  · rfl
  · rfl
  · rfl
  · omega
theorem nw_X11 (C : Cx p s m args meth c own cc nL g A) (hA0 : ∀ q, s.heap.size ≤ q → A q) (hNI : NI n R I J) {ix : Nat} (hk : oK n = 10) (hlk : Cond.classLink own ix RX11 ∈ WALL) (h1 : nc + 1 ≤ Rm.cells) (h2 : ns + 42 ≤ Rm.slots) (hdg : decode cc pc = .ok (.new ix, 3)) (kk : ∀ ad1 : Nat → Nat, (∀ k, k < n → ad1 k = ad k) → V p l e Rm s m args below meth c Q nL (nc + 1) (ns + 42) g A ad1 (n + 1) R I J (pc + 3) lv (.ref (ad1 n) :: st)) : V p l e Rm s m args below meth c Q nL nc ns g A ad n R I J pc lv st :=
  r_new C hA0 hNI (ct_10 hk) rfl in_X11 tyX11_ok hlk wi_X11 wt_X11 (df_X11 (g := g) (ad := ad) (ct_10 hk) hk) h1 h2 hdg kk
theorem pR_X9_9 (C : Cx p s m args meth c RX9 cc nL g A) (hni : meth.name = "<init>") {k q : Nat} (hk : OB n k 8) (hdg : decode cc pc = .ok (.putfield 9, 3)) (kk : V p l e Rm s m args below meth c Q nL nc ns g A ad n (putR R k 0 (some q)) I J (pc + 3) lv st) : V p l e Rm s m args below meth c Q nL nc ns g A ad n R I J pc lv (.ref (ad q) :: .ref (ad k) :: st) :=
  r_putFR (ty := (.array .int)) C hni hk.2 (ct_8 hk.1) rfl in_X9 tyX9_ok nmX9 0 (by decide) rfl rfl lk_X9_9 rfl rfl rfl rfl (Nat.le_of_ble_eq_true rfl) (by rw [ct_8 hk.1]; rfl) hdg kk
theorem pR_X7_10 (C : Cx p s m args meth c RX7 cc nL g A) (hni : meth.name = "<init>") {k q : Nat} (hk : OB n k 6) (hdg : decode cc pc = .ok (.putfield 10, 3)) (kk : V p l e Rm s m args below meth c Q nL nc ns g A ad n (putR R k 0 (some q)) I J (pc + 3) lv st) : V p l e Rm s m args below meth c Q nL nc ns g A ad n R I J pc lv (.ref (ad q) :: .ref (ad k) :: st) :=
  r_putFR (ty := (.object "UnevenTap$Times")) C hni hk.2 (ct_6 hk.1) rfl in_X7 tyX7_ok nmX7 0 (by decide) rfl rfl lk_X7_10 rfl rfl rfl rfl (Nat.le_of_ble_eq_true rfl) (by rw [ct_6 hk.1]; rfl) hdg kk
theorem pR_X2_13 (C : Cx p s m args meth c RX2 cc nL g A) (hni : meth.name = "<init>") {k q : Nat} (hk : OB n k 1) (hdg : decode cc pc = .ok (.putfield 13, 3)) (kk : V p l e Rm s m args below meth c Q nL nc ns g A ad n (putR R k 0 (some q)) I J (pc + 3) lv st) : V p l e Rm s m args below meth c Q nL nc ns g A ad n R I J pc lv (.ref (ad q) :: .ref (ad k) :: st) :=
  r_putFR (ty := (.array (.array .int))) C hni hk.2 (ct_1 hk.1) rfl in_X2 tyX2_ok nmX2 0 (by decide) rfl rfl lk_X2_13 rfl rfl rfl rfl (Nat.le_of_ble_eq_true rfl) (by rw [ct_1 hk.1]; rfl) hdg kk
theorem pR_X2_16 (C : Cx p s m args meth c RX2 cc nL g A) (hni : meth.name = "<init>") {k q : Nat} (hk : OB n k 1) (hdg : decode cc pc = .ok (.putfield 16, 3)) (kk : V p l e Rm s m args below meth c Q nL nc ns g A ad n (putR R k 1 (some q)) I J (pc + 3) lv st) : V p l e Rm s m args below meth c Q nL nc ns g A ad n R I J pc lv (.ref (ad q) :: .ref (ad k) :: st) :=
  r_putFR (ty := (.array .int)) C hni hk.2 (ct_1 hk.1) rfl in_X2 tyX2_ok nmX2 1 (by decide) rfl rfl lk_X2_16 rfl rfl rfl rfl (Nat.le_of_ble_eq_true rfl) (by rw [ct_1 hk.1]; rfl) hdg kk
theorem pR_X2_20 (C : Cx p s m args meth c RX2 cc nL g A) (hni : meth.name = "<init>") {k q : Nat} (hk : OB n k 1) (hdg : decode cc pc = .ok (.putfield 20, 3)) (kk : V p l e Rm s m args below meth c Q nL nc ns g A ad n (putR R k 2 (some q)) I J (pc + 3) lv st) : V p l e Rm s m args below meth c Q nL nc ns g A ad n R I J pc lv (.ref (ad q) :: .ref (ad k) :: st) :=
  r_putFR (ty := (.array .boolean)) C hni hk.2 (ct_1 hk.1) rfl in_X2 tyX2_ok nmX2 2 (by decide) rfl rfl lk_X2_20 rfl rfl rfl rfl (Nat.le_of_ble_eq_true rfl) (by rw [ct_1 hk.1]; rfl) hdg kk
theorem pR_X2_24 (C : Cx p s m args meth c RX2 cc nL g A) (hni : meth.name = "<init>") {k q : Nat} (hk : OB n k 1) (hdg : decode cc pc = .ok (.putfield 24, 3)) (kk : V p l e Rm s m args below meth c Q nL nc ns g A ad n (putR R k 3 (some q)) I J (pc + 3) lv st) : V p l e Rm s m args below meth c Q nL nc ns g A ad n R I J pc lv (.ref (ad q) :: .ref (ad k) :: st) :=
  r_putFR (ty := (.array .int)) C hni hk.2 (ct_1 hk.1) rfl in_X2 tyX2_ok nmX2 3 (by decide) rfl rfl lk_X2_24 rfl rfl rfl rfl (Nat.le_of_ble_eq_true rfl) (by rw [ct_1 hk.1]; rfl) hdg kk
theorem pR_X4_11 (C : Cx p s m args meth c RX4 cc nL g A) (hni : meth.name = "<init>") {k q : Nat} (hk : OB n k 3) (hdg : decode cc pc = .ok (.putfield 11, 3)) (kk : V p l e Rm s m args below meth c Q nL nc ns g A ad n (putR R k 0 (some q)) I J (pc + 3) lv st) : V p l e Rm s m args below meth c Q nL nc ns g A ad n R I J pc lv (.ref (ad q) :: .ref (ad k) :: st) :=
  r_putFR (ty := (.array (.object "UnevenTap$Times"))) C hni hk.2 (ct_3 hk.1) rfl in_X4 tyX4_ok nmX4 0 (by decide) rfl rfl lk_X4_11 rfl rfl rfl rfl (Nat.le_of_ble_eq_true rfl) (by rw [ct_3 hk.1]; rfl) hdg kk
theorem pR_X8_10 (C : Cx p s m args meth c RX8 cc nL g A) (hni : meth.name = "<init>") {k q : Nat} (hk : OB n k 7) (hdg : decode cc pc = .ok (.putfield 10, 3)) (kk : V p l e Rm s m args below meth c Q nL nc ns g A ad n (putR R k 0 (some q)) I J (pc + 3) lv st) : V p l e Rm s m args below meth c Q nL nc ns g A ad n R I J pc lv (.ref (ad q) :: .ref (ad k) :: st) :=
  r_putFR (ty := (.object "UnevenTap$Laws")) C hni hk.2 (ct_7 hk.1) rfl in_X8 tyX8_ok nmX8 0 (by decide) rfl rfl lk_X8_10 rfl rfl rfl rfl (Nat.le_of_ble_eq_true rfl) (by rw [ct_7 hk.1]; rfl) hdg kk
theorem pR_X8_16 (C : Cx p s m args meth c RX8 cc nL g A) (hni : meth.name = "<init>") {k q : Nat} (hk : OB n k 7) (hdg : decode cc pc = .ok (.putfield 16, 3)) (kk : V p l e Rm s m args below meth c Q nL nc ns g A ad n (putR R k 1 (some q)) I J (pc + 3) lv st) : V p l e Rm s m args below meth c Q nL nc ns g A ad n R I J pc lv (.ref (ad q) :: .ref (ad k) :: st) :=
  r_putFR (ty := (.array .int)) C hni hk.2 (ct_7 hk.1) rfl in_X8 tyX8_ok nmX8 1 (by decide) rfl rfl lk_X8_16 rfl rfl rfl rfl (Nat.le_of_ble_eq_true rfl) (by rw [ct_7 hk.1]; rfl) hdg kk
theorem pR_X3_11 (C : Cx p s m args meth c RX3 cc nL g A) (hni : meth.name = "<init>") {k q : Nat} (hk : OB n k 2) (hdg : decode cc pc = .ok (.putfield 11, 3)) (kk : V p l e Rm s m args below meth c Q nL nc ns g A ad n (putR R k 0 (some q)) I J (pc + 3) lv st) : V p l e Rm s m args below meth c Q nL nc ns g A ad n R I J pc lv (.ref (ad q) :: .ref (ad k) :: st) :=
  r_putFR (ty := (.array (.array .int))) C hni hk.2 (ct_2 hk.1) rfl in_X3 tyX3_ok nmX3 0 (by decide) rfl rfl lk_X3_11 rfl rfl rfl rfl (Nat.le_of_ble_eq_true rfl) (by rw [ct_2 hk.1]; rfl) hdg kk
theorem pR_X5_9 (C : Cx p s m args meth c RX5 cc nL g A) (hni : meth.name = "<init>") {k q : Nat} (hk : OB n k 4) (hdg : decode cc pc = .ok (.putfield 9, 3)) (kk : V p l e Rm s m args below meth c Q nL nc ns g A ad n (putR R k 0 (some q)) I J (pc + 3) lv st) : V p l e Rm s m args below meth c Q nL nc ns g A ad n R I J pc lv (.ref (ad q) :: .ref (ad k) :: st) :=
  r_putFR (ty := (.array .int)) C hni hk.2 (ct_4 hk.1) rfl in_X5 tyX5_ok nmX5 0 (by decide) rfl rfl lk_X5_9 rfl rfl rfl rfl (Nat.le_of_ble_eq_true rfl) (by rw [ct_4 hk.1]; rfl) hdg kk
theorem pR_X5_13 (C : Cx p s m args meth c RX5 cc nL g A) (hni : meth.name = "<init>") {k q : Nat} (hk : OB n k 4) (hdg : decode cc pc = .ok (.putfield 13, 3)) (kk : V p l e Rm s m args below meth c Q nL nc ns g A ad n (putR R k 1 (some q)) I J (pc + 3) lv st) : V p l e Rm s m args below meth c Q nL nc ns g A ad n R I J pc lv (.ref (ad q) :: .ref (ad k) :: st) :=
  r_putFR (ty := (.array .int)) C hni hk.2 (ct_4 hk.1) rfl in_X5 tyX5_ok nmX5 1 (by decide) rfl rfl lk_X5_13 rfl rfl rfl rfl (Nat.le_of_ble_eq_true rfl) (by rw [ct_4 hk.1]; rfl) hdg kk
theorem pR_X5_18 (C : Cx p s m args meth c RX5 cc nL g A) (hni : meth.name = "<init>") {k q : Nat} (hk : OB n k 4) (hdg : decode cc pc = .ok (.putfield 18, 3)) (kk : V p l e Rm s m args below meth c Q nL nc ns g A ad n (putR R k 2 (some q)) I J (pc + 3) lv st) : V p l e Rm s m args below meth c Q nL nc ns g A ad n R I J pc lv (.ref (ad q) :: .ref (ad k) :: st) :=
  r_putFR (ty := (.array (.array .int))) C hni hk.2 (ct_4 hk.1) rfl in_X5 tyX5_ok nmX5 2 (by decide) rfl rfl lk_X5_18 rfl rfl rfl rfl (Nat.le_of_ble_eq_true rfl) (by rw [ct_4 hk.1]; rfl) hdg kk
theorem pR_X6_9 (C : Cx p s m args meth c RX6 cc nL g A) (hni : meth.name = "<init>") {k q : Nat} (hk : OB n k 5) (hdg : decode cc pc = .ok (.putfield 9, 3)) (kk : V p l e Rm s m args below meth c Q nL nc ns g A ad n (putR R k 0 (some q)) I J (pc + 3) lv st) : V p l e Rm s m args below meth c Q nL nc ns g A ad n R I J pc lv (.ref (ad q) :: .ref (ad k) :: st) :=
  r_putFR (ty := (.array .int)) C hni hk.2 (ct_5 hk.1) rfl in_X6 tyX6_ok nmX6 0 (by decide) rfl rfl lk_X6_9 rfl rfl rfl rfl (Nat.le_of_ble_eq_true rfl) (by rw [ct_5 hk.1]; rfl) hdg kk
theorem pR_X6_13 (C : Cx p s m args meth c RX6 cc nL g A) (hni : meth.name = "<init>") {k q : Nat} (hk : OB n k 5) (hdg : decode cc pc = .ok (.putfield 13, 3)) (kk : V p l e Rm s m args below meth c Q nL nc ns g A ad n (putR R k 1 (some q)) I J (pc + 3) lv st) : V p l e Rm s m args below meth c Q nL nc ns g A ad n R I J pc lv (.ref (ad q) :: .ref (ad k) :: st) :=
  r_putFR (ty := (.array .int)) C hni hk.2 (ct_5 hk.1) rfl in_X6 tyX6_ok nmX6 1 (by decide) rfl rfl lk_X6_13 rfl rfl rfl rfl (Nat.le_of_ble_eq_true rfl) (by rw [ct_5 hk.1]; rfl) hdg kk
theorem pR_X6_16 (C : Cx p s m args meth c RX6 cc nL g A) (hni : meth.name = "<init>") {k q : Nat} (hk : OB n k 5) (hdg : decode cc pc = .ok (.putfield 16, 3)) (kk : V p l e Rm s m args below meth c Q nL nc ns g A ad n (putR R k 2 (some q)) I J (pc + 3) lv st) : V p l e Rm s m args below meth c Q nL nc ns g A ad n R I J pc lv (.ref (ad q) :: .ref (ad k) :: st) :=
  r_putFR (ty := (.array .int)) C hni hk.2 (ct_5 hk.1) rfl in_X6 tyX6_ok nmX6 2 (by decide) rfl rfl lk_X6_16 rfl rfl rfl rfl (Nat.le_of_ble_eq_true rfl) (by rw [ct_5 hk.1]; rfl) hdg kk
theorem pR_X0_11 (C : Cx p s m args meth c RX0 cc nL g A) (hni : meth.name = "<init>") {k q : Nat} (hk : OB n k 0) (hdg : decode cc pc = .ok (.putfield 11, 3)) (kk : V p l e Rm s m args below meth c Q nL nc ns g A ad n (putR R k 0 (some q)) I J (pc + 3) lv st) : V p l e Rm s m args below meth c Q nL nc ns g A ad n R I J pc lv (.ref (ad q) :: .ref (ad k) :: st) :=
  r_putFR (ty := (.array .int)) C hni hk.2 (ct_0 hk.1) rfl in_X0 tyX0_ok nmX0 0 (by decide) rfl rfl lk_X0_11 rfl rfl rfl rfl (Nat.le_of_ble_eq_true rfl) (by rw [ct_0 hk.1]; rfl) hdg kk
theorem pR_X10_10 (C : Cx p s m args meth c RX10 cc nL g A) (hni : meth.name = "<init>") {k q : Nat} (hk : OB n k 9) (hdg : decode cc pc = .ok (.putfield 10, 3)) (kk : V p l e Rm s m args below meth c Q nL nc ns g A ad n (putR R k 0 (some q)) I J (pc + 3) lv st) : V p l e Rm s m args below meth c Q nL nc ns g A ad n R I J pc lv (.ref (ad q) :: .ref (ad k) :: st) :=
  r_putFR (ty := (.object "UnevenTap$Tap")) C hni hk.2 (ct_9 hk.1) rfl in_X10 tyX10_ok nmX10 0 (by decide) rfl rfl lk_X10_10 rfl rfl rfl rfl (Nat.le_of_ble_eq_true rfl) (by rw [ct_9 hk.1]; rfl) hdg kk
theorem pR_X10_19 (C : Cx p s m args meth c RX10 cc nL g A) (hni : meth.name = "<init>") {k q : Nat} (hk : OB n k 9) (hdg : decode cc pc = .ok (.putfield 19, 3)) (kk : V p l e Rm s m args below meth c Q nL nc ns g A ad n (putR R k 1 (some q)) I J (pc + 3) lv st) : V p l e Rm s m args below meth c Q nL nc ns g A ad n R I J pc lv (.ref (ad q) :: .ref (ad k) :: st) :=
  r_putFR (ty := (.object "UnevenTap$Laws")) C hni hk.2 (ct_9 hk.1) rfl in_X10 tyX10_ok nmX10 1 (by decide) rfl rfl lk_X10_19 rfl rfl rfl rfl (Nat.le_of_ble_eq_true rfl) (by rw [ct_9 hk.1]; rfl) hdg kk
theorem pR_X10_26 (C : Cx p s m args meth c RX10 cc nL g A) (hni : meth.name = "<init>") {k q : Nat} (hk : OB n k 9) (hdg : decode cc pc = .ok (.putfield 26, 3)) (kk : V p l e Rm s m args below meth c Q nL nc ns g A ad n (putR R k 2 (some q)) I J (pc + 3) lv st) : V p l e Rm s m args below meth c Q nL nc ns g A ad n R I J pc lv (.ref (ad q) :: .ref (ad k) :: st) :=
  r_putFR (ty := (.object "UnevenTap$Records")) C hni hk.2 (ct_9 hk.1) rfl in_X10 tyX10_ok nmX10 2 (by decide) rfl rfl lk_X10_26 rfl rfl rfl rfl (Nat.le_of_ble_eq_true rfl) (by rw [ct_9 hk.1]; rfl) hdg kk
theorem pR_X10_30 (C : Cx p s m args meth c RX10 cc nL g A) (hni : meth.name = "<init>") {k q : Nat} (hk : OB n k 9) (hdg : decode cc pc = .ok (.putfield 30, 3)) (kk : V p l e Rm s m args below meth c Q nL nc ns g A ad n (putR R k 3 (some q)) I J (pc + 3) lv st) : V p l e Rm s m args below meth c Q nL nc ns g A ad n R I J pc lv (.ref (ad q) :: .ref (ad k) :: st) :=
  r_putFR (ty := (.object "UnevenTap$Tap")) C hni hk.2 (ct_9 hk.1) rfl in_X10 tyX10_ok nmX10 3 (by decide) rfl rfl lk_X10_30 rfl rfl rfl rfl (Nat.le_of_ble_eq_true rfl) (by rw [ct_9 hk.1]; rfl) hdg kk
theorem pR_X10_33 (C : Cx p s m args meth c RX10 cc nL g A) (hni : meth.name = "<init>") {k q : Nat} (hk : OB n k 9) (hdg : decode cc pc = .ok (.putfield 33, 3)) (kk : V p l e Rm s m args below meth c Q nL nc ns g A ad n (putR R k 4 (some q)) I J (pc + 3) lv st) : V p l e Rm s m args below meth c Q nL nc ns g A ad n R I J pc lv (.ref (ad q) :: .ref (ad k) :: st) :=
  r_putFR (ty := (.object "UnevenTap$Laws")) C hni hk.2 (ct_9 hk.1) rfl in_X10 tyX10_ok nmX10 4 (by decide) rfl rfl lk_X10_33 rfl rfl rfl rfl (Nat.le_of_ble_eq_true rfl) (by rw [ct_9 hk.1]; rfl) hdg kk
theorem pR_X10_36 (C : Cx p s m args meth c RX10 cc nL g A) (hni : meth.name = "<init>") {k q : Nat} (hk : OB n k 9) (hdg : decode cc pc = .ok (.putfield 36, 3)) (kk : V p l e Rm s m args below meth c Q nL nc ns g A ad n (putR R k 5 (some q)) I J (pc + 3) lv st) : V p l e Rm s m args below meth c Q nL nc ns g A ad n R I J pc lv (.ref (ad q) :: .ref (ad k) :: st) :=
  r_putFR (ty := (.object "UnevenTap$Records")) C hni hk.2 (ct_9 hk.1) rfl in_X10 tyX10_ok nmX10 5 (by decide) rfl rfl lk_X10_36 rfl rfl rfl rfl (Nat.le_of_ble_eq_true rfl) (by rw [ct_9 hk.1]; rfl) hdg kk
theorem pR_X10_39 (C : Cx p s m args meth c RX10 cc nL g A) (hni : meth.name = "<init>") {k q : Nat} (hk : OB n k 9) (hdg : decode cc pc = .ok (.putfield 39, 3)) (kk : V p l e Rm s m args below meth c Q nL nc ns g A ad n (putR R k 7 (some q)) I J (pc + 3) lv st) : V p l e Rm s m args below meth c Q nL nc ns g A ad n R I J pc lv (.ref (ad q) :: .ref (ad k) :: st) :=
  r_putFR (ty := (.object "UnevenTap$Tap")) C hni hk.2 (ct_9 hk.1) rfl in_X10 tyX10_ok nmX10 7 (by decide) rfl rfl lk_X10_39 rfl rfl rfl rfl (Nat.le_of_ble_eq_true rfl) (by rw [ct_9 hk.1]; rfl) hdg kk
theorem pR_X10_42 (C : Cx p s m args meth c RX10 cc nL g A) (hni : meth.name = "<init>") {k q : Nat} (hk : OB n k 9) (hdg : decode cc pc = .ok (.putfield 42, 3)) (kk : V p l e Rm s m args below meth c Q nL nc ns g A ad n (putR R k 8 (some q)) I J (pc + 3) lv st) : V p l e Rm s m args below meth c Q nL nc ns g A ad n R I J pc lv (.ref (ad q) :: .ref (ad k) :: st) :=
  r_putFR (ty := (.object "UnevenTap$Tap")) C hni hk.2 (ct_9 hk.1) rfl in_X10 tyX10_ok nmX10 8 (by decide) rfl rfl lk_X10_42 rfl rfl rfl rfl (Nat.le_of_ble_eq_true rfl) (by rw [ct_9 hk.1]; rfl) hdg kk
theorem pR_X10_48 (C : Cx p s m args meth c RX10 cc nL g A) (hni : meth.name = "<init>") {k q : Nat} (hk : OB n k 9) (hdg : decode cc pc = .ok (.putfield 48, 3)) (kk : V p l e Rm s m args below meth c Q nL nc ns g A ad n (putR R k 9 (some q)) I J (pc + 3) lv st) : V p l e Rm s m args below meth c Q nL nc ns g A ad n R I J pc lv (.ref (ad q) :: .ref (ad k) :: st) :=
  r_putFR (ty := (.object "UnevenTap$Text")) C hni hk.2 (ct_9 hk.1) rfl in_X10 tyX10_ok nmX10 9 (by decide) rfl rfl lk_X10_48 rfl rfl rfl rfl (Nat.le_of_ble_eq_true rfl) (by rw [ct_9 hk.1]; rfl) hdg kk
theorem pR_X10_55 (C : Cx p s m args meth c RX10 cc nL g A) (hni : meth.name = "<init>") {k q : Nat} (hk : OB n k 9) (hdg : decode cc pc = .ok (.putfield 55, 3)) (kk : V p l e Rm s m args below meth c Q nL nc ns g A ad n (putR R k 10 (some q)) I J (pc + 3) lv st) : V p l e Rm s m args below meth c Q nL nc ns g A ad n R I J pc lv (.ref (ad q) :: .ref (ad k) :: st) :=
  r_putFR (ty := (.object "UnevenTap$Proof")) C hni hk.2 (ct_9 hk.1) rfl in_X10 tyX10_ok nmX10 10 (by decide) rfl rfl lk_X10_55 rfl rfl rfl rfl (Nat.le_of_ble_eq_true rfl) (by rw [ct_9 hk.1]; rfl) hdg kk
theorem pR_X10_62 (C : Cx p s m args meth c RX10 cc nL g A) (hni : meth.name = "<init>") {k q : Nat} (hk : OB n k 9) (hdg : decode cc pc = .ok (.putfield 62, 3)) (kk : V p l e Rm s m args below meth c Q nL nc ns g A ad n (putR R k 11 (some q)) I J (pc + 3) lv st) : V p l e Rm s m args below meth c Q nL nc ns g A ad n R I J pc lv (.ref (ad q) :: .ref (ad k) :: st) :=
  r_putFR (ty := (.object "UnevenTap$Sheets")) C hni hk.2 (ct_9 hk.1) rfl in_X10 tyX10_ok nmX10 11 (by decide) rfl rfl lk_X10_62 rfl rfl rfl rfl (Nat.le_of_ble_eq_true rfl) (by rw [ct_9 hk.1]; rfl) hdg kk
theorem pR_X10_69 (C : Cx p s m args meth c RX10 cc nL g A) (hni : meth.name = "<init>") {k q : Nat} (hk : OB n k 9) (hdg : decode cc pc = .ok (.putfield 69, 3)) (kk : V p l e Rm s m args below meth c Q nL nc ns g A ad n (putR R k 12 (some q)) I J (pc + 3) lv st) : V p l e Rm s m args below meth c Q nL nc ns g A ad n R I J pc lv (.ref (ad q) :: .ref (ad k) :: st) :=
  r_putFR (ty := (.object "UnevenTap$Shelves")) C hni hk.2 (ct_9 hk.1) rfl in_X10 tyX10_ok nmX10 12 (by decide) rfl rfl lk_X10_69 rfl rfl rfl rfl (Nat.le_of_ble_eq_true rfl) (by rw [ct_9 hk.1]; rfl) hdg kk
theorem pR_X10_76 (C : Cx p s m args meth c RX10 cc nL g A) (hni : meth.name = "<init>") {k q : Nat} (hk : OB n k 9) (hdg : decode cc pc = .ok (.putfield 76, 3)) (kk : V p l e Rm s m args below meth c Q nL nc ns g A ad n (putR R k 13 (some q)) I J (pc + 3) lv st) : V p l e Rm s m args below meth c Q nL nc ns g A ad n R I J pc lv (.ref (ad q) :: .ref (ad k) :: st) :=
  r_putFR (ty := (.object "UnevenTap$Acts")) C hni hk.2 (ct_9 hk.1) rfl in_X10 tyX10_ok nmX10 13 (by decide) rfl rfl lk_X10_76 rfl rfl rfl rfl (Nat.le_of_ble_eq_true rfl) (by rw [ct_9 hk.1]; rfl) hdg kk
theorem pR_X11_7 (C : Cx p s m args meth c RX11 cc nL g A) (hni : meth.name = "<init>") {k q : Nat} (hk : OB n k 10) (hdg : decode cc pc = .ok (.putfield 7, 3)) (kk : V p l e Rm s m args below meth c Q nL nc ns g A ad n (putR R k 0 (some q)) I J (pc + 3) lv st) : V p l e Rm s m args below meth c Q nL nc ns g A ad n R I J pc lv (.ref (ad q) :: .ref (ad k) :: st) :=
  r_putFR (ty := (.array .int)) C hni hk.2 (ct_10 hk.1) rfl in_X11 tyX11_ok nmX11 0 (by decide) rfl rfl lk_X11_7 rfl rfl rfl rfl (Nat.le_of_ble_eq_true rfl) (by rw [ct_10 hk.1]; rfl) hdg kk
theorem pR_X11_13 (C : Cx p s m args meth c RX11 cc nL g A) (hni : meth.name = "<init>") {k q : Nat} (hk : OB n k 10) (hdg : decode cc pc = .ok (.putfield 13, 3)) (kk : V p l e Rm s m args below meth c Q nL nc ns g A ad n (putR R k 1 (some q)) I J (pc + 3) lv st) : V p l e Rm s m args below meth c Q nL nc ns g A ad n R I J pc lv (.ref (ad q) :: .ref (ad k) :: st) :=
  r_putFR (ty := (.array .int)) C hni hk.2 (ct_10 hk.1) rfl in_X11 tyX11_ok nmX11 1 (by decide) rfl rfl lk_X11_13 rfl rfl rfl rfl (Nat.le_of_ble_eq_true rfl) (by rw [ct_10 hk.1]; rfl) hdg kk
theorem pR_X11_16 (C : Cx p s m args meth c RX11 cc nL g A) (hni : meth.name = "<init>") {k q : Nat} (hk : OB n k 10) (hdg : decode cc pc = .ok (.putfield 16, 3)) (kk : V p l e Rm s m args below meth c Q nL nc ns g A ad n (putR R k 2 (some q)) I J (pc + 3) lv st) : V p l e Rm s m args below meth c Q nL nc ns g A ad n R I J pc lv (.ref (ad q) :: .ref (ad k) :: st) :=
  r_putFR (ty := (.array .long)) C hni hk.2 (ct_10 hk.1) rfl in_X11 tyX11_ok nmX11 2 (by decide) rfl rfl lk_X11_16 rfl rfl rfl rfl (Nat.le_of_ble_eq_true rfl) (by rw [ct_10 hk.1]; rfl) hdg kk
theorem pR_X11_20 (C : Cx p s m args meth c RX11 cc nL g A) (hni : meth.name = "<init>") {k q : Nat} (hk : OB n k 10) (hdg : decode cc pc = .ok (.putfield 20, 3)) (kk : V p l e Rm s m args below meth c Q nL nc ns g A ad n (putR R k 3 (some q)) I J (pc + 3) lv st) : V p l e Rm s m args below meth c Q nL nc ns g A ad n R I J pc lv (.ref (ad q) :: .ref (ad k) :: st) :=
  r_putFR (ty := (.array .long)) C hni hk.2 (ct_10 hk.1) rfl in_X11 tyX11_ok nmX11 3 (by decide) rfl rfl lk_X11_20 rfl rfl rfl rfl (Nat.le_of_ble_eq_true rfl) (by rw [ct_10 hk.1]; rfl) hdg kk
theorem pR_X11_23 (C : Cx p s m args meth c RX11 cc nL g A) (hni : meth.name = "<init>") {k q : Nat} (hk : OB n k 10) (hdg : decode cc pc = .ok (.putfield 23, 3)) (kk : V p l e Rm s m args below meth c Q nL nc ns g A ad n (putR R k 5 (some q)) I J (pc + 3) lv st) : V p l e Rm s m args below meth c Q nL nc ns g A ad n R I J pc lv (.ref (ad q) :: .ref (ad k) :: st) :=
  r_putFR (ty := (.array .int)) C hni hk.2 (ct_10 hk.1) rfl in_X11 tyX11_ok nmX11 5 (by decide) rfl rfl lk_X11_23 rfl rfl rfl rfl (Nat.le_of_ble_eq_true rfl) (by rw [ct_10 hk.1]; rfl) hdg kk
theorem pR_X11_26 (C : Cx p s m args meth c RX11 cc nL g A) (hni : meth.name = "<init>") {k q : Nat} (hk : OB n k 10) (hdg : decode cc pc = .ok (.putfield 26, 3)) (kk : V p l e Rm s m args below meth c Q nL nc ns g A ad n (putR R k 6 (some q)) I J (pc + 3) lv st) : V p l e Rm s m args below meth c Q nL nc ns g A ad n R I J pc lv (.ref (ad q) :: .ref (ad k) :: st) :=
  r_putFR (ty := (.array .int)) C hni hk.2 (ct_10 hk.1) rfl in_X11 tyX11_ok nmX11 6 (by decide) rfl rfl lk_X11_26 rfl rfl rfl rfl (Nat.le_of_ble_eq_true rfl) (by rw [ct_10 hk.1]; rfl) hdg kk
theorem pR_X11_29 (C : Cx p s m args meth c RX11 cc nL g A) (hni : meth.name = "<init>") {k q : Nat} (hk : OB n k 10) (hdg : decode cc pc = .ok (.putfield 29, 3)) (kk : V p l e Rm s m args below meth c Q nL nc ns g A ad n (putR R k 7 (some q)) I J (pc + 3) lv st) : V p l e Rm s m args below meth c Q nL nc ns g A ad n R I J pc lv (.ref (ad q) :: .ref (ad k) :: st) :=
  r_putFR (ty := (.array .int)) C hni hk.2 (ct_10 hk.1) rfl in_X11 tyX11_ok nmX11 7 (by decide) rfl rfl lk_X11_29 rfl rfl rfl rfl (Nat.le_of_ble_eq_true rfl) (by rw [ct_10 hk.1]; rfl) hdg kk
theorem pR_X11_32 (C : Cx p s m args meth c RX11 cc nL g A) (hni : meth.name = "<init>") {k q : Nat} (hk : OB n k 10) (hdg : decode cc pc = .ok (.putfield 32, 3)) (kk : V p l e Rm s m args below meth c Q nL nc ns g A ad n (putR R k 8 (some q)) I J (pc + 3) lv st) : V p l e Rm s m args below meth c Q nL nc ns g A ad n R I J pc lv (.ref (ad q) :: .ref (ad k) :: st) :=
  r_putFR (ty := (.array .int)) C hni hk.2 (ct_10 hk.1) rfl in_X11 tyX11_ok nmX11 8 (by decide) rfl rfl lk_X11_32 rfl rfl rfl rfl (Nat.le_of_ble_eq_true rfl) (by rw [ct_10 hk.1]; rfl) hdg kk
theorem pR_X11_35 (C : Cx p s m args meth c RX11 cc nL g A) (hni : meth.name = "<init>") {k q : Nat} (hk : OB n k 10) (hdg : decode cc pc = .ok (.putfield 35, 3)) (kk : V p l e Rm s m args below meth c Q nL nc ns g A ad n (putR R k 9 (some q)) I J (pc + 3) lv st) : V p l e Rm s m args below meth c Q nL nc ns g A ad n R I J pc lv (.ref (ad q) :: .ref (ad k) :: st) :=
  r_putFR (ty := (.array .int)) C hni hk.2 (ct_10 hk.1) rfl in_X11 tyX11_ok nmX11 9 (by decide) rfl rfl lk_X11_35 rfl rfl rfl rfl (Nat.le_of_ble_eq_true rfl) (by rw [ct_10 hk.1]; rfl) hdg kk
theorem pR_X11_38 (C : Cx p s m args meth c RX11 cc nL g A) (hni : meth.name = "<init>") {k q : Nat} (hk : OB n k 10) (hdg : decode cc pc = .ok (.putfield 38, 3)) (kk : V p l e Rm s m args below meth c Q nL nc ns g A ad n (putR R k 10 (some q)) I J (pc + 3) lv st) : V p l e Rm s m args below meth c Q nL nc ns g A ad n R I J pc lv (.ref (ad q) :: .ref (ad k) :: st) :=
  r_putFR (ty := (.array .int)) C hni hk.2 (ct_10 hk.1) rfl in_X11 tyX11_ok nmX11 10 (by decide) rfl rfl lk_X11_38 rfl rfl rfl rfl (Nat.le_of_ble_eq_true rfl) (by rw [ct_10 hk.1]; rfl) hdg kk
theorem pR_X11_41 (C : Cx p s m args meth c RX11 cc nL g A) (hni : meth.name = "<init>") {k q : Nat} (hk : OB n k 10) (hdg : decode cc pc = .ok (.putfield 41, 3)) (kk : V p l e Rm s m args below meth c Q nL nc ns g A ad n (putR R k 14 (some q)) I J (pc + 3) lv st) : V p l e Rm s m args below meth c Q nL nc ns g A ad n R I J pc lv (.ref (ad q) :: .ref (ad k) :: st) :=
  r_putFR (ty := (.array .int)) C hni hk.2 (ct_10 hk.1) rfl in_X11 tyX11_ok nmX11 14 (by decide) rfl rfl lk_X11_41 rfl rfl rfl rfl (Nat.le_of_ble_eq_true rfl) (by rw [ct_10 hk.1]; rfl) hdg kk
theorem pR_X11_44 (C : Cx p s m args meth c RX11 cc nL g A) (hni : meth.name = "<init>") {k q : Nat} (hk : OB n k 10) (hdg : decode cc pc = .ok (.putfield 44, 3)) (kk : V p l e Rm s m args below meth c Q nL nc ns g A ad n (putR R k 15 (some q)) I J (pc + 3) lv st) : V p l e Rm s m args below meth c Q nL nc ns g A ad n R I J pc lv (.ref (ad q) :: .ref (ad k) :: st) :=
  r_putFR (ty := (.array .int)) C hni hk.2 (ct_10 hk.1) rfl in_X11 tyX11_ok nmX11 15 (by decide) rfl rfl lk_X11_44 rfl rfl rfl rfl (Nat.le_of_ble_eq_true rfl) (by rw [ct_10 hk.1]; rfl) hdg kk
theorem pR_X11_47 (C : Cx p s m args meth c RX11 cc nL g A) (hni : meth.name = "<init>") {k q : Nat} (hk : OB n k 10) (hdg : decode cc pc = .ok (.putfield 47, 3)) (kk : V p l e Rm s m args below meth c Q nL nc ns g A ad n (putR R k 16 (some q)) I J (pc + 3) lv st) : V p l e Rm s m args below meth c Q nL nc ns g A ad n R I J pc lv (.ref (ad q) :: .ref (ad k) :: st) :=
  r_putFR (ty := (.array .int)) C hni hk.2 (ct_10 hk.1) rfl in_X11 tyX11_ok nmX11 16 (by decide) rfl rfl lk_X11_47 rfl rfl rfl rfl (Nat.le_of_ble_eq_true rfl) (by rw [ct_10 hk.1]; rfl) hdg kk
theorem pR_X11_50 (C : Cx p s m args meth c RX11 cc nL g A) (hni : meth.name = "<init>") {k q : Nat} (hk : OB n k 10) (hdg : decode cc pc = .ok (.putfield 50, 3)) (kk : V p l e Rm s m args below meth c Q nL nc ns g A ad n (putR R k 17 (some q)) I J (pc + 3) lv st) : V p l e Rm s m args below meth c Q nL nc ns g A ad n R I J pc lv (.ref (ad q) :: .ref (ad k) :: st) :=
  r_putFR (ty := (.array .int)) C hni hk.2 (ct_10 hk.1) rfl in_X11 tyX11_ok nmX11 17 (by decide) rfl rfl lk_X11_50 rfl rfl rfl rfl (Nat.le_of_ble_eq_true rfl) (by rw [ct_10 hk.1]; rfl) hdg kk
theorem pR_X11_53 (C : Cx p s m args meth c RX11 cc nL g A) (hni : meth.name = "<init>") {k q : Nat} (hk : OB n k 10) (hdg : decode cc pc = .ok (.putfield 53, 3)) (kk : V p l e Rm s m args below meth c Q nL nc ns g A ad n (putR R k 18 (some q)) I J (pc + 3) lv st) : V p l e Rm s m args below meth c Q nL nc ns g A ad n R I J pc lv (.ref (ad q) :: .ref (ad k) :: st) :=
  r_putFR (ty := (.array .int)) C hni hk.2 (ct_10 hk.1) rfl in_X11 tyX11_ok nmX11 18 (by decide) rfl rfl lk_X11_53 rfl rfl rfl rfl (Nat.le_of_ble_eq_true rfl) (by rw [ct_10 hk.1]; rfl) hdg kk
theorem pR_X11_56 (C : Cx p s m args meth c RX11 cc nL g A) (hni : meth.name = "<init>") {k q : Nat} (hk : OB n k 10) (hdg : decode cc pc = .ok (.putfield 56, 3)) (kk : V p l e Rm s m args below meth c Q nL nc ns g A ad n (putR R k 26 (some q)) I J (pc + 3) lv st) : V p l e Rm s m args below meth c Q nL nc ns g A ad n R I J pc lv (.ref (ad q) :: .ref (ad k) :: st) :=
  r_putFR (ty := (.array .int)) C hni hk.2 (ct_10 hk.1) rfl in_X11 tyX11_ok nmX11 26 (by decide) rfl rfl lk_X11_56 rfl rfl rfl rfl (Nat.le_of_ble_eq_true rfl) (by rw [ct_10 hk.1]; rfl) hdg kk
theorem pR_X11_59 (C : Cx p s m args meth c RX11 cc nL g A) (hni : meth.name = "<init>") {k q : Nat} (hk : OB n k 10) (hdg : decode cc pc = .ok (.putfield 59, 3)) (kk : V p l e Rm s m args below meth c Q nL nc ns g A ad n (putR R k 28 (some q)) I J (pc + 3) lv st) : V p l e Rm s m args below meth c Q nL nc ns g A ad n R I J pc lv (.ref (ad q) :: .ref (ad k) :: st) :=
  r_putFR (ty := (.array .int)) C hni hk.2 (ct_10 hk.1) rfl in_X11 tyX11_ok nmX11 28 (by decide) rfl rfl lk_X11_59 rfl rfl rfl rfl (Nat.le_of_ble_eq_true rfl) (by rw [ct_10 hk.1]; rfl) hdg kk
theorem pR_X11_62 (C : Cx p s m args meth c RX11 cc nL g A) (hni : meth.name = "<init>") {k q : Nat} (hk : OB n k 10) (hdg : decode cc pc = .ok (.putfield 62, 3)) (kk : V p l e Rm s m args below meth c Q nL nc ns g A ad n (putR R k 30 (some q)) I J (pc + 3) lv st) : V p l e Rm s m args below meth c Q nL nc ns g A ad n R I J pc lv (.ref (ad q) :: .ref (ad k) :: st) :=
  r_putFR (ty := (.array .int)) C hni hk.2 (ct_10 hk.1) rfl in_X11 tyX11_ok nmX11 30 (by decide) rfl rfl lk_X11_62 rfl rfl rfl rfl (Nat.le_of_ble_eq_true rfl) (by rw [ct_10 hk.1]; rfl) hdg kk
theorem pR_X11_65 (C : Cx p s m args meth c RX11 cc nL g A) (hni : meth.name = "<init>") {k q : Nat} (hk : OB n k 10) (hdg : decode cc pc = .ok (.putfield 65, 3)) (kk : V p l e Rm s m args below meth c Q nL nc ns g A ad n (putR R k 31 (some q)) I J (pc + 3) lv st) : V p l e Rm s m args below meth c Q nL nc ns g A ad n R I J pc lv (.ref (ad q) :: .ref (ad k) :: st) :=
  r_putFR (ty := (.array .int)) C hni hk.2 (ct_10 hk.1) rfl in_X11 tyX11_ok nmX11 31 (by decide) rfl rfl lk_X11_65 rfl rfl rfl rfl (Nat.le_of_ble_eq_true rfl) (by rw [ct_10 hk.1]; rfl) hdg kk
theorem pR_X11_68 (C : Cx p s m args meth c RX11 cc nL g A) (hni : meth.name = "<init>") {k q : Nat} (hk : OB n k 10) (hdg : decode cc pc = .ok (.putfield 68, 3)) (kk : V p l e Rm s m args below meth c Q nL nc ns g A ad n (putR R k 32 (some q)) I J (pc + 3) lv st) : V p l e Rm s m args below meth c Q nL nc ns g A ad n R I J pc lv (.ref (ad q) :: .ref (ad k) :: st) :=
  r_putFR (ty := (.array .int)) C hni hk.2 (ct_10 hk.1) rfl in_X11 tyX11_ok nmX11 32 (by decide) rfl rfl lk_X11_68 rfl rfl rfl rfl (Nat.le_of_ble_eq_true rfl) (by rw [ct_10 hk.1]; rfl) hdg kk
theorem pR_X11_71 (C : Cx p s m args meth c RX11 cc nL g A) (hni : meth.name = "<init>") {k q : Nat} (hk : OB n k 10) (hdg : decode cc pc = .ok (.putfield 71, 3)) (kk : V p l e Rm s m args below meth c Q nL nc ns g A ad n (putR R k 33 (some q)) I J (pc + 3) lv st) : V p l e Rm s m args below meth c Q nL nc ns g A ad n R I J pc lv (.ref (ad q) :: .ref (ad k) :: st) :=
  r_putFR (ty := (.array .int)) C hni hk.2 (ct_10 hk.1) rfl in_X11 tyX11_ok nmX11 33 (by decide) rfl rfl lk_X11_71 rfl rfl rfl rfl (Nat.le_of_ble_eq_true rfl) (by rw [ct_10 hk.1]; rfl) hdg kk
theorem pR_X11_74 (C : Cx p s m args meth c RX11 cc nL g A) (hni : meth.name = "<init>") {k q : Nat} (hk : OB n k 10) (hdg : decode cc pc = .ok (.putfield 74, 3)) (kk : V p l e Rm s m args below meth c Q nL nc ns g A ad n (putR R k 34 (some q)) I J (pc + 3) lv st) : V p l e Rm s m args below meth c Q nL nc ns g A ad n R I J pc lv (.ref (ad q) :: .ref (ad k) :: st) :=
  r_putFR (ty := (.array .int)) C hni hk.2 (ct_10 hk.1) rfl in_X11 tyX11_ok nmX11 34 (by decide) rfl rfl lk_X11_74 rfl rfl rfl rfl (Nat.le_of_ble_eq_true rfl) (by rw [ct_10 hk.1]; rfl) hdg kk
theorem pR_X11_77 (C : Cx p s m args meth c RX11 cc nL g A) (hni : meth.name = "<init>") {k q : Nat} (hk : OB n k 10) (hdg : decode cc pc = .ok (.putfield 77, 3)) (kk : V p l e Rm s m args below meth c Q nL nc ns g A ad n (putR R k 35 (some q)) I J (pc + 3) lv st) : V p l e Rm s m args below meth c Q nL nc ns g A ad n R I J pc lv (.ref (ad q) :: .ref (ad k) :: st) :=
  r_putFR (ty := (.array .int)) C hni hk.2 (ct_10 hk.1) rfl in_X11 tyX11_ok nmX11 35 (by decide) rfl rfl lk_X11_77 rfl rfl rfl rfl (Nat.le_of_ble_eq_true rfl) (by rw [ct_10 hk.1]; rfl) hdg kk
theorem pR_X11_80 (C : Cx p s m args meth c RX11 cc nL g A) (hni : meth.name = "<init>") {k q : Nat} (hk : OB n k 10) (hdg : decode cc pc = .ok (.putfield 80, 3)) (kk : V p l e Rm s m args below meth c Q nL nc ns g A ad n (putR R k 39 (some q)) I J (pc + 3) lv st) : V p l e Rm s m args below meth c Q nL nc ns g A ad n R I J pc lv (.ref (ad q) :: .ref (ad k) :: st) :=
  r_putFR (ty := (.array .int)) C hni hk.2 (ct_10 hk.1) rfl in_X11 tyX11_ok nmX11 39 (by decide) rfl rfl lk_X11_80 rfl rfl rfl rfl (Nat.le_of_ble_eq_true rfl) (by rw [ct_10 hk.1]; rfl) hdg kk
end INIT

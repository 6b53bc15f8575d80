/-! what a law is worth: one picture for the two stacks -/
def ud (f : Nat → Int32) (j : Nat) (v : Int32) : Nat → Int32 := fun i => if i = j then v else f i
theorem ud_e (f : Nat → Int32) (j : Nat) (v : Int32) : ud f j v j = v := if_pos rfl
theorem ud_n {f : Nat → Int32} {j i : Nat} {v : Int32} (h : i ≠ j) : ud f j v i = f i := if_neg h
def jnd (a c b : Int32) : Int32 := if c = 20037 then (if b = 0 then 0 else jrem a b) else if c = 20042 then a * b else if c = 20043 then a + b else if c = 20045 then a - b else if c = 20047 then (if b = 0 then 0 else a / b) else if c = 20060 then (if b ≤ a then 0 else 1) else if c = 20061 then (if a = b then 1 else 0) else (if a ≤ b then 0 else 1)
def valC (x : Nat → Int32) (c : Int32) : Int32 := if c < 10000 then c else x (c - 10000).toNatClampNeg
def cel (x : Nat → Int32) (c : Int32) (q : Nat × (Nat → Int32)) : Nat × (Nat → Int32) := if c = 20126 then (q.1, ud q.2 (q.1 - 1) (-(q.2 (q.1 - 1)))) else if c < 20000 then (q.1 + 1, ud q.2 q.1 (valC x c)) else (q.1 - 1, ud q.2 (q.1 - 2) (jnd (q.2 (q.1 - 2)) c (q.2 (q.1 - 1))))
def rn (x f : Nat → Int32) : Nat → Nat × (Nat → Int32)
  | 0 => (0, fun _ => 0)
  | n + 1 => cel x (f n) (rn x f n)
def evl (x f : Nat → Int32) (n : Nat) : Int32 := (rn x f n).2 0
def okC (c : Int32) (m : Nat) : Prop := (isVal c ∧ m < 32) ∨ (c = 20126 ∧ 0 < m ∧ m ≤ 32) ∨ (isSg c ∧ 2 ≤ m ∧ m ≤ 32)
theorem isVal_n {c : Int32} (h : isVal c) : ∃ n, n ≤ 10006 ∧ c = nI n := by
  have e0 : (0 : Int32).toInt = 0 := by decide
  rcases h with ⟨h1, h2⟩ | ⟨h1, h2⟩
  · obtain ⟨n, hn, e, e2⟩ := nI_of0 (x := c) h1
    exact ⟨n, by omega, e⟩
  · obtain ⟨n, hn, e, e2⟩ := nI_of0 (x := c) (by omega)
    exact ⟨n, by omega, e⟩
theorem isSg_n {c : Int32} (h : isSg c) : ∃ n, (n = 43 ∨ n = 45 ∨ n = 42 ∨ n = 47 ∨ n = 37 ∨ n = 60 ∨ n = 61 ∨ n = 62) ∧ c = nI (20000 + n) := by
  rcases h with h | h | h | h | h | h | h | h
  · exact ⟨43, by omega, h⟩
  · exact ⟨45, by omega, h⟩
  · exact ⟨42, by omega, h⟩
  · exact ⟨47, by omega, h⟩
  · exact ⟨37, by omega, h⟩
  · exact ⟨60, by omega, h⟩
  · exact ⟨61, by omega, h⟩
  · exact ⟨62, by omega, h⟩
theorem cel_v {x : Nat → Int32} {c : Int32} {q : Nat × (Nat → Int32)} (h : isVal c) : cel x c q = (q.1 + 1, ud q.2 q.1 (valC x c)) := by
  obtain ⟨n, hn, e⟩ := isVal_n h
  unfold cel
  rw [e, if_neg (by rw [N_20126, eq_nn (by omega) (by omega)]; omega), if_pos (by rw [N_20000, lt_nn (by omega) (by omega)]; omega)]
theorem cel_m {x : Nat → Int32} {q : Nat × (Nat → Int32)} : cel x 20126 q = (q.1, ud q.2 (q.1 - 1) (-(q.2 (q.1 - 1)))) := if_pos rfl
theorem cel_s {x : Nat → Int32} {c : Int32} {q : Nat × (Nat → Int32)} (h : isSg c) : cel x c q = (q.1 - 1, ud q.2 (q.1 - 2) (jnd (q.2 (q.1 - 2)) c (q.2 (q.1 - 1)))) := by
  obtain ⟨n, hn, e⟩ := isSg_n h
  unfold cel
  rw [e, if_neg (by rw [N_20126, eq_nn (by omega) (by omega)]; omega), if_neg (by rw [N_20000, lt_nn (by omega) (by omega)]; omega)]
theorem hgt_rn {x f : Nat → Int32} : ∀ {n h : Nat}, hgt f n 0 h → (rn x f n).1 = h ∧ ∀ i, i < n → okC (f i) (rn x f i).1
  | 0, h, e => ⟨e.symm, fun i hi => by omega⟩
  | n + 1, h, ⟨m, a, b⟩ => by
    obtain ⟨e1, e2⟩ := hgt_rn (x := x) a
    have hl : okC (f n) (rn x f n).1 ∧ (rn x f (n + 1)).1 = h := by
      show okC (f n) (rn x f n).1 ∧ (cel x (f n) (rn x f n)).1 = h
      rw [e1]
      rcases b with ⟨b1, b2, b3⟩ | ⟨b1, b2, b3, b4⟩ | ⟨b1, b2, b3, b4⟩
      · rw [cel_v b1]
        exact ⟨Or.inl ⟨b1, b2⟩, by show (rn x f n).1 + 1 = h; omega⟩
      · rw [b1, cel_m]
        exact ⟨Or.inr (Or.inl ⟨rfl, b2, b3⟩), by show (rn x f n).1 = h; omega⟩
      · rw [cel_s b1]
        exact ⟨Or.inr (Or.inr ⟨b1, b2, b3⟩), by show (rn x f n).1 - 1 = h; omega⟩
    refine ⟨hl.2, fun i hi => ?_⟩
    by_cases q : i = n
    · rw [q]; exact hl.1
    · exact e2 i (by omega)
theorem named_s {k j : Nat} {I : HI} {J : HJ} (h : j ≤ 6) : f_X7_named k (nI j) I J = some (I k (j + 1)) := by
  have hj : j = 0 ∨ j = 1 ∨ j = 2 ∨ j = 3 ∨ j = 4 ∨ j = 5 ∨ j = 6 := by omega
  unfold f_X7_named
  rcases hj with rfl | rfl | rfl | rfl | rfl | rfl | rfl
  · rw [if_pos (show (nI 0 : Int32) = 0 by decide)]
  · rw [if_neg (show ¬ (nI 1 : Int32) = 0 by decide), if_pos (show (nI 1 : Int32) = 1 by decide)]
  · rw [if_neg (show ¬ (nI 2 : Int32) = 0 by decide), if_neg (show ¬ (nI 2 : Int32) = 1 by decide), if_pos (show (nI 2 : Int32) = 2 by decide)]
  · rw [if_neg (show ¬ (nI 3 : Int32) = 0 by decide), if_neg (show ¬ (nI 3 : Int32) = 1 by decide), if_neg (show ¬ (nI 3 : Int32) = 2 by decide), if_pos (show (nI 3 : Int32) = 3 by decide)]
  · rw [if_neg (show ¬ (nI 4 : Int32) = 0 by decide), if_neg (show ¬ (nI 4 : Int32) = 1 by decide), if_neg (show ¬ (nI 4 : Int32) = 2 by decide), if_neg (show ¬ (nI 4 : Int32) = 3 by decide), if_pos (show (nI 4 : Int32) = 4 by decide)]
  · rw [if_neg (show ¬ (nI 5 : Int32) = 0 by decide), if_neg (show ¬ (nI 5 : Int32) = 1 by decide), if_neg (show ¬ (nI 5 : Int32) = 2 by decide), if_neg (show ¬ (nI 5 : Int32) = 3 by decide), if_neg (show ¬ (nI 5 : Int32) = 4 by decide), if_pos (show (nI 5 : Int32) = 5 by decide)]
  · rw [if_neg (show ¬ (nI 6 : Int32) = 0 by decide), if_neg (show ¬ (nI 6 : Int32) = 1 by decide), if_neg (show ¬ (nI 6 : Int32) = 2 by decide), if_neg (show ¬ (nI 6 : Int32) = 3 by decide), if_neg (show ¬ (nI 6 : Int32) = 4 by decide), if_neg (show ¬ (nI 6 : Int32) = 5 by decide), if_pos (show (nI 6 : Int32) = 6 by decide)]
theorem joined_s {a c b : Int32} (h : isSg c) : f_X2_joined a (c - 20000) b = some (jnd a c b) := by
  unfold f_X2_joined jnd
  rcases h with h | h | h | h | h | h | h | h <;> subst h
  · rw [if_neg (show ¬ (20043 - 20000 : Int32) = 37 by decide), if_neg (show ¬ (20043 - 20000 : Int32) = 42 by decide), if_pos (show (20043 - 20000 : Int32) = 43 by decide), if_neg (show ¬ (20043 : Int32) = 20037 by decide), if_neg (show ¬ (20043 : Int32) = 20042 by decide), if_pos (show (20043 : Int32) = 20043 by decide)]
  · rw [if_neg (show ¬ (20045 - 20000 : Int32) = 37 by decide), if_neg (show ¬ (20045 - 20000 : Int32) = 42 by decide), if_neg (show ¬ (20045 - 20000 : Int32) = 43 by decide), if_pos (show (20045 - 20000 : Int32) = 45 by decide), if_neg (show ¬ (20045 : Int32) = 20037 by decide), if_neg (show ¬ (20045 : Int32) = 20042 by decide), if_neg (show ¬ (20045 : Int32) = 20043 by decide), if_pos (show (20045 : Int32) = 20045 by decide)]
  · rw [if_neg (show ¬ (20042 - 20000 : Int32) = 37 by decide), if_pos (show (20042 - 20000 : Int32) = 42 by decide), if_neg (show ¬ (20042 : Int32) = 20037 by decide), if_pos (show (20042 : Int32) = 20042 by decide)]
  · rw [if_neg (show ¬ (20047 - 20000 : Int32) = 37 by decide), if_neg (show ¬ (20047 - 20000 : Int32) = 42 by decide), if_neg (show ¬ (20047 - 20000 : Int32) = 43 by decide), if_neg (show ¬ (20047 - 20000 : Int32) = 45 by decide), if_pos (show (20047 - 20000 : Int32) = 47 by decide), if_neg (show ¬ (20047 : Int32) = 20037 by decide), if_neg (show ¬ (20047 : Int32) = 20042 by decide), if_neg (show ¬ (20047 : Int32) = 20043 by decide), if_neg (show ¬ (20047 : Int32) = 20045 by decide), if_pos (show (20047 : Int32) = 20047 by decide)]
    by_cases hb : b = 0
    · rw [if_pos hb, if_pos hb]
    · rw [if_neg hb, if_neg hb, if_neg hb]
  · rw [if_pos (show (20037 - 20000 : Int32) = 37 by decide), if_pos (show (20037 : Int32) = 20037 by decide)]
    by_cases hb : b = 0
    · rw [if_pos hb, if_pos hb]
    · rw [if_neg hb, if_neg hb, if_neg hb]
  · rw [if_neg (show ¬ (20060 - 20000 : Int32) = 37 by decide), if_neg (show ¬ (20060 - 20000 : Int32) = 42 by decide), if_neg (show ¬ (20060 - 20000 : Int32) = 43 by decide), if_neg (show ¬ (20060 - 20000 : Int32) = 45 by decide), if_neg (show ¬ (20060 - 20000 : Int32) = 47 by decide), if_pos (show (20060 - 20000 : Int32) = 60 by decide), if_neg (show ¬ (20060 : Int32) = 20037 by decide), if_neg (show ¬ (20060 : Int32) = 20042 by decide), if_neg (show ¬ (20060 : Int32) = 20043 by decide), if_neg (show ¬ (20060 : Int32) = 20045 by decide), if_neg (show ¬ (20060 : Int32) = 20047 by decide), if_pos (show (20060 : Int32) = 20060 by decide)]
    by_cases hb : b ≤ a
    · rw [if_pos hb, if_pos hb]
    · rw [if_neg hb, if_neg hb]
  · rw [if_neg (show ¬ (20061 - 20000 : Int32) = 37 by decide), if_neg (show ¬ (20061 - 20000 : Int32) = 42 by decide), if_neg (show ¬ (20061 - 20000 : Int32) = 43 by decide), if_neg (show ¬ (20061 - 20000 : Int32) = 45 by decide), if_neg (show ¬ (20061 - 20000 : Int32) = 47 by decide), if_neg (show ¬ (20061 - 20000 : Int32) = 60 by decide), if_pos (show (20061 - 20000 : Int32) = 61 by decide), if_neg (show ¬ (20061 : Int32) = 20037 by decide), if_neg (show ¬ (20061 : Int32) = 20042 by decide), if_neg (show ¬ (20061 : Int32) = 20043 by decide), if_neg (show ¬ (20061 : Int32) = 20045 by decide), if_neg (show ¬ (20061 : Int32) = 20047 by decide), if_neg (show ¬ (20061 : Int32) = 20060 by decide), if_pos (show (20061 : Int32) = 20061 by decide)]
    by_cases hb : a = b
    · rw [if_pos hb, if_pos hb]
    · rw [if_neg hb, if_neg hb]
  · rw [if_neg (show ¬ (20062 - 20000 : Int32) = 37 by decide), if_neg (show ¬ (20062 - 20000 : Int32) = 42 by decide), if_neg (show ¬ (20062 - 20000 : Int32) = 43 by decide), if_neg (show ¬ (20062 - 20000 : Int32) = 45 by decide), if_neg (show ¬ (20062 - 20000 : Int32) = 47 by decide), if_neg (show ¬ (20062 - 20000 : Int32) = 60 by decide), if_neg (show ¬ (20062 - 20000 : Int32) = 61 by decide), if_pos (show (20062 - 20000 : Int32) = 62 by decide), if_neg (show ¬ (20062 : Int32) = 20037 by decide), if_neg (show ¬ (20062 : Int32) = 20042 by decide), if_neg (show ¬ (20062 : Int32) = 20043 by decide), if_neg (show ¬ (20062 : Int32) = 20045 by decide), if_neg (show ¬ (20062 : Int32) = 20047 by decide), if_neg (show ¬ (20062 : Int32) = 20060 by decide), if_neg (show ¬ (20062 : Int32) = 20061 by decide)]
    by_cases hb : a ≤ b
    · rw [if_pos hb, if_pos hb]
    · rw [if_neg hb, if_neg hb]
theorem both_s {a c b : Int32} (h : isSg c) : f_X11_both (trC c) a b = some (jnd a c b) := by
  rcases h with h | h | h | h | h | h | h | h <;> subst h
  · rw [show trC 20043 = 10011 from rfl]
    unfold f_X11_both jnd
    rw [if_pos (show (10011 : Int32) = 10011 by decide), if_neg (show ¬ (20043 : Int32) = 20037 by decide), if_neg (show ¬ (20043 : Int32) = 20042 by decide), if_pos (show (20043 : Int32) = 20043 by decide)]
  · rw [show trC 20045 = 10012 from rfl]
    unfold f_X11_both jnd
    rw [if_neg (show ¬ (10012 : Int32) = 10011 by decide), if_pos (show (10012 : Int32) = 10012 by decide), if_neg (show ¬ (20045 : Int32) = 20037 by decide), if_neg (show ¬ (20045 : Int32) = 20042 by decide), if_neg (show ¬ (20045 : Int32) = 20043 by decide), if_pos (show (20045 : Int32) = 20045 by decide)]
  · rw [show trC 20042 = 10013 from rfl]
    unfold f_X11_both jnd
    rw [if_neg (show ¬ (10013 : Int32) = 10011 by decide), if_neg (show ¬ (10013 : Int32) = 10012 by decide), if_pos (show (10013 : Int32) = 10013 by decide), if_neg (show ¬ (20042 : Int32) = 20037 by decide), if_pos (show (20042 : Int32) = 20042 by decide)]
  · rw [show trC 20047 = 10014 from rfl]
    unfold f_X11_both jnd
    rw [if_neg (show ¬ (10014 : Int32) = 10011 by decide), if_neg (show ¬ (10014 : Int32) = 10012 by decide), if_neg (show ¬ (10014 : Int32) = 10013 by decide), if_pos (show (10014 : Int32) = 10014 by decide), if_neg (show ¬ (20047 : Int32) = 20037 by decide), if_neg (show ¬ (20047 : Int32) = 20042 by decide), if_neg (show ¬ (20047 : Int32) = 20043 by decide), if_neg (show ¬ (20047 : Int32) = 20045 by decide), if_pos (show (20047 : Int32) = 20047 by decide)]
    by_cases hb : b = 0
    · rw [if_pos hb, if_pos hb]
    · rw [if_neg hb, if_neg hb, if_neg hb]
  · rw [show trC 20037 = 10015 from rfl]
    unfold f_X11_both jnd
    rw [if_neg (show ¬ (10015 : Int32) = 10011 by decide), if_neg (show ¬ (10015 : Int32) = 10012 by decide), if_neg (show ¬ (10015 : Int32) = 10013 by decide), if_neg (show ¬ (10015 : Int32) = 10014 by decide), if_pos (show (10015 : Int32) = 10015 by decide), if_pos (show (20037 : Int32) = 20037 by decide)]
    by_cases hb : b = 0
    · rw [if_pos hb, if_pos hb]
    · rw [if_neg hb, if_neg hb, if_neg hb]
  · rw [show trC 20060 = 10016 from rfl]
    unfold f_X11_both jnd
    rw [if_neg (show ¬ (10016 : Int32) = 10011 by decide), if_neg (show ¬ (10016 : Int32) = 10012 by decide), if_neg (show ¬ (10016 : Int32) = 10013 by decide), if_neg (show ¬ (10016 : Int32) = 10014 by decide), if_neg (show ¬ (10016 : Int32) = 10015 by decide), if_pos (show (10016 : Int32) = 10016 by decide), if_neg (show ¬ (20060 : Int32) = 20037 by decide), if_neg (show ¬ (20060 : Int32) = 20042 by decide), if_neg (show ¬ (20060 : Int32) = 20043 by decide), if_neg (show ¬ (20060 : Int32) = 20045 by decide), if_neg (show ¬ (20060 : Int32) = 20047 by decide), if_pos (show (20060 : Int32) = 20060 by decide)]
    by_cases hb : b ≤ a
    · rw [if_pos hb, if_pos hb]
    · rw [if_neg hb, if_neg hb]
  · rw [show trC 20061 = 10017 from rfl]
    unfold f_X11_both jnd
    rw [if_neg (show ¬ (10017 : Int32) = 10011 by decide), if_neg (show ¬ (10017 : Int32) = 10012 by decide), if_neg (show ¬ (10017 : Int32) = 10013 by decide), if_neg (show ¬ (10017 : Int32) = 10014 by decide), if_neg (show ¬ (10017 : Int32) = 10015 by decide), if_neg (show ¬ (10017 : Int32) = 10016 by decide), if_pos (show (10017 : Int32) = 10017 by decide), if_neg (show ¬ (20061 : Int32) = 20037 by decide), if_neg (show ¬ (20061 : Int32) = 20042 by decide), if_neg (show ¬ (20061 : Int32) = 20043 by decide), if_neg (show ¬ (20061 : Int32) = 20045 by decide), if_neg (show ¬ (20061 : Int32) = 20047 by decide), if_neg (show ¬ (20061 : Int32) = 20060 by decide), if_pos (show (20061 : Int32) = 20061 by decide)]
    by_cases hb : a = b
    · rw [if_pos hb, if_pos hb]
    · rw [if_neg hb, if_neg hb]
  · rw [show trC 20062 = 10018 from rfl]
    unfold f_X11_both jnd
    rw [if_neg (show ¬ (10018 : Int32) = 10011 by decide), if_neg (show ¬ (10018 : Int32) = 10012 by decide), if_neg (show ¬ (10018 : Int32) = 10013 by decide), if_neg (show ¬ (10018 : Int32) = 10014 by decide), if_neg (show ¬ (10018 : Int32) = 10015 by decide), if_neg (show ¬ (10018 : Int32) = 10016 by decide), if_neg (show ¬ (10018 : Int32) = 10017 by decide), if_neg (show ¬ (20062 : Int32) = 20037 by decide), if_neg (show ¬ (20062 : Int32) = 20042 by decide), if_neg (show ¬ (20062 : Int32) = 20043 by decide), if_neg (show ¬ (20062 : Int32) = 20045 by decide), if_neg (show ¬ (20062 : Int32) = 20047 by decide), if_neg (show ¬ (20062 : Int32) = 20060 by decide), if_neg (show ¬ (20062 : Int32) = 20061 by decide)]
    by_cases hb : a ≤ b
    · rw [if_pos hb, if_pos hb]
    · rw [if_neg hb, if_neg hb]
theorem trC_v {c : Int32} (h : isVal c) : trC c = c := by
  obtain ⟨n, hn, e⟩ := isVal_n h
  have hne : ∀ k, 20000 ≤ k → k < 30000 → ¬ nI n = nI k := fun k h1 h2 q => by
    rw [eq_nn (by omega) (by omega)] at q
    omega
  unfold trC
  rw [e]
  have e1 := hne 20043 (by omega) (by omega)
  have e2 := hne 20045 (by omega) (by omega)
  have e3 := hne 20042 (by omega) (by omega)
  have e4 := hne 20047 (by omega) (by omega)
  have e5 := hne 20037 (by omega) (by omega)
  have e6 := hne 20060 (by omega) (by omega)
  have e7 := hne 20061 (by omega) (by omega)
  have e8 := hne 20062 (by omega) (by omega)
  have e9 := hne 20126 (by omega) (by omega)
  exact (if_neg e1).trans ((if_neg e2).trans ((if_neg e3).trans ((if_neg e4).trans ((if_neg e5).trans ((if_neg e6).trans ((if_neg e7).trans ((if_neg e8).trans (if_neg e9))))))))
theorem trC_s {c : Int32} (h : isSg c) : ∃ t, 10011 ≤ t ∧ t ≤ 10018 ∧ trC c = nI t := by
  rcases h with h | h | h | h | h | h | h | h <;> subst h
  · exact ⟨10011, by omega, by omega, rfl⟩
  · exact ⟨10012, by omega, by omega, rfl⟩
  · exact ⟨10013, by omega, by omega, rfl⟩
  · exact ⟨10014, by omega, by omega, rfl⟩
  · exact ⟨10015, by omega, by omega, rfl⟩
  · exact ⟨10016, by omega, by omega, rfl⟩
  · exact ⟨10017, by omega, by omega, rfl⟩
  · exact ⟨10018, by omega, by omega, rfl⟩
theorem trC_m : trC 20126 = nI 10010 := by
  unfold trC
  rw [if_neg (show ¬ (20126 : Int32) = 20043 by decide), if_neg (show ¬ (20126 : Int32) = 20045 by decide), if_neg (show ¬ (20126 : Int32) = 20042 by decide), if_neg (show ¬ (20126 : Int32) = 20047 by decide), if_neg (show ¬ (20126 : Int32) = 20037 by decide), if_neg (show ¬ (20126 : Int32) = 20060 by decide), if_neg (show ¬ (20126 : Int32) = 20061 by decide), if_neg (show ¬ (20126 : Int32) = 20062 by decide), if_pos rfl]
  exact N_10010
theorem pr1 {m : Nat} (h : 1 ≤ m) : nI m + -nI 1 = nI (m - 1) := by
  obtain ⟨p, rfl⟩ : ∃ p, m = p + 1 := ⟨m - 1, by omega⟩
  exact prd1 p
theorem valC_lo {x : Nat → Int32} {n : Nat} (h : n < 10000) : valC x (nI n) = nI n := by
  unfold valC
  rw [if_pos (by rw [N_10000, lt_nn (by omega) (by omega)]; omega)]
theorem valC_hi {x : Nat → Int32} {n : Nat} (h1 : 10000 ≤ n) (h2 : n ≤ 10006) : valC x (nI n) = x (n - 10000) := by
  unfold valC
  rw [if_neg (by rw [N_10000, lt_nn (by omega) (by omega)]; omega), N_10000, sb _ _ h1, cl_nI (by omega)]
theorem cworth_s {q a n : Nat} {c x : Nat → Int32} {J : HJ} (hq : q < 4) (ha : a ≠ 12) (hn : n ≤ 200) (hh : hgt c n 0 1) : ∀ I : HI, I 10 q = nI n → (∀ i, i < n → I (6 + q) i = c i) → (∀ j, j < 7 → I a (j + 1) = x j) → ∃ I1, f_X2_worth 4 (nI q) a I J = some (evl x c n, I1) ∧ ∀ b, b ≠ 12 → I1 b = I b := by
  obtain ⟨hE, hO⟩ := hgt_rn (x := x) hh
  have l := lay1 (k := 4) rfl
  have r0 : rfn 4 0 = 5 := l.1
  have r1 : rfn 4 1 = 10 := l.2.1
  have r3 : rfn 4 3 = 12 := l.2.2.2.1
  have rq : rfn 5 q = 6 + q := l.2.2.2.2 q hq
  have key : ∀ d i f, i + d = n → d < f → ∀ I : HI, I 10 q = nI n → (∀ i, i < n → I (6 + q) i = c i) → (∀ j, j < 7 → I a (j + 1) = x j) → (∀ j, j < (rn x c i).1 → I 12 j = (rn x c i).2 j) → ∃ I1, fL_X2_worth_15 4 (nI q) a f (nI (rn x c i).1) (nI i) I J = some (evl x c n, I1) ∧ ∀ b, b ≠ 12 → I1 b = I b := by
    refine fuel (L := fL_X2_worth_15 4 (nI q) a) (B := fLB_X2_worth_15 4 (nI q) a) (fun _ => rfl) (P := fun i g => ∀ I : HI, I 10 q = nI n → (∀ i, i < n → I (6 + q) i = c i) → (∀ j, j < 7 → I a (j + 1) = x j) → (∀ j, j < (rn x c i).1 → I 12 j = (rn x c i).2 j) → ∃ I1, g (nI (rn x c i).1) (nI i) I J = some (evl x c n, I1) ∧ ∀ b, b ≠ 12 → I1 b = I b) (fun g I h1 h2 h3 h4 => ?_) (fun i g hi ih I h1 h2 h3 h4 => ?_)
    · refine ⟨I, ?_, fun _ _ => rfl⟩
      have e0 : I 12 0 = (rn x c n).2 0 := h4 0 (by rw [hE]; omega)
      rw [hE]
      unfold fLB_X2_worth_15 fB_X2_worth_119
      simp (disch := omega) only [bd1_s, bd2_s, bd3_s, nm_s, wi_s, ite_bI, bI_1, le_pred, if_true, in_x, cl_nI, vin_nI, nI_add, nI_mul, le_nn, lt_nn, eq_nn, sb, reduceIte, N_0, N_1, N_2, N_3, N_4, N_5, N_6, N_7, N_8, N_9, N_10, N_11, N_12, N_13, N_14, N_16, N_20, N_30, N_31, N_32, N_37, N_40, N_41, N_42, N_43, N_45, N_47, N_48, N_50, N_57, N_59, N_60, N_61, N_62, N_70, N_71, N_72, N_80, N_81, N_82, N_83, N_97, N_98, N_99, N_100, N_101, N_102, N_103, N_104, N_105, N_107, N_108, N_110, N_111, N_112, N_114, N_115, N_116, N_117, N_119, N_121, N_122, N_200, N_220, N_255, N_256, N_257, N_258, N_400, N_438, N_446, N_666, N_999, N_9999, N_10000, N_10010, N_10011, N_10012, N_10013, N_10014, N_10015, N_10016, N_10017, N_10018, N_12345, N_20000, N_20126, N_99999, N_1103515245, L_m999, L_m1, L_0, L_1, L_2, L_3, L_4, L_7, L_8, L_9, L_10, L_12, L_14, L_40, L_48, L_57, L_97, L_99, L_122, L_255, L_400, L_999, L_9999, if_pos, if_neg, pE, pN, cE, cN, r1, r3, h1]
      exact congrArg (fun z => some (z, I)) e0
    · have hok := hO i hi
      have ed : rn x c (i + 1) = cel x (c i) (rn x c i) := rfl
      rw [ed] at ih
      obtain ⟨m, hm⟩ : ∃ m, m = (rn x c i).1 := ⟨_, rfl⟩
      obtain ⟨S, hS⟩ : ∃ S, S = (rn x c i).2 := ⟨_, rfl⟩
      rw [← hm] at hok h4 ⊢
      rw [← hS] at h4
      rcases hok with ⟨v1, v2⟩ | ⟨v1, v2, v3⟩ | ⟨v1, v2, v3⟩
      · rw [cel_v v1, ← hm, ← hS] at ih
        obtain ⟨I1, k1, k2⟩ := ih (put I 12 m (valC x (c i))) (by rw [pN (by omega)]; exact h1) (fun j hj => by rw [pN (by omega)]; exact h2 j hj) (fun j hj => by rw [pN (by omega)]; exact h3 j hj) (fun j hj => by
          show put I 12 m (valC x (c i)) 12 j = ud S m (valC x (c i)) j
          by_cases e : j = m
          · rw [e, pE rfl rfl, ud_e]
          · have hj2 : j < m + 1 := hj
            rw [pN (by omega), ud_n e]; exact h4 j (by omega))
        refine ⟨I1, ?_, fun b hb => (k2 b hb).trans (put_ne b hb)⟩
        have k1' : g (nI (m + 1)) (nI (i + 1)) (put I 12 m (valC x (c i))) J = some (evl x c n, I1) := k1
        obtain ⟨n', hn', ec⟩ := isVal_n v1
        have hci := h2 i hi
        rw [ec] at k1' hci
        unfold fLB_X2_worth_15 fB_X2_worth_109 fB_X2_worth_113 f_X2_push
        by_cases hb : 10000 ≤ n'
        · have hx := h3 (n' - 10000) (by omega)
          rw [valC_hi hb hn'] at k1'
          simp (disch := omega) only [bd1_s, bd2_s, bd3_s, nm_s, wi_s, ite_bI, bI_1, le_pred, if_true, in_x, cl_nI, vin_nI, nI_add, nI_mul, le_nn, lt_nn, eq_nn, sb, reduceIte, N_0, N_1, N_2, N_3, N_4, N_5, N_6, N_7, N_8, N_9, N_10, N_11, N_12, N_13, N_14, N_16, N_20, N_30, N_31, N_32, N_37, N_40, N_41, N_42, N_43, N_45, N_47, N_48, N_50, N_57, N_59, N_60, N_61, N_62, N_70, N_71, N_72, N_80, N_81, N_82, N_83, N_97, N_98, N_99, N_100, N_101, N_102, N_103, N_104, N_105, N_107, N_108, N_110, N_111, N_112, N_114, N_115, N_116, N_117, N_119, N_121, N_122, N_200, N_220, N_255, N_256, N_257, N_258, N_400, N_438, N_446, N_666, N_999, N_9999, N_10000, N_10010, N_10011, N_10012, N_10013, N_10014, N_10015, N_10016, N_10017, N_10018, N_12345, N_20000, N_20126, N_99999, N_1103515245, L_m999, L_m1, L_0, L_1, L_2, L_3, L_4, L_7, L_8, L_9, L_10, L_12, L_14, L_40, L_48, L_57, L_97, L_99, L_122, L_255, L_400, L_999, L_9999, if_pos, if_neg, pE, pN, cE, cN, r0, r1, rq, r3, h1, hci, named_s, hx]
          exact k1'
        · rw [valC_lo (by omega)] at k1'
          simp (disch := omega) only [bd1_s, bd2_s, bd3_s, nm_s, wi_s, ite_bI, bI_1, le_pred, if_true, in_x, cl_nI, vin_nI, nI_add, nI_mul, le_nn, lt_nn, eq_nn, sb, reduceIte, N_0, N_1, N_2, N_3, N_4, N_5, N_6, N_7, N_8, N_9, N_10, N_11, N_12, N_13, N_14, N_16, N_20, N_30, N_31, N_32, N_37, N_40, N_41, N_42, N_43, N_45, N_47, N_48, N_50, N_57, N_59, N_60, N_61, N_62, N_70, N_71, N_72, N_80, N_81, N_82, N_83, N_97, N_98, N_99, N_100, N_101, N_102, N_103, N_104, N_105, N_107, N_108, N_110, N_111, N_112, N_114, N_115, N_116, N_117, N_119, N_121, N_122, N_200, N_220, N_255, N_256, N_257, N_258, N_400, N_438, N_446, N_666, N_999, N_9999, N_10000, N_10010, N_10011, N_10012, N_10013, N_10014, N_10015, N_10016, N_10017, N_10018, N_12345, N_20000, N_20126, N_99999, N_1103515245, L_m999, L_m1, L_0, L_1, L_2, L_3, L_4, L_7, L_8, L_9, L_10, L_12, L_14, L_40, L_48, L_57, L_97, L_99, L_122, L_255, L_400, L_999, L_9999, if_pos, if_neg, pE, pN, cE, cN, r0, r1, rq, r3, h1, hci]
          exact k1'
      · rw [v1, cel_m, ← hm, ← hS] at ih
        obtain ⟨I1, k1, k2⟩ := ih (put I 12 (m - 1) (-(S (m - 1)))) (by rw [pN (by omega)]; exact h1) (fun j hj => by rw [pN (by omega)]; exact h2 j hj) (fun j hj => by rw [pN (by omega)]; exact h3 j hj) (fun j hj => by
          show put I 12 (m - 1) (-(S (m - 1))) 12 j = ud S (m - 1) (-(S (m - 1))) j
          by_cases e : j = m - 1
          · rw [e, pE rfl rfl, ud_e]
          · have hj2 : j < m := hj
            rw [pN (by omega), ud_n e]; exact h4 j (by omega))
        refine ⟨I1, ?_, fun b hb => (k2 b hb).trans (put_ne b hb)⟩
        have k1' : g (nI m) (nI (i + 1)) (put I 12 (m - 1) (-(S (m - 1)))) J = some (evl x c n, I1) := k1
        have hci := h2 i hi
        rw [v1, N_20126] at hci
        have hm1 := h4 (m - 1) (by omega)
        unfold fLB_X2_worth_15 f_X2_negateTop fB_X2_worth_113
        simp (disch := omega) only [bd1_s, bd2_s, bd3_s, nm_s, wi_s, ite_bI, bI_1, le_pred, if_true, in_x, cl_nI, vin_nI, nI_add, nI_mul, le_nn, lt_nn, eq_nn, sb, reduceIte, N_0, N_1, N_2, N_3, N_4, N_5, N_6, N_7, N_8, N_9, N_10, N_11, N_12, N_13, N_14, N_16, N_20, N_30, N_31, N_32, N_37, N_40, N_41, N_42, N_43, N_45, N_47, N_48, N_50, N_57, N_59, N_60, N_61, N_62, N_70, N_71, N_72, N_80, N_81, N_82, N_83, N_97, N_98, N_99, N_100, N_101, N_102, N_103, N_104, N_105, N_107, N_108, N_110, N_111, N_112, N_114, N_115, N_116, N_117, N_119, N_121, N_122, N_200, N_220, N_255, N_256, N_257, N_258, N_400, N_438, N_446, N_666, N_999, N_9999, N_10000, N_10010, N_10011, N_10012, N_10013, N_10014, N_10015, N_10016, N_10017, N_10018, N_12345, N_20000, N_20126, N_99999, N_1103515245, L_m999, L_m1, L_0, L_1, L_2, L_3, L_4, L_7, L_8, L_9, L_10, L_12, L_14, L_40, L_48, L_57, L_97, L_99, L_122, L_255, L_400, L_999, L_9999, if_pos, if_neg, pE, pN, cE, cN, r0, r1, rq, r3, h1, hci, hm1]
        exact k1'
      · rw [cel_s v1, ← hm, ← hS] at ih
        obtain ⟨I1, k1, k2⟩ := ih (put I 12 (m - 2) (jnd (S (m - 2)) (c i) (S (m - 1)))) (by rw [pN (by omega)]; exact h1) (fun j hj => by rw [pN (by omega)]; exact h2 j hj) (fun j hj => by rw [pN (by omega)]; exact h3 j hj) (fun j hj => by
          show put I 12 (m - 2) (jnd (S (m - 2)) (c i) (S (m - 1))) 12 j = ud S (m - 2) (jnd (S (m - 2)) (c i) (S (m - 1))) j
          by_cases e : j = m - 2
          · rw [e, pE rfl rfl, ud_e]
          · have hj2 : j < m - 1 := hj
            rw [pN (by omega), ud_n e]; exact h4 j (by omega))
        refine ⟨I1, ?_, fun b hb => (k2 b hb).trans (put_ne b hb)⟩
        have k1' : g (nI (m - 1)) (nI (i + 1)) (put I 12 (m - 2) (jnd (S (m - 2)) (c i) (S (m - 1)))) J = some (evl x c n, I1) := k1
        have hjn := joined_s (a := S (m - 2)) (b := S (m - 1)) v1
        obtain ⟨n', hn', ec⟩ := isSg_n v1
        have hci := h2 i hi
        rw [ec, N_20000, sb _ _ (by omega)] at hjn
        rw [ec] at k1' hci
        have hm1 := h4 (m - 1) (by omega)
        have hm2 := h4 (m - 2) (by omega)
        unfold fLB_X2_worth_15 f_X2_join fB_X2_worth_113
        simp (disch := omega) only [bd1_s, bd2_s, bd3_s, nm_s, wi_s, ite_bI, bI_1, le_pred, if_true, in_x, cl_nI, vin_nI, nI_add, nI_mul, le_nn, lt_nn, eq_nn, sb, reduceIte, N_0, N_1, N_2, N_3, N_4, N_5, N_6, N_7, N_8, N_9, N_10, N_11, N_12, N_13, N_14, N_16, N_20, N_30, N_31, N_32, N_37, N_40, N_41, N_42, N_43, N_45, N_47, N_48, N_50, N_57, N_59, N_60, N_61, N_62, N_70, N_71, N_72, N_80, N_81, N_82, N_83, N_97, N_98, N_99, N_100, N_101, N_102, N_103, N_104, N_105, N_107, N_108, N_110, N_111, N_112, N_114, N_115, N_116, N_117, N_119, N_121, N_122, N_200, N_220, N_255, N_256, N_257, N_258, N_400, N_438, N_446, N_666, N_999, N_9999, N_10000, N_10010, N_10011, N_10012, N_10013, N_10014, N_10015, N_10016, N_10017, N_10018, N_12345, N_20000, N_20126, N_99999, N_1103515245, L_m999, L_m1, L_0, L_1, L_2, L_3, L_4, L_7, L_8, L_9, L_10, L_12, L_14, L_40, L_48, L_57, L_97, L_99, L_122, L_255, L_400, L_999, L_9999, if_pos, if_neg, pE, pN, cE, cN, r0, r1, rq, r3, h1, hci, hm1, hm2, hjn]
        exact k1'
  intro I h1 h2 h3
  obtain ⟨I1, k1, k2⟩ := key n 0 FU (by omega) (FU_ge (by omega)) I h1 h2 h3 (fun j hj => absurd hj (Nat.not_lt_zero j))
  refine ⟨I1, ?_, k2⟩
  unfold f_X2_worth
  rw [isKey_s]
  simp (disch := omega) only [bd1_s, bd2_s, bd3_s, nm_s, wi_s, ite_bI, bI_1, le_pred, if_true, in_x, cl_nI, vin_nI, nI_add, nI_mul, le_nn, lt_nn, eq_nn, sb, reduceIte, N_0, N_1, N_2, N_3, N_4, N_5, N_6, N_7, N_8, N_9, N_10, N_11, N_12, N_13, N_14, N_16, N_20, N_30, N_31, N_32, N_37, N_40, N_41, N_42, N_43, N_45, N_47, N_48, N_50, N_57, N_59, N_60, N_61, N_62, N_70, N_71, N_72, N_80, N_81, N_82, N_83, N_97, N_98, N_99, N_100, N_101, N_102, N_103, N_104, N_105, N_107, N_108, N_110, N_111, N_112, N_114, N_115, N_116, N_117, N_119, N_121, N_122, N_200, N_220, N_255, N_256, N_257, N_258, N_400, N_438, N_446, N_666, N_999, N_9999, N_10000, N_10010, N_10011, N_10012, N_10013, N_10014, N_10015, N_10016, N_10017, N_10018, N_12345, N_20000, N_20126, N_99999, N_1103515245, L_m999, L_m1, L_0, L_1, L_2, L_3, L_4, L_7, L_8, L_9, L_10, L_12, L_14, L_40, L_48, L_57, L_97, L_99, L_122, L_255, L_400, L_999, L_9999, if_pos, if_neg, pE, pN, cE, cN]
  exact k1
theorem mworth_s {q n fr : Nat} {c x : Nat → Int32} {J : HJ} (hq : q < 4) (hn : n ≤ 200) (hf : fr + n ≤ 220) (hh : hgt c n 0 1) : ∀ I : HI, I 99 (438 + 2 * q) = nI fr → I 99 (439 + 2 * q) = nI (fr + n) → (∀ i, i < n → I 99 (446 + fr + i) = trC (c i)) → (∀ j, j < 7 → I 106 j = x j) → ∃ I1, f_X11_worth (nI q) I J = some (evl x c n, I1) ∧ ∀ b, b ≠ 109 → I1 b = I b := by
  obtain ⟨hE, hO⟩ := hgt_rn (x := x) hh
  have key : ∀ d i f, i + d = n → d < f → ∀ I : HI, I 99 (438 + 2 * q + 1) = nI (fr + n) → (∀ i, i < n → I 99 (446 + (fr + i)) = trC (c i)) → (∀ j, j < 7 → I 106 j = x j) → (∀ j, j < (rn x c i).1 → I 109 j = (rn x c i).2 j) → ∃ I1, fL_X11_worth_15 (nI q) f (nI (rn x c i).1) (nI (fr + i)) I J = some (evl x c n, I1) ∧ ∀ b, b ≠ 109 → I1 b = I b := by
    refine fuel (L := fL_X11_worth_15 (nI q)) (B := fLB_X11_worth_15 (nI q)) (fun _ => rfl) (P := fun i g => ∀ I : HI, I 99 (438 + 2 * q + 1) = nI (fr + n) → (∀ i, i < n → I 99 (446 + (fr + i)) = trC (c i)) → (∀ j, j < 7 → I 106 j = x j) → (∀ j, j < (rn x c i).1 → I 109 j = (rn x c i).2 j) → ∃ I1, g (nI (rn x c i).1) (nI (fr + i)) I J = some (evl x c n, I1) ∧ ∀ b, b ≠ 109 → I1 b = I b) (fun g I h1 h2 h3 h4 => ?_) (fun i g hi ih I h1 h2 h3 h4 => ?_)
    · refine ⟨I, ?_, fun _ _ => rfl⟩
      have e0 : I 109 0 = (rn x c n).2 0 := h4 0 (by rw [hE]; omega)
      unfold fLB_X11_worth_15
      simp (disch := omega) only [bd1_s, bd2_s, bd3_s, nm_s, wi_s, ite_bI, bI_1, le_pred, if_true, in_x, cl_nI, vin_nI, nI_add, nI_mul, le_nn, lt_nn, eq_nn, sb, reduceIte, N_0, N_1, N_2, N_3, N_4, N_5, N_6, N_7, N_8, N_9, N_10, N_11, N_12, N_13, N_14, N_16, N_20, N_30, N_31, N_32, N_37, N_40, N_41, N_42, N_43, N_45, N_47, N_48, N_50, N_57, N_59, N_60, N_61, N_62, N_70, N_71, N_72, N_80, N_81, N_82, N_83, N_97, N_98, N_99, N_100, N_101, N_102, N_103, N_104, N_105, N_107, N_108, N_110, N_111, N_112, N_114, N_115, N_116, N_117, N_119, N_121, N_122, N_200, N_220, N_255, N_256, N_257, N_258, N_400, N_438, N_446, N_666, N_999, N_9999, N_10000, N_10010, N_10011, N_10012, N_10013, N_10014, N_10015, N_10016, N_10017, N_10018, N_12345, N_20000, N_20126, N_99999, N_1103515245, L_m999, L_m1, L_0, L_1, L_2, L_3, L_4, L_7, L_8, L_9, L_10, L_12, L_14, L_40, L_48, L_57, L_97, L_99, L_122, L_255, L_400, L_999, L_9999, if_pos, if_neg, pE, pN, cE, cN, h1]
      exact congrArg (fun z => some (z, I)) e0
    · have hok := hO i hi
      have ed : rn x c (i + 1) = cel x (c i) (rn x c i) := rfl
      rw [ed] at ih
      obtain ⟨m, hm⟩ : ∃ m, m = (rn x c i).1 := ⟨_, rfl⟩
      obtain ⟨S, hS⟩ : ∃ S, S = (rn x c i).2 := ⟨_, rfl⟩
      rw [← hm] at hok h4 ⊢
      rw [← hS] at h4
      rcases hok with ⟨v1, v2⟩ | ⟨v1, v2, v3⟩ | ⟨v1, v2, v3⟩
      · rw [cel_v v1, ← hm, ← hS] at ih
        obtain ⟨I1, k1, k2⟩ := ih (put I 109 m (valC x (c i))) (by rw [pN (by omega)]; exact h1) (fun j hj => by rw [pN (by omega)]; exact h2 j hj) (fun j hj => by rw [pN (by omega)]; exact h3 j hj) (fun j hj => by
          show put I 109 m (valC x (c i)) 109 j = ud S m (valC x (c i)) j
          by_cases e : j = m
          · rw [e, pE rfl rfl, ud_e]
          · have hj2 : j < m + 1 := hj
            rw [pN (by omega), ud_n e]; exact h4 j (by omega))
        refine ⟨I1, ?_, fun b hb => (k2 b hb).trans (put_ne b hb)⟩
        have k1' : g (nI (m + 1)) (nI (fr + i + 1)) (put I 109 m (valC x (c i))) J = some (evl x c n, I1) := by rw [Nat.add_assoc]; exact k1
        obtain ⟨n', hn', ec⟩ := isVal_n v1
        have hci := h2 i hi
        rw [trC_v v1] at hci
        rw [ec] at k1' hci
        by_cases hb : 10000 ≤ n'
        · have hx := h3 (n' - 10000) (by omega)
          rw [valC_hi hb hn'] at k1'
          have a1 : (438 : Int32) + 2 * nI q + 1 = nI (438 + 2 * q + 1) := by rw [N_438, N_2, N_1, nI_mul, nI_add, nI_add]
          have a2 : (446 : Int32) + nI (fr + i) = nI (446 + (fr + i)) := by rw [N_446, nI_add]
          have a3 : nI (fr + i) + (1 : Int32) = nI (fr + i + 1) := nI_1 _
          unfold fLB_X11_worth_15
          rw [a1, a2, if_pos (vin_nI (by omega) (by omega)), cl_nI (by omega), h1, if_neg (by rw [le_nn (by omega) (by omega)]; omega), if_pos (vin_nI (by omega) (by omega)), cl_nI (by omega), hci, nm_s]
          unfold fB_X11_worth_82 fB_X11_worth_148
          rw [N_10010, if_neg (by rw [le_nn (by omega) (by omega)]; omega), N_10000, if_pos (by rw [le_nn (by omega) (by omega)]; omega), sb _ _ (by omega), if_pos (vin_nI (by omega) (by omega)), cl_nI (n := n' - 10000) (by omega), hx, if_pos (vin_nI (by omega) (by omega)), cl_nI (by omega), nm_s, nm_s, nm_s, nI_1, a3]
          exact k1'
        · rw [valC_lo (by omega)] at k1'
          have a1 : (438 : Int32) + 2 * nI q + 1 = nI (438 + 2 * q + 1) := by rw [N_438, N_2, N_1, nI_mul, nI_add, nI_add]
          have a2 : (446 : Int32) + nI (fr + i) = nI (446 + (fr + i)) := by rw [N_446, nI_add]
          have a3 : nI (fr + i) + (1 : Int32) = nI (fr + i + 1) := nI_1 _
          unfold fLB_X11_worth_15
          rw [a1, a2, if_pos (vin_nI (by omega) (by omega)), cl_nI (by omega), h1, if_neg (by rw [le_nn (by omega) (by omega)]; omega), if_pos (vin_nI (by omega) (by omega)), cl_nI (by omega), hci, nm_s]
          unfold fB_X11_worth_82 fB_X11_worth_148
          rw [N_10010, if_neg (by rw [le_nn (by omega) (by omega)]; omega), N_10000, if_neg (by rw [le_nn (by omega) (by omega)]; omega), if_pos (vin_nI (by omega) (by omega)), cl_nI (by omega), nm_s, nm_s, nm_s, nI_1, a3]
          exact k1'
      · rw [v1, cel_m, ← hm, ← hS] at ih
        obtain ⟨I1, k1, k2⟩ := ih (put I 109 (m - 1) (-(S (m - 1)))) (by rw [pN (by omega)]; exact h1) (fun j hj => by rw [pN (by omega)]; exact h2 j hj) (fun j hj => by rw [pN (by omega)]; exact h3 j hj) (fun j hj => by
          show put I 109 (m - 1) (-(S (m - 1))) 109 j = ud S (m - 1) (-(S (m - 1))) j
          by_cases e : j = m - 1
          · rw [e, pE rfl rfl, ud_e]
          · have hj2 : j < m := hj
            rw [pN (by omega), ud_n e]; exact h4 j (by omega))
        refine ⟨I1, ?_, fun b hb => (k2 b hb).trans (put_ne b hb)⟩
        have k1' : g (nI m) (nI (fr + i + 1)) (put I 109 (m - 1) (-(S (m - 1)))) J = some (evl x c n, I1) := by rw [Nat.add_assoc]; exact k1
        have hci := h2 i hi
        obtain ⟨t, et⟩ : ∃ t : Nat, t = 10010 := ⟨_, rfl⟩
        rw [v1, trC_m, ← et] at hci
        have hm1 := h4 (m - 1) (by omega)
        have en : nI 0 - S (m - 1) = -(S (m - 1)) := by rw [← N_0]; exact Int32.zero_sub _
        have a1 : (438 : Int32) + 2 * nI q + 1 = nI (438 + 2 * q + 1) := by rw [N_438, N_2, N_1, nI_mul, nI_add, nI_add]
        have a2 : (446 : Int32) + nI (fr + i) = nI (446 + (fr + i)) := by rw [N_446, nI_add]
        have a3 : nI (fr + i) + (1 : Int32) = nI (fr + i + 1) := nI_1 _
        unfold fLB_X11_worth_15
        rw [a1, a2, if_pos (vin_nI (by omega) (by omega)), cl_nI (by omega), h1, if_neg (by rw [le_nn (by omega) (by omega)]; omega), if_pos (vin_nI (by omega) (by omega)), cl_nI (by omega), hci, nm_s]
        unfold fB_X11_worth_148
        rw [N_10010, if_pos (by rw [le_nn (by omega) (by omega)]; omega), if_pos (by rw [et]), N_1, sb _ _ (by omega), if_pos (vin_nI (by omega) (by omega)), if_pos (vin_nI (by omega) (by omega)), cl_nI (by omega), hm1, N_0, en, nm_s, nm_s, ← N_1, a3]
        exact k1'
      · rw [cel_s v1, ← hm, ← hS] at ih
        obtain ⟨I1, k1, k2⟩ := ih (put I 109 (m - 2) (jnd (S (m - 2)) (c i) (S (m - 1)))) (by rw [pN (by omega)]; exact h1) (fun j hj => by rw [pN (by omega)]; exact h2 j hj) (fun j hj => by rw [pN (by omega)]; exact h3 j hj) (fun j hj => by
          show put I 109 (m - 2) (jnd (S (m - 2)) (c i) (S (m - 1))) 109 j = ud S (m - 2) (jnd (S (m - 2)) (c i) (S (m - 1))) j
          by_cases e : j = m - 2
          · rw [e, pE rfl rfl, ud_e]
          · have hj2 : j < m - 1 := hj
            rw [pN (by omega), ud_n e]; exact h4 j (by omega))
        refine ⟨I1, ?_, fun b hb => (k2 b hb).trans (put_ne b hb)⟩
        have k1' : g (nI (m - 1)) (nI (fr + i + 1)) (put I 109 (m - 2) (jnd (S (m - 2)) (c i) (S (m - 1)))) J = some (evl x c n, I1) := by rw [Nat.add_assoc]; exact k1
        have hjn := both_s (a := S (m - 2)) (b := S (m - 1)) v1
        obtain ⟨t, t1, t2, et⟩ := trC_s v1
        have hci := h2 i hi
        rw [et] at hjn hci
        have hm1 := h4 (m - 1) (by omega)
        have hm2 := h4 (m - 2) (by omega)
        have em : m - 1 - 1 = m - 2 := by omega
        unfold fLB_X11_worth_15 fB_X11_worth_148
        simp (disch := omega) only [bd1_s, bd2_s, bd3_s, nm_s, wi_s, ite_bI, bI_1, le_pred, if_true, in_x, cl_nI, vin_nI, nI_add, nI_mul, le_nn, lt_nn, eq_nn, sb, reduceIte, N_0, N_1, N_2, N_3, N_4, N_5, N_6, N_7, N_8, N_9, N_10, N_11, N_12, N_13, N_14, N_16, N_20, N_30, N_31, N_32, N_37, N_40, N_41, N_42, N_43, N_45, N_47, N_48, N_50, N_57, N_59, N_60, N_61, N_62, N_70, N_71, N_72, N_80, N_81, N_82, N_83, N_97, N_98, N_99, N_100, N_101, N_102, N_103, N_104, N_105, N_107, N_108, N_110, N_111, N_112, N_114, N_115, N_116, N_117, N_119, N_121, N_122, N_200, N_220, N_255, N_256, N_257, N_258, N_400, N_438, N_446, N_666, N_999, N_9999, N_10000, N_10010, N_10011, N_10012, N_10013, N_10014, N_10015, N_10016, N_10017, N_10018, N_12345, N_20000, N_20126, N_99999, N_1103515245, L_m999, L_m1, L_0, L_1, L_2, L_3, L_4, L_7, L_8, L_9, L_10, L_12, L_14, L_40, L_48, L_57, L_97, L_99, L_122, L_255, L_400, L_999, L_9999, if_pos, if_neg, pE, pN, cE, cN, h1, hci, pr1, em, hm1, hm2, hjn]
        exact k1'
  intro I h1 h2 h3 h4
  obtain ⟨I1, k1, k2⟩ := key n 0 FU (by omega) (FU_ge (by omega)) I (by rw [show 438 + 2 * q + 1 = 439 + 2 * q by omega]; exact h2) (fun i hi => by rw [← Nat.add_assoc]; exact h3 i hi) h4 (fun j hj => absurd hj (Nat.not_lt_zero j))
  rw [Nat.add_zero] at k1
  refine ⟨I1, ?_, k2⟩
  unfold f_X11_worth
  simp (disch := omega) only [bd1_s, bd2_s, bd3_s, nm_s, wi_s, ite_bI, bI_1, le_pred, if_true, in_x, cl_nI, vin_nI, nI_add, nI_mul, le_nn, lt_nn, eq_nn, sb, reduceIte, N_0, N_1, N_2, N_3, N_4, N_5, N_6, N_7, N_8, N_9, N_10, N_11, N_12, N_13, N_14, N_16, N_20, N_30, N_31, N_32, N_37, N_40, N_41, N_42, N_43, N_45, N_47, N_48, N_50, N_57, N_59, N_60, N_61, N_62, N_70, N_71, N_72, N_80, N_81, N_82, N_83, N_97, N_98, N_99, N_100, N_101, N_102, N_103, N_104, N_105, N_107, N_108, N_110, N_111, N_112, N_114, N_115, N_116, N_117, N_119, N_121, N_122, N_200, N_220, N_255, N_256, N_257, N_258, N_400, N_438, N_446, N_666, N_999, N_9999, N_10000, N_10010, N_10011, N_10012, N_10013, N_10014, N_10015, N_10016, N_10017, N_10018, N_12345, N_20000, N_20126, N_99999, N_1103515245, L_m999, L_m1, L_0, L_1, L_2, L_3, L_4, L_7, L_8, L_9, L_10, L_12, L_14, L_40, L_48, L_57, L_97, L_99, L_122, L_255, L_400, L_999, L_9999, if_pos, if_neg, pE, pN, cE, cN, h1]
  exact k1

def Tr (r : Int32) (P : Prop) : Prop := (r = 1 ∧ P) ∨ (r = 0 ∧ ¬ P)
theorem Tr.iff {r : Int32} {P Q : Prop} (h : Tr r P) (e : P ↔ Q) : Tr r Q := h.imp (fun a => ⟨a.1, e.mp a.2⟩) (fun a => ⟨a.1, fun q => a.2 (e.mpr q)⟩)
theorem Tr.uniq {r s : Int32} {P : Prop} (h1 : Tr r P) (h2 : Tr s P) : r = s := by
  rcases h1 with ⟨a, b⟩ | ⟨a, b⟩ <;> rcases h2 with ⟨c, d⟩ | ⟨c, d⟩
  · rw [a, c]
  · exact absurd b d
  · exact absurd d b
  · rw [a, c]
/-- a row of the class -/
def Row (I : HI) (k c : Nat) (v : Nat → Int32) : Prop := oK k = 8 ∧ c ≤ 60 ∧ I k 1 = nI c ∧ ∀ i, i < c → I (k + 1) i = v i
theorem Row.at {I : HI} {J : HJ} {k c i : Nat} {v : Nat → Int32} (h : Row I k c v) (hi : i < c) : f_X9_at k (nI i) I J = some (v i) := by
  rw [at_s h.1 h.2.1 h.2.2.1 hi, h.2.2.2 i hi]
def SmR (v : Nat → Int32) (k a b i : Nat) : Prop := ∀ x, i ≤ x → x < k → v (a + x) = v (b + x)
def OrA (v : Nat → Int32) (k a b : Nat) : Prop := SmR v k a b 0 → v (a + k) = v (b + k)
def OrP (v : Nat → Int32) (c k : Nat) : Prop := ∀ b a, b + k < c → a < b → OrA v k a b
theorem SmR.st {v : Nat → Int32} {k a b i : Nat} (e : v (a + i) = v (b + i)) : SmR v k a b (i + 1) ↔ SmR v k a b i := ⟨fun h x h1 h2 => by
  by_cases q : x = i
  · rw [q]; exact e
  · exact h x (by omega) h2, fun h x h1 h2 => h x (by omega) h2⟩
theorem smr_s {I : HI} {J : HJ} {q c k a b : Nat} {v : Nat → Int32} (h : Row I q c v) (ha : a + k < c) (hb : b + k < c) : ∃ r, f_X9_isSameRun q (nI a) (nI b) (nI k) I J = some r ∧ Tr r (SmR v k a b 0) := by
  have hc := h.2.1
  have key : ∀ d i f, i + d = k → d < f → ∃ r, fL_X9_isSameRun_3 q (nI a) (nI b) (nI k) f (nI i) I J = some r ∧ Tr r (SmR v k a b i) := by
    refine fuel (L := fL_X9_isSameRun_3 q (nI a) (nI b) (nI k)) (B := fLB_X9_isSameRun_3 q (nI a) (nI b) (nI k)) (fun _ => rfl) (P := fun i g => ∃ r, g (nI i) I J = some r ∧ Tr r (SmR v k a b i)) (fun g => ?_) (fun i g hi ih => ?_)
    · refine ⟨1, ?_, Or.inl ⟨rfl, fun x h1 h2 => by omega⟩⟩
      unfold fLB_X9_isSameRun_3
      rw [if_pos (by rw [le_nn (by omega) (by omega)]; omega)]
    · obtain ⟨r, r1, r2⟩ := ih
      by_cases e : v (a + i) = v (b + i)
      · refine ⟨r, ?_, r2.iff (SmR.st e)⟩
        unfold fLB_X9_isSameRun_3
        rw [if_neg (by rw [le_nn (by omega) (by omega)]; omega), nI_add, nI_add, h.at (by omega), h.at (by omega), bd1_s, bd1_s, if_pos e, nm_s, nI_1]
        exact r1
      · refine ⟨0, ?_, Or.inr ⟨rfl, fun q => e (q i (by omega) hi)⟩⟩
        unfold fLB_X9_isSameRun_3
        rw [if_neg (by rw [le_nn (by omega) (by omega)]; omega), nI_add, nI_add, h.at (by omega), h.at (by omega), bd1_s, bd1_s, if_neg e]
  exact key k 0 FU (by omega) (FU_ge (by omega))
def OrB (v : Nat → Int32) (k b a : Nat) : Prop := ∀ x, a ≤ x → x < b → OrA v k x b
theorem OrB.st {v : Nat → Int32} {k a b : Nat} {Q : Prop} (e : OrA v k a b) : (OrB v k b (a + 1) ∧ Q) ↔ (OrB v k b a ∧ Q) := ⟨fun h => ⟨fun x h1 h2 => by
  by_cases q : x = a
  · rw [q]; exact e
  · exact h.1 x (by omega) h2, h.2⟩, fun h => ⟨fun x h1 h2 => h.1 x (by omega) h2, h.2⟩⟩
theorem cord_s {I : HI} {J : HJ} {q c k : Nat} {v : Nat → Int32} (h : Row I q c v) (hk : k ≤ 4) : ∃ r, f_X9_isOrder q (nI k) I J = some r ∧ Tr r (OrP v c k) := by
  have hc := h.2.1
  have inner : ∀ (g : Int32 → HI → HJ → Option Int32) (b : Nat) (Q : Prop), b + k < c → (∃ r, g (nI (b + 1)) I J = some r ∧ Tr r Q) → ∀ d i f, i + d = b → d < f → ∃ r, fL_X9_isOrder_14 q (nI k) g f (nI b) (nI i) I J = some r ∧ Tr r (OrB v k b i ∧ Q) := by
    intro g b Q hb hg
    refine fuel (L := fL_X9_isOrder_14 q (nI k) g) (B := fLB_X9_isOrder_14 q (nI k) g) (fun _ => rfl) (P := fun i g1 => ∃ r, g1 (nI b) (nI i) I J = some r ∧ Tr r (OrB v k b i ∧ Q)) (fun g1 => ?_) (fun i g1 hi ih => ?_)
    · obtain ⟨r, r1, r2⟩ := hg
      refine ⟨r, ?_, r2.iff ⟨fun q => ⟨fun x h1 h2 => by omega, q⟩, fun q => q.2⟩⟩
      unfold fLB_X9_isOrder_14
      rw [if_pos (by rw [le_nn (by omega) (by omega)]; omega), nI_1, nm_s]
      exact r1
    · obtain ⟨r, r1, r2⟩ := ih
      by_cases e : v (i + k) = v (b + k)
      · refine ⟨r, ?_, r2.iff (OrB.st (fun _ => e))⟩
        unfold fLB_X9_isOrder_14 fB_X9_isOrder_48
        rw [if_neg (by rw [le_nn (by omega) (by omega)]; omega), nI_add, nI_add, h.at (by omega), h.at (by omega), bd1_s, bd1_s, if_pos e, nm_s, nI_1]
        exact r1
      · obtain ⟨s, s1, s2⟩ := smr_s (J := J) h (show i + k < c by omega) hb
        rcases s2 with ⟨s3, s4⟩ | ⟨s3, s4⟩
        · refine ⟨0, ?_, Or.inr ⟨rfl, fun q => e (q.1 i (Nat.le_refl _) hi s4)⟩⟩
          unfold fLB_X9_isOrder_14 fB_X9_isOrder_48
          rw [if_neg (by rw [le_nn (by omega) (by omega)]; omega), nI_add, nI_add, h.at (by omega), h.at (by omega), bd1_s, bd1_s, if_neg e, s1, bd1_s, s3, if_neg (by decide)]
        · refine ⟨r, ?_, r2.iff (OrB.st (fun q => absurd q s4))⟩
          unfold fLB_X9_isOrder_14 fB_X9_isOrder_48
          rw [if_neg (by rw [le_nn (by omega) (by omega)]; omega), nI_add, nI_add, h.at (by omega), h.at (by omega), bd1_s, bd1_s, if_neg e, s1, bd1_s, s3, if_pos rfl, nm_s, nI_1]
          exact r1
  have key : ∀ d i f, i + d = c → d < f → ∃ r, fL_X9_isOrder_2 q (nI k) f (nI i) I J = some r ∧ Tr r (∀ b a, i ≤ b → b + k < c → a < b → OrA v k a b) := by
    refine fuel (L := fL_X9_isOrder_2 q (nI k)) (B := fLB_X9_isOrder_2 q (nI k)) (fun _ => rfl) (P := fun i g => ∃ r, g (nI i) I J = some r ∧ Tr r (∀ b a, i ≤ b → b + k < c → a < b → OrA v k a b)) (fun g => ?_) (fun i g hi ih => ?_)
    · refine ⟨1, ?_, Or.inl ⟨rfl, fun b a h1 h2 => by omega⟩⟩
      unfold fLB_X9_isOrder_2
      rw [h.2.2.1, nI_add, if_pos (by rw [le_nn (by omega) (by omega)]; omega)]
    · by_cases hb : i + k < c
      · obtain ⟨r, r1, r2⟩ := inner g i _ hb ih i 0 FU (by omega) (FU_ge (by omega))
        refine ⟨r, ?_, r2.iff ⟨fun q b a h1 h2 h3 => ?_, fun q => ⟨fun x h1 h2 => q i x (Nat.le_refl _) hb h2, fun b a h1 h2 h3 => q b a (by omega) h2 h3⟩⟩⟩
        · unfold fLB_X9_isOrder_2
          rw [h.2.2.1, nI_add, if_neg (by rw [le_nn (by omega) (by omega)]; omega)]
          exact r1
        · by_cases e : b = i
          · rw [e]; exact q.1 a (by omega) (by omega)
          · exact q.2 b a (by omega) h2 h3
      · refine ⟨1, ?_, Or.inl ⟨rfl, fun b a h1 h2 => by omega⟩⟩
        unfold fLB_X9_isOrder_2
        rw [h.2.2.1, nI_add, if_pos (by rw [le_nn (by omega) (by omega)]; omega)]
  by_cases c0 : c = 0
  · refine ⟨1, ?_, Or.inl ⟨rfl, fun b a h1 h2 => by omega⟩⟩
    unfold f_X9_isOrder
    show fLB_X9_isOrder_2 q (nI k) _ (nI 1) I J = _
    unfold fLB_X9_isOrder_2
    rw [h.2.2.1, nI_add, if_pos (by rw [le_nn (by omega) (by omega)]; omega)]
  · obtain ⟨r, r1, r2⟩ := key (c - 1) 1 FU (by omega) (FU_ge (by omega))
    exact ⟨r, r1, r2.iff ⟨fun q b a h1 h2 => q b a (by omega) h1 h2, fun q b a h1 h2 h3 => q b a h2 h3⟩⟩
theorem mord_s {I : HI} {J : HJ} {c k : Nat} {v : Nat → Int32} (h : Look I c v) (hk : k ≤ 4) : ∃ r, f_X11_isOrder (nI k) I J = some r ∧ Tr r (OrP v c k) := by
  obtain ⟨hc, hl, hv⟩ := h
  -- the run of the same, from place i on; x2 as it was
  have run : ∀ (g4 : Int32 → Int32 → HI → HJ → Option Int32) (g17 : Int32 → Int32 → Int32 → HI → HJ → Option Int32) (a b : Nat) (x : Int32) (Q : Prop), a + k < c → b < a → Tr x Q → ∀ d i f, i + d = k → d < f → (∀ y, y < i → v (b + y) = v (a + y)) → ∃ y, fL_X11_isOrder_26 (nI k) g4 g17 f x (nI a) (nI b) (nI i) I J = g17 y (nI a) (nI (b + 1)) I J ∧ Tr y (OrA v k b a ∧ Q) := by
    intro g4 g17 a b x Q ha hb hx
    refine fuel (L := fL_X11_isOrder_26 (nI k) g4 g17) (B := fLB_X11_isOrder_26 (nI k) g4 g17) (fun _ => rfl) (P := fun i g => (∀ y, y < i → v (b + y) = v (a + y)) → ∃ y, g x (nI a) (nI b) (nI i) I J = g17 y (nI a) (nI (b + 1)) I J ∧ Tr y (OrA v k b a ∧ Q)) (fun g hs => ?_) (fun i g hi ih hs => ?_)
    · have hsm : SmR v k b a 0 := fun y _ h2 => hs y h2
      rcases hx with ⟨x1, x2⟩ | ⟨x1, x2⟩
      · by_cases e : v (a + k) = v (b + k)
        · refine ⟨1, ?_, Or.inl ⟨rfl, fun _ => e.symm, x2⟩⟩
          unfold fLB_X11_isOrder_26 fB_X11_isOrder_60 fB_X11_isOrder_94 fB_X11_isOrder_90 fB_X11_isOrder_95
          rw [if_pos (by rw [le_nn (by omega) (by omega)]; omega), x1, if_neg (by decide), if_neg (by rw [lt_nn (by omega) (by omega)]; omega), nI_add, nI_add, if_pos (vin_nI (by omega) (by omega)), if_pos (vin_nI (by omega) (by omega)), cl_nI (by omega), cl_nI (by omega), hv _ (by omega), hv _ (by omega), if_pos e, nm_s, nI_1]
        · refine ⟨0, ?_, Or.inr ⟨rfl, fun q => e (q.1 hsm).symm⟩⟩
          unfold fLB_X11_isOrder_26 fB_X11_isOrder_60 fB_X11_isOrder_94 fB_X11_isOrder_90 fB_X11_isOrder_95
          rw [if_pos (by rw [le_nn (by omega) (by omega)]; omega), x1, if_neg (by decide), if_neg (by rw [lt_nn (by omega) (by omega)]; omega), nI_add, nI_add, if_pos (vin_nI (by omega) (by omega)), if_pos (vin_nI (by omega) (by omega)), cl_nI (by omega), cl_nI (by omega), hv _ (by omega), hv _ (by omega), if_neg e, nm_s, nI_1]
      · refine ⟨0, ?_, Or.inr ⟨rfl, fun q => x2 q.2⟩⟩
        unfold fLB_X11_isOrder_26 fB_X11_isOrder_60 fB_X11_isOrder_94 fB_X11_isOrder_90 fB_X11_isOrder_95
        rw [if_pos (by rw [le_nn (by omega) (by omega)]; omega), x1, if_pos rfl, nm_s, nI_1]
    · by_cases e : v (a + i) = v (b + i)
      · obtain ⟨y, y1, y2⟩ := ih (fun y hy => by
          by_cases q : y = i
          · rw [q]; exact e.symm
          · exact hs y (by omega))
        refine ⟨y, ?_, y2⟩
        unfold fLB_X11_isOrder_26
        rw [if_neg (by rw [le_nn (by omega) (by omega)]; omega), nI_add, nI_add, if_pos (vin_nI (by omega) (by omega)), if_pos (vin_nI (by omega) (by omega)), cl_nI (by omega), cl_nI (by omega), hv _ (by omega), hv _ (by omega), if_pos e, nm_s, nI_1]
        exact y1
      · have hor : OrA v k b a := fun q => absurd (q i (by omega) hi).symm e
        rcases hx with ⟨x1, x2⟩ | ⟨x1, x2⟩
        · refine ⟨1, ?_, Or.inl ⟨rfl, hor, x2⟩⟩
          unfold fLB_X11_isOrder_26 fB_X11_isOrder_60 fB_X11_isOrder_94 fB_X11_isOrder_90 fB_X11_isOrder_95
          rw [if_neg (by rw [le_nn (by omega) (by omega)]; omega), nI_add, nI_add, if_pos (vin_nI (by omega) (by omega)), if_pos (vin_nI (by omega) (by omega)), cl_nI (by omega), cl_nI (by omega), hv _ (by omega), hv _ (by omega), if_neg e, x1, if_neg (by decide), if_pos (by rw [lt_nn (by omega) (by omega)]; omega), nm_s, nI_1]
        · refine ⟨0, ?_, Or.inr ⟨rfl, fun q => x2 q.2⟩⟩
          unfold fLB_X11_isOrder_26 fB_X11_isOrder_60 fB_X11_isOrder_94 fB_X11_isOrder_90 fB_X11_isOrder_95
          rw [if_neg (by rw [le_nn (by omega) (by omega)]; omega), nI_add, nI_add, if_pos (vin_nI (by omega) (by omega)), if_pos (vin_nI (by omega) (by omega)), cl_nI (by omega), cl_nI (by omega), hv _ (by omega), hv _ (by omega), if_neg e, x1, if_pos rfl, nm_s, nI_1]
  have inner : ∀ (g4 : Int32 → Int32 → HI → HJ → Option Int32) (a : Nat), a + k < c → ∀ d i f, i + d = a → d < f → ∀ (x : Int32) (Q : Prop), Tr x Q → ∃ y, fL_X11_isOrder_17 (nI k) g4 f x (nI a) (nI i) I J = g4 y (nI (a + 1)) I J ∧ Tr y (OrB v k a i ∧ Q) := by
    intro g4 a ha
    refine fuel (L := fL_X11_isOrder_17 (nI k) g4) (B := fLB_X11_isOrder_17 (nI k) g4) (fun _ => rfl) (P := fun i g => ∀ (x : Int32) (Q : Prop), Tr x Q → ∃ y, g x (nI a) (nI i) I J = g4 y (nI (a + 1)) I J ∧ Tr y (OrB v k a i ∧ Q)) (fun g x Q hx => ?_) (fun i g hi ih x Q hx => ?_)
    · refine ⟨x, ?_, hx.iff ⟨fun q => ⟨fun y h1 h2 => by omega, q⟩, fun q => q.2⟩⟩
      unfold fLB_X11_isOrder_17
      rw [if_pos (by rw [le_nn (by omega) (by omega)]; omega), nI_1, nm_s]
    · obtain ⟨y, y1, y2⟩ := run g4 g a i x Q ha hi hx k 0 FU (by omega) (FU_ge (by omega)) (fun y hy => by omega)
      obtain ⟨z, z1, z2⟩ := ih y _ y2
      refine ⟨z, ?_, z2.iff ⟨fun q => ⟨fun y h1 h2 => ?_, q.2.2⟩, fun q => ⟨fun y h1 h2 => q.1 y (by omega) h2, q.1 i (Nat.le_refl _) hi, q.2⟩⟩⟩
      · unfold fLB_X11_isOrder_17
        rw [if_neg (by rw [le_nn (by omega) (by omega)]; omega)]
        exact y1.trans z1
      · by_cases e : y = i
        · rw [e]; exact q.2.1
        · exact q.1 y (by omega) h2
  have key : ∀ d i f, i + d = c → d < f → ∀ (x : Int32) (Q : Prop), Tr x Q → ∃ r, fL_X11_isOrder_4 (nI k) f x (nI i) I J = some r ∧ Tr r ((∀ b a, i ≤ b → b + k < c → a < b → OrA v k a b) ∧ Q) := by
    refine fuel (L := fL_X11_isOrder_4 (nI k)) (B := fLB_X11_isOrder_4 (nI k)) (fun _ => rfl) (P := fun i g => ∀ (x : Int32) (Q : Prop), Tr x Q → ∃ r, g x (nI i) I J = some r ∧ Tr r ((∀ b a, i ≤ b → b + k < c → a < b → OrA v k a b) ∧ Q)) (fun g x Q hx => ?_) (fun i g hi ih x Q hx => ?_)
    · refine ⟨x, ?_, hx.iff ⟨fun q => ⟨fun b a h1 h2 => by omega, q⟩, fun q => q.2⟩⟩
      unfold fLB_X11_isOrder_4
      rw [hl, nI_add, if_pos (by rw [le_nn (by omega) (by omega)]; omega), if_pos (by rcases hx with ⟨h, _⟩ | ⟨h, _⟩ <;> rw [h] <;> rfl)]
    · by_cases hb : i + k < c
      · obtain ⟨y, y1, y2⟩ := inner g i hb i 0 FU (by omega) (FU_ge (by omega)) x Q hx
        obtain ⟨r, r1, r2⟩ := ih y _ y2
        refine ⟨r, ?_, r2.iff ⟨fun q => ⟨fun b a h1 h2 h3 => ?_, q.2.2⟩, fun q => ⟨fun b a h1 h2 h3 => q.1 b a (by omega) h2 h3, fun x h1 h2 => q.1 i x (Nat.le_refl _) hb h2, q.2⟩⟩⟩
        · unfold fLB_X11_isOrder_4
          rw [hl, nI_add, if_neg (by rw [le_nn (by omega) (by omega)]; omega)]
          exact y1.trans r1
        · by_cases e : b = i
          · rw [e]; exact q.2.1 a (by omega) (by omega)
          · exact q.1 b a (by omega) h2 h3
      · refine ⟨x, ?_, hx.iff ⟨fun q => ⟨fun b a h1 h2 => by omega, q⟩, fun q => q.2⟩⟩
        unfold fLB_X11_isOrder_4
        rw [hl, nI_add, if_pos (by rw [le_nn (by omega) (by omega)]; omega), if_pos (by rcases hx with ⟨h, _⟩ | ⟨h, _⟩ <;> rw [h] <;> rfl)]
  obtain ⟨r, r1, r2⟩ := key c 0 FU (by omega) (FU_ge (by omega)) 1 True (Or.inl ⟨rfl, trivial⟩)
  exact ⟨r, r1, r2.iff ⟨fun q b a h1 h2 => q.1 b a (by omega) h1 h2, fun q => ⟨fun b a h1 h2 h3 => q b a h2 h3, trivial⟩⟩⟩

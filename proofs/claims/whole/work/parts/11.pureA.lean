/-! the ways, as lists: a way is (from, to, count, falls) -/
abbrev Wy : Type := Nat × Nat × Nat × Bool
def pk (fr tt ct : Nat → Nat) (fa : Nat → Bool) : Nat → Wy := fun k => (fr k, tt k, ct k, fa k)
def bef (a b : Wy) : Bool := if a.2.2.1 = b.2.2.1 then (if a.1 = b.1 then decide (a.2.1 < b.2.1) else decide (a.1 < b.1)) else decide (b.2.2.1 < a.2.2.1)
def wl (kn : Nat) (g : Nat → Wy) : List Wy := (List.range kn).map g
def Srt (kn : Nat) (g : Nat → Wy) : Prop := ∀ i j, i < j → j < kn → bef (g i) (g j) = true
def KdL (L : List Wy) : Prop := L.Pairwise (fun a b => ¬ (a.1 = b.1 ∧ a.2.1 = b.2.1))
def WB (fr tt ct : Nat → Nat) : Prop := ∀ k, fr k < 200 ∧ tt k < 200 ∧ ct k ≤ 1000000000000000
def sw {α : Type} (f : Nat → α) (a b : Nat) : Nat → α := va_up (va_up f a (f b)) b (f a)
def MF (kn : Nat) (g0 g : Nat → Wy) (w : Nat) : Prop := w < kn ∧ (wl kn g).Perm (wl kn g0) ∧ KdL (wl kn g) ∧ (∀ i j, i < j → j < kn → i ≠ w → j ≠ w → bef (g i) (g j) = true) ∧ (∀ j, w < j → j < kn → bef (g w) (g j) = true)
theorem wl_succ (k : Nat) (g : Nat → Wy) : wl (k + 1) g = wl k g ++ [g k] := by
  simp [wl, List.range_succ]
theorem wl_len (k : Nat) (g : Nat → Wy) : (wl k g).length = k := by simp [wl]
theorem wl_congr {k : Nat} {g h : Nat → Wy} (e : ∀ i, i < k → g i = h i) : wl k g = wl k h := by
  unfold wl
  exact List.map_congr_left (fun i hi => e i (List.mem_range.mp hi))
theorem wl_get {k : Nat} {g : Nat → Wy} {i : Nat} (h : i < k) : (wl k g)[i]? = some (g i) := by
  simp [wl, h]
theorem wl_mem {k : Nat} {g : Nat → Wy} {w : Wy} : w ∈ wl k g ↔ ∃ i, i < k ∧ g i = w := by
  simp [wl]
theorem KdL.perm {L M : List Wy} (h : L.Perm M) (hk : KdL L) : KdL M := (h.pairwise_iff (fun {x y} q z => q ⟨z.1.symm, z.2.symm⟩)).mp hk
theorem KdL.inj {kn : Nat} {g : Nat → Wy} (h : KdL (wl kn g)) : ∀ i j, i < kn → j < kn → (g i).1 = (g j).1 → (g i).2.1 = (g j).2.1 → i = j := by
  have key : ∀ i j, i < j → j < kn → ¬ ((g i).1 = (g j).1 ∧ (g i).2.1 = (g j).2.1) := by
    intro i j hij hj
    have h1 := List.pairwise_iff_getElem.mp h i j (by rw [wl_len]; omega) (by rw [wl_len]; omega) hij
    have e1 : (wl kn g)[i]'(by rw [wl_len]; omega) = g i := by simp [wl]
    have e2 : (wl kn g)[j]'(by rw [wl_len]; omega) = g j := by simp [wl]
    rw [e1, e2] at h1
    exact h1
  intro i j hi hj e1 e2
  rcases Nat.lt_trichotomy i j with q | q | q
  · exact absurd ⟨e1, e2⟩ (key i j q hj)
  · exact q
  · exact absurd ⟨e1.symm, e2.symm⟩ (key j i q hi)
theorem sw_a {α : Type} {f : Nat → α} {a b : Nat} : sw f a b a = f b := by
  unfold sw
  by_cases h : a = b
  · subst h; rw [va_up_self]
  · rw [va_up_ne _ _ h, va_up_self]
theorem sw_b {α : Type} {f : Nat → α} {a b : Nat} : sw f a b b = f a := by
  unfold sw
  rw [va_up_self]
theorem sw_o {α : Type} {f : Nat → α} {a b i : Nat} (ha : i ≠ a) (hb : i ≠ b) : sw f a b i = f i := by
  unfold sw
  rw [va_up_ne _ _ hb, va_up_ne _ _ ha]
theorem pk_sw (fr tt ct : Nat → Nat) (fa : Nat → Bool) (a b : Nat) : pk (sw fr a b) (sw tt a b) (sw ct a b) (sw fa a b) = sw (pk fr tt ct fa) a b := by
  funext i
  by_cases h2 : i = b
  · subst h2
    simp only [pk, sw_b]
  · by_cases h1 : i = a
    · subst h1
      simp only [pk, sw_a]
    · simp only [pk, sw_o h1 h2]
theorem WB.sw {fr tt ct : Nat → Nat} (h : WB fr tt ct) (a b : Nat) : WB (sw fr a b) (sw tt a b) (sw ct a b) := by
  intro i
  by_cases h2 : i = b
  · subst h2
    simp only [sw_b]
    exact h a
  · by_cases h1 : i = a
    · subst h1
      simp only [sw_a]
      exact h b
    · simp only [sw_o h1 h2]
      exact h i
theorem perm_sw {g : Nat → Wy} (v : Nat) : ∀ d, (wl (v + 2 + d) (sw g (v + 1) v)).Perm (wl (v + 2 + d) g) := by
  intro d
  induction d with
  | zero =>
    show (wl (v + 1 + 1) (sw g (v + 1) v)).Perm (wl (v + 1 + 1) g)
    rw [wl_succ, wl_succ, wl_succ, wl_succ, sw_a, sw_b, wl_congr (h := g) (fun i hi => sw_o (by omega) (by omega)), List.append_assoc, List.append_assoc]
    exact List.Perm.append_left _ (List.Perm.swap _ _ [])
  | succ d ih =>
    show (wl (v + 2 + d + 1) (sw g (v + 1) v)).Perm (wl (v + 2 + d + 1) g)
    rw [wl_succ, wl_succ (v + 2 + d) g, sw_o (by omega) (by omega)]
    exact ih.append_right _
theorem bef_trans {a b c : Wy} (h1 : bef a b = true) (h2 : bef b c = true) : bef a c = true := by
  unfold bef at *
  split at h1 <;> split at h2 <;> (try split at h1) <;> (try split at h2) <;> simp only [decide_eq_true_eq] at h1 h2 <;> (repeat' split) <;> simp only [decide_eq_true_eq] <;> omega
theorem bef_total {a b : Wy} (h : ¬ (a.1 = b.1 ∧ a.2.1 = b.2.1)) (h2 : bef a b = false) : bef b a = true := by
  unfold bef at *
  split at h2 <;> (try split at h2) <;> simp only [decide_eq_false_iff_not] at h2 <;> (repeat' split) <;> simp only [decide_eq_true_eq] <;> omega
theorem bef_irr {a b : Wy} (h1 : bef a b = true) (h2 : bef b a = true) : False := by
  have h := bef_trans h1 h2
  unfold bef at h
  simp at h
theorem MF_swap {kn : Nat} {g0 g : Nat → Wy} {w : Nat} (h : MF kn g0 g w) (hw : 0 < w) (hb : bef (g w) (g (w - 1)) = true) : MF kn g0 (sw g w (w - 1)) (w - 1) := by
  obtain ⟨h1, h2, h3, h4, h5⟩ := h
  have hp : (wl kn (sw g w (w - 1))).Perm (wl kn g) := by
    obtain ⟨v, rfl⟩ : ∃ v, w = v + 1 := ⟨w - 1, by omega⟩
    obtain ⟨d, rfl⟩ : ∃ d, kn = v + 2 + d := ⟨kn - (v + 2), by omega⟩
    exact perm_sw v d
  refine ⟨by omega, hp.trans h2, h3.perm hp.symm, ?_, ?_⟩
  · intro i j hij hj hi1 hj1
    by_cases e1 : i = w
    · subst e1
      rw [sw_a, sw_o (by omega) (by omega)]
      exact h4 (i - 1) j (by omega) hj (by omega) (by omega)
    · by_cases e2 : j = w
      · subst e2
        rw [sw_a, sw_o (by omega) (by omega)]
        exact h4 i (j - 1) (by omega) (by omega) (by omega) (by omega)
      · rw [sw_o e1 hi1, sw_o e2 hj1]
        exact h4 i j hij hj e1 e2
  · intro j hj1 hj2
    rw [sw_b]
    by_cases e1 : j = w
    · subst e1
      rw [sw_a]
      exact hb
    · rw [sw_o e1 (by omega)]
      exact h5 j (by omega) hj2
theorem MF_end {kn : Nat} {g0 g : Nat → Wy} {w : Nat} (h : MF kn g0 g w) (he : w = 0 ∨ bef (g w) (g (w - 1)) = false) : (wl kn g).Perm (wl kn g0) ∧ Srt kn g := by
  obtain ⟨h1, h2, h3, h4, h5⟩ := h
  refine ⟨h2, ?_⟩
  have hprev : ∀ i, i < w → bef (g i) (g w) = true := by
    intro i hi
    rcases he with e | e
    · omega
    · have h6 : bef (g (w - 1)) (g w) = true := bef_total (fun q => by have := h3.inj w (w - 1) h1 (by omega) q.1 q.2; omega) e
      by_cases e2 : i = w - 1
      · subst e2; exact h6
      · exact bef_trans (h4 i (w - 1) (by omega) (by omega) (by omega) (by omega)) h6
  intro i j hij hj
  by_cases e1 : i = w
  · subst e1; exact h5 j hij hj
  · by_cases e2 : j = w
    · subst e2; exact hprev i hij
    · exact h4 i j hij hj e1 e2
/-- a sorted row in which one way, at w, has come to the front of those that it was in front of -/
theorem MF_of {kn : Nat} {g : Nat → Wy} {w : Nat} (hw : w < kn) (hk : KdL (wl kn g)) (h4 : ∀ i j, i < j → j < kn → i ≠ w → j ≠ w → bef (g i) (g j) = true) (h5 : ∀ j, w < j → j < kn → bef (g w) (g j) = true) : MF kn g g w := ⟨hw, List.Perm.refl _, hk, h4, h5⟩
def Fnd (fr tt : Nat → Nat) (kn : Nat) (x y : Int32) (o : Option Nat) : Prop := match o with
  | none => ∀ j, j < kn → ¬ (nI (fr j) = x ∧ nI (tt j) = y)
  | some k => k < kn ∧ nI (fr k) = x ∧ nI (tt k) = y

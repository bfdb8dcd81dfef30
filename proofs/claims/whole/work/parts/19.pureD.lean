/-! a line of blocks; the most pulled chain; pulls -/
def LR (P : List Nat) (n : Nat) (me : Nat → Nat) (pl : Nat → Option Nat) : Prop := n = P.length ∧ (∀ i b, P[i]? = some b → me i = b) ∧ (∀ b i, pl b = some i ↔ P[i]? = some b)
theorem LR_nil {me : Nat → Nat} : LR [] 0 me (fun _ => none) := ⟨rfl, fun i b h => by simp at h, fun b i => by simp⟩
theorem LR_push {P : List Nat} {n b : Nat} {me : Nat → Nat} {pl : Nat → Option Nat} (h : LR P n me pl) (hb : b ∉ P) : LR (P ++ [b]) (n + 1) (va_up me n b) (va_up pl b (some n)) := by
  obtain ⟨h1, h2, h3⟩ := h
  subst h1
  have key : ∀ i x, (P ++ [b])[i]? = some x ↔ (P[i]? = some x ∨ (i = P.length ∧ x = b)) := by
    intro i x
    by_cases hi : i < P.length
    · rw [List.getElem?_append_left hi]
      exact ⟨Or.inl, fun q => q.elim id (fun z => by omega)⟩
    · rw [List.getElem?_append_right (by omega)]
      by_cases hi2 : i = P.length
      · subst hi2
        simp [eq_comm]
      · have e1 : ([b] : List Nat)[i - P.length]? = none := List.getElem?_eq_none (by simp; omega)
        have e2 : P[i]? = none := List.getElem?_eq_none (by omega)
        rw [e1, e2]
        simp [hi2]
  refine ⟨by simp, ?_, ?_⟩
  · intro i x hx
    rcases (key i x).mp hx with q | ⟨q1, q2⟩
    · have hl := (List.getElem?_eq_some_iff.mp q).1
      rw [va_up_ne _ _ (by omega)]
      exact h2 i x q
    · rw [q1, va_up_self, q2]
  · intro x i
    rw [key i x]
    by_cases hx : x = b
    · subst hx
      rw [va_up_self]
      constructor
      · intro q
        exact Or.inr ⟨(Option.some.inj q).symm, rfl⟩
      · rintro (q | q)
        · exact absurd (List.mem_of_getElem? q) hb
        · rw [q.1]
    · rw [va_up_ne _ _ hx, h3 x i]
      exact ⟨Or.inl, fun q => q.elim id (fun z => absurd z.2 hx)⟩
theorem LR_n {P Q : List Nat} {i n3 : Nat} {me3 : Nat → Nat} {pl3 : Nat → Option Nat} (h : LR (P ++ Q.take i) n3 me3 pl3) (hi : i ≤ Q.length) : n3 = P.length + i := by
  rw [h.1]
  simp
  omega
theorem LR_take {P Q : List Nat} {i n3 b : Nat} {me3 : Nat → Nat} {pl3 : Nat → Option Nat} (h : LR (P ++ Q.take i) n3 me3 pl3) (hb : Q[i]? = some b) (hn : Q.Nodup) (hdj : ∀ b, b ∈ Q → b ∉ P) : LR (P ++ Q.take (i + 1)) (n3 + 1) (va_up me3 n3 b) (va_up pl3 b (some n3)) := by
  have e : Q.take (i + 1) = Q.take i ++ [b] := by rw [List.take_add_one, hb]; rfl
  rw [e, ← List.append_assoc]
  refine LR_push h ?_
  intro q
  rcases List.mem_append.mp q with q | q
  · exact hdj b (List.mem_of_getElem? hb) q
  · have h1 : (Q.take i ++ Q.drop i).Nodup := by rw [List.take_append_drop]; exact hn
    have h2 : b ∈ Q.drop i := List.mem_of_getElem? (i := 0) (by rw [List.getElem?_drop]; exact hb)
    exact (List.nodup_append.mp h1).2.2 b q b h2 rfl
theorem LR_b {P : List Nat} {n : Nat} {me : Nat → Nat} {pl : Nat → Option Nat} (h : LR P n me pl) (hle : P.length ≤ 200) : ∀ i j, pl i = some j → j < 200 := by
  intro i j q
  have := ix_lt ((h.2.2 i j).mp q)
  omega
theorem LR_nodup {P : List Nat} {n : Nat} {me : Nat → Nat} {pl : Nat → Option Nat} (h : LR P n me pl) : P.Nodup := by
  refine List.pairwise_iff_getElem.mpr (fun i j hi hj hij e => ?_)
  have e1 := (h.2.2 (P[i]) i).mpr (List.getElem?_eq_getElem hi)
  have e2 := (h.2.2 (P[j]) j).mpr (List.getElem?_eq_getElem hj)
  rw [e, e2] at e1
  have := Option.some.inj e1
  omega
theorem LR_mem {P : List Nat} {n b : Nat} {me : Nat → Nat} {pl : Nat → Option Nat} (h : LR P n me pl) : (pl b).isSome = true ↔ b ∈ P := by
  constructor
  · intro q
    obtain ⟨i, hi⟩ := Option.isSome_iff_exists.mp q
    exact List.mem_of_getElem? ((h.2.2 b i).mp hi)
  · intro q
    obtain ⟨i, hi⟩ := List.getElem?_of_mem q
    rw [(h.2.2 b i).mpr hi]
    rfl
theorem LR_none {P : List Nat} {n b : Nat} {me : Nat → Nat} {pl : Nat → Option Nat} (h : LR P n me pl) : pl b = none ↔ b ∉ P := by
  rw [← LR_mem h]
  cases pl b <;> simp
def bestF (fs : Nat → Option Nat) (pu : Nat → Nat) (pl2 : Nat → Option Nat) (me : Nat → Nat) : Nat → Option Nat
  | 0 => none
  | k + 1 => if (pl2 (me k)).isSome = true then bestF fs pu pl2 me k else match bestF fs pu pl2 me k, fs (me k) with
    | none, q => q
    | some c, some d => if pu c < pu d then some d else some c
    | some c, none => some c
theorem best_bd {fs pl2 : Nat → Option Nat} {pu me : Nat → Nat} {k : Nat} {Bd : Nat → Prop} (h : ∀ c, bestF fs pu pl2 me k = some c → Bd c) (h2 : pl2 (me k) = none → ∀ d, fs (me k) = some d → Bd d) : ∀ c, bestF fs pu pl2 me (k + 1) = some c → Bd c := by
  intro c hc
  simp only [bestF] at hc
  split at hc
  · exact h c hc
  · next hz =>
    have hz : pl2 (me k) = none := by simpa using hz
    cases hb : bestF fs pu pl2 me k with
    | none =>
      rw [hb] at hc
      exact h2 hz c hc
    | some c1 =>
      cases hf : fs (me k) with
      | none =>
        rw [hb, hf] at hc
        cases hc
        exact h _ hb
      | some d1 =>
        rw [hb, hf] at hc
        dsimp only at hc
        split at hc
        · cases hc
          exact h2 hz _ hf
        · cases hc
          exact h _ hb
def adT (x y : Option Nat) (c q : Nat) (p : Nat → Nat) : Nat → Nat := fun d => p d + (if x = some c ∧ y = some d then q else 0)
theorem adT_no {x y : Option Nat} {c q : Nat} {p : Nat → Nat} (h : x ≠ some c ∨ y = none) : p = adT x y c q p := by
  funext d
  unfold adT
  rw [if_neg]
  · rfl
  · rintro ⟨h1, h2⟩
    rcases h with z | z
    · exact z h1
    · rw [z] at h2
      cases h2
theorem adT_yes {x y : Option Nat} {c q d : Nat} {p : Nat → Nat} (h1 : x = some c) (h2 : y = some d) : va_up p d (p d + q) = adT x y c q p := by
  funext j
  unfold adT va_up
  rw [h1, h2]
  by_cases hj : j = d
  · subst hj
    simp
  · rw [if_neg hj, if_neg]
    · rfl
    · rintro ⟨-, z⟩
      exact hj (Option.some.inj z).symm
def plF (fs : Nat → Option Nat) (c : Nat) (fr tt ct pu : Nat → Nat) : Nat → Nat → Nat
  | 0 => pu
  | k + 1 => adT (fs (tt k)) (fs (fr k)) c (ct k) (adT (fs (fr k)) (fs (tt k)) c (ct k) (plF fs c fr tt ct pu k))

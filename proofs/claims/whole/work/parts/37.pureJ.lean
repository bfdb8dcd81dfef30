/-! the reference knows: its rows are current -/
def KI (hot : Nat → Bool) (k : Nat) (co : Nat → Option Nat) (mn tb bn : Nat → Nat) (hs : Nat) : Prop := (∀ b, b < k → co b = if hot b = true then some b else none) ∧ (∀ b, b < k → mn b = if hot b = true then 1 else 0) ∧ (∀ b, b < k → tb (200 * b) = b) ∧ hs = (hbL k hot).length ∧ (∀ i x, (hbL k hot)[i]? = some x → bn i = x)
section KIs
variable {hot : Nat → Bool} {k hs : Nat} {co : Nat → Option Nat} {mn tb bn : Nat → Nat}
theorem KI_0 : KI hot 0 co mn tb bn 0 := ⟨fun b hb => by omega, fun b hb => by omega, fun b hb => by omega, rfl, fun i x hx => by simp [hbL] at hx⟩
theorem KI_cold (h : KI hot k co mn tb bn hs) (hk : hot k = false) : KI hot (k + 1) (va_up co k none) (va_up mn k 0) (va_up tb (200 * k) k) bn hs := by
  obtain ⟨h1, h2, h3, h4, h5⟩ := h
  have e : hbL (k + 1) hot = hbL k hot := by rw [hbL_succ, if_neg (by rw [hk]; decide)]
  refine ⟨lt_s (fun b hb => ?_) ?_, lt_s (fun b hb => ?_) ?_, lt_s (fun b hb => ?_) ?_, by rw [e]; exact h4, by rw [e]; exact h5⟩
  · rw [va_up_ne _ _ (by omega)]; exact h1 b hb
  · rw [va_up_self, hk]; rfl
  · rw [va_up_ne _ _ (by omega)]; exact h2 b hb
  · rw [va_up_self, hk]; rfl
  · rw [va_up_ne _ _ (by omega)]; exact h3 b hb
  · rw [va_up_self]
theorem KI_hot (h : KI hot k co mn tb bn hs) (hk : hot k = true) : KI hot (k + 1) (va_up co k (some k)) (va_up mn k 1) (va_up tb (200 * k) k) (va_up bn hs k) (hs + 1) := by
  obtain ⟨h1, h2, h3, h4, h5⟩ := h
  have e : hbL (k + 1) hot = hbL k hot ++ [k] := by rw [hbL_succ, if_pos hk]
  refine ⟨lt_s (fun b hb => ?_) ?_, lt_s (fun b hb => ?_) ?_, lt_s (fun b hb => ?_) ?_, by rw [e, List.length_append, h4]; rfl, ?_⟩
  · rw [va_up_ne _ _ (by omega)]; exact h1 b hb
  · rw [va_up_self, hk]; rfl
  · rw [va_up_ne _ _ (by omega)]; exact h2 b hb
  · rw [va_up_self, hk]; rfl
  · rw [va_up_ne _ _ (by omega)]; exact h3 b hb
  · rw [va_up_self]
  · intro i x hx
    rw [e] at hx
    by_cases hi : i < hs
    · rw [List.getElem?_append_left (by omega)] at hx
      rw [va_up_ne _ _ (by omega)]
      exact h5 i x hx
    · rw [List.getElem?_append_right (by omega)] at hx
      have := ix_lt hx
      simp at this
      have hi2 : i = hs := by omega
      subst hi2
      rw [← h4, Nat.sub_self] at hx
      simp at hx
      rw [va_up_self, hx]
end KIs
def MFresh (n : Nat) (hot : Nat → Bool) (L : List Wy) (hs : Nat) (ib : Bool) (co : Nat → Option Nat) (tb bc bn : Nat → Nat) : Prop := hs = (hbL n hot).length ∧ (∀ i x, (hbL n hot)[i]? = some x → bn i = x) ∧ (finL L (hbL n hot)).Nodup ∧ (finL L (hbL n hot)).length = (hbL n hot).length ∧ (∀ b, b ∈ finL L (hbL n hot) → b ∈ hbL n hot) ∧ (∀ i x, (finL L (hbL n hot))[i]? = some x → bc i = x) ∧ ib = betterB L (hbL n hot) ∧ (∀ b, b < n → co b = nameT (Tof L (hbL n hot)) b) ∧ (∀ c, Tof L (hbL n hot) c ≠ [] → tb (200 * c) = c)
theorem ar_lt {n i : Nat} {hot : Nat → Bool} {P : List Nat} {me : Nat → Nat} (hn : n ≤ 200) (h1 : ∀ b, b ∈ P → b ∈ hbL n hot) (h2 : ∀ i x, P[i]? = some x → me i = x) (hi : i < P.length) : me i < 200 := by
  have h3 : P[i]? = some (P[i]'hi) := List.getElem?_eq_getElem hi
  rw [h2 i _ h3]
  exact hbL_lt hn _ (h1 _ (List.mem_of_getElem? h3))
theorem rowL_len {L : List Wy} {HB : List Nat} (h : (finL L HB).length = HB.length) : (rowL L HB).length = HB.length := by
  unfold rowL
  split
  · exact h
  · rfl
theorem rowA_at {P : List Nat} {me : Nat → Nat} {j : Nat} (h : ∀ i x, P[i]? = some x → me i = x) (hj : j < P.length) : rowA P (nI j) (nI (me j)) := by
  have h3 : P[j]? = some (P[j]'hj) := List.getElem?_eq_getElem hj
  exact Or.inr ⟨j, P[j]'hj, h3, rfl, by rw [h j _ h3]⟩
section Wts
variable {L : List Wy} {n : Nat} {HB : List Nat}
theorem wtA_0 : wtA L n HB (nI 0) = lN (wS L (rowL L HB)) := by
  unfold wtA
  rw [if_pos (by decide)]
theorem wtA_1 : wtA L n HB (nI 1) = lN (wS L HB) := by
  unfold wtA
  rw [if_neg (by decide), if_pos (by decide)]
theorem wtA_2 : wtA L n HB (nI 2) = lN (wS L (List.range n)) := by
  unfold wtA
  rw [if_neg (by decide), if_neg (by decide), if_pos (by decide)]
theorem wtA_3 : wtA L n HB (nI 3) = lN (wS L (finL L HB)) := by
  unfold wtA
  rw [if_neg (by decide), if_neg (by decide), if_neg (by decide), if_pos (by decide)]
theorem wtA_bad {y : Int32} (h : ∀ m, m ≤ 3 → y ≠ nI m) : (-1 : Int64) = wtA L n HB y := by
  have h0 : y ≠ 0 := h 0 (by omega)
  have h1 : y ≠ 1 := h 1 (by omega)
  have h2 : y ≠ 2 := h 2 (by omega)
  have h3 : y ≠ 3 := h 3 (by omega)
  unfold wtA
  rw [if_neg h0, if_neg h1, if_neg h2, if_neg h3]
end Wts

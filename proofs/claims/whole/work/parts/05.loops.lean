/-! loops, by a measure that falls; arrays that are filled or new -/
section Loops
variable {p : Program} {l : Launch} {e : Env} {R : Room} {s : State} {m : MethodId} {args : Array Value} {below : List Frame} {meth : Method} {c : Code} {cells slots : Nat} {Q : State → Prop} {pc : Nat} {st : List Value}
theorem r_loop {σ : Type} (μ : σ → Nat) (I : σ → Heap → List Loc → Array Slot → Prop)
    (step : ∀ (x : σ) (H : Heap) (locs : List Loc) (ls : Array Slot), I x H locs ls → (∀ (y : σ) (H' : Heap) (locs' : List Loc) (ls' : Array Slot), I y H' locs' ls' → μ y < μ x → W p l e R s m args below meth c H' locs' cells slots Q (F0 m pc ls' st)) → W p l e R s m args below meth c H locs cells slots Q (F0 m pc ls st))
    (x : σ) {H : Heap} {locs : List Loc} {ls : Array Slot} (h : I x H locs ls) : W p l e R s m args below meth c H locs cells slots Q (F0 m pc ls st) := by
  have key : ∀ (n : Nat) (x : σ) (H : Heap) (locs : List Loc) (ls : Array Slot), μ x < n → I x H locs ls → W p l e R s m args below meth c H locs cells slots Q (F0 m pc ls st) := by
    intro n
    induction n with
    | zero => intro x H locs ls h; omega
    | succ n ih =>
      intro x H locs ls h hI
      exact step x H locs ls hI (fun y H' l' ls' hI' hm => ih y H' l' ls' (by omega) hI')
  exact key (μ x + 1) x H locs ls (Nat.lt_succ_self _) h
theorem r_loopR {σ : Type} {H : Heap} {locs : List Loc} (μ : σ → Nat) (I : σ → Array Slot → Prop)
    (step : ∀ (x : σ) (ls : Array Slot), I x ls → (∀ (y : σ) (ls' : Array Slot), I y ls' → μ y < μ x → W p l e R s m args below meth c H locs cells slots Q (F0 m pc ls' st)) → W p l e R s m args below meth c H locs cells slots Q (F0 m pc ls st))
    (x : σ) {ls : Array Slot} (h : I x ls) : W p l e R s m args below meth c H locs cells slots Q (F0 m pc ls st) := by
  have key : ∀ (n : Nat) (x : σ) (ls : Array Slot), μ x < n → I x ls → W p l e R s m args below meth c H locs cells slots Q (F0 m pc ls st) := by
    intro n
    induction n with
    | zero => intro x ls h; omega
    | succ n ih =>
      intro x ls h hI
      exact step x ls hI (fun y ls' hI' hm => ih y ls' (by omega) hI')
  exact key (μ x + 1) x ls (Nat.lt_succ_self _) h
end Loops
theorem arrV_ext {cA : ClassId} {n : Nat} {f g : Nat → Value} (h : ∀ j, j < n → f j = g j) : arrV cA n f = arrV cA n g := by
  unfold arrV
  have : (fun j : Fin n => f j.val) = (fun j : Fin n => g j.val) := funext fun j => h j.val j.isLt
  rw [this]
/-- what an array holds beyond its end counts for nothing -/
theorem P_extI {D : va_G} {cl : List vw_C} {ws : va_W} {H : Heap} (hP : va_P D cl ws H) (q0 : Nat) {a : Nat} {cA : ClassId} {n : Nat} {f : Nat → Int32} (g : Nat → Int32) (ha : ws[q0]? = some (a, .inl (cA, n, .inl f))) (h : ∀ j, j < n → f j = g j) : va_P D cl (ws.set q0 (a, .inl (cA, n, .inl g))) H := by
  intro k q hk
  rw [List.getElem?_set] at hk
  split at hk
  · next hkq =>
    split at hk
    · have hq := Option.some.inj hk
      subst hq
      have h1 : H[a]? = some (vp_cell cA (n, .inl f)) := hP q0 _ ha
      show H[a]? = some (vp_cell cA (n, .inl g))
      rw [h1, vp_cell_i, vp_cell_i]
      exact congrArg some (arrV_ext (fun j hj => by rw [h j hj]))
    · cases hk
  · exact hP k q hk
theorem P_extL {D : va_G} {cl : List vw_C} {ws : va_W} {H : Heap} (hP : va_P D cl ws H) (q0 : Nat) {a : Nat} {cA : ClassId} {n : Nat} {f : Nat → Int64} (g : Nat → Int64) (ha : ws[q0]? = some (a, .inl (cA, n, .inr (.inl f)))) (h : ∀ j, j < n → f j = g j) : va_P D cl (ws.set q0 (a, .inl (cA, n, .inr (.inl g)))) H := by
  intro k q hk
  rw [List.getElem?_set] at hk
  split at hk
  · next hkq =>
    split at hk
    · have hq := Option.some.inj hk
      subst hq
      have h1 : H[a]? = some (vp_cell cA (n, .inr (.inl f))) := hP q0 _ ha
      show H[a]? = some (vp_cell cA (n, .inr (.inl g)))
      rw [h1, vp_cell_l, vp_cell_l]
      exact congrArg some (arrV_ext (fun j hj => by rw [h j hj]))
    · cases hk
  · exact hP k q hk
theorem D_ext {A : Nat → Prop} {ws : va_W} (hD : va_D A ws) (q0 : Nat) {a : Nat} {x y : va_E} (ha : ws[q0]? = some (a, x)) : va_D A (ws.set q0 (a, y)) := hD.set ha

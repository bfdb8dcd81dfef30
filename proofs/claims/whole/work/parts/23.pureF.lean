/-! the class's own state, and what its answers are -/
def isB (n : Nat) (x : Int32) : Bool := decide (0 ≤ x.toInt ∧ x.toInt < n)
theorem isB_neg {n : Nat} {x : Int32} (h : x < 0) : isB n x = false := by
  unfold isB
  rw [decide_eq_false_iff_not]
  have h1 : x.toInt < (0 : Int32).toInt := Int32.lt_iff_toInt_lt.mp h
  have h2 : (0 : Int32).toInt = 0 := by decide
  omega
theorem isB_nI {n j : Nat} (hj : j < 2 ^ 31) : isB n (nI j) = decide (j < n) := by
  unfold isB
  rw [nI_toInt hj]
  congr 1
  exact propext ⟨fun h => by omega, fun h => by omega⟩
theorem isB_iff {n : Nat} {x : Int32} (hn : n ≤ 200) : isB n x = true ↔ ∃ j, j < n ∧ x = nI j := by
  constructor
  · intro h
    by_cases hx : x < 0
    · rw [isB_neg hx] at h
      cases h
    · obtain ⟨j, hj, rfl⟩ := nI_of hx
      rw [isB_nI hj] at h
      exact ⟨j, of_decide_eq_true h, rfl⟩
  · rintro ⟨j, hj, rfl⟩
    rw [isB_nI (by omega)]
    exact decide_eq_true hj
/-- the places of a list -/
def plL (P : List Nat) (b : Nat) : Option Nat := (List.range P.length).find? (fun i => decide (P[i]? = some b))
theorem LR_plL {P : List Nat} {n : Nat} {me : Nat → Nat} {pl : Nat → Option Nat} (h : LR P n me pl) : pl = plL P := by
  funext b
  unfold plL
  cases hf : (List.range P.length).find? (fun i => decide (P[i]? = some b)) with
  | none =>
    cases hq : pl b with
    | none => rfl
    | some i =>
      have h1 := (h.2.2 b i).mp hq
      have h2 := List.find?_eq_none.mp hf i (List.mem_range.mpr (ix_lt h1))
      simp [h1] at h2
  | some i =>
    have h1 := List.find?_some hf
    exact (h.2.2 b i).mpr (by simpa using h1)
def wS (L : List Wy) (P : List Nat) : Nat := (L.map (fun w => if (w.2.2.2 && gOnB (plL P) w.1 w.2.1) = true then w.2.2.1 else 0)).sum
theorem wS_sum {fr tt ct : Nat → Nat} {fa : Nat → Bool} {P : List Nat} {n : Nat} {me : Nat → Nat} {pl : Nat → Option Nat} (h : LR P n me pl) : ∀ kn, sumN (wgt fr tt ct fa pl) kn = wS (wl kn (pk fr tt ct fa)) P := by
  intro kn
  rw [LR_plL h]
  induction kn with
  | zero => rfl
  | succ k ih =>
    show sumN _ k + wgt fr tt ct fa (plL P) k = _
    rw [ih]
    unfold wS
    rw [wl_succ, List.map_append, List.sum_append]
    simp [wgt, pk]
theorem wS_bd {fr tt ct : Nat → Nat} {fa : Nat → Bool} {B : Nat} (hB : ∀ k, ct k ≤ B) (P : List Nat) : ∀ k, wS (wl k (pk fr tt ct fa)) P ≤ k * B := by
  intro k
  induction k with
  | zero => simp [wl, wS]
  | succ k ih =>
    unfold wS at *
    rw [wl_succ, List.map_append, List.sum_append, Nat.succ_mul]
    refine Nat.add_le_add ih ?_
    simp only [List.map_cons, List.map_nil, List.sum_cons, List.sum_nil, Nat.add_zero]
    split
    · exact hB k
    · exact Nat.zero_le _
theorem wS_lt {fr tt ct : Nat → Nat} {fa : Nat → Bool} {kn : Nat} (hB : WB fr tt ct) (hkn : kn ≤ 1000) (P : List Nat) : wS (wl kn (pk fr tt ct fa)) P < 2 ^ 63 := Nat.lt_of_le_of_lt (wS_bd (B := 1000000000000000) (fun k => (hB k).2.2) P kn) (Nat.lt_of_le_of_lt (Nat.mul_le_mul_right _ hkn) (by decide))
/-- the hot blocks by number, the chains at first, the chains, the row by chains -/
def hbL (n : Nat) (hot : Nat → Bool) : List Nat := (List.range n).filter hot
def T0 (HB : List Nat) : Nat → List Nat := fun c => if c ∈ HB then [c] else []
def Tof (L : List Wy) (HB : List Nat) : Nat → List Nat := L.foldl stepT (T0 HB)
def finL (L : List Wy) (HB : List Nat) : List Nat := placeF L (Tof L HB) HB 200 []
theorem hbL_mem {n : Nat} {hot : Nat → Bool} {b : Nat} : b ∈ hbL n hot ↔ b < n ∧ hot b = true := by
  unfold hbL
  rw [List.mem_filter, List.mem_range]
theorem hbL_succ {k : Nat} {hot : Nat → Bool} : hbL (k + 1) hot = if hot k = true then hbL k hot ++ [k] else hbL k hot := by
  unfold hbL
  rw [List.range_succ, List.filter_append]
  cases h : hot k <;> simp [h]
theorem hbL_len (n : Nat) (hot : Nat → Bool) : (hbL n hot).length ≤ n := by
  unfold hbL
  exact Nat.le_trans (List.length_filter_le _ _) (by rw [List.length_range]; exact Nat.le_refl _)
theorem T0_CI {HB : List Nat} (h : ∀ b, b ∈ HB → b < 200) : CI (T0 HB) := by
  have key : ∀ c b, b ∈ T0 HB c ↔ b = c ∧ c ∈ HB := by
    intro c b
    unfold T0
    split <;> simp_all
  refine ⟨fun c b hb => ?_, fun c hc => ?_, fun c d b hc hd => ?_, fun c => ?_⟩
  · obtain ⟨rfl, h2⟩ := (key c b).mp hb
    exact h _ h2
  · unfold T0 at *
    split at hc
    · next h1 => rw [if_pos h1]; rfl
    · exact absurd rfl hc
  · exact ((key c b).mp hc).1.symm.trans ((key d b).mp hd).1
  · unfold T0
    split <;> simp
theorem T0_mem {HB : List Nat} {b c : Nat} : b ∈ T0 HB c ↔ b = c ∧ c ∈ HB := by
  unfold T0
  split <;> simp_all
theorem CR_start {HB : List Nat} {n : Nat} {me : Nat → Nat} {pl : Nat → Option Nat} (hL : LR HB n me pl) (h : ∀ b, b ∈ HB → b < 200) : CR (T0 HB) (stF pl) (fun _ => none) := by
  refine ⟨⟨T0_CI h, fun _ _ => rfl⟩, ?_, ?_⟩
  · intro b c
    rw [T0_mem]
    unfold stF
    by_cases hb : (pl b).isSome = true
    · rw [if_pos hb]
      have := (LR_mem hL).mp hb
      constructor
      · intro q
        cases q
        exact ⟨rfl, this⟩
      · rintro ⟨rfl, -⟩
        rfl
    · rw [if_neg hb]
      constructor
      · intro q
        cases q
      · rintro ⟨rfl, q⟩
        exact absurd ((LR_mem hL).mpr q) hb
  · intro c i b hb
    unfold T0 at *
    split at hb
    · next h1 =>
      rw [if_pos h1]
      have := ix_lt hb
      simp at this
      subst this
      rfl
    · simp at hb
theorem step_CI {T : Nat → List Nat} {w : Wy} (h : CI T) : CI (stepT T w) ∧ ∀ b, (∃ c, b ∈ stepT T w c) ↔ ∃ c, b ∈ T c := by
  unfold stepT
  cases hf : nameT T w.1 with
  | none => exact ⟨h, fun b => Iff.rfl⟩
  | some a =>
    dsimp only
    split
    · next hc =>
      obtain ⟨h1, h2, h3, h4, h5, h6⟩ := hc
      have ha := last_mem h3
      exact ⟨join_CI h h5 (fun q => by rw [q] at ha; cases ha), fun b => join_mem h5⟩
    · exact ⟨h, fun b => Iff.rfl⟩
theorem fold_CI : ∀ (L : List Wy) (T : Nat → List Nat), CI T → CI (L.foldl stepT T) ∧ ∀ b, (∃ c, b ∈ L.foldl stepT T c) ↔ ∃ c, b ∈ T c := by
  intro L
  induction L with
  | nil => intro T h; exact ⟨h, fun b => Iff.rfl⟩
  | cons w L ih =>
    intro T h
    obtain ⟨h1, h2⟩ := step_CI (w := w) h
    obtain ⟨h3, h4⟩ := ih _ h1
    exact ⟨h3, fun b => (h4 b).trans (h2 b)⟩
theorem Tof_CI {L : List Wy} {HB : List Nat} (h : ∀ b, b ∈ HB → b < 200) : CI (Tof L HB) := (fold_CI L _ (T0_CI h)).1
theorem Tof_cov {L : List Wy} {HB : List Nat} (h : ∀ b, b ∈ HB → b < 200) : ∀ b, b ∈ HB ↔ ∃ c, b ∈ Tof L HB c := by
  intro b
  unfold Tof
  rw [(fold_CI L _ (T0_CI h)).2 b]
  constructor
  · intro q
    exact ⟨b, T0_mem.mpr ⟨rfl, q⟩⟩
  · rintro ⟨c, hc⟩
    obtain ⟨rfl, q⟩ := T0_mem.mp hc
    exact q
/-- the rows are current -/
def Fresh (n : Nat) (hot : Nat → Bool) (L : List Wy) (aw hw cw : Nat) (fs : Nat → Option Nat) (n1 : Nat) (me1 : Nat → Nat) (pl1 : Nat → Option Nat) (n2 : Nat) (me2 : Nat → Nat) (pl2 : Nat → Option Nat) (n3 : Nat) (me3 : Nat → Nat) (pl3 : Nat → Option Nat) : Prop :=
  LR (List.range n) n1 me1 pl1 ∧ LR (hbL n hot) n2 me2 pl2 ∧ LR (finL L (hbL n hot)) n3 me3 pl3 ∧ (∀ b, fs b = nameT (Tof L (hbL n hot)) b) ∧ aw = wS L (List.range n) ∧ hw = wS L (hbL n hot) ∧ cw = wS L (finL L (hbL n hot))
theorem hbL_lt {n : Nat} {hot : Nat → Bool} (hn : n ≤ 200) : ∀ b, b ∈ hbL n hot → b < 200 := fun b hb => by
  have := (hbL_mem.mp hb).1
  omega
theorem range_LR_push {k n1 : Nat} {me1 : Nat → Nat} {pl1 : Nat → Option Nat} (h : LR (List.range k) n1 me1 pl1) : LR (List.range (k + 1)) (n1 + 1) (va_up me1 n1 k) (va_up pl1 k (some n1)) := by
  rw [List.range_succ]
  exact LR_push h (by simp)
theorem hbL_LR_push {k n2 : Nat} {hot : Nat → Bool} {me2 : Nat → Nat} {pl2 : Nat → Option Nat} (h : LR (hbL k hot) n2 me2 pl2) (hk : hot k = true) : LR (hbL (k + 1) hot) (n2 + 1) (va_up me2 n2 k) (va_up pl2 k (some n2)) := by
  rw [hbL_succ, if_pos hk]
  exact LR_push h (fun q => by have := (hbL_mem.mp q).1; omega)
theorem hbL_LR_skip {k n2 : Nat} {hot : Nat → Bool} {me2 : Nat → Nat} {pl2 : Nat → Option Nat} (h : LR (hbL k hot) n2 me2 pl2) (hk : hot k = false) : LR (hbL (k + 1) hot) n2 me2 pl2 := by
  rw [hbL_succ, if_neg (by rw [hk]; decide)]
  exact h
theorem placeF_bd {L : List Wy} {T : Nat → List Nat} {HB : List Nat} (hT : CI T) (hcv : ∀ b, b ∈ HB ↔ ∃ c, b ∈ T c) : ∀ k P, (∀ b, b ∈ P → b ∈ HB) → ∀ b, b ∈ placeF L T HB k P → b ∈ HB := by
  intro k
  induction k with
  | zero => intro P h b hb; exact h b hb
  | succ k ih =>
    intro P h b hb
    simp only [placeF] at hb
    split at hb
    · cases hq : bestS L T HB P with
      | none => rw [hq] at hb; exact h b hb
      | some c =>
        rw [hq] at hb
        refine ih _ (fun x hx => ?_) b hb
        rcases List.mem_append.mp hx with q | q
        · exact h x q
        · exact (hcv x).mpr ⟨c, q⟩
    · exact h b hb
theorem fin_len {L : List Wy} {n : Nat} {hot : Nat → Bool} {n3 : Nat} {me3 : Nat → Nat} {pl3 : Nat → Option Nat} (hn : n ≤ 200) (h : LR (finL L (hbL n hot)) n3 me3 pl3) : (finL L (hbL n hot)).length ≤ 200 :=
  nodup_len 200 _ (LR_nodup h) (fun b hb => hbL_lt hn b (placeF_bd (Tof_CI (hbL_lt hn)) (Tof_cov (hbL_lt hn)) 200 [] (fun x hx => by cases hx) b hb))
/-- the answers -/
def betterB (L : List Wy) (HB : List Nat) : Bool := decide (wS L HB < wS L (finL L HB))
def rowL (L : List Wy) (HB : List Nat) : List Nat := if betterB L HB = true then finL L HB else HB
def rowA (P : List Nat) (x : Int32) (r : Int32) : Prop := (r = -1 ∧ ∀ j, j < P.length → x ≠ nI j) ∨ ∃ j b, P[j]? = some b ∧ x = nI j ∧ r = nI b
def wtA (L : List Wy) (n : Nat) (HB : List Nat) (x : Int32) : Int64 := if x = 0 then lN (wS L (rowL L HB)) else if x = 1 then lN (wS L HB) else if x = 2 then lN (wS L (List.range n)) else if x = 3 then lN (wS L (finL L HB)) else -1
def chA (L : List Wy) (n : Nat) (HB : List Nat) (x : Int32) (r : Int32) : Prop := (isB n x = false ∧ r = -1) ∨ ∃ j, j < n ∧ x = nI j ∧ r = oI (nameT (Tof L HB) j)
theorem rowA_of {P : List Nat} {n : Nat} {me : Nat → Nat} {pl : Nat → Option Nat} {x r : Int32} (h : LR P n me pl) (hr : (r = -1 ∧ ∀ j, j < n → x ≠ nI j) ∨ ∃ j, j < n ∧ x = nI j ∧ r = nI (me j)) : rowA P x r := by
  rcases hr with ⟨h1, h2⟩ | ⟨j, h1, h2, h3⟩
  · exact Or.inl ⟨h1, fun j hj => h2 j (by rw [h.1]; exact hj)⟩
  · rw [h.1] at h1
    refine Or.inr ⟨j, P[j], List.getElem?_eq_getElem h1, h2, ?_⟩
    rw [h3, h.2.1 j _ (List.getElem?_eq_getElem h1)]

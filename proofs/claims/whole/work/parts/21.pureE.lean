/-! placing the chains: the law of it, over lists -/
def pullS (L : List Wy) (T : Nat → List Nat) (P : List Nat) (c : Nat) : Nat := (L.map (fun w => if (w.1 ∈ T c ∧ w.2.1 ∈ P) ∨ (w.2.1 ∈ T c ∧ w.1 ∈ P) then w.2.2.1 else 0)).sum
def bestStep (L : List Wy) (T : Nat → List Nat) (P : List Nat) (o : Option Nat) (b : Nat) : Option Nat := if b ∈ P then o else match o, nameT T b with
  | none, q => q
  | some c, some d => if pullS L T P c < pullS L T P d then some d else some c
  | some c, none => some c
def bestS (L : List Wy) (T : Nat → List Nat) (HB P : List Nat) : Option Nat := HB.foldl (bestStep L T P) none
def placeF (L : List Wy) (T : Nat → List Nat) (HB : List Nat) : Nat → List Nat → List Nat
  | 0, P => P
  | k + 1, P => if P.length < HB.length then (match bestS L T HB P with
    | none => P
    | some c => placeF L T HB k (P ++ T c)) else P
def PI (L : List Wy) (T : Nat → List Nat) (_HB P : List Nat) (pu : Nat → Nat) : Prop := (∀ c, (∀ b, b ∈ T c → b ∈ P) ∨ (∀ b, b ∈ T c → b ∉ P)) ∧ (∀ c, T c ≠ [] → (∀ b, b ∈ T c → b ∉ P) → pu c = pullS L T P c) ∧ (∀ b, b ∈ P → ∃ c, b ∈ T c)
section Placing
variable {L : List Wy} {T : Nat → List Nat} {HB P : List Nat} {pu : Nat → Nat} {fs nx pl pl3 : Nat → Option Nat} {me me3 : Nat → Nat} {nn n3 i c0 j kn : Nat}
theorem pullS_nil (c : Nat) : pullS L T [] c = 0 := by
  unfold pullS
  induction L with
  | nil => rfl
  | cons w L ih =>
    rw [List.map_cons, List.sum_cons, ih]
    simp
theorem PI_nil (_ : True) : PI L T HB [] (fun _ => 0) := ⟨fun c => Or.inr (fun b _ h => by cases h), fun c _ _ => (pullS_nil c).symm, fun b h => by cases h⟩
theorem PI_lt (hR : CR T fs nx) (hp : PI L T HB P pu) : ∀ b, b ∈ P → b < 200 := fun b hb => by
  obtain ⟨c, hc⟩ := hp.2.2 b hb
  exact hR.1.1.1 c b hc
theorem LR_le (hR : CR T fs nx) (h : LR P n3 me3 pl3) (hp : PI L T HB P pu) : P.length ≤ 200 := nodup_len 200 P (LR_nodup h) (PI_lt hR hp)
theorem foldl_best {Q : Nat → Prop} : ∀ (HB : List Nat) (o : Option Nat), (∀ c, o = some c → Q c) → (∀ b, b ∈ HB → b ∉ P → ∀ d, nameT T b = some d → Q d) → ∀ c, HB.foldl (bestStep L T P) o = some c → Q c := by
  intro HB
  induction HB with
  | nil => intro o h1 _ c hc; exact h1 c hc
  | cons b HB ih =>
    intro o h1 h2 c hc
    refine ih (bestStep L T P o b) ?_ (fun x hx => h2 x (List.mem_cons_of_mem _ hx)) c hc
    intro e he
    unfold bestStep at he
    split at he
    · exact h1 e he
    · next hz =>
      cases o with
      | none => exact h2 b List.mem_cons_self hz e he
      | some c1 =>
        cases hf : nameT T b with
        | none =>
          rw [hf] at he
          cases he
          exact h1 _ rfl
        | some d1 =>
          rw [hf] at he
          dsimp only at he
          split at he
          · cases he
            exact h2 b List.mem_cons_self hz _ hf
          · cases he
            exact h1 _ rfl
theorem best_ex (hR : CI T) (h : bestS L T HB P = some j) : ∃ b, b ∈ HB ∧ b ∉ P ∧ b ∈ T j :=
  foldl_best (Q := fun c => ∃ b, b ∈ HB ∧ b ∉ P ∧ b ∈ T c) HB none (fun c h => by cases h) (fun b hb hp d hd => ⟨b, hb, hp, (name_iff hR).mp hd⟩) j h
theorem best_lt (hR : CR T fs nx) (h : bestS L T HB P = some j) : j < 200 := by
  obtain ⟨b, -, -, hb⟩ := best_ex hR.1.1 h
  exact hR.1.1.lt hb
theorem closed_un (hc : ∀ c, (∀ b, b ∈ T c → b ∈ P) ∨ (∀ b, b ∈ T c → b ∉ P)) {b : Nat} (hb : b ∈ T j) (hp : b ∉ P) : ∀ x, x ∈ T j → x ∉ P := by
  rcases hc j with q | q
  · exact absurd (q b hb) hp
  · exact q
theorem best_sp (hR : CR T fs nx) (hp : PI L T HB P pu) (h : bestS L T HB P = some c0) : T c0 ≠ [] ∧ ∀ b, b ∈ T c0 → b ∉ P := by
  obtain ⟨b, -, h1, h2⟩ := best_ex hR.1.1 h
  have h3 : T c0 ≠ [] := fun q => by rw [q] at h2; cases h2
  exact ⟨h3, closed_un hp.1 h2 h1⟩
theorem hb_me (hR : CR T fs nx) (hHB : LR HB nn me pl) (hcv : ∀ b, b ∈ HB ↔ ∃ c, b ∈ T c) : ∀ k, k < nn → me k < 200 ∧ ∃ d, fs (me k) = some d := by
  intro k hk
  rw [hHB.1] at hk
  have e := hHB.2.1 k _ (List.getElem?_eq_getElem hk)
  obtain ⟨c, hc⟩ := (hcv (HB[k])).mp (List.getElem_mem hk)
  rw [e]
  exact ⟨hR.1.1.1 c _ hc, c, (hR.2.1 _ c).mpr hc⟩
theorem pu_lt (hR : CR T fs nx) (_hHB : LR HB nn me pl) (hLR : LR P n3 me3 pl3) (hp : PI L T HB P pu) (hLb : ∀ T P c, pullS L T P c < 2 ^ 63) : ∀ k, k < nn → pl3 (me k) = none → ∀ d, fs (me k) = some d → pu d < 2 ^ 63 := by
  intro k _ hz d hd
  have h1 := (hR.2.1 _ d).mp hd
  have h2 := (LR_none hLR).mp hz
  rw [hp.2.1 d (fun q => by rw [q] at h1; cases h1) (closed_un hp.1 h1 h2)]
  exact hLb _ _ _
theorem pl_room (hR : CR T fs nx) (hLR : LR P n3 me3 pl3) (hp : PI L T HB P pu) (hbc : ∀ b, b ∈ T c0 → b ∉ P) : P.length + (T c0).length ≤ 200 := by
  rw [← List.length_append]
  refine nodup_len 200 _ (List.nodup_append.mpr ⟨LR_nodup hLR, hR.1.1.2.2.2 c0, ?_⟩) ?_
  · intro x hx y hy e
    subst e
    exact hbc x hy hx
  · intro b hb
    rcases List.mem_append.mp hb with q | q
    · exact PI_lt hR hp b q
    · exact hR.1.1.1 c0 b q
theorem best_eq (hR : CR T fs nx) (hHB : LR HB nn me pl) (hLR : LR P n3 me3 pl3) (hp : PI L T HB P pu) : bestF fs pu pl3 me nn = bestS L T HB P := by
  have key : ∀ k, k ≤ nn → bestF fs pu pl3 me k = (HB.take k).foldl (bestStep L T P) none ∧ ∀ c, bestF fs pu pl3 me k = some c → T c ≠ [] ∧ ∀ x, x ∈ T c → x ∉ P := by
    intro k
    induction k with
    | zero => intro _; exact ⟨rfl, fun c h => by cases h⟩
    | succ k ih =>
      intro hk
      obtain ⟨h1, h2⟩ := ih (by omega)
      have hk2 : k < HB.length := by rw [← hHB.1]; omega
      have e : HB.take (k + 1) = HB.take k ++ [me k] := by
        rw [List.take_add_one, List.getElem?_eq_getElem hk2, hHB.2.1 k _ (List.getElem?_eq_getElem hk2)]
        rfl
      have un : pl3 (me k) = none → ∀ d, fs (me k) = some d → T d ≠ [] ∧ ∀ x, x ∈ T d → x ∉ P := by
        intro hz d hd
        have g1 := (hR.2.1 _ d).mp hd
        have g3 : T d ≠ [] := fun q => by rw [q] at g1; cases g1
        exact ⟨g3, closed_un hp.1 g1 ((LR_none hLR).mp hz)⟩
      refine ⟨?_, best_bd h2 un⟩
      rw [e, List.foldl_append, ← h1]
      show bestF fs pu pl3 me (k + 1) = bestStep L T P (bestF fs pu pl3 me k) (me k)
      unfold bestStep
      rw [← CR_name hR]
      simp only [bestF]
      by_cases hz : (pl3 (me k)).isSome = true
      · rw [if_pos hz, if_pos ((LR_mem hLR).mp hz)]
      · rw [if_neg hz, if_neg (fun q => hz ((LR_mem hLR).mpr q))]
        have hz2 : pl3 (me k) = none := by simpa using hz
        cases hb : bestF fs pu pl3 me k with
        | none => rfl
        | some c1 =>
          cases hf : fs (me k) with
          | none => rfl
          | some d1 =>
            dsimp only
            obtain ⟨a1, a2⟩ := h2 c1 hb
            obtain ⟨b1, b2⟩ := un hz2 d1 hf
            rw [hp.2.1 c1 a1 a2, hp.2.1 d1 b1 b2]
  have h := (key nn (Nat.le_refl _)).1
  rw [List.take_of_length_le (by rw [hHB.1]; exact Nat.le_refl _)] at h
  exact h
theorem placeF_0 (h : 200 - i = 0) : placeF L T HB (200 - i) P = P := by
  rw [h]
  rfl
theorem placeF_full {k : Nat} (h : HB.length ≤ P.length) : placeF L T HB k P = P := by
  cases k with
  | zero => rfl
  | succ k =>
    simp only [placeF]
    rw [if_neg (by omega)]
theorem placeF_none {k : Nat} (h : bestS L T HB P = none) : placeF L T HB k P = P := by
  cases k with
  | zero => rfl
  | succ k =>
    simp only [placeF]
    rw [h]
    split <;> rfl
theorem placeF_go (_ : LR P n3 me3 pl3) (hi : i < 200) (h : bestS L T HB P = some c0) (hlt : P.length < HB.length) : placeF L T HB (200 - i) P = placeF L T HB (200 - (i + 1)) (P ++ T c0) := by
  rw [show 200 - i = (200 - (i + 1)) + 1 by omega]
  simp only [placeF]
  rw [if_pos hlt, h]
theorem pullS_succ {g : Nat → Wy} {k c : Nat} : pullS (wl (k + 1) g) T P c = pullS (wl k g) T P c + (if ((g k).1 ∈ T c ∧ (g k).2.1 ∈ P) ∨ ((g k).2.1 ∈ T c ∧ (g k).1 ∈ P) then (g k).2.2.1 else 0) := by
  unfold pullS
  rw [wl_succ, List.map_append, List.sum_append]
  simp
variable {fr tt ct : Nat → Nat} {fa : Nat → Bool}
theorem pullS_bd {B : Nat} (hB : ∀ k, ct k ≤ B) (T : Nat → List Nat) (P : List Nat) (c : Nat) : ∀ k, pullS (wl k (pk fr tt ct fa)) T P c ≤ k * B := by
  intro k
  induction k with
  | zero => simp [wl, pullS]
  | succ k ih =>
    rw [pullS_succ, Nat.succ_mul]
    refine Nat.add_le_add ih ?_
    split
    · exact hB k
    · exact Nat.zero_le _
theorem wl_b (hB : WB fr tt ct) (hkn : kn ≤ 1000) : ∀ (T : Nat → List Nat) (P : List Nat) (c : Nat), pullS (wl kn (pk fr tt ct fa)) T P c < 2 ^ 63 := fun T P c => Nat.lt_of_le_of_lt (pullS_bd (B := 1000000000000000) (fun k => (hB k).2.2) T P c kn) (Nat.lt_of_le_of_lt (Nat.mul_le_mul_right _ hkn) (by decide))
theorem PI_step (hR : CR T fs nx) (hp : PI (wl kn (pk fr tt ct fa)) T HB P pu) (hbc : ∀ b, b ∈ T c0 → b ∉ P) (_hcv : ∀ b, b ∈ HB ↔ ∃ c, b ∈ T c) : PI (wl kn (pk fr tt ct fa)) T HB (P ++ T c0) (plF fs c0 fr tt ct pu kn) := by
  refine ⟨?_, ?_, ?_⟩
  · intro c
    rcases hp.1 c with q | q
    · exact Or.inl (fun b hb => List.mem_append_left _ (q b hb))
    · by_cases hc : c = c0
      · subst hc
        exact Or.inl (fun b hb => List.mem_append_right _ hb)
      · refine Or.inr (fun b hb hx => ?_)
        rcases List.mem_append.mp hx with z | z
        · exact q b hb z
        · exact hc (hR.1.1.2.2.1 c c0 b hb z)
  · intro d hd hun
    have hun1 : ∀ b, b ∈ T d → b ∉ P := fun b hb q => hun b hb (List.mem_append_left _ q)
    have hun2 : ∀ b, b ∈ T d → b ∉ T c0 := fun b hb q => hun b hb (List.mem_append_right _ q)
    have key : ∀ k, plF fs c0 fr tt ct pu k d + pullS (wl k (pk fr tt ct fa)) T P d = pu d + pullS (wl k (pk fr tt ct fa)) T (P ++ T c0) d := by
      intro k
      induction k with
      | zero => rfl
      | succ k ih =>
        rw [pullS_succ, pullS_succ]
        show adT (fs (tt k)) (fs (fr k)) c0 (ct k) (adT (fs (fr k)) (fs (tt k)) c0 (ct k) (plF fs c0 fr tt ct pu k)) d + _ = _
        unfold adT
        have e1 : (pk fr tt ct fa k).1 = fr k := rfl
        have e2 : (pk fr tt ct fa k).2.1 = tt k := rfl
        have e3 : (pk fr tt ct fa k).2.2.1 = ct k := rfl
        rw [e1, e2, e3]
        simp only [hR.2.1, List.mem_append]
        by_cases ha : fr k ∈ T d
        · have a1 := hun1 _ ha
          have a2 := hun2 _ ha
          by_cases hb : tt k ∈ T d
          · have b1 := hun1 _ hb
            have b2 := hun2 _ hb
            simp only [ha, hb, a1, a2, b1, b2, and_true, and_false, or_false, false_and, if_false]
            omega
          · by_cases hs : tt k ∈ T c0
            · have s1 := hbc _ hs
              simp only [ha, hb, a1, a2, hs, s1, and_true, and_false, or_false, false_and, true_and, false_or, or_true, if_false, if_true]
              omega
            · simp only [ha, hb, a1, a2, hs, and_true, and_false, or_false, false_and, true_and, false_or, if_false]
              omega
        · by_cases hb : tt k ∈ T d
          · have b1 := hun1 _ hb
            have b2 := hun2 _ hb
            by_cases hr : fr k ∈ T c0
            · have r1 := hbc _ hr
              simp only [ha, hb, b1, b2, hr, r1, and_true, and_false, or_false, false_and, true_and, false_or, or_true, if_false, if_true]
              omega
            · simp only [ha, hb, b1, b2, hr, and_true, and_false, or_false, false_and, true_and, false_or, if_false]
              omega
          · simp only [ha, hb, and_false, false_and, or_false, if_false]
            omega
    have h1 := key kn
    rw [hp.2.1 d hd hun1] at h1
    omega
  · intro b hb
    rcases List.mem_append.mp hb with q | q
    · exact hp.2.2 b q
    · exact ⟨c0, q⟩
end Placing

/-! lists in another order: the same sums, the same placing; a weight as a sum over pairs -/
theorem perm_sum {l m : List Nat} (h : l.Perm m) : l.sum = m.sum := by
  induction h with
  | nil => rfl
  | cons x _ ih => rw [List.sum_cons, List.sum_cons, ih]
  | swap x y l => rw [List.sum_cons, List.sum_cons, List.sum_cons, List.sum_cons]; omega
  | trans _ _ h1 h2 => rw [h1, h2]
theorem pullS_perm {L M : List Wy} (h : L.Perm M) (T : Nat → List Nat) (P : List Nat) (c : Nat) : pullS L T P c = pullS M T P c := perm_sum (h.map _)
theorem wS_perm {L M : List Wy} (h : L.Perm M) (P : List Nat) : wS L P = wS M P := perm_sum (h.map _)
theorem bestStep_perm {L M : List Wy} (h : L.Perm M) (T : Nat → List Nat) (P : List Nat) : bestStep L T P = bestStep M T P := by
  funext o b
  unfold bestStep
  simp only [pullS_perm h]
theorem bestS_perm {L M : List Wy} (h : L.Perm M) (T : Nat → List Nat) (HB P : List Nat) : bestS L T HB P = bestS M T HB P := by
  unfold bestS
  rw [bestStep_perm h]
theorem placeF_perm {L M : List Wy} (h : L.Perm M) (T : Nat → List Nat) (HB : List Nat) : ∀ k P, placeF L T HB k P = placeF M T HB k P := by
  intro k
  induction k with
  | zero => intro P; rfl
  | succ k ih =>
    intro P
    simp only [placeF]
    rw [bestS_perm h]
    split
    · cases bestS M T HB P with
      | none => rfl
      | some c => exact ih _
    · rfl
theorem nodup_sub : ∀ (A B : List Nat), A.Nodup → (∀ x, x ∈ A → x ∈ B) → A.length ≤ B.length := by
  intro A
  induction A with
  | nil => intro B _ _; exact Nat.zero_le _
  | cons a A ih =>
    intro B hn hs
    obtain ⟨h1, h2⟩ := List.nodup_cons.mp hn
    have ha : a ∈ B := hs a List.mem_cons_self
    have h3 := ih (B.erase a) h2 (fun x hx => by
      have hx2 := hs x (List.mem_cons_of_mem _ hx)
      have : x ≠ a := fun q => h1 (q ▸ hx)
      exact (List.mem_erase_of_ne this).mpr hx2)
    rw [List.length_erase_of_mem ha] at h3
    have := List.length_pos_of_mem ha
    rw [List.length_cons]
    omega
theorem sumN_zero {f : Nat → Nat} {m : Nat} (h : ∀ k, k < m → f k = 0) : sumN f m = 0 := by
  induction m with
  | zero => rfl
  | succ m ih =>
    show sumN f m + f m = 0
    rw [ih (fun k hk => h k (by omega)), h m (by omega)]
theorem sumN_one {f : Nat → Nat} {m i : Nat} (hi : i < m) (h : ∀ k, k < m → k ≠ i → f k = 0) : sumN f m = f i := by
  induction m with
  | zero => omega
  | succ m ih =>
    show sumN f m + f m = f i
    by_cases e : i = m
    · subst e
      rw [sumN_zero (fun k hk => h k (by omega) (by omega)), Nat.zero_add]
    · rw [ih (by omega) (fun k hk hk2 => h k (by omega) hk2), h m (by omega) (fun q => e q.symm), Nat.add_zero]
theorem sumN_add {f g : Nat → Nat} {m : Nat} : sumN (fun k => f k + g k) m = sumN f m + sumN g m := by
  induction m with
  | zero => rfl
  | succ m ih =>
    show sumN (fun k => f k + g k) m + (f m + g m) = (sumN f m + f m) + (sumN g m + g m)
    rw [ih]
    omega
theorem sumN_congr {f g : Nat → Nat} {m : Nat} (h : ∀ k, k < m → f k = g k) : sumN f m = sumN g m := by
  induction m with
  | zero => rfl
  | succ m ih =>
    show sumN f m + f m = sumN g m + g m
    rw [ih (fun k hk => h k (by omega)), h m (by omega)]
theorem plL_iff {P : List Nat} (hn : P.Nodup) {b i : Nat} : plL P b = some i ↔ P[i]? = some b := by
  unfold plL
  constructor
  · intro h
    have h1 := List.find?_some h
    simpa using h1
  · intro h
    cases hf : (List.range P.length).find? (fun i => decide (P[i]? = some b)) with
    | none =>
      have h2 := List.find?_eq_none.mp hf i (List.mem_range.mpr (ix_lt h))
      simp [h] at h2
    | some j =>
      have h1 := List.find?_some hf
      have h2 : P[j]? = some b := by simpa using h1
      have hi := ix_lt h
      have hj := ix_lt h2
      have e1 : P[i]'(by omega) = P[j]'(by omega) := by
        have a1 : P[i]? = some (P[i]'(by omega)) := List.getElem?_eq_getElem _
        have a2 : P[j]? = some (P[j]'(by omega)) := List.getElem?_eq_getElem _
        rw [h] at a1
        rw [h2] at a2
        rw [← Option.some.inj a1, ← Option.some.inj a2]
      rcases Nat.lt_trichotomy i j with q | q | q
      · exact absurd e1 (List.pairwise_iff_getElem.mp hn i j (by omega) (by omega) q)
      · rw [q]
      · exact absurd e1.symm (List.pairwise_iff_getElem.mp hn j i (by omega) (by omega) q)
theorem gOnL_iff {P : List Nat} (hn : P.Nodup) {u v : Nat} : gOnB (plL P) u v = true ↔ ∃ i, P[i]? = some u ∧ P[i + 1]? = some v := by
  unfold gOnB
  cases hf : plL P u with
  | none =>
    constructor
    · intro q; cases q
    · rintro ⟨i, h1, -⟩
      rw [(plL_iff hn).mpr h1] at hf
      cases hf
  | some i =>
    have h1 := (plL_iff hn).mp hf
    constructor
    · intro q
      exact ⟨i, h1, (plL_iff hn).mp (of_decide_eq_true q)⟩
    · rintro ⟨j, h2, h3⟩
      have := (plL_iff hn).mpr h2
      rw [hf] at this
      rw [Option.some.inj this]
      exact decide_eq_true ((plL_iff hn).mpr h3)
theorem pairW_cons {w : Wy} {L : List Wy} (hK : KdL (w :: L)) (a b : Nat) : pairW (w :: L) a b = pairW L a b + (if a = w.1 ∧ b = w.2.1 then (if w.2.2.2 = true then w.2.2.1 else 0) else 0) := by
  have hk := List.pairwise_cons.mp hK
  by_cases h : a = w.1 ∧ b = w.2.1
  · rw [if_pos h]
    have h0 : pairW L a b = 0 := by
      unfold pairW
      cases hf : L.find? (kyB a b) with
      | none => rfl
      | some w2 =>
        have q := kyB_iff.mp (List.find?_some hf)
        exact absurd ⟨h.1.symm.trans q.1.symm, h.2.symm.trans q.2.symm⟩ (hk.1 w2 (List.mem_of_find?_eq_some hf))
    rw [h0, Nat.zero_add]
    exact pairW_of hK List.mem_cons_self h.1.symm h.2.symm
  · rw [if_neg h, Nat.add_zero]
    unfold pairW
    rw [List.find?_cons_of_neg]
    intro q
    exact h ⟨(kyB_iff.mp q).1.symm, (kyB_iff.mp q).2.symm⟩
theorem wM_eq {P : List Nat} {me : Nat → Nat} (hn : P.Nodup) (hme : ∀ i x, P[i]? = some x → me i = x) : ∀ (L : List Wy), KdL L → sumN (fun k => pairW L (me k) (me (k + 1))) (P.length - 1) = wS L P := by
  intro L
  induction L with
  | nil =>
    intro _
    exact sumN_zero (fun k _ => rfl)
  | cons w L ih =>
    intro hK
    have hk := List.pairwise_cons.mp hK
    have e1 : sumN (fun k => pairW (w :: L) (me k) (me (k + 1))) (P.length - 1) = sumN (fun k => pairW L (me k) (me (k + 1)) + (if me k = w.1 ∧ me (k + 1) = w.2.1 then (if w.2.2.2 = true then w.2.2.1 else 0) else 0)) (P.length - 1) := sumN_congr (fun k _ => pairW_cons hK _ _)
    rw [e1, sumN_add, ih hk.2]
    have hget : ∀ k, k < P.length → P[k]? = some (me k) := by
      intro k hk
      have h1 : P[k]? = some (P[k]'hk) := List.getElem?_eq_getElem hk
      rw [hme k _ h1]
      exact h1
    unfold wS
    rw [List.map_cons, List.sum_cons, Nat.add_comm]
    congr 1
    by_cases hg : gOnB (plL P) w.1 w.2.1 = true
    · obtain ⟨i, h1, h2⟩ := (gOnL_iff hn).mp hg
      have hi := ix_lt h2
      rw [sumN_one (i := i) (by omega), hme i _ h1, hme (i + 1) _ h2, if_pos ⟨rfl, rfl⟩, hg, Bool.and_true]
      intro k hk2 hki
      rw [if_neg]
      rintro ⟨q1, q2⟩
      have h3 := hget k (by omega)
      rw [q1] at h3
      have a1 := (plL_iff hn).mpr h3
      have a2 := (plL_iff hn).mpr h1
      rw [a1] at a2
      exact hki (Option.some.inj a2)
    · rw [sumN_zero, Bool.eq_false_iff.mpr hg, Bool.and_false]
      · rfl
      · intro k hk2
        rw [if_neg]
        rintro ⟨q1, q2⟩
        refine hg ((gOnL_iff hn).mpr ⟨k, ?_, ?_⟩)
        · rw [hget k (by omega), q1]
        · rw [hget (k + 1) (by omega), q2]
/-! the reference's placing -/
def bestK (M : List Wy) (T : Nat → List Nat) (P : List Nat) (hot : Nat → Bool) (k : Nat) : Option Nat := (hbL k hot).foldl (bestStep M T P) none
def mostV (M : List Wy) (T : Nat → List Nat) (P : List Nat) (o : Option Nat) : Int64 := match o with
  | none => -1
  | some c => lN (pullS M T P c)
section Plc
variable {M : List Wy} {T : Nat → List Nat} {P HB : List Nat} {hot : Nat → Bool} {k c d n x i : Nat}
theorem bk_cold (h : hot k = false) : bestK M T P hot (k + 1) = bestK M T P hot k := by
  unfold bestK
  rw [hbL_succ, if_neg (by rw [h]; decide)]
theorem bk_hot (h : hot k = true) : bestK M T P hot (k + 1) = bestStep M T P (bestK M T P hot k) k := by
  unfold bestK
  rw [hbL_succ, if_pos h, List.foldl_append]
  rfl
theorem bs_in {o : Option Nat} (h : k ∈ P) : bestStep M T P o k = o := by
  unfold bestStep
  rw [if_pos h]
theorem bs_same (h : k ∉ P) (hd : nameT T k = some d) : bestStep M T P (some d) k = some d := by
  unfold bestStep
  rw [if_neg h, hd]
  dsimp only
  rw [if_neg (by omega)]
theorem bs_take {o : Option Nat} (h : k ∉ P) (hd : nameT T k = some d) (hp : ∀ c, o = some c → pullS M T P c < pullS M T P d) : bestStep M T P o k = some d := by
  unfold bestStep
  rw [if_neg h, hd]
  cases o with
  | none => rfl
  | some c =>
    dsimp only
    rw [if_pos (hp c rfl)]
theorem bs_keep (h : k ∉ P) (hd : nameT T k = some d) (hp : pullS M T P d ≤ pullS M T P c) : bestStep M T P (some c) k = some c := by
  unfold bestStep
  rw [if_neg h, hd]
  dsimp only
  rw [if_neg (by omega)]
theorem fold_none : ∀ (HB : List Nat) (o : Option Nat), HB.foldl (bestStep M T P) o = none → o = none ∧ ∀ b, b ∈ HB → b ∈ P ∨ nameT T b = none := by
  intro HB
  induction HB with
  | nil => intro o h; exact ⟨h, fun b hb => by cases hb⟩
  | cons a HB ih =>
    intro o h
    obtain ⟨h1, h2⟩ := ih _ h
    unfold bestStep at h1
    by_cases ha : a ∈ P
    · rw [if_pos ha] at h1
      refine ⟨h1, fun b hb => ?_⟩
      rcases List.mem_cons.mp hb with q | q
      · exact Or.inl (q ▸ ha)
      · exact h2 b q
    · rw [if_neg ha] at h1
      cases o with
      | none =>
        refine ⟨rfl, fun b hb => ?_⟩
        rcases List.mem_cons.mp hb with q | q
        · exact Or.inr (by rw [q]; exact h1)
        · exact h2 b q
      | some c =>
        cases hf : nameT T a with
        | none => rw [hf] at h1; cases h1
        | some e =>
          rw [hf] at h1
          dsimp only at h1
          split at h1 <;> cases h1
theorem best_ne (hT : CI T) (hcv : ∀ b, b ∈ HB ↔ ∃ c, b ∈ T c) (hn : HB.Nodup) (hlt : P.length < HB.length) : bestS M T HB P ≠ none := by
  intro h
  have h2 := (fold_none HB none h).2
  have := nodup_sub HB P hn (fun b hb => by
    rcases h2 b hb with q | q
    · exact q
    · obtain ⟨c, hc⟩ := (hcv b).mp hb
      exact absurd hc ((name_none hT).mp q c))
  omega
/-- the outer loop's state -/
def PB (M : List Wy) (T : Nat → List Nat) (HB F : List Nat) (n n1 : Nat) (P : List Nat) (bc : Nat → Nat) (ip : Nat → Bool) : Prop :=
  n1 = P.length ∧ P.Nodup ∧ (∀ b, b ∈ P → b ∈ HB) ∧ (∀ c, (∀ b, b ∈ T c → b ∈ P) ∨ (∀ b, b ∈ T c → b ∉ P)) ∧ (∀ i x, P[i]? = some x → bc i = x) ∧ (∀ b, b < n → ip b = decide (b ∈ P)) ∧ ∃ k, placeF M T HB k P = F ∧ HB.length ≤ P.length + k
theorem PB_0 {bc : Nat → Nat} {ip : Nat → Bool} (hl : HB.length ≤ 200) (h : ∀ b, b < n → ip b = false) : PB M T HB (placeF M T HB 200 []) n 0 [] bc ip :=
  ⟨rfl, List.nodup_nil, (fun b hb => (by cases hb)), (fun c => Or.inr (fun b _ q => (by cases q))), (fun i x hx => (by simp at hx)), (fun b hb => (by rw [h b hb]; rfl)), 200, rfl, (by simp; omega)⟩
theorem PB_end {F : List Nat} {n1 : Nat} {bc : Nat → Nat} {ip : Nat → Bool} (h : PB M T HB F n n1 P bc ip) (hge : HB.length ≤ n1) : P = F := by
  obtain ⟨h1, -, -, -, -, -, k, h2, -⟩ := h
  rw [← h2, placeF_full (by omega)]
/-- the row grows by a chain, block by block -/
def PD (T : Nat → List Nat) (n c : Nat) (P : List Nat) (i n2 : Nat) (bc : Nat → Nat) (ip : Nat → Bool) : Prop := n2 = P.length + i ∧ (∀ j x, (P ++ (T c).take i)[j]? = some x → bc j = x) ∧ (∀ b, b < n → ip b = decide (b ∈ P ++ (T c).take i))
theorem PD_0 {F : List Nat} {n1 : Nat} {bc : Nat → Nat} {ip : Nat → Bool} (h : PB M T HB F n n1 P bc ip) : PD T n c P 0 n1 bc ip := by
  obtain ⟨h1, -, -, -, h2, h3, -⟩ := h
  exact ⟨h1, by simpa using h2, by simpa using h3⟩
theorem PD_step {n2 : Nat} {bc : Nat → Nat} {ip : Nat → Bool} (h : PD T n c P i n2 bc ip) (hx : (T c)[i]? = some x) : PD T n c P (i + 1) (n2 + 1) (va_up bc n2 x) (va_up ip x true) := by
  obtain ⟨h1, h2, h3⟩ := h
  have hi := ix_lt hx
  have e : (T c).take (i + 1) = (T c).take i ++ [x] := by rw [List.take_add_one, hx]; rfl
  have hlen : (P ++ (T c).take i).length = n2 := by rw [List.length_append, List.length_take]; omega
  refine ⟨by omega, ?_, ?_⟩
  · intro j y hy
    rw [e, ← List.append_assoc] at hy
    by_cases hj : j < n2
    · rw [List.getElem?_append_left (by omega)] at hy
      rw [va_up_ne _ _ (by omega)]
      exact h2 j y hy
    · rw [List.getElem?_append_right (by omega), hlen] at hy
      have := ix_lt hy
      simp at this
      have hj2 : j = n2 := by omega
      subst hj2
      simp at hy
      rw [va_up_self, hy]
  · intro b hb
    rw [e, ← List.append_assoc]
    by_cases hbx : b = x
    · subst hbx
      rw [va_up_self]
      simp
    · rw [va_up_ne _ _ hbx, h3 b hb]
      simp [hbx]
theorem PB_go {F : List Nat} {n1 n2 : Nat} {bc bc2 : Nat → Nat} {ip ip2 : Nat → Bool} (h : PB M T HB F n n1 P bc ip) (hT : CI T) (hcv : ∀ b, b ∈ HB ↔ ∃ c, b ∈ T c) (hlt : n1 < HB.length) (hb : bestS M T HB P = some c) (hD : PD T n c P i n2 bc2 ip2) (hi : (T c).length = i) : PB M T HB F n n2 (P ++ T c) bc2 ip2 := by
  obtain ⟨h1, h2, h3, h4, h5, h6, k, h7, h8⟩ := h
  obtain ⟨d1, d2, d3⟩ := hD
  obtain ⟨b, hbH, hbP, hbT⟩ := best_ex hT hb
  have hun := closed_un h4 hbT hbP
  have hpos := List.length_pos_of_mem hbT
  rw [List.take_of_length_le (by omega)] at d2 d3
  refine ⟨by rw [List.length_append]; omega, ?_, ?_, ?_, d2, d3, k - 1, ?_, by rw [List.length_append]; omega⟩
  · refine List.nodup_append.mpr ⟨h2, hT.2.2.2 c, ?_⟩
    intro a ha y hy e
    subst e
    exact hun a hy ha
  · intro y hy
    rcases List.mem_append.mp hy with q | q
    · exact h3 y q
    · exact (hcv y).mpr ⟨c, q⟩
  · intro e
    rcases h4 e with q | q
    · exact Or.inl (fun b hb => List.mem_append_left _ (q b hb))
    · by_cases he : e = c
      · subst he
        exact Or.inl (fun b hb => List.mem_append_right _ hb)
      · refine Or.inr (fun b hb hx => ?_)
        rcases List.mem_append.mp hx with z | z
        · exact q b hb z
        · exact he (hT.2.2.1 e c b hb z)
  · rw [← h7]
    obtain ⟨j, rfl⟩ : ∃ j, k = j + 1 := ⟨k - 1, by omega⟩
    simp only [placeF]
    rw [if_pos (by omega), hb]
    rfl
theorem fin_LR {F : List Nat} {n1 : Nat} {bc : Nat → Nat} {ip : Nat → Bool} (h : PB M T HB F n n1 P bc ip) (hge : HB.length ≤ n1) (hn : HB.Nodup) : F.Nodup ∧ F.length = HB.length ∧ (∀ b, b ∈ F → b ∈ HB) ∧ ∀ i x, F[i]? = some x → bc i = x := by
  have e := PB_end h hge
  subst e
  obtain ⟨h1, h2, h3, h4, h5, h6, -⟩ := h
  have := nodup_sub P HB h2 h3
  exact ⟨h2, by omega, h3, h5⟩
end Plc
theorem hbL_nodup (n : Nat) (hot : Nat → Bool) : (hbL n hot).Nodup := by
  unfold hbL
  exact List.Pairwise.filter _ List.nodup_range

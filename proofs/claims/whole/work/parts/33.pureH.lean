/-! the reference's chains: its table of chains, and its choosing of the next way -/
def MR (n : Nat) (T : Nat → List Nat) (co : Nat → Option Nat) (tb mn : Nat → Nat) : Prop := (∀ b, b < n → co b = nameT T b) ∧ (∀ c, T c ≠ [] → mn c = (T c).length) ∧ (∀ c i x, (T c)[i]? = some x → tb (200 * c + i) = x)
def qW (hot : Nat → Bool) (w : Wy) : Bool := w.2.2.2 && decide (w.2.2.1 ≠ 0) && hot w.1 && hot w.2.1
def Sel (kn : Nat) (g : Nat → Wy) (lk : Nat → Bool) (R : List Wy) : Prop := ∀ w, w ∈ R ↔ ∃ k, k < kn ∧ lk k = false ∧ g k = w
def SB (g : Nat → Wy) (lk : Nat → Bool) (k2 : Nat) (ob : Option Nat) : Prop := match ob with
  | none => ∀ j, j < k2 → lk j = true
  | some b => b < k2 ∧ lk b = false ∧ ∀ j, j < k2 → lk j = false → j ≠ b → bef (g b) (g j) = true
section Choose
variable {kn k b : Nat} {g : Nat → Wy} {lk : Nat → Bool} {R : List Wy} {ob : Option Nat}
theorem SB_0 : SB g lk 0 none := fun j hj => by omega
theorem SB_lt (h : SB g lk k ob) : ∀ j, ob = some j → j < k := by
  intro j hj
  subst hj
  exact h.1
theorem SB_skip (h : SB g lk k ob) (hl : lk k = true) : SB g lk (k + 1) ob := by
  cases ob with
  | none =>
    intro j hj
    rcases Nat.lt_or_ge j k with q | q
    · exact h j q
    · rw [show j = k by omega]; exact hl
  | some b =>
    obtain ⟨h1, h2, h3⟩ := h
    refine ⟨by omega, h2, fun j hj hlj hjb => ?_⟩
    rcases Nat.lt_or_ge j k with q | q
    · exact h3 j q hlj hjb
    · rw [show j = k by omega, hl] at hlj; cases hlj
theorem SB_first (h : SB g lk k none) (hl : lk k = false) : SB g lk (k + 1) (some k) := by
  refine ⟨by omega, hl, fun j hj hlj hjb => ?_⟩
  rw [h j (by omega)] at hlj
  cases hlj
theorem SB_keep (h : SB g lk k (some b)) (hkd : ∀ i j, i < kn → j < kn → (g i).1 = (g j).1 → (g i).2.1 = (g j).2.1 → i = j) (hk : k < kn) (hb : bef (g k) (g b) = false) : SB g lk (k + 1) (some b) := by
  obtain ⟨h1, h2, h3⟩ := h
  refine ⟨by omega, h2, fun j hj hlj hjb => ?_⟩
  rcases Nat.lt_or_ge j k with q | q
  · exact h3 j q hlj hjb
  · rw [show j = k by omega]
    exact bef_total (fun z => by have := hkd k b hk (by omega) z.1 z.2; omega) hb
theorem SB_take (h : SB g lk k (some b)) (hl : lk k = false) (hb : bef (g k) (g b) = true) : SB g lk (k + 1) (some k) := by
  obtain ⟨h1, h2, h3⟩ := h
  refine ⟨by omega, hl, fun j hj hlj hjb => ?_⟩
  by_cases e : j = b
  · rw [e]; exact hb
  · exact bef_trans hb (h3 j (by omega) hlj e)
theorem sel_none (hS : Sel kn g lk R) (h : SB g lk kn none) : R = [] := by
  cases R with
  | nil => rfl
  | cons w R =>
    obtain ⟨k, h1, h2, -⟩ := (hS w).mp List.mem_cons_self
    rw [h k h1] at h2
    cases h2
theorem sel_head (hS : Sel kn g lk R) (h : SB g lk kn (some b)) (hR : R.Pairwise (fun x y => bef x y = true)) (hkd : ∀ i j, i < kn → j < kn → (g i).1 = (g j).1 → (g i).2.1 = (g j).2.1 → i = j) : ∃ R', R = g b :: R' ∧ Sel kn g (va_up lk b true) R' ∧ R'.Pairwise (fun x y => bef x y = true) := by
  obtain ⟨h1, h2, h3⟩ := h
  have hm : g b ∈ R := (hS (g b)).mpr ⟨b, h1, h2, rfl⟩
  cases R with
  | nil => cases hm
  | cons w R' =>
    have hp := List.pairwise_cons.mp hR
    have e : g b = w := by
      rcases List.mem_cons.mp hm with q | q
      · exact q
      · have q1 := hp.1 _ q
        obtain ⟨k0, a1, a2, a3⟩ := (hS w).mp List.mem_cons_self
        by_cases z : k0 = b
        · rw [← a3, z]
        · have q2 := h3 k0 a1 a2 z
          rw [a3] at q2
          exact (bef_irr q1 q2).elim
    refine ⟨R', by rw [e], ?_, hp.2⟩
    intro x
    constructor
    · intro hx
      obtain ⟨j, a1, a2, a3⟩ := (hS x).mp (List.mem_cons_of_mem _ hx)
      refine ⟨j, a1, ?_, a3⟩
      rw [va_up_ne]
      · exact a2
      · intro z
        subst z
        have q := hp.1 x hx
        rw [← a3, e] at q
        exact bef_irr q q
    · rintro ⟨j, a1, a2, a3⟩
      by_cases z : j = b
      · subst z
        rw [va_up_self] at a2
        cases a2
      · rw [va_up_ne _ _ z] at a2
        rcases List.mem_cons.mp ((hS x).mpr ⟨j, a1, a2, a3⟩) with q | q
        · rw [q, ← e] at a3
          exact absurd (hkd j b a1 h1 (by rw [a3]) (by rw [a3])) z
        · exact q
end Choose
section Fold
variable {n : Nat} {hot : Nat → Bool}
theorem step_skip {T : Nat → List Nat} (hT : CI T) (hcv : ∀ b, b ∈ hbL n hot ↔ ∃ c, b ∈ T c) {w : Wy} (hw : w.1 < n ∧ w.2.1 < n) (hq : qW hot w = false) : stepT T w = T := by
  unfold stepT
  cases hf : nameT T w.1 with
  | none => rfl
  | some a =>
    dsimp only
    rw [if_neg]
    rintro ⟨h1, h2, h3, h4, h5, h6⟩
    have u1 : hot w.1 = true := (hbL_mem.mp ((hcv w.1).mpr ⟨a, (name_iff hT).mp hf⟩)).2
    have v1 : hot w.2.1 = true := (hbL_mem.mp ((hcv w.2.1).mpr ⟨_, List.mem_of_getElem? (hT.2.1 _ h4)⟩)).2
    unfold qW at hq
    rw [h1, u1, v1] at hq
    simp at hq
    omega
theorem fold_filter : ∀ (L : List Wy) (T : Nat → List Nat), CI T → (∀ b, b ∈ hbL n hot ↔ ∃ c, b ∈ T c) → (∀ w, w ∈ L → w.1 < n ∧ w.2.1 < n) → (L.filter (qW hot)).foldl stepT T = L.foldl stepT T := by
  intro L
  induction L with
  | nil => intro T _ _ _; rfl
  | cons w L ih =>
    intro T hT hcv hb
    obtain ⟨c1, c2⟩ := step_CI (w := w) hT
    have hb2 : ∀ w, w ∈ L → w.1 < n ∧ w.2.1 < n := fun x hx => hb x (List.mem_cons_of_mem _ hx)
    by_cases hq : qW hot w = true
    · rw [List.filter_cons_of_pos hq, List.foldl_cons, List.foldl_cons]
      exact ih _ c1 (fun b => (hcv b).trans (c2 b).symm) hb2
    · rw [List.filter_cons_of_neg hq, List.foldl_cons, step_skip hT hcv (hb w List.mem_cons_self) (by simpa using hq)]
      exact ih T hT hcv hb2
end Fold
/-- the outer loop's state: T so far, the ways R that are still to be looked at -/
def CBI (n : Nat) (hot : Nat → Bool) (kn : Nat) (g : Nat → Wy) (F T : Nat → List Nat) (co : Nat → Option Nat) (tb mn : Nat → Nat) (lk : Nat → Bool) (R : List Wy) : Prop :=
  CI T ∧ (∀ b, b ∈ hbL n hot ↔ ∃ c, b ∈ T c) ∧ MR n T co tb mn ∧ Sel kn g lk R ∧ R.Pairwise (fun x y => bef x y = true) ∧ R.foldl stepT T = F ∧ (∀ w, w ∈ R → qW hot w = true ∧ w.1 < n ∧ w.2.1 < n)
def DI (T : Nat → List Nat) (co : Nat → Option Nat) (tb : Nat → Nat) (c d m i : Nat) (tb' : Nat → Nat) (co' : Nat → Option Nat) : Prop := (∀ j x, j < i → (T d)[j]? = some x → tb' (200 * c + m + j) = x) ∧ (∀ p, (p < 200 * c + m ∨ 200 * c + m + i ≤ p) → tb' p = tb p) ∧ JI T c d co i co'
section CBs
variable {n kn b c d i x : Nat} {hot : Nat → Bool} {g : Nat → Wy} {F T : Nat → List Nat} {co co' : Nat → Option Nat} {tb tb' mn : Nat → Nat} {lk : Nat → Bool} {R L : List Wy}
theorem MR_T0 (hn : n ≤ 200) (h1 : ∀ b, b < n → co b = if hot b = true then some b else none) (h2 : ∀ b, b < n → mn b = if hot b = true then 1 else 0) (h3 : ∀ b, b < n → tb (200 * b) = b) : MR n (T0 (hbL n hot)) co tb mn := by
  have hT := T0_CI (HB := hbL n hot) (hbL_lt hn)
  refine ⟨fun b hb => ?_, fun c hc => ?_, fun c i x hx => ?_⟩
  · rw [h1 b hb]
    by_cases q : hot b = true
    · rw [if_pos q, (name_iff hT).mpr (T0_mem.mpr ⟨rfl, hbL_mem.mpr ⟨hb, q⟩⟩)]
    · rw [if_neg q]
      refine ((name_none hT).mpr (fun c hc => ?_)).symm
      obtain ⟨rfl, z⟩ := T0_mem.mp hc
      exact q (hbL_mem.mp z).2
  · unfold T0 at *
    split at hc
    · next z =>
      rw [if_pos z, h2 c (hbL_mem.mp z).1, if_pos (hbL_mem.mp z).2]
      rfl
    · exact absurd rfl hc
  · unfold T0 at hx
    split at hx
    · next z =>
      have := ix_lt hx
      simp at this
      subst this
      simp at hx
      subst hx
      exact h3 c (hbL_mem.mp z).1
    · simp at hx
theorem CBI_start (hn : n ≤ 200) (hMR : MR n (T0 (hbL n hot)) co tb mn) (hLM : L.Perm (wl kn g)) (hLs : L.Pairwise (fun x y => bef x y = true)) (hb : ∀ k, k < kn → (g k).1 < n ∧ (g k).2.1 < n) (hlk : ∀ k, k < kn → lk k = !(qW hot (g k))) : CBI n hot kn g (Tof L (hbL n hot)) (T0 (hbL n hot)) co tb mn lk (L.filter (qW hot)) := by
  have hT := T0_CI (HB := hbL n hot) (hbL_lt hn)
  have hcv : ∀ b, b ∈ hbL n hot ↔ ∃ c, b ∈ T0 (hbL n hot) c := fun b => ⟨fun q => ⟨b, T0_mem.mpr ⟨rfl, q⟩⟩, fun ⟨c, hc⟩ => by obtain ⟨rfl, z⟩ := T0_mem.mp hc; exact z⟩
  have hbL' : ∀ w, w ∈ L → w.1 < n ∧ w.2.1 < n := fun w hw => by
    obtain ⟨k, hk, rfl⟩ := wl_mem.mp (hLM.mem_iff.mp hw)
    exact hb k hk
  refine ⟨hT, hcv, hMR, ?_, hLs.filter _, fold_filter L _ hT hcv hbL', fun w hw => ?_⟩
  · intro w
    rw [List.mem_filter, hLM.mem_iff, wl_mem]
    constructor
    · rintro ⟨⟨k, hk, rfl⟩, q⟩
      exact ⟨k, hk, by rw [hlk k hk, q]; rfl, rfl⟩
    · rintro ⟨k, hk, q, rfl⟩
      rw [hlk k hk] at q
      exact ⟨⟨k, hk, rfl⟩, by simpa using q⟩
  · exact ⟨(List.mem_filter.mp hw).2, hbL' w (List.mem_filter.mp hw).1⟩
/-- what is known of the way that is chosen -/
theorem cb_names (h : CBI n hot kn g F T co tb mn lk (g b :: R)) : ∃ c d, co (g b).1 = some c ∧ co (g b).2.1 = some d ∧ (g b).1 ∈ T c ∧ (g b).2.1 ∈ T d ∧ c < 200 ∧ d < 200 ∧ (∃ x, x < 200 ∧ tb (200 * c + mn c - 1) = x ∧ (T c).getLast? = some x) ∧ 1 ≤ mn c ∧ mn c ≤ 200 ∧ tb (200 * d) = d ∧ mn d = (T d).length ∧ mn c = (T c).length := by
  obtain ⟨hT, hcv, hMR, -, -, -, hq⟩ := h
  obtain ⟨q1, q2, q3⟩ := hq (g b) List.mem_cons_self
  unfold qW at q1
  simp only [Bool.and_eq_true] at q1
  obtain ⟨⟨⟨-, -⟩, hu⟩, hv⟩ := q1
  obtain ⟨c, hc⟩ := (hcv _).mp (hbL_mem.mpr ⟨q2, hu⟩)
  obtain ⟨d, hd⟩ := (hcv _).mp (hbL_mem.mpr ⟨q3, hv⟩)
  have hc0 : T c ≠ [] := fun z => by rw [z] at hc; cases hc
  have hd0 : T d ≠ [] := fun z => by rw [z] at hd; cases hd
  have e1 := hMR.2.1 c hc0
  have e2 := hMR.2.1 d hd0
  have hl : 0 < (T c).length := List.length_pos_of_mem hc
  have hl2 : (T c).length ≤ 200 := nodup_len 200 _ (hT.2.2.2 c) (fun b hb => hT.1 c b hb)
  refine ⟨c, d, by rw [hMR.1 _ q2]; exact (name_iff hT).mpr hc, by rw [hMR.1 _ q3]; exact (name_iff hT).mpr hd, hc, hd, hT.lt hc, hT.lt hd, ?_, by omega, by omega, ?_, e2, e1⟩
  · have hx : (T c)[(T c).length - 1]? = some ((T c)[(T c).length - 1]'(by omega)) := List.getElem?_eq_getElem (by omega)
    refine ⟨_, hT.1 c _ (List.mem_of_getElem? hx), ?_, by rw [List.getLast?_eq_getElem?]; exact hx⟩
    have := hMR.2.2 c _ _ hx
    rw [show 200 * c + mn c - 1 = 200 * c + ((T c).length - 1) by omega]
    exact this
  · exact hMR.2.2 d 0 d (hT.2.1 d hd0)
theorem cb_skip (h : CBI n hot kn g F T co tb mn lk (g b :: R)) (hS : Sel kn g (va_up lk b true) R) (hc : (g b).1 ∈ T c) (hd : (g b).2.1 ∈ T d) (hx : (T c).getLast? = some x) (hno : c = d ∨ x ≠ (g b).1 ∨ d ≠ (g b).2.1 ∨ (g b).2.1 = 0) : CBI n hot kn g F T co tb mn (va_up lk b true) R := by
  obtain ⟨hT, hcv, hMR, -, hp, hF, hq⟩ := h
  refine ⟨hT, hcv, hMR, hS, (List.pairwise_cons.mp hp).2, ?_, fun w hw => hq w (List.mem_cons_of_mem _ hw)⟩
  rw [List.foldl_cons] at hF
  rw [← hF]
  congr 1
  unfold stepT
  rw [(name_iff hT).mpr hc]
  dsimp only
  rw [if_neg]
  rintro ⟨-, -, h3, h4, h5, h6⟩
  have hv : (g b).2.1 ∈ T (g b).2.1 := List.mem_of_getElem? (hT.2.1 _ h4)
  have e : d = (g b).2.1 := hT.2.2.1 _ _ _ hd hv
  rcases hno with z | z | z | z
  · exact h5 (z.trans e)
  · rw [hx] at h3
    exact z (Option.some.inj h3)
  · exact z e
  · exact h6 z
theorem cb_len (hT : CI T) (hcd : c ≠ d) : (T c).length + (T d).length ≤ 200 := by
  rw [← List.length_append]
  refine nodup_len 200 _ (List.nodup_append.mpr ⟨hT.2.2.2 c, hT.2.2.2 d, ?_⟩) ?_
  · intro a ha y hy e
    subst e
    exact hcd (hT.2.2.1 c d a ha hy)
  · intro a ha
    rcases List.mem_append.mp ha with q | q
    · exact hT.1 c a q
    · exact hT.1 d a q
theorem DI_0 : DI T co tb c d (mn c) 0 tb co := ⟨fun j x hj => by omega, fun _ _ => rfl, JI_0⟩
theorem DI_step (h : DI T co tb c d (mn c) i tb' co') (hx : (T d)[i]? = some x) : DI T co tb c d (mn c) (i + 1) (va_up tb' (200 * c + mn c + i) x) (va_up co' x (some c)) := by
  obtain ⟨h1, h2, h3⟩ := h
  refine ⟨?_, ?_, ?_⟩
  · intro j y hj hy
    by_cases e : j = i
    · subst e
      rw [va_up_self]
      rw [hx] at hy
      exact Option.some.inj hy
    · rw [va_up_ne _ _ (by omega)]
      exact h1 j y (by omega) hy
  · intro p hp
    rw [va_up_ne _ _ (by omega)]
    exact h2 p (by omega)
  · intro y
    have e : (T d).take (i + 1) = (T d).take i ++ [x] := by rw [List.take_add_one, hx]; rfl
    rw [e]
    unfold va_up
    by_cases hy : y = x
    · rw [if_pos hy, if_pos (by simp [hy])]
    · rw [if_neg hy, h3 y]
      simp [hy]
theorem DI_get (hT : CI T) (hMR : MR n T co tb mn) (hcd : c ≠ d) (hc : T c ≠ []) (h : DI T co tb c d (mn c) i tb' co') (hx : (T d)[i]? = some x) : tb' (200 * d + i) = x := by
  have hl := cb_len hT hcd
  have hi := ix_lt hx
  have e := hMR.2.1 c hc
  rw [h.2.1 (200 * d + i) (by omega)]
  exact hMR.2.2 d i x hx
theorem MR_join (hT : CI T) (hMR : MR n T co tb mn) (hcd : c ≠ d) (hc : T c ≠ []) (hd : T d ≠ []) (h : DI T co tb c d (mn c) i tb' co') (hi : (T d).length = i) : MR n (joinT T c d) co' tb' (va_up (va_up mn c (mn c + mn d)) d 0) := by
  obtain ⟨h1, h2, h3⟩ := h
  have hJ := join_CI hT hcd hc
  have hl := cb_len hT hcd
  have ec := hMR.2.1 c hc
  have ed := hMR.2.1 d hd
  refine ⟨?_, ?_, ?_⟩
  · intro b hb
    rw [h3 b, List.take_of_length_le (by omega)]
    by_cases q : b ∈ T d
    · rw [if_pos q]
      exact ((name_iff hJ).mpr (by rw [join_a]; exact List.mem_append_right _ q)).symm
    · rw [if_neg q, hMR.1 b hb]
      cases hf : nameT T b with
      | none =>
        refine ((name_none hJ).mpr (fun e he => ?_)).symm
        obtain ⟨e2, he2⟩ := (join_mem (T := T) hcd).mp ⟨e, he⟩
        exact (name_none hT).mp hf e2 he2
      | some e =>
        have he := (name_iff hT).mp hf
        refine ((name_iff hJ).mpr ?_).symm
        by_cases z : e = c
        · rw [z, join_a]
          rw [z] at he
          exact List.mem_append_left _ he
        · have y : e ≠ d := fun y => q (by rw [← y]; exact he)
          rw [join_o z y]
          exact he
  · intro e he
    by_cases z : e = c
    · subst z
      rw [va_up_ne _ _ hcd, va_up_self, join_a, List.length_append, ec, ed]
    · by_cases y : e = d
      · subst y
        exact absurd (join_v hcd) he
      · rw [va_up_ne _ _ y, va_up_ne _ _ z, join_o z y]
        rw [join_o z y] at he
        exact hMR.2.1 e he
  · intro e k x hx
    by_cases z : e = c
    · subst z
      rw [join_a] at hx
      by_cases hk : k < (T e).length
      · rw [List.getElem?_append_left hk] at hx
        rw [h2 _ (by omega)]
        exact hMR.2.2 e k x hx
      · rw [List.getElem?_append_right (by omega)] at hx
        have := h1 (k - (T e).length) x (by have := ix_lt hx; omega) hx
        rw [show 200 * e + k = 200 * e + mn e + (k - (T e).length) by omega]
        exact this
    · by_cases y : e = d
      · subst y
        rw [join_v hcd] at hx
        simp at hx
      · rw [join_o z y] at hx
        have hk := ix_lt hx
        have hl2 : (T e).length ≤ 200 := nodup_len 200 _ (hT.2.2.2 e) (fun b hb => hT.1 e b hb)
        rw [h2 _ (by omega)]
        exact hMR.2.2 e k x hx
theorem cb_join (h : CBI n hot kn g F T co tb mn lk (g b :: R)) (hS : Sel kn g (va_up lk b true) R) (hc : (g b).1 ∈ T c) (hd : (g b).2.1 ∈ T d) (hx : (T c).getLast? = some x) (hcd : c ≠ d) (hxu : x = (g b).1) (hdv : d = (g b).2.1) (hv0 : (g b).2.1 ≠ 0) (hD : DI T co tb c d (mn c) i tb' co') (hi : (T d).length = i) : CBI n hot kn g F (joinT T c d) co' tb' (va_up (va_up mn c (mn c + mn d)) d 0) (va_up lk b true) R := by
  obtain ⟨hT, hcv, hMR, -, hp, hF, hq⟩ := h
  have hc0 : T c ≠ [] := fun z => by rw [z] at hc; cases hc
  have hd0 : T d ≠ [] := fun z => by rw [z] at hd; cases hd
  refine ⟨join_CI hT hcd hc0, fun y => (hcv y).trans (join_mem hcd).symm, MR_join hT hMR hcd hc0 hd0 hD hi, hS, (List.pairwise_cons.mp hp).2, ?_, fun w hw => hq w (List.mem_cons_of_mem _ hw)⟩
  rw [List.foldl_cons] at hF
  rw [← hF]
  congr 1
  obtain ⟨q1, -, -⟩ := hq (g b) List.mem_cons_self
  unfold qW at q1
  simp only [Bool.and_eq_true, decide_eq_true_eq] at q1
  obtain ⟨⟨⟨f1, f2⟩, -⟩, -⟩ := q1
  unfold stepT
  rw [(name_iff hT).mpr hc]
  dsimp only
  rw [if_pos ⟨f1, by omega, by rw [hx, hxu], by rw [← hdv]; exact hd0, by rw [← hdv]; exact hcd, hv0⟩, ← hdv]
end CBs

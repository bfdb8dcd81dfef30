/-! chains: T c is the chain that begins with c (empty, where none does) -/
def nameT (T : Nat → List Nat) (b : Nat) : Option Nat := (List.range 200).find? (fun c => decide (b ∈ T c))
def CI (T : Nat → List Nat) : Prop := (∀ c b, b ∈ T c → b < 200) ∧ (∀ c, T c ≠ [] → (T c)[0]? = some c) ∧ (∀ c d b, b ∈ T c → b ∈ T d → c = d) ∧ (∀ c, (T c).Nodup)
def CR (T : Nat → List Nat) (fs nx : Nat → Option Nat) : Prop := (CI T ∧ ∀ b, (∀ c, b ∉ T c) → nx b = none) ∧ (∀ b c, fs b = some c ↔ b ∈ T c) ∧ (∀ c i b, (T c)[i]? = some b → nx b = (T c)[i + 1]?)
def joinT (T : Nat → List Nat) (a v : Nat) : Nat → List Nat := fun c => if c = a then T a ++ T v else if c = v then [] else T c
def stepT (T : Nat → List Nat) (w : Wy) : Nat → List Nat := match nameT T w.1 with
  | none => T
  | some a => if w.2.2.2 = true ∧ 0 < w.2.2.1 ∧ (T a).getLast? = some w.1 ∧ T w.2.1 ≠ [] ∧ a ≠ w.2.1 ∧ w.2.1 ≠ 0 then joinT T a w.2.1 else T
theorem ix_lt {l : List Nat} {i b : Nat} (h : l[i]? = some b) : i + 1 ≤ l.length := (List.getElem?_eq_some_iff.mp h).1
theorem ix_ge {l : List Nat} {i : Nat} (h : l[i]? = none) : l.length ≤ i := List.getElem?_eq_none_iff.mp h
theorem nodup_len : ∀ (n : Nat) (L : List Nat), L.Nodup → (∀ b ∈ L, b < n) → L.length ≤ n := by
  intro n
  induction n with
  | zero =>
    intro L _ h
    cases L with
    | nil => exact Nat.le_refl _
    | cons x L => exact absurd (h x List.mem_cons_self) (by omega)
  | succ n ih =>
    intro L hn h
    by_cases hm : n ∈ L
    · have h1 := ih (L.erase n) (hn.erase n) (fun b hb => by
        have h2 := (List.Nodup.mem_erase_iff hn).mp hb
        have := h b h2.2
        have := h2.1
        omega)
      rw [List.length_erase_of_mem hm] at h1
      omega
    · have h1 := ih L hn (fun b hb => by
        have := h b hb
        have : b ≠ n := fun q => hm (q ▸ hb)
        omega)
      omega
theorem CI.mem_self {T : Nat → List Nat} (h : CI T) {c b : Nat} (hb : b ∈ T c) : c ∈ T c := List.mem_of_getElem? (h.2.1 c (fun q => by rw [q] at hb; cases hb))
theorem CI.lt {T : Nat → List Nat} (h : CI T) {c b : Nat} (hb : b ∈ T c) : c < 200 := h.1 c c (h.mem_self hb)
theorem name_iff {T : Nat → List Nat} (h : CI T) {b c : Nat} : nameT T b = some c ↔ b ∈ T c := by
  unfold nameT
  constructor
  · intro q
    have := List.find?_some q
    simpa using this
  · intro q
    cases hf : (List.range 200).find? (fun c => decide (b ∈ T c)) with
    | none =>
      have := List.find?_eq_none.mp hf c (List.mem_range.mpr (h.lt q))
      simp [q] at this
    | some d =>
      have h1 := List.find?_some hf
      have h2 : b ∈ T d := by simpa using h1
      rw [h.2.2.1 c d b q h2]
theorem name_none {T : Nat → List Nat} (h : CI T) {b : Nat} : nameT T b = none ↔ ∀ c, b ∉ T c := by
  constructor
  · intro q c hc
    rw [(name_iff h).mpr hc] at q
    cases q
  · intro q
    cases hf : nameT T b with
    | none => rfl
    | some c => exact absurd ((name_iff h).mp hf) (q c)
section CRows
variable {T : Nat → List Nat} {fs nx f g : Nat → Option Nat} {u v a b i j : Nat}
theorem CR_name (h : CR T fs nx) (b : Nat) : fs b = nameT T b := by
  cases hf : nameT T b with
  | none =>
    have h1 := (name_none h.1.1).mp hf
    cases hq : fs b with
    | none => rfl
    | some c => exact absurd ((h.2.1 b c).mp hq) (h1 c)
  | some c => exact (h.2.1 b c).mpr ((name_iff h.1.1).mp hf)
theorem CR_f (h : CR T fs nx) : ∀ i j, fs i = some j → j < 200 := fun i j q => h.1.1.lt ((h.2.1 i j).mp q)
theorem CR_n (h : CR T fs nx) : ∀ i j, nx i = some j → j < 200 := by
  intro i j q
  by_cases hc : ∃ c, i ∈ T c
  · obtain ⟨c, hc⟩ := hc
    obtain ⟨k, hk⟩ := List.getElem?_of_mem hc
    rw [h.2.2 c k i hk] at q
    exact h.1.1.1 c j (List.mem_of_getElem? q)
  · rw [h.1.2 i (fun c q => hc ⟨c, q⟩)] at q
    cases q
theorem T_len (h : CR T fs nx) (v : Nat) : (T v).length ≤ 200 := nodup_len 200 _ (h.1.1.2.2.2 v) (fun b hb => h.1.1.1 v b hb)
theorem T_lt (h : CR T fs nx) (hj : (T v)[i]? = some j) : j < 200 := h.1.1.1 v j (List.mem_of_getElem? hj)
theorem T_head (h : CR T fs nx) (ht : T v ≠ []) : (T v)[0]? = some v := h.1.1.2.1 v ht
def JI (T : Nat → List Nat) (a v : Nat) (fs : Nat → Option Nat) (i : Nat) (f : Nat → Option Nat) : Prop := ∀ x, f x = if x ∈ (T v).take i then some a else fs x
theorem JI_0 : JI T a v fs 0 fs := fun x => by simp
theorem JI_step {o : Option Nat} (h : JI T a v fs i f) (hb : (T v)[i]? = some b) (hf : o = some a) : JI T a v fs (i + 1) (va_up f b o) := by
  intro x
  rw [hf]
  have e : (T v).take (i + 1) = (T v).take i ++ [b] := by rw [List.take_add_one, hb]; rfl
  rw [e]
  unfold va_up
  by_cases hx : x = b
  · rw [if_pos hx, if_pos (by simp [hx])]
  · rw [if_neg hx, h x]
    simp [hx]
theorem last_mem {l : List Nat} (h : l.getLast? = some u) : u ∈ l := List.mem_of_getLast? h
theorem JI_u (h : CR T fs nx) (ha : fs u = some a) (hav : a ≠ v) (hul : (T a).getLast? = some u) (hi : JI T a v fs i f) : f u = some a := by
  rw [hi u, if_neg, ha]
  intro q
  exact hav (h.1.1.2.2.1 a v u (last_mem hul) (List.mem_of_mem_take q))
theorem JI_ne (h : CR T fs nx) (ha : fs u = some a) (hav : a ≠ v) (hul : (T a).getLast? = some u) (hb : (T v)[i]? = some b) : b ≠ u := by
  intro q
  subst q
  exact hav (h.1.1.2.2.1 a v b (last_mem hul) (List.mem_of_getElem? hb))
theorem join_a : joinT T a v a = T a ++ T v := by simp [joinT]
theorem join_v (hav : a ≠ v) : joinT T a v v = [] := by simp [joinT, Ne.symm hav]
theorem join_o {c : Nat} (h1 : c ≠ a) (h2 : c ≠ v) : joinT T a v c = T c := by simp [joinT, h1, h2]
theorem join_mem (hav : a ≠ v) {x : Nat} : (∃ c, x ∈ joinT T a v c) ↔ ∃ c, x ∈ T c := by
  constructor
  · rintro ⟨c, hc⟩
    by_cases h1 : c = a
    · subst h1
      rw [join_a] at hc
      rcases List.mem_append.mp hc with q | q
      · exact ⟨c, q⟩
      · exact ⟨v, q⟩
    · by_cases h2 : c = v
      · subst h2
        rw [join_v hav] at hc
        cases hc
      · rw [join_o h1 h2] at hc
        exact ⟨c, hc⟩
  · rintro ⟨c, hc⟩
    by_cases h1 : c = a
    · subst h1
      exact ⟨c, by rw [join_a]; exact List.mem_append_left _ hc⟩
    · by_cases h2 : c = v
      · subst h2
        exact ⟨a, by rw [join_a]; exact List.mem_append_right _ hc⟩
      · exact ⟨c, by rw [join_o h1 h2]; exact hc⟩
theorem join_CI (h : CI T) (hav : a ≠ v) (hta : T a ≠ []) : CI (joinT T a v) := by
  have key : ∀ c b, b ∈ joinT T a v c → (c = a ∧ (b ∈ T a ∨ b ∈ T v)) ∨ (c ≠ a ∧ c ≠ v ∧ b ∈ T c) := by
    intro c b hb
    by_cases h1 : c = a
    · subst h1
      rw [join_a] at hb
      exact Or.inl ⟨rfl, List.mem_append.mp hb⟩
    · by_cases h2 : c = v
      · subst h2
        rw [join_v hav] at hb
        cases hb
      · rw [join_o h1 h2] at hb
        exact Or.inr ⟨h1, h2, hb⟩
  refine ⟨?_, ?_, ?_, ?_⟩
  · intro c b hb
    rcases key c b hb with ⟨-, q | q⟩ | ⟨-, -, q⟩
    · exact h.1 _ _ q
    · exact h.1 _ _ q
    · exact h.1 _ _ q
  · intro c hc
    by_cases h1 : c = a
    · subst h1
      rw [join_a, List.getElem?_append_left (by
        cases hq : T c with
        | nil => exact absurd hq hta
        | cons x l => simp)]
      exact h.2.1 c hta
    · by_cases h2 : c = v
      · subst h2
        exact absurd (join_v hav) hc
      · rw [join_o h1 h2] at hc ⊢
        exact h.2.1 c hc
  · intro c d b hc hd
    rcases key c b hc with ⟨rfl, q⟩ | ⟨c1, c2, q⟩
    · rcases key d b hd with ⟨rfl, -⟩ | ⟨d1, d2, q'⟩
      · rfl
      · rcases q with q | q
        · exact h.2.2.1 _ _ b q q'
        · exact absurd (h.2.2.1 _ _ b q q').symm d2
    · rcases key d b hd with ⟨rfl, q'⟩ | ⟨d1, d2, q'⟩
      · rcases q' with q' | q'
        · exact h.2.2.1 _ _ b q q'
        · exact absurd (h.2.2.1 _ _ b q q') c2
      · exact h.2.2.1 _ _ b q q'
  · intro c
    by_cases h1 : c = a
    · subst h1
      rw [join_a]
      refine List.nodup_append.mpr ⟨h.2.2.2 c, h.2.2.2 v, ?_⟩
      intro x hx y hy e
      subst e
      exact hav (h.2.2.1 c v x hx hy)
    · by_cases h2 : c = v
      · subst h2
        rw [join_v hav]
        exact List.nodup_nil
      · rw [join_o h1 h2]
        exact h.2.2.2 c
theorem JI_end (h : CR T fs nx) (ha : fs u = some a) (hav : a ≠ v) (hul : (T a).getLast? = some u) (htv : T v ≠ []) (hi : JI T a v fs i f) (hlen : (T v).length ≤ i) : CR (joinT T a v) f (va_up nx u (some v)) := by
  have hua : u ∈ T a := last_mem hul
  have hta : T a ≠ [] := fun q => by rw [q] at hua; cases hua
  have hi : ∀ x, f x = if x ∈ T v then some a else fs x := fun x => by rw [hi x, List.take_of_length_le hlen]
  have hCI := join_CI h.1.1 hav hta
  refine ⟨⟨hCI, ?_⟩, ?_, ?_⟩
  · intro b hb
    have h1 : ∀ c, b ∉ T c := fun c hc => by
      obtain ⟨d, hd⟩ := (join_mem (T := T) hav).mpr ⟨c, hc⟩
      exact hb d hd
    have hbu : b ≠ u := fun q => h1 a (by rw [q]; exact hua)
    rw [va_up_ne _ _ hbu]
    exact h.1.2 b h1
  · intro b c
    rw [hi b]
    by_cases hbv : b ∈ T v
    · rw [if_pos hbv]
      constructor
      · intro q
        cases q
        rw [join_a]
        exact List.mem_append_right _ hbv
      · intro q
        have : b ∈ joinT T a v a := by rw [join_a]; exact List.mem_append_right _ hbv
        rw [hCI.2.2.1 a c b this q]
    · rw [if_neg hbv]
      rw [h.2.1 b c]
      by_cases h1 : c = a
      · subst h1
        rw [join_a]
        constructor
        · exact fun q => List.mem_append_left _ q
        · intro q
          rcases List.mem_append.mp q with q | q
          · exact q
          · exact absurd q hbv
      · by_cases h2 : c = v
        · subst h2
          rw [join_v hav]
          exact ⟨fun q => absurd q hbv, fun q => by cases q⟩
        · rw [join_o h1 h2]
  · intro c k b hk
    by_cases h1 : c = a
    · subst h1
      rw [join_a] at hk ⊢
      by_cases hkl : k < (T c).length
      · rw [List.getElem?_append_left hkl] at hk
        by_cases hk2 : k + 1 < (T c).length
        · have hbu : b ≠ u := by
            intro q
            subst q
            have e1 := h.2.2 c k b hk
            rw [List.getLast?_eq_getElem?] at hul
            have e2 := h.2.2 c _ b hul
            rw [e1, show (T c).length - 1 + 1 = (T c).length by omega, List.getElem?_eq_none (Nat.le_refl _)] at e2
            have := ix_ge e2
            omega
          rw [va_up_ne _ _ hbu, List.getElem?_append_left hk2]
          exact h.2.2 c k b hk
        · have e0 : k = (T c).length - 1 := by omega
          rw [List.getLast?_eq_getElem?, ← e0, hk] at hul
          cases hul
          rw [va_up_self, List.getElem?_append_right (by omega), show k + 1 - (T c).length = 0 by omega]
          exact (h.1.1.2.1 v htv).symm
      · rw [List.getElem?_append_right (by omega)] at hk ⊢
        have hbu : b ≠ u := by
          intro q
          subst q
          exact hav (h.1.1.2.2.1 c v b hua (List.mem_of_getElem? hk))
        rw [va_up_ne _ _ hbu, h.2.2 v _ b hk, show k + 1 - (T c).length = k - (T c).length + 1 by omega]
    · by_cases h2 : c = v
      · subst h2
        rw [join_v hav] at hk
        cases hk
      · rw [join_o h1 h2] at hk ⊢
        have hbu : b ≠ u := by
          intro q
          subst q
          exact h1 (h.1.1.2.2.1 c a b (List.mem_of_getElem? hk) hua)
        rw [va_up_ne _ _ hbu]
        exact h.2.2 c k b hk
theorem mj_spec (h : CR T fs nx) (hm : mjB fs nx u v = true) : ∃ a, fs u = some a ∧ (T a).getLast? = some u ∧ T v ≠ [] ∧ a ≠ v ∧ v ≠ 0 := by
  unfold mjB at hm
  simp only [Bool.and_eq_true, decide_eq_true_eq] at hm
  obtain ⟨⟨⟨⟨h1, h2⟩, h3⟩, h4⟩, h5⟩ := hm
  obtain ⟨a, ha⟩ := Option.isSome_iff_exists.mp h1
  have hua := (h.2.1 u a).mp ha
  obtain ⟨k, hk⟩ := List.getElem?_of_mem hua
  have e1 := h.2.2 a k u hk
  rw [Option.isNone_iff_eq_none.mp h2] at e1
  have e2 := ix_ge e1.symm
  have e3 := ix_lt hk
  have hv := (h.2.1 v v).mp h3
  have htv : T v ≠ [] := fun q => by rw [q] at hv; cases hv
  have hav : a ≠ v := fun q => h4 (by rw [ha, q])
  refine ⟨a, ha, ?_, htv, hav, h5⟩
  rw [List.getLast?_eq_getElem?, show (T a).length - 1 = k by omega]
  exact hk
theorem mj_conv (h : CR T fs nx) (ha : fs u = some a) (hul : (T a).getLast? = some u) (htv : T v ≠ []) (hav : a ≠ v) (hv0 : v ≠ 0) : mjB fs nx u v = true := by
  unfold mjB
  simp only [Bool.and_eq_true, decide_eq_true_eq]
  have hv : v ∈ T v := List.mem_of_getElem? (h.1.1.2.1 v htv)
  have hua : u ∈ T a := last_mem hul
  refine ⟨⟨⟨⟨by rw [ha]; rfl, ?_⟩, (h.2.1 v v).mpr hv⟩, by rw [ha]; exact fun q => hav (Option.some.inj q)⟩, hv0⟩
  rw [List.getLast?_eq_getElem?] at hul
  rw [h.2.2 a _ u hul]
  have : 0 < (T a).length := List.length_pos_of_mem hua
  rw [show (T a).length - 1 + 1 = (T a).length by omega, List.getElem?_eq_none (Nat.le_refl _)]
  rfl
variable {fr tt ct : Nat → Nat} {fa : Nat → Bool} {k : Nat}
theorem TK_succ : (wl (k + 1) (pk fr tt ct fa)).foldl stepT T = stepT ((wl k (pk fr tt ct fa)).foldl stepT T) (fr k, tt k, ct k, fa k) := by
  rw [wl_succ, List.foldl_append]
  rfl
theorem ja_skip (h : CR ((wl k (pk fr tt ct fa)).foldl stepT T) f g) (hs : fa k = false ∨ ct k ≤ 0 ∨ mjB f g (fr k) (tt k) = false) : CR ((wl (k + 1) (pk fr tt ct fa)).foldl stepT T) f g := by
  rw [TK_succ]
  generalize (wl k (pk fr tt ct fa)).foldl stepT T = T2 at h
  have e : stepT T2 (fr k, tt k, ct k, fa k) = T2 := by
    unfold stepT
    rw [← CR_name h]
    cases hf : f (fr k) with
    | none => rfl
    | some a =>
      dsimp only
      rw [if_neg]
      rintro ⟨h1, h2, h3, h4, h5, h6⟩
      rcases hs with q | q | q
      · rw [q] at h1; cases h1
      · omega
      · rw [mj_conv h hf h3 h4 h5 h6] at q; cases q
  rw [e]
  exact h
theorem ja_join {z1 z2 : Nat → Option Nat} (h : CR ((wl k (pk fr tt ct fa)).foldl stepT T) f g) (hf : fa k = true) (hc : 0 < ct k) (ha : f (fr k) = some a) (hul : (((wl k (pk fr tt ct fa)).foldl stepT T) a).getLast? = some (fr k)) (htv : ((wl k (pk fr tt ct fa)).foldl stepT T) (tt k) ≠ []) (hav : a ≠ tt k) (hv0 : tt k ≠ 0) (hz : CR (joinT ((wl k (pk fr tt ct fa)).foldl stepT T) a (tt k)) z1 z2) : CR ((wl (k + 1) (pk fr tt ct fa)).foldl stepT T) z1 z2 := by
  rw [TK_succ]
  generalize (wl k (pk fr tt ct fa)).foldl stepT T = T2 at h hul htv hz
  have e : stepT T2 (fr k, tt k, ct k, fa k) = joinT T2 a (tt k) := by
    unfold stepT
    rw [← CR_name h]
    dsimp only
    rw [ha]
    dsimp only
    rw [if_pos ⟨hf, hc, hul, htv, hav, hv0⟩]
  rw [e]
  exact hz
end CRows

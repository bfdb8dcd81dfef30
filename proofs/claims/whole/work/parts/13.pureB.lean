/-! sums; what a telling does to the list of the ways -/
def sumN (f : Nat → Nat) : Nat → Nat
  | 0 => 0
  | k + 1 => sumN f k + f k
def wgt (fr tt ct : Nat → Nat) (fa : Nat → Bool) (pl : Nat → Option Nat) (k : Nat) : Nat := if (fa k && gOnB pl (fr k) (tt k)) = true then ct k else 0
section MinRow
variable {p : Program} {l : Launch} {e : Env} {R : Room} {s : State} {m : MethodId} {args : Array Value} {below : List Frame} {meth : Method} {c : Code} {H : Heap} {locs : List Loc} {cells slots : Nat} {Q : State → Prop} {cc : ByteArray} {pc : Nat} {ls : Array Slot} {rest : List Value}
theorem r_lmin (hexec : p.tables.exec = Jvm.exec) (hb : c.code = cc) (hml : c.maxLocals = ls.size) {own : String} {index : Nat} (hown : s.vm.findClass own = some m.cls) (hlink : (Cond.methodLink own index Lib.MathLoose.min_long.x).before args s = true) (hstat : (Cond.static Lib.MathLoose.min_long.x).before args s = true) (hini : (Cond.initialized "java/lang/Math").before args s = true) (hcode : (Cond.code Lib.MathLoose.min_long.x Lib.MathLoose.min_long.code 4 (some .long)).before args s = true)
    (hframes : 1 ≤ R.frames) (hlocals : (rest.map fun v => v.category).sum + 15 ≤ R.locals) (hc : cells ≤ R.cells) (hs : slots ≤ R.slots) {x y : Nat} (hx : x < 2 ^ 63) (hy : y < 2 ^ 63) (hdg : decode cc pc = .ok (.invokestatic index, 3))
    (kk : W p l e R s m args below meth c H locs cells slots Q (F0 m (pc + 3) ls (.long (lN (min x y)) :: rest))) : W p l e R s m args below meth c H locs cells slots Q (F0 m pc ls (.long (lN y) :: .long (lN x) :: rest)) := by
  refine va_mmin_long hexec hb hml hown hlink hstat hini hcode hframes hlocals hc hs hdg ?_
  have e1 : (if lN y < lN x then lN y else lN x) = lN (min x y) := by
    by_cases h : y < x
    · rw [if_pos ((pk_lLT hy hx).mpr h), Nat.min_eq_right (by omega)]
    · rw [if_neg (fun q => h ((pk_lLT hy hx).mp q)), Nat.min_eq_left (by omega)]
  rw [e1]
  exact kk
end MinRow
theorem KdL.uniq {L : List Wy} (h : KdL L) : ∀ a ∈ L, ∀ b ∈ L, a.1 = b.1 → a.2.1 = b.2.1 → a = b := by
  induction L with
  | nil => intro a ha; cases ha
  | cons x L ih =>
    have h' := List.pairwise_cons.mp h
    intro a ha b hb e1 e2
    rcases List.mem_cons.mp ha with qa | ha2
    · rcases List.mem_cons.mp hb with qb | hb2
      · rw [qa, qb]
      · exact absurd ⟨qa ▸ e1, qa ▸ e2⟩ (h'.1 b hb2)
    · rcases List.mem_cons.mp hb with qb | hb2
      · exact absurd ⟨(qb ▸ e1).symm, (qb ▸ e2).symm⟩ (h'.1 a ha2)
      · exact ih h'.2 a ha2 b hb2 e1 e2
def kyB (u v : Nat) (w : Wy) : Bool := decide (w.1 = u ∧ w.2.1 = v)
theorem kyB_iff {u v : Nat} {w : Wy} : kyB u v w = true ↔ w.1 = u ∧ w.2.1 = v := by simp [kyB]
def hasL (u v : Nat) (L : List Wy) : Bool := L.any (kyB u v)
theorem hasL_iff {u v : Nat} {L : List Wy} : hasL u v L = true ↔ ∃ w ∈ L, w.1 = u ∧ w.2.1 = v := by
  unfold hasL
  rw [List.any_eq_true]
  exact ⟨fun ⟨w, h1, h2⟩ => ⟨w, h1, kyB_iff.mp h2⟩, fun ⟨w, h1, h2⟩ => ⟨w, h1, kyB_iff.mpr h2⟩⟩
def cntL (u v : Nat) (L : List Wy) : Nat := match L.find? (kyB u v) with
  | some w => w.2.2.1
  | none => 0
theorem cntL_of {u v : Nat} {L : List Wy} (h : KdL L) {w : Wy} (hw : w ∈ L) (h1 : w.1 = u) (h2 : w.2.1 = v) : cntL u v L = w.2.2.1 := by
  unfold cntL
  cases hf : L.find? (kyB u v) with
  | none =>
    have := List.find?_eq_none.mp hf w hw
    exact absurd (kyB_iff.mpr ⟨h1, h2⟩) this
  | some w2 =>
    have a1 := List.mem_of_find?_eq_some hf
    have a2 := kyB_iff.mp (List.find?_some hf)
    rw [h.uniq w hw w2 a1 (h1.trans a2.1.symm) (h2.trans a2.2.symm)]
theorem cntL_none {u v : Nat} {L : List Wy} (h : hasL u v L = false) : cntL u v L = 0 := by
  unfold cntL
  cases hf : L.find? (kyB u v) with
  | none => rfl
  | some w2 =>
    have a1 := List.mem_of_find?_eq_some hf
    have a2 := kyB_iff.mp (List.find?_some hf)
    rw [hasL_iff.mpr ⟨w2, a1, a2⟩] at h
    cases h
def tellL (u v c : Nat) (f : Bool) (L : List Wy) : List Wy := if hasL u v L = true then L.map (fun w => if kyB u v w = true then (u, v, min 1000000000000000 (w.2.2.1 + c), f) else w) else L ++ [(u, v, min 1000000000000000 c, f)]
def tellFull (u v : Nat) (L : List Wy) : Bool := !hasL u v L && decide (1000 ≤ L.length)
def tellR (u v c : Nat) (L : List Wy) : Int64 := if tellFull u v L = true then -3 else lN (min 1000000000000000 (cntL u v L + c))
def tellS (u v c : Nat) (f : Bool) (L : List Wy) : List Wy := if tellFull u v L = true then L else tellL u v c f L
def TellPost (L : List Wy) (u v c : Nat) (f : Bool) (r : Int64) (kn : Nat) (g : Nat → Wy) : Prop := r = tellR u v c L ∧ (wl kn g).Perm (tellS u v c f L) ∧ Srt kn g ∧ kn ≤ 1000
section Tell
variable {fr tt ct : Nat → Nat} {fa : Nat → Bool} {kn u v c1 cn k : Nat} {fl : Bool}
theorem tl_WB1 (hB : WB fr tt ct) (hc : c1 ≤ 1000000000000000) : WB fr tt (va_up ct k c1) := by
  intro i
  obtain ⟨a, b, d⟩ := hB i
  refine ⟨a, b, ?_⟩
  unfold va_up
  split
  · exact hc
  · exact d
theorem tl_WB2 (hB : WB fr tt ct) (hu : u < 200) (hv : v < 200) (hc : c1 ≤ 1000000000000000) : WB (va_up fr kn u) (va_up tt kn v) (va_up (va_up ct kn 0) kn c1) := by
  intro i
  obtain ⟨a, b, d⟩ := hB i
  unfold va_up
  split
  · exact ⟨hu, hv, hc⟩
  · exact ⟨a, b, d⟩
theorem bef_more {a b : Wy} {c : Nat} {f : Bool} (h : bef a b = true) (hc : a.2.2.1 ≤ c) : bef (a.1, a.2.1, c, f) b = true := by
  unfold bef at *
  dsimp only
  split at h
  · split at h <;> simp only [decide_eq_true_eq] at h <;> (repeat' split) <;> simp only [decide_eq_true_eq] <;> omega
  · simp only [decide_eq_true_eq] at h
    (repeat' split) <;> simp only [decide_eq_true_eq] <;> omega
theorem bef_key {a b : Wy} {f f' : Bool} (h : bef a b = true) : bef (a.1, a.2.1, a.2.2.1, f) (b.1, b.2.1, b.2.2.1, f') = true := h
theorem pk1_ne {i : Nat} (h : i ≠ k) : pk fr tt (va_up ct k c1) (va_up fa k fl) i = pk fr tt ct fa i := by
  unfold pk
  rw [va_up_ne _ _ h, va_up_ne _ _ h]
theorem pk1_eq : pk fr tt (va_up ct k c1) (va_up fa k fl) k = (fr k, tt k, c1, fl) := by
  unfold pk
  rw [va_up_self, va_up_self]
theorem KdL_keys {L M : List Wy} (h : KdL L) (e : M.map (fun w => (w.1, w.2.1)) = L.map (fun w => (w.1, w.2.1))) : KdL M := by
  have a : ∀ N : List Wy, KdL N ↔ (N.map (fun w => (w.1, w.2.1))).Pairwise (fun a b => ¬ (a.1 = b.1 ∧ a.2 = b.2)) := fun N => by
    unfold KdL
    rw [List.pairwise_map]
  rw [a, e, ← a]
  exact h
theorem tl_MF1 (hS0 : Srt kn (pk fr tt ct fa)) (hK0 : KdL (wl kn (pk fr tt ct fa))) (hk : k < kn) (hc : ct k ≤ c1) : MF kn (pk fr tt (va_up ct k c1) (va_up fa k fl)) (pk fr tt (va_up ct k c1) (va_up fa k fl)) k := by
  refine MF_of hk (KdL_keys hK0 ?_) ?_ ?_
  · unfold wl
    rw [List.map_map, List.map_map]
    rfl
  · intro i j hij hj hi2 hj2
    rw [pk1_ne hi2, pk1_ne hj2]
    exact hS0 i j hij hj
  · intro j hkj hj
    rw [pk1_ne (i := j) (by omega), pk1_eq]
    exact bef_more (hS0 k j hkj hj) hc
theorem pk2_ne {i : Nat} (h : i ≠ kn) : pk (va_up fr kn u) (va_up tt kn v) (va_up (va_up ct kn 0) kn c1) (va_up fa kn fl) i = pk fr tt ct fa i := by
  unfold pk
  rw [va_up_ne _ _ h, va_up_ne _ _ h, va_up_ne _ _ h, va_up_ne _ _ h, va_up_ne _ _ h]
theorem pk2_eq : pk (va_up fr kn u) (va_up tt kn v) (va_up (va_up ct kn 0) kn c1) (va_up fa kn fl) kn = (u, v, c1, fl) := by
  unfold pk
  rw [va_up_self, va_up_self, va_up_self, va_up_self]
theorem wl2 : wl (kn + 1) (pk (va_up fr kn u) (va_up tt kn v) (va_up (va_up ct kn 0) kn c1) (va_up fa kn fl)) = wl kn (pk fr tt ct fa) ++ [(u, v, c1, fl)] := by
  rw [wl_succ, pk2_eq, wl_congr (h := pk fr tt ct fa) (fun i hi => pk2_ne (by omega))]
theorem fnd_none (hB : WB fr tt ct) (hu : u < 200) (hv : v < 200) (hF : Fnd fr tt kn (nI u) (nI v) none) : hasL u v (wl kn (pk fr tt ct fa)) = false := by
  cases h : hasL u v (wl kn (pk fr tt ct fa)) with
  | false => rfl
  | true =>
    obtain ⟨w, hw, e1, e2⟩ := hasL_iff.mp h
    obtain ⟨i, hi, rfl⟩ := wl_mem.mp hw
    have e1 : fr i = u := e1
    have e2 : tt i = v := e2
    exact absurd ⟨by rw [e1], by rw [e2]⟩ (hF i hi)
theorem fnd_some (hB : WB fr tt ct) (hu : u < 200) (hv : v < 200) (hF : Fnd fr tt kn (nI u) (nI v) (some k)) : k < kn ∧ fr k = u ∧ tt k = v := by
  have b := hB k
  exact ⟨hF.1, nI_inj (by omega) (by omega) hF.2.1, nI_inj (by omega) (by omega) hF.2.2⟩
theorem tl_MF2 (hS0 : Srt kn (pk fr tt ct fa)) (hK0 : KdL (wl kn (pk fr tt ct fa))) (hB : WB fr tt ct) (hu : u < 200) (hv : v < 200) (hF : Fnd fr tt kn (nI u) (nI v) none) : MF (kn + 1) (pk (va_up fr kn u) (va_up tt kn v) (va_up (va_up ct kn 0) kn c1) (va_up fa kn fl)) (pk (va_up fr kn u) (va_up tt kn v) (va_up (va_up ct kn 0) kn c1) (va_up fa kn fl)) kn := by
  refine MF_of (by omega) ?_ ?_ (fun j h1 h2 => by omega)
  · rw [wl2]
    refine List.pairwise_append.mpr ⟨hK0, List.pairwise_singleton _ _, fun a ha b hb => ?_⟩
    rw [List.mem_singleton] at hb
    subst hb
    intro ⟨e1, e2⟩
    have := fnd_none (fa := fa) hB hu hv hF
    rw [hasL_iff.mpr ⟨a, ha, e1, e2⟩] at this
    cases this
  · intro i j hij hj hi2 hj2
    rw [pk2_ne hi2, pk2_ne hj2]
    exact hS0 i j hij (by omega)
theorem tl_full (hB : WB fr tt ct) (hu : u < 200) (hv : v < 200) (hF : Fnd fr tt kn (nI u) (nI v) none) (hk : kn = 1000) (hS0 : Srt kn (pk fr tt ct fa)) : TellPost (wl kn (pk fr tt ct fa)) u v cn fl (-3) kn (pk fr tt ct fa) ∧ WB fr tt ct := by
  have h1 := fnd_none (fa := fa) hB hu hv hF
  have h2 : tellFull u v (wl kn (pk fr tt ct fa)) = true := by
    unfold tellFull
    rw [h1, wl_len]
    simp [hk]
  refine ⟨⟨?_, ?_, hS0, by omega⟩, hB⟩
  · unfold tellR
    rw [if_pos h2]
  · unfold tellS
    rw [if_pos h2]
theorem tl_new {f1 f2 f3 : Nat → Nat} {f4 : Nat → Bool} (hB : WB fr tt ct) (hu : u < 200) (hv : v < 200) (hF : Fnd fr tt kn (nI u) (nI v) none) (hk : kn < 1000) (hc : c1 = min 1000000000000000 (0 + cn)) (h1 : WB f1 f2 f3) (h2 : (wl (kn + 1) (pk f1 f2 f3 f4)).Perm (wl (kn + 1) (pk (va_up fr kn u) (va_up tt kn v) (va_up (va_up ct kn 0) kn c1) (va_up fa kn fl)))) (h3 : Srt (kn + 1) (pk f1 f2 f3 f4)) : TellPost (wl kn (pk fr tt ct fa)) u v cn fl (lN c1) (kn + 1) (pk f1 f2 f3 f4) ∧ WB f1 f2 f3 := by
  have g1 := fnd_none (fa := fa) hB hu hv hF
  have g2 : ¬ tellFull u v (wl kn (pk fr tt ct fa)) = true := by
    unfold tellFull
    rw [g1, wl_len]
    simp
    omega
  refine ⟨⟨?_, ?_, h3, by omega⟩, h1⟩
  · unfold tellR
    rw [if_neg g2, cntL_none g1, hc]
  · unfold tellS
    rw [if_neg g2]
    unfold tellL
    rw [if_neg (by rw [g1]; decide)]
    rw [wl2, hc, Nat.zero_add] at h2
    exact h2
theorem tl_old {f1 f2 f3 : Nat → Nat} {f4 : Nat → Bool} (hB : WB fr tt ct) (hK0 : KdL (wl kn (pk fr tt ct fa))) (hu : u < 200) (hv : v < 200) (hkn : kn ≤ 1000) (hF : Fnd fr tt kn (nI u) (nI v) (some k)) (hc : c1 = min 1000000000000000 (ct k + cn)) (h1 : WB f1 f2 f3) (h2 : (wl kn (pk f1 f2 f3 f4)).Perm (wl kn (pk fr tt (va_up ct k c1) (va_up fa k fl)))) (h3 : Srt kn (pk f1 f2 f3 f4)) : TellPost (wl kn (pk fr tt ct fa)) u v cn fl (lN c1) kn (pk f1 f2 f3 f4) ∧ WB f1 f2 f3 := by
  obtain ⟨a1, a2, a3⟩ := fnd_some hB hu hv hF
  have hm : pk fr tt ct fa k ∈ wl kn (pk fr tt ct fa) := wl_mem.mpr ⟨k, a1, rfl⟩
  have g1 : hasL u v (wl kn (pk fr tt ct fa)) = true := hasL_iff.mpr ⟨_, hm, a2, a3⟩
  have g2 : ¬ tellFull u v (wl kn (pk fr tt ct fa)) = true := by
    unfold tellFull
    rw [g1]
    simp
  refine ⟨⟨?_, ?_, h3, hkn⟩, h1⟩
  · unfold tellR
    rw [if_neg g2, cntL_of hK0 hm a2 a3, hc]
    rfl
  · unfold tellS
    rw [if_neg g2]
    unfold tellL
    rw [if_pos g1]
    refine h2.trans ?_
    have e : wl kn (pk fr tt (va_up ct k c1) (va_up fa k fl)) = (wl kn (pk fr tt ct fa)).map (fun w => if kyB u v w = true then (u, v, min 1000000000000000 (w.2.2.1 + cn), fl) else w) := by
      unfold wl
      rw [List.map_map]
      refine List.map_congr_left (fun i hi => ?_)
      have hi := List.mem_range.mp hi
      show _ = if kyB u v (pk fr tt ct fa i) = true then _ else _
      by_cases hik : i = k
      · subst hik
        rw [if_pos (kyB_iff.mpr ⟨a2, a3⟩), pk1_eq, hc, a2, a3]
        rfl
      · rw [if_neg, pk1_ne hik]
        intro q
        obtain ⟨q1, q2⟩ := kyB_iff.mp q
        exact hik (hK0.inj i k hi a1 (q1.trans a2.symm) (q2.trans a3.symm))
    rw [e]
end Tell

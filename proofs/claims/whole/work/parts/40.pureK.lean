/-! both sides' answers are the same -/
theorem rowA_det {P : List Nat} {y r r2 : Int32} (hl : P.length ≤ 200) (h1 : rowA P y r) (h2 : rowA P y r2) : r = r2 := by
  rcases h1 with ⟨a1, a2⟩ | ⟨j, b, a1, a2, a3⟩
  · rcases h2 with ⟨b1, b2⟩ | ⟨j, b, b1, b2, b3⟩
    · rw [a1, b1]
    · exact absurd b2 (a2 j (ix_lt b1))
  · have hj := ix_lt a1
    rcases h2 with ⟨b1, b2⟩ | ⟨j2, b2, c1, c2, c3⟩
    · exact absurd a2 (b2 j (ix_lt a1))
    · have hj2 := ix_lt c1
      have e : j = j2 := nI_inj (by omega) (by omega) (a2.symm.trans c2)
      subst e
      rw [a1] at c1
      rw [a3, c3, Option.some.inj c1]
theorem chA_det {L : List Wy} {n : Nat} {HB : List Nat} {y r r2 : Int32} (hn : n ≤ 200) (h1 : chA L n HB y r) (h2 : chA L n HB y r2) : r = r2 := by
  rcases h1 with ⟨a1, a2⟩ | ⟨j, a1, a2, a3⟩
  · rcases h2 with ⟨b1, b2⟩ | ⟨j, b1, b2, b3⟩
    · rw [a2, b2]
    · rw [(isB_iff hn).mpr ⟨j, b1, b2⟩] at a1; cases a1
  · rcases h2 with ⟨b1, b2⟩ | ⟨j2, b1, b2, b3⟩
    · rw [(isB_iff hn).mpr ⟨j, a1, a2⟩] at b1; cases b1
    · have e : j = j2 := nI_inj (by omega) (by omega) (a2.symm.trans b2)
      subst e
      rw [a3, b3]
theorem Srt_pw {kn : Nat} {g : Nat → Wy} (h : Srt kn g) : (wl kn g).Pairwise (fun x y => bef x y = true) := by
  refine List.pairwise_iff_getElem.mpr (fun i j hi hj hij => ?_)
  rw [wl_len] at hi hj
  have e1 : (wl kn g)[i]'(by rw [wl_len]; omega) = g i := by simp [wl]
  have e2 : (wl kn g)[j]'(by rw [wl_len]; omega) = g j := by simp [wl]
  rw [e1, e2]
  exact h i j hij hj
theorem srt_uniq : ∀ (L M : List Wy), L.Perm M → L.Pairwise (fun x y => bef x y = true) → M.Pairwise (fun x y => bef x y = true) → L = M := by
  intro L
  induction L with
  | nil => intro M h _ _; exact (List.Perm.nil_eq h)
  | cons a L ih =>
    intro M h h1 h2
    cases M with
    | nil => exact absurd h.length_eq (by simp)
    | cons b M =>
      have p1 := List.pairwise_cons.mp h1
      have p2 := List.pairwise_cons.mp h2
      have e : a = b := by
        rcases List.mem_cons.mp (h.mem_iff.mp List.mem_cons_self) with q | q
        · exact q
        · rcases List.mem_cons.mp (h.mem_iff.mpr (List.mem_cons_self (a := b) (l := M))) with z | z
          · exact z.symm
          · exact (bef_irr (p2.1 a q) (p1.1 b z)).elim
      subst e
      rw [ih M (List.Perm.cons_inv h) p1.2 p2.2]
theorem hasL_perm {L M : List Wy} (h : L.Perm M) (u v : Nat) : hasL u v L = hasL u v M := by
  cases e : hasL u v M with
  | true =>
    obtain ⟨w, hw, q⟩ := hasL_iff.mp e
    exact hasL_iff.mpr ⟨w, h.mem_iff.mpr hw, q⟩
  | false =>
    cases e2 : hasL u v L with
    | false => rfl
    | true =>
      obtain ⟨w, hw, q⟩ := hasL_iff.mp e2
      rw [hasL_iff.mpr ⟨w, h.mem_iff.mp hw, q⟩] at e
      cases e
theorem cntL_perm {L M : List Wy} (h : L.Perm M) (hK : KdL L) (u v : Nat) : cntL u v L = cntL u v M := by
  cases e : hasL u v L with
  | true =>
    obtain ⟨w, hw, q1, q2⟩ := hasL_iff.mp e
    rw [cntL_of hK hw q1 q2, cntL_of (hK.perm h) (h.mem_iff.mp hw) q1 q2]
  | false => rw [cntL_none e, cntL_none (by rw [← hasL_perm h]; exact e)]
theorem tellFull_perm {L M : List Wy} (h : L.Perm M) (u v : Nat) : tellFull u v L = tellFull u v M := by
  unfold tellFull
  rw [hasL_perm h, h.length_eq]
theorem tellR_perm {L M : List Wy} (h : L.Perm M) (hK : KdL L) (u v c : Nat) : tellR u v c L = tellR u v c M := by
  unfold tellR
  rw [tellFull_perm h, cntL_perm h hK]
theorem tellS_perm {L M : List Wy} (h : L.Perm M) (u v c : Nat) (f : Bool) : (tellS u v c f L).Perm (tellS u v c f M) := by
  unfold tellS
  rw [tellFull_perm h]
  split
  · exact h
  · unfold tellL
    rw [hasL_perm h]
    split
    · exact h.map _
    · exact h.append_right _
theorem KdL_tellS {L : List Wy} (hK : KdL L) (u v c : Nat) (f : Bool) : KdL (tellS u v c f L) := by
  unfold tellS
  split
  · exact hK
  · unfold tellL
    split
    · refine KdL_keys hK ?_
      rw [List.map_map]
      refine List.map_congr_left (fun w _ => ?_)
      show ((if kyB u v w = true then (u, v, min 1000000000000000 (w.2.2.1 + c), f) else w).1, (if kyB u v w = true then (u, v, min 1000000000000000 (w.2.2.1 + c), f) else w).2.1) = (w.1, w.2.1)
      split
      · next q => rw [(kyB_iff.mp q).1, (kyB_iff.mp q).2]
      · rfl
    · next hno =>
      refine List.pairwise_append.mpr ⟨hK, List.pairwise_singleton _ _, fun a ha b hb => ?_⟩
      rw [List.mem_singleton] at hb
      subst hb
      rintro ⟨e1, e2⟩
      exact hno (hasL_iff.mpr ⟨a, ha, e1, e2⟩)
theorem fnd_det {fr tt ct fr2 tt2 ct2 : Nat → Nat} {fa fa2 : Nat → Bool} {kn kn2 : Nat} {x y : Int32} {o o2 : Option Nat} (hB : WB fr tt ct) (hB2 : WB fr2 tt2 ct2) (hK : KdL (wl kn (pk fr tt ct fa))) (h : (wl kn (pk fr tt ct fa)).Perm (wl kn2 (pk fr2 tt2 ct2 fa2))) (h1 : Fnd fr tt kn x y o) (h2 : Fnd fr2 tt2 kn2 x y o2) : ctO ct o = ctO ct2 o2 := by
  cases o with
  | none =>
    cases o2 with
    | none => rfl
    | some k =>
      have hm : pk fr2 tt2 ct2 fa2 k ∈ wl kn (pk fr tt ct fa) := h.mem_iff.mpr (wl_mem.mpr ⟨k, h2.1, rfl⟩)
      obtain ⟨i, hi, e⟩ := wl_mem.mp hm
      have e1 : fr i = fr2 k := congrArg (fun w : Wy => w.1) e
      have e2 : tt i = tt2 k := congrArg (fun w : Wy => w.2.1) e
      exact absurd ⟨by rw [e1]; exact h2.2.1, by rw [e2]; exact h2.2.2⟩ (h1 i hi)
  | some k =>
    have hm : pk fr tt ct fa k ∈ wl kn (pk fr tt ct fa) := wl_mem.mpr ⟨k, h1.1, rfl⟩
    obtain ⟨i, hi, e⟩ := wl_mem.mp (h.mem_iff.mp hm)
    have e1 : fr2 i = fr k := congrArg (fun w : Wy => w.1) e
    have e2 : tt2 i = tt k := congrArg (fun w : Wy => w.2.1) e
    have e3 : ct2 i = ct k := congrArg (fun w : Wy => w.2.2.1) e
    cases o2 with
    | none => exact absurd ⟨by rw [e1]; exact h1.2.1, by rw [e2]; exact h1.2.2⟩ (h2 i hi)
    | some j =>
      have b1 := hB k
      have b2 := hB2 j
      have hj : pk fr2 tt2 ct2 fa2 j ∈ wl kn (pk fr tt ct fa) := h.mem_iff.mpr (wl_mem.mpr ⟨j, h2.1, rfl⟩)
      have k1 : fr k = fr2 j := nI_inj (by omega) (by omega) (h1.2.1.trans h2.2.1.symm)
      have k2 : tt k = tt2 j := nI_inj (by omega) (by omega) (h1.2.2.trans h2.2.2.symm)
      have := hK.uniq _ hm _ hj k1 k2
      exact congrArg (fun w : Wy => w.2.2.1) this
/-- the class's and the reference's state belong together -/
def LI (n : Nat) (hot : Nat → Bool) (kn : Nat) (fr tt ct : Nat → Nat) (fa : Nat → Bool) (st : Bool) (aw hw cw : Nat) (fs : Nat → Option Nat) (n1 : Nat) (me1 : Nat → Nat) (pl1 : Nat → Option Nat) (n2 : Nat) (me2 : Nat → Nat) (pl2 : Nat → Option Nat) (n3 : Nat) (me3 : Nat → Nat) (pl3 : Nat → Option Nat) (knM : Nat) (frM ttM ctM : Nat → Nat) (faM : Nat → Bool) (ikM : Bool) (hsM : Nat) (ibM : Bool) (coM : Nat → Option Nat) (tbM bcM bnM : Nat → Nat) : Prop :=
  (n ≤ 200 ∧ kn ≤ 1000 ∧ WB fr tt ct ∧ Srt kn (pk fr tt ct fa) ∧ KdL (wl kn (pk fr tt ct fa)) ∧ (st = false → Fresh n hot (wl kn (pk fr tt ct fa)) aw hw cw fs n1 me1 pl1 n2 me2 pl2 n3 me3 pl3)) ∧ (knM ≤ 1000 ∧ WB frM ttM ctM ∧ (∀ k, k < knM → frM k < n ∧ ttM k < n) ∧ (wl kn (pk fr tt ct fa)).Perm (wl knM (pk frM ttM ctM faM)) ∧ (ikM = true → MFresh n hot (wl kn (pk fr tt ct fa)) hsM ibM coM tbM bcM bnM))
section LIs
variable {n : Nat} {hot : Nat → Bool} {kn : Nat} {fr tt ct : Nat → Nat} {fa : Nat → Bool} {st : Bool} {aw hw cw : Nat} {fs : Nat → Option Nat} {n1 : Nat} {me1 : Nat → Nat} {pl1 : Nat → Option Nat} {n2 : Nat} {me2 : Nat → Nat} {pl2 : Nat → Option Nat} {n3 : Nat} {me3 : Nat → Nat} {pl3 : Nat → Option Nat} {knM : Nat} {frM ttM ctM : Nat → Nat} {faM : Nat → Bool} {ikM : Bool} {hsM : Nat} {ibM : Bool} {coM : Nat → Option Nat} {tbM bcM bnM : Nat → Nat}
theorem LI_size {q : Nat} (hq : q ≤ 200) (h : LI n hot kn fr tt ct fa st aw hw cw fs n1 me1 pl1 n2 me2 pl2 n3 me3 pl3 knM frM ttM ctM faM ikM hsM ibM coM tbM bcM bnM) : LI q (fun _ => false) 0 fr tt ct fa true aw hw cw fs n1 me1 pl1 n2 me2 pl2 n3 me3 pl3 0 frM ttM ctM faM false hsM ibM coM tbM bcM bnM := by
  obtain ⟨⟨h1, h2, h3, h4, h5, h6⟩, ⟨g1, g2, g3, g4, g5⟩⟩ := h
  exact ⟨⟨hq, by omega, h3, fun i j hij hj => by omega, List.Pairwise.nil, fun z => by cases z⟩, ⟨by omega, g2, fun k hk => by omega, List.Perm.refl _, fun z => by cases z⟩⟩
theorem LI_heat {j : Nat} {fl : Bool} (h : LI n hot kn fr tt ct fa st aw hw cw fs n1 me1 pl1 n2 me2 pl2 n3 me3 pl3 knM frM ttM ctM faM ikM hsM ibM coM tbM bcM bnM) : LI n (va_up hot j fl) kn fr tt ct fa true aw hw cw fs n1 me1 pl1 n2 me2 pl2 n3 me3 pl3 knM frM ttM ctM faM false hsM ibM coM tbM bcM bnM := by
  obtain ⟨⟨h1, h2, h3, h4, h5, h6⟩, ⟨g1, g2, g3, g4, g5⟩⟩ := h
  exact ⟨⟨h1, h2, h3, h4, h5, fun z => by cases z⟩, ⟨g1, g2, g3, g4, fun z => by cases z⟩⟩
theorem LI_way {u v cn : Nat} {fl : Bool} {r r2 : Int64} {kz kz2 : Nat} {f1 f2 f3 k1 k2 k3 : Nat → Nat} {f4 k4 : Nat → Bool} {ik2 : Bool} (h : LI n hot kn fr tt ct fa st aw hw cw fs n1 me1 pl1 n2 me2 pl2 n3 me3 pl3 knM frM ttM ctM faM ikM hsM ibM coM tbM bcM bnM) (hz : TellPost (wl kn (pk fr tt ct fa)) u v cn fl r kz (pk f1 f2 f3 f4) ∧ WB f1 f2 f3) (hz2 : MTell (wl knM (pk frM ttM ctM faM)) u v cn fl r2 n kz2 k1 k2 k3 k4 ∧ (ik2 = true → ikM = true ∧ wl kz2 (pk k1 k2 k3 k4) = wl knM (pk frM ttM ctM faM))) : r = r2 ∧ LI n hot kz f1 f2 f3 f4 true aw hw cw fs n1 me1 pl1 n2 me2 pl2 n3 me3 pl3 kz2 k1 k2 k3 k4 ik2 hsM ibM coM tbM bcM bnM := by
  obtain ⟨⟨h1, h2, h3, h4, h5, h6⟩, ⟨g1, g2, g3, g4, g5⟩⟩ := h
  obtain ⟨⟨a1, a2, a3, a4⟩, a5⟩ := hz
  obtain ⟨⟨b1, b2, b3, b4, b5⟩, b6⟩ := hz2
  have hp : (wl kz (pk f1 f2 f3 f4)).Perm (wl kz2 (pk k1 k2 k3 k4)) := by
    rw [b2]
    exact a2.trans (tellS_perm g4 u v cn fl)
  refine ⟨by rw [a1, b1]; exact tellR_perm g4 h5 u v cn, ⟨h1, a4, a5, a3, (KdL_tellS h5 u v cn fl).perm a2.symm, fun z => by cases z⟩, ⟨b3, b4, b5, hp, fun z => ?_⟩⟩
  obtain ⟨z1, z2⟩ := b6 z
  have e : wl kz (pk f1 f2 f3 f4) = wl kn (pk fr tt ct fa) := srt_uniq _ _ (hp.trans (by rw [z2]; exact g4.symm)) (Srt_pw a3) (Srt_pw h4)
  rw [e]
  exact g5 z1
theorem LI_ask {aw' hw' cw' : Nat} {fs' : Nat → Option Nat} {n1' : Nat} {me1' : Nat → Nat} {pl1' : Nat → Option Nat} {n2' : Nat} {me2' : Nat → Nat} {pl2' : Nat → Option Nat} {n3' : Nat} {me3' : Nat → Nat} {pl3' : Nat → Option Nat} {hsM' : Nat} {ibM' : Bool} {coM' : Nat → Option Nat} {tbM' bcM' bnM' : Nat → Nat} (h : LI n hot kn fr tt ct fa st aw hw cw fs n1 me1 pl1 n2 me2 pl2 n3 me3 pl3 knM frM ttM ctM faM ikM hsM ibM coM tbM bcM bnM) (hf : Fresh n hot (wl kn (pk fr tt ct fa)) aw' hw' cw' fs' n1' me1' pl1' n2' me2' pl2' n3' me3' pl3') (hm : MFresh n hot (wl kn (pk fr tt ct fa)) hsM' ibM' coM' tbM' bcM' bnM') : LI n hot kn fr tt ct fa false aw' hw' cw' fs' n1' me1' pl1' n2' me2' pl2' n3' me3' pl3' knM frM ttM ctM faM true hsM' ibM' coM' tbM' bcM' bnM' := by
  obtain ⟨⟨h1, h2, h3, h4, h5, h6⟩, ⟨g1, g2, g3, g4, g5⟩⟩ := h
  exact ⟨⟨h1, h2, h3, h4, h5, fun _ => hf⟩, ⟨g1, g2, g3, g4, fun _ => hm⟩⟩
theorem WB_0 : WB (fun _ => 0) (fun _ => 0) (fun _ => 0) := fun k => ⟨by show 0 < 200; omega, by show 0 < 200; omega, Nat.zero_le _⟩
theorem LI_0 : LI 1 (fun _ => false) 0 (fun _ => 0) (fun _ => 0) (fun _ => 0) (fun _ => false) true aw hw cw fs n1 me1 pl1 n2 me2 pl2 n3 me3 pl3 0 (fun _ => 0) (fun _ => 0) (fun _ => 0) (fun _ => false) false hsM ibM coM tbM bcM bnM :=
  ⟨⟨by omega, by omega, WB_0, fun i j hij hj => by omega, List.Pairwise.nil, fun z => by cases z⟩, ⟨by omega, WB_0, fun k hk => by omega, List.Perm.refl _, fun z => by cases z⟩⟩
end LIs
theorem rowL_le {L : List Wy} {n : Nat} {hot : Nat → Bool} (hn : n ≤ 200) (h : (finL L (hbL n hot)).length = (hbL n hot).length) : (rowL L (hbL n hot)).length ≤ 200 := by
  rw [rowL_len h]
  exact Nat.le_trans (hbL_len n hot) hn
theorem lw_gt {L i : Nat} (hL : L ≤ 2560) (hi : i ≤ 2560) : (nI L - nI 5 < nI i) ↔ L < i + 5 := by
  rw [Int32.lt_iff_toInt_lt, pk_sub_toInt (by omega) (by omega), nI_toInt (by omega)]
  omega
section ScriptRows
variable {p : Program} {l : Launch} {e : Env} {R : Room} {s : State} {m : MethodId} {args : Array Value} {below : List Frame} {meth : Method} {c : Code} {H : Heap} {locs : List Loc} {cells slots : Nat} {Q : State → Prop} {cc : ByteArray} {pc : Nat} {ls : Array Slot} {rest : List Value} {A : Nat → Prop} {H0 : Heap}
theorem r_sld (hexec : p.tables.exec = Jvm.exec) (hb : c.code = cc) {b L : Nat} {xs : Nat → Int32} (hX : va_X b L xs s H0) (hbl : b < H0.size) (hbA : ¬ A b) (hS : va_S A H0 H locs) {k : Nat} (hk : k < L) (hL : L < 2 ^ 31) (hdg : decode cc pc = .ok (.iaload, 1))
    (kk : W p l e R s m args below meth c H locs cells slots Q (F0 m (pc + 1) ls (.int (xs k) :: rest))) : W p l e R s m args below meth c H locs cells slots Q (F0 m pc ls (.int (nI k) :: .ref b :: rest)) := by
  refine va_sld hexec hb hX hbl hbA hS (vp_in_nI hk hL) hdg ?_
  rw [nI_clamp (by omega)]
  exact kk
theorem r_st {st st' : List Value} (h : st = st') (k : W p l e R s m args below meth c H locs cells slots Q (F0 m pc ls st')) : W p l e R s m args below meth c H locs cells slots Q (F0 m pc ls st) := by rw [h]; exact k
end ScriptRows
theorem arr_of {args : Array Value} {s : State} {ty : FieldType} (h : (Cond.arrayClass ty).before args s = true) : ∃ cA, ArrOfT s cA ty ∧ s.vm.findClass ("[" ++ ty.toString) = some cA := by
  obtain ⟨cA, kA, comp, h1, h2, h3⟩ := Cond.arrayClass_spec h
  exact ⟨cA, fun n z => ⟨fun k h => (by cases h), kA, h2, comp, h3⟩, h1⟩

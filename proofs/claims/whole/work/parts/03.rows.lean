/-! own rows over the kit's: numbers as Nat, options (none is -1), truth values; a call as one row -/
def oI (o : Option Nat) : Int32 := match o with
  | none => -1
  | some k => nI k
def bI (b : Bool) : Int32 := if b = true then 1 else 0
def nIf (f : Nat → Nat) : Nat → Int32 := fun j => nI (f j)
def oIf (f : Nat → Option Nat) : Nat → Int32 := fun j => oI (f j)
def bIf (f : Nat → Bool) : Nat → Int32 := fun j => bI (f j)
def lNf (f : Nat → Nat) : Nat → Int64 := fun j => lN (f j)
theorem nI_inj {a b : Nat} (ha : a < 2 ^ 31) (hb : b < 2 ^ 31) (h : nI a = nI b) : a = b := (nI_eq ha hb).mp h
theorem nI_nem1 {a : Nat} (ha : a < 2 ^ 31) : nI a ≠ -1 := by
  intro h
  have h1 := nI_toInt ha
  rw [h] at h1
  have h2 : (-1 : Int32).toInt = -1 := by decide
  rw [h2] at h1
  omega
theorem oI_m1 {o : Option Nat} (ho : ∀ j, o = some j → j < 2 ^ 31) : oI o = -1 ↔ o = none := by
  cases o with
  | none => exact ⟨fun _ => rfl, fun _ => rfl⟩
  | some k => exact ⟨fun h => absurd h (nI_nem1 (ho k rfl)), fun h => by cases h⟩
theorem oI_nI {o : Option Nat} {k : Nat} (ho : ∀ j, o = some j → j < 2 ^ 31) (hk : k < 2 ^ 31) : oI o = nI k ↔ o = some k := by
  cases o with
  | none => exact ⟨fun h => absurd h.symm (nI_nem1 hk), fun h => by cases h⟩
  | some j => exact ⟨fun h => by rw [nI_inj (ho j rfl) hk h], fun h => by cases h; rfl⟩
theorem oI_inj {o q : Option Nat} (ho : ∀ j, o = some j → j < 2 ^ 31) (hq : ∀ j, q = some j → j < 2 ^ 31) : oI o = oI q ↔ o = q := by
  cases q with
  | none => exact oI_m1 ho
  | some k => exact oI_nI ho (hq k rfl)
theorem bI_0 {b : Bool} : bI b = 0 ↔ b = false := by cases b <;> decide
theorem bI_nar (b : Bool) : vp_nar .boolean (bI b) = bI b := by cases b <;> rfl
theorem bI_narrow (b : Bool) : narrow .boolean (.int (bI b)) = .int (bI b) := by cases b <;> rfl
theorem bI_fits (b : Bool) : fits .boolean (.int (bI b)) = true := by cases b <;> rfl
theorem bI_inj {a b : Bool} (h : bI a = bI b) : a = b := by cases a <;> cases b <;> first | rfl | (exact absurd h (by decide))
/-- what the nest's private fields and constructors need, beside the words -/
def Nst (U : State) : Prop :=
  (va_Nw (.fieldLinkNest "BlockRows$Chains" 43 "BlockRows$Ways" "from" "[I" "BlockRows") U ∧ va_Nw (.fieldLinkNest "BlockRows$Chains" 46 "BlockRows$Ways" "to" "[I" "BlockRows") U ∧ va_Nw (.fieldLinkNest "BlockRows$Chains" 53 "BlockRows$Ways" "counts" "[J" "BlockRows") U ∧ va_Nw (.fieldLinkNest "BlockRows$Chains" 49 "BlockRows$Ways" "falling" "[Z" "BlockRows") U ∧ va_Nw (.fieldLinkNest "BlockRows$Chains" 37 "BlockRows$Ways" "known" "I" "BlockRows") U) ∧
  (va_Nw (.fieldLinkNest "BlockRows$Chains" 70 "BlockRows$Line" "filled" "I" "BlockRows") U ∧ va_Nw (.fieldLinkNest "BlockRows" 71 "BlockRows$Line" "filled" "I" "BlockRows") U ∧ va_Nw (.methodLinkNest "BlockRows$Line" 28 yX3_fitsRows "BlockRows") U ∧ va_Nw (.methodLinkNest "BlockRows$Chains" 34 yX3_fitsRows "BlockRows") U) ∧
  (va_Nw (.methodLinkNest "BlockRows" 15 yX2_init "BlockRows") U ∧ va_Nw (.methodLinkNest "BlockRows" 22 yX0_init "BlockRows") U ∧ va_Nw (.methodLinkNest "BlockRows" 29 yX1_init "BlockRows") U)
theorem Nst.warm {s U : State} (hW : s.WarmedH U.vm) (h : Nst s) : Nst U := by
  obtain ⟨⟨a1, a2, a3, a4, a5⟩, ⟨b1, b2, b3, b4⟩, ⟨c1, c2, c3⟩⟩ := h
  exact ⟨⟨a1.warmF hW, a2.warmF hW, a3.warmF hW, a4.warmF hW, a5.warmF hW⟩, ⟨b1.warmF hW, b2.warmF hW, b3.warmM hW, b4.warmM hW⟩, ⟨c1.warmM hW, c2.warmM hW, c3.warmM hW⟩⟩
theorem Nst.same {u U : State} (e : u.vm = U.vm) (h : Nst u) : Nst U := by
  obtain ⟨⟨a1, a2, a3, a4, a5⟩, ⟨b1, b2, b3, b4⟩, ⟨c1, c2, c3⟩⟩ := h
  exact ⟨⟨va_Nw.same rfl e a1, va_Nw.same rfl e a2, va_Nw.same rfl e a3, va_Nw.same rfl e a4, va_Nw.same rfl e a5⟩, ⟨va_Nw.same rfl e b1, va_Nw.same rfl e b2, va_Nw.same rfl e b3, va_Nw.same rfl e b4⟩, ⟨va_Nw.same rfl e c1, va_Nw.same rfl e c2, va_Nw.same rfl e c3⟩⟩
abbrev tyl (cI cJ cZ : ClassId) : List (ClassId × FieldType) := [(cI, .int), (cJ, .long), (cZ, .boolean)]
/-- what a state has beside its cells -/
def Ev (D : va_G) (cI cJ cZ : ClassId) (U : State) : Prop := va_K D vwCl (tyl cI cJ cZ) U ∧ Nst U
theorem Ev.warm {D : va_G} {cI cJ cZ : ClassId} {s U : State} (hW : s.WarmedH U.vm) (h : Ev D cI cJ cZ s) : Ev D cI cJ cZ U := ⟨va_K.moved hW.alike h.1, h.2.warm hW⟩
theorem Ev.call {D : va_G} {cI cJ cZ : ClassId} {U : State} (g : JFrame) (mk : MethodId) (a : Array Value) (h : Ev D cI cJ cZ U) : Ev D cI cJ cZ (U.calling g mk a) := ⟨va_K.moved (u := U) (U := U.calling g mk a) (Vm.Alike.refl U.vm) h.1, Nst.same (u := U) (U := U.calling g mk a) rfl h.2⟩
/-- a contract's start: it only reads, or it may write its cells -/
def PcR (D : va_G) (cI cJ cZ : ClassId) (av : List Value) (wc : va_W) : Array Value → State → Prop := va_Pc av (fun U => va_P D vwCl wc U.heap ∧ Ev D cI cJ cZ U)
def PcM (D : va_G) (cI cJ cZ : ClassId) (av : List Value) (wc : va_W) (sz : Nat) : Array Value → State → Prop := va_Pc av (fun U => U.heap.size = sz ∧ va_P D vwCl wc U.heap ∧ Ev D cI cJ cZ U ∧ va_D (fun _ => True) wc)
/-- the world behind it -/
def Bm {S : Type} (D : va_G) (wc : va_W) (sz : Nat) (w1 : S → va_W) : S → State → Prop := fun u t => va_P D vwCl (w1 u) t.heap ∧ va_D (va_A wc sz) (w1 u)
theorem PcR_blind {D : va_G} {cI cJ cZ : ClassId} {av : List Value} {wc : va_W} : FrameBlind (PcR D cI cJ cZ av wc) := fun a U g mk q => ⟨q.1, q.2.1, q.2.2.call g mk a⟩
theorem PcM_blind {D : va_G} {cI cJ cZ : ClassId} {av : List Value} {wc : va_W} {sz : Nat} : FrameBlind (PcM D cI cJ cZ av wc sz) := fun a U g mk q => ⟨q.1, q.2.1, q.2.2.1, q.2.2.2.1.call g mk a, q.2.2.2.2⟩
section Rows
variable {p : Program} {l : Launch} {e : Env} {R : Room} {s : State} {m : MethodId} {args : Array Value} {below : List Frame} {meth : Method} {c : Code} {H : Heap} {locs : List Loc} {cells slots : Nat} {Q : State → Prop} {cc : ByteArray} {pc : Nat} {ls : Array Slot} {rest : List Value} {D : va_G} {cI cJ cZ : ClassId} {ws : va_W} {A : Nat → Prop} {H0 : Heap} {a : Nat}
-- loads
theorem r_nld (hexec : p.tables.exec = Jvm.exec) (hb : c.code = cc) (hE : Ev D cI cJ cZ s) (hP : va_P D vwCl ws H) (q0 : Nat) {n : Nat} {f : Nat → Nat} (ha : ws[q0]? = some (a, .inl (cI, n, .inl (nIf f)))) {k : Nat} (hk : k < n) (hn : n < 2 ^ 31) (hdg : decode cc pc = .ok (.iaload, 1))
    (kk : W p l e R s m args below meth c H locs cells slots Q (F0 m (pc + 1) ls (.int (nI (f k)) :: rest))) : W p l e R s m args below meth c H locs cells slots Q (F0 m pc ls (.int (nI k) :: .ref a :: rest)) := by
  refine va_iald hexec hb hE.1 hP q0 0 ha rfl (vp_in_nI hk hn) hdg ?_
  rw [nI_clamp (by omega)]
  exact kk
theorem r_old (hexec : p.tables.exec = Jvm.exec) (hb : c.code = cc) (hE : Ev D cI cJ cZ s) (hP : va_P D vwCl ws H) (q0 : Nat) {n : Nat} {f : Nat → Option Nat} (ha : ws[q0]? = some (a, .inl (cI, n, .inl (oIf f)))) {k : Nat} (hk : k < n) (hn : n < 2 ^ 31) (hdg : decode cc pc = .ok (.iaload, 1))
    (kk : W p l e R s m args below meth c H locs cells slots Q (F0 m (pc + 1) ls (.int (oI (f k)) :: rest))) : W p l e R s m args below meth c H locs cells slots Q (F0 m pc ls (.int (nI k) :: .ref a :: rest)) := by
  refine va_iald hexec hb hE.1 hP q0 0 ha rfl (vp_in_nI hk hn) hdg ?_
  rw [nI_clamp (by omega)]
  exact kk
theorem r_bld (hexec : p.tables.exec = Jvm.exec) (hb : c.code = cc) (hE : Ev D cI cJ cZ s) (hP : va_P D vwCl ws H) (q0 : Nat) {n : Nat} {f : Nat → Bool} (ha : ws[q0]? = some (a, .inl (cZ, n, .inl (bIf f)))) {k : Nat} (hk : k < n) (hn : n < 2 ^ 31) (hdg : decode cc pc = .ok (.baload, 1))
    (kk : W p l e R s m args below meth c H locs cells slots Q (F0 m (pc + 1) ls (.int (bI (f k)) :: rest))) : W p l e R s m args below meth c H locs cells slots Q (F0 m pc ls (.int (nI k) :: .ref a :: rest)) := by
  refine va_zald hexec hb hE.1 hP q0 2 ha rfl (vp_in_nI hk hn) hdg ?_
  rw [nI_clamp (by omega)]
  exact kk
theorem r_lld (hexec : p.tables.exec = Jvm.exec) (hb : c.code = cc) (hE : Ev D cI cJ cZ s) (hP : va_P D vwCl ws H) (q0 : Nat) {n : Nat} {f : Nat → Nat} (ha : ws[q0]? = some (a, .inl (cJ, n, .inr (.inl (lNf f))))) {k : Nat} (hk : k < n) (hn : n < 2 ^ 31) (hdg : decode cc pc = .ok (.laload, 1))
    (kk : W p l e R s m args below meth c H locs cells slots Q (F0 m (pc + 1) ls (.long (lN (f k)) :: rest))) : W p l e R s m args below meth c H locs cells slots Q (F0 m pc ls (.int (nI k) :: .ref a :: rest)) := by
  refine va_lald hexec hb hE.1 hP q0 1 ha rfl (vp_in_nI hk hn) hdg ?_
  rw [nI_clamp (by omega)]
  exact kk
-- stores
theorem r_nst (hexec : p.tables.exec = Jvm.exec) (hb : c.code = cc) (hE : Ev D cI cJ cZ s) (hP : va_P D vwCl ws H) (hD : va_D A ws) (hS : va_S A H0 H locs) (q0 : Nat) {n : Nat} {f : Nat → Nat} (ha : ws[q0]? = some (a, .inl (cI, n, .inl (nIf f)))) {k x : Nat} (hk : k < n) (hn : n < 2 ^ 31) (hdg : decode cc pc = .ok (.iastore, 1))
    (kk : ∀ (H1 : Heap) (locs1 : List Loc), va_P D vwCl (ws.set q0 (a, .inl (cI, n, .inl (nIf (va_up f k x))))) H1 → va_D A (ws.set q0 (a, .inl (cI, n, .inl (nIf (va_up f k x))))) → va_S A H0 H1 locs1 → W p l e R s m args below meth c H1 locs1 cells slots Q (F0 m (pc + 1) ls rest)) : W p l e R s m args below meth c H locs cells slots Q (F0 m pc ls (.int (nI x) :: .int (nI k) :: .ref a :: rest)) := by
  have e2 : upd (nIf f) (nI k).toNatClampNeg (nI x) = nIf (va_up f k x) := by
    funext j
    rw [nI_clamp (by omega)]
    show (if j = k then nI x else nI (f j)) = nI (if j = k then x else f j)
    split <;> rfl
  refine va_iast hexec hb hE.1 hP hD hS q0 0 ha rfl (vp_in_nI hk hn) hdg (fun H1 l1 h1 h2 h3 => ?_)
  rw [e2] at h1 h2
  exact kk H1 l1 h1 h2 h3
theorem r_ost (hexec : p.tables.exec = Jvm.exec) (hb : c.code = cc) (hE : Ev D cI cJ cZ s) (hP : va_P D vwCl ws H) (hD : va_D A ws) (hS : va_S A H0 H locs) (q0 : Nat) {n : Nat} {f : Nat → Option Nat} (ha : ws[q0]? = some (a, .inl (cI, n, .inl (oIf f)))) {k : Nat} (x : Option Nat) {y : Int32} (hy : y = oI x) (hk : k < n) (hn : n < 2 ^ 31) (hdg : decode cc pc = .ok (.iastore, 1))
    (kk : ∀ (H1 : Heap) (locs1 : List Loc), va_P D vwCl (ws.set q0 (a, .inl (cI, n, .inl (oIf (va_up f k x))))) H1 → va_D A (ws.set q0 (a, .inl (cI, n, .inl (oIf (va_up f k x))))) → va_S A H0 H1 locs1 → W p l e R s m args below meth c H1 locs1 cells slots Q (F0 m (pc + 1) ls rest)) : W p l e R s m args below meth c H locs cells slots Q (F0 m pc ls (.int y :: .int (nI k) :: .ref a :: rest)) := by
  subst hy
  have e2 : upd (oIf f) (nI k).toNatClampNeg (oI x) = oIf (va_up f k x) := by
    funext j
    rw [nI_clamp (by omega)]
    show (if j = k then oI x else oI (f j)) = oI (if j = k then x else f j)
    split <;> rfl
  refine va_iast hexec hb hE.1 hP hD hS q0 0 ha rfl (vp_in_nI hk hn) hdg (fun H1 l1 h1 h2 h3 => ?_)
  rw [e2] at h1 h2
  exact kk H1 l1 h1 h2 h3
theorem r_bst (hexec : p.tables.exec = Jvm.exec) (hb : c.code = cc) (hE : Ev D cI cJ cZ s) (hP : va_P D vwCl ws H) (hD : va_D A ws) (hS : va_S A H0 H locs) (q0 : Nat) {n : Nat} {f : Nat → Bool} (ha : ws[q0]? = some (a, .inl (cZ, n, .inl (bIf f)))) {k : Nat} (x : Bool) {y : Int32} (hy : y = bI x) (hk : k < n) (hn : n < 2 ^ 31) (hdg : decode cc pc = .ok (.bastore, 1))
    (kk : ∀ (H1 : Heap) (locs1 : List Loc), va_P D vwCl (ws.set q0 (a, .inl (cZ, n, .inl (bIf (va_up f k x))))) H1 → va_D A (ws.set q0 (a, .inl (cZ, n, .inl (bIf (va_up f k x))))) → va_S A H0 H1 locs1 → W p l e R s m args below meth c H1 locs1 cells slots Q (F0 m (pc + 1) ls rest)) : W p l e R s m args below meth c H locs cells slots Q (F0 m pc ls (.int y :: .int (nI k) :: .ref a :: rest)) := by
  subst hy
  have e2 : upd (bIf f) (nI k).toNatClampNeg (vp_nar .boolean (bI x)) = bIf (va_up f k x) := by
    funext j
    rw [nI_clamp (by omega), bI_nar]
    show (if j = k then bI x else bI (f j)) = bI (if j = k then x else f j)
    split <;> rfl
  refine va_zast hexec hb hE.1 hP hD hS q0 2 ha rfl (vp_in_nI hk hn) hdg (fun H1 l1 h1 h2 h3 => ?_)
  rw [e2] at h1 h2
  exact kk H1 l1 h1 h2 h3
theorem r_lst (hexec : p.tables.exec = Jvm.exec) (hb : c.code = cc) (hE : Ev D cI cJ cZ s) (hP : va_P D vwCl ws H) (hD : va_D A ws) (hS : va_S A H0 H locs) (q0 : Nat) {n : Nat} {f : Nat → Nat} (ha : ws[q0]? = some (a, .inl (cJ, n, .inr (.inl (lNf f))))) {k x : Nat} (hk : k < n) (hn : n < 2 ^ 31) (hdg : decode cc pc = .ok (.lastore, 1))
    (kk : ∀ (H1 : Heap) (locs1 : List Loc), va_P D vwCl (ws.set q0 (a, .inl (cJ, n, .inr (.inl (lNf (va_up f k x)))))) H1 → va_D A (ws.set q0 (a, .inl (cJ, n, .inr (.inl (lNf (va_up f k x)))))) → va_S A H0 H1 locs1 → W p l e R s m args below meth c H1 locs1 cells slots Q (F0 m (pc + 1) ls rest)) : W p l e R s m args below meth c H locs cells slots Q (F0 m pc ls (.long (lN x) :: .int (nI k) :: .ref a :: rest)) := by
  have e2 : vp_updL (lNf f) (nI k).toNatClampNeg (lN x) = lNf (va_up f k x) := by
    funext j
    rw [nI_clamp (by omega)]
    show (if j = k then lN x else lN (f j)) = lN (if j = k then x else f j)
    split <;> rfl
  refine va_last hexec hb hE.1 hP hD hS q0 1 ha rfl (vp_in_nI hk hn) hdg (fun H1 l1 h1 h2 h3 => ?_)
  rw [e2] at h1 h2
  exact kk H1 l1 h1 h2 h3
-- arithmetic
theorem r_iadd (hexec : p.tables.exec = Jvm.exec) (hb : c.code = cc) {x y : Nat} (hdg : decode cc pc = .ok (.iadd, 1))
    (k : W p l e R s m args below meth c H locs cells slots Q (F0 m (pc + 1) ls (.int (nI (x + y)) :: rest))) : W p l e R s m args below meth c H locs cells slots Q (F0 m pc ls (.int (nI y) :: .int (nI x) :: rest)) := lv_iadd hexec hb hdg (by rw [nI_add]; exact k)
theorem r_isub (hexec : p.tables.exec = Jvm.exec) (hb : c.code = cc) {x y : Nat} (h : y ≤ x) (hdg : decode cc pc = .ok (.isub, 1))
    (k : W p l e R s m args below meth c H locs cells slots Q (F0 m (pc + 1) ls (.int (nI (x - y)) :: rest))) : W p l e R s m args below meth c H locs cells slots Q (F0 m pc ls (.int (nI y) :: .int (nI x) :: rest)) := lv_isub hexec hb hdg (by rw [pk_sub h]; exact k)
theorem r_imul (hexec : p.tables.exec = Jvm.exec) (hb : c.code = cc) {x y : Nat} (hdg : decode cc pc = .ok (.imul, 1))
    (k : W p l e R s m args below meth c H locs cells slots Q (F0 m (pc + 1) ls (.int (nI (x * y)) :: rest))) : W p l e R s m args below meth c H locs cells slots Q (F0 m pc ls (.int (nI y) :: .int (nI x) :: rest)) := lv_imul hexec hb hdg (by rw [pk_mul]; exact k)
theorem r_ladd (hexec : p.tables.exec = Jvm.exec) (hb : c.code = cc) {x y : Nat} (hdg : decode cc pc = .ok (.ladd, 1))
    (k : W p l e R s m args below meth c H locs cells slots Q (F0 m (pc + 1) ls (.long (lN (x + y)) :: rest))) : W p l e R s m args below meth c H locs cells slots Q (F0 m pc ls (.long (lN y) :: .long (lN x) :: rest)) := lv_ladd hexec hb hdg (by rw [lN_add]; exact k)
theorem r_i2l (hexec : p.tables.exec = Jvm.exec) (hb : c.code = cc) {x : Nat} (h : x < 2 ^ 31) (hdg : decode cc pc = .ok (.i2l, 1))
    (k : W p l e R s m args below meth c H locs cells slots Q (F0 m (pc + 1) ls (.long (lN x) :: rest))) : W p l e R s m args below meth c H locs cells slots Q (F0 m pc ls (.int (nI x) :: rest)) := lv_i2l hexec hb hdg (nI_l h) k
/-- the value on top by another name -/
theorem r_as {v w : Value} (h : v = w) (k : W p l e R s m args below meth c H locs cells slots Q (F0 m pc ls (w :: rest))) : W p l e R s m args below meth c H locs cells slots Q (F0 m pc ls (v :: rest)) := by rw [h]; exact k
theorem r_as2 {v w u : Value} (h : v = w) (k : W p l e R s m args below meth c H locs cells slots Q (F0 m pc ls (u :: w :: rest))) : W p l e R s m args below meth c H locs cells slots Q (F0 m pc ls (u :: v :: rest)) := by rw [h]; exact k
-- compares of numbers
theorem r_icmp_eq (hexec : p.tables.exec = Jvm.exec) (hb : c.code = cc) {x y : Nat} (hx : x < 2 ^ 31) (hy : y < 2 ^ 31) {off : Int} {tgt : Nat} (hdg : decode cc pc = .ok (.if_icmp .eq off, 3)) (ht : (pc : Int) + off = (tgt : Int)) (kt : x = y → W p l e R s m args below meth c H locs cells slots Q (F0 m tgt ls rest)) (kf : x ≠ y → W p l e R s m args below meth c H locs cells slots Q (F0 m (pc + 3) ls rest)) : W p l e R s m args below meth c H locs cells slots Q (F0 m pc ls (.int (nI y) :: .int (nI x) :: rest)) := lv_icmp_eq hexec hb hdg ht (fun h => kt ((nI_eq hx hy).mp h)) (fun h => kf (fun q => h ((nI_eq hx hy).mpr q)))
theorem r_icmp_ne (hexec : p.tables.exec = Jvm.exec) (hb : c.code = cc) {x y : Nat} (hx : x < 2 ^ 31) (hy : y < 2 ^ 31) {off : Int} {tgt : Nat} (hdg : decode cc pc = .ok (.if_icmp .ne off, 3)) (ht : (pc : Int) + off = (tgt : Int)) (kt : x ≠ y → W p l e R s m args below meth c H locs cells slots Q (F0 m tgt ls rest)) (kf : x = y → W p l e R s m args below meth c H locs cells slots Q (F0 m (pc + 3) ls rest)) : W p l e R s m args below meth c H locs cells slots Q (F0 m pc ls (.int (nI y) :: .int (nI x) :: rest)) := lv_icmp_ne hexec hb hdg ht (fun h => kt (fun q => h ((nI_eq hx hy).mpr q))) (fun h => kf ((nI_eq hx hy).mp h))
theorem r_icmp_ge (hexec : p.tables.exec = Jvm.exec) (hb : c.code = cc) {x y : Nat} (hx : x < 2 ^ 31) (hy : y < 2 ^ 31) {off : Int} {tgt : Nat} (hdg : decode cc pc = .ok (.if_icmp .ge off, 3)) (ht : (pc : Int) + off = (tgt : Int)) (kt : y ≤ x → W p l e R s m args below meth c H locs cells slots Q (F0 m tgt ls rest)) (kf : x < y → W p l e R s m args below meth c H locs cells slots Q (F0 m (pc + 3) ls rest)) : W p l e R s m args below meth c H locs cells slots Q (F0 m pc ls (.int (nI y) :: .int (nI x) :: rest)) := lv_icmp_ge hexec hb hdg ht (fun h => kt ((nI_leI hy hx).mp h)) (fun h => kf (by rcases Nat.lt_or_ge x y with q | q; exact q; exact absurd ((nI_leI hy hx).mpr q) h))
theorem r_icmp_lt (hexec : p.tables.exec = Jvm.exec) (hb : c.code = cc) {x y : Nat} (hx : x < 2 ^ 31) (hy : y < 2 ^ 31) {off : Int} {tgt : Nat} (hdg : decode cc pc = .ok (.if_icmp .lt off, 3)) (ht : (pc : Int) + off = (tgt : Int)) (kt : x < y → W p l e R s m args below meth c H locs cells slots Q (F0 m tgt ls rest)) (kf : y ≤ x → W p l e R s m args below meth c H locs cells slots Q (F0 m (pc + 3) ls rest)) : W p l e R s m args below meth c H locs cells slots Q (F0 m pc ls (.int (nI y) :: .int (nI x) :: rest)) := lv_icmp_lt hexec hb hdg ht (fun h => kt ((nI_ltI hx hy).mp h)) (fun h => kf (by rcases Nat.lt_or_ge x y with q | q; exact absurd ((nI_ltI hx hy).mpr q) h; exact q))
theorem r_icmp_le (hexec : p.tables.exec = Jvm.exec) (hb : c.code = cc) {x y : Nat} (hx : x < 2 ^ 31) (hy : y < 2 ^ 31) {off : Int} {tgt : Nat} (hdg : decode cc pc = .ok (.if_icmp .le off, 3)) (ht : (pc : Int) + off = (tgt : Int)) (kt : x ≤ y → W p l e R s m args below meth c H locs cells slots Q (F0 m tgt ls rest)) (kf : y < x → W p l e R s m args below meth c H locs cells slots Q (F0 m (pc + 3) ls rest)) : W p l e R s m args below meth c H locs cells slots Q (F0 m pc ls (.int (nI y) :: .int (nI x) :: rest)) := lv_icmp_le hexec hb hdg ht (fun h => kt ((nI_leI hx hy).mp h)) (fun h => kf (by rcases Nat.lt_or_ge y x with q | q; exact q; exact absurd ((nI_leI hx hy).mpr q) h))
theorem r_icmp_gt (hexec : p.tables.exec = Jvm.exec) (hb : c.code = cc) {x y : Nat} (hx : x < 2 ^ 31) (hy : y < 2 ^ 31) {off : Int} {tgt : Nat} (hdg : decode cc pc = .ok (.if_icmp .gt off, 3)) (ht : (pc : Int) + off = (tgt : Int)) (kt : y < x → W p l e R s m args below meth c H locs cells slots Q (F0 m tgt ls rest)) (kf : x ≤ y → W p l e R s m args below meth c H locs cells slots Q (F0 m (pc + 3) ls rest)) : W p l e R s m args below meth c H locs cells slots Q (F0 m pc ls (.int (nI y) :: .int (nI x) :: rest)) := lv_icmp_gt hexec hb hdg ht (fun h => kt ((nI_ltI hy hx).mp h)) (fun h => kf (by rcases Nat.lt_or_ge y x with q | q; exact absurd ((nI_ltI hy hx).mpr q) h; exact q))
/-- a number against 0 -/
theorem r_if_le (hexec : p.tables.exec = Jvm.exec) (hb : c.code = cc) {x : Nat} (hx : x < 2 ^ 31) {off : Int} {tgt : Nat} (hdg : decode cc pc = .ok (.ifCond .le off, 3)) (ht : (pc : Int) + off = (tgt : Int)) (kt : x = 0 → W p l e R s m args below meth c H locs cells slots Q (F0 m tgt ls rest)) (kf : 0 < x → W p l e R s m args below meth c H locs cells slots Q (F0 m (pc + 3) ls rest)) : W p l e R s m args below meth c H locs cells slots Q (F0 m pc ls (.int (nI x) :: rest)) := lv_if_le hexec hb hdg ht (fun h => kt (by rcases Nat.eq_zero_or_pos x with q | q; exact q; exact absurd h (nI_nle q hx))) (fun h => kf (by rcases Nat.eq_zero_or_pos x with q | q; exact absurd (by rw [q]; decide) h; exact q))
theorem r_if_ne (hexec : p.tables.exec = Jvm.exec) (hb : c.code = cc) {x : Nat} (hx : x < 2 ^ 31) {off : Int} {tgt : Nat} (hdg : decode cc pc = .ok (.ifCond .ne off, 3)) (ht : (pc : Int) + off = (tgt : Int)) (kt : 0 < x → W p l e R s m args below meth c H locs cells slots Q (F0 m tgt ls rest)) (kf : x = 0 → W p l e R s m args below meth c H locs cells slots Q (F0 m (pc + 3) ls rest)) : W p l e R s m args below meth c H locs cells slots Q (F0 m pc ls (.int (nI x) :: rest)) := lv_if_ne hexec hb hdg ht (fun h => kt (by rcases Nat.eq_zero_or_pos x with q | q; exact absurd (by rw [q]; rfl) h; exact q)) (fun h => kf (by rcases Nat.eq_zero_or_pos x with q | q; exact q; exact absurd h (nI_ne0 q hx)))
theorem r_if_eq (hexec : p.tables.exec = Jvm.exec) (hb : c.code = cc) {x : Nat} (hx : x < 2 ^ 31) {off : Int} {tgt : Nat} (hdg : decode cc pc = .ok (.ifCond .eq off, 3)) (ht : (pc : Int) + off = (tgt : Int)) (kt : x = 0 → W p l e R s m args below meth c H locs cells slots Q (F0 m tgt ls rest)) (kf : 0 < x → W p l e R s m args below meth c H locs cells slots Q (F0 m (pc + 3) ls rest)) : W p l e R s m args below meth c H locs cells slots Q (F0 m pc ls (.int (nI x) :: rest)) := lv_if_eq hexec hb hdg ht (fun h => kt (by rcases Nat.eq_zero_or_pos x with q | q; exact q; exact absurd h (nI_ne0 q hx))) (fun h => kf (by rcases Nat.eq_zero_or_pos x with q | q; exact absurd (by rw [q]; rfl) h; exact q))
-- truth values
theorem r_b_eq (hexec : p.tables.exec = Jvm.exec) (hb : c.code = cc) {b : Bool} {off : Int} {tgt : Nat} (hdg : decode cc pc = .ok (.ifCond .eq off, 3)) (ht : (pc : Int) + off = (tgt : Int)) (kt : b = false → W p l e R s m args below meth c H locs cells slots Q (F0 m tgt ls rest)) (kf : b = true → W p l e R s m args below meth c H locs cells slots Q (F0 m (pc + 3) ls rest)) : W p l e R s m args below meth c H locs cells slots Q (F0 m pc ls (.int (bI b) :: rest)) := lv_if_eq hexec hb hdg ht (fun h => kt (bI_0.mp h)) (fun h => kf (by cases b; exact absurd (bI_0.mpr rfl) h; rfl))
theorem r_b_ne (hexec : p.tables.exec = Jvm.exec) (hb : c.code = cc) {b : Bool} {off : Int} {tgt : Nat} (hdg : decode cc pc = .ok (.ifCond .ne off, 3)) (ht : (pc : Int) + off = (tgt : Int)) (kt : b = true → W p l e R s m args below meth c H locs cells slots Q (F0 m tgt ls rest)) (kf : b = false → W p l e R s m args below meth c H locs cells slots Q (F0 m (pc + 3) ls rest)) : W p l e R s m args below meth c H locs cells slots Q (F0 m pc ls (.int (bI b) :: rest)) := by
  refine lv_if_ne hexec hb hdg ht (fun h => kt ?_) (fun h => kf (bI_0.mp h))
  cases b
  · exact absurd (bI_0.mpr rfl) h
  · rfl
-- options: -1 is none
theorem r_o_eq (hexec : p.tables.exec = Jvm.exec) (hb : c.code = cc) {o q : Option Nat} {x y : Int32} (hx0 : x = oI o) (hy0 : y = oI q) (hx : ∀ j, o = some j → j < 2 ^ 31) (hy : ∀ j, q = some j → j < 2 ^ 31) {off : Int} {tgt : Nat} (hdg : decode cc pc = .ok (.if_icmp .eq off, 3)) (ht : (pc : Int) + off = (tgt : Int)) (kt : o = q → W p l e R s m args below meth c H locs cells slots Q (F0 m tgt ls rest)) (kf : o ≠ q → W p l e R s m args below meth c H locs cells slots Q (F0 m (pc + 3) ls rest)) : W p l e R s m args below meth c H locs cells slots Q (F0 m pc ls (.int y :: .int x :: rest)) := by
  subst hx0; subst hy0
  exact lv_icmp_eq hexec hb hdg ht (fun h => kt ((oI_inj hx hy).mp h)) (fun h => kf (fun z => h ((oI_inj hx hy).mpr z)))
theorem r_o_ne (hexec : p.tables.exec = Jvm.exec) (hb : c.code = cc) {o q : Option Nat} {x y : Int32} (hx0 : x = oI o) (hy0 : y = oI q) (hx : ∀ j, o = some j → j < 2 ^ 31) (hy : ∀ j, q = some j → j < 2 ^ 31) {off : Int} {tgt : Nat} (hdg : decode cc pc = .ok (.if_icmp .ne off, 3)) (ht : (pc : Int) + off = (tgt : Int)) (kt : o ≠ q → W p l e R s m args below meth c H locs cells slots Q (F0 m tgt ls rest)) (kf : o = q → W p l e R s m args below meth c H locs cells slots Q (F0 m (pc + 3) ls rest)) : W p l e R s m args below meth c H locs cells slots Q (F0 m pc ls (.int y :: .int x :: rest)) := by
  subst hx0; subst hy0
  exact lv_icmp_ne hexec hb hdg ht (fun h => kt (fun z => h ((oI_inj hx hy).mpr z))) (fun h => kf ((oI_inj hx hy).mp h))
theorem oI_lt0 {o : Option Nat} (ho : ∀ j, o = some j → j < 2 ^ 31) : oI o < 0 ↔ o = none := by
  cases o with
  | none => exact ⟨fun _ => rfl, fun _ => by decide⟩
  | some k => exact ⟨fun h => absurd h (nI_pos (ho k rfl)), fun h => by cases h⟩
theorem r_o_ge0 (hexec : p.tables.exec = Jvm.exec) (hb : c.code = cc) {o : Option Nat} (ho : ∀ j, o = some j → j < 2 ^ 31) {off : Int} {tgt : Nat} (hdg : decode cc pc = .ok (.ifCond .ge off, 3)) (ht : (pc : Int) + off = (tgt : Int)) (kt : o ≠ none → W p l e R s m args below meth c H locs cells slots Q (F0 m tgt ls rest)) (kf : o = none → W p l e R s m args below meth c H locs cells slots Q (F0 m (pc + 3) ls rest)) : W p l e R s m args below meth c H locs cells slots Q (F0 m pc ls (.int (oI o) :: rest)) := by
  refine lv_if_ge hexec hb hdg ht (fun h => kt (fun z => ?_)) (fun h => kf ?_)
  · rw [z] at h
    exact absurd h (by decide)
  · cases o with
    | none => rfl
    | some k => exact absurd (nI_pos' (ho k rfl)) h
theorem r_o_lt0 (hexec : p.tables.exec = Jvm.exec) (hb : c.code = cc) {o : Option Nat} (ho : ∀ j, o = some j → j < 2 ^ 31) {off : Int} {tgt : Nat} (hdg : decode cc pc = .ok (.ifCond .lt off, 3)) (ht : (pc : Int) + off = (tgt : Int)) (kt : o = none → W p l e R s m args below meth c H locs cells slots Q (F0 m tgt ls rest)) (kf : o ≠ none → W p l e R s m args below meth c H locs cells slots Q (F0 m (pc + 3) ls rest)) : W p l e R s m args below meth c H locs cells slots Q (F0 m pc ls (.int (oI o) :: rest)) := lv_if_lt hexec hb hdg ht (fun h => kt ((oI_lt0 ho).mp h)) (fun h => kf (fun z => h ((oI_lt0 ho).mpr z)))
-- long compares: lcmp and the branch behind it
theorem r_l_le (hexec : p.tables.exec = Jvm.exec) (hb : c.code = cc) {x y : Nat} (hx : x < 2 ^ 63) (hy : y < 2 ^ 63) {off : Int} {tgt : Nat} (hd1 : decode cc pc = .ok (.lcmp, 1)) (hdg : decode cc (pc + 1) = .ok (.ifCond .le off, 3)) (ht : ((pc + 1 : Nat) : Int) + off = (tgt : Int)) (kt : x ≤ y → W p l e R s m args below meth c H locs cells slots Q (F0 m tgt ls rest)) (kf : y < x → W p l e R s m args below meth c H locs cells slots Q (F0 m (pc + 1 + 3) ls rest)) : W p l e R s m args below meth c H locs cells slots Q (F0 m pc ls (.long (lN y) :: .long (lN x) :: rest)) := W.lcmp hexec hb hd1 (lv_if_le hexec hb hdg ht (fun h => kt ((pk_lLE hx hy).mp ((lg_cmp_le _ _).mp h))) (fun h => kf (by rcases Nat.lt_or_ge y x with q | q; exact q; exact absurd ((lg_cmp_le _ _).mpr ((pk_lLE hx hy).mpr q)) h)))
theorem r_l_ne (hexec : p.tables.exec = Jvm.exec) (hb : c.code = cc) {x y : Nat} (hx : x < 2 ^ 63) (hy : y < 2 ^ 63) {off : Int} {tgt : Nat} (hd1 : decode cc pc = .ok (.lcmp, 1)) (hdg : decode cc (pc + 1) = .ok (.ifCond .ne off, 3)) (ht : ((pc + 1 : Nat) : Int) + off = (tgt : Int)) (kt : x ≠ y → W p l e R s m args below meth c H locs cells slots Q (F0 m tgt ls rest)) (kf : x = y → W p l e R s m args below meth c H locs cells slots Q (F0 m (pc + 1 + 3) ls rest)) : W p l e R s m args below meth c H locs cells slots Q (F0 m pc ls (.long (lN y) :: .long (lN x) :: rest)) := W.lcmp hexec hb hd1 (lv_if_ne hexec hb hdg ht (fun h => kt (fun q => h ((lg_cmp_eq _ _).mpr ((pk_lEQ hx hy).mpr q)))) (fun h => kf ((pk_lEQ hx hy).mp ((lg_cmp_eq _ _).mp h))))
theorem r_l_eq (hexec : p.tables.exec = Jvm.exec) (hb : c.code = cc) {x y : Nat} (hx : x < 2 ^ 63) (hy : y < 2 ^ 63) {off : Int} {tgt : Nat} (hd1 : decode cc pc = .ok (.lcmp, 1)) (hdg : decode cc (pc + 1) = .ok (.ifCond .eq off, 3)) (ht : ((pc + 1 : Nat) : Int) + off = (tgt : Int)) (kt : x = y → W p l e R s m args below meth c H locs cells slots Q (F0 m tgt ls rest)) (kf : x ≠ y → W p l e R s m args below meth c H locs cells slots Q (F0 m (pc + 1 + 3) ls rest)) : W p l e R s m args below meth c H locs cells slots Q (F0 m pc ls (.long (lN y) :: .long (lN x) :: rest)) := W.lcmp hexec hb hd1 (lv_if_eq hexec hb hdg ht (fun h => kt ((pk_lEQ hx hy).mp ((lg_cmp_eq _ _).mp h))) (fun h => kf (fun q => h ((lg_cmp_eq _ _).mpr ((pk_lEQ hx hy).mpr q)))))
end Rows

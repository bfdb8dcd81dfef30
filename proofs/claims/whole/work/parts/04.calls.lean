/-! a contract's start, its ends, and a call as one row -/
section Starts
variable {l : Launch} {y : MethodName} {wsy ws' : List Cond} {cc : ByteArray} {maxL : Nat} {ret : Option FieldType} {rm : Room} {av : List Value} {wc : va_W} {D : va_G} {cI cJ cZ : ClassId} {Qc : Array Value → State → Outcome → State → Prop} {mc ms : Nat} {free : Addr → Prop}
theorem startR (hy : plainName y.cls = true) (hw : wsy = .code y cc maxL ret :: ws') (hle : (lg_sl av).length ≤ maxL)
    (body : ∀ (p : Program) (e : Env) (s : State) (m : MethodId) (below : List Frame) (meth : Method) (c : Code) (ls : Array Slot), p.tables.exec = Jvm.exec → c.code = cc → meth.sig.returnType = ret → c.maxLocals = maxL → s.vm.findClass y.cls = some m.cls → (∀ w ∈ wsy, w.before av.toArray s = true) → meth.locks = false → Ev D cI cJ cZ s → va_P D vwCl wc s.heap → lv_has ls maxL (lv_args 0 av) → W p l e rm s m av.toArray below meth c s.heap [] 0 0 (MQ below Qc av.toArray s mc ms free) (F0 m 0 ls [])) :
    Met l y wsy rm (PcR D cI cJ cZ av wc) Qc mc ms free := by
  refine Met.ofW (cc := cc) (maxL := maxL) (ret := ret) hy hw ?_
  intro p e s m args below meth c s₁ B hml hv
  obtain ⟨rfl, hP, hE⟩ := hv
  have hl := lv_entry av (n := maxL) hle
  rw [lg_entry_eq]
  exact body p e s m below meth c _ B.exec B.bytes B.returns hml (findClass_of_methodNamed B.named) (atoms_spec (ws := wsy) B.pre) B.notSynchronized hE hP hl
theorem startM {sz : Nat} (hy : plainName y.cls = true) (hw : wsy = .code y cc maxL ret :: ws') (hle : (lg_sl av).length ≤ maxL)
    (body : ∀ (p : Program) (e : Env) (s : State) (m : MethodId) (below : List Frame) (meth : Method) (c : Code) (ls : Array Slot) (A : Nat → Prop), (∀ q, s.heap.size ≤ q → A q) → va_A wc sz = A → p.tables.exec = Jvm.exec → c.code = cc → meth.sig.returnType = ret → c.maxLocals = maxL → s.vm.findClass y.cls = some m.cls → (∀ w ∈ wsy, w.before av.toArray s = true) → meth.locks = false → meth.name = y.name → Ev D cI cJ cZ s → va_P D vwCl wc s.heap → va_D A wc → va_S A s.heap s.heap [] → lv_has ls maxL (lv_args 0 av) → W p l e rm s m av.toArray below meth c s.heap [] 0 0 (MQ below Qc av.toArray s mc ms free) (F0 m 0 ls [])) :
    Met l y wsy rm (PcM D cI cJ cZ av wc sz) Qc mc ms free := by
  refine Met.ofW (cc := cc) (maxL := maxL) (ret := ret) hy hw ?_
  intro p e s m args below meth c s₁ B hml hv
  obtain ⟨rfl, hsz, hP, hE, hD0⟩ := hv
  have hl := lv_entry av (n := maxL) hle
  rw [lg_entry_eq]
  exact body p e s m below meth c _ (va_A wc sz) (fun q h => Or.inr (by rw [← hsz]; exact h)) rfl B.exec B.bytes B.returns hml (findClass_of_methodNamed B.named) (atoms_spec (ws := wsy) B.pre) B.notSynchronized (name_of_methodNamed B.named B.method).1 hE hP (hD0.self (sz := sz)) va_S.rf hl
end Starts
section Ends
variable {p : Program} {l : Launch} {e : Env} {R : Room} {s : State} {m : MethodId} {args : Array Value} {below : List Frame} {meth : Method} {c : Code} {H : Heap} {locs : List Loc} {cells slots : Nat} {cc : ByteArray} {pc : Nat} {ls : Array Slot} {D : va_G} {wc : va_W} {sz : Nat} {S : Type} {w1 : S → va_W}
-- ends of a method that only reads: its heap is the start's
theorem e_i {post : Int32 → Prop} {v : Int32} (hx : p.tables.exec = Jvm.exec) (hb : c.code = cc) (hr : meth.sig.returnType = some .int) (hlocks : meth.locks = false) (hdg : decode cc pc = .ok (.ireturn, 1)) (h : post v) : W p l e R s m args below meth c s.heap [] cells slots (MQ below (vp_Si post) args s cells slots (fun _ => False)) (F0 m pc ls [.int v]) :=
  W.iret hx hb hr (fun t ht _ => ⟨v, rfl, h, ht⟩) (fun q h => by cases h) hdg hlocks
theorem e_z {post : Int32 → Prop} (b : Bool) {v : Int32} (hv : v = bI b) (hx : p.tables.exec = Jvm.exec) (hb : c.code = cc) (hr : meth.sig.returnType = some .boolean) (hlocks : meth.locks = false) (hdg : decode cc pc = .ok (.ireturn, 1)) (h : post (bI b)) : W p l e R s m args below meth c s.heap [] cells slots (MQ below (vp_Si post) args s cells slots (fun _ => False)) (F0 m pc ls [.int v]) := by
  subst hv
  exact W.zret hx hb hr (bI_narrow b) (fun t ht _ => ⟨bI b, rfl, h, ht⟩) (fun q h => by cases h) hdg hlocks
theorem e_l {post : Int64 → Prop} {v : Int64} (hx : p.tables.exec = Jvm.exec) (hb : c.code = cc) (hr : meth.sig.returnType = some .long) (hlocks : meth.locks = false) (hdg : decode cc pc = .ok (.lreturn, 1)) (h : post v) : W p l e R s m args below meth c s.heap [] cells slots (MQ below (vp_Sl post) args s cells slots (fun _ => False)) (F0 m pc ls [.long v]) :=
  W.lret hx hb hr (fun t ht _ => ⟨v, rfl, h, ht⟩) (fun q h => by cases h) hdg hlocks
-- ends of a method that may write
theorem e_mv {post : S → Prop} (u : S) {A : Nat → Prop} (hAe : va_A wc sz = A) (hx : p.tables.exec = Jvm.exec) (hb : c.code = cc) (hr : meth.sig.returnType = none) (hlocks : meth.locks = false) (hdg : decode cc pc = .ok (.return_, 1)) (hP : va_P D vwCl (w1 u) H) (hD : va_D A (w1 u)) (hS : va_S A s.heap H locs) (h : post u) : W p l e R s m args below meth c H locs cells slots (MQ below (va_Qv post (Bm D wc sz w1) (va_A wc sz)) args s cells slots (va_A wc sz)) (F0 m pc ls []) := by
  subst hAe
  exact W.vret hx hb hr (fun t ht _ => ⟨⟨u, rfl, h, by rw [ht]; exact hP, hD⟩, hS.F ht⟩) hS.2.2 hdg hlocks
theorem e_mi {post : Int32 → S → Prop} (u : S) {v : Int32} {A : Nat → Prop} (hAe : va_A wc sz = A) (hx : p.tables.exec = Jvm.exec) (hb : c.code = cc) (hr : meth.sig.returnType = some .int) (hlocks : meth.locks = false) (hdg : decode cc pc = .ok (.ireturn, 1)) (hP : va_P D vwCl (w1 u) H) (hD : va_D A (w1 u)) (hS : va_S A s.heap H locs) (h : post v u) : W p l e R s m args below meth c H locs cells slots (MQ below (va_Qi post (Bm D wc sz w1) (va_A wc sz)) args s cells slots (va_A wc sz)) (F0 m pc ls [.int v]) := by
  subst hAe
  exact W.iret hx hb hr (fun t ht _ => ⟨⟨v, u, rfl, h, by rw [ht]; exact hP, hD⟩, hS.F ht⟩) hS.2.2 hdg hlocks
theorem e_mz {post : Int32 → S → Prop} (u : S) (b : Bool) {v : Int32} (hv : v = bI b) {A : Nat → Prop} (hAe : va_A wc sz = A) (hx : p.tables.exec = Jvm.exec) (hb : c.code = cc) (hr : meth.sig.returnType = some .boolean) (hlocks : meth.locks = false) (hdg : decode cc pc = .ok (.ireturn, 1)) (hP : va_P D vwCl (w1 u) H) (hD : va_D A (w1 u)) (hS : va_S A s.heap H locs) (h : post (bI b) u) : W p l e R s m args below meth c H locs cells slots (MQ below (va_Qi post (Bm D wc sz w1) (va_A wc sz)) args s cells slots (va_A wc sz)) (F0 m pc ls [.int v]) := by
  subst hAe
  subst hv
  exact W.zret hx hb hr (bI_narrow b) (fun t ht _ => ⟨⟨bI b, u, rfl, h, by rw [ht]; exact hP, hD⟩, hS.F ht⟩) hS.2.2 hdg hlocks
theorem e_ml {post : Int64 → S → Prop} (u : S) {v : Int64} {A : Nat → Prop} (hAe : va_A wc sz = A) (hx : p.tables.exec = Jvm.exec) (hb : c.code = cc) (hr : meth.sig.returnType = some .long) (hlocks : meth.locks = false) (hdg : decode cc pc = .ok (.lreturn, 1)) (hP : va_P D vwCl (w1 u) H) (hD : va_D A (w1 u)) (hS : va_S A s.heap H locs) (h : post v u) : W p l e R s m args below meth c H locs cells slots (MQ below (va_Ql post (Bm D wc sz w1) (va_A wc sz)) args s cells slots (va_A wc sz)) (F0 m pc ls [.long v]) := by
  subst hAe
  exact W.lret hx hb hr (fun t ht _ => ⟨⟨v, u, rfl, h, by rw [ht]; exact hP, hD⟩, hS.F ht⟩) hS.2.2 hdg hlocks
end Ends
section Calls
variable {p : Program} {l : Launch} {e : Env} {R : Room} {s : State} {m : MethodId} {args : Array Value} {below : List Frame} {meth : Method} {c : Code} {H : Heap} {locs : List Loc} {cells slots : Nat} {Q : State → Prop} {cc bytes : ByteArray} {pc : Nat} {ls : Array Slot} {rest As : List Value} {D : va_G} {cI cJ cZ : ClassId} {ws wc wr : va_W} {A : Nat → Prop} {H0 : Heap} {b : Nat} {Ts wsy : List Cond} {own C : String} {index nL maxL n mc ms : Nat} {y : MethodName} {ret : Option FieldType} {rm : Room} {S : Type} {w1 : S → va_W}
theorem preR (hE : Ev D cI cJ cZ s) (hP : va_P D vwCl ws H) (ci q0 : Nat) {fs : List Value} {q : vw_C} (hc : vwCl[ci]? = some q) (hq : q.1 = C) (he : ws[q0]? = some (b, .inr (ci, fs))) (is : List Nat) (hs : is.filterMap (fun i => ws[i]?) = wc) : PreV s H C b (PcR D cI cJ cZ (.ref b :: As) wc) As := by
  subst hq
  exact ⟨PcR_blind, va_recv hE.1 hP hc he, fun U hU hW => ⟨rfl, by rw [hU]; exact hP.sub is hs, hE.warm hW⟩⟩
theorem preM (hE : Ev D cI cJ cZ s) (hP : va_P D vwCl ws H) (hD : va_D A ws) (ci q0 : Nat) {fs : List Value} {q : vw_C} (hc : vwCl[ci]? = some q) (hq : q.1 = C) (he : ws[q0]? = some (b, .inr (ci, fs))) (is : List Nat) (hn : va_nd is = true) (hs : is.filterMap (fun i => ws[i]?) = wc) (hs2 : is.map (fun i => ws[i]?) = wc.map some) : PreV s H C b (PcM D cI cJ cZ (.ref b :: As) wc H.size) As := by
  subst hq
  exact ⟨PcM_blind, va_recv hE.1 hP hc he, fun U hU hW => ⟨rfl, by rw [hU], by rw [hU]; exact hP.sub is hs, hE.warm hW, (hD.sub is hn hs2).weaken (fun _ _ _ _ => trivial)⟩⟩
/-- a call that only reads: an int (or a truth value) comes back -/
theorem callRi {post : Int32 → Prop} (SF : CallFix p m c cc nL s args Ts own) (hM : Met l y wsy rm (PcR D cI cJ cZ (.ref b :: As) wc) (vp_Si post) 0 0 (fun _ => False)) (cw : CallW R s args own C index y bytes maxL ret wsy rm 0 0 n) (hp : PreV s H C b (PcR D cI cJ cZ (.ref b :: As) wc) As)
    (hn : As.length = n) (hsize : ls.size = nL) (hW : (rest.map fun v => v.category).sum ≤ 8) (hdg : decode cc pc = .ok (.invokevirtual index, 3)) (hf : cells ≤ R.cells ∧ slots ≤ R.slots) {st : List Value} (hst : st = As.reverse ++ .ref b :: rest)
    (kk : ∀ r : Int32, post r → W p l e R s m args below meth c H locs cells slots Q (F0 m (pc + 3) ls (.int r :: rest))) : W p l e R s m args below meth c H locs cells slots Q (F0 m pc ls st) := by
  subst hst
  exact vp_callSi (W.runV (g := F0 m pc ls (As.reverse ++ .ref b :: rest)) (rest := rest) SF hM cw hp rfl hn hsize rfl (lv_room hW) hdg hf) kk
theorem callRl {post : Int64 → Prop} (SF : CallFix p m c cc nL s args Ts own) (hM : Met l y wsy rm (PcR D cI cJ cZ (.ref b :: As) wc) (vp_Sl post) 0 0 (fun _ => False)) (cw : CallW R s args own C index y bytes maxL ret wsy rm 0 0 n) (hp : PreV s H C b (PcR D cI cJ cZ (.ref b :: As) wc) As)
    (hn : As.length = n) (hsize : ls.size = nL) (hW : (rest.map fun v => v.category).sum ≤ 8) (hdg : decode cc pc = .ok (.invokevirtual index, 3)) (hf : cells ≤ R.cells ∧ slots ≤ R.slots) {st : List Value} (hst : st = As.reverse ++ .ref b :: rest)
    (kk : ∀ r : Int64, post r → W p l e R s m args below meth c H locs cells slots Q (F0 m (pc + 3) ls (.long r :: rest))) : W p l e R s m args below meth c H locs cells slots Q (F0 m pc ls st) := by
  subst hst
  exact vp_callSl (W.runV (g := F0 m pc ls (As.reverse ++ .ref b :: rest)) (rest := rest) SF hM cw hp rfl hn hsize rfl (lv_room hW) hdg hf) kk
theorem preRS (hE : Ev D cI cJ cZ s) (hP : va_P D vwCl ws H) : PreS s H (PcR D cI cJ cZ As []) As :=
  ⟨PcR_blind, fun U hU hW => ⟨rfl, by rw [hU]; exact hP.sub [] rfl, hE.warm hW⟩⟩
/-- a nest mate's static method that looks at its arguments alone -/
theorem callRSi {host : String} {post : Int32 → Prop} (SF : CallFix p m c cc nL s args Ts own) (hM : Met l y wsy rm (PcR D cI cJ cZ As []) (vp_Si post) 0 0 (fun _ => False)) (cw : va_CN R s args own index y host bytes maxL ret wsy rm 0 0 n ∧ (Cond.static y).before args s = true ∧ True) (hp : PreS s H (PcR D cI cJ cZ As []) As)
    (hn : As.length = n) (hsize : ls.size = nL) (hW : (rest.map fun v => v.category).sum ≤ 8) (hdg : decode cc pc = .ok (.invokestatic index, 3)) (hf : cells ≤ R.cells ∧ slots ≤ R.slots) {st : List Value} (hst : st = As.reverse ++ rest)
    (kk : ∀ r : Int32, post r → W p l e R s m args below meth c H locs cells slots Q (F0 m (pc + 3) ls (.int r :: rest))) : W p l e R s m args below meth c H locs cells slots Q (F0 m pc ls st) := by
  subst hst
  refine vp_callSi (post := post) (a := As.toArray) (rest := rest) (fun T hT X => ?_) kk
  obtain ⟨v, st₀, t, T', L, h0, X', hL, e1, e2, hq, h9⟩ := va_runSN (g := F0 m pc ls (As.reverse ++ rest)) (rest := rest) SF hM cw hp rfl hn hsize rfl (lv_room hW) hdg hf T hT X
  exact ⟨v, st₀, t, T', L, h0, X', hL, e1, hq, h9⟩
/-- a call that may write the cells wc; wr is the rest of the world, which stays -/
theorem callMv {post : S → Prop} (SF : CallFix p m c cc nL s args Ts own) (hM : Met l y wsy rm (PcM D cI cJ cZ (.ref b :: As) wc H.size) (va_Qv post (Bm D wc H.size w1) (va_A wc H.size)) mc ms (va_A wc H.size)) (cw : CallW R s args own C index y bytes maxL ret wsy rm mc ms n) (hp : PreV s H C b (PcM D cI cJ cZ (.ref b :: As) wc H.size) As)
    (hn : As.length = n) (hsize : ls.size = nL) (hW : (rest.map fun v => v.category).sum ≤ 8) (hdg : decode cc pc = .ok (.invokevirtual index, 3)) (hf : cells + mc ≤ R.cells ∧ slots + ms ≤ R.slots) {st : List Value} (hst : st = As.reverse ++ .ref b :: rest)
    (hP : va_P D vwCl ws H) (hD : va_D A ws) (hS : va_S A H0 H locs) (hA : ∀ q, H0.size ≤ q → A q) (isC isR : List Nat) (hC : isC.map (fun i => ws[i]?) = wc.map some) (hR : isR.map (fun i => ws[i]?) = wr.map some) (hnr : va_nd isR = true) (hdis : ∀ i ∈ isR, i ∉ isC)
    (kk : ∀ (u : S) (H1 : Heap) (locs1 : List Loc), post u → va_P D vwCl (wr ++ w1 u) H1 → va_D A (wr ++ w1 u) → va_S A H0 H1 locs1 → W p l e R s m args below meth c H1 locs1 (cells + mc) (slots + ms) Q (F0 m (pc + 3) ls rest)) : W p l e R s m args below meth c H locs cells slots Q (F0 m pc ls st) := by
  subst hst
  have hF := va_free hD hS hA isC hC
  refine va_callv (va_runV (g := F0 m pc ls (As.reverse ++ .ref b :: rest)) (rest := rest) SF hM cw hp rfl hn hsize rfl (lv_room hW) hdg hf) hS (fun q _ h => hF q h) hF (fun u t H1 locs1 ht hvm hw hB hz1 hk1 hS1 => ?_)
  obtain ⟨hP1, hD1⟩ := hB
  rw [ht] at hP1
  obtain ⟨hP2, hD2⟩ := va_join hP hD isC isR hC hR hnr hdis hk1 hF hP1 hD1
  exact kk u H1 locs1 hw hP2 hD2 hS1
theorem callMi {post : Int32 → S → Prop} (SF : CallFix p m c cc nL s args Ts own) (hM : Met l y wsy rm (PcM D cI cJ cZ (.ref b :: As) wc H.size) (va_Qi post (Bm D wc H.size w1) (va_A wc H.size)) mc ms (va_A wc H.size)) (cw : CallW R s args own C index y bytes maxL ret wsy rm mc ms n) (hp : PreV s H C b (PcM D cI cJ cZ (.ref b :: As) wc H.size) As)
    (hn : As.length = n) (hsize : ls.size = nL) (hW : (rest.map fun v => v.category).sum ≤ 8) (hdg : decode cc pc = .ok (.invokevirtual index, 3)) (hf : cells + mc ≤ R.cells ∧ slots + ms ≤ R.slots) {st : List Value} (hst : st = As.reverse ++ .ref b :: rest)
    (hP : va_P D vwCl ws H) (hD : va_D A ws) (hS : va_S A H0 H locs) (hA : ∀ q, H0.size ≤ q → A q) (isC isR : List Nat) (hC : isC.map (fun i => ws[i]?) = wc.map some) (hR : isR.map (fun i => ws[i]?) = wr.map some) (hnr : va_nd isR = true) (hdis : ∀ i ∈ isR, i ∉ isC)
    (kk : ∀ (r : Int32) (u : S) (H1 : Heap) (locs1 : List Loc), post r u → va_P D vwCl (wr ++ w1 u) H1 → va_D A (wr ++ w1 u) → va_S A H0 H1 locs1 → W p l e R s m args below meth c H1 locs1 (cells + mc) (slots + ms) Q (F0 m (pc + 3) ls (.int r :: rest))) : W p l e R s m args below meth c H locs cells slots Q (F0 m pc ls st) := by
  subst hst
  have hF := va_free hD hS hA isC hC
  refine va_calli (va_runV (g := F0 m pc ls (As.reverse ++ .ref b :: rest)) (rest := rest) SF hM cw hp rfl hn hsize rfl (lv_room hW) hdg hf) hS (fun q _ h => hF q h) hF (fun r u t H1 locs1 ht hvm hw hB hz1 hk1 hS1 => ?_)
  obtain ⟨hP1, hD1⟩ := hB
  rw [ht] at hP1
  obtain ⟨hP2, hD2⟩ := va_join hP hD isC isR hC hR hnr hdis hk1 hF hP1 hD1
  exact kk r u H1 locs1 hw hP2 hD2 hS1
theorem callMl {post : Int64 → S → Prop} (SF : CallFix p m c cc nL s args Ts own) (hM : Met l y wsy rm (PcM D cI cJ cZ (.ref b :: As) wc H.size) (va_Ql post (Bm D wc H.size w1) (va_A wc H.size)) mc ms (va_A wc H.size)) (cw : CallW R s args own C index y bytes maxL ret wsy rm mc ms n) (hp : PreV s H C b (PcM D cI cJ cZ (.ref b :: As) wc H.size) As)
    (hn : As.length = n) (hsize : ls.size = nL) (hW : (rest.map fun v => v.category).sum ≤ 8) (hdg : decode cc pc = .ok (.invokevirtual index, 3)) (hf : cells + mc ≤ R.cells ∧ slots + ms ≤ R.slots) {st : List Value} (hst : st = As.reverse ++ .ref b :: rest)
    (hP : va_P D vwCl ws H) (hD : va_D A ws) (hS : va_S A H0 H locs) (hA : ∀ q, H0.size ≤ q → A q) (isC isR : List Nat) (hC : isC.map (fun i => ws[i]?) = wc.map some) (hR : isR.map (fun i => ws[i]?) = wr.map some) (hnr : va_nd isR = true) (hdis : ∀ i ∈ isR, i ∉ isC)
    (kk : ∀ (r : Int64) (u : S) (H1 : Heap) (locs1 : List Loc), post r u → va_P D vwCl (wr ++ w1 u) H1 → va_D A (wr ++ w1 u) → va_S A H0 H1 locs1 → W p l e R s m args below meth c H1 locs1 (cells + mc) (slots + ms) Q (F0 m (pc + 3) ls (.long r :: rest))) : W p l e R s m args below meth c H locs cells slots Q (F0 m pc ls st) := by
  subst hst
  have hF := va_free hD hS hA isC hC
  refine va_calll (va_runV (g := F0 m pc ls (As.reverse ++ .ref b :: rest)) (rest := rest) SF hM cw hp rfl hn hsize rfl (lv_room hW) hdg hf) hS (fun q _ h => hF q h) hF (fun r u t H1 locs1 ht hvm hw hB hz1 hk1 hS1 => ?_)
  obtain ⟨hP1, hD1⟩ := hB
  rw [ht] at hP1
  obtain ⟨hP2, hD2⟩ := va_join hP hD isC isR hC hR hnr hdis hk1 hF hP1 hD1
  exact kk r u H1 locs1 hw hP2 hD2 hS1
end Calls

section CallI
variable {p : Program} {l : Launch} {e : Env} {R : Room} {s : State} {m : MethodId} {args : Array Value} {below : List Frame} {meth : Method} {c : Code} {H : Heap} {locs : List Loc} {cells slots : Nat} {Q : State → Prop} {cc : ByteArray} {pc : Nat} {ls : Array Slot} {rest st0 : List Value} {D : va_G} {cI cJ cZ : ClassId} {ws wc wr : va_W} {A : Nat → Prop} {H0 : Heap} {mc ms : Nat} {S : Type} {w1 : S → va_W} {a : Array Value}
theorem callRunV {post : S → Prop} (hr : va_Run p l e R s m args below meth c H locs cells slots mc ms (F0 m pc ls st0) rest (va_Qv post (Bm D wc H.size w1) (va_A wc H.size) a) (va_A wc H.size))
    (hP : va_P D vwCl ws H) (hD : va_D A ws) (hS : va_S A H0 H locs) (hA : ∀ q, H0.size ≤ q → A q) (isC isR : List Nat) (hC : isC.map (fun i => ws[i]?) = wc.map some) (hR : isR.map (fun i => ws[i]?) = wr.map some) (hnr : va_nd isR = true) (hdis : ∀ i ∈ isR, i ∉ isC)
    (kk : ∀ (u : S) (H1 : Heap) (locs1 : List Loc), post u → va_P D vwCl (wr ++ w1 u) H1 → va_D A (wr ++ w1 u) → va_S A H0 H1 locs1 → W p l e R s m args below meth c H1 locs1 (cells + mc) (slots + ms) Q (F0 m (pc + 3) ls rest)) : W p l e R s m args below meth c H locs cells slots Q (F0 m pc ls st0) := by
  have hF := va_free hD hS hA isC hC
  refine va_callv hr hS (fun q _ h => hF q h) hF (fun u t H1 locs1 ht hvm hw hB hz1 hk1 hS1 => ?_)
  obtain ⟨hP1, hD1⟩ := hB
  rw [ht] at hP1
  obtain ⟨hP2, hD2⟩ := va_join hP hD isC isR hC hR hnr hdis hk1 hF hP1 hD1
  exact kk u H1 locs1 hw hP2 hD2 hS1
theorem Ev.isI (hE : Ev D cI cJ cZ s) {tys : List (ClassId × FieldType)} {cA : ClassId} (hK : va_K D vwCl (tys ++ [(cA, .int)]) s) : cA = cI := by
  have h1 : s.vm.findClass ("[" ++ FieldType.int.toString) = some cI := (hE.1.2 0 (cI, .int) rfl).2
  have h2 : s.vm.findClass ("[" ++ FieldType.int.toString) = some cA := (hK.2 tys.length (cA, .int) (by simp)).2
  rw [h1] at h2
  exact (Option.some.inj h2).symm
theorem Ev.isJ (hE : Ev D cI cJ cZ s) {tys : List (ClassId × FieldType)} {cA : ClassId} (hK : va_K D vwCl (tys ++ [(cA, .long)]) s) : cA = cJ := by
  have h1 : s.vm.findClass ("[" ++ FieldType.long.toString) = some cJ := (hE.1.2 1 (cJ, .long) rfl).2
  have h2 : s.vm.findClass ("[" ++ FieldType.long.toString) = some cA := (hK.2 tys.length (cA, .long) (by simp)).2
  rw [h1] at h2
  exact (Option.some.inj h2).symm
theorem Ev.isZ (hE : Ev D cI cJ cZ s) {tys : List (ClassId × FieldType)} {cA : ClassId} (hK : va_K D vwCl (tys ++ [(cA, .boolean)]) s) : cA = cZ := by
  have h1 : s.vm.findClass ("[" ++ FieldType.boolean.toString) = some cZ := (hE.1.2 2 (cZ, .boolean) rfl).2
  have h2 : s.vm.findClass ("[" ++ FieldType.boolean.toString) = some cA := (hK.2 tys.length (cA, .boolean) (by simp)).2
  rw [h1] at h2
  exact (Option.some.inj h2).symm
theorem r_newI (hexec : p.tables.exec = Jvm.exec) (hb : c.code = cc) (harr : (Cond.arrayClass .int).before args s = true) (hE : Ev D cI cJ cZ s) (hP : va_P D vwCl ws H) (hD : va_D A ws) (hS : va_S A H0 H locs) (hA : ∀ q, H0.size ≤ q → A q) {N : Nat} (hN : N < 2 ^ 31) (hby : N * componentBytes .int ≤ 536870912) (hcells : cells + 1 ≤ R.cells) (hslots : slots + N ≤ R.slots) (hdg : decode cc pc = .ok (.newarray .int, 2)) (f : Nat → Int32) (hf : ∀ j, f j = 0)
    (kk : ∀ (q : Nat) (H1 : Heap), va_P D vwCl (ws ++ [(q, .inl (cI, N, .inl f))]) H1 → va_D A (ws ++ [(q, .inl (cI, N, .inl f))]) → va_S A H0 H1 locs → W p l e R s m args below meth c H1 locs (cells + 1) (slots + N) Q (F0 m (pc + 2) ls (.ref q :: rest))) : W p l e R s m args below meth c H locs cells slots Q (F0 m pc ls (.int (nI N) :: rest)) := by
  have e : f = fun _ => 0 := funext hf
  subst e
  refine va_newa (atype := .int) (ty := .int) hexec hb harr rfl hE.1 hP hD hS hA (N' := N) (a0 := (N, .inl (fun _ => 0))) (fun _ => rfl) (nI_pos hN) (nI_clamp hN) hby hcells hslots hdg (fun q cA H1 hK h1 h2 h3 => ?_)
  have e := hE.isI hK
  subst e
  exact kk q H1 h1 h2 h3
theorem r_newZ (hexec : p.tables.exec = Jvm.exec) (hb : c.code = cc) (harr : (Cond.arrayClass .boolean).before args s = true) (hE : Ev D cI cJ cZ s) (hP : va_P D vwCl ws H) (hD : va_D A ws) (hS : va_S A H0 H locs) (hA : ∀ q, H0.size ≤ q → A q) {N : Nat} (hN : N < 2 ^ 31) (hby : N * componentBytes .boolean ≤ 536870912) (hcells : cells + 1 ≤ R.cells) (hslots : slots + N ≤ R.slots) (hdg : decode cc pc = .ok (.newarray .boolean, 2)) (f : Nat → Int32) (hf : ∀ j, f j = 0)
    (kk : ∀ (q : Nat) (H1 : Heap), va_P D vwCl (ws ++ [(q, .inl (cZ, N, .inl f))]) H1 → va_D A (ws ++ [(q, .inl (cZ, N, .inl f))]) → va_S A H0 H1 locs → W p l e R s m args below meth c H1 locs (cells + 1) (slots + N) Q (F0 m (pc + 2) ls (.ref q :: rest))) : W p l e R s m args below meth c H locs cells slots Q (F0 m pc ls (.int (nI N) :: rest)) := by
  have e : f = fun _ => 0 := funext hf
  subst e
  refine va_newa (atype := .boolean) (ty := .boolean) hexec hb harr rfl hE.1 hP hD hS hA (N' := N) (a0 := (N, .inl (fun _ => 0))) (fun _ => rfl) (nI_pos hN) (nI_clamp hN) hby hcells hslots hdg (fun q cA H1 hK h1 h2 h3 => ?_)
  have e := hE.isZ hK
  subst e
  exact kk q H1 h1 h2 h3
theorem r_newJ (hexec : p.tables.exec = Jvm.exec) (hb : c.code = cc) (harr : (Cond.arrayClass .long).before args s = true) (hE : Ev D cI cJ cZ s) (hP : va_P D vwCl ws H) (hD : va_D A ws) (hS : va_S A H0 H locs) (hA : ∀ q, H0.size ≤ q → A q) {N : Nat} (hN : N < 2 ^ 31) (hby : N * componentBytes .long ≤ 536870912) (hcells : cells + 1 ≤ R.cells) (hslots : slots + N ≤ R.slots) (hdg : decode cc pc = .ok (.newarray .long, 2)) (f : Nat → Int64) (hf : ∀ j, f j = 0)
    (kk : ∀ (q : Nat) (H1 : Heap), va_P D vwCl (ws ++ [(q, .inl (cJ, N, .inr (.inl f)))]) H1 → va_D A (ws ++ [(q, .inl (cJ, N, .inr (.inl f)))]) → va_S A H0 H1 locs → W p l e R s m args below meth c H1 locs (cells + 1) (slots + N) Q (F0 m (pc + 2) ls (.ref q :: rest))) : W p l e R s m args below meth c H locs cells slots Q (F0 m pc ls (.int (nI N) :: rest)) := by
  have e : f = fun _ => 0 := funext hf
  subst e
  refine va_newa (atype := .long) (ty := .long) hexec hb harr rfl hE.1 hP hD hS hA (N' := N) (a0 := (N, .inr (.inl (fun _ => 0)))) (fun _ => rfl) (nI_pos hN) (nI_clamp hN) hby hcells hslots hdg (fun q cA H1 hK h1 h2 h3 => ?_)
  have e := hE.isJ hK
  subst e
  exact kk q H1 h1 h2 h3
end CallI
theorem sz_ok {y : Int32} (h1 : ¬ y < nI 1) (h2 : y ≤ nI 200) : ∃ m, 1 ≤ m ∧ m ≤ 200 ∧ y = nI m := by
  have h0 : ¬ y < 0 := by
    intro q
    apply h1
    rw [Int32.lt_iff_toInt_lt] at *
    have a1 : (0 : Int32).toInt = 0 := by decide
    have a2 : (nI 1).toInt = 1 := by decide
    omega
  obtain ⟨j, hj, rfl⟩ := nI_of2 (n := 200) (by decide) h0 h2
  exact ⟨j, by rcases Nat.eq_zero_or_pos j with q | q; exact absurd (by rw [q]; decide) h1; exact q, hj, rfl⟩

theorem fl_X3_count_16 : Cond.fieldLink RX3 16 "BlockRows" "ways" "LBlockRows$Ways;" ∈ wsX3_count := by decide +kernel
theorem in_X3_count_X3 : ∀ w ∈ wsX30, w ∈ wsX3_count := by decide +kernel
set_option maxHeartbeats 4000000 in
set_option maxRecDepth 100000 in
/-- BlockRows.count -/
theorem c_count (l : Launch) (D : va_G) (cI cJ cZ : ClassId) (x xh w g a b d aw hw cw n : Nat) (st : Bool) (wf wt wc wl_ kn : Nat) (fr tt ct : Nat → Nat) (fa : Nat → Bool) (hkn : kn ≤ 1000) (y1 y2 : Int32) : Met l yX3_count wsX3_count ({ frames := 2, cells := 0, slots := 0, locals := 46 }) (PcR D cI cJ cZ [.ref x, .int y1, .int y2] [(x, .inr (3, [.ref xh, .ref w, .ref g, .ref a, .ref b, .ref d, .long (lN aw), .long (lN hw), .long (lN cw), .int (nI n), .int (bI st)])), (w, .inr (2, [.ref wf, .ref wt, .ref wc, .ref wl_, .int (nI kn)])), (wf, .inl (cI, 1000, .inl (nIf fr))), (wt, .inl (cI, 1000, .inl (nIf tt))), (wc, .inl (cJ, 1000, .inr (.inl (lNf ct)))), (wl_, .inl (cZ, 1000, .inl (bIf fa)))]) (vp_Sl (fun r => ∃ o, Fnd fr tt kn y1 y2 o ∧ r = lN (ctO ct o))) 0 0 (fun _ => False) := by
  refine startR (cc := cX3_count) (maxL := 3) (ret := (some .long)) (by decide) rfl (Nat.le_of_ble_eq_true rfl) ?_
  intro p e s m below meth c ls hx hb hr hml hown hts hlocks hE hP hl
  have hl : lv_has ls 3 [(0, .ref x), (1, .int y1), (2, .int y2)] := hl
  refine lv_aload_n hx hb dX3_count_0 rfl (lv_at hl 0 rfl) ?_
  refine va_get (D := D) (ci := 3) (v := .ref w) (C := RX3) (T := TX3) (N := 11) hx hb hts in_X3_count_X3 hown hE.1 hP 0 rfl rfl 1 (by decide) (hts _ fl_X3_count_16) (fun _ h9 => h9) rfl dX3_count_1 ?_
  refine lv_iload_n hx hb dX3_count_4 rfl (lv_at hl 1 rfl) ?_
  refine lv_iload_n hx hb dX3_count_5 rfl (lv_at hl 2 rfl) ?_
  refine callRl (As := [.int y1, .int y2]) (rest := []) ⟨hx, hb, hml, hown, hts⟩ (c_told l D cI cJ cZ w wf wt wc wl_ kn fr tt ct fa hkn y1 y2) (cwV 2 hts gX3_count_X2_told rfl rfl rfl (by decide +kernel) ⟨Nat.le_of_ble_eq_true rfl, Nat.le_of_ble_eq_true rfl⟩) (preR hE hP 2 1 rfl rfl rfl [1, 2, 3, 4, 5] rfl) rfl hl.1 (Nat.le_of_ble_eq_true rfl) dX3_count_6 ⟨Nat.zero_le _, Nat.zero_le _⟩ rfl (fun r1 hr1 => ?_)
  exact e_l hx hb hr hlocks dX3_count_9 hr1

set_option maxHeartbeats 4000000 in
set_option maxRecDepth 100000 in
/-- BlockRows.size, refused -/
theorem c_sizeBad (l : Launch) (D : va_G) (cI cJ cZ : ClassId) (x xh w g a b d aw hw cw n : Nat) (st : Bool) (y : Int32) (hbad : ∀ m, 1 ≤ m → m ≤ 200 → y ≠ nI m) : Met l yX3_size wsX3_size ({ frames := 0, cells := 0, slots := 0, locals := 0 }) (PcR D cI cJ cZ [.ref x, .int y] [(x, .inr (3, [.ref xh, .ref w, .ref g, .ref a, .ref b, .ref d, .long (lN aw), .long (lN hw), .long (lN cw), .int (nI n), .int (bI st)]))]) (vp_Si (fun r => r = 0)) 0 0 (fun _ => False) := by
  refine startR (cc := cX3_size) (maxL := 3) (ret := (some .boolean)) (by decide) rfl (Nat.le_of_ble_eq_true rfl) ?_
  intro p e s m below meth c ls hx hb hr hml hown hts hlocks hE hP hl
  have hl : lv_has ls 3 [(0, .ref x), (1, .int y)] := hl
  refine lv_iload_n hx hb dX3_size_0 rfl (lv_at hl 1 rfl) ?_
  refine lv_iconst (v := nI 1) hx hb dX3_size_1 (by decide) ?_
  refine lv_icmp_lt (tgt := 12) hx hb dX3_size_2 (by decide) (fun c_2 => ?_) (fun c_2 => ?_)
  · skip
    refine lv_iconst (v := bI false) hx hb dX3_size_12 (by decide) ?_
    exact e_z false rfl hx hb hr hlocks dX3_size_13 rfl
  · skip
    refine lv_iload_n hx hb dX3_size_5 rfl (lv_at hl 1 rfl) ?_
    refine lv_sipush (v := nI 200) hx hb dX3_size_6 (by decide) ?_
    refine lv_icmp_le (tgt := 14) hx hb dX3_size_9 (by decide) (fun c_9 => ?_) (fun c_9 => ?_)
    · skip
      exact absurd (sz_ok c_2 c_9) (fun ⟨m, h1, h2, h3⟩ => hbad m h1 h2 h3)
    · skip
      refine lv_iconst (v := bI false) hx hb dX3_size_12 (by decide) ?_
      exact e_z false rfl hx hb hr hlocks dX3_size_13 rfl

theorem flm_X3_size_16 : Cond.fieldLink RX3 16 "BlockRows" "ways" "LBlockRows$Ways;" ∈ wsX3_size := by decide +kernel
theorem flm_X3_size_40 : Cond.fieldLink RX3 40 "BlockRows" "blocks" "I" ∈ wsX3_size := by decide +kernel
theorem flm_X3_size_44 : Cond.fieldLink RX3 44 "BlockRows" "stale" "Z" ∈ wsX3_size := by decide +kernel
theorem flm_X3_size_9 : Cond.fieldLink RX3 9 "BlockRows" "hot" "[Z" ∈ wsX3_size := by decide +kernel
theorem inm_X3_size_X3 : ∀ w ∈ wsX30, w ∈ wsX3_size := by decide +kernel
set_option maxHeartbeats 4000000 in
set_option maxRecDepth 100000 in
/-- BlockRows.size -/
theorem c_sizeOk (l : Launch) (D : va_G) (cI cJ cZ : ClassId) (x xh w g a b d aw hw cw n : Nat) (st : Bool) (wf wt wc wl_ kn : Nat) (fr tt ct : Nat → Nat) (fa : Nat → Bool) (hot : Nat → Bool) (sz m_ : Nat) (hm1 : 1 ≤ m_) (hm2 : m_ ≤ 200) : Met l yX3_size wsX3_size ({ frames := 1, cells := 0, slots := 0, locals := 20 }) (PcM D cI cJ cZ [.ref x, .int (nI m_)] [(x, .inr (3, [.ref xh, .ref w, .ref g, .ref a, .ref b, .ref d, .long (lN aw), .long (lN hw), .long (lN cw), .int (nI n), .int (bI st)])), (xh, .inl (cZ, 200, .inl (bIf hot))), (w, .inr (2, [.ref wf, .ref wt, .ref wc, .ref wl_, .int (nI kn)])), (wf, .inl (cI, 1000, .inl (nIf fr))), (wt, .inl (cI, 1000, .inl (nIf tt))), (wc, .inl (cJ, 1000, .inr (.inl (lNf ct)))), (wl_, .inl (cZ, 1000, .inl (bIf fa)))] sz) (va_Qi (fun r (_ : Unit) => r = 1) (Bm D [(x, .inr (3, [.ref xh, .ref w, .ref g, .ref a, .ref b, .ref d, .long (lN aw), .long (lN hw), .long (lN cw), .int (nI n), .int (bI st)])), (xh, .inl (cZ, 200, .inl (bIf hot))), (w, .inr (2, [.ref wf, .ref wt, .ref wc, .ref wl_, .int (nI kn)])), (wf, .inl (cI, 1000, .inl (nIf fr))), (wt, .inl (cI, 1000, .inl (nIf tt))), (wc, .inl (cJ, 1000, .inr (.inl (lNf ct)))), (wl_, .inl (cZ, 1000, .inl (bIf fa)))] sz (fun _ : Unit => [(x, .inr (3, [.ref xh, .ref w, .ref g, .ref a, .ref b, .ref d, .long (lN aw), .long (lN hw), .long (lN cw), .int (nI m_), .int (bI true)])), (xh, .inl (cZ, 200, .inl (bIf (fun _ => false)))), (w, .inr (2, [.ref wf, .ref wt, .ref wc, .ref wl_, .int (nI 0)])), (wf, .inl (cI, 1000, .inl (nIf fr))), (wt, .inl (cI, 1000, .inl (nIf tt))), (wc, .inl (cJ, 1000, .inr (.inl (lNf ct)))), (wl_, .inl (cZ, 1000, .inl (bIf fa)))])) (va_A [(x, .inr (3, [.ref xh, .ref w, .ref g, .ref a, .ref b, .ref d, .long (lN aw), .long (lN hw), .long (lN cw), .int (nI n), .int (bI st)])), (xh, .inl (cZ, 200, .inl (bIf hot))), (w, .inr (2, [.ref wf, .ref wt, .ref wc, .ref wl_, .int (nI kn)])), (wf, .inl (cI, 1000, .inl (nIf fr))), (wt, .inl (cI, 1000, .inl (nIf tt))), (wc, .inl (cJ, 1000, .inr (.inl (lNf ct)))), (wl_, .inl (cZ, 1000, .inl (bIf fa)))] sz)) 0 0 (va_A [(x, .inr (3, [.ref xh, .ref w, .ref g, .ref a, .ref b, .ref d, .long (lN aw), .long (lN hw), .long (lN cw), .int (nI n), .int (bI st)])), (xh, .inl (cZ, 200, .inl (bIf hot))), (w, .inr (2, [.ref wf, .ref wt, .ref wc, .ref wl_, .int (nI kn)])), (wf, .inl (cI, 1000, .inl (nIf fr))), (wt, .inl (cI, 1000, .inl (nIf tt))), (wc, .inl (cJ, 1000, .inr (.inl (lNf ct)))), (wl_, .inl (cZ, 1000, .inl (bIf fa)))] sz) := by
  refine startM (cc := cX3_size) (maxL := 3) (ret := (some .boolean)) (by decide) rfl (Nat.le_of_ble_eq_true rfl) ?_
  intro p e s m below meth c ls A hA hAe hx hb hr hml hown hts hlocks hin hE hP hD hS hl
  have hl : lv_has ls 3 [(0, .ref x), (1, .int (nI m_))] := hl
  refine lv_iload_n hx hb dX3_size_0 rfl (lv_at hl 1 rfl) ?_
  refine lv_iconst (v := nI 1) hx hb dX3_size_1 (by decide) ?_
  refine r_icmp_lt (tgt := 12) hx hb (x := m_) (y := 1) (by omega) (by omega) dX3_size_2 (by decide) (fun c_2 => ?_) (fun c_2 => ?_)
  · skip
    exact absurd c_2 (by omega)
  · skip
    refine lv_iload_n hx hb dX3_size_5 rfl (lv_at hl 1 rfl) ?_
    refine lv_sipush (v := nI 200) hx hb dX3_size_6 (by decide) ?_
    refine r_icmp_le (tgt := 14) hx hb (x := m_) (y := 200) (by omega) (by omega) dX3_size_9 (by decide) (fun c_9 => ?_) (fun c_9 => ?_)
    · skip
      refine lv_aload_n hx hb dX3_size_14 rfl (lv_at hl 0 rfl) ?_
      refine lv_iload_n hx hb dX3_size_15 rfl (lv_at hl 1 rfl) ?_
      refine va_put (D := D) (ci := 3) (v := .int (nI m_)) (ty := .int) (C := RX3) (T := TX3) (N := 11) hx hb hts inm_X3_size_X3 tyX3 tyX3_ok nmX3 hown hE.1 hP hD hS 0 rfl rfl 9 (by decide) (hts _ flm_X3_size_40) (fun _ h9 => h9) rfl (by decide +kernel) rfl rfl (Nat.le_of_ble_eq_true rfl) dX3_size_16 (fun H locs hP hD hS => ?_)
      have hP : va_P D vwCl [(x, .inr (3, [.ref xh, .ref w, .ref g, .ref a, .ref b, .ref d, .long (lN aw), .long (lN hw), .long (lN cw), .int (nI m_), .int (bI st)])), (xh, .inl (cZ, 200, .inl (bIf hot))), (w, .inr (2, [.ref wf, .ref wt, .ref wc, .ref wl_, .int (nI kn)])), (wf, .inl (cI, 1000, .inl (nIf fr))), (wt, .inl (cI, 1000, .inl (nIf tt))), (wc, .inl (cJ, 1000, .inr (.inl (lNf ct)))), (wl_, .inl (cZ, 1000, .inl (bIf fa)))] H := hP
      have hD : va_D A [(x, .inr (3, [.ref xh, .ref w, .ref g, .ref a, .ref b, .ref d, .long (lN aw), .long (lN hw), .long (lN cw), .int (nI m_), .int (bI st)])), (xh, .inl (cZ, 200, .inl (bIf hot))), (w, .inr (2, [.ref wf, .ref wt, .ref wc, .ref wl_, .int (nI kn)])), (wf, .inl (cI, 1000, .inl (nIf fr))), (wt, .inl (cI, 1000, .inl (nIf tt))), (wc, .inl (cJ, 1000, .inr (.inl (lNf ct)))), (wl_, .inl (cZ, 1000, .inl (bIf fa)))] := hD
      refine lv_iconst (v := nI 0) hx hb dX3_size_19 (by decide) ?_
      refine lv_istore_n (lv' := [(2, .int (nI 0)), (0, .ref x), (1, .int (nI m_))]) hx hb dX3_size_20 rfl hl (by decide) rfl (fun ls hl => ?_)
      refine r_loop (σ := Nat × (Nat → Bool)) (fun z0 => 200 - z0.1) (fun z0 H locs ls => (z0.1 ≤ 200 ∧ ∀ j, j < z0.1 → z0.2 j = false) ∧ va_P D vwCl [(x, .inr (3, [.ref xh, .ref w, .ref g, .ref a, .ref b, .ref d, .long (lN aw), .long (lN hw), .long (lN cw), .int (nI m_), .int (bI st)])), (xh, .inl (cZ, 200, .inl (bIf z0.2))), (w, .inr (2, [.ref wf, .ref wt, .ref wc, .ref wl_, .int (nI kn)])), (wf, .inl (cI, 1000, .inl (nIf fr))), (wt, .inl (cI, 1000, .inl (nIf tt))), (wc, .inl (cJ, 1000, .inr (.inl (lNf ct)))), (wl_, .inl (cZ, 1000, .inl (bIf fa)))] H ∧ va_D A [(x, .inr (3, [.ref xh, .ref w, .ref g, .ref a, .ref b, .ref d, .long (lN aw), .long (lN hw), .long (lN cw), .int (nI m_), .int (bI st)])), (xh, .inl (cZ, 200, .inl (bIf z0.2))), (w, .inr (2, [.ref wf, .ref wt, .ref wc, .ref wl_, .int (nI kn)])), (wf, .inl (cI, 1000, .inl (nIf fr))), (wt, .inl (cI, 1000, .inl (nIf tt))), (wc, .inl (cJ, 1000, .inr (.inl (lNf ct)))), (wl_, .inl (cZ, 1000, .inl (bIf fa)))] ∧ va_S A s.heap H locs ∧ lv_has ls 3 [(0, .ref x), (2, .int (nI z0.1))]) ?_ (0, hot) ⟨⟨by omega, fun j hj => by omega⟩, hP.sub [0, 1, 2, 3, 4, 5, 6] rfl, hD.sub [0, 1, 2, 3, 4, 5, 6] (by decide) rfl, hS, lv_sub hl [1, 0] rfl⟩
      rintro ⟨k, f⟩ H locs ls ⟨hi_21, hP, hD, hS, hl⟩ ih_21
      have hi_21 : k ≤ 200 ∧ ∀ j, j < k → f j = false := hi_21
      have hP : va_P D vwCl [(x, .inr (3, [.ref xh, .ref w, .ref g, .ref a, .ref b, .ref d, .long (lN aw), .long (lN hw), .long (lN cw), .int (nI m_), .int (bI st)])), (xh, .inl (cZ, 200, .inl (bIf f))), (w, .inr (2, [.ref wf, .ref wt, .ref wc, .ref wl_, .int (nI kn)])), (wf, .inl (cI, 1000, .inl (nIf fr))), (wt, .inl (cI, 1000, .inl (nIf tt))), (wc, .inl (cJ, 1000, .inr (.inl (lNf ct)))), (wl_, .inl (cZ, 1000, .inl (bIf fa)))] H := hP
      have hD : va_D A [(x, .inr (3, [.ref xh, .ref w, .ref g, .ref a, .ref b, .ref d, .long (lN aw), .long (lN hw), .long (lN cw), .int (nI m_), .int (bI st)])), (xh, .inl (cZ, 200, .inl (bIf f))), (w, .inr (2, [.ref wf, .ref wt, .ref wc, .ref wl_, .int (nI kn)])), (wf, .inl (cI, 1000, .inl (nIf fr))), (wt, .inl (cI, 1000, .inl (nIf tt))), (wc, .inl (cJ, 1000, .inr (.inl (lNf ct)))), (wl_, .inl (cZ, 1000, .inl (bIf fa)))] := hD
      have hl : lv_has ls 3 [(0, .ref x), (2, .int (nI k))] := hl
      obtain ⟨hi_a, hi_b⟩ := id hi_21
      refine lv_iload_n hx hb dX3_size_21 rfl (lv_at hl 1 rfl) ?_
      refine lv_sipush (v := nI 200) hx hb dX3_size_22 (by decide) ?_
      refine r_icmp_ge (tgt := 41) hx hb (x := k) (y := 200) (by omega) (by omega) dX3_size_25 (by decide) (fun c_25 => ?_) (fun c_25 => ?_)
      · skip
        have hP := P_extI hP 1 (bIf (fun _ => false)) rfl (fun j hj => congrArg bI (hi_b j (by omega)))
        have hD := D_ext (y := .inl (cZ, 200, .inl (bIf (fun _ => false)))) hD 1 rfl
        have hP : va_P D vwCl [(x, .inr (3, [.ref xh, .ref w, .ref g, .ref a, .ref b, .ref d, .long (lN aw), .long (lN hw), .long (lN cw), .int (nI m_), .int (bI st)])), (xh, .inl (cZ, 200, .inl (bIf (fun _ => false)))), (w, .inr (2, [.ref wf, .ref wt, .ref wc, .ref wl_, .int (nI kn)])), (wf, .inl (cI, 1000, .inl (nIf fr))), (wt, .inl (cI, 1000, .inl (nIf tt))), (wc, .inl (cJ, 1000, .inr (.inl (lNf ct)))), (wl_, .inl (cZ, 1000, .inl (bIf fa)))] H := hP
        have hD : va_D A [(x, .inr (3, [.ref xh, .ref w, .ref g, .ref a, .ref b, .ref d, .long (lN aw), .long (lN hw), .long (lN cw), .int (nI m_), .int (bI st)])), (xh, .inl (cZ, 200, .inl (bIf (fun _ => false)))), (w, .inr (2, [.ref wf, .ref wt, .ref wc, .ref wl_, .int (nI kn)])), (wf, .inl (cI, 1000, .inl (nIf fr))), (wt, .inl (cI, 1000, .inl (nIf tt))), (wc, .inl (cJ, 1000, .inr (.inl (lNf ct)))), (wl_, .inl (cZ, 1000, .inl (bIf fa)))] := hD
        refine lv_aload_n hx hb dX3_size_41 rfl (lv_at hl 0 rfl) ?_
        refine va_get (D := D) (ci := 3) (v := .ref w) (C := RX3) (T := TX3) (N := 11) hx hb hts inm_X3_size_X3 hown hE.1 hP 0 rfl rfl 1 (by decide) (hts _ flm_X3_size_16) (fun _ h9 => h9) rfl dX3_size_42 ?_
        refine callMv (As := []) (rest := []) (wr := [(x, .inr (3, [.ref xh, .ref w, .ref g, .ref a, .ref b, .ref d, .long (lN aw), .long (lN hw), .long (lN cw), .int (nI m_), .int (bI st)])), (xh, .inl (cZ, 200, .inl (bIf (fun _ => false))))]) ⟨hx, hb, hml, hown, hts⟩ (c_forget l D cI cJ cZ w wf wt wc wl_ kn fr tt ct fa _) (cwV 0 hts gX3_size_X2_forget rfl rfl rfl (by decide +kernel) ⟨Nat.le_of_ble_eq_true rfl, Nat.le_of_ble_eq_true rfl⟩) (preM hE hP hD 2 2 rfl rfl rfl [2, 3, 4, 5, 6] rfl rfl rfl) rfl hl.1 (Nat.le_of_ble_eq_true rfl) dX3_size_45 ⟨Nat.zero_le _, Nat.zero_le _⟩ rfl hP hD hS hA [2, 3, 4, 5, 6] [0, 1] rfl rfl (by decide) (by decide) (fun u_ H locs hu hP hD hS => ?_)
        have hP : va_P D vwCl [(x, .inr (3, [.ref xh, .ref w, .ref g, .ref a, .ref b, .ref d, .long (lN aw), .long (lN hw), .long (lN cw), .int (nI m_), .int (bI st)])), (xh, .inl (cZ, 200, .inl (bIf (fun _ => false)))), (w, .inr (2, [.ref wf, .ref wt, .ref wc, .ref wl_, .int (nI 0)])), (wf, .inl (cI, 1000, .inl (nIf fr))), (wt, .inl (cI, 1000, .inl (nIf tt))), (wc, .inl (cJ, 1000, .inr (.inl (lNf ct)))), (wl_, .inl (cZ, 1000, .inl (bIf fa)))] H := hP
        have hD : va_D A [(x, .inr (3, [.ref xh, .ref w, .ref g, .ref a, .ref b, .ref d, .long (lN aw), .long (lN hw), .long (lN cw), .int (nI m_), .int (bI st)])), (xh, .inl (cZ, 200, .inl (bIf (fun _ => false)))), (w, .inr (2, [.ref wf, .ref wt, .ref wc, .ref wl_, .int (nI 0)])), (wf, .inl (cI, 1000, .inl (nIf fr))), (wt, .inl (cI, 1000, .inl (nIf tt))), (wc, .inl (cJ, 1000, .inr (.inl (lNf ct)))), (wl_, .inl (cZ, 1000, .inl (bIf fa)))] := hD
        refine lv_aload_n hx hb dX3_size_48 rfl (lv_at hl 0 rfl) ?_
        refine lv_iconst (v := bI true) hx hb dX3_size_49 (by decide) ?_
        refine va_put (D := D) (ci := 3) (v := .int (bI true)) (ty := .boolean) (C := RX3) (T := TX3) (N := 11) hx hb hts inm_X3_size_X3 tyX3 tyX3_ok nmX3 hown hE.1 hP hD hS 0 rfl rfl 10 (by decide) (hts _ flm_X3_size_44) (fun _ h9 => h9) rfl (by decide +kernel) (bI_narrow _) (bI_fits _) (Nat.le_of_ble_eq_true rfl) dX3_size_50 (fun H locs hP hD hS => ?_)
        have hP : va_P D vwCl [(x, .inr (3, [.ref xh, .ref w, .ref g, .ref a, .ref b, .ref d, .long (lN aw), .long (lN hw), .long (lN cw), .int (nI m_), .int (bI true)])), (xh, .inl (cZ, 200, .inl (bIf (fun _ => false)))), (w, .inr (2, [.ref wf, .ref wt, .ref wc, .ref wl_, .int (nI 0)])), (wf, .inl (cI, 1000, .inl (nIf fr))), (wt, .inl (cI, 1000, .inl (nIf tt))), (wc, .inl (cJ, 1000, .inr (.inl (lNf ct)))), (wl_, .inl (cZ, 1000, .inl (bIf fa)))] H := hP
        have hD : va_D A [(x, .inr (3, [.ref xh, .ref w, .ref g, .ref a, .ref b, .ref d, .long (lN aw), .long (lN hw), .long (lN cw), .int (nI m_), .int (bI true)])), (xh, .inl (cZ, 200, .inl (bIf (fun _ => false)))), (w, .inr (2, [.ref wf, .ref wt, .ref wc, .ref wl_, .int (nI 0)])), (wf, .inl (cI, 1000, .inl (nIf fr))), (wt, .inl (cI, 1000, .inl (nIf tt))), (wc, .inl (cJ, 1000, .inr (.inl (lNf ct)))), (wl_, .inl (cZ, 1000, .inl (bIf fa)))] := hD
        refine lv_iconst (v := bI true) hx hb dX3_size_53 (by decide) ?_
        exact e_mz () true rfl hAe hx hb hr hlocks dX3_size_54 (hP.sub [0, 1, 2, 3, 4, 5, 6] rfl) (hD.sub [0, 1, 2, 3, 4, 5, 6] (by decide) rfl) hS rfl
      · skip
        refine lv_aload_n hx hb dX3_size_28 rfl (lv_at hl 0 rfl) ?_
        refine va_get (D := D) (ci := 3) (v := .ref xh) (C := RX3) (T := TX3) (N := 11) hx hb hts inm_X3_size_X3 hown hE.1 hP 0 rfl rfl 0 (by decide) (hts _ flm_X3_size_9) (fun _ h9 => h9) rfl dX3_size_29 ?_
        refine lv_iload_n hx hb dX3_size_32 rfl (lv_at hl 1 rfl) ?_
        refine lv_iconst (v := bI false) hx hb dX3_size_33 (by decide) ?_
        refine r_bst hx hb hE hP hD hS 1 rfl (k := k) false rfl (by omega) (by decide) dX3_size_34 (fun H locs hP hD hS => ?_)
        have hP : va_P D vwCl [(x, .inr (3, [.ref xh, .ref w, .ref g, .ref a, .ref b, .ref d, .long (lN aw), .long (lN hw), .long (lN cw), .int (nI m_), .int (bI st)])), (xh, .inl (cZ, 200, .inl (bIf (va_up f k false)))), (w, .inr (2, [.ref wf, .ref wt, .ref wc, .ref wl_, .int (nI kn)])), (wf, .inl (cI, 1000, .inl (nIf fr))), (wt, .inl (cI, 1000, .inl (nIf tt))), (wc, .inl (cJ, 1000, .inr (.inl (lNf ct)))), (wl_, .inl (cZ, 1000, .inl (bIf fa)))] H := hP
        have hD : va_D A [(x, .inr (3, [.ref xh, .ref w, .ref g, .ref a, .ref b, .ref d, .long (lN aw), .long (lN hw), .long (lN cw), .int (nI m_), .int (bI st)])), (xh, .inl (cZ, 200, .inl (bIf (va_up f k false)))), (w, .inr (2, [.ref wf, .ref wt, .ref wc, .ref wl_, .int (nI kn)])), (wf, .inl (cI, 1000, .inl (nIf fr))), (wt, .inl (cI, 1000, .inl (nIf tt))), (wc, .inl (cJ, 1000, .inr (.inl (lNf ct)))), (wl_, .inl (cZ, 1000, .inl (bIf fa)))] := hD
        refine lv_iinc (v := (nI (k + 1))) (lv' := [(2, .int (nI (k + 1))), (0, .ref x)]) hx hb dX3_size_35 hl (k := 1) rfl (nI_1 _) (by decide) rfl (fun ls hl => ?_)
        refine lv_goto (tgt := 21) hx hb dX3_size_38 (by decide) ?_
        exact ih_21 (k + 1, va_up f k false) _ _ _ ⟨(show (k + 1) ≤ 200 ∧ ∀ j, j < (k + 1) → (va_up f k false) j = false from ⟨by omega, lt_s (fun j hj => by rw [va_up_ne _ _ (by omega)]; exact hi_21.2 j hj) (by rw [va_up_self])⟩), hP.sub [0, 1, 2, 3, 4, 5, 6] rfl, hD.sub [0, 1, 2, 3, 4, 5, 6] (by decide) rfl, hS, lv_sub hl [1, 0] rfl⟩ (by show 200 - (k + 1) < 200 - k; omega)
    · skip
      exact absurd c_9 (by omega)

set_option maxHeartbeats 4000000 in
set_option maxRecDepth 100000 in
/-- BlockRows.heat, refused -/
theorem c_heatBad (l : Launch) (D : va_G) (cI cJ cZ : ClassId) (x xh w g a b d aw hw cw n : Nat) (st : Bool) (hn : n ≤ 200) (y : Int32) (fl : Bool) (hbad : isB n y = false) : Met l yX3_heat wsX3_heat ({ frames := 1, cells := 0, slots := 0, locals := 21 }) (PcR D cI cJ cZ [.ref x, .int y, .int (bI fl)] [(x, .inr (3, [.ref xh, .ref w, .ref g, .ref a, .ref b, .ref d, .long (lN aw), .long (lN hw), .long (lN cw), .int (nI n), .int (bI st)]))]) (vp_Si (fun r => r = 0)) 0 0 (fun _ => False) := by
  refine startR (cc := cX3_heat) (maxL := 3) (ret := (some .boolean)) (by decide) rfl (Nat.le_of_ble_eq_true rfl) ?_
  intro p e s m below meth c ls hx hb hr hml hown hts hlocks hE hP hl
  have hl : lv_has ls 3 [(0, .ref x), (1, .int y), (2, .int (bI fl))] := hl
  refine lv_aload_n hx hb dX3_heat_0 rfl (lv_at hl 0 rfl) ?_
  refine lv_iload_n hx hb dX3_heat_1 rfl (lv_at hl 1 rfl) ?_
  refine callRi (As := [.int y]) (rest := []) ⟨hx, hb, hml, hown, hts⟩ (c_isBlock l D cI cJ cZ x xh w g a b d aw hw cw n st hn y) (cwV 1 hts gX3_heat_X3_isBlock rfl rfl rfl (by decide +kernel) ⟨Nat.le_of_ble_eq_true rfl, Nat.le_of_ble_eq_true rfl⟩) (preR hE hP 3 0 rfl rfl rfl [0] rfl) rfl hl.1 (Nat.le_of_ble_eq_true rfl) dX3_heat_2 ⟨Nat.zero_le _, Nat.zero_le _⟩ rfl (fun r_2 hr_2 => ?_)
  subst hr_2
  refine r_b_ne (tgt := 10) hx hb dX3_heat_5 (by decide) (fun c_5 => ?_) (fun c_5 => ?_)
  · skip
    exact absurd c_5 (by rw [hbad]; decide)
  · skip
    refine lv_iconst (v := bI false) hx hb dX3_heat_8 (by decide) ?_
    exact e_z false rfl hx hb hr hlocks dX3_heat_9 rfl

theorem flm_X3_heat_44 : Cond.fieldLink RX3 44 "BlockRows" "stale" "Z" ∈ wsX3_heat := by decide +kernel
theorem flm_X3_heat_9 : Cond.fieldLink RX3 9 "BlockRows" "hot" "[Z" ∈ wsX3_heat := by decide +kernel
theorem inm_X3_heat_X3 : ∀ w ∈ wsX30, w ∈ wsX3_heat := by decide +kernel
set_option maxHeartbeats 4000000 in
set_option maxRecDepth 100000 in
/-- BlockRows.heat -/
theorem c_heatOk (l : Launch) (D : va_G) (cI cJ cZ : ClassId) (x xh w g a b d aw hw cw n : Nat) (st : Bool) (hot : Nat → Bool) (hn : n ≤ 200) (sz j : Nat) (fl : Bool) (hj : j < n) : Met l yX3_heat wsX3_heat ({ frames := 1, cells := 0, slots := 0, locals := 21 }) (PcM D cI cJ cZ [.ref x, .int (nI j), .int (bI fl)] [(x, .inr (3, [.ref xh, .ref w, .ref g, .ref a, .ref b, .ref d, .long (lN aw), .long (lN hw), .long (lN cw), .int (nI n), .int (bI st)])), (xh, .inl (cZ, 200, .inl (bIf hot)))] sz) (va_Qi (fun r (_ : Unit) => r = 1) (Bm D [(x, .inr (3, [.ref xh, .ref w, .ref g, .ref a, .ref b, .ref d, .long (lN aw), .long (lN hw), .long (lN cw), .int (nI n), .int (bI st)])), (xh, .inl (cZ, 200, .inl (bIf hot)))] sz (fun _ : Unit => [(x, .inr (3, [.ref xh, .ref w, .ref g, .ref a, .ref b, .ref d, .long (lN aw), .long (lN hw), .long (lN cw), .int (nI n), .int (bI true)])), (xh, .inl (cZ, 200, .inl (bIf (va_up hot j fl))))])) (va_A [(x, .inr (3, [.ref xh, .ref w, .ref g, .ref a, .ref b, .ref d, .long (lN aw), .long (lN hw), .long (lN cw), .int (nI n), .int (bI st)])), (xh, .inl (cZ, 200, .inl (bIf hot)))] sz)) 0 0 (va_A [(x, .inr (3, [.ref xh, .ref w, .ref g, .ref a, .ref b, .ref d, .long (lN aw), .long (lN hw), .long (lN cw), .int (nI n), .int (bI st)])), (xh, .inl (cZ, 200, .inl (bIf hot)))] sz) := by
  refine startM (cc := cX3_heat) (maxL := 3) (ret := (some .boolean)) (by decide) rfl (Nat.le_of_ble_eq_true rfl) ?_
  intro p e s m below meth c ls A hA hAe hx hb hr hml hown hts hlocks hin hE hP hD hS hl
  have hl : lv_has ls 3 [(0, .ref x), (1, .int (nI j)), (2, .int (bI fl))] := hl
  refine lv_aload_n hx hb dX3_heat_0 rfl (lv_at hl 0 rfl) ?_
  refine lv_iload_n hx hb dX3_heat_1 rfl (lv_at hl 1 rfl) ?_
  refine callRi (As := [.int (nI j)]) (rest := []) ⟨hx, hb, hml, hown, hts⟩ (c_isBlock l D cI cJ cZ x xh w g a b d aw hw cw n st hn (nI j)) (cwV 1 hts gX3_heat_X3_isBlock rfl rfl rfl (by decide +kernel) ⟨Nat.le_of_ble_eq_true rfl, Nat.le_of_ble_eq_true rfl⟩) (preR hE hP 3 0 rfl rfl rfl [0] rfl) rfl hl.1 (Nat.le_of_ble_eq_true rfl) dX3_heat_2 ⟨Nat.zero_le _, Nat.zero_le _⟩ rfl (fun r_2 hr_2 => ?_)
  subst hr_2
  refine r_b_ne (tgt := 10) hx hb dX3_heat_5 (by decide) (fun c_5 => ?_) (fun c_5 => ?_)
  · skip
    refine lv_aload_n hx hb dX3_heat_10 rfl (lv_at hl 0 rfl) ?_
    refine va_get (D := D) (ci := 3) (v := .ref xh) (C := RX3) (T := TX3) (N := 11) hx hb hts inm_X3_heat_X3 hown hE.1 hP 0 rfl rfl 0 (by decide) (hts _ flm_X3_heat_9) (fun _ h9 => h9) rfl dX3_heat_11 ?_
    refine lv_iload_n hx hb dX3_heat_14 rfl (lv_at hl 1 rfl) ?_
    refine lv_iload_n hx hb dX3_heat_15 rfl (lv_at hl 2 rfl) ?_
    refine r_bst hx hb hE hP hD hS 1 rfl (k := j) fl rfl (by omega) (by decide) dX3_heat_16 (fun H locs hP hD hS => ?_)
    have hP : va_P D vwCl [(x, .inr (3, [.ref xh, .ref w, .ref g, .ref a, .ref b, .ref d, .long (lN aw), .long (lN hw), .long (lN cw), .int (nI n), .int (bI st)])), (xh, .inl (cZ, 200, .inl (bIf (va_up hot j fl))))] H := hP
    have hD : va_D A [(x, .inr (3, [.ref xh, .ref w, .ref g, .ref a, .ref b, .ref d, .long (lN aw), .long (lN hw), .long (lN cw), .int (nI n), .int (bI st)])), (xh, .inl (cZ, 200, .inl (bIf (va_up hot j fl))))] := hD
    refine lv_aload_n hx hb dX3_heat_17 rfl (lv_at hl 0 rfl) ?_
    refine lv_iconst (v := bI true) hx hb dX3_heat_18 (by decide) ?_
    refine va_put (D := D) (ci := 3) (v := .int (bI true)) (ty := .boolean) (C := RX3) (T := TX3) (N := 11) hx hb hts inm_X3_heat_X3 tyX3 tyX3_ok nmX3 hown hE.1 hP hD hS 0 rfl rfl 10 (by decide) (hts _ flm_X3_heat_44) (fun _ h9 => h9) rfl (by decide +kernel) (bI_narrow _) (bI_fits _) (Nat.le_of_ble_eq_true rfl) dX3_heat_19 (fun H locs hP hD hS => ?_)
    have hP : va_P D vwCl [(x, .inr (3, [.ref xh, .ref w, .ref g, .ref a, .ref b, .ref d, .long (lN aw), .long (lN hw), .long (lN cw), .int (nI n), .int (bI true)])), (xh, .inl (cZ, 200, .inl (bIf (va_up hot j fl))))] H := hP
    have hD : va_D A [(x, .inr (3, [.ref xh, .ref w, .ref g, .ref a, .ref b, .ref d, .long (lN aw), .long (lN hw), .long (lN cw), .int (nI n), .int (bI true)])), (xh, .inl (cZ, 200, .inl (bIf (va_up hot j fl))))] := hD
    refine lv_iconst (v := bI true) hx hb dX3_heat_22 (by decide) ?_
    exact e_mz () true rfl hAe hx hb hr hlocks dX3_heat_23 hP hD hS rfl
  · skip
    exact absurd c_5 (by rw [isB_nI (by omega)]; simp; omega)

theorem wd_X3_way_c55 : Cond.constantLong RX3 55 (-1) ∈ wsX3_way := by decide +kernel
set_option maxHeartbeats 4000000 in
set_option maxRecDepth 100000 in
/-- BlockRows.way: no such blocks -/
theorem c_wayBad1 (l : Launch) (D : va_G) (cI cJ cZ : ClassId) (x xh w g a b d aw hw cw n : Nat) (st : Bool) (hn : n ≤ 200) (y1 y2 y3 : Int32) (fl : Bool) (hbad : (isB n y1 && isB n y2) = false) : Met l yX3_way wsX3_way ({ frames := 1, cells := 0, slots := 0, locals := 21 }) (PcR D cI cJ cZ [.ref x, .int y1, .int y2, .int y3, .int (bI fl)] [(x, .inr (3, [.ref xh, .ref w, .ref g, .ref a, .ref b, .ref d, .long (lN aw), .long (lN hw), .long (lN cw), .int (nI n), .int (bI st)]))]) (vp_Sl (fun r => r = -1)) 0 0 (fun _ => False) := by
  refine startR (cc := cX3_way) (maxL := 5) (ret := (some .long)) (by decide) rfl (Nat.le_of_ble_eq_true rfl) ?_
  intro p e s m below meth c ls hx hb hr hml hown hts hlocks hE hP hl
  have hl : lv_has ls 5 [(0, .ref x), (1, .int y1), (2, .int y2), (3, .int y3), (4, .int (bI fl))] := hl
  refine lv_aload_n hx hb dX3_way_0 rfl (lv_at hl 0 rfl) ?_
  refine lv_iload_n hx hb dX3_way_1 rfl (lv_at hl 1 rfl) ?_
  refine callRi (As := [.int y1]) (rest := []) ⟨hx, hb, hml, hown, hts⟩ (c_isBlock l D cI cJ cZ x xh w g a b d aw hw cw n st hn y1) (cwV 1 hts gX3_way_X3_isBlock rfl rfl rfl (by decide +kernel) ⟨Nat.le_of_ble_eq_true rfl, Nat.le_of_ble_eq_true rfl⟩) (preR hE hP 3 0 rfl rfl rfl [0] rfl) rfl hl.1 (Nat.le_of_ble_eq_true rfl) dX3_way_2 ⟨Nat.zero_le _, Nat.zero_le _⟩ rfl (fun r_2 hr_2 => ?_)
  subst hr_2
  refine r_b_eq (tgt := 16) hx hb dX3_way_5 (by decide) (fun c_5 => ?_) (fun c_5 => ?_)
  · skip
    refine lv_ldc2 (v := (-1)) hx hb hown (hts _ wd_X3_way_c55) dX3_way_16 ?_
    exact e_l hx hb hr hlocks dX3_way_19 rfl
  · skip
    refine lv_aload_n hx hb dX3_way_8 rfl (lv_at hl 0 rfl) ?_
    refine lv_iload_n hx hb dX3_way_9 rfl (lv_at hl 2 rfl) ?_
    refine callRi (As := [.int y2]) (rest := []) ⟨hx, hb, hml, hown, hts⟩ (c_isBlock l D cI cJ cZ x xh w g a b d aw hw cw n st hn y2) (cwV 1 hts gX3_way_X3_isBlock rfl rfl rfl (by decide +kernel) ⟨Nat.le_of_ble_eq_true rfl, Nat.le_of_ble_eq_true rfl⟩) (preR hE hP 3 0 rfl rfl rfl [0] rfl) rfl hl.1 (Nat.le_of_ble_eq_true rfl) dX3_way_10 ⟨Nat.zero_le _, Nat.zero_le _⟩ rfl (fun r_10 hr_10 => ?_)
    subst hr_10
    refine r_b_ne (tgt := 20) hx hb dX3_way_13 (by decide) (fun c_13 => ?_) (fun c_13 => ?_)
    · skip
      exact absurd hbad (by rw [c_5, c_13]; decide)
    · skip
      refine lv_ldc2 (v := (-1)) hx hb hown (hts _ wd_X3_way_c55) dX3_way_16 ?_
      exact e_l hx hb hr hlocks dX3_way_19 rfl

theorem wdb_X3_way_c57 : Cond.constant RX3 57 (1000000000) ∈ wsX3_way := by decide +kernel
theorem wdb_X3_way_c58 : Cond.constantLong RX3 58 (-2) ∈ wsX3_way := by decide +kernel
set_option maxHeartbeats 4000000 in
set_option maxRecDepth 100000 in
/-- BlockRows.way: no such count -/
theorem c_wayBad2 (l : Launch) (D : va_G) (cI cJ cZ : ClassId) (x xh w g a b d aw hw cw n : Nat) (st : Bool) (hn : n ≤ 200) (u v : Nat) (hu : u < n) (hv : v < n) (y3 : Int32) (fl : Bool) (hbad : ∀ m, m ≤ 1000000000 → y3 ≠ nI m) : Met l yX3_way wsX3_way ({ frames := 1, cells := 0, slots := 0, locals := 21 }) (PcR D cI cJ cZ [.ref x, .int (nI u), .int (nI v), .int y3, .int (bI fl)] [(x, .inr (3, [.ref xh, .ref w, .ref g, .ref a, .ref b, .ref d, .long (lN aw), .long (lN hw), .long (lN cw), .int (nI n), .int (bI st)]))]) (vp_Sl (fun r => r = -2)) 0 0 (fun _ => False) := by
  refine startR (cc := cX3_way) (maxL := 5) (ret := (some .long)) (by decide) rfl (Nat.le_of_ble_eq_true rfl) ?_
  intro p e s m below meth c ls hx hb hr hml hown hts hlocks hE hP hl
  have hl : lv_has ls 5 [(0, .ref x), (1, .int (nI u)), (2, .int (nI v)), (3, .int y3), (4, .int (bI fl))] := hl
  refine lv_aload_n hx hb dX3_way_0 rfl (lv_at hl 0 rfl) ?_
  refine lv_iload_n hx hb dX3_way_1 rfl (lv_at hl 1 rfl) ?_
  refine callRi (As := [.int (nI u)]) (rest := []) ⟨hx, hb, hml, hown, hts⟩ (c_isBlock l D cI cJ cZ x xh w g a b d aw hw cw n st hn (nI u)) (cwV 1 hts gX3_way_X3_isBlock rfl rfl rfl (by decide +kernel) ⟨Nat.le_of_ble_eq_true rfl, Nat.le_of_ble_eq_true rfl⟩) (preR hE hP 3 0 rfl rfl rfl [0] rfl) rfl hl.1 (Nat.le_of_ble_eq_true rfl) dX3_way_2 ⟨Nat.zero_le _, Nat.zero_le _⟩ rfl (fun r_2 hr_2 => ?_)
  subst hr_2
  refine r_b_eq (tgt := 16) hx hb dX3_way_5 (by decide) (fun c_5 => ?_) (fun c_5 => ?_)
  · skip
    exact absurd c_5 (by rw [isB_nI (by omega)]; simp; omega)
  · skip
    refine lv_aload_n hx hb dX3_way_8 rfl (lv_at hl 0 rfl) ?_
    refine lv_iload_n hx hb dX3_way_9 rfl (lv_at hl 2 rfl) ?_
    refine callRi (As := [.int (nI v)]) (rest := []) ⟨hx, hb, hml, hown, hts⟩ (c_isBlock l D cI cJ cZ x xh w g a b d aw hw cw n st hn (nI v)) (cwV 1 hts gX3_way_X3_isBlock rfl rfl rfl (by decide +kernel) ⟨Nat.le_of_ble_eq_true rfl, Nat.le_of_ble_eq_true rfl⟩) (preR hE hP 3 0 rfl rfl rfl [0] rfl) rfl hl.1 (Nat.le_of_ble_eq_true rfl) dX3_way_10 ⟨Nat.zero_le _, Nat.zero_le _⟩ rfl (fun r_10 hr_10 => ?_)
    subst hr_10
    refine r_b_ne (tgt := 20) hx hb dX3_way_13 (by decide) (fun c_13 => ?_) (fun c_13 => ?_)
    · skip
      refine lv_iload_n hx hb dX3_way_20 rfl (lv_at hl 3 rfl) ?_
      refine lv_if_lt (tgt := 30) hx hb dX3_way_21 (by decide) (fun c_21 => ?_) (fun c_21 => ?_)
      · skip
        refine lv_ldc2 (v := (-2)) hx hb hown (hts _ wdb_X3_way_c58) dX3_way_30 ?_
        exact e_l hx hb hr hlocks dX3_way_33 rfl
      · skip
        refine lv_iload_n hx hb dX3_way_24 rfl (lv_at hl 3 rfl) ?_
        refine lv_ldc (v := 1000000000) hx hb hown (hts _ wdb_X3_way_c57) dX3_way_25 ?_
        refine r_as (w := .int (nI 1000000000)) (by decide) ?_
        refine lv_icmp_le (tgt := 34) hx hb dX3_way_27 (by decide) (fun c_27 => ?_) (fun c_27 => ?_)
        · skip
          exact absurd (nI_of2 (n := 1000000000) (by decide) c_21 c_27) (fun ⟨m, h1, h2⟩ => hbad m h1 h2)
        · skip
          refine lv_ldc2 (v := (-2)) hx hb hown (hts _ wdb_X3_way_c58) dX3_way_30 ?_
          exact e_l hx hb hr hlocks dX3_way_33 rfl
    · skip
      exact absurd c_13 (by rw [isB_nI (by omega)]; simp; omega)

theorem flm_X3_way_16 : Cond.fieldLink RX3 16 "BlockRows" "ways" "LBlockRows$Ways;" ∈ wsX3_way := by decide +kernel
theorem flm_X3_way_44 : Cond.fieldLink RX3 44 "BlockRows" "stale" "Z" ∈ wsX3_way := by decide +kernel
theorem inm_X3_way_X3 : ∀ w ∈ wsX30, w ∈ wsX3_way := by decide +kernel
theorem wdm_X3_way_c57 : Cond.constant RX3 57 (1000000000) ∈ wsX3_way := by decide +kernel
set_option maxHeartbeats 4000000 in
set_option maxRecDepth 100000 in
/-- BlockRows.way -/
theorem c_wayOk (l : Launch) (D : va_G) (cI cJ cZ : ClassId) (x xh w g a b d aw hw cw n : Nat) (st : Bool) (wf wt wc wl_ kn : Nat) (fr tt ct : Nat → Nat) (fa : Nat → Bool) (hn : n ≤ 200) (hkn : kn ≤ 1000) (hB : WB fr tt ct) (hS0 : Srt kn (pk fr tt ct fa)) (hK0 : KdL (wl kn (pk fr tt ct fa))) (sz u v cn : Nat) (fl : Bool) (hu : u < n) (hv : v < n) (hcn : cn ≤ 1000000000) : Met l yX3_way wsX3_way ({ frames := 3, cells := 0, slots := 0, locals := 76 }) (PcM D cI cJ cZ [.ref x, .int (nI u), .int (nI v), .int (nI cn), .int (bI fl)] [(x, .inr (3, [.ref xh, .ref w, .ref g, .ref a, .ref b, .ref d, .long (lN aw), .long (lN hw), .long (lN cw), .int (nI n), .int (bI st)])), (w, .inr (2, [.ref wf, .ref wt, .ref wc, .ref wl_, .int (nI kn)])), (wf, .inl (cI, 1000, .inl (nIf fr))), (wt, .inl (cI, 1000, .inl (nIf tt))), (wc, .inl (cJ, 1000, .inr (.inl (lNf ct)))), (wl_, .inl (cZ, 1000, .inl (bIf fa)))] sz) (va_Ql (fun r (z : (Nat → Nat) × (Nat → Nat) × (Nat → Nat) × (Nat → Bool) × Nat) => TellPost (wl kn (pk fr tt ct fa)) u v cn fl r z.2.2.2.2 (pk z.1 z.2.1 z.2.2.1 z.2.2.2.1) ∧ WB z.1 z.2.1 z.2.2.1) (Bm D [(x, .inr (3, [.ref xh, .ref w, .ref g, .ref a, .ref b, .ref d, .long (lN aw), .long (lN hw), .long (lN cw), .int (nI n), .int (bI st)])), (w, .inr (2, [.ref wf, .ref wt, .ref wc, .ref wl_, .int (nI kn)])), (wf, .inl (cI, 1000, .inl (nIf fr))), (wt, .inl (cI, 1000, .inl (nIf tt))), (wc, .inl (cJ, 1000, .inr (.inl (lNf ct)))), (wl_, .inl (cZ, 1000, .inl (bIf fa)))] sz (fun z : (Nat → Nat) × (Nat → Nat) × (Nat → Nat) × (Nat → Bool) × Nat => [(x, .inr (3, [.ref xh, .ref w, .ref g, .ref a, .ref b, .ref d, .long (lN aw), .long (lN hw), .long (lN cw), .int (nI n), .int (bI true)])), (w, .inr (2, [.ref wf, .ref wt, .ref wc, .ref wl_, .int (nI z.2.2.2.2)])), (wf, .inl (cI, 1000, .inl (nIf z.1))), (wt, .inl (cI, 1000, .inl (nIf z.2.1))), (wc, .inl (cJ, 1000, .inr (.inl (lNf z.2.2.1)))), (wl_, .inl (cZ, 1000, .inl (bIf z.2.2.2.1)))])) (va_A [(x, .inr (3, [.ref xh, .ref w, .ref g, .ref a, .ref b, .ref d, .long (lN aw), .long (lN hw), .long (lN cw), .int (nI n), .int (bI st)])), (w, .inr (2, [.ref wf, .ref wt, .ref wc, .ref wl_, .int (nI kn)])), (wf, .inl (cI, 1000, .inl (nIf fr))), (wt, .inl (cI, 1000, .inl (nIf tt))), (wc, .inl (cJ, 1000, .inr (.inl (lNf ct)))), (wl_, .inl (cZ, 1000, .inl (bIf fa)))] sz)) 0 0 (va_A [(x, .inr (3, [.ref xh, .ref w, .ref g, .ref a, .ref b, .ref d, .long (lN aw), .long (lN hw), .long (lN cw), .int (nI n), .int (bI st)])), (w, .inr (2, [.ref wf, .ref wt, .ref wc, .ref wl_, .int (nI kn)])), (wf, .inl (cI, 1000, .inl (nIf fr))), (wt, .inl (cI, 1000, .inl (nIf tt))), (wc, .inl (cJ, 1000, .inr (.inl (lNf ct)))), (wl_, .inl (cZ, 1000, .inl (bIf fa)))] sz) := by
  refine startM (cc := cX3_way) (maxL := 5) (ret := (some .long)) (by decide) rfl (Nat.le_of_ble_eq_true rfl) ?_
  intro p e s m below meth c ls A hA hAe hx hb hr hml hown hts hlocks hin hE hP hD hS hl
  have hl : lv_has ls 5 [(0, .ref x), (1, .int (nI u)), (2, .int (nI v)), (3, .int (nI cn)), (4, .int (bI fl))] := hl
  refine lv_aload_n hx hb dX3_way_0 rfl (lv_at hl 0 rfl) ?_
  refine lv_iload_n hx hb dX3_way_1 rfl (lv_at hl 1 rfl) ?_
  refine callRi (As := [.int (nI u)]) (rest := []) ⟨hx, hb, hml, hown, hts⟩ (c_isBlock l D cI cJ cZ x xh w g a b d aw hw cw n st hn (nI u)) (cwV 1 hts gX3_way_X3_isBlock rfl rfl rfl (by decide +kernel) ⟨Nat.le_of_ble_eq_true rfl, Nat.le_of_ble_eq_true rfl⟩) (preR hE hP 3 0 rfl rfl rfl [0] rfl) rfl hl.1 (Nat.le_of_ble_eq_true rfl) dX3_way_2 ⟨Nat.zero_le _, Nat.zero_le _⟩ rfl (fun r_2 hr_2 => ?_)
  subst hr_2
  refine r_b_eq (tgt := 16) hx hb dX3_way_5 (by decide) (fun c_5 => ?_) (fun c_5 => ?_)
  · skip
    exact absurd c_5 (by rw [isB_nI (by omega)]; simp; omega)
  · skip
    refine lv_aload_n hx hb dX3_way_8 rfl (lv_at hl 0 rfl) ?_
    refine lv_iload_n hx hb dX3_way_9 rfl (lv_at hl 2 rfl) ?_
    refine callRi (As := [.int (nI v)]) (rest := []) ⟨hx, hb, hml, hown, hts⟩ (c_isBlock l D cI cJ cZ x xh w g a b d aw hw cw n st hn (nI v)) (cwV 1 hts gX3_way_X3_isBlock rfl rfl rfl (by decide +kernel) ⟨Nat.le_of_ble_eq_true rfl, Nat.le_of_ble_eq_true rfl⟩) (preR hE hP 3 0 rfl rfl rfl [0] rfl) rfl hl.1 (Nat.le_of_ble_eq_true rfl) dX3_way_10 ⟨Nat.zero_le _, Nat.zero_le _⟩ rfl (fun r_10 hr_10 => ?_)
    subst hr_10
    refine r_b_ne (tgt := 20) hx hb dX3_way_13 (by decide) (fun c_13 => ?_) (fun c_13 => ?_)
    · skip
      refine lv_iload_n hx hb dX3_way_20 rfl (lv_at hl 3 rfl) ?_
      refine lv_if_lt (tgt := 30) hx hb dX3_way_21 (by decide) (fun c_21 => ?_) (fun c_21 => ?_)
      · skip
        exact absurd c_21 (nI_pos (by omega))
      · skip
        refine lv_iload_n hx hb dX3_way_24 rfl (lv_at hl 3 rfl) ?_
        refine lv_ldc (v := 1000000000) hx hb hown (hts _ wdm_X3_way_c57) dX3_way_25 ?_
        refine r_as (w := .int (nI 1000000000)) (by decide) ?_
        refine r_icmp_le (tgt := 34) hx hb (x := cn) (y := 1000000000) (by omega) (by omega) dX3_way_27 (by decide) (fun c_27 => ?_) (fun c_27 => ?_)
        · skip
          refine lv_aload_n hx hb dX3_way_34 rfl (lv_at hl 0 rfl) ?_
          refine lv_iconst (v := bI true) hx hb dX3_way_35 (by decide) ?_
          refine va_put (D := D) (ci := 3) (v := .int (bI true)) (ty := .boolean) (C := RX3) (T := TX3) (N := 11) hx hb hts inm_X3_way_X3 tyX3 tyX3_ok nmX3 hown hE.1 hP hD hS 0 rfl rfl 10 (by decide) (hts _ flm_X3_way_44) (fun _ h9 => h9) rfl (by decide +kernel) (bI_narrow _) (bI_fits _) (Nat.le_of_ble_eq_true rfl) dX3_way_36 (fun H locs hP hD hS => ?_)
          have hP : va_P D vwCl [(x, .inr (3, [.ref xh, .ref w, .ref g, .ref a, .ref b, .ref d, .long (lN aw), .long (lN hw), .long (lN cw), .int (nI n), .int (bI true)])), (w, .inr (2, [.ref wf, .ref wt, .ref wc, .ref wl_, .int (nI kn)])), (wf, .inl (cI, 1000, .inl (nIf fr))), (wt, .inl (cI, 1000, .inl (nIf tt))), (wc, .inl (cJ, 1000, .inr (.inl (lNf ct)))), (wl_, .inl (cZ, 1000, .inl (bIf fa)))] H := hP
          have hD : va_D A [(x, .inr (3, [.ref xh, .ref w, .ref g, .ref a, .ref b, .ref d, .long (lN aw), .long (lN hw), .long (lN cw), .int (nI n), .int (bI true)])), (w, .inr (2, [.ref wf, .ref wt, .ref wc, .ref wl_, .int (nI kn)])), (wf, .inl (cI, 1000, .inl (nIf fr))), (wt, .inl (cI, 1000, .inl (nIf tt))), (wc, .inl (cJ, 1000, .inr (.inl (lNf ct)))), (wl_, .inl (cZ, 1000, .inl (bIf fa)))] := hD
          refine lv_aload_n hx hb dX3_way_39 rfl (lv_at hl 0 rfl) ?_
          refine va_get (D := D) (ci := 3) (v := .ref w) (C := RX3) (T := TX3) (N := 11) hx hb hts inm_X3_way_X3 hown hE.1 hP 0 rfl rfl 1 (by decide) (hts _ flm_X3_way_16) (fun _ h9 => h9) rfl dX3_way_40 ?_
          refine lv_iload_n hx hb dX3_way_43 rfl (lv_at hl 1 rfl) ?_
          refine lv_iload_n hx hb dX3_way_44 rfl (lv_at hl 2 rfl) ?_
          refine lv_iload_n hx hb dX3_way_45 rfl (lv_at hl 3 rfl) ?_
          refine lv_iload hx hb dX3_way_46 (lv_at hl 4 rfl) ?_
          refine callMl (As := [.int (nI u), .int (nI v), .int (nI cn), .int (bI fl)]) (rest := []) (wr := [(x, .inr (3, [.ref xh, .ref w, .ref g, .ref a, .ref b, .ref d, .long (lN aw), .long (lN hw), .long (lN cw), .int (nI n), .int (bI true)]))]) ⟨hx, hb, hml, hown, hts⟩ (c_tell l D cI cJ cZ w wf wt wc wl_ kn fr tt ct fa _ hkn hB hS0 hK0 u v cn fl (by omega) (by omega) hcn) (cwV 4 hts gX3_way_X2_tell rfl rfl rfl (by decide +kernel) ⟨Nat.le_of_ble_eq_true rfl, Nat.le_of_ble_eq_true rfl⟩) (preM hE hP hD 2 1 rfl rfl rfl [1, 2, 3, 4, 5] rfl rfl rfl) rfl hl.1 (Nat.le_of_ble_eq_true rfl) dX3_way_48 ⟨Nat.zero_le _, Nat.zero_le _⟩ rfl hP hD hS hA [1, 2, 3, 4, 5] [0] rfl rfl (by decide) (by decide) (fun r1 z H locs hu_ hP hD hS => ?_)
          have hP : va_P D vwCl [(x, .inr (3, [.ref xh, .ref w, .ref g, .ref a, .ref b, .ref d, .long (lN aw), .long (lN hw), .long (lN cw), .int (nI n), .int (bI true)])), (w, .inr (2, [.ref wf, .ref wt, .ref wc, .ref wl_, .int (nI z.2.2.2.2)])), (wf, .inl (cI, 1000, .inl (nIf z.1))), (wt, .inl (cI, 1000, .inl (nIf z.2.1))), (wc, .inl (cJ, 1000, .inr (.inl (lNf z.2.2.1)))), (wl_, .inl (cZ, 1000, .inl (bIf z.2.2.2.1)))] H := hP
          have hD : va_D A [(x, .inr (3, [.ref xh, .ref w, .ref g, .ref a, .ref b, .ref d, .long (lN aw), .long (lN hw), .long (lN cw), .int (nI n), .int (bI true)])), (w, .inr (2, [.ref wf, .ref wt, .ref wc, .ref wl_, .int (nI z.2.2.2.2)])), (wf, .inl (cI, 1000, .inl (nIf z.1))), (wt, .inl (cI, 1000, .inl (nIf z.2.1))), (wc, .inl (cJ, 1000, .inr (.inl (lNf z.2.2.1)))), (wl_, .inl (cZ, 1000, .inl (bIf z.2.2.2.1)))] := hD
          exact e_ml z hAe hx hb hr hlocks dX3_way_51 hP hD hS hu_
        · skip
          exact absurd c_27 (by omega)
    · skip
      exact absurd c_13 (by rw [isB_nI (by omega)]; simp; omega)

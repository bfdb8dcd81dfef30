set_option maxHeartbeats 4000000 in
set_option maxRecDepth 100000 in
/-- Arrays.fill -/
theorem c_fillI (l : Launch) (D : va_G) (cI cJ cZ : ClassId) (a n : Nat) (f : Nat → Int32) (x : Int32) (sz : Nat) (hn : n < 100000) : Met l yJ7_fill_53178 wsJ7_fill_53178 ({ frames := 0, cells := 0, slots := 0, locals := 0 }) (PcM D cI cJ cZ [.ref a, .int x] [(a, .inl (cI, n, .inl f))] sz) (va_Qv (fun _ : Unit => True) (Bm D [(a, .inl (cI, n, .inl f))] sz (fun _ : Unit => [(a, .inl (cI, n, .inl (fun _ => x)))])) (va_A [(a, .inl (cI, n, .inl f))] sz)) 0 0 (va_A [(a, .inl (cI, n, .inl f))] sz) := by
  refine startM (cc := cJ7_fill_53178) (maxL := 4) (ret := none) (by decide) rfl (Nat.le_of_ble_eq_true rfl) ?_
  intro p e s m below meth c ls A hA hAe hx hb hr hml hown hts hlocks hin hE hP hD hS hl
  have hl : lv_has ls 4 [(0, .ref a), (1, .int x)] := hl
  have hP : va_P D vwCl [(a, .inl (cI, n, .inl (fun j => if j < 0 then x else f j)))] s.heap := by rw [show (fun j => if j < 0 then x else f j) = f from funext fun j => if_neg (by omega)]; exact hP
  have hD : va_D A [(a, .inl (cI, n, .inl (fun j => if j < 0 then x else f j)))] := by rw [show (fun j => if j < 0 then x else f j) = f from funext fun j => if_neg (by omega)]; exact hD
  refine lv_iconst (v := nI 0) hx hb dJ7_fill_53178_0 (by decide) ?_
  refine lv_istore_n (lv' := [(2, .int (nI 0)), (0, .ref a), (1, .int x)]) hx hb dJ7_fill_53178_1 rfl hl (by decide) rfl (fun ls hl => ?_)
  refine lv_aload_n hx hb dJ7_fill_53178_2 rfl (lv_at hl 1 rfl) ?_
  refine va_alen hx hb hE.1 hP 0 0 rfl rfl (v := nI n) rfl dJ7_fill_53178_3 ?_
  refine lv_istore_n (lv' := [(3, .int (nI n)), (2, .int (nI 0)), (0, .ref a), (1, .int x)]) hx hb dJ7_fill_53178_4 rfl hl (by decide) rfl (fun ls hl => ?_)
  refine r_loop (σ := Nat) (fun z0 => n - z0) (fun z0 H locs ls => (z0 ≤ n) ∧ va_P D vwCl [(a, .inl (cI, n, .inl (fun j => if j < z0 then x else f j)))] H ∧ va_D A [(a, .inl (cI, n, .inl (fun j => if j < z0 then x else f j)))] ∧ va_S A s.heap H locs ∧ lv_has ls 4 [(0, .ref a), (1, .int x), (2, .int (nI z0)), (3, .int (nI n))]) ?_ 0 ⟨Nat.zero_le _, hP.sub [0] rfl, hD.sub [0] (by decide) rfl, hS, lv_sub hl [2, 3, 1, 0] rfl⟩
  rintro k H locs ls ⟨hi_5, hP, hD, hS, hl⟩ ih_5
  have hi_5 : k ≤ n := hi_5
  have hP : va_P D vwCl [(a, .inl (cI, n, .inl (fun j => if j < k then x else f j)))] H := hP
  have hD : va_D A [(a, .inl (cI, n, .inl (fun j => if j < k then x else f j)))] := hD
  have hl : lv_has ls 4 [(0, .ref a), (1, .int x), (2, .int (nI k)), (3, .int (nI n))] := hl
  refine lv_iload_n hx hb dJ7_fill_53178_5 rfl (lv_at hl 2 rfl) ?_
  refine lv_iload_n hx hb dJ7_fill_53178_6 rfl (lv_at hl 3 rfl) ?_
  refine r_icmp_ge (tgt := 20) hx hb (x := k) (y := n) (by omega) (by omega) dJ7_fill_53178_7 (by decide) (fun c_7 => ?_) (fun c_7 => ?_)
  · skip
    have hk : k = n := by omega
    subst hk
    exact e_mv () hAe hx hb hr hlocks dJ7_fill_53178_20 (P_extI hP 0 (fun _ => x) rfl (fun j hj => if_pos hj)) (D_ext hD 0 rfl) hS trivial
  · skip
    refine lv_aload_n hx hb dJ7_fill_53178_10 rfl (lv_at hl 0 rfl) ?_
    refine lv_iload_n hx hb dJ7_fill_53178_11 rfl (lv_at hl 2 rfl) ?_
    refine lv_iload_n hx hb dJ7_fill_53178_12 rfl (lv_at hl 1 rfl) ?_
    refine va_iast hx hb hE.1 hP hD hS 0 0 rfl rfl (vp_in_nI (n := k) (N := n) c_7 (by omega)) dJ7_fill_53178_13 (fun H locs hP hD hS => ?_)
    have hu : upd (fun j => if j < k then x else f j) (nI k).toNatClampNeg x = (fun j => if j < k + 1 then x else f j) := by
      rw [nI_clamp (by omega)]
      funext j
      show (if j = k then x else if j < k then x else f j) = if j < k + 1 then x else f j
      by_cases h1 : j = k
      · rw [if_pos h1, if_pos (by omega)]
      · rw [if_neg h1]
        by_cases h2 : j < k
        · rw [if_pos h2, if_pos (by omega)]
        · rw [if_neg h2, if_neg (by omega)]
    rw [hu] at hP hD
    have hP : va_P D vwCl [(a, .inl (cI, n, .inl (fun j => if j < (k + 1) then x else f j)))] H := hP
    have hD : va_D A [(a, .inl (cI, n, .inl (fun j => if j < (k + 1) then x else f j)))] := hD
    refine lv_iinc (v := (nI (k + 1))) (lv' := [(2, .int (nI (k + 1))), (0, .ref a), (1, .int x), (3, .int (nI n))]) hx hb dJ7_fill_53178_14 hl (k := 2) rfl (nI_1 _) (by decide) rfl (fun ls hl => ?_)
    refine lv_goto (tgt := 5) hx hb dJ7_fill_53178_17 (by decide) ?_
    exact ih_5 (k + 1) _ _ _ ⟨(show (k + 1) ≤ n from by omega), hP.sub [0] rfl, hD.sub [0] (by decide) rfl, hS, lv_sub hl [1, 2, 0, 3] rfl⟩ (by show n - (k + 1) < n - k; omega)

set_option maxHeartbeats 4000000 in
set_option maxRecDepth 100000 in
/-- Arrays.fill -/
theorem c_fillL (l : Launch) (D : va_G) (cI cJ cZ : ClassId) (a n : Nat) (f : Nat → Int64) (x : Int64) (sz : Nat) (hn : n < 100000) : Met l yJ7_fill_d0a16 wsJ7_fill_d0a16 ({ frames := 0, cells := 0, slots := 0, locals := 0 }) (PcM D cI cJ cZ [.ref a, .long x] [(a, .inl (cJ, n, .inr (.inl f)))] sz) (va_Qv (fun _ : Unit => True) (Bm D [(a, .inl (cJ, n, .inr (.inl f)))] sz (fun _ : Unit => [(a, .inl (cJ, n, .inr (.inl (fun _ => x))))])) (va_A [(a, .inl (cJ, n, .inr (.inl f)))] sz)) 0 0 (va_A [(a, .inl (cJ, n, .inr (.inl f)))] sz) := by
  refine startM (cc := cJ7_fill_d0a16) (maxL := 5) (ret := none) (by decide) rfl (Nat.le_of_ble_eq_true rfl) ?_
  intro p e s m below meth c ls A hA hAe hx hb hr hml hown hts hlocks hin hE hP hD hS hl
  have hl : lv_has ls 5 [(0, .ref a), (1, .long x)] := hl
  have hP : va_P D vwCl [(a, .inl (cJ, n, .inr (.inl (fun j => if j < 0 then x else f j))))] s.heap := by rw [show (fun j => if j < 0 then x else f j) = f from funext fun j => if_neg (by omega)]; exact hP
  have hD : va_D A [(a, .inl (cJ, n, .inr (.inl (fun j => if j < 0 then x else f j))))] := by rw [show (fun j => if j < 0 then x else f j) = f from funext fun j => if_neg (by omega)]; exact hD
  refine lv_iconst (v := nI 0) hx hb dJ7_fill_d0a16_0 (by decide) ?_
  refine lv_istore_n (lv' := [(3, .int (nI 0)), (0, .ref a), (1, .long x)]) hx hb dJ7_fill_d0a16_1 rfl hl (by decide) rfl (fun ls hl => ?_)
  refine lv_aload_n hx hb dJ7_fill_d0a16_2 rfl (lv_at hl 1 rfl) ?_
  refine va_alen hx hb hE.1 hP 0 1 rfl rfl (v := nI n) rfl dJ7_fill_d0a16_3 ?_
  refine lv_istore (lv' := [(4, .int (nI n)), (3, .int (nI 0)), (0, .ref a), (1, .long x)]) hx hb dJ7_fill_d0a16_4 hl (by decide) rfl (fun ls hl => ?_)
  refine r_loop (σ := Nat) (fun z0 => n - z0) (fun z0 H locs ls => (z0 ≤ n) ∧ va_P D vwCl [(a, .inl (cJ, n, .inr (.inl (fun j => if j < z0 then x else f j))))] H ∧ va_D A [(a, .inl (cJ, n, .inr (.inl (fun j => if j < z0 then x else f j))))] ∧ va_S A s.heap H locs ∧ lv_has ls 5 [(0, .ref a), (1, .long x), (3, .int (nI z0)), (4, .int (nI n))]) ?_ 0 ⟨Nat.zero_le _, hP.sub [0] rfl, hD.sub [0] (by decide) rfl, hS, lv_sub hl [2, 3, 1, 0] rfl⟩
  rintro k H locs ls ⟨hi_6, hP, hD, hS, hl⟩ ih_6
  have hi_6 : k ≤ n := hi_6
  have hP : va_P D vwCl [(a, .inl (cJ, n, .inr (.inl (fun j => if j < k then x else f j))))] H := hP
  have hD : va_D A [(a, .inl (cJ, n, .inr (.inl (fun j => if j < k then x else f j))))] := hD
  have hl : lv_has ls 5 [(0, .ref a), (1, .long x), (3, .int (nI k)), (4, .int (nI n))] := hl
  refine lv_iload_n hx hb dJ7_fill_d0a16_6 rfl (lv_at hl 2 rfl) ?_
  refine lv_iload hx hb dJ7_fill_d0a16_7 (lv_at hl 3 rfl) ?_
  refine r_icmp_ge (tgt := 22) hx hb (x := k) (y := n) (by omega) (by omega) dJ7_fill_d0a16_9 (by decide) (fun c_9 => ?_) (fun c_9 => ?_)
  · skip
    have hk : k = n := by omega
    subst hk
    exact e_mv () hAe hx hb hr hlocks dJ7_fill_d0a16_22 (P_extL hP 0 (fun _ => x) rfl (fun j hj => if_pos hj)) (D_ext hD 0 rfl) hS trivial
  · skip
    refine lv_aload_n hx hb dJ7_fill_d0a16_12 rfl (lv_at hl 0 rfl) ?_
    refine lv_iload_n hx hb dJ7_fill_d0a16_13 rfl (lv_at hl 2 rfl) ?_
    refine lv_lload_n hx hb dJ7_fill_d0a16_14 rfl (lv_at hl 1 rfl) ?_
    refine va_last hx hb hE.1 hP hD hS 0 1 rfl rfl (vp_in_nI (n := k) (N := n) c_9 (by omega)) dJ7_fill_d0a16_15 (fun H locs hP hD hS => ?_)
    have hu : vp_updL (fun j => if j < k then x else f j) (nI k).toNatClampNeg x = (fun j => if j < k + 1 then x else f j) := by
      rw [nI_clamp (by omega)]
      funext j
      show (if j = k then x else if j < k then x else f j) = if j < k + 1 then x else f j
      by_cases h1 : j = k
      · rw [if_pos h1, if_pos (by omega)]
      · rw [if_neg h1]
        by_cases h2 : j < k
        · rw [if_pos h2, if_pos (by omega)]
        · rw [if_neg h2, if_neg (by omega)]
    rw [hu] at hP hD
    have hP : va_P D vwCl [(a, .inl (cJ, n, .inr (.inl (fun j => if j < (k + 1) then x else f j))))] H := hP
    have hD : va_D A [(a, .inl (cJ, n, .inr (.inl (fun j => if j < (k + 1) then x else f j))))] := hD
    refine lv_iinc (v := (nI (k + 1))) (lv' := [(3, .int (nI (k + 1))), (0, .ref a), (1, .long x), (4, .int (nI n))]) hx hb dJ7_fill_d0a16_16 hl (k := 2) rfl (nI_1 _) (by decide) rfl (fun ls hl => ?_)
    refine lv_goto (tgt := 6) hx hb dJ7_fill_d0a16_19 (by decide) ?_
    exact ih_6 (k + 1) _ _ _ ⟨(show (k + 1) ≤ n from by omega), hP.sub [0] rfl, hD.sub [0] (by decide) rfl, hS, lv_sub hl [1, 2, 0, 3] rfl⟩ (by show n - (k + 1) < n - k; omega)

section CallS
variable {p : Program} {l : Launch} {e : Env} {R : Room} {s : State} {m : MethodId} {args : Array Value} {below : List Frame} {meth : Method} {c : Code} {H : Heap} {locs : List Loc} {cells slots : Nat} {Q : State → Prop} {cc bytes : ByteArray} {pc : Nat} {ls : Array Slot} {rest As : List Value} {D : va_G} {cI cJ cZ : ClassId} {ws wc wr : va_W} {A : Nat → Prop} {H0 : Heap} {b : Nat} {Ts wsy : List Cond} {own C : String} {index nL maxL n mc ms : Nat} {y : MethodName} {ret : Option FieldType} {rm : Room} {S : Type} {w1 : S → va_W}
theorem preMS (hE : Ev D cI cJ cZ s) (hP : va_P D vwCl ws H) (hD : va_D A ws) (is : List Nat) (hn : va_nd is = true) (hs : is.filterMap (fun i => ws[i]?) = wc) (hs2 : is.map (fun i => ws[i]?) = wc.map some) : PreS s H (PcM D cI cJ cZ As wc H.size) As :=
  ⟨PcM_blind, fun U hU hW => ⟨rfl, by rw [hU], by rw [hU]; exact hP.sub is hs, hE.warm hW, (hD.sub is hn hs2).weaken (fun _ _ _ _ => trivial)⟩⟩
theorem callSv {post : S → Prop} (SF : CallFix p m c cc nL s args Ts own) (hM : Met l y wsy rm (PcM D cI cJ cZ As wc H.size) (va_Qv post (Bm D wc H.size w1) (va_A wc H.size)) mc ms (va_A wc H.size)) (cw : CallB R s args own index y bytes maxL ret wsy rm mc ms n ∧ (Cond.static y).before args s = true) (hp : PreS s H (PcM D cI cJ cZ As wc H.size) As)
    (hn : As.length = n) (hsize : ls.size = nL) (hW : (rest.map fun v => v.category).sum ≤ 8) (hdg : decode cc pc = .ok (.invokestatic index, 3)) (hf : cells + mc ≤ R.cells ∧ slots + ms ≤ R.slots) {st : List Value} (hst : st = As.reverse ++ rest)
    (hP : va_P D vwCl ws H) (hD : va_D A ws) (hS : va_S A H0 H locs) (hA : ∀ q, H0.size ≤ q → A q) (isC isR : List Nat) (hC : isC.map (fun i => ws[i]?) = wc.map some) (hR : isR.map (fun i => ws[i]?) = wr.map some) (hnr : va_nd isR = true) (hdis : ∀ i ∈ isR, i ∉ isC)
    (kk : ∀ (u : S) (H1 : Heap) (locs1 : List Loc), post u → va_P D vwCl (wr ++ w1 u) H1 → va_D A (wr ++ w1 u) → va_S A H0 H1 locs1 → W p l e R s m args below meth c H1 locs1 (cells + mc) (slots + ms) Q (F0 m (pc + 3) ls rest)) : W p l e R s m args below meth c H locs cells slots Q (F0 m pc ls st) := by
  subst hst
  have hF := va_free hD hS hA isC hC
  refine va_callv (va_runS (g := F0 m pc ls (As.reverse ++ rest)) (rest := rest) SF hM cw hp rfl hn hsize rfl (lv_room hW) hdg hf) hS (fun q _ h => hF q h) hF (fun u t H1 locs1 ht hvm hw hB hz1 hk1 hS1 => ?_)
  obtain ⟨hP1, hD1⟩ := hB
  rw [ht] at hP1
  obtain ⟨hP2, hD2⟩ := va_join hP hD isC isR hC hR hnr hdis hk1 hF hP1 hD1
  exact kk u H1 locs1 hw hP2 hD2 hS1
end CallS

theorem fl_X1_empty_15 : Cond.fieldLink RX1 15 "BlockRows$Line" "places" "[I" ∈ wsX1_empty := by decide +kernel
theorem fl_X1_empty_18 : Cond.fieldLink RX1 18 "BlockRows$Line" "filled" "I" ∈ wsX1_empty := by decide +kernel
theorem in_X1_empty_X1 : ∀ w ∈ wsX10, w ∈ wsX1_empty := by decide +kernel
set_option maxHeartbeats 4000000 in
set_option maxRecDepth 100000 in
/-- Line.empty() -/
theorem c_empty (l : Launch) (D : va_G) (cI cJ cZ : ClassId) (h am ap n : Nat) (me : Nat → Nat) (pl : Nat → Option Nat) (sz : Nat) : Met l yX1_empty wsX1_empty ({ frames := 1, cells := 0, slots := 0, locals := 23 }) (PcM D cI cJ cZ [.ref h] [(h, .inr (1, [.ref am, .ref ap, .int (nI n)])), (am, .inl (cI, 200, .inl (nIf me))), (ap, .inl (cI, 200, .inl (oIf pl)))] sz) (va_Qv (fun _ : Unit => True) (Bm D [(h, .inr (1, [.ref am, .ref ap, .int (nI n)])), (am, .inl (cI, 200, .inl (nIf me))), (ap, .inl (cI, 200, .inl (oIf pl)))] sz (fun _ : Unit => [(h, .inr (1, [.ref am, .ref ap, .int (nI 0)])), (am, .inl (cI, 200, .inl (nIf me))), (ap, .inl (cI, 200, .inl (oIf (fun _ => none))))])) (va_A [(h, .inr (1, [.ref am, .ref ap, .int (nI n)])), (am, .inl (cI, 200, .inl (nIf me))), (ap, .inl (cI, 200, .inl (oIf pl)))] sz)) 0 0 (va_A [(h, .inr (1, [.ref am, .ref ap, .int (nI n)])), (am, .inl (cI, 200, .inl (nIf me))), (ap, .inl (cI, 200, .inl (oIf pl)))] sz) := by
  refine startM (cc := cX1_empty) (maxL := 1) (ret := none) (by decide) rfl (Nat.le_of_ble_eq_true rfl) ?_
  intro p e s m below meth c ls A hA hAe hx hb hr hml hown hts hlocks hin hE hP hD hS hl
  have hl : lv_has ls 1 [(0, .ref h)] := hl
  refine lv_aload_n hx hb dX1_empty_0 rfl (lv_at hl 0 rfl) ?_
  refine lv_iconst (v := nI 0) hx hb dX1_empty_1 (by decide) ?_
  refine va_put (D := D) (ci := 1) (v := .int (nI 0)) (ty := .int) (C := RX1) (T := TX1) (N := 3) hx hb hts in_X1_empty_X1 tyX1 tyX1_ok nmX1 hown hE.1 hP hD hS 0 rfl rfl 2 (by decide) (hts _ fl_X1_empty_18) (fun _ h9 => h9) rfl (by decide +kernel) rfl rfl (Nat.le_of_ble_eq_true rfl) dX1_empty_2 (fun H locs hP hD hS => ?_)
  have hP : va_P D vwCl [(h, .inr (1, [.ref am, .ref ap, .int (nI 0)])), (am, .inl (cI, 200, .inl (nIf me))), (ap, .inl (cI, 200, .inl (oIf pl)))] H := hP
  have hD : va_D A [(h, .inr (1, [.ref am, .ref ap, .int (nI 0)])), (am, .inl (cI, 200, .inl (nIf me))), (ap, .inl (cI, 200, .inl (oIf pl)))] := hD
  refine lv_aload_n hx hb dX1_empty_5 rfl (lv_at hl 0 rfl) ?_
  refine va_get (D := D) (ci := 1) (v := .ref ap) (C := RX1) (T := TX1) (N := 3) hx hb hts in_X1_empty_X1 hown hE.1 hP 0 rfl rfl 1 (by decide) (hts _ fl_X1_empty_15) (fun _ h9 => h9) rfl dX1_empty_6 ?_
  refine lv_iconst (v := -1) hx hb dX1_empty_9 (by decide) ?_
  refine callSv (As := [.ref ap, .int (-1)]) (rest := []) (wr := [(h, .inr (1, [.ref am, .ref ap, .int (nI 0)])), (am, .inl (cI, 200, .inl (nIf me)))]) (w1 := fun _ : Unit => [(ap, .inl (cI, 200, .inl (oIf (fun _ => none))))]) ⟨hx, hb, hml, hown, hts⟩ (c_fillI l D cI cJ cZ ap 200 _ (-1) _ (by omega)) (va_cwS 2 hts gX1_empty_J7_fill_53178 rfl rfl rfl (by decide +kernel) ⟨Nat.le_of_ble_eq_true rfl, Nat.le_of_ble_eq_true rfl⟩) (preMS hE hP hD [2] rfl rfl rfl) rfl hl.1 (Nat.le_of_ble_eq_true rfl) dX1_empty_10 ⟨Nat.zero_le _, Nat.zero_le _⟩ rfl hP hD hS hA [2] [0, 1] rfl rfl (by decide) (by decide) (fun u_ H locs hu hP hD hS => ?_)
  have hP : va_P D vwCl [(h, .inr (1, [.ref am, .ref ap, .int (nI 0)])), (am, .inl (cI, 200, .inl (nIf me))), (ap, .inl (cI, 200, .inl (oIf (fun _ => none))))] H := hP
  have hD : va_D A [(h, .inr (1, [.ref am, .ref ap, .int (nI 0)])), (am, .inl (cI, 200, .inl (nIf me))), (ap, .inl (cI, 200, .inl (oIf (fun _ => none))))] := hD
  exact e_mv () hAe hx hb hr hlocks dX1_empty_13 hP hD hS trivial

theorem fl_X0_firstOf_9 : Cond.fieldLink RX0 9 "BlockRows$Chains" "first" "[I" ∈ wsX0_firstOf := by decide +kernel
theorem in_X0_firstOf_X0 : ∀ w ∈ wsX00, w ∈ wsX0_firstOf := by decide +kernel
theorem wd_X0_firstOf_ini3 : Cond.initialized RX3 ∈ wsX0_firstOf := by decide +kernel
theorem wd_X0_firstOf_stF : Cond.static yX3_fitsRows ∈ wsX0_firstOf := by decide +kernel
set_option maxHeartbeats 4000000 in
set_option maxRecDepth 100000 in
/-- Chains.firstOf(b) -/
theorem c_firstOf (l : Launch) (D : va_G) (cI cJ cZ : ClassId) (h cf cn cp : Nat) (fs nx : Nat → Option Nat) (pu : Nat → Nat) (b : Nat) (hb2 : b < 200) : Met l yX0_firstOf wsX0_firstOf ({ frames := 1, cells := 0, slots := 0, locals := 20 }) (PcR D cI cJ cZ [.ref h, .int (nI b)] [(h, .inr (0, [.ref cf, .ref cn, .ref cp])), (cf, .inl (cI, 200, .inl (oIf fs))), (cn, .inl (cI, 200, .inl (oIf nx))), (cp, .inl (cJ, 200, .inr (.inl (lNf pu))))]) (vp_Si (fun r => r = oI (fs b))) 0 0 (fun _ => False) := by
  refine startR (cc := cX0_firstOf) (maxL := 2) (ret := (some .int)) (by decide) rfl (Nat.le_of_ble_eq_true rfl) ?_
  intro p e s m below meth c ls hx hb hr hml hown hts hlocks hE hP hl
  have hl : lv_has ls 2 [(0, .ref h), (1, .int (nI b))] := hl
  refine lv_iload_n hx hb dX0_firstOf_0 rfl (lv_at hl 1 rfl) ?_
  refine callRSi (As := [.int (nI b)]) (rest := []) ⟨hx, hb, hml, hown, hts⟩ (c_fitsN l D cI cJ cZ b hb2) ⟨va_cnB 1 hts gX0_firstOf_X3_fitsRows_n34 rfl rfl rfl hE.2.2.1.2.2.2 (hts _ wd_X0_firstOf_ini3) (by decide +kernel) ⟨Nat.le_of_ble_eq_true rfl, Nat.le_of_ble_eq_true rfl⟩, hts _ wd_X0_firstOf_stF, trivial⟩ (preRS hE hP) rfl hl.1 (Nat.le_of_ble_eq_true rfl) dX0_firstOf_1 ⟨Nat.zero_le _, Nat.zero_le _⟩ rfl (fun rF hrF => ?_)
  subst hrF
  refine r_b_eq (tgt := 16) hx hb dX0_firstOf_4 (by decide) (fun c => absurd c (by decide)) (fun _ => ?_)
  refine lv_aload_n hx hb dX0_firstOf_7 rfl (lv_at hl 0 rfl) ?_
  refine va_get (D := D) (ci := 0) (v := .ref cf) (C := RX0) (T := TX0) (N := 3) hx hb hts in_X0_firstOf_X0 hown hE.1 hP 0 rfl rfl 0 (by decide) (hts _ fl_X0_firstOf_9) (fun _ h9 => h9) rfl dX0_firstOf_8 ?_
  refine lv_iload_n hx hb dX0_firstOf_11 rfl (lv_at hl 1 rfl) ?_
  refine r_old hx hb hE hP 1 rfl (k := b) (by omega) (by decide) dX0_firstOf_12 ?_
  refine lv_goto (tgt := 17) hx hb dX0_firstOf_13 (by decide) ?_
  exact e_i hx hb hr hlocks dX0_firstOf_17 rfl

theorem fl_X0_pullOf_18 : Cond.fieldLink RX0 18 "BlockRows$Chains" "pulls" "[J" ∈ wsX0_pullOf := by decide +kernel
theorem in_X0_pullOf_X0 : ∀ w ∈ wsX00, w ∈ wsX0_pullOf := by decide +kernel
theorem wd_X0_pullOf_ini3 : Cond.initialized RX3 ∈ wsX0_pullOf := by decide +kernel
theorem wd_X0_pullOf_stF : Cond.static yX3_fitsRows ∈ wsX0_pullOf := by decide +kernel
set_option maxHeartbeats 4000000 in
set_option maxRecDepth 100000 in
/-- Chains.pullOf(chain) -/
theorem c_pullOf (l : Launch) (D : va_G) (cI cJ cZ : ClassId) (h cf cn cp : Nat) (fs nx : Nat → Option Nat) (pu : Nat → Nat) (b : Nat) (hb2 : b < 200) : Met l yX0_pullOf wsX0_pullOf ({ frames := 1, cells := 0, slots := 0, locals := 20 }) (PcR D cI cJ cZ [.ref h, .int (nI b)] [(h, .inr (0, [.ref cf, .ref cn, .ref cp])), (cf, .inl (cI, 200, .inl (oIf fs))), (cn, .inl (cI, 200, .inl (oIf nx))), (cp, .inl (cJ, 200, .inr (.inl (lNf pu))))]) (vp_Sl (fun r => r = lN (pu b))) 0 0 (fun _ => False) := by
  refine startR (cc := cX0_pullOf) (maxL := 2) (ret := (some .long)) (by decide) rfl (Nat.le_of_ble_eq_true rfl) ?_
  intro p e s m below meth c ls hx hb hr hml hown hts hlocks hE hP hl
  have hl : lv_has ls 2 [(0, .ref h), (1, .int (nI b))] := hl
  refine lv_iload_n hx hb dX0_pullOf_0 rfl (lv_at hl 1 rfl) ?_
  refine callRSi (As := [.int (nI b)]) (rest := []) ⟨hx, hb, hml, hown, hts⟩ (c_fitsN l D cI cJ cZ b hb2) ⟨va_cnB 1 hts gX0_pullOf_X3_fitsRows_n34 rfl rfl rfl hE.2.2.1.2.2.2 (hts _ wd_X0_pullOf_ini3) (by decide +kernel) ⟨Nat.le_of_ble_eq_true rfl, Nat.le_of_ble_eq_true rfl⟩, hts _ wd_X0_pullOf_stF, trivial⟩ (preRS hE hP) rfl hl.1 (Nat.le_of_ble_eq_true rfl) dX0_pullOf_1 ⟨Nat.zero_le _, Nat.zero_le _⟩ rfl (fun rF hrF => ?_)
  subst hrF
  refine r_b_eq (tgt := 16) hx hb dX0_pullOf_4 (by decide) (fun c => absurd c (by decide)) (fun _ => ?_)
  refine lv_aload_n hx hb dX0_pullOf_7 rfl (lv_at hl 0 rfl) ?_
  refine va_get (D := D) (ci := 0) (v := .ref cp) (C := RX0) (T := TX0) (N := 3) hx hb hts in_X0_pullOf_X0 hown hE.1 hP 0 rfl rfl 2 (by decide) (hts _ fl_X0_pullOf_18) (fun _ h9 => h9) rfl dX0_pullOf_8 ?_
  refine lv_iload_n hx hb dX0_pullOf_11 rfl (lv_at hl 1 rfl) ?_
  refine r_lld hx hb hE hP 3 rfl (k := b) (by omega) (by decide) dX0_pullOf_12 ?_
  refine lv_goto (tgt := 17) hx hb dX0_pullOf_13 (by decide) ?_
  exact e_l hx hb hr hlocks dX0_pullOf_17 rfl

def mjB (fs nx : Nat → Option Nat) (u v : Nat) : Bool := (fs u).isSome && (nx u).isNone && decide (fs v = some v) && decide (fs u ≠ some v) && decide (v ≠ 0)
theorem fl_X0_mayJoin_15 : Cond.fieldLink RX0 15 "BlockRows$Chains" "next" "[I" ∈ wsX0_mayJoin := by decide +kernel
theorem in_X0_mayJoin_X0 : ∀ w ∈ wsX00, w ∈ wsX0_mayJoin := by decide +kernel
set_option maxHeartbeats 4000000 in
set_option maxRecDepth 100000 in
/-- Chains.mayJoin(u, v) -/
theorem c_mayJoin (l : Launch) (D : va_G) (cI cJ cZ : ClassId) (h cf cn cp : Nat) (fs nx : Nat → Option Nat) (pu : Nat → Nat) (hfs : ∀ i j, fs i = some j → j < 200) (hnx : ∀ i j, nx i = some j → j < 200) (u v : Nat) (hu : u < 200) (hv : v < 200) : Met l yX0_mayJoin wsX0_mayJoin ({ frames := 2, cells := 0, slots := 0, locals := 41 }) (PcR D cI cJ cZ [.ref h, .int (nI u), .int (nI v)] [(h, .inr (0, [.ref cf, .ref cn, .ref cp])), (cf, .inl (cI, 200, .inl (oIf fs))), (cn, .inl (cI, 200, .inl (oIf nx))), (cp, .inl (cJ, 200, .inr (.inl (lNf pu))))]) (vp_Si (fun r => r = bI (mjB fs nx u v))) 0 0 (fun _ => False) := by
  refine startR (cc := cX0_mayJoin) (maxL := 5) (ret := (some .boolean)) (by decide) rfl (Nat.le_of_ble_eq_true rfl) ?_
  intro p e s m below meth c ls hx hb hr hml hown hts hlocks hE hP hl
  have hl : lv_has ls 5 [(0, .ref h), (1, .int (nI u)), (2, .int (nI v))] := hl
  refine lv_aload_n hx hb dX0_mayJoin_0 rfl (lv_at hl 0 rfl) ?_
  refine lv_iload_n hx hb dX0_mayJoin_1 rfl (lv_at hl 1 rfl) ?_
  refine callRi (As := [.int (nI u)]) (rest := []) ⟨hx, hb, hml, hown, hts⟩ (c_firstOf l D cI cJ cZ h cf cn cp fs nx pu u hu) (cwV 1 hts gX0_mayJoin_X0_firstOf rfl rfl rfl (by decide +kernel) ⟨Nat.le_of_ble_eq_true rfl, Nat.le_of_ble_eq_true rfl⟩) (preR hE hP 0 0 rfl rfl rfl [0, 1, 2, 3] rfl) rfl hl.1 (Nat.le_of_ble_eq_true rfl) dX0_mayJoin_2 ⟨Nat.zero_le _, Nat.zero_le _⟩ rfl (fun r_2 hr_2 => ?_)
  subst hr_2
  refine lv_iconst (v := -1) hx hb dX0_mayJoin_5 (by decide) ?_
  refine r_o_eq (tgt := 23) hx hb (o := fs u) (q := none) rfl rfl (fun j h => by have := hfs _ _ h; omega) (fun j h => by cases h) dX0_mayJoin_6 (by decide) (fun c_6 => ?_) (fun c_6 => ?_)
  · skip
    refine lv_iconst (v := bI false) hx hb dX0_mayJoin_23 (by decide) ?_
    refine lv_istore_n (lv' := [(3, .int (bI false)), (0, .ref h), (1, .int (nI u)), (2, .int (nI v))]) hx hb dX0_mayJoin_24 rfl hl (by decide) rfl (fun ls hl => ?_)
    refine lv_aload_n hx hb dX0_mayJoin_25 rfl (lv_at hl 1 rfl) ?_
    refine lv_iload_n hx hb dX0_mayJoin_26 rfl (lv_at hl 3 rfl) ?_
    refine callRi (As := [.int (nI v)]) (rest := []) ⟨hx, hb, hml, hown, hts⟩ (c_firstOf l D cI cJ cZ h cf cn cp fs nx pu v hv) (cwV 1 hts gX0_mayJoin_X0_firstOf rfl rfl rfl (by decide +kernel) ⟨Nat.le_of_ble_eq_true rfl, Nat.le_of_ble_eq_true rfl⟩) (preR hE hP 0 0 rfl rfl rfl [0, 1, 2, 3] rfl) rfl hl.1 (Nat.le_of_ble_eq_true rfl) dX0_mayJoin_27 ⟨Nat.zero_le _, Nat.zero_le _⟩ rfl (fun r_27 hr_27 => ?_)
    subst hr_27
    refine lv_iload_n hx hb dX0_mayJoin_30 rfl (lv_at hl 3 rfl) ?_
    refine r_o_ne (tgt := 38) hx hb (o := fs v) (q := some v) rfl rfl (fun j h => by have := hfs _ _ h; omega) (fun j h => by cases h; omega) dX0_mayJoin_31 (by decide) (fun c_31 => ?_) (fun c_31 => ?_)
    · skip
      refine lv_iconst (v := bI false) hx hb dX0_mayJoin_38 (by decide) ?_
      refine lv_istore (lv' := [(4, .int (bI false)), (3, .int (bI false)), (0, .ref h), (1, .int (nI u)), (2, .int (nI v))]) hx hb dX0_mayJoin_39 hl (by decide) rfl (fun ls hl => ?_)
      refine lv_iload_n hx hb dX0_mayJoin_41 rfl (lv_at hl 1 rfl) ?_
      refine r_b_eq (tgt := 67) hx hb dX0_mayJoin_42 (by decide) (fun _ => ?_) (fun c => absurd c (by decide))
      refine lv_iconst (v := bI false) hx hb dX0_mayJoin_67 (by decide) ?_
      exact e_z false rfl hx hb hr hlocks dX0_mayJoin_68 (by show bI false = bI _; congr 1; unfold mjB; simp [Option.isSome_iff_ne_none, c_6, c_31])
    · skip
      refine lv_iconst (v := bI true) hx hb dX0_mayJoin_34 (by decide) ?_
      refine lv_goto (tgt := 39) hx hb dX0_mayJoin_35 (by decide) ?_
      refine lv_istore (lv' := [(4, .int (bI true)), (3, .int (bI false)), (0, .ref h), (1, .int (nI u)), (2, .int (nI v))]) hx hb dX0_mayJoin_39 hl (by decide) rfl (fun ls hl => ?_)
      refine lv_iload_n hx hb dX0_mayJoin_41 rfl (lv_at hl 1 rfl) ?_
      refine r_b_eq (tgt := 67) hx hb dX0_mayJoin_42 (by decide) (fun _ => ?_) (fun c => absurd c (by decide))
      refine lv_iconst (v := bI false) hx hb dX0_mayJoin_67 (by decide) ?_
      exact e_z false rfl hx hb hr hlocks dX0_mayJoin_68 (by show bI false = bI _; congr 1; unfold mjB; simp [Option.isSome_iff_ne_none, c_6, c_31])
  · skip
    refine lv_aload_n hx hb dX0_mayJoin_9 rfl (lv_at hl 0 rfl) ?_
    refine va_get (D := D) (ci := 0) (v := .ref cn) (C := RX0) (T := TX0) (N := 3) hx hb hts in_X0_mayJoin_X0 hown hE.1 hP 0 rfl rfl 1 (by decide) (hts _ fl_X0_mayJoin_15) (fun _ h9 => h9) rfl dX0_mayJoin_10 ?_
    refine lv_iload_n hx hb dX0_mayJoin_13 rfl (lv_at hl 1 rfl) ?_
    refine r_old hx hb hE hP 2 rfl (k := u) (by omega) (by decide) dX0_mayJoin_14 ?_
    refine lv_iconst (v := -1) hx hb dX0_mayJoin_15 (by decide) ?_
    refine r_o_ne (tgt := 23) hx hb (o := nx u) (q := none) rfl rfl (fun j h => by have := hnx _ _ h; omega) (fun j h => by cases h) dX0_mayJoin_16 (by decide) (fun c_16 => ?_) (fun c_16 => ?_)
    · skip
      refine lv_iconst (v := bI false) hx hb dX0_mayJoin_23 (by decide) ?_
      refine lv_istore_n (lv' := [(3, .int (bI false)), (0, .ref h), (1, .int (nI u)), (2, .int (nI v))]) hx hb dX0_mayJoin_24 rfl hl (by decide) rfl (fun ls hl => ?_)
      refine lv_aload_n hx hb dX0_mayJoin_25 rfl (lv_at hl 1 rfl) ?_
      refine lv_iload_n hx hb dX0_mayJoin_26 rfl (lv_at hl 3 rfl) ?_
      refine callRi (As := [.int (nI v)]) (rest := []) ⟨hx, hb, hml, hown, hts⟩ (c_firstOf l D cI cJ cZ h cf cn cp fs nx pu v hv) (cwV 1 hts gX0_mayJoin_X0_firstOf rfl rfl rfl (by decide +kernel) ⟨Nat.le_of_ble_eq_true rfl, Nat.le_of_ble_eq_true rfl⟩) (preR hE hP 0 0 rfl rfl rfl [0, 1, 2, 3] rfl) rfl hl.1 (Nat.le_of_ble_eq_true rfl) dX0_mayJoin_27 ⟨Nat.zero_le _, Nat.zero_le _⟩ rfl (fun r_27 hr_27 => ?_)
      subst hr_27
      refine lv_iload_n hx hb dX0_mayJoin_30 rfl (lv_at hl 3 rfl) ?_
      refine r_o_ne (tgt := 38) hx hb (o := fs v) (q := some v) rfl rfl (fun j h => by have := hfs _ _ h; omega) (fun j h => by cases h; omega) dX0_mayJoin_31 (by decide) (fun c_31 => ?_) (fun c_31 => ?_)
      · skip
        refine lv_iconst (v := bI false) hx hb dX0_mayJoin_38 (by decide) ?_
        refine lv_istore (lv' := [(4, .int (bI false)), (3, .int (bI false)), (0, .ref h), (1, .int (nI u)), (2, .int (nI v))]) hx hb dX0_mayJoin_39 hl (by decide) rfl (fun ls hl => ?_)
        refine lv_iload_n hx hb dX0_mayJoin_41 rfl (lv_at hl 1 rfl) ?_
        refine r_b_eq (tgt := 67) hx hb dX0_mayJoin_42 (by decide) (fun _ => ?_) (fun c => absurd c (by decide))
        refine lv_iconst (v := bI false) hx hb dX0_mayJoin_67 (by decide) ?_
        exact e_z false rfl hx hb hr hlocks dX0_mayJoin_68 (by show bI false = bI _; congr 1; unfold mjB; simp [Option.isSome_iff_ne_none, c_6, c_16, c_31])
      · skip
        refine lv_iconst (v := bI true) hx hb dX0_mayJoin_34 (by decide) ?_
        refine lv_goto (tgt := 39) hx hb dX0_mayJoin_35 (by decide) ?_
        refine lv_istore (lv' := [(4, .int (bI true)), (3, .int (bI false)), (0, .ref h), (1, .int (nI u)), (2, .int (nI v))]) hx hb dX0_mayJoin_39 hl (by decide) rfl (fun ls hl => ?_)
        refine lv_iload_n hx hb dX0_mayJoin_41 rfl (lv_at hl 1 rfl) ?_
        refine r_b_eq (tgt := 67) hx hb dX0_mayJoin_42 (by decide) (fun _ => ?_) (fun c => absurd c (by decide))
        refine lv_iconst (v := bI false) hx hb dX0_mayJoin_67 (by decide) ?_
        exact e_z false rfl hx hb hr hlocks dX0_mayJoin_68 (by show bI false = bI _; congr 1; unfold mjB; simp [Option.isSome_iff_ne_none, c_6, c_16, c_31])
    · skip
      refine lv_iconst (v := bI true) hx hb dX0_mayJoin_19 (by decide) ?_
      refine lv_goto (tgt := 24) hx hb dX0_mayJoin_20 (by decide) ?_
      refine lv_istore_n (lv' := [(3, .int (bI true)), (0, .ref h), (1, .int (nI u)), (2, .int (nI v))]) hx hb dX0_mayJoin_24 rfl hl (by decide) rfl (fun ls hl => ?_)
      refine lv_aload_n hx hb dX0_mayJoin_25 rfl (lv_at hl 1 rfl) ?_
      refine lv_iload_n hx hb dX0_mayJoin_26 rfl (lv_at hl 3 rfl) ?_
      refine callRi (As := [.int (nI v)]) (rest := []) ⟨hx, hb, hml, hown, hts⟩ (c_firstOf l D cI cJ cZ h cf cn cp fs nx pu v hv) (cwV 1 hts gX0_mayJoin_X0_firstOf rfl rfl rfl (by decide +kernel) ⟨Nat.le_of_ble_eq_true rfl, Nat.le_of_ble_eq_true rfl⟩) (preR hE hP 0 0 rfl rfl rfl [0, 1, 2, 3] rfl) rfl hl.1 (Nat.le_of_ble_eq_true rfl) dX0_mayJoin_27 ⟨Nat.zero_le _, Nat.zero_le _⟩ rfl (fun r_27 hr_27 => ?_)
      subst hr_27
      refine lv_iload_n hx hb dX0_mayJoin_30 rfl (lv_at hl 3 rfl) ?_
      refine r_o_ne (tgt := 38) hx hb (o := fs v) (q := some v) rfl rfl (fun j h => by have := hfs _ _ h; omega) (fun j h => by cases h; omega) dX0_mayJoin_31 (by decide) (fun c_31 => ?_) (fun c_31 => ?_)
      · skip
        refine lv_iconst (v := bI false) hx hb dX0_mayJoin_38 (by decide) ?_
        refine lv_istore (lv' := [(4, .int (bI false)), (3, .int (bI true)), (0, .ref h), (1, .int (nI u)), (2, .int (nI v))]) hx hb dX0_mayJoin_39 hl (by decide) rfl (fun ls hl => ?_)
        refine lv_iload_n hx hb dX0_mayJoin_41 rfl (lv_at hl 1 rfl) ?_
        refine r_b_eq (tgt := 67) hx hb dX0_mayJoin_42 (by decide) (fun c => absurd c (by decide)) (fun _ => ?_)
        refine lv_iload hx hb dX0_mayJoin_45 (lv_at hl 0 rfl) ?_
        refine r_b_eq (tgt := 67) hx hb dX0_mayJoin_47 (by decide) (fun _ => ?_) (fun c => absurd c (by decide))
        refine lv_iconst (v := bI false) hx hb dX0_mayJoin_67 (by decide) ?_
        exact e_z false rfl hx hb hr hlocks dX0_mayJoin_68 (by show bI false = bI _; congr 1; unfold mjB; simp [Option.isSome_iff_ne_none, c_6, c_16, c_31])
      · skip
        refine lv_iconst (v := bI true) hx hb dX0_mayJoin_34 (by decide) ?_
        refine lv_goto (tgt := 39) hx hb dX0_mayJoin_35 (by decide) ?_
        refine lv_istore (lv' := [(4, .int (bI true)), (3, .int (bI true)), (0, .ref h), (1, .int (nI u)), (2, .int (nI v))]) hx hb dX0_mayJoin_39 hl (by decide) rfl (fun ls hl => ?_)
        refine lv_iload_n hx hb dX0_mayJoin_41 rfl (lv_at hl 1 rfl) ?_
        refine r_b_eq (tgt := 67) hx hb dX0_mayJoin_42 (by decide) (fun c => absurd c (by decide)) (fun _ => ?_)
        refine lv_iload hx hb dX0_mayJoin_45 (lv_at hl 0 rfl) ?_
        refine r_b_eq (tgt := 67) hx hb dX0_mayJoin_47 (by decide) (fun c => absurd c (by decide)) (fun _ => ?_)
        refine lv_aload_n hx hb dX0_mayJoin_50 rfl (lv_at hl 2 rfl) ?_
        refine lv_iload_n hx hb dX0_mayJoin_51 rfl (lv_at hl 3 rfl) ?_
        refine callRi (As := [.int (nI u)]) (rest := []) ⟨hx, hb, hml, hown, hts⟩ (c_firstOf l D cI cJ cZ h cf cn cp fs nx pu u hu) (cwV 1 hts gX0_mayJoin_X0_firstOf rfl rfl rfl (by decide +kernel) ⟨Nat.le_of_ble_eq_true rfl, Nat.le_of_ble_eq_true rfl⟩) (preR hE hP 0 0 rfl rfl rfl [0, 1, 2, 3] rfl) rfl hl.1 (Nat.le_of_ble_eq_true rfl) dX0_mayJoin_52 ⟨Nat.zero_le _, Nat.zero_le _⟩ rfl (fun r_52 hr_52 => ?_)
        subst hr_52
        refine lv_iload_n hx hb dX0_mayJoin_55 rfl (lv_at hl 4 rfl) ?_
        refine r_o_eq (tgt := 67) hx hb (o := fs u) (q := some v) rfl rfl (fun j h => by have := hfs _ _ h; omega) (fun j h => by cases h; omega) dX0_mayJoin_56 (by decide) (fun c_56 => ?_) (fun c_56 => ?_)
        · skip
          refine lv_iconst (v := bI false) hx hb dX0_mayJoin_67 (by decide) ?_
          exact e_z false rfl hx hb hr hlocks dX0_mayJoin_68 (by show bI false = bI _; congr 1; unfold mjB; simp [Option.isSome_iff_ne_none, c_6, c_16, c_31, c_56])
        · skip
          refine lv_iload_n hx hb dX0_mayJoin_59 rfl (lv_at hl 4 rfl) ?_
          refine r_if_eq (tgt := 67) hx hb (x := v) (by omega) dX0_mayJoin_60 (by decide) (fun c_60 => ?_) (fun c_60 => ?_)
          · skip
            refine lv_iconst (v := bI false) hx hb dX0_mayJoin_67 (by decide) ?_
            exact e_z false rfl hx hb hr hlocks dX0_mayJoin_68 (by show bI false = bI _; congr 1; unfold mjB; simp [Option.isSome_iff_ne_none, c_6, c_16, c_31, c_56, c_60])
          · skip
            refine lv_iconst (v := bI true) hx hb dX0_mayJoin_63 (by decide) ?_
            refine lv_goto (tgt := 68) hx hb dX0_mayJoin_64 (by decide) ?_
            exact e_z true rfl hx hb hr hlocks dX0_mayJoin_68 (by show bI true = bI _; congr 1; unfold mjB; simp [Option.isSome_iff_ne_none, c_6, c_16, c_31, c_56]; omega)

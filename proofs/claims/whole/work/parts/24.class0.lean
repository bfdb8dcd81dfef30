theorem fl_X3_isBlock_40 : Cond.fieldLink RX3 40 "BlockRows" "blocks" "I" ∈ wsX3_isBlock := by decide +kernel
theorem in_X3_isBlock_X3 : ∀ w ∈ wsX30, w ∈ wsX3_isBlock := by decide +kernel
set_option maxHeartbeats 4000000 in
set_option maxRecDepth 100000 in
/-- BlockRows.isBlock -/
theorem c_isBlock (l : Launch) (D : va_G) (cI cJ cZ : ClassId) (x xh w g a b d aw hw cw n : Nat) (st : Bool) (hn : n ≤ 200) (y : Int32) : Met l yX3_isBlock wsX3_isBlock ({ frames := 0, cells := 0, slots := 0, locals := 0 }) (PcR D cI cJ cZ [.ref x, .int y] [(x, .inr (3, [.ref xh, .ref w, .ref g, .ref a, .ref b, .ref d, .long (lN aw), .long (lN hw), .long (lN cw), .int (nI n), .int (bI st)]))]) (vp_Si (fun r => r = bI (isB n y))) 0 0 (fun _ => False) := by
  refine startR (cc := cX3_isBlock) (maxL := 2) (ret := (some .boolean)) (by decide) rfl (Nat.le_of_ble_eq_true rfl) ?_
  intro p e s m below meth c ls hx hb hr hml hown hts hlocks hE hP hl
  have hl : lv_has ls 2 [(0, .ref x), (1, .int y)] := hl
  refine lv_iload_n hx hb dX3_isBlock_0 rfl (lv_at hl 1 rfl) ?_
  refine lv_if_lt (tgt := 16) hx hb dX3_isBlock_1 (by decide) (fun c_1 => ?_) (fun c_1 => ?_)
  · skip
    refine lv_iconst (v := bI false) hx hb dX3_isBlock_16 (by decide) ?_
    exact e_z false rfl hx hb hr hlocks dX3_isBlock_17 (by rw [isB_neg c_1])
  · skip
    obtain ⟨j, hj, rfl⟩ := nI_of c_1
    refine lv_iload_n hx hb dX3_isBlock_4 rfl (lv_at hl 1 rfl) ?_
    refine lv_aload_n hx hb dX3_isBlock_5 rfl (lv_at hl 0 rfl) ?_
    refine va_get (D := D) (ci := 3) (v := .int (nI n)) (C := RX3) (T := TX3) (N := 11) hx hb hts in_X3_isBlock_X3 hown hE.1 hP 0 rfl rfl 9 (by decide) (hts _ fl_X3_isBlock_40) (fun _ h9 => h9) rfl dX3_isBlock_6 ?_
    refine r_icmp_ge (tgt := 16) hx hb (x := j) (y := n) (by omega) (by omega) dX3_isBlock_9 (by decide) (fun c_9 => ?_) (fun c_9 => ?_)
    · skip
      refine lv_iconst (v := bI false) hx hb dX3_isBlock_16 (by decide) ?_
      exact e_z false rfl hx hb hr hlocks dX3_isBlock_17 (congrArg bI (by rw [isB_nI hj]; simp; omega))
    · skip
      refine lv_iconst (v := bI true) hx hb dX3_isBlock_12 (by decide) ?_
      refine lv_goto (tgt := 17) hx hb dX3_isBlock_13 (by decide) ?_
      exact e_z true rfl hx hb hr hlocks dX3_isBlock_17 (congrArg bI (by rw [isB_nI hj]; simp; omega))

theorem fl_X3_chainsAreBetter_82 : Cond.fieldLink RX3 82 "BlockRows" "chainsWeight" "J" ∈ wsX3_chainsAreBetter := by decide +kernel
theorem fl_X3_chainsAreBetter_86 : Cond.fieldLink RX3 86 "BlockRows" "hotWeight" "J" ∈ wsX3_chainsAreBetter := by decide +kernel
theorem in_X3_chainsAreBetter_X3 : ∀ w ∈ wsX30, w ∈ wsX3_chainsAreBetter := by decide +kernel
set_option maxHeartbeats 4000000 in
set_option maxRecDepth 100000 in
/-- BlockRows.chainsAreBetter -/
theorem c_better (l : Launch) (D : va_G) (cI cJ cZ : ClassId) (x xh w g a b d aw hw cw n : Nat) (st : Bool) (h1 : hw < 2 ^ 63) (h2 : cw < 2 ^ 63) : Met l yX3_chainsAreBetter wsX3_chainsAreBetter ({ frames := 0, cells := 0, slots := 0, locals := 0 }) (PcR D cI cJ cZ [.ref x] [(x, .inr (3, [.ref xh, .ref w, .ref g, .ref a, .ref b, .ref d, .long (lN aw), .long (lN hw), .long (lN cw), .int (nI n), .int (bI st)]))]) (vp_Si (fun r => r = bI (decide (hw < cw)))) 0 0 (fun _ => False) := by
  refine startR (cc := cX3_chainsAreBetter) (maxL := 1) (ret := (some .boolean)) (by decide) rfl (Nat.le_of_ble_eq_true rfl) ?_
  intro p e s m below meth c ls hx hb hr hml hown hts hlocks hE hP hl
  have hl : lv_has ls 1 [(0, .ref x)] := hl
  refine lv_aload_n hx hb dX3_chainsAreBetter_0 rfl (lv_at hl 0 rfl) ?_
  refine va_get (D := D) (ci := 3) (v := .long (lN cw)) (C := RX3) (T := TX3) (N := 11) hx hb hts in_X3_chainsAreBetter_X3 hown hE.1 hP 0 rfl rfl 8 (by decide) (hts _ fl_X3_chainsAreBetter_82) (fun _ h9 => h9) rfl dX3_chainsAreBetter_1 ?_
  refine lv_aload_n hx hb dX3_chainsAreBetter_4 rfl (lv_at hl 0 rfl) ?_
  refine va_get (D := D) (ci := 3) (v := .long (lN hw)) (C := RX3) (T := TX3) (N := 11) hx hb hts in_X3_chainsAreBetter_X3 hown hE.1 hP 0 rfl rfl 7 (by decide) (hts _ fl_X3_chainsAreBetter_86) (fun _ h9 => h9) rfl dX3_chainsAreBetter_5 ?_
  refine r_l_le (tgt := 16) hx hb (x := cw) (y := hw) (by omega) (by omega) dX3_chainsAreBetter_8 dX3_chainsAreBetter_9 (by decide) (fun c_8 => ?_) (fun c_8 => ?_)
  · skip
    refine lv_iconst (v := bI false) hx hb dX3_chainsAreBetter_16 (by decide) ?_
    exact e_z false rfl hx hb hr hlocks dX3_chainsAreBetter_17 (congrArg bI (by simp; omega))
  · skip
    refine lv_iconst (v := bI true) hx hb dX3_chainsAreBetter_12 (by decide) ?_
    refine lv_goto (tgt := 17) hx hb dX3_chainsAreBetter_13 (by decide) ?_
    exact e_z true rfl hx hb hr hlocks dX3_chainsAreBetter_17 (congrArg bI (by simp; omega))

theorem fl_X3_lineUpByNumber_30 : Cond.fieldLink RX3 30 "BlockRows" "allByNumber" "LBlockRows$Line;" ∈ wsX3_lineUpByNumber := by decide +kernel
theorem fl_X3_lineUpByNumber_34 : Cond.fieldLink RX3 34 "BlockRows" "hotByNumber" "LBlockRows$Line;" ∈ wsX3_lineUpByNumber := by decide +kernel
theorem fl_X3_lineUpByNumber_40 : Cond.fieldLink RX3 40 "BlockRows" "blocks" "I" ∈ wsX3_lineUpByNumber := by decide +kernel
theorem fl_X3_lineUpByNumber_9 : Cond.fieldLink RX3 9 "BlockRows" "hot" "[Z" ∈ wsX3_lineUpByNumber := by decide +kernel
theorem in_X3_lineUpByNumber_X3 : ∀ w ∈ wsX30, w ∈ wsX3_lineUpByNumber := by decide +kernel
set_option maxHeartbeats 4000000 in
set_option maxRecDepth 100000 in
/-- BlockRows.lineUpByNumber -/
theorem c_luBN (l : Launch) (D : va_G) (cI cJ cZ : ClassId) (x xh w g a am ap b bm bp d aw hw cw n : Nat) (st : Bool) (hot : Nat → Bool) (n1 : Nat) (me1 : Nat → Nat) (pl1 : Nat → Option Nat) (n2 : Nat) (me2 : Nat → Nat) (pl2 : Nat → Option Nat) (hn : n ≤ 200) (sz : Nat) : Met l yX3_lineUpByNumber wsX3_lineUpByNumber ({ frames := 2, cells := 0, slots := 0, locals := 43 }) (PcM D cI cJ cZ [.ref x] [(x, .inr (3, [.ref xh, .ref w, .ref g, .ref a, .ref b, .ref d, .long (lN aw), .long (lN hw), .long (lN cw), .int (nI n), .int (bI st)])), (xh, .inl (cZ, 200, .inl (bIf hot))), (a, .inr (1, [.ref am, .ref ap, .int (nI n1)])), (am, .inl (cI, 200, .inl (nIf me1))), (ap, .inl (cI, 200, .inl (oIf pl1))), (b, .inr (1, [.ref bm, .ref bp, .int (nI n2)])), (bm, .inl (cI, 200, .inl (nIf me2))), (bp, .inl (cI, 200, .inl (oIf pl2)))] sz) (va_Qv (fun z : Nat × (Nat → Nat) × (Nat → Option Nat) × Nat × (Nat → Nat) × (Nat → Option Nat) => LR (List.range n) z.1 z.2.1 z.2.2.1 ∧ LR (hbL n hot) z.2.2.2.1 z.2.2.2.2.1 z.2.2.2.2.2) (Bm D [(x, .inr (3, [.ref xh, .ref w, .ref g, .ref a, .ref b, .ref d, .long (lN aw), .long (lN hw), .long (lN cw), .int (nI n), .int (bI st)])), (xh, .inl (cZ, 200, .inl (bIf hot))), (a, .inr (1, [.ref am, .ref ap, .int (nI n1)])), (am, .inl (cI, 200, .inl (nIf me1))), (ap, .inl (cI, 200, .inl (oIf pl1))), (b, .inr (1, [.ref bm, .ref bp, .int (nI n2)])), (bm, .inl (cI, 200, .inl (nIf me2))), (bp, .inl (cI, 200, .inl (oIf pl2)))] sz (fun z : Nat × (Nat → Nat) × (Nat → Option Nat) × Nat × (Nat → Nat) × (Nat → Option Nat) => [(x, .inr (3, [.ref xh, .ref w, .ref g, .ref a, .ref b, .ref d, .long (lN aw), .long (lN hw), .long (lN cw), .int (nI n), .int (bI st)])), (xh, .inl (cZ, 200, .inl (bIf hot))), (a, .inr (1, [.ref am, .ref ap, .int (nI z.1)])), (am, .inl (cI, 200, .inl (nIf z.2.1))), (ap, .inl (cI, 200, .inl (oIf z.2.2.1))), (b, .inr (1, [.ref bm, .ref bp, .int (nI z.2.2.2.1)])), (bm, .inl (cI, 200, .inl (nIf z.2.2.2.2.1))), (bp, .inl (cI, 200, .inl (oIf z.2.2.2.2.2)))])) (va_A [(x, .inr (3, [.ref xh, .ref w, .ref g, .ref a, .ref b, .ref d, .long (lN aw), .long (lN hw), .long (lN cw), .int (nI n), .int (bI st)])), (xh, .inl (cZ, 200, .inl (bIf hot))), (a, .inr (1, [.ref am, .ref ap, .int (nI n1)])), (am, .inl (cI, 200, .inl (nIf me1))), (ap, .inl (cI, 200, .inl (oIf pl1))), (b, .inr (1, [.ref bm, .ref bp, .int (nI n2)])), (bm, .inl (cI, 200, .inl (nIf me2))), (bp, .inl (cI, 200, .inl (oIf pl2)))] sz)) 0 0 (va_A [(x, .inr (3, [.ref xh, .ref w, .ref g, .ref a, .ref b, .ref d, .long (lN aw), .long (lN hw), .long (lN cw), .int (nI n), .int (bI st)])), (xh, .inl (cZ, 200, .inl (bIf hot))), (a, .inr (1, [.ref am, .ref ap, .int (nI n1)])), (am, .inl (cI, 200, .inl (nIf me1))), (ap, .inl (cI, 200, .inl (oIf pl1))), (b, .inr (1, [.ref bm, .ref bp, .int (nI n2)])), (bm, .inl (cI, 200, .inl (nIf me2))), (bp, .inl (cI, 200, .inl (oIf pl2)))] sz) := by
  refine startM (cc := cX3_lineUpByNumber) (maxL := 2) (ret := none) (by decide) rfl (Nat.le_of_ble_eq_true rfl) ?_
  intro p e s m below meth c ls A hA hAe hx hb hr hml hown hts hlocks hin hE hP hD hS hl
  have hl : lv_has ls 2 [(0, .ref x)] := hl
  refine lv_aload_n hx hb dX3_lineUpByNumber_0 rfl (lv_at hl 0 rfl) ?_
  refine va_get (D := D) (ci := 3) (v := .ref a) (C := RX3) (T := TX3) (N := 11) hx hb hts in_X3_lineUpByNumber_X3 hown hE.1 hP 0 rfl rfl 3 (by decide) (hts _ fl_X3_lineUpByNumber_30) (fun _ h9 => h9) rfl dX3_lineUpByNumber_1 ?_
  refine callMv (As := []) (rest := []) (wr := [(x, .inr (3, [.ref xh, .ref w, .ref g, .ref a, .ref b, .ref d, .long (lN aw), .long (lN hw), .long (lN cw), .int (nI n), .int (bI st)])), (xh, .inl (cZ, 200, .inl (bIf hot))), (b, .inr (1, [.ref bm, .ref bp, .int (nI n2)])), (bm, .inl (cI, 200, .inl (nIf me2))), (bp, .inl (cI, 200, .inl (oIf pl2)))]) ⟨hx, hb, hml, hown, hts⟩ (c_empty l D cI cJ cZ a am ap n1 me1 pl1 _) (cwV 0 hts gX3_lineUpByNumber_X1_empty rfl rfl rfl (by decide +kernel) ⟨Nat.le_of_ble_eq_true rfl, Nat.le_of_ble_eq_true rfl⟩) (preM hE hP hD 1 2 rfl rfl rfl [2, 3, 4] rfl rfl rfl) rfl hl.1 (Nat.le_of_ble_eq_true rfl) dX3_lineUpByNumber_4 ⟨Nat.zero_le _, Nat.zero_le _⟩ rfl hP hD hS hA [2, 3, 4] [0, 1, 5, 6, 7] rfl rfl (by decide) (by decide) (fun u_ H locs hu hP hD hS => ?_)
  have hP : va_P D vwCl [(x, .inr (3, [.ref xh, .ref w, .ref g, .ref a, .ref b, .ref d, .long (lN aw), .long (lN hw), .long (lN cw), .int (nI n), .int (bI st)])), (xh, .inl (cZ, 200, .inl (bIf hot))), (b, .inr (1, [.ref bm, .ref bp, .int (nI n2)])), (bm, .inl (cI, 200, .inl (nIf me2))), (bp, .inl (cI, 200, .inl (oIf pl2))), (a, .inr (1, [.ref am, .ref ap, .int (nI 0)])), (am, .inl (cI, 200, .inl (nIf me1))), (ap, .inl (cI, 200, .inl (oIf (fun _ => none))))] H := hP
  have hD : va_D A [(x, .inr (3, [.ref xh, .ref w, .ref g, .ref a, .ref b, .ref d, .long (lN aw), .long (lN hw), .long (lN cw), .int (nI n), .int (bI st)])), (xh, .inl (cZ, 200, .inl (bIf hot))), (b, .inr (1, [.ref bm, .ref bp, .int (nI n2)])), (bm, .inl (cI, 200, .inl (nIf me2))), (bp, .inl (cI, 200, .inl (oIf pl2))), (a, .inr (1, [.ref am, .ref ap, .int (nI 0)])), (am, .inl (cI, 200, .inl (nIf me1))), (ap, .inl (cI, 200, .inl (oIf (fun _ => none))))] := hD
  refine lv_aload_n hx hb dX3_lineUpByNumber_7 rfl (lv_at hl 0 rfl) ?_
  refine va_get (D := D) (ci := 3) (v := .ref b) (C := RX3) (T := TX3) (N := 11) hx hb hts in_X3_lineUpByNumber_X3 hown hE.1 hP 0 rfl rfl 4 (by decide) (hts _ fl_X3_lineUpByNumber_34) (fun _ h9 => h9) rfl dX3_lineUpByNumber_8 ?_
  refine callMv (As := []) (rest := []) (wr := [(x, .inr (3, [.ref xh, .ref w, .ref g, .ref a, .ref b, .ref d, .long (lN aw), .long (lN hw), .long (lN cw), .int (nI n), .int (bI st)])), (xh, .inl (cZ, 200, .inl (bIf hot))), (a, .inr (1, [.ref am, .ref ap, .int (nI 0)])), (am, .inl (cI, 200, .inl (nIf me1))), (ap, .inl (cI, 200, .inl (oIf (fun _ => none))))]) ⟨hx, hb, hml, hown, hts⟩ (c_empty l D cI cJ cZ b bm bp n2 me2 pl2 _) (cwV 0 hts gX3_lineUpByNumber_X1_empty rfl rfl rfl (by decide +kernel) ⟨Nat.le_of_ble_eq_true rfl, Nat.le_of_ble_eq_true rfl⟩) (preM hE hP hD 1 2 rfl rfl rfl [2, 3, 4] rfl rfl rfl) rfl hl.1 (Nat.le_of_ble_eq_true rfl) dX3_lineUpByNumber_11 ⟨Nat.zero_le _, Nat.zero_le _⟩ rfl hP hD hS hA [2, 3, 4] [0, 1, 5, 6, 7] rfl rfl (by decide) (by decide) (fun u_ H locs hu hP hD hS => ?_)
  have hP : va_P D vwCl [(x, .inr (3, [.ref xh, .ref w, .ref g, .ref a, .ref b, .ref d, .long (lN aw), .long (lN hw), .long (lN cw), .int (nI n), .int (bI st)])), (xh, .inl (cZ, 200, .inl (bIf hot))), (a, .inr (1, [.ref am, .ref ap, .int (nI 0)])), (am, .inl (cI, 200, .inl (nIf me1))), (ap, .inl (cI, 200, .inl (oIf (fun _ => none)))), (b, .inr (1, [.ref bm, .ref bp, .int (nI 0)])), (bm, .inl (cI, 200, .inl (nIf me2))), (bp, .inl (cI, 200, .inl (oIf (fun _ => none))))] H := hP
  have hD : va_D A [(x, .inr (3, [.ref xh, .ref w, .ref g, .ref a, .ref b, .ref d, .long (lN aw), .long (lN hw), .long (lN cw), .int (nI n), .int (bI st)])), (xh, .inl (cZ, 200, .inl (bIf hot))), (a, .inr (1, [.ref am, .ref ap, .int (nI 0)])), (am, .inl (cI, 200, .inl (nIf me1))), (ap, .inl (cI, 200, .inl (oIf (fun _ => none)))), (b, .inr (1, [.ref bm, .ref bp, .int (nI 0)])), (bm, .inl (cI, 200, .inl (nIf me2))), (bp, .inl (cI, 200, .inl (oIf (fun _ => none))))] := hD
  refine lv_iconst (v := nI 0) hx hb dX3_lineUpByNumber_14 (by decide) ?_
  refine lv_istore_n (lv' := [(1, .int (nI 0)), (0, .ref x)]) hx hb dX3_lineUpByNumber_15 rfl hl (by decide) rfl (fun ls hl => ?_)
  refine r_loop (σ := Nat × Nat × (Nat → Nat) × (Nat → Option Nat) × Nat × (Nat → Nat) × (Nat → Option Nat)) (fun z0 => n - z0.1) (fun z0 H locs ls => (z0.1 ≤ n ∧ LR (List.range z0.1) z0.2.1 z0.2.2.1 z0.2.2.2.1 ∧ LR (hbL z0.1 hot) z0.2.2.2.2.1 z0.2.2.2.2.2.1 z0.2.2.2.2.2.2) ∧ va_P D vwCl [(x, .inr (3, [.ref xh, .ref w, .ref g, .ref a, .ref b, .ref d, .long (lN aw), .long (lN hw), .long (lN cw), .int (nI n), .int (bI st)])), (xh, .inl (cZ, 200, .inl (bIf hot))), (a, .inr (1, [.ref am, .ref ap, .int (nI z0.2.1)])), (am, .inl (cI, 200, .inl (nIf z0.2.2.1))), (ap, .inl (cI, 200, .inl (oIf z0.2.2.2.1))), (b, .inr (1, [.ref bm, .ref bp, .int (nI z0.2.2.2.2.1)])), (bm, .inl (cI, 200, .inl (nIf z0.2.2.2.2.2.1))), (bp, .inl (cI, 200, .inl (oIf z0.2.2.2.2.2.2)))] H ∧ va_D A [(x, .inr (3, [.ref xh, .ref w, .ref g, .ref a, .ref b, .ref d, .long (lN aw), .long (lN hw), .long (lN cw), .int (nI n), .int (bI st)])), (xh, .inl (cZ, 200, .inl (bIf hot))), (a, .inr (1, [.ref am, .ref ap, .int (nI z0.2.1)])), (am, .inl (cI, 200, .inl (nIf z0.2.2.1))), (ap, .inl (cI, 200, .inl (oIf z0.2.2.2.1))), (b, .inr (1, [.ref bm, .ref bp, .int (nI z0.2.2.2.2.1)])), (bm, .inl (cI, 200, .inl (nIf z0.2.2.2.2.2.1))), (bp, .inl (cI, 200, .inl (oIf z0.2.2.2.2.2.2)))] ∧ va_S A s.heap H locs ∧ lv_has ls 2 [(0, .ref x), (1, .int (nI z0.1))]) ?_ (0, 0, me1, fun _ => none, 0, me2, fun _ => none) ⟨⟨Nat.zero_le _, LR_nil, LR_nil⟩, hP.sub [0, 1, 2, 3, 4, 5, 6, 7] rfl, hD.sub [0, 1, 2, 3, 4, 5, 6, 7] (by decide) rfl, hS, lv_sub hl [1, 0] rfl⟩
  rintro ⟨k, m1, f1, p1, m2, f2, p2⟩ H locs ls ⟨hi_16, hP, hD, hS, hl⟩ ih_16
  have hi_16 : k ≤ n ∧ LR (List.range k) m1 f1 p1 ∧ LR (hbL k hot) m2 f2 p2 := hi_16
  have hP : va_P D vwCl [(x, .inr (3, [.ref xh, .ref w, .ref g, .ref a, .ref b, .ref d, .long (lN aw), .long (lN hw), .long (lN cw), .int (nI n), .int (bI st)])), (xh, .inl (cZ, 200, .inl (bIf hot))), (a, .inr (1, [.ref am, .ref ap, .int (nI m1)])), (am, .inl (cI, 200, .inl (nIf f1))), (ap, .inl (cI, 200, .inl (oIf p1))), (b, .inr (1, [.ref bm, .ref bp, .int (nI m2)])), (bm, .inl (cI, 200, .inl (nIf f2))), (bp, .inl (cI, 200, .inl (oIf p2)))] H := hP
  have hD : va_D A [(x, .inr (3, [.ref xh, .ref w, .ref g, .ref a, .ref b, .ref d, .long (lN aw), .long (lN hw), .long (lN cw), .int (nI n), .int (bI st)])), (xh, .inl (cZ, 200, .inl (bIf hot))), (a, .inr (1, [.ref am, .ref ap, .int (nI m1)])), (am, .inl (cI, 200, .inl (nIf f1))), (ap, .inl (cI, 200, .inl (oIf p1))), (b, .inr (1, [.ref bm, .ref bp, .int (nI m2)])), (bm, .inl (cI, 200, .inl (nIf f2))), (bp, .inl (cI, 200, .inl (oIf p2)))] := hD
  have hl : lv_has ls 2 [(0, .ref x), (1, .int (nI k))] := hl
  obtain ⟨hi_a, hi_b, hi_c⟩ := id hi_16
  have hm1 : m1 = k := by rw [hi_b.1, List.length_range]
  have hm2 : m2 ≤ k := by rw [hi_c.1]; exact hbL_len k hot
  refine lv_iload_n hx hb dX3_lineUpByNumber_16 rfl (lv_at hl 1 rfl) ?_
  refine lv_aload_n hx hb dX3_lineUpByNumber_17 rfl (lv_at hl 0 rfl) ?_
  refine va_get (D := D) (ci := 3) (v := .int (nI n)) (C := RX3) (T := TX3) (N := 11) hx hb hts in_X3_lineUpByNumber_X3 hown hE.1 hP 0 rfl rfl 9 (by decide) (hts _ fl_X3_lineUpByNumber_40) (fun _ h9 => h9) rfl dX3_lineUpByNumber_18 ?_
  refine r_icmp_ge (tgt := 55) hx hb (x := k) (y := n) (by omega) (by omega) dX3_lineUpByNumber_21 (by decide) (fun c_21 => ?_) (fun c_21 => ?_)
  · skip
    have e9 : k = n := by omega
    subst e9
    exact e_mv (m1, f1, p1, m2, f2, p2) hAe hx hb hr hlocks dX3_lineUpByNumber_55 (hP.sub [0, 1, 2, 3, 4, 5, 6, 7] rfl) (hD.sub [0, 1, 2, 3, 4, 5, 6, 7] (by decide) rfl) hS ⟨hi_b, hi_c⟩
  · skip
    refine lv_aload_n hx hb dX3_lineUpByNumber_24 rfl (lv_at hl 0 rfl) ?_
    refine va_get (D := D) (ci := 3) (v := .ref a) (C := RX3) (T := TX3) (N := 11) hx hb hts in_X3_lineUpByNumber_X3 hown hE.1 hP 0 rfl rfl 3 (by decide) (hts _ fl_X3_lineUpByNumber_30) (fun _ h9 => h9) rfl dX3_lineUpByNumber_25 ?_
    refine lv_iload_n hx hb dX3_lineUpByNumber_28 rfl (lv_at hl 1 rfl) ?_
    refine callMv (As := [.int (nI k)]) (rest := []) (wr := [(x, .inr (3, [.ref xh, .ref w, .ref g, .ref a, .ref b, .ref d, .long (lN aw), .long (lN hw), .long (lN cw), .int (nI n), .int (bI st)])), (xh, .inl (cZ, 200, .inl (bIf hot))), (b, .inr (1, [.ref bm, .ref bp, .int (nI m2)])), (bm, .inl (cI, 200, .inl (nIf f2))), (bp, .inl (cI, 200, .inl (oIf p2)))]) ⟨hx, hb, hml, hown, hts⟩ (c_append l D cI cJ cZ a am ap m1 f1 p1 _ k (by omega) (by omega)) (cwV 1 hts gX3_lineUpByNumber_X1_append rfl rfl rfl (by decide +kernel) ⟨Nat.le_of_ble_eq_true rfl, Nat.le_of_ble_eq_true rfl⟩) (preM hE hP hD 1 2 rfl rfl rfl [2, 3, 4] rfl rfl rfl) rfl hl.1 (Nat.le_of_ble_eq_true rfl) dX3_lineUpByNumber_29 ⟨Nat.zero_le _, Nat.zero_le _⟩ rfl hP hD hS hA [2, 3, 4] [0, 1, 5, 6, 7] rfl rfl (by decide) (by decide) (fun u_ H locs hu hP hD hS => ?_)
    have hP : va_P D vwCl [(x, .inr (3, [.ref xh, .ref w, .ref g, .ref a, .ref b, .ref d, .long (lN aw), .long (lN hw), .long (lN cw), .int (nI n), .int (bI st)])), (xh, .inl (cZ, 200, .inl (bIf hot))), (b, .inr (1, [.ref bm, .ref bp, .int (nI m2)])), (bm, .inl (cI, 200, .inl (nIf f2))), (bp, .inl (cI, 200, .inl (oIf p2))), (a, .inr (1, [.ref am, .ref ap, .int (nI (m1 + 1))])), (am, .inl (cI, 200, .inl (nIf (va_up f1 m1 k)))), (ap, .inl (cI, 200, .inl (oIf (va_up p1 k (some m1)))))] H := hP
    have hD : va_D A [(x, .inr (3, [.ref xh, .ref w, .ref g, .ref a, .ref b, .ref d, .long (lN aw), .long (lN hw), .long (lN cw), .int (nI n), .int (bI st)])), (xh, .inl (cZ, 200, .inl (bIf hot))), (b, .inr (1, [.ref bm, .ref bp, .int (nI m2)])), (bm, .inl (cI, 200, .inl (nIf f2))), (bp, .inl (cI, 200, .inl (oIf p2))), (a, .inr (1, [.ref am, .ref ap, .int (nI (m1 + 1))])), (am, .inl (cI, 200, .inl (nIf (va_up f1 m1 k)))), (ap, .inl (cI, 200, .inl (oIf (va_up p1 k (some m1)))))] := hD
    refine lv_aload_n hx hb dX3_lineUpByNumber_32 rfl (lv_at hl 0 rfl) ?_
    refine va_get (D := D) (ci := 3) (v := .ref xh) (C := RX3) (T := TX3) (N := 11) hx hb hts in_X3_lineUpByNumber_X3 hown hE.1 hP 0 rfl rfl 0 (by decide) (hts _ fl_X3_lineUpByNumber_9) (fun _ h9 => h9) rfl dX3_lineUpByNumber_33 ?_
    refine lv_iload_n hx hb dX3_lineUpByNumber_36 rfl (lv_at hl 1 rfl) ?_
    refine r_bld hx hb hE hP 1 rfl (k := k) (by omega) (by decide) dX3_lineUpByNumber_37 ?_
    refine r_b_eq (tgt := 49) hx hb dX3_lineUpByNumber_38 (by decide) (fun c_38 => ?_) (fun c_38 => ?_)
    · skip
      refine lv_iinc (v := (nI (k + 1))) (lv' := [(1, .int (nI (k + 1))), (0, .ref x)]) hx hb dX3_lineUpByNumber_49 hl (k := 1) rfl (nI_1 _) (by decide) rfl (fun ls hl => ?_)
      refine lv_goto (tgt := 16) hx hb dX3_lineUpByNumber_52 (by decide) ?_
      exact ih_16 (k + 1, m1 + 1, va_up f1 m1 k, va_up p1 k (some m1), m2, f2, p2) _ _ _ ⟨(show (k + 1) ≤ n ∧ LR (List.range ((k + 1))) (m1 + 1) (va_up f1 m1 k) (va_up p1 k (some m1)) ∧ LR (hbL ((k + 1)) hot) m2 f2 p2 from ⟨by omega, range_LR_push hi_b, hbL_LR_skip hi_c c_38⟩), hP.sub [0, 1, 5, 6, 7, 2, 3, 4] rfl, hD.sub [0, 1, 5, 6, 7, 2, 3, 4] (by decide) rfl, hS, lv_sub hl [1, 0] rfl⟩ (by show n - (k + 1) < n - k; omega)
    · skip
      refine lv_aload_n hx hb dX3_lineUpByNumber_41 rfl (lv_at hl 0 rfl) ?_
      refine va_get (D := D) (ci := 3) (v := .ref b) (C := RX3) (T := TX3) (N := 11) hx hb hts in_X3_lineUpByNumber_X3 hown hE.1 hP 0 rfl rfl 4 (by decide) (hts _ fl_X3_lineUpByNumber_34) (fun _ h9 => h9) rfl dX3_lineUpByNumber_42 ?_
      refine lv_iload_n hx hb dX3_lineUpByNumber_45 rfl (lv_at hl 1 rfl) ?_
      refine callMv (As := [.int (nI k)]) (rest := []) (wr := [(x, .inr (3, [.ref xh, .ref w, .ref g, .ref a, .ref b, .ref d, .long (lN aw), .long (lN hw), .long (lN cw), .int (nI n), .int (bI st)])), (xh, .inl (cZ, 200, .inl (bIf hot))), (a, .inr (1, [.ref am, .ref ap, .int (nI (m1 + 1))])), (am, .inl (cI, 200, .inl (nIf (va_up f1 m1 k)))), (ap, .inl (cI, 200, .inl (oIf (va_up p1 k (some m1)))))]) ⟨hx, hb, hml, hown, hts⟩ (c_append l D cI cJ cZ b bm bp m2 f2 p2 _ k (by omega) (by omega)) (cwV 1 hts gX3_lineUpByNumber_X1_append rfl rfl rfl (by decide +kernel) ⟨Nat.le_of_ble_eq_true rfl, Nat.le_of_ble_eq_true rfl⟩) (preM hE hP hD 1 2 rfl rfl rfl [2, 3, 4] rfl rfl rfl) rfl hl.1 (Nat.le_of_ble_eq_true rfl) dX3_lineUpByNumber_46 ⟨Nat.zero_le _, Nat.zero_le _⟩ rfl hP hD hS hA [2, 3, 4] [0, 1, 5, 6, 7] rfl rfl (by decide) (by decide) (fun u_ H locs hu hP hD hS => ?_)
      have hP : va_P D vwCl [(x, .inr (3, [.ref xh, .ref w, .ref g, .ref a, .ref b, .ref d, .long (lN aw), .long (lN hw), .long (lN cw), .int (nI n), .int (bI st)])), (xh, .inl (cZ, 200, .inl (bIf hot))), (a, .inr (1, [.ref am, .ref ap, .int (nI (m1 + 1))])), (am, .inl (cI, 200, .inl (nIf (va_up f1 m1 k)))), (ap, .inl (cI, 200, .inl (oIf (va_up p1 k (some m1))))), (b, .inr (1, [.ref bm, .ref bp, .int (nI (m2 + 1))])), (bm, .inl (cI, 200, .inl (nIf (va_up f2 m2 k)))), (bp, .inl (cI, 200, .inl (oIf (va_up p2 k (some m2)))))] H := hP
      have hD : va_D A [(x, .inr (3, [.ref xh, .ref w, .ref g, .ref a, .ref b, .ref d, .long (lN aw), .long (lN hw), .long (lN cw), .int (nI n), .int (bI st)])), (xh, .inl (cZ, 200, .inl (bIf hot))), (a, .inr (1, [.ref am, .ref ap, .int (nI (m1 + 1))])), (am, .inl (cI, 200, .inl (nIf (va_up f1 m1 k)))), (ap, .inl (cI, 200, .inl (oIf (va_up p1 k (some m1))))), (b, .inr (1, [.ref bm, .ref bp, .int (nI (m2 + 1))])), (bm, .inl (cI, 200, .inl (nIf (va_up f2 m2 k)))), (bp, .inl (cI, 200, .inl (oIf (va_up p2 k (some m2)))))] := hD
      refine lv_iinc (v := (nI (k + 1))) (lv' := [(1, .int (nI (k + 1))), (0, .ref x)]) hx hb dX3_lineUpByNumber_49 hl (k := 1) rfl (nI_1 _) (by decide) rfl (fun ls hl => ?_)
      refine lv_goto (tgt := 16) hx hb dX3_lineUpByNumber_52 (by decide) ?_
      exact ih_16 (k + 1, m1 + 1, va_up f1 m1 k, va_up p1 k (some m1), m2 + 1, va_up f2 m2 k, va_up p2 k (some m2)) _ _ _ ⟨(show (k + 1) ≤ n ∧ LR (List.range ((k + 1))) (m1 + 1) (va_up f1 m1 k) (va_up p1 k (some m1)) ∧ LR (hbL ((k + 1)) hot) (m2 + 1) (va_up f2 m2 k) (va_up p2 k (some m2)) from ⟨by omega, range_LR_push hi_b, hbL_LR_push hi_c c_38⟩), hP.sub [0, 1, 2, 3, 4, 5, 6, 7] rfl, hD.sub [0, 1, 2, 3, 4, 5, 6, 7] (by decide) rfl, hS, lv_sub hl [1, 0] rfl⟩ (by show n - (k + 1) < n - k; omega)

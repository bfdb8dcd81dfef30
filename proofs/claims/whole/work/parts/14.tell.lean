theorem fl_X2_add_15 : Cond.fieldLink RX2 15 "BlockRows$Ways" "to" "[I" ∈ wsX2_add := by decide +kernel
theorem fl_X2_add_18 : Cond.fieldLink RX2 18 "BlockRows$Ways" "counts" "[J" ∈ wsX2_add := by decide +kernel
theorem fl_X2_add_26 : Cond.fieldLink RX2 26 "BlockRows$Ways" "known" "I" ∈ wsX2_add := by decide +kernel
theorem fl_X2_add_9 : Cond.fieldLink RX2 9 "BlockRows$Ways" "from" "[I" ∈ wsX2_add := by decide +kernel
theorem in_X2_add_X2 : ∀ w ∈ wsX20, w ∈ wsX2_add := by decide +kernel
set_option maxHeartbeats 4000000 in
set_option maxRecDepth 100000 in
/-- Ways.add: there is room -/
theorem c_addOk (l : Launch) (D : va_G) (cI cJ cZ : ClassId) (h af at_ ac al kn : Nat) (fr tt ct : Nat → Nat) (fa : Nat → Bool) (sz : Nat) (hkn : kn < 1000) (u v : Nat) : Met l yX2_add wsX2_add ({ frames := 0, cells := 0, slots := 0, locals := 0 }) (PcM D cI cJ cZ [.ref h, .int (nI u), .int (nI v)] [(h, .inr (2, [.ref af, .ref at_, .ref ac, .ref al, .int (nI kn)])), (af, .inl (cI, 1000, .inl (nIf fr))), (at_, .inl (cI, 1000, .inl (nIf tt))), (ac, .inl (cJ, 1000, .inr (.inl (lNf ct)))), (al, .inl (cZ, 1000, .inl (bIf fa)))] sz) (va_Qi (fun r (_ : Unit) => r = nI kn) (Bm D [(h, .inr (2, [.ref af, .ref at_, .ref ac, .ref al, .int (nI kn)])), (af, .inl (cI, 1000, .inl (nIf fr))), (at_, .inl (cI, 1000, .inl (nIf tt))), (ac, .inl (cJ, 1000, .inr (.inl (lNf ct)))), (al, .inl (cZ, 1000, .inl (bIf fa)))] sz (fun _ : Unit => [(h, .inr (2, [.ref af, .ref at_, .ref ac, .ref al, .int (nI (kn + 1))])), (af, .inl (cI, 1000, .inl (nIf (va_up fr kn u)))), (at_, .inl (cI, 1000, .inl (nIf (va_up tt kn v)))), (ac, .inl (cJ, 1000, .inr (.inl (lNf (va_up ct kn 0))))), (al, .inl (cZ, 1000, .inl (bIf fa)))])) (va_A [(h, .inr (2, [.ref af, .ref at_, .ref ac, .ref al, .int (nI kn)])), (af, .inl (cI, 1000, .inl (nIf fr))), (at_, .inl (cI, 1000, .inl (nIf tt))), (ac, .inl (cJ, 1000, .inr (.inl (lNf ct)))), (al, .inl (cZ, 1000, .inl (bIf fa)))] sz)) 0 0 (va_A [(h, .inr (2, [.ref af, .ref at_, .ref ac, .ref al, .int (nI kn)])), (af, .inl (cI, 1000, .inl (nIf fr))), (at_, .inl (cI, 1000, .inl (nIf tt))), (ac, .inl (cJ, 1000, .inr (.inl (lNf ct)))), (al, .inl (cZ, 1000, .inl (bIf fa)))] sz) := by
  refine startM (cc := cX2_add) (maxL := 4) (ret := (some .int)) (by decide) rfl (Nat.le_of_ble_eq_true rfl) ?_
  intro p e s m below meth c ls A hA hAe hx hb hr hml hown hts hlocks hin hE hP hD hS hl
  have hl : lv_has ls 4 [(0, .ref h), (1, .int (nI u)), (2, .int (nI v))] := hl
  refine lv_aload_n hx hb dX2_add_0 rfl (lv_at hl 0 rfl) ?_
  refine va_get (D := D) (ci := 2) (v := .int (nI kn)) (C := RX2) (T := TX2) (N := 5) hx hb hts in_X2_add_X2 hown hE.1 hP 0 rfl rfl 4 (by decide) (hts _ fl_X2_add_26) (fun _ h9 => h9) rfl dX2_add_1 ?_
  refine lv_sipush (v := nI 1000) hx hb dX2_add_4 (by decide) ?_
  refine r_icmp_lt (tgt := 12) hx hb (x := kn) (y := 1000) (by omega) (by omega) dX2_add_7 (by decide) (fun c_7 => ?_) (fun c_7 => ?_)
  · skip
    refine lv_aload_n hx hb dX2_add_12 rfl (lv_at hl 0 rfl) ?_
    refine va_get (D := D) (ci := 2) (v := .int (nI kn)) (C := RX2) (T := TX2) (N := 5) hx hb hts in_X2_add_X2 hown hE.1 hP 0 rfl rfl 4 (by decide) (hts _ fl_X2_add_26) (fun _ h9 => h9) rfl dX2_add_13 ?_
    refine lv_istore_n (lv' := [(3, .int (nI kn)), (0, .ref h), (1, .int (nI u)), (2, .int (nI v))]) hx hb dX2_add_16 rfl hl (by decide) rfl (fun ls hl => ?_)
    refine lv_aload_n hx hb dX2_add_17 rfl (lv_at hl 1 rfl) ?_
    refine va_get (D := D) (ci := 2) (v := .ref af) (C := RX2) (T := TX2) (N := 5) hx hb hts in_X2_add_X2 hown hE.1 hP 0 rfl rfl 0 (by decide) (hts _ fl_X2_add_9) (fun _ h9 => h9) rfl dX2_add_18 ?_
    refine lv_iload_n hx hb dX2_add_21 rfl (lv_at hl 0 rfl) ?_
    refine lv_iload_n hx hb dX2_add_22 rfl (lv_at hl 2 rfl) ?_
    refine r_nst hx hb hE hP hD hS 1 rfl (k := kn) (x := u) (by omega) (by decide) dX2_add_23 (fun H locs hP hD hS => ?_)
    have hP : va_P D vwCl [(h, .inr (2, [.ref af, .ref at_, .ref ac, .ref al, .int (nI kn)])), (af, .inl (cI, 1000, .inl (nIf (va_up fr kn u)))), (at_, .inl (cI, 1000, .inl (nIf tt))), (ac, .inl (cJ, 1000, .inr (.inl (lNf ct)))), (al, .inl (cZ, 1000, .inl (bIf fa)))] H := hP
    have hD : va_D A [(h, .inr (2, [.ref af, .ref at_, .ref ac, .ref al, .int (nI kn)])), (af, .inl (cI, 1000, .inl (nIf (va_up fr kn u)))), (at_, .inl (cI, 1000, .inl (nIf tt))), (ac, .inl (cJ, 1000, .inr (.inl (lNf ct)))), (al, .inl (cZ, 1000, .inl (bIf fa)))] := hD
    refine lv_aload_n hx hb dX2_add_24 rfl (lv_at hl 1 rfl) ?_
    refine va_get (D := D) (ci := 2) (v := .ref at_) (C := RX2) (T := TX2) (N := 5) hx hb hts in_X2_add_X2 hown hE.1 hP 0 rfl rfl 1 (by decide) (hts _ fl_X2_add_15) (fun _ h9 => h9) rfl dX2_add_25 ?_
    refine lv_iload_n hx hb dX2_add_28 rfl (lv_at hl 0 rfl) ?_
    refine lv_iload_n hx hb dX2_add_29 rfl (lv_at hl 3 rfl) ?_
    refine r_nst hx hb hE hP hD hS 2 rfl (k := kn) (x := v) (by omega) (by decide) dX2_add_30 (fun H locs hP hD hS => ?_)
    have hP : va_P D vwCl [(h, .inr (2, [.ref af, .ref at_, .ref ac, .ref al, .int (nI kn)])), (af, .inl (cI, 1000, .inl (nIf (va_up fr kn u)))), (at_, .inl (cI, 1000, .inl (nIf (va_up tt kn v)))), (ac, .inl (cJ, 1000, .inr (.inl (lNf ct)))), (al, .inl (cZ, 1000, .inl (bIf fa)))] H := hP
    have hD : va_D A [(h, .inr (2, [.ref af, .ref at_, .ref ac, .ref al, .int (nI kn)])), (af, .inl (cI, 1000, .inl (nIf (va_up fr kn u)))), (at_, .inl (cI, 1000, .inl (nIf (va_up tt kn v)))), (ac, .inl (cJ, 1000, .inr (.inl (lNf ct)))), (al, .inl (cZ, 1000, .inl (bIf fa)))] := hD
    refine lv_aload_n hx hb dX2_add_31 rfl (lv_at hl 1 rfl) ?_
    refine va_get (D := D) (ci := 2) (v := .ref ac) (C := RX2) (T := TX2) (N := 5) hx hb hts in_X2_add_X2 hown hE.1 hP 0 rfl rfl 2 (by decide) (hts _ fl_X2_add_18) (fun _ h9 => h9) rfl dX2_add_32 ?_
    refine lv_iload_n hx hb dX2_add_35 rfl (lv_at hl 0 rfl) ?_
    refine lv_lconst (v := lN 0) hx hb dX2_add_36 (by decide) ?_
    refine r_lst hx hb hE hP hD hS 3 rfl (k := kn) (x := 0) (by omega) (by decide) dX2_add_37 (fun H locs hP hD hS => ?_)
    have hP : va_P D vwCl [(h, .inr (2, [.ref af, .ref at_, .ref ac, .ref al, .int (nI kn)])), (af, .inl (cI, 1000, .inl (nIf (va_up fr kn u)))), (at_, .inl (cI, 1000, .inl (nIf (va_up tt kn v)))), (ac, .inl (cJ, 1000, .inr (.inl (lNf (va_up ct kn 0))))), (al, .inl (cZ, 1000, .inl (bIf fa)))] H := hP
    have hD : va_D A [(h, .inr (2, [.ref af, .ref at_, .ref ac, .ref al, .int (nI kn)])), (af, .inl (cI, 1000, .inl (nIf (va_up fr kn u)))), (at_, .inl (cI, 1000, .inl (nIf (va_up tt kn v)))), (ac, .inl (cJ, 1000, .inr (.inl (lNf (va_up ct kn 0))))), (al, .inl (cZ, 1000, .inl (bIf fa)))] := hD
    refine lv_aload_n hx hb dX2_add_38 rfl (lv_at hl 1 rfl) ?_
    refine lv_dup hx hb dX2_add_39 rfl ?_
    refine va_get (D := D) (ci := 2) (v := .int (nI kn)) (C := RX2) (T := TX2) (N := 5) hx hb hts in_X2_add_X2 hown hE.1 hP 0 rfl rfl 4 (by decide) (hts _ fl_X2_add_26) (fun _ h9 => h9) rfl dX2_add_40 ?_
    refine lv_iconst (v := nI 1) hx hb dX2_add_43 (by decide) ?_
    refine r_iadd hx hb dX2_add_44 ?_
    refine va_put (D := D) (ci := 2) (v := .int (nI (kn + 1))) (ty := .int) (C := RX2) (T := TX2) (N := 5) hx hb hts in_X2_add_X2 tyX2 tyX2_ok nmX2 hown hE.1 hP hD hS 0 rfl rfl 4 (by decide) (hts _ fl_X2_add_26) (fun _ h9 => h9) rfl (by decide +kernel) rfl rfl (Nat.le_of_ble_eq_true rfl) dX2_add_45 (fun H locs hP hD hS => ?_)
    have hP : va_P D vwCl [(h, .inr (2, [.ref af, .ref at_, .ref ac, .ref al, .int (nI (kn + 1))])), (af, .inl (cI, 1000, .inl (nIf (va_up fr kn u)))), (at_, .inl (cI, 1000, .inl (nIf (va_up tt kn v)))), (ac, .inl (cJ, 1000, .inr (.inl (lNf (va_up ct kn 0))))), (al, .inl (cZ, 1000, .inl (bIf fa)))] H := hP
    have hD : va_D A [(h, .inr (2, [.ref af, .ref at_, .ref ac, .ref al, .int (nI (kn + 1))])), (af, .inl (cI, 1000, .inl (nIf (va_up fr kn u)))), (at_, .inl (cI, 1000, .inl (nIf (va_up tt kn v)))), (ac, .inl (cJ, 1000, .inr (.inl (lNf (va_up ct kn 0))))), (al, .inl (cZ, 1000, .inl (bIf fa)))] := hD
    refine lv_iload_n hx hb dX2_add_48 rfl (lv_at hl 0 rfl) ?_
    exact e_mi () hAe hx hb hr hlocks dX2_add_49 hP hD hS rfl
  · skip
    exact absurd c_7 (by omega)

theorem flf_X2_add_26 : Cond.fieldLink RX2 26 "BlockRows$Ways" "known" "I" ∈ wsX2_add := by decide +kernel
theorem inf_X2_add_X2 : ∀ w ∈ wsX20, w ∈ wsX2_add := by decide +kernel
set_option maxHeartbeats 4000000 in
set_option maxRecDepth 100000 in
/-- Ways.add: no room -/
theorem c_addFull (l : Launch) (D : va_G) (cI cJ cZ : ClassId) (h af at_ ac al kn : Nat) (fr tt ct : Nat → Nat) (fa : Nat → Bool) (sz : Nat) (hkn : kn = 1000) (u v : Nat) : Met l yX2_add wsX2_add ({ frames := 0, cells := 0, slots := 0, locals := 0 }) (PcM D cI cJ cZ [.ref h, .int (nI u), .int (nI v)] [(h, .inr (2, [.ref af, .ref at_, .ref ac, .ref al, .int (nI kn)])), (af, .inl (cI, 1000, .inl (nIf fr))), (at_, .inl (cI, 1000, .inl (nIf tt))), (ac, .inl (cJ, 1000, .inr (.inl (lNf ct)))), (al, .inl (cZ, 1000, .inl (bIf fa)))] sz) (va_Qi (fun r (_ : Unit) => r = -1) (Bm D [(h, .inr (2, [.ref af, .ref at_, .ref ac, .ref al, .int (nI kn)])), (af, .inl (cI, 1000, .inl (nIf fr))), (at_, .inl (cI, 1000, .inl (nIf tt))), (ac, .inl (cJ, 1000, .inr (.inl (lNf ct)))), (al, .inl (cZ, 1000, .inl (bIf fa)))] sz (fun _ : Unit => [(h, .inr (2, [.ref af, .ref at_, .ref ac, .ref al, .int (nI kn)])), (af, .inl (cI, 1000, .inl (nIf fr))), (at_, .inl (cI, 1000, .inl (nIf tt))), (ac, .inl (cJ, 1000, .inr (.inl (lNf ct)))), (al, .inl (cZ, 1000, .inl (bIf fa)))])) (va_A [(h, .inr (2, [.ref af, .ref at_, .ref ac, .ref al, .int (nI kn)])), (af, .inl (cI, 1000, .inl (nIf fr))), (at_, .inl (cI, 1000, .inl (nIf tt))), (ac, .inl (cJ, 1000, .inr (.inl (lNf ct)))), (al, .inl (cZ, 1000, .inl (bIf fa)))] sz)) 0 0 (va_A [(h, .inr (2, [.ref af, .ref at_, .ref ac, .ref al, .int (nI kn)])), (af, .inl (cI, 1000, .inl (nIf fr))), (at_, .inl (cI, 1000, .inl (nIf tt))), (ac, .inl (cJ, 1000, .inr (.inl (lNf ct)))), (al, .inl (cZ, 1000, .inl (bIf fa)))] sz) := by
  refine startM (cc := cX2_add) (maxL := 4) (ret := (some .int)) (by decide) rfl (Nat.le_of_ble_eq_true rfl) ?_
  intro p e s m below meth c ls A hA hAe hx hb hr hml hown hts hlocks hin hE hP hD hS hl
  have hl : lv_has ls 4 [(0, .ref h), (1, .int (nI u)), (2, .int (nI v))] := hl
  refine lv_aload_n hx hb dX2_add_0 rfl (lv_at hl 0 rfl) ?_
  refine va_get (D := D) (ci := 2) (v := .int (nI kn)) (C := RX2) (T := TX2) (N := 5) hx hb hts inf_X2_add_X2 hown hE.1 hP 0 rfl rfl 4 (by decide) (hts _ flf_X2_add_26) (fun _ h9 => h9) rfl dX2_add_1 ?_
  refine lv_sipush (v := nI 1000) hx hb dX2_add_4 (by decide) ?_
  refine r_icmp_lt (tgt := 12) hx hb (x := kn) (y := 1000) (by omega) (by omega) dX2_add_7 (by decide) (fun c_7 => ?_) (fun c_7 => ?_)
  · skip
    exact absurd c_7 (by omega)
  · skip
    refine lv_iconst (v := -1) hx hb dX2_add_10 (by decide) ?_
    exact e_mi () hAe hx hb hr hlocks dX2_add_11 hP hD hS rfl

theorem fl_X2_tell_18 : Cond.fieldLink RX2 18 "BlockRows$Ways" "counts" "[J" ∈ wsX2_tell := by decide +kernel
theorem fl_X2_tell_22 : Cond.fieldLink RX2 22 "BlockRows$Ways" "falling" "[Z" ∈ wsX2_tell := by decide +kernel
theorem in_X2_tell_X2 : ∀ w ∈ wsX20, w ∈ wsX2_tell := by decide +kernel
theorem wd_X2_tell_c37 : Cond.constantLong RX2 37 (-3) ∈ wsX2_tell := by decide +kernel
theorem wd_X2_tell_c39 : Cond.constantLong RX2 39 (1000000000000000) ∈ wsX2_tell := by decide +kernel
theorem wd_X2_tell_min0 : Cond.methodLink RX2 41 Lib.MathLoose.min_long.x ∈ wsX2_tell := by decide +kernel
theorem wd_X2_tell_min1 : Cond.static Lib.MathLoose.min_long.x ∈ wsX2_tell := by decide +kernel
theorem wd_X2_tell_min2 : Cond.initialized "java/lang/Math" ∈ wsX2_tell := by decide +kernel
theorem wd_X2_tell_min3 : Cond.code Lib.MathLoose.min_long.x Lib.MathLoose.min_long.code 4 (some .long) ∈ wsX2_tell := by decide +kernel
set_option maxHeartbeats 4000000 in
set_option maxRecDepth 100000 in
/-- Ways.tell -/
theorem c_tell (l : Launch) (D : va_G) (cI cJ cZ : ClassId) (h af at_ ac al kn : Nat) (fr tt ct : Nat → Nat) (fa : Nat → Bool) (sz : Nat) (hkn : kn ≤ 1000) (hB : WB fr tt ct) (hS0 : Srt kn (pk fr tt ct fa)) (hK0 : KdL (wl kn (pk fr tt ct fa))) (u v cn : Nat) (fl : Bool) (hu2 : u < 200) (hv2 : v < 200) (hcn : cn ≤ 1000000000) : Met l yX2_tell wsX2_tell ({ frames := 2, cells := 0, slots := 0, locals := 49 }) (PcM D cI cJ cZ [.ref h, .int (nI u), .int (nI v), .int (nI cn), .int (bI fl)] [(h, .inr (2, [.ref af, .ref at_, .ref ac, .ref al, .int (nI kn)])), (af, .inl (cI, 1000, .inl (nIf fr))), (at_, .inl (cI, 1000, .inl (nIf tt))), (ac, .inl (cJ, 1000, .inr (.inl (lNf ct)))), (al, .inl (cZ, 1000, .inl (bIf fa)))] sz) (va_Ql (fun r (z : (Nat → Nat) × (Nat → Nat) × (Nat → Nat) × (Nat → Bool) × Nat) => TellPost (wl kn (pk fr tt ct fa)) u v cn fl r z.2.2.2.2 (pk z.1 z.2.1 z.2.2.1 z.2.2.2.1) ∧ WB z.1 z.2.1 z.2.2.1) (Bm D [(h, .inr (2, [.ref af, .ref at_, .ref ac, .ref al, .int (nI kn)])), (af, .inl (cI, 1000, .inl (nIf fr))), (at_, .inl (cI, 1000, .inl (nIf tt))), (ac, .inl (cJ, 1000, .inr (.inl (lNf ct)))), (al, .inl (cZ, 1000, .inl (bIf fa)))] sz (fun z : (Nat → Nat) × (Nat → Nat) × (Nat → Nat) × (Nat → Bool) × Nat => [(h, .inr (2, [.ref af, .ref at_, .ref ac, .ref al, .int (nI z.2.2.2.2)])), (af, .inl (cI, 1000, .inl (nIf z.1))), (at_, .inl (cI, 1000, .inl (nIf z.2.1))), (ac, .inl (cJ, 1000, .inr (.inl (lNf z.2.2.1)))), (al, .inl (cZ, 1000, .inl (bIf z.2.2.2.1)))])) (va_A [(h, .inr (2, [.ref af, .ref at_, .ref ac, .ref al, .int (nI kn)])), (af, .inl (cI, 1000, .inl (nIf fr))), (at_, .inl (cI, 1000, .inl (nIf tt))), (ac, .inl (cJ, 1000, .inr (.inl (lNf ct)))), (al, .inl (cZ, 1000, .inl (bIf fa)))] sz)) 0 0 (va_A [(h, .inr (2, [.ref af, .ref at_, .ref ac, .ref al, .int (nI kn)])), (af, .inl (cI, 1000, .inl (nIf fr))), (at_, .inl (cI, 1000, .inl (nIf tt))), (ac, .inl (cJ, 1000, .inr (.inl (lNf ct)))), (al, .inl (cZ, 1000, .inl (bIf fa)))] sz) := by
  refine startM (cc := cX2_tell) (maxL := 8) (ret := (some .long)) (by decide) rfl (Nat.le_of_ble_eq_true rfl) ?_
  intro p e s m below meth c ls A hA hAe hx hb hr hml hown hts hlocks hin hE hP hD hS hl
  have hl : lv_has ls 8 [(0, .ref h), (1, .int (nI u)), (2, .int (nI v)), (3, .int (nI cn)), (4, .int (bI fl))] := hl
  refine lv_aload_n hx hb dX2_tell_0 rfl (lv_at hl 0 rfl) ?_
  refine lv_iload_n hx hb dX2_tell_1 rfl (lv_at hl 1 rfl) ?_
  refine lv_iload_n hx hb dX2_tell_2 rfl (lv_at hl 2 rfl) ?_
  refine callRi (As := [.int (nI u), .int (nI v)]) (rest := []) ⟨hx, hb, hml, hown, hts⟩ (c_find l D cI cJ cZ h af at_ ac al kn fr tt ct fa hkn (nI u) (nI v)) (cwV 2 hts gX2_tell_X2_find rfl rfl rfl (by decide +kernel) ⟨Nat.le_of_ble_eq_true rfl, Nat.le_of_ble_eq_true rfl⟩) (preR hE hP 2 0 rfl rfl rfl [0, 1, 2, 3, 4] rfl) rfl hl.1 (Nat.le_of_ble_eq_true rfl) dX2_tell_3 ⟨Nat.zero_le _, Nat.zero_le _⟩ rfl (fun r1 hr1 => ?_)
  obtain ⟨o, rfl, hF⟩ := hr1
  have hob : ∀ j, o = some j → j < 1000 := fun j hj => by subst hj; exact Nat.lt_of_lt_of_le hF.1 hkn
  refine lv_istore (lv' := [(5, .int (oI o)), (0, .ref h), (1, .int (nI u)), (2, .int (nI v)), (3, .int (nI cn)), (4, .int (bI fl))]) hx hb dX2_tell_6 hl (by decide) rfl (fun ls hl => ?_)
  refine lv_iload hx hb dX2_tell_8 (lv_at hl 0 rfl) ?_
  refine lv_iconst (v := -1) hx hb dX2_tell_10 (by decide) ?_
  refine r_o_ne (tgt := 22) hx hb (o := o) (q := none) rfl rfl (fun j hj => by have := hob j hj; omega) (fun j h => by cases h) dX2_tell_11 (by decide) (fun c_11 => ?_) (fun c_11 => ?_)
  · skip
    obtain ⟨k, rfl⟩ := Option.ne_none_iff_exists'.mp c_11
    have hk2 := hob k rfl
    have hctk := (hB k).2.2
    have hl : lv_has ls 8 [(5, .int (nI k)), (0, .ref h), (1, .int (nI u)), (2, .int (nI v)), (3, .int (nI cn)), (4, .int (bI fl))] := hl
    refine lv_iload hx hb dX2_tell_22 (lv_at hl 0 rfl) ?_
    refine lv_iconst (v := -1) hx hb dX2_tell_24 (by decide) ?_
    refine r_o_ne (tgt := 32) hx hb (o := some k) (q := none) rfl rfl (fun j h => by cases h; omega) (fun j h => by cases h) dX2_tell_25 (by decide) (fun c_25 => ?_) (fun c_25 => ?_)
    · skip
      refine lv_ldc2 (v := 1000000000000000) hx hb hown (hts _ wd_X2_tell_c39) dX2_tell_32 ?_
      refine r_as (w := .long (lN 1000000000000000)) (by decide) ?_
      refine lv_aload_n hx hb dX2_tell_35 rfl (lv_at hl 1 rfl) ?_
      refine va_get (D := D) (ci := 2) (v := .ref ac) (C := RX2) (T := TX2) (N := 5) hx hb hts in_X2_tell_X2 hown hE.1 hP 0 rfl rfl 2 (by decide) (hts _ fl_X2_tell_18) (fun _ h9 => h9) rfl dX2_tell_36 ?_
      refine lv_iload hx hb dX2_tell_39 (lv_at hl 0 rfl) ?_
      refine r_lld hx hb hE hP 3 rfl (k := k) (by omega) (by decide) dX2_tell_41 ?_
      refine lv_iload_n hx hb dX2_tell_42 rfl (lv_at hl 4 rfl) ?_
      refine r_i2l hx hb (by omega) dX2_tell_43 ?_
      refine r_ladd hx hb dX2_tell_44 ?_
      refine r_lmin hx hb (hml.trans hl.1.symm) hown (hts _ wd_X2_tell_min0) (hts _ wd_X2_tell_min1) (hts _ wd_X2_tell_min2) (hts _ wd_X2_tell_min3) (Nat.le_of_ble_eq_true rfl) (Nat.le_of_ble_eq_true rfl) (Nat.zero_le _) (Nat.zero_le _) (x := 1000000000000000) (y := (ct k) + cn) (by decide) (by omega) dX2_tell_45 ?_
      obtain ⟨c1, hc1⟩ : ∃ c1, c1 = min 1000000000000000 ((ct k) + cn) := ⟨_, rfl⟩
      rw [← hc1]
      refine lv_lstore (lv' := [(6, .long (lN c1)), (5, .int (nI k)), (0, .ref h), (1, .int (nI u)), (2, .int (nI v)), (3, .int (nI cn)), (4, .int (bI fl))]) hx hb dX2_tell_48 hl (by decide) rfl (fun ls hl => ?_)
      refine lv_aload_n hx hb dX2_tell_50 rfl (lv_at hl 2 rfl) ?_
      refine va_get (D := D) (ci := 2) (v := .ref ac) (C := RX2) (T := TX2) (N := 5) hx hb hts in_X2_tell_X2 hown hE.1 hP 0 rfl rfl 2 (by decide) (hts _ fl_X2_tell_18) (fun _ h9 => h9) rfl dX2_tell_51 ?_
      refine lv_iload hx hb dX2_tell_54 (lv_at hl 1 rfl) ?_
      refine lv_lload hx hb dX2_tell_56 (lv_at hl 0 rfl) ?_
      refine r_lst hx hb hE hP hD hS 3 rfl (k := k) (x := c1) (by omega) (by decide) dX2_tell_58 (fun H locs hP hD hS => ?_)
      have hP : va_P D vwCl [(h, .inr (2, [.ref af, .ref at_, .ref ac, .ref al, .int (nI kn)])), (af, .inl (cI, 1000, .inl (nIf fr))), (at_, .inl (cI, 1000, .inl (nIf tt))), (ac, .inl (cJ, 1000, .inr (.inl (lNf (va_up ct k c1))))), (al, .inl (cZ, 1000, .inl (bIf fa)))] H := hP
      have hD : va_D A [(h, .inr (2, [.ref af, .ref at_, .ref ac, .ref al, .int (nI kn)])), (af, .inl (cI, 1000, .inl (nIf fr))), (at_, .inl (cI, 1000, .inl (nIf tt))), (ac, .inl (cJ, 1000, .inr (.inl (lNf (va_up ct k c1))))), (al, .inl (cZ, 1000, .inl (bIf fa)))] := hD
      refine lv_aload_n hx hb dX2_tell_59 rfl (lv_at hl 2 rfl) ?_
      refine va_get (D := D) (ci := 2) (v := .ref al) (C := RX2) (T := TX2) (N := 5) hx hb hts in_X2_tell_X2 hown hE.1 hP 0 rfl rfl 3 (by decide) (hts _ fl_X2_tell_22) (fun _ h9 => h9) rfl dX2_tell_60 ?_
      refine lv_iload hx hb dX2_tell_63 (lv_at hl 1 rfl) ?_
      refine lv_iload hx hb dX2_tell_65 (lv_at hl 6 rfl) ?_
      refine r_bst hx hb hE hP hD hS 4 rfl (k := k) fl rfl (by omega) (by decide) dX2_tell_67 (fun H locs hP hD hS => ?_)
      have hP : va_P D vwCl [(h, .inr (2, [.ref af, .ref at_, .ref ac, .ref al, .int (nI kn)])), (af, .inl (cI, 1000, .inl (nIf fr))), (at_, .inl (cI, 1000, .inl (nIf tt))), (ac, .inl (cJ, 1000, .inr (.inl (lNf (va_up ct k c1))))), (al, .inl (cZ, 1000, .inl (bIf (va_up fa k fl))))] H := hP
      have hD : va_D A [(h, .inr (2, [.ref af, .ref at_, .ref ac, .ref al, .int (nI kn)])), (af, .inl (cI, 1000, .inl (nIf fr))), (at_, .inl (cI, 1000, .inl (nIf tt))), (ac, .inl (cJ, 1000, .inr (.inl (lNf (va_up ct k c1))))), (al, .inl (cZ, 1000, .inl (bIf (va_up fa k fl))))] := hD
      refine lv_aload_n hx hb dX2_tell_68 rfl (lv_at hl 2 rfl) ?_
      refine lv_iload hx hb dX2_tell_69 (lv_at hl 1 rfl) ?_
      refine callMv (As := [.int (nI k)]) (rest := []) (wr := []) ⟨hx, hb, hml, hown, hts⟩ (c_moveForward l D cI cJ cZ h af at_ ac al kn fr tt (va_up ct k c1) (va_up fa k fl) _ k hkn (tl_WB1 hB (by omega)) (tl_MF1 hS0 hK0 hF.1 (by omega))) (cwV 1 hts gX2_tell_X2_moveForward rfl rfl rfl (by decide +kernel) ⟨Nat.le_of_ble_eq_true rfl, Nat.le_of_ble_eq_true rfl⟩) (preM hE hP hD 2 0 rfl rfl rfl [0, 1, 2, 3, 4] rfl rfl rfl) rfl hl.1 (Nat.le_of_ble_eq_true rfl) dX2_tell_71 ⟨Nat.zero_le _, Nat.zero_le _⟩ rfl hP hD hS hA [0, 1, 2, 3, 4] [] rfl rfl (by decide) (by decide) (fun u_ H locs hu hP hD hS => ?_)
      have hP : va_P D vwCl [(h, .inr (2, [.ref af, .ref at_, .ref ac, .ref al, .int (nI kn)])), (af, .inl (cI, 1000, .inl (nIf u_.1))), (at_, .inl (cI, 1000, .inl (nIf u_.2.1))), (ac, .inl (cJ, 1000, .inr (.inl (lNf u_.2.2.1)))), (al, .inl (cZ, 1000, .inl (bIf u_.2.2.2)))] H := hP
      have hD : va_D A [(h, .inr (2, [.ref af, .ref at_, .ref ac, .ref al, .int (nI kn)])), (af, .inl (cI, 1000, .inl (nIf u_.1))), (at_, .inl (cI, 1000, .inl (nIf u_.2.1))), (ac, .inl (cJ, 1000, .inr (.inl (lNf u_.2.2.1)))), (al, .inl (cZ, 1000, .inl (bIf u_.2.2.2)))] := hD
      refine lv_lload hx hb dX2_tell_74 (lv_at hl 0 rfl) ?_
      exact e_ml (u_.1, u_.2.1, u_.2.2.1, u_.2.2.2, kn) hAe hx hb hr hlocks dX2_tell_76 hP hD hS (tl_old hB hK0 hu2 hv2 hkn hF hc1 hu.1 hu.2.1 hu.2.2)
    · skip
      exact absurd c_25 (by intro h; cases h)
  · skip
    rw [c_11] at hF
    refine lv_aload_n hx hb dX2_tell_14 rfl (lv_at hl 1 rfl) ?_
    refine lv_iload_n hx hb dX2_tell_15 rfl (lv_at hl 2 rfl) ?_
    refine lv_iload_n hx hb dX2_tell_16 rfl (lv_at hl 3 rfl) ?_
    rcases Nat.lt_or_ge kn 1000 with hkl | hkl
    · skip
      refine callMi (As := [.int (nI u), .int (nI v)]) (rest := []) (wr := []) ⟨hx, hb, hml, hown, hts⟩ (c_addOk l D cI cJ cZ h af at_ ac al kn fr tt ct fa _ hkl u v) (cwV 2 hts gX2_tell_X2_add rfl rfl rfl (by decide +kernel) ⟨Nat.le_of_ble_eq_true rfl, Nat.le_of_ble_eq_true rfl⟩) (preM hE hP hD 2 0 rfl rfl rfl [0, 1, 2, 3, 4] rfl rfl rfl) rfl hl.1 (Nat.le_of_ble_eq_true rfl) dX2_tell_17 ⟨Nat.zero_le _, Nat.zero_le _⟩ rfl hP hD hS hA [0, 1, 2, 3, 4] [] rfl rfl (by decide) (by decide) (fun r2 u_ H locs hu hP hD hS => ?_)
      have hP : va_P D vwCl [(h, .inr (2, [.ref af, .ref at_, .ref ac, .ref al, .int (nI (kn + 1))])), (af, .inl (cI, 1000, .inl (nIf (va_up fr kn u)))), (at_, .inl (cI, 1000, .inl (nIf (va_up tt kn v)))), (ac, .inl (cJ, 1000, .inr (.inl (lNf (va_up ct kn 0))))), (al, .inl (cZ, 1000, .inl (bIf fa)))] H := hP
      have hD : va_D A [(h, .inr (2, [.ref af, .ref at_, .ref ac, .ref al, .int (nI (kn + 1))])), (af, .inl (cI, 1000, .inl (nIf (va_up fr kn u)))), (at_, .inl (cI, 1000, .inl (nIf (va_up tt kn v)))), (ac, .inl (cJ, 1000, .inr (.inl (lNf (va_up ct kn 0))))), (al, .inl (cZ, 1000, .inl (bIf fa)))] := hD
      subst hu
      have hctk : va_up ct kn 0 kn ≤ 1000000000000000 := by rw [va_up_self]; omega
      refine lv_istore (lv' := [(5, .int (nI kn)), (0, .ref h), (1, .int (nI u)), (2, .int (nI v)), (3, .int (nI cn)), (4, .int (bI fl))]) hx hb dX2_tell_20 hl (by decide) rfl (fun ls hl => ?_)
      refine lv_iload hx hb dX2_tell_22 (lv_at hl 0 rfl) ?_
      refine lv_iconst (v := -1) hx hb dX2_tell_24 (by decide) ?_
      refine r_o_ne (tgt := 32) hx hb (o := some kn) (q := none) rfl rfl (fun j h => by cases h; omega) (fun j h => by cases h) dX2_tell_25 (by decide) (fun c_25 => ?_) (fun c_25 => ?_)
      · skip
        refine lv_ldc2 (v := 1000000000000000) hx hb hown (hts _ wd_X2_tell_c39) dX2_tell_32 ?_
        refine r_as (w := .long (lN 1000000000000000)) (by decide) ?_
        refine lv_aload_n hx hb dX2_tell_35 rfl (lv_at hl 1 rfl) ?_
        refine va_get (D := D) (ci := 2) (v := .ref ac) (C := RX2) (T := TX2) (N := 5) hx hb hts in_X2_tell_X2 hown hE.1 hP 0 rfl rfl 2 (by decide) (hts _ fl_X2_tell_18) (fun _ h9 => h9) rfl dX2_tell_36 ?_
        refine lv_iload hx hb dX2_tell_39 (lv_at hl 0 rfl) ?_
        refine r_lld hx hb hE hP 3 rfl (k := kn) (by omega) (by decide) dX2_tell_41 ?_
        refine lv_iload_n hx hb dX2_tell_42 rfl (lv_at hl 4 rfl) ?_
        refine r_i2l hx hb (by omega) dX2_tell_43 ?_
        refine r_ladd hx hb dX2_tell_44 ?_
        refine r_lmin hx hb (hml.trans hl.1.symm) hown (hts _ wd_X2_tell_min0) (hts _ wd_X2_tell_min1) (hts _ wd_X2_tell_min2) (hts _ wd_X2_tell_min3) (Nat.le_of_ble_eq_true rfl) (Nat.le_of_ble_eq_true rfl) (Nat.zero_le _) (Nat.zero_le _) (x := 1000000000000000) (y := ((va_up ct kn 0) kn) + cn) (by decide) (by omega) dX2_tell_45 ?_
        obtain ⟨c1, hc1⟩ : ∃ c1, c1 = min 1000000000000000 (((va_up ct kn 0) kn) + cn) := ⟨_, rfl⟩
        rw [← hc1]
        refine lv_lstore (lv' := [(6, .long (lN c1)), (5, .int (nI kn)), (0, .ref h), (1, .int (nI u)), (2, .int (nI v)), (3, .int (nI cn)), (4, .int (bI fl))]) hx hb dX2_tell_48 hl (by decide) rfl (fun ls hl => ?_)
        refine lv_aload_n hx hb dX2_tell_50 rfl (lv_at hl 2 rfl) ?_
        refine va_get (D := D) (ci := 2) (v := .ref ac) (C := RX2) (T := TX2) (N := 5) hx hb hts in_X2_tell_X2 hown hE.1 hP 0 rfl rfl 2 (by decide) (hts _ fl_X2_tell_18) (fun _ h9 => h9) rfl dX2_tell_51 ?_
        refine lv_iload hx hb dX2_tell_54 (lv_at hl 1 rfl) ?_
        refine lv_lload hx hb dX2_tell_56 (lv_at hl 0 rfl) ?_
        refine r_lst hx hb hE hP hD hS 3 rfl (k := kn) (x := c1) (by omega) (by decide) dX2_tell_58 (fun H locs hP hD hS => ?_)
        have hP : va_P D vwCl [(h, .inr (2, [.ref af, .ref at_, .ref ac, .ref al, .int (nI (kn + 1))])), (af, .inl (cI, 1000, .inl (nIf (va_up fr kn u)))), (at_, .inl (cI, 1000, .inl (nIf (va_up tt kn v)))), (ac, .inl (cJ, 1000, .inr (.inl (lNf (va_up (va_up ct kn 0) kn c1))))), (al, .inl (cZ, 1000, .inl (bIf fa)))] H := hP
        have hD : va_D A [(h, .inr (2, [.ref af, .ref at_, .ref ac, .ref al, .int (nI (kn + 1))])), (af, .inl (cI, 1000, .inl (nIf (va_up fr kn u)))), (at_, .inl (cI, 1000, .inl (nIf (va_up tt kn v)))), (ac, .inl (cJ, 1000, .inr (.inl (lNf (va_up (va_up ct kn 0) kn c1))))), (al, .inl (cZ, 1000, .inl (bIf fa)))] := hD
        refine lv_aload_n hx hb dX2_tell_59 rfl (lv_at hl 2 rfl) ?_
        refine va_get (D := D) (ci := 2) (v := .ref al) (C := RX2) (T := TX2) (N := 5) hx hb hts in_X2_tell_X2 hown hE.1 hP 0 rfl rfl 3 (by decide) (hts _ fl_X2_tell_22) (fun _ h9 => h9) rfl dX2_tell_60 ?_
        refine lv_iload hx hb dX2_tell_63 (lv_at hl 1 rfl) ?_
        refine lv_iload hx hb dX2_tell_65 (lv_at hl 6 rfl) ?_
        refine r_bst hx hb hE hP hD hS 4 rfl (k := kn) fl rfl (by omega) (by decide) dX2_tell_67 (fun H locs hP hD hS => ?_)
        have hP : va_P D vwCl [(h, .inr (2, [.ref af, .ref at_, .ref ac, .ref al, .int (nI (kn + 1))])), (af, .inl (cI, 1000, .inl (nIf (va_up fr kn u)))), (at_, .inl (cI, 1000, .inl (nIf (va_up tt kn v)))), (ac, .inl (cJ, 1000, .inr (.inl (lNf (va_up (va_up ct kn 0) kn c1))))), (al, .inl (cZ, 1000, .inl (bIf (va_up fa kn fl))))] H := hP
        have hD : va_D A [(h, .inr (2, [.ref af, .ref at_, .ref ac, .ref al, .int (nI (kn + 1))])), (af, .inl (cI, 1000, .inl (nIf (va_up fr kn u)))), (at_, .inl (cI, 1000, .inl (nIf (va_up tt kn v)))), (ac, .inl (cJ, 1000, .inr (.inl (lNf (va_up (va_up ct kn 0) kn c1))))), (al, .inl (cZ, 1000, .inl (bIf (va_up fa kn fl))))] := hD
        refine lv_aload_n hx hb dX2_tell_68 rfl (lv_at hl 2 rfl) ?_
        refine lv_iload hx hb dX2_tell_69 (lv_at hl 1 rfl) ?_
        refine callMv (As := [.int (nI kn)]) (rest := []) (wr := []) ⟨hx, hb, hml, hown, hts⟩ (c_moveForward l D cI cJ cZ h af at_ ac al (kn + 1) (va_up fr kn u) (va_up tt kn v) (va_up (va_up ct kn 0) kn c1) (va_up fa kn fl) _ kn (by omega) (tl_WB2 hB hu2 hv2 (by omega)) (tl_MF2 hS0 hK0 hB hu2 hv2 hF)) (cwV 1 hts gX2_tell_X2_moveForward rfl rfl rfl (by decide +kernel) ⟨Nat.le_of_ble_eq_true rfl, Nat.le_of_ble_eq_true rfl⟩) (preM hE hP hD 2 0 rfl rfl rfl [0, 1, 2, 3, 4] rfl rfl rfl) rfl hl.1 (Nat.le_of_ble_eq_true rfl) dX2_tell_71 ⟨Nat.zero_le _, Nat.zero_le _⟩ rfl hP hD hS hA [0, 1, 2, 3, 4] [] rfl rfl (by decide) (by decide) (fun u_ H locs hu hP hD hS => ?_)
        have hP : va_P D vwCl [(h, .inr (2, [.ref af, .ref at_, .ref ac, .ref al, .int (nI (kn + 1))])), (af, .inl (cI, 1000, .inl (nIf u_.1))), (at_, .inl (cI, 1000, .inl (nIf u_.2.1))), (ac, .inl (cJ, 1000, .inr (.inl (lNf u_.2.2.1)))), (al, .inl (cZ, 1000, .inl (bIf u_.2.2.2)))] H := hP
        have hD : va_D A [(h, .inr (2, [.ref af, .ref at_, .ref ac, .ref al, .int (nI (kn + 1))])), (af, .inl (cI, 1000, .inl (nIf u_.1))), (at_, .inl (cI, 1000, .inl (nIf u_.2.1))), (ac, .inl (cJ, 1000, .inr (.inl (lNf u_.2.2.1)))), (al, .inl (cZ, 1000, .inl (bIf u_.2.2.2)))] := hD
        refine lv_lload hx hb dX2_tell_74 (lv_at hl 0 rfl) ?_
        exact e_ml (u_.1, u_.2.1, u_.2.2.1, u_.2.2.2, kn + 1) hAe hx hb hr hlocks dX2_tell_76 hP hD hS (tl_new hB hu2 hv2 hF hkl (by rw [hc1, va_up_self]) hu.1 hu.2.1 hu.2.2)
      · skip
        exact absurd c_25 (by intro h; cases h)
    · skip
      refine callMi (As := [.int (nI u), .int (nI v)]) (rest := []) (wr := []) ⟨hx, hb, hml, hown, hts⟩ (c_addFull l D cI cJ cZ h af at_ ac al kn fr tt ct fa _ (by omega) u v) (cwV 2 hts gX2_tell_X2_add rfl rfl rfl (by decide +kernel) ⟨Nat.le_of_ble_eq_true rfl, Nat.le_of_ble_eq_true rfl⟩) (preM hE hP hD 2 0 rfl rfl rfl [0, 1, 2, 3, 4] rfl rfl rfl) rfl hl.1 (Nat.le_of_ble_eq_true rfl) dX2_tell_17 ⟨Nat.zero_le _, Nat.zero_le _⟩ rfl hP hD hS hA [0, 1, 2, 3, 4] [] rfl rfl (by decide) (by decide) (fun r2 u_ H locs hu hP hD hS => ?_)
      have hP : va_P D vwCl [(h, .inr (2, [.ref af, .ref at_, .ref ac, .ref al, .int (nI kn)])), (af, .inl (cI, 1000, .inl (nIf fr))), (at_, .inl (cI, 1000, .inl (nIf tt))), (ac, .inl (cJ, 1000, .inr (.inl (lNf ct)))), (al, .inl (cZ, 1000, .inl (bIf fa)))] H := hP
      have hD : va_D A [(h, .inr (2, [.ref af, .ref at_, .ref ac, .ref al, .int (nI kn)])), (af, .inl (cI, 1000, .inl (nIf fr))), (at_, .inl (cI, 1000, .inl (nIf tt))), (ac, .inl (cJ, 1000, .inr (.inl (lNf ct)))), (al, .inl (cZ, 1000, .inl (bIf fa)))] := hD
      subst hu
      refine lv_istore (lv' := [(5, .int (-1)), (0, .ref h), (1, .int (nI u)), (2, .int (nI v)), (3, .int (nI cn)), (4, .int (bI fl))]) hx hb dX2_tell_20 hl (by decide) rfl (fun ls hl => ?_)
      refine lv_iload hx hb dX2_tell_22 (lv_at hl 0 rfl) ?_
      refine lv_iconst (v := -1) hx hb dX2_tell_24 (by decide) ?_
      refine r_o_ne (tgt := 32) hx hb (o := none) (q := none) rfl rfl (fun j h => by cases h) (fun j h => by cases h) dX2_tell_25 (by decide) (fun c_25 => ?_) (fun c_25 => ?_)
      · skip
        exact absurd rfl c_25
      · skip
        refine lv_ldc2 (v := (-3)) hx hb hown (hts _ wd_X2_tell_c37) dX2_tell_28 ?_
        exact e_ml (fr, tt, ct, fa, kn) hAe hx hb hr hlocks dX2_tell_31 hP hD hS (tl_full hB hu2 hv2 hF (by omega) hS0)

theorem fl_X2_weigh_15 : Cond.fieldLink RX2 15 "BlockRows$Ways" "to" "[I" ∈ wsX2_weigh := by decide +kernel
theorem fl_X2_weigh_18 : Cond.fieldLink RX2 18 "BlockRows$Ways" "counts" "[J" ∈ wsX2_weigh := by decide +kernel
theorem fl_X2_weigh_22 : Cond.fieldLink RX2 22 "BlockRows$Ways" "falling" "[Z" ∈ wsX2_weigh := by decide +kernel
theorem fl_X2_weigh_26 : Cond.fieldLink RX2 26 "BlockRows$Ways" "known" "I" ∈ wsX2_weigh := by decide +kernel
theorem fl_X2_weigh_9 : Cond.fieldLink RX2 9 "BlockRows$Ways" "from" "[I" ∈ wsX2_weigh := by decide +kernel
theorem in_X2_weigh_X2 : ∀ w ∈ wsX20, w ∈ wsX2_weigh := by decide +kernel
set_option maxHeartbeats 4000000 in
set_option maxRecDepth 100000 in
/-- Ways.weigh(line) -/
theorem c_weigh (l : Launch) (D : va_G) (cI cJ cZ : ClassId) (h af at_ ac al kn : Nat) (fr tt ct : Nat → Nat) (fa : Nat → Bool) (q qm qp nn : Nat) (me : Nat → Nat) (pl : Nat → Option Nat) (hkn : kn ≤ 1000) (hB : WB fr tt ct) (hpl : ∀ i j, pl i = some j → j < 200) : Met l yX2_weigh wsX2_weigh ({ frames := 3, cells := 0, slots := 0, locals := 63 }) (PcR D cI cJ cZ [.ref h, .ref q] [(h, .inr (2, [.ref af, .ref at_, .ref ac, .ref al, .int (nI kn)])), (af, .inl (cI, 1000, .inl (nIf fr))), (at_, .inl (cI, 1000, .inl (nIf tt))), (ac, .inl (cJ, 1000, .inr (.inl (lNf ct)))), (al, .inl (cZ, 1000, .inl (bIf fa))), (q, .inr (1, [.ref qm, .ref qp, .int (nI nn)])), (qm, .inl (cI, 200, .inl (nIf me))), (qp, .inl (cI, 200, .inl (oIf pl)))]) (vp_Sl (fun r => r = lN (sumN (wgt fr tt ct fa pl) kn))) 0 0 (fun _ => False) := by
  refine startR (cc := cX2_weigh) (maxL := 5) (ret := (some .long)) (by decide) rfl (Nat.le_of_ble_eq_true rfl) ?_
  intro p e s m below meth c ls hx hb hr hml hown hts hlocks hE hP hl
  have hl : lv_has ls 5 [(0, .ref h), (1, .ref q)] := hl
  refine lv_lconst (v := lN 0) hx hb dX2_weigh_0 (by decide) ?_
  refine lv_lstore_n (lv' := [(2, .long (lN 0)), (0, .ref h), (1, .ref q)]) hx hb dX2_weigh_1 rfl hl (by decide) rfl (fun ls hl => ?_)
  refine lv_iconst (v := nI 0) hx hb dX2_weigh_2 (by decide) ?_
  refine lv_istore (lv' := [(4, .int (nI 0)), (2, .long (lN 0)), (0, .ref h), (1, .ref q)]) hx hb dX2_weigh_3 hl (by decide) rfl (fun ls hl => ?_)
  refine r_loopR (σ := Nat) (fun z0 => kn - z0) (fun z0 ls => (z0 ≤ kn) ∧ lv_has ls 5 [(0, .ref h), (1, .ref q), (4, .int (nI z0)), (2, .long (lN (sumN (wgt fr tt ct fa pl) z0)))]) ?_ 0 ⟨Nat.zero_le _, lv_sub hl [2, 3, 0, 1] rfl⟩
  rintro k ls ⟨hi_5, hl⟩ ih_5
  have hi_5 : k ≤ kn := hi_5
  have hl : lv_has ls 5 [(0, .ref h), (1, .ref q), (4, .int (nI k)), (2, .long (lN (sumN (wgt fr tt ct fa pl) k)))] := hl
  have b1 := hB k
  refine lv_iload hx hb dX2_weigh_5 (lv_at hl 2 rfl) ?_
  refine lv_aload_n hx hb dX2_weigh_7 rfl (lv_at hl 0 rfl) ?_
  refine va_get (D := D) (ci := 2) (v := .int (nI kn)) (C := RX2) (T := TX2) (N := 5) hx hb hts in_X2_weigh_X2 hown hE.1 hP 0 rfl rfl 4 (by decide) (hts _ fl_X2_weigh_26) (fun _ h9 => h9) rfl dX2_weigh_8 ?_
  refine r_icmp_ge (tgt := 61) hx hb (x := k) (y := kn) (by omega) (by omega) dX2_weigh_11 (by decide) (fun c_11 => ?_) (fun c_11 => ?_)
  · skip
    refine lv_lload_n hx hb dX2_weigh_61 rfl (lv_at hl 3 rfl) ?_
    exact e_l hx hb hr hlocks dX2_weigh_62 (by rw [show k = kn by omega])
  · skip
    refine lv_aload_n hx hb dX2_weigh_14 rfl (lv_at hl 0 rfl) ?_
    refine va_get (D := D) (ci := 2) (v := .ref al) (C := RX2) (T := TX2) (N := 5) hx hb hts in_X2_weigh_X2 hown hE.1 hP 0 rfl rfl 3 (by decide) (hts _ fl_X2_weigh_22) (fun _ h9 => h9) rfl dX2_weigh_15 ?_
    refine lv_iload hx hb dX2_weigh_18 (lv_at hl 2 rfl) ?_
    refine r_bld hx hb hE hP 4 rfl (k := k) (by omega) (by decide) dX2_weigh_20 ?_
    refine r_b_eq (tgt := 55) hx hb dX2_weigh_21 (by decide) (fun c_21 => ?_) (fun c_21 => ?_)
    · skip
      have hs1 : sumN (wgt fr tt ct fa pl) k = sumN (wgt fr tt ct fa pl) (k + 1) := by simp [sumN, wgt, c_21]
      rw [hs1] at hl
      have hl : lv_has ls 5 [(0, .ref h), (1, .ref q), (4, .int (nI k)), (2, .long (lN (sumN (wgt fr tt ct fa pl) (k + 1))))] := hl
      refine lv_iinc (v := (nI (k + 1))) (lv' := [(4, .int (nI (k + 1))), (0, .ref h), (1, .ref q), (2, .long (lN (sumN (wgt fr tt ct fa pl) (k + 1))))]) hx hb dX2_weigh_55 hl (k := 2) rfl (nI_1 _) (by decide) rfl (fun ls hl => ?_)
      refine lv_goto (tgt := 5) hx hb dX2_weigh_58 (by decide) ?_
      exact ih_5 (k + 1) _ ⟨(show (k + 1) ≤ kn from by omega), lv_sub hl [1, 2, 0, 3] rfl⟩ (by show kn - (k + 1) < kn - k; omega)
    · skip
      refine lv_aload_n hx hb dX2_weigh_24 rfl (lv_at hl 1 rfl) ?_
      refine lv_aload_n hx hb dX2_weigh_25 rfl (lv_at hl 0 rfl) ?_
      refine va_get (D := D) (ci := 2) (v := .ref af) (C := RX2) (T := TX2) (N := 5) hx hb hts in_X2_weigh_X2 hown hE.1 hP 0 rfl rfl 0 (by decide) (hts _ fl_X2_weigh_9) (fun _ h9 => h9) rfl dX2_weigh_26 ?_
      refine lv_iload hx hb dX2_weigh_29 (lv_at hl 2 rfl) ?_
      refine r_nld hx hb hE hP 1 rfl (k := k) (by omega) (by decide) dX2_weigh_31 ?_
      refine lv_aload_n hx hb dX2_weigh_32 rfl (lv_at hl 0 rfl) ?_
      refine va_get (D := D) (ci := 2) (v := .ref at_) (C := RX2) (T := TX2) (N := 5) hx hb hts in_X2_weigh_X2 hown hE.1 hP 0 rfl rfl 1 (by decide) (hts _ fl_X2_weigh_15) (fun _ h9 => h9) rfl dX2_weigh_33 ?_
      refine lv_iload hx hb dX2_weigh_36 (lv_at hl 2 rfl) ?_
      refine r_nld hx hb hE hP 2 rfl (k := k) (by omega) (by decide) dX2_weigh_38 ?_
      refine callRi (As := [.int (nI (fr k)), .int (nI (tt k))]) (rest := []) ⟨hx, hb, hml, hown, hts⟩ (c_goesOn l D cI cJ cZ q qm qp nn me pl hpl (fr k) (tt k) b1.1 b1.2.1) (cwV 2 hts gX2_weigh_X1_goesOn rfl rfl rfl (by decide +kernel) ⟨Nat.le_of_ble_eq_true rfl, Nat.le_of_ble_eq_true rfl⟩) (preR hE hP 1 5 rfl rfl rfl [5, 6, 7] rfl) rfl hl.1 (Nat.le_of_ble_eq_true rfl) dX2_weigh_39 ⟨Nat.zero_le _, Nat.zero_le _⟩ rfl (fun r1 hr1 => ?_)
      subst hr1
      refine r_b_eq (tgt := 55) hx hb dX2_weigh_42 (by decide) (fun c_42 => ?_) (fun c_42 => ?_)
      · skip
        have hs1 : sumN (wgt fr tt ct fa pl) k = sumN (wgt fr tt ct fa pl) (k + 1) := by simp [sumN, wgt, c_21, c_42]
        rw [hs1] at hl
        have hl : lv_has ls 5 [(0, .ref h), (1, .ref q), (4, .int (nI k)), (2, .long (lN (sumN (wgt fr tt ct fa pl) (k + 1))))] := hl
        refine lv_iinc (v := (nI (k + 1))) (lv' := [(4, .int (nI (k + 1))), (0, .ref h), (1, .ref q), (2, .long (lN (sumN (wgt fr tt ct fa pl) (k + 1))))]) hx hb dX2_weigh_55 hl (k := 2) rfl (nI_1 _) (by decide) rfl (fun ls hl => ?_)
        refine lv_goto (tgt := 5) hx hb dX2_weigh_58 (by decide) ?_
        exact ih_5 (k + 1) _ ⟨(show (k + 1) ≤ kn from by omega), lv_sub hl [1, 2, 0, 3] rfl⟩ (by show kn - (k + 1) < kn - k; omega)
      · skip
        refine lv_lload_n hx hb dX2_weigh_45 rfl (lv_at hl 3 rfl) ?_
        refine lv_aload_n hx hb dX2_weigh_46 rfl (lv_at hl 0 rfl) ?_
        refine va_get (D := D) (ci := 2) (v := .ref ac) (C := RX2) (T := TX2) (N := 5) hx hb hts in_X2_weigh_X2 hown hE.1 hP 0 rfl rfl 2 (by decide) (hts _ fl_X2_weigh_18) (fun _ h9 => h9) rfl dX2_weigh_47 ?_
        refine lv_iload hx hb dX2_weigh_50 (lv_at hl 2 rfl) ?_
        refine r_lld hx hb hE hP 3 rfl (k := k) (by omega) (by decide) dX2_weigh_52 ?_
        refine r_ladd hx hb dX2_weigh_53 ?_
        refine lv_lstore_n (lv' := [(2, .long (lN ((sumN (wgt fr tt ct fa pl) k) + (ct k)))), (0, .ref h), (1, .ref q), (4, .int (nI k))]) hx hb dX2_weigh_54 rfl hl (by decide) rfl (fun ls hl => ?_)
        have hs1 : (sumN (wgt fr tt ct fa pl) k) + (ct k) = sumN (wgt fr tt ct fa pl) (k + 1) := by simp [sumN, wgt, c_21, c_42]
        rw [hs1] at hl
        have hl : lv_has ls 5 [(2, .long (lN (sumN (wgt fr tt ct fa pl) (k + 1)))), (0, .ref h), (1, .ref q), (4, .int (nI k))] := hl
        refine lv_iinc (v := (nI (k + 1))) (lv' := [(4, .int (nI (k + 1))), (2, .long (lN (sumN (wgt fr tt ct fa pl) (k + 1)))), (0, .ref h), (1, .ref q)]) hx hb dX2_weigh_55 hl (k := 3) rfl (nI_1 _) (by decide) rfl (fun ls hl => ?_)
        refine lv_goto (tgt := 5) hx hb dX2_weigh_58 (by decide) ?_
        exact ih_5 (k + 1) _ ⟨(show (k + 1) ≤ kn from by omega), lv_sub hl [2, 3, 0, 1] rfl⟩ (by show kn - (k + 1) < kn - k; omega)

theorem fl_X2_find_15 : Cond.fieldLink RX2 15 "BlockRows$Ways" "to" "[I" ∈ wsX2_find := by decide +kernel
theorem fl_X2_find_26 : Cond.fieldLink RX2 26 "BlockRows$Ways" "known" "I" ∈ wsX2_find := by decide +kernel
theorem fl_X2_find_9 : Cond.fieldLink RX2 9 "BlockRows$Ways" "from" "[I" ∈ wsX2_find := by decide +kernel
theorem in_X2_find_X2 : ∀ w ∈ wsX20, w ∈ wsX2_find := by decide +kernel
set_option maxHeartbeats 4000000 in
set_option maxRecDepth 100000 in
/-- Ways.find(u, v) -/
theorem c_find (l : Launch) (D : va_G) (cI cJ cZ : ClassId) (h af at_ ac al kn : Nat) (fr tt ct : Nat → Nat) (fa : Nat → Bool) (hkn : kn ≤ 1000) (x y : Int32) : Met l yX2_find wsX2_find ({ frames := 0, cells := 0, slots := 0, locals := 0 }) (PcR D cI cJ cZ [.ref h, .int x, .int y] [(h, .inr (2, [.ref af, .ref at_, .ref ac, .ref al, .int (nI kn)])), (af, .inl (cI, 1000, .inl (nIf fr))), (at_, .inl (cI, 1000, .inl (nIf tt))), (ac, .inl (cJ, 1000, .inr (.inl (lNf ct)))), (al, .inl (cZ, 1000, .inl (bIf fa)))]) (vp_Si (fun r => ∃ o, r = oI o ∧ Fnd fr tt kn x y o)) 0 0 (fun _ => False) := by
  refine startR (cc := cX2_find) (maxL := 4) (ret := (some .int)) (by decide) rfl (Nat.le_of_ble_eq_true rfl) ?_
  intro p e s m below meth c ls hx hb hr hml hown hts hlocks hE hP hl
  have hl : lv_has ls 4 [(0, .ref h), (1, .int x), (2, .int y)] := hl
  refine lv_iconst (v := nI 0) hx hb dX2_find_0 (by decide) ?_
  refine lv_istore_n (lv' := [(3, .int (nI 0)), (0, .ref h), (1, .int x), (2, .int y)]) hx hb dX2_find_1 rfl hl (by decide) rfl (fun ls hl => ?_)
  refine r_loopR (σ := Nat) (fun z0 => kn - z0) (fun z0 ls => (z0 ≤ kn ∧ ∀ j, j < z0 → ¬ (nI (fr j) = x ∧ nI (tt j) = y)) ∧ lv_has ls 4 [(0, .ref h), (1, .int x), (2, .int y), (3, .int (nI z0))]) ?_ 0 ⟨⟨Nat.zero_le _, fun j hj => by omega⟩, lv_sub hl [1, 2, 3, 0] rfl⟩
  rintro k ls ⟨hi_2, hl⟩ ih_2
  have hi_2 : k ≤ kn ∧ ∀ j, j < k → ¬ (nI (fr j) = x ∧ nI (tt j) = y) := hi_2
  have hl : lv_has ls 4 [(0, .ref h), (1, .int x), (2, .int y), (3, .int (nI k))] := hl
  obtain ⟨hi_a, hi_b⟩ := id hi_2
  refine lv_iload_n hx hb dX2_find_2 rfl (lv_at hl 3 rfl) ?_
  refine lv_aload_n hx hb dX2_find_3 rfl (lv_at hl 0 rfl) ?_
  refine va_get (D := D) (ci := 2) (v := .int (nI kn)) (C := RX2) (T := TX2) (N := 5) hx hb hts in_X2_find_X2 hown hE.1 hP 0 rfl rfl 4 (by decide) (hts _ fl_X2_find_26) (fun _ h9 => h9) rfl dX2_find_4 ?_
  refine r_icmp_ge (tgt := 38) hx hb (x := k) (y := kn) (by omega) (by omega) dX2_find_7 (by decide) (fun c_7 => ?_) (fun c_7 => ?_)
  · skip
    refine lv_iconst (v := -1) hx hb dX2_find_38 (by decide) ?_
    exact e_i hx hb hr hlocks dX2_find_39 ⟨none, rfl, fun j hj => hi_b j (by omega)⟩
  · skip
    refine lv_aload_n hx hb dX2_find_10 rfl (lv_at hl 0 rfl) ?_
    refine va_get (D := D) (ci := 2) (v := .ref af) (C := RX2) (T := TX2) (N := 5) hx hb hts in_X2_find_X2 hown hE.1 hP 0 rfl rfl 0 (by decide) (hts _ fl_X2_find_9) (fun _ h9 => h9) rfl dX2_find_11 ?_
    refine lv_iload_n hx hb dX2_find_14 rfl (lv_at hl 3 rfl) ?_
    refine r_nld hx hb hE hP 1 rfl (k := k) (by omega) (by decide) dX2_find_15 ?_
    refine lv_iload_n hx hb dX2_find_16 rfl (lv_at hl 1 rfl) ?_
    refine lv_icmp_ne (tgt := 32) hx hb dX2_find_17 (by decide) (fun c_17 => ?_) (fun c_17 => ?_)
    · skip
      refine lv_iinc (v := (nI (k + 1))) (lv' := [(3, .int (nI (k + 1))), (0, .ref h), (1, .int x), (2, .int y)]) hx hb dX2_find_32 hl (k := 3) rfl (nI_1 _) (by decide) rfl (fun ls hl => ?_)
      refine lv_goto (tgt := 2) hx hb dX2_find_35 (by decide) ?_
      exact ih_2 (k + 1) _ ⟨(show (k + 1) ≤ kn ∧ ∀ j, j < (k + 1) → ¬ (nI (fr j) = x ∧ nI (tt j) = y) from ⟨by omega, lt_s hi_2.2 (fun z => c_17 z.1)⟩), lv_sub hl [1, 2, 3, 0] rfl⟩ (by show kn - (k + 1) < kn - k; omega)
    · skip
      refine lv_aload_n hx hb dX2_find_20 rfl (lv_at hl 0 rfl) ?_
      refine va_get (D := D) (ci := 2) (v := .ref at_) (C := RX2) (T := TX2) (N := 5) hx hb hts in_X2_find_X2 hown hE.1 hP 0 rfl rfl 1 (by decide) (hts _ fl_X2_find_15) (fun _ h9 => h9) rfl dX2_find_21 ?_
      refine lv_iload_n hx hb dX2_find_24 rfl (lv_at hl 3 rfl) ?_
      refine r_nld hx hb hE hP 2 rfl (k := k) (by omega) (by decide) dX2_find_25 ?_
      refine lv_iload_n hx hb dX2_find_26 rfl (lv_at hl 2 rfl) ?_
      refine lv_icmp_ne (tgt := 32) hx hb dX2_find_27 (by decide) (fun c_27 => ?_) (fun c_27 => ?_)
      · skip
        refine lv_iinc (v := (nI (k + 1))) (lv' := [(3, .int (nI (k + 1))), (0, .ref h), (1, .int x), (2, .int y)]) hx hb dX2_find_32 hl (k := 3) rfl (nI_1 _) (by decide) rfl (fun ls hl => ?_)
        refine lv_goto (tgt := 2) hx hb dX2_find_35 (by decide) ?_
        exact ih_2 (k + 1) _ ⟨(show (k + 1) ≤ kn ∧ ∀ j, j < (k + 1) → ¬ (nI (fr j) = x ∧ nI (tt j) = y) from ⟨by omega, lt_s hi_2.2 (fun z => c_27 z.2)⟩), lv_sub hl [1, 2, 3, 0] rfl⟩ (by show kn - (k + 1) < kn - k; omega)
      · skip
        refine lv_iload_n hx hb dX2_find_30 rfl (lv_at hl 3 rfl) ?_
        exact e_i hx hb hr hlocks dX2_find_31 ⟨some k, rfl, c_7, c_17, c_27⟩

def ctO (ct : Nat → Nat) (o : Option Nat) : Nat := match o with
  | none => 0
  | some k => ct k
theorem fl_X2_told_18 : Cond.fieldLink RX2 18 "BlockRows$Ways" "counts" "[J" ∈ wsX2_told := by decide +kernel
theorem in_X2_told_X2 : ∀ w ∈ wsX20, w ∈ wsX2_told := by decide +kernel
set_option maxHeartbeats 4000000 in
set_option maxRecDepth 100000 in
/-- Ways.told(u, v) -/
theorem c_told (l : Launch) (D : va_G) (cI cJ cZ : ClassId) (h af at_ ac al kn : Nat) (fr tt ct : Nat → Nat) (fa : Nat → Bool) (hkn : kn ≤ 1000) (x y : Int32) : Met l yX2_told wsX2_told ({ frames := 1, cells := 0, slots := 0, locals := 23 }) (PcR D cI cJ cZ [.ref h, .int x, .int y] [(h, .inr (2, [.ref af, .ref at_, .ref ac, .ref al, .int (nI kn)])), (af, .inl (cI, 1000, .inl (nIf fr))), (at_, .inl (cI, 1000, .inl (nIf tt))), (ac, .inl (cJ, 1000, .inr (.inl (lNf ct)))), (al, .inl (cZ, 1000, .inl (bIf fa)))]) (vp_Sl (fun r => ∃ o, Fnd fr tt kn x y o ∧ r = lN (ctO ct o))) 0 0 (fun _ => False) := by
  refine startR (cc := cX2_told) (maxL := 4) (ret := (some .long)) (by decide) rfl (Nat.le_of_ble_eq_true rfl) ?_
  intro p e s m below meth c ls hx hb hr hml hown hts hlocks hE hP hl
  have hl : lv_has ls 4 [(0, .ref h), (1, .int x), (2, .int y)] := hl
  refine lv_aload_n hx hb dX2_told_0 rfl (lv_at hl 0 rfl) ?_
  refine lv_iload_n hx hb dX2_told_1 rfl (lv_at hl 1 rfl) ?_
  refine lv_iload_n hx hb dX2_told_2 rfl (lv_at hl 2 rfl) ?_
  refine callRi (As := [.int x, .int y]) (rest := []) ⟨hx, hb, hml, hown, hts⟩ (c_find l D cI cJ cZ h af at_ ac al kn fr tt ct fa hkn x y) (cwV 2 hts gX2_told_X2_find rfl rfl rfl (by decide +kernel) ⟨Nat.le_of_ble_eq_true rfl, Nat.le_of_ble_eq_true rfl⟩) (preR hE hP 2 0 rfl rfl rfl [0, 1, 2, 3, 4] rfl) rfl hl.1 (Nat.le_of_ble_eq_true rfl) dX2_told_3 ⟨Nat.zero_le _, Nat.zero_le _⟩ rfl (fun r1 hr1 => ?_)
  obtain ⟨o, rfl, hF⟩ := hr1
  have hob : ∀ j, o = some j → j < 1000 := fun j hj => by subst hj; exact Nat.lt_of_lt_of_le hF.1 hkn
  refine lv_istore_n (lv' := [(3, .int (oI o)), (0, .ref h), (1, .int x), (2, .int y)]) hx hb dX2_told_6 rfl hl (by decide) rfl (fun ls hl => ?_)
  refine lv_iload_n hx hb dX2_told_7 rfl (lv_at hl 0 rfl) ?_
  refine lv_iconst (v := -1) hx hb dX2_told_8 (by decide) ?_
  refine r_o_ne (tgt := 16) hx hb (o := o) (q := none) rfl rfl (fun j hj => by have := hob j hj; omega) (fun j h => by cases h) dX2_told_9 (by decide) (fun c_9 => ?_) (fun c_9 => ?_)
  · skip
    obtain ⟨k, rfl⟩ := Option.ne_none_iff_exists'.mp c_9
    have hk2 := hob k rfl
    have hl : lv_has ls 4 [(3, .int (nI k)), (0, .ref h), (1, .int x), (2, .int y)] := hl
    refine lv_aload_n hx hb dX2_told_16 rfl (lv_at hl 1 rfl) ?_
    refine va_get (D := D) (ci := 2) (v := .ref ac) (C := RX2) (T := TX2) (N := 5) hx hb hts in_X2_told_X2 hown hE.1 hP 0 rfl rfl 2 (by decide) (hts _ fl_X2_told_18) (fun _ h9 => h9) rfl dX2_told_17 ?_
    refine lv_iload_n hx hb dX2_told_20 rfl (lv_at hl 0 rfl) ?_
    refine r_lld hx hb hE hP 3 rfl (k := k) (by omega) (by decide) dX2_told_21 ?_
    exact e_l hx hb hr hlocks dX2_told_22 ⟨some k, hF, rfl⟩
  · skip
    refine lv_lconst (v := lN 0) hx hb dX2_told_12 (by decide) ?_
    refine lv_goto (tgt := 22) hx hb dX2_told_13 (by decide) ?_
    exact e_l hx hb hr hlocks dX2_told_22 ⟨none, by rw [← c_9]; exact hF, rfl⟩

theorem fl_X2_forget_26 : Cond.fieldLink RX2 26 "BlockRows$Ways" "known" "I" ∈ wsX2_forget := by decide +kernel
theorem in_X2_forget_X2 : ∀ w ∈ wsX20, w ∈ wsX2_forget := by decide +kernel
set_option maxHeartbeats 4000000 in
set_option maxRecDepth 100000 in
/-- Ways.forget() -/
theorem c_forget (l : Launch) (D : va_G) (cI cJ cZ : ClassId) (h af at_ ac al kn : Nat) (fr tt ct : Nat → Nat) (fa : Nat → Bool) (sz : Nat) : Met l yX2_forget wsX2_forget ({ frames := 0, cells := 0, slots := 0, locals := 0 }) (PcM D cI cJ cZ [.ref h] [(h, .inr (2, [.ref af, .ref at_, .ref ac, .ref al, .int (nI kn)])), (af, .inl (cI, 1000, .inl (nIf fr))), (at_, .inl (cI, 1000, .inl (nIf tt))), (ac, .inl (cJ, 1000, .inr (.inl (lNf ct)))), (al, .inl (cZ, 1000, .inl (bIf fa)))] sz) (va_Qv (fun _ : Unit => True) (Bm D [(h, .inr (2, [.ref af, .ref at_, .ref ac, .ref al, .int (nI kn)])), (af, .inl (cI, 1000, .inl (nIf fr))), (at_, .inl (cI, 1000, .inl (nIf tt))), (ac, .inl (cJ, 1000, .inr (.inl (lNf ct)))), (al, .inl (cZ, 1000, .inl (bIf fa)))] sz (fun _ : Unit => [(h, .inr (2, [.ref af, .ref at_, .ref ac, .ref al, .int (nI 0)])), (af, .inl (cI, 1000, .inl (nIf fr))), (at_, .inl (cI, 1000, .inl (nIf tt))), (ac, .inl (cJ, 1000, .inr (.inl (lNf ct)))), (al, .inl (cZ, 1000, .inl (bIf fa)))])) (va_A [(h, .inr (2, [.ref af, .ref at_, .ref ac, .ref al, .int (nI kn)])), (af, .inl (cI, 1000, .inl (nIf fr))), (at_, .inl (cI, 1000, .inl (nIf tt))), (ac, .inl (cJ, 1000, .inr (.inl (lNf ct)))), (al, .inl (cZ, 1000, .inl (bIf fa)))] sz)) 0 0 (va_A [(h, .inr (2, [.ref af, .ref at_, .ref ac, .ref al, .int (nI kn)])), (af, .inl (cI, 1000, .inl (nIf fr))), (at_, .inl (cI, 1000, .inl (nIf tt))), (ac, .inl (cJ, 1000, .inr (.inl (lNf ct)))), (al, .inl (cZ, 1000, .inl (bIf fa)))] sz) := by
  refine startM (cc := cX2_forget) (maxL := 1) (ret := none) (by decide) rfl (Nat.le_of_ble_eq_true rfl) ?_
  intro p e s m below meth c ls A hA hAe hx hb hr hml hown hts hlocks hin hE hP hD hS hl
  have hl : lv_has ls 1 [(0, .ref h)] := hl
  refine lv_aload_n hx hb dX2_forget_0 rfl (lv_at hl 0 rfl) ?_
  refine lv_iconst (v := nI 0) hx hb dX2_forget_1 (by decide) ?_
  refine va_put (D := D) (ci := 2) (v := .int (nI 0)) (ty := .int) (C := RX2) (T := TX2) (N := 5) hx hb hts in_X2_forget_X2 tyX2 tyX2_ok nmX2 hown hE.1 hP hD hS 0 rfl rfl 4 (by decide) (hts _ fl_X2_forget_26) (fun _ h9 => h9) rfl (by decide +kernel) rfl rfl (Nat.le_of_ble_eq_true rfl) dX2_forget_2 (fun H locs hP hD hS => ?_)
  have hP : va_P D vwCl [(h, .inr (2, [.ref af, .ref at_, .ref ac, .ref al, .int (nI 0)])), (af, .inl (cI, 1000, .inl (nIf fr))), (at_, .inl (cI, 1000, .inl (nIf tt))), (ac, .inl (cJ, 1000, .inr (.inl (lNf ct)))), (al, .inl (cZ, 1000, .inl (bIf fa)))] H := hP
  have hD : va_D A [(h, .inr (2, [.ref af, .ref at_, .ref ac, .ref al, .int (nI 0)])), (af, .inl (cI, 1000, .inl (nIf fr))), (at_, .inl (cI, 1000, .inl (nIf tt))), (ac, .inl (cJ, 1000, .inr (.inl (lNf ct)))), (al, .inl (cZ, 1000, .inl (bIf fa)))] := hD
  exact e_mv () hAe hx hb hr hlocks dX2_forget_5 hP hD hS trivial

theorem fl_X2_isBefore_15 : Cond.fieldLink RX2 15 "BlockRows$Ways" "to" "[I" ∈ wsX2_isBefore := by decide +kernel
theorem fl_X2_isBefore_18 : Cond.fieldLink RX2 18 "BlockRows$Ways" "counts" "[J" ∈ wsX2_isBefore := by decide +kernel
theorem fl_X2_isBefore_9 : Cond.fieldLink RX2 9 "BlockRows$Ways" "from" "[I" ∈ wsX2_isBefore := by decide +kernel
theorem in_X2_isBefore_X2 : ∀ w ∈ wsX20, w ∈ wsX2_isBefore := by decide +kernel
set_option maxHeartbeats 4000000 in
set_option maxRecDepth 100000 in
/-- Ways.isBefore(a, b) -/
theorem c_isBefore (l : Launch) (D : va_G) (cI cJ cZ : ClassId) (h af at_ ac al kn : Nat) (fr tt ct : Nat → Nat) (fa : Nat → Bool) (hB : WB fr tt ct) (i j : Nat) (hi : i < 1000) (hj : j < 1000) : Met l yX2_isBefore wsX2_isBefore ({ frames := 0, cells := 0, slots := 0, locals := 0 }) (PcR D cI cJ cZ [.ref h, .int (nI i), .int (nI j)] [(h, .inr (2, [.ref af, .ref at_, .ref ac, .ref al, .int (nI kn)])), (af, .inl (cI, 1000, .inl (nIf fr))), (at_, .inl (cI, 1000, .inl (nIf tt))), (ac, .inl (cJ, 1000, .inr (.inl (lNf ct)))), (al, .inl (cZ, 1000, .inl (bIf fa)))]) (vp_Si (fun r => r = bI (bef (pk fr tt ct fa i) (pk fr tt ct fa j)))) 0 0 (fun _ => False) := by
  refine startR (cc := cX2_isBefore) (maxL := 3) (ret := (some .boolean)) (by decide) rfl (Nat.le_of_ble_eq_true rfl) ?_
  intro p e s m below meth c ls hx hb hr hml hown hts hlocks hE hP hl
  have hl : lv_has ls 3 [(0, .ref h), (1, .int (nI i)), (2, .int (nI j))] := hl
  have b1 := hB i
  have b2 := hB j
  refine lv_aload_n hx hb dX2_isBefore_0 rfl (lv_at hl 0 rfl) ?_
  refine va_get (D := D) (ci := 2) (v := .ref ac) (C := RX2) (T := TX2) (N := 5) hx hb hts in_X2_isBefore_X2 hown hE.1 hP 0 rfl rfl 2 (by decide) (hts _ fl_X2_isBefore_18) (fun _ h9 => h9) rfl dX2_isBefore_1 ?_
  refine lv_iload_n hx hb dX2_isBefore_4 rfl (lv_at hl 1 rfl) ?_
  refine r_lld hx hb hE hP 3 rfl (k := i) (by omega) (by decide) dX2_isBefore_5 ?_
  refine lv_aload_n hx hb dX2_isBefore_6 rfl (lv_at hl 0 rfl) ?_
  refine va_get (D := D) (ci := 2) (v := .ref ac) (C := RX2) (T := TX2) (N := 5) hx hb hts in_X2_isBefore_X2 hown hE.1 hP 0 rfl rfl 2 (by decide) (hts _ fl_X2_isBefore_18) (fun _ h9 => h9) rfl dX2_isBefore_7 ?_
  refine lv_iload_n hx hb dX2_isBefore_10 rfl (lv_at hl 2 rfl) ?_
  refine r_lld hx hb hE hP 3 rfl (k := j) (by omega) (by decide) dX2_isBefore_11 ?_
  refine r_l_eq (tgt := 38) hx hb (x := ct i) (y := ct j) (by omega) (by omega) dX2_isBefore_12 dX2_isBefore_13 (by decide) (fun c_12 => ?_) (fun c_12 => ?_)
  · skip
    refine lv_aload_n hx hb dX2_isBefore_38 rfl (lv_at hl 0 rfl) ?_
    refine va_get (D := D) (ci := 2) (v := .ref af) (C := RX2) (T := TX2) (N := 5) hx hb hts in_X2_isBefore_X2 hown hE.1 hP 0 rfl rfl 0 (by decide) (hts _ fl_X2_isBefore_9) (fun _ h9 => h9) rfl dX2_isBefore_39 ?_
    refine lv_iload_n hx hb dX2_isBefore_42 rfl (lv_at hl 1 rfl) ?_
    refine r_nld hx hb hE hP 1 rfl (k := i) (by omega) (by decide) dX2_isBefore_43 ?_
    refine lv_aload_n hx hb dX2_isBefore_44 rfl (lv_at hl 0 rfl) ?_
    refine va_get (D := D) (ci := 2) (v := .ref af) (C := RX2) (T := TX2) (N := 5) hx hb hts in_X2_isBefore_X2 hown hE.1 hP 0 rfl rfl 0 (by decide) (hts _ fl_X2_isBefore_9) (fun _ h9 => h9) rfl dX2_isBefore_45 ?_
    refine lv_iload_n hx hb dX2_isBefore_48 rfl (lv_at hl 2 rfl) ?_
    refine r_nld hx hb hE hP 1 rfl (k := j) (by omega) (by decide) dX2_isBefore_49 ?_
    refine r_icmp_eq (tgt := 74) hx hb (x := fr i) (y := fr j) (by omega) (by omega) dX2_isBefore_50 (by decide) (fun c_50 => ?_) (fun c_50 => ?_)
    · skip
      refine lv_aload_n hx hb dX2_isBefore_74 rfl (lv_at hl 0 rfl) ?_
      refine va_get (D := D) (ci := 2) (v := .ref at_) (C := RX2) (T := TX2) (N := 5) hx hb hts in_X2_isBefore_X2 hown hE.1 hP 0 rfl rfl 1 (by decide) (hts _ fl_X2_isBefore_15) (fun _ h9 => h9) rfl dX2_isBefore_75 ?_
      refine lv_iload_n hx hb dX2_isBefore_78 rfl (lv_at hl 1 rfl) ?_
      refine r_nld hx hb hE hP 2 rfl (k := i) (by omega) (by decide) dX2_isBefore_79 ?_
      refine lv_aload_n hx hb dX2_isBefore_80 rfl (lv_at hl 0 rfl) ?_
      refine va_get (D := D) (ci := 2) (v := .ref at_) (C := RX2) (T := TX2) (N := 5) hx hb hts in_X2_isBefore_X2 hown hE.1 hP 0 rfl rfl 1 (by decide) (hts _ fl_X2_isBefore_15) (fun _ h9 => h9) rfl dX2_isBefore_81 ?_
      refine lv_iload_n hx hb dX2_isBefore_84 rfl (lv_at hl 2 rfl) ?_
      refine r_nld hx hb hE hP 2 rfl (k := j) (by omega) (by decide) dX2_isBefore_85 ?_
      refine r_icmp_ge (tgt := 93) hx hb (x := tt i) (y := tt j) (by omega) (by omega) dX2_isBefore_86 (by decide) (fun c_86 => ?_) (fun c_86 => ?_)
      · skip
        refine lv_iconst (v := bI false) hx hb dX2_isBefore_93 (by decide) ?_
        exact e_z false rfl hx hb hr hlocks dX2_isBefore_94 (by show bI false = bI _; congr 1; unfold bef pk; simp only; repeat' split; all_goals simp only [decide_eq_true_eq, decide_eq_false_iff_not, eq_comm (a := true), eq_comm (a := false)]; all_goals omega)
      · skip
        refine lv_iconst (v := bI true) hx hb dX2_isBefore_89 (by decide) ?_
        refine lv_goto (tgt := 94) hx hb dX2_isBefore_90 (by decide) ?_
        exact e_z true rfl hx hb hr hlocks dX2_isBefore_94 (by show bI true = bI _; congr 1; unfold bef pk; simp only; repeat' split; all_goals simp only [decide_eq_true_eq, decide_eq_false_iff_not, eq_comm (a := true), eq_comm (a := false)]; all_goals omega)
    · skip
      refine lv_aload_n hx hb dX2_isBefore_53 rfl (lv_at hl 0 rfl) ?_
      refine va_get (D := D) (ci := 2) (v := .ref af) (C := RX2) (T := TX2) (N := 5) hx hb hts in_X2_isBefore_X2 hown hE.1 hP 0 rfl rfl 0 (by decide) (hts _ fl_X2_isBefore_9) (fun _ h9 => h9) rfl dX2_isBefore_54 ?_
      refine lv_iload_n hx hb dX2_isBefore_57 rfl (lv_at hl 1 rfl) ?_
      refine r_nld hx hb hE hP 1 rfl (k := i) (by omega) (by decide) dX2_isBefore_58 ?_
      refine lv_aload_n hx hb dX2_isBefore_59 rfl (lv_at hl 0 rfl) ?_
      refine va_get (D := D) (ci := 2) (v := .ref af) (C := RX2) (T := TX2) (N := 5) hx hb hts in_X2_isBefore_X2 hown hE.1 hP 0 rfl rfl 0 (by decide) (hts _ fl_X2_isBefore_9) (fun _ h9 => h9) rfl dX2_isBefore_60 ?_
      refine lv_iload_n hx hb dX2_isBefore_63 rfl (lv_at hl 2 rfl) ?_
      refine r_nld hx hb hE hP 1 rfl (k := j) (by omega) (by decide) dX2_isBefore_64 ?_
      refine r_icmp_ge (tgt := 72) hx hb (x := fr i) (y := fr j) (by omega) (by omega) dX2_isBefore_65 (by decide) (fun c_65 => ?_) (fun c_65 => ?_)
      · skip
        refine lv_iconst (v := bI false) hx hb dX2_isBefore_72 (by decide) ?_
        exact e_z false rfl hx hb hr hlocks dX2_isBefore_73 (by show bI false = bI _; congr 1; unfold bef pk; simp only; repeat' split; all_goals simp only [decide_eq_true_eq, decide_eq_false_iff_not, eq_comm (a := true), eq_comm (a := false)]; all_goals omega)
      · skip
        refine lv_iconst (v := bI true) hx hb dX2_isBefore_68 (by decide) ?_
        refine lv_goto (tgt := 73) hx hb dX2_isBefore_69 (by decide) ?_
        exact e_z true rfl hx hb hr hlocks dX2_isBefore_73 (by show bI true = bI _; congr 1; unfold bef pk; simp only; repeat' split; all_goals simp only [decide_eq_true_eq, decide_eq_false_iff_not, eq_comm (a := true), eq_comm (a := false)]; all_goals omega)
  · skip
    refine lv_aload_n hx hb dX2_isBefore_16 rfl (lv_at hl 0 rfl) ?_
    refine va_get (D := D) (ci := 2) (v := .ref ac) (C := RX2) (T := TX2) (N := 5) hx hb hts in_X2_isBefore_X2 hown hE.1 hP 0 rfl rfl 2 (by decide) (hts _ fl_X2_isBefore_18) (fun _ h9 => h9) rfl dX2_isBefore_17 ?_
    refine lv_iload_n hx hb dX2_isBefore_20 rfl (lv_at hl 1 rfl) ?_
    refine r_lld hx hb hE hP 3 rfl (k := i) (by omega) (by decide) dX2_isBefore_21 ?_
    refine lv_aload_n hx hb dX2_isBefore_22 rfl (lv_at hl 0 rfl) ?_
    refine va_get (D := D) (ci := 2) (v := .ref ac) (C := RX2) (T := TX2) (N := 5) hx hb hts in_X2_isBefore_X2 hown hE.1 hP 0 rfl rfl 2 (by decide) (hts _ fl_X2_isBefore_18) (fun _ h9 => h9) rfl dX2_isBefore_23 ?_
    refine lv_iload_n hx hb dX2_isBefore_26 rfl (lv_at hl 2 rfl) ?_
    refine r_lld hx hb hE hP 3 rfl (k := j) (by omega) (by decide) dX2_isBefore_27 ?_
    refine r_l_le (tgt := 36) hx hb (x := ct i) (y := ct j) (by omega) (by omega) dX2_isBefore_28 dX2_isBefore_29 (by decide) (fun c_28 => ?_) (fun c_28 => ?_)
    · skip
      refine lv_iconst (v := bI false) hx hb dX2_isBefore_36 (by decide) ?_
      exact e_z false rfl hx hb hr hlocks dX2_isBefore_37 (by show bI false = bI _; congr 1; unfold bef pk; simp only; repeat' split; all_goals simp only [decide_eq_true_eq, decide_eq_false_iff_not, eq_comm (a := true), eq_comm (a := false)]; all_goals omega)
    · skip
      refine lv_iconst (v := bI true) hx hb dX2_isBefore_32 (by decide) ?_
      refine lv_goto (tgt := 37) hx hb dX2_isBefore_33 (by decide) ?_
      exact e_z true rfl hx hb hr hlocks dX2_isBefore_37 (by show bI true = bI _; congr 1; unfold bef pk; simp only; repeat' split; all_goals simp only [decide_eq_true_eq, decide_eq_false_iff_not, eq_comm (a := true), eq_comm (a := false)]; all_goals omega)

theorem fl_X2_swap_15 : Cond.fieldLink RX2 15 "BlockRows$Ways" "to" "[I" ∈ wsX2_swap := by decide +kernel
theorem fl_X2_swap_18 : Cond.fieldLink RX2 18 "BlockRows$Ways" "counts" "[J" ∈ wsX2_swap := by decide +kernel
theorem fl_X2_swap_22 : Cond.fieldLink RX2 22 "BlockRows$Ways" "falling" "[Z" ∈ wsX2_swap := by decide +kernel
theorem fl_X2_swap_9 : Cond.fieldLink RX2 9 "BlockRows$Ways" "from" "[I" ∈ wsX2_swap := by decide +kernel
theorem in_X2_swap_X2 : ∀ w ∈ wsX20, w ∈ wsX2_swap := by decide +kernel
set_option maxHeartbeats 4000000 in
set_option maxRecDepth 100000 in
/-- Ways.swap(a, b) -/
theorem c_swap (l : Launch) (D : va_G) (cI cJ cZ : ClassId) (h af at_ ac al kn : Nat) (fr tt ct : Nat → Nat) (fa : Nat → Bool) (sz : Nat) (i j : Nat) (hi : i < 1000) (hj : j < 1000) : Met l yX2_swap wsX2_swap ({ frames := 0, cells := 0, slots := 0, locals := 0 }) (PcM D cI cJ cZ [.ref h, .int (nI i), .int (nI j)] [(h, .inr (2, [.ref af, .ref at_, .ref ac, .ref al, .int (nI kn)])), (af, .inl (cI, 1000, .inl (nIf fr))), (at_, .inl (cI, 1000, .inl (nIf tt))), (ac, .inl (cJ, 1000, .inr (.inl (lNf ct)))), (al, .inl (cZ, 1000, .inl (bIf fa)))] sz) (va_Qv (fun _ : Unit => True) (Bm D [(h, .inr (2, [.ref af, .ref at_, .ref ac, .ref al, .int (nI kn)])), (af, .inl (cI, 1000, .inl (nIf fr))), (at_, .inl (cI, 1000, .inl (nIf tt))), (ac, .inl (cJ, 1000, .inr (.inl (lNf ct)))), (al, .inl (cZ, 1000, .inl (bIf fa)))] sz (fun _ : Unit => [(h, .inr (2, [.ref af, .ref at_, .ref ac, .ref al, .int (nI kn)])), (af, .inl (cI, 1000, .inl (nIf (sw fr i j)))), (at_, .inl (cI, 1000, .inl (nIf (sw tt i j)))), (ac, .inl (cJ, 1000, .inr (.inl (lNf (sw ct i j))))), (al, .inl (cZ, 1000, .inl (bIf (sw fa i j))))])) (va_A [(h, .inr (2, [.ref af, .ref at_, .ref ac, .ref al, .int (nI kn)])), (af, .inl (cI, 1000, .inl (nIf fr))), (at_, .inl (cI, 1000, .inl (nIf tt))), (ac, .inl (cJ, 1000, .inr (.inl (lNf ct)))), (al, .inl (cZ, 1000, .inl (bIf fa)))] sz)) 0 0 (va_A [(h, .inr (2, [.ref af, .ref at_, .ref ac, .ref al, .int (nI kn)])), (af, .inl (cI, 1000, .inl (nIf fr))), (at_, .inl (cI, 1000, .inl (nIf tt))), (ac, .inl (cJ, 1000, .inr (.inl (lNf ct)))), (al, .inl (cZ, 1000, .inl (bIf fa)))] sz) := by
  refine startM (cc := cX2_swap) (maxL := 8) (ret := none) (by decide) rfl (Nat.le_of_ble_eq_true rfl) ?_
  intro p e s m below meth c ls A hA hAe hx hb hr hml hown hts hlocks hin hE hP hD hS hl
  have hl : lv_has ls 8 [(0, .ref h), (1, .int (nI i)), (2, .int (nI j))] := hl
  refine lv_aload_n hx hb dX2_swap_0 rfl (lv_at hl 0 rfl) ?_
  refine va_get (D := D) (ci := 2) (v := .ref af) (C := RX2) (T := TX2) (N := 5) hx hb hts in_X2_swap_X2 hown hE.1 hP 0 rfl rfl 0 (by decide) (hts _ fl_X2_swap_9) (fun _ h9 => h9) rfl dX2_swap_1 ?_
  refine lv_iload_n hx hb dX2_swap_4 rfl (lv_at hl 1 rfl) ?_
  refine r_nld hx hb hE hP 1 rfl (k := i) (by omega) (by decide) dX2_swap_5 ?_
  refine lv_istore_n (lv' := [(3, .int (nI (fr i))), (0, .ref h), (1, .int (nI i)), (2, .int (nI j))]) hx hb dX2_swap_6 rfl hl (by decide) rfl (fun ls hl => ?_)
  refine lv_aload_n hx hb dX2_swap_7 rfl (lv_at hl 1 rfl) ?_
  refine va_get (D := D) (ci := 2) (v := .ref at_) (C := RX2) (T := TX2) (N := 5) hx hb hts in_X2_swap_X2 hown hE.1 hP 0 rfl rfl 1 (by decide) (hts _ fl_X2_swap_15) (fun _ h9 => h9) rfl dX2_swap_8 ?_
  refine lv_iload_n hx hb dX2_swap_11 rfl (lv_at hl 2 rfl) ?_
  refine r_nld hx hb hE hP 2 rfl (k := i) (by omega) (by decide) dX2_swap_12 ?_
  refine lv_istore (lv' := [(4, .int (nI (tt i))), (3, .int (nI (fr i))), (0, .ref h), (1, .int (nI i)), (2, .int (nI j))]) hx hb dX2_swap_13 hl (by decide) rfl (fun ls hl => ?_)
  refine lv_aload_n hx hb dX2_swap_15 rfl (lv_at hl 2 rfl) ?_
  refine va_get (D := D) (ci := 2) (v := .ref ac) (C := RX2) (T := TX2) (N := 5) hx hb hts in_X2_swap_X2 hown hE.1 hP 0 rfl rfl 2 (by decide) (hts _ fl_X2_swap_18) (fun _ h9 => h9) rfl dX2_swap_16 ?_
  refine lv_iload_n hx hb dX2_swap_19 rfl (lv_at hl 3 rfl) ?_
  refine r_lld hx hb hE hP 3 rfl (k := i) (by omega) (by decide) dX2_swap_20 ?_
  refine lv_lstore (lv' := [(5, .long (lN (ct i))), (4, .int (nI (tt i))), (3, .int (nI (fr i))), (0, .ref h), (1, .int (nI i)), (2, .int (nI j))]) hx hb dX2_swap_21 hl (by decide) rfl (fun ls hl => ?_)
  refine lv_aload_n hx hb dX2_swap_23 rfl (lv_at hl 3 rfl) ?_
  refine va_get (D := D) (ci := 2) (v := .ref al) (C := RX2) (T := TX2) (N := 5) hx hb hts in_X2_swap_X2 hown hE.1 hP 0 rfl rfl 3 (by decide) (hts _ fl_X2_swap_22) (fun _ h9 => h9) rfl dX2_swap_24 ?_
  refine lv_iload_n hx hb dX2_swap_27 rfl (lv_at hl 4 rfl) ?_
  refine r_bld hx hb hE hP 4 rfl (k := i) (by omega) (by decide) dX2_swap_28 ?_
  refine lv_istore (lv' := [(7, .int (bI (fa i))), (5, .long (lN (ct i))), (4, .int (nI (tt i))), (3, .int (nI (fr i))), (0, .ref h), (1, .int (nI i)), (2, .int (nI j))]) hx hb dX2_swap_29 hl (by decide) rfl (fun ls hl => ?_)
  refine lv_aload_n hx hb dX2_swap_31 rfl (lv_at hl 4 rfl) ?_
  refine va_get (D := D) (ci := 2) (v := .ref af) (C := RX2) (T := TX2) (N := 5) hx hb hts in_X2_swap_X2 hown hE.1 hP 0 rfl rfl 0 (by decide) (hts _ fl_X2_swap_9) (fun _ h9 => h9) rfl dX2_swap_32 ?_
  refine lv_iload_n hx hb dX2_swap_35 rfl (lv_at hl 5 rfl) ?_
  refine lv_aload_n hx hb dX2_swap_36 rfl (lv_at hl 4 rfl) ?_
  refine va_get (D := D) (ci := 2) (v := .ref af) (C := RX2) (T := TX2) (N := 5) hx hb hts in_X2_swap_X2 hown hE.1 hP 0 rfl rfl 0 (by decide) (hts _ fl_X2_swap_9) (fun _ h9 => h9) rfl dX2_swap_37 ?_
  refine lv_iload_n hx hb dX2_swap_40 rfl (lv_at hl 6 rfl) ?_
  refine r_nld hx hb hE hP 1 rfl (k := j) (by omega) (by decide) dX2_swap_41 ?_
  refine r_nst hx hb hE hP hD hS 1 rfl (k := i) (x := fr j) (by omega) (by decide) dX2_swap_42 (fun H locs hP hD hS => ?_)
  have hP : va_P D vwCl [(h, .inr (2, [.ref af, .ref at_, .ref ac, .ref al, .int (nI kn)])), (af, .inl (cI, 1000, .inl (nIf (va_up fr i (fr j))))), (at_, .inl (cI, 1000, .inl (nIf tt))), (ac, .inl (cJ, 1000, .inr (.inl (lNf ct)))), (al, .inl (cZ, 1000, .inl (bIf fa)))] H := hP
  have hD : va_D A [(h, .inr (2, [.ref af, .ref at_, .ref ac, .ref al, .int (nI kn)])), (af, .inl (cI, 1000, .inl (nIf (va_up fr i (fr j))))), (at_, .inl (cI, 1000, .inl (nIf tt))), (ac, .inl (cJ, 1000, .inr (.inl (lNf ct)))), (al, .inl (cZ, 1000, .inl (bIf fa)))] := hD
  refine lv_aload_n hx hb dX2_swap_43 rfl (lv_at hl 4 rfl) ?_
  refine va_get (D := D) (ci := 2) (v := .ref at_) (C := RX2) (T := TX2) (N := 5) hx hb hts in_X2_swap_X2 hown hE.1 hP 0 rfl rfl 1 (by decide) (hts _ fl_X2_swap_15) (fun _ h9 => h9) rfl dX2_swap_44 ?_
  refine lv_iload_n hx hb dX2_swap_47 rfl (lv_at hl 5 rfl) ?_
  refine lv_aload_n hx hb dX2_swap_48 rfl (lv_at hl 4 rfl) ?_
  refine va_get (D := D) (ci := 2) (v := .ref at_) (C := RX2) (T := TX2) (N := 5) hx hb hts in_X2_swap_X2 hown hE.1 hP 0 rfl rfl 1 (by decide) (hts _ fl_X2_swap_15) (fun _ h9 => h9) rfl dX2_swap_49 ?_
  refine lv_iload_n hx hb dX2_swap_52 rfl (lv_at hl 6 rfl) ?_
  refine r_nld hx hb hE hP 2 rfl (k := j) (by omega) (by decide) dX2_swap_53 ?_
  refine r_nst hx hb hE hP hD hS 2 rfl (k := i) (x := tt j) (by omega) (by decide) dX2_swap_54 (fun H locs hP hD hS => ?_)
  have hP : va_P D vwCl [(h, .inr (2, [.ref af, .ref at_, .ref ac, .ref al, .int (nI kn)])), (af, .inl (cI, 1000, .inl (nIf (va_up fr i (fr j))))), (at_, .inl (cI, 1000, .inl (nIf (va_up tt i (tt j))))), (ac, .inl (cJ, 1000, .inr (.inl (lNf ct)))), (al, .inl (cZ, 1000, .inl (bIf fa)))] H := hP
  have hD : va_D A [(h, .inr (2, [.ref af, .ref at_, .ref ac, .ref al, .int (nI kn)])), (af, .inl (cI, 1000, .inl (nIf (va_up fr i (fr j))))), (at_, .inl (cI, 1000, .inl (nIf (va_up tt i (tt j))))), (ac, .inl (cJ, 1000, .inr (.inl (lNf ct)))), (al, .inl (cZ, 1000, .inl (bIf fa)))] := hD
  refine lv_aload_n hx hb dX2_swap_55 rfl (lv_at hl 4 rfl) ?_
  refine va_get (D := D) (ci := 2) (v := .ref ac) (C := RX2) (T := TX2) (N := 5) hx hb hts in_X2_swap_X2 hown hE.1 hP 0 rfl rfl 2 (by decide) (hts _ fl_X2_swap_18) (fun _ h9 => h9) rfl dX2_swap_56 ?_
  refine lv_iload_n hx hb dX2_swap_59 rfl (lv_at hl 5 rfl) ?_
  refine lv_aload_n hx hb dX2_swap_60 rfl (lv_at hl 4 rfl) ?_
  refine va_get (D := D) (ci := 2) (v := .ref ac) (C := RX2) (T := TX2) (N := 5) hx hb hts in_X2_swap_X2 hown hE.1 hP 0 rfl rfl 2 (by decide) (hts _ fl_X2_swap_18) (fun _ h9 => h9) rfl dX2_swap_61 ?_
  refine lv_iload_n hx hb dX2_swap_64 rfl (lv_at hl 6 rfl) ?_
  refine r_lld hx hb hE hP 3 rfl (k := j) (by omega) (by decide) dX2_swap_65 ?_
  refine r_lst hx hb hE hP hD hS 3 rfl (k := i) (x := ct j) (by omega) (by decide) dX2_swap_66 (fun H locs hP hD hS => ?_)
  have hP : va_P D vwCl [(h, .inr (2, [.ref af, .ref at_, .ref ac, .ref al, .int (nI kn)])), (af, .inl (cI, 1000, .inl (nIf (va_up fr i (fr j))))), (at_, .inl (cI, 1000, .inl (nIf (va_up tt i (tt j))))), (ac, .inl (cJ, 1000, .inr (.inl (lNf (va_up ct i (ct j)))))), (al, .inl (cZ, 1000, .inl (bIf fa)))] H := hP
  have hD : va_D A [(h, .inr (2, [.ref af, .ref at_, .ref ac, .ref al, .int (nI kn)])), (af, .inl (cI, 1000, .inl (nIf (va_up fr i (fr j))))), (at_, .inl (cI, 1000, .inl (nIf (va_up tt i (tt j))))), (ac, .inl (cJ, 1000, .inr (.inl (lNf (va_up ct i (ct j)))))), (al, .inl (cZ, 1000, .inl (bIf fa)))] := hD
  refine lv_aload_n hx hb dX2_swap_67 rfl (lv_at hl 4 rfl) ?_
  refine va_get (D := D) (ci := 2) (v := .ref al) (C := RX2) (T := TX2) (N := 5) hx hb hts in_X2_swap_X2 hown hE.1 hP 0 rfl rfl 3 (by decide) (hts _ fl_X2_swap_22) (fun _ h9 => h9) rfl dX2_swap_68 ?_
  refine lv_iload_n hx hb dX2_swap_71 rfl (lv_at hl 5 rfl) ?_
  refine lv_aload_n hx hb dX2_swap_72 rfl (lv_at hl 4 rfl) ?_
  refine va_get (D := D) (ci := 2) (v := .ref al) (C := RX2) (T := TX2) (N := 5) hx hb hts in_X2_swap_X2 hown hE.1 hP 0 rfl rfl 3 (by decide) (hts _ fl_X2_swap_22) (fun _ h9 => h9) rfl dX2_swap_73 ?_
  refine lv_iload_n hx hb dX2_swap_76 rfl (lv_at hl 6 rfl) ?_
  refine r_bld hx hb hE hP 4 rfl (k := j) (by omega) (by decide) dX2_swap_77 ?_
  refine r_bst hx hb hE hP hD hS 4 rfl (k := i) (fa j) rfl (by omega) (by decide) dX2_swap_78 (fun H locs hP hD hS => ?_)
  have hP : va_P D vwCl [(h, .inr (2, [.ref af, .ref at_, .ref ac, .ref al, .int (nI kn)])), (af, .inl (cI, 1000, .inl (nIf (va_up fr i (fr j))))), (at_, .inl (cI, 1000, .inl (nIf (va_up tt i (tt j))))), (ac, .inl (cJ, 1000, .inr (.inl (lNf (va_up ct i (ct j)))))), (al, .inl (cZ, 1000, .inl (bIf (va_up fa i (fa j)))))] H := hP
  have hD : va_D A [(h, .inr (2, [.ref af, .ref at_, .ref ac, .ref al, .int (nI kn)])), (af, .inl (cI, 1000, .inl (nIf (va_up fr i (fr j))))), (at_, .inl (cI, 1000, .inl (nIf (va_up tt i (tt j))))), (ac, .inl (cJ, 1000, .inr (.inl (lNf (va_up ct i (ct j)))))), (al, .inl (cZ, 1000, .inl (bIf (va_up fa i (fa j)))))] := hD
  refine lv_aload_n hx hb dX2_swap_79 rfl (lv_at hl 4 rfl) ?_
  refine va_get (D := D) (ci := 2) (v := .ref af) (C := RX2) (T := TX2) (N := 5) hx hb hts in_X2_swap_X2 hown hE.1 hP 0 rfl rfl 0 (by decide) (hts _ fl_X2_swap_9) (fun _ h9 => h9) rfl dX2_swap_80 ?_
  refine lv_iload_n hx hb dX2_swap_83 rfl (lv_at hl 6 rfl) ?_
  refine lv_iload_n hx hb dX2_swap_84 rfl (lv_at hl 3 rfl) ?_
  refine r_nst hx hb hE hP hD hS 1 rfl (k := j) (x := fr i) (by omega) (by decide) dX2_swap_85 (fun H locs hP hD hS => ?_)
  have hP : va_P D vwCl [(h, .inr (2, [.ref af, .ref at_, .ref ac, .ref al, .int (nI kn)])), (af, .inl (cI, 1000, .inl (nIf (va_up (va_up fr i (fr j)) j (fr i))))), (at_, .inl (cI, 1000, .inl (nIf (va_up tt i (tt j))))), (ac, .inl (cJ, 1000, .inr (.inl (lNf (va_up ct i (ct j)))))), (al, .inl (cZ, 1000, .inl (bIf (va_up fa i (fa j)))))] H := hP
  have hD : va_D A [(h, .inr (2, [.ref af, .ref at_, .ref ac, .ref al, .int (nI kn)])), (af, .inl (cI, 1000, .inl (nIf (va_up (va_up fr i (fr j)) j (fr i))))), (at_, .inl (cI, 1000, .inl (nIf (va_up tt i (tt j))))), (ac, .inl (cJ, 1000, .inr (.inl (lNf (va_up ct i (ct j)))))), (al, .inl (cZ, 1000, .inl (bIf (va_up fa i (fa j)))))] := hD
  refine lv_aload_n hx hb dX2_swap_86 rfl (lv_at hl 4 rfl) ?_
  refine va_get (D := D) (ci := 2) (v := .ref at_) (C := RX2) (T := TX2) (N := 5) hx hb hts in_X2_swap_X2 hown hE.1 hP 0 rfl rfl 1 (by decide) (hts _ fl_X2_swap_15) (fun _ h9 => h9) rfl dX2_swap_87 ?_
  refine lv_iload_n hx hb dX2_swap_90 rfl (lv_at hl 6 rfl) ?_
  refine lv_iload hx hb dX2_swap_91 (lv_at hl 2 rfl) ?_
  refine r_nst hx hb hE hP hD hS 2 rfl (k := j) (x := tt i) (by omega) (by decide) dX2_swap_93 (fun H locs hP hD hS => ?_)
  have hP : va_P D vwCl [(h, .inr (2, [.ref af, .ref at_, .ref ac, .ref al, .int (nI kn)])), (af, .inl (cI, 1000, .inl (nIf (va_up (va_up fr i (fr j)) j (fr i))))), (at_, .inl (cI, 1000, .inl (nIf (va_up (va_up tt i (tt j)) j (tt i))))), (ac, .inl (cJ, 1000, .inr (.inl (lNf (va_up ct i (ct j)))))), (al, .inl (cZ, 1000, .inl (bIf (va_up fa i (fa j)))))] H := hP
  have hD : va_D A [(h, .inr (2, [.ref af, .ref at_, .ref ac, .ref al, .int (nI kn)])), (af, .inl (cI, 1000, .inl (nIf (va_up (va_up fr i (fr j)) j (fr i))))), (at_, .inl (cI, 1000, .inl (nIf (va_up (va_up tt i (tt j)) j (tt i))))), (ac, .inl (cJ, 1000, .inr (.inl (lNf (va_up ct i (ct j)))))), (al, .inl (cZ, 1000, .inl (bIf (va_up fa i (fa j)))))] := hD
  refine lv_aload_n hx hb dX2_swap_94 rfl (lv_at hl 4 rfl) ?_
  refine va_get (D := D) (ci := 2) (v := .ref ac) (C := RX2) (T := TX2) (N := 5) hx hb hts in_X2_swap_X2 hown hE.1 hP 0 rfl rfl 2 (by decide) (hts _ fl_X2_swap_18) (fun _ h9 => h9) rfl dX2_swap_95 ?_
  refine lv_iload_n hx hb dX2_swap_98 rfl (lv_at hl 6 rfl) ?_
  refine lv_lload hx hb dX2_swap_99 (lv_at hl 1 rfl) ?_
  refine r_lst hx hb hE hP hD hS 3 rfl (k := j) (x := ct i) (by omega) (by decide) dX2_swap_101 (fun H locs hP hD hS => ?_)
  have hP : va_P D vwCl [(h, .inr (2, [.ref af, .ref at_, .ref ac, .ref al, .int (nI kn)])), (af, .inl (cI, 1000, .inl (nIf (va_up (va_up fr i (fr j)) j (fr i))))), (at_, .inl (cI, 1000, .inl (nIf (va_up (va_up tt i (tt j)) j (tt i))))), (ac, .inl (cJ, 1000, .inr (.inl (lNf (va_up (va_up ct i (ct j)) j (ct i)))))), (al, .inl (cZ, 1000, .inl (bIf (va_up fa i (fa j)))))] H := hP
  have hD : va_D A [(h, .inr (2, [.ref af, .ref at_, .ref ac, .ref al, .int (nI kn)])), (af, .inl (cI, 1000, .inl (nIf (va_up (va_up fr i (fr j)) j (fr i))))), (at_, .inl (cI, 1000, .inl (nIf (va_up (va_up tt i (tt j)) j (tt i))))), (ac, .inl (cJ, 1000, .inr (.inl (lNf (va_up (va_up ct i (ct j)) j (ct i)))))), (al, .inl (cZ, 1000, .inl (bIf (va_up fa i (fa j)))))] := hD
  refine lv_aload_n hx hb dX2_swap_102 rfl (lv_at hl 4 rfl) ?_
  refine va_get (D := D) (ci := 2) (v := .ref al) (C := RX2) (T := TX2) (N := 5) hx hb hts in_X2_swap_X2 hown hE.1 hP 0 rfl rfl 3 (by decide) (hts _ fl_X2_swap_22) (fun _ h9 => h9) rfl dX2_swap_103 ?_
  refine lv_iload_n hx hb dX2_swap_106 rfl (lv_at hl 6 rfl) ?_
  refine lv_iload hx hb dX2_swap_107 (lv_at hl 0 rfl) ?_
  refine r_bst hx hb hE hP hD hS 4 rfl (k := j) (fa i) rfl (by omega) (by decide) dX2_swap_109 (fun H locs hP hD hS => ?_)
  have hP : va_P D vwCl [(h, .inr (2, [.ref af, .ref at_, .ref ac, .ref al, .int (nI kn)])), (af, .inl (cI, 1000, .inl (nIf (va_up (va_up fr i (fr j)) j (fr i))))), (at_, .inl (cI, 1000, .inl (nIf (va_up (va_up tt i (tt j)) j (tt i))))), (ac, .inl (cJ, 1000, .inr (.inl (lNf (va_up (va_up ct i (ct j)) j (ct i)))))), (al, .inl (cZ, 1000, .inl (bIf (va_up (va_up fa i (fa j)) j (fa i)))))] H := hP
  have hD : va_D A [(h, .inr (2, [.ref af, .ref at_, .ref ac, .ref al, .int (nI kn)])), (af, .inl (cI, 1000, .inl (nIf (va_up (va_up fr i (fr j)) j (fr i))))), (at_, .inl (cI, 1000, .inl (nIf (va_up (va_up tt i (tt j)) j (tt i))))), (ac, .inl (cJ, 1000, .inr (.inl (lNf (va_up (va_up ct i (ct j)) j (ct i)))))), (al, .inl (cZ, 1000, .inl (bIf (va_up (va_up fa i (fa j)) j (fa i)))))] := hD
  exact e_mv () hAe hx hb hr hlocks dX2_swap_110 hP hD hS trivial

set_option maxHeartbeats 4000000 in
set_option maxRecDepth 100000 in
/-- Ways.moveForward(k) -/
theorem c_moveForward (l : Launch) (D : va_G) (cI cJ cZ : ClassId) (h af at_ ac al kn : Nat) (fr tt ct : Nat → Nat) (fa : Nat → Bool) (sz k0 : Nat) (hkn : kn ≤ 1000) (hB : WB fr tt ct) (hM : MF kn (pk fr tt ct fa) (pk fr tt ct fa) k0) : Met l yX2_moveForward wsX2_moveForward ({ frames := 1, cells := 0, slots := 0, locals := 27 }) (PcM D cI cJ cZ [.ref h, .int (nI k0)] [(h, .inr (2, [.ref af, .ref at_, .ref ac, .ref al, .int (nI kn)])), (af, .inl (cI, 1000, .inl (nIf fr))), (at_, .inl (cI, 1000, .inl (nIf tt))), (ac, .inl (cJ, 1000, .inr (.inl (lNf ct)))), (al, .inl (cZ, 1000, .inl (bIf fa)))] sz) (va_Qv (fun u : (Nat → Nat) × (Nat → Nat) × (Nat → Nat) × (Nat → Bool) => WB u.1 u.2.1 u.2.2.1 ∧ (wl kn (pk u.1 u.2.1 u.2.2.1 u.2.2.2)).Perm (wl kn (pk fr tt ct fa)) ∧ Srt kn (pk u.1 u.2.1 u.2.2.1 u.2.2.2)) (Bm D [(h, .inr (2, [.ref af, .ref at_, .ref ac, .ref al, .int (nI kn)])), (af, .inl (cI, 1000, .inl (nIf fr))), (at_, .inl (cI, 1000, .inl (nIf tt))), (ac, .inl (cJ, 1000, .inr (.inl (lNf ct)))), (al, .inl (cZ, 1000, .inl (bIf fa)))] sz (fun u : (Nat → Nat) × (Nat → Nat) × (Nat → Nat) × (Nat → Bool) => [(h, .inr (2, [.ref af, .ref at_, .ref ac, .ref al, .int (nI kn)])), (af, .inl (cI, 1000, .inl (nIf u.1))), (at_, .inl (cI, 1000, .inl (nIf u.2.1))), (ac, .inl (cJ, 1000, .inr (.inl (lNf u.2.2.1)))), (al, .inl (cZ, 1000, .inl (bIf u.2.2.2)))])) (va_A [(h, .inr (2, [.ref af, .ref at_, .ref ac, .ref al, .int (nI kn)])), (af, .inl (cI, 1000, .inl (nIf fr))), (at_, .inl (cI, 1000, .inl (nIf tt))), (ac, .inl (cJ, 1000, .inr (.inl (lNf ct)))), (al, .inl (cZ, 1000, .inl (bIf fa)))] sz)) 0 0 (va_A [(h, .inr (2, [.ref af, .ref at_, .ref ac, .ref al, .int (nI kn)])), (af, .inl (cI, 1000, .inl (nIf fr))), (at_, .inl (cI, 1000, .inl (nIf tt))), (ac, .inl (cJ, 1000, .inr (.inl (lNf ct)))), (al, .inl (cZ, 1000, .inl (bIf fa)))] sz) := by
  refine startM (cc := cX2_moveForward) (maxL := 3) (ret := none) (by decide) rfl (Nat.le_of_ble_eq_true rfl) ?_
  intro p e s m below meth c ls A hA hAe hx hb hr hml hown hts hlocks hin hE hP hD hS hl
  have hl : lv_has ls 3 [(0, .ref h), (1, .int (nI k0))] := hl
  refine lv_iload_n hx hb dX2_moveForward_0 rfl (lv_at hl 1 rfl) ?_
  refine lv_istore_n (lv' := [(2, .int (nI k0)), (0, .ref h), (1, .int (nI k0))]) hx hb dX2_moveForward_1 rfl hl (by decide) rfl (fun ls hl => ?_)
  refine r_loop (σ := Nat × (Nat → Nat) × (Nat → Nat) × (Nat → Nat) × (Nat → Bool)) (fun z0 => z0.1) (fun z0 H locs ls => (MF kn (pk fr tt ct fa) (pk z0.2.1 z0.2.2.1 z0.2.2.2.1 z0.2.2.2.2) z0.1 ∧ WB z0.2.1 z0.2.2.1 z0.2.2.2.1) ∧ va_P D vwCl [(h, .inr (2, [.ref af, .ref at_, .ref ac, .ref al, .int (nI kn)])), (af, .inl (cI, 1000, .inl (nIf z0.2.1))), (at_, .inl (cI, 1000, .inl (nIf z0.2.2.1))), (ac, .inl (cJ, 1000, .inr (.inl (lNf z0.2.2.2.1)))), (al, .inl (cZ, 1000, .inl (bIf z0.2.2.2.2)))] H ∧ va_D A [(h, .inr (2, [.ref af, .ref at_, .ref ac, .ref al, .int (nI kn)])), (af, .inl (cI, 1000, .inl (nIf z0.2.1))), (at_, .inl (cI, 1000, .inl (nIf z0.2.2.1))), (ac, .inl (cJ, 1000, .inr (.inl (lNf z0.2.2.2.1)))), (al, .inl (cZ, 1000, .inl (bIf z0.2.2.2.2)))] ∧ va_S A s.heap H locs ∧ lv_has ls 3 [(0, .ref h), (2, .int (nI z0.1))]) ?_ (k0, fr, tt, ct, fa) ⟨⟨hM, hB⟩, hP.sub [0, 1, 2, 3, 4] rfl, hD.sub [0, 1, 2, 3, 4] (by decide) rfl, hS, lv_sub hl [1, 0] rfl⟩
  rintro ⟨k, f1, f2, f3, f4⟩ H locs ls ⟨hi_2, hP, hD, hS, hl⟩ ih_2
  have hi_2 : MF kn (pk fr tt ct fa) (pk f1 f2 f3 f4) k ∧ WB f1 f2 f3 := hi_2
  have hP : va_P D vwCl [(h, .inr (2, [.ref af, .ref at_, .ref ac, .ref al, .int (nI kn)])), (af, .inl (cI, 1000, .inl (nIf f1))), (at_, .inl (cI, 1000, .inl (nIf f2))), (ac, .inl (cJ, 1000, .inr (.inl (lNf f3)))), (al, .inl (cZ, 1000, .inl (bIf f4)))] H := hP
  have hD : va_D A [(h, .inr (2, [.ref af, .ref at_, .ref ac, .ref al, .int (nI kn)])), (af, .inl (cI, 1000, .inl (nIf f1))), (at_, .inl (cI, 1000, .inl (nIf f2))), (ac, .inl (cJ, 1000, .inr (.inl (lNf f3)))), (al, .inl (cZ, 1000, .inl (bIf f4)))] := hD
  have hl : lv_has ls 3 [(0, .ref h), (2, .int (nI k))] := hl
  have hk0 := hi_2.1.1
  refine lv_iload_n hx hb dX2_moveForward_2 rfl (lv_at hl 1 rfl) ?_
  refine r_if_le (tgt := 31) hx hb (x := k) (by omega) dX2_moveForward_3 (by decide) (fun c_3 => ?_) (fun c_3 => ?_)
  · skip
    exact e_mv (f1, f2, f3, f4) hAe hx hb hr hlocks dX2_moveForward_31 hP hD hS ⟨hi_2.2, MF_end hi_2.1 (Or.inl c_3)⟩
  · skip
    refine lv_aload_n hx hb dX2_moveForward_6 rfl (lv_at hl 0 rfl) ?_
    refine lv_iload_n hx hb dX2_moveForward_7 rfl (lv_at hl 1 rfl) ?_
    refine lv_iload_n hx hb dX2_moveForward_8 rfl (lv_at hl 1 rfl) ?_
    refine lv_iconst (v := nI 1) hx hb dX2_moveForward_9 (by decide) ?_
    refine r_isub hx hb (by omega) dX2_moveForward_10 ?_
    refine callRi (As := [.int (nI k), .int (nI (k - 1))]) (rest := []) ⟨hx, hb, hml, hown, hts⟩ (c_isBefore l D cI cJ cZ h af at_ ac al kn f1 f2 f3 f4 hi_2.2 k (k - 1) (by omega) (by omega)) (cwV 2 hts gX2_moveForward_X2_isBefore rfl rfl rfl (by decide +kernel) ⟨Nat.le_of_ble_eq_true rfl, Nat.le_of_ble_eq_true rfl⟩) (preR hE hP 2 0 rfl rfl rfl [0, 1, 2, 3, 4] rfl) rfl hl.1 (Nat.le_of_ble_eq_true rfl) dX2_moveForward_11 ⟨Nat.zero_le _, Nat.zero_le _⟩ rfl (fun r1 hr1 => ?_)
    subst hr1
    refine r_b_eq (tgt := 31) hx hb dX2_moveForward_14 (by decide) (fun c_14 => ?_) (fun c_14 => ?_)
    · skip
      exact e_mv (f1, f2, f3, f4) hAe hx hb hr hlocks dX2_moveForward_31 hP hD hS ⟨hi_2.2, MF_end hi_2.1 (Or.inr c_14)⟩
    · skip
      refine lv_aload_n hx hb dX2_moveForward_17 rfl (lv_at hl 0 rfl) ?_
      refine lv_iload_n hx hb dX2_moveForward_18 rfl (lv_at hl 1 rfl) ?_
      refine lv_iload_n hx hb dX2_moveForward_19 rfl (lv_at hl 1 rfl) ?_
      refine lv_iconst (v := nI 1) hx hb dX2_moveForward_20 (by decide) ?_
      refine r_isub hx hb (by omega) dX2_moveForward_21 ?_
      refine callMv (As := [.int (nI k), .int (nI (k - 1))]) (rest := []) (wr := []) ⟨hx, hb, hml, hown, hts⟩ (c_swap l D cI cJ cZ h af at_ ac al kn f1 f2 f3 f4 _ k (k - 1) (by omega) (by omega)) (cwV 2 hts gX2_moveForward_X2_swap rfl rfl rfl (by decide +kernel) ⟨Nat.le_of_ble_eq_true rfl, Nat.le_of_ble_eq_true rfl⟩) (preM hE hP hD 2 0 rfl rfl rfl [0, 1, 2, 3, 4] rfl rfl rfl) rfl hl.1 (Nat.le_of_ble_eq_true rfl) dX2_moveForward_22 ⟨Nat.zero_le _, Nat.zero_le _⟩ rfl hP hD hS hA [0, 1, 2, 3, 4] [] rfl rfl (by decide) (by decide) (fun u H locs hu hP hD hS => ?_)
      have hP : va_P D vwCl [(h, .inr (2, [.ref af, .ref at_, .ref ac, .ref al, .int (nI kn)])), (af, .inl (cI, 1000, .inl (nIf (sw f1 k (k - 1))))), (at_, .inl (cI, 1000, .inl (nIf (sw f2 k (k - 1))))), (ac, .inl (cJ, 1000, .inr (.inl (lNf (sw f3 k (k - 1)))))), (al, .inl (cZ, 1000, .inl (bIf (sw f4 k (k - 1)))))] H := hP
      have hD : va_D A [(h, .inr (2, [.ref af, .ref at_, .ref ac, .ref al, .int (nI kn)])), (af, .inl (cI, 1000, .inl (nIf (sw f1 k (k - 1))))), (at_, .inl (cI, 1000, .inl (nIf (sw f2 k (k - 1))))), (ac, .inl (cJ, 1000, .inr (.inl (lNf (sw f3 k (k - 1)))))), (al, .inl (cZ, 1000, .inl (bIf (sw f4 k (k - 1)))))] := hD
      refine lv_iinc (v := (nI (k - 1))) (lv' := [(2, .int (nI (k - 1))), (0, .ref h)]) hx hb dX2_moveForward_25 hl (k := 1) rfl (sb_m1 (by omega)) (by decide) rfl (fun ls hl => ?_)
      refine lv_goto (tgt := 2) hx hb dX2_moveForward_28 (by decide) ?_
      exact ih_2 (k - 1, sw f1 k (k - 1), sw f2 k (k - 1), sw f3 k (k - 1), sw f4 k (k - 1)) _ _ _ ⟨(show MF kn (pk fr tt ct fa) (pk (sw f1 k (k - 1)) (sw f2 k (k - 1)) (sw f3 k (k - 1)) (sw f4 k (k - 1))) (k - 1) ∧ WB (sw f1 k (k - 1)) (sw f2 k (k - 1)) (sw f3 k (k - 1)) from ⟨by rw [pk_sw]; exact MF_swap hi_2.1 c_3 c_14, hi_2.2.sw _ _⟩), hP.sub [0, 1, 2, 3, 4] rfl, hD.sub [0, 1, 2, 3, 4] (by decide) rfl, hS, lv_sub hl [1, 0] rfl⟩ (by show (k - 1) < k; omega)

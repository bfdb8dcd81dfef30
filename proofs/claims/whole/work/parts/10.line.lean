set_option maxHeartbeats 4000000 in
set_option maxRecDepth 100000 in
/-- fitsRows(b): a block of some size -/
theorem c_fitsN (l : Launch) (D : va_G) (cI cJ cZ : ClassId) (b : Nat) (hb2 : b < 200) : Met l yX3_fitsRows wsX3_fitsRows ({ frames := 0, cells := 0, slots := 0, locals := 0 }) (PcR D cI cJ cZ [.int (nI b)] []) (vp_Si (fun r => r = bI true)) 0 0 (fun _ => False) := by
  refine startR (cc := cX3_fitsRows) (maxL := 1) (ret := (some .boolean)) (by decide) rfl (Nat.le_of_ble_eq_true rfl) ?_
  intro p e s m below meth c ls hx hb hr hml hown hts hlocks hE hP hl
  have hl : lv_has ls 1 [(0, .int (nI b))] := hl
  refine lv_iload_n hx hb dX3_fitsRows_0 rfl (lv_at hl 0 rfl) ?_
  refine lv_if_lt (tgt := 15) hx hb dX3_fitsRows_1 (by decide) (fun c_1 => ?_) (fun c_1 => ?_)
  · skip
    exact absurd c_1 (nI_pos (by omega))
  · skip
    refine lv_iload_n hx hb dX3_fitsRows_4 rfl (lv_at hl 0 rfl) ?_
    refine lv_sipush (v := nI 200) hx hb dX3_fitsRows_5 (by decide) ?_
    refine r_icmp_ge (tgt := 15) hx hb (x := b) (y := 200) (by omega) (by omega) dX3_fitsRows_8 (by decide) (fun c_8 => ?_) (fun c_8 => ?_)
    · skip
      exact absurd c_8 (by omega)
    · skip
      refine lv_iconst (v := bI true) hx hb dX3_fitsRows_11 (by decide) ?_
      refine lv_goto (tgt := 16) hx hb dX3_fitsRows_12 (by decide) ?_
      exact e_z true rfl hx hb hr hlocks dX3_fitsRows_16 rfl

set_option maxHeartbeats 4000000 in
set_option maxRecDepth 100000 in
/-- fitsRows(-1) -/
theorem c_fitsM (l : Launch) (D : va_G) (cI cJ cZ : ClassId)  : Met l yX3_fitsRows wsX3_fitsRows ({ frames := 0, cells := 0, slots := 0, locals := 0 }) (PcR D cI cJ cZ [.int (-1)] []) (vp_Si (fun r => r = bI false)) 0 0 (fun _ => False) := by
  refine startR (cc := cX3_fitsRows) (maxL := 1) (ret := (some .boolean)) (by decide) rfl (Nat.le_of_ble_eq_true rfl) ?_
  intro p e s m below meth c ls hx hb hr hml hown hts hlocks hE hP hl
  have hl : lv_has ls 1 [(0, .int (-1))] := hl
  refine lv_iload_n hx hb dX3_fitsRows_0 rfl (lv_at hl 0 rfl) ?_
  refine lv_if_lt (tgt := 15) hx hb dX3_fitsRows_1 (by decide) (fun c_1 => ?_) (fun c_1 => ?_)
  · skip
    refine lv_iconst (v := bI false) hx hb dX3_fitsRows_15 (by decide) ?_
    exact e_z false rfl hx hb hr hlocks dX3_fitsRows_16 rfl
  · skip
    exact absurd (by decide) c_1

theorem c_fits (l : Launch) (D : va_G) (cI cJ cZ : ClassId) (o : Option Nat) (ho : ∀ j, o = some j → j < 200) : Met l yX3_fitsRows wsX3_fitsRows ({ frames := 0, cells := 0, slots := 0, locals := 0 }) (PcR D cI cJ cZ [.int (oI o)] []) (vp_Si (fun r => r = bI o.isSome)) 0 0 (fun _ => False) := by
  cases o with
  | none => exact c_fitsM l D cI cJ cZ
  | some j => exact c_fitsN l D cI cJ cZ j (ho j rfl)
theorem nn_of {o : Option Nat} (h : o.isSome = false) : o = none := by cases o with
  | none => rfl
  | some j => cases h
theorem sm_of {o : Option Nat} (h : o.isSome = true) : ∃ j, o = some j := Option.isSome_iff_exists.mp h
theorem fl_X1_holds_15 : Cond.fieldLink RX1 15 "BlockRows$Line" "places" "[I" ∈ wsX1_holds := by decide +kernel
theorem in_X1_holds_X1 : ∀ w ∈ wsX10, w ∈ wsX1_holds := by decide +kernel
theorem wd_X1_holds_ini3 : Cond.initialized RX3 ∈ wsX1_holds := by decide +kernel
theorem wd_X1_holds_stF : Cond.static yX3_fitsRows ∈ wsX1_holds := by decide +kernel
set_option maxHeartbeats 4000000 in
set_option maxRecDepth 100000 in
/-- Line.holds(b): has it a place -/
theorem c_holds (l : Launch) (D : va_G) (cI cJ cZ : ClassId) (h am ap n : Nat) (me : Nat → Nat) (pl : Nat → Option Nat) (hpl : ∀ i j, pl i = some j → j < 200) (b : Nat) (hb2 : b < 200) : Met l yX1_holds wsX1_holds ({ frames := 1, cells := 0, slots := 0, locals := 20 }) (PcR D cI cJ cZ [.ref h, .int (nI b)] [(h, .inr (1, [.ref am, .ref ap, .int (nI n)])), (am, .inl (cI, 200, .inl (nIf me))), (ap, .inl (cI, 200, .inl (oIf pl)))]) (vp_Si (fun r => r = bI (pl b).isSome)) 0 0 (fun _ => False) := by
  refine startR (cc := cX1_holds) (maxL := 2) (ret := (some .boolean)) (by decide) rfl (Nat.le_of_ble_eq_true rfl) ?_
  intro p e s m below meth c ls hx hb hr hml hown hts hlocks hE hP hl
  have hl : lv_has ls 2 [(0, .ref h), (1, .int (nI b))] := hl
  refine lv_iload_n hx hb dX1_holds_0 rfl (lv_at hl 1 rfl) ?_
  refine callRSi (As := [.int (nI b)]) (rest := []) ⟨hx, hb, hml, hown, hts⟩ (c_fitsN l D cI cJ cZ b hb2) ⟨va_cnB 1 hts gX1_holds_X3_fitsRows_n28 rfl rfl rfl hE.2.2.1.2.2.1 (hts _ wd_X1_holds_ini3) (by decide +kernel) ⟨Nat.le_of_ble_eq_true rfl, Nat.le_of_ble_eq_true rfl⟩, hts _ wd_X1_holds_stF, trivial⟩ (preRS hE hP) rfl hl.1 (Nat.le_of_ble_eq_true rfl) dX1_holds_1 ⟨Nat.zero_le _, Nat.zero_le _⟩ rfl (fun rF hrF => ?_)
  subst hrF
  refine r_b_eq (tgt := 21) hx hb dX1_holds_4 (by decide) (fun c => absurd c (by decide)) (fun _ => ?_)
  refine lv_aload_n hx hb dX1_holds_7 rfl (lv_at hl 0 rfl) ?_
  refine va_get (D := D) (ci := 1) (v := .ref ap) (C := RX1) (T := TX1) (N := 3) hx hb hts in_X1_holds_X1 hown hE.1 hP 0 rfl rfl 1 (by decide) (hts _ fl_X1_holds_15) (fun _ h9 => h9) rfl dX1_holds_8 ?_
  refine lv_iload_n hx hb dX1_holds_11 rfl (lv_at hl 1 rfl) ?_
  refine r_old hx hb hE hP 2 rfl (k := b) (by omega) (by decide) dX1_holds_12 ?_
  refine lv_iconst (v := -1) hx hb dX1_holds_13 (by decide) ?_
  refine r_o_eq (tgt := 21) hx hb (o := pl b) (q := none) rfl rfl (fun j h => by have := hpl _ _ h; omega) (fun j h => by cases h) dX1_holds_14 (by decide) (fun c_14 => ?_) (fun c_14 => ?_)
  · skip
    refine lv_iconst (v := bI false) hx hb dX1_holds_21 (by decide) ?_
    exact e_z false rfl hx hb hr hlocks dX1_holds_22 (by rw [c_14]; rfl)
  · skip
    refine lv_iconst (v := bI true) hx hb dX1_holds_17 (by decide) ?_
    refine lv_goto (tgt := 22) hx hb dX1_holds_18 (by decide) ?_
    exact e_z true rfl hx hb hr hlocks dX1_holds_22 (by rw [show (pl b).isSome = true from Option.isSome_iff_ne_none.mpr c_14])

def gOnB (pl : Nat → Option Nat) (u v : Nat) : Bool := match pl u with
  | none => false
  | some i => decide (pl v = some (i + 1))
theorem fl_X1_goesOn_15 : Cond.fieldLink RX1 15 "BlockRows$Line" "places" "[I" ∈ wsX1_goesOn := by decide +kernel
theorem in_X1_goesOn_X1 : ∀ w ∈ wsX10, w ∈ wsX1_goesOn := by decide +kernel
set_option maxHeartbeats 4000000 in
set_option maxRecDepth 100000 in
/-- Line.goesOn(u, v): v right behind u -/
theorem c_goesOn (l : Launch) (D : va_G) (cI cJ cZ : ClassId) (h am ap n : Nat) (me : Nat → Nat) (pl : Nat → Option Nat) (hpl : ∀ i j, pl i = some j → j < 200) (u v : Nat) (hu : u < 200) (hv : v < 200) : Met l yX1_goesOn wsX1_goesOn ({ frames := 2, cells := 0, slots := 0, locals := 41 }) (PcR D cI cJ cZ [.ref h, .int (nI u), .int (nI v)] [(h, .inr (1, [.ref am, .ref ap, .int (nI n)])), (am, .inl (cI, 200, .inl (nIf me))), (ap, .inl (cI, 200, .inl (oIf pl)))]) (vp_Si (fun r => r = bI (gOnB pl u v))) 0 0 (fun _ => False) := by
  refine startR (cc := cX1_goesOn) (maxL := 3) (ret := (some .boolean)) (by decide) rfl (Nat.le_of_ble_eq_true rfl) ?_
  intro p e s m below meth c ls hx hb hr hml hown hts hlocks hE hP hl
  have hl : lv_has ls 3 [(0, .ref h), (1, .int (nI u)), (2, .int (nI v))] := hl
  refine lv_aload_n hx hb dX1_goesOn_0 rfl (lv_at hl 0 rfl) ?_
  refine lv_iload_n hx hb dX1_goesOn_1 rfl (lv_at hl 1 rfl) ?_
  refine callRi (As := [.int (nI u)]) (rest := []) ⟨hx, hb, hml, hown, hts⟩ (c_holds l D cI cJ cZ h am ap n me pl hpl u hu) (cwV 1 hts gX1_goesOn_X1_holds rfl rfl rfl (by decide +kernel) ⟨Nat.le_of_ble_eq_true rfl, Nat.le_of_ble_eq_true rfl⟩) (preR hE hP 1 0 rfl rfl rfl [0, 1, 2] rfl) rfl hl.1 (Nat.le_of_ble_eq_true rfl) dX1_goesOn_2 ⟨Nat.zero_le _, Nat.zero_le _⟩ rfl (fun r_2 hr_2 => ?_)
  subst hr_2
  refine r_b_eq (tgt := 37) hx hb dX1_goesOn_5 (by decide) (fun c_5 => ?_) (fun c_5 => ?_)
  · skip
    refine lv_iconst (v := bI false) hx hb dX1_goesOn_37 (by decide) ?_
    exact e_z false rfl hx hb hr hlocks dX1_goesOn_38 (by unfold gOnB; rw [nn_of c_5])
  · skip
    obtain ⟨i, hi⟩ := Option.isSome_iff_exists.mp c_5
    refine lv_aload_n hx hb dX1_goesOn_8 rfl (lv_at hl 0 rfl) ?_
    refine lv_iload_n hx hb dX1_goesOn_9 rfl (lv_at hl 2 rfl) ?_
    refine callRi (As := [.int (nI v)]) (rest := []) ⟨hx, hb, hml, hown, hts⟩ (c_holds l D cI cJ cZ h am ap n me pl hpl v hv) (cwV 1 hts gX1_goesOn_X1_holds rfl rfl rfl (by decide +kernel) ⟨Nat.le_of_ble_eq_true rfl, Nat.le_of_ble_eq_true rfl⟩) (preR hE hP 1 0 rfl rfl rfl [0, 1, 2] rfl) rfl hl.1 (Nat.le_of_ble_eq_true rfl) dX1_goesOn_10 ⟨Nat.zero_le _, Nat.zero_le _⟩ rfl (fun r_10 hr_10 => ?_)
    subst hr_10
    refine r_b_eq (tgt := 37) hx hb dX1_goesOn_13 (by decide) (fun c_13 => ?_) (fun c_13 => ?_)
    · skip
      refine lv_iconst (v := bI false) hx hb dX1_goesOn_37 (by decide) ?_
      exact e_z false rfl hx hb hr hlocks dX1_goesOn_38 (by unfold gOnB; rw [nn_of c_13]; cases pl u <;> rfl)
    · skip
      refine lv_aload_n hx hb dX1_goesOn_16 rfl (lv_at hl 0 rfl) ?_
      refine va_get (D := D) (ci := 1) (v := .ref ap) (C := RX1) (T := TX1) (N := 3) hx hb hts in_X1_goesOn_X1 hown hE.1 hP 0 rfl rfl 1 (by decide) (hts _ fl_X1_goesOn_15) (fun _ h9 => h9) rfl dX1_goesOn_17 ?_
      refine lv_iload_n hx hb dX1_goesOn_20 rfl (lv_at hl 2 rfl) ?_
      refine r_old hx hb hE hP 2 rfl (k := v) (by omega) (by decide) dX1_goesOn_21 ?_
      refine lv_aload_n hx hb dX1_goesOn_22 rfl (lv_at hl 0 rfl) ?_
      refine va_get (D := D) (ci := 1) (v := .ref ap) (C := RX1) (T := TX1) (N := 3) hx hb hts in_X1_goesOn_X1 hown hE.1 hP 0 rfl rfl 1 (by decide) (hts _ fl_X1_goesOn_15) (fun _ h9 => h9) rfl dX1_goesOn_23 ?_
      refine lv_iload_n hx hb dX1_goesOn_26 rfl (lv_at hl 1 rfl) ?_
      refine r_old hx hb hE hP 2 rfl (k := u) (by omega) (by decide) dX1_goesOn_27 ?_
      have hi2 := hpl _ _ hi
      refine r_as (w := .int (nI i)) (by rw [hi]; rfl) ?_
      refine lv_iconst (v := nI 1) hx hb dX1_goesOn_28 (by decide) ?_
      refine r_iadd hx hb dX1_goesOn_29 ?_
      refine r_o_ne (tgt := 37) hx hb (o := pl v) (q := some (i + 1)) rfl rfl (fun j h => by have := hpl _ _ h; omega) (fun j h => by cases h; omega) dX1_goesOn_30 (by decide) (fun c_30 => ?_) (fun c_30 => ?_)
      · skip
        refine lv_iconst (v := bI false) hx hb dX1_goesOn_37 (by decide) ?_
        exact e_z false rfl hx hb hr hlocks dX1_goesOn_38 (by unfold gOnB; rw [hi]; simp [c_30])
      · skip
        refine lv_iconst (v := bI true) hx hb dX1_goesOn_33 (by decide) ?_
        refine lv_goto (tgt := 38) hx hb dX1_goesOn_34 (by decide) ?_
        exact e_z true rfl hx hb hr hlocks dX1_goesOn_38 (by unfold gOnB; rw [hi]; simp [c_30])

theorem fl_X1_blockAt_18 : Cond.fieldLink RX1 18 "BlockRows$Line" "filled" "I" ∈ wsX1_blockAt := by decide +kernel
theorem fl_X1_blockAt_9 : Cond.fieldLink RX1 9 "BlockRows$Line" "members" "[I" ∈ wsX1_blockAt := by decide +kernel
theorem in_X1_blockAt_X1 : ∀ w ∈ wsX10, w ∈ wsX1_blockAt := by decide +kernel
set_option maxHeartbeats 4000000 in
set_option maxRecDepth 100000 in
/-- Line.blockAt(k) -/
theorem c_blockAt (l : Launch) (D : va_G) (cI cJ cZ : ClassId) (h am ap n : Nat) (me : Nat → Nat) (pl : Nat → Option Nat) (hn : n ≤ 200) (x : Int32) : Met l yX1_blockAt wsX1_blockAt ({ frames := 0, cells := 0, slots := 0, locals := 0 }) (PcR D cI cJ cZ [.ref h, .int x] [(h, .inr (1, [.ref am, .ref ap, .int (nI n)])), (am, .inl (cI, 200, .inl (nIf me))), (ap, .inl (cI, 200, .inl (oIf pl)))]) (vp_Si (fun r => (r = -1 ∧ ∀ j, j < n → x ≠ nI j) ∨ ∃ j, j < n ∧ x = nI j ∧ r = nI (me j))) 0 0 (fun _ => False) := by
  refine startR (cc := cX1_blockAt) (maxL := 2) (ret := (some .int)) (by decide) rfl (Nat.le_of_ble_eq_true rfl) ?_
  intro p e s m below meth c ls hx hb hr hml hown hts hlocks hE hP hl
  have hl : lv_has ls 2 [(0, .ref h), (1, .int x)] := hl
  refine lv_iload_n hx hb dX1_blockAt_0 rfl (lv_at hl 1 rfl) ?_
  refine lv_if_lt (tgt := 21) hx hb dX1_blockAt_1 (by decide) (fun c_1 => ?_) (fun c_1 => ?_)
  · skip
    refine lv_iconst (v := -1) hx hb dX1_blockAt_21 (by decide) ?_
    exact e_i hx hb hr hlocks dX1_blockAt_22 (Or.inl ⟨rfl, fun j hj e => by subst e; exact absurd c_1 (nI_pos (by omega))⟩)
  · skip
    obtain ⟨j, hj, rfl⟩ := nI_of c_1
    refine lv_iload_n hx hb dX1_blockAt_4 rfl (lv_at hl 1 rfl) ?_
    refine lv_aload_n hx hb dX1_blockAt_5 rfl (lv_at hl 0 rfl) ?_
    refine va_get (D := D) (ci := 1) (v := .int (nI n)) (C := RX1) (T := TX1) (N := 3) hx hb hts in_X1_blockAt_X1 hown hE.1 hP 0 rfl rfl 2 (by decide) (hts _ fl_X1_blockAt_18) (fun _ h9 => h9) rfl dX1_blockAt_6 ?_
    refine r_icmp_ge (tgt := 21) hx hb (x := j) (y := n) (by omega) (by omega) dX1_blockAt_9 (by decide) (fun c_9 => ?_) (fun c_9 => ?_)
    · skip
      refine lv_iconst (v := -1) hx hb dX1_blockAt_21 (by decide) ?_
      exact e_i hx hb hr hlocks dX1_blockAt_22 (Or.inl ⟨rfl, fun i hi e => by have := nI_inj (by omega) (by omega) e; omega⟩)
    · skip
      refine lv_aload_n hx hb dX1_blockAt_12 rfl (lv_at hl 0 rfl) ?_
      refine va_get (D := D) (ci := 1) (v := .ref am) (C := RX1) (T := TX1) (N := 3) hx hb hts in_X1_blockAt_X1 hown hE.1 hP 0 rfl rfl 0 (by decide) (hts _ fl_X1_blockAt_9) (fun _ h9 => h9) rfl dX1_blockAt_13 ?_
      refine lv_iload_n hx hb dX1_blockAt_16 rfl (lv_at hl 1 rfl) ?_
      refine r_nld hx hb hE hP 1 rfl (k := j) (by omega) (by decide) dX1_blockAt_17 ?_
      refine lv_goto (tgt := 22) hx hb dX1_blockAt_18 (by decide) ?_
      exact e_i hx hb hr hlocks dX1_blockAt_22 (Or.inr ⟨j, c_9, rfl, rfl⟩)

theorem fl_X1_append_15 : Cond.fieldLink RX1 15 "BlockRows$Line" "places" "[I" ∈ wsX1_append := by decide +kernel
theorem fl_X1_append_18 : Cond.fieldLink RX1 18 "BlockRows$Line" "filled" "I" ∈ wsX1_append := by decide +kernel
theorem fl_X1_append_9 : Cond.fieldLink RX1 9 "BlockRows$Line" "members" "[I" ∈ wsX1_append := by decide +kernel
theorem in_X1_append_X1 : ∀ w ∈ wsX10, w ∈ wsX1_append := by decide +kernel
theorem wd_X1_append_ini3 : Cond.initialized RX3 ∈ wsX1_append := by decide +kernel
theorem wd_X1_append_stF : Cond.static yX3_fitsRows ∈ wsX1_append := by decide +kernel
set_option maxHeartbeats 4000000 in
set_option maxRecDepth 100000 in
/-- Line.append(b): there is room -/
theorem c_append (l : Launch) (D : va_G) (cI cJ cZ : ClassId) (h am ap n : Nat) (me : Nat → Nat) (pl : Nat → Option Nat) (sz b : Nat) (hn : n < 200) (hb2 : b < 200) : Met l yX1_append wsX1_append ({ frames := 1, cells := 0, slots := 0, locals := 20 }) (PcM D cI cJ cZ [.ref h, .int (nI b)] [(h, .inr (1, [.ref am, .ref ap, .int (nI n)])), (am, .inl (cI, 200, .inl (nIf me))), (ap, .inl (cI, 200, .inl (oIf pl)))] sz) (va_Qv (fun _ : Unit => True) (Bm D [(h, .inr (1, [.ref am, .ref ap, .int (nI n)])), (am, .inl (cI, 200, .inl (nIf me))), (ap, .inl (cI, 200, .inl (oIf pl)))] sz (fun _ : Unit => [(h, .inr (1, [.ref am, .ref ap, .int (nI (n + 1))])), (am, .inl (cI, 200, .inl (nIf (va_up me n b)))), (ap, .inl (cI, 200, .inl (oIf (va_up pl b (some n)))))])) (va_A [(h, .inr (1, [.ref am, .ref ap, .int (nI n)])), (am, .inl (cI, 200, .inl (nIf me))), (ap, .inl (cI, 200, .inl (oIf pl)))] sz)) 0 0 (va_A [(h, .inr (1, [.ref am, .ref ap, .int (nI n)])), (am, .inl (cI, 200, .inl (nIf me))), (ap, .inl (cI, 200, .inl (oIf pl)))] sz) := by
  refine startM (cc := cX1_append) (maxL := 2) (ret := none) (by decide) rfl (Nat.le_of_ble_eq_true rfl) ?_
  intro p e s m below meth c ls A hA hAe hx hb hr hml hown hts hlocks hin hE hP hD hS hl
  have hl : lv_has ls 2 [(0, .ref h), (1, .int (nI b))] := hl
  refine lv_aload_n hx hb dX1_append_0 rfl (lv_at hl 0 rfl) ?_
  refine va_get (D := D) (ci := 1) (v := .int (nI n)) (C := RX1) (T := TX1) (N := 3) hx hb hts in_X1_append_X1 hown hE.1 hP 0 rfl rfl 2 (by decide) (hts _ fl_X1_append_18) (fun _ h9 => h9) rfl dX1_append_1 ?_
  refine lv_sipush (v := nI 200) hx hb dX1_append_4 (by decide) ?_
  refine r_icmp_ge (tgt := 17) hx hb (x := n) (y := 200) (by omega) (by omega) dX1_append_7 (by decide) (fun c_7 => ?_) (fun c_7 => ?_)
  · skip
    exact absurd c_7 (by omega)
  · skip
    refine lv_iload_n hx hb dX1_append_10 rfl (lv_at hl 1 rfl) ?_
    refine callRSi (As := [.int (nI b)]) (rest := []) ⟨hx, hb, hml, hown, hts⟩ (c_fitsN l D cI cJ cZ b hb2) ⟨va_cnB 1 hts gX1_append_X3_fitsRows_n28 rfl rfl rfl hE.2.2.1.2.2.1 (hts _ wd_X1_append_ini3) (by decide +kernel) ⟨Nat.le_of_ble_eq_true rfl, Nat.le_of_ble_eq_true rfl⟩, hts _ wd_X1_append_stF, trivial⟩ (preRS hE hP) rfl hl.1 (Nat.le_of_ble_eq_true rfl) dX1_append_11 ⟨Nat.zero_le _, Nat.zero_le _⟩ rfl (fun rF hrF => ?_)
    subst hrF
    refine r_b_ne (tgt := 18) hx hb dX1_append_14 (by decide) (fun _ => ?_) (fun c => absurd c (by decide))
    refine lv_aload_n hx hb dX1_append_18 rfl (lv_at hl 0 rfl) ?_
    refine va_get (D := D) (ci := 1) (v := .ref am) (C := RX1) (T := TX1) (N := 3) hx hb hts in_X1_append_X1 hown hE.1 hP 0 rfl rfl 0 (by decide) (hts _ fl_X1_append_9) (fun _ h9 => h9) rfl dX1_append_19 ?_
    refine lv_aload_n hx hb dX1_append_22 rfl (lv_at hl 0 rfl) ?_
    refine va_get (D := D) (ci := 1) (v := .int (nI n)) (C := RX1) (T := TX1) (N := 3) hx hb hts in_X1_append_X1 hown hE.1 hP 0 rfl rfl 2 (by decide) (hts _ fl_X1_append_18) (fun _ h9 => h9) rfl dX1_append_23 ?_
    refine lv_iload_n hx hb dX1_append_26 rfl (lv_at hl 1 rfl) ?_
    refine r_nst hx hb hE hP hD hS 1 rfl (k := n) (x := b) (by omega) (by decide) dX1_append_27 (fun H locs hP hD hS => ?_)
    have hP : va_P D vwCl [(h, .inr (1, [.ref am, .ref ap, .int (nI n)])), (am, .inl (cI, 200, .inl (nIf (va_up me n b)))), (ap, .inl (cI, 200, .inl (oIf pl)))] H := hP
    have hD : va_D A [(h, .inr (1, [.ref am, .ref ap, .int (nI n)])), (am, .inl (cI, 200, .inl (nIf (va_up me n b)))), (ap, .inl (cI, 200, .inl (oIf pl)))] := hD
    refine lv_aload_n hx hb dX1_append_28 rfl (lv_at hl 0 rfl) ?_
    refine va_get (D := D) (ci := 1) (v := .ref ap) (C := RX1) (T := TX1) (N := 3) hx hb hts in_X1_append_X1 hown hE.1 hP 0 rfl rfl 1 (by decide) (hts _ fl_X1_append_15) (fun _ h9 => h9) rfl dX1_append_29 ?_
    refine lv_iload_n hx hb dX1_append_32 rfl (lv_at hl 1 rfl) ?_
    refine lv_aload_n hx hb dX1_append_33 rfl (lv_at hl 0 rfl) ?_
    refine va_get (D := D) (ci := 1) (v := .int (nI n)) (C := RX1) (T := TX1) (N := 3) hx hb hts in_X1_append_X1 hown hE.1 hP 0 rfl rfl 2 (by decide) (hts _ fl_X1_append_18) (fun _ h9 => h9) rfl dX1_append_34 ?_
    refine r_ost hx hb hE hP hD hS 2 rfl (k := b) (some n) rfl (by omega) (by decide) dX1_append_37 (fun H locs hP hD hS => ?_)
    have hP : va_P D vwCl [(h, .inr (1, [.ref am, .ref ap, .int (nI n)])), (am, .inl (cI, 200, .inl (nIf (va_up me n b)))), (ap, .inl (cI, 200, .inl (oIf (va_up pl b (some n)))))] H := hP
    have hD : va_D A [(h, .inr (1, [.ref am, .ref ap, .int (nI n)])), (am, .inl (cI, 200, .inl (nIf (va_up me n b)))), (ap, .inl (cI, 200, .inl (oIf (va_up pl b (some n)))))] := hD
    refine lv_aload_n hx hb dX1_append_38 rfl (lv_at hl 0 rfl) ?_
    refine lv_dup hx hb dX1_append_39 rfl ?_
    refine va_get (D := D) (ci := 1) (v := .int (nI n)) (C := RX1) (T := TX1) (N := 3) hx hb hts in_X1_append_X1 hown hE.1 hP 0 rfl rfl 2 (by decide) (hts _ fl_X1_append_18) (fun _ h9 => h9) rfl dX1_append_40 ?_
    refine lv_iconst (v := nI 1) hx hb dX1_append_43 (by decide) ?_
    refine r_iadd hx hb dX1_append_44 ?_
    refine va_put (D := D) (ci := 1) (v := .int (nI (n + 1))) (ty := .int) (C := RX1) (T := TX1) (N := 3) hx hb hts in_X1_append_X1 tyX1 tyX1_ok nmX1 hown hE.1 hP hD hS 0 rfl rfl 2 (by decide) (hts _ fl_X1_append_18) (fun _ h9 => h9) rfl (by decide +kernel) rfl rfl (Nat.le_of_ble_eq_true rfl) dX1_append_45 (fun H locs hP hD hS => ?_)
    have hP : va_P D vwCl [(h, .inr (1, [.ref am, .ref ap, .int (nI (n + 1))])), (am, .inl (cI, 200, .inl (nIf (va_up me n b)))), (ap, .inl (cI, 200, .inl (oIf (va_up pl b (some n)))))] H := hP
    have hD : va_D A [(h, .inr (1, [.ref am, .ref ap, .int (nI (n + 1))])), (am, .inl (cI, 200, .inl (nIf (va_up me n b)))), (ap, .inl (cI, 200, .inl (oIf (va_up pl b (some n)))))] := hD
    exact e_mv () hAe hx hb hr hlocks dX1_append_48 hP hD hS trivial

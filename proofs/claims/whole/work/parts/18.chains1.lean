def stF (pl : Nat → Option Nat) (b : Nat) : Option Nat := if (pl b).isSome = true then some b else none
theorem fl_X0_start_15 : Cond.fieldLink RX0 15 "BlockRows$Chains" "next" "[I" ∈ wsX0_start := by decide +kernel
theorem fl_X0_start_9 : Cond.fieldLink RX0 9 "BlockRows$Chains" "first" "[I" ∈ wsX0_start := by decide +kernel
theorem in_X0_start_X0 : ∀ w ∈ wsX00, w ∈ wsX0_start := by decide +kernel
set_option maxHeartbeats 4000000 in
set_option maxRecDepth 100000 in
/-- Chains.start(line) -/
theorem c_start (l : Launch) (D : va_G) (cI cJ cZ : ClassId) (h cf cn cp : Nat) (fs nx : Nat → Option Nat) (pu : Nat → Nat) (q qm qp nn : Nat) (me : Nat → Nat) (pl : Nat → Option Nat) (hpl : ∀ i j, pl i = some j → j < 200) (sz : Nat) : Met l yX0_start wsX0_start ({ frames := 2, cells := 0, slots := 0, locals := 41 }) (PcM D cI cJ cZ [.ref h, .ref q] [(h, .inr (0, [.ref cf, .ref cn, .ref cp])), (cf, .inl (cI, 200, .inl (oIf fs))), (cn, .inl (cI, 200, .inl (oIf nx))), (cp, .inl (cJ, 200, .inr (.inl (lNf pu)))), (q, .inr (1, [.ref qm, .ref qp, .int (nI nn)])), (qm, .inl (cI, 200, .inl (nIf me))), (qp, .inl (cI, 200, .inl (oIf pl)))] sz) (va_Qv (fun _ : Unit => True) (Bm D [(h, .inr (0, [.ref cf, .ref cn, .ref cp])), (cf, .inl (cI, 200, .inl (oIf fs))), (cn, .inl (cI, 200, .inl (oIf nx))), (cp, .inl (cJ, 200, .inr (.inl (lNf pu)))), (q, .inr (1, [.ref qm, .ref qp, .int (nI nn)])), (qm, .inl (cI, 200, .inl (nIf me))), (qp, .inl (cI, 200, .inl (oIf pl)))] sz (fun _ : Unit => [(h, .inr (0, [.ref cf, .ref cn, .ref cp])), (cf, .inl (cI, 200, .inl (oIf (stF pl)))), (cn, .inl (cI, 200, .inl (oIf (fun _ => none)))), (cp, .inl (cJ, 200, .inr (.inl (lNf pu)))), (q, .inr (1, [.ref qm, .ref qp, .int (nI nn)])), (qm, .inl (cI, 200, .inl (nIf me))), (qp, .inl (cI, 200, .inl (oIf pl)))])) (va_A [(h, .inr (0, [.ref cf, .ref cn, .ref cp])), (cf, .inl (cI, 200, .inl (oIf fs))), (cn, .inl (cI, 200, .inl (oIf nx))), (cp, .inl (cJ, 200, .inr (.inl (lNf pu)))), (q, .inr (1, [.ref qm, .ref qp, .int (nI nn)])), (qm, .inl (cI, 200, .inl (nIf me))), (qp, .inl (cI, 200, .inl (oIf pl)))] sz)) 0 0 (va_A [(h, .inr (0, [.ref cf, .ref cn, .ref cp])), (cf, .inl (cI, 200, .inl (oIf fs))), (cn, .inl (cI, 200, .inl (oIf nx))), (cp, .inl (cJ, 200, .inr (.inl (lNf pu)))), (q, .inr (1, [.ref qm, .ref qp, .int (nI nn)])), (qm, .inl (cI, 200, .inl (nIf me))), (qp, .inl (cI, 200, .inl (oIf pl)))] sz) := by
  refine startM (cc := cX0_start) (maxL := 3) (ret := none) (by decide) rfl (Nat.le_of_ble_eq_true rfl) ?_
  intro p e s m below meth c ls A hA hAe hx hb hr hml hown hts hlocks hin hE hP hD hS hl
  have hl : lv_has ls 3 [(0, .ref h), (1, .ref q)] := hl
  refine lv_aload_n hx hb dX0_start_0 rfl (lv_at hl 0 rfl) ?_
  refine va_get (D := D) (ci := 0) (v := .ref cn) (C := RX0) (T := TX0) (N := 3) hx hb hts in_X0_start_X0 hown hE.1 hP 0 rfl rfl 1 (by decide) (hts _ fl_X0_start_15) (fun _ h9 => h9) rfl dX0_start_1 ?_
  refine lv_iconst (v := -1) hx hb dX0_start_4 (by decide) ?_
  refine callSv (As := [.ref cn, .int (-1)]) (rest := []) (wr := [(h, .inr (0, [.ref cf, .ref cn, .ref cp])), (cf, .inl (cI, 200, .inl (oIf fs))), (cp, .inl (cJ, 200, .inr (.inl (lNf pu)))), (q, .inr (1, [.ref qm, .ref qp, .int (nI nn)])), (qm, .inl (cI, 200, .inl (nIf me))), (qp, .inl (cI, 200, .inl (oIf pl)))]) (w1 := fun _ : Unit => [(cn, .inl (cI, 200, .inl (oIf (fun _ => none))))]) ⟨hx, hb, hml, hown, hts⟩ (c_fillI l D cI cJ cZ cn 200 _ (-1) _ (by omega)) (va_cwS 2 hts gX0_start_J7_fill_53178 rfl rfl rfl (by decide +kernel) ⟨Nat.le_of_ble_eq_true rfl, Nat.le_of_ble_eq_true rfl⟩) (preMS hE hP hD [2] rfl rfl rfl) rfl hl.1 (Nat.le_of_ble_eq_true rfl) dX0_start_5 ⟨Nat.zero_le _, Nat.zero_le _⟩ rfl hP hD hS hA [2] [0, 1, 3, 4, 5, 6] rfl rfl (by decide) (by decide) (fun u_ H locs hu hP hD hS => ?_)
  have hP : va_P D vwCl [(h, .inr (0, [.ref cf, .ref cn, .ref cp])), (cf, .inl (cI, 200, .inl (oIf fs))), (cp, .inl (cJ, 200, .inr (.inl (lNf pu)))), (q, .inr (1, [.ref qm, .ref qp, .int (nI nn)])), (qm, .inl (cI, 200, .inl (nIf me))), (qp, .inl (cI, 200, .inl (oIf pl))), (cn, .inl (cI, 200, .inl (oIf (fun _ => none))))] H := hP
  have hD : va_D A [(h, .inr (0, [.ref cf, .ref cn, .ref cp])), (cf, .inl (cI, 200, .inl (oIf fs))), (cp, .inl (cJ, 200, .inr (.inl (lNf pu)))), (q, .inr (1, [.ref qm, .ref qp, .int (nI nn)])), (qm, .inl (cI, 200, .inl (nIf me))), (qp, .inl (cI, 200, .inl (oIf pl))), (cn, .inl (cI, 200, .inl (oIf (fun _ => none))))] := hD
  refine lv_iconst (v := nI 0) hx hb dX0_start_8 (by decide) ?_
  refine lv_istore_n (lv' := [(2, .int (nI 0)), (0, .ref h), (1, .ref q)]) hx hb dX0_start_9 rfl hl (by decide) rfl (fun ls hl => ?_)
  refine r_loop (σ := Nat × (Nat → Option Nat)) (fun z0 => 200 - z0.1) (fun z0 H locs ls => (z0.1 ≤ 200 ∧ ∀ j, j < z0.1 → z0.2 j = stF pl j) ∧ va_P D vwCl [(h, .inr (0, [.ref cf, .ref cn, .ref cp])), (cf, .inl (cI, 200, .inl (oIf z0.2))), (cn, .inl (cI, 200, .inl (oIf (fun _ => none)))), (cp, .inl (cJ, 200, .inr (.inl (lNf pu)))), (q, .inr (1, [.ref qm, .ref qp, .int (nI nn)])), (qm, .inl (cI, 200, .inl (nIf me))), (qp, .inl (cI, 200, .inl (oIf pl)))] H ∧ va_D A [(h, .inr (0, [.ref cf, .ref cn, .ref cp])), (cf, .inl (cI, 200, .inl (oIf z0.2))), (cn, .inl (cI, 200, .inl (oIf (fun _ => none)))), (cp, .inl (cJ, 200, .inr (.inl (lNf pu)))), (q, .inr (1, [.ref qm, .ref qp, .int (nI nn)])), (qm, .inl (cI, 200, .inl (nIf me))), (qp, .inl (cI, 200, .inl (oIf pl)))] ∧ va_S A s.heap H locs ∧ lv_has ls 3 [(0, .ref h), (1, .ref q), (2, .int (nI z0.1))]) ?_ (0, fs) ⟨⟨by omega, fun j hj => by omega⟩, hP.sub [0, 1, 6, 2, 3, 4, 5] rfl, hD.sub [0, 1, 6, 2, 3, 4, 5] (by decide) rfl, hS, lv_sub hl [1, 2, 0] rfl⟩
  rintro ⟨k, f⟩ H locs ls ⟨hi_10, hP, hD, hS, hl⟩ ih_10
  have hi_10 : k ≤ 200 ∧ ∀ j, j < k → f j = stF pl j := hi_10
  have hP : va_P D vwCl [(h, .inr (0, [.ref cf, .ref cn, .ref cp])), (cf, .inl (cI, 200, .inl (oIf f))), (cn, .inl (cI, 200, .inl (oIf (fun _ => none)))), (cp, .inl (cJ, 200, .inr (.inl (lNf pu)))), (q, .inr (1, [.ref qm, .ref qp, .int (nI nn)])), (qm, .inl (cI, 200, .inl (nIf me))), (qp, .inl (cI, 200, .inl (oIf pl)))] H := hP
  have hD : va_D A [(h, .inr (0, [.ref cf, .ref cn, .ref cp])), (cf, .inl (cI, 200, .inl (oIf f))), (cn, .inl (cI, 200, .inl (oIf (fun _ => none)))), (cp, .inl (cJ, 200, .inr (.inl (lNf pu)))), (q, .inr (1, [.ref qm, .ref qp, .int (nI nn)])), (qm, .inl (cI, 200, .inl (nIf me))), (qp, .inl (cI, 200, .inl (oIf pl)))] := hD
  have hl : lv_has ls 3 [(0, .ref h), (1, .ref q), (2, .int (nI k))] := hl
  obtain ⟨hi_a, hi_b⟩ := id hi_10
  refine lv_iload_n hx hb dX0_start_10 rfl (lv_at hl 2 rfl) ?_
  refine lv_sipush (v := nI 200) hx hb dX0_start_11 (by decide) ?_
  refine r_icmp_ge (tgt := 42) hx hb (x := k) (y := 200) (by omega) (by omega) dX0_start_14 (by decide) (fun c_14 => ?_) (fun c_14 => ?_)
  · skip
    exact e_mv () hAe hx hb hr hlocks dX0_start_42 (P_extI hP 1 (oIf (stF pl)) rfl (fun j hj => congrArg oI (hi_b j (by omega)))) (D_ext hD 1 rfl) hS trivial
  · skip
    refine lv_aload_n hx hb dX0_start_17 rfl (lv_at hl 0 rfl) ?_
    refine va_get (D := D) (ci := 0) (v := .ref cf) (C := RX0) (T := TX0) (N := 3) hx hb hts in_X0_start_X0 hown hE.1 hP 0 rfl rfl 0 (by decide) (hts _ fl_X0_start_9) (fun _ h9 => h9) rfl dX0_start_18 ?_
    refine lv_iload_n hx hb dX0_start_21 rfl (lv_at hl 2 rfl) ?_
    refine lv_aload_n hx hb dX0_start_22 rfl (lv_at hl 1 rfl) ?_
    refine lv_iload_n hx hb dX0_start_23 rfl (lv_at hl 2 rfl) ?_
    refine callRi (As := [.int (nI k)]) (rest := [.int (nI k), .ref cf]) ⟨hx, hb, hml, hown, hts⟩ (c_holds l D cI cJ cZ q qm qp nn me pl hpl k (by omega)) (cwV 1 hts gX0_start_X1_holds rfl rfl rfl (by decide +kernel) ⟨Nat.le_of_ble_eq_true rfl, Nat.le_of_ble_eq_true rfl⟩) (preR hE hP 1 4 rfl rfl rfl [4, 5, 6] rfl) rfl hl.1 (Nat.le_of_ble_eq_true rfl) dX0_start_24 ⟨Nat.zero_le _, Nat.zero_le _⟩ rfl (fun r1 hr1 => ?_)
    subst hr1
    refine r_b_eq (tgt := 34) hx hb dX0_start_27 (by decide) (fun c_27 => ?_) (fun c_27 => ?_)
    · skip
      refine lv_iconst (v := -1) hx hb dX0_start_34 (by decide) ?_
      refine r_ost hx hb hE hP hD hS 1 rfl (k := k) none rfl (by omega) (by decide) dX0_start_35 (fun H locs hP hD hS => ?_)
      have hP : va_P D vwCl [(h, .inr (0, [.ref cf, .ref cn, .ref cp])), (cf, .inl (cI, 200, .inl (oIf (va_up f k none)))), (cn, .inl (cI, 200, .inl (oIf (fun _ => none)))), (cp, .inl (cJ, 200, .inr (.inl (lNf pu)))), (q, .inr (1, [.ref qm, .ref qp, .int (nI nn)])), (qm, .inl (cI, 200, .inl (nIf me))), (qp, .inl (cI, 200, .inl (oIf pl)))] H := hP
      have hD : va_D A [(h, .inr (0, [.ref cf, .ref cn, .ref cp])), (cf, .inl (cI, 200, .inl (oIf (va_up f k none)))), (cn, .inl (cI, 200, .inl (oIf (fun _ => none)))), (cp, .inl (cJ, 200, .inr (.inl (lNf pu)))), (q, .inr (1, [.ref qm, .ref qp, .int (nI nn)])), (qm, .inl (cI, 200, .inl (nIf me))), (qp, .inl (cI, 200, .inl (oIf pl)))] := hD
      refine lv_iinc (v := (nI (k + 1))) (lv' := [(2, .int (nI (k + 1))), (0, .ref h), (1, .ref q)]) hx hb dX0_start_36 hl (k := 2) rfl (nI_1 _) (by decide) rfl (fun ls hl => ?_)
      refine lv_goto (tgt := 10) hx hb dX0_start_39 (by decide) ?_
      exact ih_10 (k + 1, va_up f k none) _ _ _ ⟨(show (k + 1) ≤ 200 ∧ ∀ j, j < (k + 1) → (va_up f k none) j = stF pl j from ⟨by omega, lt_s (fun j hj => by rw [va_up_ne _ _ (by omega)]; exact hi_10.2 j hj) (by rw [va_up_self]; unfold stF; simp [c_27])⟩), hP.sub [0, 1, 2, 3, 4, 5, 6] rfl, hD.sub [0, 1, 2, 3, 4, 5, 6] (by decide) rfl, hS, lv_sub hl [1, 2, 0] rfl⟩ (by show 200 - (k + 1) < 200 - k; omega)
    · skip
      refine lv_iload_n hx hb dX0_start_30 rfl (lv_at hl 2 rfl) ?_
      refine lv_goto (tgt := 35) hx hb dX0_start_31 (by decide) ?_
      refine r_ost hx hb hE hP hD hS 1 rfl (k := k) (some k) rfl (by omega) (by decide) dX0_start_35 (fun H locs hP hD hS => ?_)
      have hP : va_P D vwCl [(h, .inr (0, [.ref cf, .ref cn, .ref cp])), (cf, .inl (cI, 200, .inl (oIf (va_up f k (some k))))), (cn, .inl (cI, 200, .inl (oIf (fun _ => none)))), (cp, .inl (cJ, 200, .inr (.inl (lNf pu)))), (q, .inr (1, [.ref qm, .ref qp, .int (nI nn)])), (qm, .inl (cI, 200, .inl (nIf me))), (qp, .inl (cI, 200, .inl (oIf pl)))] H := hP
      have hD : va_D A [(h, .inr (0, [.ref cf, .ref cn, .ref cp])), (cf, .inl (cI, 200, .inl (oIf (va_up f k (some k))))), (cn, .inl (cI, 200, .inl (oIf (fun _ => none)))), (cp, .inl (cJ, 200, .inr (.inl (lNf pu)))), (q, .inr (1, [.ref qm, .ref qp, .int (nI nn)])), (qm, .inl (cI, 200, .inl (nIf me))), (qp, .inl (cI, 200, .inl (oIf pl)))] := hD
      refine lv_iinc (v := (nI (k + 1))) (lv' := [(2, .int (nI (k + 1))), (0, .ref h), (1, .ref q)]) hx hb dX0_start_36 hl (k := 2) rfl (nI_1 _) (by decide) rfl (fun ls hl => ?_)
      refine lv_goto (tgt := 10) hx hb dX0_start_39 (by decide) ?_
      exact ih_10 (k + 1, va_up f k (some k)) _ _ _ ⟨(show (k + 1) ≤ 200 ∧ ∀ j, j < (k + 1) → (va_up f k (some k)) j = stF pl j from ⟨by omega, lt_s (fun j hj => by rw [va_up_ne _ _ (by omega)]; exact hi_10.2 j hj) (by rw [va_up_self]; unfold stF; simp [c_27])⟩), hP.sub [0, 1, 2, 3, 4, 5, 6] rfl, hD.sub [0, 1, 2, 3, 4, 5, 6] (by decide) rfl, hS, lv_sub hl [1, 2, 0] rfl⟩ (by show 200 - (k + 1) < 200 - k; omega)

theorem fl_X0_join_15 : Cond.fieldLink RX0 15 "BlockRows$Chains" "next" "[I" ∈ wsX0_join := by decide +kernel
theorem fl_X0_join_9 : Cond.fieldLink RX0 9 "BlockRows$Chains" "first" "[I" ∈ wsX0_join := by decide +kernel
theorem in_X0_join_X0 : ∀ w ∈ wsX00, w ∈ wsX0_join := by decide +kernel
theorem wd_X0_join_ini3 : Cond.initialized RX3 ∈ wsX0_join := by decide +kernel
theorem wd_X0_join_stF : Cond.static yX3_fitsRows ∈ wsX0_join := by decide +kernel
set_option maxHeartbeats 4000000 in
set_option maxRecDepth 100000 in
/-- Chains.join(u, v) -/
theorem c_join (l : Launch) (D : va_G) (cI cJ cZ : ClassId) (h cf cn cp : Nat) (fs nx : Nat → Option Nat) (pu : Nat → Nat) (T : Nat → List Nat) (hR : CR T fs nx) (sz u v a : Nat) (hu : u < 200) (hv : v < 200) (ha : fs u = some a) (hul : (T a).getLast? = some u) (htv : T v ≠ []) (hav : a ≠ v) : Met l yX0_join wsX0_join ({ frames := 2, cells := 0, slots := 0, locals := 41 }) (PcM D cI cJ cZ [.ref h, .int (nI u), .int (nI v)] [(h, .inr (0, [.ref cf, .ref cn, .ref cp])), (cf, .inl (cI, 200, .inl (oIf fs))), (cn, .inl (cI, 200, .inl (oIf nx))), (cp, .inl (cJ, 200, .inr (.inl (lNf pu))))] sz) (va_Qv (fun z : (Nat → Option Nat) × (Nat → Option Nat) => CR (joinT T a v) z.1 z.2) (Bm D [(h, .inr (0, [.ref cf, .ref cn, .ref cp])), (cf, .inl (cI, 200, .inl (oIf fs))), (cn, .inl (cI, 200, .inl (oIf nx))), (cp, .inl (cJ, 200, .inr (.inl (lNf pu))))] sz (fun z : (Nat → Option Nat) × (Nat → Option Nat) => [(h, .inr (0, [.ref cf, .ref cn, .ref cp])), (cf, .inl (cI, 200, .inl (oIf z.1))), (cn, .inl (cI, 200, .inl (oIf z.2))), (cp, .inl (cJ, 200, .inr (.inl (lNf pu))))])) (va_A [(h, .inr (0, [.ref cf, .ref cn, .ref cp])), (cf, .inl (cI, 200, .inl (oIf fs))), (cn, .inl (cI, 200, .inl (oIf nx))), (cp, .inl (cJ, 200, .inr (.inl (lNf pu))))] sz)) 0 0 (va_A [(h, .inr (0, [.ref cf, .ref cn, .ref cp])), (cf, .inl (cI, 200, .inl (oIf fs))), (cn, .inl (cI, 200, .inl (oIf nx))), (cp, .inl (cJ, 200, .inr (.inl (lNf pu))))] sz) := by
  refine startM (cc := cX0_join) (maxL := 6) (ret := none) (by decide) rfl (Nat.le_of_ble_eq_true rfl) ?_
  intro p e s m below meth c ls A hA hAe hx hb hr hml hown hts hlocks hin hE hP hD hS hl
  have hl : lv_has ls 6 [(0, .ref h), (1, .int (nI u)), (2, .int (nI v))] := hl
  have hT := hR.1
  refine lv_aload_n hx hb dX0_join_0 rfl (lv_at hl 0 rfl) ?_
  refine lv_iload_n hx hb dX0_join_1 rfl (lv_at hl 1 rfl) ?_
  refine callRi (As := [.int (nI u)]) (rest := []) ⟨hx, hb, hml, hown, hts⟩ (c_firstOf l D cI cJ cZ h cf cn cp fs nx pu u hu) (cwV 1 hts gX0_join_X0_firstOf rfl rfl rfl (by decide +kernel) ⟨Nat.le_of_ble_eq_true rfl, Nat.le_of_ble_eq_true rfl⟩) (preR hE hP 0 0 rfl rfl rfl [0, 1, 2, 3] rfl) rfl hl.1 (Nat.le_of_ble_eq_true rfl) dX0_join_2 ⟨Nat.zero_le _, Nat.zero_le _⟩ rfl (fun r_2 hr_2 => ?_)
  subst hr_2
  refine lv_istore_n (lv' := [(3, .int (oI (fs u))), (0, .ref h), (1, .int (nI u)), (2, .int (nI v))]) hx hb dX0_join_5 rfl hl (by decide) rfl (fun ls hl => ?_)
  refine lv_aload_n hx hb dX0_join_6 rfl (lv_at hl 1 rfl) ?_
  refine va_get (D := D) (ci := 0) (v := .ref cn) (C := RX0) (T := TX0) (N := 3) hx hb hts in_X0_join_X0 hown hE.1 hP 0 rfl rfl 1 (by decide) (hts _ fl_X0_join_15) (fun _ h9 => h9) rfl dX0_join_7 ?_
  refine lv_iload_n hx hb dX0_join_10 rfl (lv_at hl 2 rfl) ?_
  refine lv_iload_n hx hb dX0_join_11 rfl (lv_at hl 3 rfl) ?_
  refine r_ost hx hb hE hP hD hS 2 rfl (k := u) (some v) rfl (by omega) (by decide) dX0_join_12 (fun H locs hP hD hS => ?_)
  have hP : va_P D vwCl [(h, .inr (0, [.ref cf, .ref cn, .ref cp])), (cf, .inl (cI, 200, .inl (oIf fs))), (cn, .inl (cI, 200, .inl (oIf (va_up nx u (some v))))), (cp, .inl (cJ, 200, .inr (.inl (lNf pu))))] H := hP
  have hD : va_D A [(h, .inr (0, [.ref cf, .ref cn, .ref cp])), (cf, .inl (cI, 200, .inl (oIf fs))), (cn, .inl (cI, 200, .inl (oIf (va_up nx u (some v))))), (cp, .inl (cJ, 200, .inr (.inl (lNf pu))))] := hD
  refine lv_iload_n hx hb dX0_join_13 rfl (lv_at hl 3 rfl) ?_
  refine lv_istore (lv' := [(4, .int (nI v)), (3, .int (oI (fs u))), (0, .ref h), (1, .int (nI u)), (2, .int (nI v))]) hx hb dX0_join_14 hl (by decide) rfl (fun ls hl => ?_)
  refine lv_iconst (v := nI 0) hx hb dX0_join_16 (by decide) ?_
  refine lv_istore (lv' := [(5, .int (nI 0)), (4, .int (nI v)), (3, .int (oI (fs u))), (0, .ref h), (1, .int (nI u)), (2, .int (nI v))]) hx hb dX0_join_17 hl (by decide) rfl (fun ls hl => ?_)
  have hl : lv_has ls 6 [(5, .int (nI 0)), (4, .int (oI ((T v)[0]?))), (3, .int (oI (fs u))), (0, .ref h), (1, .int (nI u)), (2, .int (nI v))] := by rw [T_head hR htv]; exact hl
  refine r_loop (σ := Nat × (Nat → Option Nat)) (fun z0 => 200 - z0.1) (fun z0 H locs ls => (z0.1 ≤ (T v).length ∧ JI T a v fs z0.1 z0.2) ∧ va_P D vwCl [(h, .inr (0, [.ref cf, .ref cn, .ref cp])), (cf, .inl (cI, 200, .inl (oIf z0.2))), (cn, .inl (cI, 200, .inl (oIf (va_up nx u (some v))))), (cp, .inl (cJ, 200, .inr (.inl (lNf pu))))] H ∧ va_D A [(h, .inr (0, [.ref cf, .ref cn, .ref cp])), (cf, .inl (cI, 200, .inl (oIf z0.2))), (cn, .inl (cI, 200, .inl (oIf (va_up nx u (some v))))), (cp, .inl (cJ, 200, .inr (.inl (lNf pu))))] ∧ va_S A s.heap H locs ∧ lv_has ls 6 [(0, .ref h), (1, .int (nI u)), (2, .int (nI v)), (3, .int (oI (fs u))), (4, .int (oI ((T v)[z0.1]?))), (5, .int (nI z0.1))]) ?_ (0, fs) ⟨⟨Nat.zero_le _, JI_0⟩, hP.sub [0, 1, 2, 3] rfl, hD.sub [0, 1, 2, 3] (by decide) rfl, hS, lv_sub hl [3, 4, 5, 2, 1, 0] rfl⟩
  rintro ⟨i, f⟩ H locs ls ⟨hi_19, hP, hD, hS, hl⟩ ih_19
  have hi_19 : i ≤ (T v).length ∧ JI T a v fs i f := hi_19
  have hP : va_P D vwCl [(h, .inr (0, [.ref cf, .ref cn, .ref cp])), (cf, .inl (cI, 200, .inl (oIf f))), (cn, .inl (cI, 200, .inl (oIf (va_up nx u (some v))))), (cp, .inl (cJ, 200, .inr (.inl (lNf pu))))] H := hP
  have hD : va_D A [(h, .inr (0, [.ref cf, .ref cn, .ref cp])), (cf, .inl (cI, 200, .inl (oIf f))), (cn, .inl (cI, 200, .inl (oIf (va_up nx u (some v))))), (cp, .inl (cJ, 200, .inr (.inl (lNf pu))))] := hD
  have hl : lv_has ls 6 [(0, .ref h), (1, .int (nI u)), (2, .int (nI v)), (3, .int (oI (fs u))), (4, .int (oI ((T v)[i]?))), (5, .int (nI i))] := hl
  have hlen := T_len hR v
  have hob : ∀ j, (T v)[i]? = some j → j < 200 := fun j hj => T_lt hR hj
  refine lv_iload hx hb dX0_join_19 (lv_at hl 5 rfl) ?_
  refine lv_sipush (v := nI 200) hx hb dX0_join_21 (by decide) ?_
  refine r_icmp_ge (tgt := 58) hx hb (x := i) (y := 200) (by omega) (by omega) dX0_join_24 (by decide) (fun c_24 => ?_) (fun c_24 => ?_)
  · skip
    exact e_mv (f, va_up nx u (some v)) hAe hx hb hr hlocks dX0_join_58 hP hD hS (JI_end hR ha hav hul htv hi_19.2 (by omega))
  · skip
    refine lv_iload hx hb dX0_join_27 (lv_at hl 4 rfl) ?_
    refine callRSi (As := [.int (oI ((T v)[i]?))]) (rest := []) ⟨hx, hb, hml, hown, hts⟩ (c_fits l D cI cJ cZ ((T v)[i]?) hob) ⟨va_cnB 1 hts gX0_join_X3_fitsRows_n34 rfl rfl rfl hE.2.2.1.2.2.2 (hts _ wd_X0_join_ini3) (by decide +kernel) ⟨Nat.le_of_ble_eq_true rfl, Nat.le_of_ble_eq_true rfl⟩, hts _ wd_X0_join_stF, trivial⟩ (preRS hE hP) rfl hl.1 (Nat.le_of_ble_eq_true rfl) dX0_join_29 ⟨Nat.zero_le _, Nat.zero_le _⟩ rfl (fun rF hrF => ?_)
    subst hrF
    refine r_b_eq (tgt := 58) hx hb dX0_join_32 (by decide) (fun c_32 => ?_) (fun c_32 => ?_)
    · skip
      exact e_mv (f, va_up nx u (some v)) hAe hx hb hr hlocks dX0_join_58 hP hD hS (JI_end hR ha hav hul htv hi_19.2 (ix_ge (nn_of c_32)))
    · skip
      obtain ⟨b, hb3⟩ := sm_of c_32
      have hb200 := hob b hb3
      rw [hb3] at hl
      have hl : lv_has ls 6 [(0, .ref h), (1, .int (nI u)), (2, .int (nI v)), (3, .int (oI (fs u))), (4, .int (nI b)), (5, .int (nI i))] := hl
      refine lv_aload_n hx hb dX0_join_35 rfl (lv_at hl 0 rfl) ?_
      refine va_get (D := D) (ci := 0) (v := .ref cf) (C := RX0) (T := TX0) (N := 3) hx hb hts in_X0_join_X0 hown hE.1 hP 0 rfl rfl 0 (by decide) (hts _ fl_X0_join_9) (fun _ h9 => h9) rfl dX0_join_36 ?_
      refine lv_iload hx hb dX0_join_39 (lv_at hl 4 rfl) ?_
      refine lv_iload_n hx hb dX0_join_41 rfl (lv_at hl 3 rfl) ?_
      refine r_ost hx hb hE hP hD hS 1 rfl (k := b) (fs u) rfl (by omega) (by decide) dX0_join_42 (fun H locs hP hD hS => ?_)
      have hP : va_P D vwCl [(h, .inr (0, [.ref cf, .ref cn, .ref cp])), (cf, .inl (cI, 200, .inl (oIf (va_up f b (fs u))))), (cn, .inl (cI, 200, .inl (oIf (va_up nx u (some v))))), (cp, .inl (cJ, 200, .inr (.inl (lNf pu))))] H := hP
      have hD : va_D A [(h, .inr (0, [.ref cf, .ref cn, .ref cp])), (cf, .inl (cI, 200, .inl (oIf (va_up f b (fs u))))), (cn, .inl (cI, 200, .inl (oIf (va_up nx u (some v))))), (cp, .inl (cJ, 200, .inr (.inl (lNf pu))))] := hD
      refine lv_aload_n hx hb dX0_join_43 rfl (lv_at hl 0 rfl) ?_
      refine va_get (D := D) (ci := 0) (v := .ref cn) (C := RX0) (T := TX0) (N := 3) hx hb hts in_X0_join_X0 hown hE.1 hP 0 rfl rfl 1 (by decide) (hts _ fl_X0_join_15) (fun _ h9 => h9) rfl dX0_join_44 ?_
      refine lv_iload hx hb dX0_join_47 (lv_at hl 4 rfl) ?_
      refine r_old hx hb hE hP 2 rfl (k := b) (by omega) (by decide) dX0_join_49 ?_
      refine r_as (w := .int (oI (T v)[i + 1]?)) (by rw [va_up_ne _ _ (JI_ne hR ha hav hul hb3)]; rw [hR.2.2 v i b hb3]) ?_
      refine lv_istore (lv' := [(4, .int (oI ((T v)[i + 1]?))), (0, .ref h), (1, .int (nI u)), (2, .int (nI v)), (3, .int (oI (fs u))), (5, .int (nI i))]) hx hb dX0_join_50 hl (by decide) rfl (fun ls hl => ?_)
      refine lv_iinc (v := (nI (i + 1))) (lv' := [(5, .int (nI (i + 1))), (4, .int (oI ((T v)[i + 1]?))), (0, .ref h), (1, .int (nI u)), (2, .int (nI v)), (3, .int (oI (fs u)))]) hx hb dX0_join_52 hl (k := 5) rfl (nI_1 _) (by decide) rfl (fun ls hl => ?_)
      refine lv_goto (tgt := 19) hx hb dX0_join_55 (by decide) ?_
      exact ih_19 (i + 1, va_up f b (fs u)) _ _ _ ⟨(show (i + 1) ≤ (T v).length ∧ JI T a v fs (i + 1) (va_up f b (fs u)) from ⟨ix_lt hb3, JI_step hi_19.2 hb3 ha⟩), hP.sub [0, 1, 2, 3] rfl, hD.sub [0, 1, 2, 3] (by decide) rfl, hS, lv_sub hl [2, 3, 4, 5, 1, 0] rfl⟩ (by show 200 - (i + 1) < 200 - i; omega)

theorem in_X0_joinAlong_X2 : ∀ w ∈ wsX20, w ∈ wsX0_joinAlong := by decide +kernel
set_option maxHeartbeats 4000000 in
set_option maxRecDepth 100000 in
/-- Chains.joinAlong(ways) -/
theorem c_joinAlong (l : Launch) (D : va_G) (cI cJ cZ : ClassId) (h cf cn cp : Nat) (fs nx : Nat → Option Nat) (pu : Nat → Nat) (q qf qt qc ql kn : Nat) (fr tt ct : Nat → Nat) (fa : Nat → Bool) (hkn : kn ≤ 1000) (hB : WB fr tt ct) (T : Nat → List Nat) (hR : CR T fs nx) (sz : Nat) : Met l yX0_joinAlong wsX0_joinAlong ({ frames := 3, cells := 0, slots := 0, locals := 66 }) (PcM D cI cJ cZ [.ref h, .ref q] [(h, .inr (0, [.ref cf, .ref cn, .ref cp])), (cf, .inl (cI, 200, .inl (oIf fs))), (cn, .inl (cI, 200, .inl (oIf nx))), (cp, .inl (cJ, 200, .inr (.inl (lNf pu)))), (q, .inr (2, [.ref qf, .ref qt, .ref qc, .ref ql, .int (nI kn)])), (qf, .inl (cI, 1000, .inl (nIf fr))), (qt, .inl (cI, 1000, .inl (nIf tt))), (qc, .inl (cJ, 1000, .inr (.inl (lNf ct)))), (ql, .inl (cZ, 1000, .inl (bIf fa)))] sz) (va_Qv (fun z : (Nat → Option Nat) × (Nat → Option Nat) => CR ((wl kn (pk fr tt ct fa)).foldl stepT T) z.1 z.2) (Bm D [(h, .inr (0, [.ref cf, .ref cn, .ref cp])), (cf, .inl (cI, 200, .inl (oIf fs))), (cn, .inl (cI, 200, .inl (oIf nx))), (cp, .inl (cJ, 200, .inr (.inl (lNf pu)))), (q, .inr (2, [.ref qf, .ref qt, .ref qc, .ref ql, .int (nI kn)])), (qf, .inl (cI, 1000, .inl (nIf fr))), (qt, .inl (cI, 1000, .inl (nIf tt))), (qc, .inl (cJ, 1000, .inr (.inl (lNf ct)))), (ql, .inl (cZ, 1000, .inl (bIf fa)))] sz (fun z : (Nat → Option Nat) × (Nat → Option Nat) => [(h, .inr (0, [.ref cf, .ref cn, .ref cp])), (cf, .inl (cI, 200, .inl (oIf z.1))), (cn, .inl (cI, 200, .inl (oIf z.2))), (cp, .inl (cJ, 200, .inr (.inl (lNf pu)))), (q, .inr (2, [.ref qf, .ref qt, .ref qc, .ref ql, .int (nI kn)])), (qf, .inl (cI, 1000, .inl (nIf fr))), (qt, .inl (cI, 1000, .inl (nIf tt))), (qc, .inl (cJ, 1000, .inr (.inl (lNf ct)))), (ql, .inl (cZ, 1000, .inl (bIf fa)))])) (va_A [(h, .inr (0, [.ref cf, .ref cn, .ref cp])), (cf, .inl (cI, 200, .inl (oIf fs))), (cn, .inl (cI, 200, .inl (oIf nx))), (cp, .inl (cJ, 200, .inr (.inl (lNf pu)))), (q, .inr (2, [.ref qf, .ref qt, .ref qc, .ref ql, .int (nI kn)])), (qf, .inl (cI, 1000, .inl (nIf fr))), (qt, .inl (cI, 1000, .inl (nIf tt))), (qc, .inl (cJ, 1000, .inr (.inl (lNf ct)))), (ql, .inl (cZ, 1000, .inl (bIf fa)))] sz)) 0 0 (va_A [(h, .inr (0, [.ref cf, .ref cn, .ref cp])), (cf, .inl (cI, 200, .inl (oIf fs))), (cn, .inl (cI, 200, .inl (oIf nx))), (cp, .inl (cJ, 200, .inr (.inl (lNf pu)))), (q, .inr (2, [.ref qf, .ref qt, .ref qc, .ref ql, .int (nI kn)])), (qf, .inl (cI, 1000, .inl (nIf fr))), (qt, .inl (cI, 1000, .inl (nIf tt))), (qc, .inl (cJ, 1000, .inr (.inl (lNf ct)))), (ql, .inl (cZ, 1000, .inl (bIf fa)))] sz) := by
  refine startM (cc := cX0_joinAlong) (maxL := 5) (ret := none) (by decide) rfl (Nat.le_of_ble_eq_true rfl) ?_
  intro p e s m below meth c ls A hA hAe hx hb hr hml hown hts hlocks hin hE hP hD hS hl
  have hl : lv_has ls 5 [(0, .ref h), (1, .ref q)] := hl
  refine lv_iconst (v := nI 0) hx hb dX0_joinAlong_0 (by decide) ?_
  refine lv_istore_n (lv' := [(2, .int (nI 0)), (0, .ref h), (1, .ref q)]) hx hb dX0_joinAlong_1 rfl hl (by decide) rfl (fun ls hl => ?_)
  refine r_loop (σ := Nat × (Nat → Option Nat) × (Nat → Option Nat)) (fun z0 => kn - z0.1) (fun z0 H locs ls => (z0.1 ≤ kn ∧ CR ((wl z0.1 (pk fr tt ct fa)).foldl stepT T) z0.2.1 z0.2.2) ∧ va_P D vwCl [(h, .inr (0, [.ref cf, .ref cn, .ref cp])), (cf, .inl (cI, 200, .inl (oIf z0.2.1))), (cn, .inl (cI, 200, .inl (oIf z0.2.2))), (cp, .inl (cJ, 200, .inr (.inl (lNf pu)))), (q, .inr (2, [.ref qf, .ref qt, .ref qc, .ref ql, .int (nI kn)])), (qf, .inl (cI, 1000, .inl (nIf fr))), (qt, .inl (cI, 1000, .inl (nIf tt))), (qc, .inl (cJ, 1000, .inr (.inl (lNf ct)))), (ql, .inl (cZ, 1000, .inl (bIf fa)))] H ∧ va_D A [(h, .inr (0, [.ref cf, .ref cn, .ref cp])), (cf, .inl (cI, 200, .inl (oIf z0.2.1))), (cn, .inl (cI, 200, .inl (oIf z0.2.2))), (cp, .inl (cJ, 200, .inr (.inl (lNf pu)))), (q, .inr (2, [.ref qf, .ref qt, .ref qc, .ref ql, .int (nI kn)])), (qf, .inl (cI, 1000, .inl (nIf fr))), (qt, .inl (cI, 1000, .inl (nIf tt))), (qc, .inl (cJ, 1000, .inr (.inl (lNf ct)))), (ql, .inl (cZ, 1000, .inl (bIf fa)))] ∧ va_S A s.heap H locs ∧ lv_has ls 5 [(0, .ref h), (1, .ref q), (2, .int (nI z0.1))]) ?_ (0, fs, nx) ⟨⟨Nat.zero_le _, hR⟩, hP.sub [0, 1, 2, 3, 4, 5, 6, 7, 8] rfl, hD.sub [0, 1, 2, 3, 4, 5, 6, 7, 8] (by decide) rfl, hS, lv_sub hl [1, 2, 0] rfl⟩
  rintro ⟨k, f, g⟩ H locs ls ⟨hi_2, hP, hD, hS, hl⟩ ih_2
  have hi_2 : k ≤ kn ∧ CR ((wl k (pk fr tt ct fa)).foldl stepT T) f g := hi_2
  have hP : va_P D vwCl [(h, .inr (0, [.ref cf, .ref cn, .ref cp])), (cf, .inl (cI, 200, .inl (oIf f))), (cn, .inl (cI, 200, .inl (oIf g))), (cp, .inl (cJ, 200, .inr (.inl (lNf pu)))), (q, .inr (2, [.ref qf, .ref qt, .ref qc, .ref ql, .int (nI kn)])), (qf, .inl (cI, 1000, .inl (nIf fr))), (qt, .inl (cI, 1000, .inl (nIf tt))), (qc, .inl (cJ, 1000, .inr (.inl (lNf ct)))), (ql, .inl (cZ, 1000, .inl (bIf fa)))] H := hP
  have hD : va_D A [(h, .inr (0, [.ref cf, .ref cn, .ref cp])), (cf, .inl (cI, 200, .inl (oIf f))), (cn, .inl (cI, 200, .inl (oIf g))), (cp, .inl (cJ, 200, .inr (.inl (lNf pu)))), (q, .inr (2, [.ref qf, .ref qt, .ref qc, .ref ql, .int (nI kn)])), (qf, .inl (cI, 1000, .inl (nIf fr))), (qt, .inl (cI, 1000, .inl (nIf tt))), (qc, .inl (cJ, 1000, .inr (.inl (lNf ct)))), (ql, .inl (cZ, 1000, .inl (bIf fa)))] := hD
  have hl : lv_has ls 5 [(0, .ref h), (1, .ref q), (2, .int (nI k))] := hl
  have b1 := hB k
  have hfs := CR_f hi_2.2
  have hgs := CR_n hi_2.2
  refine lv_iload_n hx hb dX0_joinAlong_2 rfl (lv_at hl 2 rfl) ?_
  refine lv_aload_n hx hb dX0_joinAlong_3 rfl (lv_at hl 1 rfl) ?_
  refine va_getN (D := D) (ci := 2) (v := .int (nI kn)) (C := RX2) (T := TX2) (N := 5) hx hb hts in_X0_joinAlong_X2 hown hE.1 hP 4 rfl rfl 4 (by decide) (va_Nw.use rfl hE.2.1.2.2.2.2) (fun _ h9 => h9) rfl dX0_joinAlong_4 ?_
  refine r_icmp_ge (tgt := 68) hx hb (x := k) (y := kn) (by omega) (by omega) dX0_joinAlong_7 (by decide) (fun c_7 => ?_) (fun c_7 => ?_)
  · skip
    exact e_mv (f, g) hAe hx hb hr hlocks dX0_joinAlong_68 (hP.sub [0, 1, 2, 3, 4, 5, 6, 7, 8] rfl) (hD.sub [0, 1, 2, 3, 4, 5, 6, 7, 8] (by decide) rfl) hS (by have e9 : k = kn := (by omega); subst e9; exact hi_2.2)
  · skip
    refine lv_aload_n hx hb dX0_joinAlong_10 rfl (lv_at hl 1 rfl) ?_
    refine va_getN (D := D) (ci := 2) (v := .ref qf) (C := RX2) (T := TX2) (N := 5) hx hb hts in_X0_joinAlong_X2 hown hE.1 hP 4 rfl rfl 0 (by decide) (va_Nw.use rfl hE.2.1.1) (fun _ h9 => h9) rfl dX0_joinAlong_11 ?_
    refine lv_iload_n hx hb dX0_joinAlong_14 rfl (lv_at hl 2 rfl) ?_
    refine r_nld hx hb hE hP 5 rfl (k := k) (by omega) (by decide) dX0_joinAlong_15 ?_
    refine lv_istore_n (lv' := [(3, .int (nI (fr k))), (0, .ref h), (1, .ref q), (2, .int (nI k))]) hx hb dX0_joinAlong_16 rfl hl (by decide) rfl (fun ls hl => ?_)
    refine lv_aload_n hx hb dX0_joinAlong_17 rfl (lv_at hl 2 rfl) ?_
    refine va_getN (D := D) (ci := 2) (v := .ref qt) (C := RX2) (T := TX2) (N := 5) hx hb hts in_X0_joinAlong_X2 hown hE.1 hP 4 rfl rfl 1 (by decide) (va_Nw.use rfl hE.2.1.2.1) (fun _ h9 => h9) rfl dX0_joinAlong_18 ?_
    refine lv_iload_n hx hb dX0_joinAlong_21 rfl (lv_at hl 3 rfl) ?_
    refine r_nld hx hb hE hP 6 rfl (k := k) (by omega) (by decide) dX0_joinAlong_22 ?_
    refine lv_istore (lv' := [(4, .int (nI (tt k))), (3, .int (nI (fr k))), (0, .ref h), (1, .ref q), (2, .int (nI k))]) hx hb dX0_joinAlong_23 hl (by decide) rfl (fun ls hl => ?_)
    refine lv_aload_n hx hb dX0_joinAlong_25 rfl (lv_at hl 3 rfl) ?_
    refine va_getN (D := D) (ci := 2) (v := .ref ql) (C := RX2) (T := TX2) (N := 5) hx hb hts in_X0_joinAlong_X2 hown hE.1 hP 4 rfl rfl 3 (by decide) (va_Nw.use rfl hE.2.1.2.2.2.1) (fun _ h9 => h9) rfl dX0_joinAlong_26 ?_
    refine lv_iload_n hx hb dX0_joinAlong_29 rfl (lv_at hl 4 rfl) ?_
    refine r_bld hx hb hE hP 8 rfl (k := k) (by omega) (by decide) dX0_joinAlong_30 ?_
    refine r_b_eq (tgt := 62) hx hb dX0_joinAlong_31 (by decide) (fun c_31 => ?_) (fun c_31 => ?_)
    · skip
      refine lv_iinc (v := (nI (k + 1))) (lv' := [(2, .int (nI (k + 1))), (4, .int (nI (tt k))), (3, .int (nI (fr k))), (0, .ref h), (1, .ref q)]) hx hb dX0_joinAlong_62 hl (k := 4) rfl (nI_1 _) (by decide) rfl (fun ls hl => ?_)
      refine lv_goto (tgt := 2) hx hb dX0_joinAlong_65 (by decide) ?_
      exact ih_2 (k + 1, f, g) _ _ _ ⟨(show (k + 1) ≤ kn ∧ CR ((wl (k + 1) (pk fr tt ct fa)).foldl stepT T) f g from ⟨by omega, ja_skip hi_2.2 (Or.inl c_31)⟩), hP.sub [0, 1, 2, 3, 4, 5, 6, 7, 8] rfl, hD.sub [0, 1, 2, 3, 4, 5, 6, 7, 8] (by decide) rfl, hS, lv_sub hl [3, 4, 0] rfl⟩ (by show kn - (k + 1) < kn - k; omega)
    · skip
      refine lv_aload_n hx hb dX0_joinAlong_34 rfl (lv_at hl 3 rfl) ?_
      refine va_getN (D := D) (ci := 2) (v := .ref qc) (C := RX2) (T := TX2) (N := 5) hx hb hts in_X0_joinAlong_X2 hown hE.1 hP 4 rfl rfl 2 (by decide) (va_Nw.use rfl hE.2.1.2.2.1) (fun _ h9 => h9) rfl dX0_joinAlong_35 ?_
      refine lv_iload_n hx hb dX0_joinAlong_38 rfl (lv_at hl 4 rfl) ?_
      refine r_lld hx hb hE hP 7 rfl (k := k) (by omega) (by decide) dX0_joinAlong_39 ?_
      refine lv_lconst (v := lN 0) hx hb dX0_joinAlong_40 (by decide) ?_
      refine r_l_le (tgt := 62) hx hb (x := ct k) (y := 0) (by omega) (by omega) dX0_joinAlong_41 dX0_joinAlong_42 (by decide) (fun c_41 => ?_) (fun c_41 => ?_)
      · skip
        refine lv_iinc (v := (nI (k + 1))) (lv' := [(2, .int (nI (k + 1))), (4, .int (nI (tt k))), (3, .int (nI (fr k))), (0, .ref h), (1, .ref q)]) hx hb dX0_joinAlong_62 hl (k := 4) rfl (nI_1 _) (by decide) rfl (fun ls hl => ?_)
        refine lv_goto (tgt := 2) hx hb dX0_joinAlong_65 (by decide) ?_
        exact ih_2 (k + 1, f, g) _ _ _ ⟨(show (k + 1) ≤ kn ∧ CR ((wl (k + 1) (pk fr tt ct fa)).foldl stepT T) f g from ⟨by omega, ja_skip hi_2.2 (Or.inr (Or.inl c_41))⟩), hP.sub [0, 1, 2, 3, 4, 5, 6, 7, 8] rfl, hD.sub [0, 1, 2, 3, 4, 5, 6, 7, 8] (by decide) rfl, hS, lv_sub hl [3, 4, 0] rfl⟩ (by show kn - (k + 1) < kn - k; omega)
      · skip
        refine lv_aload_n hx hb dX0_joinAlong_45 rfl (lv_at hl 2 rfl) ?_
        refine lv_iload_n hx hb dX0_joinAlong_46 rfl (lv_at hl 1 rfl) ?_
        refine lv_iload hx hb dX0_joinAlong_47 (lv_at hl 0 rfl) ?_
        refine callRi (As := [.int (nI (fr k)), .int (nI (tt k))]) (rest := []) ⟨hx, hb, hml, hown, hts⟩ (c_mayJoin l D cI cJ cZ h cf cn cp f g pu hfs hgs (fr k) (tt k) b1.1 b1.2.1) (cwV 2 hts gX0_joinAlong_X0_mayJoin rfl rfl rfl (by decide +kernel) ⟨Nat.le_of_ble_eq_true rfl, Nat.le_of_ble_eq_true rfl⟩) (preR hE hP 0 0 rfl rfl rfl [0, 1, 2, 3] rfl) rfl hl.1 (Nat.le_of_ble_eq_true rfl) dX0_joinAlong_49 ⟨Nat.zero_le _, Nat.zero_le _⟩ rfl (fun r1 hr1 => ?_)
        subst hr1
        refine r_b_eq (tgt := 62) hx hb dX0_joinAlong_52 (by decide) (fun c_52 => ?_) (fun c_52 => ?_)
        · skip
          refine lv_iinc (v := (nI (k + 1))) (lv' := [(2, .int (nI (k + 1))), (4, .int (nI (tt k))), (3, .int (nI (fr k))), (0, .ref h), (1, .ref q)]) hx hb dX0_joinAlong_62 hl (k := 4) rfl (nI_1 _) (by decide) rfl (fun ls hl => ?_)
          refine lv_goto (tgt := 2) hx hb dX0_joinAlong_65 (by decide) ?_
          exact ih_2 (k + 1, f, g) _ _ _ ⟨(show (k + 1) ≤ kn ∧ CR ((wl (k + 1) (pk fr tt ct fa)).foldl stepT T) f g from ⟨by omega, ja_skip hi_2.2 (Or.inr (Or.inr c_52))⟩), hP.sub [0, 1, 2, 3, 4, 5, 6, 7, 8] rfl, hD.sub [0, 1, 2, 3, 4, 5, 6, 7, 8] (by decide) rfl, hS, lv_sub hl [3, 4, 0] rfl⟩ (by show kn - (k + 1) < kn - k; omega)
        · skip
          obtain ⟨a, ha, hul, htv, hav, hv0⟩ := mj_spec hi_2.2 c_52
          refine lv_aload_n hx hb dX0_joinAlong_55 rfl (lv_at hl 2 rfl) ?_
          refine lv_iload_n hx hb dX0_joinAlong_56 rfl (lv_at hl 1 rfl) ?_
          refine lv_iload hx hb dX0_joinAlong_57 (lv_at hl 0 rfl) ?_
          refine callMv (As := [.int (nI (fr k)), .int (nI (tt k))]) (rest := []) (wr := [(q, .inr (2, [.ref qf, .ref qt, .ref qc, .ref ql, .int (nI kn)])), (qf, .inl (cI, 1000, .inl (nIf fr))), (qt, .inl (cI, 1000, .inl (nIf tt))), (qc, .inl (cJ, 1000, .inr (.inl (lNf ct)))), (ql, .inl (cZ, 1000, .inl (bIf fa)))]) ⟨hx, hb, hml, hown, hts⟩ (c_join l D cI cJ cZ h cf cn cp f g pu ((wl k (pk fr tt ct fa)).foldl stepT T) hi_2.2 _ (fr k) (tt k) a b1.1 b1.2.1 ha hul htv hav) (cwV 2 hts gX0_joinAlong_X0_join rfl rfl rfl (by decide +kernel) ⟨Nat.le_of_ble_eq_true rfl, Nat.le_of_ble_eq_true rfl⟩) (preM hE hP hD 0 0 rfl rfl rfl [0, 1, 2, 3] rfl rfl rfl) rfl hl.1 (Nat.le_of_ble_eq_true rfl) dX0_joinAlong_59 ⟨Nat.zero_le _, Nat.zero_le _⟩ rfl hP hD hS hA [0, 1, 2, 3] [4, 5, 6, 7, 8] rfl rfl (by decide) (by decide) (fun z H locs hu hP hD hS => ?_)
          have hP : va_P D vwCl [(q, .inr (2, [.ref qf, .ref qt, .ref qc, .ref ql, .int (nI kn)])), (qf, .inl (cI, 1000, .inl (nIf fr))), (qt, .inl (cI, 1000, .inl (nIf tt))), (qc, .inl (cJ, 1000, .inr (.inl (lNf ct)))), (ql, .inl (cZ, 1000, .inl (bIf fa))), (h, .inr (0, [.ref cf, .ref cn, .ref cp])), (cf, .inl (cI, 200, .inl (oIf z.1))), (cn, .inl (cI, 200, .inl (oIf z.2))), (cp, .inl (cJ, 200, .inr (.inl (lNf pu))))] H := hP
          have hD : va_D A [(q, .inr (2, [.ref qf, .ref qt, .ref qc, .ref ql, .int (nI kn)])), (qf, .inl (cI, 1000, .inl (nIf fr))), (qt, .inl (cI, 1000, .inl (nIf tt))), (qc, .inl (cJ, 1000, .inr (.inl (lNf ct)))), (ql, .inl (cZ, 1000, .inl (bIf fa))), (h, .inr (0, [.ref cf, .ref cn, .ref cp])), (cf, .inl (cI, 200, .inl (oIf z.1))), (cn, .inl (cI, 200, .inl (oIf z.2))), (cp, .inl (cJ, 200, .inr (.inl (lNf pu))))] := hD
          have hu9 := ja_join hi_2.2 c_31 c_41 ha hul htv hav hv0 hu
          refine lv_iinc (v := (nI (k + 1))) (lv' := [(2, .int (nI (k + 1))), (4, .int (nI (tt k))), (3, .int (nI (fr k))), (0, .ref h), (1, .ref q)]) hx hb dX0_joinAlong_62 hl (k := 4) rfl (nI_1 _) (by decide) rfl (fun ls hl => ?_)
          refine lv_goto (tgt := 2) hx hb dX0_joinAlong_65 (by decide) ?_
          exact ih_2 (k + 1, z.1, z.2) _ _ _ ⟨(show (k + 1) ≤ kn ∧ CR ((wl (k + 1) (pk fr tt ct fa)).foldl stepT T) z.1 z.2 from ⟨by omega, hu9⟩), hP.sub [5, 6, 7, 8, 0, 1, 2, 3, 4] rfl, hD.sub [5, 6, 7, 8, 0, 1, 2, 3, 4] (by decide) rfl, hS, lv_sub hl [3, 4, 0] rfl⟩ (by show kn - (k + 1) < kn - k; omega)

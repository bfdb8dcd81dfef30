theorem in_X0_mostPulled_X1 : ∀ w ∈ wsX10, w ∈ wsX0_mostPulled := by decide +kernel
set_option maxHeartbeats 4000000 in
set_option maxRecDepth 100000 in
/-- Chains.mostPulled -/
theorem c_mostPulled (l : Launch) (D : va_G) (cI cJ cZ : ClassId) (h cf cn cp : Nat) (fs nx : Nat → Option Nat) (pu : Nat → Nat) (q qm qp nn : Nat) (me : Nat → Nat) (pl : Nat → Option Nat) (r rm rp n2 : Nat) (me2 : Nat → Nat) (pl2 : Nat → Option Nat) (hfs : ∀ i j, fs i = some j → j < 200) (hnn : nn ≤ 200) (hpl2 : ∀ i j, pl2 i = some j → j < 200) (hme : ∀ k, k < nn → me k < 200 ∧ ∃ d, fs (me k) = some d) (hpu : ∀ k, k < nn → pl2 (me k) = none → ∀ d, fs (me k) = some d → pu d < 2 ^ 63) : Met l yX0_mostPulled wsX0_mostPulled ({ frames := 2, cells := 0, slots := 0, locals := 41 }) (PcR D cI cJ cZ [.ref h, .ref q, .ref r] [(h, .inr (0, [.ref cf, .ref cn, .ref cp])), (cf, .inl (cI, 200, .inl (oIf fs))), (cn, .inl (cI, 200, .inl (oIf nx))), (cp, .inl (cJ, 200, .inr (.inl (lNf pu)))), (q, .inr (1, [.ref qm, .ref qp, .int (nI nn)])), (qm, .inl (cI, 200, .inl (nIf me))), (qp, .inl (cI, 200, .inl (oIf pl))), (r, .inr (1, [.ref rm, .ref rp, .int (nI n2)])), (rm, .inl (cI, 200, .inl (nIf me2))), (rp, .inl (cI, 200, .inl (oIf pl2)))]) (vp_Si (fun r_ => r_ = oI (bestF fs pu pl2 me nn))) 0 0 (fun _ => False) := by
  refine startR (cc := cX0_mostPulled) (maxL := 6) (ret := (some .int)) (by decide) rfl (Nat.le_of_ble_eq_true rfl) ?_
  intro p e s m below meth c ls hx hb hr hml hown hts hlocks hE hP hl
  have hl : lv_has ls 6 [(0, .ref h), (1, .ref q), (2, .ref r)] := hl
  refine lv_iconst (v := -1) hx hb dX0_mostPulled_0 (by decide) ?_
  refine lv_istore_n (lv' := [(3, .int (-1)), (0, .ref h), (1, .ref q), (2, .ref r)]) hx hb dX0_mostPulled_1 rfl hl (by decide) rfl (fun ls hl => ?_)
  refine lv_iconst (v := nI 0) hx hb dX0_mostPulled_2 (by decide) ?_
  refine lv_istore (lv' := [(4, .int (nI 0)), (3, .int (-1)), (0, .ref h), (1, .ref q), (2, .ref r)]) hx hb dX0_mostPulled_3 hl (by decide) rfl (fun ls hl => ?_)
  have hl : lv_has ls 6 [(4, .int (nI 0)), (3, .int (oI (bestF fs pu pl2 me 0))), (0, .ref h), (1, .ref q), (2, .ref r)] := hl
  refine r_loopR (σ := Nat) (fun z0 => nn - z0) (fun z0 ls => (z0 ≤ nn ∧ ∀ c, bestF fs pu pl2 me z0 = some c → c < 200 ∧ pu c < 2 ^ 63) ∧ lv_has ls 6 [(0, .ref h), (1, .ref q), (2, .ref r), (3, .int (oI (bestF fs pu pl2 me z0))), (4, .int (nI z0))]) ?_ 0 ⟨⟨Nat.zero_le _, fun c hc => by cases hc⟩, lv_sub hl [2, 3, 4, 1, 0] rfl⟩
  rintro k ls ⟨hi_5, hl⟩ ih_5
  have hi_5 : k ≤ nn ∧ ∀ c, bestF fs pu pl2 me k = some c → c < 200 ∧ pu c < 2 ^ 63 := hi_5
  have hl : lv_has ls 6 [(0, .ref h), (1, .ref q), (2, .ref r), (3, .int (oI (bestF fs pu pl2 me k))), (4, .int (nI k))] := hl
  obtain ⟨hi_a, hi_b⟩ := id hi_5
  refine lv_iload hx hb dX0_mostPulled_5 (lv_at hl 4 rfl) ?_
  refine lv_aload_n hx hb dX0_mostPulled_7 rfl (lv_at hl 1 rfl) ?_
  refine va_getN (D := D) (ci := 1) (v := .int (nI nn)) (C := RX1) (T := TX1) (N := 3) hx hb hts in_X0_mostPulled_X1 hown hE.1 hP 4 rfl rfl 2 (by decide) (va_Nw.use rfl hE.2.2.1.1) (fun _ h9 => h9) rfl dX0_mostPulled_8 ?_
  refine r_icmp_ge (tgt := 68) hx hb (x := k) (y := nn) (by omega) (by omega) dX0_mostPulled_11 (by decide) (fun c_11 => ?_) (fun c_11 => ?_)
  · skip
    refine lv_iload_n hx hb dX0_mostPulled_68 rfl (lv_at hl 3 rfl) ?_
    exact e_i hx hb hr hlocks dX0_mostPulled_69 (by rw [show k = nn by omega])
  · skip
    have b1 := hme k c_11
    obtain ⟨d, hd⟩ := b1.2
    have hd200 := hfs _ _ hd
    refine lv_aload_n hx hb dX0_mostPulled_14 rfl (lv_at hl 1 rfl) ?_
    refine lv_iload hx hb dX0_mostPulled_15 (lv_at hl 4 rfl) ?_
    refine callRi (As := [.int (nI k)]) (rest := []) ⟨hx, hb, hml, hown, hts⟩ (c_blockAt l D cI cJ cZ q qm qp nn me pl hnn (nI k)) (cwV 1 hts gX0_mostPulled_X1_blockAt rfl rfl rfl (by decide +kernel) ⟨Nat.le_of_ble_eq_true rfl, Nat.le_of_ble_eq_true rfl⟩) (preR hE hP 1 4 rfl rfl rfl [4, 5, 6] rfl) rfl hl.1 (Nat.le_of_ble_eq_true rfl) dX0_mostPulled_17 ⟨Nat.zero_le _, Nat.zero_le _⟩ rfl (fun r1 hr1 => ?_)
    have e1 : r1 = nI (me k) := by
      rcases hr1 with ⟨-, h9⟩ | ⟨j, hj, e9, h9⟩
      · exact absurd rfl (h9 k c_11)
      · rw [h9, nI_inj (by omega) (by omega) e9]
    subst e1
    refine lv_istore (lv' := [(5, .int (nI (me k))), (0, .ref h), (1, .ref q), (2, .ref r), (3, .int (oI (bestF fs pu pl2 me k))), (4, .int (nI k))]) hx hb dX0_mostPulled_20 hl (by decide) rfl (fun ls hl => ?_)
    refine lv_aload_n hx hb dX0_mostPulled_22 rfl (lv_at hl 3 rfl) ?_
    refine lv_iload hx hb dX0_mostPulled_23 (lv_at hl 0 rfl) ?_
    refine callRi (As := [.int (nI (me k))]) (rest := []) ⟨hx, hb, hml, hown, hts⟩ (c_holds l D cI cJ cZ r rm rp n2 me2 pl2 hpl2 (me k) b1.1) (cwV 1 hts gX0_mostPulled_X1_holds rfl rfl rfl (by decide +kernel) ⟨Nat.le_of_ble_eq_true rfl, Nat.le_of_ble_eq_true rfl⟩) (preR hE hP 1 7 rfl rfl rfl [7, 8, 9] rfl) rfl hl.1 (Nat.le_of_ble_eq_true rfl) dX0_mostPulled_25 ⟨Nat.zero_le _, Nat.zero_le _⟩ rfl (fun r2 hr2 => ?_)
    subst hr2
    refine r_b_ne (tgt := 62) hx hb dX0_mostPulled_28 (by decide) (fun c_28 => ?_) (fun c_28 => ?_)
    · skip
      have hbe : bestF fs pu pl2 me (k + 1) = (bestF fs pu pl2 me k) := by simp [bestF, c_28]
      have hl : lv_has ls 6 [(5, .int (nI (me k))), (0, .ref h), (1, .ref q), (2, .ref r), (3, .int (oI (bestF fs pu pl2 me (k + 1)))), (4, .int (nI k))] := by rw [hbe]; exact hl
      refine lv_iinc (v := (nI (k + 1))) (lv' := [(4, .int (nI (k + 1))), (5, .int (nI (me k))), (0, .ref h), (1, .ref q), (2, .ref r), (3, .int (oI (bestF fs pu pl2 me (k + 1))))]) hx hb dX0_mostPulled_62 hl (k := 5) rfl (nI_1 _) (by decide) rfl (fun ls hl => ?_)
      refine lv_goto (tgt := 5) hx hb dX0_mostPulled_65 (by decide) ?_
      exact ih_5 (k + 1) _ ⟨(show (k + 1) ≤ nn ∧ ∀ c, bestF fs pu pl2 me ((k + 1)) = some c → c < 200 ∧ pu c < 2 ^ 63 from ⟨by omega, best_bd hi_b (fun z d hd => ⟨hfs _ _ hd, hpu k (by omega) z d hd⟩)⟩), lv_sub hl [2, 3, 4, 5, 0] rfl⟩ (by show nn - (k + 1) < nn - k; omega)
    · skip
      have hz : pl2 (me k) = none := nn_of c_28
      refine lv_iload_n hx hb dX0_mostPulled_31 rfl (lv_at hl 4 rfl) ?_
      refine lv_iconst (v := -1) hx hb dX0_mostPulled_32 (by decide) ?_
      refine r_o_eq (tgt := 55) hx hb (o := bestF fs pu pl2 me k) (q := none) rfl rfl (fun j hj => by have := (hi_b j hj).1; omega) (fun j h => by cases h) dX0_mostPulled_33 (by decide) (fun c_33 => ?_) (fun c_33 => ?_)
      · skip
        refine lv_aload_n hx hb dX0_mostPulled_55 rfl (lv_at hl 1 rfl) ?_
        refine lv_iload hx hb dX0_mostPulled_56 (lv_at hl 0 rfl) ?_
        refine callRi (As := [.int (nI (me k))]) (rest := []) ⟨hx, hb, hml, hown, hts⟩ (c_firstOf l D cI cJ cZ h cf cn cp fs nx pu (me k) b1.1) (cwV 1 hts gX0_mostPulled_X0_firstOf rfl rfl rfl (by decide +kernel) ⟨Nat.le_of_ble_eq_true rfl, Nat.le_of_ble_eq_true rfl⟩) (preR hE hP 0 0 rfl rfl rfl [0, 1, 2, 3] rfl) rfl hl.1 (Nat.le_of_ble_eq_true rfl) dX0_mostPulled_58 ⟨Nat.zero_le _, Nat.zero_le _⟩ rfl (fun r_58 hr_58 => ?_)
        subst hr_58
        refine lv_istore_n (lv' := [(3, .int (oI (fs (me k)))), (5, .int (nI (me k))), (0, .ref h), (1, .ref q), (2, .ref r), (4, .int (nI k))]) hx hb dX0_mostPulled_61 rfl hl (by decide) rfl (fun ls hl => ?_)
        have hbe : bestF fs pu pl2 me (k + 1) = (fs (me k)) := by simp [bestF, c_33, hz]
        have hl : lv_has ls 6 [(3, .int (oI (bestF fs pu pl2 me (k + 1)))), (5, .int (nI (me k))), (0, .ref h), (1, .ref q), (2, .ref r), (4, .int (nI k))] := by rw [hbe]; exact hl
        refine lv_iinc (v := (nI (k + 1))) (lv' := [(4, .int (nI (k + 1))), (3, .int (oI (bestF fs pu pl2 me (k + 1)))), (5, .int (nI (me k))), (0, .ref h), (1, .ref q), (2, .ref r)]) hx hb dX0_mostPulled_62 hl (k := 5) rfl (nI_1 _) (by decide) rfl (fun ls hl => ?_)
        refine lv_goto (tgt := 5) hx hb dX0_mostPulled_65 (by decide) ?_
        exact ih_5 (k + 1) _ ⟨(show (k + 1) ≤ nn ∧ ∀ c, bestF fs pu pl2 me ((k + 1)) = some c → c < 200 ∧ pu c < 2 ^ 63 from ⟨by omega, best_bd hi_b (fun z d hd => ⟨hfs _ _ hd, hpu k (by omega) z d hd⟩)⟩), lv_sub hl [3, 4, 5, 1, 0] rfl⟩ (by show nn - (k + 1) < nn - k; omega)
      · skip
        obtain ⟨o, ho⟩ := Option.ne_none_iff_exists'.mp c_33
        obtain ⟨hb1, hb2⟩ := hi_b o ho
        have hb3 := hpu k c_11 hz d hd
        rw [ho] at hl
        have hl : lv_has ls 6 [(5, .int (nI (me k))), (0, .ref h), (1, .ref q), (2, .ref r), (3, .int (nI o)), (4, .int (nI k))] := hl
        refine lv_aload_n hx hb dX0_mostPulled_36 rfl (lv_at hl 1 rfl) ?_
        refine lv_aload_n hx hb dX0_mostPulled_37 rfl (lv_at hl 1 rfl) ?_
        refine lv_iload hx hb dX0_mostPulled_38 (lv_at hl 0 rfl) ?_
        refine callRi (As := [.int (nI (me k))]) (rest := [.ref h]) ⟨hx, hb, hml, hown, hts⟩ (c_firstOf l D cI cJ cZ h cf cn cp fs nx pu (me k) b1.1) (cwV 1 hts gX0_mostPulled_X0_firstOf rfl rfl rfl (by decide +kernel) ⟨Nat.le_of_ble_eq_true rfl, Nat.le_of_ble_eq_true rfl⟩) (preR hE hP 0 0 rfl rfl rfl [0, 1, 2, 3] rfl) rfl hl.1 (Nat.le_of_ble_eq_true rfl) dX0_mostPulled_40 ⟨Nat.zero_le _, Nat.zero_le _⟩ rfl (fun r_40 hr_40 => ?_)
        subst hr_40
        refine r_as (w := .int (nI d)) (by rw [hd]; rfl) ?_
        refine callRl (As := [.int (nI d)]) (rest := []) ⟨hx, hb, hml, hown, hts⟩ (c_pullOf l D cI cJ cZ h cf cn cp fs nx pu d hd200) (cwV 1 hts gX0_mostPulled_X0_pullOf rfl rfl rfl (by decide +kernel) ⟨Nat.le_of_ble_eq_true rfl, Nat.le_of_ble_eq_true rfl⟩) (preR hE hP 0 0 rfl rfl rfl [0, 1, 2, 3] rfl) rfl hl.1 (Nat.le_of_ble_eq_true rfl) dX0_mostPulled_43 ⟨Nat.zero_le _, Nat.zero_le _⟩ rfl (fun r_43 hr_43 => ?_)
        subst hr_43
        refine lv_aload_n hx hb dX0_mostPulled_46 rfl (lv_at hl 1 rfl) ?_
        refine lv_iload_n hx hb dX0_mostPulled_47 rfl (lv_at hl 4 rfl) ?_
        refine callRl (As := [.int (nI o)]) (rest := [.long (lN (pu d))]) ⟨hx, hb, hml, hown, hts⟩ (c_pullOf l D cI cJ cZ h cf cn cp fs nx pu o hb1) (cwV 1 hts gX0_mostPulled_X0_pullOf rfl rfl rfl (by decide +kernel) ⟨Nat.le_of_ble_eq_true rfl, Nat.le_of_ble_eq_true rfl⟩) (preR hE hP 0 0 rfl rfl rfl [0, 1, 2, 3] rfl) rfl hl.1 (Nat.le_of_ble_eq_true rfl) dX0_mostPulled_48 ⟨Nat.zero_le _, Nat.zero_le _⟩ rfl (fun r_48 hr_48 => ?_)
        subst hr_48
        refine r_l_le (tgt := 62) hx hb (x := pu d) (y := pu o) (by omega) (by omega) dX0_mostPulled_51 dX0_mostPulled_52 (by decide) (fun c_51 => ?_) (fun c_51 => ?_)
        · skip
          have hbe : bestF fs pu pl2 me (k + 1) = some o := by simp [bestF, hz, ho, hd]; omega
          have hl : lv_has ls 6 [(5, .int (nI (me k))), (0, .ref h), (1, .ref q), (2, .ref r), (3, .int (oI (bestF fs pu pl2 me (k + 1)))), (4, .int (nI k))] := by rw [hbe]; exact hl
          refine lv_iinc (v := (nI (k + 1))) (lv' := [(4, .int (nI (k + 1))), (5, .int (nI (me k))), (0, .ref h), (1, .ref q), (2, .ref r), (3, .int (oI (bestF fs pu pl2 me (k + 1))))]) hx hb dX0_mostPulled_62 hl (k := 5) rfl (nI_1 _) (by decide) rfl (fun ls hl => ?_)
          refine lv_goto (tgt := 5) hx hb dX0_mostPulled_65 (by decide) ?_
          exact ih_5 (k + 1) _ ⟨(show (k + 1) ≤ nn ∧ ∀ c, bestF fs pu pl2 me ((k + 1)) = some c → c < 200 ∧ pu c < 2 ^ 63 from ⟨by omega, best_bd hi_b (fun z d hd => ⟨hfs _ _ hd, hpu k (by omega) z d hd⟩)⟩), lv_sub hl [2, 3, 4, 5, 0] rfl⟩ (by show nn - (k + 1) < nn - k; omega)
        · skip
          refine lv_aload_n hx hb dX0_mostPulled_55 rfl (lv_at hl 1 rfl) ?_
          refine lv_iload hx hb dX0_mostPulled_56 (lv_at hl 0 rfl) ?_
          refine callRi (As := [.int (nI (me k))]) (rest := []) ⟨hx, hb, hml, hown, hts⟩ (c_firstOf l D cI cJ cZ h cf cn cp fs nx pu (me k) b1.1) (cwV 1 hts gX0_mostPulled_X0_firstOf rfl rfl rfl (by decide +kernel) ⟨Nat.le_of_ble_eq_true rfl, Nat.le_of_ble_eq_true rfl⟩) (preR hE hP 0 0 rfl rfl rfl [0, 1, 2, 3] rfl) rfl hl.1 (Nat.le_of_ble_eq_true rfl) dX0_mostPulled_58 ⟨Nat.zero_le _, Nat.zero_le _⟩ rfl (fun r_58 hr_58 => ?_)
          subst hr_58
          refine lv_istore_n (lv' := [(3, .int (oI (fs (me k)))), (5, .int (nI (me k))), (0, .ref h), (1, .ref q), (2, .ref r), (4, .int (nI k))]) hx hb dX0_mostPulled_61 rfl hl (by decide) rfl (fun ls hl => ?_)
          have hbe : bestF fs pu pl2 me (k + 1) = (fs (me k)) := by simp [bestF, hz, ho, hd]; omega
          have hl : lv_has ls 6 [(3, .int (oI (bestF fs pu pl2 me (k + 1)))), (5, .int (nI (me k))), (0, .ref h), (1, .ref q), (2, .ref r), (4, .int (nI k))] := by rw [hbe]; exact hl
          refine lv_iinc (v := (nI (k + 1))) (lv' := [(4, .int (nI (k + 1))), (3, .int (oI (bestF fs pu pl2 me (k + 1)))), (5, .int (nI (me k))), (0, .ref h), (1, .ref q), (2, .ref r)]) hx hb dX0_mostPulled_62 hl (k := 5) rfl (nI_1 _) (by decide) rfl (fun ls hl => ?_)
          refine lv_goto (tgt := 5) hx hb dX0_mostPulled_65 (by decide) ?_
          exact ih_5 (k + 1) _ ⟨(show (k + 1) ≤ nn ∧ ∀ c, bestF fs pu pl2 me ((k + 1)) = some c → c < 200 ∧ pu c < 2 ^ 63 from ⟨by omega, best_bd hi_b (fun z d hd => ⟨hfs _ _ hd, hpu k (by omega) z d hd⟩)⟩), lv_sub hl [3, 4, 5, 1, 0] rfl⟩ (by show nn - (k + 1) < nn - k; omega)

theorem fl_X0_appendChain_15 : Cond.fieldLink RX0 15 "BlockRows$Chains" "next" "[I" ∈ wsX0_appendChain := by decide +kernel
theorem in_X0_appendChain_X0 : ∀ w ∈ wsX00, w ∈ wsX0_appendChain := by decide +kernel
theorem wd_X0_appendChain_ini3 : Cond.initialized RX3 ∈ wsX0_appendChain := by decide +kernel
theorem wd_X0_appendChain_stF : Cond.static yX3_fitsRows ∈ wsX0_appendChain := by decide +kernel
set_option maxHeartbeats 4000000 in
set_option maxRecDepth 100000 in
/-- Chains.appendChain -/
theorem c_appendChain (l : Launch) (D : va_G) (cI cJ cZ : ClassId) (h cf cn cp : Nat) (fs nx : Nat → Option Nat) (pu : Nat → Nat) (r rm rp n2 : Nat) (me2 : Nat → Nat) (pl2 : Nat → Option Nat) (T : Nat → List Nat) (hR : CR T fs nx) (P : List Nat) (hLR : LR P n2 me2 pl2) (sz c0 : Nat) (htc : T c0 ≠ []) (hdj : ∀ b, b ∈ T c0 → b ∉ P) (hroom : P.length + (T c0).length ≤ 200) : Met l yX0_appendChain wsX0_appendChain ({ frames := 2, cells := 0, slots := 0, locals := 41 }) (PcM D cI cJ cZ [.ref h, .int (nI c0), .ref r] [(h, .inr (0, [.ref cf, .ref cn, .ref cp])), (cf, .inl (cI, 200, .inl (oIf fs))), (cn, .inl (cI, 200, .inl (oIf nx))), (cp, .inl (cJ, 200, .inr (.inl (lNf pu)))), (r, .inr (1, [.ref rm, .ref rp, .int (nI n2)])), (rm, .inl (cI, 200, .inl (nIf me2))), (rp, .inl (cI, 200, .inl (oIf pl2)))] sz) (va_Qv (fun z : Nat × (Nat → Nat) × (Nat → Option Nat) => LR (P ++ T c0) z.1 z.2.1 z.2.2) (Bm D [(h, .inr (0, [.ref cf, .ref cn, .ref cp])), (cf, .inl (cI, 200, .inl (oIf fs))), (cn, .inl (cI, 200, .inl (oIf nx))), (cp, .inl (cJ, 200, .inr (.inl (lNf pu)))), (r, .inr (1, [.ref rm, .ref rp, .int (nI n2)])), (rm, .inl (cI, 200, .inl (nIf me2))), (rp, .inl (cI, 200, .inl (oIf pl2)))] sz (fun z : Nat × (Nat → Nat) × (Nat → Option Nat) => [(h, .inr (0, [.ref cf, .ref cn, .ref cp])), (cf, .inl (cI, 200, .inl (oIf fs))), (cn, .inl (cI, 200, .inl (oIf nx))), (cp, .inl (cJ, 200, .inr (.inl (lNf pu)))), (r, .inr (1, [.ref rm, .ref rp, .int (nI z.1)])), (rm, .inl (cI, 200, .inl (nIf z.2.1))), (rp, .inl (cI, 200, .inl (oIf z.2.2)))])) (va_A [(h, .inr (0, [.ref cf, .ref cn, .ref cp])), (cf, .inl (cI, 200, .inl (oIf fs))), (cn, .inl (cI, 200, .inl (oIf nx))), (cp, .inl (cJ, 200, .inr (.inl (lNf pu)))), (r, .inr (1, [.ref rm, .ref rp, .int (nI n2)])), (rm, .inl (cI, 200, .inl (nIf me2))), (rp, .inl (cI, 200, .inl (oIf pl2)))] sz)) 0 0 (va_A [(h, .inr (0, [.ref cf, .ref cn, .ref cp])), (cf, .inl (cI, 200, .inl (oIf fs))), (cn, .inl (cI, 200, .inl (oIf nx))), (cp, .inl (cJ, 200, .inr (.inl (lNf pu)))), (r, .inr (1, [.ref rm, .ref rp, .int (nI n2)])), (rm, .inl (cI, 200, .inl (nIf me2))), (rp, .inl (cI, 200, .inl (oIf pl2)))] sz) := by
  refine startM (cc := cX0_appendChain) (maxL := 5) (ret := none) (by decide) rfl (Nat.le_of_ble_eq_true rfl) ?_
  intro p e s m below meth c ls A hA hAe hx hb hr hml hown hts hlocks hin hE hP hD hS hl
  have hl : lv_has ls 5 [(0, .ref h), (1, .int (nI c0)), (2, .ref r)] := hl
  refine lv_iload_n hx hb dX0_appendChain_0 rfl (lv_at hl 1 rfl) ?_
  refine lv_istore_n (lv' := [(3, .int (nI c0)), (0, .ref h), (1, .int (nI c0)), (2, .ref r)]) hx hb dX0_appendChain_1 rfl hl (by decide) rfl (fun ls hl => ?_)
  refine lv_iconst (v := nI 0) hx hb dX0_appendChain_2 (by decide) ?_
  refine lv_istore (lv' := [(4, .int (nI 0)), (3, .int (nI c0)), (0, .ref h), (1, .int (nI c0)), (2, .ref r)]) hx hb dX0_appendChain_3 hl (by decide) rfl (fun ls hl => ?_)
  have hl : lv_has ls 5 [(4, .int (nI 0)), (3, .int (oI ((T c0)[0]?))), (0, .ref h), (1, .int (nI c0)), (2, .ref r)] := by rw [T_head hR htc]; exact hl
  refine r_loop (σ := Nat × Nat × (Nat → Nat) × (Nat → Option Nat)) (fun z0 => 200 - z0.1) (fun z0 H locs ls => (z0.1 ≤ (T c0).length ∧ LR (P ++ (T c0).take z0.1) z0.2.1 z0.2.2.1 z0.2.2.2) ∧ va_P D vwCl [(h, .inr (0, [.ref cf, .ref cn, .ref cp])), (cf, .inl (cI, 200, .inl (oIf fs))), (cn, .inl (cI, 200, .inl (oIf nx))), (cp, .inl (cJ, 200, .inr (.inl (lNf pu)))), (r, .inr (1, [.ref rm, .ref rp, .int (nI z0.2.1)])), (rm, .inl (cI, 200, .inl (nIf z0.2.2.1))), (rp, .inl (cI, 200, .inl (oIf z0.2.2.2)))] H ∧ va_D A [(h, .inr (0, [.ref cf, .ref cn, .ref cp])), (cf, .inl (cI, 200, .inl (oIf fs))), (cn, .inl (cI, 200, .inl (oIf nx))), (cp, .inl (cJ, 200, .inr (.inl (lNf pu)))), (r, .inr (1, [.ref rm, .ref rp, .int (nI z0.2.1)])), (rm, .inl (cI, 200, .inl (nIf z0.2.2.1))), (rp, .inl (cI, 200, .inl (oIf z0.2.2.2)))] ∧ va_S A s.heap H locs ∧ lv_has ls 5 [(0, .ref h), (2, .ref r), (3, .int (oI ((T c0)[z0.1]?))), (4, .int (nI z0.1))]) ?_ (0, n2, me2, pl2) ⟨⟨Nat.zero_le _, by simpa using hLR⟩, hP.sub [0, 1, 2, 3, 4, 5, 6] rfl, hD.sub [0, 1, 2, 3, 4, 5, 6] (by decide) rfl, hS, lv_sub hl [2, 4, 1, 0] rfl⟩
  rintro ⟨i, n3, me3, pl3⟩ H locs ls ⟨hi_5, hP, hD, hS, hl⟩ ih_5
  have hi_5 : i ≤ (T c0).length ∧ LR (P ++ (T c0).take i) n3 me3 pl3 := hi_5
  have hP : va_P D vwCl [(h, .inr (0, [.ref cf, .ref cn, .ref cp])), (cf, .inl (cI, 200, .inl (oIf fs))), (cn, .inl (cI, 200, .inl (oIf nx))), (cp, .inl (cJ, 200, .inr (.inl (lNf pu)))), (r, .inr (1, [.ref rm, .ref rp, .int (nI n3)])), (rm, .inl (cI, 200, .inl (nIf me3))), (rp, .inl (cI, 200, .inl (oIf pl3)))] H := hP
  have hD : va_D A [(h, .inr (0, [.ref cf, .ref cn, .ref cp])), (cf, .inl (cI, 200, .inl (oIf fs))), (cn, .inl (cI, 200, .inl (oIf nx))), (cp, .inl (cJ, 200, .inr (.inl (lNf pu)))), (r, .inr (1, [.ref rm, .ref rp, .int (nI n3)])), (rm, .inl (cI, 200, .inl (nIf me3))), (rp, .inl (cI, 200, .inl (oIf pl3)))] := hD
  have hl : lv_has ls 5 [(0, .ref h), (2, .ref r), (3, .int (oI ((T c0)[i]?))), (4, .int (nI i))] := hl
  have hlen := T_len hR c0
  have hn3 := LR_n hi_5.2 hi_5.1
  have hob : ∀ j, (T c0)[i]? = some j → j < 200 := fun j hj => T_lt hR hj
  refine lv_iload hx hb dX0_appendChain_5 (lv_at hl 3 rfl) ?_
  refine lv_sipush (v := nI 200) hx hb dX0_appendChain_7 (by decide) ?_
  refine r_icmp_ge (tgt := 38) hx hb (x := i) (y := 200) (by omega) (by omega) dX0_appendChain_10 (by decide) (fun c_10 => ?_) (fun c_10 => ?_)
  · skip
    exact e_mv (n3, me3, pl3) hAe hx hb hr hlocks dX0_appendChain_38 (hP.sub [0, 1, 2, 3, 4, 5, 6] rfl) (hD.sub [0, 1, 2, 3, 4, 5, 6] (by decide) rfl) hS (by have h9 := hi_5.2; rw [List.take_of_length_le (by omega)] at h9; exact h9)
  · skip
    refine lv_iload_n hx hb dX0_appendChain_13 rfl (lv_at hl 2 rfl) ?_
    refine callRSi (As := [.int (oI ((T c0)[i]?))]) (rest := []) ⟨hx, hb, hml, hown, hts⟩ (c_fits l D cI cJ cZ ((T c0)[i]?) hob) ⟨va_cnB 1 hts gX0_appendChain_X3_fitsRows_n34 rfl rfl rfl hE.2.2.1.2.2.2 (hts _ wd_X0_appendChain_ini3) (by decide +kernel) ⟨Nat.le_of_ble_eq_true rfl, Nat.le_of_ble_eq_true rfl⟩, hts _ wd_X0_appendChain_stF, trivial⟩ (preRS hE hP) rfl hl.1 (Nat.le_of_ble_eq_true rfl) dX0_appendChain_14 ⟨Nat.zero_le _, Nat.zero_le _⟩ rfl (fun rF hrF => ?_)
    subst hrF
    refine r_b_eq (tgt := 38) hx hb dX0_appendChain_17 (by decide) (fun c_17 => ?_) (fun c_17 => ?_)
    · skip
      exact e_mv (n3, me3, pl3) hAe hx hb hr hlocks dX0_appendChain_38 (hP.sub [0, 1, 2, 3, 4, 5, 6] rfl) (hD.sub [0, 1, 2, 3, 4, 5, 6] (by decide) rfl) hS (by have h9 := hi_5.2; rw [List.take_of_length_le (ix_ge (nn_of c_17))] at h9; exact h9)
    · skip
      obtain ⟨b, hb3⟩ := sm_of c_17
      have hb200 := hob b hb3
      have hil := ix_lt hb3
      rw [hb3] at hl
      have hl : lv_has ls 5 [(0, .ref h), (2, .ref r), (3, .int (nI b)), (4, .int (nI i))] := hl
      refine lv_aload_n hx hb dX0_appendChain_20 rfl (lv_at hl 1 rfl) ?_
      refine lv_iload_n hx hb dX0_appendChain_21 rfl (lv_at hl 2 rfl) ?_
      refine callMv (As := [.int (nI b)]) (rest := []) (wr := [(h, .inr (0, [.ref cf, .ref cn, .ref cp])), (cf, .inl (cI, 200, .inl (oIf fs))), (cn, .inl (cI, 200, .inl (oIf nx))), (cp, .inl (cJ, 200, .inr (.inl (lNf pu))))]) ⟨hx, hb, hml, hown, hts⟩ (c_append l D cI cJ cZ r rm rp n3 me3 pl3 _ b (by omega) hb200) (cwV 1 hts gX0_appendChain_X1_append rfl rfl rfl (by decide +kernel) ⟨Nat.le_of_ble_eq_true rfl, Nat.le_of_ble_eq_true rfl⟩) (preM hE hP hD 1 4 rfl rfl rfl [4, 5, 6] rfl rfl rfl) rfl hl.1 (Nat.le_of_ble_eq_true rfl) dX0_appendChain_22 ⟨Nat.zero_le _, Nat.zero_le _⟩ rfl hP hD hS hA [4, 5, 6] [0, 1, 2, 3] rfl rfl (by decide) (by decide) (fun u_ H locs hu hP hD hS => ?_)
      have hP : va_P D vwCl [(h, .inr (0, [.ref cf, .ref cn, .ref cp])), (cf, .inl (cI, 200, .inl (oIf fs))), (cn, .inl (cI, 200, .inl (oIf nx))), (cp, .inl (cJ, 200, .inr (.inl (lNf pu)))), (r, .inr (1, [.ref rm, .ref rp, .int (nI (n3 + 1))])), (rm, .inl (cI, 200, .inl (nIf (va_up me3 n3 b)))), (rp, .inl (cI, 200, .inl (oIf (va_up pl3 b (some n3)))))] H := hP
      have hD : va_D A [(h, .inr (0, [.ref cf, .ref cn, .ref cp])), (cf, .inl (cI, 200, .inl (oIf fs))), (cn, .inl (cI, 200, .inl (oIf nx))), (cp, .inl (cJ, 200, .inr (.inl (lNf pu)))), (r, .inr (1, [.ref rm, .ref rp, .int (nI (n3 + 1))])), (rm, .inl (cI, 200, .inl (nIf (va_up me3 n3 b)))), (rp, .inl (cI, 200, .inl (oIf (va_up pl3 b (some n3)))))] := hD
      refine lv_aload_n hx hb dX0_appendChain_25 rfl (lv_at hl 0 rfl) ?_
      refine va_get (D := D) (ci := 0) (v := .ref cn) (C := RX0) (T := TX0) (N := 3) hx hb hts in_X0_appendChain_X0 hown hE.1 hP 0 rfl rfl 1 (by decide) (hts _ fl_X0_appendChain_15) (fun _ h9 => h9) rfl dX0_appendChain_26 ?_
      refine lv_iload_n hx hb dX0_appendChain_29 rfl (lv_at hl 2 rfl) ?_
      refine r_old hx hb hE hP 2 rfl (k := b) (by omega) (by decide) dX0_appendChain_30 ?_
      refine r_as (w := .int (oI (T c0)[i + 1]?)) (by rw [hR.2.2 c0 i b hb3]) ?_
      refine lv_istore_n (lv' := [(3, .int (oI ((T c0)[i + 1]?))), (0, .ref h), (2, .ref r), (4, .int (nI i))]) hx hb dX0_appendChain_31 rfl hl (by decide) rfl (fun ls hl => ?_)
      refine lv_iinc (v := (nI (i + 1))) (lv' := [(4, .int (nI (i + 1))), (3, .int (oI ((T c0)[i + 1]?))), (0, .ref h), (2, .ref r)]) hx hb dX0_appendChain_32 hl (k := 3) rfl (nI_1 _) (by decide) rfl (fun ls hl => ?_)
      refine lv_goto (tgt := 5) hx hb dX0_appendChain_35 (by decide) ?_
      exact ih_5 (i + 1, n3 + 1, va_up me3 n3 b, va_up pl3 b (some n3)) _ _ _ ⟨(show (i + 1) ≤ (T c0).length ∧ LR (P ++ (T c0).take ((i + 1))) (n3 + 1) (va_up me3 n3 b) (va_up pl3 b (some n3)) from ⟨ix_lt hb3, LR_take hi_5.2 hb3 (hR.1.1.2.2.2 c0) hdj⟩), hP.sub [0, 1, 2, 3, 4, 5, 6] rfl, hD.sub [0, 1, 2, 3, 4, 5, 6] (by decide) rfl, hS, lv_sub hl [2, 3, 1, 0] rfl⟩ (by show 200 - (i + 1) < 200 - i; omega)

theorem fl_X0_pullTowards_18 : Cond.fieldLink RX0 18 "BlockRows$Chains" "pulls" "[J" ∈ wsX0_pullTowards := by decide +kernel
theorem in_X0_pullTowards_X0 : ∀ w ∈ wsX00, w ∈ wsX0_pullTowards := by decide +kernel
theorem in_X0_pullTowards_X2 : ∀ w ∈ wsX20, w ∈ wsX0_pullTowards := by decide +kernel
theorem wd_X0_pullTowards_ini3 : Cond.initialized RX3 ∈ wsX0_pullTowards := by decide +kernel
theorem wd_X0_pullTowards_stF : Cond.static yX3_fitsRows ∈ wsX0_pullTowards := by decide +kernel
set_option maxHeartbeats 4000000 in
set_option maxRecDepth 100000 in
/-- Chains.pullTowards -/
theorem c_pullTowards (l : Launch) (D : va_G) (cI cJ cZ : ClassId) (h cf cn cp : Nat) (fs nx : Nat → Option Nat) (pu : Nat → Nat) (q qf qt qc ql kn : Nat) (fr tt ct : Nat → Nat) (fa : Nat → Bool) (hkn : kn ≤ 1000) (hB : WB fr tt ct) (hfs : ∀ i j, fs i = some j → j < 200) (sz c0 : Nat) (hc0 : c0 < 200) : Met l yX0_pullTowards wsX0_pullTowards ({ frames := 2, cells := 0, slots := 0, locals := 41 }) (PcM D cI cJ cZ [.ref h, .int (nI c0), .ref q] [(h, .inr (0, [.ref cf, .ref cn, .ref cp])), (cf, .inl (cI, 200, .inl (oIf fs))), (cn, .inl (cI, 200, .inl (oIf nx))), (cp, .inl (cJ, 200, .inr (.inl (lNf pu)))), (q, .inr (2, [.ref qf, .ref qt, .ref qc, .ref ql, .int (nI kn)])), (qf, .inl (cI, 1000, .inl (nIf fr))), (qt, .inl (cI, 1000, .inl (nIf tt))), (qc, .inl (cJ, 1000, .inr (.inl (lNf ct)))), (ql, .inl (cZ, 1000, .inl (bIf fa)))] sz) (va_Qv (fun _ : Unit => True) (Bm D [(h, .inr (0, [.ref cf, .ref cn, .ref cp])), (cf, .inl (cI, 200, .inl (oIf fs))), (cn, .inl (cI, 200, .inl (oIf nx))), (cp, .inl (cJ, 200, .inr (.inl (lNf pu)))), (q, .inr (2, [.ref qf, .ref qt, .ref qc, .ref ql, .int (nI kn)])), (qf, .inl (cI, 1000, .inl (nIf fr))), (qt, .inl (cI, 1000, .inl (nIf tt))), (qc, .inl (cJ, 1000, .inr (.inl (lNf ct)))), (ql, .inl (cZ, 1000, .inl (bIf fa)))] sz (fun _ : Unit => [(h, .inr (0, [.ref cf, .ref cn, .ref cp])), (cf, .inl (cI, 200, .inl (oIf fs))), (cn, .inl (cI, 200, .inl (oIf nx))), (cp, .inl (cJ, 200, .inr (.inl (lNf (plF fs c0 fr tt ct pu kn))))), (q, .inr (2, [.ref qf, .ref qt, .ref qc, .ref ql, .int (nI kn)])), (qf, .inl (cI, 1000, .inl (nIf fr))), (qt, .inl (cI, 1000, .inl (nIf tt))), (qc, .inl (cJ, 1000, .inr (.inl (lNf ct)))), (ql, .inl (cZ, 1000, .inl (bIf fa)))])) (va_A [(h, .inr (0, [.ref cf, .ref cn, .ref cp])), (cf, .inl (cI, 200, .inl (oIf fs))), (cn, .inl (cI, 200, .inl (oIf nx))), (cp, .inl (cJ, 200, .inr (.inl (lNf pu)))), (q, .inr (2, [.ref qf, .ref qt, .ref qc, .ref ql, .int (nI kn)])), (qf, .inl (cI, 1000, .inl (nIf fr))), (qt, .inl (cI, 1000, .inl (nIf tt))), (qc, .inl (cJ, 1000, .inr (.inl (lNf ct)))), (ql, .inl (cZ, 1000, .inl (bIf fa)))] sz)) 0 0 (va_A [(h, .inr (0, [.ref cf, .ref cn, .ref cp])), (cf, .inl (cI, 200, .inl (oIf fs))), (cn, .inl (cI, 200, .inl (oIf nx))), (cp, .inl (cJ, 200, .inr (.inl (lNf pu)))), (q, .inr (2, [.ref qf, .ref qt, .ref qc, .ref ql, .int (nI kn)])), (qf, .inl (cI, 1000, .inl (nIf fr))), (qt, .inl (cI, 1000, .inl (nIf tt))), (qc, .inl (cJ, 1000, .inr (.inl (lNf ct)))), (ql, .inl (cZ, 1000, .inl (bIf fa)))] sz) := by
  refine startM (cc := cX0_pullTowards) (maxL := 6) (ret := none) (by decide) rfl (Nat.le_of_ble_eq_true rfl) ?_
  intro p e s m below meth c ls A hA hAe hx hb hr hml hown hts hlocks hin hE hP hD hS hl
  have hl : lv_has ls 6 [(0, .ref h), (1, .int (nI c0)), (2, .ref q)] := hl
  refine lv_iconst (v := nI 0) hx hb dX0_pullTowards_0 (by decide) ?_
  refine lv_istore_n (lv' := [(3, .int (nI 0)), (0, .ref h), (1, .int (nI c0)), (2, .ref q)]) hx hb dX0_pullTowards_1 rfl hl (by decide) rfl (fun ls hl => ?_)
  refine r_loop (σ := Nat) (fun z0 => kn - z0) (fun z0 H locs ls => (z0 ≤ kn) ∧ va_P D vwCl [(h, .inr (0, [.ref cf, .ref cn, .ref cp])), (cf, .inl (cI, 200, .inl (oIf fs))), (cn, .inl (cI, 200, .inl (oIf nx))), (cp, .inl (cJ, 200, .inr (.inl (lNf (plF fs c0 fr tt ct pu z0))))), (q, .inr (2, [.ref qf, .ref qt, .ref qc, .ref ql, .int (nI kn)])), (qf, .inl (cI, 1000, .inl (nIf fr))), (qt, .inl (cI, 1000, .inl (nIf tt))), (qc, .inl (cJ, 1000, .inr (.inl (lNf ct)))), (ql, .inl (cZ, 1000, .inl (bIf fa)))] H ∧ va_D A [(h, .inr (0, [.ref cf, .ref cn, .ref cp])), (cf, .inl (cI, 200, .inl (oIf fs))), (cn, .inl (cI, 200, .inl (oIf nx))), (cp, .inl (cJ, 200, .inr (.inl (lNf (plF fs c0 fr tt ct pu z0))))), (q, .inr (2, [.ref qf, .ref qt, .ref qc, .ref ql, .int (nI kn)])), (qf, .inl (cI, 1000, .inl (nIf fr))), (qt, .inl (cI, 1000, .inl (nIf tt))), (qc, .inl (cJ, 1000, .inr (.inl (lNf ct)))), (ql, .inl (cZ, 1000, .inl (bIf fa)))] ∧ va_S A s.heap H locs ∧ lv_has ls 6 [(0, .ref h), (1, .int (nI c0)), (2, .ref q), (3, .int (nI z0))]) ?_ 0 ⟨Nat.zero_le _, hP.sub [0, 1, 2, 3, 4, 5, 6, 7, 8] rfl, hD.sub [0, 1, 2, 3, 4, 5, 6, 7, 8] (by decide) rfl, hS, lv_sub hl [1, 2, 3, 0] rfl⟩
  rintro k H locs ls ⟨hi_2, hP, hD, hS, hl⟩ ih_2
  have hi_2 : k ≤ kn := hi_2
  have hP : va_P D vwCl [(h, .inr (0, [.ref cf, .ref cn, .ref cp])), (cf, .inl (cI, 200, .inl (oIf fs))), (cn, .inl (cI, 200, .inl (oIf nx))), (cp, .inl (cJ, 200, .inr (.inl (lNf (plF fs c0 fr tt ct pu k))))), (q, .inr (2, [.ref qf, .ref qt, .ref qc, .ref ql, .int (nI kn)])), (qf, .inl (cI, 1000, .inl (nIf fr))), (qt, .inl (cI, 1000, .inl (nIf tt))), (qc, .inl (cJ, 1000, .inr (.inl (lNf ct)))), (ql, .inl (cZ, 1000, .inl (bIf fa)))] H := hP
  have hD : va_D A [(h, .inr (0, [.ref cf, .ref cn, .ref cp])), (cf, .inl (cI, 200, .inl (oIf fs))), (cn, .inl (cI, 200, .inl (oIf nx))), (cp, .inl (cJ, 200, .inr (.inl (lNf (plF fs c0 fr tt ct pu k))))), (q, .inr (2, [.ref qf, .ref qt, .ref qc, .ref ql, .int (nI kn)])), (qf, .inl (cI, 1000, .inl (nIf fr))), (qt, .inl (cI, 1000, .inl (nIf tt))), (qc, .inl (cJ, 1000, .inr (.inl (lNf ct)))), (ql, .inl (cZ, 1000, .inl (bIf fa)))] := hD
  have hl : lv_has ls 6 [(0, .ref h), (1, .int (nI c0)), (2, .ref q), (3, .int (nI k))] := hl
  have b1 := hB k
  refine lv_iload_n hx hb dX0_pullTowards_2 rfl (lv_at hl 3 rfl) ?_
  refine lv_aload_n hx hb dX0_pullTowards_3 rfl (lv_at hl 2 rfl) ?_
  refine va_getN (D := D) (ci := 2) (v := .int (nI kn)) (C := RX2) (T := TX2) (N := 5) hx hb hts in_X0_pullTowards_X2 hown hE.1 hP 4 rfl rfl 4 (by decide) (va_Nw.use rfl hE.2.1.2.2.2.2) (fun _ h9 => h9) rfl dX0_pullTowards_4 ?_
  refine r_icmp_ge (tgt := 100) hx hb (x := k) (y := kn) (by omega) (by omega) dX0_pullTowards_7 (by decide) (fun c_7 => ?_) (fun c_7 => ?_)
  · skip
    have e9 : k = kn := by omega
    subst e9
    exact e_mv () hAe hx hb hr hlocks dX0_pullTowards_100 (hP.sub [0, 1, 2, 3, 4, 5, 6, 7, 8] rfl) (hD.sub [0, 1, 2, 3, 4, 5, 6, 7, 8] (by decide) rfl) hS trivial
  · skip
    refine lv_aload_n hx hb dX0_pullTowards_10 rfl (lv_at hl 0 rfl) ?_
    refine lv_aload_n hx hb dX0_pullTowards_11 rfl (lv_at hl 2 rfl) ?_
    refine va_getN (D := D) (ci := 2) (v := .ref qf) (C := RX2) (T := TX2) (N := 5) hx hb hts in_X0_pullTowards_X2 hown hE.1 hP 4 rfl rfl 0 (by decide) (va_Nw.use rfl hE.2.1.1) (fun _ h9 => h9) rfl dX0_pullTowards_12 ?_
    refine lv_iload_n hx hb dX0_pullTowards_15 rfl (lv_at hl 3 rfl) ?_
    refine r_nld hx hb hE hP 5 rfl (k := k) (by omega) (by decide) dX0_pullTowards_16 ?_
    refine callRi (As := [.int (nI (fr k))]) (rest := []) ⟨hx, hb, hml, hown, hts⟩ (c_firstOf l D cI cJ cZ h cf cn cp fs nx (plF fs c0 fr tt ct pu k) (fr k) b1.1) (cwV 1 hts gX0_pullTowards_X0_firstOf rfl rfl rfl (by decide +kernel) ⟨Nat.le_of_ble_eq_true rfl, Nat.le_of_ble_eq_true rfl⟩) (preR hE hP 0 0 rfl rfl rfl [0, 1, 2, 3] rfl) rfl hl.1 (Nat.le_of_ble_eq_true rfl) dX0_pullTowards_17 ⟨Nat.zero_le _, Nat.zero_le _⟩ rfl (fun r_17 hr_17 => ?_)
    subst hr_17
    refine lv_istore (lv' := [(4, .int (oI (fs (fr k)))), (0, .ref h), (1, .int (nI c0)), (2, .ref q), (3, .int (nI k))]) hx hb dX0_pullTowards_20 hl (by decide) rfl (fun ls hl => ?_)
    refine lv_aload_n hx hb dX0_pullTowards_22 rfl (lv_at hl 1 rfl) ?_
    refine lv_aload_n hx hb dX0_pullTowards_23 rfl (lv_at hl 3 rfl) ?_
    refine va_getN (D := D) (ci := 2) (v := .ref qt) (C := RX2) (T := TX2) (N := 5) hx hb hts in_X0_pullTowards_X2 hown hE.1 hP 4 rfl rfl 1 (by decide) (va_Nw.use rfl hE.2.1.2.1) (fun _ h9 => h9) rfl dX0_pullTowards_24 ?_
    refine lv_iload_n hx hb dX0_pullTowards_27 rfl (lv_at hl 4 rfl) ?_
    refine r_nld hx hb hE hP 6 rfl (k := k) (by omega) (by decide) dX0_pullTowards_28 ?_
    refine callRi (As := [.int (nI (tt k))]) (rest := []) ⟨hx, hb, hml, hown, hts⟩ (c_firstOf l D cI cJ cZ h cf cn cp fs nx (plF fs c0 fr tt ct pu k) (tt k) b1.2.1) (cwV 1 hts gX0_pullTowards_X0_firstOf rfl rfl rfl (by decide +kernel) ⟨Nat.le_of_ble_eq_true rfl, Nat.le_of_ble_eq_true rfl⟩) (preR hE hP 0 0 rfl rfl rfl [0, 1, 2, 3] rfl) rfl hl.1 (Nat.le_of_ble_eq_true rfl) dX0_pullTowards_29 ⟨Nat.zero_le _, Nat.zero_le _⟩ rfl (fun r_29 hr_29 => ?_)
    subst hr_29
    refine lv_istore (lv' := [(5, .int (oI (fs (tt k)))), (4, .int (oI (fs (fr k)))), (0, .ref h), (1, .int (nI c0)), (2, .ref q), (3, .int (nI k))]) hx hb dX0_pullTowards_32 hl (by decide) rfl (fun ls hl => ?_)
    refine lv_iload hx hb dX0_pullTowards_34 (lv_at hl 1 rfl) ?_
    refine lv_iload_n hx hb dX0_pullTowards_36 rfl (lv_at hl 3 rfl) ?_
    refine r_o_ne (tgt := 64) hx hb (o := fs (fr k)) (q := some c0) rfl rfl (fun j h => by have := hfs _ _ h; omega) (fun j h => by cases h; omega) dX0_pullTowards_37 (by decide) (fun c_37 => ?_) (fun c_37 => ?_)
    · skip
      have hfe : plF fs c0 fr tt ct pu k = adT (fs (fr k)) (fs (tt k)) c0 (ct k) (plF fs c0 fr tt ct pu k) := adT_no (Or.inl c_37)
      rw [hfe] at hP hD
      have hP : va_P D vwCl [(h, .inr (0, [.ref cf, .ref cn, .ref cp])), (cf, .inl (cI, 200, .inl (oIf fs))), (cn, .inl (cI, 200, .inl (oIf nx))), (cp, .inl (cJ, 200, .inr (.inl (lNf (adT (fs (fr k)) (fs (tt k)) c0 (ct k) (plF fs c0 fr tt ct pu k)))))), (q, .inr (2, [.ref qf, .ref qt, .ref qc, .ref ql, .int (nI kn)])), (qf, .inl (cI, 1000, .inl (nIf fr))), (qt, .inl (cI, 1000, .inl (nIf tt))), (qc, .inl (cJ, 1000, .inr (.inl (lNf ct)))), (ql, .inl (cZ, 1000, .inl (bIf fa)))] H := hP
      have hD : va_D A [(h, .inr (0, [.ref cf, .ref cn, .ref cp])), (cf, .inl (cI, 200, .inl (oIf fs))), (cn, .inl (cI, 200, .inl (oIf nx))), (cp, .inl (cJ, 200, .inr (.inl (lNf (adT (fs (fr k)) (fs (tt k)) c0 (ct k) (plF fs c0 fr tt ct pu k)))))), (q, .inr (2, [.ref qf, .ref qt, .ref qc, .ref ql, .int (nI kn)])), (qf, .inl (cI, 1000, .inl (nIf fr))), (qt, .inl (cI, 1000, .inl (nIf tt))), (qc, .inl (cJ, 1000, .inr (.inl (lNf ct)))), (ql, .inl (cZ, 1000, .inl (bIf fa)))] := hD
      refine lv_iload hx hb dX0_pullTowards_64 (lv_at hl 0 rfl) ?_
      refine lv_iload_n hx hb dX0_pullTowards_66 rfl (lv_at hl 3 rfl) ?_
      refine r_o_ne (tgt := 94) hx hb (o := fs (tt k)) (q := some c0) rfl rfl (fun j h => by have := hfs _ _ h; omega) (fun j h => by cases h; omega) dX0_pullTowards_67 (by decide) (fun c_67 => ?_) (fun c_67 => ?_)
      · skip
        have hfe : adT (fs (fr k)) (fs (tt k)) c0 (ct k) (plF fs c0 fr tt ct pu k) = adT (fs (tt k)) (fs (fr k)) c0 (ct k) (adT (fs (fr k)) (fs (tt k)) c0 (ct k) (plF fs c0 fr tt ct pu k)) := adT_no (Or.inl c_67)
        rw [hfe] at hP hD
        have hP : va_P D vwCl [(h, .inr (0, [.ref cf, .ref cn, .ref cp])), (cf, .inl (cI, 200, .inl (oIf fs))), (cn, .inl (cI, 200, .inl (oIf nx))), (cp, .inl (cJ, 200, .inr (.inl (lNf (adT (fs (tt k)) (fs (fr k)) c0 (ct k) (adT (fs (fr k)) (fs (tt k)) c0 (ct k) (plF fs c0 fr tt ct pu k))))))), (q, .inr (2, [.ref qf, .ref qt, .ref qc, .ref ql, .int (nI kn)])), (qf, .inl (cI, 1000, .inl (nIf fr))), (qt, .inl (cI, 1000, .inl (nIf tt))), (qc, .inl (cJ, 1000, .inr (.inl (lNf ct)))), (ql, .inl (cZ, 1000, .inl (bIf fa)))] H := hP
        have hD : va_D A [(h, .inr (0, [.ref cf, .ref cn, .ref cp])), (cf, .inl (cI, 200, .inl (oIf fs))), (cn, .inl (cI, 200, .inl (oIf nx))), (cp, .inl (cJ, 200, .inr (.inl (lNf (adT (fs (tt k)) (fs (fr k)) c0 (ct k) (adT (fs (fr k)) (fs (tt k)) c0 (ct k) (plF fs c0 fr tt ct pu k))))))), (q, .inr (2, [.ref qf, .ref qt, .ref qc, .ref ql, .int (nI kn)])), (qf, .inl (cI, 1000, .inl (nIf fr))), (qt, .inl (cI, 1000, .inl (nIf tt))), (qc, .inl (cJ, 1000, .inr (.inl (lNf ct)))), (ql, .inl (cZ, 1000, .inl (bIf fa)))] := hD
        refine lv_iinc (v := (nI (k + 1))) (lv' := [(3, .int (nI (k + 1))), (5, .int (oI (fs (tt k)))), (4, .int (oI (fs (fr k)))), (0, .ref h), (1, .int (nI c0)), (2, .ref q)]) hx hb dX0_pullTowards_94 hl (k := 5) rfl (nI_1 _) (by decide) rfl (fun ls hl => ?_)
        refine lv_goto (tgt := 2) hx hb dX0_pullTowards_97 (by decide) ?_
        exact ih_2 (k + 1) _ _ _ ⟨(show (k + 1) ≤ kn from by omega), hP.sub [0, 1, 2, 3, 4, 5, 6, 7, 8] rfl, hD.sub [0, 1, 2, 3, 4, 5, 6, 7, 8] (by decide) rfl, hS, lv_sub hl [3, 4, 5, 0] rfl⟩ (by show kn - (k + 1) < kn - k; omega)
      · skip
        refine lv_iload hx hb dX0_pullTowards_70 (lv_at hl 1 rfl) ?_
        refine callRSi (As := [.int (oI (fs (fr k)))]) (rest := []) ⟨hx, hb, hml, hown, hts⟩ (c_fits l D cI cJ cZ (fs (fr k)) (hfs _)) ⟨va_cnB 1 hts gX0_pullTowards_X3_fitsRows_n34 rfl rfl rfl hE.2.2.1.2.2.2 (hts _ wd_X0_pullTowards_ini3) (by decide +kernel) ⟨Nat.le_of_ble_eq_true rfl, Nat.le_of_ble_eq_true rfl⟩, hts _ wd_X0_pullTowards_stF, trivial⟩ (preRS hE hP) rfl hl.1 (Nat.le_of_ble_eq_true rfl) dX0_pullTowards_72 ⟨Nat.zero_le _, Nat.zero_le _⟩ rfl (fun rF hrF => ?_)
        subst hrF
        refine r_b_eq (tgt := 94) hx hb dX0_pullTowards_75 (by decide) (fun c_75 => ?_) (fun c_75 => ?_)
        · skip
          have hfe : adT (fs (fr k)) (fs (tt k)) c0 (ct k) (plF fs c0 fr tt ct pu k) = adT (fs (tt k)) (fs (fr k)) c0 (ct k) (adT (fs (fr k)) (fs (tt k)) c0 (ct k) (plF fs c0 fr tt ct pu k)) := adT_no (Or.inr (nn_of c_75))
          rw [hfe] at hP hD
          have hP : va_P D vwCl [(h, .inr (0, [.ref cf, .ref cn, .ref cp])), (cf, .inl (cI, 200, .inl (oIf fs))), (cn, .inl (cI, 200, .inl (oIf nx))), (cp, .inl (cJ, 200, .inr (.inl (lNf (adT (fs (tt k)) (fs (fr k)) c0 (ct k) (adT (fs (fr k)) (fs (tt k)) c0 (ct k) (plF fs c0 fr tt ct pu k))))))), (q, .inr (2, [.ref qf, .ref qt, .ref qc, .ref ql, .int (nI kn)])), (qf, .inl (cI, 1000, .inl (nIf fr))), (qt, .inl (cI, 1000, .inl (nIf tt))), (qc, .inl (cJ, 1000, .inr (.inl (lNf ct)))), (ql, .inl (cZ, 1000, .inl (bIf fa)))] H := hP
          have hD : va_D A [(h, .inr (0, [.ref cf, .ref cn, .ref cp])), (cf, .inl (cI, 200, .inl (oIf fs))), (cn, .inl (cI, 200, .inl (oIf nx))), (cp, .inl (cJ, 200, .inr (.inl (lNf (adT (fs (tt k)) (fs (fr k)) c0 (ct k) (adT (fs (fr k)) (fs (tt k)) c0 (ct k) (plF fs c0 fr tt ct pu k))))))), (q, .inr (2, [.ref qf, .ref qt, .ref qc, .ref ql, .int (nI kn)])), (qf, .inl (cI, 1000, .inl (nIf fr))), (qt, .inl (cI, 1000, .inl (nIf tt))), (qc, .inl (cJ, 1000, .inr (.inl (lNf ct)))), (ql, .inl (cZ, 1000, .inl (bIf fa)))] := hD
          refine lv_iinc (v := (nI (k + 1))) (lv' := [(3, .int (nI (k + 1))), (5, .int (oI (fs (tt k)))), (4, .int (oI (fs (fr k)))), (0, .ref h), (1, .int (nI c0)), (2, .ref q)]) hx hb dX0_pullTowards_94 hl (k := 5) rfl (nI_1 _) (by decide) rfl (fun ls hl => ?_)
          refine lv_goto (tgt := 2) hx hb dX0_pullTowards_97 (by decide) ?_
          exact ih_2 (k + 1) _ _ _ ⟨(show (k + 1) ≤ kn from by omega), hP.sub [0, 1, 2, 3, 4, 5, 6, 7, 8] rfl, hD.sub [0, 1, 2, 3, 4, 5, 6, 7, 8] (by decide) rfl, hS, lv_sub hl [3, 4, 5, 0] rfl⟩ (by show kn - (k + 1) < kn - k; omega)
        · skip
          obtain ⟨a1, ha1⟩ := sm_of c_75
          have ha1b := hfs _ _ ha1
          rw [ha1] at hl
          have hl : lv_has ls 6 [(5, .int (oI (fs (tt k)))), (4, .int (nI a1)), (0, .ref h), (1, .int (nI c0)), (2, .ref q), (3, .int (nI k))] := hl
          refine lv_aload_n hx hb dX0_pullTowards_78 rfl (lv_at hl 2 rfl) ?_
          refine va_get (D := D) (ci := 0) (v := .ref cp) (C := RX0) (T := TX0) (N := 3) hx hb hts in_X0_pullTowards_X0 hown hE.1 hP 0 rfl rfl 2 (by decide) (hts _ fl_X0_pullTowards_18) (fun _ h9 => h9) rfl dX0_pullTowards_79 ?_
          refine lv_iload hx hb dX0_pullTowards_82 (lv_at hl 1 rfl) ?_
          refine lv_dup2_11 hx hb dX0_pullTowards_84 rfl rfl ?_
          refine r_lld hx hb hE hP 3 rfl (k := a1) (by omega) (by decide) dX0_pullTowards_85 ?_
          refine lv_aload_n hx hb dX0_pullTowards_86 rfl (lv_at hl 4 rfl) ?_
          refine va_getN (D := D) (ci := 2) (v := .ref qc) (C := RX2) (T := TX2) (N := 5) hx hb hts in_X0_pullTowards_X2 hown hE.1 hP 4 rfl rfl 2 (by decide) (va_Nw.use rfl hE.2.1.2.2.1) (fun _ h9 => h9) rfl dX0_pullTowards_87 ?_
          refine lv_iload_n hx hb dX0_pullTowards_90 rfl (lv_at hl 5 rfl) ?_
          refine r_lld hx hb hE hP 7 rfl (k := k) (by omega) (by decide) dX0_pullTowards_91 ?_
          refine r_ladd hx hb dX0_pullTowards_92 ?_
          refine r_lst hx hb hE hP hD hS 3 rfl (k := a1) (x := ((adT (fs (fr k)) (fs (tt k)) c0 (ct k) (plF fs c0 fr tt ct pu k)) a1) + (ct k)) (by omega) (by decide) dX0_pullTowards_93 (fun H locs hP hD hS => ?_)
          have hP : va_P D vwCl [(h, .inr (0, [.ref cf, .ref cn, .ref cp])), (cf, .inl (cI, 200, .inl (oIf fs))), (cn, .inl (cI, 200, .inl (oIf nx))), (cp, .inl (cJ, 200, .inr (.inl (lNf (va_up (adT (fs (fr k)) (fs (tt k)) c0 (ct k) (plF fs c0 fr tt ct pu k)) a1 (((adT (fs (fr k)) (fs (tt k)) c0 (ct k) (plF fs c0 fr tt ct pu k)) a1) + (ct k))))))), (q, .inr (2, [.ref qf, .ref qt, .ref qc, .ref ql, .int (nI kn)])), (qf, .inl (cI, 1000, .inl (nIf fr))), (qt, .inl (cI, 1000, .inl (nIf tt))), (qc, .inl (cJ, 1000, .inr (.inl (lNf ct)))), (ql, .inl (cZ, 1000, .inl (bIf fa)))] H := hP
          have hD : va_D A [(h, .inr (0, [.ref cf, .ref cn, .ref cp])), (cf, .inl (cI, 200, .inl (oIf fs))), (cn, .inl (cI, 200, .inl (oIf nx))), (cp, .inl (cJ, 200, .inr (.inl (lNf (va_up (adT (fs (fr k)) (fs (tt k)) c0 (ct k) (plF fs c0 fr tt ct pu k)) a1 (((adT (fs (fr k)) (fs (tt k)) c0 (ct k) (plF fs c0 fr tt ct pu k)) a1) + (ct k))))))), (q, .inr (2, [.ref qf, .ref qt, .ref qc, .ref ql, .int (nI kn)])), (qf, .inl (cI, 1000, .inl (nIf fr))), (qt, .inl (cI, 1000, .inl (nIf tt))), (qc, .inl (cJ, 1000, .inr (.inl (lNf ct)))), (ql, .inl (cZ, 1000, .inl (bIf fa)))] := hD
          have hfe : va_up (adT (fs (fr k)) (fs (tt k)) c0 (ct k) (plF fs c0 fr tt ct pu k)) a1 (((adT (fs (fr k)) (fs (tt k)) c0 (ct k) (plF fs c0 fr tt ct pu k)) a1) + (ct k)) = adT (fs (tt k)) (fs (fr k)) c0 (ct k) (adT (fs (fr k)) (fs (tt k)) c0 (ct k) (plF fs c0 fr tt ct pu k)) := adT_yes c_67 ha1
          rw [hfe] at hP hD
          have hP : va_P D vwCl [(h, .inr (0, [.ref cf, .ref cn, .ref cp])), (cf, .inl (cI, 200, .inl (oIf fs))), (cn, .inl (cI, 200, .inl (oIf nx))), (cp, .inl (cJ, 200, .inr (.inl (lNf (adT (fs (tt k)) (fs (fr k)) c0 (ct k) (adT (fs (fr k)) (fs (tt k)) c0 (ct k) (plF fs c0 fr tt ct pu k))))))), (q, .inr (2, [.ref qf, .ref qt, .ref qc, .ref ql, .int (nI kn)])), (qf, .inl (cI, 1000, .inl (nIf fr))), (qt, .inl (cI, 1000, .inl (nIf tt))), (qc, .inl (cJ, 1000, .inr (.inl (lNf ct)))), (ql, .inl (cZ, 1000, .inl (bIf fa)))] H := hP
          have hD : va_D A [(h, .inr (0, [.ref cf, .ref cn, .ref cp])), (cf, .inl (cI, 200, .inl (oIf fs))), (cn, .inl (cI, 200, .inl (oIf nx))), (cp, .inl (cJ, 200, .inr (.inl (lNf (adT (fs (tt k)) (fs (fr k)) c0 (ct k) (adT (fs (fr k)) (fs (tt k)) c0 (ct k) (plF fs c0 fr tt ct pu k))))))), (q, .inr (2, [.ref qf, .ref qt, .ref qc, .ref ql, .int (nI kn)])), (qf, .inl (cI, 1000, .inl (nIf fr))), (qt, .inl (cI, 1000, .inl (nIf tt))), (qc, .inl (cJ, 1000, .inr (.inl (lNf ct)))), (ql, .inl (cZ, 1000, .inl (bIf fa)))] := hD
          refine lv_iinc (v := (nI (k + 1))) (lv' := [(3, .int (nI (k + 1))), (5, .int (oI (fs (tt k)))), (4, .int (nI a1)), (0, .ref h), (1, .int (nI c0)), (2, .ref q)]) hx hb dX0_pullTowards_94 hl (k := 5) rfl (nI_1 _) (by decide) rfl (fun ls hl => ?_)
          refine lv_goto (tgt := 2) hx hb dX0_pullTowards_97 (by decide) ?_
          exact ih_2 (k + 1) _ _ _ ⟨(show (k + 1) ≤ kn from by omega), hP.sub [0, 1, 2, 3, 4, 5, 6, 7, 8] rfl, hD.sub [0, 1, 2, 3, 4, 5, 6, 7, 8] (by decide) rfl, hS, lv_sub hl [3, 4, 5, 0] rfl⟩ (by show kn - (k + 1) < kn - k; omega)
    · skip
      refine lv_iload hx hb dX0_pullTowards_40 (lv_at hl 0 rfl) ?_
      refine callRSi (As := [.int (oI (fs (tt k)))]) (rest := []) ⟨hx, hb, hml, hown, hts⟩ (c_fits l D cI cJ cZ (fs (tt k)) (hfs _)) ⟨va_cnB 1 hts gX0_pullTowards_X3_fitsRows_n34 rfl rfl rfl hE.2.2.1.2.2.2 (hts _ wd_X0_pullTowards_ini3) (by decide +kernel) ⟨Nat.le_of_ble_eq_true rfl, Nat.le_of_ble_eq_true rfl⟩, hts _ wd_X0_pullTowards_stF, trivial⟩ (preRS hE hP) rfl hl.1 (Nat.le_of_ble_eq_true rfl) dX0_pullTowards_42 ⟨Nat.zero_le _, Nat.zero_le _⟩ rfl (fun rF hrF => ?_)
      subst hrF
      refine r_b_eq (tgt := 64) hx hb dX0_pullTowards_45 (by decide) (fun c_45 => ?_) (fun c_45 => ?_)
      · skip
        have hfe : plF fs c0 fr tt ct pu k = adT (fs (fr k)) (fs (tt k)) c0 (ct k) (plF fs c0 fr tt ct pu k) := adT_no (Or.inr (nn_of c_45))
        rw [hfe] at hP hD
        have hP : va_P D vwCl [(h, .inr (0, [.ref cf, .ref cn, .ref cp])), (cf, .inl (cI, 200, .inl (oIf fs))), (cn, .inl (cI, 200, .inl (oIf nx))), (cp, .inl (cJ, 200, .inr (.inl (lNf (adT (fs (fr k)) (fs (tt k)) c0 (ct k) (plF fs c0 fr tt ct pu k)))))), (q, .inr (2, [.ref qf, .ref qt, .ref qc, .ref ql, .int (nI kn)])), (qf, .inl (cI, 1000, .inl (nIf fr))), (qt, .inl (cI, 1000, .inl (nIf tt))), (qc, .inl (cJ, 1000, .inr (.inl (lNf ct)))), (ql, .inl (cZ, 1000, .inl (bIf fa)))] H := hP
        have hD : va_D A [(h, .inr (0, [.ref cf, .ref cn, .ref cp])), (cf, .inl (cI, 200, .inl (oIf fs))), (cn, .inl (cI, 200, .inl (oIf nx))), (cp, .inl (cJ, 200, .inr (.inl (lNf (adT (fs (fr k)) (fs (tt k)) c0 (ct k) (plF fs c0 fr tt ct pu k)))))), (q, .inr (2, [.ref qf, .ref qt, .ref qc, .ref ql, .int (nI kn)])), (qf, .inl (cI, 1000, .inl (nIf fr))), (qt, .inl (cI, 1000, .inl (nIf tt))), (qc, .inl (cJ, 1000, .inr (.inl (lNf ct)))), (ql, .inl (cZ, 1000, .inl (bIf fa)))] := hD
        refine lv_iload hx hb dX0_pullTowards_64 (lv_at hl 0 rfl) ?_
        refine lv_iload_n hx hb dX0_pullTowards_66 rfl (lv_at hl 3 rfl) ?_
        refine r_o_ne (tgt := 94) hx hb (o := fs (tt k)) (q := some c0) rfl rfl (fun j h => by have := hfs _ _ h; omega) (fun j h => by cases h; omega) dX0_pullTowards_67 (by decide) (fun c_67 => ?_) (fun c_67 => ?_)
        · skip
          have hfe : adT (fs (fr k)) (fs (tt k)) c0 (ct k) (plF fs c0 fr tt ct pu k) = adT (fs (tt k)) (fs (fr k)) c0 (ct k) (adT (fs (fr k)) (fs (tt k)) c0 (ct k) (plF fs c0 fr tt ct pu k)) := adT_no (Or.inl c_67)
          rw [hfe] at hP hD
          have hP : va_P D vwCl [(h, .inr (0, [.ref cf, .ref cn, .ref cp])), (cf, .inl (cI, 200, .inl (oIf fs))), (cn, .inl (cI, 200, .inl (oIf nx))), (cp, .inl (cJ, 200, .inr (.inl (lNf (adT (fs (tt k)) (fs (fr k)) c0 (ct k) (adT (fs (fr k)) (fs (tt k)) c0 (ct k) (plF fs c0 fr tt ct pu k))))))), (q, .inr (2, [.ref qf, .ref qt, .ref qc, .ref ql, .int (nI kn)])), (qf, .inl (cI, 1000, .inl (nIf fr))), (qt, .inl (cI, 1000, .inl (nIf tt))), (qc, .inl (cJ, 1000, .inr (.inl (lNf ct)))), (ql, .inl (cZ, 1000, .inl (bIf fa)))] H := hP
          have hD : va_D A [(h, .inr (0, [.ref cf, .ref cn, .ref cp])), (cf, .inl (cI, 200, .inl (oIf fs))), (cn, .inl (cI, 200, .inl (oIf nx))), (cp, .inl (cJ, 200, .inr (.inl (lNf (adT (fs (tt k)) (fs (fr k)) c0 (ct k) (adT (fs (fr k)) (fs (tt k)) c0 (ct k) (plF fs c0 fr tt ct pu k))))))), (q, .inr (2, [.ref qf, .ref qt, .ref qc, .ref ql, .int (nI kn)])), (qf, .inl (cI, 1000, .inl (nIf fr))), (qt, .inl (cI, 1000, .inl (nIf tt))), (qc, .inl (cJ, 1000, .inr (.inl (lNf ct)))), (ql, .inl (cZ, 1000, .inl (bIf fa)))] := hD
          refine lv_iinc (v := (nI (k + 1))) (lv' := [(3, .int (nI (k + 1))), (5, .int (oI (fs (tt k)))), (4, .int (oI (fs (fr k)))), (0, .ref h), (1, .int (nI c0)), (2, .ref q)]) hx hb dX0_pullTowards_94 hl (k := 5) rfl (nI_1 _) (by decide) rfl (fun ls hl => ?_)
          refine lv_goto (tgt := 2) hx hb dX0_pullTowards_97 (by decide) ?_
          exact ih_2 (k + 1) _ _ _ ⟨(show (k + 1) ≤ kn from by omega), hP.sub [0, 1, 2, 3, 4, 5, 6, 7, 8] rfl, hD.sub [0, 1, 2, 3, 4, 5, 6, 7, 8] (by decide) rfl, hS, lv_sub hl [3, 4, 5, 0] rfl⟩ (by show kn - (k + 1) < kn - k; omega)
        · skip
          refine lv_iload hx hb dX0_pullTowards_70 (lv_at hl 1 rfl) ?_
          refine callRSi (As := [.int (oI (fs (fr k)))]) (rest := []) ⟨hx, hb, hml, hown, hts⟩ (c_fits l D cI cJ cZ (fs (fr k)) (hfs _)) ⟨va_cnB 1 hts gX0_pullTowards_X3_fitsRows_n34 rfl rfl rfl hE.2.2.1.2.2.2 (hts _ wd_X0_pullTowards_ini3) (by decide +kernel) ⟨Nat.le_of_ble_eq_true rfl, Nat.le_of_ble_eq_true rfl⟩, hts _ wd_X0_pullTowards_stF, trivial⟩ (preRS hE hP) rfl hl.1 (Nat.le_of_ble_eq_true rfl) dX0_pullTowards_72 ⟨Nat.zero_le _, Nat.zero_le _⟩ rfl (fun rF hrF => ?_)
          subst hrF
          refine r_b_eq (tgt := 94) hx hb dX0_pullTowards_75 (by decide) (fun c_75 => ?_) (fun c_75 => ?_)
          · skip
            have hfe : adT (fs (fr k)) (fs (tt k)) c0 (ct k) (plF fs c0 fr tt ct pu k) = adT (fs (tt k)) (fs (fr k)) c0 (ct k) (adT (fs (fr k)) (fs (tt k)) c0 (ct k) (plF fs c0 fr tt ct pu k)) := adT_no (Or.inr (nn_of c_75))
            rw [hfe] at hP hD
            have hP : va_P D vwCl [(h, .inr (0, [.ref cf, .ref cn, .ref cp])), (cf, .inl (cI, 200, .inl (oIf fs))), (cn, .inl (cI, 200, .inl (oIf nx))), (cp, .inl (cJ, 200, .inr (.inl (lNf (adT (fs (tt k)) (fs (fr k)) c0 (ct k) (adT (fs (fr k)) (fs (tt k)) c0 (ct k) (plF fs c0 fr tt ct pu k))))))), (q, .inr (2, [.ref qf, .ref qt, .ref qc, .ref ql, .int (nI kn)])), (qf, .inl (cI, 1000, .inl (nIf fr))), (qt, .inl (cI, 1000, .inl (nIf tt))), (qc, .inl (cJ, 1000, .inr (.inl (lNf ct)))), (ql, .inl (cZ, 1000, .inl (bIf fa)))] H := hP
            have hD : va_D A [(h, .inr (0, [.ref cf, .ref cn, .ref cp])), (cf, .inl (cI, 200, .inl (oIf fs))), (cn, .inl (cI, 200, .inl (oIf nx))), (cp, .inl (cJ, 200, .inr (.inl (lNf (adT (fs (tt k)) (fs (fr k)) c0 (ct k) (adT (fs (fr k)) (fs (tt k)) c0 (ct k) (plF fs c0 fr tt ct pu k))))))), (q, .inr (2, [.ref qf, .ref qt, .ref qc, .ref ql, .int (nI kn)])), (qf, .inl (cI, 1000, .inl (nIf fr))), (qt, .inl (cI, 1000, .inl (nIf tt))), (qc, .inl (cJ, 1000, .inr (.inl (lNf ct)))), (ql, .inl (cZ, 1000, .inl (bIf fa)))] := hD
            refine lv_iinc (v := (nI (k + 1))) (lv' := [(3, .int (nI (k + 1))), (5, .int (oI (fs (tt k)))), (4, .int (oI (fs (fr k)))), (0, .ref h), (1, .int (nI c0)), (2, .ref q)]) hx hb dX0_pullTowards_94 hl (k := 5) rfl (nI_1 _) (by decide) rfl (fun ls hl => ?_)
            refine lv_goto (tgt := 2) hx hb dX0_pullTowards_97 (by decide) ?_
            exact ih_2 (k + 1) _ _ _ ⟨(show (k + 1) ≤ kn from by omega), hP.sub [0, 1, 2, 3, 4, 5, 6, 7, 8] rfl, hD.sub [0, 1, 2, 3, 4, 5, 6, 7, 8] (by decide) rfl, hS, lv_sub hl [3, 4, 5, 0] rfl⟩ (by show kn - (k + 1) < kn - k; omega)
          · skip
            obtain ⟨a1, ha1⟩ := sm_of c_75
            have ha1b := hfs _ _ ha1
            rw [ha1] at hl
            have hl : lv_has ls 6 [(5, .int (oI (fs (tt k)))), (4, .int (nI a1)), (0, .ref h), (1, .int (nI c0)), (2, .ref q), (3, .int (nI k))] := hl
            refine lv_aload_n hx hb dX0_pullTowards_78 rfl (lv_at hl 2 rfl) ?_
            refine va_get (D := D) (ci := 0) (v := .ref cp) (C := RX0) (T := TX0) (N := 3) hx hb hts in_X0_pullTowards_X0 hown hE.1 hP 0 rfl rfl 2 (by decide) (hts _ fl_X0_pullTowards_18) (fun _ h9 => h9) rfl dX0_pullTowards_79 ?_
            refine lv_iload hx hb dX0_pullTowards_82 (lv_at hl 1 rfl) ?_
            refine lv_dup2_11 hx hb dX0_pullTowards_84 rfl rfl ?_
            refine r_lld hx hb hE hP 3 rfl (k := a1) (by omega) (by decide) dX0_pullTowards_85 ?_
            refine lv_aload_n hx hb dX0_pullTowards_86 rfl (lv_at hl 4 rfl) ?_
            refine va_getN (D := D) (ci := 2) (v := .ref qc) (C := RX2) (T := TX2) (N := 5) hx hb hts in_X0_pullTowards_X2 hown hE.1 hP 4 rfl rfl 2 (by decide) (va_Nw.use rfl hE.2.1.2.2.1) (fun _ h9 => h9) rfl dX0_pullTowards_87 ?_
            refine lv_iload_n hx hb dX0_pullTowards_90 rfl (lv_at hl 5 rfl) ?_
            refine r_lld hx hb hE hP 7 rfl (k := k) (by omega) (by decide) dX0_pullTowards_91 ?_
            refine r_ladd hx hb dX0_pullTowards_92 ?_
            refine r_lst hx hb hE hP hD hS 3 rfl (k := a1) (x := ((adT (fs (fr k)) (fs (tt k)) c0 (ct k) (plF fs c0 fr tt ct pu k)) a1) + (ct k)) (by omega) (by decide) dX0_pullTowards_93 (fun H locs hP hD hS => ?_)
            have hP : va_P D vwCl [(h, .inr (0, [.ref cf, .ref cn, .ref cp])), (cf, .inl (cI, 200, .inl (oIf fs))), (cn, .inl (cI, 200, .inl (oIf nx))), (cp, .inl (cJ, 200, .inr (.inl (lNf (va_up (adT (fs (fr k)) (fs (tt k)) c0 (ct k) (plF fs c0 fr tt ct pu k)) a1 (((adT (fs (fr k)) (fs (tt k)) c0 (ct k) (plF fs c0 fr tt ct pu k)) a1) + (ct k))))))), (q, .inr (2, [.ref qf, .ref qt, .ref qc, .ref ql, .int (nI kn)])), (qf, .inl (cI, 1000, .inl (nIf fr))), (qt, .inl (cI, 1000, .inl (nIf tt))), (qc, .inl (cJ, 1000, .inr (.inl (lNf ct)))), (ql, .inl (cZ, 1000, .inl (bIf fa)))] H := hP
            have hD : va_D A [(h, .inr (0, [.ref cf, .ref cn, .ref cp])), (cf, .inl (cI, 200, .inl (oIf fs))), (cn, .inl (cI, 200, .inl (oIf nx))), (cp, .inl (cJ, 200, .inr (.inl (lNf (va_up (adT (fs (fr k)) (fs (tt k)) c0 (ct k) (plF fs c0 fr tt ct pu k)) a1 (((adT (fs (fr k)) (fs (tt k)) c0 (ct k) (plF fs c0 fr tt ct pu k)) a1) + (ct k))))))), (q, .inr (2, [.ref qf, .ref qt, .ref qc, .ref ql, .int (nI kn)])), (qf, .inl (cI, 1000, .inl (nIf fr))), (qt, .inl (cI, 1000, .inl (nIf tt))), (qc, .inl (cJ, 1000, .inr (.inl (lNf ct)))), (ql, .inl (cZ, 1000, .inl (bIf fa)))] := hD
            have hfe : va_up (adT (fs (fr k)) (fs (tt k)) c0 (ct k) (plF fs c0 fr tt ct pu k)) a1 (((adT (fs (fr k)) (fs (tt k)) c0 (ct k) (plF fs c0 fr tt ct pu k)) a1) + (ct k)) = adT (fs (tt k)) (fs (fr k)) c0 (ct k) (adT (fs (fr k)) (fs (tt k)) c0 (ct k) (plF fs c0 fr tt ct pu k)) := adT_yes c_67 ha1
            rw [hfe] at hP hD
            have hP : va_P D vwCl [(h, .inr (0, [.ref cf, .ref cn, .ref cp])), (cf, .inl (cI, 200, .inl (oIf fs))), (cn, .inl (cI, 200, .inl (oIf nx))), (cp, .inl (cJ, 200, .inr (.inl (lNf (adT (fs (tt k)) (fs (fr k)) c0 (ct k) (adT (fs (fr k)) (fs (tt k)) c0 (ct k) (plF fs c0 fr tt ct pu k))))))), (q, .inr (2, [.ref qf, .ref qt, .ref qc, .ref ql, .int (nI kn)])), (qf, .inl (cI, 1000, .inl (nIf fr))), (qt, .inl (cI, 1000, .inl (nIf tt))), (qc, .inl (cJ, 1000, .inr (.inl (lNf ct)))), (ql, .inl (cZ, 1000, .inl (bIf fa)))] H := hP
            have hD : va_D A [(h, .inr (0, [.ref cf, .ref cn, .ref cp])), (cf, .inl (cI, 200, .inl (oIf fs))), (cn, .inl (cI, 200, .inl (oIf nx))), (cp, .inl (cJ, 200, .inr (.inl (lNf (adT (fs (tt k)) (fs (fr k)) c0 (ct k) (adT (fs (fr k)) (fs (tt k)) c0 (ct k) (plF fs c0 fr tt ct pu k))))))), (q, .inr (2, [.ref qf, .ref qt, .ref qc, .ref ql, .int (nI kn)])), (qf, .inl (cI, 1000, .inl (nIf fr))), (qt, .inl (cI, 1000, .inl (nIf tt))), (qc, .inl (cJ, 1000, .inr (.inl (lNf ct)))), (ql, .inl (cZ, 1000, .inl (bIf fa)))] := hD
            refine lv_iinc (v := (nI (k + 1))) (lv' := [(3, .int (nI (k + 1))), (5, .int (oI (fs (tt k)))), (4, .int (nI a1)), (0, .ref h), (1, .int (nI c0)), (2, .ref q)]) hx hb dX0_pullTowards_94 hl (k := 5) rfl (nI_1 _) (by decide) rfl (fun ls hl => ?_)
            refine lv_goto (tgt := 2) hx hb dX0_pullTowards_97 (by decide) ?_
            exact ih_2 (k + 1) _ _ _ ⟨(show (k + 1) ≤ kn from by omega), hP.sub [0, 1, 2, 3, 4, 5, 6, 7, 8] rfl, hD.sub [0, 1, 2, 3, 4, 5, 6, 7, 8] (by decide) rfl, hS, lv_sub hl [3, 4, 5, 0] rfl⟩ (by show kn - (k + 1) < kn - k; omega)
      · skip
        obtain ⟨d1, hd1⟩ := sm_of c_45
        have hd1b := hfs _ _ hd1
        rw [hd1] at hl
        have hl : lv_has ls 6 [(5, .int (nI d1)), (4, .int (oI (fs (fr k)))), (0, .ref h), (1, .int (nI c0)), (2, .ref q), (3, .int (nI k))] := hl
        refine lv_aload_n hx hb dX0_pullTowards_48 rfl (lv_at hl 2 rfl) ?_
        refine va_get (D := D) (ci := 0) (v := .ref cp) (C := RX0) (T := TX0) (N := 3) hx hb hts in_X0_pullTowards_X0 hown hE.1 hP 0 rfl rfl 2 (by decide) (hts _ fl_X0_pullTowards_18) (fun _ h9 => h9) rfl dX0_pullTowards_49 ?_
        refine lv_iload hx hb dX0_pullTowards_52 (lv_at hl 0 rfl) ?_
        refine lv_dup2_11 hx hb dX0_pullTowards_54 rfl rfl ?_
        refine r_lld hx hb hE hP 3 rfl (k := d1) (by omega) (by decide) dX0_pullTowards_55 ?_
        refine lv_aload_n hx hb dX0_pullTowards_56 rfl (lv_at hl 4 rfl) ?_
        refine va_getN (D := D) (ci := 2) (v := .ref qc) (C := RX2) (T := TX2) (N := 5) hx hb hts in_X0_pullTowards_X2 hown hE.1 hP 4 rfl rfl 2 (by decide) (va_Nw.use rfl hE.2.1.2.2.1) (fun _ h9 => h9) rfl dX0_pullTowards_57 ?_
        refine lv_iload_n hx hb dX0_pullTowards_60 rfl (lv_at hl 5 rfl) ?_
        refine r_lld hx hb hE hP 7 rfl (k := k) (by omega) (by decide) dX0_pullTowards_61 ?_
        refine r_ladd hx hb dX0_pullTowards_62 ?_
        refine r_lst hx hb hE hP hD hS 3 rfl (k := d1) (x := ((plF fs c0 fr tt ct pu k) d1) + (ct k)) (by omega) (by decide) dX0_pullTowards_63 (fun H locs hP hD hS => ?_)
        have hP : va_P D vwCl [(h, .inr (0, [.ref cf, .ref cn, .ref cp])), (cf, .inl (cI, 200, .inl (oIf fs))), (cn, .inl (cI, 200, .inl (oIf nx))), (cp, .inl (cJ, 200, .inr (.inl (lNf (va_up (plF fs c0 fr tt ct pu k) d1 (((plF fs c0 fr tt ct pu k) d1) + (ct k))))))), (q, .inr (2, [.ref qf, .ref qt, .ref qc, .ref ql, .int (nI kn)])), (qf, .inl (cI, 1000, .inl (nIf fr))), (qt, .inl (cI, 1000, .inl (nIf tt))), (qc, .inl (cJ, 1000, .inr (.inl (lNf ct)))), (ql, .inl (cZ, 1000, .inl (bIf fa)))] H := hP
        have hD : va_D A [(h, .inr (0, [.ref cf, .ref cn, .ref cp])), (cf, .inl (cI, 200, .inl (oIf fs))), (cn, .inl (cI, 200, .inl (oIf nx))), (cp, .inl (cJ, 200, .inr (.inl (lNf (va_up (plF fs c0 fr tt ct pu k) d1 (((plF fs c0 fr tt ct pu k) d1) + (ct k))))))), (q, .inr (2, [.ref qf, .ref qt, .ref qc, .ref ql, .int (nI kn)])), (qf, .inl (cI, 1000, .inl (nIf fr))), (qt, .inl (cI, 1000, .inl (nIf tt))), (qc, .inl (cJ, 1000, .inr (.inl (lNf ct)))), (ql, .inl (cZ, 1000, .inl (bIf fa)))] := hD
        have hfe : va_up (plF fs c0 fr tt ct pu k) d1 (((plF fs c0 fr tt ct pu k) d1) + (ct k)) = adT (fs (fr k)) (fs (tt k)) c0 (ct k) (plF fs c0 fr tt ct pu k) := adT_yes c_37 hd1
        rw [hfe] at hP hD
        have hP : va_P D vwCl [(h, .inr (0, [.ref cf, .ref cn, .ref cp])), (cf, .inl (cI, 200, .inl (oIf fs))), (cn, .inl (cI, 200, .inl (oIf nx))), (cp, .inl (cJ, 200, .inr (.inl (lNf (adT (fs (fr k)) (fs (tt k)) c0 (ct k) (plF fs c0 fr tt ct pu k)))))), (q, .inr (2, [.ref qf, .ref qt, .ref qc, .ref ql, .int (nI kn)])), (qf, .inl (cI, 1000, .inl (nIf fr))), (qt, .inl (cI, 1000, .inl (nIf tt))), (qc, .inl (cJ, 1000, .inr (.inl (lNf ct)))), (ql, .inl (cZ, 1000, .inl (bIf fa)))] H := hP
        have hD : va_D A [(h, .inr (0, [.ref cf, .ref cn, .ref cp])), (cf, .inl (cI, 200, .inl (oIf fs))), (cn, .inl (cI, 200, .inl (oIf nx))), (cp, .inl (cJ, 200, .inr (.inl (lNf (adT (fs (fr k)) (fs (tt k)) c0 (ct k) (plF fs c0 fr tt ct pu k)))))), (q, .inr (2, [.ref qf, .ref qt, .ref qc, .ref ql, .int (nI kn)])), (qf, .inl (cI, 1000, .inl (nIf fr))), (qt, .inl (cI, 1000, .inl (nIf tt))), (qc, .inl (cJ, 1000, .inr (.inl (lNf ct)))), (ql, .inl (cZ, 1000, .inl (bIf fa)))] := hD
        have hl : lv_has ls 6 [(5, .int (oI (fs (tt k)))), (4, .int (oI (fs (fr k)))), (0, .ref h), (1, .int (nI c0)), (2, .ref q), (3, .int (nI k))] := by rw [hd1]; exact hl
        refine lv_iload hx hb dX0_pullTowards_64 (lv_at hl 0 rfl) ?_
        refine lv_iload_n hx hb dX0_pullTowards_66 rfl (lv_at hl 3 rfl) ?_
        refine r_o_ne (tgt := 94) hx hb (o := fs (tt k)) (q := some c0) rfl rfl (fun j h => by have := hfs _ _ h; omega) (fun j h => by cases h; omega) dX0_pullTowards_67 (by decide) (fun c_67 => ?_) (fun c_67 => ?_)
        · skip
          have hfe : adT (fs (fr k)) (fs (tt k)) c0 (ct k) (plF fs c0 fr tt ct pu k) = adT (fs (tt k)) (fs (fr k)) c0 (ct k) (adT (fs (fr k)) (fs (tt k)) c0 (ct k) (plF fs c0 fr tt ct pu k)) := adT_no (Or.inl c_67)
          rw [hfe] at hP hD
          have hP : va_P D vwCl [(h, .inr (0, [.ref cf, .ref cn, .ref cp])), (cf, .inl (cI, 200, .inl (oIf fs))), (cn, .inl (cI, 200, .inl (oIf nx))), (cp, .inl (cJ, 200, .inr (.inl (lNf (adT (fs (tt k)) (fs (fr k)) c0 (ct k) (adT (fs (fr k)) (fs (tt k)) c0 (ct k) (plF fs c0 fr tt ct pu k))))))), (q, .inr (2, [.ref qf, .ref qt, .ref qc, .ref ql, .int (nI kn)])), (qf, .inl (cI, 1000, .inl (nIf fr))), (qt, .inl (cI, 1000, .inl (nIf tt))), (qc, .inl (cJ, 1000, .inr (.inl (lNf ct)))), (ql, .inl (cZ, 1000, .inl (bIf fa)))] H := hP
          have hD : va_D A [(h, .inr (0, [.ref cf, .ref cn, .ref cp])), (cf, .inl (cI, 200, .inl (oIf fs))), (cn, .inl (cI, 200, .inl (oIf nx))), (cp, .inl (cJ, 200, .inr (.inl (lNf (adT (fs (tt k)) (fs (fr k)) c0 (ct k) (adT (fs (fr k)) (fs (tt k)) c0 (ct k) (plF fs c0 fr tt ct pu k))))))), (q, .inr (2, [.ref qf, .ref qt, .ref qc, .ref ql, .int (nI kn)])), (qf, .inl (cI, 1000, .inl (nIf fr))), (qt, .inl (cI, 1000, .inl (nIf tt))), (qc, .inl (cJ, 1000, .inr (.inl (lNf ct)))), (ql, .inl (cZ, 1000, .inl (bIf fa)))] := hD
          refine lv_iinc (v := (nI (k + 1))) (lv' := [(3, .int (nI (k + 1))), (5, .int (oI (fs (tt k)))), (4, .int (oI (fs (fr k)))), (0, .ref h), (1, .int (nI c0)), (2, .ref q)]) hx hb dX0_pullTowards_94 hl (k := 5) rfl (nI_1 _) (by decide) rfl (fun ls hl => ?_)
          refine lv_goto (tgt := 2) hx hb dX0_pullTowards_97 (by decide) ?_
          exact ih_2 (k + 1) _ _ _ ⟨(show (k + 1) ≤ kn from by omega), hP.sub [0, 1, 2, 3, 4, 5, 6, 7, 8] rfl, hD.sub [0, 1, 2, 3, 4, 5, 6, 7, 8] (by decide) rfl, hS, lv_sub hl [3, 4, 5, 0] rfl⟩ (by show kn - (k + 1) < kn - k; omega)
        · skip
          refine lv_iload hx hb dX0_pullTowards_70 (lv_at hl 1 rfl) ?_
          refine callRSi (As := [.int (oI (fs (fr k)))]) (rest := []) ⟨hx, hb, hml, hown, hts⟩ (c_fits l D cI cJ cZ (fs (fr k)) (hfs _)) ⟨va_cnB 1 hts gX0_pullTowards_X3_fitsRows_n34 rfl rfl rfl hE.2.2.1.2.2.2 (hts _ wd_X0_pullTowards_ini3) (by decide +kernel) ⟨Nat.le_of_ble_eq_true rfl, Nat.le_of_ble_eq_true rfl⟩, hts _ wd_X0_pullTowards_stF, trivial⟩ (preRS hE hP) rfl hl.1 (Nat.le_of_ble_eq_true rfl) dX0_pullTowards_72 ⟨Nat.zero_le _, Nat.zero_le _⟩ rfl (fun rF hrF => ?_)
          subst hrF
          refine r_b_eq (tgt := 94) hx hb dX0_pullTowards_75 (by decide) (fun c_75 => ?_) (fun c_75 => ?_)
          · skip
            have hfe : adT (fs (fr k)) (fs (tt k)) c0 (ct k) (plF fs c0 fr tt ct pu k) = adT (fs (tt k)) (fs (fr k)) c0 (ct k) (adT (fs (fr k)) (fs (tt k)) c0 (ct k) (plF fs c0 fr tt ct pu k)) := adT_no (Or.inr (nn_of c_75))
            rw [hfe] at hP hD
            have hP : va_P D vwCl [(h, .inr (0, [.ref cf, .ref cn, .ref cp])), (cf, .inl (cI, 200, .inl (oIf fs))), (cn, .inl (cI, 200, .inl (oIf nx))), (cp, .inl (cJ, 200, .inr (.inl (lNf (adT (fs (tt k)) (fs (fr k)) c0 (ct k) (adT (fs (fr k)) (fs (tt k)) c0 (ct k) (plF fs c0 fr tt ct pu k))))))), (q, .inr (2, [.ref qf, .ref qt, .ref qc, .ref ql, .int (nI kn)])), (qf, .inl (cI, 1000, .inl (nIf fr))), (qt, .inl (cI, 1000, .inl (nIf tt))), (qc, .inl (cJ, 1000, .inr (.inl (lNf ct)))), (ql, .inl (cZ, 1000, .inl (bIf fa)))] H := hP
            have hD : va_D A [(h, .inr (0, [.ref cf, .ref cn, .ref cp])), (cf, .inl (cI, 200, .inl (oIf fs))), (cn, .inl (cI, 200, .inl (oIf nx))), (cp, .inl (cJ, 200, .inr (.inl (lNf (adT (fs (tt k)) (fs (fr k)) c0 (ct k) (adT (fs (fr k)) (fs (tt k)) c0 (ct k) (plF fs c0 fr tt ct pu k))))))), (q, .inr (2, [.ref qf, .ref qt, .ref qc, .ref ql, .int (nI kn)])), (qf, .inl (cI, 1000, .inl (nIf fr))), (qt, .inl (cI, 1000, .inl (nIf tt))), (qc, .inl (cJ, 1000, .inr (.inl (lNf ct)))), (ql, .inl (cZ, 1000, .inl (bIf fa)))] := hD
            refine lv_iinc (v := (nI (k + 1))) (lv' := [(3, .int (nI (k + 1))), (5, .int (oI (fs (tt k)))), (4, .int (oI (fs (fr k)))), (0, .ref h), (1, .int (nI c0)), (2, .ref q)]) hx hb dX0_pullTowards_94 hl (k := 5) rfl (nI_1 _) (by decide) rfl (fun ls hl => ?_)
            refine lv_goto (tgt := 2) hx hb dX0_pullTowards_97 (by decide) ?_
            exact ih_2 (k + 1) _ _ _ ⟨(show (k + 1) ≤ kn from by omega), hP.sub [0, 1, 2, 3, 4, 5, 6, 7, 8] rfl, hD.sub [0, 1, 2, 3, 4, 5, 6, 7, 8] (by decide) rfl, hS, lv_sub hl [3, 4, 5, 0] rfl⟩ (by show kn - (k + 1) < kn - k; omega)
          · skip
            obtain ⟨a1, ha1⟩ := sm_of c_75
            have ha1b := hfs _ _ ha1
            rw [ha1] at hl
            have hl : lv_has ls 6 [(5, .int (oI (fs (tt k)))), (4, .int (nI a1)), (0, .ref h), (1, .int (nI c0)), (2, .ref q), (3, .int (nI k))] := hl
            refine lv_aload_n hx hb dX0_pullTowards_78 rfl (lv_at hl 2 rfl) ?_
            refine va_get (D := D) (ci := 0) (v := .ref cp) (C := RX0) (T := TX0) (N := 3) hx hb hts in_X0_pullTowards_X0 hown hE.1 hP 0 rfl rfl 2 (by decide) (hts _ fl_X0_pullTowards_18) (fun _ h9 => h9) rfl dX0_pullTowards_79 ?_
            refine lv_iload hx hb dX0_pullTowards_82 (lv_at hl 1 rfl) ?_
            refine lv_dup2_11 hx hb dX0_pullTowards_84 rfl rfl ?_
            refine r_lld hx hb hE hP 3 rfl (k := a1) (by omega) (by decide) dX0_pullTowards_85 ?_
            refine lv_aload_n hx hb dX0_pullTowards_86 rfl (lv_at hl 4 rfl) ?_
            refine va_getN (D := D) (ci := 2) (v := .ref qc) (C := RX2) (T := TX2) (N := 5) hx hb hts in_X0_pullTowards_X2 hown hE.1 hP 4 rfl rfl 2 (by decide) (va_Nw.use rfl hE.2.1.2.2.1) (fun _ h9 => h9) rfl dX0_pullTowards_87 ?_
            refine lv_iload_n hx hb dX0_pullTowards_90 rfl (lv_at hl 5 rfl) ?_
            refine r_lld hx hb hE hP 7 rfl (k := k) (by omega) (by decide) dX0_pullTowards_91 ?_
            refine r_ladd hx hb dX0_pullTowards_92 ?_
            refine r_lst hx hb hE hP hD hS 3 rfl (k := a1) (x := ((adT (fs (fr k)) (fs (tt k)) c0 (ct k) (plF fs c0 fr tt ct pu k)) a1) + (ct k)) (by omega) (by decide) dX0_pullTowards_93 (fun H locs hP hD hS => ?_)
            have hP : va_P D vwCl [(h, .inr (0, [.ref cf, .ref cn, .ref cp])), (cf, .inl (cI, 200, .inl (oIf fs))), (cn, .inl (cI, 200, .inl (oIf nx))), (cp, .inl (cJ, 200, .inr (.inl (lNf (va_up (adT (fs (fr k)) (fs (tt k)) c0 (ct k) (plF fs c0 fr tt ct pu k)) a1 (((adT (fs (fr k)) (fs (tt k)) c0 (ct k) (plF fs c0 fr tt ct pu k)) a1) + (ct k))))))), (q, .inr (2, [.ref qf, .ref qt, .ref qc, .ref ql, .int (nI kn)])), (qf, .inl (cI, 1000, .inl (nIf fr))), (qt, .inl (cI, 1000, .inl (nIf tt))), (qc, .inl (cJ, 1000, .inr (.inl (lNf ct)))), (ql, .inl (cZ, 1000, .inl (bIf fa)))] H := hP
            have hD : va_D A [(h, .inr (0, [.ref cf, .ref cn, .ref cp])), (cf, .inl (cI, 200, .inl (oIf fs))), (cn, .inl (cI, 200, .inl (oIf nx))), (cp, .inl (cJ, 200, .inr (.inl (lNf (va_up (adT (fs (fr k)) (fs (tt k)) c0 (ct k) (plF fs c0 fr tt ct pu k)) a1 (((adT (fs (fr k)) (fs (tt k)) c0 (ct k) (plF fs c0 fr tt ct pu k)) a1) + (ct k))))))), (q, .inr (2, [.ref qf, .ref qt, .ref qc, .ref ql, .int (nI kn)])), (qf, .inl (cI, 1000, .inl (nIf fr))), (qt, .inl (cI, 1000, .inl (nIf tt))), (qc, .inl (cJ, 1000, .inr (.inl (lNf ct)))), (ql, .inl (cZ, 1000, .inl (bIf fa)))] := hD
            have hfe : va_up (adT (fs (fr k)) (fs (tt k)) c0 (ct k) (plF fs c0 fr tt ct pu k)) a1 (((adT (fs (fr k)) (fs (tt k)) c0 (ct k) (plF fs c0 fr tt ct pu k)) a1) + (ct k)) = adT (fs (tt k)) (fs (fr k)) c0 (ct k) (adT (fs (fr k)) (fs (tt k)) c0 (ct k) (plF fs c0 fr tt ct pu k)) := adT_yes c_67 ha1
            rw [hfe] at hP hD
            have hP : va_P D vwCl [(h, .inr (0, [.ref cf, .ref cn, .ref cp])), (cf, .inl (cI, 200, .inl (oIf fs))), (cn, .inl (cI, 200, .inl (oIf nx))), (cp, .inl (cJ, 200, .inr (.inl (lNf (adT (fs (tt k)) (fs (fr k)) c0 (ct k) (adT (fs (fr k)) (fs (tt k)) c0 (ct k) (plF fs c0 fr tt ct pu k))))))), (q, .inr (2, [.ref qf, .ref qt, .ref qc, .ref ql, .int (nI kn)])), (qf, .inl (cI, 1000, .inl (nIf fr))), (qt, .inl (cI, 1000, .inl (nIf tt))), (qc, .inl (cJ, 1000, .inr (.inl (lNf ct)))), (ql, .inl (cZ, 1000, .inl (bIf fa)))] H := hP
            have hD : va_D A [(h, .inr (0, [.ref cf, .ref cn, .ref cp])), (cf, .inl (cI, 200, .inl (oIf fs))), (cn, .inl (cI, 200, .inl (oIf nx))), (cp, .inl (cJ, 200, .inr (.inl (lNf (adT (fs (tt k)) (fs (fr k)) c0 (ct k) (adT (fs (fr k)) (fs (tt k)) c0 (ct k) (plF fs c0 fr tt ct pu k))))))), (q, .inr (2, [.ref qf, .ref qt, .ref qc, .ref ql, .int (nI kn)])), (qf, .inl (cI, 1000, .inl (nIf fr))), (qt, .inl (cI, 1000, .inl (nIf tt))), (qc, .inl (cJ, 1000, .inr (.inl (lNf ct)))), (ql, .inl (cZ, 1000, .inl (bIf fa)))] := hD
            refine lv_iinc (v := (nI (k + 1))) (lv' := [(3, .int (nI (k + 1))), (5, .int (oI (fs (tt k)))), (4, .int (nI a1)), (0, .ref h), (1, .int (nI c0)), (2, .ref q)]) hx hb dX0_pullTowards_94 hl (k := 5) rfl (nI_1 _) (by decide) rfl (fun ls hl => ?_)
            refine lv_goto (tgt := 2) hx hb dX0_pullTowards_97 (by decide) ?_
            exact ih_2 (k + 1) _ _ _ ⟨(show (k + 1) ≤ kn from by omega), hP.sub [0, 1, 2, 3, 4, 5, 6, 7, 8] rfl, hD.sub [0, 1, 2, 3, 4, 5, 6, 7, 8] (by decide) rfl, hS, lv_sub hl [3, 4, 5, 0] rfl⟩ (by show kn - (k + 1) < kn - k; omega)

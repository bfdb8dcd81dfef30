theorem flm_X4_way_17 : Cond.fieldLink RX4 17 "BlockRowsModel" "from" "[I" ∈ wsX4_way := by decide +kernel
theorem flm_X4_way_21 : Cond.fieldLink RX4 21 "BlockRowsModel" "to" "[I" ∈ wsX4_way := by decide +kernel
theorem flm_X4_way_24 : Cond.fieldLink RX4 24 "BlockRowsModel" "counts" "[J" ∈ wsX4_way := by decide +kernel
theorem flm_X4_way_28 : Cond.fieldLink RX4 28 "BlockRowsModel" "fall" "[Z" ∈ wsX4_way := by decide +kernel
theorem flm_X4_way_56 : Cond.fieldLink RX4 56 "BlockRowsModel" "ways" "I" ∈ wsX4_way := by decide +kernel
theorem flm_X4_way_59 : Cond.fieldLink RX4 59 "BlockRowsModel" "isKnown" "Z" ∈ wsX4_way := by decide +kernel
theorem inm_X4_way_X4 : ∀ w ∈ wsX40, w ∈ wsX4_way := by decide +kernel
theorem wdm_X4_way_c69 : Cond.constant RX4 69 (1000000000) ∈ wsX4_way := by decide +kernel
theorem wdm_X4_way_c76 : Cond.constantLong RX4 76 (-3) ∈ wsX4_way := by decide +kernel
theorem wdm_X4_way_c78 : Cond.constantLong RX4 78 (1000000000000000) ∈ wsX4_way := by decide +kernel
theorem wdm_X4_way_min0 : Cond.methodLink RX4 80 Lib.MathLoose.min_long.x ∈ wsX4_way := by decide +kernel
theorem wdm_X4_way_min1 : Cond.static Lib.MathLoose.min_long.x ∈ wsX4_way := by decide +kernel
theorem wdm_X4_way_min2 : Cond.initialized "java/lang/Math" ∈ wsX4_way := by decide +kernel
theorem wdm_X4_way_min3 : Cond.code Lib.MathLoose.min_long.x Lib.MathLoose.min_long.code 4 (some .long) ∈ wsX4_way := by decide +kernel
set_option maxHeartbeats 4000000 in
set_option maxRecDepth 100000 in
/-- Model.way -/
theorem k_wayOk (l : Launch) (D : va_G) (cI cJ cZ : ClassId) (o oh oF oT oC oL oB oM oN oY oZ oK oP oA n kn hs : Nat) (ik ib : Bool) (fr tt ct : Nat → Nat) (fa : Nat → Bool) (hn : n ≤ 200) (hkn : kn ≤ 1000) (hB : WB fr tt ct) (hBn : ∀ k, k < kn → fr k < n ∧ tt k < n) (hK0 : KdL (wl kn (pk fr tt ct fa))) (sz u v cn : Nat) (fl : Bool) (hu : u < n) (hv : v < n) (hcn : cn ≤ 1000000000) : Met l yX4_way wsX4_way ({ frames := 1, cells := 0, slots := 0, locals := 23 }) (PcM D cI cJ cZ [.ref o, .int (nI u), .int (nI v), .int (nI cn), .int (bI fl)] [(o, .inr (4, [.int (nI n), .ref oh, .int (nI kn), .ref oF, .ref oT, .ref oC, .ref oL, .int (bI ik), .ref oB, .ref oM, .ref oN, .ref oY, .ref oZ, .int (nI hs), .int (bI ib), .ref oK, .ref oP, .ref oA])), (oF, .inl (cI, 1000, .inl (nIf fr))), (oT, .inl (cI, 1000, .inl (nIf tt))), (oC, .inl (cJ, 1000, .inr (.inl (lNf ct)))), (oL, .inl (cZ, 1000, .inl (bIf fa)))] sz) (va_Ql (fun r (z : (Nat → Nat) × (Nat → Nat) × (Nat → Nat) × (Nat → Bool) × Nat × Bool) => MTell (wl kn (pk fr tt ct fa)) u v cn fl r n z.2.2.2.2.1 z.1 z.2.1 z.2.2.1 z.2.2.2.1 ∧ (z.2.2.2.2.2 = true → ik = true ∧ wl z.2.2.2.2.1 (pk z.1 z.2.1 z.2.2.1 z.2.2.2.1) = wl kn (pk fr tt ct fa))) (Bm D [(o, .inr (4, [.int (nI n), .ref oh, .int (nI kn), .ref oF, .ref oT, .ref oC, .ref oL, .int (bI ik), .ref oB, .ref oM, .ref oN, .ref oY, .ref oZ, .int (nI hs), .int (bI ib), .ref oK, .ref oP, .ref oA])), (oF, .inl (cI, 1000, .inl (nIf fr))), (oT, .inl (cI, 1000, .inl (nIf tt))), (oC, .inl (cJ, 1000, .inr (.inl (lNf ct)))), (oL, .inl (cZ, 1000, .inl (bIf fa)))] sz (fun z : (Nat → Nat) × (Nat → Nat) × (Nat → Nat) × (Nat → Bool) × Nat × Bool => [(o, .inr (4, [.int (nI n), .ref oh, .int (nI z.2.2.2.2.1), .ref oF, .ref oT, .ref oC, .ref oL, .int (bI z.2.2.2.2.2), .ref oB, .ref oM, .ref oN, .ref oY, .ref oZ, .int (nI hs), .int (bI ib), .ref oK, .ref oP, .ref oA])), (oF, .inl (cI, 1000, .inl (nIf z.1))), (oT, .inl (cI, 1000, .inl (nIf z.2.1))), (oC, .inl (cJ, 1000, .inr (.inl (lNf z.2.2.1)))), (oL, .inl (cZ, 1000, .inl (bIf z.2.2.2.1)))])) (va_A [(o, .inr (4, [.int (nI n), .ref oh, .int (nI kn), .ref oF, .ref oT, .ref oC, .ref oL, .int (bI ik), .ref oB, .ref oM, .ref oN, .ref oY, .ref oZ, .int (nI hs), .int (bI ib), .ref oK, .ref oP, .ref oA])), (oF, .inl (cI, 1000, .inl (nIf fr))), (oT, .inl (cI, 1000, .inl (nIf tt))), (oC, .inl (cJ, 1000, .inr (.inl (lNf ct)))), (oL, .inl (cZ, 1000, .inl (bIf fa)))] sz)) 0 0 (va_A [(o, .inr (4, [.int (nI n), .ref oh, .int (nI kn), .ref oF, .ref oT, .ref oC, .ref oL, .int (bI ik), .ref oB, .ref oM, .ref oN, .ref oY, .ref oZ, .int (nI hs), .int (bI ib), .ref oK, .ref oP, .ref oA])), (oF, .inl (cI, 1000, .inl (nIf fr))), (oT, .inl (cI, 1000, .inl (nIf tt))), (oC, .inl (cJ, 1000, .inr (.inl (lNf ct)))), (oL, .inl (cZ, 1000, .inl (bIf fa)))] sz) := by
  refine startM (cc := cX4_way) (maxL := 6) (ret := (some .long)) (by decide) rfl (Nat.le_of_ble_eq_true rfl) ?_
  intro p e s m below meth c ls A hA hAe hx hb hr hml hown hts hlocks hin hE hP hD hS hl
  have hl : lv_has ls 6 [(0, .ref o), (1, .int (nI u)), (2, .int (nI v)), (3, .int (nI cn)), (4, .int (bI fl))] := hl
  refine lv_aload_n hx hb dX4_way_0 rfl (lv_at hl 0 rfl) ?_
  refine lv_iload_n hx hb dX4_way_1 rfl (lv_at hl 1 rfl) ?_
  refine callRi (As := [.int (nI u)]) (rest := []) ⟨hx, hb, hml, hown, hts⟩ (k_isBlock l D cI cJ cZ o oh oF oT oC oL oB oM oN oY oZ oK oP oA n kn hs ik ib hn (nI u)) (cwV 1 hts gX4_way_X4_isBlock rfl rfl rfl (by decide +kernel) ⟨Nat.le_of_ble_eq_true rfl, Nat.le_of_ble_eq_true rfl⟩) (preR hE hP 4 0 rfl rfl rfl [0] rfl) rfl hl.1 (Nat.le_of_ble_eq_true rfl) dX4_way_2 ⟨Nat.zero_le _, Nat.zero_le _⟩ rfl (fun r_2 hr_2 => ?_)
  subst hr_2
  refine r_b_eq (tgt := 16) hx hb dX4_way_5 (by decide) (fun c_5 => ?_) (fun c_5 => ?_)
  · skip
    exact absurd c_5 (by rw [isB_nI (by omega)]; simp; omega)
  · skip
    refine lv_aload_n hx hb dX4_way_8 rfl (lv_at hl 0 rfl) ?_
    refine lv_iload_n hx hb dX4_way_9 rfl (lv_at hl 2 rfl) ?_
    refine callRi (As := [.int (nI v)]) (rest := []) ⟨hx, hb, hml, hown, hts⟩ (k_isBlock l D cI cJ cZ o oh oF oT oC oL oB oM oN oY oZ oK oP oA n kn hs ik ib hn (nI v)) (cwV 1 hts gX4_way_X4_isBlock rfl rfl rfl (by decide +kernel) ⟨Nat.le_of_ble_eq_true rfl, Nat.le_of_ble_eq_true rfl⟩) (preR hE hP 4 0 rfl rfl rfl [0] rfl) rfl hl.1 (Nat.le_of_ble_eq_true rfl) dX4_way_10 ⟨Nat.zero_le _, Nat.zero_le _⟩ rfl (fun r_10 hr_10 => ?_)
    subst hr_10
    refine r_b_ne (tgt := 20) hx hb dX4_way_13 (by decide) (fun c_13 => ?_) (fun c_13 => ?_)
    · skip
      refine lv_iload_n hx hb dX4_way_20 rfl (lv_at hl 3 rfl) ?_
      refine lv_if_lt (tgt := 30) hx hb dX4_way_21 (by decide) (fun c_21 => ?_) (fun c_21 => ?_)
      · skip
        exact absurd c_21 (nI_pos (by omega))
      · skip
        refine lv_iload_n hx hb dX4_way_24 rfl (lv_at hl 3 rfl) ?_
        refine lv_ldc (v := 1000000000) hx hb hown (hts _ wdm_X4_way_c69) dX4_way_25 ?_
        refine r_as (w := .int (nI 1000000000)) (by decide) ?_
        refine r_icmp_le (tgt := 34) hx hb (x := cn) (y := 1000000000) (by omega) (by omega) dX4_way_27 (by decide) (fun c_27 => ?_) (fun c_27 => ?_)
        · skip
          refine lv_aload_n hx hb dX4_way_34 rfl (lv_at hl 0 rfl) ?_
          refine lv_iload_n hx hb dX4_way_35 rfl (lv_at hl 1 rfl) ?_
          refine lv_iload_n hx hb dX4_way_36 rfl (lv_at hl 2 rfl) ?_
          refine callRi (As := [.int (nI u), .int (nI v)]) (rest := []) ⟨hx, hb, hml, hown, hts⟩ (k_find l D cI cJ cZ o oh oF oT oC oL oB oM oN oY oZ oK oP oA n kn hs ik ib fr tt hkn (nI u) (nI v)) (cwV 2 hts gX4_way_X4_find rfl rfl rfl (by decide +kernel) ⟨Nat.le_of_ble_eq_true rfl, Nat.le_of_ble_eq_true rfl⟩) (preR hE hP 4 0 rfl rfl rfl [0, 1, 2] rfl) rfl hl.1 (Nat.le_of_ble_eq_true rfl) dX4_way_37 ⟨Nat.zero_le _, Nat.zero_le _⟩ rfl (fun r_37 hr_37 => ?_)
          obtain ⟨o1, rfl, hF⟩ := hr_37
          have hob : ∀ j, o1 = some j → j < 1000 := fun j hj => by subst hj; exact Nat.lt_of_lt_of_le hF.1 hkn
          refine lv_istore (lv' := [(5, .int (oI o1)), (0, .ref o), (1, .int (nI u)), (2, .int (nI v)), (3, .int (nI cn)), (4, .int (bI fl))]) hx hb dX4_way_40 hl (by decide) rfl (fun ls hl => ?_)
          refine lv_iload hx hb dX4_way_42 (lv_at hl 0 rfl) ?_
          refine r_o_ge0 (tgt := 101) hx hb (fun j hj => by have := hob j hj; omega) dX4_way_44 (by decide) (fun c_44 => ?_) (fun c_44 => ?_)
          · skip
            obtain ⟨k, rfl⟩ := Option.ne_none_iff_exists'.mp c_44
            have hk2 := hob k rfl
            have hctk := (hB k).2.2
            have hl : lv_has ls 6 [(5, .int (nI k)), (0, .ref o), (1, .int (nI u)), (2, .int (nI v)), (3, .int (nI cn)), (4, .int (bI fl))] := hl
            refine lv_aload_n hx hb dX4_way_101 rfl (lv_at hl 1 rfl) ?_
            refine va_get (D := D) (ci := 4) (v := .ref oC) (C := RX4) (T := TX4) (N := 18) hx hb hts inm_X4_way_X4 hown hE.1 hP 0 rfl rfl 5 (by decide) (hts _ flm_X4_way_24) (fun _ h9 => h9) rfl dX4_way_102 ?_
            refine lv_iload hx hb dX4_way_105 (lv_at hl 0 rfl) ?_
            refine lv_aload_n hx hb dX4_way_107 rfl (lv_at hl 1 rfl) ?_
            refine va_get (D := D) (ci := 4) (v := .ref oC) (C := RX4) (T := TX4) (N := 18) hx hb hts inm_X4_way_X4 hown hE.1 hP 0 rfl rfl 5 (by decide) (hts _ flm_X4_way_24) (fun _ h9 => h9) rfl dX4_way_108 ?_
            refine lv_iload hx hb dX4_way_111 (lv_at hl 0 rfl) ?_
            refine r_lld hx hb hE hP 3 rfl (k := k) (by omega) (by decide) dX4_way_113 ?_
            refine lv_iload_n hx hb dX4_way_114 rfl (lv_at hl 4 rfl) ?_
            refine r_i2l hx hb (by omega) dX4_way_115 ?_
            refine r_ladd hx hb dX4_way_116 ?_
            refine lv_ldc2 (v := 1000000000000000) hx hb hown (hts _ wdm_X4_way_c78) dX4_way_117 ?_
            refine r_as (w := .long (lN 1000000000000000)) (by decide) ?_
            refine r_lmin hx hb (hml.trans hl.1.symm) hown (hts _ wdm_X4_way_min0) (hts _ wdm_X4_way_min1) (hts _ wdm_X4_way_min2) (hts _ wdm_X4_way_min3) (Nat.le_of_ble_eq_true rfl) (Nat.le_of_ble_eq_true rfl) (Nat.zero_le _) (Nat.zero_le _) (x := (ct k) + cn) (y := 1000000000000000) (by omega) (by decide) dX4_way_120 ?_
            obtain ⟨c1, hc1⟩ : ∃ c1, c1 = min ((ct k) + cn) 1000000000000000 := ⟨_, rfl⟩
            rw [← hc1]
            refine r_lst hx hb hE hP hD hS 3 rfl (k := k) (x := c1) (by omega) (by decide) dX4_way_123 (fun H locs hP hD hS => ?_)
            have hP : va_P D vwCl [(o, .inr (4, [.int (nI n), .ref oh, .int (nI kn), .ref oF, .ref oT, .ref oC, .ref oL, .int (bI ik), .ref oB, .ref oM, .ref oN, .ref oY, .ref oZ, .int (nI hs), .int (bI ib), .ref oK, .ref oP, .ref oA])), (oF, .inl (cI, 1000, .inl (nIf fr))), (oT, .inl (cI, 1000, .inl (nIf tt))), (oC, .inl (cJ, 1000, .inr (.inl (lNf (va_up ct k c1))))), (oL, .inl (cZ, 1000, .inl (bIf fa)))] H := hP
            have hD : va_D A [(o, .inr (4, [.int (nI n), .ref oh, .int (nI kn), .ref oF, .ref oT, .ref oC, .ref oL, .int (bI ik), .ref oB, .ref oM, .ref oN, .ref oY, .ref oZ, .int (nI hs), .int (bI ib), .ref oK, .ref oP, .ref oA])), (oF, .inl (cI, 1000, .inl (nIf fr))), (oT, .inl (cI, 1000, .inl (nIf tt))), (oC, .inl (cJ, 1000, .inr (.inl (lNf (va_up ct k c1))))), (oL, .inl (cZ, 1000, .inl (bIf fa)))] := hD
            refine lv_aload_n hx hb dX4_way_124 rfl (lv_at hl 1 rfl) ?_
            refine va_get (D := D) (ci := 4) (v := .ref oL) (C := RX4) (T := TX4) (N := 18) hx hb hts inm_X4_way_X4 hown hE.1 hP 0 rfl rfl 6 (by decide) (hts _ flm_X4_way_28) (fun _ h9 => h9) rfl dX4_way_125 ?_
            refine lv_iload hx hb dX4_way_128 (lv_at hl 0 rfl) ?_
            refine lv_iload hx hb dX4_way_130 (lv_at hl 5 rfl) ?_
            refine r_bst hx hb hE hP hD hS 4 rfl (k := k) fl rfl (by omega) (by decide) dX4_way_132 (fun H locs hP hD hS => ?_)
            have hP : va_P D vwCl [(o, .inr (4, [.int (nI n), .ref oh, .int (nI kn), .ref oF, .ref oT, .ref oC, .ref oL, .int (bI ik), .ref oB, .ref oM, .ref oN, .ref oY, .ref oZ, .int (nI hs), .int (bI ib), .ref oK, .ref oP, .ref oA])), (oF, .inl (cI, 1000, .inl (nIf fr))), (oT, .inl (cI, 1000, .inl (nIf tt))), (oC, .inl (cJ, 1000, .inr (.inl (lNf (va_up ct k c1))))), (oL, .inl (cZ, 1000, .inl (bIf (va_up fa k fl))))] H := hP
            have hD : va_D A [(o, .inr (4, [.int (nI n), .ref oh, .int (nI kn), .ref oF, .ref oT, .ref oC, .ref oL, .int (bI ik), .ref oB, .ref oM, .ref oN, .ref oY, .ref oZ, .int (nI hs), .int (bI ib), .ref oK, .ref oP, .ref oA])), (oF, .inl (cI, 1000, .inl (nIf fr))), (oT, .inl (cI, 1000, .inl (nIf tt))), (oC, .inl (cJ, 1000, .inr (.inl (lNf (va_up ct k c1))))), (oL, .inl (cZ, 1000, .inl (bIf (va_up fa k fl))))] := hD
            refine lv_aload_n hx hb dX4_way_133 rfl (lv_at hl 1 rfl) ?_
            refine lv_iconst (v := bI false) hx hb dX4_way_134 (by decide) ?_
            refine va_put (D := D) (ci := 4) (v := .int (bI false)) (ty := .boolean) (C := RX4) (T := TX4) (N := 18) hx hb hts inm_X4_way_X4 tyX4 tyX4_ok nmX4 hown hE.1 hP hD hS 0 rfl rfl 7 (by decide) (hts _ flm_X4_way_59) (fun _ h9 => h9) rfl (by decide +kernel) (bI_narrow _) (bI_fits _) (Nat.le_of_ble_eq_true rfl) dX4_way_135 (fun H locs hP hD hS => ?_)
            have hP : va_P D vwCl [(o, .inr (4, [.int (nI n), .ref oh, .int (nI kn), .ref oF, .ref oT, .ref oC, .ref oL, .int (bI false), .ref oB, .ref oM, .ref oN, .ref oY, .ref oZ, .int (nI hs), .int (bI ib), .ref oK, .ref oP, .ref oA])), (oF, .inl (cI, 1000, .inl (nIf fr))), (oT, .inl (cI, 1000, .inl (nIf tt))), (oC, .inl (cJ, 1000, .inr (.inl (lNf (va_up ct k c1))))), (oL, .inl (cZ, 1000, .inl (bIf (va_up fa k fl))))] H := hP
            have hD : va_D A [(o, .inr (4, [.int (nI n), .ref oh, .int (nI kn), .ref oF, .ref oT, .ref oC, .ref oL, .int (bI false), .ref oB, .ref oM, .ref oN, .ref oY, .ref oZ, .int (nI hs), .int (bI ib), .ref oK, .ref oP, .ref oA])), (oF, .inl (cI, 1000, .inl (nIf fr))), (oT, .inl (cI, 1000, .inl (nIf tt))), (oC, .inl (cJ, 1000, .inr (.inl (lNf (va_up ct k c1))))), (oL, .inl (cZ, 1000, .inl (bIf (va_up fa k fl))))] := hD
            refine lv_aload_n hx hb dX4_way_138 rfl (lv_at hl 1 rfl) ?_
            refine va_get (D := D) (ci := 4) (v := .ref oC) (C := RX4) (T := TX4) (N := 18) hx hb hts inm_X4_way_X4 hown hE.1 hP 0 rfl rfl 5 (by decide) (hts _ flm_X4_way_24) (fun _ h9 => h9) rfl dX4_way_139 ?_
            refine lv_iload hx hb dX4_way_142 (lv_at hl 0 rfl) ?_
            refine r_lld hx hb hE hP 3 rfl (k := k) (by omega) (by decide) dX4_way_144 ?_
            exact e_ml (fr, tt, va_up ct k c1, va_up fa k fl, kn, false) hAe hx hb hr hlocks dX4_way_145 hP hD hS (mt_old hB hBn hK0 hu hv hn hkn hF hc1)
          · skip
            rw [c_44] at hF
            refine lv_aload_n hx hb dX4_way_47 rfl (lv_at hl 1 rfl) ?_
            refine va_get (D := D) (ci := 4) (v := .int (nI kn)) (C := RX4) (T := TX4) (N := 18) hx hb hts inm_X4_way_X4 hown hE.1 hP 0 rfl rfl 2 (by decide) (hts _ flm_X4_way_56) (fun _ h9 => h9) rfl dX4_way_48 ?_
            refine lv_sipush (v := nI 1000) hx hb dX4_way_51 (by decide) ?_
            refine r_icmp_ne (tgt := 61) hx hb (x := kn) (y := 1000) (by omega) (by omega) dX4_way_54 (by decide) (fun c_54 => ?_) (fun c_54 => ?_)
            · skip
              have hkl : kn < 1000 := by omega
              have hctk : va_up ct kn 0 kn ≤ 1000000000000000 := by rw [va_up_self]; omega
              refine lv_aload_n hx hb dX4_way_61 rfl (lv_at hl 1 rfl) ?_
              refine va_get (D := D) (ci := 4) (v := .int (nI kn)) (C := RX4) (T := TX4) (N := 18) hx hb hts inm_X4_way_X4 hown hE.1 hP 0 rfl rfl 2 (by decide) (hts _ flm_X4_way_56) (fun _ h9 => h9) rfl dX4_way_62 ?_
              refine lv_istore (lv' := [(5, .int (nI kn)), (0, .ref o), (1, .int (nI u)), (2, .int (nI v)), (3, .int (nI cn)), (4, .int (bI fl))]) hx hb dX4_way_65 hl (by decide) rfl (fun ls hl => ?_)
              refine lv_aload_n hx hb dX4_way_67 rfl (lv_at hl 1 rfl) ?_
              refine lv_dup hx hb dX4_way_68 rfl ?_
              refine va_get (D := D) (ci := 4) (v := .int (nI kn)) (C := RX4) (T := TX4) (N := 18) hx hb hts inm_X4_way_X4 hown hE.1 hP 0 rfl rfl 2 (by decide) (hts _ flm_X4_way_56) (fun _ h9 => h9) rfl dX4_way_69 ?_
              refine lv_iconst (v := nI 1) hx hb dX4_way_72 (by decide) ?_
              refine r_iadd hx hb dX4_way_73 ?_
              refine va_put (D := D) (ci := 4) (v := .int (nI (kn + 1))) (ty := .int) (C := RX4) (T := TX4) (N := 18) hx hb hts inm_X4_way_X4 tyX4 tyX4_ok nmX4 hown hE.1 hP hD hS 0 rfl rfl 2 (by decide) (hts _ flm_X4_way_56) (fun _ h9 => h9) rfl (by decide +kernel) rfl rfl (Nat.le_of_ble_eq_true rfl) dX4_way_74 (fun H locs hP hD hS => ?_)
              have hP : va_P D vwCl [(o, .inr (4, [.int (nI n), .ref oh, .int (nI (kn + 1)), .ref oF, .ref oT, .ref oC, .ref oL, .int (bI ik), .ref oB, .ref oM, .ref oN, .ref oY, .ref oZ, .int (nI hs), .int (bI ib), .ref oK, .ref oP, .ref oA])), (oF, .inl (cI, 1000, .inl (nIf fr))), (oT, .inl (cI, 1000, .inl (nIf tt))), (oC, .inl (cJ, 1000, .inr (.inl (lNf ct)))), (oL, .inl (cZ, 1000, .inl (bIf fa)))] H := hP
              have hD : va_D A [(o, .inr (4, [.int (nI n), .ref oh, .int (nI (kn + 1)), .ref oF, .ref oT, .ref oC, .ref oL, .int (bI ik), .ref oB, .ref oM, .ref oN, .ref oY, .ref oZ, .int (nI hs), .int (bI ib), .ref oK, .ref oP, .ref oA])), (oF, .inl (cI, 1000, .inl (nIf fr))), (oT, .inl (cI, 1000, .inl (nIf tt))), (oC, .inl (cJ, 1000, .inr (.inl (lNf ct)))), (oL, .inl (cZ, 1000, .inl (bIf fa)))] := hD
              refine lv_aload_n hx hb dX4_way_77 rfl (lv_at hl 1 rfl) ?_
              refine va_get (D := D) (ci := 4) (v := .ref oF) (C := RX4) (T := TX4) (N := 18) hx hb hts inm_X4_way_X4 hown hE.1 hP 0 rfl rfl 3 (by decide) (hts _ flm_X4_way_17) (fun _ h9 => h9) rfl dX4_way_78 ?_
              refine lv_iload hx hb dX4_way_81 (lv_at hl 0 rfl) ?_
              refine lv_iload_n hx hb dX4_way_83 rfl (lv_at hl 2 rfl) ?_
              refine r_nst hx hb hE hP hD hS 1 rfl (k := kn) (x := u) (by omega) (by decide) dX4_way_84 (fun H locs hP hD hS => ?_)
              have hP : va_P D vwCl [(o, .inr (4, [.int (nI n), .ref oh, .int (nI (kn + 1)), .ref oF, .ref oT, .ref oC, .ref oL, .int (bI ik), .ref oB, .ref oM, .ref oN, .ref oY, .ref oZ, .int (nI hs), .int (bI ib), .ref oK, .ref oP, .ref oA])), (oF, .inl (cI, 1000, .inl (nIf (va_up fr kn u)))), (oT, .inl (cI, 1000, .inl (nIf tt))), (oC, .inl (cJ, 1000, .inr (.inl (lNf ct)))), (oL, .inl (cZ, 1000, .inl (bIf fa)))] H := hP
              have hD : va_D A [(o, .inr (4, [.int (nI n), .ref oh, .int (nI (kn + 1)), .ref oF, .ref oT, .ref oC, .ref oL, .int (bI ik), .ref oB, .ref oM, .ref oN, .ref oY, .ref oZ, .int (nI hs), .int (bI ib), .ref oK, .ref oP, .ref oA])), (oF, .inl (cI, 1000, .inl (nIf (va_up fr kn u)))), (oT, .inl (cI, 1000, .inl (nIf tt))), (oC, .inl (cJ, 1000, .inr (.inl (lNf ct)))), (oL, .inl (cZ, 1000, .inl (bIf fa)))] := hD
              refine lv_aload_n hx hb dX4_way_85 rfl (lv_at hl 1 rfl) ?_
              refine va_get (D := D) (ci := 4) (v := .ref oT) (C := RX4) (T := TX4) (N := 18) hx hb hts inm_X4_way_X4 hown hE.1 hP 0 rfl rfl 4 (by decide) (hts _ flm_X4_way_21) (fun _ h9 => h9) rfl dX4_way_86 ?_
              refine lv_iload hx hb dX4_way_89 (lv_at hl 0 rfl) ?_
              refine lv_iload_n hx hb dX4_way_91 rfl (lv_at hl 3 rfl) ?_
              refine r_nst hx hb hE hP hD hS 2 rfl (k := kn) (x := v) (by omega) (by decide) dX4_way_92 (fun H locs hP hD hS => ?_)
              have hP : va_P D vwCl [(o, .inr (4, [.int (nI n), .ref oh, .int (nI (kn + 1)), .ref oF, .ref oT, .ref oC, .ref oL, .int (bI ik), .ref oB, .ref oM, .ref oN, .ref oY, .ref oZ, .int (nI hs), .int (bI ib), .ref oK, .ref oP, .ref oA])), (oF, .inl (cI, 1000, .inl (nIf (va_up fr kn u)))), (oT, .inl (cI, 1000, .inl (nIf (va_up tt kn v)))), (oC, .inl (cJ, 1000, .inr (.inl (lNf ct)))), (oL, .inl (cZ, 1000, .inl (bIf fa)))] H := hP
              have hD : va_D A [(o, .inr (4, [.int (nI n), .ref oh, .int (nI (kn + 1)), .ref oF, .ref oT, .ref oC, .ref oL, .int (bI ik), .ref oB, .ref oM, .ref oN, .ref oY, .ref oZ, .int (nI hs), .int (bI ib), .ref oK, .ref oP, .ref oA])), (oF, .inl (cI, 1000, .inl (nIf (va_up fr kn u)))), (oT, .inl (cI, 1000, .inl (nIf (va_up tt kn v)))), (oC, .inl (cJ, 1000, .inr (.inl (lNf ct)))), (oL, .inl (cZ, 1000, .inl (bIf fa)))] := hD
              refine lv_aload_n hx hb dX4_way_93 rfl (lv_at hl 1 rfl) ?_
              refine va_get (D := D) (ci := 4) (v := .ref oC) (C := RX4) (T := TX4) (N := 18) hx hb hts inm_X4_way_X4 hown hE.1 hP 0 rfl rfl 5 (by decide) (hts _ flm_X4_way_24) (fun _ h9 => h9) rfl dX4_way_94 ?_
              refine lv_iload hx hb dX4_way_97 (lv_at hl 0 rfl) ?_
              refine lv_lconst (v := lN 0) hx hb dX4_way_99 (by decide) ?_
              refine r_lst hx hb hE hP hD hS 3 rfl (k := kn) (x := 0) (by omega) (by decide) dX4_way_100 (fun H locs hP hD hS => ?_)
              have hP : va_P D vwCl [(o, .inr (4, [.int (nI n), .ref oh, .int (nI (kn + 1)), .ref oF, .ref oT, .ref oC, .ref oL, .int (bI ik), .ref oB, .ref oM, .ref oN, .ref oY, .ref oZ, .int (nI hs), .int (bI ib), .ref oK, .ref oP, .ref oA])), (oF, .inl (cI, 1000, .inl (nIf (va_up fr kn u)))), (oT, .inl (cI, 1000, .inl (nIf (va_up tt kn v)))), (oC, .inl (cJ, 1000, .inr (.inl (lNf (va_up ct kn 0))))), (oL, .inl (cZ, 1000, .inl (bIf fa)))] H := hP
              have hD : va_D A [(o, .inr (4, [.int (nI n), .ref oh, .int (nI (kn + 1)), .ref oF, .ref oT, .ref oC, .ref oL, .int (bI ik), .ref oB, .ref oM, .ref oN, .ref oY, .ref oZ, .int (nI hs), .int (bI ib), .ref oK, .ref oP, .ref oA])), (oF, .inl (cI, 1000, .inl (nIf (va_up fr kn u)))), (oT, .inl (cI, 1000, .inl (nIf (va_up tt kn v)))), (oC, .inl (cJ, 1000, .inr (.inl (lNf (va_up ct kn 0))))), (oL, .inl (cZ, 1000, .inl (bIf fa)))] := hD
              refine lv_aload_n hx hb dX4_way_101 rfl (lv_at hl 1 rfl) ?_
              refine va_get (D := D) (ci := 4) (v := .ref oC) (C := RX4) (T := TX4) (N := 18) hx hb hts inm_X4_way_X4 hown hE.1 hP 0 rfl rfl 5 (by decide) (hts _ flm_X4_way_24) (fun _ h9 => h9) rfl dX4_way_102 ?_
              refine lv_iload hx hb dX4_way_105 (lv_at hl 0 rfl) ?_
              refine lv_aload_n hx hb dX4_way_107 rfl (lv_at hl 1 rfl) ?_
              refine va_get (D := D) (ci := 4) (v := .ref oC) (C := RX4) (T := TX4) (N := 18) hx hb hts inm_X4_way_X4 hown hE.1 hP 0 rfl rfl 5 (by decide) (hts _ flm_X4_way_24) (fun _ h9 => h9) rfl dX4_way_108 ?_
              refine lv_iload hx hb dX4_way_111 (lv_at hl 0 rfl) ?_
              refine r_lld hx hb hE hP 3 rfl (k := kn) (by omega) (by decide) dX4_way_113 ?_
              refine lv_iload_n hx hb dX4_way_114 rfl (lv_at hl 4 rfl) ?_
              refine r_i2l hx hb (by omega) dX4_way_115 ?_
              refine r_ladd hx hb dX4_way_116 ?_
              refine lv_ldc2 (v := 1000000000000000) hx hb hown (hts _ wdm_X4_way_c78) dX4_way_117 ?_
              refine r_as (w := .long (lN 1000000000000000)) (by decide) ?_
              refine r_lmin hx hb (hml.trans hl.1.symm) hown (hts _ wdm_X4_way_min0) (hts _ wdm_X4_way_min1) (hts _ wdm_X4_way_min2) (hts _ wdm_X4_way_min3) (Nat.le_of_ble_eq_true rfl) (Nat.le_of_ble_eq_true rfl) (Nat.zero_le _) (Nat.zero_le _) (x := ((va_up ct kn 0) kn) + cn) (y := 1000000000000000) (by omega) (by decide) dX4_way_120 ?_
              obtain ⟨c1, hc1⟩ : ∃ c1, c1 = min (((va_up ct kn 0) kn) + cn) 1000000000000000 := ⟨_, rfl⟩
              rw [← hc1]
              refine r_lst hx hb hE hP hD hS 3 rfl (k := kn) (x := c1) (by omega) (by decide) dX4_way_123 (fun H locs hP hD hS => ?_)
              have hP : va_P D vwCl [(o, .inr (4, [.int (nI n), .ref oh, .int (nI (kn + 1)), .ref oF, .ref oT, .ref oC, .ref oL, .int (bI ik), .ref oB, .ref oM, .ref oN, .ref oY, .ref oZ, .int (nI hs), .int (bI ib), .ref oK, .ref oP, .ref oA])), (oF, .inl (cI, 1000, .inl (nIf (va_up fr kn u)))), (oT, .inl (cI, 1000, .inl (nIf (va_up tt kn v)))), (oC, .inl (cJ, 1000, .inr (.inl (lNf (va_up (va_up ct kn 0) kn c1))))), (oL, .inl (cZ, 1000, .inl (bIf fa)))] H := hP
              have hD : va_D A [(o, .inr (4, [.int (nI n), .ref oh, .int (nI (kn + 1)), .ref oF, .ref oT, .ref oC, .ref oL, .int (bI ik), .ref oB, .ref oM, .ref oN, .ref oY, .ref oZ, .int (nI hs), .int (bI ib), .ref oK, .ref oP, .ref oA])), (oF, .inl (cI, 1000, .inl (nIf (va_up fr kn u)))), (oT, .inl (cI, 1000, .inl (nIf (va_up tt kn v)))), (oC, .inl (cJ, 1000, .inr (.inl (lNf (va_up (va_up ct kn 0) kn c1))))), (oL, .inl (cZ, 1000, .inl (bIf fa)))] := hD
              refine lv_aload_n hx hb dX4_way_124 rfl (lv_at hl 1 rfl) ?_
              refine va_get (D := D) (ci := 4) (v := .ref oL) (C := RX4) (T := TX4) (N := 18) hx hb hts inm_X4_way_X4 hown hE.1 hP 0 rfl rfl 6 (by decide) (hts _ flm_X4_way_28) (fun _ h9 => h9) rfl dX4_way_125 ?_
              refine lv_iload hx hb dX4_way_128 (lv_at hl 0 rfl) ?_
              refine lv_iload hx hb dX4_way_130 (lv_at hl 5 rfl) ?_
              refine r_bst hx hb hE hP hD hS 4 rfl (k := kn) fl rfl (by omega) (by decide) dX4_way_132 (fun H locs hP hD hS => ?_)
              have hP : va_P D vwCl [(o, .inr (4, [.int (nI n), .ref oh, .int (nI (kn + 1)), .ref oF, .ref oT, .ref oC, .ref oL, .int (bI ik), .ref oB, .ref oM, .ref oN, .ref oY, .ref oZ, .int (nI hs), .int (bI ib), .ref oK, .ref oP, .ref oA])), (oF, .inl (cI, 1000, .inl (nIf (va_up fr kn u)))), (oT, .inl (cI, 1000, .inl (nIf (va_up tt kn v)))), (oC, .inl (cJ, 1000, .inr (.inl (lNf (va_up (va_up ct kn 0) kn c1))))), (oL, .inl (cZ, 1000, .inl (bIf (va_up fa kn fl))))] H := hP
              have hD : va_D A [(o, .inr (4, [.int (nI n), .ref oh, .int (nI (kn + 1)), .ref oF, .ref oT, .ref oC, .ref oL, .int (bI ik), .ref oB, .ref oM, .ref oN, .ref oY, .ref oZ, .int (nI hs), .int (bI ib), .ref oK, .ref oP, .ref oA])), (oF, .inl (cI, 1000, .inl (nIf (va_up fr kn u)))), (oT, .inl (cI, 1000, .inl (nIf (va_up tt kn v)))), (oC, .inl (cJ, 1000, .inr (.inl (lNf (va_up (va_up ct kn 0) kn c1))))), (oL, .inl (cZ, 1000, .inl (bIf (va_up fa kn fl))))] := hD
              refine lv_aload_n hx hb dX4_way_133 rfl (lv_at hl 1 rfl) ?_
              refine lv_iconst (v := bI false) hx hb dX4_way_134 (by decide) ?_
              refine va_put (D := D) (ci := 4) (v := .int (bI false)) (ty := .boolean) (C := RX4) (T := TX4) (N := 18) hx hb hts inm_X4_way_X4 tyX4 tyX4_ok nmX4 hown hE.1 hP hD hS 0 rfl rfl 7 (by decide) (hts _ flm_X4_way_59) (fun _ h9 => h9) rfl (by decide +kernel) (bI_narrow _) (bI_fits _) (Nat.le_of_ble_eq_true rfl) dX4_way_135 (fun H locs hP hD hS => ?_)
              have hP : va_P D vwCl [(o, .inr (4, [.int (nI n), .ref oh, .int (nI (kn + 1)), .ref oF, .ref oT, .ref oC, .ref oL, .int (bI false), .ref oB, .ref oM, .ref oN, .ref oY, .ref oZ, .int (nI hs), .int (bI ib), .ref oK, .ref oP, .ref oA])), (oF, .inl (cI, 1000, .inl (nIf (va_up fr kn u)))), (oT, .inl (cI, 1000, .inl (nIf (va_up tt kn v)))), (oC, .inl (cJ, 1000, .inr (.inl (lNf (va_up (va_up ct kn 0) kn c1))))), (oL, .inl (cZ, 1000, .inl (bIf (va_up fa kn fl))))] H := hP
              have hD : va_D A [(o, .inr (4, [.int (nI n), .ref oh, .int (nI (kn + 1)), .ref oF, .ref oT, .ref oC, .ref oL, .int (bI false), .ref oB, .ref oM, .ref oN, .ref oY, .ref oZ, .int (nI hs), .int (bI ib), .ref oK, .ref oP, .ref oA])), (oF, .inl (cI, 1000, .inl (nIf (va_up fr kn u)))), (oT, .inl (cI, 1000, .inl (nIf (va_up tt kn v)))), (oC, .inl (cJ, 1000, .inr (.inl (lNf (va_up (va_up ct kn 0) kn c1))))), (oL, .inl (cZ, 1000, .inl (bIf (va_up fa kn fl))))] := hD
              refine lv_aload_n hx hb dX4_way_138 rfl (lv_at hl 1 rfl) ?_
              refine va_get (D := D) (ci := 4) (v := .ref oC) (C := RX4) (T := TX4) (N := 18) hx hb hts inm_X4_way_X4 hown hE.1 hP 0 rfl rfl 5 (by decide) (hts _ flm_X4_way_24) (fun _ h9 => h9) rfl dX4_way_139 ?_
              refine lv_iload hx hb dX4_way_142 (lv_at hl 0 rfl) ?_
              refine r_lld hx hb hE hP 3 rfl (k := kn) (by omega) (by decide) dX4_way_144 ?_
              exact e_ml (va_up fr kn u, va_up tt kn v, va_up (va_up ct kn 0) kn c1, va_up fa kn fl, kn + 1, false) hAe hx hb hr hlocks dX4_way_145 hP hD hS (mt_new hB hBn hu hv hn hF hkl hc1)
            · skip
              refine lv_ldc2 (v := (-3)) hx hb hown (hts _ wdm_X4_way_c76) dX4_way_57 ?_
              exact e_ml (fr, tt, ct, fa, kn, ik) hAe hx hb hr hlocks dX4_way_60 hP hD hS (mt_full hB hBn hu hv hn hF c_54)
        · skip
          exact absurd c_27 (by omega)
    · skip
      exact absurd c_13 (by rw [isB_nI (by omega)]; simp; omega)

theorem fl_X4_weightOf_24 : Cond.fieldLink RX4 24 "BlockRowsModel" "counts" "[J" ∈ wsX4_weightOf := by decide +kernel
theorem fl_X4_weightOf_28 : Cond.fieldLink RX4 28 "BlockRowsModel" "fall" "[Z" ∈ wsX4_weightOf := by decide +kernel
theorem in_X4_weightOf_X4 : ∀ w ∈ wsX40, w ∈ wsX4_weightOf := by decide +kernel
set_option maxHeartbeats 4000000 in
set_option maxRecDepth 100000 in
/-- Model.weightOf -/
theorem k_weightOf (l : Launch) (D : va_G) (cI cJ cZ : ClassId) (o oh oF oT oC oL oB oM oN oY oZ oK oP oA n kn hs : Nat) (ik ib : Bool) (fr tt ct : Nat → Nat) (fa : Nat → Bool) (rw_ nn : Nat) (me : Nat → Nat) (hkn : kn ≤ 1000) (hB : WB fr tt ct) (hK0 : KdL (wl kn (pk fr tt ct fa))) (hnn : nn ≤ 200) (hme : ∀ i, i < nn → me i < 200) : Met l yX4_weightOf wsX4_weightOf ({ frames := 1, cells := 0, slots := 0, locals := 23 }) (PcR D cI cJ cZ [.ref o, .ref rw_, .int (nI nn)] [(o, .inr (4, [.int (nI n), .ref oh, .int (nI kn), .ref oF, .ref oT, .ref oC, .ref oL, .int (bI ik), .ref oB, .ref oM, .ref oN, .ref oY, .ref oZ, .int (nI hs), .int (bI ib), .ref oK, .ref oP, .ref oA])), (oF, .inl (cI, 1000, .inl (nIf fr))), (oT, .inl (cI, 1000, .inl (nIf tt))), (oC, .inl (cJ, 1000, .inr (.inl (lNf ct)))), (oL, .inl (cZ, 1000, .inl (bIf fa))), (rw_, .inl (cI, 200, .inl (nIf me)))]) (vp_Sl (fun r => r = lN (sumN (fun k => pairW (wl kn (pk fr tt ct fa)) (me k) (me (k + 1))) (nn - 1)))) 0 0 (fun _ => False) := by
  refine startR (cc := cX4_weightOf) (maxL := 7) (ret := (some .long)) (by decide) rfl (Nat.le_of_ble_eq_true rfl) ?_
  intro p e s m below meth c ls hx hb hr hml hown hts hlocks hE hP hl
  have hl : lv_has ls 7 [(0, .ref o), (1, .ref rw_), (2, .int (nI nn))] := hl
  refine lv_lconst (v := lN 0) hx hb dX4_weightOf_0 (by decide) ?_
  refine lv_lstore_n (lv' := [(3, .long (lN 0)), (0, .ref o), (1, .ref rw_), (2, .int (nI nn))]) hx hb dX4_weightOf_1 rfl hl (by decide) rfl (fun ls hl => ?_)
  refine lv_iconst (v := nI 0) hx hb dX4_weightOf_2 (by decide) ?_
  refine lv_istore (lv' := [(5, .int (nI 0)), (3, .long (lN 0)), (0, .ref o), (1, .ref rw_), (2, .int (nI nn))]) hx hb dX4_weightOf_3 hl (by decide) rfl (fun ls hl => ?_)
  refine r_loopR (σ := Nat) (fun z0 => nn - z0) (fun z0 ls => (z0 ≤ nn - 1) ∧ lv_has ls 7 [(0, .ref o), (1, .ref rw_), (2, .int (nI nn)), (5, .int (nI z0)), (3, .long (lN (sumN (fun k => pairW (wl kn (pk fr tt ct fa)) (me k) (me (k + 1))) z0)))]) ?_ 0 ⟨Nat.zero_le _, lv_sub hl [2, 3, 4, 0, 1] rfl⟩
  rintro k ls ⟨hi_5, hl⟩ ih_5
  have hi_5 : k ≤ nn - 1 := hi_5
  have hl : lv_has ls 7 [(0, .ref o), (1, .ref rw_), (2, .int (nI nn)), (5, .int (nI k)), (3, .long (lN (sumN (fun k => pairW (wl kn (pk fr tt ct fa)) (me k) (me (k + 1))) k)))] := hl
  refine lv_iload hx hb dX4_weightOf_5 (lv_at hl 3 rfl) ?_
  refine lv_iconst (v := nI 1) hx hb dX4_weightOf_7 (by decide) ?_
  refine r_iadd hx hb dX4_weightOf_8 ?_
  refine lv_iload_n hx hb dX4_weightOf_9 rfl (lv_at hl 2 rfl) ?_
  refine r_icmp_ge (tgt := 60) hx hb (x := k + 1) (y := nn) (by omega) (by omega) dX4_weightOf_10 (by decide) (fun c_10 => ?_) (fun c_10 => ?_)
  · skip
    refine lv_lload_n hx hb dX4_weightOf_60 rfl (lv_at hl 4 rfl) ?_
    exact e_l hx hb hr hlocks dX4_weightOf_61 (by rw [show k = nn - 1 by omega])
  · skip
    have m1 := hme k (by omega)
    have m2 := hme (k + 1) (by omega)
    refine lv_aload_n hx hb dX4_weightOf_13 rfl (lv_at hl 0 rfl) ?_
    refine lv_aload_n hx hb dX4_weightOf_14 rfl (lv_at hl 1 rfl) ?_
    refine lv_iload hx hb dX4_weightOf_15 (lv_at hl 3 rfl) ?_
    refine r_nld hx hb hE hP 5 rfl (k := k) (by omega) (by decide) dX4_weightOf_17 ?_
    refine lv_aload_n hx hb dX4_weightOf_18 rfl (lv_at hl 1 rfl) ?_
    refine lv_iload hx hb dX4_weightOf_19 (lv_at hl 3 rfl) ?_
    refine lv_iconst (v := nI 1) hx hb dX4_weightOf_21 (by decide) ?_
    refine r_iadd hx hb dX4_weightOf_22 ?_
    refine r_nld hx hb hE hP 5 rfl (k := k + 1) (by omega) (by decide) dX4_weightOf_23 ?_
    refine callRi (As := [.int (nI (me k)), .int (nI (me (k + 1)))]) (rest := []) ⟨hx, hb, hml, hown, hts⟩ (k_find l D cI cJ cZ o oh oF oT oC oL oB oM oN oY oZ oK oP oA n kn hs ik ib fr tt hkn (nI (me k)) (nI (me (k + 1)))) (cwV 2 hts gX4_weightOf_X4_find rfl rfl rfl (by decide +kernel) ⟨Nat.le_of_ble_eq_true rfl, Nat.le_of_ble_eq_true rfl⟩) (preR hE hP 4 0 rfl rfl rfl [0, 1, 2] rfl) rfl hl.1 (Nat.le_of_ble_eq_true rfl) dX4_weightOf_24 ⟨Nat.zero_le _, Nat.zero_le _⟩ rfl (fun r_24 hr_24 => ?_)
    obtain ⟨o1, rfl, hF⟩ := hr_24
    have hob : ∀ j, o1 = some j → j < 1000 := fun j hj => by subst hj; exact Nat.lt_of_lt_of_le hF.1 hkn
    refine lv_istore (lv' := [(6, .int (oI o1)), (0, .ref o), (1, .ref rw_), (2, .int (nI nn)), (5, .int (nI k)), (3, .long (lN (sumN (fun k => pairW (wl kn (pk fr tt ct fa)) (me k) (me (k + 1))) k)))]) hx hb dX4_weightOf_27 hl (by decide) rfl (fun ls hl => ?_)
    refine lv_iload hx hb dX4_weightOf_29 (lv_at hl 0 rfl) ?_
    refine r_o_lt0 (tgt := 54) hx hb (fun j hj => by have := hob j hj; omega) dX4_weightOf_31 (by decide) (fun c_31 => ?_) (fun c_31 => ?_)
    · skip
      rw [c_31] at hF
      have hs1 : sumN (fun k => pairW (wl kn (pk fr tt ct fa)) (me k) (me (k + 1))) k = sumN (fun k => pairW (wl kn (pk fr tt ct fa)) (me k) (me (k + 1))) (k + 1) := by show _ = sumN (fun k => pairW (wl kn (pk fr tt ct fa)) (me k) (me (k + 1))) k + pairW _ _ _; rw [pw_none hB m1 m2 hF]; rfl
      rw [hs1] at hl
      have hl : lv_has ls 7 [(6, .int (oI o1)), (0, .ref o), (1, .ref rw_), (2, .int (nI nn)), (5, .int (nI k)), (3, .long (lN (sumN (fun k => pairW (wl kn (pk fr tt ct fa)) (me k) (me (k + 1))) (k + 1))))] := hl
      refine lv_iinc (v := (nI (k + 1))) (lv' := [(5, .int (nI (k + 1))), (6, .int (oI o1)), (0, .ref o), (1, .ref rw_), (2, .int (nI nn)), (3, .long (lN (sumN (fun k => pairW (wl kn (pk fr tt ct fa)) (me k) (me (k + 1))) (k + 1))))]) hx hb dX4_weightOf_54 hl (k := 4) rfl (nI_1 _) (by decide) rfl (fun ls hl => ?_)
      refine lv_goto (tgt := 5) hx hb dX4_weightOf_57 (by decide) ?_
      exact ih_5 (k + 1) _ ⟨(show (k + 1) ≤ nn - 1 from by omega), lv_sub hl [2, 3, 4, 0, 5] rfl⟩ (by show nn - (k + 1) < nn - k; omega)
    · skip
      obtain ⟨j, rfl⟩ := Option.ne_none_iff_exists'.mp c_31
      have hj2 := hob j rfl
      have hl : lv_has ls 7 [(6, .int (nI j)), (0, .ref o), (1, .ref rw_), (2, .int (nI nn)), (5, .int (nI k)), (3, .long (lN (sumN (fun k => pairW (wl kn (pk fr tt ct fa)) (me k) (me (k + 1))) k)))] := hl
      refine lv_aload_n hx hb dX4_weightOf_34 rfl (lv_at hl 1 rfl) ?_
      refine va_get (D := D) (ci := 4) (v := .ref oL) (C := RX4) (T := TX4) (N := 18) hx hb hts in_X4_weightOf_X4 hown hE.1 hP 0 rfl rfl 6 (by decide) (hts _ fl_X4_weightOf_28) (fun _ h9 => h9) rfl dX4_weightOf_35 ?_
      refine lv_iload hx hb dX4_weightOf_38 (lv_at hl 0 rfl) ?_
      refine r_bld hx hb hE hP 4 rfl (k := j) (by omega) (by decide) dX4_weightOf_40 ?_
      refine r_b_eq (tgt := 54) hx hb dX4_weightOf_41 (by decide) (fun c_41 => ?_) (fun c_41 => ?_)
      · skip
        have hs1 : sumN (fun k => pairW (wl kn (pk fr tt ct fa)) (me k) (me (k + 1))) k = sumN (fun k => pairW (wl kn (pk fr tt ct fa)) (me k) (me (k + 1))) (k + 1) := by show _ = sumN (fun k => pairW (wl kn (pk fr tt ct fa)) (me k) (me (k + 1))) k + pairW _ _ _; rw [pw_some hB hK0 m1 m2 hF, c_41]; rfl
        rw [hs1] at hl
        have hl : lv_has ls 7 [(6, .int (nI j)), (0, .ref o), (1, .ref rw_), (2, .int (nI nn)), (5, .int (nI k)), (3, .long (lN (sumN (fun k => pairW (wl kn (pk fr tt ct fa)) (me k) (me (k + 1))) (k + 1))))] := hl
        refine lv_iinc (v := (nI (k + 1))) (lv' := [(5, .int (nI (k + 1))), (6, .int (nI j)), (0, .ref o), (1, .ref rw_), (2, .int (nI nn)), (3, .long (lN (sumN (fun k => pairW (wl kn (pk fr tt ct fa)) (me k) (me (k + 1))) (k + 1))))]) hx hb dX4_weightOf_54 hl (k := 4) rfl (nI_1 _) (by decide) rfl (fun ls hl => ?_)
        refine lv_goto (tgt := 5) hx hb dX4_weightOf_57 (by decide) ?_
        exact ih_5 (k + 1) _ ⟨(show (k + 1) ≤ nn - 1 from by omega), lv_sub hl [2, 3, 4, 0, 5] rfl⟩ (by show nn - (k + 1) < nn - k; omega)
      · skip
        refine lv_lload_n hx hb dX4_weightOf_44 rfl (lv_at hl 5 rfl) ?_
        refine lv_aload_n hx hb dX4_weightOf_45 rfl (lv_at hl 1 rfl) ?_
        refine va_get (D := D) (ci := 4) (v := .ref oC) (C := RX4) (T := TX4) (N := 18) hx hb hts in_X4_weightOf_X4 hown hE.1 hP 0 rfl rfl 5 (by decide) (hts _ fl_X4_weightOf_24) (fun _ h9 => h9) rfl dX4_weightOf_46 ?_
        refine lv_iload hx hb dX4_weightOf_49 (lv_at hl 0 rfl) ?_
        refine r_lld hx hb hE hP 3 rfl (k := j) (by omega) (by decide) dX4_weightOf_51 ?_
        refine r_ladd hx hb dX4_weightOf_52 ?_
        refine lv_lstore_n (lv' := [(3, .long (lN ((sumN (fun k => pairW (wl kn (pk fr tt ct fa)) (me k) (me (k + 1))) k) + (ct j)))), (6, .int (nI j)), (0, .ref o), (1, .ref rw_), (2, .int (nI nn)), (5, .int (nI k))]) hx hb dX4_weightOf_53 rfl hl (by decide) rfl (fun ls hl => ?_)
        have hs1 : (sumN (fun k => pairW (wl kn (pk fr tt ct fa)) (me k) (me (k + 1))) k) + (ct j) = sumN (fun k => pairW (wl kn (pk fr tt ct fa)) (me k) (me (k + 1))) (k + 1) := by show _ = sumN (fun k => pairW (wl kn (pk fr tt ct fa)) (me k) (me (k + 1))) k + pairW _ _ _; rw [pw_some hB hK0 m1 m2 hF, c_41]; rfl
        rw [hs1] at hl
        have hl : lv_has ls 7 [(3, .long (lN (sumN (fun k => pairW (wl kn (pk fr tt ct fa)) (me k) (me (k + 1))) (k + 1)))), (6, .int (nI j)), (0, .ref o), (1, .ref rw_), (2, .int (nI nn)), (5, .int (nI k))] := hl
        refine lv_iinc (v := (nI (k + 1))) (lv' := [(5, .int (nI (k + 1))), (3, .long (lN (sumN (fun k => pairW (wl kn (pk fr tt ct fa)) (me k) (me (k + 1))) (k + 1)))), (6, .int (nI j)), (0, .ref o), (1, .ref rw_), (2, .int (nI nn))]) hx hb dX4_weightOf_54 hl (k := 5) rfl (nI_1 _) (by decide) rfl (fun ls hl => ?_)
        refine lv_goto (tgt := 5) hx hb dX4_weightOf_57 (by decide) ?_
        exact ih_5 (k + 1) _ ⟨(show (k + 1) ≤ nn - 1 from by omega), lv_sub hl [3, 4, 5, 0, 1] rfl⟩ (by show nn - (k + 1) < nn - k; omega)

theorem fl_X4_sum_17 : Cond.fieldLink RX4 17 "BlockRowsModel" "from" "[I" ∈ wsX4_sum := by decide +kernel
theorem fl_X4_sum_21 : Cond.fieldLink RX4 21 "BlockRowsModel" "to" "[I" ∈ wsX4_sum := by decide +kernel
theorem fl_X4_sum_24 : Cond.fieldLink RX4 24 "BlockRowsModel" "counts" "[J" ∈ wsX4_sum := by decide +kernel
theorem fl_X4_sum_38 : Cond.fieldLink RX4 38 "BlockRowsModel" "chainOf" "[I" ∈ wsX4_sum := by decide +kernel
theorem fl_X4_sum_50 : Cond.fieldLink RX4 50 "BlockRowsModel" "isPlaced" "[Z" ∈ wsX4_sum := by decide +kernel
theorem fl_X4_sum_56 : Cond.fieldLink RX4 56 "BlockRowsModel" "ways" "I" ∈ wsX4_sum := by decide +kernel
theorem in_X4_sum_X4 : ∀ w ∈ wsX40, w ∈ wsX4_sum := by decide +kernel
set_option maxHeartbeats 4000000 in
set_option maxRecDepth 100000 in
/-- Model.sum -/
theorem k_sum (l : Launch) (D : va_G) (cI cJ cZ : ClassId) (o oh oF oT oC oL oB oM oN oY oZ oK oP oA n kn hs : Nat) (ik ib : Bool) (fr tt ct : Nat → Nat) (fa : Nat → Bool) (co : Nat → Option Nat) (ip : Nat → Bool) (T : Nat → List Nat) (P : List Nat) (hT : CI T) (hn : n ≤ 200) (hkn : kn ≤ 1000) (hBn : ∀ k, k < kn → fr k < n ∧ tt k < n) (hco : ∀ b, b < n → co b = nameT T b) (hip : ∀ b, b < n → ip b = decide (b ∈ P)) (c0 : Nat) (hc0 : c0 < 200) : Met l yX4_sum wsX4_sum ({ frames := 0, cells := 0, slots := 0, locals := 0 }) (PcR D cI cJ cZ [.ref o, .int (nI c0)] [(o, .inr (4, [.int (nI n), .ref oh, .int (nI kn), .ref oF, .ref oT, .ref oC, .ref oL, .int (bI ik), .ref oB, .ref oM, .ref oN, .ref oY, .ref oZ, .int (nI hs), .int (bI ib), .ref oK, .ref oP, .ref oA])), (oF, .inl (cI, 1000, .inl (nIf fr))), (oT, .inl (cI, 1000, .inl (nIf tt))), (oC, .inl (cJ, 1000, .inr (.inl (lNf ct)))), (oN, .inl (cI, 200, .inl (oIf co))), (oP, .inl (cZ, 200, .inl (bIf ip)))]) (vp_Sl (fun r => r = lN (pullS (wl kn (pk fr tt ct fa)) T P c0))) 0 0 (fun _ => False) := by
  refine startR (cc := cX4_sum) (maxL := 7) (ret := (some .long)) (by decide) rfl (Nat.le_of_ble_eq_true rfl) ?_
  intro p e s m below meth c ls hx hb hr hml hown hts hlocks hE hP hl
  have hl : lv_has ls 7 [(0, .ref o), (1, .int (nI c0))] := hl
  refine lv_lconst (v := lN 0) hx hb dX4_sum_0 (by decide) ?_
  refine lv_lstore_n (lv' := [(2, .long (lN 0)), (0, .ref o), (1, .int (nI c0))]) hx hb dX4_sum_1 rfl hl (by decide) rfl (fun ls hl => ?_)
  refine lv_iconst (v := nI 0) hx hb dX4_sum_2 (by decide) ?_
  refine lv_istore (lv' := [(4, .int (nI 0)), (2, .long (lN 0)), (0, .ref o), (1, .int (nI c0))]) hx hb dX4_sum_3 hl (by decide) rfl (fun ls hl => ?_)
  refine r_loopR (σ := Nat) (fun z0 => kn - z0) (fun z0 ls => (z0 ≤ kn) ∧ lv_has ls 7 [(0, .ref o), (1, .int (nI c0)), (4, .int (nI z0)), (2, .long (lN (pullS (wl z0 (pk fr tt ct fa)) T P c0)))]) ?_ 0 ⟨Nat.zero_le _, lv_sub hl [2, 3, 0, 1] rfl⟩
  rintro k ls ⟨hi_5, hl⟩ ih_5
  have hi_5 : k ≤ kn := hi_5
  have hl : lv_has ls 7 [(0, .ref o), (1, .int (nI c0)), (4, .int (nI k)), (2, .long (lN (pullS (wl k (pk fr tt ct fa)) T P c0)))] := hl
  refine lv_iload hx hb dX4_sum_5 (lv_at hl 2 rfl) ?_
  refine lv_aload_n hx hb dX4_sum_7 rfl (lv_at hl 0 rfl) ?_
  refine va_get (D := D) (ci := 4) (v := .int (nI kn)) (C := RX4) (T := TX4) (N := 18) hx hb hts in_X4_sum_X4 hown hE.1 hP 0 rfl rfl 2 (by decide) (hts _ fl_X4_sum_56) (fun _ h9 => h9) rfl dX4_sum_8 ?_
  refine r_icmp_ge (tgt := 90) hx hb (x := k) (y := kn) (by omega) (by omega) dX4_sum_11 (by decide) (fun c_11 => ?_) (fun c_11 => ?_)
  · skip
    refine lv_lload_n hx hb dX4_sum_90 rfl (lv_at hl 3 rfl) ?_
    exact e_l hx hb hr hlocks dX4_sum_91 (by rw [show k = kn by omega])
  · skip
    have b1 := hBn k c_11
    have b2 := hco (fr k) b1.1
    have b3 := hco (tt k) b1.2
    have b4 := hip (fr k) b1.1
    have b5 := hip (tt k) b1.2
    refine lv_aload_n hx hb dX4_sum_14 rfl (lv_at hl 0 rfl) ?_
    refine va_get (D := D) (ci := 4) (v := .ref oF) (C := RX4) (T := TX4) (N := 18) hx hb hts in_X4_sum_X4 hown hE.1 hP 0 rfl rfl 3 (by decide) (hts _ fl_X4_sum_17) (fun _ h9 => h9) rfl dX4_sum_15 ?_
    refine lv_iload hx hb dX4_sum_18 (lv_at hl 2 rfl) ?_
    refine r_nld hx hb hE hP 1 rfl (k := k) (by omega) (by decide) dX4_sum_20 ?_
    refine lv_istore (lv' := [(5, .int (nI (fr k))), (0, .ref o), (1, .int (nI c0)), (4, .int (nI k)), (2, .long (lN (pullS (wl k (pk fr tt ct fa)) T P c0)))]) hx hb dX4_sum_21 hl (by decide) rfl (fun ls hl => ?_)
    refine lv_aload_n hx hb dX4_sum_23 rfl (lv_at hl 1 rfl) ?_
    refine va_get (D := D) (ci := 4) (v := .ref oT) (C := RX4) (T := TX4) (N := 18) hx hb hts in_X4_sum_X4 hown hE.1 hP 0 rfl rfl 4 (by decide) (hts _ fl_X4_sum_21) (fun _ h9 => h9) rfl dX4_sum_24 ?_
    refine lv_iload hx hb dX4_sum_27 (lv_at hl 3 rfl) ?_
    refine r_nld hx hb hE hP 2 rfl (k := k) (by omega) (by decide) dX4_sum_29 ?_
    refine lv_istore (lv' := [(6, .int (nI (tt k))), (5, .int (nI (fr k))), (0, .ref o), (1, .int (nI c0)), (4, .int (nI k)), (2, .long (lN (pullS (wl k (pk fr tt ct fa)) T P c0)))]) hx hb dX4_sum_30 hl (by decide) rfl (fun ls hl => ?_)
    refine lv_aload_n hx hb dX4_sum_32 rfl (lv_at hl 2 rfl) ?_
    refine va_get (D := D) (ci := 4) (v := .ref oN) (C := RX4) (T := TX4) (N := 18) hx hb hts in_X4_sum_X4 hown hE.1 hP 0 rfl rfl 10 (by decide) (hts _ fl_X4_sum_38) (fun _ h9 => h9) rfl dX4_sum_33 ?_
    refine lv_iload hx hb dX4_sum_36 (lv_at hl 1 rfl) ?_
    refine r_old hx hb hE hP 4 rfl (k := fr k) (by omega) (by decide) dX4_sum_38 ?_
    refine lv_iload_n hx hb dX4_sum_39 rfl (lv_at hl 3 rfl) ?_
    refine r_o_ne (tgt := 53) hx hb (o := co (fr k)) (q := some c0) rfl rfl (fun j hj => by rw [b2] at hj; have := hT.lt ((name_iff hT).mp hj); omega) (fun j h => by cases h; omega) dX4_sum_40 (by decide) (fun c_40 => ?_) (fun c_40 => ?_)
    · skip
      refine lv_aload_n hx hb dX4_sum_53 rfl (lv_at hl 2 rfl) ?_
      refine va_get (D := D) (ci := 4) (v := .ref oN) (C := RX4) (T := TX4) (N := 18) hx hb hts in_X4_sum_X4 hown hE.1 hP 0 rfl rfl 10 (by decide) (hts _ fl_X4_sum_38) (fun _ h9 => h9) rfl dX4_sum_54 ?_
      refine lv_iload hx hb dX4_sum_57 (lv_at hl 0 rfl) ?_
      refine r_old hx hb hE hP 4 rfl (k := tt k) (by omega) (by decide) dX4_sum_59 ?_
      refine lv_iload_n hx hb dX4_sum_60 rfl (lv_at hl 3 rfl) ?_
      refine r_o_ne (tgt := 84) hx hb (o := co (tt k)) (q := some c0) rfl rfl (fun j hj => by rw [b3] at hj; have := hT.lt ((name_iff hT).mp hj); omega) (fun j h => by cases h; omega) dX4_sum_61 (by decide) (fun c_61 => ?_) (fun c_61 => ?_)
      · skip
        have hs1 : pullS (wl k (pk fr tt ct fa)) T P c0 = pullS (wl (k + 1) (pk fr tt ct fa)) T P c0 := by
          rw [pullS_succ]
          rw [b2, ne_eq, name_iff hT] at c_40
          rw [b3, ne_eq, name_iff hT] at c_61
          simp [pk, c_40, c_61]
        rw [hs1] at hl
        have hl : lv_has ls 7 [(6, .int (nI (tt k))), (5, .int (nI (fr k))), (0, .ref o), (1, .int (nI c0)), (4, .int (nI k)), (2, .long (lN (pullS (wl (k + 1) (pk fr tt ct fa)) T P c0)))] := hl
        refine lv_iinc (v := (nI (k + 1))) (lv' := [(4, .int (nI (k + 1))), (6, .int (nI (tt k))), (5, .int (nI (fr k))), (0, .ref o), (1, .int (nI c0)), (2, .long (lN (pullS (wl (k + 1) (pk fr tt ct fa)) T P c0)))]) hx hb dX4_sum_84 hl (k := 4) rfl (nI_1 _) (by decide) rfl (fun ls hl => ?_)
        refine lv_goto (tgt := 5) hx hb dX4_sum_87 (by decide) ?_
        exact ih_5 (k + 1) _ ⟨(show (k + 1) ≤ kn from by omega), lv_sub hl [3, 4, 0, 5] rfl⟩ (by show kn - (k + 1) < kn - k; omega)
      · skip
        refine lv_aload_n hx hb dX4_sum_64 rfl (lv_at hl 2 rfl) ?_
        refine va_get (D := D) (ci := 4) (v := .ref oP) (C := RX4) (T := TX4) (N := 18) hx hb hts in_X4_sum_X4 hown hE.1 hP 0 rfl rfl 16 (by decide) (hts _ fl_X4_sum_50) (fun _ h9 => h9) rfl dX4_sum_65 ?_
        refine lv_iload hx hb dX4_sum_68 (lv_at hl 1 rfl) ?_
        refine r_bld hx hb hE hP 5 rfl (k := fr k) (by omega) (by decide) dX4_sum_70 ?_
        refine r_b_eq (tgt := 84) hx hb dX4_sum_71 (by decide) (fun c_71 => ?_) (fun c_71 => ?_)
        · skip
          have hs1 : pullS (wl k (pk fr tt ct fa)) T P c0 = pullS (wl (k + 1) (pk fr tt ct fa)) T P c0 := by
            rw [pullS_succ]
            rw [b2, ne_eq, name_iff hT] at c_40
            rw [b3, name_iff hT] at c_61
            rw [b4] at c_71
            simp only [decide_eq_true_eq, decide_eq_false_iff_not] at c_71
            simp [pk, c_40, c_61, c_71]
          rw [hs1] at hl
          have hl : lv_has ls 7 [(6, .int (nI (tt k))), (5, .int (nI (fr k))), (0, .ref o), (1, .int (nI c0)), (4, .int (nI k)), (2, .long (lN (pullS (wl (k + 1) (pk fr tt ct fa)) T P c0)))] := hl
          refine lv_iinc (v := (nI (k + 1))) (lv' := [(4, .int (nI (k + 1))), (6, .int (nI (tt k))), (5, .int (nI (fr k))), (0, .ref o), (1, .int (nI c0)), (2, .long (lN (pullS (wl (k + 1) (pk fr tt ct fa)) T P c0)))]) hx hb dX4_sum_84 hl (k := 4) rfl (nI_1 _) (by decide) rfl (fun ls hl => ?_)
          refine lv_goto (tgt := 5) hx hb dX4_sum_87 (by decide) ?_
          exact ih_5 (k + 1) _ ⟨(show (k + 1) ≤ kn from by omega), lv_sub hl [3, 4, 0, 5] rfl⟩ (by show kn - (k + 1) < kn - k; omega)
        · skip
          refine lv_lload_n hx hb dX4_sum_74 rfl (lv_at hl 5 rfl) ?_
          refine lv_aload_n hx hb dX4_sum_75 rfl (lv_at hl 2 rfl) ?_
          refine va_get (D := D) (ci := 4) (v := .ref oC) (C := RX4) (T := TX4) (N := 18) hx hb hts in_X4_sum_X4 hown hE.1 hP 0 rfl rfl 5 (by decide) (hts _ fl_X4_sum_24) (fun _ h9 => h9) rfl dX4_sum_76 ?_
          refine lv_iload hx hb dX4_sum_79 (lv_at hl 4 rfl) ?_
          refine r_lld hx hb hE hP 3 rfl (k := k) (by omega) (by decide) dX4_sum_81 ?_
          refine r_ladd hx hb dX4_sum_82 ?_
          refine lv_lstore_n (lv' := [(2, .long (lN ((pullS (wl k (pk fr tt ct fa)) T P c0) + (ct k)))), (6, .int (nI (tt k))), (5, .int (nI (fr k))), (0, .ref o), (1, .int (nI c0)), (4, .int (nI k))]) hx hb dX4_sum_83 rfl hl (by decide) rfl (fun ls hl => ?_)
          have hs1 : (pullS (wl k (pk fr tt ct fa)) T P c0) + (ct k) = pullS (wl (k + 1) (pk fr tt ct fa)) T P c0 := by
            rw [pullS_succ]
            rw [b2, ne_eq, name_iff hT] at c_40
            rw [b3, name_iff hT] at c_61
            rw [b4] at c_71
            simp only [decide_eq_true_eq, decide_eq_false_iff_not] at c_71
            simp [pk, c_40, c_61, c_71]
          rw [hs1] at hl
          have hl : lv_has ls 7 [(2, .long (lN (pullS (wl (k + 1) (pk fr tt ct fa)) T P c0))), (6, .int (nI (tt k))), (5, .int (nI (fr k))), (0, .ref o), (1, .int (nI c0)), (4, .int (nI k))] := hl
          refine lv_iinc (v := (nI (k + 1))) (lv' := [(4, .int (nI (k + 1))), (2, .long (lN (pullS (wl (k + 1) (pk fr tt ct fa)) T P c0))), (6, .int (nI (tt k))), (5, .int (nI (fr k))), (0, .ref o), (1, .int (nI c0))]) hx hb dX4_sum_84 hl (k := 5) rfl (nI_1 _) (by decide) rfl (fun ls hl => ?_)
          refine lv_goto (tgt := 5) hx hb dX4_sum_87 (by decide) ?_
          exact ih_5 (k + 1) _ ⟨(show (k + 1) ≤ kn from by omega), lv_sub hl [4, 5, 0, 1] rfl⟩ (by show kn - (k + 1) < kn - k; omega)
    · skip
      refine lv_aload_n hx hb dX4_sum_43 rfl (lv_at hl 2 rfl) ?_
      refine va_get (D := D) (ci := 4) (v := .ref oP) (C := RX4) (T := TX4) (N := 18) hx hb hts in_X4_sum_X4 hown hE.1 hP 0 rfl rfl 16 (by decide) (hts _ fl_X4_sum_50) (fun _ h9 => h9) rfl dX4_sum_44 ?_
      refine lv_iload hx hb dX4_sum_47 (lv_at hl 0 rfl) ?_
      refine r_bld hx hb hE hP 5 rfl (k := tt k) (by omega) (by decide) dX4_sum_49 ?_
      refine r_b_ne (tgt := 74) hx hb dX4_sum_50 (by decide) (fun c_50 => ?_) (fun c_50 => ?_)
      · skip
        refine lv_lload_n hx hb dX4_sum_74 rfl (lv_at hl 5 rfl) ?_
        refine lv_aload_n hx hb dX4_sum_75 rfl (lv_at hl 2 rfl) ?_
        refine va_get (D := D) (ci := 4) (v := .ref oC) (C := RX4) (T := TX4) (N := 18) hx hb hts in_X4_sum_X4 hown hE.1 hP 0 rfl rfl 5 (by decide) (hts _ fl_X4_sum_24) (fun _ h9 => h9) rfl dX4_sum_76 ?_
        refine lv_iload hx hb dX4_sum_79 (lv_at hl 4 rfl) ?_
        refine r_lld hx hb hE hP 3 rfl (k := k) (by omega) (by decide) dX4_sum_81 ?_
        refine r_ladd hx hb dX4_sum_82 ?_
        refine lv_lstore_n (lv' := [(2, .long (lN ((pullS (wl k (pk fr tt ct fa)) T P c0) + (ct k)))), (6, .int (nI (tt k))), (5, .int (nI (fr k))), (0, .ref o), (1, .int (nI c0)), (4, .int (nI k))]) hx hb dX4_sum_83 rfl hl (by decide) rfl (fun ls hl => ?_)
        have hs1 : (pullS (wl k (pk fr tt ct fa)) T P c0) + (ct k) = pullS (wl (k + 1) (pk fr tt ct fa)) T P c0 := by
          rw [pullS_succ]
          rw [b2, name_iff hT] at c_40
          rw [b5] at c_50
          simp only [decide_eq_true_eq, decide_eq_false_iff_not] at c_50
          simp [pk, c_40, c_50]
        rw [hs1] at hl
        have hl : lv_has ls 7 [(2, .long (lN (pullS (wl (k + 1) (pk fr tt ct fa)) T P c0))), (6, .int (nI (tt k))), (5, .int (nI (fr k))), (0, .ref o), (1, .int (nI c0)), (4, .int (nI k))] := hl
        refine lv_iinc (v := (nI (k + 1))) (lv' := [(4, .int (nI (k + 1))), (2, .long (lN (pullS (wl (k + 1) (pk fr tt ct fa)) T P c0))), (6, .int (nI (tt k))), (5, .int (nI (fr k))), (0, .ref o), (1, .int (nI c0))]) hx hb dX4_sum_84 hl (k := 5) rfl (nI_1 _) (by decide) rfl (fun ls hl => ?_)
        refine lv_goto (tgt := 5) hx hb dX4_sum_87 (by decide) ?_
        exact ih_5 (k + 1) _ ⟨(show (k + 1) ≤ kn from by omega), lv_sub hl [4, 5, 0, 1] rfl⟩ (by show kn - (k + 1) < kn - k; omega)
      · skip
        refine lv_aload_n hx hb dX4_sum_53 rfl (lv_at hl 2 rfl) ?_
        refine va_get (D := D) (ci := 4) (v := .ref oN) (C := RX4) (T := TX4) (N := 18) hx hb hts in_X4_sum_X4 hown hE.1 hP 0 rfl rfl 10 (by decide) (hts _ fl_X4_sum_38) (fun _ h9 => h9) rfl dX4_sum_54 ?_
        refine lv_iload hx hb dX4_sum_57 (lv_at hl 0 rfl) ?_
        refine r_old hx hb hE hP 4 rfl (k := tt k) (by omega) (by decide) dX4_sum_59 ?_
        refine lv_iload_n hx hb dX4_sum_60 rfl (lv_at hl 3 rfl) ?_
        refine r_o_ne (tgt := 84) hx hb (o := co (tt k)) (q := some c0) rfl rfl (fun j hj => by rw [b3] at hj; have := hT.lt ((name_iff hT).mp hj); omega) (fun j h => by cases h; omega) dX4_sum_61 (by decide) (fun c_61 => ?_) (fun c_61 => ?_)
        · skip
          have hs1 : pullS (wl k (pk fr tt ct fa)) T P c0 = pullS (wl (k + 1) (pk fr tt ct fa)) T P c0 := by
            rw [pullS_succ]
            rw [b2, name_iff hT] at c_40
            rw [b5] at c_50
            rw [b3, ne_eq, name_iff hT] at c_61
            simp only [decide_eq_true_eq, decide_eq_false_iff_not] at c_50
            simp [pk, c_40, c_50, c_61]
          rw [hs1] at hl
          have hl : lv_has ls 7 [(6, .int (nI (tt k))), (5, .int (nI (fr k))), (0, .ref o), (1, .int (nI c0)), (4, .int (nI k)), (2, .long (lN (pullS (wl (k + 1) (pk fr tt ct fa)) T P c0)))] := hl
          refine lv_iinc (v := (nI (k + 1))) (lv' := [(4, .int (nI (k + 1))), (6, .int (nI (tt k))), (5, .int (nI (fr k))), (0, .ref o), (1, .int (nI c0)), (2, .long (lN (pullS (wl (k + 1) (pk fr tt ct fa)) T P c0)))]) hx hb dX4_sum_84 hl (k := 4) rfl (nI_1 _) (by decide) rfl (fun ls hl => ?_)
          refine lv_goto (tgt := 5) hx hb dX4_sum_87 (by decide) ?_
          exact ih_5 (k + 1) _ ⟨(show (k + 1) ≤ kn from by omega), lv_sub hl [3, 4, 0, 5] rfl⟩ (by show kn - (k + 1) < kn - k; omega)
        · skip
          refine lv_aload_n hx hb dX4_sum_64 rfl (lv_at hl 2 rfl) ?_
          refine va_get (D := D) (ci := 4) (v := .ref oP) (C := RX4) (T := TX4) (N := 18) hx hb hts in_X4_sum_X4 hown hE.1 hP 0 rfl rfl 16 (by decide) (hts _ fl_X4_sum_50) (fun _ h9 => h9) rfl dX4_sum_65 ?_
          refine lv_iload hx hb dX4_sum_68 (lv_at hl 1 rfl) ?_
          refine r_bld hx hb hE hP 5 rfl (k := fr k) (by omega) (by decide) dX4_sum_70 ?_
          refine r_b_eq (tgt := 84) hx hb dX4_sum_71 (by decide) (fun c_71 => ?_) (fun c_71 => ?_)
          · skip
            have hs1 : pullS (wl k (pk fr tt ct fa)) T P c0 = pullS (wl (k + 1) (pk fr tt ct fa)) T P c0 := by
              rw [pullS_succ]
              rw [b2, name_iff hT] at c_40
              rw [b5] at c_50
              rw [b3, name_iff hT] at c_61
              rw [b4] at c_71
              simp only [decide_eq_true_eq, decide_eq_false_iff_not] at c_50
              simp only [decide_eq_true_eq, decide_eq_false_iff_not] at c_71
              simp [pk, c_40, c_50, c_61, c_71]
            rw [hs1] at hl
            have hl : lv_has ls 7 [(6, .int (nI (tt k))), (5, .int (nI (fr k))), (0, .ref o), (1, .int (nI c0)), (4, .int (nI k)), (2, .long (lN (pullS (wl (k + 1) (pk fr tt ct fa)) T P c0)))] := hl
            refine lv_iinc (v := (nI (k + 1))) (lv' := [(4, .int (nI (k + 1))), (6, .int (nI (tt k))), (5, .int (nI (fr k))), (0, .ref o), (1, .int (nI c0)), (2, .long (lN (pullS (wl (k + 1) (pk fr tt ct fa)) T P c0)))]) hx hb dX4_sum_84 hl (k := 4) rfl (nI_1 _) (by decide) rfl (fun ls hl => ?_)
            refine lv_goto (tgt := 5) hx hb dX4_sum_87 (by decide) ?_
            exact ih_5 (k + 1) _ ⟨(show (k + 1) ≤ kn from by omega), lv_sub hl [3, 4, 0, 5] rfl⟩ (by show kn - (k + 1) < kn - k; omega)
          · skip
            refine lv_lload_n hx hb dX4_sum_74 rfl (lv_at hl 5 rfl) ?_
            refine lv_aload_n hx hb dX4_sum_75 rfl (lv_at hl 2 rfl) ?_
            refine va_get (D := D) (ci := 4) (v := .ref oC) (C := RX4) (T := TX4) (N := 18) hx hb hts in_X4_sum_X4 hown hE.1 hP 0 rfl rfl 5 (by decide) (hts _ fl_X4_sum_24) (fun _ h9 => h9) rfl dX4_sum_76 ?_
            refine lv_iload hx hb dX4_sum_79 (lv_at hl 4 rfl) ?_
            refine r_lld hx hb hE hP 3 rfl (k := k) (by omega) (by decide) dX4_sum_81 ?_
            refine r_ladd hx hb dX4_sum_82 ?_
            refine lv_lstore_n (lv' := [(2, .long (lN ((pullS (wl k (pk fr tt ct fa)) T P c0) + (ct k)))), (6, .int (nI (tt k))), (5, .int (nI (fr k))), (0, .ref o), (1, .int (nI c0)), (4, .int (nI k))]) hx hb dX4_sum_83 rfl hl (by decide) rfl (fun ls hl => ?_)
            have hs1 : (pullS (wl k (pk fr tt ct fa)) T P c0) + (ct k) = pullS (wl (k + 1) (pk fr tt ct fa)) T P c0 := by
              rw [pullS_succ]
              rw [b2, name_iff hT] at c_40
              rw [b5] at c_50
              rw [b3, name_iff hT] at c_61
              rw [b4] at c_71
              simp only [decide_eq_true_eq, decide_eq_false_iff_not] at c_50
              simp only [decide_eq_true_eq, decide_eq_false_iff_not] at c_71
              simp [pk, c_40, c_50, c_61, c_71]
            rw [hs1] at hl
            have hl : lv_has ls 7 [(2, .long (lN (pullS (wl (k + 1) (pk fr tt ct fa)) T P c0))), (6, .int (nI (tt k))), (5, .int (nI (fr k))), (0, .ref o), (1, .int (nI c0)), (4, .int (nI k))] := hl
            refine lv_iinc (v := (nI (k + 1))) (lv' := [(4, .int (nI (k + 1))), (2, .long (lN (pullS (wl (k + 1) (pk fr tt ct fa)) T P c0))), (6, .int (nI (tt k))), (5, .int (nI (fr k))), (0, .ref o), (1, .int (nI c0))]) hx hb dX4_sum_84 hl (k := 5) rfl (nI_1 _) (by decide) rfl (fun ls hl => ?_)
            refine lv_goto (tgt := 5) hx hb dX4_sum_87 (by decide) ?_
            exact ih_5 (k + 1) _ ⟨(show (k + 1) ≤ kn from by omega), lv_sub hl [4, 5, 0, 1] rfl⟩ (by show kn - (k + 1) < kn - k; omega)

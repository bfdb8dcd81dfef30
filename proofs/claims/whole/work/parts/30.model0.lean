theorem fl_X4_isBlock_7 : Cond.fieldLink RX4 7 "BlockRowsModel" "blocks" "I" ∈ wsX4_isBlock := by decide +kernel
theorem in_X4_isBlock_X4 : ∀ w ∈ wsX40, w ∈ wsX4_isBlock := by decide +kernel
set_option maxHeartbeats 4000000 in
set_option maxRecDepth 100000 in
/-- Model.isBlock -/
theorem k_isBlock (l : Launch) (D : va_G) (cI cJ cZ : ClassId) (o oh oF oT oC oL oB oM oN oY oZ oK oP oA n kn hs : Nat) (ik ib : Bool) (hn : n ≤ 200) (y : Int32) : Met l yX4_isBlock wsX4_isBlock ({ frames := 0, cells := 0, slots := 0, locals := 0 }) (PcR D cI cJ cZ [.ref o, .int y] [(o, .inr (4, [.int (nI n), .ref oh, .int (nI kn), .ref oF, .ref oT, .ref oC, .ref oL, .int (bI ik), .ref oB, .ref oM, .ref oN, .ref oY, .ref oZ, .int (nI hs), .int (bI ib), .ref oK, .ref oP, .ref oA]))]) (vp_Si (fun r => r = bI (isB n y))) 0 0 (fun _ => False) := by
  refine startR (cc := cX4_isBlock) (maxL := 2) (ret := (some .boolean)) (by decide) rfl (Nat.le_of_ble_eq_true rfl) ?_
  intro p e s m below meth c ls hx hb hr hml hown hts hlocks hE hP hl
  have hl : lv_has ls 2 [(0, .ref o), (1, .int y)] := hl
  refine lv_iload_n hx hb dX4_isBlock_0 rfl (lv_at hl 1 rfl) ?_
  refine lv_if_lt (tgt := 16) hx hb dX4_isBlock_1 (by decide) (fun c_1 => ?_) (fun c_1 => ?_)
  · skip
    refine lv_iconst (v := bI false) hx hb dX4_isBlock_16 (by decide) ?_
    exact e_z false rfl hx hb hr hlocks dX4_isBlock_17 (by rw [isB_neg c_1])
  · skip
    obtain ⟨j, hj, rfl⟩ := nI_of c_1
    refine lv_iload_n hx hb dX4_isBlock_4 rfl (lv_at hl 1 rfl) ?_
    refine lv_aload_n hx hb dX4_isBlock_5 rfl (lv_at hl 0 rfl) ?_
    refine va_get (D := D) (ci := 4) (v := .int (nI n)) (C := RX4) (T := TX4) (N := 18) hx hb hts in_X4_isBlock_X4 hown hE.1 hP 0 rfl rfl 0 (by decide) (hts _ fl_X4_isBlock_7) (fun _ h9 => h9) rfl dX4_isBlock_6 ?_
    refine r_icmp_ge (tgt := 16) hx hb (x := j) (y := n) (by omega) (by omega) dX4_isBlock_9 (by decide) (fun c_9 => ?_) (fun c_9 => ?_)
    · skip
      refine lv_iconst (v := bI false) hx hb dX4_isBlock_16 (by decide) ?_
      exact e_z false rfl hx hb hr hlocks dX4_isBlock_17 (congrArg bI (by rw [isB_nI hj]; simp; omega))
    · skip
      refine lv_iconst (v := bI true) hx hb dX4_isBlock_12 (by decide) ?_
      refine lv_goto (tgt := 17) hx hb dX4_isBlock_13 (by decide) ?_
      exact e_z true rfl hx hb hr hlocks dX4_isBlock_17 (congrArg bI (by rw [isB_nI hj]; simp; omega))

theorem fl_X4_find_17 : Cond.fieldLink RX4 17 "BlockRowsModel" "from" "[I" ∈ wsX4_find := by decide +kernel
theorem fl_X4_find_21 : Cond.fieldLink RX4 21 "BlockRowsModel" "to" "[I" ∈ wsX4_find := by decide +kernel
theorem fl_X4_find_56 : Cond.fieldLink RX4 56 "BlockRowsModel" "ways" "I" ∈ wsX4_find := by decide +kernel
theorem in_X4_find_X4 : ∀ w ∈ wsX40, w ∈ wsX4_find := by decide +kernel
set_option maxHeartbeats 4000000 in
set_option maxRecDepth 100000 in
/-- Model.find -/
theorem k_find (l : Launch) (D : va_G) (cI cJ cZ : ClassId) (o oh oF oT oC oL oB oM oN oY oZ oK oP oA n kn hs : Nat) (ik ib : Bool) (fr tt : Nat → Nat) (hkn : kn ≤ 1000) (x y : Int32) : Met l yX4_find wsX4_find ({ frames := 0, cells := 0, slots := 0, locals := 0 }) (PcR D cI cJ cZ [.ref o, .int x, .int y] [(o, .inr (4, [.int (nI n), .ref oh, .int (nI kn), .ref oF, .ref oT, .ref oC, .ref oL, .int (bI ik), .ref oB, .ref oM, .ref oN, .ref oY, .ref oZ, .int (nI hs), .int (bI ib), .ref oK, .ref oP, .ref oA])), (oF, .inl (cI, 1000, .inl (nIf fr))), (oT, .inl (cI, 1000, .inl (nIf tt)))]) (vp_Si (fun r => ∃ o_, r = oI o_ ∧ Fnd fr tt kn x y o_)) 0 0 (fun _ => False) := by
  refine startR (cc := cX4_find) (maxL := 4) (ret := (some .int)) (by decide) rfl (Nat.le_of_ble_eq_true rfl) ?_
  intro p e s m below meth c ls hx hb hr hml hown hts hlocks hE hP hl
  have hl : lv_has ls 4 [(0, .ref o), (1, .int x), (2, .int y)] := hl
  refine lv_iconst (v := nI 0) hx hb dX4_find_0 (by decide) ?_
  refine lv_istore_n (lv' := [(3, .int (nI 0)), (0, .ref o), (1, .int x), (2, .int y)]) hx hb dX4_find_1 rfl hl (by decide) rfl (fun ls hl => ?_)
  refine r_loopR (σ := Nat) (fun z0 => kn - z0) (fun z0 ls => (z0 ≤ kn ∧ ∀ j, j < z0 → ¬ (nI (fr j) = x ∧ nI (tt j) = y)) ∧ lv_has ls 4 [(0, .ref o), (1, .int x), (2, .int y), (3, .int (nI z0))]) ?_ 0 ⟨⟨Nat.zero_le _, fun j hj => by omega⟩, lv_sub hl [1, 2, 3, 0] rfl⟩
  rintro k ls ⟨hi_2, hl⟩ ih_2
  have hi_2 : k ≤ kn ∧ ∀ j, j < k → ¬ (nI (fr j) = x ∧ nI (tt j) = y) := hi_2
  have hl : lv_has ls 4 [(0, .ref o), (1, .int x), (2, .int y), (3, .int (nI k))] := hl
  obtain ⟨hi_a, hi_b⟩ := id hi_2
  refine lv_iload_n hx hb dX4_find_2 rfl (lv_at hl 3 rfl) ?_
  refine lv_aload_n hx hb dX4_find_3 rfl (lv_at hl 0 rfl) ?_
  refine va_get (D := D) (ci := 4) (v := .int (nI kn)) (C := RX4) (T := TX4) (N := 18) hx hb hts in_X4_find_X4 hown hE.1 hP 0 rfl rfl 2 (by decide) (hts _ fl_X4_find_56) (fun _ h9 => h9) rfl dX4_find_4 ?_
  refine r_icmp_ge (tgt := 38) hx hb (x := k) (y := kn) (by omega) (by omega) dX4_find_7 (by decide) (fun c_7 => ?_) (fun c_7 => ?_)
  · skip
    refine lv_iconst (v := -1) hx hb dX4_find_38 (by decide) ?_
    exact e_i hx hb hr hlocks dX4_find_39 ⟨none, rfl, fun j hj => hi_b j (by omega)⟩
  · skip
    refine lv_aload_n hx hb dX4_find_10 rfl (lv_at hl 0 rfl) ?_
    refine va_get (D := D) (ci := 4) (v := .ref oF) (C := RX4) (T := TX4) (N := 18) hx hb hts in_X4_find_X4 hown hE.1 hP 0 rfl rfl 3 (by decide) (hts _ fl_X4_find_17) (fun _ h9 => h9) rfl dX4_find_11 ?_
    refine lv_iload_n hx hb dX4_find_14 rfl (lv_at hl 3 rfl) ?_
    refine r_nld hx hb hE hP 1 rfl (k := k) (by omega) (by decide) dX4_find_15 ?_
    refine lv_iload_n hx hb dX4_find_16 rfl (lv_at hl 1 rfl) ?_
    refine lv_icmp_ne (tgt := 32) hx hb dX4_find_17 (by decide) (fun c_17 => ?_) (fun c_17 => ?_)
    · skip
      refine lv_iinc (v := (nI (k + 1))) (lv' := [(3, .int (nI (k + 1))), (0, .ref o), (1, .int x), (2, .int y)]) hx hb dX4_find_32 hl (k := 3) rfl (nI_1 _) (by decide) rfl (fun ls hl => ?_)
      refine lv_goto (tgt := 2) hx hb dX4_find_35 (by decide) ?_
      exact ih_2 (k + 1) _ ⟨(show (k + 1) ≤ kn ∧ ∀ j, j < (k + 1) → ¬ (nI (fr j) = x ∧ nI (tt j) = y) from ⟨by omega, lt_s hi_2.2 (fun z => c_17 z.1)⟩), lv_sub hl [1, 2, 3, 0] rfl⟩ (by show kn - (k + 1) < kn - k; omega)
    · skip
      refine lv_aload_n hx hb dX4_find_20 rfl (lv_at hl 0 rfl) ?_
      refine va_get (D := D) (ci := 4) (v := .ref oT) (C := RX4) (T := TX4) (N := 18) hx hb hts in_X4_find_X4 hown hE.1 hP 0 rfl rfl 4 (by decide) (hts _ fl_X4_find_21) (fun _ h9 => h9) rfl dX4_find_21 ?_
      refine lv_iload_n hx hb dX4_find_24 rfl (lv_at hl 3 rfl) ?_
      refine r_nld hx hb hE hP 2 rfl (k := k) (by omega) (by decide) dX4_find_25 ?_
      refine lv_iload_n hx hb dX4_find_26 rfl (lv_at hl 2 rfl) ?_
      refine lv_icmp_ne (tgt := 32) hx hb dX4_find_27 (by decide) (fun c_27 => ?_) (fun c_27 => ?_)
      · skip
        refine lv_iinc (v := (nI (k + 1))) (lv' := [(3, .int (nI (k + 1))), (0, .ref o), (1, .int x), (2, .int y)]) hx hb dX4_find_32 hl (k := 3) rfl (nI_1 _) (by decide) rfl (fun ls hl => ?_)
        refine lv_goto (tgt := 2) hx hb dX4_find_35 (by decide) ?_
        exact ih_2 (k + 1) _ ⟨(show (k + 1) ≤ kn ∧ ∀ j, j < (k + 1) → ¬ (nI (fr j) = x ∧ nI (tt j) = y) from ⟨by omega, lt_s hi_2.2 (fun z => c_27 z.2)⟩), lv_sub hl [1, 2, 3, 0] rfl⟩ (by show kn - (k + 1) < kn - k; omega)
      · skip
        refine lv_iload_n hx hb dX4_find_30 rfl (lv_at hl 3 rfl) ?_
        exact e_i hx hb hr hlocks dX4_find_31 ⟨some k, rfl, c_7, c_17, c_27⟩

theorem fl_X4_comesBefore_17 : Cond.fieldLink RX4 17 "BlockRowsModel" "from" "[I" ∈ wsX4_comesBefore := by decide +kernel
theorem fl_X4_comesBefore_21 : Cond.fieldLink RX4 21 "BlockRowsModel" "to" "[I" ∈ wsX4_comesBefore := by decide +kernel
theorem fl_X4_comesBefore_24 : Cond.fieldLink RX4 24 "BlockRowsModel" "counts" "[J" ∈ wsX4_comesBefore := by decide +kernel
theorem in_X4_comesBefore_X4 : ∀ w ∈ wsX40, w ∈ wsX4_comesBefore := by decide +kernel
set_option maxHeartbeats 4000000 in
set_option maxRecDepth 100000 in
/-- Model.comesBefore -/
theorem k_before (l : Launch) (D : va_G) (cI cJ cZ : ClassId) (o oh oF oT oC oL oB oM oN oY oZ oK oP oA n kn hs : Nat) (ik ib : Bool) (fr tt ct : Nat → Nat) (fa : Nat → Bool) (hB : WB fr tt ct) (i j : Nat) (hi : i < 1000) (hj : j < 1000) : Met l yX4_comesBefore wsX4_comesBefore ({ frames := 0, cells := 0, slots := 0, locals := 0 }) (PcR D cI cJ cZ [.ref o, .int (nI i), .int (nI j)] [(o, .inr (4, [.int (nI n), .ref oh, .int (nI kn), .ref oF, .ref oT, .ref oC, .ref oL, .int (bI ik), .ref oB, .ref oM, .ref oN, .ref oY, .ref oZ, .int (nI hs), .int (bI ib), .ref oK, .ref oP, .ref oA])), (oF, .inl (cI, 1000, .inl (nIf fr))), (oT, .inl (cI, 1000, .inl (nIf tt))), (oC, .inl (cJ, 1000, .inr (.inl (lNf ct))))]) (vp_Si (fun r => r = bI (bef (pk fr tt ct fa i) (pk fr tt ct fa j)))) 0 0 (fun _ => False) := by
  refine startR (cc := cX4_comesBefore) (maxL := 3) (ret := (some .boolean)) (by decide) rfl (Nat.le_of_ble_eq_true rfl) ?_
  intro p e s m below meth c ls hx hb hr hml hown hts hlocks hE hP hl
  have hl : lv_has ls 3 [(0, .ref o), (1, .int (nI i)), (2, .int (nI j))] := hl
  have b1 := hB i
  have b2 := hB j
  refine lv_aload_n hx hb dX4_comesBefore_0 rfl (lv_at hl 0 rfl) ?_
  refine va_get (D := D) (ci := 4) (v := .ref oC) (C := RX4) (T := TX4) (N := 18) hx hb hts in_X4_comesBefore_X4 hown hE.1 hP 0 rfl rfl 5 (by decide) (hts _ fl_X4_comesBefore_24) (fun _ h9 => h9) rfl dX4_comesBefore_1 ?_
  refine lv_iload_n hx hb dX4_comesBefore_4 rfl (lv_at hl 1 rfl) ?_
  refine r_lld hx hb hE hP 3 rfl (k := i) (by omega) (by decide) dX4_comesBefore_5 ?_
  refine lv_aload_n hx hb dX4_comesBefore_6 rfl (lv_at hl 0 rfl) ?_
  refine va_get (D := D) (ci := 4) (v := .ref oC) (C := RX4) (T := TX4) (N := 18) hx hb hts in_X4_comesBefore_X4 hown hE.1 hP 0 rfl rfl 5 (by decide) (hts _ fl_X4_comesBefore_24) (fun _ h9 => h9) rfl dX4_comesBefore_7 ?_
  refine lv_iload_n hx hb dX4_comesBefore_10 rfl (lv_at hl 2 rfl) ?_
  refine r_lld hx hb hE hP 3 rfl (k := j) (by omega) (by decide) dX4_comesBefore_11 ?_
  refine r_l_eq (tgt := 38) hx hb (x := ct i) (y := ct j) (by omega) (by omega) dX4_comesBefore_12 dX4_comesBefore_13 (by decide) (fun c_12 => ?_) (fun c_12 => ?_)
  · skip
    refine lv_aload_n hx hb dX4_comesBefore_38 rfl (lv_at hl 0 rfl) ?_
    refine va_get (D := D) (ci := 4) (v := .ref oF) (C := RX4) (T := TX4) (N := 18) hx hb hts in_X4_comesBefore_X4 hown hE.1 hP 0 rfl rfl 3 (by decide) (hts _ fl_X4_comesBefore_17) (fun _ h9 => h9) rfl dX4_comesBefore_39 ?_
    refine lv_iload_n hx hb dX4_comesBefore_42 rfl (lv_at hl 1 rfl) ?_
    refine r_nld hx hb hE hP 1 rfl (k := i) (by omega) (by decide) dX4_comesBefore_43 ?_
    refine lv_aload_n hx hb dX4_comesBefore_44 rfl (lv_at hl 0 rfl) ?_
    refine va_get (D := D) (ci := 4) (v := .ref oF) (C := RX4) (T := TX4) (N := 18) hx hb hts in_X4_comesBefore_X4 hown hE.1 hP 0 rfl rfl 3 (by decide) (hts _ fl_X4_comesBefore_17) (fun _ h9 => h9) rfl dX4_comesBefore_45 ?_
    refine lv_iload_n hx hb dX4_comesBefore_48 rfl (lv_at hl 2 rfl) ?_
    refine r_nld hx hb hE hP 1 rfl (k := j) (by omega) (by decide) dX4_comesBefore_49 ?_
    refine r_icmp_eq (tgt := 76) hx hb (x := fr i) (y := fr j) (by omega) (by omega) dX4_comesBefore_50 (by decide) (fun c_50 => ?_) (fun c_50 => ?_)
    · skip
      refine lv_aload_n hx hb dX4_comesBefore_76 rfl (lv_at hl 0 rfl) ?_
      refine va_get (D := D) (ci := 4) (v := .ref oT) (C := RX4) (T := TX4) (N := 18) hx hb hts in_X4_comesBefore_X4 hown hE.1 hP 0 rfl rfl 4 (by decide) (hts _ fl_X4_comesBefore_21) (fun _ h9 => h9) rfl dX4_comesBefore_77 ?_
      refine lv_iload_n hx hb dX4_comesBefore_80 rfl (lv_at hl 1 rfl) ?_
      refine r_nld hx hb hE hP 2 rfl (k := i) (by omega) (by decide) dX4_comesBefore_81 ?_
      refine lv_aload_n hx hb dX4_comesBefore_82 rfl (lv_at hl 0 rfl) ?_
      refine va_get (D := D) (ci := 4) (v := .ref oT) (C := RX4) (T := TX4) (N := 18) hx hb hts in_X4_comesBefore_X4 hown hE.1 hP 0 rfl rfl 4 (by decide) (hts _ fl_X4_comesBefore_21) (fun _ h9 => h9) rfl dX4_comesBefore_83 ?_
      refine lv_iload_n hx hb dX4_comesBefore_86 rfl (lv_at hl 2 rfl) ?_
      refine r_nld hx hb hE hP 2 rfl (k := j) (by omega) (by decide) dX4_comesBefore_87 ?_
      refine r_icmp_ge (tgt := 95) hx hb (x := tt i) (y := tt j) (by omega) (by omega) dX4_comesBefore_88 (by decide) (fun c_88 => ?_) (fun c_88 => ?_)
      · skip
        refine lv_iconst (v := bI false) hx hb dX4_comesBefore_95 (by decide) ?_
        exact e_z false rfl hx hb hr hlocks dX4_comesBefore_96 (by show bI false = bI _; congr 1; unfold bef pk; simp only; repeat' split; all_goals simp only [decide_eq_true_eq, decide_eq_false_iff_not, eq_comm (a := true), eq_comm (a := false)]; all_goals omega)
      · skip
        refine lv_iconst (v := bI true) hx hb dX4_comesBefore_91 (by decide) ?_
        refine lv_goto (tgt := 96) hx hb dX4_comesBefore_92 (by decide) ?_
        exact e_z true rfl hx hb hr hlocks dX4_comesBefore_96 (by show bI true = bI _; congr 1; unfold bef pk; simp only; repeat' split; all_goals simp only [decide_eq_true_eq, decide_eq_false_iff_not, eq_comm (a := true), eq_comm (a := false)]; all_goals omega)
    · skip
      refine lv_aload_n hx hb dX4_comesBefore_53 rfl (lv_at hl 0 rfl) ?_
      refine va_get (D := D) (ci := 4) (v := .ref oF) (C := RX4) (T := TX4) (N := 18) hx hb hts in_X4_comesBefore_X4 hown hE.1 hP 0 rfl rfl 3 (by decide) (hts _ fl_X4_comesBefore_17) (fun _ h9 => h9) rfl dX4_comesBefore_54 ?_
      refine lv_iload_n hx hb dX4_comesBefore_57 rfl (lv_at hl 1 rfl) ?_
      refine r_nld hx hb hE hP 1 rfl (k := i) (by omega) (by decide) dX4_comesBefore_58 ?_
      refine lv_aload_n hx hb dX4_comesBefore_59 rfl (lv_at hl 0 rfl) ?_
      refine va_get (D := D) (ci := 4) (v := .ref oF) (C := RX4) (T := TX4) (N := 18) hx hb hts in_X4_comesBefore_X4 hown hE.1 hP 0 rfl rfl 3 (by decide) (hts _ fl_X4_comesBefore_17) (fun _ h9 => h9) rfl dX4_comesBefore_60 ?_
      refine lv_iload_n hx hb dX4_comesBefore_63 rfl (lv_at hl 2 rfl) ?_
      refine r_nld hx hb hE hP 1 rfl (k := j) (by omega) (by decide) dX4_comesBefore_64 ?_
      refine r_icmp_ge (tgt := 72) hx hb (x := fr i) (y := fr j) (by omega) (by omega) dX4_comesBefore_65 (by decide) (fun c_65 => ?_) (fun c_65 => ?_)
      · skip
        refine lv_iconst (v := bI false) hx hb dX4_comesBefore_72 (by decide) ?_
        refine lv_goto (tgt := 96) hx hb dX4_comesBefore_73 (by decide) ?_
        exact e_z false rfl hx hb hr hlocks dX4_comesBefore_96 (by show bI false = bI _; congr 1; unfold bef pk; simp only; repeat' split; all_goals simp only [decide_eq_true_eq, decide_eq_false_iff_not, eq_comm (a := true), eq_comm (a := false)]; all_goals omega)
      · skip
        refine lv_iconst (v := bI true) hx hb dX4_comesBefore_68 (by decide) ?_
        refine lv_goto (tgt := 96) hx hb dX4_comesBefore_69 (by decide) ?_
        exact e_z true rfl hx hb hr hlocks dX4_comesBefore_96 (by show bI true = bI _; congr 1; unfold bef pk; simp only; repeat' split; all_goals simp only [decide_eq_true_eq, decide_eq_false_iff_not, eq_comm (a := true), eq_comm (a := false)]; all_goals omega)
  · skip
    refine lv_aload_n hx hb dX4_comesBefore_16 rfl (lv_at hl 0 rfl) ?_
    refine va_get (D := D) (ci := 4) (v := .ref oC) (C := RX4) (T := TX4) (N := 18) hx hb hts in_X4_comesBefore_X4 hown hE.1 hP 0 rfl rfl 5 (by decide) (hts _ fl_X4_comesBefore_24) (fun _ h9 => h9) rfl dX4_comesBefore_17 ?_
    refine lv_iload_n hx hb dX4_comesBefore_20 rfl (lv_at hl 1 rfl) ?_
    refine r_lld hx hb hE hP 3 rfl (k := i) (by omega) (by decide) dX4_comesBefore_21 ?_
    refine lv_aload_n hx hb dX4_comesBefore_22 rfl (lv_at hl 0 rfl) ?_
    refine va_get (D := D) (ci := 4) (v := .ref oC) (C := RX4) (T := TX4) (N := 18) hx hb hts in_X4_comesBefore_X4 hown hE.1 hP 0 rfl rfl 5 (by decide) (hts _ fl_X4_comesBefore_24) (fun _ h9 => h9) rfl dX4_comesBefore_23 ?_
    refine lv_iload_n hx hb dX4_comesBefore_26 rfl (lv_at hl 2 rfl) ?_
    refine r_lld hx hb hE hP 3 rfl (k := j) (by omega) (by decide) dX4_comesBefore_27 ?_
    refine r_l_le (tgt := 36) hx hb (x := ct i) (y := ct j) (by omega) (by omega) dX4_comesBefore_28 dX4_comesBefore_29 (by decide) (fun c_28 => ?_) (fun c_28 => ?_)
    · skip
      refine lv_iconst (v := bI false) hx hb dX4_comesBefore_36 (by decide) ?_
      exact e_z false rfl hx hb hr hlocks dX4_comesBefore_37 (by show bI false = bI _; congr 1; unfold bef pk; simp only; repeat' split; all_goals simp only [decide_eq_true_eq, decide_eq_false_iff_not, eq_comm (a := true), eq_comm (a := false)]; all_goals omega)
    · skip
      refine lv_iconst (v := bI true) hx hb dX4_comesBefore_32 (by decide) ?_
      refine lv_goto (tgt := 37) hx hb dX4_comesBefore_33 (by decide) ?_
      exact e_z true rfl hx hb hr hlocks dX4_comesBefore_37 (by show bI true = bI _; congr 1; unfold bef pk; simp only; repeat' split; all_goals simp only [decide_eq_true_eq, decide_eq_false_iff_not, eq_comm (a := true), eq_comm (a := false)]; all_goals omega)

theorem fl_X4_count_24 : Cond.fieldLink RX4 24 "BlockRowsModel" "counts" "[J" ∈ wsX4_count := by decide +kernel
theorem in_X4_count_X4 : ∀ w ∈ wsX40, w ∈ wsX4_count := by decide +kernel
set_option maxHeartbeats 4000000 in
set_option maxRecDepth 100000 in
/-- Model.count -/
theorem k_count (l : Launch) (D : va_G) (cI cJ cZ : ClassId) (o oh oF oT oC oL oB oM oN oY oZ oK oP oA n kn hs : Nat) (ik ib : Bool) (fr tt ct : Nat → Nat) (hkn : kn ≤ 1000) (x y : Int32) : Met l yX4_count wsX4_count ({ frames := 1, cells := 0, slots := 0, locals := 23 }) (PcR D cI cJ cZ [.ref o, .int x, .int y] [(o, .inr (4, [.int (nI n), .ref oh, .int (nI kn), .ref oF, .ref oT, .ref oC, .ref oL, .int (bI ik), .ref oB, .ref oM, .ref oN, .ref oY, .ref oZ, .int (nI hs), .int (bI ib), .ref oK, .ref oP, .ref oA])), (oF, .inl (cI, 1000, .inl (nIf fr))), (oT, .inl (cI, 1000, .inl (nIf tt))), (oC, .inl (cJ, 1000, .inr (.inl (lNf ct))))]) (vp_Sl (fun r => ∃ o_, Fnd fr tt kn x y o_ ∧ r = lN (ctO ct o_))) 0 0 (fun _ => False) := by
  refine startR (cc := cX4_count) (maxL := 4) (ret := (some .long)) (by decide) rfl (Nat.le_of_ble_eq_true rfl) ?_
  intro p e s m below meth c ls hx hb hr hml hown hts hlocks hE hP hl
  have hl : lv_has ls 4 [(0, .ref o), (1, .int x), (2, .int y)] := hl
  refine lv_aload_n hx hb dX4_count_0 rfl (lv_at hl 0 rfl) ?_
  refine lv_iload_n hx hb dX4_count_1 rfl (lv_at hl 1 rfl) ?_
  refine lv_iload_n hx hb dX4_count_2 rfl (lv_at hl 2 rfl) ?_
  refine callRi (As := [.int x, .int y]) (rest := []) ⟨hx, hb, hml, hown, hts⟩ (k_find l D cI cJ cZ o oh oF oT oC oL oB oM oN oY oZ oK oP oA n kn hs ik ib fr tt hkn x y) (cwV 2 hts gX4_count_X4_find rfl rfl rfl (by decide +kernel) ⟨Nat.le_of_ble_eq_true rfl, Nat.le_of_ble_eq_true rfl⟩) (preR hE hP 4 0 rfl rfl rfl [0, 1, 2] rfl) rfl hl.1 (Nat.le_of_ble_eq_true rfl) dX4_count_3 ⟨Nat.zero_le _, Nat.zero_le _⟩ rfl (fun r_3 hr_3 => ?_)
  obtain ⟨o1, rfl, hF⟩ := hr_3
  have hob : ∀ j, o1 = some j → j < 1000 := fun j hj => by subst hj; exact Nat.lt_of_lt_of_le hF.1 hkn
  refine lv_istore_n (lv' := [(3, .int (oI o1)), (0, .ref o), (1, .int x), (2, .int y)]) hx hb dX4_count_6 rfl hl (by decide) rfl (fun ls hl => ?_)
  refine lv_iload_n hx hb dX4_count_7 rfl (lv_at hl 0 rfl) ?_
  refine r_o_ge0 (tgt := 15) hx hb (fun j hj => by have := hob j hj; omega) dX4_count_8 (by decide) (fun c_8 => ?_) (fun c_8 => ?_)
  · skip
    obtain ⟨k, rfl⟩ := Option.ne_none_iff_exists'.mp c_8
    have hk2 := hob k rfl
    have hl : lv_has ls 4 [(3, .int (nI k)), (0, .ref o), (1, .int x), (2, .int y)] := hl
    refine lv_aload_n hx hb dX4_count_15 rfl (lv_at hl 1 rfl) ?_
    refine va_get (D := D) (ci := 4) (v := .ref oC) (C := RX4) (T := TX4) (N := 18) hx hb hts in_X4_count_X4 hown hE.1 hP 0 rfl rfl 5 (by decide) (hts _ fl_X4_count_24) (fun _ h9 => h9) rfl dX4_count_16 ?_
    refine lv_iload_n hx hb dX4_count_19 rfl (lv_at hl 0 rfl) ?_
    refine r_lld hx hb hE hP 3 rfl (k := k) (by omega) (by decide) dX4_count_20 ?_
    exact e_l hx hb hr hlocks dX4_count_21 ⟨some k, hF, rfl⟩
  · skip
    refine lv_lconst (v := lN 0) hx hb dX4_count_11 (by decide) ?_
    refine lv_goto (tgt := 21) hx hb dX4_count_12 (by decide) ?_
    exact e_l hx hb hr hlocks dX4_count_21 ⟨none, by rw [← c_8]; exact hF, rfl⟩

set_option maxHeartbeats 4000000 in
set_option maxRecDepth 100000 in
/-- Model.size, refused -/
theorem k_sizeBad (l : Launch) (D : va_G) (cI cJ cZ : ClassId) (o oh oF oT oC oL oB oM oN oY oZ oK oP oA n kn hs : Nat) (ik ib : Bool) (y : Int32) (hbad : ∀ m, 1 ≤ m → m ≤ 200 → y ≠ nI m) : Met l yX4_size wsX4_size ({ frames := 0, cells := 0, slots := 0, locals := 0 }) (PcR D cI cJ cZ [.ref o, .int y] [(o, .inr (4, [.int (nI n), .ref oh, .int (nI kn), .ref oF, .ref oT, .ref oC, .ref oL, .int (bI ik), .ref oB, .ref oM, .ref oN, .ref oY, .ref oZ, .int (nI hs), .int (bI ib), .ref oK, .ref oP, .ref oA]))]) (vp_Si (fun r => r = 0)) 0 0 (fun _ => False) := by
  refine startR (cc := cX4_size) (maxL := 3) (ret := (some .boolean)) (by decide) rfl (Nat.le_of_ble_eq_true rfl) ?_
  intro p e s m below meth c ls hx hb hr hml hown hts hlocks hE hP hl
  have hl : lv_has ls 3 [(0, .ref o), (1, .int y)] := hl
  refine lv_iload_n hx hb dX4_size_0 rfl (lv_at hl 1 rfl) ?_
  refine lv_iconst (v := nI 1) hx hb dX4_size_1 (by decide) ?_
  refine lv_icmp_lt (tgt := 12) hx hb dX4_size_2 (by decide) (fun c_2 => ?_) (fun c_2 => ?_)
  · skip
    refine lv_iconst (v := bI false) hx hb dX4_size_12 (by decide) ?_
    exact e_z false rfl hx hb hr hlocks dX4_size_13 rfl
  · skip
    refine lv_iload_n hx hb dX4_size_5 rfl (lv_at hl 1 rfl) ?_
    refine lv_sipush (v := nI 200) hx hb dX4_size_6 (by decide) ?_
    refine lv_icmp_le (tgt := 14) hx hb dX4_size_9 (by decide) (fun c_9 => ?_) (fun c_9 => ?_)
    · skip
      exact absurd (sz_ok c_2 c_9) (fun ⟨m, h1, h2, h3⟩ => hbad m h1 h2 h3)
    · skip
      refine lv_iconst (v := bI false) hx hb dX4_size_12 (by decide) ?_
      exact e_z false rfl hx hb hr hlocks dX4_size_13 rfl

theorem flm_X4_size_13 : Cond.fieldLink RX4 13 "BlockRowsModel" "hot" "[Z" ∈ wsX4_size := by decide +kernel
theorem flm_X4_size_56 : Cond.fieldLink RX4 56 "BlockRowsModel" "ways" "I" ∈ wsX4_size := by decide +kernel
theorem flm_X4_size_59 : Cond.fieldLink RX4 59 "BlockRowsModel" "isKnown" "Z" ∈ wsX4_size := by decide +kernel
theorem flm_X4_size_7 : Cond.fieldLink RX4 7 "BlockRowsModel" "blocks" "I" ∈ wsX4_size := by decide +kernel
theorem inm_X4_size_X4 : ∀ w ∈ wsX40, w ∈ wsX4_size := by decide +kernel
set_option maxHeartbeats 4000000 in
set_option maxRecDepth 100000 in
/-- Model.size -/
theorem k_sizeOk (l : Launch) (D : va_G) (cI cJ cZ : ClassId) (o oh oF oT oC oL oB oM oN oY oZ oK oP oA n kn hs : Nat) (ik ib : Bool) (hot : Nat → Bool) (sz m_ : Nat) (hm1 : 1 ≤ m_) (hm2 : m_ ≤ 200) : Met l yX4_size wsX4_size ({ frames := 0, cells := 0, slots := 0, locals := 0 }) (PcM D cI cJ cZ [.ref o, .int (nI m_)] [(o, .inr (4, [.int (nI n), .ref oh, .int (nI kn), .ref oF, .ref oT, .ref oC, .ref oL, .int (bI ik), .ref oB, .ref oM, .ref oN, .ref oY, .ref oZ, .int (nI hs), .int (bI ib), .ref oK, .ref oP, .ref oA])), (oh, .inl (cZ, 200, .inl (bIf hot)))] sz) (va_Qi (fun r (_ : Unit) => r = 1) (Bm D [(o, .inr (4, [.int (nI n), .ref oh, .int (nI kn), .ref oF, .ref oT, .ref oC, .ref oL, .int (bI ik), .ref oB, .ref oM, .ref oN, .ref oY, .ref oZ, .int (nI hs), .int (bI ib), .ref oK, .ref oP, .ref oA])), (oh, .inl (cZ, 200, .inl (bIf hot)))] sz (fun _ : Unit => [(o, .inr (4, [.int (nI m_), .ref oh, .int (nI 0), .ref oF, .ref oT, .ref oC, .ref oL, .int (bI false), .ref oB, .ref oM, .ref oN, .ref oY, .ref oZ, .int (nI hs), .int (bI ib), .ref oK, .ref oP, .ref oA])), (oh, .inl (cZ, 200, .inl (bIf (fun _ => false))))])) (va_A [(o, .inr (4, [.int (nI n), .ref oh, .int (nI kn), .ref oF, .ref oT, .ref oC, .ref oL, .int (bI ik), .ref oB, .ref oM, .ref oN, .ref oY, .ref oZ, .int (nI hs), .int (bI ib), .ref oK, .ref oP, .ref oA])), (oh, .inl (cZ, 200, .inl (bIf hot)))] sz)) 0 0 (va_A [(o, .inr (4, [.int (nI n), .ref oh, .int (nI kn), .ref oF, .ref oT, .ref oC, .ref oL, .int (bI ik), .ref oB, .ref oM, .ref oN, .ref oY, .ref oZ, .int (nI hs), .int (bI ib), .ref oK, .ref oP, .ref oA])), (oh, .inl (cZ, 200, .inl (bIf hot)))] sz) := by
  refine startM (cc := cX4_size) (maxL := 3) (ret := (some .boolean)) (by decide) rfl (Nat.le_of_ble_eq_true rfl) ?_
  intro p e s m below meth c ls A hA hAe hx hb hr hml hown hts hlocks hin hE hP hD hS hl
  have hl : lv_has ls 3 [(0, .ref o), (1, .int (nI m_))] := hl
  refine lv_iload_n hx hb dX4_size_0 rfl (lv_at hl 1 rfl) ?_
  refine lv_iconst (v := nI 1) hx hb dX4_size_1 (by decide) ?_
  refine r_icmp_lt (tgt := 12) hx hb (x := m_) (y := 1) (by omega) (by omega) dX4_size_2 (by decide) (fun c_2 => ?_) (fun c_2 => ?_)
  · skip
    exact absurd c_2 (by omega)
  · skip
    refine lv_iload_n hx hb dX4_size_5 rfl (lv_at hl 1 rfl) ?_
    refine lv_sipush (v := nI 200) hx hb dX4_size_6 (by decide) ?_
    refine r_icmp_le (tgt := 14) hx hb (x := m_) (y := 200) (by omega) (by omega) dX4_size_9 (by decide) (fun c_9 => ?_) (fun c_9 => ?_)
    · skip
      refine lv_aload_n hx hb dX4_size_14 rfl (lv_at hl 0 rfl) ?_
      refine lv_iload_n hx hb dX4_size_15 rfl (lv_at hl 1 rfl) ?_
      refine va_put (D := D) (ci := 4) (v := .int (nI m_)) (ty := .int) (C := RX4) (T := TX4) (N := 18) hx hb hts inm_X4_size_X4 tyX4 tyX4_ok nmX4 hown hE.1 hP hD hS 0 rfl rfl 0 (by decide) (hts _ flm_X4_size_7) (fun _ h9 => h9) rfl (by decide +kernel) rfl rfl (Nat.le_of_ble_eq_true rfl) dX4_size_16 (fun H locs hP hD hS => ?_)
      have hP : va_P D vwCl [(o, .inr (4, [.int (nI m_), .ref oh, .int (nI kn), .ref oF, .ref oT, .ref oC, .ref oL, .int (bI ik), .ref oB, .ref oM, .ref oN, .ref oY, .ref oZ, .int (nI hs), .int (bI ib), .ref oK, .ref oP, .ref oA])), (oh, .inl (cZ, 200, .inl (bIf hot)))] H := hP
      have hD : va_D A [(o, .inr (4, [.int (nI m_), .ref oh, .int (nI kn), .ref oF, .ref oT, .ref oC, .ref oL, .int (bI ik), .ref oB, .ref oM, .ref oN, .ref oY, .ref oZ, .int (nI hs), .int (bI ib), .ref oK, .ref oP, .ref oA])), (oh, .inl (cZ, 200, .inl (bIf hot)))] := hD
      refine lv_aload_n hx hb dX4_size_19 rfl (lv_at hl 0 rfl) ?_
      refine lv_iconst (v := nI 0) hx hb dX4_size_20 (by decide) ?_
      refine va_put (D := D) (ci := 4) (v := .int (nI 0)) (ty := .int) (C := RX4) (T := TX4) (N := 18) hx hb hts inm_X4_size_X4 tyX4 tyX4_ok nmX4 hown hE.1 hP hD hS 0 rfl rfl 2 (by decide) (hts _ flm_X4_size_56) (fun _ h9 => h9) rfl (by decide +kernel) rfl rfl (Nat.le_of_ble_eq_true rfl) dX4_size_21 (fun H locs hP hD hS => ?_)
      have hP : va_P D vwCl [(o, .inr (4, [.int (nI m_), .ref oh, .int (nI 0), .ref oF, .ref oT, .ref oC, .ref oL, .int (bI ik), .ref oB, .ref oM, .ref oN, .ref oY, .ref oZ, .int (nI hs), .int (bI ib), .ref oK, .ref oP, .ref oA])), (oh, .inl (cZ, 200, .inl (bIf hot)))] H := hP
      have hD : va_D A [(o, .inr (4, [.int (nI m_), .ref oh, .int (nI 0), .ref oF, .ref oT, .ref oC, .ref oL, .int (bI ik), .ref oB, .ref oM, .ref oN, .ref oY, .ref oZ, .int (nI hs), .int (bI ib), .ref oK, .ref oP, .ref oA])), (oh, .inl (cZ, 200, .inl (bIf hot)))] := hD
      refine lv_iconst (v := nI 0) hx hb dX4_size_24 (by decide) ?_
      refine lv_istore_n (lv' := [(2, .int (nI 0)), (0, .ref o), (1, .int (nI m_))]) hx hb dX4_size_25 rfl hl (by decide) rfl (fun ls hl => ?_)
      refine r_loop (σ := Nat × (Nat → Bool)) (fun z0 => 200 - z0.1) (fun z0 H locs ls => (z0.1 ≤ 200 ∧ ∀ j, j < z0.1 → z0.2 j = false) ∧ va_P D vwCl [(o, .inr (4, [.int (nI m_), .ref oh, .int (nI 0), .ref oF, .ref oT, .ref oC, .ref oL, .int (bI ik), .ref oB, .ref oM, .ref oN, .ref oY, .ref oZ, .int (nI hs), .int (bI ib), .ref oK, .ref oP, .ref oA])), (oh, .inl (cZ, 200, .inl (bIf z0.2)))] H ∧ va_D A [(o, .inr (4, [.int (nI m_), .ref oh, .int (nI 0), .ref oF, .ref oT, .ref oC, .ref oL, .int (bI ik), .ref oB, .ref oM, .ref oN, .ref oY, .ref oZ, .int (nI hs), .int (bI ib), .ref oK, .ref oP, .ref oA])), (oh, .inl (cZ, 200, .inl (bIf z0.2)))] ∧ va_S A s.heap H locs ∧ lv_has ls 3 [(0, .ref o), (2, .int (nI z0.1))]) ?_ (0, hot) ⟨⟨by omega, fun j hj => by omega⟩, hP.sub [0, 1] rfl, hD.sub [0, 1] (by decide) rfl, hS, lv_sub hl [1, 0] rfl⟩
      rintro ⟨k, f⟩ H locs ls ⟨hi_26, hP, hD, hS, hl⟩ ih_26
      have hi_26 : k ≤ 200 ∧ ∀ j, j < k → f j = false := hi_26
      have hP : va_P D vwCl [(o, .inr (4, [.int (nI m_), .ref oh, .int (nI 0), .ref oF, .ref oT, .ref oC, .ref oL, .int (bI ik), .ref oB, .ref oM, .ref oN, .ref oY, .ref oZ, .int (nI hs), .int (bI ib), .ref oK, .ref oP, .ref oA])), (oh, .inl (cZ, 200, .inl (bIf f)))] H := hP
      have hD : va_D A [(o, .inr (4, [.int (nI m_), .ref oh, .int (nI 0), .ref oF, .ref oT, .ref oC, .ref oL, .int (bI ik), .ref oB, .ref oM, .ref oN, .ref oY, .ref oZ, .int (nI hs), .int (bI ib), .ref oK, .ref oP, .ref oA])), (oh, .inl (cZ, 200, .inl (bIf f)))] := hD
      have hl : lv_has ls 3 [(0, .ref o), (2, .int (nI k))] := hl
      obtain ⟨hi_a, hi_b⟩ := id hi_26
      refine lv_iload_n hx hb dX4_size_26 rfl (lv_at hl 1 rfl) ?_
      refine lv_sipush (v := nI 200) hx hb dX4_size_27 (by decide) ?_
      refine r_icmp_ge (tgt := 46) hx hb (x := k) (y := 200) (by omega) (by omega) dX4_size_30 (by decide) (fun c_30 => ?_) (fun c_30 => ?_)
      · skip
        have hP := P_extI hP 1 (bIf (fun _ => false)) rfl (fun j hj => congrArg bI (hi_b j (by omega)))
        have hD := D_ext (y := .inl (cZ, 200, .inl (bIf (fun _ => false)))) hD 1 rfl
        have hP : va_P D vwCl [(o, .inr (4, [.int (nI m_), .ref oh, .int (nI 0), .ref oF, .ref oT, .ref oC, .ref oL, .int (bI ik), .ref oB, .ref oM, .ref oN, .ref oY, .ref oZ, .int (nI hs), .int (bI ib), .ref oK, .ref oP, .ref oA])), (oh, .inl (cZ, 200, .inl (bIf (fun _ => false))))] H := hP
        have hD : va_D A [(o, .inr (4, [.int (nI m_), .ref oh, .int (nI 0), .ref oF, .ref oT, .ref oC, .ref oL, .int (bI ik), .ref oB, .ref oM, .ref oN, .ref oY, .ref oZ, .int (nI hs), .int (bI ib), .ref oK, .ref oP, .ref oA])), (oh, .inl (cZ, 200, .inl (bIf (fun _ => false))))] := hD
        refine lv_aload_n hx hb dX4_size_46 rfl (lv_at hl 0 rfl) ?_
        refine lv_iconst (v := bI false) hx hb dX4_size_47 (by decide) ?_
        refine va_put (D := D) (ci := 4) (v := .int (bI false)) (ty := .boolean) (C := RX4) (T := TX4) (N := 18) hx hb hts inm_X4_size_X4 tyX4 tyX4_ok nmX4 hown hE.1 hP hD hS 0 rfl rfl 7 (by decide) (hts _ flm_X4_size_59) (fun _ h9 => h9) rfl (by decide +kernel) (bI_narrow _) (bI_fits _) (Nat.le_of_ble_eq_true rfl) dX4_size_48 (fun H locs hP hD hS => ?_)
        have hP : va_P D vwCl [(o, .inr (4, [.int (nI m_), .ref oh, .int (nI 0), .ref oF, .ref oT, .ref oC, .ref oL, .int (bI false), .ref oB, .ref oM, .ref oN, .ref oY, .ref oZ, .int (nI hs), .int (bI ib), .ref oK, .ref oP, .ref oA])), (oh, .inl (cZ, 200, .inl (bIf (fun _ => false))))] H := hP
        have hD : va_D A [(o, .inr (4, [.int (nI m_), .ref oh, .int (nI 0), .ref oF, .ref oT, .ref oC, .ref oL, .int (bI false), .ref oB, .ref oM, .ref oN, .ref oY, .ref oZ, .int (nI hs), .int (bI ib), .ref oK, .ref oP, .ref oA])), (oh, .inl (cZ, 200, .inl (bIf (fun _ => false))))] := hD
        refine lv_iconst (v := bI true) hx hb dX4_size_51 (by decide) ?_
        exact e_mz () true rfl hAe hx hb hr hlocks dX4_size_52 hP hD hS rfl
      · skip
        refine lv_aload_n hx hb dX4_size_33 rfl (lv_at hl 0 rfl) ?_
        refine va_get (D := D) (ci := 4) (v := .ref oh) (C := RX4) (T := TX4) (N := 18) hx hb hts inm_X4_size_X4 hown hE.1 hP 0 rfl rfl 1 (by decide) (hts _ flm_X4_size_13) (fun _ h9 => h9) rfl dX4_size_34 ?_
        refine lv_iload_n hx hb dX4_size_37 rfl (lv_at hl 1 rfl) ?_
        refine lv_iconst (v := bI false) hx hb dX4_size_38 (by decide) ?_
        refine r_bst hx hb hE hP hD hS 1 rfl (k := k) false rfl (by omega) (by decide) dX4_size_39 (fun H locs hP hD hS => ?_)
        have hP : va_P D vwCl [(o, .inr (4, [.int (nI m_), .ref oh, .int (nI 0), .ref oF, .ref oT, .ref oC, .ref oL, .int (bI ik), .ref oB, .ref oM, .ref oN, .ref oY, .ref oZ, .int (nI hs), .int (bI ib), .ref oK, .ref oP, .ref oA])), (oh, .inl (cZ, 200, .inl (bIf (va_up f k false))))] H := hP
        have hD : va_D A [(o, .inr (4, [.int (nI m_), .ref oh, .int (nI 0), .ref oF, .ref oT, .ref oC, .ref oL, .int (bI ik), .ref oB, .ref oM, .ref oN, .ref oY, .ref oZ, .int (nI hs), .int (bI ib), .ref oK, .ref oP, .ref oA])), (oh, .inl (cZ, 200, .inl (bIf (va_up f k false))))] := hD
        refine lv_iinc (v := (nI (k + 1))) (lv' := [(2, .int (nI (k + 1))), (0, .ref o)]) hx hb dX4_size_40 hl (k := 1) rfl (nI_1 _) (by decide) rfl (fun ls hl => ?_)
        refine lv_goto (tgt := 26) hx hb dX4_size_43 (by decide) ?_
        exact ih_26 (k + 1, va_up f k false) _ _ _ ⟨(show (k + 1) ≤ 200 ∧ ∀ j, j < (k + 1) → (va_up f k false) j = false from ⟨by omega, lt_s (fun j hj => by rw [va_up_ne _ _ (by omega)]; exact hi_26.2 j hj) (by rw [va_up_self])⟩), hP.sub [0, 1] rfl, hD.sub [0, 1] (by decide) rfl, hS, lv_sub hl [1, 0] rfl⟩ (by show 200 - (k + 1) < 200 - k; omega)
    · skip
      exact absurd c_9 (by omega)

set_option maxHeartbeats 4000000 in
set_option maxRecDepth 100000 in
/-- Model.heat, refused -/
theorem k_heatBad (l : Launch) (D : va_G) (cI cJ cZ : ClassId) (o oh oF oT oC oL oB oM oN oY oZ oK oP oA n kn hs : Nat) (ik ib : Bool) (hn : n ≤ 200) (y : Int32) (fl : Bool) (hbad : isB n y = false) : Met l yX4_heat wsX4_heat ({ frames := 1, cells := 0, slots := 0, locals := 21 }) (PcR D cI cJ cZ [.ref o, .int y, .int (bI fl)] [(o, .inr (4, [.int (nI n), .ref oh, .int (nI kn), .ref oF, .ref oT, .ref oC, .ref oL, .int (bI ik), .ref oB, .ref oM, .ref oN, .ref oY, .ref oZ, .int (nI hs), .int (bI ib), .ref oK, .ref oP, .ref oA]))]) (vp_Si (fun r => r = 0)) 0 0 (fun _ => False) := by
  refine startR (cc := cX4_heat) (maxL := 3) (ret := (some .boolean)) (by decide) rfl (Nat.le_of_ble_eq_true rfl) ?_
  intro p e s m below meth c ls hx hb hr hml hown hts hlocks hE hP hl
  have hl : lv_has ls 3 [(0, .ref o), (1, .int y), (2, .int (bI fl))] := hl
  refine lv_aload_n hx hb dX4_heat_0 rfl (lv_at hl 0 rfl) ?_
  refine lv_iload_n hx hb dX4_heat_1 rfl (lv_at hl 1 rfl) ?_
  refine callRi (As := [.int y]) (rest := []) ⟨hx, hb, hml, hown, hts⟩ (k_isBlock l D cI cJ cZ o oh oF oT oC oL oB oM oN oY oZ oK oP oA n kn hs ik ib hn y) (cwV 1 hts gX4_heat_X4_isBlock rfl rfl rfl (by decide +kernel) ⟨Nat.le_of_ble_eq_true rfl, Nat.le_of_ble_eq_true rfl⟩) (preR hE hP 4 0 rfl rfl rfl [0] rfl) rfl hl.1 (Nat.le_of_ble_eq_true rfl) dX4_heat_2 ⟨Nat.zero_le _, Nat.zero_le _⟩ rfl (fun r_2 hr_2 => ?_)
  subst hr_2
  refine r_b_ne (tgt := 10) hx hb dX4_heat_5 (by decide) (fun c_5 => ?_) (fun c_5 => ?_)
  · skip
    exact absurd c_5 (by rw [hbad]; decide)
  · skip
    refine lv_iconst (v := bI false) hx hb dX4_heat_8 (by decide) ?_
    exact e_z false rfl hx hb hr hlocks dX4_heat_9 rfl

theorem flm_X4_heat_13 : Cond.fieldLink RX4 13 "BlockRowsModel" "hot" "[Z" ∈ wsX4_heat := by decide +kernel
theorem flm_X4_heat_59 : Cond.fieldLink RX4 59 "BlockRowsModel" "isKnown" "Z" ∈ wsX4_heat := by decide +kernel
theorem inm_X4_heat_X4 : ∀ w ∈ wsX40, w ∈ wsX4_heat := by decide +kernel
set_option maxHeartbeats 4000000 in
set_option maxRecDepth 100000 in
/-- Model.heat -/
theorem k_heatOk (l : Launch) (D : va_G) (cI cJ cZ : ClassId) (o oh oF oT oC oL oB oM oN oY oZ oK oP oA n kn hs : Nat) (ik ib : Bool) (hot : Nat → Bool) (hn : n ≤ 200) (sz j : Nat) (fl : Bool) (hj : j < n) : Met l yX4_heat wsX4_heat ({ frames := 1, cells := 0, slots := 0, locals := 21 }) (PcM D cI cJ cZ [.ref o, .int (nI j), .int (bI fl)] [(o, .inr (4, [.int (nI n), .ref oh, .int (nI kn), .ref oF, .ref oT, .ref oC, .ref oL, .int (bI ik), .ref oB, .ref oM, .ref oN, .ref oY, .ref oZ, .int (nI hs), .int (bI ib), .ref oK, .ref oP, .ref oA])), (oh, .inl (cZ, 200, .inl (bIf hot)))] sz) (va_Qi (fun r (_ : Unit) => r = 1) (Bm D [(o, .inr (4, [.int (nI n), .ref oh, .int (nI kn), .ref oF, .ref oT, .ref oC, .ref oL, .int (bI ik), .ref oB, .ref oM, .ref oN, .ref oY, .ref oZ, .int (nI hs), .int (bI ib), .ref oK, .ref oP, .ref oA])), (oh, .inl (cZ, 200, .inl (bIf hot)))] sz (fun _ : Unit => [(o, .inr (4, [.int (nI n), .ref oh, .int (nI kn), .ref oF, .ref oT, .ref oC, .ref oL, .int (bI false), .ref oB, .ref oM, .ref oN, .ref oY, .ref oZ, .int (nI hs), .int (bI ib), .ref oK, .ref oP, .ref oA])), (oh, .inl (cZ, 200, .inl (bIf (va_up hot j fl))))])) (va_A [(o, .inr (4, [.int (nI n), .ref oh, .int (nI kn), .ref oF, .ref oT, .ref oC, .ref oL, .int (bI ik), .ref oB, .ref oM, .ref oN, .ref oY, .ref oZ, .int (nI hs), .int (bI ib), .ref oK, .ref oP, .ref oA])), (oh, .inl (cZ, 200, .inl (bIf hot)))] sz)) 0 0 (va_A [(o, .inr (4, [.int (nI n), .ref oh, .int (nI kn), .ref oF, .ref oT, .ref oC, .ref oL, .int (bI ik), .ref oB, .ref oM, .ref oN, .ref oY, .ref oZ, .int (nI hs), .int (bI ib), .ref oK, .ref oP, .ref oA])), (oh, .inl (cZ, 200, .inl (bIf hot)))] sz) := by
  refine startM (cc := cX4_heat) (maxL := 3) (ret := (some .boolean)) (by decide) rfl (Nat.le_of_ble_eq_true rfl) ?_
  intro p e s m below meth c ls A hA hAe hx hb hr hml hown hts hlocks hin hE hP hD hS hl
  have hl : lv_has ls 3 [(0, .ref o), (1, .int (nI j)), (2, .int (bI fl))] := hl
  refine lv_aload_n hx hb dX4_heat_0 rfl (lv_at hl 0 rfl) ?_
  refine lv_iload_n hx hb dX4_heat_1 rfl (lv_at hl 1 rfl) ?_
  refine callRi (As := [.int (nI j)]) (rest := []) ⟨hx, hb, hml, hown, hts⟩ (k_isBlock l D cI cJ cZ o oh oF oT oC oL oB oM oN oY oZ oK oP oA n kn hs ik ib hn (nI j)) (cwV 1 hts gX4_heat_X4_isBlock rfl rfl rfl (by decide +kernel) ⟨Nat.le_of_ble_eq_true rfl, Nat.le_of_ble_eq_true rfl⟩) (preR hE hP 4 0 rfl rfl rfl [0] rfl) rfl hl.1 (Nat.le_of_ble_eq_true rfl) dX4_heat_2 ⟨Nat.zero_le _, Nat.zero_le _⟩ rfl (fun r_2 hr_2 => ?_)
  subst hr_2
  refine r_b_ne (tgt := 10) hx hb dX4_heat_5 (by decide) (fun c_5 => ?_) (fun c_5 => ?_)
  · skip
    refine lv_aload_n hx hb dX4_heat_10 rfl (lv_at hl 0 rfl) ?_
    refine va_get (D := D) (ci := 4) (v := .ref oh) (C := RX4) (T := TX4) (N := 18) hx hb hts inm_X4_heat_X4 hown hE.1 hP 0 rfl rfl 1 (by decide) (hts _ flm_X4_heat_13) (fun _ h9 => h9) rfl dX4_heat_11 ?_
    refine lv_iload_n hx hb dX4_heat_14 rfl (lv_at hl 1 rfl) ?_
    refine lv_iload_n hx hb dX4_heat_15 rfl (lv_at hl 2 rfl) ?_
    refine r_bst hx hb hE hP hD hS 1 rfl (k := j) fl rfl (by omega) (by decide) dX4_heat_16 (fun H locs hP hD hS => ?_)
    have hP : va_P D vwCl [(o, .inr (4, [.int (nI n), .ref oh, .int (nI kn), .ref oF, .ref oT, .ref oC, .ref oL, .int (bI ik), .ref oB, .ref oM, .ref oN, .ref oY, .ref oZ, .int (nI hs), .int (bI ib), .ref oK, .ref oP, .ref oA])), (oh, .inl (cZ, 200, .inl (bIf (va_up hot j fl))))] H := hP
    have hD : va_D A [(o, .inr (4, [.int (nI n), .ref oh, .int (nI kn), .ref oF, .ref oT, .ref oC, .ref oL, .int (bI ik), .ref oB, .ref oM, .ref oN, .ref oY, .ref oZ, .int (nI hs), .int (bI ib), .ref oK, .ref oP, .ref oA])), (oh, .inl (cZ, 200, .inl (bIf (va_up hot j fl))))] := hD
    refine lv_aload_n hx hb dX4_heat_17 rfl (lv_at hl 0 rfl) ?_
    refine lv_iconst (v := bI false) hx hb dX4_heat_18 (by decide) ?_
    refine va_put (D := D) (ci := 4) (v := .int (bI false)) (ty := .boolean) (C := RX4) (T := TX4) (N := 18) hx hb hts inm_X4_heat_X4 tyX4 tyX4_ok nmX4 hown hE.1 hP hD hS 0 rfl rfl 7 (by decide) (hts _ flm_X4_heat_59) (fun _ h9 => h9) rfl (by decide +kernel) (bI_narrow _) (bI_fits _) (Nat.le_of_ble_eq_true rfl) dX4_heat_19 (fun H locs hP hD hS => ?_)
    have hP : va_P D vwCl [(o, .inr (4, [.int (nI n), .ref oh, .int (nI kn), .ref oF, .ref oT, .ref oC, .ref oL, .int (bI false), .ref oB, .ref oM, .ref oN, .ref oY, .ref oZ, .int (nI hs), .int (bI ib), .ref oK, .ref oP, .ref oA])), (oh, .inl (cZ, 200, .inl (bIf (va_up hot j fl))))] H := hP
    have hD : va_D A [(o, .inr (4, [.int (nI n), .ref oh, .int (nI kn), .ref oF, .ref oT, .ref oC, .ref oL, .int (bI false), .ref oB, .ref oM, .ref oN, .ref oY, .ref oZ, .int (nI hs), .int (bI ib), .ref oK, .ref oP, .ref oA])), (oh, .inl (cZ, 200, .inl (bIf (va_up hot j fl))))] := hD
    refine lv_iconst (v := bI true) hx hb dX4_heat_22 (by decide) ?_
    exact e_mz () true rfl hAe hx hb hr hlocks dX4_heat_23 hP hD hS rfl
  · skip
    exact absurd c_5 (by rw [isB_nI (by omega)]; simp; omega)

theorem wd_X4_way_c67 : Cond.constantLong RX4 67 (-1) ∈ wsX4_way := by decide +kernel
set_option maxHeartbeats 4000000 in
set_option maxRecDepth 100000 in
/-- Model.way: no such blocks -/
theorem k_wayBad1 (l : Launch) (D : va_G) (cI cJ cZ : ClassId) (o oh oF oT oC oL oB oM oN oY oZ oK oP oA n kn hs : Nat) (ik ib : Bool) (hn : n ≤ 200) (y1 y2 y3 : Int32) (fl : Bool) (hbad : (isB n y1 && isB n y2) = false) : Met l yX4_way wsX4_way ({ frames := 1, cells := 0, slots := 0, locals := 21 }) (PcR D cI cJ cZ [.ref o, .int y1, .int y2, .int y3, .int (bI fl)] [(o, .inr (4, [.int (nI n), .ref oh, .int (nI kn), .ref oF, .ref oT, .ref oC, .ref oL, .int (bI ik), .ref oB, .ref oM, .ref oN, .ref oY, .ref oZ, .int (nI hs), .int (bI ib), .ref oK, .ref oP, .ref oA]))]) (vp_Sl (fun r => r = -1)) 0 0 (fun _ => False) := by
  refine startR (cc := cX4_way) (maxL := 6) (ret := (some .long)) (by decide) rfl (Nat.le_of_ble_eq_true rfl) ?_
  intro p e s m below meth c ls hx hb hr hml hown hts hlocks hE hP hl
  have hl : lv_has ls 6 [(0, .ref o), (1, .int y1), (2, .int y2), (3, .int y3), (4, .int (bI fl))] := hl
  refine lv_aload_n hx hb dX4_way_0 rfl (lv_at hl 0 rfl) ?_
  refine lv_iload_n hx hb dX4_way_1 rfl (lv_at hl 1 rfl) ?_
  refine callRi (As := [.int y1]) (rest := []) ⟨hx, hb, hml, hown, hts⟩ (k_isBlock l D cI cJ cZ o oh oF oT oC oL oB oM oN oY oZ oK oP oA n kn hs ik ib hn y1) (cwV 1 hts gX4_way_X4_isBlock rfl rfl rfl (by decide +kernel) ⟨Nat.le_of_ble_eq_true rfl, Nat.le_of_ble_eq_true rfl⟩) (preR hE hP 4 0 rfl rfl rfl [0] rfl) rfl hl.1 (Nat.le_of_ble_eq_true rfl) dX4_way_2 ⟨Nat.zero_le _, Nat.zero_le _⟩ rfl (fun r_2 hr_2 => ?_)
  subst hr_2
  refine r_b_eq (tgt := 16) hx hb dX4_way_5 (by decide) (fun c_5 => ?_) (fun c_5 => ?_)
  · skip
    refine lv_ldc2 (v := (-1)) hx hb hown (hts _ wd_X4_way_c67) dX4_way_16 ?_
    exact e_l hx hb hr hlocks dX4_way_19 rfl
  · skip
    refine lv_aload_n hx hb dX4_way_8 rfl (lv_at hl 0 rfl) ?_
    refine lv_iload_n hx hb dX4_way_9 rfl (lv_at hl 2 rfl) ?_
    refine callRi (As := [.int y2]) (rest := []) ⟨hx, hb, hml, hown, hts⟩ (k_isBlock l D cI cJ cZ o oh oF oT oC oL oB oM oN oY oZ oK oP oA n kn hs ik ib hn y2) (cwV 1 hts gX4_way_X4_isBlock rfl rfl rfl (by decide +kernel) ⟨Nat.le_of_ble_eq_true rfl, Nat.le_of_ble_eq_true rfl⟩) (preR hE hP 4 0 rfl rfl rfl [0] rfl) rfl hl.1 (Nat.le_of_ble_eq_true rfl) dX4_way_10 ⟨Nat.zero_le _, Nat.zero_le _⟩ rfl (fun r_10 hr_10 => ?_)
    subst hr_10
    refine r_b_ne (tgt := 20) hx hb dX4_way_13 (by decide) (fun c_13 => ?_) (fun c_13 => ?_)
    · skip
      exact absurd hbad (by rw [c_5, c_13]; decide)
    · skip
      refine lv_ldc2 (v := (-1)) hx hb hown (hts _ wd_X4_way_c67) dX4_way_16 ?_
      exact e_l hx hb hr hlocks dX4_way_19 rfl

theorem wdb_X4_way_c69 : Cond.constant RX4 69 (1000000000) ∈ wsX4_way := by decide +kernel
theorem wdb_X4_way_c70 : Cond.constantLong RX4 70 (-2) ∈ wsX4_way := by decide +kernel
set_option maxHeartbeats 4000000 in
set_option maxRecDepth 100000 in
/-- Model.way: no such count -/
theorem k_wayBad2 (l : Launch) (D : va_G) (cI cJ cZ : ClassId) (o oh oF oT oC oL oB oM oN oY oZ oK oP oA n kn hs : Nat) (ik ib : Bool) (hn : n ≤ 200) (u v : Nat) (hu : u < n) (hv : v < n) (y3 : Int32) (fl : Bool) (hbad : ∀ m, m ≤ 1000000000 → y3 ≠ nI m) : Met l yX4_way wsX4_way ({ frames := 1, cells := 0, slots := 0, locals := 21 }) (PcR D cI cJ cZ [.ref o, .int (nI u), .int (nI v), .int y3, .int (bI fl)] [(o, .inr (4, [.int (nI n), .ref oh, .int (nI kn), .ref oF, .ref oT, .ref oC, .ref oL, .int (bI ik), .ref oB, .ref oM, .ref oN, .ref oY, .ref oZ, .int (nI hs), .int (bI ib), .ref oK, .ref oP, .ref oA]))]) (vp_Sl (fun r => r = -2)) 0 0 (fun _ => False) := by
  refine startR (cc := cX4_way) (maxL := 6) (ret := (some .long)) (by decide) rfl (Nat.le_of_ble_eq_true rfl) ?_
  intro p e s m below meth c ls hx hb hr hml hown hts hlocks hE hP hl
  have hl : lv_has ls 6 [(0, .ref o), (1, .int (nI u)), (2, .int (nI v)), (3, .int y3), (4, .int (bI fl))] := hl
  refine lv_aload_n hx hb dX4_way_0 rfl (lv_at hl 0 rfl) ?_
  refine lv_iload_n hx hb dX4_way_1 rfl (lv_at hl 1 rfl) ?_
  refine callRi (As := [.int (nI u)]) (rest := []) ⟨hx, hb, hml, hown, hts⟩ (k_isBlock l D cI cJ cZ o oh oF oT oC oL oB oM oN oY oZ oK oP oA n kn hs ik ib hn (nI u)) (cwV 1 hts gX4_way_X4_isBlock rfl rfl rfl (by decide +kernel) ⟨Nat.le_of_ble_eq_true rfl, Nat.le_of_ble_eq_true rfl⟩) (preR hE hP 4 0 rfl rfl rfl [0] rfl) rfl hl.1 (Nat.le_of_ble_eq_true rfl) dX4_way_2 ⟨Nat.zero_le _, Nat.zero_le _⟩ rfl (fun r_2 hr_2 => ?_)
  subst hr_2
  refine r_b_eq (tgt := 16) hx hb dX4_way_5 (by decide) (fun c_5 => ?_) (fun c_5 => ?_)
  · skip
    exact absurd c_5 (by rw [isB_nI (by omega)]; simp; omega)
  · skip
    refine lv_aload_n hx hb dX4_way_8 rfl (lv_at hl 0 rfl) ?_
    refine lv_iload_n hx hb dX4_way_9 rfl (lv_at hl 2 rfl) ?_
    refine callRi (As := [.int (nI v)]) (rest := []) ⟨hx, hb, hml, hown, hts⟩ (k_isBlock l D cI cJ cZ o oh oF oT oC oL oB oM oN oY oZ oK oP oA n kn hs ik ib hn (nI v)) (cwV 1 hts gX4_way_X4_isBlock rfl rfl rfl (by decide +kernel) ⟨Nat.le_of_ble_eq_true rfl, Nat.le_of_ble_eq_true rfl⟩) (preR hE hP 4 0 rfl rfl rfl [0] rfl) rfl hl.1 (Nat.le_of_ble_eq_true rfl) dX4_way_10 ⟨Nat.zero_le _, Nat.zero_le _⟩ rfl (fun r_10 hr_10 => ?_)
    subst hr_10
    refine r_b_ne (tgt := 20) hx hb dX4_way_13 (by decide) (fun c_13 => ?_) (fun c_13 => ?_)
    · skip
      refine lv_iload_n hx hb dX4_way_20 rfl (lv_at hl 3 rfl) ?_
      refine lv_if_lt (tgt := 30) hx hb dX4_way_21 (by decide) (fun c_21 => ?_) (fun c_21 => ?_)
      · skip
        refine lv_ldc2 (v := (-2)) hx hb hown (hts _ wdb_X4_way_c70) dX4_way_30 ?_
        exact e_l hx hb hr hlocks dX4_way_33 rfl
      · skip
        refine lv_iload_n hx hb dX4_way_24 rfl (lv_at hl 3 rfl) ?_
        refine lv_ldc (v := 1000000000) hx hb hown (hts _ wdb_X4_way_c69) dX4_way_25 ?_
        refine r_as (w := .int (nI 1000000000)) (by decide) ?_
        refine lv_icmp_le (tgt := 34) hx hb dX4_way_27 (by decide) (fun c_27 => ?_) (fun c_27 => ?_)
        · skip
          exact absurd (nI_of2 (n := 1000000000) (by decide) c_21 c_27) (fun ⟨m, h1, h2⟩ => hbad m h1 h2)
        · skip
          refine lv_ldc2 (v := (-2)) hx hb hown (hts _ wdb_X4_way_c70) dX4_way_30 ?_
          exact e_l hx hb hr hlocks dX4_way_33 rfl
    · skip
      exact absurd c_13 (by rw [isB_nI (by omega)]; simp; omega)

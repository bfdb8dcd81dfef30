theorem fl_X4_chains_13 : Cond.fieldLink RX4 13 "BlockRowsModel" "hot" "[Z" ∈ wsX4_chains := by decide +kernel
theorem fl_X4_chains_17 : Cond.fieldLink RX4 17 "BlockRowsModel" "from" "[I" ∈ wsX4_chains := by decide +kernel
theorem fl_X4_chains_21 : Cond.fieldLink RX4 21 "BlockRowsModel" "to" "[I" ∈ wsX4_chains := by decide +kernel
theorem fl_X4_chains_24 : Cond.fieldLink RX4 24 "BlockRowsModel" "counts" "[J" ∈ wsX4_chains := by decide +kernel
theorem fl_X4_chains_28 : Cond.fieldLink RX4 28 "BlockRowsModel" "fall" "[Z" ∈ wsX4_chains := by decide +kernel
theorem fl_X4_chains_32 : Cond.fieldLink RX4 32 "BlockRowsModel" "table" "[I" ∈ wsX4_chains := by decide +kernel
theorem fl_X4_chains_35 : Cond.fieldLink RX4 35 "BlockRowsModel" "many" "[I" ∈ wsX4_chains := by decide +kernel
theorem fl_X4_chains_38 : Cond.fieldLink RX4 38 "BlockRowsModel" "chainOf" "[I" ∈ wsX4_chains := by decide +kernel
theorem fl_X4_chains_47 : Cond.fieldLink RX4 47 "BlockRowsModel" "looked" "[Z" ∈ wsX4_chains := by decide +kernel
theorem fl_X4_chains_56 : Cond.fieldLink RX4 56 "BlockRowsModel" "ways" "I" ∈ wsX4_chains := by decide +kernel
theorem in_X4_chains_X4 : ∀ w ∈ wsX40, w ∈ wsX4_chains := by decide +kernel
set_option maxHeartbeats 4000000 in
set_option maxRecDepth 100000 in
/-- Model.chains -/
theorem k_chains (l : Launch) (D : va_G) (cI cJ cZ : ClassId) (o oh oF oT oC oL oB oM oN oY oZ oK oP oA n kn hs : Nat) (ik ib : Bool) (fr tt ct : Nat → Nat) (fa : Nat → Bool) (hot : Nat → Bool) (tb mn : Nat → Nat) (co : Nat → Option Nat) (lk : Nat → Bool) (L : List Wy) (hn : n ≤ 200) (hkn : kn ≤ 1000) (hB : WB fr tt ct) (hBn : ∀ k, k < kn → fr k < n ∧ tt k < n) (hKi : ∀ i j, i < kn → j < kn → ((pk fr tt ct fa) i).1 = ((pk fr tt ct fa) j).1 → ((pk fr tt ct fa) i).2.1 = ((pk fr tt ct fa) j).2.1 → i = j) (hMR : MR n (T0 (hbL n hot)) co tb mn) (hLM : L.Perm (wl kn (pk fr tt ct fa))) (hLs : L.Pairwise (fun x y => bef x y = true)) (sz : Nat) : Met l yX4_chains wsX4_chains ({ frames := 1, cells := 0, slots := 0, locals := 22 }) (PcM D cI cJ cZ [.ref o] [(o, .inr (4, [.int (nI n), .ref oh, .int (nI kn), .ref oF, .ref oT, .ref oC, .ref oL, .int (bI ik), .ref oB, .ref oM, .ref oN, .ref oY, .ref oZ, .int (nI hs), .int (bI ib), .ref oK, .ref oP, .ref oA])), (oh, .inl (cZ, 200, .inl (bIf hot))), (oF, .inl (cI, 1000, .inl (nIf fr))), (oT, .inl (cI, 1000, .inl (nIf tt))), (oC, .inl (cJ, 1000, .inr (.inl (lNf ct)))), (oL, .inl (cZ, 1000, .inl (bIf fa))), (oB, .inl (cI, 40000, .inl (nIf tb))), (oM, .inl (cI, 200, .inl (nIf mn))), (oN, .inl (cI, 200, .inl (oIf co))), (oK, .inl (cZ, 1000, .inl (bIf lk)))] sz) (va_Qv (fun z : (Nat → Bool) × (Nat → Option Nat) × (Nat → Nat) × (Nat → Nat) => MR n (Tof L (hbL n hot)) z.2.1 z.2.2.1 z.2.2.2) (Bm D [(o, .inr (4, [.int (nI n), .ref oh, .int (nI kn), .ref oF, .ref oT, .ref oC, .ref oL, .int (bI ik), .ref oB, .ref oM, .ref oN, .ref oY, .ref oZ, .int (nI hs), .int (bI ib), .ref oK, .ref oP, .ref oA])), (oh, .inl (cZ, 200, .inl (bIf hot))), (oF, .inl (cI, 1000, .inl (nIf fr))), (oT, .inl (cI, 1000, .inl (nIf tt))), (oC, .inl (cJ, 1000, .inr (.inl (lNf ct)))), (oL, .inl (cZ, 1000, .inl (bIf fa))), (oB, .inl (cI, 40000, .inl (nIf tb))), (oM, .inl (cI, 200, .inl (nIf mn))), (oN, .inl (cI, 200, .inl (oIf co))), (oK, .inl (cZ, 1000, .inl (bIf lk)))] sz (fun z : (Nat → Bool) × (Nat → Option Nat) × (Nat → Nat) × (Nat → Nat) => [(o, .inr (4, [.int (nI n), .ref oh, .int (nI kn), .ref oF, .ref oT, .ref oC, .ref oL, .int (bI ik), .ref oB, .ref oM, .ref oN, .ref oY, .ref oZ, .int (nI hs), .int (bI ib), .ref oK, .ref oP, .ref oA])), (oh, .inl (cZ, 200, .inl (bIf hot))), (oF, .inl (cI, 1000, .inl (nIf fr))), (oT, .inl (cI, 1000, .inl (nIf tt))), (oC, .inl (cJ, 1000, .inr (.inl (lNf ct)))), (oL, .inl (cZ, 1000, .inl (bIf fa))), (oB, .inl (cI, 40000, .inl (nIf z.2.2.1))), (oM, .inl (cI, 200, .inl (nIf z.2.2.2))), (oN, .inl (cI, 200, .inl (oIf z.2.1))), (oK, .inl (cZ, 1000, .inl (bIf z.1)))])) (va_A [(o, .inr (4, [.int (nI n), .ref oh, .int (nI kn), .ref oF, .ref oT, .ref oC, .ref oL, .int (bI ik), .ref oB, .ref oM, .ref oN, .ref oY, .ref oZ, .int (nI hs), .int (bI ib), .ref oK, .ref oP, .ref oA])), (oh, .inl (cZ, 200, .inl (bIf hot))), (oF, .inl (cI, 1000, .inl (nIf fr))), (oT, .inl (cI, 1000, .inl (nIf tt))), (oC, .inl (cJ, 1000, .inr (.inl (lNf ct)))), (oL, .inl (cZ, 1000, .inl (bIf fa))), (oB, .inl (cI, 40000, .inl (nIf tb))), (oM, .inl (cI, 200, .inl (nIf mn))), (oN, .inl (cI, 200, .inl (oIf co))), (oK, .inl (cZ, 1000, .inl (bIf lk)))] sz)) 0 0 (va_A [(o, .inr (4, [.int (nI n), .ref oh, .int (nI kn), .ref oF, .ref oT, .ref oC, .ref oL, .int (bI ik), .ref oB, .ref oM, .ref oN, .ref oY, .ref oZ, .int (nI hs), .int (bI ib), .ref oK, .ref oP, .ref oA])), (oh, .inl (cZ, 200, .inl (bIf hot))), (oF, .inl (cI, 1000, .inl (nIf fr))), (oT, .inl (cI, 1000, .inl (nIf tt))), (oC, .inl (cJ, 1000, .inr (.inl (lNf ct)))), (oL, .inl (cZ, 1000, .inl (bIf fa))), (oB, .inl (cI, 40000, .inl (nIf tb))), (oM, .inl (cI, 200, .inl (nIf mn))), (oN, .inl (cI, 200, .inl (oIf co))), (oK, .inl (cZ, 1000, .inl (bIf lk)))] sz) := by
  refine startM (cc := cX4_chains) (maxL := 7) (ret := none) (by decide) rfl (Nat.le_of_ble_eq_true rfl) ?_
  intro p e s m below meth c ls A hA hAe hx hb hr hml hown hts hlocks hin hE hP hD hS hl
  have hl : lv_has ls 7 [(0, .ref o)] := hl
  refine lv_iconst (v := nI 0) hx hb dX4_chains_0 (by decide) ?_
  refine lv_istore_n (lv' := [(1, .int (nI 0)), (0, .ref o)]) hx hb dX4_chains_1 rfl hl (by decide) rfl (fun ls hl => ?_)
  refine r_loop (σ := Nat × (Nat → Bool)) (fun z0 => kn - z0.1) (fun z0 H locs ls => (z0.1 ≤ kn ∧ ∀ j, j < z0.1 → z0.2 j = !(qW hot ((pk fr tt ct fa) j))) ∧ va_P D vwCl [(o, .inr (4, [.int (nI n), .ref oh, .int (nI kn), .ref oF, .ref oT, .ref oC, .ref oL, .int (bI ik), .ref oB, .ref oM, .ref oN, .ref oY, .ref oZ, .int (nI hs), .int (bI ib), .ref oK, .ref oP, .ref oA])), (oh, .inl (cZ, 200, .inl (bIf hot))), (oF, .inl (cI, 1000, .inl (nIf fr))), (oT, .inl (cI, 1000, .inl (nIf tt))), (oC, .inl (cJ, 1000, .inr (.inl (lNf ct)))), (oL, .inl (cZ, 1000, .inl (bIf fa))), (oB, .inl (cI, 40000, .inl (nIf tb))), (oM, .inl (cI, 200, .inl (nIf mn))), (oN, .inl (cI, 200, .inl (oIf co))), (oK, .inl (cZ, 1000, .inl (bIf z0.2)))] H ∧ va_D A [(o, .inr (4, [.int (nI n), .ref oh, .int (nI kn), .ref oF, .ref oT, .ref oC, .ref oL, .int (bI ik), .ref oB, .ref oM, .ref oN, .ref oY, .ref oZ, .int (nI hs), .int (bI ib), .ref oK, .ref oP, .ref oA])), (oh, .inl (cZ, 200, .inl (bIf hot))), (oF, .inl (cI, 1000, .inl (nIf fr))), (oT, .inl (cI, 1000, .inl (nIf tt))), (oC, .inl (cJ, 1000, .inr (.inl (lNf ct)))), (oL, .inl (cZ, 1000, .inl (bIf fa))), (oB, .inl (cI, 40000, .inl (nIf tb))), (oM, .inl (cI, 200, .inl (nIf mn))), (oN, .inl (cI, 200, .inl (oIf co))), (oK, .inl (cZ, 1000, .inl (bIf z0.2)))] ∧ va_S A s.heap H locs ∧ lv_has ls 7 [(0, .ref o), (1, .int (nI z0.1))]) ?_ (0, lk) ⟨⟨Nat.zero_le _, fun j hj => by omega⟩, hP.sub [0, 1, 2, 3, 4, 5, 6, 7, 8, 9] rfl, hD.sub [0, 1, 2, 3, 4, 5, 6, 7, 8, 9] (by decide) rfl, hS, lv_sub hl [1, 0] rfl⟩
  rintro ⟨k, f⟩ H locs ls ⟨hi_2, hP, hD, hS, hl⟩ ih_2
  have hi_2 : k ≤ kn ∧ ∀ j, j < k → f j = !(qW hot ((pk fr tt ct fa) j)) := hi_2
  have hP : va_P D vwCl [(o, .inr (4, [.int (nI n), .ref oh, .int (nI kn), .ref oF, .ref oT, .ref oC, .ref oL, .int (bI ik), .ref oB, .ref oM, .ref oN, .ref oY, .ref oZ, .int (nI hs), .int (bI ib), .ref oK, .ref oP, .ref oA])), (oh, .inl (cZ, 200, .inl (bIf hot))), (oF, .inl (cI, 1000, .inl (nIf fr))), (oT, .inl (cI, 1000, .inl (nIf tt))), (oC, .inl (cJ, 1000, .inr (.inl (lNf ct)))), (oL, .inl (cZ, 1000, .inl (bIf fa))), (oB, .inl (cI, 40000, .inl (nIf tb))), (oM, .inl (cI, 200, .inl (nIf mn))), (oN, .inl (cI, 200, .inl (oIf co))), (oK, .inl (cZ, 1000, .inl (bIf f)))] H := hP
  have hD : va_D A [(o, .inr (4, [.int (nI n), .ref oh, .int (nI kn), .ref oF, .ref oT, .ref oC, .ref oL, .int (bI ik), .ref oB, .ref oM, .ref oN, .ref oY, .ref oZ, .int (nI hs), .int (bI ib), .ref oK, .ref oP, .ref oA])), (oh, .inl (cZ, 200, .inl (bIf hot))), (oF, .inl (cI, 1000, .inl (nIf fr))), (oT, .inl (cI, 1000, .inl (nIf tt))), (oC, .inl (cJ, 1000, .inr (.inl (lNf ct)))), (oL, .inl (cZ, 1000, .inl (bIf fa))), (oB, .inl (cI, 40000, .inl (nIf tb))), (oM, .inl (cI, 200, .inl (nIf mn))), (oN, .inl (cI, 200, .inl (oIf co))), (oK, .inl (cZ, 1000, .inl (bIf f)))] := hD
  have hl : lv_has ls 7 [(0, .ref o), (1, .int (nI k))] := hl
  obtain ⟨hi_a, hi_b⟩ := id hi_2
  refine lv_iload_n hx hb dX4_chains_2 rfl (lv_at hl 1 rfl) ?_
  refine lv_aload_n hx hb dX4_chains_3 rfl (lv_at hl 0 rfl) ?_
  refine va_get (D := D) (ci := 4) (v := .int (nI kn)) (C := RX4) (T := TX4) (N := 18) hx hb hts in_X4_chains_X4 hown hE.1 hP 0 rfl rfl 2 (by decide) (hts _ fl_X4_chains_56) (fun _ h9 => h9) rfl dX4_chains_4 ?_
  refine r_icmp_ge (tgt := 75) hx hb (x := k) (y := kn) (by omega) (by omega) dX4_chains_7 (by decide) (fun c_7 => ?_) (fun c_7 => ?_)
  · skip
    refine lv_iconst (v := nI 0) hx hb dX4_chains_75 (by decide) ?_
    refine lv_istore_n (lv' := [(1, .int (nI 0)), (0, .ref o)]) hx hb dX4_chains_76 rfl hl (by decide) rfl (fun ls hl => ?_)
    refine r_loop (σ := Nat × (Nat → Bool) × (Nat → Option Nat) × (Nat → Nat) × (Nat → Nat) × (Nat → List Nat) × (List Wy)) (fun z0 => z0.2.2.2.2.2.2.length) (fun z0 H locs ls => (z0.1 < 1000 ∧ CBI n hot kn (pk fr tt ct fa) (Tof L (hbL n hot)) z0.2.2.2.2.2.1 z0.2.2.1 z0.2.2.2.1 z0.2.2.2.2.1 z0.2.1 z0.2.2.2.2.2.2) ∧ va_P D vwCl [(o, .inr (4, [.int (nI n), .ref oh, .int (nI kn), .ref oF, .ref oT, .ref oC, .ref oL, .int (bI ik), .ref oB, .ref oM, .ref oN, .ref oY, .ref oZ, .int (nI hs), .int (bI ib), .ref oK, .ref oP, .ref oA])), (oh, .inl (cZ, 200, .inl (bIf hot))), (oF, .inl (cI, 1000, .inl (nIf fr))), (oT, .inl (cI, 1000, .inl (nIf tt))), (oC, .inl (cJ, 1000, .inr (.inl (lNf ct)))), (oL, .inl (cZ, 1000, .inl (bIf fa))), (oB, .inl (cI, 40000, .inl (nIf z0.2.2.2.1))), (oM, .inl (cI, 200, .inl (nIf z0.2.2.2.2.1))), (oN, .inl (cI, 200, .inl (oIf z0.2.2.1))), (oK, .inl (cZ, 1000, .inl (bIf z0.2.1)))] H ∧ va_D A [(o, .inr (4, [.int (nI n), .ref oh, .int (nI kn), .ref oF, .ref oT, .ref oC, .ref oL, .int (bI ik), .ref oB, .ref oM, .ref oN, .ref oY, .ref oZ, .int (nI hs), .int (bI ib), .ref oK, .ref oP, .ref oA])), (oh, .inl (cZ, 200, .inl (bIf hot))), (oF, .inl (cI, 1000, .inl (nIf fr))), (oT, .inl (cI, 1000, .inl (nIf tt))), (oC, .inl (cJ, 1000, .inr (.inl (lNf ct)))), (oL, .inl (cZ, 1000, .inl (bIf fa))), (oB, .inl (cI, 40000, .inl (nIf z0.2.2.2.1))), (oM, .inl (cI, 200, .inl (nIf z0.2.2.2.2.1))), (oN, .inl (cI, 200, .inl (oIf z0.2.2.1))), (oK, .inl (cZ, 1000, .inl (bIf z0.2.1)))] ∧ va_S A s.heap H locs ∧ lv_has ls 7 [(0, .ref o), (1, .int (nI z0.1))]) ?_ (0, f, co, tb, mn, T0 (hbL n hot), L.filter (qW hot)) ⟨⟨by omega, CBI_start hn hMR hLM hLs hBn (fun j hj => hi_b j (by omega))⟩, hP.sub [0, 1, 2, 3, 4, 5, 6, 7, 8, 9] rfl, hD.sub [0, 1, 2, 3, 4, 5, 6, 7, 8, 9] (by decide) rfl, hS, lv_sub hl [1, 0] rfl⟩
    rintro ⟨b0, lk1, co1, tb1, mn1, T, R⟩ H locs ls ⟨hi_77, hP, hD, hS, hl⟩ ih_77
    have hi_77 : b0 < 1000 ∧ CBI n hot kn (pk fr tt ct fa) (Tof L (hbL n hot)) T co1 tb1 mn1 lk1 R := hi_77
    have hP : va_P D vwCl [(o, .inr (4, [.int (nI n), .ref oh, .int (nI kn), .ref oF, .ref oT, .ref oC, .ref oL, .int (bI ik), .ref oB, .ref oM, .ref oN, .ref oY, .ref oZ, .int (nI hs), .int (bI ib), .ref oK, .ref oP, .ref oA])), (oh, .inl (cZ, 200, .inl (bIf hot))), (oF, .inl (cI, 1000, .inl (nIf fr))), (oT, .inl (cI, 1000, .inl (nIf tt))), (oC, .inl (cJ, 1000, .inr (.inl (lNf ct)))), (oL, .inl (cZ, 1000, .inl (bIf fa))), (oB, .inl (cI, 40000, .inl (nIf tb1))), (oM, .inl (cI, 200, .inl (nIf mn1))), (oN, .inl (cI, 200, .inl (oIf co1))), (oK, .inl (cZ, 1000, .inl (bIf lk1)))] H := hP
    have hD : va_D A [(o, .inr (4, [.int (nI n), .ref oh, .int (nI kn), .ref oF, .ref oT, .ref oC, .ref oL, .int (bI ik), .ref oB, .ref oM, .ref oN, .ref oY, .ref oZ, .int (nI hs), .int (bI ib), .ref oK, .ref oP, .ref oA])), (oh, .inl (cZ, 200, .inl (bIf hot))), (oF, .inl (cI, 1000, .inl (nIf fr))), (oT, .inl (cI, 1000, .inl (nIf tt))), (oC, .inl (cJ, 1000, .inr (.inl (lNf ct)))), (oL, .inl (cZ, 1000, .inl (bIf fa))), (oB, .inl (cI, 40000, .inl (nIf tb1))), (oM, .inl (cI, 200, .inl (nIf mn1))), (oN, .inl (cI, 200, .inl (oIf co1))), (oK, .inl (cZ, 1000, .inl (bIf lk1)))] := hD
    have hl : lv_has ls 7 [(0, .ref o), (1, .int (nI b0))] := hl
    obtain ⟨hi_c, hi_d⟩ := id hi_77
    refine lv_iload_n hx hb dX4_chains_77 rfl (lv_at hl 1 rfl) ?_
    refine lv_if_lt (tgt := 325) hx hb dX4_chains_78 (by decide) (fun c_78 => ?_) (fun c_78 => ?_)
    · skip
      exact absurd c_78 (nI_pos (by omega))
    · skip
      refine lv_iconst (v := -1) hx hb dX4_chains_81 (by decide) ?_
      refine lv_istore_n (lv' := [(1, .int (-1)), (0, .ref o)]) hx hb dX4_chains_82 rfl hl (by decide) rfl (fun ls hl => ?_)
      refine lv_iconst (v := nI 0) hx hb dX4_chains_83 (by decide) ?_
      refine lv_istore_n (lv' := [(2, .int (nI 0)), (1, .int (-1)), (0, .ref o)]) hx hb dX4_chains_84 rfl hl (by decide) rfl (fun ls hl => ?_)
      have hl : lv_has ls 7 [(2, .int (nI 0)), (1, .int (oI none)), (0, .ref o)] := hl
      refine r_loop (σ := Nat × (Option Nat)) (fun z0 => kn - z0.1) (fun z0 H locs ls => (z0.1 ≤ kn ∧ SB (pk fr tt ct fa) lk1 z0.1 z0.2) ∧ va_P D vwCl [(o, .inr (4, [.int (nI n), .ref oh, .int (nI kn), .ref oF, .ref oT, .ref oC, .ref oL, .int (bI ik), .ref oB, .ref oM, .ref oN, .ref oY, .ref oZ, .int (nI hs), .int (bI ib), .ref oK, .ref oP, .ref oA])), (oh, .inl (cZ, 200, .inl (bIf hot))), (oF, .inl (cI, 1000, .inl (nIf fr))), (oT, .inl (cI, 1000, .inl (nIf tt))), (oC, .inl (cJ, 1000, .inr (.inl (lNf ct)))), (oL, .inl (cZ, 1000, .inl (bIf fa))), (oB, .inl (cI, 40000, .inl (nIf tb1))), (oM, .inl (cI, 200, .inl (nIf mn1))), (oN, .inl (cI, 200, .inl (oIf co1))), (oK, .inl (cZ, 1000, .inl (bIf lk1)))] H ∧ va_D A [(o, .inr (4, [.int (nI n), .ref oh, .int (nI kn), .ref oF, .ref oT, .ref oC, .ref oL, .int (bI ik), .ref oB, .ref oM, .ref oN, .ref oY, .ref oZ, .int (nI hs), .int (bI ib), .ref oK, .ref oP, .ref oA])), (oh, .inl (cZ, 200, .inl (bIf hot))), (oF, .inl (cI, 1000, .inl (nIf fr))), (oT, .inl (cI, 1000, .inl (nIf tt))), (oC, .inl (cJ, 1000, .inr (.inl (lNf ct)))), (oL, .inl (cZ, 1000, .inl (bIf fa))), (oB, .inl (cI, 40000, .inl (nIf tb1))), (oM, .inl (cI, 200, .inl (nIf mn1))), (oN, .inl (cI, 200, .inl (oIf co1))), (oK, .inl (cZ, 1000, .inl (bIf lk1)))] ∧ va_S A s.heap H locs ∧ lv_has ls 7 [(0, .ref o), (1, .int (oI z0.2)), (2, .int (nI z0.1))]) ?_ (0, none) ⟨⟨Nat.zero_le _, SB_0⟩, hP.sub [0, 1, 2, 3, 4, 5, 6, 7, 8, 9] rfl, hD.sub [0, 1, 2, 3, 4, 5, 6, 7, 8, 9] (by decide) rfl, hS, lv_sub hl [2, 1, 0] rfl⟩
      rintro ⟨k2, ob⟩ H locs ls ⟨hi_85, hP, hD, hS, hl⟩ ih_85
      have hi_85 : k2 ≤ kn ∧ SB (pk fr tt ct fa) lk1 k2 ob := hi_85
      have hP : va_P D vwCl [(o, .inr (4, [.int (nI n), .ref oh, .int (nI kn), .ref oF, .ref oT, .ref oC, .ref oL, .int (bI ik), .ref oB, .ref oM, .ref oN, .ref oY, .ref oZ, .int (nI hs), .int (bI ib), .ref oK, .ref oP, .ref oA])), (oh, .inl (cZ, 200, .inl (bIf hot))), (oF, .inl (cI, 1000, .inl (nIf fr))), (oT, .inl (cI, 1000, .inl (nIf tt))), (oC, .inl (cJ, 1000, .inr (.inl (lNf ct)))), (oL, .inl (cZ, 1000, .inl (bIf fa))), (oB, .inl (cI, 40000, .inl (nIf tb1))), (oM, .inl (cI, 200, .inl (nIf mn1))), (oN, .inl (cI, 200, .inl (oIf co1))), (oK, .inl (cZ, 1000, .inl (bIf lk1)))] H := hP
      have hD : va_D A [(o, .inr (4, [.int (nI n), .ref oh, .int (nI kn), .ref oF, .ref oT, .ref oC, .ref oL, .int (bI ik), .ref oB, .ref oM, .ref oN, .ref oY, .ref oZ, .int (nI hs), .int (bI ib), .ref oK, .ref oP, .ref oA])), (oh, .inl (cZ, 200, .inl (bIf hot))), (oF, .inl (cI, 1000, .inl (nIf fr))), (oT, .inl (cI, 1000, .inl (nIf tt))), (oC, .inl (cJ, 1000, .inr (.inl (lNf ct)))), (oL, .inl (cZ, 1000, .inl (bIf fa))), (oB, .inl (cI, 40000, .inl (nIf tb1))), (oM, .inl (cI, 200, .inl (nIf mn1))), (oN, .inl (cI, 200, .inl (oIf co1))), (oK, .inl (cZ, 1000, .inl (bIf lk1)))] := hD
      have hl : lv_has ls 7 [(0, .ref o), (1, .int (oI ob)), (2, .int (nI k2))] := hl
      obtain ⟨hi_f, hi_g⟩ := id hi_85
      have hob := SB_lt hi_g
      refine lv_iload_n hx hb dX4_chains_85 rfl (lv_at hl 2 rfl) ?_
      refine lv_aload_n hx hb dX4_chains_86 rfl (lv_at hl 0 rfl) ?_
      refine va_get (D := D) (ci := 4) (v := .int (nI kn)) (C := RX4) (T := TX4) (N := 18) hx hb hts in_X4_chains_X4 hown hE.1 hP 0 rfl rfl 2 (by decide) (hts _ fl_X4_chains_56) (fun _ h9 => h9) rfl dX4_chains_87 ?_
      refine r_icmp_ge (tgt := 123) hx hb (x := k2) (y := kn) (by omega) (by omega) dX4_chains_90 (by decide) (fun c_90 => ?_) (fun c_90 => ?_)
      · skip
        refine lv_iload_n hx hb dX4_chains_123 rfl (lv_at hl 1 rfl) ?_
        refine r_o_ge0 (tgt := 128) hx hb (fun j hj => by have := hob j hj; omega) dX4_chains_124 (by decide) (fun c_124 => ?_) (fun c_124 => ?_)
        · skip
          obtain ⟨b, rfl⟩ := Option.ne_none_iff_exists'.mp c_124
          have hb9 := hob b rfl
          have e9 : kn = k2 := by omega
          subst e9
          obtain ⟨R', hRe, hSR, -⟩ := sel_head hi_d.2.2.2.1 hi_g hi_d.2.2.2.2.1 hKi
          have hCB := hi_d
          rw [hRe] at hCB
          obtain ⟨c1, d1, hc1, hd1, hc2, hd2, hc200, hd200, ⟨x3, hx1, hx2, hx3⟩, hm1, hm2, htd, hmd, hmc⟩ := cb_names hCB
          have hc1 : co1 (fr b) = some c1 := hc1
          have hd1 : co1 (tt b) = some d1 := hd1
          have b8 := hB b
          have hl : lv_has ls 7 [(0, .ref o), (1, .int (nI b)), (2, .int (nI kn))] := hl
          refine lv_aload_n hx hb dX4_chains_128 rfl (lv_at hl 0 rfl) ?_
          refine va_get (D := D) (ci := 4) (v := .ref oK) (C := RX4) (T := TX4) (N := 18) hx hb hts in_X4_chains_X4 hown hE.1 hP 0 rfl rfl 15 (by decide) (hts _ fl_X4_chains_47) (fun _ h9 => h9) rfl dX4_chains_129 ?_
          refine lv_iload_n hx hb dX4_chains_132 rfl (lv_at hl 1 rfl) ?_
          refine lv_iconst (v := bI true) hx hb dX4_chains_133 (by decide) ?_
          refine r_bst hx hb hE hP hD hS 9 rfl (k := b) true rfl (by omega) (by decide) dX4_chains_134 (fun H locs hP hD hS => ?_)
          have hP : va_P D vwCl [(o, .inr (4, [.int (nI n), .ref oh, .int (nI kn), .ref oF, .ref oT, .ref oC, .ref oL, .int (bI ik), .ref oB, .ref oM, .ref oN, .ref oY, .ref oZ, .int (nI hs), .int (bI ib), .ref oK, .ref oP, .ref oA])), (oh, .inl (cZ, 200, .inl (bIf hot))), (oF, .inl (cI, 1000, .inl (nIf fr))), (oT, .inl (cI, 1000, .inl (nIf tt))), (oC, .inl (cJ, 1000, .inr (.inl (lNf ct)))), (oL, .inl (cZ, 1000, .inl (bIf fa))), (oB, .inl (cI, 40000, .inl (nIf tb1))), (oM, .inl (cI, 200, .inl (nIf mn1))), (oN, .inl (cI, 200, .inl (oIf co1))), (oK, .inl (cZ, 1000, .inl (bIf (va_up lk1 b true))))] H := hP
          have hD : va_D A [(o, .inr (4, [.int (nI n), .ref oh, .int (nI kn), .ref oF, .ref oT, .ref oC, .ref oL, .int (bI ik), .ref oB, .ref oM, .ref oN, .ref oY, .ref oZ, .int (nI hs), .int (bI ib), .ref oK, .ref oP, .ref oA])), (oh, .inl (cZ, 200, .inl (bIf hot))), (oF, .inl (cI, 1000, .inl (nIf fr))), (oT, .inl (cI, 1000, .inl (nIf tt))), (oC, .inl (cJ, 1000, .inr (.inl (lNf ct)))), (oL, .inl (cZ, 1000, .inl (bIf fa))), (oB, .inl (cI, 40000, .inl (nIf tb1))), (oM, .inl (cI, 200, .inl (nIf mn1))), (oN, .inl (cI, 200, .inl (oIf co1))), (oK, .inl (cZ, 1000, .inl (bIf (va_up lk1 b true))))] := hD
          refine lv_aload_n hx hb dX4_chains_135 rfl (lv_at hl 0 rfl) ?_
          refine va_get (D := D) (ci := 4) (v := .ref oN) (C := RX4) (T := TX4) (N := 18) hx hb hts in_X4_chains_X4 hown hE.1 hP 0 rfl rfl 10 (by decide) (hts _ fl_X4_chains_38) (fun _ h9 => h9) rfl dX4_chains_136 ?_
          refine lv_aload_n hx hb dX4_chains_139 rfl (lv_at hl 0 rfl) ?_
          refine va_get (D := D) (ci := 4) (v := .ref oF) (C := RX4) (T := TX4) (N := 18) hx hb hts in_X4_chains_X4 hown hE.1 hP 0 rfl rfl 3 (by decide) (hts _ fl_X4_chains_17) (fun _ h9 => h9) rfl dX4_chains_140 ?_
          refine lv_iload_n hx hb dX4_chains_143 rfl (lv_at hl 1 rfl) ?_
          refine r_nld hx hb hE hP 2 rfl (k := b) (by omega) (by decide) dX4_chains_144 ?_
          refine r_old hx hb hE hP 8 rfl (k := fr b) (by omega) (by decide) dX4_chains_145 ?_
          refine r_as (w := .int (nI c1)) (by rw [hc1]; rfl) ?_
          refine lv_istore_n (lv' := [(2, .int (nI c1)), (0, .ref o), (1, .int (nI b))]) hx hb dX4_chains_146 rfl hl (by decide) rfl (fun ls hl => ?_)
          refine lv_aload_n hx hb dX4_chains_147 rfl (lv_at hl 1 rfl) ?_
          refine va_get (D := D) (ci := 4) (v := .ref oN) (C := RX4) (T := TX4) (N := 18) hx hb hts in_X4_chains_X4 hown hE.1 hP 0 rfl rfl 10 (by decide) (hts _ fl_X4_chains_38) (fun _ h9 => h9) rfl dX4_chains_148 ?_
          refine lv_aload_n hx hb dX4_chains_151 rfl (lv_at hl 1 rfl) ?_
          refine va_get (D := D) (ci := 4) (v := .ref oT) (C := RX4) (T := TX4) (N := 18) hx hb hts in_X4_chains_X4 hown hE.1 hP 0 rfl rfl 4 (by decide) (hts _ fl_X4_chains_21) (fun _ h9 => h9) rfl dX4_chains_152 ?_
          refine lv_iload_n hx hb dX4_chains_155 rfl (lv_at hl 2 rfl) ?_
          refine r_nld hx hb hE hP 3 rfl (k := b) (by omega) (by decide) dX4_chains_156 ?_
          refine r_old hx hb hE hP 8 rfl (k := tt b) (by omega) (by decide) dX4_chains_157 ?_
          refine r_as (w := .int (nI d1)) (by rw [hd1]; rfl) ?_
          refine lv_istore_n (lv' := [(3, .int (nI d1)), (2, .int (nI c1)), (0, .ref o), (1, .int (nI b))]) hx hb dX4_chains_158 rfl hl (by decide) rfl (fun ls hl => ?_)
          refine lv_iload_n hx hb dX4_chains_159 rfl (lv_at hl 1 rfl) ?_
          refine lv_iload_n hx hb dX4_chains_160 rfl (lv_at hl 0 rfl) ?_
          refine r_icmp_eq (tgt := 224) hx hb (x := c1) (y := d1) (by omega) (by omega) dX4_chains_161 (by decide) (fun c_161 => ?_) (fun c_161 => ?_)
          · skip
            refine lv_iconst (v := bI false) hx hb dX4_chains_224 (by decide) ?_
            refine lv_istore (lv' := [(4, .int (bI false)), (3, .int (nI d1)), (2, .int (nI c1)), (0, .ref o), (1, .int (nI b))]) hx hb dX4_chains_225 hl (by decide) rfl (fun ls hl => ?_)
            refine lv_iload hx hb dX4_chains_227 (lv_at hl 0 rfl) ?_
            refine r_b_ne (tgt := 235) hx hb dX4_chains_229 (by decide) (fun c => absurd c (by decide)) (fun _ => ?_)
            refine lv_goto (tgt := 77) hx hb dX4_chains_232 (by decide) ?_
            exact ih_77 (b, va_up lk1 b true, co1, tb1, mn1, T, R') _ _ _ ⟨(show b < 1000 ∧ CBI n hot kn (pk fr tt ct fa) (Tof L (hbL n hot)) T co1 tb1 mn1 (va_up lk1 b true) R' from ⟨by omega, cb_skip hCB hSR hc2 hd2 hx3 (Or.inl c_161)⟩), hP.sub [0, 1, 2, 3, 4, 5, 6, 7, 8, 9] rfl, hD.sub [0, 1, 2, 3, 4, 5, 6, 7, 8, 9] (by decide) rfl, hS, lv_sub hl [3, 4] rfl⟩ (by show R'.length < R.length; rw [hRe, List.length_cons]; omega)
          · skip
            refine lv_aload_n hx hb dX4_chains_164 rfl (lv_at hl 2 rfl) ?_
            refine va_get (D := D) (ci := 4) (v := .ref oB) (C := RX4) (T := TX4) (N := 18) hx hb hts in_X4_chains_X4 hown hE.1 hP 0 rfl rfl 8 (by decide) (hts _ fl_X4_chains_32) (fun _ h9 => h9) rfl dX4_chains_165 ?_
            refine lv_sipush (v := nI 200) hx hb dX4_chains_168 (by decide) ?_
            refine lv_iload_n hx hb dX4_chains_171 rfl (lv_at hl 1 rfl) ?_
            refine r_imul hx hb dX4_chains_172 ?_
            refine lv_aload_n hx hb dX4_chains_173 rfl (lv_at hl 2 rfl) ?_
            refine va_get (D := D) (ci := 4) (v := .ref oM) (C := RX4) (T := TX4) (N := 18) hx hb hts in_X4_chains_X4 hown hE.1 hP 0 rfl rfl 9 (by decide) (hts _ fl_X4_chains_35) (fun _ h9 => h9) rfl dX4_chains_174 ?_
            refine lv_iload_n hx hb dX4_chains_177 rfl (lv_at hl 1 rfl) ?_
            refine r_nld hx hb hE hP 7 rfl (k := c1) (by omega) (by decide) dX4_chains_178 ?_
            refine r_iadd hx hb dX4_chains_179 ?_
            refine lv_iconst (v := nI 1) hx hb dX4_chains_180 (by decide) ?_
            refine r_isub hx hb (by omega) dX4_chains_181 ?_
            refine r_nld hx hb hE hP 6 rfl (k := ((200 * c1) + (mn1 c1)) - 1) (by omega) (by decide) dX4_chains_182 ?_
            refine r_as (w := .int (nI x3)) (by rw [hx2]) ?_
            refine lv_aload_n hx hb dX4_chains_183 rfl (lv_at hl 2 rfl) ?_
            refine va_get (D := D) (ci := 4) (v := .ref oF) (C := RX4) (T := TX4) (N := 18) hx hb hts in_X4_chains_X4 hown hE.1 hP 0 rfl rfl 3 (by decide) (hts _ fl_X4_chains_17) (fun _ h9 => h9) rfl dX4_chains_184 ?_
            refine lv_iload_n hx hb dX4_chains_187 rfl (lv_at hl 3 rfl) ?_
            refine r_nld hx hb hE hP 2 rfl (k := b) (by omega) (by decide) dX4_chains_188 ?_
            refine r_icmp_ne (tgt := 224) hx hb (x := x3) (y := fr b) (by omega) (by omega) dX4_chains_189 (by decide) (fun c_189 => ?_) (fun c_189 => ?_)
            · skip
              refine lv_iconst (v := bI false) hx hb dX4_chains_224 (by decide) ?_
              refine lv_istore (lv' := [(4, .int (bI false)), (3, .int (nI d1)), (2, .int (nI c1)), (0, .ref o), (1, .int (nI b))]) hx hb dX4_chains_225 hl (by decide) rfl (fun ls hl => ?_)
              refine lv_iload hx hb dX4_chains_227 (lv_at hl 0 rfl) ?_
              refine r_b_ne (tgt := 235) hx hb dX4_chains_229 (by decide) (fun c => absurd c (by decide)) (fun _ => ?_)
              refine lv_goto (tgt := 77) hx hb dX4_chains_232 (by decide) ?_
              exact ih_77 (b, va_up lk1 b true, co1, tb1, mn1, T, R') _ _ _ ⟨(show b < 1000 ∧ CBI n hot kn (pk fr tt ct fa) (Tof L (hbL n hot)) T co1 tb1 mn1 (va_up lk1 b true) R' from ⟨by omega, cb_skip hCB hSR hc2 hd2 hx3 (Or.inr (Or.inl c_189))⟩), hP.sub [0, 1, 2, 3, 4, 5, 6, 7, 8, 9] rfl, hD.sub [0, 1, 2, 3, 4, 5, 6, 7, 8, 9] (by decide) rfl, hS, lv_sub hl [3, 4] rfl⟩ (by show R'.length < R.length; rw [hRe, List.length_cons]; omega)
            · skip
              refine lv_aload_n hx hb dX4_chains_192 rfl (lv_at hl 2 rfl) ?_
              refine va_get (D := D) (ci := 4) (v := .ref oB) (C := RX4) (T := TX4) (N := 18) hx hb hts in_X4_chains_X4 hown hE.1 hP 0 rfl rfl 8 (by decide) (hts _ fl_X4_chains_32) (fun _ h9 => h9) rfl dX4_chains_193 ?_
              refine lv_sipush (v := nI 200) hx hb dX4_chains_196 (by decide) ?_
              refine lv_iload_n hx hb dX4_chains_199 rfl (lv_at hl 0 rfl) ?_
              refine r_imul hx hb dX4_chains_200 ?_
              refine r_nld hx hb hE hP 6 rfl (k := 200 * d1) (by omega) (by decide) dX4_chains_201 ?_
              refine r_as (w := .int (nI d1)) (by rw [htd]) ?_
              refine lv_aload_n hx hb dX4_chains_202 rfl (lv_at hl 2 rfl) ?_
              refine va_get (D := D) (ci := 4) (v := .ref oT) (C := RX4) (T := TX4) (N := 18) hx hb hts in_X4_chains_X4 hown hE.1 hP 0 rfl rfl 4 (by decide) (hts _ fl_X4_chains_21) (fun _ h9 => h9) rfl dX4_chains_203 ?_
              refine lv_iload_n hx hb dX4_chains_206 rfl (lv_at hl 3 rfl) ?_
              refine r_nld hx hb hE hP 3 rfl (k := b) (by omega) (by decide) dX4_chains_207 ?_
              refine r_icmp_ne (tgt := 224) hx hb (x := d1) (y := tt b) (by omega) (by omega) dX4_chains_208 (by decide) (fun c_208 => ?_) (fun c_208 => ?_)
              · skip
                refine lv_iconst (v := bI false) hx hb dX4_chains_224 (by decide) ?_
                refine lv_istore (lv' := [(4, .int (bI false)), (3, .int (nI d1)), (2, .int (nI c1)), (0, .ref o), (1, .int (nI b))]) hx hb dX4_chains_225 hl (by decide) rfl (fun ls hl => ?_)
                refine lv_iload hx hb dX4_chains_227 (lv_at hl 0 rfl) ?_
                refine r_b_ne (tgt := 235) hx hb dX4_chains_229 (by decide) (fun c => absurd c (by decide)) (fun _ => ?_)
                refine lv_goto (tgt := 77) hx hb dX4_chains_232 (by decide) ?_
                exact ih_77 (b, va_up lk1 b true, co1, tb1, mn1, T, R') _ _ _ ⟨(show b < 1000 ∧ CBI n hot kn (pk fr tt ct fa) (Tof L (hbL n hot)) T co1 tb1 mn1 (va_up lk1 b true) R' from ⟨by omega, cb_skip hCB hSR hc2 hd2 hx3 (Or.inr (Or.inr (Or.inl c_208)))⟩), hP.sub [0, 1, 2, 3, 4, 5, 6, 7, 8, 9] rfl, hD.sub [0, 1, 2, 3, 4, 5, 6, 7, 8, 9] (by decide) rfl, hS, lv_sub hl [3, 4] rfl⟩ (by show R'.length < R.length; rw [hRe, List.length_cons]; omega)
              · skip
                refine lv_aload_n hx hb dX4_chains_211 rfl (lv_at hl 2 rfl) ?_
                refine va_get (D := D) (ci := 4) (v := .ref oT) (C := RX4) (T := TX4) (N := 18) hx hb hts in_X4_chains_X4 hown hE.1 hP 0 rfl rfl 4 (by decide) (hts _ fl_X4_chains_21) (fun _ h9 => h9) rfl dX4_chains_212 ?_
                refine lv_iload_n hx hb dX4_chains_215 rfl (lv_at hl 3 rfl) ?_
                refine r_nld hx hb hE hP 3 rfl (k := b) (by omega) (by decide) dX4_chains_216 ?_
                refine r_if_eq (tgt := 224) hx hb (x := tt b) (by omega) dX4_chains_217 (by decide) (fun c_217 => ?_) (fun c_217 => ?_)
                · skip
                  refine lv_iconst (v := bI false) hx hb dX4_chains_224 (by decide) ?_
                  refine lv_istore (lv' := [(4, .int (bI false)), (3, .int (nI d1)), (2, .int (nI c1)), (0, .ref o), (1, .int (nI b))]) hx hb dX4_chains_225 hl (by decide) rfl (fun ls hl => ?_)
                  refine lv_iload hx hb dX4_chains_227 (lv_at hl 0 rfl) ?_
                  refine r_b_ne (tgt := 235) hx hb dX4_chains_229 (by decide) (fun c => absurd c (by decide)) (fun _ => ?_)
                  refine lv_goto (tgt := 77) hx hb dX4_chains_232 (by decide) ?_
                  exact ih_77 (b, va_up lk1 b true, co1, tb1, mn1, T, R') _ _ _ ⟨(show b < 1000 ∧ CBI n hot kn (pk fr tt ct fa) (Tof L (hbL n hot)) T co1 tb1 mn1 (va_up lk1 b true) R' from ⟨by omega, cb_skip hCB hSR hc2 hd2 hx3 (Or.inr (Or.inr (Or.inr c_217)))⟩), hP.sub [0, 1, 2, 3, 4, 5, 6, 7, 8, 9] rfl, hD.sub [0, 1, 2, 3, 4, 5, 6, 7, 8, 9] (by decide) rfl, hS, lv_sub hl [3, 4] rfl⟩ (by show R'.length < R.length; rw [hRe, List.length_cons]; omega)
                · skip
                  refine lv_iconst (v := bI true) hx hb dX4_chains_220 (by decide) ?_
                  refine lv_goto (tgt := 225) hx hb dX4_chains_221 (by decide) ?_
                  refine lv_istore (lv' := [(4, .int (bI true)), (3, .int (nI d1)), (2, .int (nI c1)), (0, .ref o), (1, .int (nI b))]) hx hb dX4_chains_225 hl (by decide) rfl (fun ls hl => ?_)
                  refine lv_iload hx hb dX4_chains_227 (lv_at hl 0 rfl) ?_
                  refine r_b_ne (tgt := 235) hx hb dX4_chains_229 (by decide) (fun _ => ?_) (fun c => absurd c (by decide))
                  refine lv_iconst (v := nI 0) hx hb dX4_chains_235 (by decide) ?_
                  refine lv_istore (lv' := [(5, .int (nI 0)), (4, .int (bI true)), (3, .int (nI d1)), (2, .int (nI c1)), (0, .ref o), (1, .int (nI b))]) hx hb dX4_chains_236 hl (by decide) rfl (fun ls hl => ?_)
                  refine r_loop (σ := Nat × (Nat → Nat) × (Nat → Option Nat)) (fun z0 => (T d1).length - z0.1) (fun z0 H locs ls => (z0.1 ≤ (T d1).length ∧ DI T co1 tb1 c1 d1 (mn1 c1) z0.1 z0.2.1 z0.2.2) ∧ va_P D vwCl [(o, .inr (4, [.int (nI n), .ref oh, .int (nI kn), .ref oF, .ref oT, .ref oC, .ref oL, .int (bI ik), .ref oB, .ref oM, .ref oN, .ref oY, .ref oZ, .int (nI hs), .int (bI ib), .ref oK, .ref oP, .ref oA])), (oh, .inl (cZ, 200, .inl (bIf hot))), (oF, .inl (cI, 1000, .inl (nIf fr))), (oT, .inl (cI, 1000, .inl (nIf tt))), (oC, .inl (cJ, 1000, .inr (.inl (lNf ct)))), (oL, .inl (cZ, 1000, .inl (bIf fa))), (oB, .inl (cI, 40000, .inl (nIf z0.2.1))), (oM, .inl (cI, 200, .inl (nIf mn1))), (oN, .inl (cI, 200, .inl (oIf z0.2.2))), (oK, .inl (cZ, 1000, .inl (bIf (va_up lk1 b true))))] H ∧ va_D A [(o, .inr (4, [.int (nI n), .ref oh, .int (nI kn), .ref oF, .ref oT, .ref oC, .ref oL, .int (bI ik), .ref oB, .ref oM, .ref oN, .ref oY, .ref oZ, .int (nI hs), .int (bI ib), .ref oK, .ref oP, .ref oA])), (oh, .inl (cZ, 200, .inl (bIf hot))), (oF, .inl (cI, 1000, .inl (nIf fr))), (oT, .inl (cI, 1000, .inl (nIf tt))), (oC, .inl (cJ, 1000, .inr (.inl (lNf ct)))), (oL, .inl (cZ, 1000, .inl (bIf fa))), (oB, .inl (cI, 40000, .inl (nIf z0.2.1))), (oM, .inl (cI, 200, .inl (nIf mn1))), (oN, .inl (cI, 200, .inl (oIf z0.2.2))), (oK, .inl (cZ, 1000, .inl (bIf (va_up lk1 b true))))] ∧ va_S A s.heap H locs ∧ lv_has ls 7 [(0, .ref o), (1, .int (nI b)), (2, .int (nI c1)), (3, .int (nI d1)), (5, .int (nI z0.1))]) ?_ (0, tb1, co1) ⟨⟨Nat.zero_le _, DI_0⟩, hP.sub [0, 1, 2, 3, 4, 5, 6, 7, 8, 9] rfl, hD.sub [0, 1, 2, 3, 4, 5, 6, 7, 8, 9] (by decide) rfl, hS, lv_sub hl [4, 5, 3, 2, 0] rfl⟩
                  rintro ⟨i, tb2, co2⟩ H locs ls ⟨hi_238, hP, hD, hS, hl⟩ ih_238
                  have hi_238 : i ≤ (T d1).length ∧ DI T co1 tb1 c1 d1 (mn1 c1) i tb2 co2 := hi_238
                  have hP : va_P D vwCl [(o, .inr (4, [.int (nI n), .ref oh, .int (nI kn), .ref oF, .ref oT, .ref oC, .ref oL, .int (bI ik), .ref oB, .ref oM, .ref oN, .ref oY, .ref oZ, .int (nI hs), .int (bI ib), .ref oK, .ref oP, .ref oA])), (oh, .inl (cZ, 200, .inl (bIf hot))), (oF, .inl (cI, 1000, .inl (nIf fr))), (oT, .inl (cI, 1000, .inl (nIf tt))), (oC, .inl (cJ, 1000, .inr (.inl (lNf ct)))), (oL, .inl (cZ, 1000, .inl (bIf fa))), (oB, .inl (cI, 40000, .inl (nIf tb2))), (oM, .inl (cI, 200, .inl (nIf mn1))), (oN, .inl (cI, 200, .inl (oIf co2))), (oK, .inl (cZ, 1000, .inl (bIf (va_up lk1 b true))))] H := hP
                  have hD : va_D A [(o, .inr (4, [.int (nI n), .ref oh, .int (nI kn), .ref oF, .ref oT, .ref oC, .ref oL, .int (bI ik), .ref oB, .ref oM, .ref oN, .ref oY, .ref oZ, .int (nI hs), .int (bI ib), .ref oK, .ref oP, .ref oA])), (oh, .inl (cZ, 200, .inl (bIf hot))), (oF, .inl (cI, 1000, .inl (nIf fr))), (oT, .inl (cI, 1000, .inl (nIf tt))), (oC, .inl (cJ, 1000, .inr (.inl (lNf ct)))), (oL, .inl (cZ, 1000, .inl (bIf fa))), (oB, .inl (cI, 40000, .inl (nIf tb2))), (oM, .inl (cI, 200, .inl (nIf mn1))), (oN, .inl (cI, 200, .inl (oIf co2))), (oK, .inl (cZ, 1000, .inl (bIf (va_up lk1 b true))))] := hD
                  have hl : lv_has ls 7 [(0, .ref o), (1, .int (nI b)), (2, .int (nI c1)), (3, .int (nI d1)), (5, .int (nI i))] := hl
                  obtain ⟨hi_h, hi_e⟩ := id hi_238
                  have hTT := hCB.1
                  have hle := cb_len hTT c_161
                  have hc0 : T c1 ≠ [] := fun z => by rw [z] at hc2; cases hc2
                  have hd0 : T d1 ≠ [] := fun z => by rw [z] at hd2; cases hd2
                  have hx_u : x3 = fr b := c_189
                  refine lv_iload hx hb dX4_chains_238 (lv_at hl 4 rfl) ?_
                  refine lv_aload_n hx hb dX4_chains_240 rfl (lv_at hl 0 rfl) ?_
                  refine va_get (D := D) (ci := 4) (v := .ref oM) (C := RX4) (T := TX4) (N := 18) hx hb hts in_X4_chains_X4 hown hE.1 hP 0 rfl rfl 9 (by decide) (hts _ fl_X4_chains_35) (fun _ h9 => h9) rfl dX4_chains_241 ?_
                  refine lv_iload_n hx hb dX4_chains_244 rfl (lv_at hl 3 rfl) ?_
                  refine r_nld hx hb hE hP 7 rfl (k := d1) (by omega) (by decide) dX4_chains_245 ?_
                  refine r_icmp_ge (tgt := 300) hx hb (x := i) (y := mn1 d1) (by omega) (by omega) dX4_chains_246 (by decide) (fun c_246 => ?_) (fun c_246 => ?_)
                  · skip
                    have hdone : (T d1).length = i := by omega
                    refine lv_aload_n hx hb dX4_chains_300 rfl (lv_at hl 0 rfl) ?_
                    refine va_get (D := D) (ci := 4) (v := .ref oM) (C := RX4) (T := TX4) (N := 18) hx hb hts in_X4_chains_X4 hown hE.1 hP 0 rfl rfl 9 (by decide) (hts _ fl_X4_chains_35) (fun _ h9 => h9) rfl dX4_chains_301 ?_
                    refine lv_iload_n hx hb dX4_chains_304 rfl (lv_at hl 2 rfl) ?_
                    refine lv_dup2_11 hx hb dX4_chains_305 rfl rfl ?_
                    refine r_nld hx hb hE hP 7 rfl (k := c1) (by omega) (by decide) dX4_chains_306 ?_
                    refine lv_aload_n hx hb dX4_chains_307 rfl (lv_at hl 0 rfl) ?_
                    refine va_get (D := D) (ci := 4) (v := .ref oM) (C := RX4) (T := TX4) (N := 18) hx hb hts in_X4_chains_X4 hown hE.1 hP 0 rfl rfl 9 (by decide) (hts _ fl_X4_chains_35) (fun _ h9 => h9) rfl dX4_chains_308 ?_
                    refine lv_iload_n hx hb dX4_chains_311 rfl (lv_at hl 3 rfl) ?_
                    refine r_nld hx hb hE hP 7 rfl (k := d1) (by omega) (by decide) dX4_chains_312 ?_
                    refine r_iadd hx hb dX4_chains_313 ?_
                    refine r_nst hx hb hE hP hD hS 7 rfl (k := c1) (x := (mn1 c1) + (mn1 d1)) (by omega) (by decide) dX4_chains_314 (fun H locs hP hD hS => ?_)
                    have hP : va_P D vwCl [(o, .inr (4, [.int (nI n), .ref oh, .int (nI kn), .ref oF, .ref oT, .ref oC, .ref oL, .int (bI ik), .ref oB, .ref oM, .ref oN, .ref oY, .ref oZ, .int (nI hs), .int (bI ib), .ref oK, .ref oP, .ref oA])), (oh, .inl (cZ, 200, .inl (bIf hot))), (oF, .inl (cI, 1000, .inl (nIf fr))), (oT, .inl (cI, 1000, .inl (nIf tt))), (oC, .inl (cJ, 1000, .inr (.inl (lNf ct)))), (oL, .inl (cZ, 1000, .inl (bIf fa))), (oB, .inl (cI, 40000, .inl (nIf tb2))), (oM, .inl (cI, 200, .inl (nIf (va_up mn1 c1 ((mn1 c1) + (mn1 d1)))))), (oN, .inl (cI, 200, .inl (oIf co2))), (oK, .inl (cZ, 1000, .inl (bIf (va_up lk1 b true))))] H := hP
                    have hD : va_D A [(o, .inr (4, [.int (nI n), .ref oh, .int (nI kn), .ref oF, .ref oT, .ref oC, .ref oL, .int (bI ik), .ref oB, .ref oM, .ref oN, .ref oY, .ref oZ, .int (nI hs), .int (bI ib), .ref oK, .ref oP, .ref oA])), (oh, .inl (cZ, 200, .inl (bIf hot))), (oF, .inl (cI, 1000, .inl (nIf fr))), (oT, .inl (cI, 1000, .inl (nIf tt))), (oC, .inl (cJ, 1000, .inr (.inl (lNf ct)))), (oL, .inl (cZ, 1000, .inl (bIf fa))), (oB, .inl (cI, 40000, .inl (nIf tb2))), (oM, .inl (cI, 200, .inl (nIf (va_up mn1 c1 ((mn1 c1) + (mn1 d1)))))), (oN, .inl (cI, 200, .inl (oIf co2))), (oK, .inl (cZ, 1000, .inl (bIf (va_up lk1 b true))))] := hD
                    refine lv_aload_n hx hb dX4_chains_315 rfl (lv_at hl 0 rfl) ?_
                    refine va_get (D := D) (ci := 4) (v := .ref oM) (C := RX4) (T := TX4) (N := 18) hx hb hts in_X4_chains_X4 hown hE.1 hP 0 rfl rfl 9 (by decide) (hts _ fl_X4_chains_35) (fun _ h9 => h9) rfl dX4_chains_316 ?_
                    refine lv_iload_n hx hb dX4_chains_319 rfl (lv_at hl 3 rfl) ?_
                    refine lv_iconst (v := nI 0) hx hb dX4_chains_320 (by decide) ?_
                    refine r_nst hx hb hE hP hD hS 7 rfl (k := d1) (x := 0) (by omega) (by decide) dX4_chains_321 (fun H locs hP hD hS => ?_)
                    have hP : va_P D vwCl [(o, .inr (4, [.int (nI n), .ref oh, .int (nI kn), .ref oF, .ref oT, .ref oC, .ref oL, .int (bI ik), .ref oB, .ref oM, .ref oN, .ref oY, .ref oZ, .int (nI hs), .int (bI ib), .ref oK, .ref oP, .ref oA])), (oh, .inl (cZ, 200, .inl (bIf hot))), (oF, .inl (cI, 1000, .inl (nIf fr))), (oT, .inl (cI, 1000, .inl (nIf tt))), (oC, .inl (cJ, 1000, .inr (.inl (lNf ct)))), (oL, .inl (cZ, 1000, .inl (bIf fa))), (oB, .inl (cI, 40000, .inl (nIf tb2))), (oM, .inl (cI, 200, .inl (nIf (va_up (va_up mn1 c1 ((mn1 c1) + (mn1 d1))) d1 0)))), (oN, .inl (cI, 200, .inl (oIf co2))), (oK, .inl (cZ, 1000, .inl (bIf (va_up lk1 b true))))] H := hP
                    have hD : va_D A [(o, .inr (4, [.int (nI n), .ref oh, .int (nI kn), .ref oF, .ref oT, .ref oC, .ref oL, .int (bI ik), .ref oB, .ref oM, .ref oN, .ref oY, .ref oZ, .int (nI hs), .int (bI ib), .ref oK, .ref oP, .ref oA])), (oh, .inl (cZ, 200, .inl (bIf hot))), (oF, .inl (cI, 1000, .inl (nIf fr))), (oT, .inl (cI, 1000, .inl (nIf tt))), (oC, .inl (cJ, 1000, .inr (.inl (lNf ct)))), (oL, .inl (cZ, 1000, .inl (bIf fa))), (oB, .inl (cI, 40000, .inl (nIf tb2))), (oM, .inl (cI, 200, .inl (nIf (va_up (va_up mn1 c1 ((mn1 c1) + (mn1 d1))) d1 0)))), (oN, .inl (cI, 200, .inl (oIf co2))), (oK, .inl (cZ, 1000, .inl (bIf (va_up lk1 b true))))] := hD
                    refine lv_goto (tgt := 77) hx hb dX4_chains_322 (by decide) ?_
                    exact ih_77 (b, va_up lk1 b true, co2, tb2, va_up (va_up mn1 c1 ((mn1 c1) + (mn1 d1))) d1 0, joinT T c1 d1, R') _ _ _ ⟨(show b < 1000 ∧ CBI n hot kn (pk fr tt ct fa) (Tof L (hbL n hot)) (joinT T c1 d1) co2 tb2 (va_up (va_up mn1 c1 ((mn1 c1) + (mn1 d1))) d1 0) (va_up lk1 b true) R' from ⟨by omega, cb_join hCB hSR hc2 hd2 hx3 c_161 hx_u c_208 (by show tt b ≠ 0; omega) hi_e hdone⟩), hP.sub [0, 1, 2, 3, 4, 5, 6, 7, 8, 9] rfl, hD.sub [0, 1, 2, 3, 4, 5, 6, 7, 8, 9] (by decide) rfl, hS, lv_sub hl [0, 1] rfl⟩ (by show R'.length < R.length; rw [hRe, List.length_cons]; omega)
                  · skip
                    have hx9 : (T d1)[i]? = some ((T d1)[i]'(by omega)) := List.getElem?_eq_getElem (by omega)
                    obtain ⟨x9, ex9⟩ : ∃ z, z = (T d1)[i]'(by omega) := ⟨_, rfl⟩
                    rw [← ex9] at hx9
                    have hg9 := DI_get hTT hCB.2.2.1 c_161 hc0 hi_e hx9
                    have hx200 := hTT.1 d1 x9 (List.mem_of_getElem? hx9)
                    refine lv_aload_n hx hb dX4_chains_249 rfl (lv_at hl 0 rfl) ?_
                    refine va_get (D := D) (ci := 4) (v := .ref oB) (C := RX4) (T := TX4) (N := 18) hx hb hts in_X4_chains_X4 hown hE.1 hP 0 rfl rfl 8 (by decide) (hts _ fl_X4_chains_32) (fun _ h9 => h9) rfl dX4_chains_250 ?_
                    refine lv_sipush (v := nI 200) hx hb dX4_chains_253 (by decide) ?_
                    refine lv_iload_n hx hb dX4_chains_256 rfl (lv_at hl 3 rfl) ?_
                    refine r_imul hx hb dX4_chains_257 ?_
                    refine lv_iload hx hb dX4_chains_258 (lv_at hl 4 rfl) ?_
                    refine r_iadd hx hb dX4_chains_260 ?_
                    refine r_nld hx hb hE hP 6 rfl (k := (200 * d1) + i) (by omega) (by decide) dX4_chains_261 ?_
                    refine r_as (w := .int (nI x9)) (by rw [hg9]) ?_
                    refine lv_istore (lv' := [(6, .int (nI x9)), (0, .ref o), (1, .int (nI b)), (2, .int (nI c1)), (3, .int (nI d1)), (5, .int (nI i))]) hx hb dX4_chains_262 hl (by decide) rfl (fun ls hl => ?_)
                    refine lv_aload_n hx hb dX4_chains_264 rfl (lv_at hl 1 rfl) ?_
                    refine va_get (D := D) (ci := 4) (v := .ref oB) (C := RX4) (T := TX4) (N := 18) hx hb hts in_X4_chains_X4 hown hE.1 hP 0 rfl rfl 8 (by decide) (hts _ fl_X4_chains_32) (fun _ h9 => h9) rfl dX4_chains_265 ?_
                    refine lv_sipush (v := nI 200) hx hb dX4_chains_268 (by decide) ?_
                    refine lv_iload_n hx hb dX4_chains_271 rfl (lv_at hl 3 rfl) ?_
                    refine r_imul hx hb dX4_chains_272 ?_
                    refine lv_aload_n hx hb dX4_chains_273 rfl (lv_at hl 1 rfl) ?_
                    refine va_get (D := D) (ci := 4) (v := .ref oM) (C := RX4) (T := TX4) (N := 18) hx hb hts in_X4_chains_X4 hown hE.1 hP 0 rfl rfl 9 (by decide) (hts _ fl_X4_chains_35) (fun _ h9 => h9) rfl dX4_chains_274 ?_
                    refine lv_iload_n hx hb dX4_chains_277 rfl (lv_at hl 3 rfl) ?_
                    refine r_nld hx hb hE hP 7 rfl (k := c1) (by omega) (by decide) dX4_chains_278 ?_
                    refine r_iadd hx hb dX4_chains_279 ?_
                    refine lv_iload hx hb dX4_chains_280 (lv_at hl 5 rfl) ?_
                    refine r_iadd hx hb dX4_chains_282 ?_
                    refine lv_iload hx hb dX4_chains_283 (lv_at hl 0 rfl) ?_
                    refine r_nst hx hb hE hP hD hS 6 rfl (k := ((200 * c1) + (mn1 c1)) + i) (x := x9) (by omega) (by decide) dX4_chains_285 (fun H locs hP hD hS => ?_)
                    have hP : va_P D vwCl [(o, .inr (4, [.int (nI n), .ref oh, .int (nI kn), .ref oF, .ref oT, .ref oC, .ref oL, .int (bI ik), .ref oB, .ref oM, .ref oN, .ref oY, .ref oZ, .int (nI hs), .int (bI ib), .ref oK, .ref oP, .ref oA])), (oh, .inl (cZ, 200, .inl (bIf hot))), (oF, .inl (cI, 1000, .inl (nIf fr))), (oT, .inl (cI, 1000, .inl (nIf tt))), (oC, .inl (cJ, 1000, .inr (.inl (lNf ct)))), (oL, .inl (cZ, 1000, .inl (bIf fa))), (oB, .inl (cI, 40000, .inl (nIf (va_up tb2 (((200 * c1) + (mn1 c1)) + i) x9)))), (oM, .inl (cI, 200, .inl (nIf mn1))), (oN, .inl (cI, 200, .inl (oIf co2))), (oK, .inl (cZ, 1000, .inl (bIf (va_up lk1 b true))))] H := hP
                    have hD : va_D A [(o, .inr (4, [.int (nI n), .ref oh, .int (nI kn), .ref oF, .ref oT, .ref oC, .ref oL, .int (bI ik), .ref oB, .ref oM, .ref oN, .ref oY, .ref oZ, .int (nI hs), .int (bI ib), .ref oK, .ref oP, .ref oA])), (oh, .inl (cZ, 200, .inl (bIf hot))), (oF, .inl (cI, 1000, .inl (nIf fr))), (oT, .inl (cI, 1000, .inl (nIf tt))), (oC, .inl (cJ, 1000, .inr (.inl (lNf ct)))), (oL, .inl (cZ, 1000, .inl (bIf fa))), (oB, .inl (cI, 40000, .inl (nIf (va_up tb2 (((200 * c1) + (mn1 c1)) + i) x9)))), (oM, .inl (cI, 200, .inl (nIf mn1))), (oN, .inl (cI, 200, .inl (oIf co2))), (oK, .inl (cZ, 1000, .inl (bIf (va_up lk1 b true))))] := hD
                    refine lv_aload_n hx hb dX4_chains_286 rfl (lv_at hl 1 rfl) ?_
                    refine va_get (D := D) (ci := 4) (v := .ref oN) (C := RX4) (T := TX4) (N := 18) hx hb hts in_X4_chains_X4 hown hE.1 hP 0 rfl rfl 10 (by decide) (hts _ fl_X4_chains_38) (fun _ h9 => h9) rfl dX4_chains_287 ?_
                    refine lv_iload hx hb dX4_chains_290 (lv_at hl 0 rfl) ?_
                    refine lv_iload_n hx hb dX4_chains_292 rfl (lv_at hl 3 rfl) ?_
                    refine r_ost hx hb hE hP hD hS 8 rfl (k := x9) (some c1) rfl (by omega) (by decide) dX4_chains_293 (fun H locs hP hD hS => ?_)
                    have hP : va_P D vwCl [(o, .inr (4, [.int (nI n), .ref oh, .int (nI kn), .ref oF, .ref oT, .ref oC, .ref oL, .int (bI ik), .ref oB, .ref oM, .ref oN, .ref oY, .ref oZ, .int (nI hs), .int (bI ib), .ref oK, .ref oP, .ref oA])), (oh, .inl (cZ, 200, .inl (bIf hot))), (oF, .inl (cI, 1000, .inl (nIf fr))), (oT, .inl (cI, 1000, .inl (nIf tt))), (oC, .inl (cJ, 1000, .inr (.inl (lNf ct)))), (oL, .inl (cZ, 1000, .inl (bIf fa))), (oB, .inl (cI, 40000, .inl (nIf (va_up tb2 (((200 * c1) + (mn1 c1)) + i) x9)))), (oM, .inl (cI, 200, .inl (nIf mn1))), (oN, .inl (cI, 200, .inl (oIf (va_up co2 x9 (some c1))))), (oK, .inl (cZ, 1000, .inl (bIf (va_up lk1 b true))))] H := hP
                    have hD : va_D A [(o, .inr (4, [.int (nI n), .ref oh, .int (nI kn), .ref oF, .ref oT, .ref oC, .ref oL, .int (bI ik), .ref oB, .ref oM, .ref oN, .ref oY, .ref oZ, .int (nI hs), .int (bI ib), .ref oK, .ref oP, .ref oA])), (oh, .inl (cZ, 200, .inl (bIf hot))), (oF, .inl (cI, 1000, .inl (nIf fr))), (oT, .inl (cI, 1000, .inl (nIf tt))), (oC, .inl (cJ, 1000, .inr (.inl (lNf ct)))), (oL, .inl (cZ, 1000, .inl (bIf fa))), (oB, .inl (cI, 40000, .inl (nIf (va_up tb2 (((200 * c1) + (mn1 c1)) + i) x9)))), (oM, .inl (cI, 200, .inl (nIf mn1))), (oN, .inl (cI, 200, .inl (oIf (va_up co2 x9 (some c1))))), (oK, .inl (cZ, 1000, .inl (bIf (va_up lk1 b true))))] := hD
                    refine lv_iinc (v := (nI (i + 1))) (lv' := [(5, .int (nI (i + 1))), (6, .int (nI x9)), (0, .ref o), (1, .int (nI b)), (2, .int (nI c1)), (3, .int (nI d1))]) hx hb dX4_chains_294 hl (k := 5) rfl (nI_1 _) (by decide) rfl (fun ls hl => ?_)
                    refine lv_goto (tgt := 238) hx hb dX4_chains_297 (by decide) ?_
                    exact ih_238 (i + 1, va_up tb2 (((200 * c1) + (mn1 c1)) + i) x9, va_up co2 x9 (some c1)) _ _ _ ⟨(show (i + 1) ≤ (T d1).length ∧ DI T co1 tb1 c1 d1 (mn1 c1) ((i + 1)) (va_up tb2 (((200 * c1) + (mn1 c1)) + i) x9) (va_up co2 x9 (some c1)) from ⟨by omega, DI_step hi_e hx9⟩), hP.sub [0, 1, 2, 3, 4, 5, 6, 7, 8, 9] rfl, hD.sub [0, 1, 2, 3, 4, 5, 6, 7, 8, 9] (by decide) rfl, hS, lv_sub hl [2, 3, 4, 5, 0] rfl⟩ (by show (T d1).length - (i + 1) < (T d1).length - i; omega)
        · skip
          have e9 : kn = k2 := by omega
          subst e9
          rw [c_124] at hi_g
          have hR0 := sel_none hi_d.2.2.2.1 hi_g
          have hTe : T = (Tof L (hbL n hot)) := by rw [← hi_d.2.2.2.2.2.1, hR0]; rfl
          exact e_mv (lk1, co1, tb1, mn1) hAe hx hb hr hlocks dX4_chains_127 (hP.sub [0, 1, 2, 3, 4, 5, 6, 7, 8, 9] rfl) (hD.sub [0, 1, 2, 3, 4, 5, 6, 7, 8, 9] (by decide) rfl) hS (by show MR n (Tof L (hbL n hot)) co1 tb1 mn1; rw [← hTe]; exact hi_d.2.2.1)
      · skip
        refine lv_aload_n hx hb dX4_chains_93 rfl (lv_at hl 0 rfl) ?_
        refine va_get (D := D) (ci := 4) (v := .ref oK) (C := RX4) (T := TX4) (N := 18) hx hb hts in_X4_chains_X4 hown hE.1 hP 0 rfl rfl 15 (by decide) (hts _ fl_X4_chains_47) (fun _ h9 => h9) rfl dX4_chains_94 ?_
        refine lv_iload_n hx hb dX4_chains_97 rfl (lv_at hl 2 rfl) ?_
        refine r_bld hx hb hE hP 9 rfl (k := k2) (by omega) (by decide) dX4_chains_98 ?_
        refine r_b_ne (tgt := 117) hx hb dX4_chains_99 (by decide) (fun c_99 => ?_) (fun c_99 => ?_)
        · skip
          refine lv_iinc (v := (nI (k2 + 1))) (lv' := [(2, .int (nI (k2 + 1))), (0, .ref o), (1, .int (oI ob))]) hx hb dX4_chains_117 hl (k := 2) rfl (nI_1 _) (by decide) rfl (fun ls hl => ?_)
          refine lv_goto (tgt := 85) hx hb dX4_chains_120 (by decide) ?_
          exact ih_85 (k2 + 1, ob) _ _ _ ⟨(show (k2 + 1) ≤ kn ∧ SB (pk fr tt ct fa) lk1 ((k2 + 1)) ob from ⟨by omega, SB_skip hi_g c_99⟩), hP.sub [0, 1, 2, 3, 4, 5, 6, 7, 8, 9] rfl, hD.sub [0, 1, 2, 3, 4, 5, 6, 7, 8, 9] (by decide) rfl, hS, lv_sub hl [1, 2, 0] rfl⟩ (by show kn - (k2 + 1) < kn - k2; omega)
        · skip
          refine lv_iload_n hx hb dX4_chains_102 rfl (lv_at hl 1 rfl) ?_
          refine r_o_lt0 (tgt := 115) hx hb (fun j hj => by have := hob j hj; omega) dX4_chains_103 (by decide) (fun c_103 => ?_) (fun c_103 => ?_)
          · skip
            refine lv_iload_n hx hb dX4_chains_115 rfl (lv_at hl 2 rfl) ?_
            refine lv_istore_n (lv' := [(1, .int (nI k2)), (0, .ref o), (2, .int (nI k2))]) hx hb dX4_chains_116 rfl hl (by decide) rfl (fun ls hl => ?_)
            have hl : lv_has ls 7 [(1, .int (oI (some k2))), (0, .ref o), (2, .int (nI k2))] := hl
            refine lv_iinc (v := (nI (k2 + 1))) (lv' := [(2, .int (nI (k2 + 1))), (1, .int (oI (some k2))), (0, .ref o)]) hx hb dX4_chains_117 hl (k := 2) rfl (nI_1 _) (by decide) rfl (fun ls hl => ?_)
            refine lv_goto (tgt := 85) hx hb dX4_chains_120 (by decide) ?_
            exact ih_85 (k2 + 1, some k2) _ _ _ ⟨(show (k2 + 1) ≤ kn ∧ SB (pk fr tt ct fa) lk1 ((k2 + 1)) ((some k2)) from ⟨by omega, SB_first (by rw [← c_103]; exact hi_g) c_99⟩), hP.sub [0, 1, 2, 3, 4, 5, 6, 7, 8, 9] rfl, hD.sub [0, 1, 2, 3, 4, 5, 6, 7, 8, 9] (by decide) rfl, hS, lv_sub hl [2, 1, 0] rfl⟩ (by show kn - (k2 + 1) < kn - k2; omega)
          · skip
            obtain ⟨b, rfl⟩ := Option.ne_none_iff_exists'.mp c_103
            have hb9 := hob b rfl
            have hi_g2 := hi_g
            have hl : lv_has ls 7 [(0, .ref o), (1, .int (nI b)), (2, .int (nI k2))] := hl
            refine lv_aload_n hx hb dX4_chains_106 rfl (lv_at hl 0 rfl) ?_
            refine lv_iload_n hx hb dX4_chains_107 rfl (lv_at hl 2 rfl) ?_
            refine lv_iload_n hx hb dX4_chains_108 rfl (lv_at hl 1 rfl) ?_
            refine callRi (As := [.int (nI k2), .int (nI b)]) (rest := []) ⟨hx, hb, hml, hown, hts⟩ (k_before l D cI cJ cZ o oh oF oT oC oL oB oM oN oY oZ oK oP oA n kn hs ik ib fr tt ct fa hB k2 b (by omega) (by omega)) (cwV 2 hts gX4_chains_X4_comesBefore rfl rfl rfl (by decide +kernel) ⟨Nat.le_of_ble_eq_true rfl, Nat.le_of_ble_eq_true rfl⟩) (preR hE hP 4 0 rfl rfl rfl [0, 2, 3, 4] rfl) rfl hl.1 (Nat.le_of_ble_eq_true rfl) dX4_chains_109 ⟨Nat.zero_le _, Nat.zero_le _⟩ rfl (fun r_109 hr_109 => ?_)
            subst hr_109
            refine r_b_eq (tgt := 117) hx hb dX4_chains_112 (by decide) (fun c_112 => ?_) (fun c_112 => ?_)
            · skip
              have hl : lv_has ls 7 [(0, .ref o), (1, .int (oI (some b))), (2, .int (nI k2))] := hl
              refine lv_iinc (v := (nI (k2 + 1))) (lv' := [(2, .int (nI (k2 + 1))), (0, .ref o), (1, .int (oI (some b)))]) hx hb dX4_chains_117 hl (k := 2) rfl (nI_1 _) (by decide) rfl (fun ls hl => ?_)
              refine lv_goto (tgt := 85) hx hb dX4_chains_120 (by decide) ?_
              exact ih_85 (k2 + 1, some b) _ _ _ ⟨(show (k2 + 1) ≤ kn ∧ SB (pk fr tt ct fa) lk1 ((k2 + 1)) ((some b)) from ⟨by omega, SB_keep hi_g2 hKi c_90 c_112⟩), hP.sub [0, 1, 2, 3, 4, 5, 6, 7, 8, 9] rfl, hD.sub [0, 1, 2, 3, 4, 5, 6, 7, 8, 9] (by decide) rfl, hS, lv_sub hl [1, 2, 0] rfl⟩ (by show kn - (k2 + 1) < kn - k2; omega)
            · skip
              refine lv_iload_n hx hb dX4_chains_115 rfl (lv_at hl 2 rfl) ?_
              refine lv_istore_n (lv' := [(1, .int (nI k2)), (0, .ref o), (2, .int (nI k2))]) hx hb dX4_chains_116 rfl hl (by decide) rfl (fun ls hl => ?_)
              have hl : lv_has ls 7 [(1, .int (oI (some k2))), (0, .ref o), (2, .int (nI k2))] := hl
              refine lv_iinc (v := (nI (k2 + 1))) (lv' := [(2, .int (nI (k2 + 1))), (1, .int (oI (some k2))), (0, .ref o)]) hx hb dX4_chains_117 hl (k := 2) rfl (nI_1 _) (by decide) rfl (fun ls hl => ?_)
              refine lv_goto (tgt := 85) hx hb dX4_chains_120 (by decide) ?_
              exact ih_85 (k2 + 1, some k2) _ _ _ ⟨(show (k2 + 1) ≤ kn ∧ SB (pk fr tt ct fa) lk1 ((k2 + 1)) ((some k2)) from ⟨by omega, SB_take hi_g2 c_99 c_112⟩), hP.sub [0, 1, 2, 3, 4, 5, 6, 7, 8, 9] rfl, hD.sub [0, 1, 2, 3, 4, 5, 6, 7, 8, 9] (by decide) rfl, hS, lv_sub hl [2, 1, 0] rfl⟩ (by show kn - (k2 + 1) < kn - k2; omega)
  · skip
    have b1 := hBn k c_7
    have b2 := (hB k).2.2
    refine lv_aload_n hx hb dX4_chains_10 rfl (lv_at hl 0 rfl) ?_
    refine va_get (D := D) (ci := 4) (v := .ref oK) (C := RX4) (T := TX4) (N := 18) hx hb hts in_X4_chains_X4 hown hE.1 hP 0 rfl rfl 15 (by decide) (hts _ fl_X4_chains_47) (fun _ h9 => h9) rfl dX4_chains_11 ?_
    refine lv_iload_n hx hb dX4_chains_14 rfl (lv_at hl 1 rfl) ?_
    refine lv_aload_n hx hb dX4_chains_15 rfl (lv_at hl 0 rfl) ?_
    refine va_get (D := D) (ci := 4) (v := .ref oL) (C := RX4) (T := TX4) (N := 18) hx hb hts in_X4_chains_X4 hown hE.1 hP 0 rfl rfl 6 (by decide) (hts _ fl_X4_chains_28) (fun _ h9 => h9) rfl dX4_chains_16 ?_
    refine lv_iload_n hx hb dX4_chains_19 rfl (lv_at hl 1 rfl) ?_
    refine r_bld hx hb hE hP 5 rfl (k := k) (by omega) (by decide) dX4_chains_20 ?_
    refine r_b_eq (tgt := 63) hx hb dX4_chains_21 (by decide) (fun c_21 => ?_) (fun c_21 => ?_)
    · skip
      refine lv_iconst (v := bI true) hx hb dX4_chains_63 (by decide) ?_
      refine lv_goto (tgt := 68) hx hb dX4_chains_64 (by decide) ?_
      refine r_bst hx hb hE hP hD hS 9 rfl (k := k) true rfl (by omega) (by decide) dX4_chains_68 (fun H locs hP hD hS => ?_)
      have hP : va_P D vwCl [(o, .inr (4, [.int (nI n), .ref oh, .int (nI kn), .ref oF, .ref oT, .ref oC, .ref oL, .int (bI ik), .ref oB, .ref oM, .ref oN, .ref oY, .ref oZ, .int (nI hs), .int (bI ib), .ref oK, .ref oP, .ref oA])), (oh, .inl (cZ, 200, .inl (bIf hot))), (oF, .inl (cI, 1000, .inl (nIf fr))), (oT, .inl (cI, 1000, .inl (nIf tt))), (oC, .inl (cJ, 1000, .inr (.inl (lNf ct)))), (oL, .inl (cZ, 1000, .inl (bIf fa))), (oB, .inl (cI, 40000, .inl (nIf tb))), (oM, .inl (cI, 200, .inl (nIf mn))), (oN, .inl (cI, 200, .inl (oIf co))), (oK, .inl (cZ, 1000, .inl (bIf (va_up f k true))))] H := hP
      have hD : va_D A [(o, .inr (4, [.int (nI n), .ref oh, .int (nI kn), .ref oF, .ref oT, .ref oC, .ref oL, .int (bI ik), .ref oB, .ref oM, .ref oN, .ref oY, .ref oZ, .int (nI hs), .int (bI ib), .ref oK, .ref oP, .ref oA])), (oh, .inl (cZ, 200, .inl (bIf hot))), (oF, .inl (cI, 1000, .inl (nIf fr))), (oT, .inl (cI, 1000, .inl (nIf tt))), (oC, .inl (cJ, 1000, .inr (.inl (lNf ct)))), (oL, .inl (cZ, 1000, .inl (bIf fa))), (oB, .inl (cI, 40000, .inl (nIf tb))), (oM, .inl (cI, 200, .inl (nIf mn))), (oN, .inl (cI, 200, .inl (oIf co))), (oK, .inl (cZ, 1000, .inl (bIf (va_up f k true))))] := hD
      refine lv_iinc (v := (nI (k + 1))) (lv' := [(1, .int (nI (k + 1))), (0, .ref o)]) hx hb dX4_chains_69 hl (k := 1) rfl (nI_1 _) (by decide) rfl (fun ls hl => ?_)
      refine lv_goto (tgt := 2) hx hb dX4_chains_72 (by decide) ?_
      exact ih_2 (k + 1, va_up f k true) _ _ _ ⟨(show (k + 1) ≤ kn ∧ ∀ j, j < (k + 1) → (va_up f k true) j = !(qW hot ((pk fr tt ct fa) j)) from ⟨by omega, lt_s (fun j hj => by rw [va_up_ne _ _ (by omega)]; exact hi_2.2 j hj) (by rw [va_up_self]; simp [qW, pk, c_21])⟩), hP.sub [0, 1, 2, 3, 4, 5, 6, 7, 8, 9] rfl, hD.sub [0, 1, 2, 3, 4, 5, 6, 7, 8, 9] (by decide) rfl, hS, lv_sub hl [1, 0] rfl⟩ (by show kn - (k + 1) < kn - k; omega)
    · skip
      refine lv_aload_n hx hb dX4_chains_24 rfl (lv_at hl 0 rfl) ?_
      refine va_get (D := D) (ci := 4) (v := .ref oC) (C := RX4) (T := TX4) (N := 18) hx hb hts in_X4_chains_X4 hown hE.1 hP 0 rfl rfl 5 (by decide) (hts _ fl_X4_chains_24) (fun _ h9 => h9) rfl dX4_chains_25 ?_
      refine lv_iload_n hx hb dX4_chains_28 rfl (lv_at hl 1 rfl) ?_
      refine r_lld hx hb hE hP 4 rfl (k := k) (by omega) (by decide) dX4_chains_29 ?_
      refine lv_lconst (v := lN 0) hx hb dX4_chains_30 (by decide) ?_
      refine r_l_eq (tgt := 63) hx hb (x := ct k) (y := 0) (by omega) (by omega) dX4_chains_31 dX4_chains_32 (by decide) (fun c_31 => ?_) (fun c_31 => ?_)
      · skip
        refine lv_iconst (v := bI true) hx hb dX4_chains_63 (by decide) ?_
        refine lv_goto (tgt := 68) hx hb dX4_chains_64 (by decide) ?_
        refine r_bst hx hb hE hP hD hS 9 rfl (k := k) true rfl (by omega) (by decide) dX4_chains_68 (fun H locs hP hD hS => ?_)
        have hP : va_P D vwCl [(o, .inr (4, [.int (nI n), .ref oh, .int (nI kn), .ref oF, .ref oT, .ref oC, .ref oL, .int (bI ik), .ref oB, .ref oM, .ref oN, .ref oY, .ref oZ, .int (nI hs), .int (bI ib), .ref oK, .ref oP, .ref oA])), (oh, .inl (cZ, 200, .inl (bIf hot))), (oF, .inl (cI, 1000, .inl (nIf fr))), (oT, .inl (cI, 1000, .inl (nIf tt))), (oC, .inl (cJ, 1000, .inr (.inl (lNf ct)))), (oL, .inl (cZ, 1000, .inl (bIf fa))), (oB, .inl (cI, 40000, .inl (nIf tb))), (oM, .inl (cI, 200, .inl (nIf mn))), (oN, .inl (cI, 200, .inl (oIf co))), (oK, .inl (cZ, 1000, .inl (bIf (va_up f k true))))] H := hP
        have hD : va_D A [(o, .inr (4, [.int (nI n), .ref oh, .int (nI kn), .ref oF, .ref oT, .ref oC, .ref oL, .int (bI ik), .ref oB, .ref oM, .ref oN, .ref oY, .ref oZ, .int (nI hs), .int (bI ib), .ref oK, .ref oP, .ref oA])), (oh, .inl (cZ, 200, .inl (bIf hot))), (oF, .inl (cI, 1000, .inl (nIf fr))), (oT, .inl (cI, 1000, .inl (nIf tt))), (oC, .inl (cJ, 1000, .inr (.inl (lNf ct)))), (oL, .inl (cZ, 1000, .inl (bIf fa))), (oB, .inl (cI, 40000, .inl (nIf tb))), (oM, .inl (cI, 200, .inl (nIf mn))), (oN, .inl (cI, 200, .inl (oIf co))), (oK, .inl (cZ, 1000, .inl (bIf (va_up f k true))))] := hD
        refine lv_iinc (v := (nI (k + 1))) (lv' := [(1, .int (nI (k + 1))), (0, .ref o)]) hx hb dX4_chains_69 hl (k := 1) rfl (nI_1 _) (by decide) rfl (fun ls hl => ?_)
        refine lv_goto (tgt := 2) hx hb dX4_chains_72 (by decide) ?_
        exact ih_2 (k + 1, va_up f k true) _ _ _ ⟨(show (k + 1) ≤ kn ∧ ∀ j, j < (k + 1) → (va_up f k true) j = !(qW hot ((pk fr tt ct fa) j)) from ⟨by omega, lt_s (fun j hj => by rw [va_up_ne _ _ (by omega)]; exact hi_2.2 j hj) (by rw [va_up_self]; simp [qW, pk, c_21, c_31])⟩), hP.sub [0, 1, 2, 3, 4, 5, 6, 7, 8, 9] rfl, hD.sub [0, 1, 2, 3, 4, 5, 6, 7, 8, 9] (by decide) rfl, hS, lv_sub hl [1, 0] rfl⟩ (by show kn - (k + 1) < kn - k; omega)
      · skip
        refine lv_aload_n hx hb dX4_chains_35 rfl (lv_at hl 0 rfl) ?_
        refine va_get (D := D) (ci := 4) (v := .ref oh) (C := RX4) (T := TX4) (N := 18) hx hb hts in_X4_chains_X4 hown hE.1 hP 0 rfl rfl 1 (by decide) (hts _ fl_X4_chains_13) (fun _ h9 => h9) rfl dX4_chains_36 ?_
        refine lv_aload_n hx hb dX4_chains_39 rfl (lv_at hl 0 rfl) ?_
        refine va_get (D := D) (ci := 4) (v := .ref oF) (C := RX4) (T := TX4) (N := 18) hx hb hts in_X4_chains_X4 hown hE.1 hP 0 rfl rfl 3 (by decide) (hts _ fl_X4_chains_17) (fun _ h9 => h9) rfl dX4_chains_40 ?_
        refine lv_iload_n hx hb dX4_chains_43 rfl (lv_at hl 1 rfl) ?_
        refine r_nld hx hb hE hP 2 rfl (k := k) (by omega) (by decide) dX4_chains_44 ?_
        refine r_bld hx hb hE hP 1 rfl (k := fr k) (by omega) (by decide) dX4_chains_45 ?_
        refine r_b_eq (tgt := 63) hx hb dX4_chains_46 (by decide) (fun c_46 => ?_) (fun c_46 => ?_)
        · skip
          refine lv_iconst (v := bI true) hx hb dX4_chains_63 (by decide) ?_
          refine lv_goto (tgt := 68) hx hb dX4_chains_64 (by decide) ?_
          refine r_bst hx hb hE hP hD hS 9 rfl (k := k) true rfl (by omega) (by decide) dX4_chains_68 (fun H locs hP hD hS => ?_)
          have hP : va_P D vwCl [(o, .inr (4, [.int (nI n), .ref oh, .int (nI kn), .ref oF, .ref oT, .ref oC, .ref oL, .int (bI ik), .ref oB, .ref oM, .ref oN, .ref oY, .ref oZ, .int (nI hs), .int (bI ib), .ref oK, .ref oP, .ref oA])), (oh, .inl (cZ, 200, .inl (bIf hot))), (oF, .inl (cI, 1000, .inl (nIf fr))), (oT, .inl (cI, 1000, .inl (nIf tt))), (oC, .inl (cJ, 1000, .inr (.inl (lNf ct)))), (oL, .inl (cZ, 1000, .inl (bIf fa))), (oB, .inl (cI, 40000, .inl (nIf tb))), (oM, .inl (cI, 200, .inl (nIf mn))), (oN, .inl (cI, 200, .inl (oIf co))), (oK, .inl (cZ, 1000, .inl (bIf (va_up f k true))))] H := hP
          have hD : va_D A [(o, .inr (4, [.int (nI n), .ref oh, .int (nI kn), .ref oF, .ref oT, .ref oC, .ref oL, .int (bI ik), .ref oB, .ref oM, .ref oN, .ref oY, .ref oZ, .int (nI hs), .int (bI ib), .ref oK, .ref oP, .ref oA])), (oh, .inl (cZ, 200, .inl (bIf hot))), (oF, .inl (cI, 1000, .inl (nIf fr))), (oT, .inl (cI, 1000, .inl (nIf tt))), (oC, .inl (cJ, 1000, .inr (.inl (lNf ct)))), (oL, .inl (cZ, 1000, .inl (bIf fa))), (oB, .inl (cI, 40000, .inl (nIf tb))), (oM, .inl (cI, 200, .inl (nIf mn))), (oN, .inl (cI, 200, .inl (oIf co))), (oK, .inl (cZ, 1000, .inl (bIf (va_up f k true))))] := hD
          refine lv_iinc (v := (nI (k + 1))) (lv' := [(1, .int (nI (k + 1))), (0, .ref o)]) hx hb dX4_chains_69 hl (k := 1) rfl (nI_1 _) (by decide) rfl (fun ls hl => ?_)
          refine lv_goto (tgt := 2) hx hb dX4_chains_72 (by decide) ?_
          exact ih_2 (k + 1, va_up f k true) _ _ _ ⟨(show (k + 1) ≤ kn ∧ ∀ j, j < (k + 1) → (va_up f k true) j = !(qW hot ((pk fr tt ct fa) j)) from ⟨by omega, lt_s (fun j hj => by rw [va_up_ne _ _ (by omega)]; exact hi_2.2 j hj) (by rw [va_up_self]; simp [qW, pk, c_21, c_31, c_46])⟩), hP.sub [0, 1, 2, 3, 4, 5, 6, 7, 8, 9] rfl, hD.sub [0, 1, 2, 3, 4, 5, 6, 7, 8, 9] (by decide) rfl, hS, lv_sub hl [1, 0] rfl⟩ (by show kn - (k + 1) < kn - k; omega)
        · skip
          refine lv_aload_n hx hb dX4_chains_49 rfl (lv_at hl 0 rfl) ?_
          refine va_get (D := D) (ci := 4) (v := .ref oh) (C := RX4) (T := TX4) (N := 18) hx hb hts in_X4_chains_X4 hown hE.1 hP 0 rfl rfl 1 (by decide) (hts _ fl_X4_chains_13) (fun _ h9 => h9) rfl dX4_chains_50 ?_
          refine lv_aload_n hx hb dX4_chains_53 rfl (lv_at hl 0 rfl) ?_
          refine va_get (D := D) (ci := 4) (v := .ref oT) (C := RX4) (T := TX4) (N := 18) hx hb hts in_X4_chains_X4 hown hE.1 hP 0 rfl rfl 4 (by decide) (hts _ fl_X4_chains_21) (fun _ h9 => h9) rfl dX4_chains_54 ?_
          refine lv_iload_n hx hb dX4_chains_57 rfl (lv_at hl 1 rfl) ?_
          refine r_nld hx hb hE hP 3 rfl (k := k) (by omega) (by decide) dX4_chains_58 ?_
          refine r_bld hx hb hE hP 1 rfl (k := tt k) (by omega) (by decide) dX4_chains_59 ?_
          refine r_b_ne (tgt := 67) hx hb dX4_chains_60 (by decide) (fun c_60 => ?_) (fun c_60 => ?_)
          · skip
            refine lv_iconst (v := bI false) hx hb dX4_chains_67 (by decide) ?_
            refine r_bst hx hb hE hP hD hS 9 rfl (k := k) false rfl (by omega) (by decide) dX4_chains_68 (fun H locs hP hD hS => ?_)
            have hP : va_P D vwCl [(o, .inr (4, [.int (nI n), .ref oh, .int (nI kn), .ref oF, .ref oT, .ref oC, .ref oL, .int (bI ik), .ref oB, .ref oM, .ref oN, .ref oY, .ref oZ, .int (nI hs), .int (bI ib), .ref oK, .ref oP, .ref oA])), (oh, .inl (cZ, 200, .inl (bIf hot))), (oF, .inl (cI, 1000, .inl (nIf fr))), (oT, .inl (cI, 1000, .inl (nIf tt))), (oC, .inl (cJ, 1000, .inr (.inl (lNf ct)))), (oL, .inl (cZ, 1000, .inl (bIf fa))), (oB, .inl (cI, 40000, .inl (nIf tb))), (oM, .inl (cI, 200, .inl (nIf mn))), (oN, .inl (cI, 200, .inl (oIf co))), (oK, .inl (cZ, 1000, .inl (bIf (va_up f k false))))] H := hP
            have hD : va_D A [(o, .inr (4, [.int (nI n), .ref oh, .int (nI kn), .ref oF, .ref oT, .ref oC, .ref oL, .int (bI ik), .ref oB, .ref oM, .ref oN, .ref oY, .ref oZ, .int (nI hs), .int (bI ib), .ref oK, .ref oP, .ref oA])), (oh, .inl (cZ, 200, .inl (bIf hot))), (oF, .inl (cI, 1000, .inl (nIf fr))), (oT, .inl (cI, 1000, .inl (nIf tt))), (oC, .inl (cJ, 1000, .inr (.inl (lNf ct)))), (oL, .inl (cZ, 1000, .inl (bIf fa))), (oB, .inl (cI, 40000, .inl (nIf tb))), (oM, .inl (cI, 200, .inl (nIf mn))), (oN, .inl (cI, 200, .inl (oIf co))), (oK, .inl (cZ, 1000, .inl (bIf (va_up f k false))))] := hD
            refine lv_iinc (v := (nI (k + 1))) (lv' := [(1, .int (nI (k + 1))), (0, .ref o)]) hx hb dX4_chains_69 hl (k := 1) rfl (nI_1 _) (by decide) rfl (fun ls hl => ?_)
            refine lv_goto (tgt := 2) hx hb dX4_chains_72 (by decide) ?_
            exact ih_2 (k + 1, va_up f k false) _ _ _ ⟨(show (k + 1) ≤ kn ∧ ∀ j, j < (k + 1) → (va_up f k false) j = !(qW hot ((pk fr tt ct fa) j)) from ⟨by omega, lt_s (fun j hj => by rw [va_up_ne _ _ (by omega)]; exact hi_2.2 j hj) (by rw [va_up_self]; simp [qW, pk, c_21, c_31, c_46, c_60])⟩), hP.sub [0, 1, 2, 3, 4, 5, 6, 7, 8, 9] rfl, hD.sub [0, 1, 2, 3, 4, 5, 6, 7, 8, 9] (by decide) rfl, hS, lv_sub hl [1, 0] rfl⟩ (by show kn - (k + 1) < kn - k; omega)
          · skip
            refine lv_iconst (v := bI true) hx hb dX4_chains_63 (by decide) ?_
            refine lv_goto (tgt := 68) hx hb dX4_chains_64 (by decide) ?_
            refine r_bst hx hb hE hP hD hS 9 rfl (k := k) true rfl (by omega) (by decide) dX4_chains_68 (fun H locs hP hD hS => ?_)
            have hP : va_P D vwCl [(o, .inr (4, [.int (nI n), .ref oh, .int (nI kn), .ref oF, .ref oT, .ref oC, .ref oL, .int (bI ik), .ref oB, .ref oM, .ref oN, .ref oY, .ref oZ, .int (nI hs), .int (bI ib), .ref oK, .ref oP, .ref oA])), (oh, .inl (cZ, 200, .inl (bIf hot))), (oF, .inl (cI, 1000, .inl (nIf fr))), (oT, .inl (cI, 1000, .inl (nIf tt))), (oC, .inl (cJ, 1000, .inr (.inl (lNf ct)))), (oL, .inl (cZ, 1000, .inl (bIf fa))), (oB, .inl (cI, 40000, .inl (nIf tb))), (oM, .inl (cI, 200, .inl (nIf mn))), (oN, .inl (cI, 200, .inl (oIf co))), (oK, .inl (cZ, 1000, .inl (bIf (va_up f k true))))] H := hP
            have hD : va_D A [(o, .inr (4, [.int (nI n), .ref oh, .int (nI kn), .ref oF, .ref oT, .ref oC, .ref oL, .int (bI ik), .ref oB, .ref oM, .ref oN, .ref oY, .ref oZ, .int (nI hs), .int (bI ib), .ref oK, .ref oP, .ref oA])), (oh, .inl (cZ, 200, .inl (bIf hot))), (oF, .inl (cI, 1000, .inl (nIf fr))), (oT, .inl (cI, 1000, .inl (nIf tt))), (oC, .inl (cJ, 1000, .inr (.inl (lNf ct)))), (oL, .inl (cZ, 1000, .inl (bIf fa))), (oB, .inl (cI, 40000, .inl (nIf tb))), (oM, .inl (cI, 200, .inl (nIf mn))), (oN, .inl (cI, 200, .inl (oIf co))), (oK, .inl (cZ, 1000, .inl (bIf (va_up f k true))))] := hD
            refine lv_iinc (v := (nI (k + 1))) (lv' := [(1, .int (nI (k + 1))), (0, .ref o)]) hx hb dX4_chains_69 hl (k := 1) rfl (nI_1 _) (by decide) rfl (fun ls hl => ?_)
            refine lv_goto (tgt := 2) hx hb dX4_chains_72 (by decide) ?_
            exact ih_2 (k + 1, va_up f k true) _ _ _ ⟨(show (k + 1) ≤ kn ∧ ∀ j, j < (k + 1) → (va_up f k true) j = !(qW hot ((pk fr tt ct fa) j)) from ⟨by omega, lt_s (fun j hj => by rw [va_up_ne _ _ (by omega)]; exact hi_2.2 j hj) (by rw [va_up_self]; simp [qW, pk, c_21, c_31, c_46, c_60])⟩), hP.sub [0, 1, 2, 3, 4, 5, 6, 7, 8, 9] rfl, hD.sub [0, 1, 2, 3, 4, 5, 6, 7, 8, 9] (by decide) rfl, hS, lv_sub hl [1, 0] rfl⟩ (by show kn - (k + 1) < kn - k; omega)

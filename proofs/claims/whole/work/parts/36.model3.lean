section MostRow
variable {p : Program} {l : Launch} {e : Env} {R : Room} {s : State} {m : MethodId} {args : Array Value} {below : List Frame} {meth : Method} {c : Code} {H : Heap} {locs : List Loc} {cells slots : Nat} {Q : State → Prop} {cc : ByteArray} {pc : Nat} {ls : Array Slot} {rest : List Value}
theorem r_most (hexec : p.tables.exec = Jvm.exec) (hb : c.code = cc) {M : List Wy} {T : Nat → List Nat} {P : List Nat} {o : Option Nat} {x : Nat} (hx : x < 2 ^ 63) (hM : ∀ T P c, pullS M T P c < 2 ^ 63) {off : Int} {tgt : Nat} (hd1 : decode cc pc = .ok (.lcmp, 1)) (hdg : decode cc (pc + 1) = .ok (.ifCond .gt off, 3)) (ht : ((pc + 1 : Nat) : Int) + off = (tgt : Int)) (kt : (∀ c, o = some c → pullS M T P c < x) → W p l e R s m args below meth c H locs cells slots Q (F0 m tgt ls rest)) (kf : (∃ c, o = some c ∧ x ≤ pullS M T P c) → W p l e R s m args below meth c H locs cells slots Q (F0 m (pc + 1 + 3) ls rest)) : W p l e R s m args below meth c H locs cells slots Q (F0 m pc ls (.long (mostV M T P o) :: .long (lN x) :: rest)) := by
  refine W.lcmp hexec hb hd1 (lv_if_gt hexec hb hdg ht (fun h => kt (fun c hc => ?_)) (fun h => kf ?_))
  · subst hc
    exact (pk_lLT (hM _ _ _) hx).mp ((lg_cmp_gt _ _).mp h)
  · cases o with
    | none =>
      refine absurd ((lg_cmp_gt _ _).mpr ?_) h
      show (-1 : Int64) < lN x
      rw [Int64.lt_iff_toInt_lt, pk_lT hx]
      have : (-1 : Int64).toInt = -1 := by decide
      omega
    | some c =>
      refine ⟨c, rfl, ?_⟩
      rcases Nat.lt_or_ge (pullS M T P c) x with q | q
      · exact absurd ((lg_cmp_gt _ _).mpr ((pk_lLT (hM _ _ _) hx).mpr q)) h
      · exact q
end MostRow
theorem pl_rm {M : List Wy} {T : Nat → List Nat} {P F : List Nat} {hot : Nat → Bool} {n n1 c b : Nat} {bc : Nat → Nat} {ip : Nat → Bool} (hT : CI T) (hn : n ≤ 200) (h : PB M T (hbL n hot) F n n1 P bc ip) (hb : b ∈ T c) (hp : b ∉ P) : P.length + (T c).length ≤ 200 := by
  rw [← List.length_append]
  refine nodup_len 200 _ (List.nodup_append.mpr ⟨h.2.1, hT.2.2.2 c, ?_⟩) ?_
  · intro a ha y hy e
    subst e
    exact closed_un h.2.2.2.1 hb hp a hy ha
  · intro a ha
    rcases List.mem_append.mp ha with q | q
    · exact hbL_lt hn a (h.2.2.1 a q)
    · exact hT.1 c a q
theorem fl_X4_place_13 : Cond.fieldLink RX4 13 "BlockRowsModel" "hot" "[Z" ∈ wsX4_place := by decide +kernel
theorem fl_X4_place_32 : Cond.fieldLink RX4 32 "BlockRowsModel" "table" "[I" ∈ wsX4_place := by decide +kernel
theorem fl_X4_place_35 : Cond.fieldLink RX4 35 "BlockRowsModel" "many" "[I" ∈ wsX4_place := by decide +kernel
theorem fl_X4_place_38 : Cond.fieldLink RX4 38 "BlockRowsModel" "chainOf" "[I" ∈ wsX4_place := by decide +kernel
theorem fl_X4_place_41 : Cond.fieldLink RX4 41 "BlockRowsModel" "byChains" "[I" ∈ wsX4_place := by decide +kernel
theorem fl_X4_place_50 : Cond.fieldLink RX4 50 "BlockRowsModel" "isPlaced" "[Z" ∈ wsX4_place := by decide +kernel
theorem fl_X4_place_7 : Cond.fieldLink RX4 7 "BlockRowsModel" "blocks" "I" ∈ wsX4_place := by decide +kernel
theorem fl_X4_place_86 : Cond.fieldLink RX4 86 "BlockRowsModel" "hots" "I" ∈ wsX4_place := by decide +kernel
theorem in_X4_place_X4 : ∀ w ∈ wsX40, w ∈ wsX4_place := by decide +kernel
theorem wd_X4_place_c67 : Cond.constantLong RX4 67 (-1) ∈ wsX4_place := by decide +kernel
set_option maxHeartbeats 4000000 in
set_option maxRecDepth 100000 in
/-- Model.place -/
theorem k_place (l : Launch) (D : va_G) (cI cJ cZ : ClassId) (o oh oF oT oC oL oB oM oN oY oZ oK oP oA n kn hs : Nat) (ik ib : Bool) (fr tt ct : Nat → Nat) (fa : Nat → Bool) (hot : Nat → Bool) (tb mn : Nat → Nat) (co : Nat → Option Nat) (bc : Nat → Nat) (ip : Nat → Bool) (T : Nat → List Nat) (hn : n ≤ 200) (hkn : kn ≤ 1000) (hB : WB fr tt ct) (hBn : ∀ k, k < kn → fr k < n ∧ tt k < n) (hT : CI T) (hcv : ∀ b, b ∈ (hbL n hot) ↔ ∃ c, b ∈ T c) (hMR : MR n T co tb mn) (hhs : hs = (hbL n hot).length) (sz : Nat) : Met l yX4_place wsX4_place ({ frames := 1, cells := 0, slots := 0, locals := 26 }) (PcM D cI cJ cZ [.ref o] [(o, .inr (4, [.int (nI n), .ref oh, .int (nI kn), .ref oF, .ref oT, .ref oC, .ref oL, .int (bI ik), .ref oB, .ref oM, .ref oN, .ref oY, .ref oZ, .int (nI hs), .int (bI ib), .ref oK, .ref oP, .ref oA])), (oh, .inl (cZ, 200, .inl (bIf hot))), (oF, .inl (cI, 1000, .inl (nIf fr))), (oT, .inl (cI, 1000, .inl (nIf tt))), (oC, .inl (cJ, 1000, .inr (.inl (lNf ct)))), (oB, .inl (cI, 40000, .inl (nIf tb))), (oM, .inl (cI, 200, .inl (nIf mn))), (oN, .inl (cI, 200, .inl (oIf co))), (oY, .inl (cI, 200, .inl (nIf bc))), (oP, .inl (cZ, 200, .inl (bIf ip)))] sz) (va_Qv (fun z : (Nat → Nat) × (Nat → Bool) => (placeF (wl kn (pk fr tt ct fa)) T (hbL n hot) 200 []).Nodup ∧ (placeF (wl kn (pk fr tt ct fa)) T (hbL n hot) 200 []).length = (hbL n hot).length ∧ (∀ b, b ∈ (placeF (wl kn (pk fr tt ct fa)) T (hbL n hot) 200 []) → b ∈ (hbL n hot)) ∧ ∀ i x, (placeF (wl kn (pk fr tt ct fa)) T (hbL n hot) 200 [])[i]? = some x → z.1 i = x) (Bm D [(o, .inr (4, [.int (nI n), .ref oh, .int (nI kn), .ref oF, .ref oT, .ref oC, .ref oL, .int (bI ik), .ref oB, .ref oM, .ref oN, .ref oY, .ref oZ, .int (nI hs), .int (bI ib), .ref oK, .ref oP, .ref oA])), (oh, .inl (cZ, 200, .inl (bIf hot))), (oF, .inl (cI, 1000, .inl (nIf fr))), (oT, .inl (cI, 1000, .inl (nIf tt))), (oC, .inl (cJ, 1000, .inr (.inl (lNf ct)))), (oB, .inl (cI, 40000, .inl (nIf tb))), (oM, .inl (cI, 200, .inl (nIf mn))), (oN, .inl (cI, 200, .inl (oIf co))), (oY, .inl (cI, 200, .inl (nIf bc))), (oP, .inl (cZ, 200, .inl (bIf ip)))] sz (fun z : (Nat → Nat) × (Nat → Bool) => [(o, .inr (4, [.int (nI n), .ref oh, .int (nI kn), .ref oF, .ref oT, .ref oC, .ref oL, .int (bI ik), .ref oB, .ref oM, .ref oN, .ref oY, .ref oZ, .int (nI hs), .int (bI ib), .ref oK, .ref oP, .ref oA])), (oh, .inl (cZ, 200, .inl (bIf hot))), (oF, .inl (cI, 1000, .inl (nIf fr))), (oT, .inl (cI, 1000, .inl (nIf tt))), (oC, .inl (cJ, 1000, .inr (.inl (lNf ct)))), (oB, .inl (cI, 40000, .inl (nIf tb))), (oM, .inl (cI, 200, .inl (nIf mn))), (oN, .inl (cI, 200, .inl (oIf co))), (oY, .inl (cI, 200, .inl (nIf z.1))), (oP, .inl (cZ, 200, .inl (bIf z.2)))])) (va_A [(o, .inr (4, [.int (nI n), .ref oh, .int (nI kn), .ref oF, .ref oT, .ref oC, .ref oL, .int (bI ik), .ref oB, .ref oM, .ref oN, .ref oY, .ref oZ, .int (nI hs), .int (bI ib), .ref oK, .ref oP, .ref oA])), (oh, .inl (cZ, 200, .inl (bIf hot))), (oF, .inl (cI, 1000, .inl (nIf fr))), (oT, .inl (cI, 1000, .inl (nIf tt))), (oC, .inl (cJ, 1000, .inr (.inl (lNf ct)))), (oB, .inl (cI, 40000, .inl (nIf tb))), (oM, .inl (cI, 200, .inl (nIf mn))), (oN, .inl (cI, 200, .inl (oIf co))), (oY, .inl (cI, 200, .inl (nIf bc))), (oP, .inl (cZ, 200, .inl (bIf ip)))] sz)) 0 0 (va_A [(o, .inr (4, [.int (nI n), .ref oh, .int (nI kn), .ref oF, .ref oT, .ref oC, .ref oL, .int (bI ik), .ref oB, .ref oM, .ref oN, .ref oY, .ref oZ, .int (nI hs), .int (bI ib), .ref oK, .ref oP, .ref oA])), (oh, .inl (cZ, 200, .inl (bIf hot))), (oF, .inl (cI, 1000, .inl (nIf fr))), (oT, .inl (cI, 1000, .inl (nIf tt))), (oC, .inl (cJ, 1000, .inr (.inl (lNf ct)))), (oB, .inl (cI, 40000, .inl (nIf tb))), (oM, .inl (cI, 200, .inl (nIf mn))), (oN, .inl (cI, 200, .inl (oIf co))), (oY, .inl (cI, 200, .inl (nIf bc))), (oP, .inl (cZ, 200, .inl (bIf ip)))] sz) := by
  refine startM (cc := cX4_place) (maxL := 8) (ret := none) (by decide) rfl (Nat.le_of_ble_eq_true rfl) ?_
  intro p e s m below meth c ls A hA hAe hx hb hr hml hown hts hlocks hin hE hP hD hS hl
  have hl : lv_has ls 8 [(0, .ref o)] := hl
  have hLb := wl_b (fa := fa) hB hkn
  have hhs2 : hs ≤ 200 := by rw [hhs]; exact Nat.le_trans (hbL_len n hot) hn
  refine lv_iconst (v := nI 0) hx hb dX4_place_0 (by decide) ?_
  refine lv_istore_n (lv' := [(1, .int (nI 0)), (0, .ref o)]) hx hb dX4_place_1 rfl hl (by decide) rfl (fun ls hl => ?_)
  refine r_loop (σ := Nat × (Nat → Bool)) (fun z0 => n - z0.1) (fun z0 H locs ls => (z0.1 ≤ n ∧ ∀ j, j < z0.1 → z0.2 j = false) ∧ va_P D vwCl [(o, .inr (4, [.int (nI n), .ref oh, .int (nI kn), .ref oF, .ref oT, .ref oC, .ref oL, .int (bI ik), .ref oB, .ref oM, .ref oN, .ref oY, .ref oZ, .int (nI hs), .int (bI ib), .ref oK, .ref oP, .ref oA])), (oh, .inl (cZ, 200, .inl (bIf hot))), (oF, .inl (cI, 1000, .inl (nIf fr))), (oT, .inl (cI, 1000, .inl (nIf tt))), (oC, .inl (cJ, 1000, .inr (.inl (lNf ct)))), (oB, .inl (cI, 40000, .inl (nIf tb))), (oM, .inl (cI, 200, .inl (nIf mn))), (oN, .inl (cI, 200, .inl (oIf co))), (oY, .inl (cI, 200, .inl (nIf bc))), (oP, .inl (cZ, 200, .inl (bIf z0.2)))] H ∧ va_D A [(o, .inr (4, [.int (nI n), .ref oh, .int (nI kn), .ref oF, .ref oT, .ref oC, .ref oL, .int (bI ik), .ref oB, .ref oM, .ref oN, .ref oY, .ref oZ, .int (nI hs), .int (bI ib), .ref oK, .ref oP, .ref oA])), (oh, .inl (cZ, 200, .inl (bIf hot))), (oF, .inl (cI, 1000, .inl (nIf fr))), (oT, .inl (cI, 1000, .inl (nIf tt))), (oC, .inl (cJ, 1000, .inr (.inl (lNf ct)))), (oB, .inl (cI, 40000, .inl (nIf tb))), (oM, .inl (cI, 200, .inl (nIf mn))), (oN, .inl (cI, 200, .inl (oIf co))), (oY, .inl (cI, 200, .inl (nIf bc))), (oP, .inl (cZ, 200, .inl (bIf z0.2)))] ∧ va_S A s.heap H locs ∧ lv_has ls 8 [(0, .ref o), (1, .int (nI z0.1))]) ?_ (0, ip) ⟨⟨Nat.zero_le _, fun j hj => by omega⟩, hP.sub [0, 1, 2, 3, 4, 5, 6, 7, 8, 9] rfl, hD.sub [0, 1, 2, 3, 4, 5, 6, 7, 8, 9] (by decide) rfl, hS, lv_sub hl [1, 0] rfl⟩
  rintro ⟨k, f⟩ H locs ls ⟨hi_2, hP, hD, hS, hl⟩ ih_2
  have hi_2 : k ≤ n ∧ ∀ j, j < k → f j = false := hi_2
  have hP : va_P D vwCl [(o, .inr (4, [.int (nI n), .ref oh, .int (nI kn), .ref oF, .ref oT, .ref oC, .ref oL, .int (bI ik), .ref oB, .ref oM, .ref oN, .ref oY, .ref oZ, .int (nI hs), .int (bI ib), .ref oK, .ref oP, .ref oA])), (oh, .inl (cZ, 200, .inl (bIf hot))), (oF, .inl (cI, 1000, .inl (nIf fr))), (oT, .inl (cI, 1000, .inl (nIf tt))), (oC, .inl (cJ, 1000, .inr (.inl (lNf ct)))), (oB, .inl (cI, 40000, .inl (nIf tb))), (oM, .inl (cI, 200, .inl (nIf mn))), (oN, .inl (cI, 200, .inl (oIf co))), (oY, .inl (cI, 200, .inl (nIf bc))), (oP, .inl (cZ, 200, .inl (bIf f)))] H := hP
  have hD : va_D A [(o, .inr (4, [.int (nI n), .ref oh, .int (nI kn), .ref oF, .ref oT, .ref oC, .ref oL, .int (bI ik), .ref oB, .ref oM, .ref oN, .ref oY, .ref oZ, .int (nI hs), .int (bI ib), .ref oK, .ref oP, .ref oA])), (oh, .inl (cZ, 200, .inl (bIf hot))), (oF, .inl (cI, 1000, .inl (nIf fr))), (oT, .inl (cI, 1000, .inl (nIf tt))), (oC, .inl (cJ, 1000, .inr (.inl (lNf ct)))), (oB, .inl (cI, 40000, .inl (nIf tb))), (oM, .inl (cI, 200, .inl (nIf mn))), (oN, .inl (cI, 200, .inl (oIf co))), (oY, .inl (cI, 200, .inl (nIf bc))), (oP, .inl (cZ, 200, .inl (bIf f)))] := hD
  have hl : lv_has ls 8 [(0, .ref o), (1, .int (nI k))] := hl
  obtain ⟨hi_a, hi_b⟩ := id hi_2
  refine lv_iload_n hx hb dX4_place_2 rfl (lv_at hl 1 rfl) ?_
  refine lv_aload_n hx hb dX4_place_3 rfl (lv_at hl 0 rfl) ?_
  refine va_get (D := D) (ci := 4) (v := .int (nI n)) (C := RX4) (T := TX4) (N := 18) hx hb hts in_X4_place_X4 hown hE.1 hP 0 rfl rfl 0 (by decide) (hts _ fl_X4_place_7) (fun _ h9 => h9) rfl dX4_place_4 ?_
  refine r_icmp_ge (tgt := 23) hx hb (x := k) (y := n) (by omega) (by omega) dX4_place_7 (by decide) (fun c_7 => ?_) (fun c_7 => ?_)
  · skip
    refine lv_iconst (v := nI 0) hx hb dX4_place_23 (by decide) ?_
    refine lv_istore_n (lv' := [(1, .int (nI 0)), (0, .ref o)]) hx hb dX4_place_24 rfl hl (by decide) rfl (fun ls hl => ?_)
    refine r_loop (σ := Nat × (List Nat) × (Nat → Nat) × (Nat → Bool)) (fun z0 => (hbL n hot).length - z0.2.1.length) (fun z0 H locs ls => (PB (wl kn (pk fr tt ct fa)) T (hbL n hot) (placeF (wl kn (pk fr tt ct fa)) T (hbL n hot) 200 []) n z0.1 z0.2.1 z0.2.2.1 z0.2.2.2) ∧ va_P D vwCl [(o, .inr (4, [.int (nI n), .ref oh, .int (nI kn), .ref oF, .ref oT, .ref oC, .ref oL, .int (bI ik), .ref oB, .ref oM, .ref oN, .ref oY, .ref oZ, .int (nI hs), .int (bI ib), .ref oK, .ref oP, .ref oA])), (oh, .inl (cZ, 200, .inl (bIf hot))), (oF, .inl (cI, 1000, .inl (nIf fr))), (oT, .inl (cI, 1000, .inl (nIf tt))), (oC, .inl (cJ, 1000, .inr (.inl (lNf ct)))), (oB, .inl (cI, 40000, .inl (nIf tb))), (oM, .inl (cI, 200, .inl (nIf mn))), (oN, .inl (cI, 200, .inl (oIf co))), (oY, .inl (cI, 200, .inl (nIf z0.2.2.1))), (oP, .inl (cZ, 200, .inl (bIf z0.2.2.2)))] H ∧ va_D A [(o, .inr (4, [.int (nI n), .ref oh, .int (nI kn), .ref oF, .ref oT, .ref oC, .ref oL, .int (bI ik), .ref oB, .ref oM, .ref oN, .ref oY, .ref oZ, .int (nI hs), .int (bI ib), .ref oK, .ref oP, .ref oA])), (oh, .inl (cZ, 200, .inl (bIf hot))), (oF, .inl (cI, 1000, .inl (nIf fr))), (oT, .inl (cI, 1000, .inl (nIf tt))), (oC, .inl (cJ, 1000, .inr (.inl (lNf ct)))), (oB, .inl (cI, 40000, .inl (nIf tb))), (oM, .inl (cI, 200, .inl (nIf mn))), (oN, .inl (cI, 200, .inl (oIf co))), (oY, .inl (cI, 200, .inl (nIf z0.2.2.1))), (oP, .inl (cZ, 200, .inl (bIf z0.2.2.2)))] ∧ va_S A s.heap H locs ∧ lv_has ls 8 [(0, .ref o), (1, .int (nI z0.1))]) ?_ (0, [], bc, f) ⟨PB_0 (Nat.le_trans (hbL_len n hot) hn) (fun b hb => hi_b b (by omega)), hP.sub [0, 1, 2, 3, 4, 5, 6, 7, 8, 9] rfl, hD.sub [0, 1, 2, 3, 4, 5, 6, 7, 8, 9] (by decide) rfl, hS, lv_sub hl [1, 0] rfl⟩
    rintro ⟨n1, P, bc1, ip1⟩ H locs ls ⟨hi_25, hP, hD, hS, hl⟩ ih_25
    have hi_25 : PB (wl kn (pk fr tt ct fa)) T (hbL n hot) (placeF (wl kn (pk fr tt ct fa)) T (hbL n hot) 200 []) n n1 P bc1 ip1 := hi_25
    have hP : va_P D vwCl [(o, .inr (4, [.int (nI n), .ref oh, .int (nI kn), .ref oF, .ref oT, .ref oC, .ref oL, .int (bI ik), .ref oB, .ref oM, .ref oN, .ref oY, .ref oZ, .int (nI hs), .int (bI ib), .ref oK, .ref oP, .ref oA])), (oh, .inl (cZ, 200, .inl (bIf hot))), (oF, .inl (cI, 1000, .inl (nIf fr))), (oT, .inl (cI, 1000, .inl (nIf tt))), (oC, .inl (cJ, 1000, .inr (.inl (lNf ct)))), (oB, .inl (cI, 40000, .inl (nIf tb))), (oM, .inl (cI, 200, .inl (nIf mn))), (oN, .inl (cI, 200, .inl (oIf co))), (oY, .inl (cI, 200, .inl (nIf bc1))), (oP, .inl (cZ, 200, .inl (bIf ip1)))] H := hP
    have hD : va_D A [(o, .inr (4, [.int (nI n), .ref oh, .int (nI kn), .ref oF, .ref oT, .ref oC, .ref oL, .int (bI ik), .ref oB, .ref oM, .ref oN, .ref oY, .ref oZ, .int (nI hs), .int (bI ib), .ref oK, .ref oP, .ref oA])), (oh, .inl (cZ, 200, .inl (bIf hot))), (oF, .inl (cI, 1000, .inl (nIf fr))), (oT, .inl (cI, 1000, .inl (nIf tt))), (oC, .inl (cJ, 1000, .inr (.inl (lNf ct)))), (oB, .inl (cI, 40000, .inl (nIf tb))), (oM, .inl (cI, 200, .inl (nIf mn))), (oN, .inl (cI, 200, .inl (oIf co))), (oY, .inl (cI, 200, .inl (nIf bc1))), (oP, .inl (cZ, 200, .inl (bIf ip1)))] := hD
    have hl : lv_has ls 8 [(0, .ref o), (1, .int (nI n1))] := hl
    have hP1 := hi_25.1
    have hPle := nodup_sub P (hbL n hot) hi_25.2.1 hi_25.2.2.1
    refine lv_iload_n hx hb dX4_place_25 rfl (lv_at hl 1 rfl) ?_
    refine lv_aload_n hx hb dX4_place_26 rfl (lv_at hl 0 rfl) ?_
    refine va_get (D := D) (ci := 4) (v := .int (nI hs)) (C := RX4) (T := TX4) (N := 18) hx hb hts in_X4_place_X4 hown hE.1 hP 0 rfl rfl 13 (by decide) (hts _ fl_X4_place_86) (fun _ h9 => h9) rfl dX4_place_27 ?_
    refine r_icmp_ge (tgt := 190) hx hb (x := n1) (y := hs) (by omega) (by omega) dX4_place_30 (by decide) (fun c_30 => ?_) (fun c_30 => ?_)
    · skip
      exact e_mv (bc1, ip1) hAe hx hb hr hlocks dX4_place_190 (hP.sub [0, 1, 2, 3, 4, 5, 6, 7, 8, 9] rfl) (hD.sub [0, 1, 2, 3, 4, 5, 6, 7, 8, 9] (by decide) rfl) hS (fin_LR hi_25 (by rw [← hhs]; exact c_30) (hbL_nodup n hot))
    · skip
      have hlt : n1 < (hbL n hot).length := by rw [← hhs]; exact c_30
      refine lv_iconst (v := -1) hx hb dX4_place_33 (by decide) ?_
      refine lv_istore_n (lv' := [(2, .int (-1)), (0, .ref o), (1, .int (nI n1))]) hx hb dX4_place_34 rfl hl (by decide) rfl (fun ls hl => ?_)
      refine lv_ldc2 (v := (-1)) hx hb hown (hts _ wd_X4_place_c67) dX4_place_35 ?_
      refine lv_lstore_n (lv' := [(3, .long ((-1))), (2, .int (-1)), (0, .ref o), (1, .int (nI n1))]) hx hb dX4_place_38 rfl hl (by decide) rfl (fun ls hl => ?_)
      refine lv_iconst (v := nI 0) hx hb dX4_place_39 (by decide) ?_
      refine lv_istore (lv' := [(5, .int (nI 0)), (3, .long ((-1))), (2, .int (-1)), (0, .ref o), (1, .int (nI n1))]) hx hb dX4_place_40 hl (by decide) rfl (fun ls hl => ?_)
      have hl : lv_has ls 8 [(5, .int (nI 0)), (3, .long ((mostV (wl kn (pk fr tt ct fa)) T P (bestK (wl kn (pk fr tt ct fa)) T P hot 0)))), (2, .int (oI (bestK (wl kn (pk fr tt ct fa)) T P hot 0))), (0, .ref o), (1, .int (nI n1))] := hl
      refine r_loop (σ := Nat) (fun z0 => n - z0) (fun z0 H locs ls => (z0 ≤ n) ∧ va_P D vwCl [(o, .inr (4, [.int (nI n), .ref oh, .int (nI kn), .ref oF, .ref oT, .ref oC, .ref oL, .int (bI ik), .ref oB, .ref oM, .ref oN, .ref oY, .ref oZ, .int (nI hs), .int (bI ib), .ref oK, .ref oP, .ref oA])), (oh, .inl (cZ, 200, .inl (bIf hot))), (oF, .inl (cI, 1000, .inl (nIf fr))), (oT, .inl (cI, 1000, .inl (nIf tt))), (oC, .inl (cJ, 1000, .inr (.inl (lNf ct)))), (oB, .inl (cI, 40000, .inl (nIf tb))), (oM, .inl (cI, 200, .inl (nIf mn))), (oN, .inl (cI, 200, .inl (oIf co))), (oY, .inl (cI, 200, .inl (nIf bc1))), (oP, .inl (cZ, 200, .inl (bIf ip1)))] H ∧ va_D A [(o, .inr (4, [.int (nI n), .ref oh, .int (nI kn), .ref oF, .ref oT, .ref oC, .ref oL, .int (bI ik), .ref oB, .ref oM, .ref oN, .ref oY, .ref oZ, .int (nI hs), .int (bI ib), .ref oK, .ref oP, .ref oA])), (oh, .inl (cZ, 200, .inl (bIf hot))), (oF, .inl (cI, 1000, .inl (nIf fr))), (oT, .inl (cI, 1000, .inl (nIf tt))), (oC, .inl (cJ, 1000, .inr (.inl (lNf ct)))), (oB, .inl (cI, 40000, .inl (nIf tb))), (oM, .inl (cI, 200, .inl (nIf mn))), (oN, .inl (cI, 200, .inl (oIf co))), (oY, .inl (cI, 200, .inl (nIf bc1))), (oP, .inl (cZ, 200, .inl (bIf ip1)))] ∧ va_S A s.heap H locs ∧ lv_has ls 8 [(0, .ref o), (1, .int (nI n1)), (2, .int (oI (bestK (wl kn (pk fr tt ct fa)) T P hot z0))), (3, .long ((mostV (wl kn (pk fr tt ct fa)) T P (bestK (wl kn (pk fr tt ct fa)) T P hot z0)))), (5, .int (nI z0))]) ?_ 0 ⟨Nat.zero_le _, hP.sub [0, 1, 2, 3, 4, 5, 6, 7, 8, 9] rfl, hD.sub [0, 1, 2, 3, 4, 5, 6, 7, 8, 9] (by decide) rfl, hS, lv_sub hl [3, 4, 2, 1, 0] rfl⟩
      rintro k H locs ls ⟨hi_42, hP, hD, hS, hl⟩ ih_42
      have hi_42 : k ≤ n := hi_42
      have hP : va_P D vwCl [(o, .inr (4, [.int (nI n), .ref oh, .int (nI kn), .ref oF, .ref oT, .ref oC, .ref oL, .int (bI ik), .ref oB, .ref oM, .ref oN, .ref oY, .ref oZ, .int (nI hs), .int (bI ib), .ref oK, .ref oP, .ref oA])), (oh, .inl (cZ, 200, .inl (bIf hot))), (oF, .inl (cI, 1000, .inl (nIf fr))), (oT, .inl (cI, 1000, .inl (nIf tt))), (oC, .inl (cJ, 1000, .inr (.inl (lNf ct)))), (oB, .inl (cI, 40000, .inl (nIf tb))), (oM, .inl (cI, 200, .inl (nIf mn))), (oN, .inl (cI, 200, .inl (oIf co))), (oY, .inl (cI, 200, .inl (nIf bc1))), (oP, .inl (cZ, 200, .inl (bIf ip1)))] H := hP
      have hD : va_D A [(o, .inr (4, [.int (nI n), .ref oh, .int (nI kn), .ref oF, .ref oT, .ref oC, .ref oL, .int (bI ik), .ref oB, .ref oM, .ref oN, .ref oY, .ref oZ, .int (nI hs), .int (bI ib), .ref oK, .ref oP, .ref oA])), (oh, .inl (cZ, 200, .inl (bIf hot))), (oF, .inl (cI, 1000, .inl (nIf fr))), (oT, .inl (cI, 1000, .inl (nIf tt))), (oC, .inl (cJ, 1000, .inr (.inl (lNf ct)))), (oB, .inl (cI, 40000, .inl (nIf tb))), (oM, .inl (cI, 200, .inl (nIf mn))), (oN, .inl (cI, 200, .inl (oIf co))), (oY, .inl (cI, 200, .inl (nIf bc1))), (oP, .inl (cZ, 200, .inl (bIf ip1)))] := hD
      have hl : lv_has ls 8 [(0, .ref o), (1, .int (nI n1)), (2, .int (oI (bestK (wl kn (pk fr tt ct fa)) T P hot k))), (3, .long ((mostV (wl kn (pk fr tt ct fa)) T P (bestK (wl kn (pk fr tt ct fa)) T P hot k)))), (5, .int (nI k))] := hl
      refine lv_iload hx hb dX4_place_42 (lv_at hl 4 rfl) ?_
      refine lv_aload_n hx hb dX4_place_44 rfl (lv_at hl 0 rfl) ?_
      refine va_get (D := D) (ci := 4) (v := .int (nI n)) (C := RX4) (T := TX4) (N := 18) hx hb hts in_X4_place_X4 hown hE.1 hP 0 rfl rfl 0 (by decide) (hts _ fl_X4_place_7) (fun _ h9 => h9) rfl dX4_place_45 ?_
      refine r_icmp_ge (tgt := 133) hx hb (x := k) (y := n) (by omega) (by omega) dX4_place_48 (by decide) (fun c_48 => ?_) (fun c_48 => ?_)
      · skip
        have e9 : k = n := by omega
        rw [e9] at hl
        obtain ⟨c0, hbc2⟩ := Option.ne_none_iff_exists'.mp (best_ne (M := (wl kn (pk fr tt ct fa))) (P := P) hT hcv (hbL_nodup n hot) (by omega))
        have hbk : bestK (wl kn (pk fr tt ct fa)) T P hot n = some c0 := hbc2
        rw [hbk] at hl
        obtain ⟨b9, hbH, hbP, hcT⟩ := best_ex hT hbc2
        have hc0 : T c0 ≠ [] := fun z => by rw [z] at hcT; cases hcT
        have hc200 := hT.lt hcT
        have hroom : P.length + (T c0).length ≤ 200 := pl_rm hT hn hi_25 hcT hbP
        have hl : lv_has ls 8 [(0, .ref o), (1, .int (nI n1)), (2, .int (nI c0)), (3, .long ((mostV (wl kn (pk fr tt ct fa)) T P (some c0)))), (5, .int (nI n))] := hl
        refine lv_iconst (v := nI 0) hx hb dX4_place_133 (by decide) ?_
        refine lv_istore (lv' := [(5, .int (nI 0)), (0, .ref o), (1, .int (nI n1)), (2, .int (nI c0)), (3, .long ((mostV (wl kn (pk fr tt ct fa)) T P (some c0))))]) hx hb dX4_place_134 hl (by decide) rfl (fun ls hl => ?_)
        refine r_loop (σ := Nat × Nat × (Nat → Nat) × (Nat → Bool)) (fun z0 => (T c0).length - z0.1) (fun z0 H locs ls => (z0.1 ≤ (T c0).length ∧ PD T n c0 P z0.1 z0.2.1 z0.2.2.1 z0.2.2.2) ∧ va_P D vwCl [(o, .inr (4, [.int (nI n), .ref oh, .int (nI kn), .ref oF, .ref oT, .ref oC, .ref oL, .int (bI ik), .ref oB, .ref oM, .ref oN, .ref oY, .ref oZ, .int (nI hs), .int (bI ib), .ref oK, .ref oP, .ref oA])), (oh, .inl (cZ, 200, .inl (bIf hot))), (oF, .inl (cI, 1000, .inl (nIf fr))), (oT, .inl (cI, 1000, .inl (nIf tt))), (oC, .inl (cJ, 1000, .inr (.inl (lNf ct)))), (oB, .inl (cI, 40000, .inl (nIf tb))), (oM, .inl (cI, 200, .inl (nIf mn))), (oN, .inl (cI, 200, .inl (oIf co))), (oY, .inl (cI, 200, .inl (nIf z0.2.2.1))), (oP, .inl (cZ, 200, .inl (bIf z0.2.2.2)))] H ∧ va_D A [(o, .inr (4, [.int (nI n), .ref oh, .int (nI kn), .ref oF, .ref oT, .ref oC, .ref oL, .int (bI ik), .ref oB, .ref oM, .ref oN, .ref oY, .ref oZ, .int (nI hs), .int (bI ib), .ref oK, .ref oP, .ref oA])), (oh, .inl (cZ, 200, .inl (bIf hot))), (oF, .inl (cI, 1000, .inl (nIf fr))), (oT, .inl (cI, 1000, .inl (nIf tt))), (oC, .inl (cJ, 1000, .inr (.inl (lNf ct)))), (oB, .inl (cI, 40000, .inl (nIf tb))), (oM, .inl (cI, 200, .inl (nIf mn))), (oN, .inl (cI, 200, .inl (oIf co))), (oY, .inl (cI, 200, .inl (nIf z0.2.2.1))), (oP, .inl (cZ, 200, .inl (bIf z0.2.2.2)))] ∧ va_S A s.heap H locs ∧ lv_has ls 8 [(0, .ref o), (1, .int (nI z0.2.1)), (2, .int (nI c0)), (5, .int (nI z0.1))]) ?_ (0, n1, bc1, ip1) ⟨⟨Nat.zero_le _, PD_0 hi_25⟩, hP.sub [0, 1, 2, 3, 4, 5, 6, 7, 8, 9] rfl, hD.sub [0, 1, 2, 3, 4, 5, 6, 7, 8, 9] (by decide) rfl, hS, lv_sub hl [1, 2, 3, 0] rfl⟩
        rintro ⟨i, n2, bc2, ip2⟩ H locs ls ⟨hi_136, hP, hD, hS, hl⟩ ih_136
        have hi_136 : i ≤ (T c0).length ∧ PD T n c0 P i n2 bc2 ip2 := hi_136
        have hP : va_P D vwCl [(o, .inr (4, [.int (nI n), .ref oh, .int (nI kn), .ref oF, .ref oT, .ref oC, .ref oL, .int (bI ik), .ref oB, .ref oM, .ref oN, .ref oY, .ref oZ, .int (nI hs), .int (bI ib), .ref oK, .ref oP, .ref oA])), (oh, .inl (cZ, 200, .inl (bIf hot))), (oF, .inl (cI, 1000, .inl (nIf fr))), (oT, .inl (cI, 1000, .inl (nIf tt))), (oC, .inl (cJ, 1000, .inr (.inl (lNf ct)))), (oB, .inl (cI, 40000, .inl (nIf tb))), (oM, .inl (cI, 200, .inl (nIf mn))), (oN, .inl (cI, 200, .inl (oIf co))), (oY, .inl (cI, 200, .inl (nIf bc2))), (oP, .inl (cZ, 200, .inl (bIf ip2)))] H := hP
        have hD : va_D A [(o, .inr (4, [.int (nI n), .ref oh, .int (nI kn), .ref oF, .ref oT, .ref oC, .ref oL, .int (bI ik), .ref oB, .ref oM, .ref oN, .ref oY, .ref oZ, .int (nI hs), .int (bI ib), .ref oK, .ref oP, .ref oA])), (oh, .inl (cZ, 200, .inl (bIf hot))), (oF, .inl (cI, 1000, .inl (nIf fr))), (oT, .inl (cI, 1000, .inl (nIf tt))), (oC, .inl (cJ, 1000, .inr (.inl (lNf ct)))), (oB, .inl (cI, 40000, .inl (nIf tb))), (oM, .inl (cI, 200, .inl (nIf mn))), (oN, .inl (cI, 200, .inl (oIf co))), (oY, .inl (cI, 200, .inl (nIf bc2))), (oP, .inl (cZ, 200, .inl (bIf ip2)))] := hD
        have hl : lv_has ls 8 [(0, .ref o), (1, .int (nI n2)), (2, .int (nI c0)), (5, .int (nI i))] := hl
        obtain ⟨hi_e, hi_D⟩ := id hi_136
        have hn2 := hi_D.1
        have hmc := hMR.2.1 c0 hc0
        refine lv_iload hx hb dX4_place_136 (lv_at hl 3 rfl) ?_
        refine lv_aload_n hx hb dX4_place_138 rfl (lv_at hl 0 rfl) ?_
        refine va_get (D := D) (ci := 4) (v := .ref oM) (C := RX4) (T := TX4) (N := 18) hx hb hts in_X4_place_X4 hown hE.1 hP 0 rfl rfl 9 (by decide) (hts _ fl_X4_place_35) (fun _ h9 => h9) rfl dX4_place_139 ?_
        refine lv_iload_n hx hb dX4_place_142 rfl (lv_at hl 2 rfl) ?_
        refine r_nld hx hb hE hP 6 rfl (k := c0) (by omega) (by decide) dX4_place_143 ?_
        refine r_icmp_ge (tgt := 187) hx hb (x := i) (y := mn c0) (by omega) (by omega) dX4_place_144 (by decide) (fun c_144 => ?_) (fun c_144 => ?_)
        · skip
          have hdone : (T c0).length = i := by omega
          refine lv_goto (tgt := 25) hx hb dX4_place_187 (by decide) ?_
          exact ih_25 (n2, P ++ T c0, bc2, ip2) _ _ _ ⟨(show PB (wl kn (pk fr tt ct fa)) T (hbL n hot) (placeF (wl kn (pk fr tt ct fa)) T (hbL n hot) 200 []) n n2 (P ++ T c0) bc2 ip2 from PB_go hi_25 hT hcv hlt hbc2 hi_D hdone), hP.sub [0, 1, 2, 3, 4, 5, 6, 7, 8, 9] rfl, hD.sub [0, 1, 2, 3, 4, 5, 6, 7, 8, 9] (by decide) rfl, hS, lv_sub hl [0, 1] rfl⟩ (by show (hbL n hot).length - ((P ++ T c0)).length < (hbL n hot).length - P.length; rw [List.length_append]; have := hi_25.1; have := List.length_pos_of_mem hcT; omega)
        · skip
          have hx9 : (T c0)[i]? = some ((T c0)[i]'(by omega)) := List.getElem?_eq_getElem (by omega)
          obtain ⟨x9, ex9⟩ : ∃ z, z = (T c0)[i]'(by omega) := ⟨_, rfl⟩
          rw [← ex9] at hx9
          have hg9 := hMR.2.2 c0 i x9 hx9
          have hx200 := hT.1 c0 x9 (List.mem_of_getElem? hx9)
          refine lv_aload_n hx hb dX4_place_147 rfl (lv_at hl 0 rfl) ?_
          refine va_get (D := D) (ci := 4) (v := .ref oY) (C := RX4) (T := TX4) (N := 18) hx hb hts in_X4_place_X4 hown hE.1 hP 0 rfl rfl 11 (by decide) (hts _ fl_X4_place_41) (fun _ h9 => h9) rfl dX4_place_148 ?_
          refine lv_iload_n hx hb dX4_place_151 rfl (lv_at hl 1 rfl) ?_
          refine lv_aload_n hx hb dX4_place_152 rfl (lv_at hl 0 rfl) ?_
          refine va_get (D := D) (ci := 4) (v := .ref oB) (C := RX4) (T := TX4) (N := 18) hx hb hts in_X4_place_X4 hown hE.1 hP 0 rfl rfl 8 (by decide) (hts _ fl_X4_place_32) (fun _ h9 => h9) rfl dX4_place_153 ?_
          refine lv_sipush (v := nI 200) hx hb dX4_place_156 (by decide) ?_
          refine lv_iload_n hx hb dX4_place_159 rfl (lv_at hl 2 rfl) ?_
          refine r_imul hx hb dX4_place_160 ?_
          refine lv_iload hx hb dX4_place_161 (lv_at hl 3 rfl) ?_
          refine r_iadd hx hb dX4_place_163 ?_
          refine r_nld hx hb hE hP 5 rfl (k := (200 * c0) + i) (by omega) (by decide) dX4_place_164 ?_
          refine r_as (w := .int (nI x9)) (by rw [hg9]) ?_
          refine r_nst hx hb hE hP hD hS 8 rfl (k := n2) (x := x9) (by omega) (by decide) dX4_place_165 (fun H locs hP hD hS => ?_)
          have hP : va_P D vwCl [(o, .inr (4, [.int (nI n), .ref oh, .int (nI kn), .ref oF, .ref oT, .ref oC, .ref oL, .int (bI ik), .ref oB, .ref oM, .ref oN, .ref oY, .ref oZ, .int (nI hs), .int (bI ib), .ref oK, .ref oP, .ref oA])), (oh, .inl (cZ, 200, .inl (bIf hot))), (oF, .inl (cI, 1000, .inl (nIf fr))), (oT, .inl (cI, 1000, .inl (nIf tt))), (oC, .inl (cJ, 1000, .inr (.inl (lNf ct)))), (oB, .inl (cI, 40000, .inl (nIf tb))), (oM, .inl (cI, 200, .inl (nIf mn))), (oN, .inl (cI, 200, .inl (oIf co))), (oY, .inl (cI, 200, .inl (nIf (va_up bc2 n2 x9)))), (oP, .inl (cZ, 200, .inl (bIf ip2)))] H := hP
          have hD : va_D A [(o, .inr (4, [.int (nI n), .ref oh, .int (nI kn), .ref oF, .ref oT, .ref oC, .ref oL, .int (bI ik), .ref oB, .ref oM, .ref oN, .ref oY, .ref oZ, .int (nI hs), .int (bI ib), .ref oK, .ref oP, .ref oA])), (oh, .inl (cZ, 200, .inl (bIf hot))), (oF, .inl (cI, 1000, .inl (nIf fr))), (oT, .inl (cI, 1000, .inl (nIf tt))), (oC, .inl (cJ, 1000, .inr (.inl (lNf ct)))), (oB, .inl (cI, 40000, .inl (nIf tb))), (oM, .inl (cI, 200, .inl (nIf mn))), (oN, .inl (cI, 200, .inl (oIf co))), (oY, .inl (cI, 200, .inl (nIf (va_up bc2 n2 x9)))), (oP, .inl (cZ, 200, .inl (bIf ip2)))] := hD
          refine lv_aload_n hx hb dX4_place_166 rfl (lv_at hl 0 rfl) ?_
          refine va_get (D := D) (ci := 4) (v := .ref oP) (C := RX4) (T := TX4) (N := 18) hx hb hts in_X4_place_X4 hown hE.1 hP 0 rfl rfl 16 (by decide) (hts _ fl_X4_place_50) (fun _ h9 => h9) rfl dX4_place_167 ?_
          refine lv_aload_n hx hb dX4_place_170 rfl (lv_at hl 0 rfl) ?_
          refine va_get (D := D) (ci := 4) (v := .ref oY) (C := RX4) (T := TX4) (N := 18) hx hb hts in_X4_place_X4 hown hE.1 hP 0 rfl rfl 11 (by decide) (hts _ fl_X4_place_41) (fun _ h9 => h9) rfl dX4_place_171 ?_
          refine lv_iload_n hx hb dX4_place_174 rfl (lv_at hl 1 rfl) ?_
          refine r_nld hx hb hE hP 8 rfl (k := n2) (by omega) (by decide) dX4_place_175 ?_
          refine r_as (w := .int (nI x9)) (by rw [va_up_self]) ?_
          refine lv_iconst (v := bI true) hx hb dX4_place_176 (by decide) ?_
          refine r_bst hx hb hE hP hD hS 9 rfl (k := x9) true rfl (by omega) (by decide) dX4_place_177 (fun H locs hP hD hS => ?_)
          have hP : va_P D vwCl [(o, .inr (4, [.int (nI n), .ref oh, .int (nI kn), .ref oF, .ref oT, .ref oC, .ref oL, .int (bI ik), .ref oB, .ref oM, .ref oN, .ref oY, .ref oZ, .int (nI hs), .int (bI ib), .ref oK, .ref oP, .ref oA])), (oh, .inl (cZ, 200, .inl (bIf hot))), (oF, .inl (cI, 1000, .inl (nIf fr))), (oT, .inl (cI, 1000, .inl (nIf tt))), (oC, .inl (cJ, 1000, .inr (.inl (lNf ct)))), (oB, .inl (cI, 40000, .inl (nIf tb))), (oM, .inl (cI, 200, .inl (nIf mn))), (oN, .inl (cI, 200, .inl (oIf co))), (oY, .inl (cI, 200, .inl (nIf (va_up bc2 n2 x9)))), (oP, .inl (cZ, 200, .inl (bIf (va_up ip2 x9 true))))] H := hP
          have hD : va_D A [(o, .inr (4, [.int (nI n), .ref oh, .int (nI kn), .ref oF, .ref oT, .ref oC, .ref oL, .int (bI ik), .ref oB, .ref oM, .ref oN, .ref oY, .ref oZ, .int (nI hs), .int (bI ib), .ref oK, .ref oP, .ref oA])), (oh, .inl (cZ, 200, .inl (bIf hot))), (oF, .inl (cI, 1000, .inl (nIf fr))), (oT, .inl (cI, 1000, .inl (nIf tt))), (oC, .inl (cJ, 1000, .inr (.inl (lNf ct)))), (oB, .inl (cI, 40000, .inl (nIf tb))), (oM, .inl (cI, 200, .inl (nIf mn))), (oN, .inl (cI, 200, .inl (oIf co))), (oY, .inl (cI, 200, .inl (nIf (va_up bc2 n2 x9)))), (oP, .inl (cZ, 200, .inl (bIf (va_up ip2 x9 true))))] := hD
          refine lv_iinc (v := (nI (n2 + 1))) (lv' := [(1, .int (nI (n2 + 1))), (0, .ref o), (2, .int (nI c0)), (5, .int (nI i))]) hx hb dX4_place_178 hl (k := 1) rfl (nI_1 _) (by decide) rfl (fun ls hl => ?_)
          refine lv_iinc (v := (nI (i + 1))) (lv' := [(5, .int (nI (i + 1))), (1, .int (nI (n2 + 1))), (0, .ref o), (2, .int (nI c0))]) hx hb dX4_place_181 hl (k := 3) rfl (nI_1 _) (by decide) rfl (fun ls hl => ?_)
          refine lv_goto (tgt := 136) hx hb dX4_place_184 (by decide) ?_
          exact ih_136 (i + 1, n2 + 1, va_up bc2 n2 x9, va_up ip2 x9 true) _ _ _ ⟨(show (i + 1) ≤ (T c0).length ∧ PD T n c0 P ((i + 1)) (n2 + 1) (va_up bc2 n2 x9) (va_up ip2 x9 true) from ⟨by omega, PD_step hi_D hx9⟩), hP.sub [0, 1, 2, 3, 4, 5, 6, 7, 8, 9] rfl, hD.sub [0, 1, 2, 3, 4, 5, 6, 7, 8, 9] (by decide) rfl, hS, lv_sub hl [2, 1, 3, 0] rfl⟩ (by show (T c0).length - (i + 1) < (T c0).length - i; omega)
      · skip
        have hk200 : k < 200 := by omega
        refine lv_aload_n hx hb dX4_place_51 rfl (lv_at hl 0 rfl) ?_
        refine va_get (D := D) (ci := 4) (v := .ref oh) (C := RX4) (T := TX4) (N := 18) hx hb hts in_X4_place_X4 hown hE.1 hP 0 rfl rfl 1 (by decide) (hts _ fl_X4_place_13) (fun _ h9 => h9) rfl dX4_place_52 ?_
        refine lv_iload hx hb dX4_place_55 (lv_at hl 4 rfl) ?_
        refine r_bld hx hb hE hP 1 rfl (k := k) (by omega) (by decide) dX4_place_57 ?_
        refine r_b_eq (tgt := 127) hx hb dX4_place_58 (by decide) (fun c_58 => ?_) (fun c_58 => ?_)
        · skip
          have hbe : bestK (wl kn (pk fr tt ct fa)) T P hot (k + 1) = (bestK (wl kn (pk fr tt ct fa)) T P hot k) := bk_cold c_58
          have hl : lv_has ls 8 [(0, .ref o), (1, .int (nI n1)), (2, .int (oI (bestK (wl kn (pk fr tt ct fa)) T P hot (k + 1)))), (3, .long ((mostV (wl kn (pk fr tt ct fa)) T P (bestK (wl kn (pk fr tt ct fa)) T P hot (k + 1))))), (5, .int (nI k))] := by rw [hbe]; exact hl
          refine lv_iinc (v := (nI (k + 1))) (lv' := [(5, .int (nI (k + 1))), (0, .ref o), (1, .int (nI n1)), (2, .int (oI (bestK (wl kn (pk fr tt ct fa)) T P hot (k + 1)))), (3, .long ((mostV (wl kn (pk fr tt ct fa)) T P (bestK (wl kn (pk fr tt ct fa)) T P hot (k + 1)))))]) hx hb dX4_place_127 hl (k := 4) rfl (nI_1 _) (by decide) rfl (fun ls hl => ?_)
          refine lv_goto (tgt := 42) hx hb dX4_place_130 (by decide) ?_
          exact ih_42 (k + 1) _ _ _ ⟨(show (k + 1) ≤ n from by omega), hP.sub [0, 1, 2, 3, 4, 5, 6, 7, 8, 9] rfl, hD.sub [0, 1, 2, 3, 4, 5, 6, 7, 8, 9] (by decide) rfl, hS, lv_sub hl [1, 2, 3, 4, 0] rfl⟩ (by show n - (k + 1) < n - k; omega)
        · skip
          have hkH : k ∈ (hbL n hot) := hbL_mem.mpr ⟨c_48, c_58⟩
          obtain ⟨d, hdT⟩ := (hcv k).mp hkH
          have hdn : nameT T k = some d := (name_iff hT).mpr hdT
          have hd : co k = some d := by rw [hMR.1 k c_48]; exact hdn
          have hd200 := hT.lt hdT
          have hipk := hi_25.2.2.2.2.2.1 k c_48
          refine lv_aload_n hx hb dX4_place_61 rfl (lv_at hl 0 rfl) ?_
          refine va_get (D := D) (ci := 4) (v := .ref oP) (C := RX4) (T := TX4) (N := 18) hx hb hts in_X4_place_X4 hown hE.1 hP 0 rfl rfl 16 (by decide) (hts _ fl_X4_place_50) (fun _ h9 => h9) rfl dX4_place_62 ?_
          refine lv_iload hx hb dX4_place_65 (lv_at hl 4 rfl) ?_
          refine r_bld hx hb hE hP 9 rfl (k := k) (by omega) (by decide) dX4_place_67 ?_
          refine r_b_ne (tgt := 127) hx hb dX4_place_68 (by decide) (fun c_68 => ?_) (fun c_68 => ?_)
          · skip
            have hbe : bestK (wl kn (pk fr tt ct fa)) T P hot (k + 1) = (bestK (wl kn (pk fr tt ct fa)) T P hot k) := by rw [bk_hot c_58, bs_in (by rw [hipk] at c_68; exact of_decide_eq_true c_68)]
            have hl : lv_has ls 8 [(0, .ref o), (1, .int (nI n1)), (2, .int (oI (bestK (wl kn (pk fr tt ct fa)) T P hot (k + 1)))), (3, .long ((mostV (wl kn (pk fr tt ct fa)) T P (bestK (wl kn (pk fr tt ct fa)) T P hot (k + 1))))), (5, .int (nI k))] := by rw [hbe]; exact hl
            refine lv_iinc (v := (nI (k + 1))) (lv' := [(5, .int (nI (k + 1))), (0, .ref o), (1, .int (nI n1)), (2, .int (oI (bestK (wl kn (pk fr tt ct fa)) T P hot (k + 1)))), (3, .long ((mostV (wl kn (pk fr tt ct fa)) T P (bestK (wl kn (pk fr tt ct fa)) T P hot (k + 1)))))]) hx hb dX4_place_127 hl (k := 4) rfl (nI_1 _) (by decide) rfl (fun ls hl => ?_)
            refine lv_goto (tgt := 42) hx hb dX4_place_130 (by decide) ?_
            exact ih_42 (k + 1) _ _ _ ⟨(show (k + 1) ≤ n from by omega), hP.sub [0, 1, 2, 3, 4, 5, 6, 7, 8, 9] rfl, hD.sub [0, 1, 2, 3, 4, 5, 6, 7, 8, 9] (by decide) rfl, hS, lv_sub hl [1, 2, 3, 4, 0] rfl⟩ (by show n - (k + 1) < n - k; omega)
          · skip
            have hkP : k ∉ P := by rw [hipk] at c_68; exact of_decide_eq_false c_68
            have hbb : ∀ j, bestK (wl kn (pk fr tt ct fa)) T P hot k = some j → j < 200 := fun j hj => by obtain ⟨b, hb1, hb2, hb3⟩ := best_ex (HB := hbL k hot) hT hj; exact hT.lt hb3
            refine lv_iload_n hx hb dX4_place_71 rfl (lv_at hl 2 rfl) ?_
            refine lv_aload_n hx hb dX4_place_72 rfl (lv_at hl 0 rfl) ?_
            refine va_get (D := D) (ci := 4) (v := .ref oN) (C := RX4) (T := TX4) (N := 18) hx hb hts in_X4_place_X4 hown hE.1 hP 0 rfl rfl 10 (by decide) (hts _ fl_X4_place_38) (fun _ h9 => h9) rfl dX4_place_73 ?_
            refine lv_iload hx hb dX4_place_76 (lv_at hl 4 rfl) ?_
            refine r_old hx hb hE hP 7 rfl (k := k) (by omega) (by decide) dX4_place_78 ?_
            refine r_o_ne (tgt := 85) hx hb (o := bestK (wl kn (pk fr tt ct fa)) T P hot k) (q := co k) rfl rfl (fun j hj => by have := hbb j hj; omega) (fun j hj => by rw [hd] at hj; cases hj; omega) dX4_place_79 (by decide) (fun c_79 => ?_) (fun c_79 => ?_)
            · skip
              refine lv_iload_n hx hb dX4_place_85 rfl (lv_at hl 1 rfl) ?_
              refine r_if_ne (tgt := 93) hx hb (x := n1) (by omega) dX4_place_86 (by decide) (fun c_86 => ?_) (fun c_86 => ?_)
              · skip
                refine lv_aload_n hx hb dX4_place_93 rfl (lv_at hl 0 rfl) ?_
                refine lv_aload_n hx hb dX4_place_94 rfl (lv_at hl 0 rfl) ?_
                refine va_get (D := D) (ci := 4) (v := .ref oN) (C := RX4) (T := TX4) (N := 18) hx hb hts in_X4_place_X4 hown hE.1 hP 0 rfl rfl 10 (by decide) (hts _ fl_X4_place_38) (fun _ h9 => h9) rfl dX4_place_95 ?_
                refine lv_iload hx hb dX4_place_98 (lv_at hl 4 rfl) ?_
                refine r_old hx hb hE hP 7 rfl (k := k) (by omega) (by decide) dX4_place_100 ?_
                refine r_as (w := .int (nI d)) (by rw [hd]; rfl) ?_
                refine callRl (As := [.int (nI d)]) (rest := []) ⟨hx, hb, hml, hown, hts⟩ (k_sum l D cI cJ cZ o oh oF oT oC oL oB oM oN oY oZ oK oP oA n kn hs ik ib fr tt ct fa co ip1 T P hT hn hkn hBn hMR.1 hi_25.2.2.2.2.2.1 d hd200) (cwV 1 hts gX4_place_X4_sum rfl rfl rfl (by decide +kernel) ⟨Nat.le_of_ble_eq_true rfl, Nat.le_of_ble_eq_true rfl⟩) (preR hE hP 4 0 rfl rfl rfl [0, 2, 3, 4, 7, 9] rfl) rfl hl.1 (Nat.le_of_ble_eq_true rfl) dX4_place_101 ⟨Nat.zero_le _, Nat.zero_le _⟩ rfl (fun r_101 hr_101 => ?_)
                subst hr_101
                refine lv_lstore (lv' := [(6, .long (lN (pullS (wl kn (pk fr tt ct fa)) T P d))), (0, .ref o), (1, .int (nI n1)), (2, .int (oI (bestK (wl kn (pk fr tt ct fa)) T P hot k))), (3, .long ((mostV (wl kn (pk fr tt ct fa)) T P (bestK (wl kn (pk fr tt ct fa)) T P hot k)))), (5, .int (nI k))]) hx hb dX4_place_104 hl (by decide) rfl (fun ls hl => ?_)
                refine lv_lload hx hb dX4_place_106 (lv_at hl 0 rfl) ?_
                refine lv_lload_n hx hb dX4_place_108 rfl (lv_at hl 4 rfl) ?_
                refine r_most (tgt := 116) hx hb (o := bestK (wl kn (pk fr tt ct fa)) T P hot k) (x := pullS (wl kn (pk fr tt ct fa)) T P d) (hLb _ _ _) hLb dX4_place_109 dX4_place_110 (by decide) (fun c_109 => ?_) (fun c_109 => ?_)
                · skip
                  refine lv_aload_n hx hb dX4_place_116 rfl (lv_at hl 1 rfl) ?_
                  refine va_get (D := D) (ci := 4) (v := .ref oN) (C := RX4) (T := TX4) (N := 18) hx hb hts in_X4_place_X4 hown hE.1 hP 0 rfl rfl 10 (by decide) (hts _ fl_X4_place_38) (fun _ h9 => h9) rfl dX4_place_117 ?_
                  refine lv_iload hx hb dX4_place_120 (lv_at hl 5 rfl) ?_
                  refine r_old hx hb hE hP 7 rfl (k := k) (by omega) (by decide) dX4_place_122 ?_
                  refine r_as (w := .int (oI (some d))) (by rw [hd]) ?_
                  refine lv_istore_n (lv' := [(2, .int (oI (some d))), (6, .long (lN (pullS (wl kn (pk fr tt ct fa)) T P d))), (0, .ref o), (1, .int (nI n1)), (3, .long ((mostV (wl kn (pk fr tt ct fa)) T P (bestK (wl kn (pk fr tt ct fa)) T P hot k)))), (5, .int (nI k))]) hx hb dX4_place_123 rfl hl (by decide) rfl (fun ls hl => ?_)
                  refine lv_lload hx hb dX4_place_124 (lv_at hl 1 rfl) ?_
                  refine lv_lstore_n (lv' := [(3, .long (lN (pullS (wl kn (pk fr tt ct fa)) T P d))), (2, .int (oI (some d))), (6, .long (lN (pullS (wl kn (pk fr tt ct fa)) T P d))), (0, .ref o), (1, .int (nI n1)), (5, .int (nI k))]) hx hb dX4_place_126 rfl hl (by decide) rfl (fun ls hl => ?_)
                  have hbe : bestK (wl kn (pk fr tt ct fa)) T P hot (k + 1) = some d := by rw [bk_hot c_58]; exact bs_take hkP hdn c_109
                  have hl : lv_has ls 8 [(3, .long ((mostV (wl kn (pk fr tt ct fa)) T P (bestK (wl kn (pk fr tt ct fa)) T P hot (k + 1))))), (2, .int (oI (bestK (wl kn (pk fr tt ct fa)) T P hot (k + 1)))), (6, .long (lN (pullS (wl kn (pk fr tt ct fa)) T P d))), (0, .ref o), (1, .int (nI n1)), (5, .int (nI k))] := by rw [hbe]; exact hl
                  refine lv_iinc (v := (nI (k + 1))) (lv' := [(5, .int (nI (k + 1))), (3, .long ((mostV (wl kn (pk fr tt ct fa)) T P (bestK (wl kn (pk fr tt ct fa)) T P hot (k + 1))))), (2, .int (oI (bestK (wl kn (pk fr tt ct fa)) T P hot (k + 1)))), (6, .long (lN (pullS (wl kn (pk fr tt ct fa)) T P d))), (0, .ref o), (1, .int (nI n1))]) hx hb dX4_place_127 hl (k := 5) rfl (nI_1 _) (by decide) rfl (fun ls hl => ?_)
                  refine lv_goto (tgt := 42) hx hb dX4_place_130 (by decide) ?_
                  exact ih_42 (k + 1) _ _ _ ⟨(show (k + 1) ≤ n from by omega), hP.sub [0, 1, 2, 3, 4, 5, 6, 7, 8, 9] rfl, hD.sub [0, 1, 2, 3, 4, 5, 6, 7, 8, 9] (by decide) rfl, hS, lv_sub hl [4, 5, 2, 1, 0] rfl⟩ (by show n - (k + 1) < n - k; omega)
                · skip
                  refine lv_goto (tgt := 127) hx hb dX4_place_113 (by decide) ?_
                  have hbe : bestK (wl kn (pk fr tt ct fa)) T P hot (k + 1) = (bestK (wl kn (pk fr tt ct fa)) T P hot k) := by obtain ⟨c9, hc9, hle⟩ := c_109; rw [bk_hot c_58, hc9, bs_keep hkP hdn hle]
                  have hl : lv_has ls 8 [(6, .long (lN (pullS (wl kn (pk fr tt ct fa)) T P d))), (0, .ref o), (1, .int (nI n1)), (2, .int (oI (bestK (wl kn (pk fr tt ct fa)) T P hot (k + 1)))), (3, .long ((mostV (wl kn (pk fr tt ct fa)) T P (bestK (wl kn (pk fr tt ct fa)) T P hot (k + 1))))), (5, .int (nI k))] := by rw [hbe]; exact hl
                  refine lv_iinc (v := (nI (k + 1))) (lv' := [(5, .int (nI (k + 1))), (6, .long (lN (pullS (wl kn (pk fr tt ct fa)) T P d))), (0, .ref o), (1, .int (nI n1)), (2, .int (oI (bestK (wl kn (pk fr tt ct fa)) T P hot (k + 1)))), (3, .long ((mostV (wl kn (pk fr tt ct fa)) T P (bestK (wl kn (pk fr tt ct fa)) T P hot (k + 1)))))]) hx hb dX4_place_127 hl (k := 5) rfl (nI_1 _) (by decide) rfl (fun ls hl => ?_)
                  refine lv_goto (tgt := 42) hx hb dX4_place_130 (by decide) ?_
                  exact ih_42 (k + 1) _ _ _ ⟨(show (k + 1) ≤ n from by omega), hP.sub [0, 1, 2, 3, 4, 5, 6, 7, 8, 9] rfl, hD.sub [0, 1, 2, 3, 4, 5, 6, 7, 8, 9] (by decide) rfl, hS, lv_sub hl [2, 3, 4, 5, 0] rfl⟩ (by show n - (k + 1) < n - k; omega)
              · skip
                refine lv_lconst (v := lN 0) hx hb dX4_place_89 (by decide) ?_
                refine lv_goto (tgt := 104) hx hb dX4_place_90 (by decide) ?_
                have hP0 : P = [] := List.length_eq_zero_iff.mp (by omega)
                refine r_as (w := .long (lN (pullS (wl kn (pk fr tt ct fa)) T P d))) (by rw [hP0, pullS_nil]) ?_
                refine lv_lstore (lv' := [(6, .long (lN (pullS (wl kn (pk fr tt ct fa)) T P d))), (0, .ref o), (1, .int (nI n1)), (2, .int (oI (bestK (wl kn (pk fr tt ct fa)) T P hot k))), (3, .long ((mostV (wl kn (pk fr tt ct fa)) T P (bestK (wl kn (pk fr tt ct fa)) T P hot k)))), (5, .int (nI k))]) hx hb dX4_place_104 hl (by decide) rfl (fun ls hl => ?_)
                refine lv_lload hx hb dX4_place_106 (lv_at hl 0 rfl) ?_
                refine lv_lload_n hx hb dX4_place_108 rfl (lv_at hl 4 rfl) ?_
                refine r_most (tgt := 116) hx hb (o := bestK (wl kn (pk fr tt ct fa)) T P hot k) (x := pullS (wl kn (pk fr tt ct fa)) T P d) (hLb _ _ _) hLb dX4_place_109 dX4_place_110 (by decide) (fun c_109 => ?_) (fun c_109 => ?_)
                · skip
                  refine lv_aload_n hx hb dX4_place_116 rfl (lv_at hl 1 rfl) ?_
                  refine va_get (D := D) (ci := 4) (v := .ref oN) (C := RX4) (T := TX4) (N := 18) hx hb hts in_X4_place_X4 hown hE.1 hP 0 rfl rfl 10 (by decide) (hts _ fl_X4_place_38) (fun _ h9 => h9) rfl dX4_place_117 ?_
                  refine lv_iload hx hb dX4_place_120 (lv_at hl 5 rfl) ?_
                  refine r_old hx hb hE hP 7 rfl (k := k) (by omega) (by decide) dX4_place_122 ?_
                  refine r_as (w := .int (oI (some d))) (by rw [hd]) ?_
                  refine lv_istore_n (lv' := [(2, .int (oI (some d))), (6, .long (lN (pullS (wl kn (pk fr tt ct fa)) T P d))), (0, .ref o), (1, .int (nI n1)), (3, .long ((mostV (wl kn (pk fr tt ct fa)) T P (bestK (wl kn (pk fr tt ct fa)) T P hot k)))), (5, .int (nI k))]) hx hb dX4_place_123 rfl hl (by decide) rfl (fun ls hl => ?_)
                  refine lv_lload hx hb dX4_place_124 (lv_at hl 1 rfl) ?_
                  refine lv_lstore_n (lv' := [(3, .long (lN (pullS (wl kn (pk fr tt ct fa)) T P d))), (2, .int (oI (some d))), (6, .long (lN (pullS (wl kn (pk fr tt ct fa)) T P d))), (0, .ref o), (1, .int (nI n1)), (5, .int (nI k))]) hx hb dX4_place_126 rfl hl (by decide) rfl (fun ls hl => ?_)
                  have hbe : bestK (wl kn (pk fr tt ct fa)) T P hot (k + 1) = some d := by rw [bk_hot c_58]; exact bs_take hkP hdn c_109
                  have hl : lv_has ls 8 [(3, .long ((mostV (wl kn (pk fr tt ct fa)) T P (bestK (wl kn (pk fr tt ct fa)) T P hot (k + 1))))), (2, .int (oI (bestK (wl kn (pk fr tt ct fa)) T P hot (k + 1)))), (6, .long (lN (pullS (wl kn (pk fr tt ct fa)) T P d))), (0, .ref o), (1, .int (nI n1)), (5, .int (nI k))] := by rw [hbe]; exact hl
                  refine lv_iinc (v := (nI (k + 1))) (lv' := [(5, .int (nI (k + 1))), (3, .long ((mostV (wl kn (pk fr tt ct fa)) T P (bestK (wl kn (pk fr tt ct fa)) T P hot (k + 1))))), (2, .int (oI (bestK (wl kn (pk fr tt ct fa)) T P hot (k + 1)))), (6, .long (lN (pullS (wl kn (pk fr tt ct fa)) T P d))), (0, .ref o), (1, .int (nI n1))]) hx hb dX4_place_127 hl (k := 5) rfl (nI_1 _) (by decide) rfl (fun ls hl => ?_)
                  refine lv_goto (tgt := 42) hx hb dX4_place_130 (by decide) ?_
                  exact ih_42 (k + 1) _ _ _ ⟨(show (k + 1) ≤ n from by omega), hP.sub [0, 1, 2, 3, 4, 5, 6, 7, 8, 9] rfl, hD.sub [0, 1, 2, 3, 4, 5, 6, 7, 8, 9] (by decide) rfl, hS, lv_sub hl [4, 5, 2, 1, 0] rfl⟩ (by show n - (k + 1) < n - k; omega)
                · skip
                  refine lv_goto (tgt := 127) hx hb dX4_place_113 (by decide) ?_
                  have hbe : bestK (wl kn (pk fr tt ct fa)) T P hot (k + 1) = (bestK (wl kn (pk fr tt ct fa)) T P hot k) := by obtain ⟨c9, hc9, hle⟩ := c_109; rw [bk_hot c_58, hc9, bs_keep hkP hdn hle]
                  have hl : lv_has ls 8 [(6, .long (lN (pullS (wl kn (pk fr tt ct fa)) T P d))), (0, .ref o), (1, .int (nI n1)), (2, .int (oI (bestK (wl kn (pk fr tt ct fa)) T P hot (k + 1)))), (3, .long ((mostV (wl kn (pk fr tt ct fa)) T P (bestK (wl kn (pk fr tt ct fa)) T P hot (k + 1))))), (5, .int (nI k))] := by rw [hbe]; exact hl
                  refine lv_iinc (v := (nI (k + 1))) (lv' := [(5, .int (nI (k + 1))), (6, .long (lN (pullS (wl kn (pk fr tt ct fa)) T P d))), (0, .ref o), (1, .int (nI n1)), (2, .int (oI (bestK (wl kn (pk fr tt ct fa)) T P hot (k + 1)))), (3, .long ((mostV (wl kn (pk fr tt ct fa)) T P (bestK (wl kn (pk fr tt ct fa)) T P hot (k + 1)))))]) hx hb dX4_place_127 hl (k := 5) rfl (nI_1 _) (by decide) rfl (fun ls hl => ?_)
                  refine lv_goto (tgt := 42) hx hb dX4_place_130 (by decide) ?_
                  exact ih_42 (k + 1) _ _ _ ⟨(show (k + 1) ≤ n from by omega), hP.sub [0, 1, 2, 3, 4, 5, 6, 7, 8, 9] rfl, hD.sub [0, 1, 2, 3, 4, 5, 6, 7, 8, 9] (by decide) rfl, hS, lv_sub hl [2, 3, 4, 5, 0] rfl⟩ (by show n - (k + 1) < n - k; omega)
            · skip
              refine lv_goto (tgt := 127) hx hb dX4_place_82 (by decide) ?_
              have hbe : bestK (wl kn (pk fr tt ct fa)) T P hot (k + 1) = (bestK (wl kn (pk fr tt ct fa)) T P hot k) := by rw [bk_hot c_58, c_79, hd, bs_same hkP hdn]
              have hl : lv_has ls 8 [(0, .ref o), (1, .int (nI n1)), (2, .int (oI (bestK (wl kn (pk fr tt ct fa)) T P hot (k + 1)))), (3, .long ((mostV (wl kn (pk fr tt ct fa)) T P (bestK (wl kn (pk fr tt ct fa)) T P hot (k + 1))))), (5, .int (nI k))] := by rw [hbe]; exact hl
              refine lv_iinc (v := (nI (k + 1))) (lv' := [(5, .int (nI (k + 1))), (0, .ref o), (1, .int (nI n1)), (2, .int (oI (bestK (wl kn (pk fr tt ct fa)) T P hot (k + 1)))), (3, .long ((mostV (wl kn (pk fr tt ct fa)) T P (bestK (wl kn (pk fr tt ct fa)) T P hot (k + 1)))))]) hx hb dX4_place_127 hl (k := 4) rfl (nI_1 _) (by decide) rfl (fun ls hl => ?_)
              refine lv_goto (tgt := 42) hx hb dX4_place_130 (by decide) ?_
              exact ih_42 (k + 1) _ _ _ ⟨(show (k + 1) ≤ n from by omega), hP.sub [0, 1, 2, 3, 4, 5, 6, 7, 8, 9] rfl, hD.sub [0, 1, 2, 3, 4, 5, 6, 7, 8, 9] (by decide) rfl, hS, lv_sub hl [1, 2, 3, 4, 0] rfl⟩ (by show n - (k + 1) < n - k; omega)
  · skip
    refine lv_aload_n hx hb dX4_place_10 rfl (lv_at hl 0 rfl) ?_
    refine va_get (D := D) (ci := 4) (v := .ref oP) (C := RX4) (T := TX4) (N := 18) hx hb hts in_X4_place_X4 hown hE.1 hP 0 rfl rfl 16 (by decide) (hts _ fl_X4_place_50) (fun _ h9 => h9) rfl dX4_place_11 ?_
    refine lv_iload_n hx hb dX4_place_14 rfl (lv_at hl 1 rfl) ?_
    refine lv_iconst (v := bI false) hx hb dX4_place_15 (by decide) ?_
    refine r_bst hx hb hE hP hD hS 9 rfl (k := k) false rfl (by omega) (by decide) dX4_place_16 (fun H locs hP hD hS => ?_)
    have hP : va_P D vwCl [(o, .inr (4, [.int (nI n), .ref oh, .int (nI kn), .ref oF, .ref oT, .ref oC, .ref oL, .int (bI ik), .ref oB, .ref oM, .ref oN, .ref oY, .ref oZ, .int (nI hs), .int (bI ib), .ref oK, .ref oP, .ref oA])), (oh, .inl (cZ, 200, .inl (bIf hot))), (oF, .inl (cI, 1000, .inl (nIf fr))), (oT, .inl (cI, 1000, .inl (nIf tt))), (oC, .inl (cJ, 1000, .inr (.inl (lNf ct)))), (oB, .inl (cI, 40000, .inl (nIf tb))), (oM, .inl (cI, 200, .inl (nIf mn))), (oN, .inl (cI, 200, .inl (oIf co))), (oY, .inl (cI, 200, .inl (nIf bc))), (oP, .inl (cZ, 200, .inl (bIf (va_up f k false))))] H := hP
    have hD : va_D A [(o, .inr (4, [.int (nI n), .ref oh, .int (nI kn), .ref oF, .ref oT, .ref oC, .ref oL, .int (bI ik), .ref oB, .ref oM, .ref oN, .ref oY, .ref oZ, .int (nI hs), .int (bI ib), .ref oK, .ref oP, .ref oA])), (oh, .inl (cZ, 200, .inl (bIf hot))), (oF, .inl (cI, 1000, .inl (nIf fr))), (oT, .inl (cI, 1000, .inl (nIf tt))), (oC, .inl (cJ, 1000, .inr (.inl (lNf ct)))), (oB, .inl (cI, 40000, .inl (nIf tb))), (oM, .inl (cI, 200, .inl (nIf mn))), (oN, .inl (cI, 200, .inl (oIf co))), (oY, .inl (cI, 200, .inl (nIf bc))), (oP, .inl (cZ, 200, .inl (bIf (va_up f k false))))] := hD
    refine lv_iinc (v := (nI (k + 1))) (lv' := [(1, .int (nI (k + 1))), (0, .ref o)]) hx hb dX4_place_17 hl (k := 1) rfl (nI_1 _) (by decide) rfl (fun ls hl => ?_)
    refine lv_goto (tgt := 2) hx hb dX4_place_20 (by decide) ?_
    exact ih_2 (k + 1, va_up f k false) _ _ _ ⟨(show (k + 1) ≤ n ∧ ∀ j, j < (k + 1) → (va_up f k false) j = false from ⟨by omega, lt_s (fun j hj => by rw [va_up_ne _ _ (by omega)]; exact hi_2.2 j hj) (by rw [va_up_self])⟩), hP.sub [0, 1, 2, 3, 4, 5, 6, 7, 8, 9] rfl, hD.sub [0, 1, 2, 3, 4, 5, 6, 7, 8, 9] (by decide) rfl, hS, lv_sub hl [1, 0] rfl⟩ (by show n - (k + 1) < n - k; omega)

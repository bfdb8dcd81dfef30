/-! what the reference's telling does; the weight of a pair -/
def MTell (M : List Wy) (u v c : Nat) (f : Bool) (r : Int64) (n kn : Nat) (fr tt ct : Nat → Nat) (fa : Nat → Bool) : Prop := r = tellR u v c M ∧ wl kn (pk fr tt ct fa) = tellS u v c f M ∧ kn ≤ 1000 ∧ WB fr tt ct ∧ (∀ k, k < kn → fr k < n ∧ tt k < n)
def pairW (M : List Wy) (a b : Nat) : Nat := match M.find? (kyB a b) with
  | some w => if w.2.2.2 = true then w.2.2.1 else 0
  | none => 0
section MTells
variable {fr tt ct : Nat → Nat} {fa : Nat → Bool} {kn u v c1 cn k n : Nat} {fl ik : Bool}
theorem mt_full (hB : WB fr tt ct) (hBn : ∀ k, k < kn → fr k < n ∧ tt k < n) (hu : u < n) (hv : v < n) (hn : n ≤ 200) (hF : Fnd fr tt kn (nI u) (nI v) none) (hk : kn = 1000) : MTell (wl kn (pk fr tt ct fa)) u v cn fl (-3) n kn fr tt ct fa ∧ (ik = true → ik = true ∧ wl kn (pk fr tt ct fa) = wl kn (pk fr tt ct fa)) := by
  have h1 := fnd_none (fa := fa) hB (by omega) (by omega) hF
  have h2 : tellFull u v (wl kn (pk fr tt ct fa)) = true := by
    unfold tellFull
    rw [h1, wl_len]
    simp [hk]
  refine ⟨⟨?_, ?_, by omega, hB, hBn⟩, fun q => ⟨q, rfl⟩⟩
  · unfold tellR
    rw [if_pos h2]
  · unfold tellS
    rw [if_pos h2]
theorem mt_new (hB : WB fr tt ct) (hBn : ∀ k, k < kn → fr k < n ∧ tt k < n) (hu : u < n) (hv : v < n) (hn : n ≤ 200) (hF : Fnd fr tt kn (nI u) (nI v) none) (hk : kn < 1000) (hc : c1 = min (va_up ct kn 0 kn + cn) 1000000000000000) : MTell (wl kn (pk fr tt ct fa)) u v cn fl (lN (va_up (va_up ct kn 0) kn c1 kn)) n (kn + 1) (va_up fr kn u) (va_up tt kn v) (va_up (va_up ct kn 0) kn c1) (va_up fa kn fl) ∧ (false = true → ik = true ∧ wl (kn + 1) (pk (va_up fr kn u) (va_up tt kn v) (va_up (va_up ct kn 0) kn c1) (va_up fa kn fl)) = wl kn (pk fr tt ct fa)) := by
  rw [va_up_self] at hc
  rw [va_up_self]
  have g1 := fnd_none (fa := fa) hB (by omega) (by omega) hF
  have g2 : ¬ tellFull u v (wl kn (pk fr tt ct fa)) = true := by
    unfold tellFull
    rw [g1, wl_len]
    simp
    omega
  have hc1 : c1 ≤ 1000000000000000 := by rw [hc]; exact Nat.min_le_right _ _
  refine ⟨⟨?_, ?_, by omega, tl_WB2 hB (by omega) (by omega) hc1, ?_⟩, fun q => by cases q⟩
  · unfold tellR
    rw [if_neg g2, cntL_none g1, hc, Nat.min_comm]
  · unfold tellS
    rw [if_neg g2]
    unfold tellL
    rw [if_neg (by rw [g1]; decide), wl2, hc, Nat.min_comm, Nat.zero_add]
  · intro j hj
    unfold va_up
    split
    · exact ⟨hu, hv⟩
    · exact hBn j (by omega)
theorem mt_old (hB : WB fr tt ct) (hBn : ∀ k, k < kn → fr k < n ∧ tt k < n) (hK0 : KdL (wl kn (pk fr tt ct fa))) (hu : u < n) (hv : v < n) (hn : n ≤ 200) (hkn : kn ≤ 1000) (hF : Fnd fr tt kn (nI u) (nI v) (some k)) (hc : c1 = min (ct k + cn) 1000000000000000) : MTell (wl kn (pk fr tt ct fa)) u v cn fl (lN (va_up ct k c1 k)) n kn fr tt (va_up ct k c1) (va_up fa k fl) ∧ (false = true → ik = true ∧ wl kn (pk fr tt (va_up ct k c1) (va_up fa k fl)) = wl kn (pk fr tt ct fa)) := by
  rw [va_up_self]
  obtain ⟨a1, a2, a3⟩ := fnd_some hB (show u < 200 by omega) (show v < 200 by omega) hF
  have hm : pk fr tt ct fa k ∈ wl kn (pk fr tt ct fa) := wl_mem.mpr ⟨k, a1, rfl⟩
  have g1 : hasL u v (wl kn (pk fr tt ct fa)) = true := hasL_iff.mpr ⟨_, hm, a2, a3⟩
  have g2 : ¬ tellFull u v (wl kn (pk fr tt ct fa)) = true := by
    unfold tellFull
    rw [g1]
    simp
  have hc1 : c1 ≤ 1000000000000000 := by rw [hc]; exact Nat.min_le_right _ _
  refine ⟨⟨?_, ?_, hkn, tl_WB1 hB hc1, hBn⟩, fun q => by cases q⟩
  · unfold tellR
    rw [if_neg g2, cntL_of hK0 hm a2 a3, hc, Nat.min_comm]
    rfl
  · unfold tellS
    rw [if_neg g2]
    unfold tellL
    rw [if_pos g1]
    unfold wl
    rw [List.map_map]
    refine List.map_congr_left (fun i hi => ?_)
    have hi := List.mem_range.mp hi
    show _ = if kyB u v (pk fr tt ct fa i) = true then _ else _
    by_cases hik : i = k
    · subst hik
      rw [if_pos (kyB_iff.mpr ⟨a2, a3⟩), pk1_eq, hc, a2, a3, Nat.min_comm]
      rfl
    · rw [if_neg, pk1_ne hik]
      intro q
      obtain ⟨q1, q2⟩ := kyB_iff.mp q
      exact hik (hK0.inj i k hi a1 (q1.trans a2.symm) (q2.trans a3.symm))
theorem pw_none (hB : WB fr tt ct) (hu : u < 200) (hv : v < 200) (hF : Fnd fr tt kn (nI u) (nI v) none) : pairW (wl kn (pk fr tt ct fa)) u v = 0 := by
  have h1 := fnd_none (fa := fa) hB hu hv hF
  unfold pairW
  cases hf : (wl kn (pk fr tt ct fa)).find? (kyB u v) with
  | none => rfl
  | some w =>
    rw [hasL_iff.mpr ⟨w, List.mem_of_find?_eq_some hf, kyB_iff.mp (List.find?_some hf)⟩] at h1
    cases h1
theorem pairW_of {L : List Wy} {a b : Nat} (hK : KdL L) {w : Wy} (hw : w ∈ L) (h1 : w.1 = a) (h2 : w.2.1 = b) : pairW L a b = if w.2.2.2 = true then w.2.2.1 else 0 := by
  unfold pairW
  cases hf : L.find? (kyB a b) with
  | none => exact absurd (kyB_iff.mpr ⟨h1, h2⟩) (List.find?_eq_none.mp hf w hw)
  | some w2 =>
    have a2 := kyB_iff.mp (List.find?_some hf)
    rw [hK.uniq w hw w2 (List.mem_of_find?_eq_some hf) (h1.trans a2.1.symm) (h2.trans a2.2.symm)]
theorem pw_some (hB : WB fr tt ct) (hK0 : KdL (wl kn (pk fr tt ct fa))) (hu : u < 200) (hv : v < 200) (hF : Fnd fr tt kn (nI u) (nI v) (some k)) : pairW (wl kn (pk fr tt ct fa)) u v = if fa k = true then ct k else 0 := by
  obtain ⟨a1, a2, a3⟩ := fnd_some hB hu hv hF
  exact pairW_of hK0 (wl_mem.mpr ⟨k, a1, rfl⟩) a2 a3
end MTells

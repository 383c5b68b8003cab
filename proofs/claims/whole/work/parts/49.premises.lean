/-! what holds at the law's entry -/
def tmF : Term := .static "RiverSuit" "FACTORIALS" "[I"
def tmS (i : Nat) : Term := .string "RiverSuit$Tape" (strI.getD i 0)
def tmV (i : Nat) : Term := .field (tmS i) "java/lang/String" "value" "[B"
def flN : List Cond := flatC (Jvm.Cond.and given_1 narrow_1)
def strX : List Nat := [381, 452, 453, 454, 463, 472, 481, 451]
theorem pr_el : (List.range 9).all (fun j => decide (Cond.eq (.elem tmF (.int (Int32.ofNat j))) (.int (factL.getD j 0)) ∈ flN)) = true := by decide +kernel
theorem pr_ex : (List.range 8).all (fun i => decide (Cond.exactly (tmS i) "java/lang/String" ∈ flN)) = true := by decide +kernel
theorem pr_co : (List.range 8).all (fun i => decide (Cond.eq (.field (tmS i) "java/lang/String" "coder" "B") (.int 0) ∈ flN)) = true := by decide +kernel
theorem pr_ar : (List.range 8).all (fun i => decide (Cond.arrayOf (tmV i) .byte ∈ flN)) = true := by decide +kernel
theorem pr_le : (List.range 8).all (fun i => decide (Cond.eq (.length (tmV i)) (.int (Int32.ofNat (strN.getD i 0))) ∈ flN)) = true := by decide +kernel
theorem pr_by : (List.range 8).all (fun i => (List.range (strN.getD i 0)).all (fun j => decide (Cond.eq (.elem (tmV i) (.int (Int32.ofNat j))) (.int ((strB.getD i []).getD j 0)) ∈ flN))) = true := by decide +kernel
theorem pr_ne : (List.range 8).all (fun i => (List.range 8).all (fun j => decide (i = j) || (decide (Cond.not (Cond.eq (tmS i) (tmS j)) ∈ flN) || decide (Cond.not (Cond.eq (tmS j) (tmS i)) ∈ flN)))) = true := by decide +kernel
theorem pr_sr : (List.range 8).all (fun i => decide (lw_tbl[strX.getD i 0]? = some (Cond.stringRef "RiverSuit$Tape" (strI.getD i 0) (strT.getD i "")))) = true := by decide +kernel
theorem pr_n : (List.range 8).all (fun i => decide (strN.getD i 0 < 2 ^ 31)) = true := by decide +kernel
theorem all_at {n : Nat} {f : Nat → Bool} (h : (List.range n).all f = true) (i : Nat) (hi : i < n) : f i = true := List.all_eq_true.mp h i (List.mem_range.mpr hi)
theorem law_Z {b : Nat} {s : State} {A : Nat → Prop} (hts0 : ∀ w ∈ lw_tbl, w.before #[Value.ref b] s = true) (hgv : (Jvm.Cond.and given_1 narrow_1).before #[Value.ref b] s = true) (hA : ∀ a : Nat, a < s.heap.size → ¬ A a) : ∃ ad : Nat → Nat, Zs ad A s s.heap ∧ Ns ad s := by
  have hs : ∀ c ∈ flN, c.before #[Value.ref b] s = true := flat_of_before _ hgv
  obtain ⟨tF, eF, hT⟩ := va_Tof (tm := tmF) (ty := .int) (N := 9) (f := fun j => .int (factL.getD j 0)) (A := A) (by decide) (hs (Cond.arrayOf tmF .int) (by decide +kernel)) (va_eqt (hs (Cond.eq (.length tmF) (.int (Int32.ofNat 9))) (by decide +kernel))) (fun j hj => va_eqt (hs _ (of_decide_eq_true (all_at pr_el j hj)))) hA
  obtain ⟨adK, adV, hS8, hev⟩ := vk_Sof (N := 8) (tm := tmS) (len := strN) (byt := strB) (A := A) (fun i hi => of_decide_eq_true (all_at pr_n i hi)) (fun i hi => hs _ (of_decide_eq_true (all_at pr_ex i hi))) (fun i hi => hs _ (of_decide_eq_true (all_at pr_co i hi))) (fun i hi => hs _ (of_decide_eq_true (all_at pr_ar i hi))) (fun i hi => hs _ (of_decide_eq_true (all_at pr_le i hi))) (fun i hi j hj => hs _ (of_decide_eq_true (all_at (all_at pr_by i hi) j hj))) (fun i j hi hj hij => by
    have h := all_at (all_at pr_ne i hi) j hj
    simp only [Bool.or_eq_true, decide_eq_true_eq] at h
    rcases h with h | h | h
    · exact absurd h hij
    · exact Or.inl (hs _ h)
    · exact Or.inr (hs _ h)) hA
  obtain ⟨ad, a80, a81, a90⟩ : ∃ ad : Nat → Nat, ad 80 = tF ∧ (∀ i, i < 8 → ad (81 + i) = adK i) ∧ (∀ i, i < 8 → ad (90 + i) = adV i) := by
    refine ⟨fun k => if k = 80 then tF else if k < 90 then adK (k - 81) else adV (k - 90), rfl, fun i hi => ?_, fun i hi => ?_⟩
    · show (if 81 + i = 80 then tF else if 81 + i < 90 then adK (81 + i - 81) else adV (81 + i - 90)) = adK i
      rw [if_neg (by omega), if_pos (by omega), Nat.add_sub_cancel_left]
    · show (if 90 + i = 80 then tF else if 90 + i < 90 then adK (90 + i - 81) else adV (90 + i - 90)) = adV i
      rw [if_neg (by omega), if_neg (by omega), Nat.add_sub_cancel_left]
  refine ⟨ad, ⟨?_, ?_, ?_, ?_, ⟨fun i hi => ?_, fun i j hi hj e => ?_⟩⟩, ?_, ?_, fun i hi => ?_⟩
  · rw [a80]; exact va_Zref (hts0 (.laysStatic "RiverSuit" "FACTORIALS" "[I") (List.mem_of_getElem? (i := 705) (by decide +kernel))) (hts0 (.initialized "RiverSuit") (List.mem_of_getElem? (i := 54) (by decide +kernel))) eF hA
  · rw [a80]; exact hT
  · exact va_Zof (hts0 (.laysStatic "java/lang/String" "COMPACT_STRINGS" "Z") (List.mem_of_getElem? (i := 395) (by decide +kernel))) (hts0 (.initialized "java/lang/String") (List.mem_of_getElem? (i := 62) (by decide +kernel))) (va_eqi (hs (Cond.eq (.static "java/lang/String" "COMPACT_STRINGS" "Z") (.int 1)) (by decide +kernel))) hA
  · exact va_Zqof (hts0 (.laysStatic "jdk/internal/util/Preconditions" "SIOOBE_FORMATTER" "Ljava/util/function/BiFunction;") (List.mem_of_getElem? (i := 411) (by decide +kernel))) (hts0 (.initialized "jdk/internal/util/Preconditions") (List.mem_of_getElem? (i := 64) (by decide +kernel))) (hs (Cond.isRef (.static "jdk/internal/util/Preconditions" "SIOOBE_FORMATTER" "Ljava/util/function/BiFunction;")) (by decide +kernel)) hA
  · have h := hS8.1 i hi
    rw [← a81 i hi, ← a90 i hi] at h
    exact h
  · exact hS8.2 i j hi hj (by rw [← a81 i hi, ← a81 j hj]; exact e)
  · exact va_Nw.of rfl (hts0 _ (List.mem_of_getElem? (i := 769) (by decide +kernel)))
  · exact va_Nw.of rfl (hts0 _ (List.mem_of_getElem? (i := 442) (by decide +kernel)))
  · exact vk_R.of (A := #[Value.ref b]) (hts0 _ (List.mem_of_getElem? (of_decide_eq_true (all_at pr_sr i hi)))) (by rw [a81 i hi]; exact hev i hi)
theorem law_Nk {b : Nat} {s : State} (hts0 : ∀ w ∈ lw_tbl, w.before #[Value.ref b] s = true) : Nk s := ⟨va_Nw.of rfl (hts0 _ (List.mem_of_getElem? (i := 79) (by decide +kernel))), va_Nw.of rfl (hts0 _ (List.mem_of_getElem? (i := 171) (by decide +kernel))), va_Nw.of rfl (hts0 _ (List.mem_of_getElem? (i := 214) (by decide +kernel))), va_Nw.of rfl (hts0 _ (List.mem_of_getElem? (i := 233) (by decide +kernel))), va_Nw.of rfl (hts0 _ (List.mem_of_getElem? (i := 252) (by decide +kernel))), va_Nw.of rfl (hts0 _ (List.mem_of_getElem? (i := 262) (by decide +kernel))), va_AO.of (hts0 _ (List.mem_of_getElem? (i := 168) (by decide +kernel))), va_AO.of (hts0 _ (List.mem_of_getElem? (i := 212) (by decide +kernel)))⟩
theorem law_K {b : Nat} {s : State} (hts0 : ∀ w ∈ lw_tbl, w.before #[Value.ref b] s = true) (hts : ∀ w ∈ lw_g, w.before #[Value.ref b] s = true) : ∃ (D : va_G) (cy : Nat → ClassId), va_K D vwCl (tysW cy) s := by
  obtain ⟨c0, i0, k0⟩ := u_known (C := RX0) (T := TX0) (N := 1) (n := 1) hts ci_X0.2.1 (hts _ kw_in_X0)
  obtain ⟨c1, i1, k1⟩ := u_known (C := RX1) (T := TX1) (N := 7) (n := 7) hts ci_X1.2.1 (hts _ kw_in_X1)
  obtain ⟨c2, i2, k2⟩ := u_known (C := RX2) (T := TX2) (N := 3) (n := 3) hts ci_X2.2.1 (hts _ kw_in_X2)
  obtain ⟨c3, i3, k3⟩ := u_known (C := RX3) (T := TX3) (N := 15) (n := 15) hts ci_X3.2.1 (hts _ kw_in_X3)
  obtain ⟨c4, i4, k4⟩ := u_known (C := RX4) (T := TX4) (N := 10) (n := 10) hts ci_X4.2.1 (hts _ kw_in_X4)
  obtain ⟨c5, i5, k5⟩ := u_known (C := RX5) (T := TX5) (N := 3) (n := 3) hts ci_X5.2.1 (hts _ kw_in_X5)
  obtain ⟨c6, i6, k6⟩ := u_known (C := RX6) (T := TX6) (N := 12) (n := 12) hts ci_X6.2.1 (hts _ kw_in_X6)
  obtain ⟨c7, i7, k7⟩ := u_known (C := RX7) (T := TX7) (N := 29) (n := 29) hts ci_X7.2.1 (hts _ kw_in_X7)
  obtain ⟨d0, kA0, m0, f0, g0, h0⟩ := Cond.arrayClass_spec (hts0 (.arrayClass .int) (List.mem_of_getElem? (i := 167) (by decide +kernel)))
  obtain ⟨d1, kA1, m1, f1, g1, h1⟩ := Cond.arrayClass_spec (hts0 (.arrayClass .boolean) (List.mem_of_getElem? (i := 209) (by decide +kernel)))
  obtain ⟨d2, kA2, m2, f2, g2, h2⟩ := Cond.arrayClass_spec (hts0 (.arrayClass .byte) (List.mem_of_getElem? (i := 210) (by decide +kernel)))
  obtain ⟨m3, d3, kA3, n3, -, g3, h3, f3⟩ := Cond.arrayOver_spec (hts0 (.arrayOver (.object "RiverSuit$Suit")) (List.mem_of_getElem? (i := 168) (by decide +kernel)))
  obtain ⟨m4, d4, kA4, n4, -, g4, h4, f4⟩ := Cond.arrayOver_spec (hts0 (.arrayOver (.object "RiverSuit$Sheet")) (List.mem_of_getElem? (i := 212) (by decide +kernel)))
  refine ⟨(fun k => match k with | 0 => c0 | 1 => c1 | 2 => c2 | 3 => c3 | 4 => c4 | 5 => c5 | 6 => c6 | _ => c7, fun k => match k with | 0 => i0 | 1 => i1 | 2 => i2 | 3 => i3 | 4 => i4 | 5 => i5 | 6 => i6 | _ => i7), fun t => match t with | 0 => d0 | 1 => d1 | 2 => d2 | 3 => d3 | _ => d4, ⟨fun k q hq => ?_, fun k q hq => ?_⟩⟩
  · match k, hq with
    | 0, hq => cases hq; exact k0
    | 1, hq => cases hq; exact k1
    | 2, hq => cases hq; exact k2
    | 3, hq => cases hq; exact k3
    | 4, hq => cases hq; exact k4
    | 5, hq => cases hq; exact k5
    | 6, hq => cases hq; exact k6
    | 7, hq => cases hq; exact k7
    | k + 8, hq => simp [vwCl] at hq
  · match k, hq with
    | 0, hq => cases hq; exact ⟨fun n z => ⟨fun k h => (by cases h), kA0, g0, m0, h0⟩, f0⟩
    | 1, hq => cases hq; exact ⟨fun n z => ⟨fun k h => (by cases h), kA1, g1, m1, h1⟩, f1⟩
    | 2, hq => cases hq; exact ⟨fun n z => ⟨fun k h => (by cases h), kA2, g2, m2, h2⟩, f2⟩
    | 3, hq => cases hq; exact ⟨fun n z => ⟨fun k h => (by cases h), kA3, g3, m3, h3⟩, kA3, m3, g3, h3, n3, f3⟩
    | 4, hq => cases hq; exact ⟨fun n z => ⟨fun k h => (by cases h), kA4, g4, m4, h4⟩, kA4, m4, g4, h4, n4, f4⟩
    | k + 5, hq => simp at hq

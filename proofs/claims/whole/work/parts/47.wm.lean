/-! the reference's 16 cells, beside the class's -/
def refsOK (sh : Sh) : Bool := match sh with
  | .inl o => o.2.all (fun q => match q with
    | none => true
    | some r => decide (r < 57))
  | .inr (.inl _) => true
  | .inr (.inr a) => a.2.all (fun r => decide (r < 57))
theorem shC_ok : (shL.take 57).all refsOK = true := by decide +kernel
theorem cellOf_c {ad ad' : Nat → Nat} {cy : Nat → ClassId} {f : Nat → Int32} (h : ∀ r, r < 57 → ad' r = ad r) : ∀ sh : Sh, refsOK sh = true → cellOf ad' cy f sh = cellOf ad cy f sh
  | .inl o, hs => by
    have e9 : fieldsOf ad' f o.2 = fieldsOf ad f o.2 := by
      apply List.ext_getElem?
      intro i
      rw [fieldsOf_get, fieldsOf_get]
      cases hq : o.2[i]? with
      | none => rfl
      | some q => cases q with
        | none => rfl
        | some r =>
          have hr := List.all_eq_true.mp hs _ (List.mem_of_getElem? hq)
          show some (Value.ref (ad' r)) = some (Value.ref (ad r))
          rw [h r (of_decide_eq_true hr)]
    show (Sum.inr (o.1, fieldsOf ad' f o.2) : va_E) = Sum.inr (o.1, fieldsOf ad f o.2)
    rw [e9]
  | .inr (.inl a), _ => rfl
  | .inr (.inr a), hs => by
    have e9 : (fun j => some (ad' (a.2.getD j 0))) = (fun j => some (ad (a.2.getD j 0))) := funext fun j => by
      have hlt : a.2.getD j 0 < 57 := by
        rw [List.getD_eq_getElem?_getD]
        cases hq : a.2[j]? with
        | none => exact (by decide : 0 < 57)
        | some r => exact of_decide_eq_true (List.all_eq_true.mp hs r (List.mem_of_getElem? hq))
      rw [h _ hlt]
    show (Sum.inl (cy a.1, a.2.length, Sum.inr (Sum.inr (Sum.inr (Sum.inr (fun j => some (ad' (a.2.getD j 0))))))) : va_E) = Sum.inl (cy a.1, a.2.length, Sum.inr (Sum.inr (Sum.inr (Sum.inr (fun j => some (ad (a.2.getD j 0)))))))
    rw [e9]
theorem Wc_get {ad : Nat → Nat} {cy : Nat → ClassId} {I : Wo} {i : Nat} : (Wc ad cy I)[i]? = ((shL.take 57)[i]?).map (fun sh => (ad i, cellOf ad cy (I i) sh)) := by
  unfold Wc
  rw [List.getElem?_map, List.getElem?_zipIdx]
  cases (shL.take 57)[i]? with
  | none => rfl
  | some sh => simp
theorem Wc_c {ad ad' : Nat → Nat} {cy : Nat → ClassId} {I I' : Wo} (h : ∀ r, r < 57 → ad' r = ad r) (hI : ∀ k, k < 57 → I' k = I k) : Wc ad' cy I' = Wc ad cy I := by
  apply List.ext_getElem?
  intro i
  rw [Wc_get, Wc_get]
  cases hq : (shL.take 57)[i]? with
  | none => rfl
  | some sh =>
    have h1 : i < 57 := Nat.lt_of_lt_of_le (List.getElem?_eq_some_iff.mp hq).1 (by rw [List.length_take]; omega)
    have h2 := List.all_eq_true.mp shC_ok sh (List.mem_of_getElem? hq)
    show some (ad' i, cellOf ad' cy (I' i) sh) = some (ad i, cellOf ad cy (I i) sh)
    rw [h i h1, hI i h1, cellOf_c h sh h2]
def Wm (ad : Nat → Nat) (cy : Nat → ClassId) (I : Wo) : va_W := ((shL.drop 57).zipIdx 57).map (fun q => (ad q.2, cellOf ad cy (I q.2) q.1))
theorem Wd_split (ad : Nat → Nat) (cy : Nat → ClassId) (I : Wo) : Wd ad cy I = Wc ad cy I ++ Wm ad cy I := by
  unfold Wd Wc Wm
  rw [← List.map_append]
  congr 1
def Im (I : Wo) : Wo := fun k => if k < 57 then I k else fun _ => 0
set_option maxRecDepth 100000 in
theorem Wm_eq (ad : Nat → Nat) (cy : Nat → ClassId) (I : Wo) : Wm ad cy (Im I) = [(ad 57, .inr (7, [.ref (ad 58), .ref (ad 59), .int 0, .ref (ad 60), .ref (ad 61), .ref (ad 62), .ref (ad 63), .int 0, .ref (ad 64), .ref (ad 65), .ref (ad 66), .int 0, .int 0, .ref (ad 67), .int 0, .int 0, .int 0, .int 0, .int 0, .int 0, .int 0, .ref (ad 68), .int 0, .int 0, .ref (ad 69), .ref (ad 70), .ref (ad 71), .ref (ad 72), .int 0])), (ad 58, .inl (cy 0, 141, .inl (fun _ => 0))), (ad 59, .inl (cy 1, 2, .inl (fun _ => 0))), (ad 60, .inl (cy 0, 8, .inl (fun _ => 0))), (ad 61, .inl (cy 0, 8, .inl (fun _ => 0))), (ad 62, .inl (cy 0, 8, .inl (fun _ => 0))), (ad 63, .inl (cy 0, 47, .inl (fun _ => 0))), (ad 64, .inl (cy 0, 8, .inl (fun _ => 0))), (ad 65, .inl (cy 0, 8, .inl (fun _ => 0))), (ad 66, .inl (cy 0, 8, .inl (fun _ => 0))), (ad 67, .inl (cy 0, 160, .inl (fun _ => 0))), (ad 68, .inl (cy 0, 8, .inl (fun _ => 0))), (ad 69, .inl (cy 1, 2816, .inl (fun _ => 0))), (ad 70, .inl (cy 0, 4, .inl (fun _ => 0))), (ad 71, .inl (cy 0, 4, .inl (fun _ => 0))), (ad 72, .inl (cy 0, 160, .inl (fun _ => 0)))] := by
  rfl
theorem Zs.ad {ad ad' : Nat → Nat} {A : Nat → Prop} {U : State} {H : Heap} (h : ∀ k, 80 ≤ k → ad' k = ad k) (hz : Zs ad A U H) : Zs ad' A U H := by
  unfold Zs at hz ⊢
  rw [h 80 (by omega), show (fun i => ad' (81 + i)) = (fun i => ad (81 + i)) from funext fun i => h _ (by omega), show (fun i => ad' (90 + i)) = (fun i => ad (90 + i)) from funext fun i => h _ (by omega)]
  exact hz
theorem Ns.ad {ad ad' : Nat → Nat} {U : State} (h : ∀ k, 80 ≤ k → ad' k = ad k) (hz : Ns ad U) : Ns ad' U := ⟨hz.1, hz.2.1, fun i hi => by rw [h (81 + i) (by omega)]; exact hz.2.2 i hi⟩
/-- what the reference is at its start -/
def Mp (u : Wo) : Prop := u 57 2 = 0 ∧ u 57 14 = 0 ∧ u 57 19 = 0 ∧ u 57 28 = 0 ∧ u 59 0 = 0 ∧ u 59 1 = 0 ∧ (∀ k, k < 47 → u 58 k = if k = 25 then -4 else 0) ∧ (∀ k, k < 4 → u 70 k = -4) ∧ ∀ x y, x < 57 → u x y = I0 x y
set_option maxRecDepth 100000 in
theorem mg_init {X : Cx} (B : Fx X cX7_init 2 RX7 1 21) (hE : ∀ (ls : List (Option Value)) (u : Wo), Mp u → GW X 2 154 ls [] u) : GW X 2 125 [some (.ref 57), none] [] (Im I0) := by
  refine g_iconst B (v := 0) dX7_init_125 (by decide) ?_
  refine g_istore_n B dX7_init_126 (by decide) rfl ?_
  refine g_iload_n B dX7_init_127 rfl ?_
  refine g_iconst B (v := 4) dX7_init_128 (by decide) ?_
  refine g_icmp_ge B 146 dX7_init_129 (by decide) (fun hc => absurd hc (by decide)) (fun _ => ?_)
  refine g_aload_n B dX7_init_132 rfl ?_
  refine g_getr B ci_X7 rfl rfl (by decide) fl_X7_47 dX7_init_133 ?_
  refine g_iload_n B dX7_init_136 rfl ?_
  refine g_bipush B (v := -4) dX7_init_137 (by decide) ?_
  refine g_iast B rfl 0 rfl (by decide) (by decide) dX7_init_139 ?_
  refine g_iinc B (v := 1) dX7_init_140 rfl (by decide) (by decide) rfl ?_
  refine g_goto B 127 dX7_init_143 (by decide) ?_
  refine g_iload_n B dX7_init_127 rfl ?_
  refine g_iconst B (v := 4) dX7_init_128 (by decide) ?_
  refine g_icmp_ge B 146 dX7_init_129 (by decide) (fun hc => absurd hc (by decide)) (fun _ => ?_)
  refine g_aload_n B dX7_init_132 rfl ?_
  refine g_getr B ci_X7 rfl rfl (by decide) fl_X7_47 dX7_init_133 ?_
  refine g_iload_n B dX7_init_136 rfl ?_
  refine g_bipush B (v := -4) dX7_init_137 (by decide) ?_
  refine g_iast B rfl 1 rfl (by decide) (by decide) dX7_init_139 ?_
  refine g_iinc B (v := 2) dX7_init_140 rfl (by decide) (by decide) rfl ?_
  refine g_goto B 127 dX7_init_143 (by decide) ?_
  refine g_iload_n B dX7_init_127 rfl ?_
  refine g_iconst B (v := 4) dX7_init_128 (by decide) ?_
  refine g_icmp_ge B 146 dX7_init_129 (by decide) (fun hc => absurd hc (by decide)) (fun _ => ?_)
  refine g_aload_n B dX7_init_132 rfl ?_
  refine g_getr B ci_X7 rfl rfl (by decide) fl_X7_47 dX7_init_133 ?_
  refine g_iload_n B dX7_init_136 rfl ?_
  refine g_bipush B (v := -4) dX7_init_137 (by decide) ?_
  refine g_iast B rfl 2 rfl (by decide) (by decide) dX7_init_139 ?_
  refine g_iinc B (v := 3) dX7_init_140 rfl (by decide) (by decide) rfl ?_
  refine g_goto B 127 dX7_init_143 (by decide) ?_
  refine g_iload_n B dX7_init_127 rfl ?_
  refine g_iconst B (v := 4) dX7_init_128 (by decide) ?_
  refine g_icmp_ge B 146 dX7_init_129 (by decide) (fun hc => absurd hc (by decide)) (fun _ => ?_)
  refine g_aload_n B dX7_init_132 rfl ?_
  refine g_getr B ci_X7 rfl rfl (by decide) fl_X7_47 dX7_init_133 ?_
  refine g_iload_n B dX7_init_136 rfl ?_
  refine g_bipush B (v := -4) dX7_init_137 (by decide) ?_
  refine g_iast B rfl 3 rfl (by decide) (by decide) dX7_init_139 ?_
  refine g_iinc B (v := 4) dX7_init_140 rfl (by decide) (by decide) rfl ?_
  refine g_goto B 127 dX7_init_143 (by decide) ?_
  refine g_iload_n B dX7_init_127 rfl ?_
  refine g_iconst B (v := 4) dX7_init_128 (by decide) ?_
  refine g_icmp_ge B 146 dX7_init_129 (by decide) (fun _ => ?_) (fun hc => absurd (by decide) hc)
  have hw : ∀ x y, ¬ (x = 70 ∧ y < 4) → (w2 (w2 (w2 (w2 (Im I0) 70 0 (-4)) 70 1 (-4)) 70 2 (-4)) 70 3 (-4)) x y = Im I0 x y := by
    intro x y h
    simp only [w2]
    rw [if_neg (by omega), if_neg (by omega), if_neg (by omega), if_neg (by omega)]
  have hw4 : ∀ y, y < 4 → (w2 (w2 (w2 (w2 (Im I0) 70 0 (-4)) 70 1 (-4)) 70 2 (-4)) 70 3 (-4)) 70 y = -4 := by
    intro y h
    rcases (show y = 0 ∨ y = 1 ∨ y = 2 ∨ y = 3 by omega) with rfl | rfl | rfl | rfl <;> rfl
  generalize (w2 (w2 (w2 (w2 (Im I0) 70 0 (-4)) 70 1 (-4)) 70 2 (-4)) 70 3 (-4)) = w at hw hw4 ⊢
  have hz : ∀ x y, 57 ≤ x → ¬ (x = 70 ∧ y < 4) → w x y = 0 := fun x y h1 h2 => by rw [hw x y h2]; unfold Im; rw [if_neg (by omega)]
  refine g_aload_n B dX7_init_146 rfl ?_
  refine g_callVV B ct_X7_firstDraft rfl rfl ml_X7_56 mm_X7_firstDraft rfl rfl (Nat.le_of_ble_eq_true rfl) dX7_init_147 (by decide) ?_
  rintro u ⟨f1, f2, f3, f4, f5⟩
  refine g_aload_n B dX7_init_150 rfl ?_
  refine g_callVV B (ct_X7_keepDraft (n := 0) (f2.trans nI_0.symm) (by decide)) rfl rfl ml_X7_59 mm_X7_keepDraft rfl rfl (Nat.le_of_ble_eq_true rfl) dX7_init_151 (by decide) ?_
  rintro v ⟨k1, k2, k3, k4, k5, k6, k7⟩
  refine hE _ v ⟨k3.trans nI_0, ?_, ?_, ?_, k5, k6, fun k hk => ?_, fun k hk => ?_, fun x y hx => ?_⟩
  · rw [k7 57 14 (by omega) (by omega) (by omega) (by omega), f5 57 14 (by omega) (by omega)]; exact hz _ _ (by omega) (by omega)
  · rw [k7 57 19 (by omega) (by omega) (by omega) (by omega), f5 57 19 (by omega) (by omega)]; exact hz _ _ (by omega) (by omega)
  · rw [k7 57 28 (by omega) (by omega) (by omega) (by omega), f5 57 28 (by omega) (by omega)]; exact hz _ _ (by omega) (by omega)
  · by_cases h25 : k = 25
    · subst h25
      rw [k2, f1 25 (by omega)]
      rw [if_neg (by omega)]
    · rw [k1 k hk h25]; exact f1 k hk
  · rw [k7 70 k (by omega) (by omega) (by omega) (by omega), f5 70 k (by omega) (by omega)]; exact hw4 k hk
  · rw [k7 x y (by omega) (by omega) (by omega) (by omega), f5 x y (by omega) (by omega), hw x y (by omega)]; exact congrFun (if_pos hx) y
theorem inv_start {u : Wo} (h : Mp u) : Inv u := by
  obtain ⟨m1, m2, m3, m4, m5, m6, m7, m8, m9⟩ := h
  have b0 : ∀ n, 0 < n → Bd 0 n := fun n h => ⟨0, h, nI_0.symm⟩
  refine ⟨0, by decide, m1.trans nI_0.symm, ⟨?_, fun c hc => by omega, fun c hc => by omega, fun c hc => by omega, ⟨?_, ?_⟩, ⟨?_, Or.inl ⟨rfl, ?_⟩⟩, ⟨?_, ?_⟩, ⟨0, by decide, ?_, ?_, fun i hi => by omega⟩, ⟨0, by decide, ?_, ?_, fun i hi => by omega⟩⟩, fun c hc => by omega, fun k hk => ⟨?_, Or.inl ?_⟩, ⟨0, by decide, ?_, ?_, fun i hi => by omega⟩, ?_, ?_, fun k hk => Or.inl ⟨?_, ?_⟩⟩
  · exact (m9 1 9 (by omega)).trans (by decide +kernel)
  · rw [m7 (0 + 24) (by omega), m9 1 12 (by omega)]; decide +kernel
  · rw [m9 1 12 (by omega)]; exact b0 _ (by decide)
  · rw [m7 (0 + 25) (by omega), m9 1 10 (by omega)]; decide +kernel
  · exact (m9 1 10 (by omega)).trans (by decide +kernel)
  · rw [m7 (0 + 26) (by omega), m9 1 11 (by omega)]; decide +kernel
  · rw [m9 1 11 (by omega)]; exact b0 _ (by decide)
  · exact (m9 1 13 (by omega)).trans (by decide +kernel)
  · rw [m7 (0 + 27) (by omega)]; decide +kernel
  · exact (m9 1 14 (by omega)).trans (by decide +kernel)
  · rw [m7 (0 + 34) (by omega)]; decide +kernel
  · rcases (show k = 0 ∨ k = 1 by omega) with rfl | rfl
    · rw [m5, m9 38 0 (by omega)]; decide +kernel
    · rw [m6, m9 38 1 (by omega)]; decide +kernel
  · rw [m9 38 k (by omega)]; rfl
  · exact (m9 39 1 (by omega)).trans (by decide +kernel)
  · exact m2.trans nI_0.symm
  · rw [m3, m9 0 10 (by omega)]; decide +kernel
  · rw [m4, m9 0 11 (by omega)]; decide +kernel
  · rcases (show k = 0 ∨ k = 1 ∨ k = 2 ∨ k = 3 by omega) with rfl | rfl | rfl | rfl <;> exact (m9 _ _ (by omega)).trans (by decide +kernel)
  · exact m8 k hk

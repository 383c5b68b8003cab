/-! sheets, images, the text -/
section
theorem ShR.at {I u : Wo} {k : Nat} (h1 : u (42 + 2 * k) 1 = I (42 + 2 * k) 1) (h2 : u (42 + 2 * k) 2 = I (42 + 2 * k) 2) (h3 : ∀ i, i < 40 → u (43 + 2 * k) i = I (43 + 2 * k) i) (h4 : u 70 k = I 70 k) (h5 : u 71 k = I 71 k) (h6 : ∀ i, i < 40 → u 72 (40 * k + i) = I 72 (40 * k + i)) (s : ShR I k) : ShR u k := by
  rcases s with ⟨s1, s2⟩ | ⟨z, z1, z2, z3, z4, z5, z6⟩
  · exact Or.inl ⟨by rw [h2]; exact s1, by rw [h4]; exact s2⟩
  · exact Or.inr ⟨z, z1, by rw [h2]; exact z2, by rw [h5]; exact z3, by rw [h4, h1]; exact z4, by rw [h1]; exact z5, fun i hi => by rw [h6 i hi, h3 i hi]; exact z6 i hi⟩
theorem op_sheet {I : Wo} (h : Inv I) (k lane m : Int32) : OpI yX6_sheet cX6_sheet 4 1 23 yX7_sheet cX7_sheet 5 2 46 [.int k, .int lane, .int m] I := by
  obtain ⟨n, hI⟩ := id h
  refine ⟨shQ k lane m, fun u => (shQ k lane m < 0 ∧ I = u) ∨ (∃ j z, j < 4 ∧ z ≤ 40 ∧ k = nI j ∧ m = nI z ∧ shQ k lane m = 1 ∧ wi lane 0 2 = true ∧ u (42 + 2 * j) 1 = lane ∧ u (42 + 2 * j) 2 = m ∧ (∀ i, i < 40 → u (43 + 2 * j) i = 0) ∧ ∀ x y, ¬ (x = 42 + 2 * j ∧ (y = 1 ∨ y = 2)) → ¬ (x = 43 + 2 * j ∧ y < 40) → u x y = I x y), (ct_X6_sheet k lane m).monoI ?_, fun u hu => ?_⟩
  · rintro r u (⟨e, h1, h2⟩ | ⟨j, z, a1, a2, a3, a4, a5, a6, a7, a8⟩)
    · exact ⟨e, Or.inl ⟨h1, h2⟩⟩
    · exact ⟨a7.trans a5.symm, Or.inr ⟨j, z, a1, a2, a3, a4, a5, a6, a8⟩⟩
  · rcases hu with ⟨h1, rfl⟩ | ⟨j, z, a1, a2, a3, a4, a5, a6, a7, a8, a9, a10⟩
    · refine (ct_X7_sheet k lane m).monoI ?_
      rintro r u (⟨e, -, rfl⟩ | ⟨j, b1, b2, b3, -⟩)
      · exact ⟨e, h⟩
      · rw [b3] at h1; exact absurd h1 (by decide)
    · refine (ct_X7_sheet k lane m).monoI ?_
      rintro r u' (⟨e, h1, -⟩ | ⟨j', b1, b2, b3, b4, b5, b6, b7, b8⟩)
      · rw [a5] at h1; exact absurd h1 (by decide)
      · have ej : j' = j := (nI_eq (by omega) (by omega)).mp (b2.symm.trans a3)
        subst ej
        refine ⟨b4.trans a5.symm, n, hI.sheets (fun x y hx => ?_) (fun k2 hk2 => ?_)⟩
        · rw [b8 x y (by omega) (by omega), a10 x y (by omega) (by omega)]
        · by_cases ek : k2 = j'
          · subst ek
            obtain ⟨l, hl, el⟩ := (wi_iff (m := 2) (by decide)).mp a6
            refine Or.inr ⟨z, a2, ?_, by rw [b6]; exact a4, ?_, ?_, fun i hi => ?_⟩
            · rw [b8 _ _ (by omega) (by omega), a8]; exact a4
            · rw [b5, b8 _ _ (by omega) (by omega), a7]
            · rw [b8 _ _ (by omega) (by omega), a7]; exact ⟨l, by omega, el⟩
            · rw [b7 i hi, b8 _ _ (by omega) (by omega), a9 i hi]
          · refine ShR.at ?_ ?_ (fun i hi => ?_) ?_ ?_ (fun i hi => ?_) (hI.2.2.2.2.2.2.2.2 k2 hk2)
            · rw [b8 _ _ (by omega) (by omega), a10 _ _ (by omega) (by omega)]
            · rw [b8 _ _ (by omega) (by omega), a10 _ _ (by omega) (by omega)]
            · rw [b8 _ _ (by omega) (by omega), a10 _ _ (by omega) (by omega)]
            · rw [b8 _ _ (by omega) (by omega), a10 _ _ (by omega) (by omega)]
            · rw [b8 _ _ (by omega) (by omega), a10 _ _ (by omega) (by omega)]
            · rw [b8 _ _ (by omega) (by omega), a10 _ _ (by omega) (by omega)]
theorem InvN.sh1 {I : Wo} {n : Nat} (h : InvN I n) (j : Nat) (hj : j < 4) : I (42 + 2 * j) 2 = -1 ∨ ∃ z, z ≤ 40 ∧ I (42 + 2 * j) 2 = nI z := by
  rcases h.2.2.2.2.2.2.2.2 j hj with e | ⟨z, h1, h2, -⟩
  · exact Or.inl e.1
  · exact Or.inr ⟨z, h1, h2⟩
theorem InvN.sh2 {I : Wo} {n : Nat} (h : InvN I n) (j : Nat) (hj : j < 4) : I 70 j = -4 ∨ ∃ z, z ≤ 40 ∧ I 71 j = nI z := by
  rcases h.2.2.2.2.2.2.2.2 j hj with e | ⟨z, h1, h2, h3, -⟩
  · exact Or.inl e.2
  · exact Or.inr ⟨z, h1, h3⟩
theorem nI_nm1 {z : Nat} (h : z < 2 ^ 31) : ¬ nI z = -1 := by
  intro e
  have := congrArg Int32.toInt e
  rw [nI_toInt h, show (-1 : Int32).toInt = -1 from rfl] at this
  omega
theorem op_lay {I : Wo} (h : Inv I) (k i v : Int32) : OpI yX6_lay cX6_lay 6 2 44 yX7_lay cX7_lay 4 2 46 [.int k, .int i, .int v] I := by
  obtain ⟨n, hI⟩ := id h
  have c1 := ct_X6_lay hI.sh1 k i v
  by_cases hk : wi k 0 3 = true
  · obtain ⟨j, hj, rfl⟩ := (wi_iff (m := 3) (by decide)).mp hk
    have hj4 : j < 4 := by omega
    rcases hI.2.2.2.2.2.2.2.2 j hj4 with ⟨e1, e2⟩ | ⟨z, z1, z2, z3, z4, ⟨l, l3, z5⟩, z6⟩
    · refine ⟨-11, fun u => I = u, c1.monoI ?_, ?_⟩
      · rintro r u (⟨e, -⟩ | ⟨j', b1, b2, ⟨b3, b4, b5⟩ | ⟨y, z, -, b3, -, b4, -⟩⟩)
        · rw [hk] at e; cases e
        · have ej : j' = j := (nI_eq (by omega) (by omega)).mp b2.symm
          subst ej
          rw [faF, if_pos e1] at b4
          exact ⟨b4.trans (by decide), b5⟩
        · have ej : j' = j := (nI_eq (by omega) (by omega)).mp b2.symm
          subst ej
          exact absurd (b4.symm.trans e1) (nI_nm1 (by omega))
      · rintro u rfl
        refine (ct_X7_lay hI.sh2 (nI j) i v).monoI ?_
        rintro r u (⟨e, -⟩ | ⟨j', b1, b2, ⟨b3, b4, b5⟩ | ⟨b3, -⟩ | ⟨y, b3, -⟩⟩)
        · rw [hk] at e; cases e
        · exact ⟨b4, b5 ▸ h⟩
        · have ej : j' = j := (nI_eq (by omega) (by omega)).mp b2.symm
          subst ej
          exact absurd e2 b3
        · have ej : j' = j := (nI_eq (by omega) (by omega)).mp b2.symm
          subst ej
          exact absurd e2 b3
    · have h70 : ¬ I 70 j = -4 := by rw [z4, z5]; exact nI_ne4 (by omega)
      have hm1 : ¬ I (42 + 2 * j) 2 = -1 := by rw [z2]; exact nI_nm1 (by omega)
      by_cases hw : wi i 0 (nI z - 1) = true
      · obtain ⟨y, hy, rfl⟩ := wi_pred (by omega) hw
        have hfa : ∀ l, faF l l (I (42 + 2 * j) 2) (nI y) = 0 := fun l => by
          rw [faF, if_neg hm1, if_pos rfl, z2, if_pos hw]
        refine ⟨1, fun u => u = w2 I (43 + 2 * j) y (puF (I (42 + 2 * j) 1) v), c1.monoI ?_, ?_⟩
        · rintro r u (⟨e, -⟩ | ⟨j', b1, b2, ⟨b3, b4, b5⟩ | ⟨y', z', a1, b3, b4, b5, b6, b7⟩⟩)
          · rw [hk] at e; cases e
          · have ej : j' = j := (nI_eq (by omega) (by omega)).mp b2.symm
            subst ej
            exact absurd (hfa _) b3
          · have ej : j' = j := (nI_eq (by omega) (by omega)).mp b2.symm
            subst ej
            have ey : y = y' := (nI_eq (by omega) (by omega)).mp b4
            subst ey
            exact ⟨b6, b7⟩
        · intro u hu
          have e70 : u 70 = I 70 := by rw [hu]; exact w2_row _ _ (by omega)
          have e71 : u 71 = I 71 := by rw [hu]; exact w2_row _ _ (by omega)
          have c2 := ct_X7_lay (I := u) (fun j hj => by rw [e70, e71]; exact hI.sh2 j hj) (nI j) (nI y) v
          rw [e70, e71] at c2
          refine c2.monoI ?_
          rintro r u' (⟨e, -⟩ | ⟨j', b1, b2, ⟨b3, b4, b5⟩ | ⟨b3, b4, b5⟩ | ⟨y', b3, b4, b5, b6, b7, b8⟩⟩)
          · rw [hk] at e; cases e
          · have ej : j' = j := (nI_eq (by omega) (by omega)).mp b2.symm
            subst ej
            exact absurd b3 h70
          · have ej : j' = j := (nI_eq (by omega) (by omega)).mp b2.symm
            subst ej
            rw [z3, hw] at b4; cases b4
          · have ej : j' = j := (nI_eq (by omega) (by omega)).mp b2.symm
            subst ej
            have ey : y' = y := (nI_eq (by omega) (by omega)).mp b5.symm
            subst ey
            refine ⟨b7, n, hI.sheets (fun x w hx => ?_) (fun k2 hk2 => ?_)⟩
            · rw [b8, hu, w2_get, w2_get, if_neg (by omega), if_neg (by omega)]
            · by_cases ek : k2 = j'
              · subst ek
                refine Or.inr ⟨z, z1, ?_, ?_, ?_, ?_, fun i hi => ?_⟩
                · rw [b8, hu, w2_get, w2_get, if_neg (by omega), if_neg (by omega)]; exact z2
                · rw [b8, hu, w2_get, w2_get, if_neg (by omega), if_neg (by omega)]; exact z3
                · rw [b8, hu, w2_get, w2_get, if_neg (by omega), if_neg (by omega), w2_get, w2_get, if_neg (by omega), if_neg (by omega)]; exact z4
                · rw [b8, hu, w2_get, w2_get, if_neg (by omega), if_neg (by omega)]; exact ⟨l, l3, z5⟩
                · by_cases ei : i = y'
                  · subst ei
                    rw [b8, hu, w2_same, w2_cell _ _ (by omega), w2_same, z4]
                  · rw [b8, hu, w2_get, w2_get, if_neg (by omega), if_neg (by omega), w2_get, w2_get, if_neg (by omega), if_neg (by omega)]
                    exact z6 i hi
              · refine ShR.at ?_ ?_ (fun i hi => ?_) ?_ ?_ (fun i hi => ?_) (hI.2.2.2.2.2.2.2.2 k2 hk2)
                · rw [b8, hu, w2_get, w2_get, if_neg (by omega), if_neg (by omega)]
                · rw [b8, hu, w2_get, w2_get, if_neg (by omega), if_neg (by omega)]
                · rw [b8, hu, w2_get, w2_get, if_neg (by omega), if_neg (by omega)]
                · rw [b8, hu, w2_get, w2_get, if_neg (by omega), if_neg (by omega)]
                · rw [b8, hu, w2_get, w2_get, if_neg (by omega), if_neg (by omega)]
                · rw [b8, hu, w2_get, w2_get, if_neg (by omega), if_neg (by omega)]
      · have hfa : ∀ l, faF l l (I (42 + 2 * j) 2) i = 2 := fun l => by
          rw [faF, if_neg hm1, if_pos rfl, z2, if_neg hw]
        refine ⟨-12, fun u => I = u, c1.monoI ?_, ?_⟩
        · rintro r u (⟨e, -⟩ | ⟨j', b1, b2, ⟨b3, b4, b5⟩ | ⟨y', z', a1, b3, b4, b5, b6, b7⟩⟩)
          · rw [hk] at e; cases e
          · have ej : j' = j := (nI_eq (by omega) (by omega)).mp b2.symm
            subst ej
            rw [hfa] at b4
            exact ⟨b4.trans (by decide), b5⟩
          · have ej : j' = j := (nI_eq (by omega) (by omega)).mp b2.symm
            subst ej
            have ez : z = z' := (nI_eq (by omega) (by omega)).mp (z2.symm.trans b5)
            subst ez
            refine absurd ?_ hw
            obtain ⟨z0, rfl⟩ : ∃ z0, z = z0 + 1 := ⟨z - 1, by omega⟩
            rw [nI_pred]
            exact (wi_iff (by omega)).mpr ⟨y', by omega, b4⟩
        · rintro u rfl
          refine (ct_X7_lay hI.sh2 (nI j) i v).monoI ?_
          rintro r u' (⟨e, -⟩ | ⟨j', b1, b2, ⟨b3, b4, b5⟩ | ⟨b3, b4, b5, b6⟩ | ⟨y', b3, b4, b5, b6, b7, b8⟩⟩)
          · rw [hk] at e; cases e
          · have ej : j' = j := (nI_eq (by omega) (by omega)).mp b2.symm
            subst ej
            exact absurd b3 h70
          · exact ⟨b5, b6 ▸ h⟩
          · have ej : j' = j := (nI_eq (by omega) (by omega)).mp b2.symm
            subst ej
            rw [z3] at b6
            exact absurd b6 hw
  · refine ⟨-1, fun u => I = u, c1.monoI ?_, ?_⟩
    · rintro r u (⟨e, e2, e3⟩ | ⟨j, hj, rfl, -⟩)
      · exact ⟨e2, e3⟩
      · exact absurd ((wi_iff (m := 3) (by decide)).mpr ⟨j, by omega, rfl⟩) hk
    · rintro u rfl
      refine (ct_X7_lay hI.sh2 k i v).monoI ?_
      rintro r u (⟨e, e2, e3⟩ | ⟨j, hj, rfl, -⟩)
      · exact ⟨e2, e3 ▸ h⟩
      · exact absurd ((wi_iff (m := 3) (by decide)).mpr ⟨j, by omega, rfl⟩) hk
theorem fa_z {f : Int32} {k z : Nat} (hk : k ≤ 20) (hz : z ≤ 40) : (if wi (f + nI k) 0 (nI z - 1) then (0 : Int32) else 2) = (if f.toInt64 + (nI k).toInt64 < 0 then 2 else if f.toInt64 + (nI k).toInt64 < (nI z).toInt64 then 0 else 2) := by
  have e1 : f.toInt64 + (nI k).toInt64 < 0 ↔ f.toInt + k < 0 := by
    rw [Int64.lt_iff_toInt_lt, p_int f hk, show (0 : Int64).toInt = 0 from rfl]
  have e2 : f.toInt64 + (nI k).toInt64 < (nI z).toInt64 ↔ f.toInt + k < z := by
    rw [Int64.lt_iff_toInt_lt, p_int f hk, Int32.toInt_toInt64, nI_toInt (by omega)]
  by_cases hw : wi (f + nI k) 0 (nI z - 1) = true
  · obtain ⟨y, hy, e⟩ := wi_pred (by omega) hw
    have := (p_32 hk (by omega)).mp e
    rw [if_pos hw, if_neg (by rw [e1]; omega), if_pos (by rw [e2]; omega)]
  · rw [if_neg hw]
    by_cases h1 : f.toInt + k < 0
    · rw [if_pos (e1.mpr h1)]
    · rw [if_neg (fun e => h1 (e1.mp e))]
      by_cases h2 : f.toInt + k < z
      · refine absurd ?_ hw
        have e : f + nI k = nI (f.toInt + k).toNat := (p_32 hk (by omega)).mpr (by omega)
        obtain ⟨z0, rfl⟩ : ∃ z0, z = z0 + 1 := ⟨z - 1, by omega⟩
        rw [nI_pred, e]
        exact (wi_iff (by omega)).mpr ⟨_, by omega, rfl⟩
      · rw [if_neg (fun e => h2 (e2.mp e))]
theorem rdS_congr {c c' : Nat → Int32} {s0 : Int32} : ∀ {i : Nat}, (∀ k, k < i → c k = c' k) → rdS c s0 i = rdS c' s0 i
  | 0, _ => rfl
  | i + 1, h => by rw [rdS, rdS, rdS_congr (fun k hk => h k (by omega)), h i (by omega)]
theorem RdE.congr {m n : Nat} {fa c fa' c' : Nat → Int32} {s0 day day' r s : Int32} {fr to fr' to' : Nat → Int32} {t : Option Int32} (h1 : ∀ k, k < m → fa k = fa' k) (h2 : ∀ k, k < m → fa k = 0 → c k = c' k) (h3 : ∀ x y, sayQ n x y day fr to = sayQ n x y day' fr' to') (h : RdE m fa c n s0 day fr to r s t) : RdE m fa' c' n s0 day' fr' to' r s t := by
  obtain ⟨i, ⟨hi, hp⟩, hc⟩ := h
  have hS : ∀ k, k ≤ i → rdS c s0 k = rdS c' s0 k := fun k hk => rdS_congr (fun x hx => h2 x (by omega) (hp x (by omega)).1)
  refine ⟨i, ⟨hi, fun k hk => ?_⟩, ?_⟩
  · rw [← h1 k (by omega), ← h2 k (by omega) (hp k hk).1, ← hS k (by omega), ← h3]
    exact hp k hk
  · rcases hc with ⟨a1, a2, a3, a4⟩ | ⟨a1, a2, a3, a4, a5⟩ | ⟨a1, a2, a3, a4⟩
    · refine Or.inl ⟨a1, ?_, ?_, a4⟩
      · rw [← h1 i a1]; exact a2
      · rw [← h2 i a1 a2, ← hS i (Nat.le_refl i), ← h3]; exact a3
    · refine Or.inr (Or.inl ⟨a1, ?_, a3, ?_, ?_⟩)
      · rw [← h1 i a1]; exact a2
      · rw [← hS i (Nat.le_refl i)]; exact a4
      · rw [← h1 i a1]; exact a5
    · refine Or.inr (Or.inr ⟨a1, a2, ?_, a4⟩)
      rw [← hS i (Nat.le_refl i)]; exact a3
theorem RdE.stop {m n i j : Nat} {fa c : Nat → Int32} {s0 day r s : Int32} {fr to : Nat → Int32} {t : Option Int32} (hj : RdP m fa c n s0 day fr to j) (hc : (i < m ∧ fa i = 0 ∧ ¬ sayQ n (c i) (rdS c s0 i) day fr to = 0 ∧ r = -20 - nI i ∧ s = s0 ∧ t = none) ∨ (i < m ∧ ¬ fa i = 0 ∧ r = nI i ∧ s = rdS c s0 i ∧ t = some (fa i)) ∨ (i = m ∧ r = nI m ∧ s = rdS c s0 i ∧ t = some 0)) : j ≤ i := by
  rcases Nat.lt_or_ge i j with h | h
  · have h9 := hj.1
    rcases hc with ⟨a1, a2, a3, a4⟩ | ⟨a1, a2, a3, a4, a5⟩ | ⟨a1, a2, a3, a4⟩
    · exact absurd (hj.2 i h).2 a3
    · exact absurd (hj.2 i h).1 a2
    · omega
  · exact h
theorem RdE.uniq {m n : Nat} {fa c : Nat → Int32} {s0 day r s r' s' : Int32} {fr to : Nat → Int32} {t t' : Option Int32} (h : RdE m fa c n s0 day fr to r s t) (h' : RdE m fa c n s0 day fr to r' s' t') : r = r' ∧ s = s' ∧ t = t' := by
  obtain ⟨i, hi, hc⟩ := h
  obtain ⟨i', hi', hc'⟩ := h'
  have e : i = i' := Nat.le_antisymm (RdE.stop hi hc') (RdE.stop hi' hc)
  subst e
  rcases hc with ⟨a1, a2, a3, a4, a5, a6⟩ | ⟨a1, a2, a4, a5, a6⟩ | ⟨a1, a4, a5, a6⟩
  · rcases hc' with ⟨b1, b2, b3, b4, b5, b6⟩ | ⟨b1, b2, b4, b5, b6⟩ | ⟨b1, b4, b5, b6⟩
    · exact ⟨a4.trans b4.symm, a5.trans b5.symm, a6.trans b6.symm⟩
    · exact absurd a2 b2
    · omega
  · rcases hc' with ⟨b1, b2, b3, b4, b5, b6⟩ | ⟨b1, b2, b4, b5, b6⟩ | ⟨b1, b4, b5, b6⟩
    · exact absurd b2 a2
    · exact ⟨a4.trans b4.symm, a5.trans b5.symm, a6.trans b6.symm⟩
    · omega
  · rcases hc' with ⟨b1, b2, b3, b4, b5, b6⟩ | ⟨b1, b2, b4, b5, b6⟩ | ⟨b1, b4, b5, b6⟩
    · omega
    · omega
    · exact ⟨a4.trans b4.symm, a5.trans b5.symm, a6.trans b6.symm⟩
theorem rdS_bd {n : Nat} {fa c : Nat → Int32} {s0 day : Int32} {fr to : Nat → Int32} (hn : n ≤ 8) (hs : Bd s0 (2 ^ n)) : ∀ {i : Nat}, (∀ k, k < i → fa k = 0 ∧ sayQ n (c k) (rdS c s0 k) day fr to = 0) → Bd (rdS c s0 i) (2 ^ n)
  | 0, _ => hs
  | i + 1, h => by
    have ih := rdS_bd hn hs (i := i) (fun k hk => h k (by omega))
    obtain ⟨j, hj, e⟩ := (cOK_iff (by omega)).mp (sayQ_ok (h i (by omega)).2)
    rw [rdS, e]
    exact bd_or1 ih hn hj
theorem RdE.bd {m n : Nat} {fa c : Nat → Int32} {s0 day r s : Int32} {fr to : Nat → Int32} {t : Option Int32} (hn : n ≤ 8) (hs : Bd s0 (2 ^ n)) (h : RdE m fa c n s0 day fr to r s t) : Bd s (2 ^ n) := by
  obtain ⟨i, ⟨hi, hp⟩, hc⟩ := h
  rcases hc with ⟨a1, a2, a3, a4, rfl, a5⟩ | ⟨a1, a2, a3, rfl, a5⟩ | ⟨a1, a2, rfl, a4⟩
  · exact hs
  · exact rdS_bd hn hs hp
  · exact rdS_bd hn hs hp
theorem op_read {I : Wo} (h : Inv I) (k lane f c : Int32) : OpI yX6_read cX6_read 10 2 45 yX7_read cX7_read 11 3 68 [.int k, .int lane, .int f, .int c] I := by
  obtain ⟨n, hI⟩ := id h
  obtain ⟨n8, nM, ⟨s1, sL, sF, sY, ⟨sd, sdB⟩, se, sy, sp, sn⟩, tr⟩ := hI.view
  have c1 := ct_X6_read s1 n8 hI.sh1 k lane f c
  by_cases hw : (wi k 0 3 && wi lane 0 2 && wi c 0 20) = true
  · obtain ⟨hw1, hwc⟩ := Bool.and_eq_true_iff.mp hw
    obtain ⟨hwk, hwl⟩ := Bool.and_eq_true_iff.mp hw1
    obtain ⟨j, hj, rfl⟩ := (wi_iff (m := 3) (by decide)).mp hwk
    obtain ⟨m, hm, rfl⟩ := (wi_iff (m := 20) (by decide)).mp hwc
    by_cases hE : ∃ r s t, RdE m (fun k => faF lane (I (42 + 2 * j) 1) (I (42 + 2 * j) 2) (f + nI k)) (fun k => I (43 + 2 * j) (f + nI k).toNatClampNeg) n (I 1 12) (I 1 11) (I 3) (I 4) r s t
    · obtain ⟨r0, s0, t0, hE⟩ := hE
      refine ⟨r0, fun u => u = rdU I 1 12 0 11 s0 t0, c1.monoI ?_, fun u hu => ?_⟩
      · rintro r u (⟨e, -⟩ | ⟨j', m', b1, b2, b3, b4, b5, s, t, b6, b7⟩)
        · rw [hw] at e; cases e
        · have ej : j' = j := (nI_eq (by omega) (by omega)).mp b3.symm
          have em : m' = m := (nI_eq (by omega) (by omega)).mp b4.symm
          subst ej; subst em
          obtain ⟨q1, q2, q3⟩ := b6.uniq hE
          exact ⟨q1, by rw [b7, q2, q3]⟩
      · have hrow : ∀ a, a ≠ 0 → a ≠ 1 → u a = I a := by
          intro a h0 h1
          rw [hu]
          cases t0 with
          | none => rfl
          | some x => exact (w2_row _ _ h0).trans (w2_row _ _ h1)
        have c2 := ct_X7_read (I := u) (n := n) (by rw [hrow 57 (by decide) (by decide)]; exact nM) n8 (fun j hj => by rw [hrow 70 (by decide) (by decide), hrow 71 (by decide) (by decide)]; exact hI.sh2 j hj) (nI j) lane f (nI m)
        rw [hrow 58 (by decide) (by decide), hrow 61 (by decide) (by decide), hrow 62 (by decide) (by decide), hrow 70 (by decide) (by decide), hrow 71 (by decide) (by decide), hrow 72 (by decide) (by decide), sd] at c2
        refine c2.monoI ?_
        rintro r u' (⟨e, -⟩ | ⟨j', m', b1, b2, b3, b4, b5, s, t, b6, b7⟩)
        · rw [hw] at e; cases e
        · have ej : j' = j := (nI_eq (by omega) (by omega)).mp b3.symm
          have em : m' = m := (nI_eq (by omega) (by omega)).mp b4.symm
          subst ej; subst em
          have b6 := RdE.congr (fa' := fun k => faF lane (I (42 + 2 * j') 1) (I (42 + 2 * j') 2) (f + nI k)) (c' := fun k => I (43 + 2 * j') (f + nI k).toNatClampNeg) (day' := I 1 11) (fr' := I 3) (to' := I 4) (fun k hk => ?_) (fun k hk hk0 => ?_) (fun x y => hI.say x y) b6
          · obtain ⟨q1, q2, q3⟩ := b6.uniq hE
            refine ⟨q1, ?_⟩
            have hB := b6.bd n8 sdB
            subst q2; subst q3
            cases t with
            | none =>
              have e : u' = I := b7.trans hu
              rw [e]; exact h
            | some x =>
              have hu2 : u = w2 (w2 I 1 12 s) 0 11 x := hu
              have hu3 : u' = w2 (w2 u 58 24 s) 57 28 x := b7
              have hI2 : InvN (w2 (w2 I 0 11 x) 57 28 x) n := inv_torn hI (fun k j hk => by rw [w2_get, w2_get, if_neg (by omega), if_neg (by omega)]) rfl
              refine ⟨n, inv_said hI2 (v := s) hB ?_ ?_ ?_⟩
              · rw [hu3, hu2, w2_cell _ _ (by decide), w2_cell _ _ (by decide), w2_cell _ _ (by decide), w2_same]
              · rw [hu3, w2_cell _ _ (by decide), w2_same]
              · intro k j hk
                rw [hu3, hu2]
                simp only [w2_get]
                by_cases e1 : k = 57 ∧ j = 28
                · rw [if_pos e1, if_pos e1]
                · rw [if_neg e1, if_neg e1, if_neg (by omega)]
                  by_cases e2 : k = 0 ∧ j = 11
                  · rw [if_pos e2, if_pos e2]
                  · rw [if_neg e2, if_neg e2, if_neg (by omega)]
          · show faM lane (I 70 j') (I 71 j') f k = faF lane (I (42 + 2 * j') 1) (I (42 + 2 * j') 2) (f + nI k)
            rcases hI.2.2.2.2.2.2.2.2 j' (by omega) with ⟨e1, e2⟩ | ⟨z, z1, z2, z3, z4, ⟨l, l3, z5⟩, z6⟩
            · rw [faM, faF, if_pos e1, if_pos e2]
            · rw [faM, faF, z2, z3, z4, z5, if_neg (nI_ne4 (by omega)), if_neg (nI_nm1 (by omega))]
              by_cases el : nI l = lane
              · rw [if_pos el, if_pos el.symm, fa_z (by omega) z1]
              · rw [if_neg el, if_neg (Ne.symm el)]
          · show I 72 (40 * j' + (f + nI k).toNatClampNeg) = I (43 + 2 * j') (f + nI k).toNatClampNeg
            obtain ⟨y, z, g1, g2, g3, g4⟩ := fam_ok (by omega) (hI.sh2 j' (by omega)) hk0
            rw [g3, nI_clamp (by omega)]
            rcases hI.2.2.2.2.2.2.2.2 j' (by omega) with ⟨e1, e2⟩ | ⟨z', z1, z2, z3, z4, z5, z6⟩
            · have hk0 : faM lane (I 70 j') (I 71 j') f k = 0 := hk0
              rw [faM, if_pos e2] at hk0
              exact absurd hk0 (by decide)
            · exact z6 y (by omega)
    · refine ⟨0, fun _ => False, c1.monoI ?_, fun u hu => hu.elim⟩
      rintro r u (⟨e, -⟩ | ⟨j', m', b1, b2, b3, b4, b5, s, t, b6, b7⟩)
      · rw [hw] at e; cases e
      · have ej : j' = j := (nI_eq (by omega) (by omega)).mp b3.symm
        have em : m' = m := (nI_eq (by omega) (by omega)).mp b4.symm
        subst ej; subst em
        exact absurd ⟨r, s, t, b6⟩ hE
  · have no : ∀ j m : Nat, j < 4 → m ≤ 20 → k = nI j → c = nI m → wi lane 0 2 = true → False := by
      rintro j m hj hm rfl rfl hl
      refine hw ?_
      have w3 : wi (nI j) 0 3 = true := (wi_iff (m := 3) (by decide)).mpr ⟨j, by omega, rfl⟩
      have w20 : wi (nI m) 0 20 = true := (wi_iff (m := 20) (by decide)).mpr ⟨m, hm, rfl⟩
      rw [hl, w3, w20]
      rfl
    refine ⟨-1, fun u => I = u, c1.monoI ?_, ?_⟩
    · rintro r u (⟨e, e2, e3⟩ | ⟨j, m, b1, b2, b3, b4, b5, -⟩)
      · exact ⟨e2, e3⟩
      · exact (no j m b1 b2 b3 b4 b5).elim
    · rintro u rfl
      refine (ct_X7_read nM n8 hI.sh2 k lane f c).monoI ?_
      rintro r u (⟨e, e2, e3⟩ | ⟨j, m, b1, b2, b3, b4, b5, -⟩)
      · exact ⟨e2, e3 ▸ h⟩
      · exact (no j m b1 b2 b3 b4 b5).elim
end

def AbsL (x : Int64) (t : Nat) : Prop := t < 2 ^ 63 ∧ (if 0 < x then x else -x) = lN t ∧ (if 0 ≤ x then x else -x) = lN t
def lowF (top bot g : Int64) (what : Int32) : Int64 := if what = 0 then top / g else bot / g
theorem lN_nn {n : Nat} (h : n < 2 ^ 63) : (0 : Int64) ≤ lN n := by
  rw [Int64.le_iff_toInt_le, pk_lT h]
  exact Int.natCast_nonneg n
theorem absL_nat {n : Nat} (h : n < 2 ^ 63) : AbsL (lN n) n := by
  refine ⟨h, ?_, by rw [if_pos (lN_nn h)]⟩
  by_cases h0 : n = 0
  · subst h0; decide
  · rw [if_pos]
    rw [Int64.lt_iff_toInt_lt, pk_lT h]
    show (0 : Int) < n
    omega
theorem eu_gcd (d r : Nat) : Nat.gcd r (d % r) = Nat.gcd d r := by
  rw [Nat.gcd_comm d r, Nat.gcd_rec r d, Nat.gcd_comm]
theorem eu_step {d r i N : Nat} (hr : 0 < r) (hP : d * r * 2 ^ (i - 1) ≤ N) (h : i = 0 ∨ r < d) : r * (d % r) * 2 ^ (i + 1 - 1) ≤ N := by
  rw [Nat.add_sub_cancel]
  rcases h with h | h
  · subst h
    simp only [Nat.zero_sub, Nat.pow_zero, Nat.mul_one] at hP ⊢
    exact Nat.le_trans (by rw [Nat.mul_comm d r]; exact Nat.mul_le_mul_left r (Nat.mod_le d r)) hP
  · by_cases hi : i = 0
    · subst hi
      simp only [Nat.zero_sub, Nat.pow_zero, Nat.mul_one] at hP ⊢
      exact Nat.le_trans (by rw [Nat.mul_comm d r]; exact Nat.mul_le_mul_left r (Nat.mod_le d r)) hP
    · have e : 2 ^ i = 2 * 2 ^ (i - 1) := by rw [← Nat.pow_succ']; congr 1; omega
      have h2 : 2 * (d % r) ≤ d := by
        have a1 := Nat.mod_lt d hr
        have a2 := Nat.div_add_mod d r
        have a3 : 1 ≤ d / r := (Nat.le_div_iff_mul_le hr).mpr (by omega)
        have a4 : r * 1 ≤ r * (d / r) := Nat.mul_le_mul_left r a3
        omega
      rw [e, show r * (d % r) * (2 * 2 ^ (i - 1)) = r * (2 * (d % r)) * 2 ^ (i - 1) by
        rw [← Nat.mul_assoc, Nat.mul_comm 2 (d % r), ← Nat.mul_assoc]]
      exact Nat.le_trans (Nat.mul_le_mul_right _ (by rw [Nat.mul_comm d r]; exact Nat.mul_le_mul_left r h2)) hP
theorem eu_end {b t d r i : Nat} (hb : b < 2 ^ 62) (ht : t < 2 ^ 63) (hd : 0 < d) (hi : i = 1000) (hP : d * r * 2 ^ (i - 1) ≤ b * t) : r = 0 := by
  subst hi
  rcases Nat.eq_zero_or_pos r with h | h
  · exact h
  · exfalso
    have h1 : 1 ≤ d * r := Nat.mul_pos hd h
    have h2 : b * t ≤ 2 ^ 62 * 2 ^ 63 := Nat.mul_le_mul (by omega) (by omega)
    have h3 : 1 * 2 ^ (1000 - 1) ≤ d * r * 2 ^ (1000 - 1) := Nat.mul_le_mul_right _ h1
    have h4 : 2 ^ 62 * 2 ^ 63 < 1 * 2 ^ (1000 - 1) := by rw [Nat.one_mul, ← Nat.pow_add]; exact Nat.pow_lt_pow_right (by decide) (by decide)
    omega
theorem gcd_ne {b t : Nat} (hb0 : 0 < b) (hb : b < 2 ^ 62) : ¬ lN (Nat.gcd b t) = 0 := by
  have h1 : Nat.gcd b t ≤ b := Nat.gcd_le_left t hb0
  have h2 : 0 < Nat.gcd b t := Nat.gcd_pos_of_pos_left t hb0
  intro z
  have := (pk_lEQ (a := Nat.gcd b t) (b := 0) (by omega) (by decide)).mp z
  omega
/-- the chance of a set of floods, of ten to the days -/
def wN (p : Nat → Bool) (v : Nat) : Nat → Nat
  | 0 => 1
  | i + 1 => wN p v i * (if p i then v else 10 - v)
set_option maxHeartbeats 4000000 in
set_option maxRecDepth 100000 in
theorem ct_X6_lowest {I : Wo} {top : Int64} {b t : Nat} (ha : AbsL top t) (hb0 : 0 < b) (hb : b < 2 ^ 62) (what : Int32) : Ct yX6_lowest cX6_lowest 12 (some .long) 1 21 [.long top, .long (lN b), .int what] I (pL (fun r u => r = lowF top (lN b) (lN (Nat.gcd b t)) what ∧ I = u)) := by
  obtain ⟨ht, habs, -⟩ := id ha
  refine ct_of RX6 rfl (by decide) (Nat.le_of_ble_eq_true rfl) (fun X B E => ?_)
  show GW X 12 0 [some (.long top), none, some (.long (lN b)), none, some (.int what), none, none, none, none, none, none, none] [] _
  refine g_lload_n B dX6_lowest_0 rfl ?_
  refine g_mabs B (by decide) (Nat.le_of_ble_eq_true rfl) dX6_lowest_1 ?_
  rw [habs]
  refine g_lst5 B dX6_lowest_4 (by decide) rfl ?_
  refine g_lload_n B dX6_lowest_6 rfl ?_
  refine g_lst7 B dX6_lowest_7 (by decide) rfl ?_
  refine g_iconst B (v := 0) dX6_lowest_9 (by decide) ?_
  refine g_ist9 B dX6_lowest_10 (by decide) rfl ?_
  have L : ∀ i, i ≤ 1000 → ∀ d r p, Nat.gcd d r = Nat.gcd b t → 0 < d → d < 2 ^ 63 → r < 2 ^ 63 → (i = 0 ∨ r < d) → d * r * 2 ^ (i - 1) ≤ b * t → GW X 12 12 [some (.long top), none, some (.long (lN b)), none, some (.int what), some (.long (lN r)), none, some (.long (lN d)), none, some (.int (nI i)), p, none] [] I := by
    refine loopN 1000 (fun i hi ih d r p hg hd hd2 hr2 hrd hP => ?_)
    refine g_iload B dX6_lowest_12 rfl ?_
    refine g_sipush B (v := 1000) dX6_lowest_14 (by decide) ?_
    refine g_icmp_ge B 48 dX6_lowest_17 (by decide) (fun h17 => ?_) (fun h17 => ?_)
    · have hr0 : r = 0 := eu_end hb ht hd (by have := le_le (a := 1000) (b := i) (by decide) (by omega) h17; omega) hP
      refine g_lload B dX6_lowest_48 rfl ?_
      refine g_lconst B (v := 0) dX6_lowest_50 (by decide) ?_
      refine g_lcmp B dX6_lowest_51 ?_
      refine g_if_ne B 57 dX6_lowest_52 (by decide) (fun h52 => ?_) (fun h52 => ?_)
      · have hdne : ¬ lN d = 0 := fun z => h52 (by rw [lg_cmp_eq]; exact z)
        have hdg : d = Nat.gcd b t := by rw [← hg, hr0, Nat.gcd_zero_right]
        refine g_iload B dX6_lowest_57 rfl ?_
        refine g_if_ne B 66 dX6_lowest_59 (by decide) (fun h59 => ?_) (fun h59 => ?_)
        · refine g_lload_n B dX6_lowest_66 rfl ?_
          refine g_lload B dX6_lowest_67 rfl ?_
          refine g_ldiv B dX6_lowest_69 hdne ?_
          exact g_lret B E dX6_lowest_70 ⟨by rw [hdg]; simp only [lowF, h59, ↓reduceIte], rfl⟩
        · refine g_lload_n B dX6_lowest_62 rfl ?_
          refine g_goto B 67 dX6_lowest_63 (by decide) ?_
          refine g_lload B dX6_lowest_67 rfl ?_
          refine g_ldiv B dX6_lowest_69 hdne ?_
          exact g_lret B E dX6_lowest_70 ⟨by rw [hdg]; simp only [lowF, h59, ↓reduceIte], rfl⟩
      · exact absurd ((pk_lEQ (a := d) (b := 0) hd2 (by decide)).mp ((lg_cmp_eq _ _).mp h52)) (by omega)
    · have hlt : i < 1000 := nle_lt (a := 1000) (by decide) (by omega) h17
      refine g_lload B dX6_lowest_20 rfl ?_
      refine g_lconst B (v := 0) dX6_lowest_22 (by decide) ?_
      refine g_lcmp B dX6_lowest_23 ?_
      refine g_if_eq B 48 dX6_lowest_24 (by decide) (fun h24 => ?_) (fun h24 => ?_)
      · have hr0 : r = 0 := by rw [lg_cmp_eq] at h24; exact (pk_lEQ (b := 0) hr2 (by decide)).mp h24
        refine g_lload B dX6_lowest_48 rfl ?_
        refine g_lconst B (v := 0) dX6_lowest_50 (by decide) ?_
        refine g_lcmp B dX6_lowest_51 ?_
        refine g_if_ne B 57 dX6_lowest_52 (by decide) (fun h52 => ?_) (fun h52 => ?_)
        · have hdne : ¬ lN d = 0 := fun z => h52 (by rw [lg_cmp_eq]; exact z)
          have hdg : d = Nat.gcd b t := by rw [← hg, hr0, Nat.gcd_zero_right]
          refine g_iload B dX6_lowest_57 rfl ?_
          refine g_if_ne B 66 dX6_lowest_59 (by decide) (fun h59 => ?_) (fun h59 => ?_)
          · refine g_lload_n B dX6_lowest_66 rfl ?_
            refine g_lload B dX6_lowest_67 rfl ?_
            refine g_ldiv B dX6_lowest_69 hdne ?_
            exact g_lret B E dX6_lowest_70 ⟨by rw [hdg]; simp only [lowF, h59, ↓reduceIte], rfl⟩
          · refine g_lload_n B dX6_lowest_62 rfl ?_
            refine g_goto B 67 dX6_lowest_63 (by decide) ?_
            refine g_lload B dX6_lowest_67 rfl ?_
            refine g_ldiv B dX6_lowest_69 hdne ?_
            exact g_lret B E dX6_lowest_70 ⟨by rw [hdg]; simp only [lowF, h59, ↓reduceIte], rfl⟩
        · exact absurd ((pk_lEQ (a := d) (b := 0) hd2 (by decide)).mp ((lg_cmp_eq _ _).mp h52)) (by omega)
      · have hr0 : ¬ r = 0 := fun z => h24 (by rw [lg_cmp_eq, z]; rfl)
        refine g_lload B dX6_lowest_27 rfl ?_
        refine g_lload B dX6_lowest_29 rfl ?_
        refine g_lrem B dX6_lowest_31 (fun z => hr0 ((pk_lEQ (b := 0) hr2 (by decide)).mp z)) ?_
        refine g_eql (lN (d % r)) (pk_lRem hd2 (by omega) hr2) ?_
        refine g_lst10 B dX6_lowest_32 (by decide) rfl ?_
        refine g_lload B dX6_lowest_34 rfl ?_
        refine g_lst7 B dX6_lowest_36 (by decide) rfl ?_
        refine g_lload B dX6_lowest_38 rfl ?_
        refine g_lst5 B dX6_lowest_40 (by decide) rfl ?_
        refine g_inc9 B dX6_lowest_42 rfl (inc1 _) (by decide) rfl ?_
        refine g_goto B 12 dX6_lowest_45 (by decide) ?_
        exact ih hlt r (d % r) _ (by rw [← hg]; exact eu_gcd d r) (by omega) (by omega) (by have := Nat.mod_lt d (show r > 0 by omega); omega) (Or.inr (Nat.mod_lt d (by omega))) (eu_step (by omega) hP hrd)
  exact L 0 (Nat.zero_le _) b t _ rfl hb0 (by omega) ht (Or.inl rfl) (Nat.le_of_eq (by simp))
set_option maxHeartbeats 4000000 in
set_option maxRecDepth 100000 in
theorem ct_X7_common {I : Wo} {over : Int64} {b t : Nat} (ha : AbsL over t) (hb0 : 0 < b) (hb : b < 2 ^ 62) : Ct yX7_common cX7_common 10 (some .long) 0 0 [.long (lN b), .long over] I (pL (fun r u => r = lN (Nat.gcd b t) ∧ I = u)) := by
  obtain ⟨ht, -, habs⟩ := id ha
  refine ct_of RX7 rfl (by decide) (Nat.le_of_ble_eq_true rfl) (fun X B E => ?_)
  show GW X 10 0 [some (.long (lN b)), none, some (.long over), none, none, none, none, none, none, none] [] _
  refine g_lload_n B dX7_common_0 rfl ?_
  refine g_lconst B (v := 0) dX7_common_1 (by decide) ?_
  refine g_lcmp B dX7_common_2 ?_
  refine g_if_ge B 11 dX7_common_3 (by decide) (fun h3 => ?_) (fun h3 => ?_)
  · refine g_lload_n B dX7_common_11 rfl ?_
    refine g_lst4 B dX7_common_12 (by decide) rfl ?_
    refine g_lload_n B dX7_common_14 rfl ?_
    refine g_lconst B (v := 0) dX7_common_15 (by decide) ?_
    refine g_lcmp B dX7_common_16 ?_
    refine g_if_ge B 25 dX7_common_17 (by decide) (fun h17 => ?_) (fun h17 => ?_)
    · rw [lg_cmp_ge] at h17
      rw [if_pos h17] at habs
      refine g_lload_n B dX7_common_25 rfl ?_
      rw [habs]
      refine g_lst6 B dX7_common_26 (by decide) rfl ?_
      refine g_drop2 ?_
      have L : ∀ y x p, Nat.gcd x y = Nat.gcd b t → x < 2 ^ 63 → y < 2 ^ 63 → GW X 10 28 [some (.long (lN b)), none, none, none, some (.long (lN x)), none, some (.long (lN y)), none, p, none] [] I := by
        intro y
        induction y using Nat.strongRecOn with
        | _ y ih =>
          intro x p hg hx hy
          refine g_lload B dX7_common_28 rfl ?_
          refine g_lconst B (v := 0) dX7_common_30 (by decide) ?_
          refine g_lcmp B dX7_common_31 ?_
          refine g_if_eq B 53 dX7_common_32 (by decide) (fun h32 => ?_) (fun h32 => ?_)
          · have hy0 : y = 0 := by rw [lg_cmp_eq] at h32; exact (pk_lEQ (b := 0) hy (by decide)).mp h32
            refine g_lload B dX7_common_53 rfl ?_
            exact g_lret B E dX7_common_55 ⟨by rw [← hg, hy0, Nat.gcd_zero_right], rfl⟩
          · have hy0 : ¬ y = 0 := fun z => h32 (by rw [lg_cmp_eq, z]; rfl)
            refine g_lload B dX7_common_35 rfl ?_
            refine g_lload B dX7_common_37 rfl ?_
            refine g_lrem B dX7_common_39 (fun z => hy0 ((pk_lEQ (b := 0) hy (by decide)).mp z)) ?_
            refine g_eql (lN (x % y)) (pk_lRem hx (by omega) hy) ?_
            refine g_lst8 B dX7_common_40 (by decide) rfl ?_
            refine g_lload B dX7_common_42 rfl ?_
            refine g_lst4 B dX7_common_44 (by decide) rfl ?_
            refine g_lload B dX7_common_46 rfl ?_
            refine g_lst6 B dX7_common_48 (by decide) rfl ?_
            refine g_goto B 28 dX7_common_50 (by decide) ?_
            exact ih (x % y) (Nat.mod_lt x (by omega)) y _ (by rw [← hg]; exact eu_gcd x y) hy (by have := Nat.mod_lt x (show y > 0 by omega); omega)
      exact L t b _ rfl (by omega) ht
    · rw [lg_cmp_ge] at h17
      rw [if_neg h17] at habs
      refine g_lload_n B dX7_common_20 rfl ?_
      refine g_lneg B dX7_common_21 ?_
      rw [habs]
      refine g_goto B 26 dX7_common_22 (by decide) ?_
      refine g_lst6 B dX7_common_26 (by decide) rfl ?_
      refine g_drop2 ?_
      have L : ∀ y x p, Nat.gcd x y = Nat.gcd b t → x < 2 ^ 63 → y < 2 ^ 63 → GW X 10 28 [some (.long (lN b)), none, none, none, some (.long (lN x)), none, some (.long (lN y)), none, p, none] [] I := by
        intro y
        induction y using Nat.strongRecOn with
        | _ y ih =>
          intro x p hg hx hy
          refine g_lload B dX7_common_28 rfl ?_
          refine g_lconst B (v := 0) dX7_common_30 (by decide) ?_
          refine g_lcmp B dX7_common_31 ?_
          refine g_if_eq B 53 dX7_common_32 (by decide) (fun h32 => ?_) (fun h32 => ?_)
          · have hy0 : y = 0 := by rw [lg_cmp_eq] at h32; exact (pk_lEQ (b := 0) hy (by decide)).mp h32
            refine g_lload B dX7_common_53 rfl ?_
            exact g_lret B E dX7_common_55 ⟨by rw [← hg, hy0, Nat.gcd_zero_right], rfl⟩
          · have hy0 : ¬ y = 0 := fun z => h32 (by rw [lg_cmp_eq, z]; rfl)
            refine g_lload B dX7_common_35 rfl ?_
            refine g_lload B dX7_common_37 rfl ?_
            refine g_lrem B dX7_common_39 (fun z => hy0 ((pk_lEQ (b := 0) hy (by decide)).mp z)) ?_
            refine g_eql (lN (x % y)) (pk_lRem hx (by omega) hy) ?_
            refine g_lst8 B dX7_common_40 (by decide) rfl ?_
            refine g_lload B dX7_common_42 rfl ?_
            refine g_lst4 B dX7_common_44 (by decide) rfl ?_
            refine g_lload B dX7_common_46 rfl ?_
            refine g_lst6 B dX7_common_48 (by decide) rfl ?_
            refine g_goto B 28 dX7_common_50 (by decide) ?_
            exact ih (x % y) (Nat.mod_lt x (by omega)) y _ (by rw [← hg]; exact eu_gcd x y) hy (by have := Nat.mod_lt x (show y > 0 by omega); omega)
      exact L t b _ rfl (by omega) ht
  · exact absurd ((lg_cmp_ge _ _).mpr (lN_nn (by omega))) h3
set_option maxHeartbeats 4000000 in
set_option maxRecDepth 100000 in
theorem ct_X7_told {I : Wo} {top : Int64} {b t : Nat} (ha : AbsL top t) (hb0 : 0 < b) (hb : b < 2 ^ 62) (what : Int32) : Ct yX7_told cX7_told 7 (some .long) 1 29 [.long top, .long (lN b), .int what] I (pL (fun r u => r = lowF top (lN b) (lN (Nat.gcd b t)) what ∧ I = u)) := by
  refine ct_of RX7 rfl (by decide) (Nat.le_of_ble_eq_true rfl) (fun X B E => ?_)
  show GW X 7 0 [some (.long top), none, some (.long (lN b)), none, some (.int what), none, none] [] _
  refine g_lload_n B dX7_told_0 rfl ?_
  refine g_lload_n B dX7_told_1 rfl ?_
  refine g_callSL B (ct_X7_common ha hb0 hb) ml_X7_216 mm_X7_common rfl rfl (Nat.le_of_ble_eq_true rfl) dX7_told_2 (by decide) ?_
  rintro _ _ ⟨rfl, rfl⟩
  refine g_lst5 B dX7_told_5 (by decide) rfl ?_
  refine g_iload B dX7_told_7 rfl ?_
  refine g_if_ne B 19 dX7_told_9 (by decide) (fun h9 => ?_) (fun h9 => ?_)
  · refine g_lload_n B dX7_told_19 rfl ?_
    refine g_lload B dX7_told_20 rfl ?_
    refine g_ldiv B dX7_told_22 (gcd_ne hb0 hb) ?_
    exact g_lret B E dX7_told_23 ⟨by simp only [lowF, h9, ↓reduceIte], rfl⟩
  · refine g_lload_n B dX7_told_12 rfl ?_
    refine g_lload B dX7_told_13 rfl ?_
    refine g_ldiv B dX7_told_15 (gcd_ne hb0 hb) ?_
    refine g_goto B 23 dX7_told_16 (by decide) ?_
    exact g_lret B E dX7_told_23 ⟨by simp only [lowF, h9, ↓reduceIte], rfl⟩
set_option maxHeartbeats 4000000 in
set_option maxRecDepth 100000 in
theorem ct_X6_weight {I : Wo} {q v : Nat} (hq : I 1 13 = nI q) (hq6 : q ≤ 6) (hv : v ≤ 10) (fl : Int32) : Ct yX6_weight cX6_weight 6 (some .long) 0 0 [.ref 0, .int fl, .int (nI v)] I (pL (fun r u => r = lN (wN (fun i => decide ((fl >>> (nI i &&& 31)) &&& 1 = 1)) v q) ∧ I = u)) := by
  refine ct_of RX6 rfl (by decide) (Nat.le_of_ble_eq_true rfl) (fun X B E => ?_)
  show GW X 6 0 [some (.ref 0), some (.int fl), some (.int (nI v)), none, none, none] [] _
  refine g_lconst B (v := 1) dX6_weight_0 (by decide) ?_
  refine g_lstn3 B dX6_weight_1 (by decide) rfl ?_
  refine g_iconst B (v := 0) dX6_weight_2 (by decide) ?_
  refine g_ist5 B dX6_weight_3 (by decide) rfl ?_
  have L5 : ∀ i, i ≤ q → ∀ x, x = lN (wN (fun i => decide ((fl >>> (nI i &&& 31)) &&& 1 = 1)) v i) → GW X 6 5 [some (.ref 0), some (.int fl), some (.int (nI v)), some (.long x), none, some (.int (nI i))] [] I := by
    refine loopN (q) (fun i hi ih x hx => ?_)
    refine g_iload B dX6_weight_5 rfl ?_
    refine g_aload_n B dX6_weight_7 rfl ?_
    refine g_getr B ci_X6 (by first | rfl | assumption) rfl (by decide) fl_X6_10 dX6_weight_8 ?_
    refine g_geti B ci_X3 (by first | rfl | assumption) rfl (by decide) fl_X6_111 dX6_weight_11 ?_
    refine g_icmp_ge B 46 dX6_weight_14 (by decide) (fun h14 => ?_) (fun h14 => ?_)
    · have hi2 : i = q := by have := le_le (a := q) (b := i) (by omega) (by omega) (by rw [← hq]; exact h14); omega
      refine g_lload_n B dX6_weight_46 rfl ?_
      exact g_lret B E dX6_weight_47 ⟨by rw [hx, hi2], rfl⟩
    · have hlt : i < q := nle_lt (by omega) (by omega) (by rw [← hq]; exact h14)
      refine g_lload_n B dX6_weight_17 rfl ?_
      refine g_iload_n B dX6_weight_18 rfl ?_
      refine g_iload B dX6_weight_19 rfl ?_
      refine g_ishr B dX6_weight_21 ?_
      refine g_iconst B (v := 1) dX6_weight_22 (by decide) ?_
      refine g_iand B dX6_weight_23 ?_
      refine g_iconst B (v := 1) dX6_weight_24 (by decide) ?_
      refine g_icmp_ne B 33 dX6_weight_25 (by decide) (fun h25 => ?_) (fun h25 => ?_)
      · refine g_bipush B (v := 10) dX6_weight_33 (by decide) ?_
        refine g_iload_n B dX6_weight_35 rfl ?_
        refine g_isub B dX6_weight_36 ?_
        refine g_i2l B dX6_weight_37 ?_
        rw [show (10 : Int32) = nI 10 from rfl, pk_sub hv, nI_l (show 10 - v < 2 ^ 31 by omega)]
        refine g_lmul B dX6_weight_38 ?_
        refine g_lstn3 B dX6_weight_39 (by decide) rfl ?_
        refine g_inc5 B dX6_weight_40 rfl (inc1 _) (by decide) rfl ?_
        refine g_goto B 5 dX6_weight_43 (by decide) ?_
        exact ih hlt _ (by rw [hx, wN]; simp only [h25, decide_true, decide_false, ↓reduceIte, Bool.false_eq_true, lN_mul])
      · refine g_iload_n B dX6_weight_28 rfl ?_
        refine g_i2l B dX6_weight_29 ?_
        rw [nI_l (show v < 2 ^ 31 by omega)]
        refine g_goto B 38 dX6_weight_30 (by decide) ?_
        refine g_lmul B dX6_weight_38 ?_
        refine g_lstn3 B dX6_weight_39 (by decide) rfl ?_
        refine g_inc5 B dX6_weight_40 rfl (inc1 _) (by decide) rfl ?_
        refine g_goto B 5 dX6_weight_43 (by decide) ?_
        exact ih hlt _ (by rw [hx, wN]; simp only [h25, decide_true, decide_false, ↓reduceIte, Bool.false_eq_true, lN_mul])
  exact L5 0 (Nat.zero_le _) _ rfl

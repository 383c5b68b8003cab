def triF (what a b c d : Int32) : Int32 := if what = 0 then a else if what = 1 then b else if what = 2 then c else d
theorem tri_3 {what : Int32} (h : wi what 0 3 = true) (h0 : ¬ what = 0) (h1 : ¬ what = 1) (h2 : ¬ what = 2) : what = 3 := by
  obtain ⟨j, hj, rfl⟩ := (wi_iff (m := 3) (by decide)).mp h
  rcases (show j = 0 ∨ j = 1 ∨ j = 2 ∨ j = 3 by omega) with rfl | rfl | rfl | rfl
  · exact absurd rfl h0
  · exact absurd rfl h1
  · exact absurd rfl h2
  · rfl
theorem wi_out3 {what : Int32} (h0 : ¬ what = 0) (h1 : ¬ what = 1) (h2 : ¬ what = 2) (h3 : ¬ what = 3) : wi what 0 3 = false := by
  cases h : wi what 0 3 with
  | false => rfl
  | true => exact absurd (tri_3 h h0 h1 h2) h3
def gdN (es : Nat → Bool) (w : Nat → Nat) : Nat → Nat
  | 0 => 0
  | k + 1 => if es k then gdN es w k + w k else gdN es w k
theorem pow6 {q : Nat} (h : q ≤ 6) : 2 ^ q ≤ 64 := by
  rcases (show q = 0 ∨ q = 1 ∨ q = 2 ∨ q = 3 ∨ q = 4 ∨ q = 5 ∨ q = 6 by omega) with rfl | rfl | rfl | rfl | rfl | rfl | rfl <;> decide
theorem ten6 {q : Nat} (h : q ≤ 6) : 10 ^ q ≤ 1000000 := by
  rcases (show q = 0 ∨ q = 1 ∨ q = 2 ∨ q = 3 ∨ q = 4 ∨ q = 5 ∨ q = 6 by omega) with rfl | rfl | rfl | rfl | rfl | rfl | rfl <;> decide
theorem ten_pos (q : Nat) : 0 < 10 ^ q := Nat.pow_pos (by decide)
theorem wN_le (p : Nat → Bool) {v : Nat} (hv : v ≤ 10) : ∀ i, wN p v i ≤ 10 ^ i
  | 0 => Nat.le_refl _
  | i + 1 => by
    rw [wN, Nat.pow_succ]
    exact Nat.mul_le_mul (wN_le p hv i) (by split <;> omega)
theorem gdN_le (es : Nat → Bool) {w : Nat → Nat} {m : Nat} (h : ∀ k, w k ≤ m) : ∀ k, gdN es w k ≤ k * m
  | 0 => Nat.zero_le _
  | k + 1 => by
    have h1 := gdN_le es h k
    have h2 := h k
    rw [gdN, Nat.succ_mul]
    split <;> omega
theorem gd_lt {es : Nat → Bool} {p : Nat → Nat → Bool} {v q : Nat} (hq : q ≤ 6) (hv : v ≤ 10) : gdN es (fun k => wN (p k) v q) (2 ^ q) < 2 ^ 63 := by
  have h1 := gdN_le es (w := fun k => wN (p k) v q) (m := 10 ^ q) (fun k => wN_le (p k) hv q) (2 ^ q)
  have h2 := pow6 hq
  have h3 := ten6 hq
  have h4 : 2 ^ q * 10 ^ q ≤ 64 * 1000000 := Nat.mul_le_mul h2 h3
  omega
set_option maxHeartbeats 4000000 in
set_option maxRecDepth 100000 in
theorem ct_X6_trial {I : Wo} {n q : Nat} (hn : I 1 9 = nI n) (hn8 : n ≤ 8) (hq : I 1 13 = nI q) (hq6 : q ≤ 6) (hpl : ∀ i, i < q → Bd (I 8 i) n) (what : Int32) : Ct yX6_trial cX6_trial 2 (some .int) 2 47 [.ref 0, .int what] I (pI (fun r u => r = (if wi what 0 3 then triF what (stF (I 6) (I 7) (trF (fun i => decide (((0 : Int32) >>> (nI i &&& 31)) &&& 1 = 1)) (I 1 11) (I 8) (I 3) (I 4) (I 1 12) q).1 n) (if n = 0 then -4 else bI (esF n (I 6) (I 7) (I 1 10) (trF (fun i => decide (((0 : Int32) >>> (nI i &&& 31)) &&& 1 = 1)) (I 1 11) (I 8) (I 3) (I 4) (I 1 12) q).1)) (trF (fun i => decide (((0 : Int32) >>> (nI i &&& 31)) &&& 1 = 1)) (I 1 11) (I 8) (I 3) (I 4) (I 1 12) q).2.1 (trF (fun i => decide (((0 : Int32) >>> (nI i &&& 31)) &&& 1 = 1)) (I 1 11) (I 8) (I 3) (I 4) (I 1 12) q).2.2 else -1) ∧ ∀ x y, x ≠ 50 → u x y = I x y)) := by
  refine ct_of RX6 rfl (by decide) (Nat.le_of_ble_eq_true rfl) (fun X B E => ?_)
  show GW X 2 0 [some (.ref 0), some (.int what)] [] _
  refine g_iload_n B dX6_trial_0 rfl ?_
  refine g_iconst B (v := 0) dX6_trial_1 (by decide) ?_
  refine g_iconst B (v := 3) dX6_trial_2 (by decide) ?_
  refine g_callSI B (ct_X6_within _ _ _) ml_X6_66 mm_X6_within rfl rfl (Nat.le_of_ble_eq_true rfl) dX6_trial_3 (by decide) ?_
  rintro _ _ ⟨rfl, rfl⟩
  refine g_if_ne B 11 dX6_trial_6 (by decide) (fun h6 => ?_) (fun h6 => ?_)
  · rw [bI_ne0] at h6
    refine g_aload_n B dX6_trial_11 rfl ?_
    refine g_getr B ci_X6 (by first | rfl | assumption) rfl (by decide) fl_X6_44 dX6_trial_12 ?_
    refine g_aload_n B dX6_trial_15 rfl ?_
    refine g_getr B ci_X6 (by first | rfl | assumption) rfl (by decide) fl_X6_10 dX6_trial_16 ?_
    refine g_iconst B (v := 0) dX6_trial_19 (by decide) ?_
    refine g_callVV B (ct_X5_hold hn8 hq hq6 hpl _) (by first | rfl | assumption) rfl ml_X6_170 mm_X5_hold rfl rfl (Nat.le_of_ble_eq_true rfl) dX6_trial_20 (by decide) ?_
    rintro u ⟨hu1, hu⟩
    have hn2 : u 1 9 = nI n := by rw [hu 1 9 (by decide)]; exact hn
    have e0 : u 50 0 = (trF (fun i => decide (((0 : Int32) >>> (nI i &&& 31)) &&& 1 = 1)) (I 1 11) (I 8) (I 3) (I 4) (I 1 12) q).1 := by rw [← hu1]
    have e1 : u 50 1 = (trF (fun i => decide (((0 : Int32) >>> (nI i &&& 31)) &&& 1 = 1)) (I 1 11) (I 8) (I 3) (I 4) (I 1 12) q).2.1 := by rw [← hu1]
    have e2 : u 50 2 = (trF (fun i => decide (((0 : Int32) >>> (nI i &&& 31)) &&& 1 = 1)) (I 1 11) (I 8) (I 3) (I 4) (I 1 12) q).2.2 := by rw [← hu1]
    refine g_iload_n B dX6_trial_23 rfl ?_
    by_cases h24_0 : what = 0
    · refine g_tableIn B 52 dX6_trial_24 (by rw [h24_0]; decide) (by rw [h24_0]; decide) (by rw [h24_0]; rfl) (by decide) ?_
      refine g_aload_n B dX6_trial_52 rfl ?_
      refine g_getr B ci_X6 (by first | rfl | assumption) rfl (by decide) fl_X6_10 dX6_trial_53 ?_
      refine g_aload_n B dX6_trial_56 rfl ?_
      refine g_getr B ci_X6 (by first | rfl | assumption) rfl (by decide) fl_X6_44 dX6_trial_57 ?_
      refine g_geti B ci_X5 (by first | rfl | assumption) rfl (by decide) fl_X6_174 dX6_trial_60 ?_
      refine g_callVI B (cs_X3_standing hn2 hn8 _) (by first | rfl | assumption) rfl ml_X6_107 mm_X3_standing rfl rfl (Nat.le_of_ble_eq_true rfl) dX6_trial_63 (by decide) ?_
      rintro _ _ ⟨rfl, rfl⟩
      exact g_iret B E rfl dX6_trial_66 ⟨by rw [if_pos h6, e0, show u 6 = I 6 from funext fun y => hu 6 y (by decide), show u 7 = I 7 from funext fun y => hu 7 y (by decide)]; simp only [triF, h24_0, ↓reduceIte], hu⟩
    by_cases h24_1 : what = 1
    · refine g_tableIn B 67 dX6_trial_24 (by rw [h24_1]; decide) (by rw [h24_1]; decide) (by rw [h24_1]; rfl) (by decide) ?_
      refine g_aload_n B dX6_trial_67 rfl ?_
      refine g_getr B ci_X6 (by first | rfl | assumption) rfl (by decide) fl_X6_10 dX6_trial_68 ?_
      refine g_geti B ci_X3 (by first | rfl | assumption) rfl (by decide) fl_X6_95 dX6_trial_71 ?_
      refine g_if_ne B 82 dX6_trial_74 (by decide) (fun h74 => ?_) (fun h74 => ?_)
      · have hz : ¬ n = 0 := fun q => h74 (by rw [hn2, q]; rfl)
        refine g_aload_n B dX6_trial_82 rfl ?_
        refine g_getr B ci_X6 (by first | rfl | assumption) rfl (by decide) fl_X6_10 dX6_trial_83 ?_
        refine g_aload_n B dX6_trial_86 rfl ?_
        refine g_getr B ci_X6 (by first | rfl | assumption) rfl (by decide) fl_X6_44 dX6_trial_87 ?_
        refine g_geti B ci_X5 (by first | rfl | assumption) rfl (by decide) fl_X6_174 dX6_trial_90 ?_
        refine g_callVI B (cs_X3_endStands hn2 hn8 _) (by first | rfl | assumption) rfl ml_X6_175 mm_X3_endStands rfl rfl (Nat.le_of_ble_eq_true rfl) dX6_trial_93 (by decide) ?_
        rintro _ _ ⟨rfl, rfl⟩
        refine g_callSI B (ct_X6_oneIf _) ml_X6_178 mm_X6_oneIf rfl rfl (Nat.le_of_ble_eq_true rfl) dX6_trial_96 (by decide) ?_
        rintro _ _ ⟨rfl, rfl⟩
        exact g_iret B E rfl dX6_trial_99 ⟨by rw [if_pos h6]; simp only [triF, h24_1, hz, e0, hu 1 10 (by decide), show u 6 = I 6 from funext fun y => hu 6 y (by decide), show u 7 = I 7 from funext fun y => hu 7 y (by decide), ↓reduceIte]; try rfl, hu⟩
      · have hz : n = 0 := (nI_eq (by omega) (by decide)).mp (by rw [← hn2]; exact h74)
        refine g_bipush B (v := (-4)) dX6_trial_77 (by decide) ?_
        refine g_goto B 99 dX6_trial_79 (by decide) ?_
        exact g_iret B E rfl dX6_trial_99 ⟨by rw [if_pos h6]; simp only [triF, h24_1, hz, e0, hu 1 10 (by decide), show u 6 = I 6 from funext fun y => hu 6 y (by decide), show u 7 = I 7 from funext fun y => hu 7 y (by decide), ↓reduceIte]; try rfl, hu⟩
    by_cases h24_2 : what = 2
    · refine g_tableIn B 100 dX6_trial_24 (by rw [h24_2]; decide) (by rw [h24_2]; decide) (by rw [h24_2]; rfl) (by decide) ?_
      refine g_aload_n B dX6_trial_100 rfl ?_
      refine g_getr B ci_X6 (by first | rfl | assumption) rfl (by decide) fl_X6_44 dX6_trial_101 ?_
      refine g_geti B ci_X5 (by first | rfl | assumption) rfl (by decide) fl_X6_182 dX6_trial_104 ?_
      exact g_iret B E rfl dX6_trial_107 ⟨by rw [if_pos h6, e1, h24_2]; rfl, hu⟩
    refine g_tableOut B 108 dX6_trial_24 (by have z0 := lv_neT h24_0 (a := 0) rfl; have z1 := lv_neT h24_1 (a := 1) rfl; have z2 := lv_neT h24_2 (a := 2) rfl; omega) (by decide) ?_
    refine g_aload_n B dX6_trial_108 rfl ?_
    refine g_getr B ci_X6 (by first | rfl | assumption) rfl (by decide) fl_X6_44 dX6_trial_109 ?_
    refine g_geti B ci_X5 (by first | rfl | assumption) rfl (by decide) fl_X6_185 dX6_trial_112 ?_
    exact g_iret B E rfl dX6_trial_115 ⟨by rw [if_pos h6, e2, tri_3 h6 h24_0 h24_1 h24_2]; rfl, hu⟩
  · rw [bI_eq0] at h6
    refine g_iconst B (v := (-1)) dX6_trial_9 (by decide) ?_
    exact g_iret B E rfl dX6_trial_10 ⟨by simp [*], fun _ _ _ => rfl⟩
set_option maxHeartbeats 4000000 in
set_option maxRecDepth 100000 in
theorem ct_X7_trial {I : Wo} {n q dd : Nat} (hn : I 57 2 = nI n) (hn8 : n ≤ 8) (he : cOK n (I 58 25) = decide (0 < n)) (hq : I 58 27 = nI q) (hq6 : q ≤ 6) (hpl : ∀ i, i < q → Bd (I 58 (28 + i)) n) (hto : ∀ c, c < n → Bd (I 62 c) 10) (hdd : I 58 26 = nI dd) (hd9 : dd ≤ 9) (what : Int32) : Ct yX7_trial cX7_trial 3 (some .int) 3 73 [.ref 57, .int what] I (pI (fun r u => r = (if wi what 0 3 then triF what (stF (I 58) (fun c => I 58 (8 + c)) (trF (fun i => decide (((0 : Int32) >>> (nI i &&& 31)) &&& 1 = 1)) (I 58 26) (fun i => I 58 (28 + i)) (I 61) (I 62) (I 58 24) q).1 n) (if n = 0 then -4 else bI (esF n (I 58) (fun c => I 58 (8 + c)) (I 58 25) (trF (fun i => decide (((0 : Int32) >>> (nI i &&& 31)) &&& 1 = 1)) (I 58 26) (fun i => I 58 (28 + i)) (I 61) (I 62) (I 58 24) q).1)) (trF (fun i => decide (((0 : Int32) >>> (nI i &&& 31)) &&& 1 = 1)) (I 58 26) (fun i => I 58 (28 + i)) (I 61) (I 62) (I 58 24) q).2.1 (trF (fun i => decide (((0 : Int32) >>> (nI i &&& 31)) &&& 1 = 1)) (I 58 26) (fun i => I 58 (28 + i)) (I 61) (I 62) (I 58 24) q).2.2 else -1) ∧ ∀ x y, ¬ (x = 57 ∧ (y = 22 ∨ y = 23)) → u x y = I x y)) := by
  refine ct_of RX7 rfl (by decide) (Nat.le_of_ble_eq_true rfl) (fun X B E => ?_)
  show GW X 3 0 [some (.ref 57), some (.int what), none] [] _
  refine g_aload_n B dX7_trial_0 rfl ?_
  refine g_iconst B (v := 0) dX7_trial_1 (by decide) ?_
  refine g_callVI B (ct_X7_tries hn8 hq hq6 hpl hto hdd hd9 _) (by first | rfl | assumption) rfl ml_X7_213 mm_X7_tries rfl rfl (Nat.le_of_ble_eq_true rfl) dX7_trial_2 (by decide) ?_
  rintro s u ⟨hu1, hu⟩
  have hn2 : u 57 2 = nI n := by rw [hu 57 2 (by omega)]; exact hn
  have e0 : s = (trF (fun i => decide (((0 : Int32) >>> (nI i &&& 31)) &&& 1 = 1)) (I 58 26) (fun i => I 58 (28 + i)) (I 61) (I 62) (I 58 24) q).1 := by rw [← hu1]
  have e1 : u 57 22 = (trF (fun i => decide (((0 : Int32) >>> (nI i &&& 31)) &&& 1 = 1)) (I 58 26) (fun i => I 58 (28 + i)) (I 61) (I 62) (I 58 24) q).2.1 := by rw [← hu1]
  have e2 : u 57 23 = (trF (fun i => decide (((0 : Int32) >>> (nI i &&& 31)) &&& 1 = 1)) (I 58 26) (fun i => I 58 (28 + i)) (I 61) (I 62) (I 58 24) q).2.2 := by rw [← hu1]
  have h58 : u 58 = I 58 := funext fun y => hu 58 y (by omega)
  have he2 : cOK n (u 58 25) = decide (0 < n) := by rw [h58]; exact he
  refine g_istn2 B dX7_trial_5 (by decide) rfl ?_
  refine g_iload_n B dX7_trial_6 rfl ?_
  by_cases h7_0 : what = 0
  · refine g_tableIn B 36 dX7_trial_7 (by rw [h7_0]; decide) (by rw [h7_0]; decide) (by rw [h7_0]; rfl) (by decide) ?_
    refine g_aload_n B dX7_trial_36 rfl ?_
    refine g_iload_n B dX7_trial_37 rfl ?_
    refine g_callVI B (ct_X7_standing hn2 hn8 _) (by first | rfl | assumption) rfl ml_X7_168 mm_X7_standing rfl rfl (Nat.le_of_ble_eq_true rfl) dX7_trial_38 (by decide) ?_
    rintro _ _ ⟨rfl, rfl⟩
    exact g_iret B E rfl dX7_trial_41 ⟨by rw [h7_0, if_pos (by decide), e0, h58]; rfl, hu⟩
  by_cases h7_1 : what = 1
  · refine g_tableIn B 42 dX7_trial_7 (by rw [h7_1]; decide) (by rw [h7_1]; decide) (by rw [h7_1]; rfl) (by decide) ?_
    refine g_aload_n B dX7_trial_42 rfl ?_
    refine g_geti B ci_X7 (by first | rfl | assumption) rfl (by decide) fl_X7_72 dX7_trial_43 ?_
    refine g_if_ne B 54 dX7_trial_46 (by decide) (fun h46 => ?_) (fun h46 => ?_)
    · have hz : ¬ n = 0 := fun q => h46 (by rw [hn2, q]; rfl)
      refine g_aload_n B dX7_trial_54 rfl ?_
      refine g_iload_n B dX7_trial_55 rfl ?_
      refine g_callVI B (ct_X7_endStands hn2 hn8 he2 _) (by first | rfl | assumption) rfl ml_X7_200 mm_X7_endStands rfl rfl (Nat.le_of_ble_eq_true rfl) dX7_trial_56 (by decide) ?_
      rintro _ _ ⟨rfl, rfl⟩
      refine g_callSI B (ct_X7_flag _) ml_X7_164 mm_X7_flag rfl rfl (Nat.le_of_ble_eq_true rfl) dX7_trial_59 (by decide) ?_
      rintro _ _ ⟨rfl, rfl⟩
      exact g_iret B E rfl dX7_trial_62 ⟨by rw [h7_1, if_pos (by decide)]; simp only [hz, e0, h58, ↓reduceIte]; rfl, hu⟩
    · have hz : n = 0 := (nI_eq (by omega) (by decide)).mp (by rw [← hn2]; exact h46)
      refine g_bipush B (v := (-4)) dX7_trial_49 (by decide) ?_
      refine g_goto B 62 dX7_trial_51 (by decide) ?_
      exact g_iret B E rfl dX7_trial_62 ⟨by rw [h7_1, if_pos (by decide)]; simp only [hz, e0, h58, ↓reduceIte]; rfl, hu⟩
  by_cases h7_2 : what = 2
  · refine g_tableIn B 63 dX7_trial_7 (by rw [h7_2]; decide) (by rw [h7_2]; decide) (by rw [h7_2]; rfl) (by decide) ?_
    refine g_aload_n B dX7_trial_63 rfl ?_
    refine g_geti B ci_X7 (by first | rfl | assumption) rfl (by decide) fl_X7_207 dX7_trial_64 ?_
    exact g_iret B E rfl dX7_trial_67 ⟨by rw [h7_2, if_pos (by decide), e1]; rfl, hu⟩
  by_cases h7_3 : what = 3
  · refine g_tableIn B 68 dX7_trial_7 (by rw [h7_3]; decide) (by rw [h7_3]; decide) (by rw [h7_3]; rfl) (by decide) ?_
    refine g_aload_n B dX7_trial_68 rfl ?_
    refine g_geti B ci_X7 (by first | rfl | assumption) rfl (by decide) fl_X7_210 dX7_trial_69 ?_
    exact g_iret B E rfl dX7_trial_72 ⟨by rw [h7_3, if_pos (by decide), e2]; rfl, hu⟩
  refine g_tableOut B 73 dX7_trial_7 (by have z0 := lv_neT h7_0 (a := 0) rfl; have z1 := lv_neT h7_1 (a := 1) rfl; have z2 := lv_neT h7_2 (a := 2) rfl; have z3 := lv_neT h7_3 (a := 3) rfl; omega) (by decide) ?_
  refine g_iconst B (v := (-1)) dX7_trial_73 (by decide) ?_
  exact g_iret B E rfl dX7_trial_74 ⟨by rw [if_neg (by rw [wi_out3 h7_0 h7_1 h7_2 h7_3]; decide)], hu⟩
set_option maxHeartbeats 4000000 in
set_option maxRecDepth 100000 in
theorem ct_X6_luck {I : Wo} {n q : Nat} (hn : I 1 9 = nI n) (hn8 : n ≤ 8) (hq : I 1 13 = nI q) (hq6 : q ≤ 6) (hpl : ∀ i, i < q → Bd (I 8 i) n) (vv what : Int32) : Ct yX6_luck cX6_luck 8 (some .long) 2 52 [.ref 0, .int vv, .int what] I (pL (fun r u => ((wi vv 0 10 && wi what 0 1) = false ∧ r = -1 ∧ I = u) ∨ (∃ v, v ≤ 10 ∧ vv = nI v ∧ wi what 0 1 = true ∧ ((n = 0 ∧ r = -2 ∧ I = u) ∨ (¬ n = 0 ∧ r = lowF (lN (gdN (fun k => esF n (I 6) (I 7) (I 1 10) (trF (fun i => decide ((nI k >>> (nI i &&& 31)) &&& 1 = 1)) (I 1 11) (I 8) (I 3) (I 4) (I 1 12) q).1) (fun k => wN (fun i => decide ((nI k >>> (nI i &&& 31)) &&& 1 = 1)) v q) (2 ^ q))) (lN (10 ^ q)) (lN (Nat.gcd (10 ^ q) (gdN (fun k => esF n (I 6) (I 7) (I 1 10) (trF (fun i => decide ((nI k >>> (nI i &&& 31)) &&& 1 = 1)) (I 1 11) (I 8) (I 3) (I 4) (I 1 12) q).1) (fun k => wN (fun i => decide ((nI k >>> (nI i &&& 31)) &&& 1 = 1)) v q) (2 ^ q)))) what ∧ ∀ x y, x ≠ 50 → u x y = I x y))))) := by
  refine ct_of RX6 rfl (by decide) (Nat.le_of_ble_eq_true rfl) (fun X B E => ?_)
  show GW X 8 0 [some (.ref 0), some (.int vv), some (.int what), none, none, none, none, none] [] _
  refine g_iload_n B dX6_luck_0 rfl ?_
  refine g_iconst B (v := 0) dX6_luck_1 (by decide) ?_
  refine g_bipush B (v := 10) dX6_luck_2 (by decide) ?_
  refine g_callSI B (ct_X6_within _ _ _) ml_X6_66 mm_X6_within rfl rfl (Nat.le_of_ble_eq_true rfl) dX6_luck_4 (by decide) ?_
  rintro _ _ ⟨rfl, rfl⟩
  refine g_if_eq B 19 dX6_luck_7 (by decide) (fun h7 => ?_) (fun h7 => ?_)
  · rw [bI_eq0] at h7
    refine g_ldc2 B dX6_luck_19 cn_X6_188 ?_
    exact g_lret B E dX6_luck_22 (Or.inl ⟨by simp [*], rfl, rfl⟩)
  · rw [bI_ne0] at h7
    refine g_iload_n B dX6_luck_10 rfl ?_
    refine g_iconst B (v := 0) dX6_luck_11 (by decide) ?_
    refine g_iconst B (v := 1) dX6_luck_12 (by decide) ?_
    refine g_callSI B (ct_X6_within _ _ _) ml_X6_66 mm_X6_within rfl rfl (Nat.le_of_ble_eq_true rfl) dX6_luck_13 (by decide) ?_
    rintro _ _ ⟨rfl, rfl⟩
    refine g_if_ne B 23 dX6_luck_16 (by decide) (fun h16 => ?_) (fun h16 => ?_)
    · rw [bI_ne0] at h16
      obtain ⟨v, hv, rfl⟩ := (wi_iff (m := 10) (by decide)).mp h7
      refine g_aload_n B dX6_luck_23 rfl ?_
      refine g_getr B ci_X6 (by first | rfl | assumption) rfl (by decide) fl_X6_10 dX6_luck_24 ?_
      refine g_geti B ci_X3 (by first | rfl | assumption) rfl (by decide) fl_X6_95 dX6_luck_27 ?_
      refine g_if_ne B 37 dX6_luck_30 (by decide) (fun h30 => ?_) (fun h30 => ?_)
      · have hz : ¬ n = 0 := fun q => h30 (by rw [hn, q]; rfl)
        refine g_lconst B (v := 1) dX6_luck_37 (by decide) ?_
        refine g_lstn3 B dX6_luck_38 (by decide) rfl ?_
        refine g_iconst B (v := 0) dX6_luck_39 (by decide) ?_
        refine g_ist5 B dX6_luck_40 (by decide) rfl ?_
        have L42 : ∀ i, i ≤ q → ∀ x, x = lN (10 ^ i) → GW X 8 42 [some (.ref 0), some (.int (nI v)), some (.int what), some (.long x), none, some (.int (nI i)), none, none] [] I := by
          refine loopN (q) (fun i hi ih x hx => ?_)
          refine g_iload B dX6_luck_42 rfl ?_
          refine g_aload_n B dX6_luck_44 rfl ?_
          refine g_getr B ci_X6 (by first | rfl | assumption) rfl (by decide) fl_X6_10 dX6_luck_45 ?_
          refine g_geti B ci_X3 (by first | rfl | assumption) rfl (by decide) fl_X6_111 dX6_luck_48 ?_
          refine g_icmp_ge B 66 dX6_luck_51 (by decide) (fun h51 => ?_) (fun h51 => ?_)
          · have hi2 : i = q := by have := le_le (a := q) (b := i) (by omega) (by omega) (by rw [← hq]; exact h51); omega
            rw [hx, hi2]
            have h64 := pow6 hq6
            have h10 := ten6 hq6
            refine g_lconst B (v := 0) dX6_luck_66 (by decide) ?_
            refine g_lst5 B dX6_luck_67 (by decide) rfl ?_
            refine g_iconst B (v := 0) dX6_luck_69 (by decide) ?_
            refine g_ist7 B dX6_luck_70 (by decide) rfl ?_
            have L72 : ∀ k, k ≤ 2 ^ q → ∀ (W : Wo), (∀ x y, x ≠ 50 → W x y = I x y) → GW X 8 72 [some (.ref 0), some (.int (nI v)), some (.int what), some (.long (lN (10 ^ q))), none, some (.long (lN (gdN (fun k => esF n (I 6) (I 7) (I 1 10) (trF (fun i => decide ((nI k >>> (nI i &&& 31)) &&& 1 = 1)) (I 1 11) (I 8) (I 3) (I 4) (I 1 12) q).1) (fun k => wN (fun i => decide ((nI k >>> (nI i &&& 31)) &&& 1 = 1)) v q) k))), none, some (.int (nI k))] [] W := by
              refine loopN (2 ^ q) (fun k hk ihk W hW => ?_)
              refine g_iload B dX6_luck_72 rfl ?_
              refine g_iconst B (v := 1) dX6_luck_74 (by decide) ?_
              refine g_aload_n B dX6_luck_75 rfl ?_
              refine g_getr B ci_X6 (by first | rfl | assumption) rfl (by decide) fl_X6_10 dX6_luck_76 ?_
              refine g_geti B ci_X3 (by first | rfl | assumption) rfl (by decide) fl_X6_111 dX6_luck_79 ?_
              refine g_ishl B dX6_luck_82 ?_
              refine g_eqi (nI (2 ^ q)) (by rw [hW 1 13 (by decide), hq, shl1 (by omega)]) ?_
              refine g_icmp_ge B 134 dX6_luck_83 (by decide) (fun h83 => ?_) (fun h83 => ?_)
              · have hk2 : k = 2 ^ q := by have := le_le (a := 2 ^ q) (b := k) (by omega) (by omega) h83; omega
                subst hk2
                refine g_lload B dX6_luck_134 rfl ?_
                refine g_lload_n B dX6_luck_136 rfl ?_
                refine g_iload_n B dX6_luck_137 rfl ?_
                refine g_callSL B (ct_X6_lowest (absL_nat (gd_lt hq6 hv)) (ten_pos q) (by omega) _) ml_X6_198 mm_X6_lowest rfl rfl (Nat.le_of_ble_eq_true rfl) dX6_luck_138 (by decide) ?_
                rintro _ _ ⟨rfl, rfl⟩
                exact g_lret B E dX6_luck_141 (Or.inr ⟨v, hv, rfl, h16, Or.inr ⟨hz, rfl, hW⟩⟩)
              · have hltk : k < 2 ^ q := nle_lt (by omega) (by omega) h83
                refine g_aload_n B dX6_luck_86 rfl ?_
                refine g_getr B ci_X6 (by first | rfl | assumption) rfl (by decide) fl_X6_44 dX6_luck_87 ?_
                refine g_aload_n B dX6_luck_90 rfl ?_
                refine g_getr B ci_X6 (by first | rfl | assumption) rfl (by decide) fl_X6_10 dX6_luck_91 ?_
                refine g_iload B dX6_luck_94 rfl ?_
                refine g_callVV B (ct_X5_hold (I := W) hn8 (by rw [hW 1 13 (by decide)]; exact hq) hq6 (fun i hi => by rw [hW 8 i (by decide)]; exact hpl i hi) (nI k)) (by first | rfl | assumption) rfl ml_X6_170 mm_X5_hold rfl rfl (Nat.le_of_ble_eq_true rfl) dX6_luck_96 (by decide) ?_
                rintro u ⟨hu1, hu2⟩
                rw [hW 1 11 (by decide), hW 1 12 (by decide), show W 8 = I 8 from funext fun y => hW 8 y (by decide), show W 3 = I 3 from funext fun y => hW 3 y (by decide), show W 4 = I 4 from funext fun y => hW 4 y (by decide)] at hu1
                have hu : ∀ x y, x ≠ 50 → u x y = I x y := fun x y h => (hu2 x y h).trans (hW x y h)
                have e0 := congrArg Prod.fst hu1
                have hn2 : u 1 9 = nI n := by rw [hu 1 9 (by decide)]; exact hn
                refine g_aload_n B dX6_luck_99 rfl ?_
                refine g_getr B ci_X6 (by first | rfl | assumption) rfl (by decide) fl_X6_10 dX6_luck_100 ?_
                refine g_aload_n B dX6_luck_103 rfl ?_
                refine g_getr B ci_X6 (by first | rfl | assumption) rfl (by decide) fl_X6_44 dX6_luck_104 ?_
                refine g_geti B ci_X5 (by first | rfl | assumption) rfl (by decide) fl_X6_174 dX6_luck_107 ?_
                refine g_callVI B (cs_X3_endStands hn2 hn8 _) (by first | rfl | assumption) rfl ml_X6_175 mm_X3_endStands rfl rfl (Nat.le_of_ble_eq_true rfl) dX6_luck_110 (by decide) ?_
                rintro _ _ ⟨rfl, rfl⟩
                rw [show u 6 = I 6 from funext fun y => hu 6 y (by decide), show u 7 = I 7 from funext fun y => hu 7 y (by decide), hu 1 10 (by decide), show u 50 0 = _ from e0]
                refine g_if_eq B 128 dX6_luck_113 (by decide) (fun h113 => ?_) (fun h113 => ?_)
                · rw [bI_eq0] at h113
                  refine g_inc7 B dX6_luck_128 rfl (inc1 _) (by decide) rfl ?_
                  refine g_goto B 72 dX6_luck_131 (by decide) ?_
                  rw [show gdN (fun k => esF n (I 6) (I 7) (I 1 10) (trF (fun i => decide ((nI k >>> (nI i &&& 31)) &&& 1 = 1)) (I 1 11) (I 8) (I 3) (I 4) (I 1 12) q).1) (fun k => wN (fun i => decide ((nI k >>> (nI i &&& 31)) &&& 1 = 1)) v q) k = gdN (fun k => esF n (I 6) (I 7) (I 1 10) (trF (fun i => decide ((nI k >>> (nI i &&& 31)) &&& 1 = 1)) (I 1 11) (I 8) (I 3) (I 4) (I 1 12) q).1) (fun k => wN (fun i => decide ((nI k >>> (nI i &&& 31)) &&& 1 = 1)) v q) (k + 1) by rw [gdN, if_neg (by rw [h113]; decide)]]
                  exact ihk hltk _ hu
                · rw [bI_ne0] at h113
                  refine g_lload B dX6_luck_116 rfl ?_
                  refine g_aload_n B dX6_luck_118 rfl ?_
                  refine g_iload B dX6_luck_119 rfl ?_
                  refine g_iload_n B dX6_luck_121 rfl ?_
                  refine g_callVL B (ct_X6_weight (I := u) (by rw [hu 1 13 (by decide)]; exact hq) hq6 hv (nI k)) (by first | rfl | assumption) rfl ml_X6_194 mm_X6_weight rfl rfl (Nat.le_of_ble_eq_true rfl) dX6_luck_122 (by decide) ?_
                  rintro _ _ ⟨rfl, rfl⟩
                  refine g_ladd B dX6_luck_125 ?_
                  refine g_lst5 B dX6_luck_126 (by decide) rfl ?_
                  refine g_inc7 B dX6_luck_128 rfl (inc1 _) (by decide) rfl ?_
                  refine g_goto B 72 dX6_luck_131 (by decide) ?_
                  rw [lN_add]
                  rw [show gdN (fun k => esF n (I 6) (I 7) (I 1 10) (trF (fun i => decide ((nI k >>> (nI i &&& 31)) &&& 1 = 1)) (I 1 11) (I 8) (I 3) (I 4) (I 1 12) q).1) (fun k => wN (fun i => decide ((nI k >>> (nI i &&& 31)) &&& 1 = 1)) v q) k + wN (fun i => decide ((nI k >>> (nI i &&& 31)) &&& 1 = 1)) v q = gdN (fun k => esF n (I 6) (I 7) (I 1 10) (trF (fun i => decide ((nI k >>> (nI i &&& 31)) &&& 1 = 1)) (I 1 11) (I 8) (I 3) (I 4) (I 1 12) q).1) (fun k => wN (fun i => decide ((nI k >>> (nI i &&& 31)) &&& 1 = 1)) v q) (k + 1) by rw [gdN, if_pos h113]]
                  exact ihk hltk _ hu
            exact L72 0 (Nat.zero_le _) _ (fun _ _ _ => rfl)
          · have hlt : i < q := nle_lt (by omega) (by omega) (by rw [← hq]; exact h51)
            refine g_lload_n B dX6_luck_54 rfl ?_
            refine g_ldc2 B dX6_luck_55 cn_X6_192 ?_
            refine g_lmul B dX6_luck_58 ?_
            refine g_lstn3 B dX6_luck_59 (by decide) rfl ?_
            refine g_inc5 B dX6_luck_60 rfl (inc1 _) (by decide) rfl ?_
            refine g_goto B 42 dX6_luck_63 (by decide) ?_
            exact ih hlt _ (by rw [hx, show (10 : Int64) = lN 10 from rfl, lN_mul, Nat.pow_succ])
        exact L42 0 (Nat.zero_le _) _ rfl
      · have hz : n = 0 := (nI_eq (by omega) (by decide)).mp (by rw [← hn]; exact h30)
        refine g_ldc2 B dX6_luck_33 cn_X6_190 ?_
        exact g_lret B E dX6_luck_36 (Or.inr ⟨v, hv, rfl, h16, Or.inl ⟨hz, rfl, rfl⟩⟩)
    · rw [bI_eq0] at h16
      refine g_ldc2 B dX6_luck_19 cn_X6_188 ?_
      exact g_lret B E dX6_luck_22 (Or.inl ⟨by simp [*], rfl, rfl⟩)
set_option maxHeartbeats 4000000 in
set_option maxRecDepth 100000 in
theorem ct_X7_luck {I : Wo} {n q dd dq : Nat} (hn : I 57 2 = nI n) (hn8 : n ≤ 8) (he : cOK n (I 58 25) = decide (0 < n)) (hq : I 58 27 = nI q) (hq6 : q ≤ 6) (hpl : ∀ i, i < q → Bd (I 58 (28 + i)) n) (hto : ∀ c, c < n → Bd (I 62 c) 10) (hdd : I 58 26 = nI dd) (hd9 : dd ≤ 9) (hdq : dq = (if q < 10 - dd then q else 10 - dd)) (vv what : Int32) : Ct yX7_luck cX7_luck 13 (some .long) 3 73 [.ref 57, .int vv, .int what] I (pL (fun r u => ((wi vv 0 10 && wi what 0 1) = false ∧ r = -1 ∧ I = u) ∨ (∃ v, v ≤ 10 ∧ vv = nI v ∧ wi what 0 1 = true ∧ ((n = 0 ∧ r = -2 ∧ I = u) ∨ (¬ n = 0 ∧ r = lowF (lN (gdN (fun k => esF n (I 58) (fun c => I 58 (8 + c)) (I 58 25) (trF (fun i => decide ((nI k >>> (nI i &&& 31)) &&& 1 = 1)) (I 58 26) (fun i => I 58 (28 + i)) (I 61) (I 62) (I 58 24) q).1) (fun k => wN (fun i => decide ((nI k >>> (nI i &&& 31)) &&& 1 = 1)) v dq) (2 ^ dq))) (lN (10 ^ dq)) (lN (Nat.gcd (10 ^ dq) (gdN (fun k => esF n (I 58) (fun c => I 58 (8 + c)) (I 58 25) (trF (fun i => decide ((nI k >>> (nI i &&& 31)) &&& 1 = 1)) (I 58 26) (fun i => I 58 (28 + i)) (I 61) (I 62) (I 58 24) q).1) (fun k => wN (fun i => decide ((nI k >>> (nI i &&& 31)) &&& 1 = 1)) v dq) (2 ^ dq)))) what ∧ ∀ x y, ¬ (x = 57 ∧ (y = 22 ∨ y = 23)) → u x y = I x y))))) := by
  refine ct_of RX7 rfl (by decide) (Nat.le_of_ble_eq_true rfl) (fun X B E => ?_)
  show GW X 13 0 [some (.ref 57), some (.int vv), some (.int what), none, none, none, none, none, none, none, none, none, none] [] _
  refine g_iload_n B dX7_luck_0 rfl ?_
  refine g_i2l B dX7_luck_1 ?_
  refine g_lconst B (v := 0) dX7_luck_2 (by decide) ?_
  refine g_ldc2 B dX7_luck_3 cn_X7_220 ?_
  refine g_callSI B (ct_in _ 0 10 rfl (by decide) (by decide)) ml_X7_77 mm_X7_in rfl rfl (Nat.le_of_ble_eq_true rfl) dX7_luck_6 (by decide) ?_
  rintro _ _ ⟨rfl, rfl⟩
  refine g_if_eq B 19 dX7_luck_9 (by decide) (fun h9 => ?_) (fun h9 => ?_)
  · rw [bI_eq0] at h9
    refine g_ldc2 B dX7_luck_19 cn_X7_222 ?_
    exact g_lret B E dX7_luck_22 (Or.inl ⟨by simp [*], rfl, rfl⟩)
  · rw [bI_ne0] at h9
    refine g_iload_n B dX7_luck_12 rfl ?_
    refine g_callSI B (ct_X7_isPart _) ml_X7_196 mm_X7_isPart rfl rfl (Nat.le_of_ble_eq_true rfl) dX7_luck_13 (by decide) ?_
    rintro _ _ ⟨rfl, rfl⟩
    refine g_if_ne B 23 dX7_luck_16 (by decide) (fun h16 => ?_) (fun h16 => ?_)
    · rw [bI_ne0] at h16
      obtain ⟨v, hv, rfl⟩ := (wi_iff (m := 10) (by decide)).mp h9
      refine g_aload_n B dX7_luck_23 rfl ?_
      refine g_geti B ci_X7 (by first | rfl | assumption) rfl (by decide) fl_X7_72 dX7_luck_24 ?_
      refine g_if_ne B 34 dX7_luck_27 (by decide) (fun h27 => ?_) (fun h27 => ?_)
      · have hz : ¬ n = 0 := fun q => h27 (by rw [hn, q]; rfl)
        refine g_bipush B (v := 10) dX7_luck_34 (by decide) ?_
        refine g_aload_n B dX7_luck_36 rfl ?_
        refine g_getr B ci_X7 (by first | rfl | assumption) rfl (by decide) fl_X7_7 dX7_luck_37 ?_
        refine g_bipush B (v := 26) dX7_luck_40 (by decide) ?_
        refine g_iald B (by first | rfl | assumption) 26 (lit_nI 26) (by first | decide | omega | assumption) (by decide) dX7_luck_42 ?_
        refine g_isub B dX7_luck_43 ?_
        refine g_eqi (nI (10 - dd)) (by rw [hdd, show (10 : Int32) = nI 10 from rfl, pk_sub (by omega)]) ?_
        refine g_istn3 B dX7_luck_44 (by decide) rfl ?_
        refine g_aload_n B dX7_luck_45 rfl ?_
        refine g_getr B ci_X7 (by first | rfl | assumption) rfl (by decide) fl_X7_7 dX7_luck_46 ?_
        refine g_bipush B (v := 27) dX7_luck_49 (by decide) ?_
        refine g_iald B (by first | rfl | assumption) 27 (lit_nI 27) (by first | decide | omega | assumption) (by decide) dX7_luck_51 ?_
        refine g_iload_n B dX7_luck_52 rfl ?_
        refine g_icmp_ge B 66 dX7_luck_53 (by decide) (fun h53 => ?_) (fun h53 => ?_)
        · have hdq2 : dq = 10 - dd := by rw [hdq, if_neg]; have := le_le (a := 10 - dd) (b := q) (by omega) (by omega) (by rw [← hq]; exact h53); omega
          refine g_iload_n B dX7_luck_66 rfl ?_
          refine g_eqi (nI dq) (by first | (rw [hdq2]; done) | rw [hq, hdq2]) ?_
          refine g_drop3 ?_
          have hdq6 : dq ≤ 6 := by rw [hdq]; split <;> omega
          have h64 := pow6 hdq6
          have h10 := ten6 hdq6
          refine g_ist4 B dX7_luck_67 (by decide) rfl ?_
          refine g_lconst B (v := 1) dX7_luck_69 (by decide) ?_
          refine g_lst5 B dX7_luck_70 (by decide) rfl ?_
          refine g_lconst B (v := 0) dX7_luck_72 (by decide) ?_
          refine g_lst7 B dX7_luck_73 (by decide) rfl ?_
          refine g_iconst B (v := 0) dX7_luck_75 (by decide) ?_
          refine g_ist9 B dX7_luck_76 (by decide) rfl ?_
          have L78 : ∀ i, i ≤ dq → ∀ x, x = lN (10 ^ i) → GW X 13 78 [some (.ref 57), some (.int (nI v)), some (.int what), none, some (.int (nI dq)), some (.long x), none, some (.long 0), none, some (.int (nI i)), none, none, none] [] I := by
            refine loopN (dq) (fun i hi ih x hx => ?_)
            refine g_iload B dX7_luck_78 rfl ?_
            refine g_iload B dX7_luck_80 rfl ?_
            refine g_icmp_ge B 99 dX7_luck_82 (by decide) (fun h82 => ?_) (fun h82 => ?_)
            · have hi2 : i = dq := by have := le_le (a := dq) (b := i) (by omega) (by omega) h82; omega
              rw [hx, hi2]
              refine g_iconst B (v := 0) dX7_luck_99 (by decide) ?_
              refine g_ist9 B dX7_luck_100 (by decide) rfl ?_
              have L102 : ∀ k, k ≤ 2 ^ dq → ∀ (W : Wo) p10 p12, (∀ x y, ¬ (x = 57 ∧ (y = 22 ∨ y = 23)) → W x y = I x y) → GW X 13 102 [some (.ref 57), some (.int (nI v)), some (.int what), none, some (.int (nI dq)), some (.long (lN (10 ^ dq))), none, some (.long (lN (gdN (fun k => esF n (I 58) (fun c => I 58 (8 + c)) (I 58 25) (trF (fun i => decide ((nI k >>> (nI i &&& 31)) &&& 1 = 1)) (I 58 26) (fun i => I 58 (28 + i)) (I 61) (I 62) (I 58 24) q).1) (fun k => wN (fun i => decide ((nI k >>> (nI i &&& 31)) &&& 1 = 1)) v dq) k))), none, some (.int (nI k)), p10, none, p12] [] W := by
                refine loopN (2 ^ dq) (fun k hk ihk W p10 p12 hW => ?_)
                refine g_iload B dX7_luck_102 rfl ?_
                refine g_iconst B (v := 1) dX7_luck_104 (by decide) ?_
                refine g_iload B dX7_luck_105 rfl ?_
                refine g_ishl B dX7_luck_107 ?_
                refine g_eqi (nI (2 ^ dq)) (by rw [shl1 (by omega)]) ?_
                refine g_icmp_ge B 186 dX7_luck_108 (by decide) (fun h108 => ?_) (fun h108 => ?_)
                · have hk2 : k = 2 ^ dq := by have := le_le (a := 2 ^ dq) (b := k) (by omega) (by omega) h108; omega
                  subst hk2
                  refine g_lload B dX7_luck_186 rfl ?_
                  refine g_lload B dX7_luck_188 rfl ?_
                  refine g_iload_n B dX7_luck_190 rfl ?_
                  refine g_callSL B (ct_X7_told (absL_nat (gd_lt hdq6 hv)) (ten_pos dq) (by omega) _) ml_X7_226 mm_X7_told rfl rfl (Nat.le_of_ble_eq_true rfl) dX7_luck_191 (by decide) ?_
                  rintro _ _ ⟨rfl, rfl⟩
                  exact g_lret B E dX7_luck_194 (Or.inr ⟨v, hv, rfl, h16, Or.inr ⟨hz, rfl, hW⟩⟩)
                · have hltk : k < 2 ^ dq := nle_lt (by omega) (by omega) h108
                  refine g_lconst B (v := 1) dX7_luck_111 (by decide) ?_
                  refine g_lst10 B dX7_luck_112 (by decide) rfl ?_
                  refine g_iconst B (v := 0) dX7_luck_114 (by decide) ?_
                  refine g_ist12 B dX7_luck_115 (by decide) rfl ?_
                  have L117 : ∀ i, i ≤ dq → ∀ x, x = lN (wN (fun i => decide ((nI k >>> (nI i &&& 31)) &&& 1 = 1)) v i) → GW X 13 117 [some (.ref 57), some (.int (nI v)), some (.int what), none, some (.int (nI dq)), some (.long (lN (10 ^ dq))), none, some (.long (lN (gdN (fun k => esF n (I 58) (fun c => I 58 (8 + c)) (I 58 25) (trF (fun i => decide ((nI k >>> (nI i &&& 31)) &&& 1 = 1)) (I 58 26) (fun i => I 58 (28 + i)) (I 61) (I 62) (I 58 24) q).1) (fun k => wN (fun i => decide ((nI k >>> (nI i &&& 31)) &&& 1 = 1)) v dq) k))), none, some (.int (nI k)), some (.long x), none, some (.int (nI i))] [] W := by
                    refine loopN dq (fun i hi ih x hx => ?_)
                    refine g_iload B dX7_luck_117 rfl ?_
                    refine g_iload B dX7_luck_119 rfl ?_
                    refine g_icmp_ge B 156 dX7_luck_121 (by decide) (fun h121 => ?_) (fun h121 => ?_)
                    · have hi2 : i = dq := by have := le_le (a := dq) (b := i) (by omega) (by omega) h121; omega
                      rw [hx, hi2]
                      refine g_lload B dX7_luck_156 rfl ?_
                      refine g_aload_n B dX7_luck_158 rfl ?_
                      refine g_aload_n B dX7_luck_159 rfl ?_
                      refine g_iload B dX7_luck_160 rfl ?_
                      refine g_callVI B (ct_X7_tries (I := W) hn8 (by rw [hW 58 27 (by omega)]; exact hq) hq6 (fun i hi => by rw [hW 58 _ (by omega)]; exact hpl i hi) (fun c hc => by rw [hW 62 c (by omega)]; exact hto c hc) (by rw [hW 58 26 (by omega)]; exact hdd) hd9 (nI k)) (by first | rfl | assumption) rfl ml_X7_213 mm_X7_tries rfl rfl (Nat.le_of_ble_eq_true rfl) dX7_luck_162 (by decide) ?_
                      rintro s u ⟨hu1, hu2⟩
                      rw [show W 58 = I 58 from funext fun y => hW 58 y (by omega), show W 61 = I 61 from funext fun y => hW 61 y (by omega), show W 62 = I 62 from funext fun y => hW 62 y (by omega)] at hu1
                      have hu : ∀ x y, ¬ (x = 57 ∧ (y = 22 ∨ y = 23)) → u x y = I x y := fun x y h => (hu2 x y h).trans (hW x y h)
                      have e0 := congrArg Prod.fst hu1
                      have hn2 : u 57 2 = nI n := by rw [hu 57 2 (by omega)]; exact hn
                      have h58 : u 58 = I 58 := funext fun y => hu 58 y (by omega)
                      have he2 : cOK n (u 58 25) = decide (0 < n) := by rw [h58]; exact he
                      refine g_callVI B (ct_X7_endStands hn2 hn8 he2 _) (by first | rfl | assumption) rfl ml_X7_200 mm_X7_endStands rfl rfl (Nat.le_of_ble_eq_true rfl) dX7_luck_165 (by decide) ?_
                      rintro _ _ ⟨rfl, rfl⟩
                      rw [h58, show s = _ from e0]
                      refine g_if_eq B 176 dX7_luck_168 (by decide) (fun h168 => ?_) (fun h168 => ?_)
                      · rw [bI_eq0] at h168
                        refine g_lconst B (v := 0) dX7_luck_176 (by decide) ?_
                        refine g_ladd B dX7_luck_177 ?_
                        refine g_lst7 B dX7_luck_178 (by decide) rfl ?_
                        refine g_inc9 B dX7_luck_180 rfl (inc1 _) (by decide) rfl ?_
                        refine g_goto B 102 dX7_luck_183 (by decide) ?_
                        rw [show lN (gdN (fun k => esF n (I 58) (fun c => I 58 (8 + c)) (I 58 25) (trF (fun i => decide ((nI k >>> (nI i &&& 31)) &&& 1 = 1)) (I 58 26) (fun i => I 58 (28 + i)) (I 61) (I 62) (I 58 24) q).1) (fun k => wN (fun i => decide ((nI k >>> (nI i &&& 31)) &&& 1 = 1)) v dq) k) + 0 = lN (gdN (fun k => esF n (I 58) (fun c => I 58 (8 + c)) (I 58 25) (trF (fun i => decide ((nI k >>> (nI i &&& 31)) &&& 1 = 1)) (I 58 26) (fun i => I 58 (28 + i)) (I 61) (I 62) (I 58 24) q).1) (fun k => wN (fun i => decide ((nI k >>> (nI i &&& 31)) &&& 1 = 1)) v dq) (k + 1)) by rw [gdN, if_neg (by rw [h168]; decide), Int64.add_zero]]
                        exact ihk hltk _ _ _ hu
                      · rw [bI_ne0] at h168
                        refine g_lload B dX7_luck_171 rfl ?_
                        refine g_goto B 177 dX7_luck_173 (by decide) ?_
                        refine g_ladd B dX7_luck_177 ?_
                        refine g_lst7 B dX7_luck_178 (by decide) rfl ?_
                        refine g_inc9 B dX7_luck_180 rfl (inc1 _) (by decide) rfl ?_
                        refine g_goto B 102 dX7_luck_183 (by decide) ?_
                        rw [lN_add]
                        rw [show gdN (fun k => esF n (I 58) (fun c => I 58 (8 + c)) (I 58 25) (trF (fun i => decide ((nI k >>> (nI i &&& 31)) &&& 1 = 1)) (I 58 26) (fun i => I 58 (28 + i)) (I 61) (I 62) (I 58 24) q).1) (fun k => wN (fun i => decide ((nI k >>> (nI i &&& 31)) &&& 1 = 1)) v dq) k + wN (fun i => decide ((nI k >>> (nI i &&& 31)) &&& 1 = 1)) v dq = gdN (fun k => esF n (I 58) (fun c => I 58 (8 + c)) (I 58 25) (trF (fun i => decide ((nI k >>> (nI i &&& 31)) &&& 1 = 1)) (I 58 26) (fun i => I 58 (28 + i)) (I 61) (I 62) (I 58 24) q).1) (fun k => wN (fun i => decide ((nI k >>> (nI i &&& 31)) &&& 1 = 1)) v dq) (k + 1) by rw [gdN, if_pos h168]]
                        exact ihk hltk _ _ _ hu
                    · have hlt : i < dq := nle_lt (by omega) (by omega) h121
                      refine g_lload B dX7_luck_124 rfl ?_
                      refine g_iload B dX7_luck_126 rfl ?_
                      refine g_iload B dX7_luck_128 rfl ?_
                      refine g_ishr B dX7_luck_130 ?_
                      refine g_iconst B (v := 1) dX7_luck_131 (by decide) ?_
                      refine g_iand B dX7_luck_132 ?_
                      refine g_iconst B (v := 1) dX7_luck_133 (by decide) ?_
                      refine g_icmp_ne B 142 dX7_luck_134 (by decide) (fun h134 => ?_) (fun h134 => ?_)
                      · refine g_bipush B (v := 10) dX7_luck_142 (by decide) ?_
                        refine g_iload_n B dX7_luck_144 rfl ?_
                        refine g_isub B dX7_luck_145 ?_
                        refine g_i2l B dX7_luck_146 ?_
                        rw [show (10 : Int32) = nI 10 from rfl, pk_sub hv, nI_l (show 10 - v < 2 ^ 31 by omega)]
                        refine g_lmul B dX7_luck_147 ?_
                        refine g_lst10 B dX7_luck_148 (by decide) rfl ?_
                        refine g_inc12 B dX7_luck_150 rfl (inc1 _) (by decide) rfl ?_
                        refine g_goto B 117 dX7_luck_153 (by decide) ?_
                        exact ih hlt _ (by rw [hx, wN]; simp only [h134, decide_true, decide_false, ↓reduceIte, Bool.false_eq_true, lN_mul])
                      · refine g_iload_n B dX7_luck_137 rfl ?_
                        refine g_i2l B dX7_luck_138 ?_
                        rw [nI_l (show v < 2 ^ 31 by omega)]
                        refine g_goto B 147 dX7_luck_139 (by decide) ?_
                        refine g_lmul B dX7_luck_147 ?_
                        refine g_lst10 B dX7_luck_148 (by decide) rfl ?_
                        refine g_inc12 B dX7_luck_150 rfl (inc1 _) (by decide) rfl ?_
                        refine g_goto B 117 dX7_luck_153 (by decide) ?_
                        exact ih hlt _ (by rw [hx, wN]; simp only [h134, decide_true, decide_false, ↓reduceIte, Bool.false_eq_true, lN_mul])
                  exact L117 0 (Nat.zero_le _) _ rfl
              exact L102 0 (Nat.zero_le _) _ _ _ (fun _ _ _ => rfl)
            · have hlt : i < dq := nle_lt (by omega) (by omega) h82
              refine g_lload B dX7_luck_85 rfl ?_
              refine g_ldc2 B dX7_luck_87 cn_X7_220 ?_
              refine g_lmul B dX7_luck_90 ?_
              refine g_lst5 B dX7_luck_91 (by decide) rfl ?_
              refine g_inc9 B dX7_luck_93 rfl (inc1 _) (by decide) rfl ?_
              refine g_goto B 78 dX7_luck_96 (by decide) ?_
              exact ih hlt _ (by rw [hx, show (10 : Int64) = lN 10 from rfl, lN_mul, Nat.pow_succ])
          exact L78 0 (Nat.zero_le _) _ rfl
        · have hdq2 : dq = q := by rw [hdq, if_pos]; exact nle_lt (a := 10 - dd) (b := q) (by omega) (by omega) (by rw [← hq]; exact h53)
          refine g_aload_n B dX7_luck_56 rfl ?_
          refine g_getr B ci_X7 (by first | rfl | assumption) rfl (by decide) fl_X7_7 dX7_luck_57 ?_
          refine g_bipush B (v := 27) dX7_luck_60 (by decide) ?_
          refine g_iald B (by first | rfl | assumption) 27 (lit_nI 27) (by first | decide | omega | assumption) (by decide) dX7_luck_62 ?_
          refine g_goto B 67 dX7_luck_63 (by decide) ?_
          refine g_eqi (nI dq) (by first | (rw [hdq2]; done) | rw [hq, hdq2]) ?_
          refine g_drop3 ?_
          have hdq6 : dq ≤ 6 := by rw [hdq]; split <;> omega
          have h64 := pow6 hdq6
          have h10 := ten6 hdq6
          refine g_ist4 B dX7_luck_67 (by decide) rfl ?_
          refine g_lconst B (v := 1) dX7_luck_69 (by decide) ?_
          refine g_lst5 B dX7_luck_70 (by decide) rfl ?_
          refine g_lconst B (v := 0) dX7_luck_72 (by decide) ?_
          refine g_lst7 B dX7_luck_73 (by decide) rfl ?_
          refine g_iconst B (v := 0) dX7_luck_75 (by decide) ?_
          refine g_ist9 B dX7_luck_76 (by decide) rfl ?_
          have L78 : ∀ i, i ≤ dq → ∀ x, x = lN (10 ^ i) → GW X 13 78 [some (.ref 57), some (.int (nI v)), some (.int what), none, some (.int (nI dq)), some (.long x), none, some (.long 0), none, some (.int (nI i)), none, none, none] [] I := by
            refine loopN (dq) (fun i hi ih x hx => ?_)
            refine g_iload B dX7_luck_78 rfl ?_
            refine g_iload B dX7_luck_80 rfl ?_
            refine g_icmp_ge B 99 dX7_luck_82 (by decide) (fun h82 => ?_) (fun h82 => ?_)
            · have hi2 : i = dq := by have := le_le (a := dq) (b := i) (by omega) (by omega) h82; omega
              rw [hx, hi2]
              refine g_iconst B (v := 0) dX7_luck_99 (by decide) ?_
              refine g_ist9 B dX7_luck_100 (by decide) rfl ?_
              have L102 : ∀ k, k ≤ 2 ^ dq → ∀ (W : Wo) p10 p12, (∀ x y, ¬ (x = 57 ∧ (y = 22 ∨ y = 23)) → W x y = I x y) → GW X 13 102 [some (.ref 57), some (.int (nI v)), some (.int what), none, some (.int (nI dq)), some (.long (lN (10 ^ dq))), none, some (.long (lN (gdN (fun k => esF n (I 58) (fun c => I 58 (8 + c)) (I 58 25) (trF (fun i => decide ((nI k >>> (nI i &&& 31)) &&& 1 = 1)) (I 58 26) (fun i => I 58 (28 + i)) (I 61) (I 62) (I 58 24) q).1) (fun k => wN (fun i => decide ((nI k >>> (nI i &&& 31)) &&& 1 = 1)) v dq) k))), none, some (.int (nI k)), p10, none, p12] [] W := by
                refine loopN (2 ^ dq) (fun k hk ihk W p10 p12 hW => ?_)
                refine g_iload B dX7_luck_102 rfl ?_
                refine g_iconst B (v := 1) dX7_luck_104 (by decide) ?_
                refine g_iload B dX7_luck_105 rfl ?_
                refine g_ishl B dX7_luck_107 ?_
                refine g_eqi (nI (2 ^ dq)) (by rw [shl1 (by omega)]) ?_
                refine g_icmp_ge B 186 dX7_luck_108 (by decide) (fun h108 => ?_) (fun h108 => ?_)
                · have hk2 : k = 2 ^ dq := by have := le_le (a := 2 ^ dq) (b := k) (by omega) (by omega) h108; omega
                  subst hk2
                  refine g_lload B dX7_luck_186 rfl ?_
                  refine g_lload B dX7_luck_188 rfl ?_
                  refine g_iload_n B dX7_luck_190 rfl ?_
                  refine g_callSL B (ct_X7_told (absL_nat (gd_lt hdq6 hv)) (ten_pos dq) (by omega) _) ml_X7_226 mm_X7_told rfl rfl (Nat.le_of_ble_eq_true rfl) dX7_luck_191 (by decide) ?_
                  rintro _ _ ⟨rfl, rfl⟩
                  exact g_lret B E dX7_luck_194 (Or.inr ⟨v, hv, rfl, h16, Or.inr ⟨hz, rfl, hW⟩⟩)
                · have hltk : k < 2 ^ dq := nle_lt (by omega) (by omega) h108
                  refine g_lconst B (v := 1) dX7_luck_111 (by decide) ?_
                  refine g_lst10 B dX7_luck_112 (by decide) rfl ?_
                  refine g_iconst B (v := 0) dX7_luck_114 (by decide) ?_
                  refine g_ist12 B dX7_luck_115 (by decide) rfl ?_
                  have L117 : ∀ i, i ≤ dq → ∀ x, x = lN (wN (fun i => decide ((nI k >>> (nI i &&& 31)) &&& 1 = 1)) v i) → GW X 13 117 [some (.ref 57), some (.int (nI v)), some (.int what), none, some (.int (nI dq)), some (.long (lN (10 ^ dq))), none, some (.long (lN (gdN (fun k => esF n (I 58) (fun c => I 58 (8 + c)) (I 58 25) (trF (fun i => decide ((nI k >>> (nI i &&& 31)) &&& 1 = 1)) (I 58 26) (fun i => I 58 (28 + i)) (I 61) (I 62) (I 58 24) q).1) (fun k => wN (fun i => decide ((nI k >>> (nI i &&& 31)) &&& 1 = 1)) v dq) k))), none, some (.int (nI k)), some (.long x), none, some (.int (nI i))] [] W := by
                    refine loopN dq (fun i hi ih x hx => ?_)
                    refine g_iload B dX7_luck_117 rfl ?_
                    refine g_iload B dX7_luck_119 rfl ?_
                    refine g_icmp_ge B 156 dX7_luck_121 (by decide) (fun h121 => ?_) (fun h121 => ?_)
                    · have hi2 : i = dq := by have := le_le (a := dq) (b := i) (by omega) (by omega) h121; omega
                      rw [hx, hi2]
                      refine g_lload B dX7_luck_156 rfl ?_
                      refine g_aload_n B dX7_luck_158 rfl ?_
                      refine g_aload_n B dX7_luck_159 rfl ?_
                      refine g_iload B dX7_luck_160 rfl ?_
                      refine g_callVI B (ct_X7_tries (I := W) hn8 (by rw [hW 58 27 (by omega)]; exact hq) hq6 (fun i hi => by rw [hW 58 _ (by omega)]; exact hpl i hi) (fun c hc => by rw [hW 62 c (by omega)]; exact hto c hc) (by rw [hW 58 26 (by omega)]; exact hdd) hd9 (nI k)) (by first | rfl | assumption) rfl ml_X7_213 mm_X7_tries rfl rfl (Nat.le_of_ble_eq_true rfl) dX7_luck_162 (by decide) ?_
                      rintro s u ⟨hu1, hu2⟩
                      rw [show W 58 = I 58 from funext fun y => hW 58 y (by omega), show W 61 = I 61 from funext fun y => hW 61 y (by omega), show W 62 = I 62 from funext fun y => hW 62 y (by omega)] at hu1
                      have hu : ∀ x y, ¬ (x = 57 ∧ (y = 22 ∨ y = 23)) → u x y = I x y := fun x y h => (hu2 x y h).trans (hW x y h)
                      have e0 := congrArg Prod.fst hu1
                      have hn2 : u 57 2 = nI n := by rw [hu 57 2 (by omega)]; exact hn
                      have h58 : u 58 = I 58 := funext fun y => hu 58 y (by omega)
                      have he2 : cOK n (u 58 25) = decide (0 < n) := by rw [h58]; exact he
                      refine g_callVI B (ct_X7_endStands hn2 hn8 he2 _) (by first | rfl | assumption) rfl ml_X7_200 mm_X7_endStands rfl rfl (Nat.le_of_ble_eq_true rfl) dX7_luck_165 (by decide) ?_
                      rintro _ _ ⟨rfl, rfl⟩
                      rw [h58, show s = _ from e0]
                      refine g_if_eq B 176 dX7_luck_168 (by decide) (fun h168 => ?_) (fun h168 => ?_)
                      · rw [bI_eq0] at h168
                        refine g_lconst B (v := 0) dX7_luck_176 (by decide) ?_
                        refine g_ladd B dX7_luck_177 ?_
                        refine g_lst7 B dX7_luck_178 (by decide) rfl ?_
                        refine g_inc9 B dX7_luck_180 rfl (inc1 _) (by decide) rfl ?_
                        refine g_goto B 102 dX7_luck_183 (by decide) ?_
                        rw [show lN (gdN (fun k => esF n (I 58) (fun c => I 58 (8 + c)) (I 58 25) (trF (fun i => decide ((nI k >>> (nI i &&& 31)) &&& 1 = 1)) (I 58 26) (fun i => I 58 (28 + i)) (I 61) (I 62) (I 58 24) q).1) (fun k => wN (fun i => decide ((nI k >>> (nI i &&& 31)) &&& 1 = 1)) v dq) k) + 0 = lN (gdN (fun k => esF n (I 58) (fun c => I 58 (8 + c)) (I 58 25) (trF (fun i => decide ((nI k >>> (nI i &&& 31)) &&& 1 = 1)) (I 58 26) (fun i => I 58 (28 + i)) (I 61) (I 62) (I 58 24) q).1) (fun k => wN (fun i => decide ((nI k >>> (nI i &&& 31)) &&& 1 = 1)) v dq) (k + 1)) by rw [gdN, if_neg (by rw [h168]; decide), Int64.add_zero]]
                        exact ihk hltk _ _ _ hu
                      · rw [bI_ne0] at h168
                        refine g_lload B dX7_luck_171 rfl ?_
                        refine g_goto B 177 dX7_luck_173 (by decide) ?_
                        refine g_ladd B dX7_luck_177 ?_
                        refine g_lst7 B dX7_luck_178 (by decide) rfl ?_
                        refine g_inc9 B dX7_luck_180 rfl (inc1 _) (by decide) rfl ?_
                        refine g_goto B 102 dX7_luck_183 (by decide) ?_
                        rw [lN_add]
                        rw [show gdN (fun k => esF n (I 58) (fun c => I 58 (8 + c)) (I 58 25) (trF (fun i => decide ((nI k >>> (nI i &&& 31)) &&& 1 = 1)) (I 58 26) (fun i => I 58 (28 + i)) (I 61) (I 62) (I 58 24) q).1) (fun k => wN (fun i => decide ((nI k >>> (nI i &&& 31)) &&& 1 = 1)) v dq) k + wN (fun i => decide ((nI k >>> (nI i &&& 31)) &&& 1 = 1)) v dq = gdN (fun k => esF n (I 58) (fun c => I 58 (8 + c)) (I 58 25) (trF (fun i => decide ((nI k >>> (nI i &&& 31)) &&& 1 = 1)) (I 58 26) (fun i => I 58 (28 + i)) (I 61) (I 62) (I 58 24) q).1) (fun k => wN (fun i => decide ((nI k >>> (nI i &&& 31)) &&& 1 = 1)) v dq) (k + 1) by rw [gdN, if_pos h168]]
                        exact ihk hltk _ _ _ hu
                    · have hlt : i < dq := nle_lt (by omega) (by omega) h121
                      refine g_lload B dX7_luck_124 rfl ?_
                      refine g_iload B dX7_luck_126 rfl ?_
                      refine g_iload B dX7_luck_128 rfl ?_
                      refine g_ishr B dX7_luck_130 ?_
                      refine g_iconst B (v := 1) dX7_luck_131 (by decide) ?_
                      refine g_iand B dX7_luck_132 ?_
                      refine g_iconst B (v := 1) dX7_luck_133 (by decide) ?_
                      refine g_icmp_ne B 142 dX7_luck_134 (by decide) (fun h134 => ?_) (fun h134 => ?_)
                      · refine g_bipush B (v := 10) dX7_luck_142 (by decide) ?_
                        refine g_iload_n B dX7_luck_144 rfl ?_
                        refine g_isub B dX7_luck_145 ?_
                        refine g_i2l B dX7_luck_146 ?_
                        rw [show (10 : Int32) = nI 10 from rfl, pk_sub hv, nI_l (show 10 - v < 2 ^ 31 by omega)]
                        refine g_lmul B dX7_luck_147 ?_
                        refine g_lst10 B dX7_luck_148 (by decide) rfl ?_
                        refine g_inc12 B dX7_luck_150 rfl (inc1 _) (by decide) rfl ?_
                        refine g_goto B 117 dX7_luck_153 (by decide) ?_
                        exact ih hlt _ (by rw [hx, wN]; simp only [h134, decide_true, decide_false, ↓reduceIte, Bool.false_eq_true, lN_mul])
                      · refine g_iload_n B dX7_luck_137 rfl ?_
                        refine g_i2l B dX7_luck_138 ?_
                        rw [nI_l (show v < 2 ^ 31 by omega)]
                        refine g_goto B 147 dX7_luck_139 (by decide) ?_
                        refine g_lmul B dX7_luck_147 ?_
                        refine g_lst10 B dX7_luck_148 (by decide) rfl ?_
                        refine g_inc12 B dX7_luck_150 rfl (inc1 _) (by decide) rfl ?_
                        refine g_goto B 117 dX7_luck_153 (by decide) ?_
                        exact ih hlt _ (by rw [hx, wN]; simp only [h134, decide_true, decide_false, ↓reduceIte, Bool.false_eq_true, lN_mul])
                  exact L117 0 (Nat.zero_le _) _ rfl
              exact L102 0 (Nat.zero_le _) _ _ _ (fun _ _ _ => rfl)
            · have hlt : i < dq := nle_lt (by omega) (by omega) h82
              refine g_lload B dX7_luck_85 rfl ?_
              refine g_ldc2 B dX7_luck_87 cn_X7_220 ?_
              refine g_lmul B dX7_luck_90 ?_
              refine g_lst5 B dX7_luck_91 (by decide) rfl ?_
              refine g_inc9 B dX7_luck_93 rfl (inc1 _) (by decide) rfl ?_
              refine g_goto B 78 dX7_luck_96 (by decide) ?_
              exact ih hlt _ (by rw [hx, show (10 : Int64) = lN 10 from rfl, lN_mul, Nat.pow_succ])
          exact L78 0 (Nat.zero_le _) _ rfl
      · have hz : n = 0 := (nI_eq (by omega) (by decide)).mp (by rw [← hn]; exact h27)
        refine g_ldc2 B dX7_luck_30 cn_X7_224 ?_
        exact g_lret B E dX7_luck_33 (Or.inr ⟨v, hv, rfl, h16, Or.inl ⟨hz, rfl, rfl⟩⟩)
    · rw [bI_eq0] at h16
      refine g_ldc2 B dX7_luck_19 cn_X7_222 ?_
      exact g_lret B E dX7_luck_22 (Or.inl ⟨by simp [*], rfl, rfl⟩)

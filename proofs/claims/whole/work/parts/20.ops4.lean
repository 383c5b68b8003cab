def rdS (c : Nat → Int32) (s0 : Int32) : Nat → Int32
  | 0 => s0
  | i + 1 => rdS c s0 i ||| ((1 : Int32) <<< (c i &&& 31))
def faM (lane lanes size f : Int32) (k : Nat) : Int32 := if lanes = -4 then 1 else if lanes = lane then (if f.toInt64 + (nI k).toInt64 < 0 then 2 else if f.toInt64 + (nI k).toInt64 < size.toInt64 then 0 else 2) else 3
theorem p_int (f : Int32) {k : Nat} (hk : k ≤ 20) : (f.toInt64 + (nI k).toInt64).toInt = f.toInt + k := by
  have h1 : (nI k).toInt = k := nI_toInt (by omega)
  have h2 := f.toInt_lt
  have h3 := f.le_toInt
  rw [Int64.toInt_add, Int32.toInt_toInt64, Int32.toInt_toInt64, h1]
  rw [Int.bmod_def]
  split <;> omega
theorem p_32 {f : Int32} {k y : Nat} (hk : k ≤ 20) (hy : y < 2 ^ 30) : f + nI k = nI y ↔ f.toInt + k = y := by
  have h1 : (nI k).toInt = k := nI_toInt (by omega)
  have h4 : (nI y).toInt = y := nI_toInt (by omega)
  have h2 := f.toInt_lt
  have h3 := f.le_toInt
  rw [← Int32.toInt_inj, Int32.toInt_add, h1, h4, Int.bmod_def]
  split <;> omega
theorem fam_ok {lane lanes size f : Int32} {k : Nat} (hk : k ≤ 20) (hs : lanes = -4 ∨ ∃ z, z ≤ 40 ∧ size = nI z) (h : faM lane lanes size f k = 0) : ∃ y z, y < z ∧ z ≤ 40 ∧ f + nI k = nI y ∧ size = nI z := by
  unfold faM at h
  by_cases h1 : lanes = -4
  · rw [if_pos h1] at h; exact absurd h (by decide)
  · rw [if_neg h1] at h
    obtain ⟨z, hz, rfl⟩ := hs.resolve_left h1
    by_cases h2 : lanes = lane
    · rw [if_pos h2] at h
      by_cases h3 : f.toInt64 + (nI k).toInt64 < 0
      · rw [if_pos h3] at h; exact absurd h (by decide)
      · rw [if_neg h3] at h
        by_cases h4 : f.toInt64 + (nI k).toInt64 < (nI z).toInt64
        · rw [Int64.lt_iff_toInt_lt, p_int f hk] at h3 h4
          rw [Int32.toInt_toInt64, nI_toInt (by omega)] at h4
          rw [show (0 : Int64).toInt = 0 from rfl] at h3
          exact ⟨(f.toInt + k).toNat, z, by omega, hz, (p_32 hk (by omega)).mpr (by omega), rfl⟩
        · rw [if_neg h4] at h; exact absurd h (by decide)
    · rw [if_neg h2] at h; exact absurd h (by decide)
def RdP (m : Nat) (fa c : Nat → Int32) (n : Nat) (s0 day : Int32) (fr to : Nat → Int32) (i : Nat) : Prop := i ≤ m ∧ ∀ k, k < i → fa k = 0 ∧ sayQ n (c k) (rdS c s0 k) day fr to = 0
/-- how a reading ends: its answer, what is said then, what the machine found (none: it did not come to an end) -/
def RdE (m : Nat) (fa c : Nat → Int32) (n : Nat) (s0 day : Int32) (fr to : Nat → Int32) (r s : Int32) (t : Option Int32) : Prop :=
  ∃ i, RdP m fa c n s0 day fr to i ∧ ((i < m ∧ fa i = 0 ∧ ¬ sayQ n (c i) (rdS c s0 i) day fr to = 0 ∧ r = -20 - nI i ∧ s = s0 ∧ t = none) ∨ (i < m ∧ ¬ fa i = 0 ∧ r = nI i ∧ s = rdS c s0 i ∧ t = some (fa i)) ∨ (i = m ∧ r = nI m ∧ s = rdS c s0 i ∧ t = some 0))
def rdU (I : Wo) (a b a2 b2 : Nat) (s : Int32) (t : Option Int32) : Wo := match t with
  | none => I
  | some x => w2 (w2 I a b s) a2 b2 x
theorem w2_self (I : Wo) (a b : Nat) : w2 I a b (I a b) = I := by
  funext x y
  simp only [w2]
  split
  · next h => rw [h.1, h.2]
  · rfl
theorem w2_w2 (I : Wo) (a b : Nat) (v v2 : Int32) : w2 (w2 I a b v) a b v2 = w2 I a b v2 := by
  funext x y
  simp only [w2]
  split <;> rfl
theorem bc8_tab : (List.range 256).all (fun s => decide (0 ≤ bc8 (nI s)) && decide (bc8 (nI s) ≤ 8)) = true := by decide +kernel
theorem bc8_nn {s : Nat} (h : s < 256) : 0 ≤ bc8 (nI s) ∧ bc8 (nI s) ≤ 8 := by
  have := List.all_eq_true.mp bc8_tab s (List.mem_range.mpr h)
  simpa using this
theorem sayQ_cases (n : Nat) (c said day : Int32) (f t : Nat → Int32) : sayQ n c said day f t = 0 ∨ sayQ n c said day f t = -1 ∨ sayQ n c said day f t = -2 := by
  unfold sayQ
  split
  · split
    · exact Or.inr (Or.inr rfl)
    · split
      · exact Or.inl rfl
      · exact Or.inr (Or.inr rfl)
  · exact Or.inr (Or.inl rfl)
theorem say_ge {n : Nat} {L F : Nat → Int32} {r set : Int32} (hn : n ≤ 8) {c said day : Int32} {f t : Nat → Int32} (hr : r = (if sayQ n c said day f t = 0 then bc8 (stF L F set n) else sayQ n c said day f t)) (h : 0 ≤ r) : sayQ n c said day f t = 0 := by
  rcases sayQ_cases n c said day f t with q | q | q
  · exact q
  · rw [if_neg (by rw [q]; decide), q] at hr; subst hr; exact absurd h (by decide)
  · rw [if_neg (by rw [q]; decide), q] at hr; subst hr; exact absurd h (by decide)
theorem say_lt {n : Nat} {L F : Nat → Int32} {r set : Int32} (hn : n ≤ 8) {c said day : Int32} {f t : Nat → Int32} (hr : r = (if sayQ n c said day f t = 0 then bc8 (stF L F set n) else sayQ n c said day f t)) (h : ¬ 0 ≤ r) : ¬ sayQ n c said day f t = 0 := by
  intro q
  rw [if_pos q] at hr
  obtain ⟨k, hk, e⟩ := stF_bd L F set n hn
  rw [e] at hr
  exact h (by rw [hr]; exact (bc8_nn (Nat.lt_of_lt_of_le hk (pow8 hn))).1)
theorem ct_sayM_w {I : Wo} {n : Nat} (hn : I 57 2 = nI n) (hn8 : n ≤ 8) (s c : Int32) : Ct yX7_say cX7_say 2 (some .int) 2 47 [.ref 57, .int c] (w2 I 58 24 s) (pI (fun r u => r = (if sayQ n c s (I 58 26) (I 61) (I 62) = 0 then bc8 (stF (w2 I 58 24 s 58) (fun c => w2 I 58 24 s 58 (8 + c)) (s ||| ((1 : Int32) <<< (c &&& 31))) n) else sayQ n c s (I 58 26) (I 61) (I 62)) ∧ u = (if sayQ n c s (I 58 26) (I 61) (I 62) = 0 then w2 (w2 I 58 24 s) 58 24 (s ||| ((1 : Int32) <<< (c &&& 31))) else w2 I 58 24 s))) := ct_X7_say (I := w2 I 58 24 s) hn hn8 c
theorem ct_say_w {I : Wo} {n : Nat} (hn : I 1 9 = nI n) (hn8 : n ≤ 8) (s c : Int32) : Ct yX6_say cX6_say 2 (some .int) 1 24 [.ref 0, .int c] (w2 I 1 12 s) (pI (fun r u => r = (if sayQ n c s (I 1 11) (I 3) (I 4) = 0 then bc8 (stF (I 6) (I 7) (s ||| ((1 : Int32) <<< (c &&& 31))) n) else sayQ n c s (I 1 11) (I 3) (I 4)) ∧ u = (if sayQ n c s (I 1 11) (I 3) (I 4) = 0 then w2 (w2 I 1 12 s) 1 12 (s ||| ((1 : Int32) <<< (c &&& 31))) else w2 I 1 12 s))) := ct_X6_say (I := w2 I 1 12 s) hn hn8 c
theorem wi_iff {m : Nat} (hm : m < 2 ^ 31) {c : Int32} : wi c 0 (nI m) = true ↔ ∃ j, j ≤ m ∧ c = nI j := by
  simp only [wi, Bool.and_eq_true, Bool.not_eq_true', decide_eq_false_iff_not]
  constructor
  · rintro ⟨h1, h2⟩
    obtain ⟨j, hj, rfl⟩ := nI_of h1
    exact ⟨j, nlt_le hm hj h2, rfl⟩
  · rintro ⟨j, hj, rfl⟩
    exact ⟨nI_pos (by omega), nI_nlt hj hm⟩
theorem b01 {x : Int32} (h : x = 0 ∨ x = 1) : ∃ z, x = bI z := by
  rcases h with h | h
  · exact ⟨false, h⟩
  · exact ⟨true, h⟩
theorem g_eqr {X : Cx} {nL pc : Nat} {ls : List (Option Value)} {st : List Value} {I : Wo} {x : Nat} (y : Nat) (h : x = y) (k : GW X nL pc ls (.ref y :: st) I) : GW X nL pc ls (.ref x :: st) I := h ▸ k
theorem su_im {j : Nat} (h : j < 2) : Su (20 + 9 * j) := by
  rcases (show j = 0 ∨ j = 1 by omega) with rfl | rfl
  · exact su_20
  · exact su_29
theorem ss_j {j : Nat} (h : j < 4) : Ss (42 + 2 * j) := by
  rcases (show j = 0 ∨ j = 1 ∨ j = 2 ∨ j = 3 by omega) with rfl | rfl | rfl | rfl
  · exact ss_42
  · exact ss_44
  · exact ss_46
  · exact ss_48
/-- what a sheet's machine finds -/
def faF (lane slane size i : Int32) : Int32 := if size = -1 then 1 else if lane = slane then (if wi i 0 (size - 1) then 0 else 2) else 3
def puF (lane v : Int32) : Int32 := if lane = 0 then v.toInt8.toInt32 else if lane = 1 then v.toInt16.toInt32 else v
def shQ (k lane m : Int32) : Int32 := if wi k 0 3 = true ∧ wi lane 0 2 = true ∧ m ≤ 40 then (if 0 ≤ m then 1 else -14) else -1
theorem le_40 {m : Int32} (h1 : 0 ≤ m) (h2 : m ≤ 40) : ∃ z, z ≤ 40 ∧ m = nI z := nI_of2 (M := 40) (n := 40) rfl (fun h => by rw [fa_lt9] at h; rw [fa_le9] at h1; omega) h2
theorem wi_pred {z : Nat} {i : Int32} (hz : z < 2 ^ 31) (h2 : wi i 0 (nI z - 1) = true) : ∃ y, y < z ∧ i = nI y := by
  by_cases hz0 : z = 0
  · subst hz0
    simp only [wi, Bool.and_eq_true, Bool.not_eq_true', decide_eq_false_iff_not, fa_lt9, show (0 : Int32).toInt = 0 from rfl, show (nI 0 - 1).toInt = -1 from rfl] at h2
    omega
  · rw [show nI z - 1 = nI (z - 1) by rw [show (1 : Int32) = nI 1 from rfl, pk_sub (by omega)]] at h2
    obtain ⟨j, hj, rfl⟩ := (wi_iff (by omega)).mp h2
    exact ⟨j, by omega, rfl⟩
theorem fa_ok2 {lane sl size i : Int32} (hs : size = -1 ∨ ∃ z, z ≤ 40 ∧ size = nI z) (h : faF lane sl size i = 0) : ∃ y z, y < z ∧ z ≤ 40 ∧ i = nI y ∧ size = nI z := by
  unfold faF at h
  by_cases h1 : size = -1
  · rw [if_pos h1] at h; exact absurd h (by decide)
  · rw [if_neg h1] at h
    obtain ⟨z, hz, rfl⟩ := hs.resolve_left h1
    by_cases h3 : lane = sl
    · rw [if_pos h3] at h
      by_cases h2 : wi i 0 (nI z - 1) = true
      · obtain ⟨y, hy, e⟩ := wi_pred (by omega) h2
        exact ⟨y, z, hy, hz, e, rfl⟩
      · rw [if_neg h2] at h; exact absurd h (by decide)
    · rw [if_neg h3] at h; exact absurd h (by decide)
theorem fa_ok {lane size i : Int32} (hs : size = -1 ∨ ∃ z, z ≤ 40 ∧ size = nI z) (h : faF lane lane size i = 0) : ∃ y z, y < z ∧ z ≤ 40 ∧ i = nI y ∧ size = nI z := by
  unfold faF at h
  by_cases h1 : size = -1
  · rw [if_pos h1] at h; exact absurd h (by decide)
  · rw [if_neg h1, if_pos rfl] at h
    obtain ⟨z, hz, rfl⟩ := hs.resolve_left h1
    by_cases h2 : wi i 0 (nI z - 1) = true
    · rw [if_pos h2] at h
      by_cases hz0 : z = 0
      · subst hz0
        simp only [wi, Bool.and_eq_true, Bool.not_eq_true', decide_eq_false_iff_not, fa_lt9, show (0 : Int32).toInt = 0 from rfl, show (nI 0 - 1).toInt = -1 from rfl] at h2
        omega
      · rw [show nI z - 1 = nI (z - 1) by rw [show (1 : Int32) = nI 1 from rfl, pk_sub (by omega)]] at h2
        obtain ⟨j, hj, rfl⟩ := (wi_iff (by omega)).mp h2
        exact ⟨j, z, by omega, hz, rfl, rfl⟩
    · rw [if_neg h2] at h; exact absurd h (by decide)
set_option maxHeartbeats 4000000 in
set_option maxRecDepth 100000 in
theorem ct_X6_keep {I : Wo} (hk : ∀ k, k < 2 → I 38 k = 0 ∨ I 38 k = 1) (k : Int32) : Ct yX6_keep cX6_keep 3 (some .int) 2 61 [.ref 0, .int k] I (pI (fun r u => (wi k 0 1 = false ∧ r = -1 ∧ I = u) ∨ (∃ j, j < 2 ∧ k = nI j ∧ r = I 38 j ∧ ∃ u0, BecR I u0 (20 + 9 * j) 1 ∧ u = w2 u0 38 j 1))) := by
  refine ct_of RX6 rfl (by decide) (Nat.le_of_ble_eq_true rfl) (fun X B E => ?_)
  show GW X 3 0 [some (.ref 0), some (.int k), none] [] _
  refine g_iload_n B dX6_keep_0 rfl ?_
  refine g_iconst B (v := 0) dX6_keep_1 (by decide) ?_
  refine g_iconst B (v := 1) dX6_keep_2 (by decide) ?_
  refine g_callSI B (ct_X6_within _ _ _) ml_X6_66 mm_X6_within rfl rfl (Nat.le_of_ble_eq_true rfl) dX6_keep_3 (by decide) ?_
  rintro _ _ ⟨rfl, rfl⟩
  refine g_if_ne B 11 dX6_keep_6 (by decide) (fun h6 => ?_) (fun h6 => ?_)
  · rw [bI_ne0] at h6
    obtain ⟨j, hj, rfl⟩ := (wi_iff (m := 1) (by decide)).mp h6
    have hcl : (nI j).toNatClampNeg = j := nI_clamp (by omega)
    obtain ⟨z, hz⟩ := b01 (hk j (by omega))
    have hSj := su_im (show j < 2 by omega)
    have hSj0 := hSj.1
    refine g_aload_n B dX6_keep_11 rfl ?_
    refine g_getr B ci_X6 (by first | rfl | assumption) rfl (by decide) fl_X6_23 dX6_keep_12 ?_
    refine g_iload_n B dX6_keep_15 rfl ?_
    refine g_zald B (by first | rfl | assumption) _ (by first | with_reducible rfl | exact lit_add _ _ | exact add_lit _ _ | exact nI_add _ _ | exact lit_nI _ | assumption | rfl) (by first | decide | omega | assumption) (by decide) dX6_keep_16 ?_
    refine g_eqi (bI z) hz ?_
    refine g_callSI B (ct_X6_oneIf z) ml_X6_178 mm_X6_oneIf rfl rfl (Nat.le_of_ble_eq_true rfl) dX6_keep_17 (by decide) ?_
    rintro _ _ ⟨rfl, rfl⟩
    refine g_istn2 B dX6_keep_20 (by decide) rfl ?_
    refine g_aload_n B dX6_keep_21 rfl ?_
    refine g_getr B ci_X6 (by first | rfl | assumption) rfl (by decide) fl_X6_19 dX6_keep_22 ?_
    refine g_iload_n B dX6_keep_25 rfl ?_
    refine g_aald B (by first | rfl | assumption) (fun _ => rfl) _ (by first | with_reducible rfl | exact lit_add _ _ | exact add_lit _ _ | exact nI_add _ _ | exact lit_nI _ | assumption | rfl) (by simp only [List.length_cons, List.length_nil]; omega) (by decide) dX6_keep_26 ?_
    refine g_eqr (20 + 9 * j) (by rcases (show j = 0 ∨ j = 1 by omega) with rfl | rfl <;> rfl) ?_
    refine g_aload_n B dX6_keep_27 rfl ?_
    refine g_getr B ci_X6 (by first | rfl | assumption) rfl (by decide) fl_X6_10 dX6_keep_28 ?_
    refine g_callVV B (ct_X3_become hSj su_1 (Or.inl (by omega))) hSj0 rfl ml_X6_91 mm_X3_become rfl rfl (Nat.le_of_ble_eq_true rfl) dX6_keep_31 (by decide) ?_
    intro u0 hu0
    refine g_aload_n B dX6_keep_34 rfl ?_
    refine g_getr B ci_X6 (by first | rfl | assumption) rfl (by decide) fl_X6_23 dX6_keep_35 ?_
    refine g_iload_n B dX6_keep_38 rfl ?_
    refine g_iconst B (v := 1) dX6_keep_39 (by decide) ?_
    refine g_zast B (by first | rfl | assumption) _ (by first | with_reducible rfl | exact lit_add _ _ | exact add_lit _ _ | exact nI_add _ _ | exact lit_nI _ | assumption | rfl) (by first | decide | omega | assumption) (by decide) dX6_keep_40 ?_
    refine g_iload_n B dX6_keep_41 rfl ?_
    exact g_iret B E rfl dX6_keep_42 (Or.inr ⟨j, by omega, rfl, hz.symm, u0, hu0, rfl⟩)
  · rw [bI_eq0] at h6
    refine g_iconst B (v := (-1)) dX6_keep_9 (by decide) ?_
    exact g_iret B E rfl dX6_keep_10 (Or.inl ⟨by assumption, rfl, rfl⟩)
set_option maxHeartbeats 4000000 in
set_option maxRecDepth 100000 in
theorem ct_X6_back {I : Wo} (hk : ∀ k, k < 2 → I 38 k = 0 ∨ I 38 k = 1) (k : Int32) : Ct yX6_back cX6_back 2 (some .int) 2 61 [.ref 0, .int k] I (pI (fun r u => (wi k 0 1 = false ∧ r = -1 ∧ I = u) ∨ (∃ j, j < 2 ∧ k = nI j ∧ ((I 38 j = 0 ∧ r = -2 ∧ I = u) ∨ (¬ I 38 j = 0 ∧ r = I (20 + 9 * j) 11 ∧ BecR I u 1 (20 + 9 * j)))))) := by
  refine ct_of RX6 rfl (by decide) (Nat.le_of_ble_eq_true rfl) (fun X B E => ?_)
  show GW X 2 0 [some (.ref 0), some (.int k)] [] _
  refine g_iload_n B dX6_back_0 rfl ?_
  refine g_iconst B (v := 0) dX6_back_1 (by decide) ?_
  refine g_iconst B (v := 1) dX6_back_2 (by decide) ?_
  refine g_callSI B (ct_X6_within _ _ _) ml_X6_66 mm_X6_within rfl rfl (Nat.le_of_ble_eq_true rfl) dX6_back_3 (by decide) ?_
  rintro _ _ ⟨rfl, rfl⟩
  refine g_if_ne B 11 dX6_back_6 (by decide) (fun h6 => ?_) (fun h6 => ?_)
  · rw [bI_ne0] at h6
    obtain ⟨j, hj, rfl⟩ := (wi_iff (m := 1) (by decide)).mp h6
    have hcl : (nI j).toNatClampNeg = j := nI_clamp (by omega)
    have hSj := su_im (show j < 2 by omega)
    have hSj0 := hSj.1
    refine g_aload_n B dX6_back_11 rfl ?_
    refine g_getr B ci_X6 (by first | rfl | assumption) rfl (by decide) fl_X6_23 dX6_back_12 ?_
    refine g_iload_n B dX6_back_15 rfl ?_
    refine g_zald B (by first | rfl | assumption) _ (by first | with_reducible rfl | exact lit_add _ _ | exact add_lit _ _ | exact nI_add _ _ | exact lit_nI _ | assumption | rfl) (by first | decide | omega | assumption) (by decide) dX6_back_16 ?_
    refine g_if_ne B 23 dX6_back_17 (by decide) (fun h17 => ?_) (fun h17 => ?_)
    · refine g_aload_n B dX6_back_23 rfl ?_
      refine g_getr B ci_X6 (by first | rfl | assumption) rfl (by decide) fl_X6_10 dX6_back_24 ?_
      refine g_aload_n B dX6_back_27 rfl ?_
      refine g_getr B ci_X6 (by first | rfl | assumption) rfl (by decide) fl_X6_19 dX6_back_28 ?_
      refine g_iload_n B dX6_back_31 rfl ?_
      refine g_aald B (by first | rfl | assumption) (fun _ => rfl) _ (by first | with_reducible rfl | exact lit_add _ _ | exact add_lit _ _ | exact nI_add _ _ | exact lit_nI _ | assumption | rfl) (by simp only [List.length_cons, List.length_nil]; omega) (by decide) dX6_back_32 ?_
      refine g_eqr (20 + 9 * j) (by rcases (show j = 0 ∨ j = 1 by omega) with rfl | rfl <;> rfl) ?_
      refine g_callVV B (ct_X3_become su_1 hSj (Or.inr (by omega))) (by first | rfl | assumption) rfl ml_X6_91 mm_X3_become rfl rfl (Nat.le_of_ble_eq_true rfl) dX6_back_33 (by decide) ?_
      intro u0 hu0
      refine g_aload_n B dX6_back_36 rfl ?_
      refine g_getr B ci_X6 (by first | rfl | assumption) rfl (by decide) fl_X6_10 dX6_back_37 ?_
      refine g_geti B ci_X3 (by first | rfl | assumption) rfl (by decide) fl_X6_101 dX6_back_40 ?_
      exact g_iret B E rfl dX6_back_43 (Or.inr ⟨j, by omega, rfl, Or.inr ⟨h17, hu0.2.2.1 11 (by omega) (by omega), hu0⟩⟩)
    · refine g_bipush B (v := (-2)) dX6_back_20 (by decide) ?_
      exact g_iret B E rfl dX6_back_22 (Or.inr ⟨j, by omega, rfl, Or.inl ⟨h17, rfl, rfl⟩⟩)
  · rw [bI_eq0] at h6
    refine g_iconst B (v := (-1)) dX6_back_9 (by decide) ?_
    exact g_iret B E rfl dX6_back_10 (Or.inl ⟨by assumption, rfl, rfl⟩)
set_option maxHeartbeats 4000000 in
set_option maxRecDepth 100000 in
theorem ct_X7_copies {I : Wo} {a o : Nat} (ha : a + 47 ≤ 141) (ho : o + 47 ≤ 141) (hd : a + 47 ≤ o ∨ o + 47 ≤ a) : Ct yX7_copies cX7_copies 4 none 0 0 [.ref 57, .int (nI a), .int (nI o)] I (pV (fun u => (∀ k, k < 47 → u 58 (a + k) = I 58 (o + k)) ∧ ∀ x y, ¬ (x = 58 ∧ a ≤ y ∧ y < a + 47) → u x y = I x y)) := by
  refine ct_of RX7 rfl (by decide) (Nat.le_of_ble_eq_true rfl) (fun X B E => ?_)
  show GW X 4 0 [some (.ref 57), some (.int (nI a)), some (.int (nI o)), none] [] _
  refine g_iconst B (v := 0) dX7_copies_0 (by decide) ?_
  refine g_istn3 B dX7_copies_1 (by decide) rfl ?_
  have L : ∀ i, i ≤ 47 → ∀ W : Wo, (∀ k, k < i → W 58 (a + k) = I 58 (o + k)) → (∀ x y, ¬ (x = 58 ∧ a ≤ y ∧ y < a + i) → W x y = I x y) → GW X 4 2 [some (.ref 57), some (.int (nI a)), some (.int (nI o)), some (.int (nI i))] [] W := by
    refine loopN 47 (fun i hi ih W h1 h2 => ?_)
    refine g_iload_n B dX7_copies_2 rfl ?_
    refine g_bipush B (v := 47) dX7_copies_3 (by decide) ?_
    refine g_icmp_ge B 30 dX7_copies_5 (by decide) (fun h5 => ?_) (fun h5 => ?_)
    · have hi2 : i = 47 := by have := le_le (a := 47) (b := i) (by decide) (by omega) h5; omega
      exact g_vret B E dX7_copies_30 ⟨by subst hi2; exact h1, by subst hi2; exact h2⟩
    · have hlt : i < 47 := nle_lt (a := 47) (by decide) (by omega) h5
      refine g_aload_n B dX7_copies_8 rfl ?_
      refine g_getr B ci_X7 (by first | rfl | assumption) rfl (by decide) fl_X7_7 dX7_copies_9 ?_
      refine g_iload_n B dX7_copies_12 rfl ?_
      refine g_iload_n B dX7_copies_13 rfl ?_
      refine g_iadd B dX7_copies_14 ?_
      refine g_aload_n B dX7_copies_15 rfl ?_
      refine g_getr B ci_X7 (by first | rfl | assumption) rfl (by decide) fl_X7_7 dX7_copies_16 ?_
      refine g_iload_n B dX7_copies_19 rfl ?_
      refine g_iload_n B dX7_copies_20 rfl ?_
      refine g_iadd B dX7_copies_21 ?_
      refine g_iald B (by first | rfl | assumption) _ (by first | with_reducible rfl | exact lit_add _ _ | exact add_lit _ _ | exact nI_add _ _ | exact lit_nI _ | assumption | rfl) (by first | decide | omega | assumption) (by decide) dX7_copies_22 ?_
      refine g_iast B (by first | rfl | assumption) _ (by first | with_reducible rfl | exact lit_add _ _ | exact add_lit _ _ | exact nI_add _ _ | exact lit_nI _ | assumption | rfl) (by first | decide | omega | assumption) (by decide) dX7_copies_23 ?_
      refine g_inc3 B dX7_copies_24 rfl (inc1 _) (by decide) rfl ?_
      refine g_goto B 2 dX7_copies_27 (by decide) ?_
      refine ih hlt _ (fun k hk => ?_) (fun x y hxy => ?_)
      · by_cases e : k = i
        · subst e; rw [w2_same]; exact h2 _ _ (by omega)
        · rw [w2_slot _ _ (by omega)]; exact h1 k (by omega)
      · rw [show w2 W 58 (a + i) _ x y = W x y from if_neg (by omega)]; exact h2 x y (by omega)
  exact L 0 (Nat.zero_le _) _ (fun k hk => absurd hk (Nat.not_lt_zero k)) (fun _ _ _ => rfl)
set_option maxHeartbeats 4000000 in
set_option maxRecDepth 100000 in
theorem ct_X7_keep {I : Wo} (hk : ∀ k, k < 2 → I 59 k = 0 ∨ I 59 k = 1) (k : Int32) : Ct yX7_keep cX7_keep 3 (some .int) 1 25 [.ref 57, .int k] I (pI (fun r u => (wi k 0 1 = false ∧ r = -1 ∧ I = u) ∨ (∃ j, j < 2 ∧ k = nI j ∧ r = I 59 j ∧ u 59 j = 1 ∧ (∀ i, i < 47 → u 58 (47 * (j + 1) + i) = I 58 i) ∧ ∀ x y, ¬ (x = 58 ∧ 47 * (j + 1) ≤ y ∧ y < 47 * (j + 1) + 47) → ¬ (x = 59 ∧ y = j) → u x y = I x y))) := by
  refine ct_of RX7 rfl (by decide) (Nat.le_of_ble_eq_true rfl) (fun X B E => ?_)
  show GW X 3 0 [some (.ref 57), some (.int k), none] [] _
  refine g_iload_n B dX7_keep_0 rfl ?_
  refine g_i2l B dX7_keep_1 ?_
  refine g_lconst B (v := 0) dX7_keep_2 (by decide) ?_
  refine g_lconst B (v := 1) dX7_keep_3 (by decide) ?_
  refine g_callSI B (ct_in _ 0 1 rfl (by decide) (by decide)) ml_X7_77 mm_X7_in rfl rfl (Nat.le_of_ble_eq_true rfl) dX7_keep_4 (by decide) ?_
  rintro _ _ ⟨rfl, rfl⟩
  refine g_if_ne B 12 dX7_keep_7 (by decide) (fun h7 => ?_) (fun h7 => ?_)
  · rw [bI_ne0] at h7
    obtain ⟨j, hj, rfl⟩ := (wi_iff (m := 1) (by decide)).mp h7
    have hcl : (nI j).toNatClampNeg = j := nI_clamp (by omega)
    obtain ⟨z, hz⟩ := b01 (hk j (by omega))
    refine g_aload_n B dX7_keep_12 rfl ?_
    refine g_getr B ci_X7 (by first | rfl | assumption) rfl (by decide) fl_X7_13 dX7_keep_13 ?_
    refine g_iload_n B dX7_keep_16 rfl ?_
    refine g_zald B (by first | rfl | assumption) _ (by first | with_reducible rfl | exact lit_add _ _ | exact add_lit _ _ | exact nI_add _ _ | exact lit_nI _ | assumption | rfl) (by first | decide | omega | assumption) (by decide) dX7_keep_17 ?_
    refine g_eqi (bI z) hz ?_
    refine g_callSI B (ct_X7_flag z) ml_X7_164 mm_X7_flag rfl rfl (Nat.le_of_ble_eq_true rfl) dX7_keep_18 (by decide) ?_
    rintro _ _ ⟨rfl, rfl⟩
    refine g_istn2 B dX7_keep_21 (by decide) rfl ?_
    refine g_aload_n B dX7_keep_22 rfl ?_
    refine g_getr B ci_X7 (by first | rfl | assumption) rfl (by decide) fl_X7_13 dX7_keep_23 ?_
    refine g_iload_n B dX7_keep_26 rfl ?_
    refine g_iconst B (v := 1) dX7_keep_27 (by decide) ?_
    refine g_zast B (by first | rfl | assumption) _ (by first | with_reducible rfl | exact lit_add _ _ | exact add_lit _ _ | exact nI_add _ _ | exact lit_nI _ | assumption | rfl) (by first | decide | omega | assumption) (by decide) dX7_keep_28 ?_
    refine g_aload_n B dX7_keep_29 rfl ?_
    refine g_bipush B (v := 47) dX7_keep_30 (by decide) ?_
    refine g_iload_n B dX7_keep_32 rfl ?_
    refine g_iconst B (v := 1) dX7_keep_33 (by decide) ?_
    refine g_iadd B dX7_keep_34 ?_
    refine g_imul B dX7_keep_35 ?_
    refine g_eqi (nI (47 * (j + 1))) (by rw [nI_1, show (47 : Int32) = nI 47 from rfl, pk_mul]) ?_
    refine g_iconst B (v := 0) dX7_keep_36 (by decide) ?_
    refine g_eqi (nI 0) rfl ?_
    refine g_callVV B (ct_X7_copies (a := 47 * (j + 1)) (o := 0) (by omega) (by omega) (Or.inr (by omega))) (by first | rfl | assumption) rfl ml_X7_246 mm_X7_copies rfl rfl (Nat.le_of_ble_eq_true rfl) dX7_keep_37 (by decide) ?_
    rintro u ⟨hu1, hu2⟩
    refine g_iload_n B dX7_keep_40 rfl ?_
    exact g_iret B E rfl dX7_keep_41 (Or.inr ⟨j, by omega, rfl, hz.symm, by rw [hu2 59 j (by omega)]; exact w2_same _ _ _ _, fun i hi => by rw [hu1 i hi, Nat.zero_add, w2_cell _ _ (by decide)], fun x y h1 h2 => by rw [hu2 x y h1]; exact if_neg h2⟩)
  · rw [bI_eq0] at h7
    refine g_iconst B (v := (-1)) dX7_keep_10 (by decide) ?_
    exact g_iret B E rfl dX7_keep_11 (Or.inl ⟨by assumption, rfl, rfl⟩)
set_option maxHeartbeats 4000000 in
set_option maxRecDepth 100000 in
theorem ct_X7_back {I : Wo} (k : Int32) : Ct yX7_back cX7_back 2 (some .int) 1 25 [.ref 57, .int k] I (pI (fun r u => (wi k 0 1 = false ∧ r = -1 ∧ I = u) ∨ (∃ j, j < 2 ∧ k = nI j ∧ ((I 59 j = 0 ∧ r = -2 ∧ I = u) ∨ (¬ I 59 j = 0 ∧ r = I 58 (47 * (j + 1) + 26) ∧ (∀ i, i < 47 → u 58 i = I 58 (47 * (j + 1) + i)) ∧ ∀ x y, ¬ (x = 58 ∧ y < 47) → u x y = I x y))))) := by
  refine ct_of RX7 rfl (by decide) (Nat.le_of_ble_eq_true rfl) (fun X B E => ?_)
  show GW X 2 0 [some (.ref 57), some (.int k)] [] _
  refine g_iload_n B dX7_back_0 rfl ?_
  refine g_i2l B dX7_back_1 ?_
  refine g_lconst B (v := 0) dX7_back_2 (by decide) ?_
  refine g_lconst B (v := 1) dX7_back_3 (by decide) ?_
  refine g_callSI B (ct_in _ 0 1 rfl (by decide) (by decide)) ml_X7_77 mm_X7_in rfl rfl (Nat.le_of_ble_eq_true rfl) dX7_back_4 (by decide) ?_
  rintro _ _ ⟨rfl, rfl⟩
  refine g_if_ne B 12 dX7_back_7 (by decide) (fun h7 => ?_) (fun h7 => ?_)
  · rw [bI_ne0] at h7
    obtain ⟨j, hj, rfl⟩ := (wi_iff (m := 1) (by decide)).mp h7
    have hcl : (nI j).toNatClampNeg = j := nI_clamp (by omega)
    refine g_aload_n B dX7_back_12 rfl ?_
    refine g_getr B ci_X7 (by first | rfl | assumption) rfl (by decide) fl_X7_13 dX7_back_13 ?_
    refine g_iload_n B dX7_back_16 rfl ?_
    refine g_zald B (by first | rfl | assumption) _ (by first | with_reducible rfl | exact lit_add _ _ | exact add_lit _ _ | exact nI_add _ _ | exact lit_nI _ | assumption | rfl) (by first | decide | omega | assumption) (by decide) dX7_back_17 ?_
    refine g_if_ne B 24 dX7_back_18 (by decide) (fun h18 => ?_) (fun h18 => ?_)
    · refine g_aload_n B dX7_back_24 rfl ?_
      refine g_iconst B (v := 0) dX7_back_25 (by decide) ?_
      refine g_eqi (nI 0) rfl ?_
      refine g_bipush B (v := 47) dX7_back_26 (by decide) ?_
      refine g_iload_n B dX7_back_28 rfl ?_
      refine g_iconst B (v := 1) dX7_back_29 (by decide) ?_
      refine g_iadd B dX7_back_30 ?_
      refine g_imul B dX7_back_31 ?_
      refine g_eqi (nI (47 * (j + 1))) (by rw [nI_1, show (47 : Int32) = nI 47 from rfl, pk_mul]) ?_
      refine g_callVV B (ct_X7_copies (a := 0) (o := 47 * (j + 1)) (by omega) (by omega) (Or.inl (by omega))) (by first | rfl | assumption) rfl ml_X7_246 mm_X7_copies rfl rfl (Nat.le_of_ble_eq_true rfl) dX7_back_32 (by decide) ?_
      rintro u ⟨hu1, hu2⟩
      refine g_aload_n B dX7_back_35 rfl ?_
      refine g_getr B ci_X7 (by first | rfl | assumption) rfl (by decide) fl_X7_7 dX7_back_36 ?_
      refine g_bipush B (v := 26) dX7_back_39 (by decide) ?_
      refine g_iald B (by first | rfl | assumption) 26 (lit_nI 26) (by first | decide | omega | assumption) (by decide) dX7_back_41 ?_
      exact g_iret B E rfl dX7_back_42 (Or.inr ⟨j, by omega, rfl, Or.inr ⟨h18, by have := hu1 26 (by omega); rw [Nat.zero_add] at this; exact this, fun i hi => by have := hu1 i hi; rw [Nat.zero_add] at this; exact this, fun x y h1 => hu2 x y (by omega)⟩⟩)
    · refine g_bipush B (v := (-2)) dX7_back_21 (by decide) ?_
      exact g_iret B E rfl dX7_back_23 (Or.inr ⟨j, by omega, rfl, Or.inl ⟨h18, rfl, rfl⟩⟩)
  · rw [bI_eq0] at h7
    refine g_iconst B (v := (-1)) dX7_back_10 (by decide) ?_
    exact g_iret B E rfl dX7_back_11 (Or.inl ⟨by assumption, rfl, rfl⟩)
set_option maxHeartbeats 4000000 in
set_option maxRecDepth 100000 in
theorem ct_X2_blank {I : Wo} {b : Nat} (hS : Ss b) : Ct yX2_blank cX2_blank 1 (some .boolean) 0 0 [.ref b] I (pI (fun r u => r = bI (decide (I b 2 = -1)) ∧ I = u)) := by
  obtain ⟨s0, s1⟩ := id hS
  refine ct_of RX2 rfl (by decide) (Nat.le_of_ble_eq_true rfl) (fun X B E => ?_)
  show GW X 1 0 [some (.ref b)] [] _
  refine g_aload_n B dX2_blank_0 rfl ?_
  refine g_geti B ci_X2 (by first | rfl | assumption) rfl (by decide) fl_X2_15 dX2_blank_1 ?_
  refine g_iconst B (v := (-1)) dX2_blank_4 (by decide) ?_
  refine g_icmp_ne B 12 dX2_blank_5 (by decide) (fun h5 => ?_) (fun h5 => ?_)
  · refine g_iconst B (v := 0) dX2_blank_12 (by decide) ?_
    exact g_iret B E (by first | exact bI_nar _ | decide | exact bI_narv (by assumption)) dX2_blank_13 ⟨by simp [bI, *], rfl⟩
  · refine g_iconst B (v := 1) dX2_blank_8 (by decide) ?_
    refine g_goto B 13 dX2_blank_9 (by decide) ?_
    exact g_iret B E (by first | exact bI_nar _ | decide | exact bI_narv (by assumption)) dX2_blank_13 ⟨by simp [bI, *], rfl⟩
set_option maxHeartbeats 4000000 in
set_option maxRecDepth 100000 in
theorem ct_X2_renew {I : Wo} {b : Nat} (hS : Ss b) (lane m : Int32) : Ct yX2_renew cX2_renew 4 none 0 0 [.ref b, .int lane, .int m] I (pV (fun u => u b 1 = lane ∧ u b 2 = m ∧ (∀ i, i < 40 → u (b + 1) i = 0) ∧ ∀ x y, ¬ (x = b ∧ (y = 1 ∨ y = 2)) → ¬ (x = b + 1 ∧ y < 40) → u x y = I x y)) := by
  obtain ⟨s0, s1⟩ := id hS
  refine ct_of RX2 rfl (by decide) (Nat.le_of_ble_eq_true rfl) (fun X B E => ?_)
  show GW X 4 0 [some (.ref b), some (.int lane), some (.int m), none] [] _
  refine g_aload_n B dX2_renew_0 rfl ?_
  refine g_iload_n B dX2_renew_1 rfl ?_
  refine g_put B ci_X2 (by first | rfl | assumption) rfl (by decide) fl_X2_19 rfl rfl rfl dX2_renew_2 ?_
  refine g_aload_n B dX2_renew_5 rfl ?_
  refine g_iload_n B dX2_renew_6 rfl ?_
  refine g_put B ci_X2 (by first | rfl | assumption) rfl (by decide) fl_X2_15 rfl rfl rfl dX2_renew_7 ?_
  refine g_iconst B (v := 0) dX2_renew_10 (by decide) ?_
  refine g_istn3 B dX2_renew_11 (by decide) rfl ?_
  have L : ∀ i, i ≤ 40 → ∀ W : Wo, W b 1 = lane → W b 2 = m → (∀ k, k < i → W (b + 1) k = 0) → (∀ x y, ¬ (x = b ∧ (y = 1 ∨ y = 2)) → ¬ (x = b + 1 ∧ y < i) → W x y = I x y) → GW X 4 12 [some (.ref b), some (.int lane), some (.int m), some (.int (nI i))] [] W := by
    refine loopN 40 (fun i hi ih W h1 h2 h3 h4 => ?_)
    refine g_iload_n B dX2_renew_12 rfl ?_
    refine g_bipush B (v := 40) dX2_renew_13 (by decide) ?_
    refine g_icmp_ge B 31 dX2_renew_15 (by decide) (fun h15 => ?_) (fun h15 => ?_)
    · have hi2 : i = 40 := by have := le_le (a := 40) (b := i) (by decide) (by omega) h15; omega
      exact g_vret B E dX2_renew_31 ⟨h1, h2, by subst hi2; exact h3, by subst hi2; exact h4⟩
    · have hlt : i < 40 := nle_lt (a := 40) (by decide) (by omega) h15
      refine g_aload_n B dX2_renew_18 rfl ?_
      refine g_getr B ci_X2 (by first | rfl | assumption) rfl (by decide) fl_X2_9 dX2_renew_19 ?_
      refine g_iload_n B dX2_renew_22 rfl ?_
      refine g_iconst B (v := 0) dX2_renew_23 (by decide) ?_
      refine g_iast B (by first | rfl | assumption) _ (by first | with_reducible rfl | exact lit_add _ _ | exact add_lit _ _ | exact nI_add _ _ | exact lit_nI _ | assumption | rfl) (by first | decide | omega | assumption) (by decide) dX2_renew_24 ?_
      refine g_inc3 B dX2_renew_25 rfl (inc1 _) (by decide) rfl ?_
      refine g_goto B 12 dX2_renew_28 (by decide) ?_
      refine ih hlt _ (by rw [w2_cell _ _ (by omega)]; exact h1) (by rw [w2_cell _ _ (by omega)]; exact h2) (fun k hk => ?_) (fun x y q1 q2 => ?_)
      · by_cases e : k = i
        · subst e; exact w2_same _ _ _ _
        · rw [w2_slot _ _ (by omega)]; exact h3 k (by omega)
      · rw [show w2 W (b + 1) i 0 x y = W x y from if_neg (by omega)]; exact h4 x y q1 (by omega)
  exact L 0 (Nat.zero_le _) _ (by rw [w2_slot _ _ (by decide)]; exact w2_same _ _ _ _) (w2_same _ _ _ _) (fun k hk => absurd hk (Nat.not_lt_zero k)) (fun x y q1 _ => by rw [show w2 (w2 I b 1 lane) b 2 m x y = w2 I b 1 lane x y from if_neg (by omega)]; exact if_neg (by omega))
set_option maxHeartbeats 4000000 in
set_option maxRecDepth 100000 in
theorem ct_X2_faultOf {I : Wo} {b : Nat} (hS : Ss b) (lane i : Int32) : Ct yX2_faultOf cX2_faultOf 3 (some .int) 1 22 [.ref b, .int lane, .int i] I (pI (fun r u => r = faF lane (I b 1) (I b 2) i ∧ I = u)) := by
  obtain ⟨s0, s1⟩ := id hS
  refine ct_of RX2 rfl (by decide) (Nat.le_of_ble_eq_true rfl) (fun X B E => ?_)
  show GW X 3 0 [some (.ref b), some (.int lane), some (.int i)] [] _
  refine g_aload_n B dX2_faultOf_0 rfl ?_
  refine g_callVI B (ct_X2_blank hS) (by first | rfl | assumption) rfl ml_X2_22 mm_X2_blank rfl rfl (Nat.le_of_ble_eq_true rfl) dX2_faultOf_1 (by decide) ?_
  rintro _ _ ⟨rfl, rfl⟩
  refine g_if_eq B 9 dX2_faultOf_4 (by decide) (fun h4 => ?_) (fun h4 => ?_)
  · rw [bI_eq0] at h4
    simp only [decide_eq_true_eq, decide_eq_false_iff_not] at h4
    refine g_iload_n B dX2_faultOf_9 rfl ?_
    refine g_aload_n B dX2_faultOf_10 rfl ?_
    refine g_geti B ci_X2 (by first | rfl | assumption) rfl (by decide) fl_X2_19 dX2_faultOf_11 ?_
    refine g_icmp_eq B 19 dX2_faultOf_14 (by decide) (fun h14 => ?_) (fun h14 => ?_)
    · refine g_iload_n B dX2_faultOf_19 rfl ?_
      refine g_iconst B (v := 0) dX2_faultOf_20 (by decide) ?_
      refine g_aload_n B dX2_faultOf_21 rfl ?_
      refine g_geti B ci_X2 (by first | rfl | assumption) rfl (by decide) fl_X2_15 dX2_faultOf_22 ?_
      refine g_iconst B (v := 1) dX2_faultOf_25 (by decide) ?_
      refine g_isub B dX2_faultOf_26 ?_
      refine g_callNI B (ct_X6_within _ _ _) (fun _ _ h => h.1) mm_X6_within rfl rfl (Nat.le_of_ble_eq_true rfl) dX2_faultOf_27 (by decide) ?_
      rintro _ _ ⟨rfl, rfl⟩
      refine g_if_eq B 37 dX2_faultOf_30 (by decide) (fun h30 => ?_) (fun h30 => ?_)
      · rw [bI_eq0] at h30
        refine g_iconst B (v := 2) dX2_faultOf_37 (by decide) ?_
        exact g_iret B E rfl dX2_faultOf_38 ⟨by simp [faF, *], rfl⟩
      · rw [bI_ne0] at h30
        refine g_iconst B (v := 0) dX2_faultOf_33 (by decide) ?_
        refine g_goto B 38 dX2_faultOf_34 (by decide) ?_
        exact g_iret B E rfl dX2_faultOf_38 ⟨by simp [faF, *], rfl⟩
    · refine g_iconst B (v := 3) dX2_faultOf_17 (by decide) ?_
      exact g_iret B E rfl dX2_faultOf_18 ⟨by simp [faF, *], rfl⟩
  · rw [bI_ne0] at h4
    simp only [decide_eq_true_eq, decide_eq_false_iff_not] at h4
    refine g_iconst B (v := 1) dX2_faultOf_7 (by decide) ?_
    exact g_iret B E rfl dX2_faultOf_8 ⟨by simp [faF, *], rfl⟩
set_option maxHeartbeats 4000000 in
set_option maxRecDepth 100000 in
theorem ct_X2_put {I : Wo} {b i : Nat} (hS : Ss b) (hi : i < 40) (v : Int32) : Ct yX2_put cX2_put 3 none 0 0 [.ref b, .int (nI i), .int v] I (pV (fun u => u = w2 I (b + 1) i (puF (I b 1) v))) := by
  obtain ⟨s0, s1⟩ := id hS
  refine ct_of RX2 rfl (by decide) (Nat.le_of_ble_eq_true rfl) (fun X B E => ?_)
  show GW X 3 0 [some (.ref b), some (.int (nI i)), some (.int v)] [] _
  refine g_aload_n B dX2_put_0 rfl ?_
  refine g_geti B ci_X2 (by first | rfl | assumption) rfl (by decide) fl_X2_19 dX2_put_1 ?_
  by_cases h4_0 : I b 1 = 0
  · refine g_lookup B (off := 28) 32 dX2_put_4 (by decide) (by first | (rw [h4_0]; done) | (rw [h4_0]; decide)) (by decide) ?_
    refine g_aload_n B dX2_put_32 rfl ?_
    refine g_getr B ci_X2 (by first | rfl | assumption) rfl (by decide) fl_X2_9 dX2_put_33 ?_
    refine g_iload_n B dX2_put_36 rfl ?_
    refine g_iload_n B dX2_put_37 rfl ?_
    refine g_i2b B dX2_put_38 ?_
    refine g_iast B (by first | rfl | assumption) _ (by first | with_reducible rfl | exact lit_add _ _ | exact add_lit _ _ | exact nI_add _ _ | exact lit_nI _ | assumption | rfl) (by first | decide | omega | assumption) (by decide) dX2_put_39 ?_
    refine g_goto B 61 dX2_put_40 (by decide) ?_
    exact g_vret B E dX2_put_61 (by simp [puF, *])
  by_cases h4_1 : I b 1 = 1
  · refine g_lookup B (off := 39) 43 dX2_put_4 (by decide) (by first | (rw [h4_1]; done) | (rw [h4_1]; decide)) (by decide) ?_
    refine g_aload_n B dX2_put_43 rfl ?_
    refine g_getr B ci_X2 (by first | rfl | assumption) rfl (by decide) fl_X2_9 dX2_put_44 ?_
    refine g_iload_n B dX2_put_47 rfl ?_
    refine g_iload_n B dX2_put_48 rfl ?_
    refine g_i2s B dX2_put_49 ?_
    refine g_iast B (by first | rfl | assumption) _ (by first | with_reducible rfl | exact lit_add _ _ | exact add_lit _ _ | exact nI_add _ _ | exact lit_nI _ | assumption | rfl) (by first | decide | omega | assumption) (by decide) dX2_put_50 ?_
    refine g_goto B 61 dX2_put_51 (by decide) ?_
    exact g_vret B E dX2_put_61 (by simp [puF, *])
  refine g_lookup B (off := 50) 54 dX2_put_4 (by decide) (by show Op.lookupswitch.offset [(0, 28), (1, 39)] 50 _ = 50; rw [lv_osw (a := 0) h4_0 rfl, lv_osw (a := 1) h4_1 rfl]; rfl) (by decide) ?_
  refine g_aload_n B dX2_put_54 rfl ?_
  refine g_getr B ci_X2 (by first | rfl | assumption) rfl (by decide) fl_X2_9 dX2_put_55 ?_
  refine g_iload_n B dX2_put_58 rfl ?_
  refine g_iload_n B dX2_put_59 rfl ?_
  refine g_iast B (by first | rfl | assumption) _ (by first | with_reducible rfl | exact lit_add _ _ | exact add_lit _ _ | exact nI_add _ _ | exact lit_nI _ | assumption | rfl) (by first | decide | omega | assumption) (by decide) dX2_put_60 ?_
  exact g_vret B E dX2_put_61 (by simp [puF, *])
set_option maxHeartbeats 4000000 in
set_option maxRecDepth 100000 in
theorem ct_X6_sheet {I : Wo} (k lane m : Int32) : Ct yX6_sheet cX6_sheet 4 (some .int) 1 23 [.ref 0, .int k, .int lane, .int m] I (pI (fun r u => (r = shQ k lane m ∧ shQ k lane m < 0 ∧ I = u) ∨ (∃ j z, j < 4 ∧ z ≤ 40 ∧ k = nI j ∧ m = nI z ∧ shQ k lane m = 1 ∧ wi lane 0 2 = true ∧ r = 1 ∧ u (42 + 2 * j) 1 = lane ∧ u (42 + 2 * j) 2 = m ∧ (∀ i, i < 40 → u (43 + 2 * j) i = 0) ∧ ∀ x y, ¬ (x = 42 + 2 * j ∧ (y = 1 ∨ y = 2)) → ¬ (x = 43 + 2 * j ∧ y < 40) → u x y = I x y))) := by
  refine ct_of RX6 rfl (by decide) (Nat.le_of_ble_eq_true rfl) (fun X B E => ?_)
  show GW X 4 0 [some (.ref 0), some (.int k), some (.int lane), some (.int m)] [] _
  refine g_iload_n B dX6_sheet_0 rfl ?_
  refine g_iconst B (v := 0) dX6_sheet_1 (by decide) ?_
  refine g_iconst B (v := 3) dX6_sheet_2 (by decide) ?_
  refine g_callSI B (ct_X6_within _ _ _) ml_X6_66 mm_X6_within rfl rfl (Nat.le_of_ble_eq_true rfl) dX6_sheet_3 (by decide) ?_
  rintro _ _ ⟨rfl, rfl⟩
  refine g_if_eq B 24 dX6_sheet_6 (by decide) (fun h6 => ?_) (fun h6 => ?_)
  · rw [bI_eq0] at h6
    refine g_iconst B (v := (-1)) dX6_sheet_24 (by decide) ?_
    exact g_iret B E rfl dX6_sheet_25 (Or.inl (by simp [shQ, *]))
  · rw [bI_ne0] at h6
    refine g_iload_n B dX6_sheet_9 rfl ?_
    refine g_iconst B (v := 0) dX6_sheet_10 (by decide) ?_
    refine g_iconst B (v := 2) dX6_sheet_11 (by decide) ?_
    refine g_callSI B (ct_X6_within _ _ _) ml_X6_66 mm_X6_within rfl rfl (Nat.le_of_ble_eq_true rfl) dX6_sheet_12 (by decide) ?_
    rintro _ _ ⟨rfl, rfl⟩
    refine g_if_eq B 24 dX6_sheet_15 (by decide) (fun h15 => ?_) (fun h15 => ?_)
    · rw [bI_eq0] at h15
      refine g_iconst B (v := (-1)) dX6_sheet_24 (by decide) ?_
      exact g_iret B E rfl dX6_sheet_25 (Or.inl (by simp [shQ, *]))
    · rw [bI_ne0] at h15
      refine g_iload_n B dX6_sheet_18 rfl ?_
      refine g_bipush B (v := 40) dX6_sheet_19 (by decide) ?_
      refine g_icmp_le B 26 dX6_sheet_21 (by decide) (fun h21 => ?_) (fun h21 => ?_)
      · refine g_iload_n B dX6_sheet_26 rfl ?_
        refine g_if_ge B 33 dX6_sheet_27 (by decide) (fun h27 => ?_) (fun h27 => ?_)
        · have hq : shQ k lane m = 1 := by simp [shQ, *]
          obtain ⟨j, hj, rfl⟩ := (wi_iff (m := 3) (by decide)).mp h6
          have hcl : (nI j).toNatClampNeg = j := nI_clamp (by omega)
          obtain ⟨z, hz, rfl⟩ := le_40 h27 h21
          have hSj := ss_j (show j < 4 by omega)
          have hSj0 := hSj.1
          refine g_aload_n B dX6_sheet_33 rfl ?_
          refine g_getr B ci_X6 (by first | rfl | assumption) rfl (by decide) fl_X6_36 dX6_sheet_34 ?_
          refine g_iload_n B dX6_sheet_37 rfl ?_
          refine g_aald B (by first | rfl | assumption) (fun _ => rfl) _ (by first | with_reducible rfl | exact lit_add _ _ | exact add_lit _ _ | exact nI_add _ _ | exact lit_nI _ | assumption | rfl) (by simp only [List.length_cons, List.length_nil]; omega) (by decide) dX6_sheet_38 ?_
          refine g_eqr (42 + 2 * j) (by rcases (show j = 0 ∨ j = 1 ∨ j = 2 ∨ j = 3 by omega) with rfl | rfl | rfl | rfl <;> rfl) ?_
          refine g_iload_n B dX6_sheet_39 rfl ?_
          refine g_iload_n B dX6_sheet_40 rfl ?_
          refine g_callVV B (ct_X2_renew hSj _ _) hSj0 rfl ml_X6_245 mm_X2_renew rfl rfl (Nat.le_of_ble_eq_true rfl) dX6_sheet_41 (by decide) ?_
          rintro u ⟨u1, u2, u3, u4⟩
          refine g_iconst B (v := 1) dX6_sheet_44 (by decide) ?_
          exact g_iret B E rfl dX6_sheet_45 (Or.inr ⟨j, z, by omega, hz, rfl, rfl, hq, h15, rfl, u1, u2, by rw [show 42 + 2 * j + 1 = 43 + 2 * j by omega] at u3; exact u3, by rw [show 42 + 2 * j + 1 = 43 + 2 * j by omega] at u4; exact u4⟩)
        · refine g_bipush B (v := (-14)) dX6_sheet_30 (by decide) ?_
          exact g_iret B E rfl dX6_sheet_32 (Or.inl (by simp [shQ, *]))
      · refine g_iconst B (v := (-1)) dX6_sheet_24 (by decide) ?_
        exact g_iret B E rfl dX6_sheet_25 (Or.inl (by simp [shQ, *]))
set_option maxHeartbeats 4000000 in
set_option maxRecDepth 100000 in
theorem ct_X7_sheet {I : Wo} (k lane m : Int32) : Ct yX7_sheet cX7_sheet 5 (some .int) 2 46 [.ref 57, .int k, .int lane, .int m] I (pI (fun r u => (r = shQ k lane m ∧ shQ k lane m < 0 ∧ I = u) ∨ (∃ j, j < 4 ∧ k = nI j ∧ shQ k lane m = 1 ∧ r = 1 ∧ u 70 j = lane ∧ u 71 j = m ∧ (∀ i, i < 40 → u 72 (40 * j + i) = 0) ∧ ∀ x y, ¬ ((x = 70 ∨ x = 71) ∧ y = j) → ¬ (x = 72 ∧ 40 * j ≤ y ∧ y < 40 * j + 40) → u x y = I x y))) := by
  refine ct_of RX7 rfl (by decide) (Nat.le_of_ble_eq_true rfl) (fun X B E => ?_)
  show GW X 5 0 [some (.ref 57), some (.int k), some (.int lane), some (.int m), none] [] _
  refine g_iload_n B dX7_sheet_0 rfl ?_
  refine g_iload_n B dX7_sheet_1 rfl ?_
  refine g_callSI B (ct_X7_isSheet _ _) ml_X7_250 mm_X7_isSheet rfl rfl (Nat.le_of_ble_eq_true rfl) dX7_sheet_2 (by decide) ?_
  rintro _ _ ⟨rfl, rfl⟩
  refine g_if_eq B 14 dX7_sheet_5 (by decide) (fun h5 => ?_) (fun h5 => ?_)
  · rw [bI_eq0] at h5
    simp only [Bool.and_eq_false_iff] at h5
    refine g_iconst B (v := (-1)) dX7_sheet_14 (by decide) ?_
    exact g_iret B E rfl dX7_sheet_15 (Or.inl (by first | (rcases h5 with h | h <;> simp [shQ, h]; done) | simp [shQ, *]))
  · rw [bI_ne0] at h5
    simp only [Bool.and_eq_true] at h5
    refine g_iload_n B dX7_sheet_8 rfl ?_
    refine g_bipush B (v := 40) dX7_sheet_9 (by decide) ?_
    refine g_icmp_le B 16 dX7_sheet_11 (by decide) (fun h11 => ?_) (fun h11 => ?_)
    · refine g_iload_n B dX7_sheet_16 rfl ?_
      refine g_if_ge B 23 dX7_sheet_17 (by decide) (fun h17 => ?_) (fun h17 => ?_)
      · have hq : shQ k lane m = 1 := by simp [shQ, *]
        obtain ⟨j, hj, rfl⟩ := (wi_iff (m := 3) (by decide)).mp h5.1
        have hcl : (nI j).toNatClampNeg = j := nI_clamp (by omega)
        refine g_aload_n B dX7_sheet_23 rfl ?_
        refine g_getr B ci_X7 (by first | rfl | assumption) rfl (by decide) fl_X7_47 dX7_sheet_24 ?_
        refine g_iload_n B dX7_sheet_27 rfl ?_
        refine g_iload_n B dX7_sheet_28 rfl ?_
        refine g_iast B (by first | rfl | assumption) _ (by first | with_reducible rfl | exact lit_add _ _ | exact add_lit _ _ | exact nI_add _ _ | exact lit_nI _ | assumption | rfl) (by first | decide | omega | assumption) (by decide) dX7_sheet_29 ?_
        refine g_aload_n B dX7_sheet_30 rfl ?_
        refine g_getr B ci_X7 (by first | rfl | assumption) rfl (by decide) fl_X7_50 dX7_sheet_31 ?_
        refine g_iload_n B dX7_sheet_34 rfl ?_
        refine g_iload_n B dX7_sheet_35 rfl ?_
        refine g_iast B (by first | rfl | assumption) _ (by first | with_reducible rfl | exact lit_add _ _ | exact add_lit _ _ | exact nI_add _ _ | exact lit_nI _ | assumption | rfl) (by first | decide | omega | assumption) (by decide) dX7_sheet_36 ?_
        refine g_iconst B (v := 0) dX7_sheet_37 (by decide) ?_
        refine g_ist4 B dX7_sheet_38 (by decide) rfl ?_
        have L : ∀ i, i ≤ 40 → ∀ W : Wo, W 70 j = lane → W 71 j = m → (∀ k, k < i → W 72 (40 * j + k) = 0) → (∀ x y, ¬ ((x = 70 ∨ x = 71) ∧ y = j) → ¬ (x = 72 ∧ 40 * j ≤ y ∧ y < 40 * j + i) → W x y = I x y) → GW X 5 40 [some (.ref 57), some (.int (nI j)), some (.int lane), some (.int m), some (.int (nI i))] [] W := by
          refine loopN 40 (fun i hi ih W h1 h2 h3 h4 => ?_)
          refine g_iload B dX7_sheet_40 rfl ?_
          refine g_bipush B (v := 40) dX7_sheet_42 (by decide) ?_
          refine g_icmp_ge B 66 dX7_sheet_44 (by decide) (fun h44 => ?_) (fun h44 => ?_)
          · have hi2 : i = 40 := by have := le_le (a := 40) (b := i) (by decide) (by omega) h44; omega
            refine g_iconst B (v := 1) dX7_sheet_66 (by decide) ?_
            exact g_iret B E rfl dX7_sheet_67 (Or.inr ⟨j, by omega, rfl, hq, rfl, h1, h2, by subst hi2; exact h3, by subst hi2; exact h4⟩)
          · have hlt : i < 40 := nle_lt (a := 40) (by decide) (by omega) h44
            refine g_aload_n B dX7_sheet_47 rfl ?_
            refine g_getr B ci_X7 (by first | rfl | assumption) rfl (by decide) fl_X7_53 dX7_sheet_48 ?_
            refine g_bipush B (v := 40) dX7_sheet_51 (by decide) ?_
            refine g_iload_n B dX7_sheet_53 rfl ?_
            refine g_imul B dX7_sheet_54 ?_
            refine g_iload B dX7_sheet_55 rfl ?_
            refine g_iadd B dX7_sheet_57 ?_
            refine g_eqi (nI (40 * j + i)) (by rw [show (40 : Int32) = nI 40 from rfl, pk_mul, nI_add]) ?_
            refine g_iconst B (v := 0) dX7_sheet_58 (by decide) ?_
            refine g_iast B (by first | rfl | assumption) (40 * j + i) rfl (by first | decide | omega | assumption) (by decide) dX7_sheet_59 ?_
            refine g_inc4 B dX7_sheet_60 rfl (inc1 _) (by decide) rfl ?_
            refine g_goto B 40 dX7_sheet_63 (by decide) ?_
            refine ih hlt _ (by rw [w2_cell _ _ (by decide)]; exact h1) (by rw [w2_cell _ _ (by decide)]; exact h2) (fun k hk => ?_) (fun x y q1 q2 => ?_)
            · by_cases e : k = i
              · subst e; exact w2_same _ _ _ _
              · rw [w2_slot _ _ (by omega)]; exact h3 k (by omega)
            · rw [show w2 W 72 (40 * j + i) 0 x y = W x y from if_neg (by omega)]; exact h4 x y q1 (by omega)
        exact L 0 (Nat.zero_le _) _ (by rw [w2_cell _ _ (by decide)]; exact w2_same _ _ _ _) (w2_same _ _ _ _) (fun k hk => absurd hk (Nat.not_lt_zero k)) (fun x y q1 _ => by rw [show w2 (w2 I 70 j lane) 71 j m x y = w2 I 70 j lane x y from if_neg (by omega)]; exact if_neg (by omega))
      · refine g_bipush B (v := (-14)) dX7_sheet_20 (by decide) ?_
        exact g_iret B E rfl dX7_sheet_22 (Or.inl (by first | (rcases h5 with h | h <;> simp [shQ, h]; done) | simp [shQ, *]))
    · refine g_iconst B (v := (-1)) dX7_sheet_14 (by decide) ?_
      exact g_iret B E rfl dX7_sheet_15 (Or.inl (by first | (rcases h5 with h | h <;> simp [shQ, h]; done) | simp [shQ, *]))
set_option maxHeartbeats 4000000 in
set_option maxRecDepth 100000 in
theorem ct_X6_lay {I : Wo} (hs : ∀ j, j < 4 → I (42 + 2 * j) 2 = -1 ∨ ∃ z, z ≤ 40 ∧ I (42 + 2 * j) 2 = nI z) (k i v : Int32) : Ct yX6_lay cX6_lay 6 (some .int) 2 44 [.ref 0, .int k, .int i, .int v] I (pI (fun r u => (wi k 0 3 = false ∧ r = -1 ∧ I = u) ∨ (∃ j, j < 4 ∧ k = nI j ∧ ((¬ faF (I (42 + 2 * j) 1) (I (42 + 2 * j) 1) (I (42 + 2 * j) 2) i = 0 ∧ r = -10 - faF (I (42 + 2 * j) 1) (I (42 + 2 * j) 1) (I (42 + 2 * j) 2) i ∧ I = u) ∨ (∃ y z, y < z ∧ z ≤ 40 ∧ i = nI y ∧ I (42 + 2 * j) 2 = nI z ∧ r = 1 ∧ u = w2 I (43 + 2 * j) y (puF (I (42 + 2 * j) 1) v)))))) := by
  refine ct_of RX6 rfl (by decide) (Nat.le_of_ble_eq_true rfl) (fun X B E => ?_)
  show GW X 6 0 [some (.ref 0), some (.int k), some (.int i), some (.int v), none, none] [] _
  refine g_iload_n B dX6_lay_0 rfl ?_
  refine g_iconst B (v := 0) dX6_lay_1 (by decide) ?_
  refine g_iconst B (v := 3) dX6_lay_2 (by decide) ?_
  refine g_callSI B (ct_X6_within _ _ _) ml_X6_66 mm_X6_within rfl rfl (Nat.le_of_ble_eq_true rfl) dX6_lay_3 (by decide) ?_
  rintro _ _ ⟨rfl, rfl⟩
  refine g_if_ne B 11 dX6_lay_6 (by decide) (fun h6 => ?_) (fun h6 => ?_)
  · rw [bI_ne0] at h6
    obtain ⟨j, hj, rfl⟩ := (wi_iff (m := 3) (by decide)).mp h6
    have hcl : (nI j).toNatClampNeg = j := nI_clamp (by omega)
    have hSj := ss_j (show j < 4 by omega)
    have hSj0 := hSj.1
    refine g_aload_n B dX6_lay_11 rfl ?_
    refine g_getr B ci_X6 (by first | rfl | assumption) rfl (by decide) fl_X6_36 dX6_lay_12 ?_
    refine g_iload_n B dX6_lay_15 rfl ?_
    refine g_aald B (by first | rfl | assumption) (fun _ => rfl) _ (by first | with_reducible rfl | exact lit_add _ _ | exact add_lit _ _ | exact nI_add _ _ | exact lit_nI _ | assumption | rfl) (by simp only [List.length_cons, List.length_nil]; omega) (by decide) dX6_lay_16 ?_
    refine g_eqr (42 + 2 * j) (by rcases (show j = 0 ∨ j = 1 ∨ j = 2 ∨ j = 3 by omega) with rfl | rfl | rfl | rfl <;> rfl) ?_
    refine g_ast4 B dX6_lay_17 (by decide) rfl ?_
    refine g_aload B dX6_lay_19 rfl ?_
    refine g_aload B dX6_lay_21 rfl ?_
    refine g_geti B ci_X2 (by first | rfl | assumption) rfl (by decide) fl_X6_249 dX6_lay_23 ?_
    refine g_iload_n B dX6_lay_26 rfl ?_
    refine g_callVI B (ct_X2_faultOf hSj _ _) hSj0 rfl ml_X6_252 mm_X2_faultOf rfl rfl (Nat.le_of_ble_eq_true rfl) dX6_lay_27 (by decide) ?_
    rintro _ _ ⟨rfl, rfl⟩
    refine g_ist5 B dX6_lay_30 (by decide) rfl ?_
    refine g_iload B dX6_lay_32 rfl ?_
    refine g_if_eq B 43 dX6_lay_34 (by decide) (fun h34 => ?_) (fun h34 => ?_)
    · obtain ⟨y, z, hy, hz, rfl, hz2⟩ := fa_ok (hs j (by omega)) h34
      refine g_aload B dX6_lay_43 rfl ?_
      refine g_iload_n B dX6_lay_45 rfl ?_
      refine g_iload_n B dX6_lay_46 rfl ?_
      refine g_callVV B (ct_X2_put hSj (show y < 40 by omega) _) hSj0 rfl ml_X6_255 mm_X2_put rfl rfl (Nat.le_of_ble_eq_true rfl) dX6_lay_47 (by decide) ?_
      rintro _ rfl
      refine g_iconst B (v := 1) dX6_lay_50 (by decide) ?_
      exact g_iret B E rfl dX6_lay_51 (Or.inr ⟨j, by omega, rfl, Or.inr ⟨y, z, hy, hz, rfl, hz2, rfl, by rw [show 42 + 2 * j + 1 = 43 + 2 * j by omega]⟩⟩)
    · refine g_bipush B (v := (-10)) dX6_lay_37 (by decide) ?_
      refine g_iload B dX6_lay_39 rfl ?_
      refine g_isub B dX6_lay_41 ?_
      exact g_iret B E rfl dX6_lay_42 (Or.inr ⟨j, by omega, rfl, Or.inl ⟨h34, rfl, rfl⟩⟩)
  · rw [bI_eq0] at h6
    refine g_iconst B (v := (-1)) dX6_lay_9 (by decide) ?_
    exact g_iret B E rfl dX6_lay_10 (Or.inl ⟨by assumption, rfl, rfl⟩)
set_option maxHeartbeats 4000000 in
set_option maxRecDepth 100000 in
theorem ct_X7_lay {I : Wo} (hs : ∀ j, j < 4 → I 70 j = -4 ∨ ∃ z, z ≤ 40 ∧ I 71 j = nI z) (k i v : Int32) : Ct yX7_lay cX7_lay 4 (some .int) 2 46 [.ref 57, .int k, .int i, .int v] I (pI (fun r u => (wi k 0 3 = false ∧ r = -1 ∧ I = u) ∨ (∃ j, j < 4 ∧ k = nI j ∧ ((I 70 j = -4 ∧ r = -11 ∧ I = u) ∨ (¬ I 70 j = -4 ∧ wi i 0 (I 71 j - 1) = false ∧ r = -12 ∧ I = u) ∨ (∃ y, ¬ I 70 j = -4 ∧ y < 40 ∧ i = nI y ∧ wi i 0 (I 71 j - 1) = true ∧ r = 1 ∧ u = w2 I 72 (40 * j + y) (puF (I 70 j) v)))))) := by
  refine ct_of RX7 rfl (by decide) (Nat.le_of_ble_eq_true rfl) (fun X B E => ?_)
  show GW X 4 0 [some (.ref 57), some (.int k), some (.int i), some (.int v)] [] _
  refine g_iload_n B dX7_lay_0 rfl ?_
  refine g_iconst B (v := 0) dX7_lay_1 (by decide) ?_
  refine g_callSI B (ct_X7_isSheet _ _) ml_X7_250 mm_X7_isSheet rfl rfl (Nat.le_of_ble_eq_true rfl) dX7_lay_2 (by decide) ?_
  rintro _ _ ⟨rfl, rfl⟩
  refine g_if_ne B 10 dX7_lay_5 (by decide) (fun h5 => ?_) (fun h5 => ?_)
  · rw [bI_ne0] at h5
    simp only [show wi 0 0 2 = true from rfl, Bool.and_true] at h5
    obtain ⟨j, hj, rfl⟩ := (wi_iff (m := 3) (by decide)).mp h5
    have hcl : (nI j).toNatClampNeg = j := nI_clamp (by omega)
    refine g_aload_n B dX7_lay_10 rfl ?_
    refine g_getr B ci_X7 (by first | rfl | assumption) rfl (by decide) fl_X7_47 dX7_lay_11 ?_
    refine g_iload_n B dX7_lay_14 rfl ?_
    refine g_iald B (by first | rfl | assumption) _ (by first | with_reducible rfl | exact lit_add _ _ | exact add_lit _ _ | exact nI_add _ _ | exact lit_nI _ | assumption | rfl) (by first | decide | omega | assumption) (by decide) dX7_lay_15 ?_
    refine g_bipush B (v := (-4)) dX7_lay_16 (by decide) ?_
    refine g_icmp_ne B 24 dX7_lay_18 (by decide) (fun h18 => ?_) (fun h18 => ?_)
    · refine g_iload_n B dX7_lay_24 rfl ?_
      refine g_i2l B dX7_lay_25 ?_
      refine g_lconst B (v := 0) dX7_lay_26 (by decide) ?_
      refine g_aload_n B dX7_lay_27 rfl ?_
      refine g_getr B ci_X7 (by first | rfl | assumption) rfl (by decide) fl_X7_50 dX7_lay_28 ?_
      refine g_iload_n B dX7_lay_31 rfl ?_
      refine g_iald B (by first | rfl | assumption) _ (by first | with_reducible rfl | exact lit_add _ _ | exact add_lit _ _ | exact nI_add _ _ | exact lit_nI _ | assumption | rfl) (by first | decide | omega | assumption) (by decide) dX7_lay_32 ?_
      refine g_iconst B (v := 1) dX7_lay_33 (by decide) ?_
      refine g_isub B dX7_lay_34 ?_
      refine g_i2l B dX7_lay_35 ?_
      refine g_callSI B (ct_in _ 0 (I 71 j - 1) rfl (by decide) rfl) ml_X7_77 mm_X7_in rfl rfl (Nat.le_of_ble_eq_true rfl) dX7_lay_36 (by decide) ?_
      rintro _ _ ⟨rfl, rfl⟩
      refine g_if_ne B 45 dX7_lay_39 (by decide) (fun h39 => ?_) (fun h39 => ?_)
      · rw [bI_ne0] at h39
        obtain ⟨z, hz, hz2⟩ := (hs j (by omega)).resolve_left h18
        obtain ⟨y, hy, rfl⟩ := wi_pred (z := z) (by omega) (by rw [← hz2]; exact h39)
        refine g_aload_n B dX7_lay_45 rfl ?_
        refine g_getr B ci_X7 (by first | rfl | assumption) rfl (by decide) fl_X7_53 dX7_lay_46 ?_
        refine g_bipush B (v := 40) dX7_lay_49 (by decide) ?_
        refine g_iload_n B dX7_lay_51 rfl ?_
        refine g_imul B dX7_lay_52 ?_
        refine g_iload_n B dX7_lay_53 rfl ?_
        refine g_iadd B dX7_lay_54 ?_
        refine g_eqi (nI (40 * j + y)) (by rw [show (40 : Int32) = nI 40 from rfl, pk_mul, nI_add]) ?_
        refine g_aload_n B dX7_lay_55 rfl ?_
        refine g_getr B ci_X7 (by first | rfl | assumption) rfl (by decide) fl_X7_47 dX7_lay_56 ?_
        refine g_iload_n B dX7_lay_59 rfl ?_
        refine g_iald B (by first | rfl | assumption) _ (by first | with_reducible rfl | exact lit_add _ _ | exact add_lit _ _ | exact nI_add _ _ | exact lit_nI _ | assumption | rfl) (by first | decide | omega | assumption) (by decide) dX7_lay_60 ?_
        refine g_if_ne B 69 dX7_lay_61 (by decide) (fun h61 => ?_) (fun h61 => ?_)
        · refine g_aload_n B dX7_lay_69 rfl ?_
          refine g_getr B ci_X7 (by first | rfl | assumption) rfl (by decide) fl_X7_47 dX7_lay_70 ?_
          refine g_iload_n B dX7_lay_73 rfl ?_
          refine g_iald B (by first | rfl | assumption) _ (by first | with_reducible rfl | exact lit_add _ _ | exact add_lit _ _ | exact nI_add _ _ | exact lit_nI _ | assumption | rfl) (by first | decide | omega | assumption) (by decide) dX7_lay_74 ?_
          refine g_iconst B (v := 1) dX7_lay_75 (by decide) ?_
          refine g_icmp_ne B 84 dX7_lay_76 (by decide) (fun h76 => ?_) (fun h76 => ?_)
          · refine g_iload_n B dX7_lay_84 rfl ?_
            refine g_iast B (by first | rfl | assumption) (40 * j + y) rfl (by first | decide | omega | assumption) (by decide) dX7_lay_85 ?_
            refine g_iconst B (v := 1) dX7_lay_86 (by decide) ?_
            exact g_iret B E rfl dX7_lay_87 (Or.inr ⟨j, by omega, rfl, Or.inr (Or.inr ⟨y, h18, by omega, rfl, h39, rfl, by simp [puF, *]⟩)⟩)
          · refine g_iload_n B dX7_lay_79 rfl ?_
            refine g_i2s B dX7_lay_80 ?_
            refine g_goto B 85 dX7_lay_81 (by decide) ?_
            refine g_iast B (by first | rfl | assumption) (40 * j + y) rfl (by first | decide | omega | assumption) (by decide) dX7_lay_85 ?_
            refine g_iconst B (v := 1) dX7_lay_86 (by decide) ?_
            exact g_iret B E rfl dX7_lay_87 (Or.inr ⟨j, by omega, rfl, Or.inr (Or.inr ⟨y, h18, by omega, rfl, h39, rfl, by simp [puF, *]⟩)⟩)
        · refine g_iload_n B dX7_lay_64 rfl ?_
          refine g_i2b B dX7_lay_65 ?_
          refine g_goto B 85 dX7_lay_66 (by decide) ?_
          refine g_iast B (by first | rfl | assumption) (40 * j + y) rfl (by first | decide | omega | assumption) (by decide) dX7_lay_85 ?_
          refine g_iconst B (v := 1) dX7_lay_86 (by decide) ?_
          exact g_iret B E rfl dX7_lay_87 (Or.inr ⟨j, by omega, rfl, Or.inr (Or.inr ⟨y, h18, by omega, rfl, h39, rfl, by simp [puF, *]⟩)⟩)
      · rw [bI_eq0] at h39
        refine g_bipush B (v := (-12)) dX7_lay_42 (by decide) ?_
        exact g_iret B E rfl dX7_lay_44 (Or.inr ⟨j, by omega, rfl, Or.inr (Or.inl ⟨h18, h39, rfl, rfl⟩)⟩)
    · refine g_bipush B (v := (-11)) dX7_lay_21 (by decide) ?_
      exact g_iret B E rfl dX7_lay_23 (Or.inr ⟨j, by omega, rfl, Or.inl ⟨h18, rfl, rfl⟩⟩)
  · rw [bI_eq0] at h5
    simp only [show wi 0 0 2 = true from rfl, Bool.and_true] at h5
    refine g_iconst B (v := (-1)) dX7_lay_8 (by decide) ?_
    exact g_iret B E rfl dX7_lay_9 (Or.inl ⟨by assumption, rfl, rfl⟩)
set_option maxHeartbeats 4000000 in
set_option maxRecDepth 100000 in
theorem ct_X6_read {I : Wo} {n : Nat} (hn : I 1 9 = nI n) (hn8 : n ≤ 8) (hs : ∀ j, j < 4 → I (42 + 2 * j) 2 = -1 ∨ ∃ z, z ≤ 40 ∧ I (42 + 2 * j) 2 = nI z) (k lane f c : Int32) : Ct yX6_read cX6_read 10 (some .int) 2 45 [.ref 0, .int k, .int lane, .int f, .int c] I (pI (fun r u => ((wi k 0 3 && wi lane 0 2 && wi c 0 20) = false ∧ r = -1 ∧ I = u) ∨ (∃ j m, j < 4 ∧ m ≤ 20 ∧ k = nI j ∧ c = nI m ∧ wi lane 0 2 = true ∧ ∃ s t, RdE m (fun k => faF lane (I (42 + 2 * j) 1) (I (42 + 2 * j) 2) (f + nI k)) (fun k => I (43 + 2 * j) (f + nI k).toNatClampNeg) n (I 1 12) (I 1 11) (I 3) (I 4) r s t ∧ u = rdU I 1 12 0 11 s t))) := by
  refine ct_of RX6 rfl (by decide) (Nat.le_of_ble_eq_true rfl) (fun X B E => ?_)
  show GW X 10 0 [some (.ref 0), some (.int k), some (.int lane), some (.int f), some (.int c), none, none, none, none, none] [] _
  refine g_iload_n B dX6_read_0 rfl ?_
  refine g_iconst B (v := 0) dX6_read_1 (by decide) ?_
  refine g_iconst B (v := 3) dX6_read_2 (by decide) ?_
  refine g_callSI B (ct_X6_within _ _ _) ml_X6_66 mm_X6_within rfl rfl (Nat.le_of_ble_eq_true rfl) dX6_read_3 (by decide) ?_
  rintro _ _ ⟨rfl, rfl⟩
  refine g_if_eq B 29 dX6_read_6 (by decide) (fun h6 => ?_) (fun h6 => ?_)
  · rw [bI_eq0] at h6
    refine g_iconst B (v := (-1)) dX6_read_29 (by decide) ?_
    exact g_iret B E rfl dX6_read_30 (Or.inl ⟨by simp [*], rfl, rfl⟩)
  · rw [bI_ne0] at h6
    refine g_iload_n B dX6_read_9 rfl ?_
    refine g_iconst B (v := 0) dX6_read_10 (by decide) ?_
    refine g_iconst B (v := 2) dX6_read_11 (by decide) ?_
    refine g_callSI B (ct_X6_within _ _ _) ml_X6_66 mm_X6_within rfl rfl (Nat.le_of_ble_eq_true rfl) dX6_read_12 (by decide) ?_
    rintro _ _ ⟨rfl, rfl⟩
    refine g_if_eq B 29 dX6_read_15 (by decide) (fun h15 => ?_) (fun h15 => ?_)
    · rw [bI_eq0] at h15
      refine g_iconst B (v := (-1)) dX6_read_29 (by decide) ?_
      exact g_iret B E rfl dX6_read_30 (Or.inl ⟨by simp [*], rfl, rfl⟩)
    · rw [bI_ne0] at h15
      refine g_iload B dX6_read_18 rfl ?_
      refine g_iconst B (v := 0) dX6_read_20 (by decide) ?_
      refine g_bipush B (v := 20) dX6_read_21 (by decide) ?_
      refine g_callSI B (ct_X6_within _ _ _) ml_X6_66 mm_X6_within rfl rfl (Nat.le_of_ble_eq_true rfl) dX6_read_23 (by decide) ?_
      rintro _ _ ⟨rfl, rfl⟩
      refine g_if_ne B 31 dX6_read_26 (by decide) (fun h26 => ?_) (fun h26 => ?_)
      · rw [bI_ne0] at h26
        obtain ⟨j, hj, rfl⟩ := (wi_iff (m := 3) (by decide)).mp h6
        obtain ⟨m, hm, rfl⟩ := (wi_iff (m := 20) (by decide)).mp h26
        have hSj := ss_j (show j < 4 by omega)
        have hSj0 := hSj.1
        have hSj1 : shL[43 + 2 * j]? = some (.inr (.inl (0, 40))) := by have := hSj.2; rw [show 42 + 2 * j + 1 = 43 + 2 * j by omega] at this; exact this
        refine g_aload_n B dX6_read_31 rfl ?_
        refine g_getr B ci_X6 (by first | rfl | assumption) rfl (by decide) fl_X6_36 dX6_read_32 ?_
        refine g_iload_n B dX6_read_35 rfl ?_
        refine g_aald B (by first | rfl | assumption) (fun _ => rfl) _ (by first | with_reducible rfl | exact lit_add _ _ | exact add_lit _ _ | exact nI_add _ _ | exact lit_nI _ | assumption | rfl) (by simp only [List.length_cons, List.length_nil]; omega) (by decide) dX6_read_36 ?_
        refine g_eqr (42 + 2 * j) (by rcases (show j = 0 ∨ j = 1 ∨ j = 2 ∨ j = 3 by omega) with rfl | rfl | rfl | rfl <;> rfl) ?_
        refine g_ast5 B dX6_read_37 (by decide) rfl ?_
        refine g_aload_n B dX6_read_39 rfl ?_
        refine g_getr B ci_X6 (by first | rfl | assumption) rfl (by decide) fl_X6_10 dX6_read_40 ?_
        refine g_geti B ci_X3 (by first | rfl | assumption) rfl (by decide) fl_X6_104 dX6_read_43 ?_
        refine g_ist6 B dX6_read_46 (by decide) rfl ?_
        refine g_iconst B (v := 0) dX6_read_48 (by decide) ?_
        refine g_ist7 B dX6_read_49 (by decide) rfl ?_
        refine g_iconst B (v := 0) dX6_read_51 (by decide) ?_
        refine g_ist8 B dX6_read_52 (by decide) rfl ?_
        refine g_iconst B (v := 0) dX6_read_54 (by decide) ?_
        refine g_ist9 B dX6_read_55 (by decide) rfl ?_
        refine g_eqI (w2_self I 1 12).symm ?_
        have L : ∀ i, i ≤ m → (∀ k, k < i → faF lane (I (42 + 2 * j) 1) (I (42 + 2 * j) 2) (f + nI k) = 0 ∧ sayQ n (I (43 + 2 * j) (f + nI k).toNatClampNeg) (rdS (fun k => I (43 + 2 * j) (f + nI k).toNatClampNeg) (I 1 12) k) (I 1 11) (I 3) (I 4) = 0) → GW X 10 57 [some (.ref 0), some (.int (nI j)), some (.int lane), some (.int f), some (.int (nI m)), some (.ref (42 + 2 * j)), some (.int (I 1 12)), some (.int 0), some (.int (nI i)), some (.int (nI i))] [] (w2 I 1 12 (rdS (fun k => I (43 + 2 * j) (f + nI k).toNatClampNeg) (I 1 12) i)) := by
          refine loopN m (fun i hi ih hok => ?_)
          refine g_iload B dX6_read_57 rfl ?_
          refine g_iload B dX6_read_59 rfl ?_
          refine g_icmp_ge B 127 dX6_read_61 (by decide) (fun h61 => ?_) (fun h61 => ?_)
          · have hi2 : i = m := by have := le_le (a := m) (b := i) (by omega) (by omega) h61; omega
            refine g_aload_n B dX6_read_127 rfl ?_
            refine g_iload B dX6_read_128 rfl ?_
            refine g_put B ci_X6 (by first | rfl | assumption) rfl (by decide) fl_X6_264 rfl rfl rfl dX6_read_130 ?_
            refine g_iload B dX6_read_133 rfl ?_
            exact g_iret B E rfl dX6_read_135 (Or.inr ⟨j, m, by omega, hm, rfl, rfl, h15, _, some 0, ⟨i, ⟨hi, hok⟩, Or.inr (Or.inr ⟨hi2, by rw [hi2], rfl, rfl⟩)⟩, rfl⟩)
          · have hlt : i < m := nle_lt (by omega) (by omega) h61
            refine g_iload B dX6_read_64 rfl ?_
            refine g_if_ne B 127 dX6_read_66 (by decide) (fun h66 => ?_) (fun h66 => ?_)
            · exact absurd rfl h66
            · refine g_aload B dX6_read_69 rfl ?_
              refine g_iload_n B dX6_read_71 rfl ?_
              refine g_iload_n B dX6_read_72 rfl ?_
              refine g_iload B dX6_read_73 rfl ?_
              refine g_iadd B dX6_read_75 ?_
              refine g_callVI B (ct_X2_faultOf (I := w2 I 1 12 (rdS (fun k => I (43 + 2 * j) (f + nI k).toNatClampNeg) (I 1 12) i)) hSj lane (f + nI i)) hSj0 rfl ml_X6_252 mm_X2_faultOf rfl rfl (Nat.le_of_ble_eq_true rfl) dX6_read_76 (by decide) ?_
              rintro _ _ ⟨rfl, rfl⟩
              rw [w2_cell _ _ (show 42 + 2 * j ≠ 1 by omega), w2_cell _ _ (show 42 + 2 * j ≠ 1 by omega)]
              refine g_ist7 B dX6_read_79 (by decide) rfl ?_
              refine g_iload B dX6_read_81 rfl ?_
              refine g_if_ne B 121 dX6_read_83 (by decide) (fun h83 => ?_) (fun h83 => ?_)
              · skip
                refine g_inc9 B dX6_read_121 rfl (inc1 _) (by decide) rfl ?_
                refine g_goto B 57 dX6_read_124 (by decide) ?_
                refine g_iload B dX6_read_57 rfl ?_
                refine g_iload B dX6_read_59 rfl ?_
                refine g_icmp_ge B 127 dX6_read_61 (by decide) (fun h61 => ?_) (fun h61 => ?_)
                · refine g_aload_n B dX6_read_127 rfl ?_
                  refine g_iload B dX6_read_128 rfl ?_
                  refine g_put B ci_X6 (by first | rfl | assumption) rfl (by decide) fl_X6_264 rfl rfl rfl dX6_read_130 ?_
                  refine g_iload B dX6_read_133 rfl ?_
                  exact g_iret B E rfl dX6_read_135 (Or.inr ⟨j, m, by omega, hm, rfl, rfl, h15, _, some _, ⟨i, ⟨hi, hok⟩, Or.inr (Or.inl ⟨hlt, h83, rfl, rfl, rfl⟩)⟩, rfl⟩)
                · refine g_iload B dX6_read_64 rfl ?_
                  refine g_if_ne B 127 dX6_read_66 (by decide) (fun h66 => ?_) (fun h66 => ?_)
                  · refine g_aload_n B dX6_read_127 rfl ?_
                    refine g_iload B dX6_read_128 rfl ?_
                    refine g_put B ci_X6 (by first | rfl | assumption) rfl (by decide) fl_X6_264 rfl rfl rfl dX6_read_130 ?_
                    refine g_iload B dX6_read_133 rfl ?_
                    exact g_iret B E rfl dX6_read_135 (Or.inr ⟨j, m, by omega, hm, rfl, rfl, h15, _, some _, ⟨i, ⟨hi, hok⟩, Or.inr (Or.inl ⟨hlt, h83, rfl, rfl, rfl⟩)⟩, rfl⟩)
                  · exact absurd h66 h83
              · have hfa := h83
                obtain ⟨y, z, hy, hz, hyf, hz2⟩ := fa_ok2 (hs j (by omega)) h83
                rw [h83]
                refine g_aload_n B dX6_read_86 rfl ?_
                refine g_aload B dX6_read_87 rfl ?_
                refine g_getr B ci_X2 (by first | rfl | assumption) rfl (by decide) fl_X6_258 dX6_read_89 ?_
                refine g_eqr (43 + 2 * j) (by omega) ?_
                refine g_iload_n B dX6_read_92 rfl ?_
                refine g_iload B dX6_read_93 rfl ?_
                refine g_iadd B dX6_read_95 ?_
                refine g_iald B hSj1 y hyf (by omega) (by decide) dX6_read_96 ?_
                rw [w2_cell _ _ (show 43 + 2 * j ≠ 1 by omega)]
                have hcy : I (43 + 2 * j) y = I (43 + 2 * j) (f + nI i).toNatClampNeg := by rw [hyf, nI_clamp (by omega)]
                rw [hcy]
                refine g_callVI B (ct_say_w (I := I) hn hn8 (rdS (fun k => I (43 + 2 * j) (f + nI k).toNatClampNeg) (I 1 12) i) (I (43 + 2 * j) (f + nI i).toNatClampNeg)) (by first | rfl | assumption) rfl ml_X6_261 mm_X6_say rfl rfl (Nat.le_of_ble_eq_true rfl) dX6_read_97 (by decide) ?_
                rintro r97 _ ⟨hr97, rfl⟩
                refine g_if_ge B 118 dX6_read_100 (by decide) (fun h100 => ?_) (fun h100 => ?_)
                · have hsq := say_ge hn8 hr97 h100
                  rw [if_pos hsq]
                  refine g_eqI (show _ = w2 I 1 12 (rdS (fun k => I (43 + 2 * j) (f + nI k).toNatClampNeg) (I 1 12) (i + 1)) from w2_w2 _ _ _ _ _) ?_
                  refine g_inc8 B dX6_read_118 rfl (inc1 _) (by decide) rfl ?_
                  refine g_inc9 B dX6_read_121 rfl (inc1 _) (by decide) rfl ?_
                  refine g_goto B 57 dX6_read_124 (by decide) ?_
                  exact ih hlt (lt_s hok ⟨hfa, hsq⟩)
                · have hsq := say_lt hn8 hr97 h100
                  rw [if_neg hsq]
                  refine g_aload_n B dX6_read_103 rfl ?_
                  refine g_getr B ci_X6 (by first | rfl | assumption) rfl (by decide) fl_X6_10 dX6_read_104 ?_
                  refine g_iload B dX6_read_107 rfl ?_
                  refine g_put B ci_X3 (by first | rfl | assumption) rfl (by decide) fl_X6_104 rfl rfl rfl dX6_read_109 ?_
                  refine g_bipush B (v := (-20)) dX6_read_112 (by decide) ?_
                  refine g_iload B dX6_read_114 rfl ?_
                  refine g_isub B dX6_read_116 ?_
                  exact g_iret B E rfl dX6_read_117 (Or.inr ⟨j, m, by omega, hm, rfl, rfl, h15, I 1 12, none, ⟨i, ⟨hi, hok⟩, Or.inl ⟨hlt, hfa, hsq, rfl, rfl, rfl⟩⟩, by rw [w2_w2]; exact w2_self I 1 12⟩)
        exact L 0 (Nat.zero_le _) (fun k hk => absurd hk (Nat.not_lt_zero k))
      · rw [bI_eq0] at h26
        refine g_iconst B (v := (-1)) dX6_read_29 (by decide) ?_
        exact g_iret B E rfl dX6_read_30 (Or.inl ⟨by simp [*], rfl, rfl⟩)
set_option maxHeartbeats 4000000 in
set_option maxRecDepth 100000 in
theorem ct_X7_read {I : Wo} {n : Nat} (hn : I 57 2 = nI n) (hn8 : n ≤ 8) (hs : ∀ j, j < 4 → I 70 j = -4 ∨ ∃ z, z ≤ 40 ∧ I 71 j = nI z) (k lane f c : Int32) : Ct yX7_read cX7_read 11 (some .int) 3 68 [.ref 57, .int k, .int lane, .int f, .int c] I (pI (fun r u => ((wi k 0 3 && wi lane 0 2 && wi c 0 20) = false ∧ r = -1 ∧ I = u) ∨ (∃ j m, j < 4 ∧ m ≤ 20 ∧ k = nI j ∧ c = nI m ∧ wi lane 0 2 = true ∧ ∃ s t, RdE m (fun k => faM lane (I 70 j) (I 71 j) f k) (fun k => I 72 (40 * j + (f + nI k).toNatClampNeg)) n (I 58 24) (I 58 26) (I 61) (I 62) r s t ∧ u = rdU I 58 24 57 28 s t))) := by
  refine ct_of RX7 rfl (by decide) (Nat.le_of_ble_eq_true rfl) (fun X B E => ?_)
  show GW X 11 0 [some (.ref 57), some (.int k), some (.int lane), some (.int f), some (.int c), none, none, none, none, none, none] [] _
  refine g_iload_n B dX7_read_0 rfl ?_
  refine g_iload_n B dX7_read_1 rfl ?_
  refine g_callSI B (ct_X7_isSheet _ _) ml_X7_250 mm_X7_isSheet rfl rfl (Nat.le_of_ble_eq_true rfl) dX7_read_2 (by decide) ?_
  rintro _ _ ⟨rfl, rfl⟩
  refine g_if_eq B 21 dX7_read_5 (by decide) (fun h5 => ?_) (fun h5 => ?_)
  · rw [bI_eq0] at h5
    refine g_iconst B (v := (-1)) dX7_read_21 (by decide) ?_
    exact g_iret B E rfl dX7_read_22 (Or.inl ⟨by simp [*], rfl, rfl⟩)
  · rw [bI_ne0] at h5
    simp only [Bool.and_eq_true] at h5
    refine g_iload B dX7_read_8 rfl ?_
    refine g_i2l B dX7_read_10 ?_
    refine g_lconst B (v := 0) dX7_read_11 (by decide) ?_
    refine g_ldc2 B dX7_read_12 cn_X7_253 ?_
    refine g_callSI B (ct_in _ 0 20 rfl (by decide) (by decide)) ml_X7_77 mm_X7_in rfl rfl (Nat.le_of_ble_eq_true rfl) dX7_read_15 (by decide) ?_
    rintro _ _ ⟨rfl, rfl⟩
    refine g_if_ne B 23 dX7_read_18 (by decide) (fun h18 => ?_) (fun h18 => ?_)
    · rw [bI_ne0] at h18
      obtain ⟨h5a, h15⟩ := h5
      obtain ⟨j, hj, rfl⟩ := (wi_iff (m := 3) (by decide)).mp h5a
      obtain ⟨m, hm, rfl⟩ := (wi_iff (m := 20) (by decide)).mp h18
      refine g_aload_n B dX7_read_23 rfl ?_
      refine g_getr B ci_X7 (by first | rfl | assumption) rfl (by decide) fl_X7_7 dX7_read_24 ?_
      refine g_bipush B (v := 24) dX7_read_27 (by decide) ?_
      refine g_iald B (by first | rfl | assumption) 24 (lit_nI 24) (by first | decide | omega | assumption) (by decide) dX7_read_29 ?_
      refine g_ist5 B dX7_read_30 (by decide) rfl ?_
      refine g_iconst B (v := 0) dX7_read_32 (by decide) ?_
      refine g_ist6 B dX7_read_33 (by decide) rfl ?_
      refine g_iconst B (v := 0) dX7_read_35 (by decide) ?_
      refine g_ist7 B dX7_read_36 (by decide) rfl ?_
      refine g_iconst B (v := 0) dX7_read_38 (by decide) ?_
      refine g_ist8 B dX7_read_39 (by decide) rfl ?_
      refine g_eqI (w2_self I 58 24).symm ?_
      have L : ∀ i, i ≤ m → ∀ q, (∀ k, k < i → faM lane (I 70 j) (I 71 j) f k = 0 ∧ sayQ n (I 72 (40 * j + (f + nI k).toNatClampNeg)) (rdS (fun k => I 72 (40 * j + (f + nI k).toNatClampNeg)) (I 58 24) k) (I 58 26) (I 61) (I 62) = 0) → GW X 11 41 [some (.ref 57), some (.int (nI j)), some (.int lane), some (.int f), some (.int (nI m)), some (.int (I 58 24)), some (.int 0), some (.int (nI i)), some (.int (nI i)), q, none] [] (w2 I 58 24 (rdS (fun k => I 72 (40 * j + (f + nI k).toNatClampNeg)) (I 58 24) i)) := by
        refine loopN m (fun i hi ih q hok => ?_)
        refine g_iload B dX7_read_41 rfl ?_
        refine g_iload B dX7_read_43 rfl ?_
        refine g_icmp_ge B 167 dX7_read_45 (by decide) (fun h45 => ?_) (fun h45 => ?_)
        · have hi2 : i = m := by have := le_le (a := m) (b := i) (by omega) (by omega) h45; omega
          refine g_aload_n B dX7_read_167 rfl ?_
          refine g_iload B dX7_read_168 rfl ?_
          refine g_put B ci_X7 (by first | rfl | assumption) rfl (by decide) fl_X7_258 rfl rfl rfl dX7_read_170 ?_
          refine g_iload B dX7_read_173 rfl ?_
          exact g_iret B E rfl dX7_read_175 (Or.inr ⟨j, m, by omega, hm, rfl, rfl, h15, _, some 0, ⟨i, ⟨hi, hok⟩, Or.inr (Or.inr ⟨hi2, by rw [hi2], rfl, rfl⟩)⟩, rfl⟩)
        · have hlt : i < m := nle_lt (by omega) (by omega) h45
          refine g_iload B dX7_read_48 rfl ?_
          refine g_if_ne B 167 dX7_read_50 (by decide) (fun h50 => ?_) (fun h50 => ?_)
          · exact absurd rfl h50
          · refine g_iload_n B dX7_read_53 rfl ?_
            refine g_i2l B dX7_read_54 ?_
            refine g_iload B dX7_read_55 rfl ?_
            refine g_i2l B dX7_read_57 ?_
            refine g_ladd B dX7_read_58 ?_
            refine g_lst9 B dX7_read_59 (by decide) rfl ?_
            refine g_aload_n B dX7_read_61 rfl ?_
            refine g_getr B ci_X7 (by first | rfl | assumption) rfl (by decide) fl_X7_47 dX7_read_62 ?_
            refine g_iload_n B dX7_read_65 rfl ?_
            refine g_iald B (by first | rfl | assumption) _ (by first | with_reducible rfl | exact lit_add _ _ | exact add_lit _ _ | exact nI_add _ _ | exact lit_nI _ | assumption | rfl) (by first | decide | omega | assumption) (by decide) dX7_read_66 ?_
            rw [w2_cell _ _ (show 70 ≠ 58 by decide)]
            refine g_bipush B (v := (-4)) dX7_read_67 (by decide) ?_
            refine g_icmp_ne B 76 dX7_read_69 (by decide) (fun h69 => ?_) (fun h69 => ?_)
            · refine g_aload_n B dX7_read_76 rfl ?_
              refine g_getr B ci_X7 (by first | rfl | assumption) rfl (by decide) fl_X7_47 dX7_read_77 ?_
              refine g_iload_n B dX7_read_80 rfl ?_
              refine g_iald B (by first | rfl | assumption) _ (by first | with_reducible rfl | exact lit_add _ _ | exact add_lit _ _ | exact nI_add _ _ | exact lit_nI _ | assumption | rfl) (by first | decide | omega | assumption) (by decide) dX7_read_81 ?_
              rw [w2_cell _ _ (show 70 ≠ 58 by decide)]
              refine g_iload_n B dX7_read_82 rfl ?_
              refine g_icmp_eq B 90 dX7_read_83 (by decide) (fun h83 => ?_) (fun h83 => ?_)
              · refine g_lload B dX7_read_90 rfl ?_
                refine g_lconst B (v := 0) dX7_read_92 (by decide) ?_
                refine g_lcmp B dX7_read_93 ?_
                refine g_if_lt B 110 dX7_read_94 (by decide) (fun h94 => ?_) (fun h94 => ?_)
                · rw [cmp_lt] at h94
                  refine g_iconst B (v := 2) dX7_read_110 (by decide) ?_
                  refine g_goto B 115 dX7_read_111 (by decide) ?_
                  refine g_eqi (faM lane (I 70 j) (I 71 j) f i) (by unfold faM; first | rw [if_pos h69] | rw [if_neg h69, if_neg h83] | rw [if_neg h69, if_pos h83, if_pos h94] | rw [if_neg h69, if_pos h83, if_neg h94, if_pos h107] | rw [if_neg h69, if_pos h83, if_neg h94, if_neg h107]) ?_
                  refine g_ist6 B dX7_read_115 (by decide) rfl ?_
                  refine g_iload B dX7_read_117 rfl ?_
                  refine g_if_ne B 161 dX7_read_119 (by decide) (fun h119 => ?_) (fun h119 => ?_)
                  · skip
                    refine g_inc8 B dX7_read_161 rfl (inc1 _) (by decide) rfl ?_
                    refine g_goto B 41 dX7_read_164 (by decide) ?_
                    refine g_iload B dX7_read_41 rfl ?_
                    refine g_iload B dX7_read_43 rfl ?_
                    refine g_icmp_ge B 167 dX7_read_45 (by decide) (fun h45 => ?_) (fun h45 => ?_)
                    · refine g_aload_n B dX7_read_167 rfl ?_
                      refine g_iload B dX7_read_168 rfl ?_
                      refine g_put B ci_X7 (by first | rfl | assumption) rfl (by decide) fl_X7_258 rfl rfl rfl dX7_read_170 ?_
                      refine g_iload B dX7_read_173 rfl ?_
                      exact g_iret B E rfl dX7_read_175 (Or.inr ⟨j, m, by omega, hm, rfl, rfl, h15, _, some _, ⟨i, ⟨hi, hok⟩, Or.inr (Or.inl ⟨hlt, h119, rfl, rfl, rfl⟩)⟩, rfl⟩)
                    · refine g_iload B dX7_read_48 rfl ?_
                      refine g_if_ne B 167 dX7_read_50 (by decide) (fun h50 => ?_) (fun h50 => ?_)
                      · refine g_aload_n B dX7_read_167 rfl ?_
                        refine g_iload B dX7_read_168 rfl ?_
                        refine g_put B ci_X7 (by first | rfl | assumption) rfl (by decide) fl_X7_258 rfl rfl rfl dX7_read_170 ?_
                        refine g_iload B dX7_read_173 rfl ?_
                        exact g_iret B E rfl dX7_read_175 (Or.inr ⟨j, m, by omega, hm, rfl, rfl, h15, _, some _, ⟨i, ⟨hi, hok⟩, Or.inr (Or.inl ⟨hlt, h119, rfl, rfl, rfl⟩)⟩, rfl⟩)
                      · exact absurd h50 h119
                  · have hfa := h119
                    obtain ⟨y, z, hy, hz, hyf, hz2⟩ := fam_ok (by omega) (hs j (by omega)) h119
                    rw [h119]
                    refine g_aload_n B dX7_read_122 rfl ?_
                    refine g_aload_n B dX7_read_123 rfl ?_
                    refine g_getr B ci_X7 (by first | rfl | assumption) rfl (by decide) fl_X7_53 dX7_read_124 ?_
                    refine g_bipush B (v := 40) dX7_read_127 (by decide) ?_
                    refine g_iload_n B dX7_read_129 rfl ?_
                    refine g_imul B dX7_read_130 ?_
                    refine g_iload_n B dX7_read_131 rfl ?_
                    refine g_iadd B dX7_read_132 ?_
                    refine g_iload B dX7_read_133 rfl ?_
                    refine g_iadd B dX7_read_135 ?_
                    refine g_eqi (nI (40 * j + y)) (by rw [show (40 : Int32) = nI 40 from rfl, pk_mul, Int32.add_assoc, hyf, nI_add]) ?_
                    refine g_iald B (by first | rfl | assumption) (40 * j + y) rfl (by first | decide | omega | assumption) (by decide) dX7_read_136 ?_
                    rw [w2_cell _ _ (show 72 ≠ 58 by decide)]
                    have hcy : I 72 (40 * j + y) = I 72 (40 * j + (f + nI i).toNatClampNeg) := by rw [hyf, nI_clamp (by omega)]
                    rw [hcy]
                    refine g_callVI B (ct_sayM_w (I := I) hn hn8 (rdS (fun k => I 72 (40 * j + (f + nI k).toNatClampNeg)) (I 58 24) i) (I 72 (40 * j + (f + nI i).toNatClampNeg))) (by first | rfl | assumption) rfl ml_X7_255 mm_X7_say rfl rfl (Nat.le_of_ble_eq_true rfl) dX7_read_137 (by decide) ?_
                    rintro r137 _ ⟨hr137, rfl⟩
                    refine g_if_ge B 158 dX7_read_140 (by decide) (fun h140 => ?_) (fun h140 => ?_)
                    · have hsq := say_ge hn8 hr137 h140
                      rw [if_pos hsq]
                      refine g_eqI (show _ = w2 I 58 24 (rdS (fun k => I 72 (40 * j + (f + nI k).toNatClampNeg)) (I 58 24) (i + 1)) from w2_w2 _ _ _ _ _) ?_
                      refine g_inc7 B dX7_read_158 rfl (inc1 _) (by decide) rfl ?_
                      refine g_inc8 B dX7_read_161 rfl (inc1 _) (by decide) rfl ?_
                      refine g_goto B 41 dX7_read_164 (by decide) ?_
                      exact ih hlt _ (lt_s hok ⟨hfa, hsq⟩)
                    · have hsq := say_lt hn8 hr137 h140
                      rw [if_neg hsq]
                      refine g_aload_n B dX7_read_143 rfl ?_
                      refine g_getr B ci_X7 (by first | rfl | assumption) rfl (by decide) fl_X7_7 dX7_read_144 ?_
                      refine g_bipush B (v := 24) dX7_read_147 (by decide) ?_
                      refine g_iload B dX7_read_149 rfl ?_
                      refine g_iast B (by first | rfl | assumption) 24 (lit_nI 24) (by first | decide | omega | assumption) (by decide) dX7_read_151 ?_
                      refine g_bipush B (v := (-20)) dX7_read_152 (by decide) ?_
                      refine g_iload B dX7_read_154 rfl ?_
                      refine g_isub B dX7_read_156 ?_
                      exact g_iret B E rfl dX7_read_157 (Or.inr ⟨j, m, by omega, hm, rfl, rfl, h15, I 58 24, none, ⟨i, ⟨hi, hok⟩, Or.inl ⟨hlt, hfa, hsq, rfl, rfl, rfl⟩⟩, by rw [w2_w2]; exact w2_self I 58 24⟩)
                · rw [cmp_lt] at h94
                  refine g_lload B dX7_read_97 rfl ?_
                  refine g_aload_n B dX7_read_99 rfl ?_
                  refine g_getr B ci_X7 (by first | rfl | assumption) rfl (by decide) fl_X7_50 dX7_read_100 ?_
                  refine g_iload_n B dX7_read_103 rfl ?_
                  refine g_iald B (by first | rfl | assumption) _ (by first | with_reducible rfl | exact lit_add _ _ | exact add_lit _ _ | exact nI_add _ _ | exact lit_nI _ | assumption | rfl) (by first | decide | omega | assumption) (by decide) dX7_read_104 ?_
                  rw [w2_cell _ _ (show 71 ≠ 58 by decide)]
                  refine g_i2l B dX7_read_105 ?_
                  refine g_lcmp B dX7_read_106 ?_
                  refine g_if_lt B 114 dX7_read_107 (by decide) (fun h107 => ?_) (fun h107 => ?_)
                  · rw [cmp_lt] at h107
                    refine g_iconst B (v := 0) dX7_read_114 (by decide) ?_
                    refine g_eqi (faM lane (I 70 j) (I 71 j) f i) (by unfold faM; first | rw [if_pos h69] | rw [if_neg h69, if_neg h83] | rw [if_neg h69, if_pos h83, if_pos h94] | rw [if_neg h69, if_pos h83, if_neg h94, if_pos h107] | rw [if_neg h69, if_pos h83, if_neg h94, if_neg h107]) ?_
                    refine g_ist6 B dX7_read_115 (by decide) rfl ?_
                    refine g_iload B dX7_read_117 rfl ?_
                    refine g_if_ne B 161 dX7_read_119 (by decide) (fun h119 => ?_) (fun h119 => ?_)
                    · skip
                      refine g_inc8 B dX7_read_161 rfl (inc1 _) (by decide) rfl ?_
                      refine g_goto B 41 dX7_read_164 (by decide) ?_
                      refine g_iload B dX7_read_41 rfl ?_
                      refine g_iload B dX7_read_43 rfl ?_
                      refine g_icmp_ge B 167 dX7_read_45 (by decide) (fun h45 => ?_) (fun h45 => ?_)
                      · refine g_aload_n B dX7_read_167 rfl ?_
                        refine g_iload B dX7_read_168 rfl ?_
                        refine g_put B ci_X7 (by first | rfl | assumption) rfl (by decide) fl_X7_258 rfl rfl rfl dX7_read_170 ?_
                        refine g_iload B dX7_read_173 rfl ?_
                        exact g_iret B E rfl dX7_read_175 (Or.inr ⟨j, m, by omega, hm, rfl, rfl, h15, _, some _, ⟨i, ⟨hi, hok⟩, Or.inr (Or.inl ⟨hlt, h119, rfl, rfl, rfl⟩)⟩, rfl⟩)
                      · refine g_iload B dX7_read_48 rfl ?_
                        refine g_if_ne B 167 dX7_read_50 (by decide) (fun h50 => ?_) (fun h50 => ?_)
                        · refine g_aload_n B dX7_read_167 rfl ?_
                          refine g_iload B dX7_read_168 rfl ?_
                          refine g_put B ci_X7 (by first | rfl | assumption) rfl (by decide) fl_X7_258 rfl rfl rfl dX7_read_170 ?_
                          refine g_iload B dX7_read_173 rfl ?_
                          exact g_iret B E rfl dX7_read_175 (Or.inr ⟨j, m, by omega, hm, rfl, rfl, h15, _, some _, ⟨i, ⟨hi, hok⟩, Or.inr (Or.inl ⟨hlt, h119, rfl, rfl, rfl⟩)⟩, rfl⟩)
                        · exact absurd h50 h119
                    · have hfa := h119
                      obtain ⟨y, z, hy, hz, hyf, hz2⟩ := fam_ok (by omega) (hs j (by omega)) h119
                      rw [h119]
                      refine g_aload_n B dX7_read_122 rfl ?_
                      refine g_aload_n B dX7_read_123 rfl ?_
                      refine g_getr B ci_X7 (by first | rfl | assumption) rfl (by decide) fl_X7_53 dX7_read_124 ?_
                      refine g_bipush B (v := 40) dX7_read_127 (by decide) ?_
                      refine g_iload_n B dX7_read_129 rfl ?_
                      refine g_imul B dX7_read_130 ?_
                      refine g_iload_n B dX7_read_131 rfl ?_
                      refine g_iadd B dX7_read_132 ?_
                      refine g_iload B dX7_read_133 rfl ?_
                      refine g_iadd B dX7_read_135 ?_
                      refine g_eqi (nI (40 * j + y)) (by rw [show (40 : Int32) = nI 40 from rfl, pk_mul, Int32.add_assoc, hyf, nI_add]) ?_
                      refine g_iald B (by first | rfl | assumption) (40 * j + y) rfl (by first | decide | omega | assumption) (by decide) dX7_read_136 ?_
                      rw [w2_cell _ _ (show 72 ≠ 58 by decide)]
                      have hcy : I 72 (40 * j + y) = I 72 (40 * j + (f + nI i).toNatClampNeg) := by rw [hyf, nI_clamp (by omega)]
                      rw [hcy]
                      refine g_callVI B (ct_sayM_w (I := I) hn hn8 (rdS (fun k => I 72 (40 * j + (f + nI k).toNatClampNeg)) (I 58 24) i) (I 72 (40 * j + (f + nI i).toNatClampNeg))) (by first | rfl | assumption) rfl ml_X7_255 mm_X7_say rfl rfl (Nat.le_of_ble_eq_true rfl) dX7_read_137 (by decide) ?_
                      rintro r137 _ ⟨hr137, rfl⟩
                      refine g_if_ge B 158 dX7_read_140 (by decide) (fun h140 => ?_) (fun h140 => ?_)
                      · have hsq := say_ge hn8 hr137 h140
                        rw [if_pos hsq]
                        refine g_eqI (show _ = w2 I 58 24 (rdS (fun k => I 72 (40 * j + (f + nI k).toNatClampNeg)) (I 58 24) (i + 1)) from w2_w2 _ _ _ _ _) ?_
                        refine g_inc7 B dX7_read_158 rfl (inc1 _) (by decide) rfl ?_
                        refine g_inc8 B dX7_read_161 rfl (inc1 _) (by decide) rfl ?_
                        refine g_goto B 41 dX7_read_164 (by decide) ?_
                        exact ih hlt _ (lt_s hok ⟨hfa, hsq⟩)
                      · have hsq := say_lt hn8 hr137 h140
                        rw [if_neg hsq]
                        refine g_aload_n B dX7_read_143 rfl ?_
                        refine g_getr B ci_X7 (by first | rfl | assumption) rfl (by decide) fl_X7_7 dX7_read_144 ?_
                        refine g_bipush B (v := 24) dX7_read_147 (by decide) ?_
                        refine g_iload B dX7_read_149 rfl ?_
                        refine g_iast B (by first | rfl | assumption) 24 (lit_nI 24) (by first | decide | omega | assumption) (by decide) dX7_read_151 ?_
                        refine g_bipush B (v := (-20)) dX7_read_152 (by decide) ?_
                        refine g_iload B dX7_read_154 rfl ?_
                        refine g_isub B dX7_read_156 ?_
                        exact g_iret B E rfl dX7_read_157 (Or.inr ⟨j, m, by omega, hm, rfl, rfl, h15, I 58 24, none, ⟨i, ⟨hi, hok⟩, Or.inl ⟨hlt, hfa, hsq, rfl, rfl, rfl⟩⟩, by rw [w2_w2]; exact w2_self I 58 24⟩)
                  · rw [cmp_lt] at h107
                    refine g_iconst B (v := 2) dX7_read_110 (by decide) ?_
                    refine g_goto B 115 dX7_read_111 (by decide) ?_
                    refine g_eqi (faM lane (I 70 j) (I 71 j) f i) (by unfold faM; first | rw [if_pos h69] | rw [if_neg h69, if_neg h83] | rw [if_neg h69, if_pos h83, if_pos h94] | rw [if_neg h69, if_pos h83, if_neg h94, if_pos h107] | rw [if_neg h69, if_pos h83, if_neg h94, if_neg h107]) ?_
                    refine g_ist6 B dX7_read_115 (by decide) rfl ?_
                    refine g_iload B dX7_read_117 rfl ?_
                    refine g_if_ne B 161 dX7_read_119 (by decide) (fun h119 => ?_) (fun h119 => ?_)
                    · skip
                      refine g_inc8 B dX7_read_161 rfl (inc1 _) (by decide) rfl ?_
                      refine g_goto B 41 dX7_read_164 (by decide) ?_
                      refine g_iload B dX7_read_41 rfl ?_
                      refine g_iload B dX7_read_43 rfl ?_
                      refine g_icmp_ge B 167 dX7_read_45 (by decide) (fun h45 => ?_) (fun h45 => ?_)
                      · refine g_aload_n B dX7_read_167 rfl ?_
                        refine g_iload B dX7_read_168 rfl ?_
                        refine g_put B ci_X7 (by first | rfl | assumption) rfl (by decide) fl_X7_258 rfl rfl rfl dX7_read_170 ?_
                        refine g_iload B dX7_read_173 rfl ?_
                        exact g_iret B E rfl dX7_read_175 (Or.inr ⟨j, m, by omega, hm, rfl, rfl, h15, _, some _, ⟨i, ⟨hi, hok⟩, Or.inr (Or.inl ⟨hlt, h119, rfl, rfl, rfl⟩)⟩, rfl⟩)
                      · refine g_iload B dX7_read_48 rfl ?_
                        refine g_if_ne B 167 dX7_read_50 (by decide) (fun h50 => ?_) (fun h50 => ?_)
                        · refine g_aload_n B dX7_read_167 rfl ?_
                          refine g_iload B dX7_read_168 rfl ?_
                          refine g_put B ci_X7 (by first | rfl | assumption) rfl (by decide) fl_X7_258 rfl rfl rfl dX7_read_170 ?_
                          refine g_iload B dX7_read_173 rfl ?_
                          exact g_iret B E rfl dX7_read_175 (Or.inr ⟨j, m, by omega, hm, rfl, rfl, h15, _, some _, ⟨i, ⟨hi, hok⟩, Or.inr (Or.inl ⟨hlt, h119, rfl, rfl, rfl⟩)⟩, rfl⟩)
                        · exact absurd h50 h119
                    · have hfa := h119
                      obtain ⟨y, z, hy, hz, hyf, hz2⟩ := fam_ok (by omega) (hs j (by omega)) h119
                      rw [h119]
                      refine g_aload_n B dX7_read_122 rfl ?_
                      refine g_aload_n B dX7_read_123 rfl ?_
                      refine g_getr B ci_X7 (by first | rfl | assumption) rfl (by decide) fl_X7_53 dX7_read_124 ?_
                      refine g_bipush B (v := 40) dX7_read_127 (by decide) ?_
                      refine g_iload_n B dX7_read_129 rfl ?_
                      refine g_imul B dX7_read_130 ?_
                      refine g_iload_n B dX7_read_131 rfl ?_
                      refine g_iadd B dX7_read_132 ?_
                      refine g_iload B dX7_read_133 rfl ?_
                      refine g_iadd B dX7_read_135 ?_
                      refine g_eqi (nI (40 * j + y)) (by rw [show (40 : Int32) = nI 40 from rfl, pk_mul, Int32.add_assoc, hyf, nI_add]) ?_
                      refine g_iald B (by first | rfl | assumption) (40 * j + y) rfl (by first | decide | omega | assumption) (by decide) dX7_read_136 ?_
                      rw [w2_cell _ _ (show 72 ≠ 58 by decide)]
                      have hcy : I 72 (40 * j + y) = I 72 (40 * j + (f + nI i).toNatClampNeg) := by rw [hyf, nI_clamp (by omega)]
                      rw [hcy]
                      refine g_callVI B (ct_sayM_w (I := I) hn hn8 (rdS (fun k => I 72 (40 * j + (f + nI k).toNatClampNeg)) (I 58 24) i) (I 72 (40 * j + (f + nI i).toNatClampNeg))) (by first | rfl | assumption) rfl ml_X7_255 mm_X7_say rfl rfl (Nat.le_of_ble_eq_true rfl) dX7_read_137 (by decide) ?_
                      rintro r137 _ ⟨hr137, rfl⟩
                      refine g_if_ge B 158 dX7_read_140 (by decide) (fun h140 => ?_) (fun h140 => ?_)
                      · have hsq := say_ge hn8 hr137 h140
                        rw [if_pos hsq]
                        refine g_eqI (show _ = w2 I 58 24 (rdS (fun k => I 72 (40 * j + (f + nI k).toNatClampNeg)) (I 58 24) (i + 1)) from w2_w2 _ _ _ _ _) ?_
                        refine g_inc7 B dX7_read_158 rfl (inc1 _) (by decide) rfl ?_
                        refine g_inc8 B dX7_read_161 rfl (inc1 _) (by decide) rfl ?_
                        refine g_goto B 41 dX7_read_164 (by decide) ?_
                        exact ih hlt _ (lt_s hok ⟨hfa, hsq⟩)
                      · have hsq := say_lt hn8 hr137 h140
                        rw [if_neg hsq]
                        refine g_aload_n B dX7_read_143 rfl ?_
                        refine g_getr B ci_X7 (by first | rfl | assumption) rfl (by decide) fl_X7_7 dX7_read_144 ?_
                        refine g_bipush B (v := 24) dX7_read_147 (by decide) ?_
                        refine g_iload B dX7_read_149 rfl ?_
                        refine g_iast B (by first | rfl | assumption) 24 (lit_nI 24) (by first | decide | omega | assumption) (by decide) dX7_read_151 ?_
                        refine g_bipush B (v := (-20)) dX7_read_152 (by decide) ?_
                        refine g_iload B dX7_read_154 rfl ?_
                        refine g_isub B dX7_read_156 ?_
                        exact g_iret B E rfl dX7_read_157 (Or.inr ⟨j, m, by omega, hm, rfl, rfl, h15, I 58 24, none, ⟨i, ⟨hi, hok⟩, Or.inl ⟨hlt, hfa, hsq, rfl, rfl, rfl⟩⟩, by rw [w2_w2]; exact w2_self I 58 24⟩)
              · refine g_iconst B (v := 3) dX7_read_86 (by decide) ?_
                refine g_goto B 115 dX7_read_87 (by decide) ?_
                refine g_eqi (faM lane (I 70 j) (I 71 j) f i) (by unfold faM; first | rw [if_pos h69] | rw [if_neg h69, if_neg h83] | rw [if_neg h69, if_pos h83, if_pos h94] | rw [if_neg h69, if_pos h83, if_neg h94, if_pos h107] | rw [if_neg h69, if_pos h83, if_neg h94, if_neg h107]) ?_
                refine g_ist6 B dX7_read_115 (by decide) rfl ?_
                refine g_iload B dX7_read_117 rfl ?_
                refine g_if_ne B 161 dX7_read_119 (by decide) (fun h119 => ?_) (fun h119 => ?_)
                · skip
                  refine g_inc8 B dX7_read_161 rfl (inc1 _) (by decide) rfl ?_
                  refine g_goto B 41 dX7_read_164 (by decide) ?_
                  refine g_iload B dX7_read_41 rfl ?_
                  refine g_iload B dX7_read_43 rfl ?_
                  refine g_icmp_ge B 167 dX7_read_45 (by decide) (fun h45 => ?_) (fun h45 => ?_)
                  · refine g_aload_n B dX7_read_167 rfl ?_
                    refine g_iload B dX7_read_168 rfl ?_
                    refine g_put B ci_X7 (by first | rfl | assumption) rfl (by decide) fl_X7_258 rfl rfl rfl dX7_read_170 ?_
                    refine g_iload B dX7_read_173 rfl ?_
                    exact g_iret B E rfl dX7_read_175 (Or.inr ⟨j, m, by omega, hm, rfl, rfl, h15, _, some _, ⟨i, ⟨hi, hok⟩, Or.inr (Or.inl ⟨hlt, h119, rfl, rfl, rfl⟩)⟩, rfl⟩)
                  · refine g_iload B dX7_read_48 rfl ?_
                    refine g_if_ne B 167 dX7_read_50 (by decide) (fun h50 => ?_) (fun h50 => ?_)
                    · refine g_aload_n B dX7_read_167 rfl ?_
                      refine g_iload B dX7_read_168 rfl ?_
                      refine g_put B ci_X7 (by first | rfl | assumption) rfl (by decide) fl_X7_258 rfl rfl rfl dX7_read_170 ?_
                      refine g_iload B dX7_read_173 rfl ?_
                      exact g_iret B E rfl dX7_read_175 (Or.inr ⟨j, m, by omega, hm, rfl, rfl, h15, _, some _, ⟨i, ⟨hi, hok⟩, Or.inr (Or.inl ⟨hlt, h119, rfl, rfl, rfl⟩)⟩, rfl⟩)
                    · exact absurd h50 h119
                · have hfa := h119
                  obtain ⟨y, z, hy, hz, hyf, hz2⟩ := fam_ok (by omega) (hs j (by omega)) h119
                  rw [h119]
                  refine g_aload_n B dX7_read_122 rfl ?_
                  refine g_aload_n B dX7_read_123 rfl ?_
                  refine g_getr B ci_X7 (by first | rfl | assumption) rfl (by decide) fl_X7_53 dX7_read_124 ?_
                  refine g_bipush B (v := 40) dX7_read_127 (by decide) ?_
                  refine g_iload_n B dX7_read_129 rfl ?_
                  refine g_imul B dX7_read_130 ?_
                  refine g_iload_n B dX7_read_131 rfl ?_
                  refine g_iadd B dX7_read_132 ?_
                  refine g_iload B dX7_read_133 rfl ?_
                  refine g_iadd B dX7_read_135 ?_
                  refine g_eqi (nI (40 * j + y)) (by rw [show (40 : Int32) = nI 40 from rfl, pk_mul, Int32.add_assoc, hyf, nI_add]) ?_
                  refine g_iald B (by first | rfl | assumption) (40 * j + y) rfl (by first | decide | omega | assumption) (by decide) dX7_read_136 ?_
                  rw [w2_cell _ _ (show 72 ≠ 58 by decide)]
                  have hcy : I 72 (40 * j + y) = I 72 (40 * j + (f + nI i).toNatClampNeg) := by rw [hyf, nI_clamp (by omega)]
                  rw [hcy]
                  refine g_callVI B (ct_sayM_w (I := I) hn hn8 (rdS (fun k => I 72 (40 * j + (f + nI k).toNatClampNeg)) (I 58 24) i) (I 72 (40 * j + (f + nI i).toNatClampNeg))) (by first | rfl | assumption) rfl ml_X7_255 mm_X7_say rfl rfl (Nat.le_of_ble_eq_true rfl) dX7_read_137 (by decide) ?_
                  rintro r137 _ ⟨hr137, rfl⟩
                  refine g_if_ge B 158 dX7_read_140 (by decide) (fun h140 => ?_) (fun h140 => ?_)
                  · have hsq := say_ge hn8 hr137 h140
                    rw [if_pos hsq]
                    refine g_eqI (show _ = w2 I 58 24 (rdS (fun k => I 72 (40 * j + (f + nI k).toNatClampNeg)) (I 58 24) (i + 1)) from w2_w2 _ _ _ _ _) ?_
                    refine g_inc7 B dX7_read_158 rfl (inc1 _) (by decide) rfl ?_
                    refine g_inc8 B dX7_read_161 rfl (inc1 _) (by decide) rfl ?_
                    refine g_goto B 41 dX7_read_164 (by decide) ?_
                    exact ih hlt _ (lt_s hok ⟨hfa, hsq⟩)
                  · have hsq := say_lt hn8 hr137 h140
                    rw [if_neg hsq]
                    refine g_aload_n B dX7_read_143 rfl ?_
                    refine g_getr B ci_X7 (by first | rfl | assumption) rfl (by decide) fl_X7_7 dX7_read_144 ?_
                    refine g_bipush B (v := 24) dX7_read_147 (by decide) ?_
                    refine g_iload B dX7_read_149 rfl ?_
                    refine g_iast B (by first | rfl | assumption) 24 (lit_nI 24) (by first | decide | omega | assumption) (by decide) dX7_read_151 ?_
                    refine g_bipush B (v := (-20)) dX7_read_152 (by decide) ?_
                    refine g_iload B dX7_read_154 rfl ?_
                    refine g_isub B dX7_read_156 ?_
                    exact g_iret B E rfl dX7_read_157 (Or.inr ⟨j, m, by omega, hm, rfl, rfl, h15, I 58 24, none, ⟨i, ⟨hi, hok⟩, Or.inl ⟨hlt, hfa, hsq, rfl, rfl, rfl⟩⟩, by rw [w2_w2]; exact w2_self I 58 24⟩)
            · refine g_iconst B (v := 1) dX7_read_72 (by decide) ?_
              refine g_goto B 115 dX7_read_73 (by decide) ?_
              refine g_eqi (faM lane (I 70 j) (I 71 j) f i) (by unfold faM; first | rw [if_pos h69] | rw [if_neg h69, if_neg h83] | rw [if_neg h69, if_pos h83, if_pos h94] | rw [if_neg h69, if_pos h83, if_neg h94, if_pos h107] | rw [if_neg h69, if_pos h83, if_neg h94, if_neg h107]) ?_
              refine g_ist6 B dX7_read_115 (by decide) rfl ?_
              refine g_iload B dX7_read_117 rfl ?_
              refine g_if_ne B 161 dX7_read_119 (by decide) (fun h119 => ?_) (fun h119 => ?_)
              · skip
                refine g_inc8 B dX7_read_161 rfl (inc1 _) (by decide) rfl ?_
                refine g_goto B 41 dX7_read_164 (by decide) ?_
                refine g_iload B dX7_read_41 rfl ?_
                refine g_iload B dX7_read_43 rfl ?_
                refine g_icmp_ge B 167 dX7_read_45 (by decide) (fun h45 => ?_) (fun h45 => ?_)
                · refine g_aload_n B dX7_read_167 rfl ?_
                  refine g_iload B dX7_read_168 rfl ?_
                  refine g_put B ci_X7 (by first | rfl | assumption) rfl (by decide) fl_X7_258 rfl rfl rfl dX7_read_170 ?_
                  refine g_iload B dX7_read_173 rfl ?_
                  exact g_iret B E rfl dX7_read_175 (Or.inr ⟨j, m, by omega, hm, rfl, rfl, h15, _, some _, ⟨i, ⟨hi, hok⟩, Or.inr (Or.inl ⟨hlt, h119, rfl, rfl, rfl⟩)⟩, rfl⟩)
                · refine g_iload B dX7_read_48 rfl ?_
                  refine g_if_ne B 167 dX7_read_50 (by decide) (fun h50 => ?_) (fun h50 => ?_)
                  · refine g_aload_n B dX7_read_167 rfl ?_
                    refine g_iload B dX7_read_168 rfl ?_
                    refine g_put B ci_X7 (by first | rfl | assumption) rfl (by decide) fl_X7_258 rfl rfl rfl dX7_read_170 ?_
                    refine g_iload B dX7_read_173 rfl ?_
                    exact g_iret B E rfl dX7_read_175 (Or.inr ⟨j, m, by omega, hm, rfl, rfl, h15, _, some _, ⟨i, ⟨hi, hok⟩, Or.inr (Or.inl ⟨hlt, h119, rfl, rfl, rfl⟩)⟩, rfl⟩)
                  · exact absurd h50 h119
              · have hfa := h119
                obtain ⟨y, z, hy, hz, hyf, hz2⟩ := fam_ok (by omega) (hs j (by omega)) h119
                rw [h119]
                refine g_aload_n B dX7_read_122 rfl ?_
                refine g_aload_n B dX7_read_123 rfl ?_
                refine g_getr B ci_X7 (by first | rfl | assumption) rfl (by decide) fl_X7_53 dX7_read_124 ?_
                refine g_bipush B (v := 40) dX7_read_127 (by decide) ?_
                refine g_iload_n B dX7_read_129 rfl ?_
                refine g_imul B dX7_read_130 ?_
                refine g_iload_n B dX7_read_131 rfl ?_
                refine g_iadd B dX7_read_132 ?_
                refine g_iload B dX7_read_133 rfl ?_
                refine g_iadd B dX7_read_135 ?_
                refine g_eqi (nI (40 * j + y)) (by rw [show (40 : Int32) = nI 40 from rfl, pk_mul, Int32.add_assoc, hyf, nI_add]) ?_
                refine g_iald B (by first | rfl | assumption) (40 * j + y) rfl (by first | decide | omega | assumption) (by decide) dX7_read_136 ?_
                rw [w2_cell _ _ (show 72 ≠ 58 by decide)]
                have hcy : I 72 (40 * j + y) = I 72 (40 * j + (f + nI i).toNatClampNeg) := by rw [hyf, nI_clamp (by omega)]
                rw [hcy]
                refine g_callVI B (ct_sayM_w (I := I) hn hn8 (rdS (fun k => I 72 (40 * j + (f + nI k).toNatClampNeg)) (I 58 24) i) (I 72 (40 * j + (f + nI i).toNatClampNeg))) (by first | rfl | assumption) rfl ml_X7_255 mm_X7_say rfl rfl (Nat.le_of_ble_eq_true rfl) dX7_read_137 (by decide) ?_
                rintro r137 _ ⟨hr137, rfl⟩
                refine g_if_ge B 158 dX7_read_140 (by decide) (fun h140 => ?_) (fun h140 => ?_)
                · have hsq := say_ge hn8 hr137 h140
                  rw [if_pos hsq]
                  refine g_eqI (show _ = w2 I 58 24 (rdS (fun k => I 72 (40 * j + (f + nI k).toNatClampNeg)) (I 58 24) (i + 1)) from w2_w2 _ _ _ _ _) ?_
                  refine g_inc7 B dX7_read_158 rfl (inc1 _) (by decide) rfl ?_
                  refine g_inc8 B dX7_read_161 rfl (inc1 _) (by decide) rfl ?_
                  refine g_goto B 41 dX7_read_164 (by decide) ?_
                  exact ih hlt _ (lt_s hok ⟨hfa, hsq⟩)
                · have hsq := say_lt hn8 hr137 h140
                  rw [if_neg hsq]
                  refine g_aload_n B dX7_read_143 rfl ?_
                  refine g_getr B ci_X7 (by first | rfl | assumption) rfl (by decide) fl_X7_7 dX7_read_144 ?_
                  refine g_bipush B (v := 24) dX7_read_147 (by decide) ?_
                  refine g_iload B dX7_read_149 rfl ?_
                  refine g_iast B (by first | rfl | assumption) 24 (lit_nI 24) (by first | decide | omega | assumption) (by decide) dX7_read_151 ?_
                  refine g_bipush B (v := (-20)) dX7_read_152 (by decide) ?_
                  refine g_iload B dX7_read_154 rfl ?_
                  refine g_isub B dX7_read_156 ?_
                  exact g_iret B E rfl dX7_read_157 (Or.inr ⟨j, m, by omega, hm, rfl, rfl, h15, I 58 24, none, ⟨i, ⟨hi, hok⟩, Or.inl ⟨hlt, hfa, hsq, rfl, rfl, rfl⟩⟩, by rw [w2_w2]; exact w2_self I 58 24⟩)
      exact L 0 (Nat.zero_le _) _ (fun k hk => absurd hk (Nat.not_lt_zero k))
    · rw [bI_eq0] at h18
      refine g_iconst B (v := (-1)) dX7_read_21 (by decide) ?_
      exact g_iret B E rfl dX7_read_22 (Or.inl ⟨by simp [*], rfl, rfl⟩)
set_option maxHeartbeats 4000000 in
set_option maxRecDepth 100000 in
theorem ct_X6_count {I : Wo} {n s : Nat} (hn : I 1 9 = nI n) (hn8 : n ≤ 8) (hsd : I 1 12 = nI s) (hs : s < 256) (hk : ∀ k, k < 2 → I 38 k = 0 ∨ I 38 k = 1) (what : Int32) : Ct yX6_count cX6_count 2 (some .int) 1 24 [.ref 0, .int what] I (pI (fun r u => r = ruleF what (bc8 (I 1 12)) (bc8 (stF (I 6) (I 7) (I 1 12) n)) (I 1 14) (I 38 0 + I 38 1) (I 39 1) (if I 42 2 = -1 then -4 else I 42 2) ∧ I = u)) := by
  obtain ⟨z0, hz0⟩ := b01 (hk 0 (by decide))
  obtain ⟨z1, hz1⟩ := b01 (hk 1 (by decide))
  refine ct_of RX6 rfl (by decide) (Nat.le_of_ble_eq_true rfl) (fun X B E => ?_)
  show GW X 2 0 [some (.ref 0), some (.int what)] [] _
  refine g_iload_n B dX6_count_0 rfl ?_
  by_cases h1_0 : what = 0
  · refine g_tableIn B 40 dX6_count_1 (by rw [h1_0]; decide) (by rw [h1_0]; decide) (by rw [h1_0]; rfl) (by decide) ?_
    refine g_aload_n B dX6_count_40 rfl ?_
    refine g_getr B ci_X6 (by first | rfl | assumption) rfl (by decide) fl_X6_10 dX6_count_41 ?_
    refine g_geti B ci_X3 (by first | rfl | assumption) rfl (by decide) fl_X6_104 dX6_count_44 ?_
    refine g_callSI B (ct_J6_bitCount_0f7a4 _) ml_X6_145 mm_J6_bitCount_0f7a4 rfl rfl (Nat.le_of_ble_eq_true rfl) dX6_count_47 (by decide) ?_
    rintro _ _ ⟨rfl, rfl⟩
    exact g_iret B E rfl dX6_count_50 ⟨by rw [hsd, bcJ_8 hs]; simp [ruleF, *], rfl⟩
  by_cases h1_1 : what = 1
  · refine g_tableIn B 51 dX6_count_1 (by rw [h1_1]; decide) (by rw [h1_1]; decide) (by rw [h1_1]; rfl) (by decide) ?_
    refine g_aload_n B dX6_count_51 rfl ?_
    refine g_getr B ci_X6 (by first | rfl | assumption) rfl (by decide) fl_X6_10 dX6_count_52 ?_
    refine g_aload_n B dX6_count_55 rfl ?_
    refine g_getr B ci_X6 (by first | rfl | assumption) rfl (by decide) fl_X6_10 dX6_count_56 ?_
    refine g_geti B ci_X3 (by first | rfl | assumption) rfl (by decide) fl_X6_104 dX6_count_59 ?_
    refine g_callVI B (cs_X3_standing hn hn8 _) (by first | rfl | assumption) rfl ml_X6_107 mm_X3_standing rfl rfl (Nat.le_of_ble_eq_true rfl) dX6_count_62 (by decide) ?_
    rintro _ _ ⟨rfl, rfl⟩
    refine g_callSI B (ct_J6_bitCount_0f7a4 _) ml_X6_145 mm_J6_bitCount_0f7a4 rfl rfl (Nat.le_of_ble_eq_true rfl) dX6_count_65 (by decide) ?_
    rintro _ _ ⟨rfl, rfl⟩
    exact g_iret B E rfl dX6_count_68 ⟨by rw [bc_st _ _ _ hn8]; simp [ruleF, *], rfl⟩
  by_cases h1_2 : what = 2
  · refine g_tableIn B 69 dX6_count_1 (by rw [h1_2]; decide) (by rw [h1_2]; decide) (by rw [h1_2]; rfl) (by decide) ?_
    refine g_aload_n B dX6_count_69 rfl ?_
    refine g_getr B ci_X6 (by first | rfl | assumption) rfl (by decide) fl_X6_10 dX6_count_70 ?_
    refine g_geti B ci_X3 (by first | rfl | assumption) rfl (by decide) fl_X6_223 dX6_count_73 ?_
    exact g_iret B E rfl dX6_count_76 ⟨by simp [ruleF, *], rfl⟩
  by_cases h1_3 : what = 3
  · refine g_tableIn B 77 dX6_count_1 (by rw [h1_3]; decide) (by rw [h1_3]; decide) (by rw [h1_3]; rfl) (by decide) ?_
    refine g_aload_n B dX6_count_77 rfl ?_
    refine g_getr B ci_X6 (by first | rfl | assumption) rfl (by decide) fl_X6_23 dX6_count_78 ?_
    refine g_iconst B (v := 0) dX6_count_81 (by decide) ?_
    refine g_zald B (by first | rfl | assumption) 0 (lit_nI 0) (by first | decide | omega | assumption) (by decide) dX6_count_82 ?_
    refine g_eqi (bI z0) hz0 ?_
    refine g_callSI B (ct_X6_oneIf z0) ml_X6_178 mm_X6_oneIf rfl rfl (Nat.le_of_ble_eq_true rfl) dX6_count_83 (by decide) ?_
    rintro _ _ ⟨rfl, rfl⟩
    refine g_aload_n B dX6_count_86 rfl ?_
    refine g_getr B ci_X6 (by first | rfl | assumption) rfl (by decide) fl_X6_23 dX6_count_87 ?_
    refine g_iconst B (v := 1) dX6_count_90 (by decide) ?_
    refine g_zald B (by first | rfl | assumption) 1 (lit_nI 1) (by first | decide | omega | assumption) (by decide) dX6_count_91 ?_
    refine g_eqi (bI z1) hz1 ?_
    refine g_callSI B (ct_X6_oneIf z1) ml_X6_178 mm_X6_oneIf rfl rfl (Nat.le_of_ble_eq_true rfl) dX6_count_92 (by decide) ?_
    rintro _ _ ⟨rfl, rfl⟩
    refine g_iadd B dX6_count_95 ?_
    exact g_iret B E rfl dX6_count_96 ⟨by simp [ruleF, *], rfl⟩
  by_cases h1_4 : what = 4
  · refine g_tableIn B 97 dX6_count_1 (by rw [h1_4]; decide) (by rw [h1_4]; decide) (by rw [h1_4]; rfl) (by decide) ?_
    refine g_aload_n B dX6_count_97 rfl ?_
    refine g_getr B ci_X6 (by first | rfl | assumption) rfl (by decide) fl_X6_30 dX6_count_98 ?_
    refine g_geti B ci_X4 (by first | rfl | assumption) rfl (by decide) fl_X6_74 dX6_count_101 ?_
    exact g_iret B E rfl dX6_count_104 ⟨by simp [ruleF, *], rfl⟩
  by_cases h1_5 : what = 5
  · refine g_tableIn B 105 dX6_count_1 (by rw [h1_5]; decide) (by rw [h1_5]; decide) (by rw [h1_5]; rfl) (by decide) ?_
    refine g_aload_n B dX6_count_105 rfl ?_
    refine g_getr B ci_X6 (by first | rfl | assumption) rfl (by decide) fl_X6_36 dX6_count_106 ?_
    refine g_iconst B (v := 0) dX6_count_109 (by decide) ?_
    refine g_aald B (by first | rfl | assumption) (fun _ => rfl) 0 (lit_nI 0) (by simp only [List.length_cons, List.length_nil]; omega) (by decide) dX6_count_110 ?_
    refine g_eqr 42 rfl ?_
    refine g_callVI B (ct_X2_blank ss_42) ss_42.1 rfl ml_X6_267 mm_X2_blank rfl rfl (Nat.le_of_ble_eq_true rfl) dX6_count_111 (by decide) ?_
    rintro _ _ ⟨rfl, rfl⟩
    refine g_if_eq B 122 dX6_count_114 (by decide) (fun h114 => ?_) (fun h114 => ?_)
    · rw [bI_eq0] at h114
      simp only [decide_eq_true_eq, decide_eq_false_iff_not] at h114
      refine g_aload_n B dX6_count_122 rfl ?_
      refine g_getr B ci_X6 (by first | rfl | assumption) rfl (by decide) fl_X6_36 dX6_count_123 ?_
      refine g_iconst B (v := 0) dX6_count_126 (by decide) ?_
      refine g_aald B (by first | rfl | assumption) (fun _ => rfl) 0 (lit_nI 0) (by simp only [List.length_cons, List.length_nil]; omega) (by decide) dX6_count_127 ?_
      refine g_eqr 42 rfl ?_
      refine g_geti B ci_X2 (by first | rfl | assumption) rfl (by decide) fl_X6_271 dX6_count_128 ?_
      exact g_iret B E rfl dX6_count_131 ⟨by simp [ruleF, *], rfl⟩
    · rw [bI_ne0] at h114
      simp only [decide_eq_true_eq, decide_eq_false_iff_not] at h114
      refine g_bipush B (v := (-4)) dX6_count_117 (by decide) ?_
      refine g_goto B 131 dX6_count_119 (by decide) ?_
      exact g_iret B E rfl dX6_count_131 ⟨by simp [ruleF, *], rfl⟩
  refine g_tableOut B 132 dX6_count_1 (by have z0 := lv_neT h1_0 (a := 0) rfl; have z1 := lv_neT h1_1 (a := 1) rfl; have z2 := lv_neT h1_2 (a := 2) rfl; have z3 := lv_neT h1_3 (a := 3) rfl; have z4 := lv_neT h1_4 (a := 4) rfl; have z5 := lv_neT h1_5 (a := 5) rfl; omega) (by decide) ?_
  refine g_iconst B (v := (-1)) dX6_count_132 (by decide) ?_
  exact g_iret B E rfl dX6_count_133 ⟨by simp [ruleF, *], rfl⟩
set_option maxHeartbeats 4000000 in
set_option maxRecDepth 100000 in
theorem ct_X7_count {I : Wo} {n : Nat} (hn : I 57 2 = nI n) (hn8 : n ≤ 8) (hk : ∀ k, k < 2 → I 59 k = 0 ∨ I 59 k = 1) (what : Int32) : Ct yX7_count cX7_count 2 (some .int) 2 44 [.ref 57, .int what] I (pI (fun r u => r = ruleF what (bc8 (I 58 24)) (bc8 (stF (I 58) (fun c => I 58 (8 + c)) (I 58 24) n)) (I 58 34) (I 59 0 + I 59 1) (I 57 14) (if I 70 0 = -4 then -4 else I 71 0) ∧ I = u)) := by
  obtain ⟨z0, hz0⟩ := b01 (hk 0 (by decide))
  obtain ⟨z1, hz1⟩ := b01 (hk 1 (by decide))
  refine ct_of RX7 rfl (by decide) (Nat.le_of_ble_eq_true rfl) (fun X B E => ?_)
  show GW X 2 0 [some (.ref 57), some (.int what)] [] _
  refine g_iload_n B dX7_count_0 rfl ?_
  by_cases h1_0 : what = 0
  · refine g_tableIn B 40 dX7_count_1 (by rw [h1_0]; decide) (by rw [h1_0]; decide) (by rw [h1_0]; rfl) (by decide) ?_
    refine g_aload_n B dX7_count_40 rfl ?_
    refine g_getr B ci_X7 (by first | rfl | assumption) rfl (by decide) fl_X7_7 dX7_count_41 ?_
    refine g_bipush B (v := 24) dX7_count_44 (by decide) ?_
    refine g_iald B (by first | rfl | assumption) 24 (lit_nI 24) (by first | decide | omega | assumption) (by decide) dX7_count_46 ?_
    refine g_callSI B (ct_X7_bitsOf _) ml_X7_179 mm_X7_bitsOf rfl rfl (Nat.le_of_ble_eq_true rfl) dX7_count_47 (by decide) ?_
    rintro _ _ ⟨rfl, rfl⟩
    exact g_iret B E rfl dX7_count_50 ⟨by simp [ruleF, *], rfl⟩
  by_cases h1_1 : what = 1
  · refine g_tableIn B 51 dX7_count_1 (by rw [h1_1]; decide) (by rw [h1_1]; decide) (by rw [h1_1]; rfl) (by decide) ?_
    refine g_aload_n B dX7_count_51 rfl ?_
    refine g_aload_n B dX7_count_52 rfl ?_
    refine g_getr B ci_X7 (by first | rfl | assumption) rfl (by decide) fl_X7_7 dX7_count_53 ?_
    refine g_bipush B (v := 24) dX7_count_56 (by decide) ?_
    refine g_iald B (by first | rfl | assumption) 24 (lit_nI 24) (by first | decide | omega | assumption) (by decide) dX7_count_58 ?_
    refine g_callVI B (ct_X7_standing hn hn8 _) (by first | rfl | assumption) rfl ml_X7_168 mm_X7_standing rfl rfl (Nat.le_of_ble_eq_true rfl) dX7_count_59 (by decide) ?_
    rintro _ _ ⟨rfl, rfl⟩
    refine g_callSI B (ct_X7_bitsOf _) ml_X7_179 mm_X7_bitsOf rfl rfl (Nat.le_of_ble_eq_true rfl) dX7_count_62 (by decide) ?_
    rintro _ _ ⟨rfl, rfl⟩
    exact g_iret B E rfl dX7_count_65 ⟨by simp [ruleF, *], rfl⟩
  by_cases h1_2 : what = 2
  · refine g_tableIn B 66 dX7_count_1 (by rw [h1_2]; decide) (by rw [h1_2]; decide) (by rw [h1_2]; rfl) (by decide) ?_
    refine g_aload_n B dX7_count_66 rfl ?_
    refine g_getr B ci_X7 (by first | rfl | assumption) rfl (by decide) fl_X7_7 dX7_count_67 ?_
    refine g_bipush B (v := 34) dX7_count_70 (by decide) ?_
    refine g_iald B (by first | rfl | assumption) 34 (lit_nI 34) (by first | decide | omega | assumption) (by decide) dX7_count_72 ?_
    exact g_iret B E rfl dX7_count_73 ⟨by simp [ruleF, *], rfl⟩
  by_cases h1_3 : what = 3
  · refine g_tableIn B 74 dX7_count_1 (by rw [h1_3]; decide) (by rw [h1_3]; decide) (by rw [h1_3]; rfl) (by decide) ?_
    refine g_aload_n B dX7_count_74 rfl ?_
    refine g_getr B ci_X7 (by first | rfl | assumption) rfl (by decide) fl_X7_13 dX7_count_75 ?_
    refine g_iconst B (v := 0) dX7_count_78 (by decide) ?_
    refine g_zald B (by first | rfl | assumption) 0 (lit_nI 0) (by first | decide | omega | assumption) (by decide) dX7_count_79 ?_
    refine g_eqi (bI z0) hz0 ?_
    refine g_callSI B (ct_X7_flag z0) ml_X7_164 mm_X7_flag rfl rfl (Nat.le_of_ble_eq_true rfl) dX7_count_80 (by decide) ?_
    rintro _ _ ⟨rfl, rfl⟩
    refine g_aload_n B dX7_count_83 rfl ?_
    refine g_getr B ci_X7 (by first | rfl | assumption) rfl (by decide) fl_X7_13 dX7_count_84 ?_
    refine g_iconst B (v := 1) dX7_count_87 (by decide) ?_
    refine g_zald B (by first | rfl | assumption) 1 (lit_nI 1) (by first | decide | omega | assumption) (by decide) dX7_count_88 ?_
    refine g_eqi (bI z1) hz1 ?_
    refine g_callSI B (ct_X7_flag z1) ml_X7_164 mm_X7_flag rfl rfl (Nat.le_of_ble_eq_true rfl) dX7_count_89 (by decide) ?_
    rintro _ _ ⟨rfl, rfl⟩
    refine g_iadd B dX7_count_92 ?_
    exact g_iret B E rfl dX7_count_93 ⟨by simp [ruleF, *], rfl⟩
  by_cases h1_4 : what = 4
  · refine g_tableIn B 94 dX7_count_1 (by rw [h1_4]; decide) (by rw [h1_4]; decide) (by rw [h1_4]; rfl) (by decide) ?_
    refine g_aload_n B dX7_count_94 rfl ?_
    refine g_geti B ci_X7 (by first | rfl | assumption) rfl (by decide) fl_X7_81 dX7_count_95 ?_
    exact g_iret B E rfl dX7_count_98 ⟨by simp [ruleF, *], rfl⟩
  by_cases h1_5 : what = 5
  · refine g_tableIn B 99 dX7_count_1 (by rw [h1_5]; decide) (by rw [h1_5]; decide) (by rw [h1_5]; rfl) (by decide) ?_
    refine g_aload_n B dX7_count_99 rfl ?_
    refine g_getr B ci_X7 (by first | rfl | assumption) rfl (by decide) fl_X7_47 dX7_count_100 ?_
    refine g_iconst B (v := 0) dX7_count_103 (by decide) ?_
    refine g_iald B (by first | rfl | assumption) 0 (lit_nI 0) (by first | decide | omega | assumption) (by decide) dX7_count_104 ?_
    refine g_bipush B (v := (-4)) dX7_count_105 (by decide) ?_
    refine g_icmp_ne B 115 dX7_count_107 (by decide) (fun h107 => ?_) (fun h107 => ?_)
    · refine g_aload_n B dX7_count_115 rfl ?_
      refine g_getr B ci_X7 (by first | rfl | assumption) rfl (by decide) fl_X7_50 dX7_count_116 ?_
      refine g_iconst B (v := 0) dX7_count_119 (by decide) ?_
      refine g_iald B (by first | rfl | assumption) 0 (lit_nI 0) (by first | decide | omega | assumption) (by decide) dX7_count_120 ?_
      exact g_iret B E rfl dX7_count_121 ⟨by simp [ruleF, *], rfl⟩
    · refine g_bipush B (v := (-4)) dX7_count_110 (by decide) ?_
      refine g_goto B 121 dX7_count_112 (by decide) ?_
      exact g_iret B E rfl dX7_count_121 ⟨by simp [ruleF, *], rfl⟩
  refine g_tableOut B 122 dX7_count_1 (by have z0 := lv_neT h1_0 (a := 0) rfl; have z1 := lv_neT h1_1 (a := 1) rfl; have z2 := lv_neT h1_2 (a := 2) rfl; have z3 := lv_neT h1_3 (a := 3) rfl; have z4 := lv_neT h1_4 (a := 4) rfl; have z5 := lv_neT h1_5 (a := 5) rfl; omega) (by decide) ?_
  refine g_iconst B (v := (-1)) dX7_count_122 (by decide) ?_
  exact g_iret B E rfl dX7_count_123 ⟨by simp [ruleF, *], rfl⟩

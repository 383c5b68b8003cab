/-- the set of those below n of which p holds -/
def orF (p : Nat → Bool) : Nat → Int32
  | 0 => 0
  | c + 1 => if p c then orF p c ||| ((1 : Int32) <<< (nI c &&& 31)) else orF p c
theorem orF_congr {p q : Nat → Bool} : ∀ {n : Nat}, (∀ c, c < n → p c = q c) → orF p n = orF q n
  | 0, _ => rfl
  | n + 1, h => by rw [orF, orF, orF_congr (fun c hc => h c (by omega)), h n (by omega)]
theorem orF_none {p : Nat → Bool} : ∀ {n : Nat}, (∀ c, c < n → p c = false) → orF p n = 0
  | 0, _ => rfl
  | n + 1, h => by rw [orF, h n (by omega), orF_none (fun c hc => h c (by omega))]; rfl
theorem nbit {x : Int32} (h : x = 0) : ¬ x = 1 := by subst h; decide
def sumQ (side st : Int32) (sd : Nat → Int32) (c : Nat) : Bool := decide (sd c = side) && decide ((st >>> (nI c &&& 31)) &&& 1 = 1)
def sumF (p : Nat → Bool) (v : Nat → Int32) : Nat → Int32
  | 0 => 0
  | c + 1 => if p c then sumF p v c + v c else sumF p v c
theorem sumF_congr {p q : Nat → Bool} {v w : Nat → Int32} : ∀ {n : Nat}, (∀ c, c < n → p c = q c) → (∀ c, c < n → v c = w c) → sumF p v n = sumF q w n
  | 0, _, _ => rfl
  | n + 1, h, h2 => by rw [sumF, sumF, sumF_congr (fun c hc => h c (by omega)) (fun c hc => h2 c (by omega)), h n (by omega), h2 n (by omega)]
def smF (L F : Nat → Int32) (n : Nat) : Nat → Int32
  | 0 => 0
  | k + 1 => smF L F n k ||| stF L F (nI k) n
def naF (L F : Nat → Int32) (n : Nat) : Nat → Int32
  | 0 => 0
  | k + 1 => naF L F n k ||| (nI k &&& (stF L F (nI k) n ^^^ (-1)))
def neF (L F : Nat → Int32) (n : Nat) (e : Int32) : Nat → Int32
  | 0 => e
  | k + 1 => neF L F n e k &&& (stF L F (nI k) n ^^^ (-1))
def alF (L F : Nat → Int32) (n : Nat) (e : Int32) : Nat → Int32
  | 0 => e
  | k + 1 => alF L F n e k &&& ((nI k ^^^ (-1)) ||| stF L F (nI k) n)
theorem x_not (x : Int32) : x ^^^ (-1) = ~~~ x := by
  apply Int32.toBitVec_inj.mp
  simp
theorem neF_eq (L F : Nat → Int32) (n : Nat) (e : Int32) : ∀ k, neF L F n e k = e &&& (smF L F n k ^^^ (-1))
  | 0 => by rw [neF, smF]; apply Int32.toBitVec_inj.mp; simp
  | k + 1 => by
    rw [neF, smF, neF_eq L F n e k, x_not, x_not, x_not]
    apply Int32.toBitVec_inj.mp
    simp only [Int32.toBitVec_and, Int32.toBitVec_or, Int32.toBitVec_not, BitVec.not_or, BitVec.and_assoc]
theorem alF_eq (L F : Nat → Int32) (n : Nat) (e : Int32) : ∀ k, alF L F n e k = e &&& (naF L F n k ^^^ (-1))
  | 0 => by rw [alF, naF]; apply Int32.toBitVec_inj.mp; simp
  | k + 1 => by
    rw [alF, naF, alF_eq L F n e k, x_not, x_not, x_not, x_not]
    apply Int32.toBitVec_inj.mp
    simp only [Int32.toBitVec_and, Int32.toBitVec_or, Int32.toBitVec_not, BitVec.not_or, BitVec.not_and, BitVec.not_not, BitVec.and_assoc]
theorem smF_congr {L L' F F' : Nat → Int32} {n : Nat} (h1 : ∀ c, c < n → L c = L' c) (h2 : ∀ c, c < n → F c = F' c) : ∀ k, smF L F n k = smF L' F' n k
  | 0 => rfl
  | k + 1 => by rw [smF, smF, smF_congr h1 h2 k, stF_congr h1 h2]
theorem naF_congr {L L' F F' : Nat → Int32} {n : Nat} (h1 : ∀ c, c < n → L c = L' c) (h2 : ∀ c, c < n → F c = F' c) : ∀ k, naF L F n k = naF L' F' n k
  | 0 => rfl
  | k + 1 => by rw [naF, naF, naF_congr h1 h2 k, stF_congr h1 h2]
theorem pm1 {n : Nat} (h : n ≤ 8) : nI (2 ^ n) - 1 = nI (2 ^ n - 1) := by
  rcases n8 h with rfl | rfl | rfl | rfl | rfl | rfl | rfl | rfl | rfl <;> decide
theorem ev_out {n i : Nat} (hn : n ≤ 8) (hi : i ≤ 2 ^ n) (h : nI (2 ^ n) - 1 < nI i) : i = 2 ^ n := by
  have h8 := pow8 hn
  rw [pm1 hn] at h
  have := lt_lt (by omega) (by omega) h
  omega
theorem ev_in {n i : Nat} (hn : n ≤ 8) (hi : i ≤ 2 ^ n) (h : ¬ nI (2 ^ n) - 1 < nI i) : i < 2 ^ n := by
  have h8 := pow8 hn
  rw [pm1 hn] at h
  have := nlt_le (by omega) (by omega) h
  have := Nat.two_pow_pos n
  omega
set_option maxHeartbeats 4000000 in
set_option maxRecDepth 100000 in
theorem ct_X6_late {I : Wo} {n : Nat} (hn : I 1 9 = nI n) (hn8 : n ≤ 8) : Ct yX6_late cX6_late 3 (some .int) 1 21 [.ref 0] I (pI (fun r u => r = orF (fun c => decide (¬ (I 1 12 >>> (nI c &&& 31)) &&& 1 = 1) && decide (¬ I 1 11 ≤ I 4 c)) n ∧ I = u)) := by
  refine ct_of RX6 rfl (by decide) (Nat.le_of_ble_eq_true rfl) (fun X B E => ?_)
  show GW X 3 0 [some (.ref 0), none, none] [] _
  refine g_iconst B (v := 0) dX6_late_0 (by decide) ?_
  refine g_istn1 B dX6_late_1 (by decide) rfl ?_
  refine g_iconst B (v := 0) dX6_late_2 (by decide) ?_
  refine g_istn2 B dX6_late_3 (by decide) rfl ?_
  have L4 : ∀ i, i ≤ n → ∀ x, x = orF (fun c => decide (¬ (I 1 12 >>> (nI c &&& 31)) &&& 1 = 1) && decide (¬ I 1 11 ≤ I 4 c)) i → GW X 3 4 [some (.ref 0), some (.int x), some (.int (nI i))] [] I := by
    refine loopN (n) (fun i hi ih x hx => ?_)
    refine g_iload_n B dX6_late_4 rfl ?_
    refine g_aload_n B dX6_late_5 rfl ?_
    refine g_getr B ci_X6 (by first | rfl | assumption) rfl (by decide) fl_X6_10 dX6_late_6 ?_
    refine g_geti B ci_X3 (by first | rfl | assumption) rfl (by decide) fl_X6_95 dX6_late_9 ?_
    refine g_icmp_ge B 57 dX6_late_12 (by decide) (fun h12 => ?_) (fun h12 => ?_)
    · have hi2 : i = n := by have := le_le (a := n) (b := i) (by omega) (by omega) (by rw [← hn]; exact h12); omega
      refine g_iload_n B dX6_late_57 rfl ?_
      exact g_iret B E rfl dX6_late_58 ⟨by rw [hx, hi2], rfl⟩
    · have hlt : i < n := nle_lt (by omega) (by omega) (by rw [← hn]; exact h12)
      refine g_aload_n B dX6_late_15 rfl ?_
      refine g_getr B ci_X6 (by first | rfl | assumption) rfl (by decide) fl_X6_10 dX6_late_16 ?_
      refine g_iload_n B dX6_late_19 rfl ?_
      refine g_callVI B (cs_X3_isSaid _) (by first | rfl | assumption) rfl ml_X6_138 mm_X3_isSaid rfl rfl (Nat.le_of_ble_eq_true rfl) dX6_late_20 (by decide) ?_
      rintro _ _ ⟨rfl, rfl⟩
      refine g_if_ne B 51 dX6_late_23 (by decide) (fun h23 => ?_) (fun h23 => ?_)
      · rw [bI_ne0] at h23
        simp only [decide_eq_true_eq, decide_eq_false_iff_not] at h23
        refine g_inc2 B dX6_late_51 rfl (inc1 _) (by decide) rfl ?_
        refine g_goto B 4 dX6_late_54 (by decide) ?_
        exact ih hlt _ (by subst hx; simp only [orF, *, and_true, true_and, and_false, false_and, and_self, ↓reduceIte, zero_shl, Int32.or_zero, bI_t, bI_f, decide_true, decide_false, Bool.and_true, Bool.true_and, Bool.and_false, Bool.false_and, Bool.not_true, Bool.not_false, Bool.false_eq_true, not_true_eq_false, not_false_eq_true])
      · rw [bI_eq0] at h23
        simp only [decide_eq_true_eq, decide_eq_false_iff_not] at h23
        refine g_aload_n B dX6_late_26 rfl ?_
        refine g_getr B ci_X6 (by first | rfl | assumption) rfl (by decide) fl_X6_10 dX6_late_27 ?_
        refine g_getr B ci_X3 (by first | rfl | assumption) rfl (by decide) fl_X6_123 dX6_late_30 ?_
        refine g_iload_n B dX6_late_33 rfl ?_
        refine g_iald B (by first | rfl | assumption) _ (by first | with_reducible rfl | exact lit_add _ _ | exact add_lit _ _ | exact nI_add _ _ | exact lit_nI _ | assumption | rfl) (by first | decide | omega | assumption) (by decide) dX6_late_34 ?_
        refine g_aload_n B dX6_late_35 rfl ?_
        refine g_getr B ci_X6 (by first | rfl | assumption) rfl (by decide) fl_X6_10 dX6_late_36 ?_
        refine g_geti B ci_X3 (by first | rfl | assumption) rfl (by decide) fl_X6_101 dX6_late_39 ?_
        refine g_icmp_ge B 51 dX6_late_42 (by decide) (fun h42 => ?_) (fun h42 => ?_)
        · refine g_inc2 B dX6_late_51 rfl (inc1 _) (by decide) rfl ?_
          refine g_goto B 4 dX6_late_54 (by decide) ?_
          exact ih hlt _ (by subst hx; simp only [orF, *, and_true, true_and, and_false, false_and, and_self, ↓reduceIte, zero_shl, Int32.or_zero, bI_t, bI_f, decide_true, decide_false, Bool.and_true, Bool.true_and, Bool.and_false, Bool.false_and, Bool.not_true, Bool.not_false, Bool.false_eq_true, not_true_eq_false, not_false_eq_true])
        · refine g_iload_n B dX6_late_45 rfl ?_
          refine g_iconst B (v := 1) dX6_late_46 (by decide) ?_
          refine g_iload_n B dX6_late_47 rfl ?_
          refine g_ishl B dX6_late_48 ?_
          refine g_ior B dX6_late_49 ?_
          refine g_istn1 B dX6_late_50 (by decide) rfl ?_
          refine g_inc2 B dX6_late_51 rfl (inc1 _) (by decide) rfl ?_
          refine g_goto B 4 dX6_late_54 (by decide) ?_
          exact ih hlt _ (by subst hx; simp only [orF, *, and_true, true_and, and_false, false_and, and_self, ↓reduceIte, zero_shl, Int32.or_zero, bI_t, bI_f, decide_true, decide_false, Bool.and_true, Bool.true_and, Bool.and_false, Bool.false_and, Bool.not_true, Bool.not_false, Bool.false_eq_true, not_true_eq_false, not_false_eq_true])
  exact L4 0 (Nat.zero_le _) _ rfl
set_option maxHeartbeats 4000000 in
set_option maxRecDepth 100000 in
theorem ct_X6_sum {I : Wo} {n : Nat} (hn : I 1 9 = nI n) (hn8 : n ≤ 8) (side : Int32) : Ct yX6_sum cX6_sum 5 (some .int) 1 24 [.ref 0, .int side] I (pI (fun r u => r = (if wi side 0 2 then sumF (fun c => sumQ side (stF (I 6) (I 7) (I 1 12) n) (I 2) c) (fun c => I 5 c) n else -1) ∧ I = u)) := by
  refine ct_of RX6 rfl (by decide) (Nat.le_of_ble_eq_true rfl) (fun X B E => ?_)
  show GW X 5 0 [some (.ref 0), some (.int side), none, none, none] [] _
  refine g_iload_n B dX6_sum_0 rfl ?_
  refine g_iconst B (v := 0) dX6_sum_1 (by decide) ?_
  refine g_iconst B (v := 2) dX6_sum_2 (by decide) ?_
  refine g_callSI B (ct_X6_within _ _ _) ml_X6_66 mm_X6_within rfl rfl (Nat.le_of_ble_eq_true rfl) dX6_sum_3 (by decide) ?_
  rintro _ _ ⟨rfl, rfl⟩
  refine g_if_ne B 11 dX6_sum_6 (by decide) (fun h6 => ?_) (fun h6 => ?_)
  · rw [bI_ne0] at h6
    refine g_aload_n B dX6_sum_11 rfl ?_
    refine g_getr B ci_X6 (by first | rfl | assumption) rfl (by decide) fl_X6_10 dX6_sum_12 ?_
    refine g_aload_n B dX6_sum_15 rfl ?_
    refine g_getr B ci_X6 (by first | rfl | assumption) rfl (by decide) fl_X6_10 dX6_sum_16 ?_
    refine g_geti B ci_X3 (by first | rfl | assumption) rfl (by decide) fl_X6_104 dX6_sum_19 ?_
    refine g_callVI B (cs_X3_standing hn hn8 _) (by first | rfl | assumption) rfl ml_X6_107 mm_X3_standing rfl rfl (Nat.le_of_ble_eq_true rfl) dX6_sum_22 (by decide) ?_
    rintro _ _ ⟨rfl, rfl⟩
    refine g_istn2 B dX6_sum_25 (by decide) rfl ?_
    refine g_iconst B (v := 0) dX6_sum_26 (by decide) ?_
    refine g_istn3 B dX6_sum_27 (by decide) rfl ?_
    refine g_iconst B (v := 0) dX6_sum_28 (by decide) ?_
    refine g_ist4 B dX6_sum_29 (by decide) rfl ?_
    have L31 : ∀ i, i ≤ n → ∀ x, x = sumF (fun c => sumQ side (stF (I 6) (I 7) (I 1 12) n) (I 2) c) (fun c => I 5 c) i → GW X 5 31 [some (.ref 0), some (.int side), some (.int (stF (I 6) (I 7) (I 1 12) n)), some (.int x), some (.int (nI i))] [] I := by
      refine loopN (n) (fun i hi ih x hx => ?_)
      refine g_iload B dX6_sum_31 rfl ?_
      refine g_aload_n B dX6_sum_33 rfl ?_
      refine g_getr B ci_X6 (by first | rfl | assumption) rfl (by decide) fl_X6_10 dX6_sum_34 ?_
      refine g_geti B ci_X3 (by first | rfl | assumption) rfl (by decide) fl_X6_95 dX6_sum_37 ?_
      refine g_icmp_ge B 86 dX6_sum_40 (by decide) (fun h40 => ?_) (fun h40 => ?_)
      · have hi2 : i = n := by have := le_le (a := n) (b := i) (by omega) (by omega) (by rw [← hn]; exact h40); omega
        refine g_iload_n B dX6_sum_86 rfl ?_
        exact g_iret B E rfl dX6_sum_87 (by first | exact ⟨by rw [hx, hi2]; simp [*], rfl⟩ | exact ⟨by simp [*], rfl⟩)
      · have hlt : i < n := nle_lt (by omega) (by omega) (by rw [← hn]; exact h40)
        refine g_aload_n B dX6_sum_43 rfl ?_
        refine g_getr B ci_X6 (by first | rfl | assumption) rfl (by decide) fl_X6_10 dX6_sum_44 ?_
        refine g_getr B ci_X3 (by first | rfl | assumption) rfl (by decide) fl_X6_117 dX6_sum_47 ?_
        refine g_iload B dX6_sum_50 rfl ?_
        refine g_iald B (by first | rfl | assumption) _ (by first | with_reducible rfl | exact lit_add _ _ | exact add_lit _ _ | exact nI_add _ _ | exact lit_nI _ | assumption | rfl) (by first | decide | omega | assumption) (by decide) dX6_sum_52 ?_
        refine g_iload_n B dX6_sum_53 rfl ?_
        refine g_icmp_ne B 80 dX6_sum_54 (by decide) (fun h54 => ?_) (fun h54 => ?_)
        · refine g_inc4 B dX6_sum_80 rfl (inc1 _) (by decide) rfl ?_
          refine g_goto B 31 dX6_sum_83 (by decide) ?_
          exact ih hlt _ (by subst hx; simp only [sumF, sumQ, Int32.add_zero, *, and_true, true_and, and_false, false_and, and_self, ↓reduceIte, zero_shl, Int32.or_zero, bI_t, bI_f, decide_true, decide_false, Bool.and_true, Bool.true_and, Bool.and_false, Bool.false_and, Bool.not_true, Bool.not_false, Bool.false_eq_true, not_true_eq_false, not_false_eq_true])
        · refine g_iload_n B dX6_sum_57 rfl ?_
          refine g_iload B dX6_sum_58 rfl ?_
          refine g_ishr B dX6_sum_60 ?_
          refine g_iconst B (v := 1) dX6_sum_61 (by decide) ?_
          refine g_iand B dX6_sum_62 ?_
          refine g_iconst B (v := 1) dX6_sum_63 (by decide) ?_
          refine g_icmp_ne B 80 dX6_sum_64 (by decide) (fun h64 => ?_) (fun h64 => ?_)
          · refine g_inc4 B dX6_sum_80 rfl (inc1 _) (by decide) rfl ?_
            refine g_goto B 31 dX6_sum_83 (by decide) ?_
            exact ih hlt _ (by subst hx; simp only [sumF, sumQ, Int32.add_zero, *, and_true, true_and, and_false, false_and, and_self, ↓reduceIte, zero_shl, Int32.or_zero, bI_t, bI_f, decide_true, decide_false, Bool.and_true, Bool.true_and, Bool.and_false, Bool.false_and, Bool.not_true, Bool.not_false, Bool.false_eq_true, not_true_eq_false, not_false_eq_true])
          · refine g_iload_n B dX6_sum_67 rfl ?_
            refine g_aload_n B dX6_sum_68 rfl ?_
            refine g_getr B ci_X6 (by first | rfl | assumption) rfl (by decide) fl_X6_10 dX6_sum_69 ?_
            refine g_getr B ci_X3 (by first | rfl | assumption) rfl (by decide) fl_X6_126 dX6_sum_72 ?_
            refine g_iload B dX6_sum_75 rfl ?_
            refine g_iald B (by first | rfl | assumption) _ (by first | with_reducible rfl | exact lit_add _ _ | exact add_lit _ _ | exact nI_add _ _ | exact lit_nI _ | assumption | rfl) (by first | decide | omega | assumption) (by decide) dX6_sum_77 ?_
            refine g_iadd B dX6_sum_78 ?_
            refine g_istn3 B dX6_sum_79 (by decide) rfl ?_
            refine g_inc4 B dX6_sum_80 rfl (inc1 _) (by decide) rfl ?_
            refine g_goto B 31 dX6_sum_83 (by decide) ?_
            exact ih hlt _ (by subst hx; simp only [sumF, sumQ, Int32.add_zero, *, and_true, true_and, and_false, false_and, and_self, ↓reduceIte, zero_shl, Int32.or_zero, bI_t, bI_f, decide_true, decide_false, Bool.and_true, Bool.true_and, Bool.and_false, Bool.false_and, Bool.not_true, Bool.not_false, Bool.false_eq_true, not_true_eq_false, not_false_eq_true])
    exact L31 0 (Nat.zero_le _) _ rfl
  · rw [bI_eq0] at h6
    refine g_iconst B (v := (-1)) dX6_sum_9 (by decide) ?_
    exact g_iret B E rfl dX6_sum_10 (by first | exact ⟨by rw [hx, hi2]; simp [*], rfl⟩ | exact ⟨by simp [*], rfl⟩)
set_option maxHeartbeats 4000000 in
set_option maxRecDepth 100000 in
theorem ct_X6_upon {I : Wo} {n : Nat} (hn : I 1 9 = nI n) (hn8 : n ≤ 8) (c : Int32) : Ct yX6_upon cX6_upon 2 (some .int) 1 24 [.ref 0, .int c] I (pI (fun r u => r = (if cOK n c then stF (I 6) (I 7) (I 1 12) n &&& (stF (I 6) (I 7) (I 1 12 &&& (((1 : Int32) <<< (c &&& 31)) ^^^ (-1))) n ^^^ (-1)) else -1) ∧ I = u)) := by
  refine ct_of RX6 rfl (by decide) (Nat.le_of_ble_eq_true rfl) (fun X B E => ?_)
  show GW X 2 0 [some (.ref 0), some (.int c)] [] _
  refine g_aload_n B dX6_upon_0 rfl ?_
  refine g_getr B ci_X6 (by first | rfl | assumption) rfl (by decide) fl_X6_10 dX6_upon_1 ?_
  refine g_iload_n B dX6_upon_4 rfl ?_
  refine g_callVI B (cs_X3_hasClaim hn _) (by first | rfl | assumption) rfl ml_X6_114 mm_X3_hasClaim rfl rfl (Nat.le_of_ble_eq_true rfl) dX6_upon_5 (by decide) ?_
  rintro _ _ ⟨rfl, rfl⟩
  refine g_if_ne B 13 dX6_upon_8 (by decide) (fun h8 => ?_) (fun h8 => ?_)
  · rw [bI_ne0] at h8
    refine g_aload_n B dX6_upon_13 rfl ?_
    refine g_getr B ci_X6 (by first | rfl | assumption) rfl (by decide) fl_X6_10 dX6_upon_14 ?_
    refine g_aload_n B dX6_upon_17 rfl ?_
    refine g_getr B ci_X6 (by first | rfl | assumption) rfl (by decide) fl_X6_10 dX6_upon_18 ?_
    refine g_geti B ci_X3 (by first | rfl | assumption) rfl (by decide) fl_X6_104 dX6_upon_21 ?_
    refine g_callVI B (cs_X3_standing hn hn8 _) (by first | rfl | assumption) rfl ml_X6_107 mm_X3_standing rfl rfl (Nat.le_of_ble_eq_true rfl) dX6_upon_24 (by decide) ?_
    rintro _ _ ⟨rfl, rfl⟩
    refine g_aload_n B dX6_upon_27 rfl ?_
    refine g_getr B ci_X6 (by first | rfl | assumption) rfl (by decide) fl_X6_10 dX6_upon_28 ?_
    refine g_aload_n B dX6_upon_31 rfl ?_
    refine g_getr B ci_X6 (by first | rfl | assumption) rfl (by decide) fl_X6_10 dX6_upon_32 ?_
    refine g_geti B ci_X3 (by first | rfl | assumption) rfl (by decide) fl_X6_104 dX6_upon_35 ?_
    refine g_iconst B (v := 1) dX6_upon_38 (by decide) ?_
    refine g_iload_n B dX6_upon_39 rfl ?_
    refine g_ishl B dX6_upon_40 ?_
    refine g_iconst B (v := (-1)) dX6_upon_41 (by decide) ?_
    refine g_ixor B dX6_upon_42 ?_
    refine g_iand B dX6_upon_43 ?_
    refine g_callVI B (cs_X3_standing hn hn8 _) (by first | rfl | assumption) rfl ml_X6_107 mm_X3_standing rfl rfl (Nat.le_of_ble_eq_true rfl) dX6_upon_44 (by decide) ?_
    rintro _ _ ⟨rfl, rfl⟩
    refine g_iconst B (v := (-1)) dX6_upon_47 (by decide) ?_
    refine g_ixor B dX6_upon_48 ?_
    refine g_iand B dX6_upon_49 ?_
    exact g_iret B E rfl dX6_upon_50 (by first | exact ⟨by rw [if_pos (by assumption)], rfl⟩ | exact ⟨by simp [*], rfl⟩)
  · rw [bI_eq0] at h8
    refine g_iconst B (v := (-1)) dX6_upon_11 (by decide) ?_
    exact g_iret B E rfl dX6_upon_12 (by first | exact ⟨by rw [if_pos (by assumption)], rfl⟩ | exact ⟨by simp [*], rfl⟩)
set_option maxHeartbeats 4000000 in
set_option maxRecDepth 100000 in
theorem ct_X6_ever {I : Wo} {n : Nat} (hn : I 1 9 = nI n) (hn8 : n ≤ 8) (what : Int32) : Ct yX6_ever cX6_ever 7 (some .int) 1 24 [.ref 0, .int what] I (pI (fun r u => r = (if wi what 0 1 then (nI (2 ^ n) - 1) &&& ((if what = 0 then smF (I 6) (I 7) n (2 ^ n) else naF (I 6) (I 7) n (2 ^ n)) ^^^ (-1)) else -1) ∧ I = u)) := by
  refine ct_of RX6 rfl (by decide) (Nat.le_of_ble_eq_true rfl) (fun X B E => ?_)
  show GW X 7 0 [some (.ref 0), some (.int what), none, none, none, none, none] [] _
  refine g_iload_n B dX6_ever_0 rfl ?_
  refine g_iconst B (v := 0) dX6_ever_1 (by decide) ?_
  refine g_iconst B (v := 1) dX6_ever_2 (by decide) ?_
  refine g_callSI B (ct_X6_within _ _ _) ml_X6_66 mm_X6_within rfl rfl (Nat.le_of_ble_eq_true rfl) dX6_ever_3 (by decide) ?_
  rintro _ _ ⟨rfl, rfl⟩
  refine g_if_ne B 11 dX6_ever_6 (by decide) (fun h6 => ?_) (fun h6 => ?_)
  · rw [bI_ne0] at h6
    refine g_iconst B (v := 1) dX6_ever_11 (by decide) ?_
    refine g_aload_n B dX6_ever_12 rfl ?_
    refine g_getr B ci_X6 (by first | rfl | assumption) rfl (by decide) fl_X6_10 dX6_ever_13 ?_
    refine g_geti B ci_X3 (by first | rfl | assumption) rfl (by decide) fl_X6_95 dX6_ever_16 ?_
    refine g_ishl B dX6_ever_19 ?_
    refine g_eqi (nI (2 ^ n)) (by rw [hn, shl1 hn8]) ?_
    refine g_istn2 B dX6_ever_20 (by decide) rfl ?_
    refine g_iconst B (v := 0) dX6_ever_21 (by decide) ?_
    refine g_istn3 B dX6_ever_22 (by decide) rfl ?_
    refine g_iconst B (v := 0) dX6_ever_23 (by decide) ?_
    refine g_ist4 B dX6_ever_24 (by decide) rfl ?_
    refine g_iconst B (v := 0) dX6_ever_26 (by decide) ?_
    refine g_ist5 B dX6_ever_27 (by decide) rfl ?_
    have h256 := pow8 hn8
    have L29 : ∀ i, i ≤ 2 ^ n → ∀ x y q, x = smF (I 6) (I 7) n i → y = naF (I 6) (I 7) n i → GW X 7 29 [some (.ref 0), some (.int what), some (.int (nI (2 ^ n))), some (.int x), some (.int y), some (.int (nI i)), q] [] I := by
      refine loopN (2 ^ n) (fun i hi ih x y q hx hy => ?_)
      refine g_iload B dX6_ever_29 rfl ?_
      refine g_iload_n B dX6_ever_31 rfl ?_
      refine g_icmp_ge B 69 dX6_ever_32 (by decide) (fun h32 => ?_) (fun h32 => ?_)
      · have hi2 : i = 2 ^ n := by have := le_le (a := 2 ^ n) (b := i) (by omega) (by omega) h32; omega
        refine g_iload_n B dX6_ever_69 rfl ?_
        refine g_iconst B (v := 1) dX6_ever_70 (by decide) ?_
        refine g_isub B dX6_ever_71 ?_
        refine g_iload_n B dX6_ever_72 rfl ?_
        refine g_if_ne B 80 dX6_ever_73 (by decide) (fun h73 => ?_) (fun h73 => ?_)
        · refine g_iload B dX6_ever_80 rfl ?_
          refine g_iconst B (v := (-1)) dX6_ever_82 (by decide) ?_
          refine g_ixor B dX6_ever_83 ?_
          refine g_iand B dX6_ever_84 ?_
          exact g_iret B E rfl dX6_ever_85 ⟨by subst hi2; rw [if_pos h6]; simp only [h73, hx, hy, ↓reduceIte], rfl⟩
        · refine g_iload_n B dX6_ever_76 rfl ?_
          refine g_goto B 82 dX6_ever_77 (by decide) ?_
          refine g_iconst B (v := (-1)) dX6_ever_82 (by decide) ?_
          refine g_ixor B dX6_ever_83 ?_
          refine g_iand B dX6_ever_84 ?_
          exact g_iret B E rfl dX6_ever_85 ⟨by subst hi2; rw [if_pos h6]; simp only [h73, hx, hy, ↓reduceIte], rfl⟩
      · have hlt : i < 2 ^ n := nle_lt (by omega) (by omega) h32
        refine g_aload_n B dX6_ever_35 rfl ?_
        refine g_getr B ci_X6 (by first | rfl | assumption) rfl (by decide) fl_X6_10 dX6_ever_36 ?_
        refine g_iload B dX6_ever_39 rfl ?_
        refine g_callVI B (cs_X3_standing hn hn8 _) (by first | rfl | assumption) rfl ml_X6_107 mm_X3_standing rfl rfl (Nat.le_of_ble_eq_true rfl) dX6_ever_41 (by decide) ?_
        rintro _ _ ⟨rfl, rfl⟩
        refine g_ist6 B dX6_ever_44 (by decide) rfl ?_
        refine g_iload_n B dX6_ever_46 rfl ?_
        refine g_iload B dX6_ever_47 rfl ?_
        refine g_ior B dX6_ever_49 ?_
        refine g_istn3 B dX6_ever_50 (by decide) rfl ?_
        refine g_iload B dX6_ever_51 rfl ?_
        refine g_iload B dX6_ever_53 rfl ?_
        refine g_iload B dX6_ever_55 rfl ?_
        refine g_iconst B (v := (-1)) dX6_ever_57 (by decide) ?_
        refine g_ixor B dX6_ever_58 ?_
        refine g_iand B dX6_ever_59 ?_
        refine g_ior B dX6_ever_60 ?_
        refine g_ist4 B dX6_ever_61 (by decide) rfl ?_
        refine g_inc5 B dX6_ever_63 rfl (inc1 _) (by decide) rfl ?_
        refine g_goto B 29 dX6_ever_66 (by decide) ?_
        exact ih hlt _ _ _ (by rw [hx]; rfl) (by rw [hy]; rfl)
    exact L29 0 (Nat.zero_le _) _ _ _ rfl rfl
  · rw [bI_eq0] at h6
    refine g_iconst B (v := (-1)) dX6_ever_9 (by decide) ?_
    exact g_iret B E rfl dX6_ever_10 ⟨by simp [*], rfl⟩
set_option maxHeartbeats 4000000 in
set_option maxRecDepth 100000 in
theorem ct_X6_reply {I : Wo} {n : Nat} (hn : I 1 9 = nI n) (hn8 : n ≤ 8) (c what : Int32) : Ct yX6_reply cX6_reply 6 (some .int) 1 24 [.ref 0, .int c, .int what] I (pI (fun r u => r = (if cOK n c && wi what 0 1 then (if ((stF (I 6) (I 7) (I 1 12) n >>> (c &&& 31)) &&& 1) = what then 0 else orF (fun d => decide (¬ (I 1 12 >>> (nI d &&& 31)) &&& 1 = 1) && decide (¬ (stF (I 6) (I 7) (I 1 12 ||| ((1 : Int32) <<< (nI d &&& 31))) n >>> (c &&& 31)) &&& 1 = ((stF (I 6) (I 7) (I 1 12) n >>> (c &&& 31)) &&& 1))) n) else -1) ∧ I = u)) := by
  refine ct_of RX6 rfl (by decide) (Nat.le_of_ble_eq_true rfl) (fun X B E => ?_)
  show GW X 6 0 [some (.ref 0), some (.int c), some (.int what), none, none, none] [] _
  refine g_aload_n B dX6_reply_0 rfl ?_
  refine g_getr B ci_X6 (by first | rfl | assumption) rfl (by decide) fl_X6_10 dX6_reply_1 ?_
  refine g_iload_n B dX6_reply_4 rfl ?_
  refine g_callVI B (cs_X3_hasClaim hn _) (by first | rfl | assumption) rfl ml_X6_114 mm_X3_hasClaim rfl rfl (Nat.le_of_ble_eq_true rfl) dX6_reply_5 (by decide) ?_
  rintro _ _ ⟨rfl, rfl⟩
  refine g_if_eq B 20 dX6_reply_8 (by decide) (fun h8 => ?_) (fun h8 => ?_)
  · rw [bI_eq0] at h8
    refine g_iconst B (v := (-1)) dX6_reply_20 (by decide) ?_
    exact g_iret B E rfl dX6_reply_21 (by first | exact ⟨by rw [hx, hi2, if_pos (by simp [*]), if_neg h43], rfl⟩ | exact ⟨by simp [*], rfl⟩)
  · rw [bI_ne0] at h8
    refine g_iload_n B dX6_reply_11 rfl ?_
    refine g_iconst B (v := 0) dX6_reply_12 (by decide) ?_
    refine g_iconst B (v := 1) dX6_reply_13 (by decide) ?_
    refine g_callSI B (ct_X6_within _ _ _) ml_X6_66 mm_X6_within rfl rfl (Nat.le_of_ble_eq_true rfl) dX6_reply_14 (by decide) ?_
    rintro _ _ ⟨rfl, rfl⟩
    refine g_if_ne B 22 dX6_reply_17 (by decide) (fun h17 => ?_) (fun h17 => ?_)
    · rw [bI_ne0] at h17
      refine g_aload_n B dX6_reply_22 rfl ?_
      refine g_getr B ci_X6 (by first | rfl | assumption) rfl (by decide) fl_X6_10 dX6_reply_23 ?_
      refine g_aload_n B dX6_reply_26 rfl ?_
      refine g_getr B ci_X6 (by first | rfl | assumption) rfl (by decide) fl_X6_10 dX6_reply_27 ?_
      refine g_geti B ci_X3 (by first | rfl | assumption) rfl (by decide) fl_X6_104 dX6_reply_30 ?_
      refine g_callVI B (cs_X3_standing hn hn8 _) (by first | rfl | assumption) rfl ml_X6_107 mm_X3_standing rfl rfl (Nat.le_of_ble_eq_true rfl) dX6_reply_33 (by decide) ?_
      rintro _ _ ⟨rfl, rfl⟩
      refine g_iload_n B dX6_reply_36 rfl ?_
      refine g_ishr B dX6_reply_37 ?_
      refine g_iconst B (v := 1) dX6_reply_38 (by decide) ?_
      refine g_iand B dX6_reply_39 ?_
      refine g_istn3 B dX6_reply_40 (by decide) rfl ?_
      refine g_iload_n B dX6_reply_41 rfl ?_
      refine g_iload_n B dX6_reply_42 rfl ?_
      refine g_icmp_ne B 48 dX6_reply_43 (by decide) (fun h43 => ?_) (fun h43 => ?_)
      · refine g_iconst B (v := 0) dX6_reply_48 (by decide) ?_
        refine g_ist4 B dX6_reply_49 (by decide) rfl ?_
        refine g_iconst B (v := 0) dX6_reply_51 (by decide) ?_
        refine g_ist5 B dX6_reply_52 (by decide) rfl ?_
        have L54 : ∀ i, i ≤ n → ∀ x, x = orF (fun d => decide (¬ (I 1 12 >>> (nI d &&& 31)) &&& 1 = 1) && decide (¬ (stF (I 6) (I 7) (I 1 12 ||| ((1 : Int32) <<< (nI d &&& 31))) n >>> (c &&& 31)) &&& 1 = ((stF (I 6) (I 7) (I 1 12) n >>> (c &&& 31)) &&& 1))) i → GW X 6 54 [some (.ref 0), some (.int c), some (.int what), some (.int ((stF (I 6) (I 7) (I 1 12) n >>> (c &&& 31)) &&& 1)), some (.int x), some (.int (nI i))] [] I := by
          refine loopN (n) (fun i hi ih x hx => ?_)
          refine g_iload B dX6_reply_54 rfl ?_
          refine g_aload_n B dX6_reply_56 rfl ?_
          refine g_getr B ci_X6 (by first | rfl | assumption) rfl (by decide) fl_X6_10 dX6_reply_57 ?_
          refine g_geti B ci_X3 (by first | rfl | assumption) rfl (by decide) fl_X6_95 dX6_reply_60 ?_
          refine g_icmp_ge B 120 dX6_reply_63 (by decide) (fun h63 => ?_) (fun h63 => ?_)
          · have hi2 : i = n := by have := le_le (a := n) (b := i) (by omega) (by omega) (by rw [← hn]; exact h63); omega
            refine g_iload B dX6_reply_120 rfl ?_
            exact g_iret B E rfl dX6_reply_122 (by first | exact ⟨by rw [hx, hi2, if_pos (by simp [*]), if_neg h43], rfl⟩ | exact ⟨by simp [*], rfl⟩)
          · have hlt : i < n := nle_lt (by omega) (by omega) (by rw [← hn]; exact h63)
            refine g_aload_n B dX6_reply_66 rfl ?_
            refine g_getr B ci_X6 (by first | rfl | assumption) rfl (by decide) fl_X6_10 dX6_reply_67 ?_
            refine g_iload B dX6_reply_70 rfl ?_
            refine g_callVI B (cs_X3_isSaid _) (by first | rfl | assumption) rfl ml_X6_138 mm_X3_isSaid rfl rfl (Nat.le_of_ble_eq_true rfl) dX6_reply_72 (by decide) ?_
            rintro _ _ ⟨rfl, rfl⟩
            refine g_if_ne B 114 dX6_reply_75 (by decide) (fun h75 => ?_) (fun h75 => ?_)
            · rw [bI_ne0] at h75
              simp only [decide_eq_true_eq, decide_eq_false_iff_not] at h75
              refine g_inc5 B dX6_reply_114 rfl (inc1 _) (by decide) rfl ?_
              refine g_goto B 54 dX6_reply_117 (by decide) ?_
              exact ih hlt _ (by subst hx; simp only [orF, *, and_true, true_and, and_false, false_and, and_self, ↓reduceIte, zero_shl, Int32.or_zero, bI_t, bI_f, decide_true, decide_false, Bool.and_true, Bool.true_and, Bool.and_false, Bool.false_and, Bool.not_true, Bool.not_false, Bool.false_eq_true, not_true_eq_false, not_false_eq_true])
            · rw [bI_eq0] at h75
              simp only [decide_eq_true_eq, decide_eq_false_iff_not] at h75
              refine g_aload_n B dX6_reply_78 rfl ?_
              refine g_getr B ci_X6 (by first | rfl | assumption) rfl (by decide) fl_X6_10 dX6_reply_79 ?_
              refine g_aload_n B dX6_reply_82 rfl ?_
              refine g_getr B ci_X6 (by first | rfl | assumption) rfl (by decide) fl_X6_10 dX6_reply_83 ?_
              refine g_geti B ci_X3 (by first | rfl | assumption) rfl (by decide) fl_X6_104 dX6_reply_86 ?_
              refine g_iconst B (v := 1) dX6_reply_89 (by decide) ?_
              refine g_iload B dX6_reply_90 rfl ?_
              refine g_ishl B dX6_reply_92 ?_
              refine g_ior B dX6_reply_93 ?_
              refine g_callVI B (cs_X3_standing hn hn8 _) (by first | rfl | assumption) rfl ml_X6_107 mm_X3_standing rfl rfl (Nat.le_of_ble_eq_true rfl) dX6_reply_94 (by decide) ?_
              rintro _ _ ⟨rfl, rfl⟩
              refine g_iload_n B dX6_reply_97 rfl ?_
              refine g_ishr B dX6_reply_98 ?_
              refine g_iconst B (v := 1) dX6_reply_99 (by decide) ?_
              refine g_iand B dX6_reply_100 ?_
              refine g_iload_n B dX6_reply_101 rfl ?_
              refine g_icmp_eq B 114 dX6_reply_102 (by decide) (fun h102 => ?_) (fun h102 => ?_)
              · refine g_inc5 B dX6_reply_114 rfl (inc1 _) (by decide) rfl ?_
                refine g_goto B 54 dX6_reply_117 (by decide) ?_
                exact ih hlt _ (by subst hx; simp only [orF, *, and_true, true_and, and_false, false_and, and_self, ↓reduceIte, zero_shl, Int32.or_zero, bI_t, bI_f, decide_true, decide_false, Bool.and_true, Bool.true_and, Bool.and_false, Bool.false_and, Bool.not_true, Bool.not_false, Bool.false_eq_true, not_true_eq_false, not_false_eq_true])
              · refine g_iload B dX6_reply_105 rfl ?_
                refine g_iconst B (v := 1) dX6_reply_107 (by decide) ?_
                refine g_iload B dX6_reply_108 rfl ?_
                refine g_ishl B dX6_reply_110 ?_
                refine g_ior B dX6_reply_111 ?_
                refine g_ist4 B dX6_reply_112 (by decide) rfl ?_
                refine g_inc5 B dX6_reply_114 rfl (inc1 _) (by decide) rfl ?_
                refine g_goto B 54 dX6_reply_117 (by decide) ?_
                exact ih hlt _ (by subst hx; simp only [orF, *, and_true, true_and, and_false, false_and, and_self, ↓reduceIte, zero_shl, Int32.or_zero, bI_t, bI_f, decide_true, decide_false, Bool.and_true, Bool.true_and, Bool.and_false, Bool.false_and, Bool.not_true, Bool.not_false, Bool.false_eq_true, not_true_eq_false, not_false_eq_true])
        exact L54 0 (Nat.zero_le _) _ rfl
      · refine g_iconst B (v := 0) dX6_reply_46 (by decide) ?_
        exact g_iret B E rfl dX6_reply_47 (by first | exact ⟨by rw [hx, hi2, if_pos (by simp [*]), if_neg h43], rfl⟩ | exact ⟨by simp [*], rfl⟩)
    · rw [bI_eq0] at h17
      refine g_iconst B (v := (-1)) dX6_reply_20 (by decide) ?_
      exact g_iret B E rfl dX6_reply_21 (by first | exact ⟨by rw [hx, hi2, if_pos (by simp [*]), if_neg h43], rfl⟩ | exact ⟨by simp [*], rfl⟩)
set_option maxHeartbeats 4000000 in
set_option maxRecDepth 100000 in
theorem ct_X7_late {I : Wo} {n : Nat} (hn : I 57 2 = nI n) (hn8 : n ≤ 8) : Ct yX7_late cX7_late 3 (some .int) 1 20 [.ref 57] I (pI (fun r u => r = orF (fun c => decide (¬ (I 58 24 >>> (nI c &&& 31)) &&& 1 = 1) && decide (¬ I 58 26 ≤ I 62 c)) n ∧ I = u)) := by
  refine ct_of RX7 rfl (by decide) (Nat.le_of_ble_eq_true rfl) (fun X B E => ?_)
  show GW X 3 0 [some (.ref 57), none, none] [] _
  refine g_iconst B (v := 0) dX7_late_0 (by decide) ?_
  refine g_istn1 B dX7_late_1 (by decide) rfl ?_
  refine g_iconst B (v := 0) dX7_late_2 (by decide) ?_
  refine g_istn2 B dX7_late_3 (by decide) rfl ?_
  have L4 : ∀ i, i ≤ n → ∀ x, x = orF (fun c => decide (¬ (I 58 24 >>> (nI c &&& 31)) &&& 1 = 1) && decide (¬ I 58 26 ≤ I 62 c)) i → GW X 3 4 [some (.ref 57), some (.int x), some (.int (nI i))] [] I := by
    refine loopN (n) (fun i hi ih x hx => ?_)
    refine g_iload_n B dX7_late_4 rfl ?_
    refine g_aload_n B dX7_late_5 rfl ?_
    refine g_geti B ci_X7 (by first | rfl | assumption) rfl (by decide) fl_X7_72 dX7_late_6 ?_
    refine g_icmp_ge B 61 dX7_late_9 (by decide) (fun h9 => ?_) (fun h9 => ?_)
    · have hi2 : i = n := by have := le_le (a := n) (b := i) (by omega) (by omega) (by rw [← hn]; exact h9); omega
      refine g_iload_n B dX7_late_61 rfl ?_
      exact g_iret B E rfl dX7_late_62 ⟨by rw [hx, hi2], rfl⟩
    · have hlt : i < n := nle_lt (by omega) (by omega) (by rw [← hn]; exact h9)
      refine g_iload_n B dX7_late_12 rfl ?_
      refine g_aload_n B dX7_late_13 rfl ?_
      refine g_getr B ci_X7 (by first | rfl | assumption) rfl (by decide) fl_X7_7 dX7_late_14 ?_
      refine g_bipush B (v := 24) dX7_late_17 (by decide) ?_
      refine g_iald B (by first | rfl | assumption) 24 (lit_nI 24) (by first | decide | omega | assumption) (by decide) dX7_late_19 ?_
      refine g_iload_n B dX7_late_20 rfl ?_
      refine g_ishr B dX7_late_21 ?_
      refine g_iconst B (v := 1) dX7_late_22 (by decide) ?_
      refine g_iand B dX7_late_23 ?_
      refine g_if_ne B 47 dX7_late_24 (by decide) (fun h24 => ?_) (fun h24 => ?_)
      · replace h24 := bit01 h24
        refine g_iconst B (v := 0) dX7_late_47 (by decide) ?_
        refine g_eqi (bI false) rfl ?_
        refine g_callSI B (ct_X7_flag _) ml_X7_164 mm_X7_flag rfl rfl (Nat.le_of_ble_eq_true rfl) dX7_late_48 (by decide) ?_
        rintro _ _ ⟨rfl, rfl⟩
        refine g_iload_n B dX7_late_51 rfl ?_
        refine g_ishl B dX7_late_52 ?_
        refine g_ior B dX7_late_53 ?_
        refine g_istn1 B dX7_late_54 (by decide) rfl ?_
        refine g_inc2 B dX7_late_55 rfl (inc1 _) (by decide) rfl ?_
        refine g_goto B 4 dX7_late_58 (by decide) ?_
        exact ih hlt _ (by subst hx; simp only [orF, *, and_true, true_and, and_false, false_and, and_self, ↓reduceIte, zero_shl, Int32.or_zero, bI_t, bI_f, decide_true, decide_false, Bool.and_true, Bool.true_and, Bool.and_false, Bool.false_and, Bool.not_true, Bool.not_false, Bool.false_eq_true, not_true_eq_false, not_false_eq_true])
      · replace h24 := nbit h24
        refine g_aload_n B dX7_late_27 rfl ?_
        refine g_getr B ci_X7 (by first | rfl | assumption) rfl (by decide) fl_X7_23 dX7_late_28 ?_
        refine g_iload_n B dX7_late_31 rfl ?_
        refine g_iald B (by first | rfl | assumption) _ (by first | with_reducible rfl | exact lit_add _ _ | exact add_lit _ _ | exact nI_add _ _ | exact lit_nI _ | assumption | rfl) (by first | decide | omega | assumption) (by decide) dX7_late_32 ?_
        refine g_aload_n B dX7_late_33 rfl ?_
        refine g_getr B ci_X7 (by first | rfl | assumption) rfl (by decide) fl_X7_7 dX7_late_34 ?_
        refine g_bipush B (v := 26) dX7_late_37 (by decide) ?_
        refine g_iald B (by first | rfl | assumption) 26 (lit_nI 26) (by first | decide | omega | assumption) (by decide) dX7_late_39 ?_
        refine g_icmp_ge B 47 dX7_late_40 (by decide) (fun h40 => ?_) (fun h40 => ?_)
        · refine g_iconst B (v := 0) dX7_late_47 (by decide) ?_
          refine g_eqi (bI false) rfl ?_
          refine g_callSI B (ct_X7_flag _) ml_X7_164 mm_X7_flag rfl rfl (Nat.le_of_ble_eq_true rfl) dX7_late_48 (by decide) ?_
          rintro _ _ ⟨rfl, rfl⟩
          refine g_iload_n B dX7_late_51 rfl ?_
          refine g_ishl B dX7_late_52 ?_
          refine g_ior B dX7_late_53 ?_
          refine g_istn1 B dX7_late_54 (by decide) rfl ?_
          refine g_inc2 B dX7_late_55 rfl (inc1 _) (by decide) rfl ?_
          refine g_goto B 4 dX7_late_58 (by decide) ?_
          exact ih hlt _ (by subst hx; simp only [orF, *, and_true, true_and, and_false, false_and, and_self, ↓reduceIte, zero_shl, Int32.or_zero, bI_t, bI_f, decide_true, decide_false, Bool.and_true, Bool.true_and, Bool.and_false, Bool.false_and, Bool.not_true, Bool.not_false, Bool.false_eq_true, not_true_eq_false, not_false_eq_true])
        · refine g_iconst B (v := 1) dX7_late_43 (by decide) ?_
          refine g_eqi (bI true) rfl ?_
          refine g_goto B 48 dX7_late_44 (by decide) ?_
          refine g_callSI B (ct_X7_flag _) ml_X7_164 mm_X7_flag rfl rfl (Nat.le_of_ble_eq_true rfl) dX7_late_48 (by decide) ?_
          rintro _ _ ⟨rfl, rfl⟩
          refine g_iload_n B dX7_late_51 rfl ?_
          refine g_ishl B dX7_late_52 ?_
          refine g_ior B dX7_late_53 ?_
          refine g_istn1 B dX7_late_54 (by decide) rfl ?_
          refine g_inc2 B dX7_late_55 rfl (inc1 _) (by decide) rfl ?_
          refine g_goto B 4 dX7_late_58 (by decide) ?_
          exact ih hlt _ (by subst hx; simp only [orF, *, and_true, true_and, and_false, false_and, and_self, ↓reduceIte, zero_shl, Int32.or_zero, bI_t, bI_f, decide_true, decide_false, Bool.and_true, Bool.true_and, Bool.and_false, Bool.false_and, Bool.not_true, Bool.not_false, Bool.false_eq_true, not_true_eq_false, not_false_eq_true])
  exact L4 0 (Nat.zero_le _) _ rfl
set_option maxHeartbeats 4000000 in
set_option maxRecDepth 100000 in
theorem ct_X7_sum {I : Wo} {n : Nat} (hn : I 57 2 = nI n) (hn8 : n ≤ 8) (side : Int32) : Ct yX7_sum cX7_sum 5 (some .int) 2 44 [.ref 57, .int side] I (pI (fun r u => r = (if wi side 0 2 then sumF (fun c => sumQ side (stF (I 58) (fun c => I 58 (8 + c)) (I 58 24) n) (I 60) c) (fun c => I 58 (16 + c)) n else -1) ∧ I = u)) := by
  refine ct_of RX7 rfl (by decide) (Nat.le_of_ble_eq_true rfl) (fun X B E => ?_)
  show GW X 5 0 [some (.ref 57), some (.int side), none, none, none] [] _
  refine g_iload_n B dX7_sum_0 rfl ?_
  refine g_i2l B dX7_sum_1 ?_
  refine g_lconst B (v := 0) dX7_sum_2 (by decide) ?_
  refine g_ldc2 B dX7_sum_3 cn_X7_194 ?_
  refine g_callSI B (ct_in _ 0 2 rfl (by decide) (by decide)) ml_X7_77 mm_X7_in rfl rfl (Nat.le_of_ble_eq_true rfl) dX7_sum_6 (by decide) ?_
  rintro _ _ ⟨rfl, rfl⟩
  refine g_if_ne B 14 dX7_sum_9 (by decide) (fun h9 => ?_) (fun h9 => ?_)
  · rw [bI_ne0] at h9
    refine g_aload_n B dX7_sum_14 rfl ?_
    refine g_aload_n B dX7_sum_15 rfl ?_
    refine g_getr B ci_X7 (by first | rfl | assumption) rfl (by decide) fl_X7_7 dX7_sum_16 ?_
    refine g_bipush B (v := 24) dX7_sum_19 (by decide) ?_
    refine g_iald B (by first | rfl | assumption) 24 (lit_nI 24) (by first | decide | omega | assumption) (by decide) dX7_sum_21 ?_
    refine g_callVI B (ct_X7_standing hn hn8 _) (by first | rfl | assumption) rfl ml_X7_168 mm_X7_standing rfl rfl (Nat.le_of_ble_eq_true rfl) dX7_sum_22 (by decide) ?_
    rintro _ _ ⟨rfl, rfl⟩
    refine g_istn2 B dX7_sum_25 (by decide) rfl ?_
    refine g_iconst B (v := 0) dX7_sum_26 (by decide) ?_
    refine g_istn3 B dX7_sum_27 (by decide) rfl ?_
    refine g_iconst B (v := 0) dX7_sum_28 (by decide) ?_
    refine g_ist4 B dX7_sum_29 (by decide) rfl ?_
    have L31 : ∀ i, i ≤ n → ∀ x, x = sumF (fun c => sumQ side (stF (I 58) (fun c => I 58 (8 + c)) (I 58 24) n) (I 60) c) (fun c => I 58 (16 + c)) i → GW X 5 31 [some (.ref 57), some (.int side), some (.int (stF (I 58) (fun c => I 58 (8 + c)) (I 58 24) n)), some (.int x), some (.int (nI i))] [] I := by
      refine loopN (n) (fun i hi ih x hx => ?_)
      refine g_iload B dX7_sum_31 rfl ?_
      refine g_aload_n B dX7_sum_33 rfl ?_
      refine g_geti B ci_X7 (by first | rfl | assumption) rfl (by decide) fl_X7_72 dX7_sum_34 ?_
      refine g_icmp_ge B 84 dX7_sum_37 (by decide) (fun h37 => ?_) (fun h37 => ?_)
      · have hi2 : i = n := by have := le_le (a := n) (b := i) (by omega) (by omega) (by rw [← hn]; exact h37); omega
        refine g_iload_n B dX7_sum_84 rfl ?_
        exact g_iret B E rfl dX7_sum_85 (by first | exact ⟨by rw [hx, hi2]; simp [*], rfl⟩ | exact ⟨by simp [*], rfl⟩)
      · have hlt : i < n := nle_lt (by omega) (by omega) (by rw [← hn]; exact h37)
        refine g_iload_n B dX7_sum_40 rfl ?_
        refine g_iload_n B dX7_sum_41 rfl ?_
        refine g_iload B dX7_sum_42 rfl ?_
        refine g_ishr B dX7_sum_44 ?_
        refine g_iconst B (v := 1) dX7_sum_45 (by decide) ?_
        refine g_iand B dX7_sum_46 ?_
        refine g_iconst B (v := 1) dX7_sum_47 (by decide) ?_
        refine g_icmp_ne B 75 dX7_sum_48 (by decide) (fun h48 => ?_) (fun h48 => ?_)
        · refine g_iconst B (v := 0) dX7_sum_75 (by decide) ?_
          refine g_iadd B dX7_sum_76 ?_
          refine g_istn3 B dX7_sum_77 (by decide) rfl ?_
          refine g_inc4 B dX7_sum_78 rfl (inc1 _) (by decide) rfl ?_
          refine g_goto B 31 dX7_sum_81 (by decide) ?_
          exact ih hlt _ (by subst hx; simp only [sumF, sumQ, Int32.add_zero, *, and_true, true_and, and_false, false_and, and_self, ↓reduceIte, zero_shl, Int32.or_zero, bI_t, bI_f, decide_true, decide_false, Bool.and_true, Bool.true_and, Bool.and_false, Bool.false_and, Bool.not_true, Bool.not_false, Bool.false_eq_true, not_true_eq_false, not_false_eq_true])
        · refine g_aload_n B dX7_sum_51 rfl ?_
          refine g_getr B ci_X7 (by first | rfl | assumption) rfl (by decide) fl_X7_17 dX7_sum_52 ?_
          refine g_iload B dX7_sum_55 rfl ?_
          refine g_iald B (by first | rfl | assumption) _ (by first | with_reducible rfl | exact lit_add _ _ | exact add_lit _ _ | exact nI_add _ _ | exact lit_nI _ | assumption | rfl) (by first | decide | omega | assumption) (by decide) dX7_sum_57 ?_
          refine g_iload_n B dX7_sum_58 rfl ?_
          refine g_icmp_ne B 75 dX7_sum_59 (by decide) (fun h59 => ?_) (fun h59 => ?_)
          · refine g_iconst B (v := 0) dX7_sum_75 (by decide) ?_
            refine g_iadd B dX7_sum_76 ?_
            refine g_istn3 B dX7_sum_77 (by decide) rfl ?_
            refine g_inc4 B dX7_sum_78 rfl (inc1 _) (by decide) rfl ?_
            refine g_goto B 31 dX7_sum_81 (by decide) ?_
            exact ih hlt _ (by subst hx; simp only [sumF, sumQ, Int32.add_zero, *, and_true, true_and, and_false, false_and, and_self, ↓reduceIte, zero_shl, Int32.or_zero, bI_t, bI_f, decide_true, decide_false, Bool.and_true, Bool.true_and, Bool.and_false, Bool.false_and, Bool.not_true, Bool.not_false, Bool.false_eq_true, not_true_eq_false, not_false_eq_true])
          · refine g_aload_n B dX7_sum_62 rfl ?_
            refine g_getr B ci_X7 (by first | rfl | assumption) rfl (by decide) fl_X7_7 dX7_sum_63 ?_
            refine g_bipush B (v := 16) dX7_sum_66 (by decide) ?_
            refine g_iload B dX7_sum_68 rfl ?_
            refine g_iadd B dX7_sum_70 ?_
            refine g_iald B (by first | rfl | assumption) _ (la_16 _) (by first | decide | omega | assumption) (by decide) dX7_sum_71 ?_
            refine g_goto B 76 dX7_sum_72 (by decide) ?_
            refine g_iadd B dX7_sum_76 ?_
            refine g_istn3 B dX7_sum_77 (by decide) rfl ?_
            refine g_inc4 B dX7_sum_78 rfl (inc1 _) (by decide) rfl ?_
            refine g_goto B 31 dX7_sum_81 (by decide) ?_
            exact ih hlt _ (by subst hx; simp only [sumF, sumQ, Int32.add_zero, *, and_true, true_and, and_false, false_and, and_self, ↓reduceIte, zero_shl, Int32.or_zero, bI_t, bI_f, decide_true, decide_false, Bool.and_true, Bool.true_and, Bool.and_false, Bool.false_and, Bool.not_true, Bool.not_false, Bool.false_eq_true, not_true_eq_false, not_false_eq_true])
    exact L31 0 (Nat.zero_le _) _ rfl
  · rw [bI_eq0] at h9
    refine g_iconst B (v := (-1)) dX7_sum_12 (by decide) ?_
    exact g_iret B E rfl dX7_sum_13 (by first | exact ⟨by rw [hx, hi2]; simp [*], rfl⟩ | exact ⟨by simp [*], rfl⟩)
set_option maxHeartbeats 4000000 in
set_option maxRecDepth 100000 in
theorem ct_X7_upon {I : Wo} {n : Nat} (hn : I 57 2 = nI n) (hn8 : n ≤ 8) (c : Int32) : Ct yX7_upon cX7_upon 2 (some .int) 2 46 [.ref 57, .int c] I (pI (fun r u => r = (if cOK n c then stF (I 58) (fun c => I 58 (8 + c)) (I 58 24) n &&& (stF (I 58) (fun c => I 58 (8 + c)) (I 58 24 &&& (((1 : Int32) <<< (c &&& 31)) ^^^ (-1))) n ^^^ (-1)) else -1) ∧ I = u)) := by
  refine ct_of RX7 rfl (by decide) (Nat.le_of_ble_eq_true rfl) (fun X B E => ?_)
  show GW X 2 0 [some (.ref 57), some (.int c)] [] _
  refine g_aload_n B dX7_upon_0 rfl ?_
  refine g_iload_n B dX7_upon_1 rfl ?_
  refine g_callVI B (ct_X7_isClaim hn hn8 _) (by first | rfl | assumption) rfl ml_X7_171 mm_X7_isClaim rfl rfl (Nat.le_of_ble_eq_true rfl) dX7_upon_2 (by decide) ?_
  rintro _ _ ⟨rfl, rfl⟩
  refine g_if_eq B 42 dX7_upon_5 (by decide) (fun h5 => ?_) (fun h5 => ?_)
  · rw [bI_eq0] at h5
    refine g_iconst B (v := (-1)) dX7_upon_42 (by decide) ?_
    exact g_iret B E rfl dX7_upon_43 (by first | exact ⟨by rw [if_pos (by assumption)], rfl⟩ | exact ⟨by simp [*], rfl⟩)
  · rw [bI_ne0] at h5
    refine g_aload_n B dX7_upon_8 rfl ?_
    refine g_aload_n B dX7_upon_9 rfl ?_
    refine g_getr B ci_X7 (by first | rfl | assumption) rfl (by decide) fl_X7_7 dX7_upon_10 ?_
    refine g_bipush B (v := 24) dX7_upon_13 (by decide) ?_
    refine g_iald B (by first | rfl | assumption) 24 (lit_nI 24) (by first | decide | omega | assumption) (by decide) dX7_upon_15 ?_
    refine g_callVI B (ct_X7_standing hn hn8 _) (by first | rfl | assumption) rfl ml_X7_168 mm_X7_standing rfl rfl (Nat.le_of_ble_eq_true rfl) dX7_upon_16 (by decide) ?_
    rintro _ _ ⟨rfl, rfl⟩
    refine g_aload_n B dX7_upon_19 rfl ?_
    refine g_aload_n B dX7_upon_20 rfl ?_
    refine g_getr B ci_X7 (by first | rfl | assumption) rfl (by decide) fl_X7_7 dX7_upon_21 ?_
    refine g_bipush B (v := 24) dX7_upon_24 (by decide) ?_
    refine g_iald B (by first | rfl | assumption) 24 (lit_nI 24) (by first | decide | omega | assumption) (by decide) dX7_upon_26 ?_
    refine g_iconst B (v := 1) dX7_upon_27 (by decide) ?_
    refine g_iload_n B dX7_upon_28 rfl ?_
    refine g_ishl B dX7_upon_29 ?_
    refine g_iconst B (v := (-1)) dX7_upon_30 (by decide) ?_
    refine g_ixor B dX7_upon_31 ?_
    refine g_iand B dX7_upon_32 ?_
    refine g_callVI B (ct_X7_standing hn hn8 _) (by first | rfl | assumption) rfl ml_X7_168 mm_X7_standing rfl rfl (Nat.le_of_ble_eq_true rfl) dX7_upon_33 (by decide) ?_
    rintro _ _ ⟨rfl, rfl⟩
    refine g_iconst B (v := (-1)) dX7_upon_36 (by decide) ?_
    refine g_ixor B dX7_upon_37 ?_
    refine g_iand B dX7_upon_38 ?_
    refine g_goto B 43 dX7_upon_39 (by decide) ?_
    exact g_iret B E rfl dX7_upon_43 (by first | exact ⟨by rw [if_pos (by assumption)], rfl⟩ | exact ⟨by simp [*], rfl⟩)
set_option maxHeartbeats 4000000 in
set_option maxRecDepth 100000 in
theorem ct_X7_ever {I : Wo} {n : Nat} (hn : I 57 2 = nI n) (hn8 : n ≤ 8) (what : Int32) : Ct yX7_ever cX7_ever 5 (some .int) 2 45 [.ref 57, .int what] I (pI (fun r u => r = (if wi what 0 1 then (if what = 0 then neF (I 58) (fun c => I 58 (8 + c)) n (nI (2 ^ n) - 1) (2 ^ n) else alF (I 58) (fun c => I 58 (8 + c)) n (nI (2 ^ n) - 1) (2 ^ n)) else -1) ∧ I = u)) := by
  refine ct_of RX7 rfl (by decide) (Nat.le_of_ble_eq_true rfl) (fun X B E => ?_)
  show GW X 5 0 [some (.ref 57), some (.int what), none, none, none] [] _
  refine g_iload_n B dX7_ever_0 rfl ?_
  refine g_callSI B (ct_X7_isPart _) ml_X7_196 mm_X7_isPart rfl rfl (Nat.le_of_ble_eq_true rfl) dX7_ever_1 (by decide) ?_
  rintro _ _ ⟨rfl, rfl⟩
  refine g_if_ne B 9 dX7_ever_4 (by decide) (fun h4 => ?_) (fun h4 => ?_)
  · rw [bI_ne0] at h4
    refine g_aload_n B dX7_ever_9 rfl ?_
    refine g_callVI B (ct_X7_every hn hn8) (by first | rfl | assumption) rfl ml_X7_191 mm_X7_every rfl rfl (Nat.le_of_ble_eq_true rfl) dX7_ever_10 (by decide) ?_
    rintro _ _ ⟨rfl, rfl⟩
    refine g_istn2 B dX7_ever_13 (by decide) rfl ?_
    refine g_aload_n B dX7_ever_14 rfl ?_
    refine g_callVI B (ct_X7_every hn hn8) (by first | rfl | assumption) rfl ml_X7_191 mm_X7_every rfl rfl (Nat.le_of_ble_eq_true rfl) dX7_ever_15 (by decide) ?_
    rintro _ _ ⟨rfl, rfl⟩
    refine g_istn3 B dX7_ever_18 (by decide) rfl ?_
    refine g_iconst B (v := 0) dX7_ever_19 (by decide) ?_
    refine g_ist4 B dX7_ever_20 (by decide) rfl ?_
    have h256 := pow8 hn8
    have L22 : ∀ i, i ≤ 2 ^ n → ∀ x y, x = neF (I 58) (fun c => I 58 (8 + c)) n (nI (2 ^ n) - 1) i → y = alF (I 58) (fun c => I 58 (8 + c)) n (nI (2 ^ n) - 1) i → GW X 5 22 [some (.ref 57), some (.int what), some (.int x), some (.int y), some (.int (nI i))] [] I := by
      refine loopN (2 ^ n) (fun i hi ih x y hx hy => ?_)
      refine g_iload B dX7_ever_22 rfl ?_
      refine g_aload_n B dX7_ever_24 rfl ?_
      refine g_callVI B (ct_X7_every hn hn8) (by first | rfl | assumption) rfl ml_X7_191 mm_X7_every rfl rfl (Nat.le_of_ble_eq_true rfl) dX7_ever_25 (by decide) ?_
      rintro _ _ ⟨rfl, rfl⟩
      refine g_icmp_gt B 62 dX7_ever_28 (by decide) (fun h28 => ?_) (fun h28 => ?_)
      · have hi2 : i = 2 ^ n := ev_out hn8 hi h28
        refine g_iload_n B dX7_ever_62 rfl ?_
        refine g_if_ne B 70 dX7_ever_63 (by decide) (fun h63 => ?_) (fun h63 => ?_)
        · refine g_iload_n B dX7_ever_70 rfl ?_
          exact g_iret B E rfl dX7_ever_71 ⟨by subst hi2; rw [if_pos h4]; simp only [h63, hx, hy, ↓reduceIte], rfl⟩
        · refine g_iload_n B dX7_ever_66 rfl ?_
          refine g_goto B 71 dX7_ever_67 (by decide) ?_
          exact g_iret B E rfl dX7_ever_71 ⟨by subst hi2; rw [if_pos h4]; simp only [h63, hx, hy, ↓reduceIte], rfl⟩
      · have hlt : i < 2 ^ n := ev_in hn8 hi h28
        refine g_iload_n B dX7_ever_31 rfl ?_
        refine g_aload_n B dX7_ever_32 rfl ?_
        refine g_iload B dX7_ever_33 rfl ?_
        refine g_callVI B (ct_X7_standing hn hn8 _) (by first | rfl | assumption) rfl ml_X7_168 mm_X7_standing rfl rfl (Nat.le_of_ble_eq_true rfl) dX7_ever_35 (by decide) ?_
        rintro _ _ ⟨rfl, rfl⟩
        refine g_iconst B (v := (-1)) dX7_ever_38 (by decide) ?_
        refine g_ixor B dX7_ever_39 ?_
        refine g_iand B dX7_ever_40 ?_
        refine g_istn2 B dX7_ever_41 (by decide) rfl ?_
        refine g_iload_n B dX7_ever_42 rfl ?_
        refine g_iload B dX7_ever_43 rfl ?_
        refine g_iconst B (v := (-1)) dX7_ever_45 (by decide) ?_
        refine g_ixor B dX7_ever_46 ?_
        refine g_aload_n B dX7_ever_47 rfl ?_
        refine g_iload B dX7_ever_48 rfl ?_
        refine g_callVI B (ct_X7_standing hn hn8 _) (by first | rfl | assumption) rfl ml_X7_168 mm_X7_standing rfl rfl (Nat.le_of_ble_eq_true rfl) dX7_ever_50 (by decide) ?_
        rintro _ _ ⟨rfl, rfl⟩
        refine g_ior B dX7_ever_53 ?_
        refine g_iand B dX7_ever_54 ?_
        refine g_istn3 B dX7_ever_55 (by decide) rfl ?_
        refine g_inc4 B dX7_ever_56 rfl (inc1 _) (by decide) rfl ?_
        refine g_goto B 22 dX7_ever_59 (by decide) ?_
        exact ih hlt _ _ (by rw [hx]; rfl) (by rw [hy]; rfl)
    exact L22 0 (Nat.zero_le _) _ _ rfl rfl
  · rw [bI_eq0] at h4
    refine g_iconst B (v := (-1)) dX7_ever_7 (by decide) ?_
    exact g_iret B E rfl dX7_ever_8 ⟨by simp [*], rfl⟩
set_option maxHeartbeats 4000000 in
set_option maxRecDepth 100000 in
theorem ct_X7_reply {I : Wo} {n : Nat} (hn : I 57 2 = nI n) (hn8 : n ≤ 8) (c what : Int32) : Ct yX7_reply cX7_reply 8 (some .int) 2 46 [.ref 57, .int c, .int what] I (pI (fun r u => r = (if cOK n c && wi what 0 1 then orF (fun d => decide ((I 58 24 >>> (nI d &&& 31)) &&& 1 = 0) && decide (((stF (I 58) (fun c => I 58 (8 + c)) (I 58 24) n >>> (c &&& 31)) &&& 1) = 1 - what) && decide ((stF (I 58) (fun c => I 58 (8 + c)) (I 58 24 ||| ((1 : Int32) <<< (nI d &&& 31))) n >>> (c &&& 31)) &&& 1 = what)) n else -1) ∧ I = u)) := by
  refine ct_of RX7 rfl (by decide) (Nat.le_of_ble_eq_true rfl) (fun X B E => ?_)
  show GW X 8 0 [some (.ref 57), some (.int c), some (.int what), none, none, none, none, none] [] _
  refine g_aload_n B dX7_reply_0 rfl ?_
  refine g_iload_n B dX7_reply_1 rfl ?_
  refine g_callVI B (ct_X7_isClaim hn hn8 _) (by first | rfl | assumption) rfl ml_X7_171 mm_X7_isClaim rfl rfl (Nat.le_of_ble_eq_true rfl) dX7_reply_2 (by decide) ?_
  rintro _ _ ⟨rfl, rfl⟩
  refine g_if_eq B 15 dX7_reply_5 (by decide) (fun h5 => ?_) (fun h5 => ?_)
  · rw [bI_eq0] at h5
    refine g_iconst B (v := (-1)) dX7_reply_15 (by decide) ?_
    exact g_iret B E rfl dX7_reply_16 (by first | exact ⟨by rw [hx, hi2, if_pos (by simp [*])], rfl⟩ | exact ⟨by simp [*], rfl⟩)
  · rw [bI_ne0] at h5
    refine g_iload_n B dX7_reply_8 rfl ?_
    refine g_callSI B (ct_X7_isPart _) ml_X7_196 mm_X7_isPart rfl rfl (Nat.le_of_ble_eq_true rfl) dX7_reply_9 (by decide) ?_
    rintro _ _ ⟨rfl, rfl⟩
    refine g_if_ne B 17 dX7_reply_12 (by decide) (fun h12 => ?_) (fun h12 => ?_)
    · rw [bI_ne0] at h12
      refine g_iconst B (v := 0) dX7_reply_17 (by decide) ?_
      refine g_istn3 B dX7_reply_18 (by decide) rfl ?_
      refine g_aload_n B dX7_reply_19 rfl ?_
      refine g_aload_n B dX7_reply_20 rfl ?_
      refine g_getr B ci_X7 (by first | rfl | assumption) rfl (by decide) fl_X7_7 dX7_reply_21 ?_
      refine g_bipush B (v := 24) dX7_reply_24 (by decide) ?_
      refine g_iald B (by first | rfl | assumption) 24 (lit_nI 24) (by first | decide | omega | assumption) (by decide) dX7_reply_26 ?_
      refine g_callVI B (ct_X7_standing hn hn8 _) (by first | rfl | assumption) rfl ml_X7_168 mm_X7_standing rfl rfl (Nat.le_of_ble_eq_true rfl) dX7_reply_27 (by decide) ?_
      rintro _ _ ⟨rfl, rfl⟩
      refine g_iload_n B dX7_reply_30 rfl ?_
      refine g_ishr B dX7_reply_31 ?_
      refine g_iconst B (v := 1) dX7_reply_32 (by decide) ?_
      refine g_iand B dX7_reply_33 ?_
      refine g_ist4 B dX7_reply_34 (by decide) rfl ?_
      refine g_iconst B (v := 0) dX7_reply_36 (by decide) ?_
      refine g_ist5 B dX7_reply_37 (by decide) rfl ?_
      have L39 : ∀ i, i ≤ n → ∀ x q q2, x = orF (fun d => decide ((I 58 24 >>> (nI d &&& 31)) &&& 1 = 0) && decide (((stF (I 58) (fun c => I 58 (8 + c)) (I 58 24) n >>> (c &&& 31)) &&& 1) = 1 - what) && decide ((stF (I 58) (fun c => I 58 (8 + c)) (I 58 24 ||| ((1 : Int32) <<< (nI d &&& 31))) n >>> (c &&& 31)) &&& 1 = what)) i → GW X 8 39 [some (.ref 57), some (.int c), some (.int what), some (.int x), some (.int ((stF (I 58) (fun c => I 58 (8 + c)) (I 58 24) n >>> (c &&& 31)) &&& 1)), some (.int (nI i)), q, q2] [] I := by
        refine loopN (n) (fun i hi ih x q q2 hx => ?_)
        refine g_iload B dX7_reply_39 rfl ?_
        refine g_aload_n B dX7_reply_41 rfl ?_
        refine g_geti B ci_X7 (by first | rfl | assumption) rfl (by decide) fl_X7_72 dX7_reply_42 ?_
        refine g_icmp_ge B 123 dX7_reply_45 (by decide) (fun h45 => ?_) (fun h45 => ?_)
        · have hi2 : i = n := by have := le_le (a := n) (b := i) (by omega) (by omega) (by rw [← hn]; exact h45); omega
          refine g_iload_n B dX7_reply_123 rfl ?_
          exact g_iret B E rfl dX7_reply_124 (by first | exact ⟨by rw [hx, hi2, if_pos (by simp [*])], rfl⟩ | exact ⟨by simp [*], rfl⟩)
        · have hlt : i < n := nle_lt (by omega) (by omega) (by rw [← hn]; exact h45)
          refine g_aload_n B dX7_reply_48 rfl ?_
          refine g_aload_n B dX7_reply_49 rfl ?_
          refine g_getr B ci_X7 (by first | rfl | assumption) rfl (by decide) fl_X7_7 dX7_reply_50 ?_
          refine g_bipush B (v := 24) dX7_reply_53 (by decide) ?_
          refine g_iald B (by first | rfl | assumption) 24 (lit_nI 24) (by first | decide | omega | assumption) (by decide) dX7_reply_55 ?_
          refine g_iconst B (v := 1) dX7_reply_56 (by decide) ?_
          refine g_iload B dX7_reply_57 rfl ?_
          refine g_ishl B dX7_reply_59 ?_
          refine g_ior B dX7_reply_60 ?_
          refine g_callVI B (ct_X7_standing hn hn8 _) (by first | rfl | assumption) rfl ml_X7_168 mm_X7_standing rfl rfl (Nat.le_of_ble_eq_true rfl) dX7_reply_61 (by decide) ?_
          rintro _ _ ⟨rfl, rfl⟩
          refine g_iload_n B dX7_reply_64 rfl ?_
          refine g_ishr B dX7_reply_65 ?_
          refine g_iconst B (v := 1) dX7_reply_66 (by decide) ?_
          refine g_iand B dX7_reply_67 ?_
          refine g_ist6 B dX7_reply_68 (by decide) rfl ?_
          refine g_aload_n B dX7_reply_70 rfl ?_
          refine g_getr B ci_X7 (by first | rfl | assumption) rfl (by decide) fl_X7_7 dX7_reply_71 ?_
          refine g_bipush B (v := 24) dX7_reply_74 (by decide) ?_
          refine g_iald B (by first | rfl | assumption) 24 (lit_nI 24) (by first | decide | omega | assumption) (by decide) dX7_reply_76 ?_
          refine g_iload B dX7_reply_77 rfl ?_
          refine g_ishr B dX7_reply_79 ?_
          refine g_iconst B (v := 1) dX7_reply_80 (by decide) ?_
          refine g_iand B dX7_reply_81 ?_
          refine g_if_ne B 103 dX7_reply_82 (by decide) (fun h82 => ?_) (fun h82 => ?_)
          · refine g_iconst B (v := 0) dX7_reply_103 (by decide) ?_
            refine g_eqi (bI false) rfl ?_
            refine g_ist7 B dX7_reply_104 (by decide) rfl ?_
            refine g_iload_n B dX7_reply_106 rfl ?_
            refine g_iload B dX7_reply_107 rfl ?_
            refine g_callSI B (ct_X7_flag _) ml_X7_164 mm_X7_flag rfl rfl (Nat.le_of_ble_eq_true rfl) dX7_reply_109 (by decide) ?_
            rintro _ _ ⟨rfl, rfl⟩
            refine g_iload B dX7_reply_112 rfl ?_
            refine g_ishl B dX7_reply_114 ?_
            refine g_ior B dX7_reply_115 ?_
            refine g_istn3 B dX7_reply_116 (by decide) rfl ?_
            refine g_inc5 B dX7_reply_117 rfl (inc1 _) (by decide) rfl ?_
            refine g_goto B 39 dX7_reply_120 (by decide) ?_
            exact ih hlt _ _ _ (by subst hx; simp only [orF, *, and_true, true_and, and_false, false_and, and_self, ↓reduceIte, zero_shl, Int32.or_zero, bI_t, bI_f, decide_true, decide_false, Bool.and_true, Bool.true_and, Bool.and_false, Bool.false_and, Bool.not_true, Bool.not_false, Bool.false_eq_true, not_true_eq_false, not_false_eq_true])
          · refine g_iload B dX7_reply_85 rfl ?_
            refine g_iconst B (v := 1) dX7_reply_87 (by decide) ?_
            refine g_iload_n B dX7_reply_88 rfl ?_
            refine g_isub B dX7_reply_89 ?_
            refine g_icmp_ne B 103 dX7_reply_90 (by decide) (fun h90 => ?_) (fun h90 => ?_)
            · refine g_iconst B (v := 0) dX7_reply_103 (by decide) ?_
              refine g_eqi (bI false) rfl ?_
              refine g_ist7 B dX7_reply_104 (by decide) rfl ?_
              refine g_iload_n B dX7_reply_106 rfl ?_
              refine g_iload B dX7_reply_107 rfl ?_
              refine g_callSI B (ct_X7_flag _) ml_X7_164 mm_X7_flag rfl rfl (Nat.le_of_ble_eq_true rfl) dX7_reply_109 (by decide) ?_
              rintro _ _ ⟨rfl, rfl⟩
              refine g_iload B dX7_reply_112 rfl ?_
              refine g_ishl B dX7_reply_114 ?_
              refine g_ior B dX7_reply_115 ?_
              refine g_istn3 B dX7_reply_116 (by decide) rfl ?_
              refine g_inc5 B dX7_reply_117 rfl (inc1 _) (by decide) rfl ?_
              refine g_goto B 39 dX7_reply_120 (by decide) ?_
              exact ih hlt _ _ _ (by subst hx; simp only [orF, *, and_true, true_and, and_false, false_and, and_self, ↓reduceIte, zero_shl, Int32.or_zero, bI_t, bI_f, decide_true, decide_false, Bool.and_true, Bool.true_and, Bool.and_false, Bool.false_and, Bool.not_true, Bool.not_false, Bool.false_eq_true, not_true_eq_false, not_false_eq_true])
            · refine g_iload B dX7_reply_93 rfl ?_
              refine g_iload_n B dX7_reply_95 rfl ?_
              refine g_icmp_ne B 103 dX7_reply_96 (by decide) (fun h96 => ?_) (fun h96 => ?_)
              · refine g_iconst B (v := 0) dX7_reply_103 (by decide) ?_
                refine g_eqi (bI false) rfl ?_
                refine g_ist7 B dX7_reply_104 (by decide) rfl ?_
                refine g_iload_n B dX7_reply_106 rfl ?_
                refine g_iload B dX7_reply_107 rfl ?_
                refine g_callSI B (ct_X7_flag _) ml_X7_164 mm_X7_flag rfl rfl (Nat.le_of_ble_eq_true rfl) dX7_reply_109 (by decide) ?_
                rintro _ _ ⟨rfl, rfl⟩
                refine g_iload B dX7_reply_112 rfl ?_
                refine g_ishl B dX7_reply_114 ?_
                refine g_ior B dX7_reply_115 ?_
                refine g_istn3 B dX7_reply_116 (by decide) rfl ?_
                refine g_inc5 B dX7_reply_117 rfl (inc1 _) (by decide) rfl ?_
                refine g_goto B 39 dX7_reply_120 (by decide) ?_
                exact ih hlt _ _ _ (by subst hx; simp only [orF, *, and_true, true_and, and_false, false_and, and_self, ↓reduceIte, zero_shl, Int32.or_zero, bI_t, bI_f, decide_true, decide_false, Bool.and_true, Bool.true_and, Bool.and_false, Bool.false_and, Bool.not_true, Bool.not_false, Bool.false_eq_true, not_true_eq_false, not_false_eq_true])
              · refine g_iconst B (v := 1) dX7_reply_99 (by decide) ?_
                refine g_eqi (bI true) rfl ?_
                
                refine g_goto B 104 dX7_reply_100 (by decide) ?_
                refine g_ist7 B dX7_reply_104 (by decide) rfl ?_
                refine g_iload_n B dX7_reply_106 rfl ?_
                refine g_iload B dX7_reply_107 rfl ?_
                refine g_callSI B (ct_X7_flag _) ml_X7_164 mm_X7_flag rfl rfl (Nat.le_of_ble_eq_true rfl) dX7_reply_109 (by decide) ?_
                rintro _ _ ⟨rfl, rfl⟩
                refine g_iload B dX7_reply_112 rfl ?_
                refine g_ishl B dX7_reply_114 ?_
                refine g_ior B dX7_reply_115 ?_
                refine g_istn3 B dX7_reply_116 (by decide) rfl ?_
                refine g_inc5 B dX7_reply_117 rfl (inc1 _) (by decide) rfl ?_
                refine g_goto B 39 dX7_reply_120 (by decide) ?_
                exact ih hlt _ _ _ (by subst hx; simp only [orF, *, and_true, true_and, and_false, false_and, and_self, ↓reduceIte, zero_shl, Int32.or_zero, bI_t, bI_f, decide_true, decide_false, Bool.and_true, Bool.true_and, Bool.and_false, Bool.false_and, Bool.not_true, Bool.not_false, Bool.false_eq_true, not_true_eq_false, not_false_eq_true])
      exact L39 0 (Nat.zero_le _) _ _ _ rfl
    · rw [bI_eq0] at h12
      refine g_iconst B (v := (-1)) dX7_reply_15 (by decide) ?_
      exact g_iret B E rfl dX7_reply_16 (by first | exact ⟨by rw [hx, hi2, if_pos (by simp [*])], rfl⟩ | exact ⟨by simp [*], rfl⟩)

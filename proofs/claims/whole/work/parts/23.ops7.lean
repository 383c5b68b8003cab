def facN : Nat → Nat
  | 0 => 1
  | k + 1 => (k + 1) * facN k
theorem facN_step {i : Nat} (h : 1 ≤ i) : facN i = i * facN (i - 1) := by
  obtain ⟨k, rfl⟩ : ∃ k, i = k + 1 := ⟨i - 1, by omega⟩
  rfl
theorem facN_pos : ∀ n, 0 < facN n
  | 0 => by decide
  | k + 1 => Nat.mul_pos (by omega) (facN_pos k)
theorem facN_lt {n : Nat} (h : n ≤ 8) : facN n < 2 ^ 31 := by
  rcases n8 h with rfl | rfl | rfl | rfl | rfl | rfl | rfl | rfl | rfl <;> decide
theorem facN_le {n : Nat} (h : n ≤ 8) : facN n ≤ 40320 := by
  rcases n8 h with rfl | rfl | rfl | rfl | rfl | rfl | rfl | rfl | rfl <;> decide
theorem fac_tab {n : Nat} (h : n ≤ 8) : factL.getD n 0 = nI (facN n) := by
  rcases n8 h with rfl | rfl | rfl | rfl | rfl | rfl | rfl | rfl | rfl <;> decide
section STATICS
variable {X : Cx} {cc : ByteArray} {nL fr lo pc : Nat} {own : String} {ls : List (Option Value)} {st : List Value} {I : Wo}
theorem g_getsF (B : Fx X cc nL RX6 fr lo) (d : decode cc pc = .ok (.getstatic 274, 3)) (k : GW X nL (pc + 3) ls (.ref 80 :: st) I) : GW X nL pc ls st I := by
  obtain ⟨p, l, e, R, s, m, args, below, meth, c, D, ad, cy, A, Q, kc, ks⟩ := X
  obtain ⟨⟨hx, hb, hml, hown, hts⟩, hj, hA, hK, hZ, hN, hfr, hlo, hkc, hks⟩ := B
  intro la H locs hl hP hS
  exact va_gets hx hb hZ.1 hS hown (hts _ fl_X6_274) (fun _ h => h) d (k la H locs hl hP hS)
theorem g_fald (B : Fx X cc nL own fr lo) {i : Int32} (j : Nat) (he : i = nI j) (hj9 : j < 9) (d : decode cc pc = .ok (.iaload, 1)) (k : GW X nL (pc + 1) ls (.int (factL.getD j 0) :: st) I) : GW X nL pc ls (.int i :: .ref 80 :: st) I := by
  obtain ⟨p, l, e, R, s, m, args, below, meth, c, D, ad, cy, A, Q, kc, ks⟩ := X
  obtain ⟨⟨hx, hb, hml, hown, hts⟩, hj, hA, hK, hZ, hN, hfr, hlo, hkc, hks⟩ := B
  intro la H locs hl hP hS
  subst he
  exact va_ti hx hb hZ.2.1 hS (vp_in_nI hj9 (by decide)) (v := .int (factL.getD j 0)) (by rw [nI_clamp (by omega)]) d (k la H locs hl hP hS)
end STATICS
def bcN (k : Nat) : Nat := (bc8 (nI k)).toNatClampNeg
theorem bc_tab : (List.range 9).all (fun n => (List.range (2 ^ n)).all (fun s => (List.range n).all (fun c => !decide ((nI s >>> (nI c &&& 31)) &&& 1 = 0) || (decide (bc8 (nI s) = nI (bcN s)) && decide (bcN s + 1 ≤ n))))) = true := by decide +kernel
theorem bc_lt {n s c : Nat} (hn : n ≤ 8) (hs : s < 2 ^ n) (hc : c < n) (h : (nI s >>> (nI c &&& 31)) &&& 1 = 0) : bc8 (nI s) = nI (bcN s) ∧ bcN s + 1 ≤ n := by
  have h1 := List.all_eq_true.mp (List.all_eq_true.mp (List.all_eq_true.mp bc_tab n (List.mem_range.mpr (by omega))) s (List.mem_range.mpr hs)) c (List.mem_range.mpr hc)
  simpa [h] using h1
/-- the sum of a claim's turns over all sets without it -/
def shF (es : Int32 → Bool) (n c : Nat) : Nat → Int64
  | 0 => 0
  | k + 1 => if (nI k >>> (nI c &&& 31)) &&& 1 = 0 then shF es n c k + (bI (es (nI k ||| ((1 : Int32) <<< (nI c &&& 31)))) - bI (es (nI k))).toInt64 * lN (facN (bcN k) * facN (n - 1 - bcN k)) else shF es n c k
theorem turn_mul (a b : Bool) {m : Nat} (hm : m < 2 ^ 32) : ((bI a - bI b).toInt64 * lN m).toInt = m ∨ ((bI a - bI b).toInt64 * lN m).toInt = -m ∨ ((bI a - bI b).toInt64 * lN m).toInt = 0 := by
  have hl : (lN m).toInt = m := pk_lT (by omega)
  rw [Int64.toInt_mul, hl]
  cases a <;> cases b
  · right; right; rw [show (bI false - bI false).toInt64.toInt = 0 by decide, Int.zero_mul]; decide
  · right; left; rw [show (bI false - bI true).toInt64.toInt = -1 by decide, Int.bmod_def]; split <;> omega
  · left; rw [show (bI true - bI false).toInt64.toInt = 1 by decide, Int.bmod_def]; split <;> omega
  · right; right; rw [show (bI true - bI true).toInt64.toInt = 0 by decide, Int.zero_mul]; decide
theorem shF_bd (es : Int32 → Bool) {n : Nat} (hn : n ≤ 8) (c : Nat) (hc : c < n) : ∀ k : Nat, k ≤ 2 ^ n → -((k : Int) * 2 ^ 32) ≤ (shF es n c k).toInt ∧ (shF es n c k).toInt ≤ (k : Int) * 2 ^ 32
  | 0, _ => by simp [shF]
  | k + 1, h => by
    obtain ⟨h1, h2⟩ := shF_bd es hn c hc k (by omega)
    have h8 := pow8 hn
    rw [shF]
    split
    · next hz =>
      obtain ⟨-, hb⟩ := bc_lt hn (show k < 2 ^ n by omega) hc hz
      have f1 := facN_le (show bcN k ≤ 8 by omega)
      have f2 := facN_le (show n - 1 - bcN k ≤ 8 by omega)
      have f3 : facN (bcN k) * facN (n - 1 - bcN k) ≤ 40320 * 40320 := Nat.mul_le_mul f1 f2
      have f4 : facN (bcN k) * facN (n - 1 - bcN k) < 2 ^ 32 := by omega
      have h3 := turn_mul (es (nI k ||| ((1 : Int32) <<< (nI c &&& 31)))) (es (nI k)) f4
      generalize (bI (es (nI k ||| ((1 : Int32) <<< (nI c &&& 31)))) - bI (es (nI k))).toInt64 * lN (facN (bcN k) * facN (n - 1 - bcN k)) = T at h3 ⊢
      rw [Int64.toInt_add, Int.bmod_def]
      have : (T.toInt ≤ 2 ^ 32 ∧ -(2 ^ 32) ≤ T.toInt) := by omega
      split <;> omega
    · omega
theorem absL_of {x : Int64} (h : -(2 ^ 62 : Int) ≤ x.toInt) (h2 : x.toInt ≤ 2 ^ 62) : AbsL x x.toInt.natAbs := by
  refine ⟨by omega, ?_, ?_⟩
  · apply Int64.toInt_inj.mp
    rw [pk_lT (by omega)]
    split
    · next q => rw [Int64.lt_iff_toInt_lt, show (0 : Int64).toInt = 0 from rfl] at q; omega
    · next q =>
      rw [Int64.lt_iff_toInt_lt, show (0 : Int64).toInt = 0 from rfl] at q
      rw [Int64.toInt_neg, Int.bmod_def]
      split <;> omega
  · apply Int64.toInt_inj.mp
    rw [pk_lT (by omega)]
    split
    · next q => rw [Int64.le_iff_toInt_le, show (0 : Int64).toInt = 0 from rfl] at q; omega
    · next q =>
      rw [Int64.le_iff_toInt_le, show (0 : Int64).toInt = 0 from rfl] at q
      rw [Int64.toInt_neg, Int.bmod_def]
      split <;> omega
theorem shF_abs (es : Int32 → Bool) {n : Nat} (hn : n ≤ 8) (c : Nat) (hc : c < n) : AbsL (shF es n c (2 ^ n)) (shF es n c (2 ^ n)).toInt.natAbs := by
  obtain ⟨h1, h2⟩ := shF_bd es hn c hc (2 ^ n) (Nat.le_refl _)
  have h8 := pow8 hn
  refine absL_of ?_ ?_
  · have : ((2 ^ n : Nat) : Int) ≤ 256 := Int.ofNat_le.mpr h8
    omega
  · have : ((2 ^ n : Nat) : Int) ≤ 256 := Int.ofNat_le.mpr h8
    omega
set_option maxHeartbeats 4000000 in
set_option maxRecDepth 100000 in
theorem ct_X6_factorial {I : Wo} {a : Nat} (ha : a ≤ 8) : Ct yX6_factorial cX6_factorial 1 (some .long) 1 22 [.int (nI a)] I (pL (fun r u => r = lN (facN a) ∧ I = u)) := by
  have hw : wi (nI a) 0 8 = true := (wi_iff (m := 8) (by decide)).mpr ⟨a, ha, rfl⟩
  refine ct_of RX6 rfl (by decide) (Nat.le_of_ble_eq_true rfl) (fun X B E => ?_)
  show GW X 1 0 [some (.int (nI a))] [] _
  refine g_iload_n B dX6_factorial_0 rfl ?_
  refine g_iconst B (v := 0) dX6_factorial_1 (by decide) ?_
  refine g_bipush B (v := 8) dX6_factorial_2 (by decide) ?_
  refine g_callSI B (ct_X6_within _ _ _) ml_X6_66 mm_X6_within rfl rfl (Nat.le_of_ble_eq_true rfl) dX6_factorial_4 (by decide) ?_
  rintro _ _ ⟨rfl, rfl⟩
  refine g_if_eq B 19 dX6_factorial_7 (by decide) (fun h7 => ?_) (fun h7 => ?_)
  · rw [bI_eq0] at h7
    rw [hw] at h7
    exact absurd h7 (by decide)
  · rw [bI_ne0] at h7
    refine g_getsF B dX6_factorial_10 ?_
    refine g_iload_n B dX6_factorial_13 rfl ?_
    refine g_fald B a rfl (by omega) dX6_factorial_14 ?_
    rw [fac_tab ha]
    refine g_i2l B dX6_factorial_15 ?_
    rw [nI_l (facN_lt ha)]
    refine g_goto B 20 dX6_factorial_16 (by decide) ?_
    exact g_lret B E dX6_factorial_20 ⟨rfl, rfl⟩
set_option maxHeartbeats 4000000 in
set_option maxRecDepth 100000 in
theorem ct_X6_orders {I : Wo} {n a : Nat} (hn : I 1 9 = nI n) (hn8 : n ≤ 8) (ha : a + 1 ≤ n) : Ct yX6_orders cX6_orders 2 (some .long) 2 42 [.ref 0, .int (nI a)] I (pL (fun r u => r = lN (facN a * facN (n - 1 - a)) ∧ I = u)) := by
  refine ct_of RX6 rfl (by decide) (Nat.le_of_ble_eq_true rfl) (fun X B E => ?_)
  show GW X 2 0 [some (.ref 0), some (.int (nI a))] [] _
  refine g_iload_n B dX6_orders_0 rfl ?_
  refine g_callSL B (ct_X6_factorial (show a ≤ 8 by omega)) ml_X6_216 mm_X6_factorial rfl rfl (Nat.le_of_ble_eq_true rfl) dX6_orders_1 (by decide) ?_
  rintro _ _ ⟨rfl, rfl⟩
  refine g_aload_n B dX6_orders_4 rfl ?_
  refine g_getr B ci_X6 (by first | rfl | assumption) rfl (by decide) fl_X6_10 dX6_orders_5 ?_
  refine g_geti B ci_X3 (by first | rfl | assumption) rfl (by decide) fl_X6_95 dX6_orders_8 ?_
  refine g_iconst B (v := 1) dX6_orders_11 (by decide) ?_
  refine g_isub B dX6_orders_12 ?_
  refine g_iload_n B dX6_orders_13 rfl ?_
  refine g_isub B dX6_orders_14 ?_
  refine g_eqi (nI (n - 1 - a)) (by rw [hn, show (1 : Int32) = nI 1 from rfl, pk_sub (by omega), pk_sub (by omega)]) ?_
  refine g_callSL B (ct_X6_factorial (show n - 1 - a ≤ 8 by omega)) ml_X6_216 mm_X6_factorial rfl rfl (Nat.le_of_ble_eq_true rfl) dX6_orders_15 (by decide) ?_
  rintro _ _ ⟨rfl, rfl⟩
  refine g_lmul B dX6_orders_18 ?_
  exact g_lret B E dX6_orders_19 ⟨lN_mul _ _, rfl⟩
set_option maxHeartbeats 4000000 in
set_option maxRecDepth 100000 in
theorem ct_X7_orders {I : Wo} {a : Nat} (ha : a ≤ 8) : Ct yX7_orders cX7_orders 4 (some .long) 0 0 [.int (nI a)] I (pL (fun r u => r = lN (facN a) ∧ I = u)) := by
  refine ct_of RX7 rfl (by decide) (Nat.le_of_ble_eq_true rfl) (fun X B E => ?_)
  show GW X 4 0 [some (.int (nI a)), none, none, none] [] _
  refine g_lconst B (v := 1) dX7_orders_0 (by decide) ?_
  refine g_lstn1 B dX7_orders_1 (by decide) rfl ?_
  refine g_iconst B (v := 2) dX7_orders_2 (by decide) ?_
  refine g_istn3 B dX7_orders_3 (by decide) rfl ?_
  have L : ∀ i, i ≤ a + 1 → ∀ x, 2 ≤ i → x = lN (facN (i - 1)) → GW X 4 4 [some (.int (nI a)), some (.long x), none, some (.int (nI i))] [] I := by
    refine loopN (a + 1) (fun i hi ih x h2 hx => ?_)
    refine g_iload_n B dX7_orders_4 rfl ?_
    refine g_iload_n B dX7_orders_5 rfl ?_
    refine g_icmp_gt B 20 dX7_orders_6 (by decide) (fun h6 => ?_) (fun h6 => ?_)
    · have hi2 : i = a + 1 := by have := lt_lt (a := a) (b := i) (by omega) (by omega) h6; omega
      refine g_lload_n B dX7_orders_20 rfl ?_
      exact g_lret B E dX7_orders_21 ⟨by rw [hx, hi2, Nat.add_sub_cancel], rfl⟩
    · have hlt : i < a + 1 := by have := not_lt_le (by omega) (by omega) h6; omega
      refine g_lload_n B dX7_orders_9 rfl ?_
      refine g_iload_n B dX7_orders_10 rfl ?_
      refine g_i2l B dX7_orders_11 ?_
      refine g_lmul B dX7_orders_12 ?_
      refine g_lstn1 B dX7_orders_13 (by decide) rfl ?_
      refine g_inc3 B dX7_orders_14 rfl (inc1 _) (by decide) rfl ?_
      refine g_goto B 4 dX7_orders_17 (by decide) ?_
      exact ih hlt _ (by omega) (by rw [hx, nI_l (by omega), lN_mul]; congr 1; rw [Nat.add_sub_cancel, facN_step (show 1 ≤ i by omega), Nat.mul_comm])
  rcases Nat.lt_or_ge a 1 with z | z
  · have hz : a = 0 := by omega
    subst hz
    refine g_iload_n B dX7_orders_4 rfl ?_
    refine g_iload_n B dX7_orders_5 rfl ?_
    refine g_icmp_gt B 20 dX7_orders_6 (by decide) (fun h6 => ?_) (fun h6 => absurd (by decide) h6)
    refine g_lload_n B dX7_orders_20 rfl ?_
    exact g_lret B E dX7_orders_21 ⟨rfl, rfl⟩
  · exact L 2 (by omega) _ (Nat.le_refl _) rfl
set_option maxHeartbeats 4000000 in
set_option maxRecDepth 100000 in
theorem ct_X6_share {I : Wo} {n : Nat} (hn : I 1 9 = nI n) (hn8 : n ≤ 8) (c what : Int32) : Ct yX6_share cX6_share 7 (some .long) 3 63 [.ref 0, .int c, .int what] I (pL (fun r u => r = (if cOK n c && wi what 0 1 then lowF (shF (esF n (I 6) (I 7) (I 1 10)) n c.toNatClampNeg (2 ^ n)) (lN (facN n)) (lN (Nat.gcd (facN n) (shF (esF n (I 6) (I 7) (I 1 10)) n c.toNatClampNeg (2 ^ n)).toInt.natAbs)) what else -1) ∧ I = u)) := by
  refine ct_of RX6 rfl (by decide) (Nat.le_of_ble_eq_true rfl) (fun X B E => ?_)
  show GW X 7 0 [some (.ref 0), some (.int c), some (.int what), none, none, none, none] [] _
  refine g_aload_n B dX6_share_0 rfl ?_
  refine g_getr B ci_X6 (by first | rfl | assumption) rfl (by decide) fl_X6_10 dX6_share_1 ?_
  refine g_iload_n B dX6_share_4 rfl ?_
  refine g_callVI B (cs_X3_hasClaim hn _) (by first | rfl | assumption) rfl ml_X6_114 mm_X3_hasClaim rfl rfl (Nat.le_of_ble_eq_true rfl) dX6_share_5 (by decide) ?_
  rintro _ _ ⟨rfl, rfl⟩
  refine g_if_eq B 20 dX6_share_8 (by decide) (fun h8 => ?_) (fun h8 => ?_)
  · rw [bI_eq0] at h8
    refine g_ldc2 B dX6_share_20 cn_X6_188 ?_
    exact g_lret B E dX6_share_23 ⟨by simp [*], rfl⟩
  · rw [bI_ne0] at h8
    refine g_iload_n B dX6_share_11 rfl ?_
    refine g_iconst B (v := 0) dX6_share_12 (by decide) ?_
    refine g_iconst B (v := 1) dX6_share_13 (by decide) ?_
    refine g_callSI B (ct_X6_within _ _ _) ml_X6_66 mm_X6_within rfl rfl (Nat.le_of_ble_eq_true rfl) dX6_share_14 (by decide) ?_
    rintro _ _ ⟨rfl, rfl⟩
    refine g_if_ne B 24 dX6_share_17 (by decide) (fun h17 => ?_) (fun h17 => ?_)
    · rw [bI_ne0] at h17
      obtain ⟨j, hj, rfl⟩ := (cOK_iff (by omega)).mp h8
      have hcl : (nI j).toNatClampNeg = j := nI_clamp (by omega)
      refine g_lconst B (v := 0) dX6_share_24 (by decide) ?_
      refine g_lstn3 B dX6_share_25 (by decide) rfl ?_
      refine g_iconst B (v := 0) dX6_share_26 (by decide) ?_
      refine g_ist5 B dX6_share_27 (by decide) rfl ?_
      have h256 := pow8 hn8
      have L29 : ∀ i, i ≤ 2 ^ n → ∀ x p, x = shF (esF n (I 6) (I 7) (I 1 10)) n j i → GW X 7 29 [some (.ref 0), some (.int (nI j)), some (.int what), some (.long x), none, some (.int (nI i)), p] [] I := by
        refine loopN (2 ^ n) (fun i hi ih x p hx => ?_)
        refine g_iload B dX6_share_29 rfl ?_
        refine g_iconst B (v := 1) dX6_share_31 (by decide) ?_
        refine g_aload_n B dX6_share_32 rfl ?_
        refine g_getr B ci_X6 (by first | rfl | assumption) rfl (by decide) fl_X6_10 dX6_share_33 ?_
        refine g_geti B ci_X3 (by first | rfl | assumption) rfl (by decide) fl_X6_95 dX6_share_36 ?_
        refine g_ishl B dX6_share_39 ?_
        refine g_eqi (nI (2 ^ n)) (by rw [hn, shl1 hn8]) ?_
        refine g_icmp_ge B 105 dX6_share_40 (by decide) (fun h40 => ?_) (fun h40 => ?_)
        · have hi2 : i = 2 ^ n := by have := le_le (a := 2 ^ n) (b := i) (by omega) (by omega) h40; omega
          subst hi2
          subst hx
          refine g_lload_n B dX6_share_105 rfl ?_
          refine g_aload_n B dX6_share_106 rfl ?_
          refine g_getr B ci_X6 (by first | rfl | assumption) rfl (by decide) fl_X6_10 dX6_share_107 ?_
          refine g_geti B ci_X3 (by first | rfl | assumption) rfl (by decide) fl_X6_95 dX6_share_110 ?_
          rw [hn]
          refine g_callSL B (ct_X6_factorial hn8) ml_X6_216 mm_X6_factorial rfl rfl (Nat.le_of_ble_eq_true rfl) dX6_share_113 (by decide) ?_
          rintro _ _ ⟨rfl, rfl⟩
          refine g_iload_n B dX6_share_116 rfl ?_
          refine g_callSL B (ct_X6_lowest (shF_abs _ hn8 j (by omega)) (facN_pos n) (by have := facN_lt hn8; omega) _) ml_X6_198 mm_X6_lowest rfl rfl (Nat.le_of_ble_eq_true rfl) dX6_share_117 (by decide) ?_
          rintro _ _ ⟨rfl, rfl⟩
          exact g_lret B E dX6_share_120 ⟨by rw [if_pos (by simp [*]), hcl], rfl⟩
        · have hlt : i < 2 ^ n := nle_lt (by omega) (by omega) h40
          refine g_iload B dX6_share_43 rfl ?_
          refine g_iload_n B dX6_share_45 rfl ?_
          refine g_ishr B dX6_share_46 ?_
          refine g_iconst B (v := 1) dX6_share_47 (by decide) ?_
          refine g_iand B dX6_share_48 ?_
          refine g_if_ne B 99 dX6_share_49 (by decide) (fun h49 => ?_) (fun h49 => ?_)
          · refine g_inc5 B dX6_share_99 rfl (inc1 _) (by decide) rfl ?_
            refine g_goto B 29 dX6_share_102 (by decide) ?_
            exact ih hlt _ _ (by rw [shF, if_neg h49, hx])
          · obtain ⟨hb8, hb9⟩ := bc_lt hn8 hlt hj h49
            refine g_aload_n B dX6_share_52 rfl ?_
            refine g_getr B ci_X6 (by first | rfl | assumption) rfl (by decide) fl_X6_10 dX6_share_53 ?_
            refine g_iload B dX6_share_56 rfl ?_
            refine g_iconst B (v := 1) dX6_share_58 (by decide) ?_
            refine g_iload_n B dX6_share_59 rfl ?_
            refine g_ishl B dX6_share_60 ?_
            refine g_ior B dX6_share_61 ?_
            refine g_callVI B (cs_X3_endStands hn hn8 _) (by first | rfl | assumption) rfl ml_X6_175 mm_X3_endStands rfl rfl (Nat.le_of_ble_eq_true rfl) dX6_share_62 (by decide) ?_
            rintro _ _ ⟨rfl, rfl⟩
            refine g_callSI B (ct_X6_oneIf _) ml_X6_178 mm_X6_oneIf rfl rfl (Nat.le_of_ble_eq_true rfl) dX6_share_65 (by decide) ?_
            rintro _ _ ⟨rfl, rfl⟩
            refine g_aload_n B dX6_share_68 rfl ?_
            refine g_getr B ci_X6 (by first | rfl | assumption) rfl (by decide) fl_X6_10 dX6_share_69 ?_
            refine g_iload B dX6_share_72 rfl ?_
            refine g_callVI B (cs_X3_endStands hn hn8 _) (by first | rfl | assumption) rfl ml_X6_175 mm_X3_endStands rfl rfl (Nat.le_of_ble_eq_true rfl) dX6_share_74 (by decide) ?_
            rintro _ _ ⟨rfl, rfl⟩
            refine g_callSI B (ct_X6_oneIf _) ml_X6_178 mm_X6_oneIf rfl rfl (Nat.le_of_ble_eq_true rfl) dX6_share_77 (by decide) ?_
            rintro _ _ ⟨rfl, rfl⟩
            refine g_isub B dX6_share_80 ?_
            refine g_ist6 B dX6_share_81 (by decide) rfl ?_
            refine g_lload_n B dX6_share_83 rfl ?_
            refine g_iload B dX6_share_84 rfl ?_
            refine g_i2l B dX6_share_86 ?_
            refine g_aload_n B dX6_share_87 rfl ?_
            refine g_iload B dX6_share_88 rfl ?_
            refine g_callSI B (ct_J6_bitCount_0f7a4 _) ml_X6_145 mm_J6_bitCount_0f7a4 rfl rfl (Nat.le_of_ble_eq_true rfl) dX6_share_90 (by decide) ?_
            rintro _ _ ⟨rfl, rfl⟩
            rw [bcJ_8 (show i < 256 by omega), hb8]
            refine g_callVL B (ct_X6_orders hn hn8 hb9) (by first | rfl | assumption) rfl ml_X6_212 mm_X6_orders rfl rfl (Nat.le_of_ble_eq_true rfl) dX6_share_93 (by decide) ?_
            rintro _ _ ⟨rfl, rfl⟩
            refine g_lmul B dX6_share_96 ?_
            refine g_ladd B dX6_share_97 ?_
            refine g_lstn3 B dX6_share_98 (by decide) rfl ?_
            refine g_inc5 B dX6_share_99 rfl (inc1 _) (by decide) rfl ?_
            refine g_goto B 29 dX6_share_102 (by decide) ?_
            exact ih hlt _ _ (by rw [shF, if_pos h49, hx])
      exact L29 0 (Nat.zero_le _) _ _ rfl
    · rw [bI_eq0] at h17
      refine g_ldc2 B dX6_share_20 cn_X6_188 ?_
      exact g_lret B E dX6_share_23 ⟨by simp [*], rfl⟩
set_option maxHeartbeats 4000000 in
set_option maxRecDepth 100000 in
theorem ct_X7_share {I : Wo} {n : Nat} (hn : I 57 2 = nI n) (hn8 : n ≤ 8) (he : cOK n (I 58 25) = decide (0 < n)) (c what : Int32) : Ct yX7_share cX7_share 7 (some .long) 3 65 [.ref 57, .int c, .int what] I (pL (fun r u => r = (if cOK n c && wi what 0 1 then lowF (shF (esF n (I 58) (fun c => I 58 (8 + c)) (I 58 25)) n c.toNatClampNeg (2 ^ n)) (lN (facN n)) (lN (Nat.gcd (facN n) (shF (esF n (I 58) (fun c => I 58 (8 + c)) (I 58 25)) n c.toNatClampNeg (2 ^ n)).toInt.natAbs)) what else -1) ∧ I = u)) := by
  refine ct_of RX7 rfl (by decide) (Nat.le_of_ble_eq_true rfl) (fun X B E => ?_)
  show GW X 7 0 [some (.ref 57), some (.int c), some (.int what), none, none, none, none] [] _
  refine g_aload_n B dX7_share_0 rfl ?_
  refine g_iload_n B dX7_share_1 rfl ?_
  refine g_callVI B (ct_X7_isClaim hn hn8 _) (by first | rfl | assumption) rfl ml_X7_171 mm_X7_isClaim rfl rfl (Nat.le_of_ble_eq_true rfl) dX7_share_2 (by decide) ?_
  rintro _ _ ⟨rfl, rfl⟩
  refine g_if_eq B 15 dX7_share_5 (by decide) (fun h5 => ?_) (fun h5 => ?_)
  · rw [bI_eq0] at h5
    refine g_ldc2 B dX7_share_15 cn_X7_222 ?_
    exact g_lret B E dX7_share_18 ⟨by simp [*], rfl⟩
  · rw [bI_ne0] at h5
    refine g_iload_n B dX7_share_8 rfl ?_
    refine g_callSI B (ct_X7_isPart _) ml_X7_196 mm_X7_isPart rfl rfl (Nat.le_of_ble_eq_true rfl) dX7_share_9 (by decide) ?_
    rintro _ _ ⟨rfl, rfl⟩
    refine g_if_ne B 19 dX7_share_12 (by decide) (fun h12 => ?_) (fun h12 => ?_)
    · rw [bI_ne0] at h12
      obtain ⟨j, hj, rfl⟩ := (cOK_iff (by omega)).mp h5
      have hcl : (nI j).toNatClampNeg = j := nI_clamp (by omega)
      refine g_lconst B (v := 0) dX7_share_19 (by decide) ?_
      refine g_lstn3 B dX7_share_20 (by decide) rfl ?_
      refine g_iconst B (v := 0) dX7_share_21 (by decide) ?_
      refine g_ist5 B dX7_share_22 (by decide) rfl ?_
      have h256 := pow8 hn8
      have L24 : ∀ i, i ≤ 2 ^ n → ∀ x p, x = shF (esF n (I 58) (fun c => I 58 (8 + c)) (I 58 25)) n j i → GW X 7 24 [some (.ref 57), some (.int (nI j)), some (.int what), some (.long x), none, some (.int (nI i)), p] [] I := by
        refine loopN (2 ^ n) (fun i hi ih x p hx => ?_)
        refine g_iload B dX7_share_24 rfl ?_
        refine g_aload_n B dX7_share_26 rfl ?_
        refine g_callVI B (ct_X7_every hn hn8) (by first | rfl | assumption) rfl ml_X7_191 mm_X7_every rfl rfl (Nat.le_of_ble_eq_true rfl) dX7_share_27 (by decide) ?_
        rintro _ _ ⟨rfl, rfl⟩
        refine g_icmp_gt B 104 dX7_share_30 (by decide) (fun h30 => ?_) (fun h30 => ?_)
        · have hi2 : i = 2 ^ n := ev_out hn8 hi h30
          subst hi2
          subst hx
          refine g_lload_n B dX7_share_104 rfl ?_
          refine g_aload_n B dX7_share_105 rfl ?_
          refine g_geti B ci_X7 (by first | rfl | assumption) rfl (by decide) fl_X7_72 dX7_share_106 ?_
          rw [hn]
          refine g_callSL B (ct_X7_orders hn8) ml_X7_236 mm_X7_orders rfl rfl (Nat.le_of_ble_eq_true rfl) dX7_share_109 (by decide) ?_
          rintro _ _ ⟨rfl, rfl⟩
          refine g_iload_n B dX7_share_112 rfl ?_
          refine g_callSL B (ct_X7_told (shF_abs _ hn8 j (by omega)) (facN_pos n) (by have := facN_lt hn8; omega) _) ml_X7_226 mm_X7_told rfl rfl (Nat.le_of_ble_eq_true rfl) dX7_share_113 (by decide) ?_
          rintro _ _ ⟨rfl, rfl⟩
          exact g_lret B E dX7_share_116 ⟨by rw [if_pos (by simp [*]), hcl], rfl⟩
        · have hlt : i < 2 ^ n := ev_in hn8 hi h30
          refine g_iload B dX7_share_33 rfl ?_
          refine g_iload_n B dX7_share_35 rfl ?_
          refine g_ishr B dX7_share_36 ?_
          refine g_iconst B (v := 1) dX7_share_37 (by decide) ?_
          refine g_iand B dX7_share_38 ?_
          refine g_if_ne B 98 dX7_share_39 (by decide) (fun h39 => ?_) (fun h39 => ?_)
          · refine g_inc5 B dX7_share_98 rfl (inc1 _) (by decide) rfl ?_
            refine g_goto B 24 dX7_share_101 (by decide) ?_
            exact ih hlt _ _ (by rw [shF, if_neg h39, hx])
          · obtain ⟨hb8, hb9⟩ := bc_lt hn8 hlt hj h39
            refine g_aload_n B dX7_share_42 rfl ?_
            refine g_iload B dX7_share_43 rfl ?_
            refine g_iconst B (v := 1) dX7_share_45 (by decide) ?_
            refine g_iload_n B dX7_share_46 rfl ?_
            refine g_ishl B dX7_share_47 ?_
            refine g_ior B dX7_share_48 ?_
            refine g_callVI B (ct_X7_endStands hn hn8 he _) (by first | rfl | assumption) rfl ml_X7_200 mm_X7_endStands rfl rfl (Nat.le_of_ble_eq_true rfl) dX7_share_49 (by decide) ?_
            rintro _ _ ⟨rfl, rfl⟩
            refine g_callSI B (ct_X7_flag _) ml_X7_164 mm_X7_flag rfl rfl (Nat.le_of_ble_eq_true rfl) dX7_share_52 (by decide) ?_
            rintro _ _ ⟨rfl, rfl⟩
            refine g_aload_n B dX7_share_55 rfl ?_
            refine g_iload B dX7_share_56 rfl ?_
            refine g_callVI B (ct_X7_endStands hn hn8 he _) (by first | rfl | assumption) rfl ml_X7_200 mm_X7_endStands rfl rfl (Nat.le_of_ble_eq_true rfl) dX7_share_58 (by decide) ?_
            rintro _ _ ⟨rfl, rfl⟩
            refine g_callSI B (ct_X7_flag _) ml_X7_164 mm_X7_flag rfl rfl (Nat.le_of_ble_eq_true rfl) dX7_share_61 (by decide) ?_
            rintro _ _ ⟨rfl, rfl⟩
            refine g_isub B dX7_share_64 ?_
            refine g_ist6 B dX7_share_65 (by decide) rfl ?_
            refine g_lload_n B dX7_share_67 rfl ?_
            refine g_iload B dX7_share_68 rfl ?_
            refine g_i2l B dX7_share_70 ?_
            refine g_iload B dX7_share_71 rfl ?_
            refine g_callSI B (ct_X7_bitsOf _) ml_X7_179 mm_X7_bitsOf rfl rfl (Nat.le_of_ble_eq_true rfl) dX7_share_73 (by decide) ?_
            rintro _ _ ⟨rfl, rfl⟩
            rw [hb8]
            refine g_callSL B (ct_X7_orders (show bcN i ≤ 8 by omega)) ml_X7_236 mm_X7_orders rfl rfl (Nat.le_of_ble_eq_true rfl) dX7_share_76 (by decide) ?_
            rintro _ _ ⟨rfl, rfl⟩
            refine g_lmul B dX7_share_79 ?_
            refine g_aload_n B dX7_share_80 rfl ?_
            refine g_geti B ci_X7 (by first | rfl | assumption) rfl (by decide) fl_X7_72 dX7_share_81 ?_
            refine g_iconst B (v := 1) dX7_share_84 (by decide) ?_
            refine g_isub B dX7_share_85 ?_
            refine g_iload B dX7_share_86 rfl ?_
            refine g_callSI B (ct_X7_bitsOf _) ml_X7_179 mm_X7_bitsOf rfl rfl (Nat.le_of_ble_eq_true rfl) dX7_share_88 (by decide) ?_
            rintro _ _ ⟨rfl, rfl⟩
            rw [hb8]
            refine g_isub B dX7_share_91 ?_
            refine g_eqi (nI (n - 1 - bcN i)) (by rw [hn, show (1 : Int32) = nI 1 from rfl, pk_sub (by omega), pk_sub (by omega)]) ?_
            refine g_callSL B (ct_X7_orders (show n - 1 - bcN i ≤ 8 by omega)) ml_X7_236 mm_X7_orders rfl rfl (Nat.le_of_ble_eq_true rfl) dX7_share_92 (by decide) ?_
            rintro _ _ ⟨rfl, rfl⟩
            refine g_lmul B dX7_share_95 ?_
            refine g_ladd B dX7_share_96 ?_
            refine g_lstn3 B dX7_share_97 (by decide) rfl ?_
            refine g_inc5 B dX7_share_98 rfl (inc1 _) (by decide) rfl ?_
            refine g_goto B 24 dX7_share_101 (by decide) ?_
            exact ih hlt _ _ (by rw [shF, if_pos h39, hx]; rw [Int64.mul_assoc, lN_mul])
      exact L24 0 (Nat.zero_le _) _ _ rfl
    · rw [bI_eq0] at h12
      refine g_ldc2 B dX7_share_15 cn_X7_222 ?_
      exact g_lret B E dX7_share_18 ⟨by simp [*], rfl⟩

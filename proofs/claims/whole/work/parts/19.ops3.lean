theorem bI_inj (a b : Bool) : bI a = bI b ↔ a = b := by cases a <;> cases b <;> simp [bI]
def fwQ (n : Nat) (L F : Nat → Int32) (e said : Int32) (z : Bool) (s : Int32) (k : Nat) : Bool := decide (nI k &&& said = 0) && decide (¬ s ≤ bc8 (nI k)) && decide (esF n L F e (said ||| nI k) = z)
def fwF (n : Nat) (L F : Nat → Int32) (e said : Int32) (z : Bool) (s0 : Int32 × Int32) : Nat → Int32 × Int32
  | 0 => s0
  | k + 1 => if fwQ n L F e said z (fwF n L F e said z s0 k).1 k then (bc8 (nI k), nI k) else fwF n L F e said z s0 k
theorem not_le_lt {a b : Int32} (h : ¬ a ≤ b) : b < a := by rw [fa_le9] at h; rw [fa_lt9]; omega
theorem le_not_lt {a b : Int32} (h : a ≤ b) : ¬ b < a := by rw [fa_le9] at h; rw [fa_lt9]; omega
theorem fw_end {what v x y : Int32} {n i : Nat} {f : Nat → Int32 × Int32} {I : Wo} (hf : (f 0).2 = -4) (h : wi what 0 1 = true) (hx : (x, y) = f i) (hc : (i = 2 ^ n ∧ ¬ n = 0) ∨ (n = 0 ∧ i = 0)) (hv : v = (if y = -4 then -4 else if what = 0 then x else y)) : v = (if wi what 0 1 then (if n = 0 then -4 else (if (f (2 ^ n)).2 = -4 then -4 else if what = 0 then (f (2 ^ n)).1 else (f (2 ^ n)).2)) else -1) ∧ I = I := by
  refine ⟨?_, rfl⟩
  rw [if_pos h]
  rcases hc with ⟨h1, h2⟩ | ⟨h1, h2⟩
  · rw [if_neg h2, ← h1, ← hx]; exact hv
  · rw [if_pos h1]
    subst h2
    rw [← hx] at hf
    rw [hv, if_pos hf]
theorem wi_1_60 {m : Int32} (h : wi m 1 60 = true) : ∃ k, 1 ≤ k ∧ k ≤ 60 ∧ m = nI k := by
  simp only [wi, Bool.and_eq_true, Bool.not_eq_true', decide_eq_false_iff_not, fa_lt9, show (1 : Int32).toInt = 1 from rfl, show (60 : Int32).toInt = 60 from rfl] at h
  obtain ⟨j, hj, rfl⟩ := nI_of (x := m) (by rw [fa_lt9, show (0 : Int32).toInt = 0 from rfl]; omega)
  rw [nI_toInt hj] at h
  exact ⟨j, by omega, by omega, rfl⟩
def drF (n : Nat) (L F : Nat → Int32) (e said seed : Int32) : Nat → Int32 × Int32 × Int32
  | 0 => (said, 0, seed)
  | k + 1 => ((drF n L F e said seed k).1 ^^^ ((1 : Int32) <<< (((((drF n L F e said seed k).2.2 * 1103515245 + 12345) >>> ((16 : Int32) &&& 31)) &&& 32767) - ((((drF n L F e said seed k).2.2 * 1103515245 + 12345) >>> ((16 : Int32) &&& 31)) &&& 32767) / nI n * nI n &&& 31)),
      (drF n L F e said seed k).2.1 + bI (esF n L F e ((drF n L F e said seed k).1 ^^^ ((1 : Int32) <<< (((((drF n L F e said seed k).2.2 * 1103515245 + 12345) >>> ((16 : Int32) &&& 31)) &&& 32767) - ((((drF n L F e said seed k).2.2 * 1103515245 + 12345) >>> ((16 : Int32) &&& 31)) &&& 32767) / nI n * nI n &&& 31)))),
      (drF n L F e said seed k).2.2 * 1103515245 + 12345)
theorem ushr_16 (v : Int32) : (v.toUInt32 >>> ((16 : Int32).toUInt32 &&& Int32.toUInt32 31)).toInt32 &&& 32767 = (v >>> ((16 : Int32) &&& 31)) &&& 32767 := by
  apply Int32.toBitVec_inj.mp
  have h1 : ((v.toUInt32 >>> ((16 : Int32).toUInt32 &&& Int32.toUInt32 31)).toInt32).toBitVec = v.toBitVec >>> 16 := rfl
  have h2 : (v >>> ((16 : Int32) &&& 31)).toBitVec = v.toBitVec.sshiftRight 16 := rfl
  rw [Int32.toBitVec_and, Int32.toBitVec_and, h1, h2]
  apply BitVec.eq_of_getLsbD_eq
  intro i hi
  rw [BitVec.getLsbD_and, BitVec.getLsbD_and, BitVec.getLsbD_ushiftRight, BitVec.getLsbD_sshiftRight]
  by_cases h : i < 15
  · simp [show 16 + i < 32 by omega, show ¬ 32 ≤ i by omega]
  · have e : (32767 : Int32).toBitVec.getLsbD i = false := by
      rw [show (32767 : Int32).toBitVec = BitVec.ofNat 32 (2 ^ 15 - 1) from rfl, BitVec.getLsbD_ofNat, Nat.testBit_two_pow_sub_one]
      simp [h]
    rw [e]; simp
theorem dr_end {what v x y w : Int32} {n i k : Nat} {L F : Nat → Int32} {f : Nat → Int32 × Int32 × Int32} {I : Wo} (hk60 : k ≤ 60) (hz : ¬ n = 0) (h1 : wi (nI k) 1 60 = true) (h2 : wi what 0 1 = true) (hx : (x, y, w) = f i) (hi : i = k) (hv : v = (if what = 0 then y else stF L F x n)) : v = (if wi (nI k) 1 60 && wi what 0 1 then (if n = 0 then -2 else (if what = 0 then (f (nI k).toNatClampNeg).2.1 else stF L F (f (nI k).toNatClampNeg).1 n)) else -1) ∧ I = I := by
  have hk : (nI k).toNatClampNeg = k := nI_clamp (by omega)
  rw [h1, h2, hk, if_pos (by decide), if_neg hz, ← hi, ← hx]
  exact ⟨hv, rfl⟩
def chN (L : Int32) (ch : Nat → Nat) : Nat → Nat
  | 0 => 1
  | j + 1 => if (L >>> (nI j &&& 31)) &&& 1 = 1 then (if chN L ch j < ch j + 1 then ch j + 1 else chN L ch j) else chN L ch j
def chTab (L : Nat → Int32) : Nat → Nat → Nat
  | 0 => fun _ => 0
  | i + 1 => fun k => if k = i then chN (L i) (chTab L i) i else chTab L i k
theorem chN_le {L : Int32} {ch : Nat → Nat} (h : ∀ k, ch k ≤ k + 1) : ∀ j, chN L ch j ≤ j + 1
  | 0 => Nat.le_refl _
  | j + 1 => by
    have h1 := chN_le (L := L) h j
    have h2 := h j
    rw [chN]
    split
    · split <;> omega
    · omega
theorem chTab_le (L : Nat → Int32) : ∀ i k, chTab L i k ≤ k + 1
  | 0, k => Nat.zero_le _
  | i + 1, k => by
    show (if k = i then chN (L i) (chTab L i) i else chTab L i k) ≤ k + 1
    split
    · next h => subst h; exact chN_le (fun k => chTab_le L _ k) _
    · exact chTab_le L i k
theorem chTab_congr {L L' : Nat → Int32} : ∀ {i : Nat}, (∀ c, c < i → L c = L' c) → chTab L i = chTab L' i
  | 0, _ => rfl
  | i + 1, h => by rw [chTab, chTab, chTab_congr (fun c hc => h c (by omega)), h i (by omega)]
theorem not_lt_le {a b : Nat} (ha : a < 2 ^ 31) (hb : b < 2 ^ 31) (h : ¬ nI a < nI b) : b ≤ a := nlt_le ha hb h
theorem ch_max {a b : Nat} (ha : a < 2 ^ 30) (hb : b < 2 ^ 30) : (if nI a < nI b + 1 then nI b + 1 else nI a) = nI (if a < b + 1 then b + 1 else a) := by
  rw [nI_1]
  by_cases h : a < b + 1
  · rw [if_pos ((nI_ltI (by omega) (by omega)).mpr h), if_pos h]
  · rw [if_neg (mt (nI_ltI (by omega) (by omega)).mp h), if_neg h]
theorem ch_ge {a b : Nat} (ha : a < 2 ^ 30) (hb : b < 2 ^ 30) (h : ¬ nI b < nI a) : nI b + 1 = nI (if a < b + 1 then b + 1 else a) := by
  rw [nI_ltI (by omega) (by omega)] at h
  rw [if_pos (by omega), nI_1]
theorem ch_lt {a b : Nat} (ha : a < 2 ^ 30) (hb : b < 2 ^ 30) (h : nI b < nI a) : nI a = nI (if a < b + 1 then b + 1 else a) := by
  rw [nI_ltI (by omega) (by omega)] at h
  rw [if_neg (by omega)]
theorem ch_step {W W2 : Wo} {L : Nat → Int32} {cell i y k : Nat} (g1 : W2 cell i = nI (chN (L i) (chTab L i) y)) (g2 : ∀ a b, ¬ (a = cell ∧ b = i) → W2 a b = W a b) (h1 : ∀ k, k < i → W cell k = nI (chTab L i k)) (hy : y = i) (hk : k < i + 1) : W2 cell k = nI (chTab L (i + 1) k) := by
  subst hy
  show W2 cell k = nI (if k = y then chN (L y) (chTab L y) y else chTab L y k)
  by_cases h : k = y
  · subst h; rw [if_pos rfl]; exact g1
  · rw [if_neg h, g2 _ _ (fun z => h z.2)]; exact h1 k (by omega)
set_option maxHeartbeats 4000000 in
set_option maxRecDepth 100000 in
theorem ct_X6_chain {I : Wo} {n : Nat} (hn : I 1 9 = nI n) (hn8 : n ≤ 8) (c : Int32) : Ct yX6_chain cX6_chain 4 (some .int) 1 21 [.ref 0, .int c] I (pI (fun r u => r = (if cOK n c then nI (chTab (I 6) (c.toNatClampNeg + 1) c.toNatClampNeg) else -1) ∧ ∀ a b, a ≠ 56 → u a b = I a b)) := by
  refine ct_of RX6 rfl (by decide) (Nat.le_of_ble_eq_true rfl) (fun X B E => ?_)
  show GW X 4 0 [some (.ref 0), some (.int c), none, none] [] _
  refine g_aload_n B dX6_chain_0 rfl ?_
  refine g_getr B ci_X6 (by first | rfl | assumption) rfl (by decide) fl_X6_10 dX6_chain_1 ?_
  refine g_iload_n B dX6_chain_4 rfl ?_
  refine g_callVI B (cs_X3_hasClaim hn _) (by first | rfl | assumption) rfl ml_X6_114 mm_X3_hasClaim rfl rfl (Nat.le_of_ble_eq_true rfl) dX6_chain_5 (by decide) ?_
  rintro _ _ ⟨rfl, rfl⟩
  refine g_if_ne B 13 dX6_chain_8 (by decide) (fun h8 => ?_) (fun h8 => ?_)
  · rw [bI_ne0] at h8
    obtain ⟨j, hj, rfl⟩ := (cOK_iff (by omega)).mp h8
    have hcl : (nI j).toNatClampNeg = j := nI_clamp (by omega)
    refine g_iconst B (v := 0) dX6_chain_13 (by decide) ?_
    refine g_istn2 B dX6_chain_14 (by decide) rfl ?_
    have L : ∀ i, i ≤ j + 1 → ∀ W p, (∀ k, k < i → W 56 k = nI (chTab (I 6) i k)) → (∀ a b, a ≠ 56 → W a b = I a b) → GW X 4 15 [some (.ref 0), some (.int (nI j)), some (.int (nI i)), p] [] W := by
      refine loopN (j + 1) (fun i hi ih W p h1 h2 => ?_)
      refine g_iload_n B dX6_chain_15 rfl ?_
      refine g_iload_n B dX6_chain_16 rfl ?_
      refine g_icmp_gt B 86 dX6_chain_17 (by decide) (fun h17 => ?_) (fun h17 => ?_)
      · have hi2 : i = j + 1 := by have := lt_lt (a := j) (b := i) (by omega) (by omega) h17; omega
        refine g_aload_n B dX6_chain_86 rfl ?_
        refine g_getr B ci_X6 (by first | rfl | assumption) rfl (by decide) fl_X6_62 dX6_chain_87 ?_
        refine g_iload_n B dX6_chain_90 rfl ?_
        refine g_iald B (by first | rfl | assumption) _ (by first | with_reducible rfl | exact lit_add _ _ | exact add_lit _ _ | exact nI_add _ _ | exact lit_nI _ | assumption | rfl) (by first | decide | omega | assumption) (by decide) dX6_chain_91 ?_
        exact g_iret B E rfl dX6_chain_92 ⟨by rw [if_pos (by assumption), hcl]; subst hi2; exact h1 j (by omega), h2⟩
      · have hlt : i < j + 1 := by have := not_lt_le (by omega) (by omega) h17; omega
        refine g_aload_n B dX6_chain_20 rfl ?_
        refine g_getr B ci_X6 (by first | rfl | assumption) rfl (by decide) fl_X6_62 dX6_chain_21 ?_
        refine g_iload_n B dX6_chain_24 rfl ?_
        refine g_iconst B (v := 1) dX6_chain_25 (by decide) ?_
        refine g_iast B (by first | rfl | assumption) _ (by first | with_reducible rfl | exact lit_add _ _ | exact add_lit _ _ | exact nI_add _ _ | exact lit_nI _ | assumption | rfl) (by first | decide | omega | assumption) (by decide) dX6_chain_26 ?_
        refine g_iconst B (v := 0) dX6_chain_27 (by decide) ?_
        refine g_istn3 B dX6_chain_28 (by decide) rfl ?_
        have L2 : ∀ y, y ≤ i → ∀ W2, W2 56 i = nI (chN ((I 6) i) (chTab (I 6) i) y) → (∀ a b, ¬ (a = 56 ∧ b = i) → W2 a b = W a b) → GW X 4 29 [some (.ref 0), some (.int (nI j)), some (.int (nI i)), some (.int (nI y))] [] W2 := by
          refine loopN i (fun y hy ih2 W2 g1 g2 => ?_)
          have gk : ∀ k, k < i → W2 56 k = nI (chTab (I 6) i k) := fun k hk => by rw [g2 _ _ (by omega), h1 k hk]
          have gb := chN_le (L := (I 6) i) (fun k => chTab_le (I 6) i k) y
          have gy := chTab_le (I 6) i y
          refine g_iload_n B dX6_chain_29 rfl ?_
          refine g_iload_n B dX6_chain_30 rfl ?_
          refine g_icmp_ge B 80 dX6_chain_31 (by decide) (fun h31 => ?_) (fun h31 => ?_)
          · have hy2 : y = i := by have := le_le (a := i) (b := y) (by omega) (by omega) h31; omega
            refine g_inc2 B dX6_chain_80 rfl (inc1 _) (by decide) rfl ?_
            refine g_goto B 15 dX6_chain_83 (by decide) ?_
            exact ih hlt _ _ (fun k hk => ch_step (W := W) g1 g2 h1 hy2 hk) (fun a b hab => by rw [g2 a b (fun z => hab z.1)]; exact h2 a b hab)
          · have hlt2 : y < i := nle_lt (by omega) (by omega) h31
            refine g_aload_n B dX6_chain_34 rfl ?_
            refine g_getr B ci_X6 (by first | rfl | assumption) rfl (by decide) fl_X6_10 dX6_chain_35 ?_
            refine g_getr B ci_X3 (by first | rfl | assumption) rfl (by decide) fl_X6_129 dX6_chain_38 ?_
            refine g_iload_n B dX6_chain_41 rfl ?_
            refine g_iald B (by first | rfl | assumption) _ (by first | with_reducible rfl | exact lit_add _ _ | exact add_lit _ _ | exact nI_add _ _ | exact lit_nI _ | assumption | rfl) (by first | decide | omega | assumption) (by decide) dX6_chain_42 ?_
            rw [g2 6 i (by omega), h2 6 i (by decide)]
            refine g_iload_n B dX6_chain_43 rfl ?_
            refine g_ishr B dX6_chain_44 ?_
            refine g_iconst B (v := 1) dX6_chain_45 (by decide) ?_
            refine g_iand B dX6_chain_46 ?_
            refine g_iconst B (v := 1) dX6_chain_47 (by decide) ?_
            refine g_icmp_ne B 74 dX6_chain_48 (by decide) (fun h48 => ?_) (fun h48 => ?_)
            · refine g_inc3 B dX6_chain_74 rfl (inc1 _) (by decide) rfl ?_
              refine g_goto B 29 dX6_chain_77 (by decide) ?_
              first
                | exact ih2 hlt2 _ (by rw [w2_same, gk y hlt2, g1, chN, if_pos h48]; exact ch_max (by omega) (by omega)) (fun a b hab => by rw [show w2 W2 56 i _ a b = W2 a b from if_neg hab]; exact g2 a b hab)
                | exact ih2 hlt2 _ (by rw [g1, chN, if_neg h48]) g2
            · refine g_aload_n B dX6_chain_51 rfl ?_
              refine g_getr B ci_X6 (by first | rfl | assumption) rfl (by decide) fl_X6_62 dX6_chain_52 ?_
              refine g_iload_n B dX6_chain_55 rfl ?_
              refine g_aload_n B dX6_chain_56 rfl ?_
              refine g_getr B ci_X6 (by first | rfl | assumption) rfl (by decide) fl_X6_62 dX6_chain_57 ?_
              refine g_iload_n B dX6_chain_60 rfl ?_
              refine g_iald B (by first | rfl | assumption) _ (by first | with_reducible rfl | exact lit_add _ _ | exact add_lit _ _ | exact nI_add _ _ | exact lit_nI _ | assumption | rfl) (by first | decide | omega | assumption) (by decide) dX6_chain_61 ?_
              refine g_aload_n B dX6_chain_62 rfl ?_
              refine g_getr B ci_X6 (by first | rfl | assumption) rfl (by decide) fl_X6_62 dX6_chain_63 ?_
              refine g_iload_n B dX6_chain_66 rfl ?_
              refine g_iald B (by first | rfl | assumption) _ (by first | with_reducible rfl | exact lit_add _ _ | exact add_lit _ _ | exact nI_add _ _ | exact lit_nI _ | assumption | rfl) (by first | decide | omega | assumption) (by decide) dX6_chain_67 ?_
              refine g_iconst B (v := 1) dX6_chain_68 (by decide) ?_
              refine g_iadd B dX6_chain_69 ?_
              refine g_mmax B (by decide) (Nat.le_of_ble_eq_true rfl) dX6_chain_70 ?_
              refine g_iast B (by first | rfl | assumption) _ (by first | with_reducible rfl | exact lit_add _ _ | exact add_lit _ _ | exact nI_add _ _ | exact lit_nI _ | assumption | rfl) (by first | decide | omega | assumption) (by decide) dX6_chain_73 ?_
              refine g_inc3 B dX6_chain_74 rfl (inc1 _) (by decide) rfl ?_
              refine g_goto B 29 dX6_chain_77 (by decide) ?_
              first
                | exact ih2 hlt2 _ (by rw [w2_same, gk y hlt2, g1, chN, if_pos h48]; exact ch_max (by omega) (by omega)) (fun a b hab => by rw [show w2 W2 56 i _ a b = W2 a b from if_neg hab]; exact g2 a b hab)
                | exact ih2 hlt2 _ (by rw [g1, chN, if_neg h48]) g2
        exact L2 0 (Nat.zero_le _) _ (w2_same _ _ _ _) (fun a b hab => if_neg hab)
    exact L 0 (Nat.zero_le _) _ _ (fun k hk => absurd hk (Nat.not_lt_zero k)) (fun _ _ _ => rfl)
  · rw [bI_eq0] at h8
    refine g_iconst B (v := (-1)) dX6_chain_11 (by decide) ?_
    exact g_iret B E rfl dX6_chain_12 ⟨by simp [*], fun _ _ _ => rfl⟩
set_option maxHeartbeats 4000000 in
set_option maxRecDepth 100000 in
theorem ct_X7_chain {I : Wo} {n : Nat} (hn : I 57 2 = nI n) (hn8 : n ≤ 8) (c : Int32) : Ct yX7_chain cX7_chain 5 (some .int) 2 46 [.ref 57, .int c] I (pI (fun r u => r = (if cOK n c then nI (chTab (I 58) (c.toNatClampNeg + 1) c.toNatClampNeg) else -1) ∧ ∀ a b, a ≠ 68 → u a b = I a b)) := by
  refine ct_of RX7 rfl (by decide) (Nat.le_of_ble_eq_true rfl) (fun X B E => ?_)
  show GW X 5 0 [some (.ref 57), some (.int c), none, none, none] [] _
  refine g_aload_n B dX7_chain_0 rfl ?_
  refine g_iload_n B dX7_chain_1 rfl ?_
  refine g_callVI B (ct_X7_isClaim hn hn8 _) (by first | rfl | assumption) rfl ml_X7_171 mm_X7_isClaim rfl rfl (Nat.le_of_ble_eq_true rfl) dX7_chain_2 (by decide) ?_
  rintro _ _ ⟨rfl, rfl⟩
  refine g_if_ne B 10 dX7_chain_5 (by decide) (fun h5 => ?_) (fun h5 => ?_)
  · rw [bI_ne0] at h5
    obtain ⟨j, hj, rfl⟩ := (cOK_iff (by omega)).mp h5
    have hcl : (nI j).toNatClampNeg = j := nI_clamp (by omega)
    refine g_iconst B (v := 0) dX7_chain_10 (by decide) ?_
    refine g_istn2 B dX7_chain_11 (by decide) rfl ?_
    have L : ∀ i, i ≤ j + 1 → ∀ W q p, (∀ k, k < i → W 68 k = nI (chTab (I 58) i k)) → (∀ a b, a ≠ 68 → W a b = I a b) → GW X 5 12 [some (.ref 57), some (.int (nI j)), some (.int (nI i)), p, q] [] W := by
      refine loopN (j + 1) (fun i hi ih W q p h1 h2 => ?_)
      refine g_iload_n B dX7_chain_12 rfl ?_
      refine g_iload_n B dX7_chain_13 rfl ?_
      refine g_icmp_gt B 109 dX7_chain_14 (by decide) (fun h14 => ?_) (fun h14 => ?_)
      · have hi2 : i = j + 1 := by have := lt_lt (a := j) (b := i) (by omega) (by omega) h14; omega
        refine g_aload_n B dX7_chain_109 rfl ?_
        refine g_getr B ci_X7 (by first | rfl | assumption) rfl (by decide) fl_X7_41 dX7_chain_110 ?_
        refine g_iload_n B dX7_chain_113 rfl ?_
        refine g_iald B (by first | rfl | assumption) _ (by first | with_reducible rfl | exact lit_add _ _ | exact add_lit _ _ | exact nI_add _ _ | exact lit_nI _ | assumption | rfl) (by first | decide | omega | assumption) (by decide) dX7_chain_114 ?_
        exact g_iret B E rfl dX7_chain_115 ⟨by rw [if_pos (by assumption), hcl]; subst hi2; exact h1 j (by omega), h2⟩
      · have hlt : i < j + 1 := by have := not_lt_le (by omega) (by omega) h14; omega
        refine g_aload_n B dX7_chain_17 rfl ?_
        refine g_getr B ci_X7 (by first | rfl | assumption) rfl (by decide) fl_X7_41 dX7_chain_18 ?_
        refine g_iload_n B dX7_chain_21 rfl ?_
        refine g_iconst B (v := 1) dX7_chain_22 (by decide) ?_
        refine g_iast B (by first | rfl | assumption) _ (by first | with_reducible rfl | exact lit_add _ _ | exact add_lit _ _ | exact nI_add _ _ | exact lit_nI _ | assumption | rfl) (by first | decide | omega | assumption) (by decide) dX7_chain_23 ?_
        refine g_iconst B (v := 0) dX7_chain_24 (by decide) ?_
        refine g_istn3 B dX7_chain_25 (by decide) rfl ?_
        have L2 : ∀ y, y ≤ i → ∀ W2 q, W2 68 i = nI (chN ((I 58) i) (chTab (I 58) i) y) → (∀ a b, ¬ (a = 68 ∧ b = i) → W2 a b = W a b) → GW X 5 26 [some (.ref 57), some (.int (nI j)), some (.int (nI i)), some (.int (nI y)), q] [] W2 := by
          refine loopN i (fun y hy ih2 W2 q g1 g2 => ?_)
          have gk : ∀ k, k < i → W2 68 k = nI (chTab (I 58) i k) := fun k hk => by rw [g2 _ _ (by omega), h1 k hk]
          have gb := chN_le (L := (I 58) i) (fun k => chTab_le (I 58) i k) y
          have gy := chTab_le (I 58) i y
          refine g_iload_n B dX7_chain_26 rfl ?_
          refine g_iload_n B dX7_chain_27 rfl ?_
          refine g_icmp_ge B 103 dX7_chain_28 (by decide) (fun h28 => ?_) (fun h28 => ?_)
          · have hy2 : y = i := by have := le_le (a := i) (b := y) (by omega) (by omega) h28; omega
            refine g_inc2 B dX7_chain_103 rfl (inc1 _) (by decide) rfl ?_
            refine g_goto B 12 dX7_chain_106 (by decide) ?_
            exact ih hlt _ _ _ (fun k hk => ch_step (W := W) g1 g2 h1 hy2 hk) (fun a b hab => by rw [g2 a b (fun z => hab z.1)]; exact h2 a b hab)
          · have hlt2 : y < i := nle_lt (by omega) (by omega) h28
            refine g_aload_n B dX7_chain_31 rfl ?_
            refine g_getr B ci_X7 (by first | rfl | assumption) rfl (by decide) fl_X7_7 dX7_chain_32 ?_
            refine g_iconst B (v := 0) dX7_chain_35 (by decide) ?_
            refine g_iload_n B dX7_chain_36 rfl ?_
            refine g_iadd B dX7_chain_37 ?_
            refine g_iald B (by first | rfl | assumption) _ (la_0 _) (by first | decide | omega | assumption) (by decide) dX7_chain_38 ?_
            rw [g2 58 _ (by omega), h2 58 _ (by decide)]
            refine g_iload_n B dX7_chain_39 rfl ?_
            refine g_ishr B dX7_chain_40 ?_
            refine g_iconst B (v := 1) dX7_chain_41 (by decide) ?_
            refine g_iand B dX7_chain_42 ?_
            refine g_iconst B (v := 1) dX7_chain_43 (by decide) ?_
            refine g_icmp_ne B 66 dX7_chain_44 (by decide) (fun h44 => ?_) (fun h44 => ?_)
            · refine g_iconst B (v := 0) dX7_chain_66 (by decide) ?_
              refine g_ist4 B dX7_chain_67 (by decide) rfl ?_
              refine g_aload_n B dX7_chain_69 rfl ?_
              refine g_getr B ci_X7 (by first | rfl | assumption) rfl (by decide) fl_X7_41 dX7_chain_70 ?_
              refine g_iload_n B dX7_chain_73 rfl ?_
              refine g_iload B dX7_chain_74 rfl ?_
              refine g_if_eq B 90 dX7_chain_76 (by decide) (fun h76 => ?_) (fun h76 => ?_)
              · refine g_aload_n B dX7_chain_90 rfl ?_
                refine g_getr B ci_X7 (by first | rfl | assumption) rfl (by decide) fl_X7_41 dX7_chain_91 ?_
                refine g_iload_n B dX7_chain_94 rfl ?_
                refine g_iald B (by first | rfl | assumption) _ (by first | with_reducible rfl | exact lit_add _ _ | exact add_lit _ _ | exact nI_add _ _ | exact lit_nI _ | assumption | rfl) (by first | decide | omega | assumption) (by decide) dX7_chain_95 ?_
                refine g_iast B (by first | rfl | assumption) _ (by first | with_reducible rfl | exact lit_add _ _ | exact add_lit _ _ | exact nI_add _ _ | exact lit_nI _ | assumption | rfl) (by first | decide | omega | assumption) (by decide) dX7_chain_96 ?_
                refine g_inc3 B dX7_chain_97 rfl (inc1 _) (by decide) rfl ?_
                refine g_goto B 26 dX7_chain_100 (by decide) ?_
                first
                  | exact ih2 hlt2 _ _ (by rw [w2_same, gk y hlt2, chN, if_pos h44]; rw [gk y hlt2, g1] at h59; exact ch_ge (by omega) (by omega) h59) (fun a b hab => by rw [show w2 W2 68 i _ a b = W2 a b from if_neg hab]; exact g2 a b hab)
                  | exact ih2 hlt2 _ _ (by rw [w2_same, g1, chN, if_pos h44]; rw [gk y hlt2, g1] at h59; exact ch_lt (by omega) (by omega) h59) (fun a b hab => by rw [show w2 W2 68 i _ a b = W2 a b from if_neg hab]; exact g2 a b hab)
                  | exact ih2 hlt2 _ _ (by rw [w2_same, g1, chN, if_neg h44]) (fun a b hab => by rw [show w2 W2 68 i _ a b = W2 a b from if_neg hab]; exact g2 a b hab)
              · exact absurd rfl h76
            · refine g_aload_n B dX7_chain_47 rfl ?_
              refine g_getr B ci_X7 (by first | rfl | assumption) rfl (by decide) fl_X7_41 dX7_chain_48 ?_
              refine g_iload_n B dX7_chain_51 rfl ?_
              refine g_iald B (by first | rfl | assumption) _ (by first | with_reducible rfl | exact lit_add _ _ | exact add_lit _ _ | exact nI_add _ _ | exact lit_nI _ | assumption | rfl) (by first | decide | omega | assumption) (by decide) dX7_chain_52 ?_
              refine g_aload_n B dX7_chain_53 rfl ?_
              refine g_getr B ci_X7 (by first | rfl | assumption) rfl (by decide) fl_X7_41 dX7_chain_54 ?_
              refine g_iload_n B dX7_chain_57 rfl ?_
              refine g_iald B (by first | rfl | assumption) _ (by first | with_reducible rfl | exact lit_add _ _ | exact add_lit _ _ | exact nI_add _ _ | exact lit_nI _ | assumption | rfl) (by first | decide | omega | assumption) (by decide) dX7_chain_58 ?_
              refine g_icmp_lt B 66 dX7_chain_59 (by decide) (fun h59 => ?_) (fun h59 => ?_)
              · refine g_iconst B (v := 0) dX7_chain_66 (by decide) ?_
                refine g_ist4 B dX7_chain_67 (by decide) rfl ?_
                refine g_aload_n B dX7_chain_69 rfl ?_
                refine g_getr B ci_X7 (by first | rfl | assumption) rfl (by decide) fl_X7_41 dX7_chain_70 ?_
                refine g_iload_n B dX7_chain_73 rfl ?_
                refine g_iload B dX7_chain_74 rfl ?_
                refine g_if_eq B 90 dX7_chain_76 (by decide) (fun h76 => ?_) (fun h76 => ?_)
                · refine g_aload_n B dX7_chain_90 rfl ?_
                  refine g_getr B ci_X7 (by first | rfl | assumption) rfl (by decide) fl_X7_41 dX7_chain_91 ?_
                  refine g_iload_n B dX7_chain_94 rfl ?_
                  refine g_iald B (by first | rfl | assumption) _ (by first | with_reducible rfl | exact lit_add _ _ | exact add_lit _ _ | exact nI_add _ _ | exact lit_nI _ | assumption | rfl) (by first | decide | omega | assumption) (by decide) dX7_chain_95 ?_
                  refine g_iast B (by first | rfl | assumption) _ (by first | with_reducible rfl | exact lit_add _ _ | exact add_lit _ _ | exact nI_add _ _ | exact lit_nI _ | assumption | rfl) (by first | decide | omega | assumption) (by decide) dX7_chain_96 ?_
                  refine g_inc3 B dX7_chain_97 rfl (inc1 _) (by decide) rfl ?_
                  refine g_goto B 26 dX7_chain_100 (by decide) ?_
                  first
                    | exact ih2 hlt2 _ _ (by rw [w2_same, gk y hlt2, chN, if_pos h44]; rw [gk y hlt2, g1] at h59; exact ch_ge (by omega) (by omega) h59) (fun a b hab => by rw [show w2 W2 68 i _ a b = W2 a b from if_neg hab]; exact g2 a b hab)
                    | exact ih2 hlt2 _ _ (by rw [w2_same, g1, chN, if_pos h44]; rw [gk y hlt2, g1] at h59; exact ch_lt (by omega) (by omega) h59) (fun a b hab => by rw [show w2 W2 68 i _ a b = W2 a b from if_neg hab]; exact g2 a b hab)
                    | exact ih2 hlt2 _ _ (by rw [w2_same, g1, chN, if_neg h44]) (fun a b hab => by rw [show w2 W2 68 i _ a b = W2 a b from if_neg hab]; exact g2 a b hab)
                · exact absurd rfl h76
              · refine g_iconst B (v := 1) dX7_chain_62 (by decide) ?_
                refine g_goto B 67 dX7_chain_63 (by decide) ?_
                refine g_ist4 B dX7_chain_67 (by decide) rfl ?_
                refine g_aload_n B dX7_chain_69 rfl ?_
                refine g_getr B ci_X7 (by first | rfl | assumption) rfl (by decide) fl_X7_41 dX7_chain_70 ?_
                refine g_iload_n B dX7_chain_73 rfl ?_
                refine g_iload B dX7_chain_74 rfl ?_
                refine g_if_eq B 90 dX7_chain_76 (by decide) (fun h76 => ?_) (fun h76 => ?_)
                · exact absurd h76 (by decide)
                · refine g_aload_n B dX7_chain_79 rfl ?_
                  refine g_getr B ci_X7 (by first | rfl | assumption) rfl (by decide) fl_X7_41 dX7_chain_80 ?_
                  refine g_iload_n B dX7_chain_83 rfl ?_
                  refine g_iald B (by first | rfl | assumption) _ (by first | with_reducible rfl | exact lit_add _ _ | exact add_lit _ _ | exact nI_add _ _ | exact lit_nI _ | assumption | rfl) (by first | decide | omega | assumption) (by decide) dX7_chain_84 ?_
                  refine g_iconst B (v := 1) dX7_chain_85 (by decide) ?_
                  refine g_iadd B dX7_chain_86 ?_
                  refine g_goto B 96 dX7_chain_87 (by decide) ?_
                  refine g_iast B (by first | rfl | assumption) _ (by first | with_reducible rfl | exact lit_add _ _ | exact add_lit _ _ | exact nI_add _ _ | exact lit_nI _ | assumption | rfl) (by first | decide | omega | assumption) (by decide) dX7_chain_96 ?_
                  refine g_inc3 B dX7_chain_97 rfl (inc1 _) (by decide) rfl ?_
                  refine g_goto B 26 dX7_chain_100 (by decide) ?_
                  first
                    | exact ih2 hlt2 _ _ (by rw [w2_same, gk y hlt2, chN, if_pos h44]; rw [gk y hlt2, g1] at h59; exact ch_ge (by omega) (by omega) h59) (fun a b hab => by rw [show w2 W2 68 i _ a b = W2 a b from if_neg hab]; exact g2 a b hab)
                    | exact ih2 hlt2 _ _ (by rw [w2_same, g1, chN, if_pos h44]; rw [gk y hlt2, g1] at h59; exact ch_lt (by omega) (by omega) h59) (fun a b hab => by rw [show w2 W2 68 i _ a b = W2 a b from if_neg hab]; exact g2 a b hab)
                    | exact ih2 hlt2 _ _ (by rw [w2_same, g1, chN, if_neg h44]) (fun a b hab => by rw [show w2 W2 68 i _ a b = W2 a b from if_neg hab]; exact g2 a b hab)
        exact L2 0 (Nat.zero_le _) _ _ (w2_same _ _ _ _) (fun a b hab => if_neg hab)
    exact L 0 (Nat.zero_le _) _ _ _ (fun k hk => absurd hk (Nat.not_lt_zero k)) (fun _ _ _ => rfl)
  · rw [bI_eq0] at h5
    refine g_iconst B (v := (-1)) dX7_chain_8 (by decide) ?_
    exact g_iret B E rfl dX7_chain_9 ⟨by simp [*], fun _ _ _ => rfl⟩
set_option maxHeartbeats 4000000 in
set_option maxRecDepth 100000 in
theorem ct_X6_fewestMore {I : Wo} {n : Nat} (hn : I 1 9 = nI n) (hn8 : n ≤ 8) (z : Bool) (what : Int32) : Ct yX6_fewestMore cX6_fewestMore 7 (some .int) 2 45 [.ref 0, .int (bI z), .int what] I (pI (fun r u => r = (if n = 0 then -4 else (if 8 < (fwF n (I 6) (I 7) (I 1 10) (I 1 12) z (9, 0) (2 ^ n)).1 then -4 else if what = 0 then (fwF n (I 6) (I 7) (I 1 10) (I 1 12) z (9, 0) (2 ^ n)).1 else (fwF n (I 6) (I 7) (I 1 10) (I 1 12) z (9, 0) (2 ^ n)).2)) ∧ I = u)) := by
  refine ct_of RX6 rfl (by decide) (Nat.le_of_ble_eq_true rfl) (fun X B E => ?_)
  show GW X 7 0 [some (.ref 0), some (.int (bI z)), some (.int what), none, none, none, none] [] _
  refine g_aload_n B dX6_fewestMore_0 rfl ?_
  refine g_getr B ci_X6 (by first | rfl | assumption) rfl (by decide) fl_X6_10 dX6_fewestMore_1 ?_
  refine g_geti B ci_X3 (by first | rfl | assumption) rfl (by decide) fl_X6_95 dX6_fewestMore_4 ?_
  refine g_if_ne B 13 dX6_fewestMore_7 (by decide) (fun h7 => ?_) (fun h7 => ?_)
  · have hz : ¬ n = 0 := fun q => h7 (by rw [hn, q]; rfl)
    refine g_bipush B (v := 9) dX6_fewestMore_13 (by decide) ?_
    refine g_istn3 B dX6_fewestMore_15 (by decide) rfl ?_
    refine g_iconst B (v := 0) dX6_fewestMore_16 (by decide) ?_
    refine g_ist4 B dX6_fewestMore_17 (by decide) rfl ?_
    refine g_iconst B (v := 0) dX6_fewestMore_19 (by decide) ?_
    refine g_ist5 B dX6_fewestMore_20 (by decide) rfl ?_
    have h256 := pow8 hn8
    have L22 : ∀ i, i ≤ 2 ^ n → ∀ x y q, (x, y) = fwF n (I 6) (I 7) (I 1 10) (I 1 12) z (9, 0) i → GW X 7 22 [some (.ref 0), some (.int (bI z)), some (.int what), some (.int x), some (.int y), some (.int (nI i)), q] [] I := by
      refine loopN (2 ^ n) (fun i hi ih x y q hx => ?_)
      refine g_iload B dX6_fewestMore_22 rfl ?_
      refine g_iconst B (v := 1) dX6_fewestMore_24 (by decide) ?_
      refine g_aload_n B dX6_fewestMore_25 rfl ?_
      refine g_getr B ci_X6 (by first | rfl | assumption) rfl (by decide) fl_X6_10 dX6_fewestMore_26 ?_
      refine g_geti B ci_X3 (by first | rfl | assumption) rfl (by decide) fl_X6_95 dX6_fewestMore_29 ?_
      refine g_ishl B dX6_fewestMore_32 ?_
      refine g_eqi (nI (2 ^ n)) (by rw [hn, shl1 hn8]) ?_
      refine g_icmp_ge B 96 dX6_fewestMore_33 (by decide) (fun h33 => ?_) (fun h33 => ?_)
      · have hi2 : i = 2 ^ n := by have := le_le (a := 2 ^ n) (b := i) (by omega) (by omega) h33; omega
        refine g_iload_n B dX6_fewestMore_96 rfl ?_
        refine g_bipush B (v := 8) dX6_fewestMore_97 (by decide) ?_
        refine g_icmp_le B 105 dX6_fewestMore_99 (by decide) (fun h99 => ?_) (fun h99 => ?_)
        · replace h99 := le_not_lt h99
          refine g_iload_n B dX6_fewestMore_105 rfl ?_
          refine g_if_ne B 113 dX6_fewestMore_106 (by decide) (fun h106 => ?_) (fun h106 => ?_)
          · refine g_iload B dX6_fewestMore_113 rfl ?_
            exact g_iret B E rfl dX6_fewestMore_115 ⟨by subst hi2; rw [if_neg hz, ← hx, if_neg h99]; simp only [h106, ↓reduceIte], rfl⟩
          · refine g_iload_n B dX6_fewestMore_109 rfl ?_
            refine g_goto B 115 dX6_fewestMore_110 (by decide) ?_
            exact g_iret B E rfl dX6_fewestMore_115 ⟨by subst hi2; rw [if_neg hz, ← hx, if_neg h99]; simp only [h106, ↓reduceIte], rfl⟩
        · replace h99 := not_le_lt h99
          refine g_bipush B (v := (-4)) dX6_fewestMore_102 (by decide) ?_
          exact g_iret B E rfl dX6_fewestMore_104 ⟨by subst hi2; rw [if_neg hz, ← hx, if_pos h99], rfl⟩
      · have hlt : i < 2 ^ n := nle_lt (by omega) (by omega) h33
        refine g_iload B dX6_fewestMore_36 rfl ?_
        refine g_callSI B (ct_J6_bitCount_0f7a4 _) ml_X6_145 mm_J6_bitCount_0f7a4 rfl rfl (Nat.le_of_ble_eq_true rfl) dX6_fewestMore_38 (by decide) ?_
        rintro _ _ ⟨rfl, rfl⟩
        rw [bcJ_8 (show i < 256 by omega)]
        refine g_ist6 B dX6_fewestMore_41 (by decide) rfl ?_
        refine g_iload B dX6_fewestMore_43 rfl ?_
        refine g_aload_n B dX6_fewestMore_45 rfl ?_
        refine g_getr B ci_X6 (by first | rfl | assumption) rfl (by decide) fl_X6_10 dX6_fewestMore_46 ?_
        refine g_geti B ci_X3 (by first | rfl | assumption) rfl (by decide) fl_X6_104 dX6_fewestMore_49 ?_
        refine g_iand B dX6_fewestMore_52 ?_
        refine g_if_ne B 90 dX6_fewestMore_53 (by decide) (fun h53 => ?_) (fun h53 => ?_)
        · refine g_inc5 B dX6_fewestMore_90 rfl (inc1 _) (by decide) rfl ?_
          refine g_goto B 22 dX6_fewestMore_93 (by decide) ?_
          exact ih hlt _ _ _ (by rw [fwF, ← hx]; simp only [fwQ, bI_inj, *, and_true, true_and, and_false, false_and, and_self, ↓reduceIte, zero_shl, Int32.or_zero, bI_t, bI_f, decide_true, decide_false, Bool.and_true, Bool.true_and, Bool.and_false, Bool.false_and, Bool.not_true, Bool.not_false, Bool.false_eq_true, not_true_eq_false, not_false_eq_true])
        · refine g_iload B dX6_fewestMore_56 rfl ?_
          refine g_iload_n B dX6_fewestMore_58 rfl ?_
          refine g_icmp_ge B 90 dX6_fewestMore_59 (by decide) (fun h59 => ?_) (fun h59 => ?_)
          · refine g_inc5 B dX6_fewestMore_90 rfl (inc1 _) (by decide) rfl ?_
            refine g_goto B 22 dX6_fewestMore_93 (by decide) ?_
            exact ih hlt _ _ _ (by rw [fwF, ← hx]; simp only [fwQ, bI_inj, *, and_true, true_and, and_false, false_and, and_self, ↓reduceIte, zero_shl, Int32.or_zero, bI_t, bI_f, decide_true, decide_false, Bool.and_true, Bool.true_and, Bool.and_false, Bool.false_and, Bool.not_true, Bool.not_false, Bool.false_eq_true, not_true_eq_false, not_false_eq_true])
          · refine g_aload_n B dX6_fewestMore_62 rfl ?_
            refine g_getr B ci_X6 (by first | rfl | assumption) rfl (by decide) fl_X6_10 dX6_fewestMore_63 ?_
            refine g_aload_n B dX6_fewestMore_66 rfl ?_
            refine g_getr B ci_X6 (by first | rfl | assumption) rfl (by decide) fl_X6_10 dX6_fewestMore_67 ?_
            refine g_geti B ci_X3 (by first | rfl | assumption) rfl (by decide) fl_X6_104 dX6_fewestMore_70 ?_
            refine g_iload B dX6_fewestMore_73 rfl ?_
            refine g_ior B dX6_fewestMore_75 ?_
            refine g_callVI B (cs_X3_endStands hn hn8 _) (by first | rfl | assumption) rfl ml_X6_175 mm_X3_endStands rfl rfl (Nat.le_of_ble_eq_true rfl) dX6_fewestMore_76 (by decide) ?_
            rintro _ _ ⟨rfl, rfl⟩
            refine g_iload_n B dX6_fewestMore_79 rfl ?_
            refine g_icmp_ne B 90 dX6_fewestMore_80 (by decide) (fun h80 => ?_) (fun h80 => ?_)
            · rw [bI_inj] at h80
              refine g_inc5 B dX6_fewestMore_90 rfl (inc1 _) (by decide) rfl ?_
              refine g_goto B 22 dX6_fewestMore_93 (by decide) ?_
              exact ih hlt _ _ _ (by rw [fwF, ← hx]; simp only [fwQ, bI_inj, *, and_true, true_and, and_false, false_and, and_self, ↓reduceIte, zero_shl, Int32.or_zero, bI_t, bI_f, decide_true, decide_false, Bool.and_true, Bool.true_and, Bool.and_false, Bool.false_and, Bool.not_true, Bool.not_false, Bool.false_eq_true, not_true_eq_false, not_false_eq_true])
            · rw [bI_inj] at h80
              refine g_iload B dX6_fewestMore_83 rfl ?_
              refine g_istn3 B dX6_fewestMore_85 (by decide) rfl ?_
              refine g_iload B dX6_fewestMore_86 rfl ?_
              refine g_ist4 B dX6_fewestMore_88 (by decide) rfl ?_
              refine g_inc5 B dX6_fewestMore_90 rfl (inc1 _) (by decide) rfl ?_
              refine g_goto B 22 dX6_fewestMore_93 (by decide) ?_
              exact ih hlt _ _ _ (by rw [fwF, ← hx]; simp only [fwQ, bI_inj, *, and_true, true_and, and_false, false_and, and_self, ↓reduceIte, zero_shl, Int32.or_zero, bI_t, bI_f, decide_true, decide_false, Bool.and_true, Bool.true_and, Bool.and_false, Bool.false_and, Bool.not_true, Bool.not_false, Bool.false_eq_true, not_true_eq_false, not_false_eq_true])
    exact L22 0 (Nat.zero_le _) _ _ _ rfl
  · have hz : n = 0 := (nI_eq (by omega) (by decide)).mp (by rw [← hn]; exact h7)
    refine g_bipush B (v := (-4)) dX6_fewestMore_10 (by decide) ?_
    exact g_iret B E rfl dX6_fewestMore_12 ⟨by rw [if_pos hz], rfl⟩
set_option maxHeartbeats 4000000 in
set_option maxRecDepth 100000 in
theorem ct_X7_fewest {I : Wo} {n : Nat} (hn : I 57 2 = nI n) (hn8 : n ≤ 8) (he : cOK n (I 58 25) = decide (0 < n)) (z : Bool) (what : Int32) : Ct yX7_fewest cX7_fewest 7 (some .int) 3 65 [.ref 57, .int (bI z), .int what] I (pI (fun r u => r = (if wi what 0 1 then (if n = 0 then -4 else (if (fwF n (I 58) (fun c => I 58 (8 + c)) (I 58 25) (I 58 24) z (1000000, -4) (2 ^ n)).2 = -4 then -4 else if what = 0 then (fwF n (I 58) (fun c => I 58 (8 + c)) (I 58 25) (I 58 24) z (1000000, -4) (2 ^ n)).1 else (fwF n (I 58) (fun c => I 58 (8 + c)) (I 58 25) (I 58 24) z (1000000, -4) (2 ^ n)).2)) else -1) ∧ I = u)) := by
  refine ct_of RX7 rfl (by decide) (Nat.le_of_ble_eq_true rfl) (fun X B E => ?_)
  show GW X 7 0 [some (.ref 57), some (.int (bI z)), some (.int what), none, none, none, none] [] _
  refine g_iload_n B dX7_fewest_0 rfl ?_
  refine g_callSI B (ct_X7_isPart _) ml_X7_196 mm_X7_isPart rfl rfl (Nat.le_of_ble_eq_true rfl) dX7_fewest_1 (by decide) ?_
  rintro _ _ ⟨rfl, rfl⟩
  refine g_if_ne B 9 dX7_fewest_4 (by decide) (fun h4 => ?_) (fun h4 => ?_)
  · rw [bI_ne0] at h4
    refine g_ldc B dX7_fewest_9 cn_X7_199 ?_
    refine g_istn3 B dX7_fewest_11 (by decide) rfl ?_
    refine g_bipush B (v := (-4)) dX7_fewest_12 (by decide) ?_
    refine g_ist4 B dX7_fewest_14 (by decide) rfl ?_
    refine g_iconst B (v := 0) dX7_fewest_16 (by decide) ?_
    refine g_ist5 B dX7_fewest_17 (by decide) rfl ?_
    have h256 := pow8 hn8
    have L19 : ∀ i, i ≤ 2 ^ n → ∀ x y q, (n = 0 → i = 0) → (x, y) = fwF n (I 58) (fun c => I 58 (8 + c)) (I 58 25) (I 58 24) z (1000000, -4) i → GW X 7 19 [some (.ref 57), some (.int (bI z)), some (.int what), some (.int x), some (.int y), some (.int (nI i)), q] [] I := by
      refine loopN (2 ^ n) (fun i hi ih x y q h0 hx => ?_)
      refine g_iload B dX7_fewest_19 rfl ?_
      refine g_aload_n B dX7_fewest_21 rfl ?_
      refine g_callVI B (ct_X7_every hn hn8) (by first | rfl | assumption) rfl ml_X7_191 mm_X7_every rfl rfl (Nat.le_of_ble_eq_true rfl) dX7_fewest_22 (by decide) ?_
      rintro _ _ ⟨rfl, rfl⟩
      refine g_icmp_gt B 117 dX7_fewest_25 (by decide) (fun h25 => ?_) (fun h25 => ?_)
      · have hi2 : i = 2 ^ n := ev_out hn8 hi h25
        refine g_iload B dX7_fewest_117 rfl ?_
        refine g_bipush B (v := (-4)) dX7_fewest_119 (by decide) ?_
        refine g_icmp_ne B 129 dX7_fewest_121 (by decide) (fun h121 => ?_) (fun h121 => ?_)
        · refine g_iload_n B dX7_fewest_129 rfl ?_
          refine g_if_ne B 137 dX7_fewest_130 (by decide) (fun h130 => ?_) (fun h130 => ?_)
          · refine g_iload B dX7_fewest_137 rfl ?_
            exact g_iret B E rfl dX7_fewest_139 (fw_end (f := fwF n (I 58) (fun c => I 58 (8 + c)) (I 58 25) (I 58 24) z (1000000, -4)) rfl h4 hx (by first | exact Or.inr ⟨hz, hi0⟩ | exact Or.inl ⟨hi2, fun q => by have := h0 q; subst q; omega⟩) (by simp only [h121, ↓reduceIte]; try simp only [h130, ↓reduceIte]))
          · refine g_iload_n B dX7_fewest_133 rfl ?_
            refine g_goto B 139 dX7_fewest_134 (by decide) ?_
            exact g_iret B E rfl dX7_fewest_139 (fw_end (f := fwF n (I 58) (fun c => I 58 (8 + c)) (I 58 25) (I 58 24) z (1000000, -4)) rfl h4 hx (by first | exact Or.inr ⟨hz, hi0⟩ | exact Or.inl ⟨hi2, fun q => by have := h0 q; subst q; omega⟩) (by simp only [h121, ↓reduceIte]; try simp only [h130, ↓reduceIte]))
        · refine g_bipush B (v := (-4)) dX7_fewest_124 (by decide) ?_
          refine g_goto B 139 dX7_fewest_126 (by decide) ?_
          exact g_iret B E rfl dX7_fewest_139 (fw_end (f := fwF n (I 58) (fun c => I 58 (8 + c)) (I 58 25) (I 58 24) z (1000000, -4)) rfl h4 hx (by first | exact Or.inr ⟨hz, hi0⟩ | exact Or.inl ⟨hi2, fun q => by have := h0 q; subst q; omega⟩) (by simp only [h121, ↓reduceIte]; try simp only [h130, ↓reduceIte]))
      · have hlt : i < 2 ^ n := ev_in hn8 hi h25
        refine g_aload_n B dX7_fewest_28 rfl ?_
        refine g_geti B ci_X7 (by first | rfl | assumption) rfl (by decide) fl_X7_72 dX7_fewest_29 ?_
        refine g_if_le B 117 dX7_fewest_32 (by decide) (fun h32 => ?_) (fun h32 => ?_)
        · have hz : n = 0 := by have := le_le (a := n) (b := 0) (by omega) (by decide) (by rw [← hn]; exact h32); omega
          have hi0 : i = 0 := by rw [hz] at hlt; omega
          refine g_iload B dX7_fewest_117 rfl ?_
          refine g_bipush B (v := (-4)) dX7_fewest_119 (by decide) ?_
          refine g_icmp_ne B 129 dX7_fewest_121 (by decide) (fun h121 => ?_) (fun h121 => ?_)
          · refine g_iload_n B dX7_fewest_129 rfl ?_
            refine g_if_ne B 137 dX7_fewest_130 (by decide) (fun h130 => ?_) (fun h130 => ?_)
            · refine g_iload B dX7_fewest_137 rfl ?_
              exact g_iret B E rfl dX7_fewest_139 (fw_end (f := fwF n (I 58) (fun c => I 58 (8 + c)) (I 58 25) (I 58 24) z (1000000, -4)) rfl h4 hx (by first | exact Or.inr ⟨hz, hi0⟩ | exact Or.inl ⟨hi2, fun q => by have := h0 q; subst q; omega⟩) (by simp only [h121, ↓reduceIte]; try simp only [h130, ↓reduceIte]))
            · refine g_iload_n B dX7_fewest_133 rfl ?_
              refine g_goto B 139 dX7_fewest_134 (by decide) ?_
              exact g_iret B E rfl dX7_fewest_139 (fw_end (f := fwF n (I 58) (fun c => I 58 (8 + c)) (I 58 25) (I 58 24) z (1000000, -4)) rfl h4 hx (by first | exact Or.inr ⟨hz, hi0⟩ | exact Or.inl ⟨hi2, fun q => by have := h0 q; subst q; omega⟩) (by simp only [h121, ↓reduceIte]; try simp only [h130, ↓reduceIte]))
          · refine g_bipush B (v := (-4)) dX7_fewest_124 (by decide) ?_
            refine g_goto B 139 dX7_fewest_126 (by decide) ?_
            exact g_iret B E rfl dX7_fewest_139 (fw_end (f := fwF n (I 58) (fun c => I 58 (8 + c)) (I 58 25) (I 58 24) z (1000000, -4)) rfl h4 hx (by first | exact Or.inr ⟨hz, hi0⟩ | exact Or.inl ⟨hi2, fun q => by have := h0 q; subst q; omega⟩) (by simp only [h121, ↓reduceIte]; try simp only [h130, ↓reduceIte]))
        · have hz : 0 < n := nle_lt (a := n) (b := 0) (by omega) (by decide) (by rw [← hn]; exact h32)
          refine g_iload B dX7_fewest_35 rfl ?_
          refine g_aload_n B dX7_fewest_37 rfl ?_
          refine g_getr B ci_X7 (by first | rfl | assumption) rfl (by decide) fl_X7_7 dX7_fewest_38 ?_
          refine g_bipush B (v := 24) dX7_fewest_41 (by decide) ?_
          refine g_iald B (by first | rfl | assumption) 24 (lit_nI 24) (by first | decide | omega | assumption) (by decide) dX7_fewest_43 ?_
          refine g_iand B dX7_fewest_44 ?_
          refine g_if_ne B 79 dX7_fewest_45 (by decide) (fun h45 => ?_) (fun h45 => ?_)
          · refine g_iconst B (v := 0) dX7_fewest_79 (by decide) ?_
            refine g_ist6 B dX7_fewest_80 (by decide) rfl ?_
            refine g_iload B dX7_fewest_82 rfl ?_
            refine g_if_eq B 92 dX7_fewest_84 (by decide) (fun h84 => ?_) (fun h84 => ?_)
            · refine g_iload B dX7_fewest_92 rfl ?_
              refine g_ist4 B dX7_fewest_94 (by decide) rfl ?_
              refine g_iload B dX7_fewest_96 rfl ?_
              refine g_if_eq B 109 dX7_fewest_98 (by decide) (fun h98 => ?_) (fun h98 => ?_)
              · refine g_iload_n B dX7_fewest_109 rfl ?_
                refine g_istn3 B dX7_fewest_110 (by decide) rfl ?_
                refine g_inc5 B dX7_fewest_111 rfl (inc1 _) (by decide) rfl ?_
                refine g_goto B 19 dX7_fewest_114 (by decide) ?_
                exact ih hlt _ _ _ (fun q => absurd q (by omega)) (by rw [fwF, ← hx]; simp only [fwQ, bI_inj, *, and_true, true_and, and_false, false_and, and_self, ↓reduceIte, zero_shl, Int32.or_zero, bI_t, bI_f, decide_true, decide_false, Bool.and_true, Bool.true_and, Bool.and_false, Bool.false_and, Bool.not_true, Bool.not_false, Bool.false_eq_true, not_true_eq_false, not_false_eq_true])
              · exact absurd rfl h98
            · exact absurd rfl h84
          · refine g_iload B dX7_fewest_48 rfl ?_
            refine g_callSI B (ct_X7_bitsOf _) ml_X7_179 mm_X7_bitsOf rfl rfl (Nat.le_of_ble_eq_true rfl) dX7_fewest_50 (by decide) ?_
            rintro _ _ ⟨rfl, rfl⟩
            refine g_iload_n B dX7_fewest_53 rfl ?_
            refine g_icmp_ge B 79 dX7_fewest_54 (by decide) (fun h54 => ?_) (fun h54 => ?_)
            · refine g_iconst B (v := 0) dX7_fewest_79 (by decide) ?_
              refine g_ist6 B dX7_fewest_80 (by decide) rfl ?_
              refine g_iload B dX7_fewest_82 rfl ?_
              refine g_if_eq B 92 dX7_fewest_84 (by decide) (fun h84 => ?_) (fun h84 => ?_)
              · refine g_iload B dX7_fewest_92 rfl ?_
                refine g_ist4 B dX7_fewest_94 (by decide) rfl ?_
                refine g_iload B dX7_fewest_96 rfl ?_
                refine g_if_eq B 109 dX7_fewest_98 (by decide) (fun h98 => ?_) (fun h98 => ?_)
                · refine g_iload_n B dX7_fewest_109 rfl ?_
                  refine g_istn3 B dX7_fewest_110 (by decide) rfl ?_
                  refine g_inc5 B dX7_fewest_111 rfl (inc1 _) (by decide) rfl ?_
                  refine g_goto B 19 dX7_fewest_114 (by decide) ?_
                  exact ih hlt _ _ _ (fun q => absurd q (by omega)) (by rw [fwF, ← hx]; simp only [fwQ, bI_inj, *, and_true, true_and, and_false, false_and, and_self, ↓reduceIte, zero_shl, Int32.or_zero, bI_t, bI_f, decide_true, decide_false, Bool.and_true, Bool.true_and, Bool.and_false, Bool.false_and, Bool.not_true, Bool.not_false, Bool.false_eq_true, not_true_eq_false, not_false_eq_true])
                · exact absurd rfl h98
              · exact absurd rfl h84
            · refine g_aload_n B dX7_fewest_57 rfl ?_
              refine g_aload_n B dX7_fewest_58 rfl ?_
              refine g_getr B ci_X7 (by first | rfl | assumption) rfl (by decide) fl_X7_7 dX7_fewest_59 ?_
              refine g_bipush B (v := 24) dX7_fewest_62 (by decide) ?_
              refine g_iald B (by first | rfl | assumption) 24 (lit_nI 24) (by first | decide | omega | assumption) (by decide) dX7_fewest_64 ?_
              refine g_iload B dX7_fewest_65 rfl ?_
              refine g_ior B dX7_fewest_67 ?_
              refine g_callVI B (ct_X7_endStands hn hn8 he _) (by first | rfl | assumption) rfl ml_X7_200 mm_X7_endStands rfl rfl (Nat.le_of_ble_eq_true rfl) dX7_fewest_68 (by decide) ?_
              rintro _ _ ⟨rfl, rfl⟩
              refine g_iload_n B dX7_fewest_71 rfl ?_
              refine g_icmp_ne B 79 dX7_fewest_72 (by decide) (fun h72 => ?_) (fun h72 => ?_)
              · rw [bI_inj] at h72
                refine g_iconst B (v := 0) dX7_fewest_79 (by decide) ?_
                refine g_ist6 B dX7_fewest_80 (by decide) rfl ?_
                refine g_iload B dX7_fewest_82 rfl ?_
                refine g_if_eq B 92 dX7_fewest_84 (by decide) (fun h84 => ?_) (fun h84 => ?_)
                · refine g_iload B dX7_fewest_92 rfl ?_
                  refine g_ist4 B dX7_fewest_94 (by decide) rfl ?_
                  refine g_iload B dX7_fewest_96 rfl ?_
                  refine g_if_eq B 109 dX7_fewest_98 (by decide) (fun h98 => ?_) (fun h98 => ?_)
                  · refine g_iload_n B dX7_fewest_109 rfl ?_
                    refine g_istn3 B dX7_fewest_110 (by decide) rfl ?_
                    refine g_inc5 B dX7_fewest_111 rfl (inc1 _) (by decide) rfl ?_
                    refine g_goto B 19 dX7_fewest_114 (by decide) ?_
                    exact ih hlt _ _ _ (fun q => absurd q (by omega)) (by rw [fwF, ← hx]; simp only [fwQ, bI_inj, *, and_true, true_and, and_false, false_and, and_self, ↓reduceIte, zero_shl, Int32.or_zero, bI_t, bI_f, decide_true, decide_false, Bool.and_true, Bool.true_and, Bool.and_false, Bool.false_and, Bool.not_true, Bool.not_false, Bool.false_eq_true, not_true_eq_false, not_false_eq_true])
                  · exact absurd rfl h98
                · exact absurd rfl h84
              · rw [bI_inj] at h72
                refine g_iconst B (v := 1) dX7_fewest_75 (by decide) ?_
                refine g_goto B 80 dX7_fewest_76 (by decide) ?_
                refine g_ist6 B dX7_fewest_80 (by decide) rfl ?_
                refine g_iload B dX7_fewest_82 rfl ?_
                refine g_if_eq B 92 dX7_fewest_84 (by decide) (fun h84 => ?_) (fun h84 => ?_)
                · exact absurd h84 (by decide)
                · refine g_iload B dX7_fewest_87 rfl ?_
                  refine g_goto B 94 dX7_fewest_89 (by decide) ?_
                  refine g_ist4 B dX7_fewest_94 (by decide) rfl ?_
                  refine g_iload B dX7_fewest_96 rfl ?_
                  refine g_if_eq B 109 dX7_fewest_98 (by decide) (fun h98 => ?_) (fun h98 => ?_)
                  · exact absurd h98 (by decide)
                  · refine g_iload B dX7_fewest_101 rfl ?_
                    refine g_callSI B (ct_X7_bitsOf _) ml_X7_179 mm_X7_bitsOf rfl rfl (Nat.le_of_ble_eq_true rfl) dX7_fewest_103 (by decide) ?_
                    rintro _ _ ⟨rfl, rfl⟩
                    refine g_goto B 110 dX7_fewest_106 (by decide) ?_
                    refine g_istn3 B dX7_fewest_110 (by decide) rfl ?_
                    refine g_inc5 B dX7_fewest_111 rfl (inc1 _) (by decide) rfl ?_
                    refine g_goto B 19 dX7_fewest_114 (by decide) ?_
                    exact ih hlt _ _ _ (fun q => absurd q (by omega)) (by rw [fwF, ← hx]; simp only [fwQ, bI_inj, *, and_true, true_and, and_false, false_and, and_self, ↓reduceIte, zero_shl, Int32.or_zero, bI_t, bI_f, decide_true, decide_false, Bool.and_true, Bool.true_and, Bool.and_false, Bool.false_and, Bool.not_true, Bool.not_false, Bool.false_eq_true, not_true_eq_false, not_false_eq_true])
    exact L19 0 (Nat.zero_le _) _ _ _ (fun _ => rfl) rfl
  · rw [bI_eq0] at h4
    refine g_iconst B (v := (-1)) dX7_fewest_7 (by decide) ?_
    exact g_iret B E rfl dX7_fewest_8 ⟨by simp [*], rfl⟩
set_option maxHeartbeats 4000000 in
set_option maxRecDepth 100000 in
theorem ct_X6_few {I : Wo} {n : Nat} (hn : I 1 9 = nI n) (hn8 : n ≤ 8) (what : Int32) : Ct yX6_few cX6_few 2 (some .int) 3 71 [.ref 0, .int what] I (pI (fun r u => r = (if wi what 0 1 then (if n = 0 then -4 else (if 8 < (fwF n (I 6) (I 7) (I 1 10) (I 1 12) true (9, 0) (2 ^ n)).1 then -4 else if what = 0 then (fwF n (I 6) (I 7) (I 1 10) (I 1 12) true (9, 0) (2 ^ n)).1 else (fwF n (I 6) (I 7) (I 1 10) (I 1 12) true (9, 0) (2 ^ n)).2)) else -1) ∧ I = u)) := by
  refine ct_of RX6 rfl (by decide) (Nat.le_of_ble_eq_true rfl) (fun X B E => ?_)
  show GW X 2 0 [some (.ref 0), some (.int what)] [] _
  refine g_iload_n B dX6_few_0 rfl ?_
  refine g_iconst B (v := 0) dX6_few_1 (by decide) ?_
  refine g_iconst B (v := 1) dX6_few_2 (by decide) ?_
  refine g_callSI B (ct_X6_within _ _ _) ml_X6_66 mm_X6_within rfl rfl (Nat.le_of_ble_eq_true rfl) dX6_few_3 (by decide) ?_
  rintro _ _ ⟨rfl, rfl⟩
  refine g_if_eq B 18 dX6_few_6 (by decide) (fun h6 => ?_) (fun h6 => ?_)
  · rw [bI_eq0] at h6
    refine g_iconst B (v := (-1)) dX6_few_18 (by decide) ?_
    exact g_iret B E rfl dX6_few_19 (by first | exact ⟨by rw [if_pos h6], rfl⟩ | exact ⟨by simp [*], rfl⟩)
  · rw [bI_ne0] at h6
    refine g_aload_n B dX6_few_9 rfl ?_
    refine g_iconst B (v := 1) dX6_few_10 (by decide) ?_
    refine g_iload_n B dX6_few_11 rfl ?_
    refine g_callVI B (ct_X6_fewestMore hn hn8 true _) (by first | rfl | assumption) rfl ml_X6_166 mm_X6_fewestMore rfl rfl (Nat.le_of_ble_eq_true rfl) dX6_few_12 (by decide) ?_
    rintro _ _ ⟨rfl, rfl⟩
    refine g_goto B 19 dX6_few_15 (by decide) ?_
    exact g_iret B E rfl dX6_few_19 (by first | exact ⟨by rw [if_pos h6], rfl⟩ | exact ⟨by simp [*], rfl⟩)
set_option maxHeartbeats 4000000 in
set_option maxRecDepth 100000 in
theorem ct_X6_foil {I : Wo} {n : Nat} (hn : I 1 9 = nI n) (hn8 : n ≤ 8) (what : Int32) : Ct yX6_foil cX6_foil 2 (some .int) 3 71 [.ref 0, .int what] I (pI (fun r u => r = (if wi what 0 1 then (if n = 0 then -4 else (if 8 < (fwF n (I 6) (I 7) (I 1 10) (I 1 12) false (9, 0) (2 ^ n)).1 then -4 else if what = 0 then (fwF n (I 6) (I 7) (I 1 10) (I 1 12) false (9, 0) (2 ^ n)).1 else (fwF n (I 6) (I 7) (I 1 10) (I 1 12) false (9, 0) (2 ^ n)).2)) else -1) ∧ I = u)) := by
  refine ct_of RX6 rfl (by decide) (Nat.le_of_ble_eq_true rfl) (fun X B E => ?_)
  show GW X 2 0 [some (.ref 0), some (.int what)] [] _
  refine g_iload_n B dX6_foil_0 rfl ?_
  refine g_iconst B (v := 0) dX6_foil_1 (by decide) ?_
  refine g_iconst B (v := 1) dX6_foil_2 (by decide) ?_
  refine g_callSI B (ct_X6_within _ _ _) ml_X6_66 mm_X6_within rfl rfl (Nat.le_of_ble_eq_true rfl) dX6_foil_3 (by decide) ?_
  rintro _ _ ⟨rfl, rfl⟩
  refine g_if_eq B 18 dX6_foil_6 (by decide) (fun h6 => ?_) (fun h6 => ?_)
  · rw [bI_eq0] at h6
    refine g_iconst B (v := (-1)) dX6_foil_18 (by decide) ?_
    exact g_iret B E rfl dX6_foil_19 (by first | exact ⟨by rw [if_pos h6], rfl⟩ | exact ⟨by simp [*], rfl⟩)
  · rw [bI_ne0] at h6
    refine g_aload_n B dX6_foil_9 rfl ?_
    refine g_iconst B (v := 0) dX6_foil_10 (by decide) ?_
    refine g_iload_n B dX6_foil_11 rfl ?_
    refine g_callVI B (ct_X6_fewestMore hn hn8 false _) (by first | rfl | assumption) rfl ml_X6_166 mm_X6_fewestMore rfl rfl (Nat.le_of_ble_eq_true rfl) dX6_foil_12 (by decide) ?_
    rintro _ _ ⟨rfl, rfl⟩
    refine g_goto B 19 dX6_foil_15 (by decide) ?_
    exact g_iret B E rfl dX6_foil_19 (by first | exact ⟨by rw [if_pos h6], rfl⟩ | exact ⟨by simp [*], rfl⟩)
set_option maxHeartbeats 4000000 in
set_option maxRecDepth 100000 in
theorem ct_X7_few {I : Wo} {n : Nat} (hn : I 57 2 = nI n) (hn8 : n ≤ 8) (he : cOK n (I 58 25) = decide (0 < n)) (what : Int32) : Ct yX7_few cX7_few 2 (some .int) 4 91 [.ref 57, .int what] I (pI (fun r u => r = (if wi what 0 1 then (if n = 0 then -4 else (if (fwF n (I 58) (fun c => I 58 (8 + c)) (I 58 25) (I 58 24) true (1000000, -4) (2 ^ n)).2 = -4 then -4 else if what = 0 then (fwF n (I 58) (fun c => I 58 (8 + c)) (I 58 25) (I 58 24) true (1000000, -4) (2 ^ n)).1 else (fwF n (I 58) (fun c => I 58 (8 + c)) (I 58 25) (I 58 24) true (1000000, -4) (2 ^ n)).2)) else -1) ∧ I = u)) := by
  refine ct_of RX7 rfl (by decide) (Nat.le_of_ble_eq_true rfl) (fun X B E => ?_)
  show GW X 2 0 [some (.ref 57), some (.int what)] [] _
  refine g_aload_n B dX7_few_0 rfl ?_
  refine g_iconst B (v := 1) dX7_few_1 (by decide) ?_
  refine g_iload_n B dX7_few_2 rfl ?_
  refine g_callVI B (ct_X7_fewest hn hn8 he true _) (by first | rfl | assumption) rfl ml_X7_203 mm_X7_fewest rfl rfl (Nat.le_of_ble_eq_true rfl) dX7_few_3 (by decide) ?_
  rintro _ _ ⟨rfl, rfl⟩
  exact g_iret B E rfl dX7_few_6 ⟨rfl, rfl⟩
set_option maxHeartbeats 4000000 in
set_option maxRecDepth 100000 in
theorem ct_X7_foil {I : Wo} {n : Nat} (hn : I 57 2 = nI n) (hn8 : n ≤ 8) (he : cOK n (I 58 25) = decide (0 < n)) (what : Int32) : Ct yX7_foil cX7_foil 2 (some .int) 4 91 [.ref 57, .int what] I (pI (fun r u => r = (if wi what 0 1 then (if n = 0 then -4 else (if (fwF n (I 58) (fun c => I 58 (8 + c)) (I 58 25) (I 58 24) false (1000000, -4) (2 ^ n)).2 = -4 then -4 else if what = 0 then (fwF n (I 58) (fun c => I 58 (8 + c)) (I 58 25) (I 58 24) false (1000000, -4) (2 ^ n)).1 else (fwF n (I 58) (fun c => I 58 (8 + c)) (I 58 25) (I 58 24) false (1000000, -4) (2 ^ n)).2)) else -1) ∧ I = u)) := by
  refine ct_of RX7 rfl (by decide) (Nat.le_of_ble_eq_true rfl) (fun X B E => ?_)
  show GW X 2 0 [some (.ref 57), some (.int what)] [] _
  refine g_aload_n B dX7_foil_0 rfl ?_
  refine g_iconst B (v := 0) dX7_foil_1 (by decide) ?_
  refine g_iload_n B dX7_foil_2 rfl ?_
  refine g_callVI B (ct_X7_fewest hn hn8 he false _) (by first | rfl | assumption) rfl ml_X7_203 mm_X7_fewest rfl rfl (Nat.le_of_ble_eq_true rfl) dX7_foil_3 (by decide) ?_
  rintro _ _ ⟨rfl, rfl⟩
  exact g_iret B E rfl dX7_foil_6 ⟨rfl, rfl⟩
set_option maxHeartbeats 4000000 in
set_option maxRecDepth 100000 in
theorem ct_X6_see {I : Wo} {n q : Nat} (hn : I 1 9 = nI n) (hn8 : n ≤ 8) (hq : I 1 14 = nI q) (hq6 : q ≤ 6) (s : Int32) (z : Bool) : Ct yX6_see cX6_see 3 (some .int) 1 23 [.ref 0, .int s, .int (bI z)] I (pI (fun r u => r = (if cOK (2 ^ n) s then (if q < 6 then nI (q + 1) else -3) else -1) ∧ u = (if cOK (2 ^ n) s && decide (q < 6) then w2 (w2 (w2 I 9 q s) 1 8 (if z then I 1 8 ||| ((1 : Int32) <<< (nI q &&& 31)) else I 1 8 &&& (((1 : Int32) <<< (nI q &&& 31)) ^^^ (-1)))) 1 14 (nI (q + 1)) else I))) := by
  refine ct_of RX6 rfl (by decide) (Nat.le_of_ble_eq_true rfl) (fun X B E => ?_)
  show GW X 3 0 [some (.ref 0), some (.int s), some (.int (bI z))] [] _
  refine g_aload_n B dX6_see_0 rfl ?_
  refine g_getr B ci_X6 (by first | rfl | assumption) rfl (by decide) fl_X6_10 dX6_see_1 ?_
  refine g_iload_n B dX6_see_4 rfl ?_
  refine g_callVI B (cs_X3_hasSet hn hn8 _) (by first | rfl | assumption) rfl ml_X6_157 mm_X3_hasSet rfl rfl (Nat.le_of_ble_eq_true rfl) dX6_see_5 (by decide) ?_
  rintro _ _ ⟨rfl, rfl⟩
  refine g_if_ne B 13 dX6_see_8 (by decide) (fun h8 => ?_) (fun h8 => ?_)
  · rw [bI_ne0] at h8
    refine g_aload_n B dX6_see_13 rfl ?_
    refine g_getr B ci_X6 (by first | rfl | assumption) rfl (by decide) fl_X6_10 dX6_see_14 ?_
    refine g_iload_n B dX6_see_17 rfl ?_
    refine g_iload_n B dX6_see_18 rfl ?_
    refine g_callVI B (cs_X3_addSeen hq hq6 _ _) (by first | rfl | assumption) rfl ml_X6_219 mm_X3_addSeen rfl rfl (Nat.le_of_ble_eq_true rfl) dX6_see_19 (by decide) ?_
    rintro _ _ (⟨hlt, rfl, rfl⟩ | ⟨hge, rfl, rfl⟩)
    · refine g_if_eq B 35 dX6_see_22 (by decide) (fun h22 => ?_) (fun h22 => ?_)
      · refine g_bipush B (v := (-3)) dX6_see_35 (by decide) ?_
        exact g_iret B E rfl dX6_see_37 (by first | exact absurd h22 (by decide) | exact absurd rfl h22 | exact ⟨by simp [*, w2], by simp [*]⟩)
      · refine g_aload_n B dX6_see_25 rfl ?_
        refine g_getr B ci_X6 (by first | rfl | assumption) rfl (by decide) fl_X6_10 dX6_see_26 ?_
        refine g_geti B ci_X3 (by first | rfl | assumption) rfl (by decide) fl_X6_223 dX6_see_29 ?_
        refine g_goto B 37 dX6_see_32 (by decide) ?_
        exact g_iret B E rfl dX6_see_37 (by first | exact absurd h22 (by decide) | exact absurd rfl h22 | exact ⟨by simp [*, w2], by simp [*]⟩)
    · refine g_if_eq B 35 dX6_see_22 (by decide) (fun h22 => ?_) (fun h22 => ?_)
      · refine g_bipush B (v := (-3)) dX6_see_35 (by decide) ?_
        exact g_iret B E rfl dX6_see_37 (by first | exact absurd h22 (by decide) | exact absurd rfl h22 | exact ⟨by simp [*, w2], by simp [*]⟩)
      · refine g_aload_n B dX6_see_25 rfl ?_
        refine g_getr B ci_X6 (by first | rfl | assumption) rfl (by decide) fl_X6_10 dX6_see_26 ?_
        refine g_geti B ci_X3 (by first | rfl | assumption) rfl (by decide) fl_X6_223 dX6_see_29 ?_
        refine g_goto B 37 dX6_see_32 (by decide) ?_
        exact g_iret B E rfl dX6_see_37 (by first | exact absurd h22 (by decide) | exact absurd rfl h22 | exact ⟨by simp [*, w2], by simp [*]⟩)
  · rw [bI_eq0] at h8
    refine g_iconst B (v := (-1)) dX6_see_11 (by decide) ?_
    exact g_iret B E rfl dX6_see_12 (by first | exact absurd h22 (by decide) | exact absurd rfl h22 | exact ⟨by simp [*, w2], by simp [*]⟩)
set_option maxHeartbeats 4000000 in
set_option maxRecDepth 100000 in
theorem ct_X7_see {I : Wo} {n q : Nat} (hn : I 57 2 = nI n) (hn8 : n ≤ 8) (hq : I 58 34 = nI q) (hq6 : q ≤ 6) (s : Int32) (z : Bool) : Ct yX7_see cX7_see 3 (some .int) 1 25 [.ref 57, .int s, .int (bI z)] I (pI (fun r u => r = (if cOK (2 ^ n) s then (if q < 6 then nI (q + 1) else -3) else -1) ∧ u = (if cOK (2 ^ n) s && decide (q < 6) then w2 (w2 (w2 I 58 (35 + 2 * q) s) 58 (36 + 2 * q) (bI z)) 58 34 (nI (q + 1)) else I))) := by
  refine ct_of RX7 rfl (by decide) (Nat.le_of_ble_eq_true rfl) (fun X B E => ?_)
  show GW X 3 0 [some (.ref 57), some (.int s), some (.int (bI z))] [] _
  refine g_iload_n B dX7_see_0 rfl ?_
  refine g_i2l B dX7_see_1 ?_
  refine g_lconst B (v := 0) dX7_see_2 (by decide) ?_
  refine g_aload_n B dX7_see_3 rfl ?_
  refine g_callVI B (ct_X7_every hn hn8) (by first | rfl | assumption) rfl ml_X7_191 mm_X7_every rfl rfl (Nat.le_of_ble_eq_true rfl) dX7_see_4 (by decide) ?_
  rintro _ _ ⟨rfl, rfl⟩
  refine g_i2l B dX7_see_7 ?_
  refine g_callSI B (ct_in _ 0 (nI (2 ^ n) - 1) rfl (by decide) rfl) ml_X7_77 mm_X7_in rfl rfl (Nat.le_of_ble_eq_true rfl) dX7_see_8 (by decide) ?_
  rintro _ _ ⟨rfl, rfl⟩
  refine g_if_ne B 16 dX7_see_11 (by decide) (fun h11 => ?_) (fun h11 => ?_)
  · rw [bI_ne0] at h11
    rw [sOK_pred hn8] at h11
    refine g_aload_n B dX7_see_16 rfl ?_
    refine g_getr B ci_X7 (by first | rfl | assumption) rfl (by decide) fl_X7_7 dX7_see_17 ?_
    refine g_bipush B (v := 34) dX7_see_20 (by decide) ?_
    refine g_iald B (by first | rfl | assumption) 34 (lit_nI 34) (by first | decide | omega | assumption) (by decide) dX7_see_22 ?_
    refine g_bipush B (v := 6) dX7_see_23 (by decide) ?_
    refine g_icmp_ne B 31 dX7_see_25 (by decide) (fun h25 => ?_) (fun h25 => ?_)
    · have hlt : q < 6 := ne6 hq6 (fun z => h25 (by rw [hq, z]; rfl))
      refine g_aload_n B dX7_see_31 rfl ?_
      refine g_getr B ci_X7 (by first | rfl | assumption) rfl (by decide) fl_X7_7 dX7_see_32 ?_
      refine g_bipush B (v := 35) dX7_see_35 (by decide) ?_
      refine g_iconst B (v := 2) dX7_see_37 (by decide) ?_
      refine g_aload_n B dX7_see_38 rfl ?_
      refine g_getr B ci_X7 (by first | rfl | assumption) rfl (by decide) fl_X7_7 dX7_see_39 ?_
      refine g_bipush B (v := 34) dX7_see_42 (by decide) ?_
      refine g_iald B (by first | rfl | assumption) 34 (lit_nI 34) (by first | decide | omega | assumption) (by decide) dX7_see_44 ?_
      refine g_imul B dX7_see_45 ?_
      refine g_iadd B dX7_see_46 ?_
      refine g_eqi (nI (35 + 2 * q)) (by rw [hq, show (2 : Int32) = nI 2 from rfl, pk_mul]; exact la_35 _) ?_
      refine g_iload_n B dX7_see_47 rfl ?_
      refine g_iast B (by first | rfl | assumption) (35 + 2 * q) rfl (by first | decide | omega | assumption) (by decide) dX7_see_48 ?_
      refine g_aload_n B dX7_see_49 rfl ?_
      refine g_getr B ci_X7 (by first | rfl | assumption) rfl (by decide) fl_X7_7 dX7_see_50 ?_
      refine g_bipush B (v := 35) dX7_see_53 (by decide) ?_
      refine g_iconst B (v := 2) dX7_see_55 (by decide) ?_
      refine g_aload_n B dX7_see_56 rfl ?_
      refine g_getr B ci_X7 (by first | rfl | assumption) rfl (by decide) fl_X7_7 dX7_see_57 ?_
      refine g_bipush B (v := 34) dX7_see_60 (by decide) ?_
      refine g_iald B (by first | rfl | assumption) 34 (lit_nI 34) (by first | decide | omega | assumption) (by decide) dX7_see_62 ?_
      refine g_imul B dX7_see_63 ?_
      refine g_iadd B dX7_see_64 ?_
      refine g_iconst B (v := 1) dX7_see_65 (by decide) ?_
      refine g_iadd B dX7_see_66 ?_
      refine g_eqi (nI (36 + 2 * q)) (by rw [w2_slot _ _ (by omega), hq, show (2 : Int32) = nI 2 from rfl, pk_mul, la_35, nI_1, show 35 + 2 * q + 1 = 36 + 2 * q by omega]) ?_
      refine g_iload_n B dX7_see_67 rfl ?_
      refine g_callSI B (ct_X7_flag _) ml_X7_164 mm_X7_flag rfl rfl (Nat.le_of_ble_eq_true rfl) dX7_see_68 (by decide) ?_
      rintro _ _ ⟨rfl, rfl⟩
      refine g_iast B (by first | rfl | assumption) (36 + 2 * q) rfl (by first | decide | omega | assumption) (by decide) dX7_see_71 ?_
      refine g_aload_n B dX7_see_72 rfl ?_
      refine g_getr B ci_X7 (by first | rfl | assumption) rfl (by decide) fl_X7_7 dX7_see_73 ?_
      refine g_bipush B (v := 34) dX7_see_76 (by decide) ?_
      refine g_dup2 B dX7_see_78 rfl rfl ?_
      refine g_iald B (by first | rfl | assumption) 34 (lit_nI 34) (by first | decide | omega | assumption) (by decide) dX7_see_79 ?_
      refine g_iconst B (v := 1) dX7_see_80 (by decide) ?_
      refine g_iadd B dX7_see_81 ?_
      refine g_eqi (nI (q + 1)) (by rw [w2_slot _ _ (by omega), w2_slot _ _ (by omega), hq]; exact nI_1 q) ?_
      refine g_iast B (by first | rfl | assumption) 34 (lit_nI 34) (by first | decide | omega | assumption) (by decide) dX7_see_82 ?_
      refine g_aload_n B dX7_see_83 rfl ?_
      refine g_getr B ci_X7 (by first | rfl | assumption) rfl (by decide) fl_X7_7 dX7_see_84 ?_
      refine g_bipush B (v := 34) dX7_see_87 (by decide) ?_
      refine g_iald B (by first | rfl | assumption) 34 (lit_nI 34) (by first | decide | omega | assumption) (by decide) dX7_see_89 ?_
      exact g_iret B E rfl dX7_see_90 ⟨by simp [*, w2], by simp [*]⟩
    · have hge : q = 6 := (nI_eq (by omega) (by decide)).mp (by rw [← hq]; exact h25)
      refine g_bipush B (v := (-3)) dX7_see_28 (by decide) ?_
      exact g_iret B E rfl dX7_see_30 ⟨by simp [*], by simp [*]⟩
  · rw [bI_eq0] at h11
    rw [sOK_pred hn8] at h11
    refine g_iconst B (v := (-1)) dX7_see_14 (by decide) ?_
    exact g_iret B E rfl dX7_see_15 ⟨by simp [*], by simp [*]⟩
set_option maxHeartbeats 4000000 in
set_option maxRecDepth 100000 in
theorem ct_X6_forget {I : Wo} {q : Nat} (hq : I 1 14 = nI q) (i : Int32) : Ct yX6_forget cX6_forget 3 (some .int) 1 22 [.ref 0, .int i] I (pI (fun r u => r = (if wi i 0 (nI q) then nI q else -1) ∧ u = (if wi i 0 (nI q) then w2 I 1 14 i else I))) := by
  refine ct_of RX6 rfl (by decide) (Nat.le_of_ble_eq_true rfl) (fun X B E => ?_)
  show GW X 3 0 [some (.ref 0), some (.int i), none] [] _
  refine g_iload_n B dX6_forget_0 rfl ?_
  refine g_iconst B (v := 0) dX6_forget_1 (by decide) ?_
  refine g_aload_n B dX6_forget_2 rfl ?_
  refine g_getr B ci_X6 (by first | rfl | assumption) rfl (by decide) fl_X6_10 dX6_forget_3 ?_
  refine g_geti B ci_X3 (by first | rfl | assumption) rfl (by decide) fl_X6_223 dX6_forget_6 ?_
  refine g_callSI B (ct_X6_within _ _ _) ml_X6_66 mm_X6_within rfl rfl (Nat.le_of_ble_eq_true rfl) dX6_forget_9 (by decide) ?_
  rintro _ _ ⟨rfl, rfl⟩
  refine g_if_ne B 17 dX6_forget_12 (by decide) (fun h12 => ?_) (fun h12 => ?_)
  · rw [bI_ne0] at h12
    rw [hq] at h12
    refine g_aload_n B dX6_forget_17 rfl ?_
    refine g_getr B ci_X6 (by first | rfl | assumption) rfl (by decide) fl_X6_10 dX6_forget_18 ?_
    refine g_geti B ci_X3 (by first | rfl | assumption) rfl (by decide) fl_X6_223 dX6_forget_21 ?_
    refine g_istn2 B dX6_forget_24 (by decide) rfl ?_
    refine g_aload_n B dX6_forget_25 rfl ?_
    refine g_getr B ci_X6 (by first | rfl | assumption) rfl (by decide) fl_X6_10 dX6_forget_26 ?_
    refine g_iload_n B dX6_forget_29 rfl ?_
    refine g_put B ci_X3 (by first | rfl | assumption) rfl (by decide) fl_X6_223 rfl rfl rfl dX6_forget_30 ?_
    refine g_iload_n B dX6_forget_33 rfl ?_
    exact g_iret B E rfl dX6_forget_34 ⟨by simp [*], by simp [*]⟩
  · rw [bI_eq0] at h12
    rw [hq] at h12
    refine g_iconst B (v := (-1)) dX6_forget_15 (by decide) ?_
    exact g_iret B E rfl dX6_forget_16 ⟨by simp [*], by simp [*]⟩
set_option maxHeartbeats 4000000 in
set_option maxRecDepth 100000 in
theorem ct_X7_forget {I : Wo} {q : Nat} (hq : I 58 34 = nI q) (i : Int32) : Ct yX7_forget cX7_forget 2 (some .int) 1 25 [.ref 57, .int i] I (pI (fun r u => r = (if wi i 0 (nI q) then nI q else -1) ∧ u = (if wi i 0 (nI q) then w2 I 58 34 i else I))) := by
  refine ct_of RX7 rfl (by decide) (Nat.le_of_ble_eq_true rfl) (fun X B E => ?_)
  show GW X 2 0 [some (.ref 57), some (.int i)] [] _
  refine g_iload_n B dX7_forget_0 rfl ?_
  refine g_i2l B dX7_forget_1 ?_
  refine g_lconst B (v := 0) dX7_forget_2 (by decide) ?_
  refine g_aload_n B dX7_forget_3 rfl ?_
  refine g_getr B ci_X7 (by first | rfl | assumption) rfl (by decide) fl_X7_7 dX7_forget_4 ?_
  refine g_bipush B (v := 34) dX7_forget_7 (by decide) ?_
  refine g_iald B (by first | rfl | assumption) 34 (lit_nI 34) (by first | decide | omega | assumption) (by decide) dX7_forget_9 ?_
  refine g_i2l B dX7_forget_10 ?_
  refine g_callSI B (ct_in _ 0 (I 58 34) rfl (by decide) rfl) ml_X7_77 mm_X7_in rfl rfl (Nat.le_of_ble_eq_true rfl) dX7_forget_11 (by decide) ?_
  rintro _ _ ⟨rfl, rfl⟩
  refine g_if_eq B 27 dX7_forget_14 (by decide) (fun h14 => ?_) (fun h14 => ?_)
  · rw [bI_eq0] at h14
    rw [hq] at h14
    refine g_iconst B (v := (-1)) dX7_forget_27 (by decide) ?_
    exact g_iret B E rfl dX7_forget_28 ⟨by simp [*], by simp [*]⟩
  · rw [bI_ne0] at h14
    rw [hq] at h14
    refine g_aload_n B dX7_forget_17 rfl ?_
    refine g_bipush B (v := 34) dX7_forget_18 (by decide) ?_
    refine g_iload_n B dX7_forget_20 rfl ?_
    refine g_callVI B (ct_X7_becomes (k := 34) (by decide) _) (by first | rfl | assumption) rfl ml_X7_184 mm_X7_becomes rfl rfl (Nat.le_of_ble_eq_true rfl) dX7_forget_21 (by decide) ?_
    rintro _ _ ⟨rfl, rfl⟩
    refine g_goto B 28 dX7_forget_24 (by decide) ?_
    exact g_iret B E rfl dX7_forget_28 ⟨by simp [*], by simp [*]⟩
set_option maxHeartbeats 4000000 in
set_option maxRecDepth 100000 in
theorem ct_X6_drift {I : Wo} {n : Nat} (hn : I 1 9 = nI n) (hn8 : n ≤ 8) (seed m what : Int32) : Ct yX6_drift cX6_drift 8 (some .int) 2 45 [.ref 0, .int seed, .int m, .int what] I (pI (fun r u => r = (if wi m 1 60 && wi what 0 1 then (if n = 0 then -2 else (if what = 0 then (drF n (I 6) (I 7) (I 1 10) (I 1 12) seed m.toNatClampNeg).2.1 else stF (I 6) (I 7) (drF n (I 6) (I 7) (I 1 10) (I 1 12) seed m.toNatClampNeg).1 n)) else -1) ∧ I = u)) := by
  refine ct_of RX6 rfl (by decide) (Nat.le_of_ble_eq_true rfl) (fun X B E => ?_)
  show GW X 8 0 [some (.ref 0), some (.int seed), some (.int m), some (.int what), none, none, none, none] [] _
  refine g_iload_n B dX6_drift_0 rfl ?_
  refine g_iconst B (v := 1) dX6_drift_1 (by decide) ?_
  refine g_bipush B (v := 60) dX6_drift_2 (by decide) ?_
  refine g_callSI B (ct_X6_within _ _ _) ml_X6_66 mm_X6_within rfl rfl (Nat.le_of_ble_eq_true rfl) dX6_drift_4 (by decide) ?_
  rintro _ _ ⟨rfl, rfl⟩
  refine g_if_eq B 19 dX6_drift_7 (by decide) (fun h7 => ?_) (fun h7 => ?_)
  · rw [bI_eq0] at h7
    refine g_iconst B (v := (-1)) dX6_drift_19 (by decide) ?_
    exact g_iret B E rfl dX6_drift_20 ⟨by simp [*], rfl⟩
  · rw [bI_ne0] at h7
    refine g_iload_n B dX6_drift_10 rfl ?_
    refine g_iconst B (v := 0) dX6_drift_11 (by decide) ?_
    refine g_iconst B (v := 1) dX6_drift_12 (by decide) ?_
    refine g_callSI B (ct_X6_within _ _ _) ml_X6_66 mm_X6_within rfl rfl (Nat.le_of_ble_eq_true rfl) dX6_drift_13 (by decide) ?_
    rintro _ _ ⟨rfl, rfl⟩
    refine g_if_ne B 21 dX6_drift_16 (by decide) (fun h16 => ?_) (fun h16 => ?_)
    · rw [bI_ne0] at h16
      obtain ⟨m, hm1, hm2, rfl⟩ := wi_1_60 h7
      refine g_aload_n B dX6_drift_21 rfl ?_
      refine g_getr B ci_X6 (by first | rfl | assumption) rfl (by decide) fl_X6_10 dX6_drift_22 ?_
      refine g_geti B ci_X3 (by first | rfl | assumption) rfl (by decide) fl_X6_95 dX6_drift_25 ?_
      refine g_if_ne B 34 dX6_drift_28 (by decide) (fun h28 => ?_) (fun h28 => ?_)
      · have hz : ¬ n = 0 := fun q => h28 (by rw [hn, q]; rfl)
        have hzi : ¬ I 1 9 = 0 := h28
        refine g_aload_n B dX6_drift_34 rfl ?_
        refine g_getr B ci_X6 (by first | rfl | assumption) rfl (by decide) fl_X6_10 dX6_drift_35 ?_
        refine g_geti B ci_X3 (by first | rfl | assumption) rfl (by decide) fl_X6_104 dX6_drift_38 ?_
        refine g_ist4 B dX6_drift_41 (by decide) rfl ?_
        refine g_iconst B (v := 0) dX6_drift_43 (by decide) ?_
        refine g_ist5 B dX6_drift_44 (by decide) rfl ?_
        refine g_iload_n B dX6_drift_46 rfl ?_
        refine g_ist6 B dX6_drift_47 (by decide) rfl ?_
        refine g_iconst B (v := 0) dX6_drift_49 (by decide) ?_
        refine g_ist7 B dX6_drift_50 (by decide) rfl ?_
        have L52 : ∀ i, i ≤ m → ∀ x y v, (x, y, v) = drF n (I 6) (I 7) (I 1 10) (I 1 12) seed i → GW X 8 52 [some (.ref 0), some (.int seed), some (.int (nI m)), some (.int what), some (.int x), some (.int y), some (.int v), some (.int (nI i))] [] I := by
          refine loopN (m) (fun i hi ih x y v hx => ?_)
          refine g_iload B dX6_drift_52 rfl ?_
          refine g_iload_n B dX6_drift_54 rfl ?_
          refine g_icmp_ge B 116 dX6_drift_55 (by decide) (fun h55 => ?_) (fun h55 => ?_)
          · have hi2 : i = m := by have := le_le (a := m) (b := i) (by omega) (by omega) h55; omega
            refine g_iload_n B dX6_drift_116 rfl ?_
            refine g_if_ne B 125 dX6_drift_117 (by decide) (fun h117 => ?_) (fun h117 => ?_)
            · refine g_aload_n B dX6_drift_125 rfl ?_
              refine g_getr B ci_X6 (by first | rfl | assumption) rfl (by decide) fl_X6_10 dX6_drift_126 ?_
              refine g_iload B dX6_drift_129 rfl ?_
              refine g_callVI B (cs_X3_standing hn hn8 _) (by first | rfl | assumption) rfl ml_X6_107 mm_X3_standing rfl rfl (Nat.le_of_ble_eq_true rfl) dX6_drift_131 (by decide) ?_
              rintro _ _ ⟨rfl, rfl⟩
              exact g_iret B E rfl dX6_drift_134 (dr_end (f := drF n (I 6) (I 7) (I 1 10) (I 1 12) seed) hm2 hz h7 h16 hx hi2 (by simp only [h117, ↓reduceIte]))
            · refine g_iload B dX6_drift_120 rfl ?_
              refine g_goto B 134 dX6_drift_122 (by decide) ?_
              exact g_iret B E rfl dX6_drift_134 (dr_end (f := drF n (I 6) (I 7) (I 1 10) (I 1 12) seed) hm2 hz h7 h16 hx hi2 (by simp only [h117, ↓reduceIte]))
          · have hlt : i < m := nle_lt (by omega) (by omega) h55
            refine g_iload B dX6_drift_58 rfl ?_
            refine g_ldc B dX6_drift_60 cn_X6_244 ?_
            refine g_imul B dX6_drift_62 ?_
            refine g_sipush B (v := 12345) dX6_drift_63 (by decide) ?_
            refine g_iadd B dX6_drift_66 ?_
            refine g_ist6 B dX6_drift_67 (by decide) rfl ?_
            refine g_iload B dX6_drift_69 rfl ?_
            refine g_iconst B (v := 1) dX6_drift_71 (by decide) ?_
            refine g_iload B dX6_drift_72 rfl ?_
            refine g_bipush B (v := 16) dX6_drift_74 (by decide) ?_
            refine g_iushr B dX6_drift_76 ?_
            refine g_sipush B (v := 32767) dX6_drift_77 (by decide) ?_
            refine g_iand B dX6_drift_80 ?_
            rw [ushr_16]
            refine g_aload_n B dX6_drift_81 rfl ?_
            refine g_getr B ci_X6 (by first | rfl | assumption) rfl (by decide) fl_X6_10 dX6_drift_82 ?_
            refine g_geti B ci_X3 (by first | rfl | assumption) rfl (by decide) fl_X6_95 dX6_drift_85 ?_
            rw [hn]
            refine g_irem B dX6_drift_88 (by rw [← hn]; exact hzi) ?_
            refine g_ishl B dX6_drift_89 ?_
            refine g_ixor B dX6_drift_90 ?_
            refine g_ist4 B dX6_drift_91 (by decide) rfl ?_
            refine g_iload B dX6_drift_93 rfl ?_
            refine g_aload_n B dX6_drift_95 rfl ?_
            refine g_getr B ci_X6 (by first | rfl | assumption) rfl (by decide) fl_X6_10 dX6_drift_96 ?_
            refine g_iload B dX6_drift_99 rfl ?_
            refine g_callVI B (cs_X3_endStands hn hn8 _) (by first | rfl | assumption) rfl ml_X6_175 mm_X3_endStands rfl rfl (Nat.le_of_ble_eq_true rfl) dX6_drift_101 (by decide) ?_
            rintro _ _ ⟨rfl, rfl⟩
            refine g_callSI B (ct_X6_oneIf _) ml_X6_178 mm_X6_oneIf rfl rfl (Nat.le_of_ble_eq_true rfl) dX6_drift_104 (by decide) ?_
            rintro _ _ ⟨rfl, rfl⟩
            refine g_iadd B dX6_drift_107 ?_
            refine g_ist5 B dX6_drift_108 (by decide) rfl ?_
            refine g_inc7 B dX6_drift_110 rfl (inc1 _) (by decide) rfl ?_
            refine g_goto B 52 dX6_drift_113 (by decide) ?_
            exact ih hlt _ _ _ (by rw [drF, ← hx])
        exact L52 0 (Nat.zero_le _) _ _ _ rfl
      · have hz : n = 0 := (nI_eq (by omega) (by decide)).mp (by rw [← hn]; exact h28)
        refine g_bipush B (v := (-2)) dX6_drift_31 (by decide) ?_
        exact g_iret B E rfl dX6_drift_33 ⟨by simp [*], rfl⟩
    · rw [bI_eq0] at h16
      refine g_iconst B (v := (-1)) dX6_drift_19 (by decide) ?_
      exact g_iret B E rfl dX6_drift_20 ⟨by simp [*], rfl⟩
set_option maxHeartbeats 4000000 in
set_option maxRecDepth 100000 in
theorem ct_X7_drift {I : Wo} {n : Nat} (hn : I 57 2 = nI n) (hn8 : n ≤ 8) (he : cOK n (I 58 25) = decide (0 < n)) (seed m what : Int32) : Ct yX7_drift cX7_drift 8 (some .int) 3 65 [.ref 57, .int seed, .int m, .int what] I (pI (fun r u => r = (if wi m 1 60 && wi what 0 1 then (if n = 0 then -2 else (if what = 0 then (drF n (I 58) (fun c => I 58 (8 + c)) (I 58 25) (I 58 24) seed m.toNatClampNeg).2.1 else stF (I 58) (fun c => I 58 (8 + c)) (drF n (I 58) (fun c => I 58 (8 + c)) (I 58 25) (I 58 24) seed m.toNatClampNeg).1 n)) else -1) ∧ I = u)) := by
  refine ct_of RX7 rfl (by decide) (Nat.le_of_ble_eq_true rfl) (fun X B E => ?_)
  show GW X 8 0 [some (.ref 57), some (.int seed), some (.int m), some (.int what), none, none, none, none] [] _
  refine g_iload_n B dX7_drift_0 rfl ?_
  refine g_i2l B dX7_drift_1 ?_
  refine g_lconst B (v := 1) dX7_drift_2 (by decide) ?_
  refine g_ldc2 B dX7_drift_3 cn_X7_243 ?_
  refine g_callSI B (ct_in _ 1 60 rfl (by decide) (by decide)) ml_X7_77 mm_X7_in rfl rfl (Nat.le_of_ble_eq_true rfl) dX7_drift_6 (by decide) ?_
  rintro _ _ ⟨rfl, rfl⟩
  refine g_if_eq B 19 dX7_drift_9 (by decide) (fun h9 => ?_) (fun h9 => ?_)
  · rw [bI_eq0] at h9
    refine g_iconst B (v := (-1)) dX7_drift_19 (by decide) ?_
    exact g_iret B E rfl dX7_drift_20 ⟨by simp [*], rfl⟩
  · rw [bI_ne0] at h9
    refine g_iload_n B dX7_drift_12 rfl ?_
    refine g_callSI B (ct_X7_isPart _) ml_X7_196 mm_X7_isPart rfl rfl (Nat.le_of_ble_eq_true rfl) dX7_drift_13 (by decide) ?_
    rintro _ _ ⟨rfl, rfl⟩
    refine g_if_ne B 21 dX7_drift_16 (by decide) (fun h16 => ?_) (fun h16 => ?_)
    · rw [bI_ne0] at h16
      obtain ⟨m, hm1, hm2, rfl⟩ := wi_1_60 h9
      refine g_aload_n B dX7_drift_21 rfl ?_
      refine g_geti B ci_X7 (by first | rfl | assumption) rfl (by decide) fl_X7_72 dX7_drift_22 ?_
      refine g_if_ne B 31 dX7_drift_25 (by decide) (fun h25 => ?_) (fun h25 => ?_)
      · have hz : ¬ n = 0 := fun q => h25 (by rw [hn, q]; rfl)
        have hzi : ¬ I 57 2 = 0 := h25
        refine g_aload_n B dX7_drift_31 rfl ?_
        refine g_getr B ci_X7 (by first | rfl | assumption) rfl (by decide) fl_X7_7 dX7_drift_32 ?_
        refine g_bipush B (v := 24) dX7_drift_35 (by decide) ?_
        refine g_iald B (by first | rfl | assumption) 24 (lit_nI 24) (by first | decide | omega | assumption) (by decide) dX7_drift_37 ?_
        refine g_ist4 B dX7_drift_38 (by decide) rfl ?_
        refine g_iconst B (v := 0) dX7_drift_40 (by decide) ?_
        refine g_ist5 B dX7_drift_41 (by decide) rfl ?_
        refine g_iload_n B dX7_drift_43 rfl ?_
        refine g_ist6 B dX7_drift_44 (by decide) rfl ?_
        refine g_iconst B (v := 0) dX7_drift_46 (by decide) ?_
        refine g_ist7 B dX7_drift_47 (by decide) rfl ?_
        have L49 : ∀ i, i ≤ m → ∀ x y v, (x, y, v) = drF n (I 58) (fun c => I 58 (8 + c)) (I 58 25) (I 58 24) seed i → GW X 8 49 [some (.ref 57), some (.int seed), some (.int (nI m)), some (.int what), some (.int x), some (.int y), some (.int v), some (.int (nI i))] [] I := by
          refine loopN (m) (fun i hi ih x y v hx => ?_)
          refine g_iload B dX7_drift_49 rfl ?_
          refine g_iload_n B dX7_drift_51 rfl ?_
          refine g_icmp_ge B 107 dX7_drift_52 (by decide) (fun h52 => ?_) (fun h52 => ?_)
          · have hi2 : i = m := by have := le_le (a := m) (b := i) (by omega) (by omega) h52; omega
            refine g_iload_n B dX7_drift_107 rfl ?_
            refine g_if_ne B 116 dX7_drift_108 (by decide) (fun h108 => ?_) (fun h108 => ?_)
            · refine g_aload_n B dX7_drift_116 rfl ?_
              refine g_iload B dX7_drift_117 rfl ?_
              refine g_callVI B (ct_X7_standing hn hn8 _) (by first | rfl | assumption) rfl ml_X7_168 mm_X7_standing rfl rfl (Nat.le_of_ble_eq_true rfl) dX7_drift_119 (by decide) ?_
              rintro _ _ ⟨rfl, rfl⟩
              exact g_iret B E rfl dX7_drift_122 (dr_end (f := drF n (I 58) (fun c => I 58 (8 + c)) (I 58 25) (I 58 24) seed) hm2 hz h9 h16 hx hi2 (by simp only [h108, ↓reduceIte]))
            · refine g_iload B dX7_drift_111 rfl ?_
              refine g_goto B 122 dX7_drift_113 (by decide) ?_
              exact g_iret B E rfl dX7_drift_122 (dr_end (f := drF n (I 58) (fun c => I 58 (8 + c)) (I 58 25) (I 58 24) seed) hm2 hz h9 h16 hx hi2 (by simp only [h108, ↓reduceIte]))
          · have hlt : i < m := nle_lt (by omega) (by omega) h52
            refine g_iload B dX7_drift_55 rfl ?_
            refine g_ldc B dX7_drift_57 cn_X7_245 ?_
            refine g_imul B dX7_drift_59 ?_
            refine g_sipush B (v := 12345) dX7_drift_60 (by decide) ?_
            refine g_iadd B dX7_drift_63 ?_
            refine g_ist6 B dX7_drift_64 (by decide) rfl ?_
            refine g_iload B dX7_drift_66 rfl ?_
            refine g_iconst B (v := 1) dX7_drift_68 (by decide) ?_
            refine g_iload B dX7_drift_69 rfl ?_
            refine g_bipush B (v := 16) dX7_drift_71 (by decide) ?_
            refine g_ishr B dX7_drift_73 ?_
            refine g_sipush B (v := 32767) dX7_drift_74 (by decide) ?_
            refine g_iand B dX7_drift_77 ?_
            refine g_aload_n B dX7_drift_78 rfl ?_
            refine g_geti B ci_X7 (by first | rfl | assumption) rfl (by decide) fl_X7_72 dX7_drift_79 ?_
            rw [hn]
            refine g_irem B dX7_drift_82 (by rw [← hn]; exact hzi) ?_
            refine g_ishl B dX7_drift_83 ?_
            refine g_ixor B dX7_drift_84 ?_
            refine g_ist4 B dX7_drift_85 (by decide) rfl ?_
            refine g_iload B dX7_drift_87 rfl ?_
            refine g_aload_n B dX7_drift_89 rfl ?_
            refine g_iload B dX7_drift_90 rfl ?_
            refine g_callVI B (ct_X7_endStands hn hn8 he _) (by first | rfl | assumption) rfl ml_X7_200 mm_X7_endStands rfl rfl (Nat.le_of_ble_eq_true rfl) dX7_drift_92 (by decide) ?_
            rintro _ _ ⟨rfl, rfl⟩
            refine g_callSI B (ct_X7_flag _) ml_X7_164 mm_X7_flag rfl rfl (Nat.le_of_ble_eq_true rfl) dX7_drift_95 (by decide) ?_
            rintro _ _ ⟨rfl, rfl⟩
            refine g_iadd B dX7_drift_98 ?_
            refine g_ist5 B dX7_drift_99 (by decide) rfl ?_
            refine g_inc7 B dX7_drift_101 rfl (inc1 _) (by decide) rfl ?_
            refine g_goto B 49 dX7_drift_104 (by decide) ?_
            exact ih hlt _ _ _ (by rw [drF, ← hx])
        exact L49 0 (Nat.zero_le _) _ _ _ rfl
      · have hz : n = 0 := (nI_eq (by omega) (by decide)).mp (by rw [← hn]; exact h25)
        refine g_bipush B (v := (-2)) dX7_drift_28 (by decide) ?_
        exact g_iret B E rfl dX7_drift_30 ⟨by simp [*], rfl⟩
    · rw [bI_eq0] at h16
      refine g_iconst B (v := (-1)) dX7_drift_19 (by decide) ?_
      exact g_iret B E rfl dX7_drift_20 ⟨by simp [*], rfl⟩

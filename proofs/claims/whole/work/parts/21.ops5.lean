/-- the plan said day by day: what is said, the first lost, how many are lost -/
def trQ (fl : Nat → Bool) (day : Int32) (pl fr to : Nat → Int32) (s : Int32) (i : Nat) : Bool := !fl i && inT (fr (pl i).toNatClampNeg) (to (pl i).toNatClampNeg) (day + nI i) && decide ((s >>> (pl i &&& 31)) &&& 1 = 0)
def trF (fl : Nat → Bool) (day : Int32) (pl fr to : Nat → Int32) (s0 : Int32) : Nat → Int32 × Int32 × Int32
  | 0 => (s0, -4, 0)
  | i + 1 => if trQ fl day pl fr to (trF fl day pl fr to s0 i).1 i then ((trF fl day pl fr to s0 i).1 ||| ((1 : Int32) <<< (pl i &&& 31)), (trF fl day pl fr to s0 i).2) else ((trF fl day pl fr to s0 i).1, if (trF fl day pl fr to s0 i).2.2 = 0 then nI i else (trF fl day pl fr to s0 i).2.1, (trF fl day pl fr to s0 i).2.2 + 1)
theorem trF_inv (fl : Nat → Bool) (day : Int32) (pl fr to : Nat → Int32) (s0 : Int32) : ∀ i, i ≤ 6 → ((trF fl day pl fr to s0 i).2.2 = 0 ↔ (trF fl day pl fr to s0 i).2.1 = -4) ∧ ∃ l, l ≤ i ∧ (trF fl day pl fr to s0 i).2.2 = nI l
  | 0, _ => ⟨by simp [trF], 0, Nat.le_refl _, rfl⟩
  | i + 1, h => by
    obtain ⟨h1, l, hl, e⟩ := trF_inv fl day pl fr to s0 i (by omega)
    rw [trF]
    split
    · exact ⟨h1, l, by omega, e⟩
    · refine ⟨?_, l + 1, by omega, by show (trF fl day pl fr to s0 i).2.2 + 1 = _; rw [e, nI_1]⟩
      show (trF fl day pl fr to s0 i).2.2 + 1 = 0 ↔ (if (trF fl day pl fr to s0 i).2.2 = 0 then nI i else (trF fl day pl fr to s0 i).2.1) = -4
      rw [e, nI_1]
      have a1 : ¬ nI (l + 1) = 0 := nI_ne0 (by omega) (by omega)
      have a2 : ¬ nI i = -4 := fun z => nI_pos (n := i) (by omega) (by rw [z]; decide)
      by_cases hz : nI l = 0
      · rw [if_pos hz]; exact ⟨fun z => absurd z a1, fun z => absurd z a2⟩
      · rw [if_neg hz]; rw [e] at h1; exact ⟨fun z => absurd z a1, fun z => absurd (h1.mpr z) hz⟩
theorem tr_late {fl : Nat → Bool} {pl fr to : Nat → Int32} {day s : Int32} {n p i dd : Nat} (hto : ∀ c, c < n → Bd (to c) 10) (hp : p < n) (hdd : day = nI dd) (hpe : pl i = nI p) (h : 9 < nI dd + nI i) (hn : n ≤ 8 := by omega) : trQ fl day pl fr to s i = false := by
  obtain ⟨k, hk, e⟩ := hto p hp
  have hcl : (nI p).toNatClampNeg = p := nI_clamp (by omega)
  have : to p < day + nI i := by
    rw [hdd, e]
    rw [fa_lt9] at h ⊢
    rw [nI_toInt (by omega)]
    rw [show (9 : Int32).toInt = 9 from rfl] at h
    omega
  simp [trQ, inT, hpe, hcl, this]
theorem trF_congr {fl fl' : Nat → Bool} {day : Int32} {pl pl' fr fr' to to' : Nat → Int32} {s0 : Int32} {n : Nat} (hn : n ≤ 8) : ∀ {q : Nat}, (∀ i, i < q → fl i = fl' i) → (∀ i, i < q → pl i = pl' i ∧ Bd (pl' i) n) → (∀ c, c < n → fr c = fr' c ∧ to c = to' c) → trF fl day pl fr to s0 q = trF fl' day pl' fr' to' s0 q
  | 0, _, _, _ => rfl
  | q + 1, h1, h2, h3 => by
    obtain ⟨e1, p, hp, e2⟩ := h2 q (by omega)
    have hcl : (nI p).toNatClampNeg = p := nI_clamp (by omega)
    rw [trF, trF, trF_congr hn (fun i hi => h1 i (by omega)) (fun i hi => h2 i (by omega)) h3]
    simp only [trQ, h1 q (by omega), e1, e2, hcl, (h3 p hp).1, (h3 p hp).2]
set_option maxHeartbeats 4000000 in
set_option maxRecDepth 100000 in
theorem ct_X5_hold {I : Wo} {n q : Nat} (hn8 : n ≤ 8) (hq : I 1 13 = nI q) (hq6 : q ≤ 6) (hpl : ∀ i, i < q → Bd (I 8 i) n) (fl : Int32) : Ct yX5_hold cX5_hold 6 none 1 22 [.ref 50, .ref 1, .int fl] I (pV (fun u => (u 50 0, u 50 1, u 50 2) = trF (fun i => decide ((fl >>> (nI i &&& 31)) &&& 1 = 1)) (I 1 11) (I 8) (I 3) (I 4) (I 1 12) q ∧ ∀ x y, x ≠ 50 → u x y = I x y)) := by
  refine ct_of RX5 rfl (by decide) (Nat.le_of_ble_eq_true rfl) (fun X B E => ?_)
  show GW X 6 0 [some (.ref 50), some (.ref 1), some (.int fl), none, none, none] [] _
  refine g_aload_n B dX5_hold_0 rfl ?_
  refine g_aload_n B dX5_hold_1 rfl ?_
  refine g_geti B ci_X3 (by first | rfl | assumption) rfl (by decide) fl_X5_9 dX5_hold_2 ?_
  refine g_put B ci_X5 (by first | rfl | assumption) rfl (by decide) fl_X5_15 rfl rfl rfl dX5_hold_5 ?_
  refine g_aload_n B dX5_hold_8 rfl ?_
  refine g_bipush B (v := (-4)) dX5_hold_9 (by decide) ?_
  refine g_put B ci_X5 (by first | rfl | assumption) rfl (by decide) fl_X5_18 rfl rfl rfl dX5_hold_11 ?_
  refine g_aload_n B dX5_hold_14 rfl ?_
  refine g_iconst B (v := 0) dX5_hold_15 (by decide) ?_
  refine g_put B ci_X5 (by first | rfl | assumption) rfl (by decide) fl_X5_21 rfl rfl rfl dX5_hold_16 ?_
  refine g_iconst B (v := 0) dX5_hold_19 (by decide) ?_
  refine g_istn3 B dX5_hold_20 (by decide) rfl ?_
  have L : ∀ i, i ≤ q → ∀ (W : Wo) p4 p5, (W 50 0, W 50 1, W 50 2) = trF (fun i => decide ((fl >>> (nI i &&& 31)) &&& 1 = 1)) (I 1 11) (I 8) (I 3) (I 4) (I 1 12) i → (∀ x y, x ≠ 50 → W x y = I x y) → GW X 6 21 [some (.ref 50), some (.ref 1), some (.int fl), some (.int (nI i)), p4, p5] [] W := by
    refine loopN q (fun i hi ih W p4 p5 ht hW => ?_)
    refine g_iload_n B dX5_hold_21 rfl ?_
    refine g_aload_n B dX5_hold_22 rfl ?_
    refine g_geti B ci_X3 (by first | rfl | assumption) rfl (by decide) fl_X5_24 dX5_hold_23 ?_
    rw [hW 1 13 (by decide), hq]
    refine g_icmp_ge B 136 dX5_hold_26 (by decide) (fun h26 => ?_) (fun h26 => ?_)
    · have hi2 : i = q := by have := le_le (a := q) (b := i) (by omega) (by omega) h26; omega
      exact g_vret B E dX5_hold_136 ⟨by subst hi2; exact ht, hW⟩
    · have hlt : i < q := nle_lt (by omega) (by omega) h26
      refine g_aload_n B dX5_hold_29 rfl ?_
      refine g_getr B ci_X3 (by first | rfl | assumption) rfl (by decide) fl_X5_27 dX5_hold_30 ?_
      refine g_iload_n B dX5_hold_33 rfl ?_
      refine g_iald B (by first | rfl | assumption) _ (by first | with_reducible rfl | exact lit_add _ _ | exact add_lit _ _ | exact nI_add _ _ | exact lit_nI _ | assumption | rfl) (by first | decide | omega | assumption) (by decide) dX5_hold_34 ?_
      rw [hW 8 i (by decide)]
      obtain ⟨p, hp, hpe⟩ := hpl i hlt
      have hcl : (nI p).toNatClampNeg = p := nI_clamp (by omega)
      rw [hpe]
      refine g_ist4 B dX5_hold_35 (by decide) rfl ?_
      refine g_iload_n B dX5_hold_37 rfl ?_
      refine g_iload_n B dX5_hold_38 rfl ?_
      refine g_ishr B dX5_hold_39 ?_
      refine g_iconst B (v := 1) dX5_hold_40 (by decide) ?_
      refine g_iand B dX5_hold_41 ?_
      refine g_iconst B (v := 1) dX5_hold_42 (by decide) ?_
      refine g_icmp_ne B 50 dX5_hold_43 (by decide) (fun h43 => ?_) (fun h43 => ?_)
      · refine g_iconst B (v := 0) dX5_hold_50 (by decide) ?_
        refine g_ist5 B dX5_hold_51 (by decide) rfl ?_
        refine g_iload B dX5_hold_53 rfl ?_
        refine g_if_ne B 101 dX5_hold_55 (by decide) (fun h55 => ?_) (fun h55 => ?_)
        · exact absurd rfl h55
        · refine g_aload_n B dX5_hold_58 rfl ?_
          refine g_iload B dX5_hold_59 rfl ?_
          refine g_aload_n B dX5_hold_61 rfl ?_
          refine g_geti B ci_X3 (by first | rfl | assumption) rfl (by decide) fl_X5_31 dX5_hold_62 ?_
          rw [hW 1 11 (by decide)]
          refine g_iload_n B dX5_hold_65 rfl ?_
          refine g_iadd B dX5_hold_66 ?_
          refine g_callVI B (cs_X3_inTime (I := W) (c := p) (by omega) _) (by first | rfl | assumption) rfl ml_X5_34 mm_X3_inTime rfl rfl (Nat.le_of_ble_eq_true rfl) dX5_hold_67 (by decide) ?_
          rintro _ _ ⟨rfl, rfl⟩
          rw [hW 3 p (by decide), hW 4 p (by decide)]
          refine g_if_eq B 101 dX5_hold_70 (by decide) (fun h70 => ?_) (fun h70 => ?_)
          · rw [bI_eq0] at h70
            refine g_aload_n B dX5_hold_101 rfl ?_
            refine g_aload_n B dX5_hold_102 rfl ?_
            refine g_geti B ci_X5 (by first | rfl | assumption) rfl (by decide) fl_X5_21 dX5_hold_103 ?_
            refine g_if_ne B 113 dX5_hold_106 (by decide) (fun h106 => ?_) (fun h106 => ?_)
            · refine g_aload_n B dX5_hold_113 rfl ?_
              refine g_geti B ci_X5 (by first | rfl | assumption) rfl (by decide) fl_X5_18 dX5_hold_114 ?_
              refine g_put B ci_X5 (by first | rfl | assumption) rfl (by decide) fl_X5_18 rfl rfl rfl dX5_hold_117 ?_
              refine g_aload_n B dX5_hold_120 rfl ?_
              refine g_dup B dX5_hold_121 rfl ?_
              refine g_geti B ci_X5 (by first | rfl | assumption) rfl (by decide) fl_X5_21 dX5_hold_122 ?_
              refine g_iconst B (v := 1) dX5_hold_125 (by decide) ?_
              refine g_iadd B dX5_hold_126 ?_
              refine g_put B ci_X5 (by first | rfl | assumption) rfl (by decide) fl_X5_21 rfl rfl rfl dX5_hold_127 ?_
              refine g_inc3 B dX5_hold_130 rfl (inc1 _) (by decide) rfl ?_
              refine g_goto B 21 dX5_hold_133 (by decide) ?_
              exact ih hlt _ _ _ (by rw [trF, ← ht]; simp [trQ, w2, *]) (fun x y hx => by simp only [w2, hx, false_and, ↓reduceIte]; exact hW x y hx)
            · refine g_iload_n B dX5_hold_109 rfl ?_
              refine g_goto B 117 dX5_hold_110 (by decide) ?_
              refine g_put B ci_X5 (by first | rfl | assumption) rfl (by decide) fl_X5_18 rfl rfl rfl dX5_hold_117 ?_
              refine g_aload_n B dX5_hold_120 rfl ?_
              refine g_dup B dX5_hold_121 rfl ?_
              refine g_geti B ci_X5 (by first | rfl | assumption) rfl (by decide) fl_X5_21 dX5_hold_122 ?_
              refine g_iconst B (v := 1) dX5_hold_125 (by decide) ?_
              refine g_iadd B dX5_hold_126 ?_
              refine g_put B ci_X5 (by first | rfl | assumption) rfl (by decide) fl_X5_21 rfl rfl rfl dX5_hold_127 ?_
              refine g_inc3 B dX5_hold_130 rfl (inc1 _) (by decide) rfl ?_
              refine g_goto B 21 dX5_hold_133 (by decide) ?_
              exact ih hlt _ _ _ (by rw [trF, ← ht]; simp [trQ, w2, *]) (fun x y hx => by simp only [w2, hx, false_and, ↓reduceIte]; exact hW x y hx)
          · rw [bI_ne0] at h70
            refine g_aload_n B dX5_hold_73 rfl ?_
            refine g_geti B ci_X5 (by first | rfl | assumption) rfl (by decide) fl_X5_15 dX5_hold_74 ?_
            refine g_iload B dX5_hold_77 rfl ?_
            refine g_ishr B dX5_hold_79 ?_
            refine g_iconst B (v := 1) dX5_hold_80 (by decide) ?_
            refine g_iand B dX5_hold_81 ?_
            refine g_if_ne B 101 dX5_hold_82 (by decide) (fun h82 => ?_) (fun h82 => ?_)
            · refine g_aload_n B dX5_hold_101 rfl ?_
              refine g_aload_n B dX5_hold_102 rfl ?_
              refine g_geti B ci_X5 (by first | rfl | assumption) rfl (by decide) fl_X5_21 dX5_hold_103 ?_
              refine g_if_ne B 113 dX5_hold_106 (by decide) (fun h106 => ?_) (fun h106 => ?_)
              · refine g_aload_n B dX5_hold_113 rfl ?_
                refine g_geti B ci_X5 (by first | rfl | assumption) rfl (by decide) fl_X5_18 dX5_hold_114 ?_
                refine g_put B ci_X5 (by first | rfl | assumption) rfl (by decide) fl_X5_18 rfl rfl rfl dX5_hold_117 ?_
                refine g_aload_n B dX5_hold_120 rfl ?_
                refine g_dup B dX5_hold_121 rfl ?_
                refine g_geti B ci_X5 (by first | rfl | assumption) rfl (by decide) fl_X5_21 dX5_hold_122 ?_
                refine g_iconst B (v := 1) dX5_hold_125 (by decide) ?_
                refine g_iadd B dX5_hold_126 ?_
                refine g_put B ci_X5 (by first | rfl | assumption) rfl (by decide) fl_X5_21 rfl rfl rfl dX5_hold_127 ?_
                refine g_inc3 B dX5_hold_130 rfl (inc1 _) (by decide) rfl ?_
                refine g_goto B 21 dX5_hold_133 (by decide) ?_
                exact ih hlt _ _ _ (by rw [trF, ← ht]; simp [trQ, w2, *]) (fun x y hx => by simp only [w2, hx, false_and, ↓reduceIte]; exact hW x y hx)
              · refine g_iload_n B dX5_hold_109 rfl ?_
                refine g_goto B 117 dX5_hold_110 (by decide) ?_
                refine g_put B ci_X5 (by first | rfl | assumption) rfl (by decide) fl_X5_18 rfl rfl rfl dX5_hold_117 ?_
                refine g_aload_n B dX5_hold_120 rfl ?_
                refine g_dup B dX5_hold_121 rfl ?_
                refine g_geti B ci_X5 (by first | rfl | assumption) rfl (by decide) fl_X5_21 dX5_hold_122 ?_
                refine g_iconst B (v := 1) dX5_hold_125 (by decide) ?_
                refine g_iadd B dX5_hold_126 ?_
                refine g_put B ci_X5 (by first | rfl | assumption) rfl (by decide) fl_X5_21 rfl rfl rfl dX5_hold_127 ?_
                refine g_inc3 B dX5_hold_130 rfl (inc1 _) (by decide) rfl ?_
                refine g_goto B 21 dX5_hold_133 (by decide) ?_
                exact ih hlt _ _ _ (by rw [trF, ← ht]; simp [trQ, w2, *]) (fun x y hx => by simp only [w2, hx, false_and, ↓reduceIte]; exact hW x y hx)
            · refine g_aload_n B dX5_hold_85 rfl ?_
              refine g_dup B dX5_hold_86 rfl ?_
              refine g_geti B ci_X5 (by first | rfl | assumption) rfl (by decide) fl_X5_15 dX5_hold_87 ?_
              refine g_iconst B (v := 1) dX5_hold_90 (by decide) ?_
              refine g_iload B dX5_hold_91 rfl ?_
              refine g_ishl B dX5_hold_93 ?_
              refine g_ior B dX5_hold_94 ?_
              refine g_put B ci_X5 (by first | rfl | assumption) rfl (by decide) fl_X5_15 rfl rfl rfl dX5_hold_95 ?_
              refine g_goto B 130 dX5_hold_98 (by decide) ?_
              refine g_inc3 B dX5_hold_130 rfl (inc1 _) (by decide) rfl ?_
              refine g_goto B 21 dX5_hold_133 (by decide) ?_
              exact ih hlt _ _ _ (by rw [trF, ← ht]; simp [trQ, w2, *]) (fun x y hx => by simp only [w2, hx, false_and, ↓reduceIte]; exact hW x y hx)
      · refine g_iconst B (v := 1) dX5_hold_46 (by decide) ?_
        refine g_goto B 51 dX5_hold_47 (by decide) ?_
        refine g_ist5 B dX5_hold_51 (by decide) rfl ?_
        refine g_iload B dX5_hold_53 rfl ?_
        refine g_if_ne B 101 dX5_hold_55 (by decide) (fun h55 => ?_) (fun h55 => ?_)
        · refine g_aload_n B dX5_hold_101 rfl ?_
          refine g_aload_n B dX5_hold_102 rfl ?_
          refine g_geti B ci_X5 (by first | rfl | assumption) rfl (by decide) fl_X5_21 dX5_hold_103 ?_
          refine g_if_ne B 113 dX5_hold_106 (by decide) (fun h106 => ?_) (fun h106 => ?_)
          · refine g_aload_n B dX5_hold_113 rfl ?_
            refine g_geti B ci_X5 (by first | rfl | assumption) rfl (by decide) fl_X5_18 dX5_hold_114 ?_
            refine g_put B ci_X5 (by first | rfl | assumption) rfl (by decide) fl_X5_18 rfl rfl rfl dX5_hold_117 ?_
            refine g_aload_n B dX5_hold_120 rfl ?_
            refine g_dup B dX5_hold_121 rfl ?_
            refine g_geti B ci_X5 (by first | rfl | assumption) rfl (by decide) fl_X5_21 dX5_hold_122 ?_
            refine g_iconst B (v := 1) dX5_hold_125 (by decide) ?_
            refine g_iadd B dX5_hold_126 ?_
            refine g_put B ci_X5 (by first | rfl | assumption) rfl (by decide) fl_X5_21 rfl rfl rfl dX5_hold_127 ?_
            refine g_inc3 B dX5_hold_130 rfl (inc1 _) (by decide) rfl ?_
            refine g_goto B 21 dX5_hold_133 (by decide) ?_
            exact ih hlt _ _ _ (by rw [trF, ← ht]; simp [trQ, w2, *]) (fun x y hx => by simp only [w2, hx, false_and, ↓reduceIte]; exact hW x y hx)
          · refine g_iload_n B dX5_hold_109 rfl ?_
            refine g_goto B 117 dX5_hold_110 (by decide) ?_
            refine g_put B ci_X5 (by first | rfl | assumption) rfl (by decide) fl_X5_18 rfl rfl rfl dX5_hold_117 ?_
            refine g_aload_n B dX5_hold_120 rfl ?_
            refine g_dup B dX5_hold_121 rfl ?_
            refine g_geti B ci_X5 (by first | rfl | assumption) rfl (by decide) fl_X5_21 dX5_hold_122 ?_
            refine g_iconst B (v := 1) dX5_hold_125 (by decide) ?_
            refine g_iadd B dX5_hold_126 ?_
            refine g_put B ci_X5 (by first | rfl | assumption) rfl (by decide) fl_X5_21 rfl rfl rfl dX5_hold_127 ?_
            refine g_inc3 B dX5_hold_130 rfl (inc1 _) (by decide) rfl ?_
            refine g_goto B 21 dX5_hold_133 (by decide) ?_
            exact ih hlt _ _ _ (by rw [trF, ← ht]; simp [trQ, w2, *]) (fun x y hx => by simp only [w2, hx, false_and, ↓reduceIte]; exact hW x y hx)
        · exact absurd h55 (by decide)
  exact L 0 (Nat.zero_le _) _ _ _ (by simp [w2, trF]) (fun x y hx => by simp [w2, hx])
set_option maxHeartbeats 4000000 in
set_option maxRecDepth 100000 in
theorem ct_X7_tries {I : Wo} {n q dd : Nat} (hn8 : n ≤ 8) (hq : I 58 27 = nI q) (hq6 : q ≤ 6) (hpl : ∀ i, i < q → Bd (I 58 (28 + i)) n) (hto : ∀ c, c < n → Bd (I 62 c) 10) (hdd : I 58 26 = nI dd) (hd9 : dd ≤ 9) (fl : Int32) : Ct yX7_tries cX7_tries 7 (some .int) 2 47 [.ref 57, .int fl] I (pI (fun r u => (r, u 57 22, u 57 23) = trF (fun i => decide ((fl >>> (nI i &&& 31)) &&& 1 = 1)) (I 58 26) (fun i => I 58 (28 + i)) (I 61) (I 62) (I 58 24) q ∧ ∀ x y, ¬ (x = 57 ∧ (y = 22 ∨ y = 23)) → u x y = I x y)) := by
  refine ct_of RX7 rfl (by decide) (Nat.le_of_ble_eq_true rfl) (fun X B E => ?_)
  show GW X 7 0 [some (.ref 57), some (.int fl), none, none, none, none, none] [] _
  refine g_aload_n B dX7_tries_0 rfl ?_
  refine g_getr B ci_X7 (by first | rfl | assumption) rfl (by decide) fl_X7_7 dX7_tries_1 ?_
  refine g_bipush B (v := 24) dX7_tries_4 (by decide) ?_
  refine g_iald B (by first | rfl | assumption) 24 (lit_nI 24) (by first | decide | omega | assumption) (by decide) dX7_tries_6 ?_
  refine g_istn2 B dX7_tries_7 (by decide) rfl ?_
  refine g_aload_n B dX7_tries_8 rfl ?_
  refine g_bipush B (v := (-4)) dX7_tries_9 (by decide) ?_
  refine g_put B ci_X7 (by first | rfl | assumption) rfl (by decide) fl_X7_207 rfl rfl rfl dX7_tries_11 ?_
  refine g_aload_n B dX7_tries_14 rfl ?_
  refine g_iconst B (v := 0) dX7_tries_15 (by decide) ?_
  refine g_put B ci_X7 (by first | rfl | assumption) rfl (by decide) fl_X7_210 rfl rfl rfl dX7_tries_16 ?_
  refine g_iconst B (v := 0) dX7_tries_19 (by decide) ?_
  refine g_istn3 B dX7_tries_20 (by decide) rfl ?_
  have L : ∀ i, i ≤ q → ∀ (W : Wo) s p4 p5 p6, (s, W 57 22, W 57 23) = trF (fun i => decide ((fl >>> (nI i &&& 31)) &&& 1 = 1)) (I 58 26) (fun i => I 58 (28 + i)) (I 61) (I 62) (I 58 24) i → (∀ x y, ¬ (x = 57 ∧ (y = 22 ∨ y = 23)) → W x y = I x y) → GW X 7 21 [some (.ref 57), some (.int fl), some (.int s), some (.int (nI i)), p4, p5, p6] [] W := by
    refine loopN q (fun i hi ih W s p4 p5 p6 ht hW => ?_)
    have hinv := trF_inv (fun i => decide ((fl >>> (nI i &&& 31)) &&& 1 = 1)) (I 58 26) (fun i => I 58 (28 + i)) (I 61) (I 62) (I 58 24) i (by omega)
    rw [← ht] at hinv
    refine g_iload_n B dX7_tries_21 rfl ?_
    refine g_aload_n B dX7_tries_22 rfl ?_
    refine g_getr B ci_X7 (by first | rfl | assumption) rfl (by decide) fl_X7_7 dX7_tries_23 ?_
    refine g_bipush B (v := 27) dX7_tries_26 (by decide) ?_
    refine g_iald B (by first | rfl | assumption) 27 (lit_nI 27) (by first | decide | omega | assumption) (by decide) dX7_tries_28 ?_
    rw [hW 58 27 (by omega), hq]
    refine g_icmp_ge B 161 dX7_tries_29 (by decide) (fun h29 => ?_) (fun h29 => ?_)
    · have hi2 : i = q := by have := le_le (a := q) (b := i) (by omega) (by omega) h29; omega
      refine g_iload_n B dX7_tries_161 rfl ?_
      exact g_iret B E rfl dX7_tries_162 ⟨by subst hi2; exact ht, hW⟩
    · have hlt : i < q := nle_lt (by omega) (by omega) h29
      refine g_aload_n B dX7_tries_32 rfl ?_
      refine g_getr B ci_X7 (by first | rfl | assumption) rfl (by decide) fl_X7_7 dX7_tries_33 ?_
      refine g_bipush B (v := 28) dX7_tries_36 (by decide) ?_
      refine g_iload_n B dX7_tries_38 rfl ?_
      refine g_iadd B dX7_tries_39 ?_
      refine g_iald B (by first | rfl | assumption) _ (la_28 _) (by first | decide | omega | assumption) (by decide) dX7_tries_40 ?_
      rw [hW 58 _ (by omega)]
      obtain ⟨p, hp, hpe⟩ := hpl i hlt
      have hcl : (nI p).toNatClampNeg = p := nI_clamp (by omega)
      rw [hpe]
      refine g_ist4 B dX7_tries_41 (by decide) rfl ?_
      refine g_aload_n B dX7_tries_43 rfl ?_
      refine g_getr B ci_X7 (by first | rfl | assumption) rfl (by decide) fl_X7_7 dX7_tries_44 ?_
      refine g_bipush B (v := 26) dX7_tries_47 (by decide) ?_
      refine g_iald B (by first | rfl | assumption) 26 (lit_nI 26) (by first | decide | omega | assumption) (by decide) dX7_tries_49 ?_
      rw [hW 58 26 (by omega)]
      refine g_iload_n B dX7_tries_50 rfl ?_
      refine g_iadd B dX7_tries_51 ?_
      refine g_ist5 B dX7_tries_52 (by decide) rfl ?_
      refine g_iload B dX7_tries_54 rfl ?_
      refine g_bipush B (v := 9) dX7_tries_56 (by decide) ?_
      refine g_icmp_gt B 93 dX7_tries_58 (by decide) (fun h58 => ?_) (fun h58 => ?_)
      · refine g_iconst B (v := 0) dX7_tries_93 (by decide) ?_
        refine g_ist6 B dX7_tries_94 (by decide) rfl ?_
        refine g_iload_n B dX7_tries_96 rfl ?_
        refine g_iload B dX7_tries_97 rfl ?_
        refine g_callSI B (ct_X7_flag false) ml_X7_164 mm_X7_flag rfl rfl (Nat.le_of_ble_eq_true rfl) dX7_tries_99 (by decide) ?_
        rintro _ _ ⟨rfl, rfl⟩
        refine g_iload B dX7_tries_102 rfl ?_
        refine g_ishl B dX7_tries_104 ?_
        refine g_ior B dX7_tries_105 ?_
        refine g_istn2 B dX7_tries_106 (by decide) rfl ?_
        refine g_aload_n B dX7_tries_107 rfl ?_
        refine g_iload B dX7_tries_108 rfl ?_
        refine g_if_ne B 126 dX7_tries_110 (by decide) (fun h110 => ?_) (fun h110 => ?_)
        · exact absurd rfl h110
        · refine g_aload_n B dX7_tries_113 rfl ?_
          refine g_geti B ci_X7 (by first | rfl | assumption) rfl (by decide) fl_X7_207 dX7_tries_114 ?_
          refine g_bipush B (v := (-4)) dX7_tries_117 (by decide) ?_
          refine g_icmp_ne B 126 dX7_tries_119 (by decide) (fun h119 => ?_) (fun h119 => ?_)
          · refine g_aload_n B dX7_tries_126 rfl ?_
            refine g_geti B ci_X7 (by first | rfl | assumption) rfl (by decide) fl_X7_207 dX7_tries_127 ?_
            refine g_put B ci_X7 (by first | rfl | assumption) rfl (by decide) fl_X7_207 rfl rfl rfl dX7_tries_130 ?_
            refine g_aload_n B dX7_tries_133 rfl ?_
            refine g_dup B dX7_tries_134 rfl ?_
            refine g_geti B ci_X7 (by first | rfl | assumption) rfl (by decide) fl_X7_210 dX7_tries_135 ?_
            refine g_iload B dX7_tries_138 rfl ?_
            refine g_if_ne B 147 dX7_tries_140 (by decide) (fun h140 => ?_) (fun h140 => ?_)
            · exact absurd rfl h140
            · refine g_iconst B (v := 1) dX7_tries_143 (by decide) ?_
              refine g_goto B 148 dX7_tries_144 (by decide) ?_
              refine g_callSI B (ct_X7_flag true) ml_X7_164 mm_X7_flag rfl rfl (Nat.le_of_ble_eq_true rfl) dX7_tries_148 (by decide) ?_
              rintro _ _ ⟨rfl, rfl⟩
              refine g_iadd B dX7_tries_151 ?_
              refine g_put B ci_X7 (by first | rfl | assumption) rfl (by decide) fl_X7_210 rfl rfl rfl dX7_tries_152 ?_
              refine g_inc3 B dX7_tries_155 rfl (inc1 _) (by decide) rfl ?_
              refine g_goto B 21 dX7_tries_158 (by decide) ?_
              have hQ : trQ (fun i => decide ((fl >>> (nI i &&& 31)) &&& 1 = 1)) (I 58 26) (fun i => I 58 (28 + i)) (I 61) (I 62) s i = false := tr_late hto hp hdd hpe (by rw [← hdd]; exact h58)
              refine ih hlt _ _ _ _ _ ?_ (fun x y hx => by simp only [w2]; rw [if_neg (by omega), if_neg (by omega)]; exact hW x y hx)
              rw [trF, ← ht, if_neg (by rw [hQ]; decide), if_neg (fun z => h119 (hinv.1.mp z))]
              simp [w2, bI, zero_shl]
          · refine g_iload_n B dX7_tries_122 rfl ?_
            refine g_goto B 130 dX7_tries_123 (by decide) ?_
            refine g_put B ci_X7 (by first | rfl | assumption) rfl (by decide) fl_X7_207 rfl rfl rfl dX7_tries_130 ?_
            refine g_aload_n B dX7_tries_133 rfl ?_
            refine g_dup B dX7_tries_134 rfl ?_
            refine g_geti B ci_X7 (by first | rfl | assumption) rfl (by decide) fl_X7_210 dX7_tries_135 ?_
            refine g_iload B dX7_tries_138 rfl ?_
            refine g_if_ne B 147 dX7_tries_140 (by decide) (fun h140 => ?_) (fun h140 => ?_)
            · exact absurd rfl h140
            · refine g_iconst B (v := 1) dX7_tries_143 (by decide) ?_
              refine g_goto B 148 dX7_tries_144 (by decide) ?_
              refine g_callSI B (ct_X7_flag true) ml_X7_164 mm_X7_flag rfl rfl (Nat.le_of_ble_eq_true rfl) dX7_tries_148 (by decide) ?_
              rintro _ _ ⟨rfl, rfl⟩
              refine g_iadd B dX7_tries_151 ?_
              refine g_put B ci_X7 (by first | rfl | assumption) rfl (by decide) fl_X7_210 rfl rfl rfl dX7_tries_152 ?_
              refine g_inc3 B dX7_tries_155 rfl (inc1 _) (by decide) rfl ?_
              refine g_goto B 21 dX7_tries_158 (by decide) ?_
              have hQ : trQ (fun i => decide ((fl >>> (nI i &&& 31)) &&& 1 = 1)) (I 58 26) (fun i => I 58 (28 + i)) (I 61) (I 62) s i = false := tr_late hto hp hdd hpe (by rw [← hdd]; exact h58)
              refine ih hlt _ _ _ _ _ ?_ (fun x y hx => by simp only [w2]; rw [if_neg (by omega), if_neg (by omega)]; exact hW x y hx)
              rw [trF, ← ht, if_neg (by rw [hQ]; decide), if_pos (hinv.1.mpr h119)]
              simp [w2, bI, zero_shl]
      · refine g_aload_n B dX7_tries_61 rfl ?_
        refine g_iload B dX7_tries_62 rfl ?_
        refine g_iload B dX7_tries_64 rfl ?_
        refine g_callVI B (ct_X7_inTime (I := W) (c := p) (by omega) _) (by first | rfl | assumption) rfl ml_X7_175 mm_X7_inTime rfl rfl (Nat.le_of_ble_eq_true rfl) dX7_tries_66 (by decide) ?_
        rintro _ _ ⟨rfl, rfl⟩
        rw [hW 61 p (by omega), hW 62 p (by omega)]
        refine g_if_eq B 93 dX7_tries_69 (by decide) (fun h69 => ?_) (fun h69 => ?_)
        · rw [bI_eq0] at h69
          refine g_iconst B (v := 0) dX7_tries_93 (by decide) ?_
          refine g_ist6 B dX7_tries_94 (by decide) rfl ?_
          refine g_iload_n B dX7_tries_96 rfl ?_
          refine g_iload B dX7_tries_97 rfl ?_
          refine g_callSI B (ct_X7_flag false) ml_X7_164 mm_X7_flag rfl rfl (Nat.le_of_ble_eq_true rfl) dX7_tries_99 (by decide) ?_
          rintro _ _ ⟨rfl, rfl⟩
          refine g_iload B dX7_tries_102 rfl ?_
          refine g_ishl B dX7_tries_104 ?_
          refine g_ior B dX7_tries_105 ?_
          refine g_istn2 B dX7_tries_106 (by decide) rfl ?_
          refine g_aload_n B dX7_tries_107 rfl ?_
          refine g_iload B dX7_tries_108 rfl ?_
          refine g_if_ne B 126 dX7_tries_110 (by decide) (fun h110 => ?_) (fun h110 => ?_)
          · exact absurd rfl h110
          · refine g_aload_n B dX7_tries_113 rfl ?_
            refine g_geti B ci_X7 (by first | rfl | assumption) rfl (by decide) fl_X7_207 dX7_tries_114 ?_
            refine g_bipush B (v := (-4)) dX7_tries_117 (by decide) ?_
            refine g_icmp_ne B 126 dX7_tries_119 (by decide) (fun h119 => ?_) (fun h119 => ?_)
            · refine g_aload_n B dX7_tries_126 rfl ?_
              refine g_geti B ci_X7 (by first | rfl | assumption) rfl (by decide) fl_X7_207 dX7_tries_127 ?_
              refine g_put B ci_X7 (by first | rfl | assumption) rfl (by decide) fl_X7_207 rfl rfl rfl dX7_tries_130 ?_
              refine g_aload_n B dX7_tries_133 rfl ?_
              refine g_dup B dX7_tries_134 rfl ?_
              refine g_geti B ci_X7 (by first | rfl | assumption) rfl (by decide) fl_X7_210 dX7_tries_135 ?_
              refine g_iload B dX7_tries_138 rfl ?_
              refine g_if_ne B 147 dX7_tries_140 (by decide) (fun h140 => ?_) (fun h140 => ?_)
              · exact absurd rfl h140
              · refine g_iconst B (v := 1) dX7_tries_143 (by decide) ?_
                refine g_goto B 148 dX7_tries_144 (by decide) ?_
                refine g_callSI B (ct_X7_flag true) ml_X7_164 mm_X7_flag rfl rfl (Nat.le_of_ble_eq_true rfl) dX7_tries_148 (by decide) ?_
                rintro _ _ ⟨rfl, rfl⟩
                refine g_iadd B dX7_tries_151 ?_
                refine g_put B ci_X7 (by first | rfl | assumption) rfl (by decide) fl_X7_210 rfl rfl rfl dX7_tries_152 ?_
                refine g_inc3 B dX7_tries_155 rfl (inc1 _) (by decide) rfl ?_
                refine g_goto B 21 dX7_tries_158 (by decide) ?_
                have hQ : trQ (fun i => decide ((fl >>> (nI i &&& 31)) &&& 1 = 1)) (I 58 26) (fun i => I 58 (28 + i)) (I 61) (I 62) s i = false := by clear hdd; simp [trQ, hpe, hcl, *]
                refine ih hlt _ _ _ _ _ ?_ (fun x y hx => by simp only [w2]; rw [if_neg (by omega), if_neg (by omega)]; exact hW x y hx)
                rw [trF, ← ht, if_neg (by rw [hQ]; decide), if_neg (fun z => h119 (hinv.1.mp z))]
                simp [w2, bI, zero_shl]
            · refine g_iload_n B dX7_tries_122 rfl ?_
              refine g_goto B 130 dX7_tries_123 (by decide) ?_
              refine g_put B ci_X7 (by first | rfl | assumption) rfl (by decide) fl_X7_207 rfl rfl rfl dX7_tries_130 ?_
              refine g_aload_n B dX7_tries_133 rfl ?_
              refine g_dup B dX7_tries_134 rfl ?_
              refine g_geti B ci_X7 (by first | rfl | assumption) rfl (by decide) fl_X7_210 dX7_tries_135 ?_
              refine g_iload B dX7_tries_138 rfl ?_
              refine g_if_ne B 147 dX7_tries_140 (by decide) (fun h140 => ?_) (fun h140 => ?_)
              · exact absurd rfl h140
              · refine g_iconst B (v := 1) dX7_tries_143 (by decide) ?_
                refine g_goto B 148 dX7_tries_144 (by decide) ?_
                refine g_callSI B (ct_X7_flag true) ml_X7_164 mm_X7_flag rfl rfl (Nat.le_of_ble_eq_true rfl) dX7_tries_148 (by decide) ?_
                rintro _ _ ⟨rfl, rfl⟩
                refine g_iadd B dX7_tries_151 ?_
                refine g_put B ci_X7 (by first | rfl | assumption) rfl (by decide) fl_X7_210 rfl rfl rfl dX7_tries_152 ?_
                refine g_inc3 B dX7_tries_155 rfl (inc1 _) (by decide) rfl ?_
                refine g_goto B 21 dX7_tries_158 (by decide) ?_
                have hQ : trQ (fun i => decide ((fl >>> (nI i &&& 31)) &&& 1 = 1)) (I 58 26) (fun i => I 58 (28 + i)) (I 61) (I 62) s i = false := by clear hdd; simp [trQ, hpe, hcl, *]
                refine ih hlt _ _ _ _ _ ?_ (fun x y hx => by simp only [w2]; rw [if_neg (by omega), if_neg (by omega)]; exact hW x y hx)
                rw [trF, ← ht, if_neg (by rw [hQ]; decide), if_pos (hinv.1.mpr h119)]
                simp [w2, bI, zero_shl]
        · rw [bI_ne0] at h69
          refine g_iload_n B dX7_tries_72 rfl ?_
          refine g_iload B dX7_tries_73 rfl ?_
          refine g_ishr B dX7_tries_75 ?_
          refine g_iconst B (v := 1) dX7_tries_76 (by decide) ?_
          refine g_iand B dX7_tries_77 ?_
          refine g_if_ne B 93 dX7_tries_78 (by decide) (fun h78 => ?_) (fun h78 => ?_)
          · refine g_iconst B (v := 0) dX7_tries_93 (by decide) ?_
            refine g_ist6 B dX7_tries_94 (by decide) rfl ?_
            refine g_iload_n B dX7_tries_96 rfl ?_
            refine g_iload B dX7_tries_97 rfl ?_
            refine g_callSI B (ct_X7_flag false) ml_X7_164 mm_X7_flag rfl rfl (Nat.le_of_ble_eq_true rfl) dX7_tries_99 (by decide) ?_
            rintro _ _ ⟨rfl, rfl⟩
            refine g_iload B dX7_tries_102 rfl ?_
            refine g_ishl B dX7_tries_104 ?_
            refine g_ior B dX7_tries_105 ?_
            refine g_istn2 B dX7_tries_106 (by decide) rfl ?_
            refine g_aload_n B dX7_tries_107 rfl ?_
            refine g_iload B dX7_tries_108 rfl ?_
            refine g_if_ne B 126 dX7_tries_110 (by decide) (fun h110 => ?_) (fun h110 => ?_)
            · exact absurd rfl h110
            · refine g_aload_n B dX7_tries_113 rfl ?_
              refine g_geti B ci_X7 (by first | rfl | assumption) rfl (by decide) fl_X7_207 dX7_tries_114 ?_
              refine g_bipush B (v := (-4)) dX7_tries_117 (by decide) ?_
              refine g_icmp_ne B 126 dX7_tries_119 (by decide) (fun h119 => ?_) (fun h119 => ?_)
              · refine g_aload_n B dX7_tries_126 rfl ?_
                refine g_geti B ci_X7 (by first | rfl | assumption) rfl (by decide) fl_X7_207 dX7_tries_127 ?_
                refine g_put B ci_X7 (by first | rfl | assumption) rfl (by decide) fl_X7_207 rfl rfl rfl dX7_tries_130 ?_
                refine g_aload_n B dX7_tries_133 rfl ?_
                refine g_dup B dX7_tries_134 rfl ?_
                refine g_geti B ci_X7 (by first | rfl | assumption) rfl (by decide) fl_X7_210 dX7_tries_135 ?_
                refine g_iload B dX7_tries_138 rfl ?_
                refine g_if_ne B 147 dX7_tries_140 (by decide) (fun h140 => ?_) (fun h140 => ?_)
                · exact absurd rfl h140
                · refine g_iconst B (v := 1) dX7_tries_143 (by decide) ?_
                  refine g_goto B 148 dX7_tries_144 (by decide) ?_
                  refine g_callSI B (ct_X7_flag true) ml_X7_164 mm_X7_flag rfl rfl (Nat.le_of_ble_eq_true rfl) dX7_tries_148 (by decide) ?_
                  rintro _ _ ⟨rfl, rfl⟩
                  refine g_iadd B dX7_tries_151 ?_
                  refine g_put B ci_X7 (by first | rfl | assumption) rfl (by decide) fl_X7_210 rfl rfl rfl dX7_tries_152 ?_
                  refine g_inc3 B dX7_tries_155 rfl (inc1 _) (by decide) rfl ?_
                  refine g_goto B 21 dX7_tries_158 (by decide) ?_
                  have hQ : trQ (fun i => decide ((fl >>> (nI i &&& 31)) &&& 1 = 1)) (I 58 26) (fun i => I 58 (28 + i)) (I 61) (I 62) s i = false := by clear hdd; simp [trQ, hpe, hcl, *]
                  refine ih hlt _ _ _ _ _ ?_ (fun x y hx => by simp only [w2]; rw [if_neg (by omega), if_neg (by omega)]; exact hW x y hx)
                  rw [trF, ← ht, if_neg (by rw [hQ]; decide), if_neg (fun z => h119 (hinv.1.mp z))]
                  simp [w2, bI, zero_shl]
              · refine g_iload_n B dX7_tries_122 rfl ?_
                refine g_goto B 130 dX7_tries_123 (by decide) ?_
                refine g_put B ci_X7 (by first | rfl | assumption) rfl (by decide) fl_X7_207 rfl rfl rfl dX7_tries_130 ?_
                refine g_aload_n B dX7_tries_133 rfl ?_
                refine g_dup B dX7_tries_134 rfl ?_
                refine g_geti B ci_X7 (by first | rfl | assumption) rfl (by decide) fl_X7_210 dX7_tries_135 ?_
                refine g_iload B dX7_tries_138 rfl ?_
                refine g_if_ne B 147 dX7_tries_140 (by decide) (fun h140 => ?_) (fun h140 => ?_)
                · exact absurd rfl h140
                · refine g_iconst B (v := 1) dX7_tries_143 (by decide) ?_
                  refine g_goto B 148 dX7_tries_144 (by decide) ?_
                  refine g_callSI B (ct_X7_flag true) ml_X7_164 mm_X7_flag rfl rfl (Nat.le_of_ble_eq_true rfl) dX7_tries_148 (by decide) ?_
                  rintro _ _ ⟨rfl, rfl⟩
                  refine g_iadd B dX7_tries_151 ?_
                  refine g_put B ci_X7 (by first | rfl | assumption) rfl (by decide) fl_X7_210 rfl rfl rfl dX7_tries_152 ?_
                  refine g_inc3 B dX7_tries_155 rfl (inc1 _) (by decide) rfl ?_
                  refine g_goto B 21 dX7_tries_158 (by decide) ?_
                  have hQ : trQ (fun i => decide ((fl >>> (nI i &&& 31)) &&& 1 = 1)) (I 58 26) (fun i => I 58 (28 + i)) (I 61) (I 62) s i = false := by clear hdd; simp [trQ, hpe, hcl, *]
                  refine ih hlt _ _ _ _ _ ?_ (fun x y hx => by simp only [w2]; rw [if_neg (by omega), if_neg (by omega)]; exact hW x y hx)
                  rw [trF, ← ht, if_neg (by rw [hQ]; decide), if_pos (hinv.1.mpr h119)]
                  simp [w2, bI, zero_shl]
          · refine g_iload_n B dX7_tries_81 rfl ?_
            refine g_iload_n B dX7_tries_82 rfl ?_
            refine g_ishr B dX7_tries_83 ?_
            refine g_iconst B (v := 1) dX7_tries_84 (by decide) ?_
            refine g_iand B dX7_tries_85 ?_
            refine g_if_ne B 93 dX7_tries_86 (by decide) (fun h86 => ?_) (fun h86 => ?_)
            · replace h86 := bit01 h86
              refine g_iconst B (v := 0) dX7_tries_93 (by decide) ?_
              refine g_ist6 B dX7_tries_94 (by decide) rfl ?_
              refine g_iload_n B dX7_tries_96 rfl ?_
              refine g_iload B dX7_tries_97 rfl ?_
              refine g_callSI B (ct_X7_flag false) ml_X7_164 mm_X7_flag rfl rfl (Nat.le_of_ble_eq_true rfl) dX7_tries_99 (by decide) ?_
              rintro _ _ ⟨rfl, rfl⟩
              refine g_iload B dX7_tries_102 rfl ?_
              refine g_ishl B dX7_tries_104 ?_
              refine g_ior B dX7_tries_105 ?_
              refine g_istn2 B dX7_tries_106 (by decide) rfl ?_
              refine g_aload_n B dX7_tries_107 rfl ?_
              refine g_iload B dX7_tries_108 rfl ?_
              refine g_if_ne B 126 dX7_tries_110 (by decide) (fun h110 => ?_) (fun h110 => ?_)
              · exact absurd rfl h110
              · refine g_aload_n B dX7_tries_113 rfl ?_
                refine g_geti B ci_X7 (by first | rfl | assumption) rfl (by decide) fl_X7_207 dX7_tries_114 ?_
                refine g_bipush B (v := (-4)) dX7_tries_117 (by decide) ?_
                refine g_icmp_ne B 126 dX7_tries_119 (by decide) (fun h119 => ?_) (fun h119 => ?_)
                · refine g_aload_n B dX7_tries_126 rfl ?_
                  refine g_geti B ci_X7 (by first | rfl | assumption) rfl (by decide) fl_X7_207 dX7_tries_127 ?_
                  refine g_put B ci_X7 (by first | rfl | assumption) rfl (by decide) fl_X7_207 rfl rfl rfl dX7_tries_130 ?_
                  refine g_aload_n B dX7_tries_133 rfl ?_
                  refine g_dup B dX7_tries_134 rfl ?_
                  refine g_geti B ci_X7 (by first | rfl | assumption) rfl (by decide) fl_X7_210 dX7_tries_135 ?_
                  refine g_iload B dX7_tries_138 rfl ?_
                  refine g_if_ne B 147 dX7_tries_140 (by decide) (fun h140 => ?_) (fun h140 => ?_)
                  · exact absurd rfl h140
                  · refine g_iconst B (v := 1) dX7_tries_143 (by decide) ?_
                    refine g_goto B 148 dX7_tries_144 (by decide) ?_
                    refine g_callSI B (ct_X7_flag true) ml_X7_164 mm_X7_flag rfl rfl (Nat.le_of_ble_eq_true rfl) dX7_tries_148 (by decide) ?_
                    rintro _ _ ⟨rfl, rfl⟩
                    refine g_iadd B dX7_tries_151 ?_
                    refine g_put B ci_X7 (by first | rfl | assumption) rfl (by decide) fl_X7_210 rfl rfl rfl dX7_tries_152 ?_
                    refine g_inc3 B dX7_tries_155 rfl (inc1 _) (by decide) rfl ?_
                    refine g_goto B 21 dX7_tries_158 (by decide) ?_
                    have hQ : trQ (fun i => decide ((fl >>> (nI i &&& 31)) &&& 1 = 1)) (I 58 26) (fun i => I 58 (28 + i)) (I 61) (I 62) s i = false := by clear hdd; simp [trQ, hpe, hcl, *]
                    refine ih hlt _ _ _ _ _ ?_ (fun x y hx => by simp only [w2]; rw [if_neg (by omega), if_neg (by omega)]; exact hW x y hx)
                    rw [trF, ← ht, if_neg (by rw [hQ]; decide), if_neg (fun z => h119 (hinv.1.mp z))]
                    simp [w2, bI, zero_shl]
                · refine g_iload_n B dX7_tries_122 rfl ?_
                  refine g_goto B 130 dX7_tries_123 (by decide) ?_
                  refine g_put B ci_X7 (by first | rfl | assumption) rfl (by decide) fl_X7_207 rfl rfl rfl dX7_tries_130 ?_
                  refine g_aload_n B dX7_tries_133 rfl ?_
                  refine g_dup B dX7_tries_134 rfl ?_
                  refine g_geti B ci_X7 (by first | rfl | assumption) rfl (by decide) fl_X7_210 dX7_tries_135 ?_
                  refine g_iload B dX7_tries_138 rfl ?_
                  refine g_if_ne B 147 dX7_tries_140 (by decide) (fun h140 => ?_) (fun h140 => ?_)
                  · exact absurd rfl h140
                  · refine g_iconst B (v := 1) dX7_tries_143 (by decide) ?_
                    refine g_goto B 148 dX7_tries_144 (by decide) ?_
                    refine g_callSI B (ct_X7_flag true) ml_X7_164 mm_X7_flag rfl rfl (Nat.le_of_ble_eq_true rfl) dX7_tries_148 (by decide) ?_
                    rintro _ _ ⟨rfl, rfl⟩
                    refine g_iadd B dX7_tries_151 ?_
                    refine g_put B ci_X7 (by first | rfl | assumption) rfl (by decide) fl_X7_210 rfl rfl rfl dX7_tries_152 ?_
                    refine g_inc3 B dX7_tries_155 rfl (inc1 _) (by decide) rfl ?_
                    refine g_goto B 21 dX7_tries_158 (by decide) ?_
                    have hQ : trQ (fun i => decide ((fl >>> (nI i &&& 31)) &&& 1 = 1)) (I 58 26) (fun i => I 58 (28 + i)) (I 61) (I 62) s i = false := by clear hdd; simp [trQ, hpe, hcl, *]
                    refine ih hlt _ _ _ _ _ ?_ (fun x y hx => by simp only [w2]; rw [if_neg (by omega), if_neg (by omega)]; exact hW x y hx)
                    rw [trF, ← ht, if_neg (by rw [hQ]; decide), if_pos (hinv.1.mpr h119)]
                    simp [w2, bI, zero_shl]
            · refine g_iconst B (v := 1) dX7_tries_89 (by decide) ?_
              refine g_goto B 94 dX7_tries_90 (by decide) ?_
              refine g_ist6 B dX7_tries_94 (by decide) rfl ?_
              refine g_iload_n B dX7_tries_96 rfl ?_
              refine g_iload B dX7_tries_97 rfl ?_
              refine g_callSI B (ct_X7_flag true) ml_X7_164 mm_X7_flag rfl rfl (Nat.le_of_ble_eq_true rfl) dX7_tries_99 (by decide) ?_
              rintro _ _ ⟨rfl, rfl⟩
              refine g_iload B dX7_tries_102 rfl ?_
              refine g_ishl B dX7_tries_104 ?_
              refine g_ior B dX7_tries_105 ?_
              refine g_istn2 B dX7_tries_106 (by decide) rfl ?_
              refine g_aload_n B dX7_tries_107 rfl ?_
              refine g_iload B dX7_tries_108 rfl ?_
              refine g_if_ne B 126 dX7_tries_110 (by decide) (fun h110 => ?_) (fun h110 => ?_)
              · refine g_aload_n B dX7_tries_126 rfl ?_
                refine g_geti B ci_X7 (by first | rfl | assumption) rfl (by decide) fl_X7_207 dX7_tries_127 ?_
                refine g_put B ci_X7 (by first | rfl | assumption) rfl (by decide) fl_X7_207 rfl rfl rfl dX7_tries_130 ?_
                refine g_aload_n B dX7_tries_133 rfl ?_
                refine g_dup B dX7_tries_134 rfl ?_
                refine g_geti B ci_X7 (by first | rfl | assumption) rfl (by decide) fl_X7_210 dX7_tries_135 ?_
                refine g_iload B dX7_tries_138 rfl ?_
                refine g_if_ne B 147 dX7_tries_140 (by decide) (fun h140 => ?_) (fun h140 => ?_)
                · refine g_iconst B (v := 0) dX7_tries_147 (by decide) ?_
                  refine g_callSI B (ct_X7_flag false) ml_X7_164 mm_X7_flag rfl rfl (Nat.le_of_ble_eq_true rfl) dX7_tries_148 (by decide) ?_
                  rintro _ _ ⟨rfl, rfl⟩
                  refine g_iadd B dX7_tries_151 ?_
                  refine g_put B ci_X7 (by first | rfl | assumption) rfl (by decide) fl_X7_210 rfl rfl rfl dX7_tries_152 ?_
                  refine g_inc3 B dX7_tries_155 rfl (inc1 _) (by decide) rfl ?_
                  refine g_goto B 21 dX7_tries_158 (by decide) ?_
                  have hQ : trQ (fun i => decide ((fl >>> (nI i &&& 31)) &&& 1 = 1)) (I 58 26) (fun i => I 58 (28 + i)) (I 61) (I 62) s i = true := by clear hdd; simp [trQ, hpe, hcl, *]
                  refine ih hlt _ _ _ _ _ ?_ (fun x y hx => by simp only [w2]; rw [if_neg (by omega), if_neg (by omega)]; exact hW x y hx)
                  rw [trF, ← ht, if_pos hQ]
                  simp [w2, bI, hpe]
                · exact absurd h140 (by decide)
              · exact absurd h110 (by decide)
  exact L 0 (Nat.zero_le _) _ _ _ _ _ (by simp [w2, trF]) (fun x y hx => by simp only [w2]; rw [if_neg (by omega), if_neg (by omega)])

def bcJ1 (x : Int32) : Int32 := x - ((x.toUInt32 >>> ((1 : Int32).toUInt32 &&& Int32.toUInt32 31)).toInt32 &&& 1431655765)
def bcJ2 (x : Int32) : Int32 := (x &&& 858993459) + ((x.toUInt32 >>> ((2 : Int32).toUInt32 &&& Int32.toUInt32 31)).toInt32 &&& 858993459)
def bcJ3 (x : Int32) : Int32 := (x + (x.toUInt32 >>> ((4 : Int32).toUInt32 &&& Int32.toUInt32 31)).toInt32) &&& 252645135
def bcJ4 (x : Int32) : Int32 := x + (x.toUInt32 >>> ((8 : Int32).toUInt32 &&& Int32.toUInt32 31)).toInt32
def bcJ5 (x : Int32) : Int32 := x + (x.toUInt32 >>> ((16 : Int32).toUInt32 &&& Int32.toUInt32 31)).toInt32
def bcJ (x : Int32) : Int32 := bcJ5 (bcJ4 (bcJ3 (bcJ2 (bcJ1 x)))) &&& 63
theorem bcJ_tab : (List.range 256).all (fun s => decide (bcJ (nI s) = bc8 (nI s))) = true := by decide +kernel
theorem bcJ_8 {s : Nat} (h : s < 256) : bcJ (nI s) = bc8 (nI s) := by
  have := List.all_eq_true.mp bcJ_tab s (List.mem_range.mpr h)
  simpa using this
/-- suit b is as suit o was -/
def BecR (I u : Wo) (b o : Nat) : Prop := (∀ i, 1 ≤ i → i ≤ 6 → ∀ k, k < 8 → u (b + i) k = I (o + i) k) ∧ (∀ i, 7 ≤ i → i ≤ 8 → ∀ k, k < 6 → u (b + i) k = I (o + i) k) ∧ (∀ k, 8 ≤ k → k ≤ 14 → u b k = I o k) ∧ (∀ a k, (a < b ∨ b + 8 < a) → u a k = I a k)
def cp (I : Wo) (k2 k q : Nat) : Wo := va_up I k2 (va_cpy (I k) (I k2) 0 0 q)
theorem cp_hit (I : Wo) {k2 k q c : Nat} (h : c < q) : cp I k2 k q k2 c = I k c := by simp [cp, va_up, va_cpy, h]
theorem cp_ne (I : Wo) {k2 k q a c : Nat} (h : a ≠ k2) : cp I k2 k q a c = I a c := by simp [cp, va_up, h]
theorem g_acp {X : Cx} {cc : ByteArray} {nL fr lo pc : Nat} {own : String} {ls : List (Option Value)} {st : List Value} {I : Wo} {k n : Nat} (B : Fx X cc nL own fr lo) {ix k2 n2 : Nat} (hs : shL[k]? = some (.inr (.inl (0, n)))) (hs2 : shL[k2]? = some (.inr (.inl (0, n2)))) {q : Nat} (hq1 : q ≤ n) (hq2 : q ≤ n2) (hq3 : q < 2 ^ 31) {v : Int32} (hv : v = nI q) (hl9 : Cond.methodLink own ix arraycopyName ∈ lw_g) (hnat : Cond.native arraycopyName ∈ lw_g) (hst : Cond.static arraycopyName ∈ lw_g) (hini : Cond.initialized "java/lang/System" ∈ lw_g) (hfr9 : 1 ≤ fr) (hlo9 : (st.map fun v => v.category).sum + 18 ≤ lo) (d : decode cc pc = .ok (.invokestatic ix, 3)) (kk : GW X nL (pc + 3) ls st (cp I k2 k q)) : GW X nL pc ls (.int v :: .int 0 :: .ref k2 :: .int 0 :: .ref k :: st) I :=
  g_acopy B hs hs2 hq1 hq2 hq3 hv hl9 hnat hst hini hfr9 hlo9 d kk
section MATH
variable {X : Cx} {cc : ByteArray} {nL fr lo pc : Nat} {ls : List (Option Value)} {st : List Value} {I : Wo}
theorem g_mmax (B : Fx X cc nL RX6 fr lo) {x y : Int32} (hfr9 : 1 ≤ fr) (hlo9 : (st.map fun v => v.category).sum + 13 ≤ lo) (d : decode cc pc = .ok (.invokestatic 160, 3)) (k : GW X nL (pc + 3) ls (.int (if x < y then y else x) :: st) I) : GW X nL pc ls (.int y :: .int x :: st) I := by
  obtain ⟨p, l, e, R, s, m, args, below, meth, c, D, ad, cy, A, Q, kc, ks⟩ := X
  obtain ⟨⟨hx, hb, hml, hown, hts⟩, hj, hA, hK, hZ, hN, hfr, hlo, hkc, hks⟩ := B
  intro la H locs hl hP hS
  exact va_mmax hx hb (by rw [hml]; exact hl.1.symm) hown (hts _ (lw_g_of _ 602 (by decide +kernel) rfl)) (hts _ (lw_g_of _ 603 (by decide +kernel) rfl)) (hts _ (lw_g_of _ 68 (by decide +kernel) rfl)) (hts _ (lw_g_of _ 604 (by decide +kernel) rfl)) (Nat.le_trans hfr9 hfr) (Nat.le_trans (by rw [cv_cats]; exact hlo9) hlo) hkc hks d (k la H locs hl hP hS)
theorem g_mabs (B : Fx X cc nL RX6 fr lo) {x : Int64} (hfr9 : 1 ≤ fr) (hlo9 : (st.map fun v => v.category).sum + 13 ≤ lo) (d : decode cc pc = .ok (.invokestatic 277, 3)) (k : GW X nL (pc + 3) ls (.long (if 0 < x then x else -x) :: st) I) : GW X nL pc ls (.long x :: st) I := by
  obtain ⟨p, l, e, R, s, m, args, below, meth, c, D, ad, cy, A, Q, kc, ks⟩ := X
  obtain ⟨⟨hx, hb, hml, hown, hts⟩, hj, hA, hK, hZ, hN, hfr, hlo, hkc, hks⟩ := B
  intro la H locs hl hP hS
  exact va_mabs_long hx hb (by rw [hml]; exact hl.1.symm) hown (hts _ (lw_g_of _ 653 (by decide +kernel) rfl)) (hts _ (lw_g_of _ 654 (by decide +kernel) rfl)) (hts _ (lw_g_of _ 68 (by decide +kernel) rfl)) (hts _ (lw_g_of _ 655 (by decide +kernel) rfl)) (Nat.le_trans hfr9 hfr) (Nat.le_trans (by rw [cv_cats]; exact hlo9) hlo) hkc hks d (k la H locs hl hP hS)
end MATH
set_option maxHeartbeats 4000000 in
set_option maxRecDepth 100000 in
theorem ct_X3_addSeen {I : Wo} {b q : Nat} (hS : Su b) (hq : I b 14 = nI q) (hq6 : q ≤ 6) (set : Int32) (z : Bool) : Ct yX3_addSeen cX3_addSeen 4 (some .boolean) 0 0 [.ref b, .int set, .int (bI z)] I (pI (fun r u => (q < 6 ∧ r = 1 ∧ u = w2 (w2 (w2 I (b + 8) q set) b 8 (if z then I b 8 ||| ((1 : Int32) <<< (nI q &&& 31)) else I b 8 &&& (((1 : Int32) <<< (nI q &&& 31)) ^^^ (-1)))) b 14 (nI (q + 1))) ∨ (q = 6 ∧ r = 0 ∧ I = u))) := by
  obtain ⟨s0, s1, s2, s3, s4, s5, s6, s7, s8⟩ := id hS
  refine ct_of RX3 rfl (by decide) (Nat.le_of_ble_eq_true rfl) (fun X B E => ?_)
  show GW X 4 0 [some (.ref b), some (.int set), some (.int (bI z)), none] [] _
  refine g_aload_n B dX3_addSeen_0 rfl ?_
  refine g_geti B ci_X3 (by first | rfl | assumption) rfl (by decide) fl_X3_52 dX3_addSeen_1 ?_
  refine g_bipush B (v := 6) dX3_addSeen_4 (by decide) ?_
  refine g_icmp_lt B 11 dX3_addSeen_6 (by decide) (fun h6 => ?_) (fun h6 => ?_)
  · have hlt : q < 6 := lt_lt (a := q) (b := 6) (by omega) (by decide) (by rw [← hq]; exact h6)
    refine g_aload_n B dX3_addSeen_11 rfl ?_
    refine g_getr B ci_X3 (by first | rfl | assumption) rfl (by decide) fl_X3_33 dX3_addSeen_12 ?_
    refine g_aload_n B dX3_addSeen_15 rfl ?_
    refine g_geti B ci_X3 (by first | rfl | assumption) rfl (by decide) fl_X3_52 dX3_addSeen_16 ?_
    refine g_iload_n B dX3_addSeen_19 rfl ?_
    refine g_iast B (by first | rfl | assumption) q hq (by first | decide | omega | assumption) (by decide) dX3_addSeen_20 ?_
    refine g_iconst B (v := 1) dX3_addSeen_21 (by decide) ?_
    refine g_aload_n B dX3_addSeen_22 rfl ?_
    refine g_geti B ci_X3 (by first | rfl | assumption) rfl (by decide) fl_X3_52 dX3_addSeen_23 ?_
    refine g_ishl B dX3_addSeen_26 ?_
    refine g_istn3 B dX3_addSeen_27 (by decide) rfl ?_
    refine g_aload_n B dX3_addSeen_28 rfl ?_
    refine g_iload_n B dX3_addSeen_29 rfl ?_
    refine g_if_eq B 42 dX3_addSeen_30 (by decide) (fun h30 => ?_) (fun h30 => ?_)
    · rw [bI_eq0] at h30
      subst h30
      refine g_aload_n B dX3_addSeen_42 rfl ?_
      refine g_geti B ci_X3 (by first | rfl | assumption) rfl (by decide) fl_X3_61 dX3_addSeen_43 ?_
      refine g_iload_n B dX3_addSeen_46 rfl ?_
      refine g_iconst B (v := (-1)) dX3_addSeen_47 (by decide) ?_
      refine g_ixor B dX3_addSeen_48 ?_
      refine g_iand B dX3_addSeen_49 ?_
      refine g_put B ci_X3 (by first | rfl | assumption) rfl (by decide) fl_X3_61 rfl rfl rfl dX3_addSeen_50 ?_
      refine g_aload_n B dX3_addSeen_53 rfl ?_
      refine g_dup B dX3_addSeen_54 rfl ?_
      refine g_geti B ci_X3 (by first | rfl | assumption) rfl (by decide) fl_X3_52 dX3_addSeen_55 ?_
      refine g_iconst B (v := 1) dX3_addSeen_58 (by decide) ?_
      refine g_iadd B dX3_addSeen_59 ?_
      refine g_eqi (nI (q + 1)) (by simp only [w2, if_neg (show ¬ (b = b ∧ (14 : Nat) = 8) by omega), if_neg (show ¬ (b = b + 8 ∧ (14 : Nat) = q) by omega), hq]; exact nI_1 q) ?_
      refine g_put B ci_X3 (by first | rfl | assumption) rfl (by decide) fl_X3_52 rfl rfl rfl dX3_addSeen_60 ?_
      refine g_iconst B (v := 1) dX3_addSeen_63 (by decide) ?_
      exact g_iret B E (by first | exact bI_nar _ | decide | exact bI_narv (by assumption)) dX3_addSeen_64 (Or.inl ⟨hlt, rfl, by simp only [w2_cell I _ (show b ≠ b + 8 by omega), ↓reduceIte, Bool.false_eq_true, hq]⟩)
    · rw [bI_ne0] at h30
      subst h30
      refine g_aload_n B dX3_addSeen_33 rfl ?_
      refine g_geti B ci_X3 (by first | rfl | assumption) rfl (by decide) fl_X3_61 dX3_addSeen_34 ?_
      refine g_iload_n B dX3_addSeen_37 rfl ?_
      refine g_ior B dX3_addSeen_38 ?_
      refine g_goto B 50 dX3_addSeen_39 (by decide) ?_
      refine g_put B ci_X3 (by first | rfl | assumption) rfl (by decide) fl_X3_61 rfl rfl rfl dX3_addSeen_50 ?_
      refine g_aload_n B dX3_addSeen_53 rfl ?_
      refine g_dup B dX3_addSeen_54 rfl ?_
      refine g_geti B ci_X3 (by first | rfl | assumption) rfl (by decide) fl_X3_52 dX3_addSeen_55 ?_
      refine g_iconst B (v := 1) dX3_addSeen_58 (by decide) ?_
      refine g_iadd B dX3_addSeen_59 ?_
      refine g_eqi (nI (q + 1)) (by simp only [w2, if_neg (show ¬ (b = b ∧ (14 : Nat) = 8) by omega), if_neg (show ¬ (b = b + 8 ∧ (14 : Nat) = q) by omega), hq]; exact nI_1 q) ?_
      refine g_put B ci_X3 (by first | rfl | assumption) rfl (by decide) fl_X3_52 rfl rfl rfl dX3_addSeen_60 ?_
      refine g_iconst B (v := 1) dX3_addSeen_63 (by decide) ?_
      exact g_iret B E (by first | exact bI_nar _ | decide | exact bI_narv (by assumption)) dX3_addSeen_64 (Or.inl ⟨hlt, rfl, by simp only [w2_cell I _ (show b ≠ b + 8 by omega), ↓reduceIte, Bool.false_eq_true, hq]⟩)
  · have hge : q = 6 := by have := nlt_le (a := q) (b := 6) (by omega) (by decide) (by rw [← hq]; exact h6); omega
    refine g_iconst B (v := 0) dX3_addSeen_9 (by decide) ?_
    exact g_iret B E (by first | exact bI_nar _ | decide | exact bI_narv (by assumption)) dX3_addSeen_10 (Or.inr ⟨hge, rfl, rfl⟩)
set_option maxHeartbeats 4000000 in
set_option maxRecDepth 100000 in
theorem ct_X3_empty {I : Wo} {b : Nat} (hS : Su b) : Ct yX3_empty cX3_empty 1 none 0 0 [.ref b] I (pV (fun u => u = w2 (w2 (w2 (w2 (w2 (w2 I b 9 0) b 10 (-4)) b 11 0) b 12 0) b 13 0) b 14 0)) := by
  obtain ⟨s0, s1, s2, s3, s4, s5, s6, s7, s8⟩ := id hS
  refine ct_of RX3 rfl (by decide) (Nat.le_of_ble_eq_true rfl) (fun X B E => ?_)
  show GW X 1 0 [some (.ref b)] [] _
  refine g_aload_n B dX3_empty_0 rfl ?_
  refine g_iconst B (v := 0) dX3_empty_1 (by decide) ?_
  refine g_put B ci_X3 (by first | rfl | assumption) rfl (by decide) fl_X3_40 rfl rfl rfl dX3_empty_2 ?_
  refine g_aload_n B dX3_empty_5 rfl ?_
  refine g_bipush B (v := (-4)) dX3_empty_6 (by decide) ?_
  refine g_put B ci_X3 (by first | rfl | assumption) rfl (by decide) fl_X3_36 rfl rfl rfl dX3_empty_8 ?_
  refine g_aload_n B dX3_empty_11 rfl ?_
  refine g_iconst B (v := 0) dX3_empty_12 (by decide) ?_
  refine g_put B ci_X3 (by first | rfl | assumption) rfl (by decide) fl_X3_43 rfl rfl rfl dX3_empty_13 ?_
  refine g_aload_n B dX3_empty_16 rfl ?_
  refine g_iconst B (v := 0) dX3_empty_17 (by decide) ?_
  refine g_put B ci_X3 (by first | rfl | assumption) rfl (by decide) fl_X3_46 rfl rfl rfl dX3_empty_18 ?_
  refine g_aload_n B dX3_empty_21 rfl ?_
  refine g_iconst B (v := 0) dX3_empty_22 (by decide) ?_
  refine g_put B ci_X3 (by first | rfl | assumption) rfl (by decide) fl_X3_49 rfl rfl rfl dX3_empty_23 ?_
  refine g_aload_n B dX3_empty_26 rfl ?_
  refine g_iconst B (v := 0) dX3_empty_27 (by decide) ?_
  refine g_put B ci_X3 (by first | rfl | assumption) rfl (by decide) fl_X3_52 rfl rfl rfl dX3_empty_28 ?_
  exact g_vret B E dX3_empty_31 rfl
set_option maxHeartbeats 4000000 in
set_option maxRecDepth 100000 in
theorem ct_X3_become {I : Wo} {b o : Nat} (hS : Su b) (hO : Su o) (hd : o + 8 < b ∨ b + 8 < o) : Ct yX3_become cX3_become 2 none 1 40 [.ref b, .ref o] I (pV (fun u => BecR I u b o)) := by
  obtain ⟨s0, s1, s2, s3, s4, s5, s6, s7, s8⟩ := id hS
  obtain ⟨t0, t1, t2, t3, t4, t5, t6, t7, t8⟩ := id hO
  refine ct_of RX3 rfl (by decide) (Nat.le_of_ble_eq_true rfl) (fun X B E => ?_)
  show GW X 2 0 [some (.ref b), some (.ref o)] [] _
  refine g_aload_n B dX3_become_0 rfl ?_
  refine g_getr B ci_X3 (by first | rfl | assumption) rfl (by decide) fl_X3_9 dX3_become_1 ?_
  refine g_iconst B (v := 0) dX3_become_4 (by decide) ?_
  refine g_aload_n B dX3_become_5 rfl ?_
  refine g_getr B ci_X3 (by first | rfl | assumption) rfl (by decide) fl_X3_9 dX3_become_6 ?_
  refine g_iconst B (v := 0) dX3_become_9 (by decide) ?_
  refine g_bipush B (v := 8) dX3_become_10 (by decide) ?_
  refine g_acp B (by first | rfl | assumption) (by first | rfl | assumption) (by decide) (by decide) (by decide) rfl ml_X3_55 ac_nat ac_st ac_ini (by decide) (Nat.le_of_ble_eq_true rfl) dX3_become_12 ?_
  refine g_aload_n B dX3_become_15 rfl ?_
  refine g_getr B ci_X3 (by first | rfl | assumption) rfl (by decide) fl_X3_15 dX3_become_16 ?_
  refine g_iconst B (v := 0) dX3_become_19 (by decide) ?_
  refine g_aload_n B dX3_become_20 rfl ?_
  refine g_getr B ci_X3 (by first | rfl | assumption) rfl (by decide) fl_X3_15 dX3_become_21 ?_
  refine g_iconst B (v := 0) dX3_become_24 (by decide) ?_
  refine g_bipush B (v := 8) dX3_become_25 (by decide) ?_
  refine g_acp B (by first | rfl | assumption) (by first | rfl | assumption) (by decide) (by decide) (by decide) rfl ml_X3_55 ac_nat ac_st ac_ini (by decide) (Nat.le_of_ble_eq_true rfl) dX3_become_27 ?_
  refine g_aload_n B dX3_become_30 rfl ?_
  refine g_getr B ci_X3 (by first | rfl | assumption) rfl (by decide) fl_X3_18 dX3_become_31 ?_
  refine g_iconst B (v := 0) dX3_become_34 (by decide) ?_
  refine g_aload_n B dX3_become_35 rfl ?_
  refine g_getr B ci_X3 (by first | rfl | assumption) rfl (by decide) fl_X3_18 dX3_become_36 ?_
  refine g_iconst B (v := 0) dX3_become_39 (by decide) ?_
  refine g_bipush B (v := 8) dX3_become_40 (by decide) ?_
  refine g_acp B (by first | rfl | assumption) (by first | rfl | assumption) (by decide) (by decide) (by decide) rfl ml_X3_55 ac_nat ac_st ac_ini (by decide) (Nat.le_of_ble_eq_true rfl) dX3_become_42 ?_
  refine g_aload_n B dX3_become_45 rfl ?_
  refine g_getr B ci_X3 (by first | rfl | assumption) rfl (by decide) fl_X3_21 dX3_become_46 ?_
  refine g_iconst B (v := 0) dX3_become_49 (by decide) ?_
  refine g_aload_n B dX3_become_50 rfl ?_
  refine g_getr B ci_X3 (by first | rfl | assumption) rfl (by decide) fl_X3_21 dX3_become_51 ?_
  refine g_iconst B (v := 0) dX3_become_54 (by decide) ?_
  refine g_bipush B (v := 8) dX3_become_55 (by decide) ?_
  refine g_acp B (by first | rfl | assumption) (by first | rfl | assumption) (by decide) (by decide) (by decide) rfl ml_X3_55 ac_nat ac_st ac_ini (by decide) (Nat.le_of_ble_eq_true rfl) dX3_become_57 ?_
  refine g_aload_n B dX3_become_60 rfl ?_
  refine g_getr B ci_X3 (by first | rfl | assumption) rfl (by decide) fl_X3_24 dX3_become_61 ?_
  refine g_iconst B (v := 0) dX3_become_64 (by decide) ?_
  refine g_aload_n B dX3_become_65 rfl ?_
  refine g_getr B ci_X3 (by first | rfl | assumption) rfl (by decide) fl_X3_24 dX3_become_66 ?_
  refine g_iconst B (v := 0) dX3_become_69 (by decide) ?_
  refine g_bipush B (v := 8) dX3_become_70 (by decide) ?_
  refine g_acp B (by first | rfl | assumption) (by first | rfl | assumption) (by decide) (by decide) (by decide) rfl ml_X3_55 ac_nat ac_st ac_ini (by decide) (Nat.le_of_ble_eq_true rfl) dX3_become_72 ?_
  refine g_aload_n B dX3_become_75 rfl ?_
  refine g_getr B ci_X3 (by first | rfl | assumption) rfl (by decide) fl_X3_27 dX3_become_76 ?_
  refine g_iconst B (v := 0) dX3_become_79 (by decide) ?_
  refine g_aload_n B dX3_become_80 rfl ?_
  refine g_getr B ci_X3 (by first | rfl | assumption) rfl (by decide) fl_X3_27 dX3_become_81 ?_
  refine g_iconst B (v := 0) dX3_become_84 (by decide) ?_
  refine g_bipush B (v := 8) dX3_become_85 (by decide) ?_
  refine g_acp B (by first | rfl | assumption) (by first | rfl | assumption) (by decide) (by decide) (by decide) rfl ml_X3_55 ac_nat ac_st ac_ini (by decide) (Nat.le_of_ble_eq_true rfl) dX3_become_87 ?_
  refine g_aload_n B dX3_become_90 rfl ?_
  refine g_getr B ci_X3 (by first | rfl | assumption) rfl (by decide) fl_X3_30 dX3_become_91 ?_
  refine g_iconst B (v := 0) dX3_become_94 (by decide) ?_
  refine g_aload_n B dX3_become_95 rfl ?_
  refine g_getr B ci_X3 (by first | rfl | assumption) rfl (by decide) fl_X3_30 dX3_become_96 ?_
  refine g_iconst B (v := 0) dX3_become_99 (by decide) ?_
  refine g_bipush B (v := 6) dX3_become_100 (by decide) ?_
  refine g_acp B (by first | rfl | assumption) (by first | rfl | assumption) (by decide) (by decide) (by decide) rfl ml_X3_55 ac_nat ac_st ac_ini (by decide) (Nat.le_of_ble_eq_true rfl) dX3_become_102 ?_
  refine g_aload_n B dX3_become_105 rfl ?_
  refine g_getr B ci_X3 (by first | rfl | assumption) rfl (by decide) fl_X3_33 dX3_become_106 ?_
  refine g_iconst B (v := 0) dX3_become_109 (by decide) ?_
  refine g_aload_n B dX3_become_110 rfl ?_
  refine g_getr B ci_X3 (by first | rfl | assumption) rfl (by decide) fl_X3_33 dX3_become_111 ?_
  refine g_iconst B (v := 0) dX3_become_114 (by decide) ?_
  refine g_bipush B (v := 6) dX3_become_115 (by decide) ?_
  refine g_acp B (by first | rfl | assumption) (by first | rfl | assumption) (by decide) (by decide) (by decide) rfl ml_X3_55 ac_nat ac_st ac_ini (by decide) (Nat.le_of_ble_eq_true rfl) dX3_become_117 ?_
  refine g_aload_n B dX3_become_120 rfl ?_
  refine g_aload_n B dX3_become_121 rfl ?_
  refine g_geti B ci_X3 (by first | rfl | assumption) rfl (by decide) fl_X3_61 dX3_become_122 ?_
  refine g_eqi (I o 8) (by simp (disch := omega) only [w2_cell, cp_ne]) ?_
  refine g_put B ci_X3 (by first | rfl | assumption) rfl (by decide) fl_X3_61 rfl rfl rfl dX3_become_125 ?_
  refine g_aload_n B dX3_become_128 rfl ?_
  refine g_aload_n B dX3_become_129 rfl ?_
  refine g_geti B ci_X3 (by first | rfl | assumption) rfl (by decide) fl_X3_40 dX3_become_130 ?_
  refine g_eqi (I o 9) (by simp (disch := omega) only [w2_cell, cp_ne]) ?_
  refine g_put B ci_X3 (by first | rfl | assumption) rfl (by decide) fl_X3_40 rfl rfl rfl dX3_become_133 ?_
  refine g_aload_n B dX3_become_136 rfl ?_
  refine g_aload_n B dX3_become_137 rfl ?_
  refine g_geti B ci_X3 (by first | rfl | assumption) rfl (by decide) fl_X3_36 dX3_become_138 ?_
  refine g_eqi (I o 10) (by simp (disch := omega) only [w2_cell, cp_ne]) ?_
  refine g_put B ci_X3 (by first | rfl | assumption) rfl (by decide) fl_X3_36 rfl rfl rfl dX3_become_141 ?_
  refine g_aload_n B dX3_become_144 rfl ?_
  refine g_aload_n B dX3_become_145 rfl ?_
  refine g_geti B ci_X3 (by first | rfl | assumption) rfl (by decide) fl_X3_43 dX3_become_146 ?_
  refine g_eqi (I o 11) (by simp (disch := omega) only [w2_cell, cp_ne]) ?_
  refine g_put B ci_X3 (by first | rfl | assumption) rfl (by decide) fl_X3_43 rfl rfl rfl dX3_become_149 ?_
  refine g_aload_n B dX3_become_152 rfl ?_
  refine g_aload_n B dX3_become_153 rfl ?_
  refine g_geti B ci_X3 (by first | rfl | assumption) rfl (by decide) fl_X3_46 dX3_become_154 ?_
  refine g_eqi (I o 12) (by simp (disch := omega) only [w2_cell, cp_ne]) ?_
  refine g_put B ci_X3 (by first | rfl | assumption) rfl (by decide) fl_X3_46 rfl rfl rfl dX3_become_157 ?_
  refine g_aload_n B dX3_become_160 rfl ?_
  refine g_aload_n B dX3_become_161 rfl ?_
  refine g_geti B ci_X3 (by first | rfl | assumption) rfl (by decide) fl_X3_49 dX3_become_162 ?_
  refine g_eqi (I o 13) (by simp (disch := omega) only [w2_cell, cp_ne]) ?_
  refine g_put B ci_X3 (by first | rfl | assumption) rfl (by decide) fl_X3_49 rfl rfl rfl dX3_become_165 ?_
  refine g_aload_n B dX3_become_168 rfl ?_
  refine g_aload_n B dX3_become_169 rfl ?_
  refine g_geti B ci_X3 (by first | rfl | assumption) rfl (by decide) fl_X3_52 dX3_become_170 ?_
  refine g_eqi (I o 14) (by simp (disch := omega) only [w2_cell, cp_ne]) ?_
  refine g_put B ci_X3 (by first | rfl | assumption) rfl (by decide) fl_X3_52 rfl rfl rfl dX3_become_173 ?_
  refine g_vret B E dX3_become_176 ?_
  refine ⟨fun i h1 h2 k hk => ?_, fun i h1 h2 k hk => ?_, fun k h1 h2 => ?_, fun a k ha => ?_⟩
  · rcases (show i = 1 ∨ i = 2 ∨ i = 3 ∨ i = 4 ∨ i = 5 ∨ i = 6 by omega) with rfl | rfl | rfl | rfl | rfl | rfl <;> simp (disch := omega) only [w2_cell, cp_hit, cp_ne]
  · rcases (show i = 7 ∨ i = 8 by omega) with rfl | rfl <;> simp (disch := omega) only [w2_cell, cp_hit, cp_ne]
  · rcases (show k = 8 ∨ k = 9 ∨ k = 10 ∨ k = 11 ∨ k = 12 ∨ k = 13 ∨ k = 14 by omega) with rfl | rfl | rfl | rfl | rfl | rfl | rfl <;> simp (disch := omega) only [w2_same, w2_slot, w2_cell, cp_ne]
  · simp (disch := omega) only [w2_cell, cp_ne]
set_option maxHeartbeats 4000000 in
set_option maxRecDepth 100000 in
theorem ct_X7_isSheet {I : Wo} (k lane : Int32) : Ct yX7_isSheet cX7_isSheet 2 (some .boolean) 1 25 [.int k, .int lane] I (pI (fun r u => r = bI (wi k 0 3 && wi lane 0 2) ∧ I = u)) := by
  refine ct_of RX7 rfl (by decide) (Nat.le_of_ble_eq_true rfl) (fun X B E => ?_)
  show GW X 2 0 [some (.int k), some (.int lane)] [] _
  refine g_iload_n B dX7_isSheet_0 rfl ?_
  refine g_i2l B dX7_isSheet_1 ?_
  refine g_lconst B (v := 0) dX7_isSheet_2 (by decide) ?_
  refine g_ldc2 B dX7_isSheet_3 cn_X7_154 ?_
  refine g_callSI B (ct_in _ 0 3 rfl (by decide) (by decide)) ml_X7_77 mm_X7_in rfl rfl (Nat.le_of_ble_eq_true rfl) dX7_isSheet_6 (by decide) ?_
  rintro _ _ ⟨rfl, rfl⟩
  refine g_if_eq B 28 dX7_isSheet_9 (by decide) (fun h9 => ?_) (fun h9 => ?_)
  · rw [bI_eq0] at h9
    refine g_iconst B (v := 0) dX7_isSheet_28 (by decide) ?_
    exact g_iret B E (by first | exact bI_nar _ | decide | exact bI_narv (by assumption)) dX7_isSheet_29 ⟨by simp_all [bI], rfl⟩
  · rw [bI_ne0] at h9
    refine g_iload_n B dX7_isSheet_12 rfl ?_
    refine g_i2l B dX7_isSheet_13 ?_
    refine g_lconst B (v := 0) dX7_isSheet_14 (by decide) ?_
    refine g_ldc2 B dX7_isSheet_15 cn_X7_194 ?_
    refine g_callSI B (ct_in _ 0 2 rfl (by decide) (by decide)) ml_X7_77 mm_X7_in rfl rfl (Nat.le_of_ble_eq_true rfl) dX7_isSheet_18 (by decide) ?_
    rintro _ _ ⟨rfl, rfl⟩
    refine g_if_eq B 28 dX7_isSheet_21 (by decide) (fun h21 => ?_) (fun h21 => ?_)
    · rw [bI_eq0] at h21
      refine g_iconst B (v := 0) dX7_isSheet_28 (by decide) ?_
      exact g_iret B E (by first | exact bI_nar _ | decide | exact bI_narv (by assumption)) dX7_isSheet_29 ⟨by simp_all [bI], rfl⟩
    · rw [bI_ne0] at h21
      refine g_iconst B (v := 1) dX7_isSheet_24 (by decide) ?_
      refine g_goto B 29 dX7_isSheet_25 (by decide) ?_
      exact g_iret B E (by first | exact bI_nar _ | decide | exact bI_narv (by assumption)) dX7_isSheet_29 ⟨by simp_all [bI], rfl⟩
set_option maxHeartbeats 4000000 in
set_option maxRecDepth 100000 in
theorem ct_X7_byteAt {I : Wo} {q p : Nat} (hq : I 57 14 = nI q) (hq6 : q ≤ 160) (hp : p < 2 ^ 31) : Ct yX7_byteAt cX7_byteAt 2 (some .int) 0 0 [.ref 57, .int (nI p)] I (pI (fun r u => r = (if p < q then I 67 p else -1) ∧ I = u)) := by
  refine ct_of RX7 rfl (by decide) (Nat.le_of_ble_eq_true rfl) (fun X B E => ?_)
  show GW X 2 0 [some (.ref 57), some (.int (nI p))] [] _
  refine g_iload_n B dX7_byteAt_0 rfl ?_
  refine g_aload_n B dX7_byteAt_1 rfl ?_
  refine g_geti B ci_X7 (by first | rfl | assumption) rfl (by decide) fl_X7_81 dX7_byteAt_2 ?_
  refine g_icmp_ge B 17 dX7_byteAt_5 (by decide) (fun h5 => ?_) (fun h5 => ?_)
  · have hge : q ≤ p := le_le (by omega) hp (by rw [← hq]; exact h5)
    refine g_iconst B (v := (-1)) dX7_byteAt_17 (by decide) ?_
    exact g_iret B E rfl dX7_byteAt_18 ⟨by first | rw [if_pos hlt] | rw [if_neg (by omega)], rfl⟩
  · have hlt : p < q := nle_lt (by omega) hp (by rw [← hq]; exact h5)
    refine g_aload_n B dX7_byteAt_8 rfl ?_
    refine g_getr B ci_X7 (by first | rfl | assumption) rfl (by decide) fl_X7_38 dX7_byteAt_9 ?_
    refine g_iload_n B dX7_byteAt_12 rfl ?_
    refine g_iald B (by first | rfl | assumption) _ (by first | with_reducible rfl | exact lit_add _ _ | exact add_lit _ _ | exact nI_add _ _ | exact lit_nI _ | assumption | rfl) (by first | decide | omega | assumption) (by decide) dX7_byteAt_13 ?_
    refine g_goto B 18 dX7_byteAt_14 (by decide) ?_
    exact g_iret B E rfl dX7_byteAt_18 ⟨by first | rw [if_pos hlt] | rw [if_neg (by omega)], rfl⟩
set_option maxHeartbeats 4000000 in
set_option maxRecDepth 100000 in
theorem ct_J6_bitCount_0f7a4 {I : Wo} (x : Int32) : Ct yJ6_bitCount_0f7a4 cJ6_bitCount_0f7a4 1 (some .int) 0 0 [.int x] I (pI (fun r u => r = bcJ x ∧ I = u)) := by
  refine ct_of RJ6 rfl (by decide) (Nat.le_of_ble_eq_true rfl) (fun X B E => ?_)
  show GW X 1 0 [some (.int x)] [] _
  refine g_iload_n B dJ6_bitCount_0f7a4_0 rfl ?_
  refine g_iload_n B dJ6_bitCount_0f7a4_1 rfl ?_
  refine g_iconst B (v := 1) dJ6_bitCount_0f7a4_2 (by decide) ?_
  refine g_iushr B dJ6_bitCount_0f7a4_3 ?_
  refine g_ldcw B dJ6_bitCount_0f7a4_4 cn_J6_265 ?_
  refine g_iand B dJ6_bitCount_0f7a4_7 ?_
  refine g_isub B dJ6_bitCount_0f7a4_8 ?_
  refine g_istn0 B dJ6_bitCount_0f7a4_9 (by decide) rfl ?_
  refine g_iload_n B dJ6_bitCount_0f7a4_10 rfl ?_
  refine g_ldcw B dJ6_bitCount_0f7a4_11 cn_J6_266 ?_
  refine g_iand B dJ6_bitCount_0f7a4_14 ?_
  refine g_iload_n B dJ6_bitCount_0f7a4_15 rfl ?_
  refine g_iconst B (v := 2) dJ6_bitCount_0f7a4_16 (by decide) ?_
  refine g_iushr B dJ6_bitCount_0f7a4_17 ?_
  refine g_ldcw B dJ6_bitCount_0f7a4_18 cn_J6_266 ?_
  refine g_iand B dJ6_bitCount_0f7a4_21 ?_
  refine g_iadd B dJ6_bitCount_0f7a4_22 ?_
  refine g_istn0 B dJ6_bitCount_0f7a4_23 (by decide) rfl ?_
  refine g_iload_n B dJ6_bitCount_0f7a4_24 rfl ?_
  refine g_iload_n B dJ6_bitCount_0f7a4_25 rfl ?_
  refine g_iconst B (v := 4) dJ6_bitCount_0f7a4_26 (by decide) ?_
  refine g_iushr B dJ6_bitCount_0f7a4_27 ?_
  refine g_iadd B dJ6_bitCount_0f7a4_28 ?_
  refine g_ldcw B dJ6_bitCount_0f7a4_29 cn_J6_267 ?_
  refine g_iand B dJ6_bitCount_0f7a4_32 ?_
  refine g_istn0 B dJ6_bitCount_0f7a4_33 (by decide) rfl ?_
  refine g_iload_n B dJ6_bitCount_0f7a4_34 rfl ?_
  refine g_iload_n B dJ6_bitCount_0f7a4_35 rfl ?_
  refine g_bipush B (v := 8) dJ6_bitCount_0f7a4_36 (by decide) ?_
  refine g_iushr B dJ6_bitCount_0f7a4_38 ?_
  refine g_iadd B dJ6_bitCount_0f7a4_39 ?_
  refine g_istn0 B dJ6_bitCount_0f7a4_40 (by decide) rfl ?_
  refine g_iload_n B dJ6_bitCount_0f7a4_41 rfl ?_
  refine g_iload_n B dJ6_bitCount_0f7a4_42 rfl ?_
  refine g_bipush B (v := 16) dJ6_bitCount_0f7a4_43 (by decide) ?_
  refine g_iushr B dJ6_bitCount_0f7a4_45 ?_
  refine g_iadd B dJ6_bitCount_0f7a4_46 ?_
  refine g_istn0 B dJ6_bitCount_0f7a4_47 (by decide) rfl ?_
  refine g_iload_n B dJ6_bitCount_0f7a4_48 rfl ?_
  refine g_bipush B (v := 63) dJ6_bitCount_0f7a4_49 (by decide) ?_
  refine g_iand B dJ6_bitCount_0f7a4_51 ?_
  exact g_iret B E rfl dJ6_bitCount_0f7a4_52 ⟨rfl, rfl⟩

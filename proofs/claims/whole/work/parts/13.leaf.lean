set_option maxHeartbeats 4000000 in
set_option maxRecDepth 100000 in
theorem ct_X6_within {I : Wo} (v low high : Int32) : Ct yX6_within cX6_within 3 (some .boolean) 0 0 [.int v, .int low, .int high] I (pI (fun r u => r = bI (wi v low high) ∧ I = u)) := by
  refine ct_of RX6 rfl (by decide) (Nat.le_of_ble_eq_true rfl) (fun X B E => ?_)
  show GW X 3 0 [some (.int v), some (.int low), some (.int high)] [] _
  refine g_iload_n B dX6_within_0 rfl ?_
  refine g_iload_n B dX6_within_1 rfl ?_
  refine g_icmp_lt B 14 dX6_within_2 (by decide) (fun h2 => ?_) (fun h2 => ?_)
  · refine g_iconst B (v := 0) dX6_within_14 (by decide) ?_
    exact g_iret B E (by first | exact bI_nar _ | decide | exact bI_narv (by assumption)) dX6_within_15 ⟨by simp [bI, wi, *], rfl⟩
  · refine g_iload_n B dX6_within_5 rfl ?_
    refine g_iload_n B dX6_within_6 rfl ?_
    refine g_icmp_gt B 14 dX6_within_7 (by decide) (fun h7 => ?_) (fun h7 => ?_)
    · refine g_iconst B (v := 0) dX6_within_14 (by decide) ?_
      exact g_iret B E (by first | exact bI_nar _ | decide | exact bI_narv (by assumption)) dX6_within_15 ⟨by simp [bI, wi, *], rfl⟩
    · refine g_iconst B (v := 1) dX6_within_10 (by decide) ?_
      refine g_goto B 15 dX6_within_11 (by decide) ?_
      exact g_iret B E (by first | exact bI_nar _ | decide | exact bI_narv (by assumption)) dX6_within_15 ⟨by simp [bI, wi, *], rfl⟩
set_option maxHeartbeats 4000000 in
set_option maxRecDepth 100000 in
theorem ct_X6_oneIf {I : Wo} (b : Bool) : Ct yX6_oneIf cX6_oneIf 1 (some .int) 0 0 [.int (bI b)] I (pI (fun r u => r = bI b ∧ I = u)) := by
  refine ct_of RX6 rfl (by decide) (Nat.le_of_ble_eq_true rfl) (fun X B E => ?_)
  show GW X 1 0 [some (.int (bI b))] [] _
  refine g_iload_n B dX6_oneIf_0 rfl ?_
  refine g_if_eq B 8 dX6_oneIf_1 (by decide) (fun h1 => ?_) (fun h1 => ?_)
  · refine g_iconst B (v := 0) dX6_oneIf_8 (by decide) ?_
    exact g_iret B E rfl dX6_oneIf_9 ⟨by simp_all [bI], rfl⟩
  · refine g_iconst B (v := 1) dX6_oneIf_4 (by decide) ?_
    refine g_goto B 9 dX6_oneIf_5 (by decide) ?_
    exact g_iret B E rfl dX6_oneIf_9 ⟨by simp_all [bI], rfl⟩
set_option maxHeartbeats 4000000 in
set_option maxRecDepth 100000 in
theorem ct_X3_hasClaim {I : Wo} {b n : Nat} (hS : Su b) (hn : I b 9 = nI n) (c : Int32) : Ct yX3_hasClaim cX3_hasClaim 2 (some .boolean) 0 0 [.ref b, .int c] I (pI (fun r u => r = bI (cOK n c) ∧ I = u)) := by
  obtain ⟨s0, -⟩ := id hS
  refine ct_of RX3 rfl (by decide) (Nat.le_of_ble_eq_true rfl) (fun X B E => ?_)
  show GW X 2 0 [some (.ref b), some (.int c)] [] _
  refine g_iload_n B dX3_hasClaim_0 rfl ?_
  refine g_if_lt B 16 dX3_hasClaim_1 (by decide) (fun h1 => ?_) (fun h1 => ?_)
  · refine g_iconst B (v := 0) dX3_hasClaim_16 (by decide) ?_
    exact g_iret B E (by first | exact bI_nar _ | decide | exact bI_narv (by assumption)) dX3_hasClaim_17 ⟨by simp [bI, cOK, *], rfl⟩
  · refine g_iload_n B dX3_hasClaim_4 rfl ?_
    refine g_aload_n B dX3_hasClaim_5 rfl ?_
    refine g_geti B ci_X3 (by first | rfl | assumption) rfl (by decide) fl_X3_40 dX3_hasClaim_6 ?_
    refine g_icmp_ge B 16 dX3_hasClaim_9 (by decide) (fun h9 => ?_) (fun h9 => ?_)
    · rw [hn] at h9
      refine g_iconst B (v := 0) dX3_hasClaim_16 (by decide) ?_
      exact g_iret B E (by first | exact bI_nar _ | decide | exact bI_narv (by assumption)) dX3_hasClaim_17 ⟨by simp [bI, cOK, *], rfl⟩
    · rw [hn] at h9
      refine g_iconst B (v := 1) dX3_hasClaim_12 (by decide) ?_
      refine g_goto B 17 dX3_hasClaim_13 (by decide) ?_
      exact g_iret B E (by first | exact bI_nar _ | decide | exact bI_narv (by assumption)) dX3_hasClaim_17 ⟨by simp [bI, cOK, *], rfl⟩
set_option maxHeartbeats 4000000 in
set_option maxRecDepth 100000 in
theorem ct_X3_hasSet {I : Wo} {b n : Nat} (hS : Su b) (hn : I b 9 = nI n) (hn8 : n ≤ 8) (c : Int32) : Ct yX3_hasSet cX3_hasSet 2 (some .boolean) 0 0 [.ref b, .int c] I (pI (fun r u => r = bI (cOK (2 ^ n) c) ∧ I = u)) := by
  obtain ⟨s0, -⟩ := id hS
  refine ct_of RX3 rfl (by decide) (Nat.le_of_ble_eq_true rfl) (fun X B E => ?_)
  show GW X 2 0 [some (.ref b), some (.int c)] [] _
  refine g_iload_n B dX3_hasSet_0 rfl ?_
  refine g_if_lt B 18 dX3_hasSet_1 (by decide) (fun h1 => ?_) (fun h1 => ?_)
  · refine g_iconst B (v := 0) dX3_hasSet_18 (by decide) ?_
    exact g_iret B E (by first | exact bI_nar _ | decide | exact bI_narv (by assumption)) dX3_hasSet_19 ⟨by simp [bI, cOK, *], rfl⟩
  · refine g_iload_n B dX3_hasSet_4 rfl ?_
    refine g_iconst B (v := 1) dX3_hasSet_5 (by decide) ?_
    refine g_aload_n B dX3_hasSet_6 rfl ?_
    refine g_geti B ci_X3 (by first | rfl | assumption) rfl (by decide) fl_X3_40 dX3_hasSet_7 ?_
    refine g_ishl B dX3_hasSet_10 ?_
    refine g_icmp_ge B 18 dX3_hasSet_11 (by decide) (fun h11 => ?_) (fun h11 => ?_)
    · rw [hn, shl1 hn8] at h11
      refine g_iconst B (v := 0) dX3_hasSet_18 (by decide) ?_
      exact g_iret B E (by first | exact bI_nar _ | decide | exact bI_narv (by assumption)) dX3_hasSet_19 ⟨by simp [bI, cOK, *], rfl⟩
    · rw [hn, shl1 hn8] at h11
      refine g_iconst B (v := 1) dX3_hasSet_14 (by decide) ?_
      refine g_goto B 19 dX3_hasSet_15 (by decide) ?_
      exact g_iret B E (by first | exact bI_nar _ | decide | exact bI_narv (by assumption)) dX3_hasSet_19 ⟨by simp [bI, cOK, *], rfl⟩
set_option maxHeartbeats 4000000 in
set_option maxRecDepth 100000 in
theorem ct_X3_isSaid {I : Wo} {b : Nat} (hS : Su b) (c : Int32) : Ct yX3_isSaid cX3_isSaid 2 (some .boolean) 0 0 [.ref b, .int c] I (pI (fun r u => r = bI (decide ((I b 12 >>> (c &&& 31)) &&& 1 = 1)) ∧ I = u)) := by
  obtain ⟨s0, -⟩ := id hS
  refine ct_of RX3 rfl (by decide) (Nat.le_of_ble_eq_true rfl) (fun X B E => ?_)
  show GW X 2 0 [some (.ref b), some (.int c)] [] _
  refine g_aload_n B dX3_isSaid_0 rfl ?_
  refine g_geti B ci_X3 (by first | rfl | assumption) rfl (by decide) fl_X3_46 dX3_isSaid_1 ?_
  refine g_iload_n B dX3_isSaid_4 rfl ?_
  refine g_ishr B dX3_isSaid_5 ?_
  refine g_iconst B (v := 1) dX3_isSaid_6 (by decide) ?_
  refine g_iand B dX3_isSaid_7 ?_
  refine g_iconst B (v := 1) dX3_isSaid_8 (by decide) ?_
  refine g_icmp_ne B 16 dX3_isSaid_9 (by decide) (fun h9 => ?_) (fun h9 => ?_)
  · refine g_iconst B (v := 0) dX3_isSaid_16 (by decide) ?_
    exact g_iret B E (by first | exact bI_nar _ | decide | exact bI_narv (by assumption)) dX3_isSaid_17 ⟨by simp [bI, *], rfl⟩
  · refine g_iconst B (v := 1) dX3_isSaid_12 (by decide) ?_
    refine g_goto B 17 dX3_isSaid_13 (by decide) ?_
    exact g_iret B E (by first | exact bI_nar _ | decide | exact bI_narv (by assumption)) dX3_isSaid_17 ⟨by simp [bI, *], rfl⟩
set_option maxHeartbeats 4000000 in
set_option maxRecDepth 100000 in
theorem ct_X3_inTime {I : Wo} {b : Nat} (hS : Su b) {c : Nat} (hc : c < 8) (d : Int32) : Ct yX3_inTime cX3_inTime 3 (some .boolean) 0 0 [.ref b, .int (nI c), .int d] I (pI (fun r u => r = bI (inT (I (b + 2) c) (I (b + 3) c) d) ∧ I = u)) := by
  obtain ⟨s0, s1, s2, s3, -⟩ := id hS
  refine ct_of RX3 rfl (by decide) (Nat.le_of_ble_eq_true rfl) (fun X B E => ?_)
  show GW X 3 0 [some (.ref b), some (.int (nI c)), some (.int d)] [] _
  refine g_iload_n B dX3_inTime_0 rfl ?_
  refine g_aload_n B dX3_inTime_1 rfl ?_
  refine g_getr B ci_X3 (by first | rfl | assumption) rfl (by decide) fl_X3_15 dX3_inTime_2 ?_
  refine g_iload_n B dX3_inTime_5 rfl ?_
  refine g_iald B (by first | rfl | assumption) _ (by first | with_reducible rfl | exact lit_add _ _ | exact add_lit _ _ | exact nI_add _ _ | exact lit_nI _ | assumption | rfl) (by first | decide | omega | assumption) (by decide) dX3_inTime_6 ?_
  refine g_icmp_lt B 24 dX3_inTime_7 (by decide) (fun h7 => ?_) (fun h7 => ?_)
  · refine g_iconst B (v := 0) dX3_inTime_24 (by decide) ?_
    exact g_iret B E (by first | exact bI_nar _ | decide | exact bI_narv (by assumption)) dX3_inTime_25 ⟨by simp [bI, inT, *], rfl⟩
  · refine g_iload_n B dX3_inTime_10 rfl ?_
    refine g_aload_n B dX3_inTime_11 rfl ?_
    refine g_getr B ci_X3 (by first | rfl | assumption) rfl (by decide) fl_X3_18 dX3_inTime_12 ?_
    refine g_iload_n B dX3_inTime_15 rfl ?_
    refine g_iald B (by first | rfl | assumption) _ (by first | with_reducible rfl | exact lit_add _ _ | exact add_lit _ _ | exact nI_add _ _ | exact lit_nI _ | assumption | rfl) (by first | decide | omega | assumption) (by decide) dX3_inTime_16 ?_
    refine g_icmp_gt B 24 dX3_inTime_17 (by decide) (fun h17 => ?_) (fun h17 => ?_)
    · refine g_iconst B (v := 0) dX3_inTime_24 (by decide) ?_
      exact g_iret B E (by first | exact bI_nar _ | decide | exact bI_narv (by assumption)) dX3_inTime_25 ⟨by simp [bI, inT, *], rfl⟩
    · refine g_iconst B (v := 1) dX3_inTime_20 (by decide) ?_
      refine g_goto B 25 dX3_inTime_21 (by decide) ?_
      exact g_iret B E (by first | exact bI_nar _ | decide | exact bI_narv (by assumption)) dX3_inTime_25 ⟨by simp [bI, inT, *], rfl⟩
set_option maxHeartbeats 4000000 in
set_option maxRecDepth 100000 in
theorem ct_X3_endStands {I : Wo} {b n : Nat} (hS : Su b) (hn : I b 9 = nI n) (hn8 : n ≤ 8) (set : Int32) : Ct yX3_endStands cX3_endStands 2 (some .boolean) 1 24 [.ref b, .int set] I (pI (fun r u => r = bI (esF n (I (b + 5)) (I (b + 6)) (I b 10) set) ∧ I = u)) := by
  obtain ⟨s0, -⟩ := id hS
  refine ct_of RX3 rfl (by decide) (Nat.le_of_ble_eq_true rfl) (fun X B E => ?_)
  show GW X 2 0 [some (.ref b), some (.int set)] [] _
  refine g_aload_n B dX3_endStands_0 rfl ?_
  refine g_aload_n B dX3_endStands_1 rfl ?_
  refine g_geti B ci_X3 (by first | rfl | assumption) rfl (by decide) fl_X3_36 dX3_endStands_2 ?_
  refine g_callVI B (ct_X3_hasClaim hS hn _) (by first | rfl | assumption) rfl ml_X3_64 mm_X3_hasClaim rfl rfl (Nat.le_of_ble_eq_true rfl) dX3_endStands_5 (by decide) ?_
  rintro _ _ ⟨rfl, rfl⟩
  refine g_if_eq B 31 dX3_endStands_8 (by decide) (fun h8 => ?_) (fun h8 => ?_)
  · rw [bI_eq0] at h8
    refine g_iconst B (v := 0) dX3_endStands_31 (by decide) ?_
    exact g_iret B E (by first | exact bI_nar _ | decide | exact bI_narv (by assumption)) dX3_endStands_32 ⟨by simp [bI, esF, *], rfl⟩
  · rw [bI_ne0] at h8
    refine g_aload_n B dX3_endStands_11 rfl ?_
    refine g_iload_n B dX3_endStands_12 rfl ?_
    refine g_callVI B (ct_X3_standing hS hn hn8 _) (by first | rfl | assumption) rfl ml_X3_68 mm_X3_standing rfl rfl (Nat.le_of_ble_eq_true rfl) dX3_endStands_13 (by decide) ?_
    rintro _ _ ⟨rfl, rfl⟩
    refine g_aload_n B dX3_endStands_16 rfl ?_
    refine g_geti B ci_X3 (by first | rfl | assumption) rfl (by decide) fl_X3_36 dX3_endStands_17 ?_
    refine g_ishr B dX3_endStands_20 ?_
    refine g_iconst B (v := 1) dX3_endStands_21 (by decide) ?_
    refine g_iand B dX3_endStands_22 ?_
    refine g_iconst B (v := 1) dX3_endStands_23 (by decide) ?_
    refine g_icmp_ne B 31 dX3_endStands_24 (by decide) (fun h24 => ?_) (fun h24 => ?_)
    · refine g_iconst B (v := 0) dX3_endStands_31 (by decide) ?_
      exact g_iret B E (by first | exact bI_nar _ | decide | exact bI_narv (by assumption)) dX3_endStands_32 ⟨by simp [bI, esF, *], rfl⟩
    · refine g_iconst B (v := 1) dX3_endStands_27 (by decide) ?_
      refine g_goto B 32 dX3_endStands_28 (by decide) ?_
      exact g_iret B E (by first | exact bI_nar _ | decide | exact bI_narv (by assumption)) dX3_endStands_32 ⟨by simp [bI, esF, *], rfl⟩
set_option maxHeartbeats 4000000 in
set_option maxRecDepth 100000 in
theorem ct_X3_addToPlan {I : Wo} {b q : Nat} (hS : Su b) (hq : I b 13 = nI q) (hq6 : q ≤ 6) (c : Int32) : Ct yX3_addToPlan cX3_addToPlan 2 (some .boolean) 0 0 [.ref b, .int c] I (pI (fun r u => (q < 6 ∧ r = 1 ∧ u = w2 (w2 I (b + 7) q c) b 13 (nI (q + 1))) ∨ (q = 6 ∧ r = 0 ∧ I = u))) := by
  obtain ⟨s0, s1, s2, s3, s4, s5, s6, s7, s8⟩ := id hS
  refine ct_of RX3 rfl (by decide) (Nat.le_of_ble_eq_true rfl) (fun X B E => ?_)
  show GW X 2 0 [some (.ref b), some (.int c)] [] _
  refine g_aload_n B dX3_addToPlan_0 rfl ?_
  refine g_geti B ci_X3 (by first | rfl | assumption) rfl (by decide) fl_X3_49 dX3_addToPlan_1 ?_
  refine g_bipush B (v := 6) dX3_addToPlan_4 (by decide) ?_
  refine g_icmp_lt B 11 dX3_addToPlan_6 (by decide) (fun h6 => ?_) (fun h6 => ?_)
  · have hlt : q < 6 := lt_lt (a := q) (b := 6) (by omega) (by decide) (by rw [← hq]; exact h6)
    refine g_aload_n B dX3_addToPlan_11 rfl ?_
    refine g_getr B ci_X3 (by first | rfl | assumption) rfl (by decide) fl_X3_30 dX3_addToPlan_12 ?_
    refine g_aload_n B dX3_addToPlan_15 rfl ?_
    refine g_geti B ci_X3 (by first | rfl | assumption) rfl (by decide) fl_X3_49 dX3_addToPlan_16 ?_
    refine g_iload_n B dX3_addToPlan_19 rfl ?_
    refine g_iast B (by first | rfl | assumption) q hq (by first | decide | omega | assumption) (by decide) dX3_addToPlan_20 ?_
    refine g_aload_n B dX3_addToPlan_21 rfl ?_
    refine g_dup B dX3_addToPlan_22 rfl ?_
    refine g_geti B ci_X3 (by first | rfl | assumption) rfl (by decide) fl_X3_49 dX3_addToPlan_23 ?_
    refine g_iconst B (v := 1) dX3_addToPlan_26 (by decide) ?_
    refine g_iadd B dX3_addToPlan_27 ?_
    refine g_eqi (nI (q + 1)) (by rw [w2_cell _ _ (by omega), hq]; exact nI_1 q) ?_
    refine g_put B ci_X3 (by first | rfl | assumption) rfl (by decide) fl_X3_49 rfl rfl rfl dX3_addToPlan_28 ?_
    refine g_iconst B (v := 1) dX3_addToPlan_31 (by decide) ?_
    exact g_iret B E (by first | exact bI_nar _ | decide | exact bI_narv (by assumption)) dX3_addToPlan_32 (Or.inl ⟨hlt, rfl, rfl⟩)
  · have hge : q = 6 := by have := nlt_le (a := q) (b := 6) (by omega) (by decide) (by rw [← hq]; exact h6); omega
    refine g_iconst B (v := 0) dX3_addToPlan_9 (by decide) ?_
    exact g_iret B E (by first | exact bI_nar _ | decide | exact bI_narv (by assumption)) dX3_addToPlan_10 (Or.inr ⟨hge, rfl, rfl⟩)
set_option maxHeartbeats 4000000 in
set_option maxRecDepth 100000 in
theorem ct_X7_in {I : Wo} (v low high : Int64) : Ct yX7_in cX7_in 6 (some .boolean) 0 0 [.long v, .long low, .long high] I (pI (fun r u => r = bI (wiL v low high) ∧ I = u)) := by
  refine ct_of RX7 rfl (by decide) (Nat.le_of_ble_eq_true rfl) (fun X B E => ?_)
  show GW X 6 0 [some (.long v), none, some (.long low), none, some (.long high), none] [] _
  refine g_lload_n B dX7_in_0 rfl ?_
  refine g_lload_n B dX7_in_1 rfl ?_
  refine g_lcmp B dX7_in_2 ?_
  refine g_if_lt B 17 dX7_in_3 (by decide) (fun h3 => ?_) (fun h3 => ?_)
  · rw [cmp_lt] at h3
    refine g_iconst B (v := 0) dX7_in_17 (by decide) ?_
    exact g_iret B E (by first | exact bI_nar _ | decide | exact bI_narv (by assumption)) dX7_in_18 ⟨by simp [bI, wiL, *], rfl⟩
  · rw [cmp_lt] at h3
    refine g_lload_n B dX7_in_6 rfl ?_
    refine g_lload B dX7_in_7 rfl ?_
    refine g_lcmp B dX7_in_9 ?_
    refine g_if_gt B 17 dX7_in_10 (by decide) (fun h10 => ?_) (fun h10 => ?_)
    · rw [cmp_gt] at h10
      refine g_iconst B (v := 0) dX7_in_17 (by decide) ?_
      exact g_iret B E (by first | exact bI_nar _ | decide | exact bI_narv (by assumption)) dX7_in_18 ⟨by simp [bI, wiL, *], rfl⟩
    · rw [cmp_gt] at h10
      refine g_iconst B (v := 1) dX7_in_13 (by decide) ?_
      refine g_goto B 18 dX7_in_14 (by decide) ?_
      exact g_iret B E (by first | exact bI_nar _ | decide | exact bI_narv (by assumption)) dX7_in_18 ⟨by simp [bI, wiL, *], rfl⟩
theorem ct_in {I : Wo} {a b c : Int64} (v lo hi : Int32) (ha : a = v.toInt64) (hb : b = lo.toInt64) (hc : c = hi.toInt64) : Ct yX7_in cX7_in 6 (some .boolean) 0 0 [.long a, .long b, .long c] I (pI (fun r u => r = bI (wi v lo hi) ∧ I = u)) := by
  subst ha; subst hb; subst hc
  rw [← wiL_wide]
  exact ct_X7_in _ _ _
theorem zero_shl (x : Int32) : (0 : Int32) <<< x = 0 := by
  apply Int32.toBitVec_inj.mp
  simp
set_option maxHeartbeats 4000000 in
set_option maxRecDepth 100000 in
theorem ct_X7_isPart {I : Wo} (v : Int32) : Ct yX7_isPart cX7_isPart 1 (some .boolean) 1 25 [.int v] I (pI (fun r u => r = bI (wi v 0 1) ∧ I = u)) := by
  refine ct_of RX7 rfl (by decide) (Nat.le_of_ble_eq_true rfl) (fun X B E => ?_)
  show GW X 1 0 [some (.int v)] [] _
  refine g_iload_n B dX7_isPart_0 rfl ?_
  refine g_i2l B dX7_isPart_1 ?_
  refine g_lconst B (v := 0) dX7_isPart_2 (by decide) ?_
  refine g_lconst B (v := 1) dX7_isPart_3 (by decide) ?_
  refine g_callSI B (ct_in _ 0 1 rfl (by decide) (by decide)) ml_X7_77 mm_X7_in rfl rfl (Nat.le_of_ble_eq_true rfl) dX7_isPart_4 (by decide) ?_
  rintro _ _ ⟨rfl, rfl⟩
  exact g_iret B E (by first | exact bI_nar _ | decide | exact bI_narv (by assumption)) dX7_isPart_7 ⟨rfl, rfl⟩
set_option maxHeartbeats 4000000 in
set_option maxRecDepth 100000 in
theorem ct_X7_every {I : Wo} {n : Nat} (hn : I 57 2 = nI n) (hn8 : n ≤ 8) : Ct yX7_every cX7_every 1 (some .int) 0 0 [.ref 57] I (pI (fun r u => r = nI (2 ^ n) - 1 ∧ I = u)) := by
  refine ct_of RX7 rfl (by decide) (Nat.le_of_ble_eq_true rfl) (fun X B E => ?_)
  show GW X 1 0 [some (.ref 57)] [] _
  refine g_iconst B (v := 1) dX7_every_0 (by decide) ?_
  refine g_aload_n B dX7_every_1 rfl ?_
  refine g_geti B ci_X7 (by first | rfl | assumption) rfl (by decide) fl_X7_72 dX7_every_2 ?_
  refine g_ishl B dX7_every_5 ?_
  refine g_iconst B (v := 1) dX7_every_6 (by decide) ?_
  refine g_isub B dX7_every_7 ?_
  exact g_iret B E rfl dX7_every_8 ⟨by rw [hn, shl1 hn8], rfl⟩
set_option maxHeartbeats 4000000 in
set_option maxRecDepth 100000 in
theorem ct_X7_isClaim {I : Wo} {n : Nat} (hn : I 57 2 = nI n) (hn8 : n ≤ 8) (c : Int32) : Ct yX7_isClaim cX7_isClaim 2 (some .boolean) 1 25 [.ref 57, .int c] I (pI (fun r u => r = bI (cOK n c) ∧ I = u)) := by
  refine ct_of RX7 rfl (by decide) (Nat.le_of_ble_eq_true rfl) (fun X B E => ?_)
  show GW X 2 0 [some (.ref 57), some (.int c)] [] _
  refine g_iload_n B dX7_isClaim_0 rfl ?_
  refine g_i2l B dX7_isClaim_1 ?_
  refine g_lconst B (v := 0) dX7_isClaim_2 (by decide) ?_
  refine g_aload_n B dX7_isClaim_3 rfl ?_
  refine g_geti B ci_X7 (by first | rfl | assumption) rfl (by decide) fl_X7_72 dX7_isClaim_4 ?_
  refine g_iconst B (v := 1) dX7_isClaim_7 (by decide) ?_
  refine g_isub B dX7_isClaim_8 ?_
  refine g_i2l B dX7_isClaim_9 ?_
  refine g_callSI B (ct_in _ 0 (I 57 2 - 1) rfl (by decide) rfl) ml_X7_77 mm_X7_in rfl rfl (Nat.le_of_ble_eq_true rfl) dX7_isClaim_10 (by decide) ?_
  rintro _ _ ⟨rfl, rfl⟩
  exact g_iret B E (by first | exact bI_nar _ | decide | exact bI_narv (by assumption)) dX7_isClaim_13 ⟨by rw [hn, cOK_pred hn8], rfl⟩
set_option maxHeartbeats 4000000 in
set_option maxRecDepth 100000 in
theorem ct_X7_inTime {I : Wo} {c : Nat} (hc : c < 8) (d : Int32) : Ct yX7_inTime cX7_inTime 3 (some .boolean) 1 25 [.ref 57, .int (nI c), .int d] I (pI (fun r u => r = bI (inT (I 61 c) (I 62 c) d) ∧ I = u)) := by
  refine ct_of RX7 rfl (by decide) (Nat.le_of_ble_eq_true rfl) (fun X B E => ?_)
  show GW X 3 0 [some (.ref 57), some (.int (nI c)), some (.int d)] [] _
  refine g_iload_n B dX7_inTime_0 rfl ?_
  refine g_i2l B dX7_inTime_1 ?_
  refine g_aload_n B dX7_inTime_2 rfl ?_
  refine g_getr B ci_X7 (by first | rfl | assumption) rfl (by decide) fl_X7_20 dX7_inTime_3 ?_
  refine g_iload_n B dX7_inTime_6 rfl ?_
  refine g_iald B (by first | rfl | assumption) _ (by first | with_reducible rfl | exact lit_add _ _ | exact add_lit _ _ | exact nI_add _ _ | exact lit_nI _ | assumption | rfl) (by first | decide | omega | assumption) (by decide) dX7_inTime_7 ?_
  refine g_i2l B dX7_inTime_8 ?_
  refine g_aload_n B dX7_inTime_9 rfl ?_
  refine g_getr B ci_X7 (by first | rfl | assumption) rfl (by decide) fl_X7_23 dX7_inTime_10 ?_
  refine g_iload_n B dX7_inTime_13 rfl ?_
  refine g_iald B (by first | rfl | assumption) _ (by first | with_reducible rfl | exact lit_add _ _ | exact add_lit _ _ | exact nI_add _ _ | exact lit_nI _ | assumption | rfl) (by first | decide | omega | assumption) (by decide) dX7_inTime_14 ?_
  refine g_i2l B dX7_inTime_15 ?_
  refine g_callSI B (ct_in d (I 61 c) (I 62 c) rfl rfl rfl) ml_X7_77 mm_X7_in rfl rfl (Nat.le_of_ble_eq_true rfl) dX7_inTime_16 (by decide) ?_
  rintro _ _ ⟨rfl, rfl⟩
  exact g_iret B E (by first | exact bI_nar _ | decide | exact bI_narv (by assumption)) dX7_inTime_19 ⟨rfl, rfl⟩
set_option maxHeartbeats 4000000 in
set_option maxRecDepth 100000 in
theorem ct_X7_standing {I : Wo} {n : Nat} (hn : I 57 2 = nI n) (hn8 : n ≤ 8) (set : Int32) : Ct yX7_standing cX7_standing 5 (some .int) 1 20 [.ref 57, .int set] I (pI (fun r u => r = stF (I 58) (fun c => I 58 (8 + c)) set n ∧ I = u)) := by
  refine ct_of RX7 rfl (by decide) (Nat.le_of_ble_eq_true rfl) (fun X B E => ?_)
  show GW X 5 0 [some (.ref 57), some (.int set), none, none, none] [] _
  refine g_iconst B (v := 0) dX7_standing_0 (by decide) ?_
  refine g_istn2 B dX7_standing_1 (by decide) rfl ?_
  refine g_iconst B (v := 0) dX7_standing_2 (by decide) ?_
  refine g_istn3 B dX7_standing_3 (by decide) rfl ?_
  have L : ∀ i, i ≤ n → ∀ x q, x = stF (I 58) (fun c => I 58 (8 + c)) set i → GW X 5 4 [some (.ref 57), some (.int set), some (.int x), some (.int (nI i)), q] [] I := by
    refine loopN n (fun i hi ih x q hx => ?_)
    refine g_iload_n B dX7_standing_4 rfl ?_
    refine g_aload_n B dX7_standing_5 rfl ?_
    refine g_geti B ci_X7 (by first | rfl | assumption) rfl (by decide) fl_X7_72 dX7_standing_6 ?_
    refine g_icmp_ge B 73 dX7_standing_9 (by decide) (fun h9 => ?_) (fun h9 => ?_)
    · have hi2 : i = n := by have := le_le (a := n) (b := i) (by omega) (by omega) (by rw [← hn]; exact h9); omega
      refine g_iload_n B dX7_standing_73 rfl ?_
      exact g_iret B E rfl dX7_standing_74 ⟨by rw [hx, hi2], rfl⟩
    · have hlt : i < n := nle_lt (by omega) (by omega) (by rw [← hn]; exact h9)
      refine g_iload_n B dX7_standing_12 rfl ?_
      refine g_iload_n B dX7_standing_13 rfl ?_
      refine g_ishr B dX7_standing_14 ?_
      refine g_iconst B (v := 1) dX7_standing_15 (by decide) ?_
      refine g_iand B dX7_standing_16 ?_
      refine g_iconst B (v := 1) dX7_standing_17 (by decide) ?_
      refine g_icmp_ne B 54 dX7_standing_18 (by decide) (fun h18 => ?_) (fun h18 => ?_)
      · refine g_iconst B (v := 0) dX7_standing_54 (by decide) ?_
        refine g_eqi (bI false) rfl ?_
        refine g_ist4 B dX7_standing_55 (by decide) rfl ?_
        refine g_iload_n B dX7_standing_57 rfl ?_
        refine g_iload B dX7_standing_58 rfl ?_
        refine g_callSI B (ct_X7_flag _) ml_X7_164 mm_X7_flag rfl rfl (Nat.le_of_ble_eq_true rfl) dX7_standing_60 (by decide) ?_
        rintro _ _ ⟨rfl, rfl⟩
        refine g_iload_n B dX7_standing_63 rfl ?_
        refine g_ishl B dX7_standing_64 ?_
        refine g_ior B dX7_standing_65 ?_
        refine g_istn2 B dX7_standing_66 (by decide) rfl ?_
        refine g_inc3 B dX7_standing_67 rfl (inc1 _) (by decide) rfl ?_
        refine g_goto B 4 dX7_standing_70 (by decide) ?_
        exact ih hlt _ _ (by subst hx; simp only [stF, *, and_true, true_and, and_false, false_and, and_self, ↓reduceIte, zero_shl, Int32.or_zero, bI_t, bI_f])
      · refine g_aload_n B dX7_standing_21 rfl ?_
        refine g_getr B ci_X7 (by first | rfl | assumption) rfl (by decide) fl_X7_7 dX7_standing_22 ?_
        refine g_iconst B (v := 0) dX7_standing_25 (by decide) ?_
        refine g_iload_n B dX7_standing_26 rfl ?_
        refine g_iadd B dX7_standing_27 ?_
        refine g_iald B (by first | rfl | assumption) _ (la_0 _) (by first | decide | omega | assumption) (by decide) dX7_standing_28 ?_
        refine g_iload_n B dX7_standing_29 rfl ?_
        refine g_iconst B (v := (-1)) dX7_standing_30 (by decide) ?_
        refine g_ixor B dX7_standing_31 ?_
        refine g_iand B dX7_standing_32 ?_
        refine g_if_ne B 54 dX7_standing_33 (by decide) (fun h33 => ?_) (fun h33 => ?_)
        · refine g_iconst B (v := 0) dX7_standing_54 (by decide) ?_
          refine g_eqi (bI false) rfl ?_
          refine g_ist4 B dX7_standing_55 (by decide) rfl ?_
          refine g_iload_n B dX7_standing_57 rfl ?_
          refine g_iload B dX7_standing_58 rfl ?_
          refine g_callSI B (ct_X7_flag _) ml_X7_164 mm_X7_flag rfl rfl (Nat.le_of_ble_eq_true rfl) dX7_standing_60 (by decide) ?_
          rintro _ _ ⟨rfl, rfl⟩
          refine g_iload_n B dX7_standing_63 rfl ?_
          refine g_ishl B dX7_standing_64 ?_
          refine g_ior B dX7_standing_65 ?_
          refine g_istn2 B dX7_standing_66 (by decide) rfl ?_
          refine g_inc3 B dX7_standing_67 rfl (inc1 _) (by decide) rfl ?_
          refine g_goto B 4 dX7_standing_70 (by decide) ?_
          exact ih hlt _ _ (by subst hx; simp only [stF, *, and_true, true_and, and_false, false_and, and_self, ↓reduceIte, zero_shl, Int32.or_zero, bI_t, bI_f])
        · refine g_aload_n B dX7_standing_36 rfl ?_
          refine g_getr B ci_X7 (by first | rfl | assumption) rfl (by decide) fl_X7_7 dX7_standing_37 ?_
          refine g_bipush B (v := 8) dX7_standing_40 (by decide) ?_
          refine g_iload_n B dX7_standing_42 rfl ?_
          refine g_iadd B dX7_standing_43 ?_
          refine g_iald B (by first | rfl | assumption) _ (la_8 _) (by first | decide | omega | assumption) (by decide) dX7_standing_44 ?_
          refine g_iload_n B dX7_standing_45 rfl ?_
          refine g_iand B dX7_standing_46 ?_
          refine g_if_ne B 54 dX7_standing_47 (by decide) (fun h47 => ?_) (fun h47 => ?_)
          · refine g_iconst B (v := 0) dX7_standing_54 (by decide) ?_
            refine g_eqi (bI false) rfl ?_
            refine g_ist4 B dX7_standing_55 (by decide) rfl ?_
            refine g_iload_n B dX7_standing_57 rfl ?_
            refine g_iload B dX7_standing_58 rfl ?_
            refine g_callSI B (ct_X7_flag _) ml_X7_164 mm_X7_flag rfl rfl (Nat.le_of_ble_eq_true rfl) dX7_standing_60 (by decide) ?_
            rintro _ _ ⟨rfl, rfl⟩
            refine g_iload_n B dX7_standing_63 rfl ?_
            refine g_ishl B dX7_standing_64 ?_
            refine g_ior B dX7_standing_65 ?_
            refine g_istn2 B dX7_standing_66 (by decide) rfl ?_
            refine g_inc3 B dX7_standing_67 rfl (inc1 _) (by decide) rfl ?_
            refine g_goto B 4 dX7_standing_70 (by decide) ?_
            exact ih hlt _ _ (by subst hx; simp only [stF, *, and_true, true_and, and_false, false_and, and_self, ↓reduceIte, zero_shl, Int32.or_zero, bI_t, bI_f])
          · refine g_iconst B (v := 1) dX7_standing_50 (by decide) ?_
            refine g_goto B 55 dX7_standing_51 (by decide) ?_
            refine g_eqi (bI true) rfl ?_
            refine g_ist4 B dX7_standing_55 (by decide) rfl ?_
            refine g_iload_n B dX7_standing_57 rfl ?_
            refine g_iload B dX7_standing_58 rfl ?_
            refine g_callSI B (ct_X7_flag _) ml_X7_164 mm_X7_flag rfl rfl (Nat.le_of_ble_eq_true rfl) dX7_standing_60 (by decide) ?_
            rintro _ _ ⟨rfl, rfl⟩
            refine g_iload_n B dX7_standing_63 rfl ?_
            refine g_ishl B dX7_standing_64 ?_
            refine g_ior B dX7_standing_65 ?_
            refine g_istn2 B dX7_standing_66 (by decide) rfl ?_
            refine g_inc3 B dX7_standing_67 rfl (inc1 _) (by decide) rfl ?_
            refine g_goto B 4 dX7_standing_70 (by decide) ?_
            exact ih hlt _ _ (by subst hx; simp only [stF, *, and_true, true_and, and_false, false_and, and_self, ↓reduceIte, zero_shl, Int32.or_zero, bI_t, bI_f])
  exact L 0 (Nat.zero_le n) _ _ rfl
set_option maxHeartbeats 4000000 in
set_option maxRecDepth 100000 in
theorem ct_X7_endStands {I : Wo} {n : Nat} (hn : I 57 2 = nI n) (hn8 : n ≤ 8) (he : cOK n (I 58 25) = decide (0 < n)) (set : Int32) : Ct yX7_endStands cX7_endStands 2 (some .boolean) 2 44 [.ref 57, .int set] I (pI (fun r u => r = bI (esF n (I 58) (fun c => I 58 (8 + c)) (I 58 25) set) ∧ I = u)) := by
  refine ct_of RX7 rfl (by decide) (Nat.le_of_ble_eq_true rfl) (fun X B E => ?_)
  show GW X 2 0 [some (.ref 57), some (.int set)] [] _
  refine g_aload_n B dX7_endStands_0 rfl ?_
  refine g_geti B ci_X7 (by first | rfl | assumption) rfl (by decide) fl_X7_72 dX7_endStands_1 ?_
  refine g_if_le B 30 dX7_endStands_4 (by decide) (fun h4 => ?_) (fun h4 => ?_)
  · have hz : n = 0 := by have := le_le (a := n) (b := 0) (by omega) (by decide) (by rw [← hn]; exact h4); omega
    refine g_iconst B (v := 0) dX7_endStands_30 (by decide) ?_
    exact g_iret B E (by first | exact bI_nar _ | decide | exact bI_narv (by assumption)) dX7_endStands_31 ⟨by simp_all [bI, esF], rfl⟩
  · have hz : 0 < n := nle_lt (a := n) (b := 0) (by omega) (by decide) (by rw [← hn]; exact h4)
    refine g_aload_n B dX7_endStands_7 rfl ?_
    refine g_iload_n B dX7_endStands_8 rfl ?_
    refine g_callVI B (ct_X7_standing hn hn8 _) (by first | rfl | assumption) rfl ml_X7_168 mm_X7_standing rfl rfl (Nat.le_of_ble_eq_true rfl) dX7_endStands_9 (by decide) ?_
    rintro _ _ ⟨rfl, rfl⟩
    refine g_aload_n B dX7_endStands_12 rfl ?_
    refine g_getr B ci_X7 (by first | rfl | assumption) rfl (by decide) fl_X7_7 dX7_endStands_13 ?_
    refine g_bipush B (v := 25) dX7_endStands_16 (by decide) ?_
    refine g_iald B (by first | rfl | assumption) 25 (lit_nI 25) (by first | decide | omega | assumption) (by decide) dX7_endStands_18 ?_
    refine g_ishr B dX7_endStands_19 ?_
    refine g_iconst B (v := 1) dX7_endStands_20 (by decide) ?_
    refine g_iand B dX7_endStands_21 ?_
    refine g_iconst B (v := 1) dX7_endStands_22 (by decide) ?_
    refine g_icmp_ne B 30 dX7_endStands_23 (by decide) (fun h23 => ?_) (fun h23 => ?_)
    · refine g_iconst B (v := 0) dX7_endStands_30 (by decide) ?_
      exact g_iret B E (by first | exact bI_nar _ | decide | exact bI_narv (by assumption)) dX7_endStands_31 ⟨by simp_all [bI, esF], rfl⟩
    · refine g_iconst B (v := 1) dX7_endStands_26 (by decide) ?_
      refine g_goto B 31 dX7_endStands_27 (by decide) ?_
      exact g_iret B E (by first | exact bI_nar _ | decide | exact bI_narv (by assumption)) dX7_endStands_31 ⟨by simp_all [bI, esF], rfl⟩
set_option maxHeartbeats 4000000 in
set_option maxRecDepth 100000 in
theorem ct_X7_bitsOf {I : Wo} (x : Int32) : Ct yX7_bitsOf cX7_bitsOf 3 (some .int) 0 0 [.int x] I (pI (fun r u => r = bc8 x ∧ I = u)) := by
  refine ct_of RX7 rfl (by decide) (Nat.le_of_ble_eq_true rfl) (fun X B E => ?_)
  show GW X 3 0 [some (.int x), none, none] [] _
  refine g_iconst B (v := 0) dX7_bitsOf_0 (by decide) ?_
  refine g_istn1 B dX7_bitsOf_1 (by decide) rfl ?_
  refine g_iconst B (v := 0) dX7_bitsOf_2 (by decide) ?_
  refine g_istn2 B dX7_bitsOf_3 (by decide) rfl ?_
  have L : ∀ i, i ≤ 8 → ∀ z, z = bcF x i → GW X 3 4 [some (.int x), some (.int z), some (.int (nI i))] [] I := by
    refine loopN 8 (fun i hi ih z hx => ?_)
    refine g_iload_n B dX7_bitsOf_4 rfl ?_
    refine g_bipush B (v := 8) dX7_bitsOf_5 (by decide) ?_
    refine g_icmp_ge B 24 dX7_bitsOf_7 (by decide) (fun h7 => ?_) (fun h7 => ?_)
    · have hi2 : i = 8 := by have := le_le (a := 8) (b := i) (by decide) (by omega) h7; omega
      refine g_iload_n B dX7_bitsOf_24 rfl ?_
      exact g_iret B E rfl dX7_bitsOf_25 ⟨by rw [hx, hi2]; rfl, rfl⟩
    · have hlt : i < 8 := nle_lt (a := 8) (by decide) (by omega) h7
      refine g_iload_n B dX7_bitsOf_10 rfl ?_
      refine g_iload_n B dX7_bitsOf_11 rfl ?_
      refine g_iload_n B dX7_bitsOf_12 rfl ?_
      refine g_ishr B dX7_bitsOf_13 ?_
      refine g_iconst B (v := 1) dX7_bitsOf_14 (by decide) ?_
      refine g_iand B dX7_bitsOf_15 ?_
      refine g_iadd B dX7_bitsOf_16 ?_
      refine g_istn1 B dX7_bitsOf_17 (by decide) rfl ?_
      refine g_inc2 B dX7_bitsOf_18 rfl (inc1 _) (by decide) rfl ?_
      refine g_goto B 4 dX7_bitsOf_21 (by decide) ?_
      exact ih hlt _ (by rw [hx]; rfl)
  exact L 0 (Nat.zero_le 8) _ rfl
set_option maxHeartbeats 4000000 in
set_option maxRecDepth 100000 in
theorem ct_X7_becomes {I : Wo} {k : Nat} (hk : k < 141) (v : Int32) : Ct yX7_becomes cX7_becomes 4 (some .int) 0 0 [.ref 57, .int (nI k), .int v] I (pI (fun r u => r = I 58 k ∧ u = w2 I 58 k v)) := by
  refine ct_of RX7 rfl (by decide) (Nat.le_of_ble_eq_true rfl) (fun X B E => ?_)
  show GW X 4 0 [some (.ref 57), some (.int (nI k)), some (.int v), none] [] _
  refine g_aload_n B dX7_becomes_0 rfl ?_
  refine g_getr B ci_X7 (by first | rfl | assumption) rfl (by decide) fl_X7_7 dX7_becomes_1 ?_
  refine g_iload_n B dX7_becomes_4 rfl ?_
  refine g_iald B (by first | rfl | assumption) _ (by first | with_reducible rfl | exact lit_add _ _ | exact add_lit _ _ | exact nI_add _ _ | exact lit_nI _ | assumption | rfl) (by first | decide | omega | assumption) (by decide) dX7_becomes_5 ?_
  refine g_istn3 B dX7_becomes_6 (by decide) rfl ?_
  refine g_aload_n B dX7_becomes_7 rfl ?_
  refine g_getr B ci_X7 (by first | rfl | assumption) rfl (by decide) fl_X7_7 dX7_becomes_8 ?_
  refine g_iload_n B dX7_becomes_11 rfl ?_
  refine g_iload_n B dX7_becomes_12 rfl ?_
  refine g_iast B (by first | rfl | assumption) _ (by first | with_reducible rfl | exact lit_add _ _ | exact add_lit _ _ | exact nI_add _ _ | exact lit_nI _ | assumption | rfl) (by first | decide | omega | assumption) (by decide) dX7_becomes_13 ?_
  refine g_iload_n B dX7_becomes_14 rfl ?_
  exact g_iret B E rfl dX7_becomes_15 ⟨rfl, rfl⟩

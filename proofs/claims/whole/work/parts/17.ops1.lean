theorem cs_X3_hasClaim {I : Wo} {n : Nat} (hn : I 1 9 = nI n) (c : Int32) : Ct yX3_hasClaim cX3_hasClaim 2 (some .boolean) 0 0 [.ref 1, .int c] I (pI (fun r u => r = bI (cOK n c) ∧ I = u)) := ct_X3_hasClaim su_1 hn c
theorem cs_X3_hasSet {I : Wo} {n : Nat} (hn : I 1 9 = nI n) (hn8 : n ≤ 8) (c : Int32) : Ct yX3_hasSet cX3_hasSet 2 (some .boolean) 0 0 [.ref 1, .int c] I (pI (fun r u => r = bI (cOK (2 ^ n) c) ∧ I = u)) := ct_X3_hasSet su_1 hn hn8 c
theorem cs_X3_isSaid {I : Wo}  (c : Int32) : Ct yX3_isSaid cX3_isSaid 2 (some .boolean) 0 0 [.ref 1, .int c] I (pI (fun r u => r = bI (decide ((I 1 12 >>> (c &&& 31)) &&& 1 = 1)) ∧ I = u)) := ct_X3_isSaid su_1 c
theorem cs_X3_inTime {I : Wo}  {c : Nat} (hc : c < 8) (d : Int32) : Ct yX3_inTime cX3_inTime 3 (some .boolean) 0 0 [.ref 1, .int (nI c), .int d] I (pI (fun r u => r = bI (inT (I (3) c) (I (4) c) d) ∧ I = u)) := ct_X3_inTime su_1 hc d
theorem cs_X3_standing {I : Wo} {n : Nat} (hn : I 1 9 = nI n) (hn8 : n ≤ 8) (set : Int32) : Ct yX3_standing cX3_standing 5 (some .int) 0 0 [.ref 1, .int set] I (pI (fun r u => r = stF (I (6)) (I (7)) set n ∧ I = u)) := ct_X3_standing su_1 hn hn8 set
theorem cs_X3_endStands {I : Wo} {n : Nat} (hn : I 1 9 = nI n) (hn8 : n ≤ 8) (set : Int32) : Ct yX3_endStands cX3_endStands 2 (some .boolean) 1 24 [.ref 1, .int set] I (pI (fun r u => r = bI (esF n (I (6)) (I (7)) (I 1 10) set) ∧ I = u)) := ct_X3_endStands su_1 hn hn8 set
theorem cs_X3_addToPlan {I : Wo} {q : Nat} (hq : I 1 13 = nI q) (hq6 : q ≤ 6) (c : Int32) : Ct yX3_addToPlan cX3_addToPlan 2 (some .boolean) 0 0 [.ref 1, .int c] I (pI (fun r u => (q < 6 ∧ r = 1 ∧ u = w2 (w2 I (8) q c) 1 13 (nI (q + 1))) ∨ (q = 6 ∧ r = 0 ∧ I = u))) := ct_X3_addToPlan su_1 hq hq6 c
theorem cs_X3_addSeen {I : Wo} {q : Nat} (hq : I 1 14 = nI q) (hq6 : q ≤ 6) (set : Int32) (z : Bool) : Ct yX3_addSeen cX3_addSeen 4 (some .boolean) 0 0 [.ref 1, .int set, .int (bI z)] I (pI (fun r u => (q < 6 ∧ r = 1 ∧ u = w2 (w2 (w2 I (9) q set) 1 8 (if z then I 1 8 ||| ((1 : Int32) <<< (nI q &&& 31)) else I 1 8 &&& (((1 : Int32) <<< (nI q &&& 31)) ^^^ (-1)))) 1 14 (nI (q + 1))) ∨ (q = 6 ∧ r = 0 ∧ I = u))) := ct_X3_addSeen su_1 hq hq6 set z
theorem ne6 {q m : Nat} (h : q ≤ m) (h2 : ¬ q = m) : q < m := by omega
def bindQ (c : Nat) (o : Int32) (z : Bool) (ag : Int32) : Int32 := if cOK c o then (if z = true ∧ ¬ ag &&& ((1 : Int32) <<< (o &&& 31)) = 0 then -2 else 0) else -1
def bindV (o : Int32) (z : Bool) (v : Int32) : Int32 := if z then v ||| ((1 : Int32) <<< (o &&& 31)) else v &&& (((1 : Int32) <<< (o &&& 31)) ^^^ (-1))
def ruleF (what cl e d s st p : Int32) : Int32 := if what = 0 then cl else if what = 1 then e else if what = 2 then d else if what = 3 then s else if what = 4 then st else if what = 5 then p else -1
def claimF (what a b c d e f g : Int32) : Int32 := if what = 0 then a else if what = 1 then b else if what = 2 then c else if what = 3 then d else if what = 4 then e else if what = 5 then f else if what = 6 then g else -1
def sayQ (n : Nat) (c said day : Int32) (f t : Nat → Int32) : Int32 := if cOK n c then (if (said >>> (c &&& 31)) &&& 1 = 1 then -2 else if inT (f c.toNatClampNeg) (t c.toNatClampNeg) day then 0 else -2) else -1
def drpQ (n : Nat) (c said : Int32) : Int32 := if cOK n c then (if (said >>> (c &&& 31)) &&& 1 = 1 then 0 else -2) else -1
theorem and1 (x : Int32) : x &&& 1 = 0 ∨ x &&& 1 = 1 := by
  have h : (x.toBitVec &&& 1#32) = 0#32 ∨ (x.toBitVec &&& 1#32) = 1#32 := by
    rw [BitVec.and_one_eq_setWidth_ofBool_getLsbD]
    cases x.toBitVec.getLsbD 0 <;> simp
  rcases h with h | h
  · left; apply Int32.toBitVec_inj.mp; simpa using h
  · right; apply Int32.toBitVec_inj.mp; simpa using h
theorem bit01 {x : Int32} (h : ¬ x &&& 1 = 0) : x &&& 1 = 1 := (and1 x).resolve_left h
theorem bit_and (x : Int32) {j : Nat} {o : Int32} (h : cOK j o = true) (hj : j ≤ 8) : (x &&& ((1 : Int32) <<< (o &&& 31)) = 0) ↔ ¬ (x >>> (o &&& 31)) &&& 1 = 1 := by
  obtain ⟨k, hk, rfl⟩ := (cOK_iff (by omega)).mp h
  have e : (nI k &&& 31) = nI k := by
    rcases n8 (show k ≤ 8 by omega) with rfl | rfl | rfl | rfl | rfl | rfl | rfl | rfl | rfl <;> decide
  have h1 : ((1 : Int32) <<< (nI k &&& 31)).toBitVec = BitVec.twoPow 32 k := by
    rcases n8 (show k ≤ 8 by omega) with rfl | rfl | rfl | rfl | rfl | rfl | rfl | rfl | rfl <;> decide
  have h2 : (x >>> (nI k &&& 31)).toBitVec = x.toBitVec.sshiftRight k := by
    rw [e, Int32.toBitVec_shiftRight]
    have : (nI k).toBitVec.smod 32 = BitVec.ofNat 32 k := by
      rcases n8 (show k ≤ 8 by omega) with rfl | rfl | rfl | rfl | rfl | rfl | rfl | rfl | rfl <;> decide
    rw [this, BitVec.sshiftRight', BitVec.toNat_ofNat, Nat.mod_eq_of_lt (by omega)]
  have h3 : (x &&& ((1 : Int32) <<< (nI k &&& 31)) = 0) ↔ x.toBitVec.getLsbD k = false := by
    rw [← Int32.toBitVec_inj, Int32.toBitVec_and, h1, BitVec.and_twoPow]
    cases hb : x.toBitVec.getLsbD k
    · simp
    · simp only [if_true, Bool.true_eq_false, iff_false]
      intro z
      have := congrArg (fun v => BitVec.getLsbD v k) z
      simp [BitVec.getLsbD_twoPow, show k < 32 by omega] at this
  have h4 : ((x >>> (nI k &&& 31)) &&& 1 = 1) ↔ x.toBitVec.getLsbD k = true := by
    rw [← Int32.toBitVec_inj, Int32.toBitVec_and, h2, show (1 : Int32).toBitVec = 1#32 from rfl, BitVec.and_one_eq_setWidth_ofBool_getLsbD]
    have : (x.toBitVec.sshiftRight k).getLsbD 0 = x.toBitVec.getLsbD k := by
      rw [BitVec.getLsbD_sshiftRight]
      simp [show k < 32 by omega]
    rw [this]
    cases x.toBitVec.getLsbD k <;> simp
  rw [h3, h4]
  simp
/-- what stands doesn't hang on what the reference keeps from 24 on -/
theorem stw {I : Wo} {n k : Nat} {v set : Int32} (hk : 24 ≤ k) (hn : n ≤ 8) : stF (w2 I 58 k v 58) (fun c => w2 I 58 k v 58 (8 + c)) set n = stF (I 58) (fun c => I 58 (8 + c)) set n :=
  stF_congr (fun c hc => w2_slot I _ (by omega)) (fun c hc => w2_slot I _ (by omega))
set_option maxHeartbeats 4000000 in
set_option maxRecDepth 100000 in
theorem ct_X6_fault {I : Wo} : Ct yX6_fault cX6_fault 1 (some .int) 0 0 [.ref 0] I (pI (fun r u => r = I 0 10 ∧ I = u)) := by
  refine ct_of RX6 rfl (by decide) (Nat.le_of_ble_eq_true rfl) (fun X B E => ?_)
  show GW X 1 0 [some (.ref 0)] [] _
  refine g_aload_n B dX6_fault_0 rfl ?_
  refine g_geti B ci_X6 (by first | rfl | assumption) rfl (by decide) fl_X6_85 dX6_fault_1 ?_
  exact g_iret B E rfl dX6_fault_4 ⟨rfl, rfl⟩
set_option maxHeartbeats 4000000 in
set_option maxRecDepth 100000 in
theorem ct_X7_fault {I : Wo} : Ct yX7_fault cX7_fault 1 (some .int) 0 0 [.ref 57] I (pI (fun r u => r = I 57 19 ∧ I = u)) := by
  refine ct_of RX7 rfl (by decide) (Nat.le_of_ble_eq_true rfl) (fun X B E => ?_)
  show GW X 1 0 [some (.ref 57)] [] _
  refine g_aload_n B dX7_fault_0 rfl ?_
  refine g_geti B ci_X7 (by first | rfl | assumption) rfl (by decide) fl_X7_84 dX7_fault_1 ?_
  exact g_iret B E rfl dX7_fault_4 ⟨rfl, rfl⟩
set_option maxHeartbeats 4000000 in
set_option maxRecDepth 100000 in
theorem ct_X6_torn {I : Wo} : Ct yX6_torn cX6_torn 1 (some .int) 0 0 [.ref 0] I (pI (fun r u => r = I 0 11 ∧ I = u)) := by
  refine ct_of RX6 rfl (by decide) (Nat.le_of_ble_eq_true rfl) (fun X B E => ?_)
  show GW X 1 0 [some (.ref 0)] [] _
  refine g_aload_n B dX6_torn_0 rfl ?_
  refine g_geti B ci_X6 (by first | rfl | assumption) rfl (by decide) fl_X6_264 dX6_torn_1 ?_
  exact g_iret B E rfl dX6_torn_4 ⟨rfl, rfl⟩
set_option maxHeartbeats 4000000 in
set_option maxRecDepth 100000 in
theorem ct_X7_torn {I : Wo} : Ct yX7_torn cX7_torn 1 (some .int) 0 0 [.ref 57] I (pI (fun r u => r = I 57 28 ∧ I = u)) := by
  refine ct_of RX7 rfl (by decide) (Nat.le_of_ble_eq_true rfl) (fun X B E => ?_)
  show GW X 1 0 [some (.ref 57)] [] _
  refine g_aload_n B dX7_torn_0 rfl ?_
  refine g_geti B ci_X7 (by first | rfl | assumption) rfl (by decide) fl_X7_258 dX7_torn_1 ?_
  exact g_iret B E rfl dX7_torn_4 ⟨rfl, rfl⟩
set_option maxHeartbeats 4000000 in
set_option maxRecDepth 100000 in
theorem ct_X6_rule {I : Wo} {n : Nat} (hn : I 1 9 = nI n) (hn8 : n ≤ 8) (what : Int32) : Ct yX6_rule cX6_rule 2 (some .int) 1 24 [.ref 0, .int what] I (pI (fun r u => r = ruleF what (I 1 9) (if I 1 9 = 0 then -4 else I 1 10) (I 1 11) (I 1 12) (stF (I 6) (I 7) (I 1 12) n) (I 1 13) ∧ I = u)) := by
  refine ct_of RX6 rfl (by decide) (Nat.le_of_ble_eq_true rfl) (fun X B E => ?_)
  show GW X 2 0 [some (.ref 0), some (.int what)] [] _
  refine g_iload_n B dX6_rule_0 rfl ?_
  by_cases h1_0 : what = 0
  · refine g_tableIn B 40 dX6_rule_1 (by rw [h1_0]; decide) (by rw [h1_0]; decide) (by rw [h1_0]; rfl) (by decide) ?_
    refine g_aload_n B dX6_rule_40 rfl ?_
    refine g_getr B ci_X6 (by first | rfl | assumption) rfl (by decide) fl_X6_10 dX6_rule_41 ?_
    refine g_geti B ci_X3 (by first | rfl | assumption) rfl (by decide) fl_X6_95 dX6_rule_44 ?_
    exact g_iret B E rfl dX6_rule_47 ⟨by clear hn; simp [ruleF, *], rfl⟩
  by_cases h1_1 : what = 1
  · refine g_tableIn B 48 dX6_rule_1 (by rw [h1_1]; decide) (by rw [h1_1]; decide) (by rw [h1_1]; rfl) (by decide) ?_
    refine g_aload_n B dX6_rule_48 rfl ?_
    refine g_getr B ci_X6 (by first | rfl | assumption) rfl (by decide) fl_X6_10 dX6_rule_49 ?_
    refine g_geti B ci_X3 (by first | rfl | assumption) rfl (by decide) fl_X6_95 dX6_rule_52 ?_
    refine g_if_ne B 63 dX6_rule_55 (by decide) (fun h55 => ?_) (fun h55 => ?_)
    · refine g_aload_n B dX6_rule_63 rfl ?_
      refine g_getr B ci_X6 (by first | rfl | assumption) rfl (by decide) fl_X6_10 dX6_rule_64 ?_
      refine g_geti B ci_X3 (by first | rfl | assumption) rfl (by decide) fl_X6_98 dX6_rule_67 ?_
      exact g_iret B E rfl dX6_rule_70 ⟨by clear hn; simp [ruleF, *], rfl⟩
    · refine g_bipush B (v := (-4)) dX6_rule_58 (by decide) ?_
      refine g_goto B 70 dX6_rule_60 (by decide) ?_
      exact g_iret B E rfl dX6_rule_70 ⟨by clear hn; simp [ruleF, *], rfl⟩
  by_cases h1_2 : what = 2
  · refine g_tableIn B 71 dX6_rule_1 (by rw [h1_2]; decide) (by rw [h1_2]; decide) (by rw [h1_2]; rfl) (by decide) ?_
    refine g_aload_n B dX6_rule_71 rfl ?_
    refine g_getr B ci_X6 (by first | rfl | assumption) rfl (by decide) fl_X6_10 dX6_rule_72 ?_
    refine g_geti B ci_X3 (by first | rfl | assumption) rfl (by decide) fl_X6_101 dX6_rule_75 ?_
    exact g_iret B E rfl dX6_rule_78 ⟨by clear hn; simp [ruleF, *], rfl⟩
  by_cases h1_3 : what = 3
  · refine g_tableIn B 79 dX6_rule_1 (by rw [h1_3]; decide) (by rw [h1_3]; decide) (by rw [h1_3]; rfl) (by decide) ?_
    refine g_aload_n B dX6_rule_79 rfl ?_
    refine g_getr B ci_X6 (by first | rfl | assumption) rfl (by decide) fl_X6_10 dX6_rule_80 ?_
    refine g_geti B ci_X3 (by first | rfl | assumption) rfl (by decide) fl_X6_104 dX6_rule_83 ?_
    exact g_iret B E rfl dX6_rule_86 ⟨by clear hn; simp [ruleF, *], rfl⟩
  by_cases h1_4 : what = 4
  · refine g_tableIn B 87 dX6_rule_1 (by rw [h1_4]; decide) (by rw [h1_4]; decide) (by rw [h1_4]; rfl) (by decide) ?_
    refine g_aload_n B dX6_rule_87 rfl ?_
    refine g_getr B ci_X6 (by first | rfl | assumption) rfl (by decide) fl_X6_10 dX6_rule_88 ?_
    refine g_aload_n B dX6_rule_91 rfl ?_
    refine g_getr B ci_X6 (by first | rfl | assumption) rfl (by decide) fl_X6_10 dX6_rule_92 ?_
    refine g_geti B ci_X3 (by first | rfl | assumption) rfl (by decide) fl_X6_104 dX6_rule_95 ?_
    refine g_callVI B (cs_X3_standing hn hn8 _) (by first | rfl | assumption) rfl ml_X6_107 mm_X3_standing rfl rfl (Nat.le_of_ble_eq_true rfl) dX6_rule_98 (by decide) ?_
    rintro _ _ ⟨rfl, rfl⟩
    exact g_iret B E rfl dX6_rule_101 ⟨by clear hn; simp [ruleF, *], rfl⟩
  by_cases h1_5 : what = 5
  · refine g_tableIn B 102 dX6_rule_1 (by rw [h1_5]; decide) (by rw [h1_5]; decide) (by rw [h1_5]; rfl) (by decide) ?_
    refine g_aload_n B dX6_rule_102 rfl ?_
    refine g_getr B ci_X6 (by first | rfl | assumption) rfl (by decide) fl_X6_10 dX6_rule_103 ?_
    refine g_geti B ci_X3 (by first | rfl | assumption) rfl (by decide) fl_X6_111 dX6_rule_106 ?_
    exact g_iret B E rfl dX6_rule_109 ⟨by clear hn; simp [ruleF, *], rfl⟩
  refine g_tableOut B 110 dX6_rule_1 (by have z0 := lv_neT h1_0 (a := 0) rfl; have z1 := lv_neT h1_1 (a := 1) rfl; have z2 := lv_neT h1_2 (a := 2) rfl; have z3 := lv_neT h1_3 (a := 3) rfl; have z4 := lv_neT h1_4 (a := 4) rfl; have z5 := lv_neT h1_5 (a := 5) rfl; omega) (by decide) ?_
  refine g_iconst B (v := (-1)) dX6_rule_110 (by decide) ?_
  exact g_iret B E rfl dX6_rule_111 ⟨by clear hn; simp [ruleF, *], rfl⟩
set_option maxHeartbeats 4000000 in
set_option maxRecDepth 100000 in
theorem ct_X7_rule {I : Wo} {n : Nat} (hn : I 57 2 = nI n) (hn8 : n ≤ 8) (what : Int32) : Ct yX7_rule cX7_rule 2 (some .int) 2 44 [.ref 57, .int what] I (pI (fun r u => r = ruleF what (I 57 2) (I 58 25) (I 58 26) (I 58 24) (stF (I 58) (fun c => I 58 (8 + c)) (I 58 24) n) (I 58 27) ∧ I = u)) := by
  refine ct_of RX7 rfl (by decide) (Nat.le_of_ble_eq_true rfl) (fun X B E => ?_)
  show GW X 2 0 [some (.ref 57), some (.int what)] [] _
  refine g_iload_n B dX7_rule_0 rfl ?_
  by_cases h1_0 : what = 0
  · refine g_tableIn B 40 dX7_rule_1 (by rw [h1_0]; decide) (by rw [h1_0]; decide) (by rw [h1_0]; rfl) (by decide) ?_
    refine g_aload_n B dX7_rule_40 rfl ?_
    refine g_geti B ci_X7 (by first | rfl | assumption) rfl (by decide) fl_X7_72 dX7_rule_41 ?_
    exact g_iret B E rfl dX7_rule_44 ⟨by simp [ruleF, *], rfl⟩
  by_cases h1_1 : what = 1
  · refine g_tableIn B 45 dX7_rule_1 (by rw [h1_1]; decide) (by rw [h1_1]; decide) (by rw [h1_1]; rfl) (by decide) ?_
    refine g_aload_n B dX7_rule_45 rfl ?_
    refine g_getr B ci_X7 (by first | rfl | assumption) rfl (by decide) fl_X7_7 dX7_rule_46 ?_
    refine g_bipush B (v := 25) dX7_rule_49 (by decide) ?_
    refine g_iald B (by first | rfl | assumption) 25 (lit_nI 25) (by first | decide | omega | assumption) (by decide) dX7_rule_51 ?_
    exact g_iret B E rfl dX7_rule_52 ⟨by simp [ruleF, *], rfl⟩
  by_cases h1_2 : what = 2
  · refine g_tableIn B 53 dX7_rule_1 (by rw [h1_2]; decide) (by rw [h1_2]; decide) (by rw [h1_2]; rfl) (by decide) ?_
    refine g_aload_n B dX7_rule_53 rfl ?_
    refine g_getr B ci_X7 (by first | rfl | assumption) rfl (by decide) fl_X7_7 dX7_rule_54 ?_
    refine g_bipush B (v := 26) dX7_rule_57 (by decide) ?_
    refine g_iald B (by first | rfl | assumption) 26 (lit_nI 26) (by first | decide | omega | assumption) (by decide) dX7_rule_59 ?_
    exact g_iret B E rfl dX7_rule_60 ⟨by simp [ruleF, *], rfl⟩
  by_cases h1_3 : what = 3
  · refine g_tableIn B 61 dX7_rule_1 (by rw [h1_3]; decide) (by rw [h1_3]; decide) (by rw [h1_3]; rfl) (by decide) ?_
    refine g_aload_n B dX7_rule_61 rfl ?_
    refine g_getr B ci_X7 (by first | rfl | assumption) rfl (by decide) fl_X7_7 dX7_rule_62 ?_
    refine g_bipush B (v := 24) dX7_rule_65 (by decide) ?_
    refine g_iald B (by first | rfl | assumption) 24 (lit_nI 24) (by first | decide | omega | assumption) (by decide) dX7_rule_67 ?_
    exact g_iret B E rfl dX7_rule_68 ⟨by simp [ruleF, *], rfl⟩
  by_cases h1_4 : what = 4
  · refine g_tableIn B 69 dX7_rule_1 (by rw [h1_4]; decide) (by rw [h1_4]; decide) (by rw [h1_4]; rfl) (by decide) ?_
    refine g_aload_n B dX7_rule_69 rfl ?_
    refine g_aload_n B dX7_rule_70 rfl ?_
    refine g_getr B ci_X7 (by first | rfl | assumption) rfl (by decide) fl_X7_7 dX7_rule_71 ?_
    refine g_bipush B (v := 24) dX7_rule_74 (by decide) ?_
    refine g_iald B (by first | rfl | assumption) 24 (lit_nI 24) (by first | decide | omega | assumption) (by decide) dX7_rule_76 ?_
    refine g_callVI B (ct_X7_standing hn hn8 _) (by first | rfl | assumption) rfl ml_X7_168 mm_X7_standing rfl rfl (Nat.le_of_ble_eq_true rfl) dX7_rule_77 (by decide) ?_
    rintro _ _ ⟨rfl, rfl⟩
    exact g_iret B E rfl dX7_rule_80 ⟨by simp [ruleF, *], rfl⟩
  by_cases h1_5 : what = 5
  · refine g_tableIn B 81 dX7_rule_1 (by rw [h1_5]; decide) (by rw [h1_5]; decide) (by rw [h1_5]; rfl) (by decide) ?_
    refine g_aload_n B dX7_rule_81 rfl ?_
    refine g_getr B ci_X7 (by first | rfl | assumption) rfl (by decide) fl_X7_7 dX7_rule_82 ?_
    refine g_bipush B (v := 27) dX7_rule_85 (by decide) ?_
    refine g_iald B (by first | rfl | assumption) 27 (lit_nI 27) (by first | decide | omega | assumption) (by decide) dX7_rule_87 ?_
    exact g_iret B E rfl dX7_rule_88 ⟨by simp [ruleF, *], rfl⟩
  refine g_tableOut B 89 dX7_rule_1 (by have z0 := lv_neT h1_0 (a := 0) rfl; have z1 := lv_neT h1_1 (a := 1) rfl; have z2 := lv_neT h1_2 (a := 2) rfl; have z3 := lv_neT h1_3 (a := 3) rfl; have z4 := lv_neT h1_4 (a := 4) rfl; have z5 := lv_neT h1_5 (a := 5) rfl; omega) (by decide) ?_
  refine g_iconst B (v := (-1)) dX7_rule_89 (by decide) ?_
  exact g_iret B E rfl dX7_rule_90 ⟨by simp [ruleF, *], rfl⟩
set_option maxHeartbeats 4000000 in
set_option maxRecDepth 100000 in
theorem ct_X6_claim {I : Wo} {n : Nat} (hn : I 1 9 = nI n) (hn8 : n ≤ 8) (c what : Int32) : Ct yX6_claim cX6_claim 3 (some .int) 1 24 [.ref 0, .int c, .int what] I (pI (fun r u => r = (if cOK n c then claimF what (I 2 c.toNatClampNeg) (I 3 c.toNatClampNeg) (I 4 c.toNatClampNeg) (I 5 c.toNatClampNeg) (I 6 c.toNatClampNeg) (I 7 c.toNatClampNeg) ((stF (I 6) (I 7) (I 1 12) n >>> (c &&& 31)) &&& 1) else -1) ∧ I = u)) := by
  refine ct_of RX6 rfl (by decide) (Nat.le_of_ble_eq_true rfl) (fun X B E => ?_)
  show GW X 3 0 [some (.ref 0), some (.int c), some (.int what)] [] _
  refine g_aload_n B dX6_claim_0 rfl ?_
  refine g_getr B ci_X6 (by first | rfl | assumption) rfl (by decide) fl_X6_10 dX6_claim_1 ?_
  refine g_iload_n B dX6_claim_4 rfl ?_
  refine g_callVI B (cs_X3_hasClaim hn _) (by first | rfl | assumption) rfl ml_X6_114 mm_X3_hasClaim rfl rfl (Nat.le_of_ble_eq_true rfl) dX6_claim_5 (by decide) ?_
  rintro _ _ ⟨rfl, rfl⟩
  refine g_if_ne B 13 dX6_claim_8 (by decide) (fun h8 => ?_) (fun h8 => ?_)
  · rw [bI_ne0] at h8
    obtain ⟨j, hj, rfl⟩ := (cOK_iff (by omega)).mp h8
    have hcl : (nI j).toNatClampNeg = j := nI_clamp (by omega)
    refine g_iload_n B dX6_claim_13 rfl ?_
    by_cases h14_0 : what = 0
    · refine g_tableIn B 56 dX6_claim_14 (by rw [h14_0]; decide) (by rw [h14_0]; decide) (by rw [h14_0]; rfl) (by decide) ?_
      refine g_aload_n B dX6_claim_56 rfl ?_
      refine g_getr B ci_X6 (by first | rfl | assumption) rfl (by decide) fl_X6_10 dX6_claim_57 ?_
      refine g_getr B ci_X3 (by first | rfl | assumption) rfl (by decide) fl_X6_117 dX6_claim_60 ?_
      refine g_iload_n B dX6_claim_63 rfl ?_
      refine g_iald B (by first | rfl | assumption) _ (by first | with_reducible rfl | exact lit_add _ _ | exact add_lit _ _ | exact nI_add _ _ | exact lit_nI _ | assumption | rfl) (by first | decide | omega | assumption) (by decide) dX6_claim_64 ?_
      exact g_iret B E rfl dX6_claim_65 ⟨by simp [claimF, *], rfl⟩
    by_cases h14_1 : what = 1
    · refine g_tableIn B 66 dX6_claim_14 (by rw [h14_1]; decide) (by rw [h14_1]; decide) (by rw [h14_1]; rfl) (by decide) ?_
      refine g_aload_n B dX6_claim_66 rfl ?_
      refine g_getr B ci_X6 (by first | rfl | assumption) rfl (by decide) fl_X6_10 dX6_claim_67 ?_
      refine g_getr B ci_X3 (by first | rfl | assumption) rfl (by decide) fl_X6_120 dX6_claim_70 ?_
      refine g_iload_n B dX6_claim_73 rfl ?_
      refine g_iald B (by first | rfl | assumption) _ (by first | with_reducible rfl | exact lit_add _ _ | exact add_lit _ _ | exact nI_add _ _ | exact lit_nI _ | assumption | rfl) (by first | decide | omega | assumption) (by decide) dX6_claim_74 ?_
      exact g_iret B E rfl dX6_claim_75 ⟨by simp [claimF, *], rfl⟩
    by_cases h14_2 : what = 2
    · refine g_tableIn B 76 dX6_claim_14 (by rw [h14_2]; decide) (by rw [h14_2]; decide) (by rw [h14_2]; rfl) (by decide) ?_
      refine g_aload_n B dX6_claim_76 rfl ?_
      refine g_getr B ci_X6 (by first | rfl | assumption) rfl (by decide) fl_X6_10 dX6_claim_77 ?_
      refine g_getr B ci_X3 (by first | rfl | assumption) rfl (by decide) fl_X6_123 dX6_claim_80 ?_
      refine g_iload_n B dX6_claim_83 rfl ?_
      refine g_iald B (by first | rfl | assumption) _ (by first | with_reducible rfl | exact lit_add _ _ | exact add_lit _ _ | exact nI_add _ _ | exact lit_nI _ | assumption | rfl) (by first | decide | omega | assumption) (by decide) dX6_claim_84 ?_
      exact g_iret B E rfl dX6_claim_85 ⟨by simp [claimF, *], rfl⟩
    by_cases h14_3 : what = 3
    · refine g_tableIn B 86 dX6_claim_14 (by rw [h14_3]; decide) (by rw [h14_3]; decide) (by rw [h14_3]; rfl) (by decide) ?_
      refine g_aload_n B dX6_claim_86 rfl ?_
      refine g_getr B ci_X6 (by first | rfl | assumption) rfl (by decide) fl_X6_10 dX6_claim_87 ?_
      refine g_getr B ci_X3 (by first | rfl | assumption) rfl (by decide) fl_X6_126 dX6_claim_90 ?_
      refine g_iload_n B dX6_claim_93 rfl ?_
      refine g_iald B (by first | rfl | assumption) _ (by first | with_reducible rfl | exact lit_add _ _ | exact add_lit _ _ | exact nI_add _ _ | exact lit_nI _ | assumption | rfl) (by first | decide | omega | assumption) (by decide) dX6_claim_94 ?_
      exact g_iret B E rfl dX6_claim_95 ⟨by simp [claimF, *], rfl⟩
    by_cases h14_4 : what = 4
    · refine g_tableIn B 96 dX6_claim_14 (by rw [h14_4]; decide) (by rw [h14_4]; decide) (by rw [h14_4]; rfl) (by decide) ?_
      refine g_aload_n B dX6_claim_96 rfl ?_
      refine g_getr B ci_X6 (by first | rfl | assumption) rfl (by decide) fl_X6_10 dX6_claim_97 ?_
      refine g_getr B ci_X3 (by first | rfl | assumption) rfl (by decide) fl_X6_129 dX6_claim_100 ?_
      refine g_iload_n B dX6_claim_103 rfl ?_
      refine g_iald B (by first | rfl | assumption) _ (by first | with_reducible rfl | exact lit_add _ _ | exact add_lit _ _ | exact nI_add _ _ | exact lit_nI _ | assumption | rfl) (by first | decide | omega | assumption) (by decide) dX6_claim_104 ?_
      exact g_iret B E rfl dX6_claim_105 ⟨by simp [claimF, *], rfl⟩
    by_cases h14_5 : what = 5
    · refine g_tableIn B 106 dX6_claim_14 (by rw [h14_5]; decide) (by rw [h14_5]; decide) (by rw [h14_5]; rfl) (by decide) ?_
      refine g_aload_n B dX6_claim_106 rfl ?_
      refine g_getr B ci_X6 (by first | rfl | assumption) rfl (by decide) fl_X6_10 dX6_claim_107 ?_
      refine g_getr B ci_X3 (by first | rfl | assumption) rfl (by decide) fl_X6_132 dX6_claim_110 ?_
      refine g_iload_n B dX6_claim_113 rfl ?_
      refine g_iald B (by first | rfl | assumption) _ (by first | with_reducible rfl | exact lit_add _ _ | exact add_lit _ _ | exact nI_add _ _ | exact lit_nI _ | assumption | rfl) (by first | decide | omega | assumption) (by decide) dX6_claim_114 ?_
      exact g_iret B E rfl dX6_claim_115 ⟨by simp [claimF, *], rfl⟩
    by_cases h14_6 : what = 6
    · refine g_tableIn B 116 dX6_claim_14 (by rw [h14_6]; decide) (by rw [h14_6]; decide) (by rw [h14_6]; rfl) (by decide) ?_
      refine g_aload_n B dX6_claim_116 rfl ?_
      refine g_getr B ci_X6 (by first | rfl | assumption) rfl (by decide) fl_X6_10 dX6_claim_117 ?_
      refine g_aload_n B dX6_claim_120 rfl ?_
      refine g_getr B ci_X6 (by first | rfl | assumption) rfl (by decide) fl_X6_10 dX6_claim_121 ?_
      refine g_geti B ci_X3 (by first | rfl | assumption) rfl (by decide) fl_X6_104 dX6_claim_124 ?_
      refine g_callVI B (cs_X3_standing hn hn8 _) (by first | rfl | assumption) rfl ml_X6_107 mm_X3_standing rfl rfl (Nat.le_of_ble_eq_true rfl) dX6_claim_127 (by decide) ?_
      rintro _ _ ⟨rfl, rfl⟩
      refine g_iload_n B dX6_claim_130 rfl ?_
      refine g_ishr B dX6_claim_131 ?_
      refine g_iconst B (v := 1) dX6_claim_132 (by decide) ?_
      refine g_iand B dX6_claim_133 ?_
      exact g_iret B E rfl dX6_claim_134 ⟨by simp [claimF, *], rfl⟩
    refine g_tableOut B 135 dX6_claim_14 (by have z0 := lv_neT h14_0 (a := 0) rfl; have z1 := lv_neT h14_1 (a := 1) rfl; have z2 := lv_neT h14_2 (a := 2) rfl; have z3 := lv_neT h14_3 (a := 3) rfl; have z4 := lv_neT h14_4 (a := 4) rfl; have z5 := lv_neT h14_5 (a := 5) rfl; have z6 := lv_neT h14_6 (a := 6) rfl; omega) (by decide) ?_
    refine g_iconst B (v := (-1)) dX6_claim_135 (by decide) ?_
    exact g_iret B E rfl dX6_claim_136 ⟨by simp [claimF, *], rfl⟩
  · rw [bI_eq0] at h8
    refine g_iconst B (v := (-1)) dX6_claim_11 (by decide) ?_
    exact g_iret B E rfl dX6_claim_12 ⟨by simp [claimF, *], rfl⟩
set_option maxHeartbeats 4000000 in
set_option maxRecDepth 100000 in
theorem ct_X7_claim {I : Wo} {n : Nat} (hn : I 57 2 = nI n) (hn8 : n ≤ 8) (c what : Int32) : Ct yX7_claim cX7_claim 3 (some .int) 2 46 [.ref 57, .int c, .int what] I (pI (fun r u => r = (if cOK n c then claimF what (I 60 c.toNatClampNeg) (I 61 c.toNatClampNeg) (I 62 c.toNatClampNeg) (I 58 (16 + c.toNatClampNeg)) (I 58 c.toNatClampNeg) (I 58 (8 + c.toNatClampNeg)) ((stF (I 58) (fun c => I 58 (8 + c)) (I 58 24) n >>> (c &&& 31)) &&& 1) else -1) ∧ I = u)) := by
  refine ct_of RX7 rfl (by decide) (Nat.le_of_ble_eq_true rfl) (fun X B E => ?_)
  show GW X 3 0 [some (.ref 57), some (.int c), some (.int what)] [] _
  refine g_aload_n B dX7_claim_0 rfl ?_
  refine g_iload_n B dX7_claim_1 rfl ?_
  refine g_callVI B (ct_X7_isClaim hn hn8 _) (by first | rfl | assumption) rfl ml_X7_171 mm_X7_isClaim rfl rfl (Nat.le_of_ble_eq_true rfl) dX7_claim_2 (by decide) ?_
  rintro _ _ ⟨rfl, rfl⟩
  refine g_if_ne B 10 dX7_claim_5 (by decide) (fun h5 => ?_) (fun h5 => ?_)
  · rw [bI_ne0] at h5
    obtain ⟨j, hj, rfl⟩ := (cOK_iff (by omega)).mp h5
    have hcl : (nI j).toNatClampNeg = j := nI_clamp (by omega)
    refine g_iload_n B dX7_claim_10 rfl ?_
    by_cases h11_0 : what = 0
    · refine g_tableIn B 52 dX7_claim_11 (by rw [h11_0]; decide) (by rw [h11_0]; decide) (by rw [h11_0]; rfl) (by decide) ?_
      refine g_aload_n B dX7_claim_52 rfl ?_
      refine g_getr B ci_X7 (by first | rfl | assumption) rfl (by decide) fl_X7_17 dX7_claim_53 ?_
      refine g_iload_n B dX7_claim_56 rfl ?_
      refine g_iald B (by first | rfl | assumption) _ (by first | with_reducible rfl | exact lit_add _ _ | exact add_lit _ _ | exact nI_add _ _ | exact lit_nI _ | assumption | rfl) (by first | decide | omega | assumption) (by decide) dX7_claim_57 ?_
      exact g_iret B E rfl dX7_claim_58 ⟨by simp [claimF, *], rfl⟩
    by_cases h11_1 : what = 1
    · refine g_tableIn B 59 dX7_claim_11 (by rw [h11_1]; decide) (by rw [h11_1]; decide) (by rw [h11_1]; rfl) (by decide) ?_
      refine g_aload_n B dX7_claim_59 rfl ?_
      refine g_getr B ci_X7 (by first | rfl | assumption) rfl (by decide) fl_X7_20 dX7_claim_60 ?_
      refine g_iload_n B dX7_claim_63 rfl ?_
      refine g_iald B (by first | rfl | assumption) _ (by first | with_reducible rfl | exact lit_add _ _ | exact add_lit _ _ | exact nI_add _ _ | exact lit_nI _ | assumption | rfl) (by first | decide | omega | assumption) (by decide) dX7_claim_64 ?_
      exact g_iret B E rfl dX7_claim_65 ⟨by simp [claimF, *], rfl⟩
    by_cases h11_2 : what = 2
    · refine g_tableIn B 66 dX7_claim_11 (by rw [h11_2]; decide) (by rw [h11_2]; decide) (by rw [h11_2]; rfl) (by decide) ?_
      refine g_aload_n B dX7_claim_66 rfl ?_
      refine g_getr B ci_X7 (by first | rfl | assumption) rfl (by decide) fl_X7_23 dX7_claim_67 ?_
      refine g_iload_n B dX7_claim_70 rfl ?_
      refine g_iald B (by first | rfl | assumption) _ (by first | with_reducible rfl | exact lit_add _ _ | exact add_lit _ _ | exact nI_add _ _ | exact lit_nI _ | assumption | rfl) (by first | decide | omega | assumption) (by decide) dX7_claim_71 ?_
      exact g_iret B E rfl dX7_claim_72 ⟨by simp [claimF, *], rfl⟩
    by_cases h11_3 : what = 3
    · refine g_tableIn B 73 dX7_claim_11 (by rw [h11_3]; decide) (by rw [h11_3]; decide) (by rw [h11_3]; rfl) (by decide) ?_
      refine g_aload_n B dX7_claim_73 rfl ?_
      refine g_getr B ci_X7 (by first | rfl | assumption) rfl (by decide) fl_X7_7 dX7_claim_74 ?_
      refine g_bipush B (v := 16) dX7_claim_77 (by decide) ?_
      refine g_iload_n B dX7_claim_79 rfl ?_
      refine g_iadd B dX7_claim_80 ?_
      refine g_iald B (by first | rfl | assumption) _ (la_16 _) (by first | decide | omega | assumption) (by decide) dX7_claim_81 ?_
      exact g_iret B E rfl dX7_claim_82 ⟨by simp [claimF, *], rfl⟩
    by_cases h11_4 : what = 4
    · refine g_tableIn B 83 dX7_claim_11 (by rw [h11_4]; decide) (by rw [h11_4]; decide) (by rw [h11_4]; rfl) (by decide) ?_
      refine g_aload_n B dX7_claim_83 rfl ?_
      refine g_getr B ci_X7 (by first | rfl | assumption) rfl (by decide) fl_X7_7 dX7_claim_84 ?_
      refine g_iconst B (v := 0) dX7_claim_87 (by decide) ?_
      refine g_iload_n B dX7_claim_88 rfl ?_
      refine g_iadd B dX7_claim_89 ?_
      refine g_iald B (by first | rfl | assumption) _ (la_0 _) (by first | decide | omega | assumption) (by decide) dX7_claim_90 ?_
      exact g_iret B E rfl dX7_claim_91 ⟨by simp [claimF, *], rfl⟩
    by_cases h11_5 : what = 5
    · refine g_tableIn B 92 dX7_claim_11 (by rw [h11_5]; decide) (by rw [h11_5]; decide) (by rw [h11_5]; rfl) (by decide) ?_
      refine g_aload_n B dX7_claim_92 rfl ?_
      refine g_getr B ci_X7 (by first | rfl | assumption) rfl (by decide) fl_X7_7 dX7_claim_93 ?_
      refine g_bipush B (v := 8) dX7_claim_96 (by decide) ?_
      refine g_iload_n B dX7_claim_98 rfl ?_
      refine g_iadd B dX7_claim_99 ?_
      refine g_iald B (by first | rfl | assumption) _ (la_8 _) (by first | decide | omega | assumption) (by decide) dX7_claim_100 ?_
      exact g_iret B E rfl dX7_claim_101 ⟨by simp [claimF, *], rfl⟩
    by_cases h11_6 : what = 6
    · refine g_tableIn B 102 dX7_claim_11 (by rw [h11_6]; decide) (by rw [h11_6]; decide) (by rw [h11_6]; rfl) (by decide) ?_
      refine g_aload_n B dX7_claim_102 rfl ?_
      refine g_aload_n B dX7_claim_103 rfl ?_
      refine g_getr B ci_X7 (by first | rfl | assumption) rfl (by decide) fl_X7_7 dX7_claim_104 ?_
      refine g_bipush B (v := 24) dX7_claim_107 (by decide) ?_
      refine g_iald B (by first | rfl | assumption) 24 (lit_nI 24) (by first | decide | omega | assumption) (by decide) dX7_claim_109 ?_
      refine g_callVI B (ct_X7_standing hn hn8 _) (by first | rfl | assumption) rfl ml_X7_168 mm_X7_standing rfl rfl (Nat.le_of_ble_eq_true rfl) dX7_claim_110 (by decide) ?_
      rintro _ _ ⟨rfl, rfl⟩
      refine g_iload_n B dX7_claim_113 rfl ?_
      refine g_ishr B dX7_claim_114 ?_
      refine g_iconst B (v := 1) dX7_claim_115 (by decide) ?_
      refine g_iand B dX7_claim_116 ?_
      exact g_iret B E rfl dX7_claim_117 ⟨by simp [claimF, *], rfl⟩
    refine g_tableOut B 118 dX7_claim_11 (by have z0 := lv_neT h11_0 (a := 0) rfl; have z1 := lv_neT h11_1 (a := 1) rfl; have z2 := lv_neT h11_2 (a := 2) rfl; have z3 := lv_neT h11_3 (a := 3) rfl; have z4 := lv_neT h11_4 (a := 4) rfl; have z5 := lv_neT h11_5 (a := 5) rfl; have z6 := lv_neT h11_6 (a := 6) rfl; omega) (by decide) ?_
    refine g_iconst B (v := (-1)) dX7_claim_118 (by decide) ?_
    exact g_iret B E rfl dX7_claim_119 ⟨by simp [claimF, *], rfl⟩
  · rw [bI_eq0] at h5
    refine g_iconst B (v := (-1)) dX7_claim_8 (by decide) ?_
    exact g_iret B E rfl dX7_claim_9 ⟨by simp [claimF, *], rfl⟩
set_option maxHeartbeats 4000000 in
set_option maxRecDepth 100000 in
theorem ct_X6_plan {I : Wo} {q : Nat} (hq : I 1 13 = nI q) (hq6 : q ≤ 6) (i : Int32) : Ct yX6_plan cX6_plan 2 (some .int) 1 22 [.ref 0, .int i] I (pI (fun r u => r = (if cOK q i then I 8 i.toNatClampNeg else -1) ∧ I = u)) := by
  refine ct_of RX6 rfl (by decide) (Nat.le_of_ble_eq_true rfl) (fun X B E => ?_)
  show GW X 2 0 [some (.ref 0), some (.int i)] [] _
  refine g_iload_n B dX6_plan_0 rfl ?_
  refine g_iconst B (v := 0) dX6_plan_1 (by decide) ?_
  refine g_aload_n B dX6_plan_2 rfl ?_
  refine g_getr B ci_X6 (by first | rfl | assumption) rfl (by decide) fl_X6_10 dX6_plan_3 ?_
  refine g_geti B ci_X3 (by first | rfl | assumption) rfl (by decide) fl_X6_111 dX6_plan_6 ?_
  refine g_iconst B (v := 1) dX6_plan_9 (by decide) ?_
  refine g_isub B dX6_plan_10 ?_
  refine g_callSI B (ct_X6_within _ _ _) ml_X6_66 mm_X6_within rfl rfl (Nat.le_of_ble_eq_true rfl) dX6_plan_11 (by decide) ?_
  rintro _ _ ⟨rfl, rfl⟩
  refine g_if_eq B 29 dX6_plan_14 (by decide) (fun h14 => ?_) (fun h14 => ?_)
  · rw [bI_eq0] at h14
    rw [hq, cOK_pred (by omega)] at h14
    refine g_iconst B (v := (-1)) dX6_plan_29 (by decide) ?_
    exact g_iret B E rfl dX6_plan_30 ⟨by simp [*], rfl⟩
  · rw [bI_ne0] at h14
    rw [hq, cOK_pred (by omega)] at h14
    obtain ⟨j, hj, rfl⟩ := (cOK_iff (by omega)).mp h14
    have hcl : (nI j).toNatClampNeg = j := nI_clamp (by omega)
    refine g_aload_n B dX6_plan_17 rfl ?_
    refine g_getr B ci_X6 (by first | rfl | assumption) rfl (by decide) fl_X6_10 dX6_plan_18 ?_
    refine g_getr B ci_X3 (by first | rfl | assumption) rfl (by decide) fl_X6_135 dX6_plan_21 ?_
    refine g_iload_n B dX6_plan_24 rfl ?_
    refine g_iald B (by first | rfl | assumption) _ (by first | with_reducible rfl | exact lit_add _ _ | exact add_lit _ _ | exact nI_add _ _ | exact lit_nI _ | assumption | rfl) (by first | decide | omega | assumption) (by decide) dX6_plan_25 ?_
    refine g_goto B 30 dX6_plan_26 (by decide) ?_
    exact g_iret B E rfl dX6_plan_30 ⟨by simp [*], rfl⟩
set_option maxHeartbeats 4000000 in
set_option maxRecDepth 100000 in
theorem ct_X7_plan {I : Wo} {q : Nat} (hq : I 58 27 = nI q) (hq6 : q ≤ 6) (i : Int32) : Ct yX7_plan cX7_plan 2 (some .int) 1 25 [.ref 57, .int i] I (pI (fun r u => r = (if cOK q i then I 58 (28 + i.toNatClampNeg) else -1) ∧ I = u)) := by
  refine ct_of RX7 rfl (by decide) (Nat.le_of_ble_eq_true rfl) (fun X B E => ?_)
  show GW X 2 0 [some (.ref 57), some (.int i)] [] _
  refine g_iload_n B dX7_plan_0 rfl ?_
  refine g_i2l B dX7_plan_1 ?_
  refine g_lconst B (v := 0) dX7_plan_2 (by decide) ?_
  refine g_aload_n B dX7_plan_3 rfl ?_
  refine g_getr B ci_X7 (by first | rfl | assumption) rfl (by decide) fl_X7_7 dX7_plan_4 ?_
  refine g_bipush B (v := 27) dX7_plan_7 (by decide) ?_
  refine g_iald B (by first | rfl | assumption) 27 (lit_nI 27) (by first | decide | omega | assumption) (by decide) dX7_plan_9 ?_
  refine g_iconst B (v := 1) dX7_plan_10 (by decide) ?_
  refine g_isub B dX7_plan_11 ?_
  refine g_i2l B dX7_plan_12 ?_
  refine g_callSI B (ct_in _ 0 (I 58 27 - 1) rfl (by decide) rfl) ml_X7_77 mm_X7_in rfl rfl (Nat.le_of_ble_eq_true rfl) dX7_plan_13 (by decide) ?_
  rintro _ _ ⟨rfl, rfl⟩
  refine g_if_eq B 31 dX7_plan_16 (by decide) (fun h16 => ?_) (fun h16 => ?_)
  · rw [bI_eq0] at h16
    rw [hq, cOK_pred (by omega)] at h16
    refine g_iconst B (v := (-1)) dX7_plan_31 (by decide) ?_
    exact g_iret B E rfl dX7_plan_32 ⟨by simp [*], rfl⟩
  · rw [bI_ne0] at h16
    rw [hq, cOK_pred (by omega)] at h16
    obtain ⟨j, hj, rfl⟩ := (cOK_iff (by omega)).mp h16
    have hcl : (nI j).toNatClampNeg = j := nI_clamp (by omega)
    refine g_aload_n B dX7_plan_19 rfl ?_
    refine g_getr B ci_X7 (by first | rfl | assumption) rfl (by decide) fl_X7_7 dX7_plan_20 ?_
    refine g_bipush B (v := 28) dX7_plan_23 (by decide) ?_
    refine g_iload_n B dX7_plan_25 rfl ?_
    refine g_iadd B dX7_plan_26 ?_
    refine g_iald B (by first | rfl | assumption) _ (la_28 _) (by first | decide | omega | assumption) (by decide) dX7_plan_27 ?_
    refine g_goto B 32 dX7_plan_28 (by decide) ?_
    exact g_iret B E rfl dX7_plan_32 ⟨by simp [*], rfl⟩
set_option maxHeartbeats 4000000 in
set_option maxRecDepth 100000 in
theorem ct_X6_say {I : Wo} {n : Nat} (hn : I 1 9 = nI n) (hn8 : n ≤ 8) (c : Int32) : Ct yX6_say cX6_say 2 (some .int) 1 24 [.ref 0, .int c] I (pI (fun r u => r = (if sayQ n c (I 1 12) (I 1 11) (I 3) (I 4) = 0 then bc8 (stF (I 6) (I 7) ((I 1 12) ||| ((1 : Int32) <<< (c &&& 31))) n) else sayQ n c (I 1 12) (I 1 11) (I 3) (I 4)) ∧ u = (if sayQ n c (I 1 12) (I 1 11) (I 3) (I 4) = 0 then w2 I 1 12 ((I 1 12) ||| ((1 : Int32) <<< (c &&& 31))) else I))) := by
  refine ct_of RX6 rfl (by decide) (Nat.le_of_ble_eq_true rfl) (fun X B E => ?_)
  show GW X 2 0 [some (.ref 0), some (.int c)] [] _
  refine g_aload_n B dX6_say_0 rfl ?_
  refine g_getr B ci_X6 (by first | rfl | assumption) rfl (by decide) fl_X6_10 dX6_say_1 ?_
  refine g_iload_n B dX6_say_4 rfl ?_
  refine g_callVI B (cs_X3_hasClaim hn _) (by first | rfl | assumption) rfl ml_X6_114 mm_X3_hasClaim rfl rfl (Nat.le_of_ble_eq_true rfl) dX6_say_5 (by decide) ?_
  rintro _ _ ⟨rfl, rfl⟩
  refine g_if_ne B 13 dX6_say_8 (by decide) (fun h8 => ?_) (fun h8 => ?_)
  · rw [bI_ne0] at h8
    obtain ⟨j, hj, rfl⟩ := (cOK_iff (by omega)).mp h8
    have hcl : (nI j).toNatClampNeg = j := nI_clamp (by omega)
    refine g_aload_n B dX6_say_13 rfl ?_
    refine g_getr B ci_X6 (by first | rfl | assumption) rfl (by decide) fl_X6_10 dX6_say_14 ?_
    refine g_iload_n B dX6_say_17 rfl ?_
    refine g_callVI B (cs_X3_isSaid _) (by first | rfl | assumption) rfl ml_X6_138 mm_X3_isSaid rfl rfl (Nat.le_of_ble_eq_true rfl) dX6_say_18 (by decide) ?_
    rintro _ _ ⟨rfl, rfl⟩
    refine g_if_ne B 42 dX6_say_21 (by decide) (fun h21 => ?_) (fun h21 => ?_)
    · rw [bI_ne0] at h21
      simp only [decide_eq_true_eq, decide_eq_false_iff_not] at h21
      refine g_bipush B (v := (-2)) dX6_say_42 (by decide) ?_
      exact g_iret B E rfl dX6_say_44 ⟨by simp [sayQ, *], by simp [sayQ, *]⟩
    · rw [bI_eq0] at h21
      simp only [decide_eq_true_eq, decide_eq_false_iff_not] at h21
      refine g_aload_n B dX6_say_24 rfl ?_
      refine g_getr B ci_X6 (by first | rfl | assumption) rfl (by decide) fl_X6_10 dX6_say_25 ?_
      refine g_iload_n B dX6_say_28 rfl ?_
      refine g_aload_n B dX6_say_29 rfl ?_
      refine g_getr B ci_X6 (by first | rfl | assumption) rfl (by decide) fl_X6_10 dX6_say_30 ?_
      refine g_geti B ci_X3 (by first | rfl | assumption) rfl (by decide) fl_X6_101 dX6_say_33 ?_
      refine g_callVI B (cs_X3_inTime (by omega) _) (by first | rfl | assumption) rfl ml_X6_141 mm_X3_inTime rfl rfl (Nat.le_of_ble_eq_true rfl) dX6_say_36 (by decide) ?_
      rintro _ _ ⟨rfl, rfl⟩
      refine g_if_ne B 45 dX6_say_39 (by decide) (fun h39 => ?_) (fun h39 => ?_)
      · rw [bI_ne0] at h39
        refine g_aload_n B dX6_say_45 rfl ?_
        refine g_getr B ci_X6 (by first | rfl | assumption) rfl (by decide) fl_X6_10 dX6_say_46 ?_
        refine g_dup B dX6_say_49 rfl ?_
        refine g_geti B ci_X3 (by first | rfl | assumption) rfl (by decide) fl_X6_104 dX6_say_50 ?_
        refine g_iconst B (v := 1) dX6_say_53 (by decide) ?_
        refine g_iload_n B dX6_say_54 rfl ?_
        refine g_ishl B dX6_say_55 ?_
        refine g_ior B dX6_say_56 ?_
        refine g_put B ci_X3 (by first | rfl | assumption) rfl (by decide) fl_X6_104 rfl rfl rfl dX6_say_57 ?_
        refine g_aload_n B dX6_say_60 rfl ?_
        refine g_getr B ci_X6 (by first | rfl | assumption) rfl (by decide) fl_X6_10 dX6_say_61 ?_
        refine g_aload_n B dX6_say_64 rfl ?_
        refine g_getr B ci_X6 (by first | rfl | assumption) rfl (by decide) fl_X6_10 dX6_say_65 ?_
        refine g_geti B ci_X3 (by first | rfl | assumption) rfl (by decide) fl_X6_104 dX6_say_68 ?_
        refine g_callVI B (cs_X3_standing (I := w2 I 1 12 (I 1 12 ||| ((1 : Int32) <<< (nI j &&& 31)))) hn hn8 _) (by first | rfl | assumption) rfl ml_X6_107 mm_X3_standing rfl rfl (Nat.le_of_ble_eq_true rfl) dX6_say_71 (by decide) ?_
        rintro _ _ ⟨rfl, rfl⟩
        refine g_callSI B (ct_J6_bitCount_0f7a4 _) ml_X6_145 mm_J6_bitCount_0f7a4 rfl rfl (Nat.le_of_ble_eq_true rfl) dX6_say_74 (by decide) ?_
        rintro _ _ ⟨rfl, rfl⟩
        exact g_iret B E rfl dX6_say_77 ⟨by rw [bc_st _ _ _ hn8]; simp [sayQ, *]; rfl, by simp [sayQ, *]⟩
      · rw [bI_eq0] at h39
        refine g_bipush B (v := (-2)) dX6_say_42 (by decide) ?_
        exact g_iret B E rfl dX6_say_44 ⟨by simp [sayQ, *], by simp [sayQ, *]⟩
  · rw [bI_eq0] at h8
    refine g_iconst B (v := (-1)) dX6_say_11 (by decide) ?_
    exact g_iret B E rfl dX6_say_12 ⟨by simp [sayQ, *], by simp [sayQ, *]⟩
set_option maxHeartbeats 4000000 in
set_option maxRecDepth 100000 in
theorem ct_X7_say {I : Wo} {n : Nat} (hn : I 57 2 = nI n) (hn8 : n ≤ 8) (c : Int32) : Ct yX7_say cX7_say 2 (some .int) 2 47 [.ref 57, .int c] I (pI (fun r u => r = (if sayQ n c (I 58 24) (I 58 26) (I 61) (I 62) = 0 then bc8 (stF (I 58) (fun c => I 58 (8 + c)) ((I 58 24) ||| ((1 : Int32) <<< (c &&& 31))) n) else sayQ n c (I 58 24) (I 58 26) (I 61) (I 62)) ∧ u = (if sayQ n c (I 58 24) (I 58 26) (I 61) (I 62) = 0 then w2 I 58 24 ((I 58 24) ||| ((1 : Int32) <<< (c &&& 31))) else I))) := by
  refine ct_of RX7 rfl (by decide) (Nat.le_of_ble_eq_true rfl) (fun X B E => ?_)
  show GW X 2 0 [some (.ref 57), some (.int c)] [] _
  refine g_aload_n B dX7_say_0 rfl ?_
  refine g_iload_n B dX7_say_1 rfl ?_
  refine g_callVI B (ct_X7_isClaim hn hn8 _) (by first | rfl | assumption) rfl ml_X7_171 mm_X7_isClaim rfl rfl (Nat.le_of_ble_eq_true rfl) dX7_say_2 (by decide) ?_
  rintro _ _ ⟨rfl, rfl⟩
  refine g_if_ne B 10 dX7_say_5 (by decide) (fun h5 => ?_) (fun h5 => ?_)
  · rw [bI_ne0] at h5
    obtain ⟨j, hj, rfl⟩ := (cOK_iff (by omega)).mp h5
    have hcl : (nI j).toNatClampNeg = j := nI_clamp (by omega)
    refine g_aload_n B dX7_say_10 rfl ?_
    refine g_getr B ci_X7 (by first | rfl | assumption) rfl (by decide) fl_X7_7 dX7_say_11 ?_
    refine g_bipush B (v := 24) dX7_say_14 (by decide) ?_
    refine g_iald B (by first | rfl | assumption) 24 (lit_nI 24) (by first | decide | omega | assumption) (by decide) dX7_say_16 ?_
    refine g_iload_n B dX7_say_17 rfl ?_
    refine g_ishr B dX7_say_18 ?_
    refine g_iconst B (v := 1) dX7_say_19 (by decide) ?_
    refine g_iand B dX7_say_20 ?_
    refine g_iconst B (v := 1) dX7_say_21 (by decide) ?_
    refine g_icmp_eq B 40 dX7_say_22 (by decide) (fun h22 => ?_) (fun h22 => ?_)
    · refine g_bipush B (v := (-2)) dX7_say_40 (by decide) ?_
      exact g_iret B E rfl dX7_say_42 ⟨by simp [sayQ, *], by simp [sayQ, *]⟩
    · refine g_aload_n B dX7_say_25 rfl ?_
      refine g_iload_n B dX7_say_26 rfl ?_
      refine g_aload_n B dX7_say_27 rfl ?_
      refine g_getr B ci_X7 (by first | rfl | assumption) rfl (by decide) fl_X7_7 dX7_say_28 ?_
      refine g_bipush B (v := 26) dX7_say_31 (by decide) ?_
      refine g_iald B (by first | rfl | assumption) 26 (lit_nI 26) (by first | decide | omega | assumption) (by decide) dX7_say_33 ?_
      refine g_callVI B (ct_X7_inTime (by omega) _) (by first | rfl | assumption) rfl ml_X7_175 mm_X7_inTime rfl rfl (Nat.le_of_ble_eq_true rfl) dX7_say_34 (by decide) ?_
      rintro _ _ ⟨rfl, rfl⟩
      refine g_if_ne B 43 dX7_say_37 (by decide) (fun h37 => ?_) (fun h37 => ?_)
      · rw [bI_ne0] at h37
        refine g_aload_n B dX7_say_43 rfl ?_
        refine g_getr B ci_X7 (by first | rfl | assumption) rfl (by decide) fl_X7_7 dX7_say_44 ?_
        refine g_bipush B (v := 24) dX7_say_47 (by decide) ?_
        refine g_dup2 B dX7_say_49 rfl rfl ?_
        refine g_iald B (by first | rfl | assumption) 24 (lit_nI 24) (by first | decide | omega | assumption) (by decide) dX7_say_50 ?_
        refine g_iconst B (v := 1) dX7_say_51 (by decide) ?_
        refine g_iload_n B dX7_say_52 rfl ?_
        refine g_ishl B dX7_say_53 ?_
        refine g_ior B dX7_say_54 ?_
        refine g_iast B (by first | rfl | assumption) 24 (lit_nI 24) (by first | decide | omega | assumption) (by decide) dX7_say_55 ?_
        refine g_aload_n B dX7_say_56 rfl ?_
        refine g_aload_n B dX7_say_57 rfl ?_
        refine g_getr B ci_X7 (by first | rfl | assumption) rfl (by decide) fl_X7_7 dX7_say_58 ?_
        refine g_bipush B (v := 24) dX7_say_61 (by decide) ?_
        refine g_iald B (by first | rfl | assumption) 24 (lit_nI 24) (by first | decide | omega | assumption) (by decide) dX7_say_63 ?_
        refine g_callVI B (ct_X7_standing (I := w2 I 58 24 (I 58 24 ||| ((1 : Int32) <<< (nI j &&& 31)))) hn hn8 _) (by first | rfl | assumption) rfl ml_X7_168 mm_X7_standing rfl rfl (Nat.le_of_ble_eq_true rfl) dX7_say_64 (by decide) ?_
        rintro _ _ ⟨rfl, rfl⟩
        refine g_callSI B (ct_X7_bitsOf _) ml_X7_179 mm_X7_bitsOf rfl rfl (Nat.le_of_ble_eq_true rfl) dX7_say_67 (by decide) ?_
        rintro _ _ ⟨rfl, rfl⟩
        exact g_iret B E rfl dX7_say_70 ⟨by simp only [stw (show 24 ≤ 24 by decide) hn8]; simp [sayQ, *]; rfl, by simp [sayQ, *]⟩
      · rw [bI_eq0] at h37
        refine g_bipush B (v := (-2)) dX7_say_40 (by decide) ?_
        exact g_iret B E rfl dX7_say_42 ⟨by simp [sayQ, *], by simp [sayQ, *]⟩
  · rw [bI_eq0] at h5
    refine g_iconst B (v := (-1)) dX7_say_8 (by decide) ?_
    exact g_iret B E rfl dX7_say_9 ⟨by simp [sayQ, *], by simp [sayQ, *]⟩
set_option maxHeartbeats 4000000 in
set_option maxRecDepth 100000 in
theorem ct_X6_drop {I : Wo} {n : Nat} (hn : I 1 9 = nI n) (hn8 : n ≤ 8) (c : Int32) : Ct yX6_drop cX6_drop 2 (some .int) 1 24 [.ref 0, .int c] I (pI (fun r u => r = (if drpQ n c (I 1 12) = 0 then bc8 (stF (I 6) (I 7) ((I 1 12) &&& (((1 : Int32) <<< (c &&& 31)) ^^^ (-1))) n) else drpQ n c (I 1 12)) ∧ u = (if drpQ n c (I 1 12) = 0 then w2 I 1 12 ((I 1 12) &&& (((1 : Int32) <<< (c &&& 31)) ^^^ (-1))) else I))) := by
  refine ct_of RX6 rfl (by decide) (Nat.le_of_ble_eq_true rfl) (fun X B E => ?_)
  show GW X 2 0 [some (.ref 0), some (.int c)] [] _
  refine g_aload_n B dX6_drop_0 rfl ?_
  refine g_getr B ci_X6 (by first | rfl | assumption) rfl (by decide) fl_X6_10 dX6_drop_1 ?_
  refine g_iload_n B dX6_drop_4 rfl ?_
  refine g_callVI B (cs_X3_hasClaim hn _) (by first | rfl | assumption) rfl ml_X6_114 mm_X3_hasClaim rfl rfl (Nat.le_of_ble_eq_true rfl) dX6_drop_5 (by decide) ?_
  rintro _ _ ⟨rfl, rfl⟩
  refine g_if_ne B 13 dX6_drop_8 (by decide) (fun h8 => ?_) (fun h8 => ?_)
  · rw [bI_ne0] at h8
    obtain ⟨j, hj, rfl⟩ := (cOK_iff (by omega)).mp h8
    have hcl : (nI j).toNatClampNeg = j := nI_clamp (by omega)
    refine g_aload_n B dX6_drop_13 rfl ?_
    refine g_getr B ci_X6 (by first | rfl | assumption) rfl (by decide) fl_X6_10 dX6_drop_14 ?_
    refine g_iload_n B dX6_drop_17 rfl ?_
    refine g_callVI B (cs_X3_isSaid _) (by first | rfl | assumption) rfl ml_X6_138 mm_X3_isSaid rfl rfl (Nat.le_of_ble_eq_true rfl) dX6_drop_18 (by decide) ?_
    rintro _ _ ⟨rfl, rfl⟩
    refine g_if_ne B 27 dX6_drop_21 (by decide) (fun h21 => ?_) (fun h21 => ?_)
    · rw [bI_ne0] at h21
      simp only [decide_eq_true_eq, decide_eq_false_iff_not] at h21
      refine g_aload_n B dX6_drop_27 rfl ?_
      refine g_getr B ci_X6 (by first | rfl | assumption) rfl (by decide) fl_X6_10 dX6_drop_28 ?_
      refine g_dup B dX6_drop_31 rfl ?_
      refine g_geti B ci_X3 (by first | rfl | assumption) rfl (by decide) fl_X6_104 dX6_drop_32 ?_
      refine g_iconst B (v := 1) dX6_drop_35 (by decide) ?_
      refine g_iload_n B dX6_drop_36 rfl ?_
      refine g_ishl B dX6_drop_37 ?_
      refine g_iconst B (v := (-1)) dX6_drop_38 (by decide) ?_
      refine g_ixor B dX6_drop_39 ?_
      refine g_iand B dX6_drop_40 ?_
      refine g_put B ci_X3 (by first | rfl | assumption) rfl (by decide) fl_X6_104 rfl rfl rfl dX6_drop_41 ?_
      refine g_aload_n B dX6_drop_44 rfl ?_
      refine g_getr B ci_X6 (by first | rfl | assumption) rfl (by decide) fl_X6_10 dX6_drop_45 ?_
      refine g_aload_n B dX6_drop_48 rfl ?_
      refine g_getr B ci_X6 (by first | rfl | assumption) rfl (by decide) fl_X6_10 dX6_drop_49 ?_
      refine g_geti B ci_X3 (by first | rfl | assumption) rfl (by decide) fl_X6_104 dX6_drop_52 ?_
      refine g_callVI B (cs_X3_standing (I := w2 I 1 12 (I 1 12 &&& (((1 : Int32) <<< (nI j &&& 31)) ^^^ (-1)))) hn hn8 _) (by first | rfl | assumption) rfl ml_X6_107 mm_X3_standing rfl rfl (Nat.le_of_ble_eq_true rfl) dX6_drop_55 (by decide) ?_
      rintro _ _ ⟨rfl, rfl⟩
      refine g_callSI B (ct_J6_bitCount_0f7a4 _) ml_X6_145 mm_J6_bitCount_0f7a4 rfl rfl (Nat.le_of_ble_eq_true rfl) dX6_drop_58 (by decide) ?_
      rintro _ _ ⟨rfl, rfl⟩
      exact g_iret B E rfl dX6_drop_61 ⟨by rw [bc_st _ _ _ hn8]; simp [drpQ, *]; rfl, by simp [drpQ, *]⟩
    · rw [bI_eq0] at h21
      simp only [decide_eq_true_eq, decide_eq_false_iff_not] at h21
      refine g_bipush B (v := (-2)) dX6_drop_24 (by decide) ?_
      exact g_iret B E rfl dX6_drop_26 ⟨by simp [drpQ, *], by simp [drpQ, *]⟩
  · rw [bI_eq0] at h8
    refine g_iconst B (v := (-1)) dX6_drop_11 (by decide) ?_
    exact g_iret B E rfl dX6_drop_12 ⟨by simp [drpQ, *], by simp [drpQ, *]⟩
set_option maxHeartbeats 4000000 in
set_option maxRecDepth 100000 in
theorem ct_X7_drop {I : Wo} {n : Nat} (hn : I 57 2 = nI n) (hn8 : n ≤ 8) (c : Int32) : Ct yX7_drop cX7_drop 2 (some .int) 2 46 [.ref 57, .int c] I (pI (fun r u => r = (if drpQ n c (I 58 24) = 0 then bc8 (stF (I 58) (fun c => I 58 (8 + c)) ((I 58 24) &&& (((1 : Int32) <<< (c &&& 31)) ^^^ (-1))) n) else drpQ n c (I 58 24)) ∧ u = (if drpQ n c (I 58 24) = 0 then w2 I 58 24 ((I 58 24) &&& (((1 : Int32) <<< (c &&& 31)) ^^^ (-1))) else I))) := by
  refine ct_of RX7 rfl (by decide) (Nat.le_of_ble_eq_true rfl) (fun X B E => ?_)
  show GW X 2 0 [some (.ref 57), some (.int c)] [] _
  refine g_aload_n B dX7_drop_0 rfl ?_
  refine g_iload_n B dX7_drop_1 rfl ?_
  refine g_callVI B (ct_X7_isClaim hn hn8 _) (by first | rfl | assumption) rfl ml_X7_171 mm_X7_isClaim rfl rfl (Nat.le_of_ble_eq_true rfl) dX7_drop_2 (by decide) ?_
  rintro _ _ ⟨rfl, rfl⟩
  refine g_if_ne B 10 dX7_drop_5 (by decide) (fun h5 => ?_) (fun h5 => ?_)
  · rw [bI_ne0] at h5
    obtain ⟨j, hj, rfl⟩ := (cOK_iff (by omega)).mp h5
    have hcl : (nI j).toNatClampNeg = j := nI_clamp (by omega)
    refine g_aload_n B dX7_drop_10 rfl ?_
    refine g_getr B ci_X7 (by first | rfl | assumption) rfl (by decide) fl_X7_7 dX7_drop_11 ?_
    refine g_bipush B (v := 24) dX7_drop_14 (by decide) ?_
    refine g_iald B (by first | rfl | assumption) 24 (lit_nI 24) (by first | decide | omega | assumption) (by decide) dX7_drop_16 ?_
    refine g_iload_n B dX7_drop_17 rfl ?_
    refine g_ishr B dX7_drop_18 ?_
    refine g_iconst B (v := 1) dX7_drop_19 (by decide) ?_
    refine g_iand B dX7_drop_20 ?_
    refine g_if_ne B 27 dX7_drop_21 (by decide) (fun h21 => ?_) (fun h21 => ?_)
    · replace h21 := bit01 h21
      refine g_aload_n B dX7_drop_27 rfl ?_
      refine g_getr B ci_X7 (by first | rfl | assumption) rfl (by decide) fl_X7_7 dX7_drop_28 ?_
      refine g_bipush B (v := 24) dX7_drop_31 (by decide) ?_
      refine g_dup2 B dX7_drop_33 rfl rfl ?_
      refine g_iald B (by first | rfl | assumption) 24 (lit_nI 24) (by first | decide | omega | assumption) (by decide) dX7_drop_34 ?_
      refine g_iconst B (v := 1) dX7_drop_35 (by decide) ?_
      refine g_iload_n B dX7_drop_36 rfl ?_
      refine g_ishl B dX7_drop_37 ?_
      refine g_iconst B (v := (-1)) dX7_drop_38 (by decide) ?_
      refine g_ixor B dX7_drop_39 ?_
      refine g_iand B dX7_drop_40 ?_
      refine g_iast B (by first | rfl | assumption) 24 (lit_nI 24) (by first | decide | omega | assumption) (by decide) dX7_drop_41 ?_
      refine g_aload_n B dX7_drop_42 rfl ?_
      refine g_aload_n B dX7_drop_43 rfl ?_
      refine g_getr B ci_X7 (by first | rfl | assumption) rfl (by decide) fl_X7_7 dX7_drop_44 ?_
      refine g_bipush B (v := 24) dX7_drop_47 (by decide) ?_
      refine g_iald B (by first | rfl | assumption) 24 (lit_nI 24) (by first | decide | omega | assumption) (by decide) dX7_drop_49 ?_
      refine g_callVI B (ct_X7_standing (I := w2 I 58 24 (I 58 24 &&& (((1 : Int32) <<< (nI j &&& 31)) ^^^ (-1)))) hn hn8 _) (by first | rfl | assumption) rfl ml_X7_168 mm_X7_standing rfl rfl (Nat.le_of_ble_eq_true rfl) dX7_drop_50 (by decide) ?_
      rintro _ _ ⟨rfl, rfl⟩
      refine g_callSI B (ct_X7_bitsOf _) ml_X7_179 mm_X7_bitsOf rfl rfl (Nat.le_of_ble_eq_true rfl) dX7_drop_53 (by decide) ?_
      rintro _ _ ⟨rfl, rfl⟩
      exact g_iret B E rfl dX7_drop_56 ⟨by simp only [stw (show 24 ≤ 24 by decide) hn8]; simp [drpQ, *]; rfl, by simp [drpQ, *]⟩
    · refine g_bipush B (v := (-2)) dX7_drop_24 (by decide) ?_
      exact g_iret B E rfl dX7_drop_26 ⟨by simp [drpQ, *], by simp [drpQ, *]⟩
  · rw [bI_eq0] at h5
    refine g_iconst B (v := (-1)) dX7_drop_8 (by decide) ?_
    exact g_iret B E rfl dX7_drop_9 ⟨by simp [drpQ, *], by simp [drpQ, *]⟩
set_option maxHeartbeats 4000000 in
set_option maxRecDepth 100000 in
theorem ct_X6_day {I : Wo} (d : Int32) : Ct yX6_day cX6_day 3 (some .int) 1 22 [.ref 0, .int d] I (pI (fun r u => r = (if wi d 0 9 then I 1 11 else -1) ∧ u = (if wi d 0 9 then w2 I 1 11 d else I))) := by
  refine ct_of RX6 rfl (by decide) (Nat.le_of_ble_eq_true rfl) (fun X B E => ?_)
  show GW X 3 0 [some (.ref 0), some (.int d), none] [] _
  refine g_iload_n B dX6_day_0 rfl ?_
  refine g_iconst B (v := 0) dX6_day_1 (by decide) ?_
  refine g_bipush B (v := 9) dX6_day_2 (by decide) ?_
  refine g_callSI B (ct_X6_within _ _ _) ml_X6_66 mm_X6_within rfl rfl (Nat.le_of_ble_eq_true rfl) dX6_day_4 (by decide) ?_
  rintro _ _ ⟨rfl, rfl⟩
  refine g_if_ne B 12 dX6_day_7 (by decide) (fun h7 => ?_) (fun h7 => ?_)
  · rw [bI_ne0] at h7
    refine g_aload_n B dX6_day_12 rfl ?_
    refine g_getr B ci_X6 (by first | rfl | assumption) rfl (by decide) fl_X6_10 dX6_day_13 ?_
    refine g_geti B ci_X3 (by first | rfl | assumption) rfl (by decide) fl_X6_101 dX6_day_16 ?_
    refine g_istn2 B dX6_day_19 (by decide) rfl ?_
    refine g_aload_n B dX6_day_20 rfl ?_
    refine g_getr B ci_X6 (by first | rfl | assumption) rfl (by decide) fl_X6_10 dX6_day_21 ?_
    refine g_iload_n B dX6_day_24 rfl ?_
    refine g_put B ci_X3 (by first | rfl | assumption) rfl (by decide) fl_X6_101 rfl rfl rfl dX6_day_25 ?_
    refine g_iload_n B dX6_day_28 rfl ?_
    exact g_iret B E rfl dX6_day_29 ⟨by simp [*], by simp [*]⟩
  · rw [bI_eq0] at h7
    refine g_iconst B (v := (-1)) dX6_day_10 (by decide) ?_
    exact g_iret B E rfl dX6_day_11 ⟨by simp [*], by simp [*]⟩
set_option maxHeartbeats 4000000 in
set_option maxRecDepth 100000 in
theorem ct_X7_day {I : Wo} (d : Int32) : Ct yX7_day cX7_day 2 (some .int) 1 25 [.ref 57, .int d] I (pI (fun r u => r = (if wi d 0 9 then I 58 26 else -1) ∧ u = (if wi d 0 9 then w2 I 58 26 d else I))) := by
  refine ct_of RX7 rfl (by decide) (Nat.le_of_ble_eq_true rfl) (fun X B E => ?_)
  show GW X 2 0 [some (.ref 57), some (.int d)] [] _
  refine g_iload_n B dX7_day_0 rfl ?_
  refine g_i2l B dX7_day_1 ?_
  refine g_lconst B (v := 0) dX7_day_2 (by decide) ?_
  refine g_ldc2 B dX7_day_3 cn_X7_182 ?_
  refine g_callSI B (ct_in _ 0 9 rfl (by decide) (by decide)) ml_X7_77 mm_X7_in rfl rfl (Nat.le_of_ble_eq_true rfl) dX7_day_6 (by decide) ?_
  rintro _ _ ⟨rfl, rfl⟩
  refine g_if_eq B 22 dX7_day_9 (by decide) (fun h9 => ?_) (fun h9 => ?_)
  · rw [bI_eq0] at h9
    refine g_iconst B (v := (-1)) dX7_day_22 (by decide) ?_
    exact g_iret B E rfl dX7_day_23 ⟨by simp [*], by simp [*]⟩
  · rw [bI_ne0] at h9
    refine g_aload_n B dX7_day_12 rfl ?_
    refine g_bipush B (v := 26) dX7_day_13 (by decide) ?_
    refine g_iload_n B dX7_day_15 rfl ?_
    refine g_callVI B (ct_X7_becomes (k := 26) (by decide) _) (by first | rfl | assumption) rfl ml_X7_184 mm_X7_becomes rfl rfl (Nat.le_of_ble_eq_true rfl) dX7_day_16 (by decide) ?_
    rintro _ _ ⟨rfl, rfl⟩
    refine g_goto B 23 dX7_day_19 (by decide) ?_
    exact g_iret B E rfl dX7_day_23 ⟨by simp [*], by simp [*]⟩
set_option maxHeartbeats 4000000 in
set_option maxRecDepth 100000 in
theorem ct_X6_aim {I : Wo} {n : Nat} (hn : I 1 9 = nI n) (hn8 : n ≤ 8) (c : Int32) : Ct yX6_aim cX6_aim 3 (some .int) 1 21 [.ref 0, .int c] I (pI (fun r u => r = (if cOK n c then I 1 10 else -1) ∧ u = (if cOK n c then w2 I 1 10 c else I))) := by
  refine ct_of RX6 rfl (by decide) (Nat.le_of_ble_eq_true rfl) (fun X B E => ?_)
  show GW X 3 0 [some (.ref 0), some (.int c), none] [] _
  refine g_aload_n B dX6_aim_0 rfl ?_
  refine g_getr B ci_X6 (by first | rfl | assumption) rfl (by decide) fl_X6_10 dX6_aim_1 ?_
  refine g_iload_n B dX6_aim_4 rfl ?_
  refine g_callVI B (cs_X3_hasClaim hn _) (by first | rfl | assumption) rfl ml_X6_114 mm_X3_hasClaim rfl rfl (Nat.le_of_ble_eq_true rfl) dX6_aim_5 (by decide) ?_
  rintro _ _ ⟨rfl, rfl⟩
  refine g_if_ne B 13 dX6_aim_8 (by decide) (fun h8 => ?_) (fun h8 => ?_)
  · rw [bI_ne0] at h8
    refine g_aload_n B dX6_aim_13 rfl ?_
    refine g_getr B ci_X6 (by first | rfl | assumption) rfl (by decide) fl_X6_10 dX6_aim_14 ?_
    refine g_geti B ci_X3 (by first | rfl | assumption) rfl (by decide) fl_X6_98 dX6_aim_17 ?_
    refine g_istn2 B dX6_aim_20 (by decide) rfl ?_
    refine g_aload_n B dX6_aim_21 rfl ?_
    refine g_getr B ci_X6 (by first | rfl | assumption) rfl (by decide) fl_X6_10 dX6_aim_22 ?_
    refine g_iload_n B dX6_aim_25 rfl ?_
    refine g_put B ci_X3 (by first | rfl | assumption) rfl (by decide) fl_X6_98 rfl rfl rfl dX6_aim_26 ?_
    refine g_iload_n B dX6_aim_29 rfl ?_
    exact g_iret B E rfl dX6_aim_30 ⟨by simp [*], by simp [*]⟩
  · rw [bI_eq0] at h8
    refine g_iconst B (v := (-1)) dX6_aim_11 (by decide) ?_
    exact g_iret B E rfl dX6_aim_12 ⟨by simp [*], by simp [*]⟩
set_option maxHeartbeats 4000000 in
set_option maxRecDepth 100000 in
theorem ct_X7_aim {I : Wo} {n : Nat} (hn : I 57 2 = nI n) (hn8 : n ≤ 8) (c : Int32) : Ct yX7_aim cX7_aim 2 (some .int) 2 46 [.ref 57, .int c] I (pI (fun r u => r = (if cOK n c then I 58 25 else -1) ∧ u = (if cOK n c then w2 I 58 25 c else I))) := by
  refine ct_of RX7 rfl (by decide) (Nat.le_of_ble_eq_true rfl) (fun X B E => ?_)
  show GW X 2 0 [some (.ref 57), some (.int c)] [] _
  refine g_aload_n B dX7_aim_0 rfl ?_
  refine g_iload_n B dX7_aim_1 rfl ?_
  refine g_callVI B (ct_X7_isClaim hn hn8 _) (by first | rfl | assumption) rfl ml_X7_171 mm_X7_isClaim rfl rfl (Nat.le_of_ble_eq_true rfl) dX7_aim_2 (by decide) ?_
  rintro _ _ ⟨rfl, rfl⟩
  refine g_if_eq B 18 dX7_aim_5 (by decide) (fun h5 => ?_) (fun h5 => ?_)
  · rw [bI_eq0] at h5
    refine g_iconst B (v := (-1)) dX7_aim_18 (by decide) ?_
    exact g_iret B E rfl dX7_aim_19 ⟨by simp [*], by simp [*]⟩
  · rw [bI_ne0] at h5
    refine g_aload_n B dX7_aim_8 rfl ?_
    refine g_bipush B (v := 25) dX7_aim_9 (by decide) ?_
    refine g_iload_n B dX7_aim_11 rfl ?_
    refine g_callVI B (ct_X7_becomes (k := 25) (by decide) _) (by first | rfl | assumption) rfl ml_X7_184 mm_X7_becomes rfl rfl (Nat.le_of_ble_eq_true rfl) dX7_aim_12 (by decide) ?_
    rintro _ _ ⟨rfl, rfl⟩
    refine g_goto B 19 dX7_aim_15 (by decide) ?_
    exact g_iret B E rfl dX7_aim_19 ⟨by simp [*], by simp [*]⟩
set_option maxHeartbeats 4000000 in
set_option maxRecDepth 100000 in
theorem ct_X6_yards {I : Wo} {n : Nat} (hn : I 1 9 = nI n) (hn8 : n ≤ 8) (c v : Int32) : Ct yX6_yards cX6_yards 4 (some .int) 1 22 [.ref 0, .int c, .int v] I (pI (fun r u => r = (if cOK n c && wi v 0 9 then I 5 c.toNatClampNeg else -1) ∧ u = (if cOK n c && wi v 0 9 then w2 I 5 c.toNatClampNeg v else I))) := by
  refine ct_of RX6 rfl (by decide) (Nat.le_of_ble_eq_true rfl) (fun X B E => ?_)
  show GW X 4 0 [some (.ref 0), some (.int c), some (.int v), none] [] _
  refine g_aload_n B dX6_yards_0 rfl ?_
  refine g_getr B ci_X6 (by first | rfl | assumption) rfl (by decide) fl_X6_10 dX6_yards_1 ?_
  refine g_iload_n B dX6_yards_4 rfl ?_
  refine g_callVI B (cs_X3_hasClaim hn _) (by first | rfl | assumption) rfl ml_X6_114 mm_X3_hasClaim rfl rfl (Nat.le_of_ble_eq_true rfl) dX6_yards_5 (by decide) ?_
  rintro _ _ ⟨rfl, rfl⟩
  refine g_if_eq B 21 dX6_yards_8 (by decide) (fun h8 => ?_) (fun h8 => ?_)
  · rw [bI_eq0] at h8
    refine g_iconst B (v := (-1)) dX6_yards_21 (by decide) ?_
    exact g_iret B E rfl dX6_yards_22 ⟨by simp [*], by simp [*]⟩
  · rw [bI_ne0] at h8
    refine g_iload_n B dX6_yards_11 rfl ?_
    refine g_iconst B (v := 0) dX6_yards_12 (by decide) ?_
    refine g_bipush B (v := 9) dX6_yards_13 (by decide) ?_
    refine g_callSI B (ct_X6_within _ _ _) ml_X6_66 mm_X6_within rfl rfl (Nat.le_of_ble_eq_true rfl) dX6_yards_15 (by decide) ?_
    rintro _ _ ⟨rfl, rfl⟩
    refine g_if_ne B 23 dX6_yards_18 (by decide) (fun h18 => ?_) (fun h18 => ?_)
    · rw [bI_ne0] at h18
      obtain ⟨j, hj, rfl⟩ := (cOK_iff (by omega)).mp h8
      have hcl : (nI j).toNatClampNeg = j := nI_clamp (by omega)
      refine g_aload_n B dX6_yards_23 rfl ?_
      refine g_getr B ci_X6 (by first | rfl | assumption) rfl (by decide) fl_X6_10 dX6_yards_24 ?_
      refine g_getr B ci_X3 (by first | rfl | assumption) rfl (by decide) fl_X6_126 dX6_yards_27 ?_
      refine g_iload_n B dX6_yards_30 rfl ?_
      refine g_iald B (by first | rfl | assumption) _ (by first | with_reducible rfl | exact lit_add _ _ | exact add_lit _ _ | exact nI_add _ _ | exact lit_nI _ | assumption | rfl) (by first | decide | omega | assumption) (by decide) dX6_yards_31 ?_
      refine g_istn3 B dX6_yards_32 (by decide) rfl ?_
      refine g_aload_n B dX6_yards_33 rfl ?_
      refine g_getr B ci_X6 (by first | rfl | assumption) rfl (by decide) fl_X6_10 dX6_yards_34 ?_
      refine g_getr B ci_X3 (by first | rfl | assumption) rfl (by decide) fl_X6_126 dX6_yards_37 ?_
      refine g_iload_n B dX6_yards_40 rfl ?_
      refine g_iload_n B dX6_yards_41 rfl ?_
      refine g_iast B (by first | rfl | assumption) _ (by first | with_reducible rfl | exact lit_add _ _ | exact add_lit _ _ | exact nI_add _ _ | exact lit_nI _ | assumption | rfl) (by first | decide | omega | assumption) (by decide) dX6_yards_42 ?_
      refine g_iload_n B dX6_yards_43 rfl ?_
      exact g_iret B E rfl dX6_yards_44 ⟨by simp [*], by simp [*]⟩
    · rw [bI_eq0] at h18
      refine g_iconst B (v := (-1)) dX6_yards_21 (by decide) ?_
      exact g_iret B E rfl dX6_yards_22 ⟨by simp [*], by simp [*]⟩
set_option maxHeartbeats 4000000 in
set_option maxRecDepth 100000 in
theorem ct_X7_yards {I : Wo} {n : Nat} (hn : I 57 2 = nI n) (hn8 : n ≤ 8) (c v : Int32) : Ct yX7_yards cX7_yards 3 (some .int) 2 46 [.ref 57, .int c, .int v] I (pI (fun r u => r = (if cOK n c && wi v 0 9 then I 58 (16 + c.toNatClampNeg) else -1) ∧ u = (if cOK n c && wi v 0 9 then w2 I 58 (16 + c.toNatClampNeg) v else I))) := by
  refine ct_of RX7 rfl (by decide) (Nat.le_of_ble_eq_true rfl) (fun X B E => ?_)
  show GW X 3 0 [some (.ref 57), some (.int c), some (.int v)] [] _
  refine g_aload_n B dX7_yards_0 rfl ?_
  refine g_iload_n B dX7_yards_1 rfl ?_
  refine g_callVI B (ct_X7_isClaim hn hn8 _) (by first | rfl | assumption) rfl ml_X7_171 mm_X7_isClaim rfl rfl (Nat.le_of_ble_eq_true rfl) dX7_yards_2 (by decide) ?_
  rintro _ _ ⟨rfl, rfl⟩
  refine g_if_eq B 32 dX7_yards_5 (by decide) (fun h5 => ?_) (fun h5 => ?_)
  · rw [bI_eq0] at h5
    refine g_iconst B (v := (-1)) dX7_yards_32 (by decide) ?_
    exact g_iret B E rfl dX7_yards_33 ⟨by simp [*], by simp [*]⟩
  · rw [bI_ne0] at h5
    refine g_iload_n B dX7_yards_8 rfl ?_
    refine g_i2l B dX7_yards_9 ?_
    refine g_lconst B (v := 0) dX7_yards_10 (by decide) ?_
    refine g_ldc2 B dX7_yards_11 cn_X7_182 ?_
    refine g_callSI B (ct_in _ 0 9 rfl (by decide) (by decide)) ml_X7_77 mm_X7_in rfl rfl (Nat.le_of_ble_eq_true rfl) dX7_yards_14 (by decide) ?_
    rintro _ _ ⟨rfl, rfl⟩
    refine g_if_eq B 32 dX7_yards_17 (by decide) (fun h17 => ?_) (fun h17 => ?_)
    · rw [bI_eq0] at h17
      refine g_iconst B (v := (-1)) dX7_yards_32 (by decide) ?_
      exact g_iret B E rfl dX7_yards_33 ⟨by simp [*], by simp [*]⟩
    · rw [bI_ne0] at h17
      obtain ⟨j, hj, rfl⟩ := (cOK_iff (by omega)).mp h5
      have hcl : (nI j).toNatClampNeg = j := nI_clamp (by omega)
      refine g_aload_n B dX7_yards_20 rfl ?_
      refine g_bipush B (v := 16) dX7_yards_21 (by decide) ?_
      refine g_iload_n B dX7_yards_23 rfl ?_
      refine g_iadd B dX7_yards_24 ?_
      refine g_eqi (nI (16 + j)) (la_16 j) ?_
      refine g_iload_n B dX7_yards_25 rfl ?_
      refine g_callVI B (ct_X7_becomes (k := 16 + j) (by omega) _) (by first | rfl | assumption) rfl ml_X7_184 mm_X7_becomes rfl rfl (Nat.le_of_ble_eq_true rfl) dX7_yards_26 (by decide) ?_
      rintro _ _ ⟨rfl, rfl⟩
      refine g_goto B 33 dX7_yards_29 (by decide) ?_
      exact g_iret B E rfl dX7_yards_33 ⟨by simp [*], by simp [*]⟩
set_option maxHeartbeats 4000000 in
set_option maxRecDepth 100000 in
theorem ct_X6_plans {I : Wo} {n q : Nat} (hn : I 1 9 = nI n) (hn8 : n ≤ 8) (hq : I 1 13 = nI q) (hq6 : q ≤ 6) (c : Int32) : Ct yX6_plans cX6_plans 2 (some .int) 1 21 [.ref 0, .int c] I (pI (fun r u => r = (if cOK n c then (if q < 6 then nI (q + 1) else -3) else -1) ∧ u = (if cOK n c && decide (q < 6) then w2 (w2 I 8 q c) 1 13 (nI (q + 1)) else I))) := by
  refine ct_of RX6 rfl (by decide) (Nat.le_of_ble_eq_true rfl) (fun X B E => ?_)
  show GW X 2 0 [some (.ref 0), some (.int c)] [] _
  refine g_aload_n B dX6_plans_0 rfl ?_
  refine g_getr B ci_X6 (by first | rfl | assumption) rfl (by decide) fl_X6_10 dX6_plans_1 ?_
  refine g_iload_n B dX6_plans_4 rfl ?_
  refine g_callVI B (cs_X3_hasClaim hn _) (by first | rfl | assumption) rfl ml_X6_114 mm_X3_hasClaim rfl rfl (Nat.le_of_ble_eq_true rfl) dX6_plans_5 (by decide) ?_
  rintro _ _ ⟨rfl, rfl⟩
  refine g_if_ne B 13 dX6_plans_8 (by decide) (fun h8 => ?_) (fun h8 => ?_)
  · rw [bI_ne0] at h8
    refine g_aload_n B dX6_plans_13 rfl ?_
    refine g_getr B ci_X6 (by first | rfl | assumption) rfl (by decide) fl_X6_10 dX6_plans_14 ?_
    refine g_iload_n B dX6_plans_17 rfl ?_
    refine g_callVI B (cs_X3_addToPlan hq hq6 _) (by first | rfl | assumption) rfl ml_X6_154 mm_X3_addToPlan rfl rfl (Nat.le_of_ble_eq_true rfl) dX6_plans_18 (by decide) ?_
    rintro _ _ (⟨hlt, rfl, rfl⟩ | ⟨hge, rfl, rfl⟩)
    · refine g_if_eq B 34 dX6_plans_21 (by decide) (fun h21 => ?_) (fun h21 => ?_)
      · refine g_bipush B (v := (-3)) dX6_plans_34 (by decide) ?_
        exact g_iret B E rfl dX6_plans_36 (by first | exact absurd h21 (by decide) | exact absurd rfl h21 | exact ⟨by simp [*, w2], by simp [*]⟩)
      · refine g_aload_n B dX6_plans_24 rfl ?_
        refine g_getr B ci_X6 (by first | rfl | assumption) rfl (by decide) fl_X6_10 dX6_plans_25 ?_
        refine g_geti B ci_X3 (by first | rfl | assumption) rfl (by decide) fl_X6_111 dX6_plans_28 ?_
        refine g_goto B 36 dX6_plans_31 (by decide) ?_
        exact g_iret B E rfl dX6_plans_36 (by first | exact absurd h21 (by decide) | exact absurd rfl h21 | exact ⟨by simp [*, w2], by simp [*]⟩)
    · refine g_if_eq B 34 dX6_plans_21 (by decide) (fun h21 => ?_) (fun h21 => ?_)
      · refine g_bipush B (v := (-3)) dX6_plans_34 (by decide) ?_
        exact g_iret B E rfl dX6_plans_36 (by first | exact absurd h21 (by decide) | exact absurd rfl h21 | exact ⟨by simp [*, w2], by simp [*]⟩)
      · refine g_aload_n B dX6_plans_24 rfl ?_
        refine g_getr B ci_X6 (by first | rfl | assumption) rfl (by decide) fl_X6_10 dX6_plans_25 ?_
        refine g_geti B ci_X3 (by first | rfl | assumption) rfl (by decide) fl_X6_111 dX6_plans_28 ?_
        refine g_goto B 36 dX6_plans_31 (by decide) ?_
        exact g_iret B E rfl dX6_plans_36 (by first | exact absurd h21 (by decide) | exact absurd rfl h21 | exact ⟨by simp [*, w2], by simp [*]⟩)
  · rw [bI_eq0] at h8
    refine g_iconst B (v := (-1)) dX6_plans_11 (by decide) ?_
    exact g_iret B E rfl dX6_plans_12 (by first | exact absurd h21 (by decide) | exact absurd rfl h21 | exact ⟨by simp [*, w2], by simp [*]⟩)
set_option maxHeartbeats 4000000 in
set_option maxRecDepth 100000 in
theorem ct_X7_plans {I : Wo} {n q : Nat} (hn : I 57 2 = nI n) (hn8 : n ≤ 8) (hq : I 58 27 = nI q) (hq6 : q ≤ 6) (c : Int32) : Ct yX7_plans cX7_plans 2 (some .int) 2 46 [.ref 57, .int c] I (pI (fun r u => r = (if cOK n c then (if q < 6 then nI (q + 1) else -3) else -1) ∧ u = (if cOK n c && decide (q < 6) then w2 (w2 I 58 (28 + q) c) 58 27 (nI (q + 1)) else I))) := by
  refine ct_of RX7 rfl (by decide) (Nat.le_of_ble_eq_true rfl) (fun X B E => ?_)
  show GW X 2 0 [some (.ref 57), some (.int c)] [] _
  refine g_aload_n B dX7_plans_0 rfl ?_
  refine g_iload_n B dX7_plans_1 rfl ?_
  refine g_callVI B (ct_X7_isClaim hn hn8 _) (by first | rfl | assumption) rfl ml_X7_171 mm_X7_isClaim rfl rfl (Nat.le_of_ble_eq_true rfl) dX7_plans_2 (by decide) ?_
  rintro _ _ ⟨rfl, rfl⟩
  refine g_if_ne B 10 dX7_plans_5 (by decide) (fun h5 => ?_) (fun h5 => ?_)
  · rw [bI_ne0] at h5
    refine g_aload_n B dX7_plans_10 rfl ?_
    refine g_getr B ci_X7 (by first | rfl | assumption) rfl (by decide) fl_X7_7 dX7_plans_11 ?_
    refine g_bipush B (v := 27) dX7_plans_14 (by decide) ?_
    refine g_iald B (by first | rfl | assumption) 27 (lit_nI 27) (by first | decide | omega | assumption) (by decide) dX7_plans_16 ?_
    refine g_bipush B (v := 6) dX7_plans_17 (by decide) ?_
    refine g_icmp_ne B 25 dX7_plans_19 (by decide) (fun h19 => ?_) (fun h19 => ?_)
    · have hlt : q < 6 := ne6 hq6 (fun z => h19 (by rw [hq, z]; rfl))
      refine g_aload_n B dX7_plans_25 rfl ?_
      refine g_getr B ci_X7 (by first | rfl | assumption) rfl (by decide) fl_X7_7 dX7_plans_26 ?_
      refine g_bipush B (v := 28) dX7_plans_29 (by decide) ?_
      refine g_aload_n B dX7_plans_31 rfl ?_
      refine g_getr B ci_X7 (by first | rfl | assumption) rfl (by decide) fl_X7_7 dX7_plans_32 ?_
      refine g_bipush B (v := 27) dX7_plans_35 (by decide) ?_
      refine g_iald B (by first | rfl | assumption) 27 (lit_nI 27) (by first | decide | omega | assumption) (by decide) dX7_plans_37 ?_
      refine g_iadd B dX7_plans_38 ?_
      refine g_eqi (nI (28 + q)) (by rw [hq]; exact la_28 q) ?_
      refine g_iload_n B dX7_plans_39 rfl ?_
      refine g_iast B (by first | rfl | assumption) (28 + q) rfl (by first | decide | omega | assumption) (by decide) dX7_plans_40 ?_
      refine g_aload_n B dX7_plans_41 rfl ?_
      refine g_getr B ci_X7 (by first | rfl | assumption) rfl (by decide) fl_X7_7 dX7_plans_42 ?_
      refine g_bipush B (v := 27) dX7_plans_45 (by decide) ?_
      refine g_dup2 B dX7_plans_47 rfl rfl ?_
      refine g_iald B (by first | rfl | assumption) 27 (lit_nI 27) (by first | decide | omega | assumption) (by decide) dX7_plans_48 ?_
      refine g_iconst B (v := 1) dX7_plans_49 (by decide) ?_
      refine g_iadd B dX7_plans_50 ?_
      refine g_eqi (nI (q + 1)) (by rw [w2_slot _ _ (by omega), hq]; exact nI_1 q) ?_
      refine g_iast B (by first | rfl | assumption) 27 (lit_nI 27) (by first | decide | omega | assumption) (by decide) dX7_plans_51 ?_
      refine g_aload_n B dX7_plans_52 rfl ?_
      refine g_getr B ci_X7 (by first | rfl | assumption) rfl (by decide) fl_X7_7 dX7_plans_53 ?_
      refine g_bipush B (v := 27) dX7_plans_56 (by decide) ?_
      refine g_iald B (by first | rfl | assumption) 27 (lit_nI 27) (by first | decide | omega | assumption) (by decide) dX7_plans_58 ?_
      exact g_iret B E rfl dX7_plans_59 ⟨by simp [*, w2], by simp [*]⟩
    · have hge : q = 6 := (nI_eq (by omega) (by decide)).mp (by rw [← hq]; exact h19)
      refine g_bipush B (v := (-3)) dX7_plans_22 (by decide) ?_
      exact g_iret B E rfl dX7_plans_24 ⟨by simp [*], by simp [*]⟩
  · rw [bI_eq0] at h5
    refine g_iconst B (v := (-1)) dX7_plans_8 (by decide) ?_
    exact g_iret B E rfl dX7_plans_9 ⟨by simp [*], by simp [*]⟩
set_option maxHeartbeats 4000000 in
set_option maxRecDepth 100000 in
theorem ct_X6_bind {I : Wo} {ra rb c : Nat} (hra : shL[ra]? = some (.inr (.inl (0, 8)))) (hrb : shL[rb]? = some (.inr (.inl (0, 8)))) (hc : c < 8) (o : Int32) (z : Bool) : Ct yX6_bind cX6_bind 7 (some .int) 1 22 [.ref ra, .ref rb, .int (nI c), .int o, .int (bI z)] I (pI (fun r u => r = (if bindQ c o z (I rb c) = 0 then (I ra c >>> (o &&& 31)) &&& 1 else bindQ c o z (I rb c)) ∧ u = (if bindQ c o z (I rb c) = 0 then w2 I ra c (bindV o z (I ra c)) else I))) := by
  refine ct_of RX6 rfl (by decide) (Nat.le_of_ble_eq_true rfl) (fun X B E => ?_)
  show GW X 7 0 [some (.ref ra), some (.ref rb), some (.int (nI c)), some (.int o), some (.int (bI z)), none, none] [] _
  refine g_iload_n B dX6_bind_0 rfl ?_
  refine g_iconst B (v := 0) dX6_bind_1 (by decide) ?_
  refine g_iload_n B dX6_bind_2 rfl ?_
  refine g_iconst B (v := 1) dX6_bind_3 (by decide) ?_
  refine g_isub B dX6_bind_4 ?_
  refine g_callSI B (ct_X6_within _ _ _) ml_X6_66 mm_X6_within rfl rfl (Nat.le_of_ble_eq_true rfl) dX6_bind_5 (by decide) ?_
  rintro _ _ ⟨rfl, rfl⟩
  refine g_if_ne B 13 dX6_bind_8 (by decide) (fun h8 => ?_) (fun h8 => ?_)
  · rw [bI_ne0] at h8
    rw [cOK_pred (by omega)] at h8
    refine g_iconst B (v := 1) dX6_bind_13 (by decide) ?_
    refine g_iload_n B dX6_bind_14 rfl ?_
    refine g_ishl B dX6_bind_15 ?_
    refine g_ist5 B dX6_bind_16 (by decide) rfl ?_
    refine g_iload B dX6_bind_18 rfl ?_
    refine g_if_eq B 35 dX6_bind_20 (by decide) (fun h20 => ?_) (fun h20 => ?_)
    · rw [bI_eq0] at h20
      subst h20
      refine g_aload_n B dX6_bind_35 rfl ?_
      refine g_iload_n B dX6_bind_36 rfl ?_
      refine g_iald B (by first | rfl | assumption) _ (by first | with_reducible rfl | exact lit_add _ _ | exact add_lit _ _ | exact nI_add _ _ | exact lit_nI _ | assumption | rfl) (by first | decide | omega | assumption) (by decide) dX6_bind_37 ?_
      refine g_iload_n B dX6_bind_38 rfl ?_
      refine g_ishr B dX6_bind_39 ?_
      refine g_iconst B (v := 1) dX6_bind_40 (by decide) ?_
      refine g_iand B dX6_bind_41 ?_
      refine g_ist6 B dX6_bind_42 (by decide) rfl ?_
      refine g_aload_n B dX6_bind_44 rfl ?_
      refine g_iload_n B dX6_bind_45 rfl ?_
      refine g_iload B dX6_bind_46 rfl ?_
      refine g_if_eq B 60 dX6_bind_48 (by decide) (fun h48 => ?_) (fun h48 => ?_)
      · refine g_aload_n B dX6_bind_60 rfl ?_
        refine g_iload_n B dX6_bind_61 rfl ?_
        refine g_iald B (by first | rfl | assumption) _ (by first | with_reducible rfl | exact lit_add _ _ | exact add_lit _ _ | exact nI_add _ _ | exact lit_nI _ | assumption | rfl) (by first | decide | omega | assumption) (by decide) dX6_bind_62 ?_
        refine g_iload B dX6_bind_63 rfl ?_
        refine g_iconst B (v := (-1)) dX6_bind_65 (by decide) ?_
        refine g_ixor B dX6_bind_66 ?_
        refine g_iand B dX6_bind_67 ?_
        refine g_iast B (by first | rfl | assumption) _ (by first | with_reducible rfl | exact lit_add _ _ | exact add_lit _ _ | exact nI_add _ _ | exact lit_nI _ | assumption | rfl) (by first | decide | omega | assumption) (by decide) dX6_bind_68 ?_
        refine g_iload B dX6_bind_69 rfl ?_
        exact g_iret B E rfl dX6_bind_71 (by first | exact absurd h48 (by decide) | exact absurd rfl h48 | exact ⟨by simp [bindQ, bindV, *], by simp [bindQ, bindV, *]⟩)
      · refine g_aload_n B dX6_bind_51 rfl ?_
        refine g_iload_n B dX6_bind_52 rfl ?_
        refine g_iald B (by first | rfl | assumption) _ (by first | with_reducible rfl | exact lit_add _ _ | exact add_lit _ _ | exact nI_add _ _ | exact lit_nI _ | assumption | rfl) (by first | decide | omega | assumption) (by decide) dX6_bind_53 ?_
        refine g_iload B dX6_bind_54 rfl ?_
        refine g_ior B dX6_bind_56 ?_
        refine g_goto B 68 dX6_bind_57 (by decide) ?_
        refine g_iast B (by first | rfl | assumption) _ (by first | with_reducible rfl | exact lit_add _ _ | exact add_lit _ _ | exact nI_add _ _ | exact lit_nI _ | assumption | rfl) (by first | decide | omega | assumption) (by decide) dX6_bind_68 ?_
        refine g_iload B dX6_bind_69 rfl ?_
        exact g_iret B E rfl dX6_bind_71 (by first | exact absurd h48 (by decide) | exact absurd rfl h48 | exact ⟨by simp [bindQ, bindV, *], by simp [bindQ, bindV, *]⟩)
    · rw [bI_ne0] at h20
      subst h20
      refine g_aload_n B dX6_bind_23 rfl ?_
      refine g_iload_n B dX6_bind_24 rfl ?_
      refine g_iald B (by first | rfl | assumption) _ (by first | with_reducible rfl | exact lit_add _ _ | exact add_lit _ _ | exact nI_add _ _ | exact lit_nI _ | assumption | rfl) (by first | decide | omega | assumption) (by decide) dX6_bind_25 ?_
      refine g_iload B dX6_bind_26 rfl ?_
      refine g_iand B dX6_bind_28 ?_
      refine g_if_eq B 35 dX6_bind_29 (by decide) (fun h29 => ?_) (fun h29 => ?_)
      · refine g_aload_n B dX6_bind_35 rfl ?_
        refine g_iload_n B dX6_bind_36 rfl ?_
        refine g_iald B (by first | rfl | assumption) _ (by first | with_reducible rfl | exact lit_add _ _ | exact add_lit _ _ | exact nI_add _ _ | exact lit_nI _ | assumption | rfl) (by first | decide | omega | assumption) (by decide) dX6_bind_37 ?_
        refine g_iload_n B dX6_bind_38 rfl ?_
        refine g_ishr B dX6_bind_39 ?_
        refine g_iconst B (v := 1) dX6_bind_40 (by decide) ?_
        refine g_iand B dX6_bind_41 ?_
        refine g_ist6 B dX6_bind_42 (by decide) rfl ?_
        refine g_aload_n B dX6_bind_44 rfl ?_
        refine g_iload_n B dX6_bind_45 rfl ?_
        refine g_iload B dX6_bind_46 rfl ?_
        refine g_if_eq B 60 dX6_bind_48 (by decide) (fun h48 => ?_) (fun h48 => ?_)
        · refine g_aload_n B dX6_bind_60 rfl ?_
          refine g_iload_n B dX6_bind_61 rfl ?_
          refine g_iald B (by first | rfl | assumption) _ (by first | with_reducible rfl | exact lit_add _ _ | exact add_lit _ _ | exact nI_add _ _ | exact lit_nI _ | assumption | rfl) (by first | decide | omega | assumption) (by decide) dX6_bind_62 ?_
          refine g_iload B dX6_bind_63 rfl ?_
          refine g_iconst B (v := (-1)) dX6_bind_65 (by decide) ?_
          refine g_ixor B dX6_bind_66 ?_
          refine g_iand B dX6_bind_67 ?_
          refine g_iast B (by first | rfl | assumption) _ (by first | with_reducible rfl | exact lit_add _ _ | exact add_lit _ _ | exact nI_add _ _ | exact lit_nI _ | assumption | rfl) (by first | decide | omega | assumption) (by decide) dX6_bind_68 ?_
          refine g_iload B dX6_bind_69 rfl ?_
          exact g_iret B E rfl dX6_bind_71 (by first | exact absurd h48 (by decide) | exact absurd rfl h48 | exact ⟨by simp [bindQ, bindV, *], by simp [bindQ, bindV, *]⟩)
        · refine g_aload_n B dX6_bind_51 rfl ?_
          refine g_iload_n B dX6_bind_52 rfl ?_
          refine g_iald B (by first | rfl | assumption) _ (by first | with_reducible rfl | exact lit_add _ _ | exact add_lit _ _ | exact nI_add _ _ | exact lit_nI _ | assumption | rfl) (by first | decide | omega | assumption) (by decide) dX6_bind_53 ?_
          refine g_iload B dX6_bind_54 rfl ?_
          refine g_ior B dX6_bind_56 ?_
          refine g_goto B 68 dX6_bind_57 (by decide) ?_
          refine g_iast B (by first | rfl | assumption) _ (by first | with_reducible rfl | exact lit_add _ _ | exact add_lit _ _ | exact nI_add _ _ | exact lit_nI _ | assumption | rfl) (by first | decide | omega | assumption) (by decide) dX6_bind_68 ?_
          refine g_iload B dX6_bind_69 rfl ?_
          exact g_iret B E rfl dX6_bind_71 (by first | exact absurd h48 (by decide) | exact absurd rfl h48 | exact ⟨by simp [bindQ, bindV, *], by simp [bindQ, bindV, *]⟩)
      · refine g_bipush B (v := (-2)) dX6_bind_32 (by decide) ?_
        exact g_iret B E rfl dX6_bind_34 (by first | exact absurd h48 (by decide) | exact absurd rfl h48 | exact ⟨by simp [bindQ, bindV, *], by simp [bindQ, bindV, *]⟩)
  · rw [bI_eq0] at h8
    rw [cOK_pred (by omega)] at h8
    refine g_iconst B (v := (-1)) dX6_bind_11 (by decide) ?_
    exact g_iret B E rfl dX6_bind_12 (by first | exact absurd h48 (by decide) | exact absurd rfl h48 | exact ⟨by simp [bindQ, bindV, *], by simp [bindQ, bindV, *]⟩)
set_option maxHeartbeats 4000000 in
set_option maxRecDepth 100000 in
theorem ct_X6_leans {I : Wo} {n : Nat} (hn : I 1 9 = nI n) (hn8 : n ≤ 8) (c o : Int32) (z : Bool) : Ct yX6_leans cX6_leans 4 (some .int) 2 48 [.ref 0, .int c, .int o, .int (bI z)] I (pI (fun r u => r = (if cOK n c then (if bindQ c.toNatClampNeg o z (I 7 c.toNatClampNeg) = 0 then (I 6 c.toNatClampNeg >>> (o &&& 31)) &&& 1 else bindQ c.toNatClampNeg o z (I 7 c.toNatClampNeg)) else -1) ∧ u = (if cOK n c = true ∧ bindQ c.toNatClampNeg o z (I 7 c.toNatClampNeg) = 0 then w2 I 6 c.toNatClampNeg (bindV o z (I 6 c.toNatClampNeg)) else I))) := by
  refine ct_of RX6 rfl (by decide) (Nat.le_of_ble_eq_true rfl) (fun X B E => ?_)
  show GW X 4 0 [some (.ref 0), some (.int c), some (.int o), some (.int (bI z))] [] _
  refine g_aload_n B dX6_leans_0 rfl ?_
  refine g_getr B ci_X6 (by first | rfl | assumption) rfl (by decide) fl_X6_10 dX6_leans_1 ?_
  refine g_iload_n B dX6_leans_4 rfl ?_
  refine g_callVI B (cs_X3_hasClaim hn _) (by first | rfl | assumption) rfl ml_X6_114 mm_X3_hasClaim rfl rfl (Nat.le_of_ble_eq_true rfl) dX6_leans_5 (by decide) ?_
  rintro _ _ ⟨rfl, rfl⟩
  refine g_if_eq B 34 dX6_leans_8 (by decide) (fun h8 => ?_) (fun h8 => ?_)
  · rw [bI_eq0] at h8
    refine g_iconst B (v := (-1)) dX6_leans_34 (by decide) ?_
    exact g_iret B E rfl dX6_leans_35 ⟨by simp [*], by simp [*]⟩
  · rw [bI_ne0] at h8
    obtain ⟨j, hj, rfl⟩ := (cOK_iff (by omega)).mp h8
    have hcl : (nI j).toNatClampNeg = j := nI_clamp (by omega)
    refine g_aload_n B dX6_leans_11 rfl ?_
    refine g_getr B ci_X6 (by first | rfl | assumption) rfl (by decide) fl_X6_10 dX6_leans_12 ?_
    refine g_getr B ci_X3 (by first | rfl | assumption) rfl (by decide) fl_X6_129 dX6_leans_15 ?_
    refine g_aload_n B dX6_leans_18 rfl ?_
    refine g_getr B ci_X6 (by first | rfl | assumption) rfl (by decide) fl_X6_10 dX6_leans_19 ?_
    refine g_getr B ci_X3 (by first | rfl | assumption) rfl (by decide) fl_X6_132 dX6_leans_22 ?_
    refine g_iload_n B dX6_leans_25 rfl ?_
    refine g_iload_n B dX6_leans_26 rfl ?_
    refine g_iload_n B dX6_leans_27 rfl ?_
    refine g_callSI B (ct_X6_bind (ra := 6) (rb := 7) (c := j) rfl rfl (by omega) _ _) ml_X6_150 mm_X6_bind rfl rfl (Nat.le_of_ble_eq_true rfl) dX6_leans_28 (by decide) ?_
    rintro _ _ ⟨rfl, rfl⟩
    refine g_goto B 35 dX6_leans_31 (by decide) ?_
    exact g_iret B E rfl dX6_leans_35 ⟨by simp [*], by simp [*]⟩
set_option maxHeartbeats 4000000 in
set_option maxRecDepth 100000 in
theorem ct_X6_falls {I : Wo} {n : Nat} (hn : I 1 9 = nI n) (hn8 : n ≤ 8) (c o : Int32) (z : Bool) : Ct yX6_falls cX6_falls 4 (some .int) 2 48 [.ref 0, .int c, .int o, .int (bI z)] I (pI (fun r u => r = (if cOK n c then (if bindQ c.toNatClampNeg o z (I 6 c.toNatClampNeg) = 0 then (I 7 c.toNatClampNeg >>> (o &&& 31)) &&& 1 else bindQ c.toNatClampNeg o z (I 6 c.toNatClampNeg)) else -1) ∧ u = (if cOK n c = true ∧ bindQ c.toNatClampNeg o z (I 6 c.toNatClampNeg) = 0 then w2 I 7 c.toNatClampNeg (bindV o z (I 7 c.toNatClampNeg)) else I))) := by
  refine ct_of RX6 rfl (by decide) (Nat.le_of_ble_eq_true rfl) (fun X B E => ?_)
  show GW X 4 0 [some (.ref 0), some (.int c), some (.int o), some (.int (bI z))] [] _
  refine g_aload_n B dX6_falls_0 rfl ?_
  refine g_getr B ci_X6 (by first | rfl | assumption) rfl (by decide) fl_X6_10 dX6_falls_1 ?_
  refine g_iload_n B dX6_falls_4 rfl ?_
  refine g_callVI B (cs_X3_hasClaim hn _) (by first | rfl | assumption) rfl ml_X6_114 mm_X3_hasClaim rfl rfl (Nat.le_of_ble_eq_true rfl) dX6_falls_5 (by decide) ?_
  rintro _ _ ⟨rfl, rfl⟩
  refine g_if_eq B 34 dX6_falls_8 (by decide) (fun h8 => ?_) (fun h8 => ?_)
  · rw [bI_eq0] at h8
    refine g_iconst B (v := (-1)) dX6_falls_34 (by decide) ?_
    exact g_iret B E rfl dX6_falls_35 ⟨by simp [*], by simp [*]⟩
  · rw [bI_ne0] at h8
    obtain ⟨j, hj, rfl⟩ := (cOK_iff (by omega)).mp h8
    have hcl : (nI j).toNatClampNeg = j := nI_clamp (by omega)
    refine g_aload_n B dX6_falls_11 rfl ?_
    refine g_getr B ci_X6 (by first | rfl | assumption) rfl (by decide) fl_X6_10 dX6_falls_12 ?_
    refine g_getr B ci_X3 (by first | rfl | assumption) rfl (by decide) fl_X6_132 dX6_falls_15 ?_
    refine g_aload_n B dX6_falls_18 rfl ?_
    refine g_getr B ci_X6 (by first | rfl | assumption) rfl (by decide) fl_X6_10 dX6_falls_19 ?_
    refine g_getr B ci_X3 (by first | rfl | assumption) rfl (by decide) fl_X6_129 dX6_falls_22 ?_
    refine g_iload_n B dX6_falls_25 rfl ?_
    refine g_iload_n B dX6_falls_26 rfl ?_
    refine g_iload_n B dX6_falls_27 rfl ?_
    refine g_callSI B (ct_X6_bind (ra := 7) (rb := 6) (c := j) rfl rfl (by omega) _ _) ml_X6_150 mm_X6_bind rfl rfl (Nat.le_of_ble_eq_true rfl) dX6_falls_28 (by decide) ?_
    rintro _ _ ⟨rfl, rfl⟩
    refine g_goto B 35 dX6_falls_31 (by decide) ?_
    exact g_iret B E rfl dX6_falls_35 ⟨by simp [*], by simp [*]⟩
set_option maxHeartbeats 4000000 in
set_option maxRecDepth 100000 in
theorem ct_X7_becomesBit {I : Wo} {n ra rb : Nat} (hn : I 57 2 = nI n) (hn8 : n ≤ 8) (hra : ra = 0 ∨ ra = 8) (hrb : rb = 0 ∨ rb = 8) (c o : Int32) (z : Bool) : Ct yX7_becomesBit cX7_becomesBit 7 (some .int) 2 46 [.ref 57, .int c, .int o, .int (bI z), .int (nI ra), .int (nI rb)] I (pI (fun r u => r = (if cOK n c then (if bindQ c.toNatClampNeg o z (I 58 (rb + c.toNatClampNeg)) = 0 then (I 58 (ra + c.toNatClampNeg) >>> (o &&& 31)) &&& 1 else bindQ c.toNatClampNeg o z (I 58 (rb + c.toNatClampNeg))) else -1) ∧ u = (if cOK n c = true ∧ bindQ c.toNatClampNeg o z (I 58 (rb + c.toNatClampNeg)) = 0 then w2 I 58 (ra + c.toNatClampNeg) (bindV o z (I 58 (ra + c.toNatClampNeg))) else I))) := by
  refine ct_of RX7 rfl (by decide) (Nat.le_of_ble_eq_true rfl) (fun X B E => ?_)
  show GW X 7 0 [some (.ref 57), some (.int c), some (.int o), some (.int (bI z)), some (.int (nI ra)), some (.int (nI rb)), none] [] _
  refine g_aload_n B dX7_becomesBit_0 rfl ?_
  refine g_iload_n B dX7_becomesBit_1 rfl ?_
  refine g_callVI B (ct_X7_isClaim hn hn8 _) (by first | rfl | assumption) rfl ml_X7_171 mm_X7_isClaim rfl rfl (Nat.le_of_ble_eq_true rfl) dX7_becomesBit_2 (by decide) ?_
  rintro _ _ ⟨rfl, rfl⟩
  refine g_if_eq B 21 dX7_becomesBit_5 (by decide) (fun h5 => ?_) (fun h5 => ?_)
  · rw [bI_eq0] at h5
    refine g_iconst B (v := (-1)) dX7_becomesBit_21 (by decide) ?_
    exact g_iret B E rfl dX7_becomesBit_22 (by first | exact absurd h71 (by decide) | exact absurd rfl h71 | exact ⟨by simp [bindQ, bindV, *], by simp [bindQ, bindV, *]⟩)
  · rw [bI_ne0] at h5
    obtain ⟨j, hj, rfl⟩ := (cOK_iff (by omega)).mp h5
    have hcl : (nI j).toNatClampNeg = j := nI_clamp (by omega)
    refine g_iload_n B dX7_becomesBit_8 rfl ?_
    refine g_i2l B dX7_becomesBit_9 ?_
    refine g_lconst B (v := 0) dX7_becomesBit_10 (by decide) ?_
    refine g_iload_n B dX7_becomesBit_11 rfl ?_
    refine g_iconst B (v := 1) dX7_becomesBit_12 (by decide) ?_
    refine g_isub B dX7_becomesBit_13 ?_
    refine g_i2l B dX7_becomesBit_14 ?_
    refine g_callSI B (ct_in _ 0 (nI j - 1) rfl (by decide) rfl) ml_X7_77 mm_X7_in rfl rfl (Nat.le_of_ble_eq_true rfl) dX7_becomesBit_15 (by decide) ?_
    rintro _ _ ⟨rfl, rfl⟩
    refine g_if_ne B 23 dX7_becomesBit_18 (by decide) (fun h18 => ?_) (fun h18 => ?_)
    · rw [bI_ne0] at h18
      rw [cOK_pred (by omega)] at h18
      have hbt := bit_and (I 58 (rb + j)) (show cOK j o = true from h18) (by omega)
      refine g_iload_n B dX7_becomesBit_23 rfl ?_
      refine g_if_eq B 47 dX7_becomesBit_24 (by decide) (fun h24 => ?_) (fun h24 => ?_)
      · rw [bI_eq0] at h24
        subst h24
        refine g_aload_n B dX7_becomesBit_47 rfl ?_
        refine g_getr B ci_X7 (by first | rfl | assumption) rfl (by decide) fl_X7_7 dX7_becomesBit_48 ?_
        refine g_iload B dX7_becomesBit_51 rfl ?_
        refine g_iload_n B dX7_becomesBit_53 rfl ?_
        refine g_iadd B dX7_becomesBit_54 ?_
        refine g_iald B (by first | rfl | assumption) _ (by first | with_reducible rfl | exact lit_add _ _ | exact add_lit _ _ | exact nI_add _ _ | exact lit_nI _ | assumption | rfl) (by first | decide | omega | assumption) (by decide) dX7_becomesBit_55 ?_
        refine g_iload_n B dX7_becomesBit_56 rfl ?_
        refine g_ishr B dX7_becomesBit_57 ?_
        refine g_iconst B (v := 1) dX7_becomesBit_58 (by decide) ?_
        refine g_iand B dX7_becomesBit_59 ?_
        refine g_ist6 B dX7_becomesBit_60 (by decide) rfl ?_
        refine g_aload_n B dX7_becomesBit_62 rfl ?_
        refine g_getr B ci_X7 (by first | rfl | assumption) rfl (by decide) fl_X7_7 dX7_becomesBit_63 ?_
        refine g_iload B dX7_becomesBit_66 rfl ?_
        refine g_iload_n B dX7_becomesBit_68 rfl ?_
        refine g_iadd B dX7_becomesBit_69 ?_
        refine g_eqi (nI (ra + j)) (nI_add _ _) ?_
        refine g_iload_n B dX7_becomesBit_70 rfl ?_
        refine g_if_eq B 90 dX7_becomesBit_71 (by decide) (fun h71 => ?_) (fun h71 => ?_)
        · refine g_aload_n B dX7_becomesBit_90 rfl ?_
          refine g_getr B ci_X7 (by first | rfl | assumption) rfl (by decide) fl_X7_7 dX7_becomesBit_91 ?_
          refine g_iload B dX7_becomesBit_94 rfl ?_
          refine g_iload_n B dX7_becomesBit_96 rfl ?_
          refine g_iadd B dX7_becomesBit_97 ?_
          refine g_iald B (by first | rfl | assumption) _ (by first | with_reducible rfl | exact lit_add _ _ | exact add_lit _ _ | exact nI_add _ _ | exact lit_nI _ | assumption | rfl) (by first | decide | omega | assumption) (by decide) dX7_becomesBit_98 ?_
          refine g_iconst B (v := 1) dX7_becomesBit_99 (by decide) ?_
          refine g_iload_n B dX7_becomesBit_100 rfl ?_
          refine g_ishl B dX7_becomesBit_101 ?_
          refine g_iconst B (v := (-1)) dX7_becomesBit_102 (by decide) ?_
          refine g_ixor B dX7_becomesBit_103 ?_
          refine g_iand B dX7_becomesBit_104 ?_
          refine g_iast B (by first | rfl | assumption) _ (by first | with_reducible rfl | exact lit_add _ _ | exact add_lit _ _ | exact nI_add _ _ | exact lit_nI _ | assumption | rfl) (by first | decide | omega | assumption) (by decide) dX7_becomesBit_105 ?_
          refine g_iload B dX7_becomesBit_106 rfl ?_
          exact g_iret B E rfl dX7_becomesBit_108 (by first | exact absurd h71 (by decide) | exact absurd rfl h71 | exact ⟨by simp [bindQ, bindV, *], by simp [bindQ, bindV, *]⟩)
        · refine g_aload_n B dX7_becomesBit_74 rfl ?_
          refine g_getr B ci_X7 (by first | rfl | assumption) rfl (by decide) fl_X7_7 dX7_becomesBit_75 ?_
          refine g_iload B dX7_becomesBit_78 rfl ?_
          refine g_iload_n B dX7_becomesBit_80 rfl ?_
          refine g_iadd B dX7_becomesBit_81 ?_
          refine g_iald B (by first | rfl | assumption) _ (by first | with_reducible rfl | exact lit_add _ _ | exact add_lit _ _ | exact nI_add _ _ | exact lit_nI _ | assumption | rfl) (by first | decide | omega | assumption) (by decide) dX7_becomesBit_82 ?_
          refine g_iconst B (v := 1) dX7_becomesBit_83 (by decide) ?_
          refine g_iload_n B dX7_becomesBit_84 rfl ?_
          refine g_ishl B dX7_becomesBit_85 ?_
          refine g_ior B dX7_becomesBit_86 ?_
          refine g_goto B 105 dX7_becomesBit_87 (by decide) ?_
          refine g_iast B (by first | rfl | assumption) _ (by first | with_reducible rfl | exact lit_add _ _ | exact add_lit _ _ | exact nI_add _ _ | exact lit_nI _ | assumption | rfl) (by first | decide | omega | assumption) (by decide) dX7_becomesBit_105 ?_
          refine g_iload B dX7_becomesBit_106 rfl ?_
          exact g_iret B E rfl dX7_becomesBit_108 (by first | exact absurd h71 (by decide) | exact absurd rfl h71 | exact ⟨by simp [bindQ, bindV, *], by simp [bindQ, bindV, *]⟩)
      · rw [bI_ne0] at h24
        subst h24
        refine g_aload_n B dX7_becomesBit_27 rfl ?_
        refine g_getr B ci_X7 (by first | rfl | assumption) rfl (by decide) fl_X7_7 dX7_becomesBit_28 ?_
        refine g_iload B dX7_becomesBit_31 rfl ?_
        refine g_iload_n B dX7_becomesBit_33 rfl ?_
        refine g_iadd B dX7_becomesBit_34 ?_
        refine g_iald B (by first | rfl | assumption) _ (by first | with_reducible rfl | exact lit_add _ _ | exact add_lit _ _ | exact nI_add _ _ | exact lit_nI _ | assumption | rfl) (by first | decide | omega | assumption) (by decide) dX7_becomesBit_35 ?_
        refine g_iload_n B dX7_becomesBit_36 rfl ?_
        refine g_ishr B dX7_becomesBit_37 ?_
        refine g_iconst B (v := 1) dX7_becomesBit_38 (by decide) ?_
        refine g_iand B dX7_becomesBit_39 ?_
        refine g_iconst B (v := 1) dX7_becomesBit_40 (by decide) ?_
        refine g_icmp_ne B 47 dX7_becomesBit_41 (by decide) (fun h41 => ?_) (fun h41 => ?_)
        · refine g_aload_n B dX7_becomesBit_47 rfl ?_
          refine g_getr B ci_X7 (by first | rfl | assumption) rfl (by decide) fl_X7_7 dX7_becomesBit_48 ?_
          refine g_iload B dX7_becomesBit_51 rfl ?_
          refine g_iload_n B dX7_becomesBit_53 rfl ?_
          refine g_iadd B dX7_becomesBit_54 ?_
          refine g_iald B (by first | rfl | assumption) _ (by first | with_reducible rfl | exact lit_add _ _ | exact add_lit _ _ | exact nI_add _ _ | exact lit_nI _ | assumption | rfl) (by first | decide | omega | assumption) (by decide) dX7_becomesBit_55 ?_
          refine g_iload_n B dX7_becomesBit_56 rfl ?_
          refine g_ishr B dX7_becomesBit_57 ?_
          refine g_iconst B (v := 1) dX7_becomesBit_58 (by decide) ?_
          refine g_iand B dX7_becomesBit_59 ?_
          refine g_ist6 B dX7_becomesBit_60 (by decide) rfl ?_
          refine g_aload_n B dX7_becomesBit_62 rfl ?_
          refine g_getr B ci_X7 (by first | rfl | assumption) rfl (by decide) fl_X7_7 dX7_becomesBit_63 ?_
          refine g_iload B dX7_becomesBit_66 rfl ?_
          refine g_iload_n B dX7_becomesBit_68 rfl ?_
          refine g_iadd B dX7_becomesBit_69 ?_
          refine g_eqi (nI (ra + j)) (nI_add _ _) ?_
          refine g_iload_n B dX7_becomesBit_70 rfl ?_
          refine g_if_eq B 90 dX7_becomesBit_71 (by decide) (fun h71 => ?_) (fun h71 => ?_)
          · refine g_aload_n B dX7_becomesBit_90 rfl ?_
            refine g_getr B ci_X7 (by first | rfl | assumption) rfl (by decide) fl_X7_7 dX7_becomesBit_91 ?_
            refine g_iload B dX7_becomesBit_94 rfl ?_
            refine g_iload_n B dX7_becomesBit_96 rfl ?_
            refine g_iadd B dX7_becomesBit_97 ?_
            refine g_iald B (by first | rfl | assumption) _ (by first | with_reducible rfl | exact lit_add _ _ | exact add_lit _ _ | exact nI_add _ _ | exact lit_nI _ | assumption | rfl) (by first | decide | omega | assumption) (by decide) dX7_becomesBit_98 ?_
            refine g_iconst B (v := 1) dX7_becomesBit_99 (by decide) ?_
            refine g_iload_n B dX7_becomesBit_100 rfl ?_
            refine g_ishl B dX7_becomesBit_101 ?_
            refine g_iconst B (v := (-1)) dX7_becomesBit_102 (by decide) ?_
            refine g_ixor B dX7_becomesBit_103 ?_
            refine g_iand B dX7_becomesBit_104 ?_
            refine g_iast B (by first | rfl | assumption) _ (by first | with_reducible rfl | exact lit_add _ _ | exact add_lit _ _ | exact nI_add _ _ | exact lit_nI _ | assumption | rfl) (by first | decide | omega | assumption) (by decide) dX7_becomesBit_105 ?_
            refine g_iload B dX7_becomesBit_106 rfl ?_
            exact g_iret B E rfl dX7_becomesBit_108 (by first | exact absurd h71 (by decide) | exact absurd rfl h71 | exact ⟨by simp [bindQ, bindV, *], by simp [bindQ, bindV, *]⟩)
          · refine g_aload_n B dX7_becomesBit_74 rfl ?_
            refine g_getr B ci_X7 (by first | rfl | assumption) rfl (by decide) fl_X7_7 dX7_becomesBit_75 ?_
            refine g_iload B dX7_becomesBit_78 rfl ?_
            refine g_iload_n B dX7_becomesBit_80 rfl ?_
            refine g_iadd B dX7_becomesBit_81 ?_
            refine g_iald B (by first | rfl | assumption) _ (by first | with_reducible rfl | exact lit_add _ _ | exact add_lit _ _ | exact nI_add _ _ | exact lit_nI _ | assumption | rfl) (by first | decide | omega | assumption) (by decide) dX7_becomesBit_82 ?_
            refine g_iconst B (v := 1) dX7_becomesBit_83 (by decide) ?_
            refine g_iload_n B dX7_becomesBit_84 rfl ?_
            refine g_ishl B dX7_becomesBit_85 ?_
            refine g_ior B dX7_becomesBit_86 ?_
            refine g_goto B 105 dX7_becomesBit_87 (by decide) ?_
            refine g_iast B (by first | rfl | assumption) _ (by first | with_reducible rfl | exact lit_add _ _ | exact add_lit _ _ | exact nI_add _ _ | exact lit_nI _ | assumption | rfl) (by first | decide | omega | assumption) (by decide) dX7_becomesBit_105 ?_
            refine g_iload B dX7_becomesBit_106 rfl ?_
            exact g_iret B E rfl dX7_becomesBit_108 (by first | exact absurd h71 (by decide) | exact absurd rfl h71 | exact ⟨by simp [bindQ, bindV, *], by simp [bindQ, bindV, *]⟩)
        · refine g_bipush B (v := (-2)) dX7_becomesBit_44 (by decide) ?_
          exact g_iret B E rfl dX7_becomesBit_46 (by first | exact absurd h71 (by decide) | exact absurd rfl h71 | exact ⟨by simp [bindQ, bindV, *], by simp [bindQ, bindV, *]⟩)
    · rw [bI_eq0] at h18
      rw [cOK_pred (by omega)] at h18
      refine g_iconst B (v := (-1)) dX7_becomesBit_21 (by decide) ?_
      exact g_iret B E rfl dX7_becomesBit_22 (by first | exact absurd h71 (by decide) | exact absurd rfl h71 | exact ⟨by simp [bindQ, bindV, *], by simp [bindQ, bindV, *]⟩)
set_option maxHeartbeats 4000000 in
set_option maxRecDepth 100000 in
theorem ct_X7_leans {I : Wo} {n : Nat} (hn : I 57 2 = nI n) (hn8 : n ≤ 8) (c o : Int32) (z : Bool) : Ct yX7_leans cX7_leans 4 (some .int) 3 72 [.ref 57, .int c, .int o, .int (bI z)] I (pI (fun r u => r = (if cOK n c then (if bindQ c.toNatClampNeg o z (I 58 (8 + c.toNatClampNeg)) = 0 then (I 58 (0 + c.toNatClampNeg) >>> (o &&& 31)) &&& 1 else bindQ c.toNatClampNeg o z (I 58 (8 + c.toNatClampNeg))) else -1) ∧ u = (if cOK n c = true ∧ bindQ c.toNatClampNeg o z (I 58 (8 + c.toNatClampNeg)) = 0 then w2 I 58 (0 + c.toNatClampNeg) (bindV o z (I 58 (0 + c.toNatClampNeg))) else I))) := by
  refine ct_of RX7 rfl (by decide) (Nat.le_of_ble_eq_true rfl) (fun X B E => ?_)
  show GW X 4 0 [some (.ref 57), some (.int c), some (.int o), some (.int (bI z))] [] _
  refine g_aload_n B dX7_leans_0 rfl ?_
  refine g_iload_n B dX7_leans_1 rfl ?_
  refine g_iload_n B dX7_leans_2 rfl ?_
  refine g_iload_n B dX7_leans_3 rfl ?_
  refine g_iconst B (v := 0) dX7_leans_4 (by decide) ?_
  refine g_bipush B (v := 8) dX7_leans_5 (by decide) ?_
  refine g_callVI B (ct_X7_becomesBit (ra := 0) (rb := 8) hn hn8 (by decide) (by decide) _ _ _) (by first | rfl | assumption) rfl ml_X7_187 mm_X7_becomesBit rfl rfl (Nat.le_of_ble_eq_true rfl) dX7_leans_7 (by decide) ?_
  rintro _ _ ⟨rfl, rfl⟩
  exact g_iret B E rfl dX7_leans_10 ⟨rfl, rfl⟩
set_option maxHeartbeats 4000000 in
set_option maxRecDepth 100000 in
theorem ct_X7_falls {I : Wo} {n : Nat} (hn : I 57 2 = nI n) (hn8 : n ≤ 8) (c o : Int32) (z : Bool) : Ct yX7_falls cX7_falls 4 (some .int) 3 72 [.ref 57, .int c, .int o, .int (bI z)] I (pI (fun r u => r = (if cOK n c then (if bindQ c.toNatClampNeg o z (I 58 (0 + c.toNatClampNeg)) = 0 then (I 58 (8 + c.toNatClampNeg) >>> (o &&& 31)) &&& 1 else bindQ c.toNatClampNeg o z (I 58 (0 + c.toNatClampNeg))) else -1) ∧ u = (if cOK n c = true ∧ bindQ c.toNatClampNeg o z (I 58 (0 + c.toNatClampNeg)) = 0 then w2 I 58 (8 + c.toNatClampNeg) (bindV o z (I 58 (8 + c.toNatClampNeg))) else I))) := by
  refine ct_of RX7 rfl (by decide) (Nat.le_of_ble_eq_true rfl) (fun X B E => ?_)
  show GW X 4 0 [some (.ref 57), some (.int c), some (.int o), some (.int (bI z))] [] _
  refine g_aload_n B dX7_falls_0 rfl ?_
  refine g_iload_n B dX7_falls_1 rfl ?_
  refine g_iload_n B dX7_falls_2 rfl ?_
  refine g_iload_n B dX7_falls_3 rfl ?_
  refine g_bipush B (v := 8) dX7_falls_4 (by decide) ?_
  refine g_iconst B (v := 0) dX7_falls_6 (by decide) ?_
  refine g_callVI B (ct_X7_becomesBit (ra := 8) (rb := 0) hn hn8 (by decide) (by decide) _ _ _) (by first | rfl | assumption) rfl ml_X7_187 mm_X7_becomesBit rfl rfl (Nat.le_of_ble_eq_true rfl) dX7_falls_7 (by decide) ?_
  rintro _ _ ⟨rfl, rfl⟩
  exact g_iret B E rfl dX7_falls_10 ⟨rfl, rfl⟩
set_option maxHeartbeats 4000000 in
set_option maxRecDepth 100000 in
theorem ct_X6_cut {I : Wo} {q : Nat} (hq : I 1 13 = nI q) (i : Int32) : Ct yX6_cut cX6_cut 3 (some .int) 1 22 [.ref 0, .int i] I (pI (fun r u => r = (if wi i 0 (nI q) then nI q else -1) ∧ u = (if wi i 0 (nI q) then w2 I 1 13 i else I))) := by
  refine ct_of RX6 rfl (by decide) (Nat.le_of_ble_eq_true rfl) (fun X B E => ?_)
  show GW X 3 0 [some (.ref 0), some (.int i), none] [] _
  refine g_iload_n B dX6_cut_0 rfl ?_
  refine g_iconst B (v := 0) dX6_cut_1 (by decide) ?_
  refine g_aload_n B dX6_cut_2 rfl ?_
  refine g_getr B ci_X6 (by first | rfl | assumption) rfl (by decide) fl_X6_10 dX6_cut_3 ?_
  refine g_geti B ci_X3 (by first | rfl | assumption) rfl (by decide) fl_X6_111 dX6_cut_6 ?_
  refine g_callSI B (ct_X6_within _ _ _) ml_X6_66 mm_X6_within rfl rfl (Nat.le_of_ble_eq_true rfl) dX6_cut_9 (by decide) ?_
  rintro _ _ ⟨rfl, rfl⟩
  refine g_if_ne B 17 dX6_cut_12 (by decide) (fun h12 => ?_) (fun h12 => ?_)
  · rw [bI_ne0] at h12
    rw [hq] at h12
    refine g_aload_n B dX6_cut_17 rfl ?_
    refine g_getr B ci_X6 (by first | rfl | assumption) rfl (by decide) fl_X6_10 dX6_cut_18 ?_
    refine g_geti B ci_X3 (by first | rfl | assumption) rfl (by decide) fl_X6_111 dX6_cut_21 ?_
    refine g_istn2 B dX6_cut_24 (by decide) rfl ?_
    refine g_aload_n B dX6_cut_25 rfl ?_
    refine g_getr B ci_X6 (by first | rfl | assumption) rfl (by decide) fl_X6_10 dX6_cut_26 ?_
    refine g_iload_n B dX6_cut_29 rfl ?_
    refine g_put B ci_X3 (by first | rfl | assumption) rfl (by decide) fl_X6_111 rfl rfl rfl dX6_cut_30 ?_
    refine g_iload_n B dX6_cut_33 rfl ?_
    exact g_iret B E rfl dX6_cut_34 ⟨by simp [*], by simp [*]⟩
  · rw [bI_eq0] at h12
    rw [hq] at h12
    refine g_iconst B (v := (-1)) dX6_cut_15 (by decide) ?_
    exact g_iret B E rfl dX6_cut_16 ⟨by simp [*], by simp [*]⟩
set_option maxHeartbeats 4000000 in
set_option maxRecDepth 100000 in
theorem ct_X7_cut {I : Wo} {q : Nat} (hq : I 58 27 = nI q) (i : Int32) : Ct yX7_cut cX7_cut 2 (some .int) 1 25 [.ref 57, .int i] I (pI (fun r u => r = (if wi i 0 (nI q) then nI q else -1) ∧ u = (if wi i 0 (nI q) then w2 I 58 27 i else I))) := by
  refine ct_of RX7 rfl (by decide) (Nat.le_of_ble_eq_true rfl) (fun X B E => ?_)
  show GW X 2 0 [some (.ref 57), some (.int i)] [] _
  refine g_iload_n B dX7_cut_0 rfl ?_
  refine g_i2l B dX7_cut_1 ?_
  refine g_lconst B (v := 0) dX7_cut_2 (by decide) ?_
  refine g_aload_n B dX7_cut_3 rfl ?_
  refine g_getr B ci_X7 (by first | rfl | assumption) rfl (by decide) fl_X7_7 dX7_cut_4 ?_
  refine g_bipush B (v := 27) dX7_cut_7 (by decide) ?_
  refine g_iald B (by first | rfl | assumption) 27 (lit_nI 27) (by first | decide | omega | assumption) (by decide) dX7_cut_9 ?_
  refine g_i2l B dX7_cut_10 ?_
  refine g_callSI B (ct_in _ 0 (I 58 27) rfl (by decide) rfl) ml_X7_77 mm_X7_in rfl rfl (Nat.le_of_ble_eq_true rfl) dX7_cut_11 (by decide) ?_
  rintro _ _ ⟨rfl, rfl⟩
  refine g_if_eq B 27 dX7_cut_14 (by decide) (fun h14 => ?_) (fun h14 => ?_)
  · rw [bI_eq0] at h14
    rw [hq] at h14
    refine g_iconst B (v := (-1)) dX7_cut_27 (by decide) ?_
    exact g_iret B E rfl dX7_cut_28 ⟨by simp [*], by simp [*]⟩
  · rw [bI_ne0] at h14
    rw [hq] at h14
    refine g_aload_n B dX7_cut_17 rfl ?_
    refine g_bipush B (v := 27) dX7_cut_18 (by decide) ?_
    refine g_iload_n B dX7_cut_20 rfl ?_
    refine g_callVI B (ct_X7_becomes (k := 27) (by decide) _) (by first | rfl | assumption) rfl ml_X7_184 mm_X7_becomes rfl rfl (Nat.le_of_ble_eq_true rfl) dX7_cut_21 (by decide) ?_
    rintro _ _ ⟨rfl, rfl⟩
    refine g_goto B 28 dX7_cut_24 (by decide) ?_
    exact g_iret B E rfl dX7_cut_28 ⟨by simp [*], by simp [*]⟩
set_option maxHeartbeats 4000000 in
set_option maxRecDepth 100000 in
theorem ct_X6_stands {I : Wo} {n : Nat} (hn : I 1 9 = nI n) (hn8 : n ≤ 8) (c : Int32) : Ct yX6_stands cX6_stands 2 (some .int) 1 24 [.ref 0, .int c] I (pI (fun r u => r = (if cOK (2 ^ n) c then stF (I 6) (I 7) c n else -1) ∧ I = u)) := by
  refine ct_of RX6 rfl (by decide) (Nat.le_of_ble_eq_true rfl) (fun X B E => ?_)
  show GW X 2 0 [some (.ref 0), some (.int c)] [] _
  refine g_aload_n B dX6_stands_0 rfl ?_
  refine g_getr B ci_X6 (by first | rfl | assumption) rfl (by decide) fl_X6_10 dX6_stands_1 ?_
  refine g_iload_n B dX6_stands_4 rfl ?_
  refine g_callVI B (cs_X3_hasSet hn hn8 _) (by first | rfl | assumption) rfl ml_X6_157 mm_X3_hasSet rfl rfl (Nat.le_of_ble_eq_true rfl) dX6_stands_5 (by decide) ?_
  rintro _ _ ⟨rfl, rfl⟩
  refine g_if_eq B 22 dX6_stands_8 (by decide) (fun h8 => ?_) (fun h8 => ?_)
  · rw [bI_eq0] at h8
    refine g_iconst B (v := (-1)) dX6_stands_22 (by decide) ?_
    exact g_iret B E rfl dX6_stands_23 ⟨by simp [*], rfl⟩
  · rw [bI_ne0] at h8
    refine g_aload_n B dX6_stands_11 rfl ?_
    refine g_getr B ci_X6 (by first | rfl | assumption) rfl (by decide) fl_X6_10 dX6_stands_12 ?_
    refine g_iload_n B dX6_stands_15 rfl ?_
    refine g_callVI B (cs_X3_standing hn hn8 _) (by first | rfl | assumption) rfl ml_X6_107 mm_X3_standing rfl rfl (Nat.le_of_ble_eq_true rfl) dX6_stands_16 (by decide) ?_
    rintro _ _ ⟨rfl, rfl⟩
    refine g_goto B 23 dX6_stands_19 (by decide) ?_
    exact g_iret B E rfl dX6_stands_23 ⟨by simp [*], rfl⟩
set_option maxHeartbeats 4000000 in
set_option maxRecDepth 100000 in
theorem ct_X7_stands {I : Wo} {n : Nat} (hn : I 57 2 = nI n) (hn8 : n ≤ 8) (c : Int32) : Ct yX7_stands cX7_stands 2 (some .int) 2 44 [.ref 57, .int c] I (pI (fun r u => r = (if cOK (2 ^ n) c then stF (I 58) (fun c => I 58 (8 + c)) c n else -1) ∧ I = u)) := by
  refine ct_of RX7 rfl (by decide) (Nat.le_of_ble_eq_true rfl) (fun X B E => ?_)
  show GW X 2 0 [some (.ref 57), some (.int c)] [] _
  refine g_iload_n B dX7_stands_0 rfl ?_
  refine g_i2l B dX7_stands_1 ?_
  refine g_lconst B (v := 0) dX7_stands_2 (by decide) ?_
  refine g_aload_n B dX7_stands_3 rfl ?_
  refine g_callVI B (ct_X7_every hn hn8) (by first | rfl | assumption) rfl ml_X7_191 mm_X7_every rfl rfl (Nat.le_of_ble_eq_true rfl) dX7_stands_4 (by decide) ?_
  rintro _ _ ⟨rfl, rfl⟩
  refine g_i2l B dX7_stands_7 ?_
  refine g_callSI B (ct_in _ 0 (nI (2 ^ n) - 1) rfl (by decide) rfl) ml_X7_77 mm_X7_in rfl rfl (Nat.le_of_ble_eq_true rfl) dX7_stands_8 (by decide) ?_
  rintro _ _ ⟨rfl, rfl⟩
  refine g_if_eq B 22 dX7_stands_11 (by decide) (fun h11 => ?_) (fun h11 => ?_)
  · rw [bI_eq0] at h11
    rw [sOK_pred hn8] at h11
    refine g_iconst B (v := (-1)) dX7_stands_22 (by decide) ?_
    exact g_iret B E rfl dX7_stands_23 ⟨by simp [*], rfl⟩
  · rw [bI_ne0] at h11
    rw [sOK_pred hn8] at h11
    refine g_aload_n B dX7_stands_14 rfl ?_
    refine g_iload_n B dX7_stands_15 rfl ?_
    refine g_callVI B (ct_X7_standing hn hn8 _) (by first | rfl | assumption) rfl ml_X7_168 mm_X7_standing rfl rfl (Nat.le_of_ble_eq_true rfl) dX7_stands_16 (by decide) ?_
    rintro _ _ ⟨rfl, rfl⟩
    refine g_goto B 23 dX7_stands_19 (by decide) ?_
    exact g_iret B E rfl dX7_stands_23 ⟨by simp [*], rfl⟩
set_option maxHeartbeats 4000000 in
set_option maxRecDepth 100000 in
theorem ct_X4_append {I : Wo} {q : Nat} (hq : I 39 1 = nI q) (hq6 : q ≤ 160) (c : Int32) : Ct yX4_append cX4_append 2 (some .boolean) 0 0 [.ref 39, .int c] I (pI (fun r u => (q < 160 ∧ r = 1 ∧ u = w2 (w2 I 40 q (vp_nar .byte c.toInt8.toInt32)) 39 1 (nI (q + 1))) ∨ (q = 160 ∧ r = 0 ∧ I = u))) := by
  refine ct_of RX4 rfl (by decide) (Nat.le_of_ble_eq_true rfl) (fun X B E => ?_)
  show GW X 2 0 [some (.ref 39), some (.int c)] [] _
  refine g_aload_n B dX4_append_0 rfl ?_
  refine g_geti B ci_X4 (by first | rfl | assumption) rfl (by decide) fl_X4_15 dX4_append_1 ?_
  refine g_sipush B (v := 160) dX4_append_4 (by decide) ?_
  refine g_icmp_lt B 12 dX4_append_7 (by decide) (fun h7 => ?_) (fun h7 => ?_)
  · have hlt : q < 160 := lt_lt (a := q) (b := 160) (by omega) (by decide) (by rw [← hq]; exact h7)
    refine g_aload_n B dX4_append_12 rfl ?_
    refine g_getr B ci_X4 (by first | rfl | assumption) rfl (by decide) fl_X4_9 dX4_append_13 ?_
    refine g_aload_n B dX4_append_16 rfl ?_
    refine g_geti B ci_X4 (by first | rfl | assumption) rfl (by decide) fl_X4_15 dX4_append_17 ?_
    refine g_iload_n B dX4_append_20 rfl ?_
    refine g_i2b B dX4_append_21 ?_
    refine g_bast B (by first | rfl | assumption) q hq (by first | decide | omega | assumption) (by decide) dX4_append_22 ?_
    refine g_aload_n B dX4_append_23 rfl ?_
    refine g_dup B dX4_append_24 rfl ?_
    refine g_geti B ci_X4 (by first | rfl | assumption) rfl (by decide) fl_X4_15 dX4_append_25 ?_
    refine g_iconst B (v := 1) dX4_append_28 (by decide) ?_
    refine g_iadd B dX4_append_29 ?_
    refine g_eqi (nI (q + 1)) (by rw [w2_cell _ _ (by decide), hq]; exact nI_1 q) ?_
    refine g_put B ci_X4 (by first | rfl | assumption) rfl (by decide) fl_X4_15 rfl rfl rfl dX4_append_30 ?_
    refine g_iconst B (v := 1) dX4_append_33 (by decide) ?_
    exact g_iret B E (by first | exact bI_nar _ | decide | exact bI_narv (by assumption)) dX4_append_34 (Or.inl ⟨hlt, rfl, rfl⟩)
  · have hge : q = 160 := by have := nlt_le (a := q) (b := 160) (by omega) (by decide) (by rw [← hq]; exact h7); omega
    refine g_iconst B (v := 0) dX4_append_10 (by decide) ?_
    exact g_iret B E (by first | exact bI_nar _ | decide | exact bI_narv (by assumption)) dX4_append_11 (Or.inr ⟨hge, rfl, rfl⟩)
set_option maxHeartbeats 4000000 in
set_option maxRecDepth 100000 in
theorem ct_X6_feed {I : Wo} {q : Nat} (hq : I 39 1 = nI q) (hq6 : q ≤ 160) (c : Int32) : Ct yX6_feed cX6_feed 2 (some .int) 1 22 [.ref 0, .int c] I (pI (fun r u => r = (if wi c 0 127 then (if q < 160 then nI (q + 1) else -3) else -1) ∧ u = (if wi c 0 127 && decide (q < 160) then w2 (w2 I 40 q (vp_nar .byte c.toInt8.toInt32)) 39 1 (nI (q + 1)) else I))) := by
  refine ct_of RX6 rfl (by decide) (Nat.le_of_ble_eq_true rfl) (fun X B E => ?_)
  show GW X 2 0 [some (.ref 0), some (.int c)] [] _
  refine g_iload_n B dX6_feed_0 rfl ?_
  refine g_iconst B (v := 0) dX6_feed_1 (by decide) ?_
  refine g_bipush B (v := 127) dX6_feed_2 (by decide) ?_
  refine g_callSI B (ct_X6_within _ _ _) ml_X6_66 mm_X6_within rfl rfl (Nat.le_of_ble_eq_true rfl) dX6_feed_4 (by decide) ?_
  rintro _ _ ⟨rfl, rfl⟩
  refine g_if_ne B 12 dX6_feed_7 (by decide) (fun h7 => ?_) (fun h7 => ?_)
  · rw [bI_ne0] at h7
    refine g_aload_n B dX6_feed_12 rfl ?_
    refine g_getr B ci_X6 (by first | rfl | assumption) rfl (by decide) fl_X6_30 dX6_feed_13 ?_
    refine g_iload_n B dX6_feed_16 rfl ?_
    refine g_callVI B (ct_X4_append hq hq6 _) (by first | rfl | assumption) rfl ml_X6_70 mm_X4_append rfl rfl (Nat.le_of_ble_eq_true rfl) dX6_feed_17 (by decide) ?_
    rintro _ _ (⟨hlt, rfl, rfl⟩ | ⟨hge, rfl, rfl⟩)
    · refine g_if_eq B 33 dX6_feed_20 (by decide) (fun h20 => ?_) (fun h20 => ?_)
      · refine g_bipush B (v := (-3)) dX6_feed_33 (by decide) ?_
        exact g_iret B E rfl dX6_feed_35 (by first | exact absurd h20 (by decide) | exact absurd rfl h20 | exact ⟨by simp [*, w2], by simp [*]⟩)
      · refine g_aload_n B dX6_feed_23 rfl ?_
        refine g_getr B ci_X6 (by first | rfl | assumption) rfl (by decide) fl_X6_30 dX6_feed_24 ?_
        refine g_geti B ci_X4 (by first | rfl | assumption) rfl (by decide) fl_X6_74 dX6_feed_27 ?_
        refine g_goto B 35 dX6_feed_30 (by decide) ?_
        exact g_iret B E rfl dX6_feed_35 (by first | exact absurd h20 (by decide) | exact absurd rfl h20 | exact ⟨by simp [*, w2], by simp [*]⟩)
    · refine g_if_eq B 33 dX6_feed_20 (by decide) (fun h20 => ?_) (fun h20 => ?_)
      · refine g_bipush B (v := (-3)) dX6_feed_33 (by decide) ?_
        exact g_iret B E rfl dX6_feed_35 (by first | exact absurd h20 (by decide) | exact absurd rfl h20 | exact ⟨by simp [*, w2], by simp [*]⟩)
      · refine g_aload_n B dX6_feed_23 rfl ?_
        refine g_getr B ci_X6 (by first | rfl | assumption) rfl (by decide) fl_X6_30 dX6_feed_24 ?_
        refine g_geti B ci_X4 (by first | rfl | assumption) rfl (by decide) fl_X6_74 dX6_feed_27 ?_
        refine g_goto B 35 dX6_feed_30 (by decide) ?_
        exact g_iret B E rfl dX6_feed_35 (by first | exact absurd h20 (by decide) | exact absurd rfl h20 | exact ⟨by simp [*, w2], by simp [*]⟩)
  · rw [bI_eq0] at h7
    refine g_iconst B (v := (-1)) dX6_feed_10 (by decide) ?_
    exact g_iret B E rfl dX6_feed_11 (by first | exact absurd h20 (by decide) | exact absurd rfl h20 | exact ⟨by simp [*, w2], by simp [*]⟩)
set_option maxHeartbeats 4000000 in
set_option maxRecDepth 100000 in
theorem ct_X7_feed {I : Wo} {q : Nat} (hq : I 57 14 = nI q) (hq6 : q ≤ 160) (c : Int32) : Ct yX7_feed cX7_feed 2 (some .int) 1 25 [.ref 57, .int c] I (pI (fun r u => r = (if wi c 0 127 then (if q < 160 then nI (q + 1) else -3) else -1) ∧ u = (if wi c 0 127 && decide (q < 160) then w2 (w2 I 67 q c) 57 14 (nI (q + 1)) else I))) := by
  refine ct_of RX7 rfl (by decide) (Nat.le_of_ble_eq_true rfl) (fun X B E => ?_)
  show GW X 2 0 [some (.ref 57), some (.int c)] [] _
  refine g_iload_n B dX7_feed_0 rfl ?_
  refine g_i2l B dX7_feed_1 ?_
  refine g_lconst B (v := 0) dX7_feed_2 (by decide) ?_
  refine g_ldc2 B dX7_feed_3 cn_X7_75 ?_
  refine g_callSI B (ct_in _ 0 127 rfl (by decide) (by decide)) ml_X7_77 mm_X7_in rfl rfl (Nat.le_of_ble_eq_true rfl) dX7_feed_6 (by decide) ?_
  rintro _ _ ⟨rfl, rfl⟩
  refine g_if_ne B 14 dX7_feed_9 (by decide) (fun h9 => ?_) (fun h9 => ?_)
  · rw [bI_ne0] at h9
    refine g_aload_n B dX7_feed_14 rfl ?_
    refine g_geti B ci_X7 (by first | rfl | assumption) rfl (by decide) fl_X7_81 dX7_feed_15 ?_
    refine g_sipush B (v := 160) dX7_feed_18 (by decide) ?_
    refine g_icmp_ne B 27 dX7_feed_21 (by decide) (fun h21 => ?_) (fun h21 => ?_)
    · have hlt : q < 160 := ne6 hq6 (fun z => h21 (by rw [hq, z]; rfl))
      refine g_aload_n B dX7_feed_27 rfl ?_
      refine g_getr B ci_X7 (by first | rfl | assumption) rfl (by decide) fl_X7_38 dX7_feed_28 ?_
      refine g_aload_n B dX7_feed_31 rfl ?_
      refine g_geti B ci_X7 (by first | rfl | assumption) rfl (by decide) fl_X7_81 dX7_feed_32 ?_
      refine g_iload_n B dX7_feed_35 rfl ?_
      refine g_iast B (by first | rfl | assumption) q hq (by first | decide | omega | assumption) (by decide) dX7_feed_36 ?_
      refine g_aload_n B dX7_feed_37 rfl ?_
      refine g_dup B dX7_feed_38 rfl ?_
      refine g_geti B ci_X7 (by first | rfl | assumption) rfl (by decide) fl_X7_81 dX7_feed_39 ?_
      refine g_iconst B (v := 1) dX7_feed_42 (by decide) ?_
      refine g_iadd B dX7_feed_43 ?_
      refine g_eqi (nI (q + 1)) (by rw [w2_cell _ _ (by decide), hq]; exact nI_1 q) ?_
      refine g_put B ci_X7 (by first | rfl | assumption) rfl (by decide) fl_X7_81 rfl rfl rfl dX7_feed_44 ?_
      refine g_aload_n B dX7_feed_47 rfl ?_
      refine g_geti B ci_X7 (by first | rfl | assumption) rfl (by decide) fl_X7_81 dX7_feed_48 ?_
      exact g_iret B E rfl dX7_feed_51 ⟨by simp [*, w2], by simp [*]⟩
    · have hge : q = 160 := (nI_eq (by omega) (by decide)).mp (by rw [← hq]; exact h21)
      refine g_bipush B (v := (-3)) dX7_feed_24 (by decide) ?_
      exact g_iret B E rfl dX7_feed_26 ⟨by simp [*], by simp [*]⟩
  · rw [bI_eq0] at h9
    refine g_iconst B (v := (-1)) dX7_feed_12 (by decide) ?_
    exact g_iret B E rfl dX7_feed_13 ⟨by simp [*], by simp [*]⟩
set_option maxHeartbeats 4000000 in
set_option maxRecDepth 100000 in
theorem ct_X6_end {I : Wo} {q : Nat} (hq : I 39 1 = nI q) (i : Int32) : Ct yX6_end cX6_end 3 (some .int) 1 22 [.ref 0, .int i] I (pI (fun r u => r = (if wi i 0 (nI q) then nI q else -1) ∧ u = (if wi i 0 (nI q) then w2 I 39 1 i else I))) := by
  refine ct_of RX6 rfl (by decide) (Nat.le_of_ble_eq_true rfl) (fun X B E => ?_)
  show GW X 3 0 [some (.ref 0), some (.int i), none] [] _
  refine g_iload_n B dX6_end_0 rfl ?_
  refine g_iconst B (v := 0) dX6_end_1 (by decide) ?_
  refine g_aload_n B dX6_end_2 rfl ?_
  refine g_getr B ci_X6 (by first | rfl | assumption) rfl (by decide) fl_X6_30 dX6_end_3 ?_
  refine g_geti B ci_X4 (by first | rfl | assumption) rfl (by decide) fl_X6_74 dX6_end_6 ?_
  refine g_callSI B (ct_X6_within _ _ _) ml_X6_66 mm_X6_within rfl rfl (Nat.le_of_ble_eq_true rfl) dX6_end_9 (by decide) ?_
  rintro _ _ ⟨rfl, rfl⟩
  refine g_if_ne B 17 dX6_end_12 (by decide) (fun h12 => ?_) (fun h12 => ?_)
  · rw [bI_ne0] at h12
    rw [hq] at h12
    refine g_aload_n B dX6_end_17 rfl ?_
    refine g_getr B ci_X6 (by first | rfl | assumption) rfl (by decide) fl_X6_30 dX6_end_18 ?_
    refine g_geti B ci_X4 (by first | rfl | assumption) rfl (by decide) fl_X6_74 dX6_end_21 ?_
    refine g_istn2 B dX6_end_24 (by decide) rfl ?_
    refine g_aload_n B dX6_end_25 rfl ?_
    refine g_getr B ci_X6 (by first | rfl | assumption) rfl (by decide) fl_X6_30 dX6_end_26 ?_
    refine g_iload_n B dX6_end_29 rfl ?_
    refine g_put B ci_X4 (by first | rfl | assumption) rfl (by decide) fl_X6_74 rfl rfl rfl dX6_end_30 ?_
    refine g_iload_n B dX6_end_33 rfl ?_
    exact g_iret B E rfl dX6_end_34 ⟨by simp [*], by simp [*]⟩
  · rw [bI_eq0] at h12
    rw [hq] at h12
    refine g_iconst B (v := (-1)) dX6_end_15 (by decide) ?_
    exact g_iret B E rfl dX6_end_16 ⟨by simp [*], by simp [*]⟩
set_option maxHeartbeats 4000000 in
set_option maxRecDepth 100000 in
theorem ct_X7_end {I : Wo} {q : Nat} (hq : I 57 14 = nI q) (i : Int32) : Ct yX7_end cX7_end 3 (some .int) 1 25 [.ref 57, .int i] I (pI (fun r u => r = (if wi i 0 (nI q) then nI q else -1) ∧ u = (if wi i 0 (nI q) then w2 I 57 14 i else I))) := by
  refine ct_of RX7 rfl (by decide) (Nat.le_of_ble_eq_true rfl) (fun X B E => ?_)
  show GW X 3 0 [some (.ref 57), some (.int i), none] [] _
  refine g_iload_n B dX7_end_0 rfl ?_
  refine g_i2l B dX7_end_1 ?_
  refine g_lconst B (v := 0) dX7_end_2 (by decide) ?_
  refine g_aload_n B dX7_end_3 rfl ?_
  refine g_geti B ci_X7 (by first | rfl | assumption) rfl (by decide) fl_X7_81 dX7_end_4 ?_
  refine g_i2l B dX7_end_7 ?_
  refine g_callSI B (ct_in _ 0 (I 57 14) rfl (by decide) rfl) ml_X7_77 mm_X7_in rfl rfl (Nat.le_of_ble_eq_true rfl) dX7_end_8 (by decide) ?_
  rintro _ _ ⟨rfl, rfl⟩
  refine g_if_ne B 16 dX7_end_11 (by decide) (fun h11 => ?_) (fun h11 => ?_)
  · rw [bI_ne0] at h11
    rw [hq] at h11
    refine g_aload_n B dX7_end_16 rfl ?_
    refine g_geti B ci_X7 (by first | rfl | assumption) rfl (by decide) fl_X7_81 dX7_end_17 ?_
    refine g_istn2 B dX7_end_20 (by decide) rfl ?_
    refine g_aload_n B dX7_end_21 rfl ?_
    refine g_iload_n B dX7_end_22 rfl ?_
    refine g_put B ci_X7 (by first | rfl | assumption) rfl (by decide) fl_X7_81 rfl rfl rfl dX7_end_23 ?_
    refine g_iload_n B dX7_end_26 rfl ?_
    exact g_iret B E rfl dX7_end_27 ⟨by simp [*], by simp [*]⟩
  · rw [bI_eq0] at h11
    rw [hq] at h11
    refine g_iconst B (v := (-1)) dX7_end_14 (by decide) ?_
    exact g_iret B E rfl dX7_end_15 ⟨by simp [*], by simp [*]⟩

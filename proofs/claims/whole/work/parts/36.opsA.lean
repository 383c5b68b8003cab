/-! a call of the class and the same call of the reference, side by side: what changes nothing -/
section
theorem nI0 {n : Nat} (h : n ≤ 8) : nI n = 0 ↔ n = 0 := by
  rcases n8 h with rfl | rfl | rfl | rfl | rfl | rfl | rfl | rfl | rfl <;> decide
theorem ite_c {p : Bool} {a b d : Int32} (h : p = true → a = b) : (if p then a else d) = (if p then b else d) := by
  cases p
  · rfl
  · exact h rfl
def SR1 (I : Wo) (n : Nat) : Prop :=
  I 1 9 = nI n ∧ (∀ c, c < n → I 58 c = I 6 c ∧ Bd (I 6 c) (2 ^ c)) ∧ (∀ c, c < n → I 58 (8 + c) = I 7 c) ∧ (∀ c, c < n → I 58 (16 + c) = I 5 c) ∧
  (I 58 24 = I 1 12 ∧ Bd (I 1 12) (2 ^ n)) ∧ (I 58 25 = I 1 10 ∧ ((n = 0 ∧ I 1 10 = -4) ∨ Bd (I 1 10) n)) ∧ (I 58 26 = I 1 11 ∧ Bd (I 1 11) 10) ∧
  (∃ q, q ≤ 6 ∧ I 1 13 = nI q ∧ I 58 27 = nI q ∧ ∀ i, i < q → I 58 (28 + i) = I 8 i ∧ Bd (I 8 i) n) ∧
  (∃ q, q ≤ 6 ∧ I 1 14 = nI q ∧ I 58 34 = nI q ∧ ∀ i, i < q → I 58 (35 + 2 * i) = I 9 i ∧ Bd (I 9 i) (2 ^ n) ∧ I 58 (36 + 2 * i) = (I 1 8 >>> (nI i &&& 31)) &&& 1)
theorem SR_1 {I : Wo} {n : Nat} : SR I 1 0 n ↔ SR1 I n := by
  simp only [SR, SR1, Nat.zero_add, Nat.reduceAdd]
def TR1 (I : Wo) (n : Nat) : Prop := ∀ c, c < n → I 60 c = I 2 c ∧ I 61 c = I 3 c ∧ I 62 c = I 4 c ∧ Bd (I 4 c) 10
theorem TR_1 {I : Wo} {n : Nat} : TR I 1 n ↔ TR1 I n := by
  simp only [TR, TR1, Nat.reduceAdd]
theorem InvN.view {I : Wo} {n : Nat} (h : InvN I n) : n ≤ 8 ∧ I 57 2 = nI n ∧ SR1 I n ∧ TR1 I n := ⟨h.1, h.2.1, SR_1.mp h.2.2.1, TR_1.mp h.2.2.2.1⟩
theorem InvN.st {I : Wo} {n : Nat} (h : InvN I n) (set : Int32) : stF (I 58) (fun c => I 58 (8 + c)) set n = stF (I 6) (I 7) set n := by
  obtain ⟨n8, nM, ⟨s1, sL, sF, _⟩, tr⟩ := h.view
  exact stF_congr (fun c hc => (sL c hc).1) sF
theorem InvN.e0 {I : Wo} {n : Nat} (h : InvN I n) : cOK n (I 58 25) = decide (0 < n) := by
  obtain ⟨n8, nM, ⟨s1, sL, sF, sY, sd, ⟨se, seB⟩, _⟩, tr⟩ := h.view
  rw [se]
  rcases seB with ⟨rfl, e⟩ | ⟨j, hj, e⟩
  · rw [e]; decide
  · rw [e, (cOK_iff (by omega)).mpr ⟨j, hj, rfl⟩]
    exact (decide_eq_true (by omega)).symm
theorem InvN.es {I : Wo} {n : Nat} (h : InvN I n) : esF n (I 58) (fun c => I 58 (8 + c)) (I 58 25) = esF n (I 6) (I 7) (I 1 10) := by
  funext set
  obtain ⟨n8, nM, ⟨s1, sL, sF, sY, sd, ⟨se, seB⟩, _⟩, tr⟩ := h.view
  rw [se]
  exact esF_congr (fun c hc => (sL c hc).1) sF
theorem op_pure {y1 y2 : MethodName} {b1 b2 : ByteArray} {n1 f1 l1 n2 f2 l2 : Nat} {As : List Value} {I : Wo} {r1 r2 : Int32} (h : Inv I) (c1 : Ct y1 b1 n1 (some .int) f1 l1 (.ref 0 :: As) I (pI (fun r u => r = r1 ∧ I = u))) (c2 : Ct y2 b2 n2 (some .int) f2 l2 (.ref 57 :: As) I (pI (fun r u => r = r2 ∧ I = u))) (e : r2 = r1) : OpI y1 b1 n1 f1 l1 y2 b2 n2 f2 l2 As I := by
  refine ⟨r1, fun u => I = u, c1, fun u hu => ?_⟩
  subst hu
  exact c2.monoI (fun r u q => ⟨q.1.trans e, q.2 ▸ h⟩)
theorem op_pureL {y1 y2 : MethodName} {b1 b2 : ByteArray} {n1 f1 l1 n2 f2 l2 : Nat} {As : List Value} {I : Wo} {r1 r2 : Int64} (h : Inv I) (c1 : Ct y1 b1 n1 (some .long) f1 l1 (.ref 0 :: As) I (pL (fun r u => r = r1 ∧ I = u))) (c2 : Ct y2 b2 n2 (some .long) f2 l2 (.ref 57 :: As) I (pL (fun r u => r = r2 ∧ I = u))) (e : r2 = r1) : OpL y1 b1 n1 f1 l1 y2 b2 n2 f2 l2 As I := by
  refine ⟨r1, fun u => I = u, c1, fun u hu => ?_⟩
  subst hu
  exact c2.monoL (fun r u q => ⟨q.1.trans e, q.2 ▸ h⟩)
theorem op_fault {I : Wo} (h : Inv I) : OpI yX6_fault cX6_fault 1 0 0 yX7_fault cX7_fault 1 0 0 [] I := by
  obtain ⟨n, hI⟩ := id h
  exact op_pure h ct_X6_fault ct_X7_fault hI.2.2.2.2.2.2.1
theorem op_torn {I : Wo} (h : Inv I) : OpI yX6_torn cX6_torn 1 0 0 yX7_torn cX7_torn 1 0 0 [] I := by
  obtain ⟨n, hI⟩ := id h
  exact op_pure h ct_X6_torn ct_X7_torn hI.2.2.2.2.2.2.2.1
theorem op_rule {I : Wo} (h : Inv I) (what : Int32) : OpI yX6_rule cX6_rule 2 1 24 yX7_rule cX7_rule 2 2 44 [.int what] I := by
  obtain ⟨n, hI⟩ := id h
  obtain ⟨n8, nM, ⟨s1, sL, sF, sY, ⟨sd, sdB⟩, ⟨se, seB⟩, ⟨sy, syB⟩, ⟨q, q6, pq, pM, pl⟩, sn⟩, tr⟩ := hI.view
  refine op_pure h (ct_X6_rule s1 n8 what) (ct_X7_rule nM n8 what) ?_
  have hend : (if I 1 9 = 0 then -4 else I 1 10) = I 1 10 := by
    rw [s1]
    split
    · next h0 =>
      rcases seB with ⟨_, e⟩ | ⟨j, hj, e⟩
      · exact e.symm
      · rw [nI0 n8] at h0; omega
    · rfl
  rw [hend, hI.st, nM, s1, sd, se, sy, pq, pM]
theorem op_claim {I : Wo} (h : Inv I) (c what : Int32) : OpI yX6_claim cX6_claim 3 1 24 yX7_claim cX7_claim 3 2 46 [.int c, .int what] I := by
  obtain ⟨n, hI⟩ := id h
  obtain ⟨n8, nM, ⟨s1, sL, sF, sY, ⟨sd, sdB⟩, se, sy, sp, sn⟩, tr⟩ := hI.view
  refine op_pure h (ct_X6_claim s1 n8 c what) (ct_X7_claim nM n8 c what) (ite_c fun hc => ?_)
  obtain ⟨j, hj, rfl⟩ := (cOK_iff (by omega)).mp hc
  rw [nI_clamp (by omega), hI.st, sd, (sL j hj).1, sF j hj, sY j hj, (tr j hj).1, (tr j hj).2.1, (tr j hj).2.2.1]
theorem op_plan {I : Wo} (h : Inv I) (i : Int32) : OpI yX6_plan cX6_plan 2 1 22 yX7_plan cX7_plan 2 1 25 [.int i] I := by
  obtain ⟨n, hI⟩ := id h
  obtain ⟨n8, nM, ⟨s1, sL, sF, sY, ⟨sd, sdB⟩, se, sy, ⟨q, q6, pq, pM, pl⟩, sn⟩, tr⟩ := hI.view
  refine op_pure h (ct_X6_plan pq q6 i) (ct_X7_plan pM q6 i) (ite_c fun hc => ?_)
  obtain ⟨j, hj, rfl⟩ := (cOK_iff (by omega)).mp hc
  rw [nI_clamp (by omega), (pl j hj).1]
theorem op_stands {I : Wo} (h : Inv I) (c : Int32) : OpI yX6_stands cX6_stands 2 1 24 yX7_stands cX7_stands 2 2 44 [.int c] I := by
  obtain ⟨n, hI⟩ := id h
  obtain ⟨n8, nM, ⟨s1, _⟩, tr⟩ := hI.view
  refine op_pure h (ct_X6_stands s1 n8 c) (ct_X7_stands nM n8 c) (ite_c fun hc => ?_)
  rw [hI.st]
theorem op_sum {I : Wo} (h : Inv I) (c : Int32) : OpI yX6_sum cX6_sum 5 1 24 yX7_sum cX7_sum 5 2 44 [.int c] I := by
  obtain ⟨n, hI⟩ := id h
  obtain ⟨n8, nM, ⟨s1, sL, sF, sY, ⟨sd, sdB⟩, se, sy, sp, sn⟩, tr⟩ := hI.view
  refine op_pure h (ct_X6_sum s1 n8 c) (ct_X7_sum nM n8 c) (ite_c fun hc => ?_)
  refine sumF_congr (fun j hj => ?_) (fun j hj => sY j hj)
  rw [hI.st, sd, sumQ, sumQ, (tr j hj).1]
theorem op_upon {I : Wo} (h : Inv I) (c : Int32) : OpI yX6_upon cX6_upon 2 1 24 yX7_upon cX7_upon 2 2 46 [.int c] I := by
  obtain ⟨n, hI⟩ := id h
  obtain ⟨n8, nM, ⟨s1, sL, sF, sY, ⟨sd, sdB⟩, se, sy, sp, sn⟩, tr⟩ := hI.view
  refine op_pure h (ct_X6_upon s1 n8 c) (ct_X7_upon nM n8 c) (ite_c fun hc => ?_)
  rw [hI.st, hI.st, sd]
theorem wi01 {w : Int32} (h : wi w 0 1 = true) : w = 0 ∨ w = 1 := by
  obtain ⟨j, hj, rfl⟩ := (wi_iff (m := 1) (by decide)).mp h
  rcases (show j = 0 ∨ j = 1 by omega) with rfl | rfl
  · exact Or.inl rfl
  · exact Or.inr rfl
theorem op_reply {I : Wo} (h : Inv I) (c what : Int32) : OpI yX6_reply cX6_reply 6 1 24 yX7_reply cX7_reply 8 2 46 [.int c, .int what] I := by
  obtain ⟨n, hI⟩ := id h
  obtain ⟨n8, nM, ⟨s1, sL, sF, sY, ⟨sd, sdB⟩, se, sy, sp, sn⟩, tr⟩ := hI.view
  refine op_pure h (ct_X6_reply s1 n8 c what) (ct_X7_reply nM n8 c what) (ite_c fun hc => ?_)
  rw [sd, hI.st]
  simp only [hI.st]
  have hw := wi01 (Bool.and_eq_true_iff.mp hc).2
  have hnow := and1 (stF (I 6) (I 7) (I 1 12) n >>> (c &&& 31))
  split
  · next e =>
    refine orF_none (fun d hd => ?_)
    have : ¬ (stF (I 6) (I 7) (I 1 12) n >>> (c &&& 31)) &&& 1 = 1 - what := by
      rw [e]; rcases hw with rfl | rfl <;> decide
    rw [decide_eq_false this, Bool.and_false, Bool.false_and]
  · next e =>
    have e2 : (stF (I 6) (I 7) (I 1 12) n >>> (c &&& 31)) &&& 1 = 1 - what := by
      rcases hw with rfl | rfl <;> rcases hnow with e3 | e3 <;> first | exact absurd e3 e | (rw [e3]; decide)
    refine orF_congr (fun d hd => ?_)
    have hb := and1 (I 1 12 >>> (nI d &&& 31))
    have ht := and1 (stF (I 6) (I 7) (I 1 12 ||| ((1 : Int32) <<< (nI d &&& 31))) n >>> (c &&& 31))
    rw [decide_eq_true e2, Bool.and_true, e2]
    have a1 : (I 1 12 >>> (nI d &&& 31)) &&& 1 = 0 ↔ ¬ (I 1 12 >>> (nI d &&& 31)) &&& 1 = 1 := by
      rcases hb with e4 | e4 <;> rw [e4] <;> decide
    have a2 : (stF (I 6) (I 7) (I 1 12 ||| ((1 : Int32) <<< (nI d &&& 31))) n >>> (c &&& 31)) &&& 1 = what ↔ ¬ (stF (I 6) (I 7) (I 1 12 ||| ((1 : Int32) <<< (nI d &&& 31))) n >>> (c &&& 31)) &&& 1 = 1 - what := by
      rcases hw with rfl | rfl <;> rcases ht with e4 | e4 <;> rw [e4] <;> decide
    rw [decide_eq_decide.mpr a1, decide_eq_decide.mpr a2]
theorem op_ever {I : Wo} (h : Inv I) (what : Int32) : OpI yX6_ever cX6_ever 7 1 24 yX7_ever cX7_ever 5 2 45 [.int what] I := by
  obtain ⟨n, hI⟩ := id h
  obtain ⟨n8, nM, ⟨s1, sL, sF, _⟩, tr⟩ := hI.view
  refine op_pure h (ct_X6_ever s1 n8 what) (ct_X7_ever nM n8 what) (ite_c fun hc => ?_)
  rw [neF_eq, alF_eq, smF_congr (fun c hc => (sL c hc).1) sF, naF_congr (fun c hc => (sL c hc).1) sF]
  split <;> rfl
theorem op_late {I : Wo} (h : Inv I) : OpI yX6_late cX6_late 3 1 21 yX7_late cX7_late 3 1 20 [] I := by
  obtain ⟨n, hI⟩ := id h
  obtain ⟨n8, nM, ⟨s1, sL, sF, sY, ⟨sd, sdB⟩, se, ⟨sy, syB⟩, sp, sn⟩, tr⟩ := hI.view
  refine op_pure h (ct_X6_late s1 n8) (ct_X7_late nM n8) (orF_congr fun d hd => ?_)
  rw [sd, sy, (tr d hd).2.2.1]
theorem op_share {I : Wo} (h : Inv I) (c what : Int32) : OpL yX6_share cX6_share 7 3 63 yX7_share cX7_share 7 3 65 [.int c, .int what] I := by
  obtain ⟨n, hI⟩ := id h
  obtain ⟨n8, nM, ⟨s1, _⟩, tr⟩ := hI.view
  refine op_pureL h (ct_X6_share s1 n8 c what) (ct_X7_share nM n8 hI.e0 c what) ?_
  rw [hI.es]
theorem drF_congr {n : Nat} {L F L' F' : Nat → Int32} {e e' said seed : Int32} (h : esF n L F e = esF n L' F' e') : ∀ k, drF n L F e said seed k = drF n L' F' e' said seed k
  | 0 => rfl
  | k + 1 => by rw [drF, drF, drF_congr h k, h]
theorem op_drift {I : Wo} (h : Inv I) (seed m what : Int32) : OpI yX6_drift cX6_drift 8 2 45 yX7_drift cX7_drift 8 3 65 [.int seed, .int m, .int what] I := by
  obtain ⟨n, hI⟩ := id h
  obtain ⟨n8, nM, ⟨s1, sL, sF, sY, ⟨sd, sdB⟩, _⟩, tr⟩ := hI.view
  refine op_pure h (ct_X6_drift s1 n8 seed m what) (ct_X7_drift nM n8 hI.e0 seed m what) (ite_c fun hc => ?_)
  rw [sd, drF_congr hI.es, hI.st]
theorem fw_rel {n : Nat} {L F : Nat → Int32} {e said : Int32} {z : Bool} : ∀ k, k ≤ 256 → (fwF n L F e said z (9, 0) k = (9, 0) ∧ fwF n L F e said z (1000000, -4) k = (1000000, -4)) ∨ (fwF n L F e said z (9, 0) k = fwF n L F e said z (1000000, -4) k ∧ ∃ j, j < k ∧ fwF n L F e said z (9, 0) k = (bc8 (nI j), nI j))
  | 0, _ => Or.inl ⟨rfl, rfl⟩
  | k + 1, h => by
    have hb := bc8_nn (s := k) (by omega)
    rw [fa_le9, fa_le9] at hb
    rw [show (0 : Int32).toInt = 0 from rfl, show (8 : Int32).toInt = 8 from rfl] at hb
    have hq : fwQ n L F e said z 9 k = fwQ n L F e said z 1000000 k := by
      have a : ¬ (9 : Int32) ≤ bc8 (nI k) := by rw [fa_le9, show (9 : Int32).toInt = 9 from rfl]; omega
      have b : ¬ (1000000 : Int32) ≤ bc8 (nI k) := by rw [fa_le9, show (1000000 : Int32).toInt = 1000000 from rfl]; omega
      rw [fwQ, fwQ, decide_eq_true a, decide_eq_true b]
    rcases fw_rel (n := n) (L := L) (F := F) (e := e) (said := said) (z := z) k (by omega) with ⟨h1, h2⟩ | ⟨h1, j, hj, h2⟩
    · rw [fwF, fwF, h1, h2]
      show ((if fwQ n L F e said z 9 k = true then (bc8 (nI k), nI k) else ((9 : Int32), (0 : Int32))) = (9, 0) ∧ (if fwQ n L F e said z 1000000 k = true then (bc8 (nI k), nI k) else ((1000000 : Int32), (-4 : Int32))) = (1000000, -4)) ∨ ((if fwQ n L F e said z 9 k = true then (bc8 (nI k), nI k) else ((9 : Int32), (0 : Int32))) = (if fwQ n L F e said z 1000000 k = true then (bc8 (nI k), nI k) else ((1000000 : Int32), (-4 : Int32))) ∧ ∃ j, j < k + 1 ∧ (if fwQ n L F e said z 9 k = true then (bc8 (nI k), nI k) else ((9 : Int32), (0 : Int32))) = (bc8 (nI j), nI j))
      rw [← hq]
      cases fwQ n L F e said z 9 k
      · exact Or.inl ⟨rfl, rfl⟩
      · exact Or.inr ⟨rfl, k, Nat.lt_succ_self k, rfl⟩
    · refine Or.inr ?_
      rw [fwF, fwF, ← h1, h2]
      refine ⟨rfl, ?_⟩
      cases fwQ n L F e said z (bc8 (nI j), nI j).1 k
      · exact ⟨j, by omega, rfl⟩
      · exact ⟨k, Nat.lt_succ_self k, rfl⟩
theorem fwF_congr {n : Nat} {L F L' F' : Nat → Int32} {e e' said : Int32} {z : Bool} {s0 : Int32 × Int32} (h : esF n L F e = esF n L' F' e') : ∀ k, fwF n L F e said z s0 k = fwF n L' F' e' said z s0 k
  | 0 => rfl
  | k + 1 => by rw [fwF, fwF, fwF_congr h k, fwQ, fwQ, h]
theorem fw_res {n : Nat} (hn : n ≤ 8) {L F : Nat → Int32} {e said what : Int32} {z : Bool} : (if (fwF n L F e said z (1000000, -4) (2 ^ n)).2 = -4 then -4 else if what = 0 then (fwF n L F e said z (1000000, -4) (2 ^ n)).1 else (fwF n L F e said z (1000000, -4) (2 ^ n)).2) = (if 8 < (fwF n L F e said z (9, 0) (2 ^ n)).1 then -4 else if what = 0 then (fwF n L F e said z (9, 0) (2 ^ n)).1 else (fwF n L F e said z (9, 0) (2 ^ n)).2) := by
  rcases fw_rel (n := n) (L := L) (F := F) (e := e) (said := said) (z := z) (2 ^ n) (pow8 hn) with ⟨h1, h2⟩ | ⟨h1, j, hj, h2⟩
  · rw [h1, h2]
    rfl
  · rw [← h1, h2]
    have h8 := pow8 hn
    have hb := bc8_nn (s := j) (by omega)
    rw [if_neg (nI_ne4 (by omega)), if_neg (le_not_lt hb.2)]
theorem op_few {I : Wo} (h : Inv I) (what : Int32) : OpI yX6_few cX6_few 2 3 71 yX7_few cX7_few 2 4 91 [.int what] I := by
  obtain ⟨n, hI⟩ := id h
  obtain ⟨n8, nM, ⟨s1, sL, sF, sY, ⟨sd, sdB⟩, _⟩, tr⟩ := hI.view
  refine op_pure h (ct_X6_few s1 n8 what) (ct_X7_few nM n8 hI.e0 what) (ite_c fun hc => ?_)
  rw [sd, fwF_congr hI.es, fw_res n8]
theorem op_foil {I : Wo} (h : Inv I) (what : Int32) : OpI yX6_foil cX6_foil 2 3 71 yX7_foil cX7_foil 2 4 91 [.int what] I := by
  obtain ⟨n, hI⟩ := id h
  obtain ⟨n8, nM, ⟨s1, sL, sF, sY, ⟨sd, sdB⟩, _⟩, tr⟩ := hI.view
  refine op_pure h (ct_X6_foil s1 n8 what) (ct_X7_foil nM n8 hI.e0 what) (ite_c fun hc => ?_)
  rw [sd, fwF_congr hI.es, fw_res n8]
theorem InvN.k01 {I : Wo} {n : Nat} (h : InvN I n) (k : Nat) (hk : k < 2) : (I 38 k = 0 ∨ I 38 k = 1) ∧ I 59 k = I 38 k := by
  obtain ⟨a, b⟩ := h.2.2.2.2.1 k hk
  rcases b with b | b
  · exact ⟨Or.inl b, a⟩
  · exact ⟨Or.inr b.1, a⟩
theorem op_count {I : Wo} (h : Inv I) (what : Int32) : OpI yX6_count cX6_count 2 1 24 yX7_count cX7_count 2 2 44 [.int what] I := by
  obtain ⟨n, hI⟩ := id h
  obtain ⟨n8, nM, ⟨s1, sL, sF, sY, ⟨sd, ⟨s, hs, sdB⟩⟩, se, sy, sp, ⟨z, z6, zq, zM, sn⟩⟩, tr⟩ := hI.view
  have k0 := hI.k01 0 (by decide)
  have k1 := hI.k01 1 (by decide)
  refine op_pure h (ct_X6_count s1 n8 sdB (Nat.lt_of_lt_of_le hs (pow8 n8)) (fun k hk => (hI.k01 k hk).1) what) (ct_X7_count nM n8 (fun k hk => by rw [(hI.k01 k hk).2]; exact (hI.k01 k hk).1) what) ?_
  obtain ⟨q, q160, t1, t2, _⟩ := hI.2.2.2.2.2.1
  have hsh : (if I 70 0 = -4 then -4 else I 71 0) = (if I 42 2 = -1 then -4 else I 42 2) := by
    rcases hI.2.2.2.2.2.2.2.2 0 (by decide) with ⟨e1, e2⟩ | ⟨z, hz, e1, e2, e3, ⟨j, hj, e4⟩, _⟩
    · rw [show I 42 2 = -1 from e1, e2]; rfl
    · rw [show I 42 2 = nI z from e1, e2, e3, show I (42 + 2 * 0) 1 = nI j from e4, if_neg (nI_ne4 (by omega)), if_neg ?_]
      intro e
      have := congrArg Int32.toInt e
      rw [nI_toInt (by omega), show (-1 : Int32).toInt = -1 from rfl] at this
      omega
  rw [hsh, hI.st, sd, zM, zq, k0.2, k1.2, t1, t2]
end

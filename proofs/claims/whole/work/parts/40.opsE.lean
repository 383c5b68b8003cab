/-! what is reckoned in scratch rows -/
section
theorem op_scr {y1 y2 : MethodName} {b1 b2 : ByteArray} {n n1 f1 l1 n2 f2 l2 : Nat} {As : List Value} {I : Wo} {r1 : Int32} (hI : InvN I n) (c1 : Ct y1 b1 n1 (some .int) f1 l1 (.ref 0 :: As) I (pI (fun r u => r = r1 ∧ ∀ x y, ¬ scr x y → u x y = I x y))) (c2 : ∀ u : Wo, (∀ x y, ¬ scr x y → u x y = I x y) → Ct y2 b2 n2 (some .int) f2 l2 (.ref 57 :: As) u (pI (fun r u' => r = r1 ∧ ∀ x y, ¬ scr x y → u' x y = u x y))) : OpI y1 b1 n1 f1 l1 y2 b2 n2 f2 l2 As I :=
  ⟨r1, fun u => ∀ x y, ¬ scr x y → u x y = I x y, c1, fun u hu => (c2 u hu).monoI (fun r u' q => ⟨q.1, n, hI.frame (fun x y h => (q.2 x y h).trans (hu x y h))⟩)⟩
theorem row_eq {I u : Wo} (hu : ∀ x y, ¬ scr x y → u x y = I x y) (a : Nat) (ha : ∀ y, ¬ scr a y) : u a = I a := funext fun y => hu a y (ha y)
theorem op_chain {I : Wo} (h : Inv I) (c : Int32) : OpI yX6_chain cX6_chain 4 1 21 yX7_chain cX7_chain 5 2 46 [.int c] I := by
  obtain ⟨n, hI⟩ := id h
  obtain ⟨n8, nM, ⟨s1, sL, sF, _⟩, tr⟩ := hI.view
  refine op_scr hI ((ct_X6_chain s1 n8 c).monoI (fun r u q => ⟨q.1, fun x y hs => q.2 x y (fun e => hs (by unfold scr; omega))⟩)) (fun u hu => ?_)
  have e58 := row_eq hu 58 (fun y => by unfold scr; omega)
  have c2 := ct_X7_chain (I := u) (n := n) (by rw [hu 57 2 (by unfold scr; omega)]; exact nM) n8 c
  rw [e58] at c2
  refine c2.monoI (fun r u' q => ⟨q.1.trans (ite_c fun hc => ?_), fun x y hs => q.2 x y (fun e => hs (by unfold scr; omega))⟩)
  obtain ⟨j, hj, rfl⟩ := (cOK_iff (by omega)).mp hc
  rw [nI_clamp (by omega), chTab_congr (L' := I 6) (fun c hc => (sL c (by omega)).1)]
theorem op_trial {I : Wo} (h : Inv I) (what : Int32) : OpI yX6_trial cX6_trial 2 2 47 yX7_trial cX7_trial 3 3 73 [.int what] I := by
  obtain ⟨n, hI⟩ := id h
  obtain ⟨n8, nM, ⟨s1, sL, sF, sY, ⟨sd, sdB⟩, ⟨se, seB⟩, ⟨sy, ⟨dd, d10, syB⟩⟩, ⟨q, q6, pq, pM, pl⟩, sn⟩, tr⟩ := hI.view
  refine op_scr hI ((ct_X6_trial s1 n8 pq q6 (fun i hi => (pl i hi).2) what).monoI (fun r u q => ⟨q.1, fun x y hs => q.2 x y (fun e => hs (by unfold scr; omega))⟩)) (fun u hu => ?_)
  have e58 := row_eq hu 58 (fun y => by unfold scr; omega)
  have e61 := row_eq hu 61 (fun y => by unfold scr; omega)
  have e62 := row_eq hu 62 (fun y => by unfold scr; omega)
  have c2 := ct_X7_trial (I := u) (n := n) (q := q) (dd := dd) (by rw [hu 57 2 (by unfold scr; omega)]; exact nM) n8 (by rw [e58]; exact hI.e0) (by rw [e58]; exact pM) q6 (fun i hi => by rw [e58, (pl i hi).1]; exact (pl i hi).2) (fun c hc => by rw [e62, (tr c hc).2.2.1]; exact (tr c hc).2.2.2) (by rw [e58, sy]; exact syB) (by omega) what
  have hT : ∀ fl, trF fl (I 58 26) (fun i => I 58 (28 + i)) (I 61) (I 62) (I 58 24) q = trF fl (I 1 11) (I 8) (I 3) (I 4) (I 1 12) q := fun fl => by
    rw [sy, sd]
    exact trF_congr n8 (fun _ _ => rfl) (fun i hi => pl i hi) (fun c hc => ⟨(tr c hc).2.1, (tr c hc).2.2.1⟩)
  rw [e58, e61, e62, hT, hI.st, hI.es] at c2
  exact c2.monoI (fun r u' q => ⟨q.1, fun x y hs => q.2 x y (fun e => hs (by unfold scr; omega))⟩)
theorem wG_congr {n : Nat} {can can' : Nat → Nat → Nat → Bool} {es es' : Int32 → Bool} (h1 : ∀ d c s, c < n → can d c s = can' d c s) (h2 : es = es') : ∀ k s, wG n can es k s = wG n can' es' k s
  | 0, s => by rw [wG, wG, h2]
  | k + 1, s => by
    have ih : wG n can es k = wG n can' es' k := funext (wG_congr h1 h2 k)
    have hm : mvG n (can (9 - k)) (wG n can' es' k) (decide ((9 - k) % 2 = 0)) s = mvG n (can' (9 - k)) (wG n can' es' k) (decide ((9 - k) % 2 = 0)) s := anyF_congr (fun c hc => congrArg (fun z => z && (wG n can' es' k (s ||| 2 ^ c) == decide ((9 - k) % 2 = 0))) (h1 (9 - k) c s hc))
    rw [wG, wG, ih, stepG, stepG, hm]
theorem InvN.wg {I : Wo} {n : Nat} (h : InvN I n) (k s : Nat) : wG n (canG (I 60) (I 61) (I 62)) (esF n (I 58) (fun c => I 58 (8 + c)) (I 58 25)) k s = wG n (canG (I 2) (I 3) (I 4)) (esF n (I 6) (I 7) (I 1 10)) k s := by
  obtain ⟨n8, nM, sr, tr⟩ := h.view
  exact wG_congr (fun d c s hc => by rw [canG, canG, (tr c hc).1, (tr c hc).2.1, (tr c hc).2.2.1]) h.es k s
theorem dy_eq (p : Nat → Bool) : dyM (fun i => p (10 - i)) 10 = dyF p 10 := by
  simp only [dyM, dyF, Nat.reduceSub, Nat.reduceAdd]
  generalize p 1 = b1
  generalize p 2 = b2
  generalize p 3 = b3
  generalize p 4 = b4
  generalize p 5 = b5
  generalize p 6 = b6
  generalize p 7 = b7
  generalize p 8 = b8
  generalize p 9 = b9
  generalize p 10 = b10
  revert b1 b2 b3 b4 b5 b6 b7 b8 b9 b10
  decide +kernel
theorem op_days {I : Wo} (h : Inv I) : OpI yX6_days cX6_days 1 4 96 yX7_days cX7_days 3 4 95 [] I := by
  obtain ⟨n, hI⟩ := id h
  obtain ⟨n8, nM, ⟨s1, sL, sF, sY, ⟨sd, ⟨sa, hsa, sdB⟩⟩, _⟩, tr⟩ := hI.view
  refine op_scr hI ((ct_X6_days s1 n8 sdB hsa).monoI (fun r u q => ⟨q.1, fun x y hs => q.2 x y (fun e => hs (by unfold scr; omega))⟩)) (fun u hu => ?_)
  have e58 := row_eq hu 58 (fun y => by unfold scr; omega)
  have e60 := row_eq hu 60 (fun y => by unfold scr; omega)
  have e61 := row_eq hu 61 (fun y => by unfold scr; omega)
  have e62 := row_eq hu 62 (fun y => by unfold scr; omega)
  have c2 := ct_X7_days (I := u) (n := n) (sn := sa) (by rw [hu 57 2 (by unfold scr; omega)]; exact nM) n8 (by rw [e58]; exact hI.e0) (by rw [e58, sd]; exact sdB) hsa
  rw [e58, e60, e61, e62] at c2
  refine c2.monoI (fun r u' q => ⟨q.1.trans ?_, fun x y hs => q.2 x y (fun e => hs (by unfold scr; omega))⟩)
  simp only [hI.wg]
  rw [dy_eq (fun k => wG n (canG (I 2) (I 3) (I 4)) (esF n (I 6) (I 7) (I 1 10)) k sa)]
theorem op_game {I : Wo} (h : Inv I) (what : Int32) : OpI yX6_game cX6_game 2 4 96 yX7_game cX7_game 5 4 95 [.int what] I := by
  obtain ⟨n, hI⟩ := id h
  obtain ⟨n8, nM, ⟨s1, sL, sF, sY, ⟨sd, ⟨sa, hsa, sdB⟩⟩, se, ⟨sy, ⟨dd, d10, syB⟩⟩, _⟩, tr⟩ := hI.view
  refine op_scr hI ((ct_X6_game s1 n8 syB (by omega) sdB hsa what).monoI (fun r u q => ⟨q.1, fun x y hs => q.2 x y (fun e => hs (by unfold scr; omega))⟩)) (fun u hu => ?_)
  have e58 := row_eq hu 58 (fun y => by unfold scr; omega)
  have e60 := row_eq hu 60 (fun y => by unfold scr; omega)
  have e61 := row_eq hu 61 (fun y => by unfold scr; omega)
  have e62 := row_eq hu 62 (fun y => by unfold scr; omega)
  have c2 := ct_X7_game (I := u) (n := n) (d := dd) (sn := sa) (by rw [hu 57 2 (by unfold scr; omega)]; exact nM) n8 (by rw [e58]; exact hI.e0) (by rw [e58, sy]; exact syB) (by omega) (by rw [e58, sd]; exact sdB) hsa what
  rw [e58, e60, e61, e62] at c2
  refine c2.monoI (fun r u' q => ⟨q.1.trans (ite_c fun hc => ?_), fun x y hs => q.2 x y (fun e => hs (by unfold scr; omega))⟩)
  simp only [hI.wg]
  have h8 := lwF_ext (p := fun c => (decide (c < n) && canG (I 2) (I 3) (I 4) dd c sa) && (wG n (canG (I 2) (I 3) (I 4)) (esF n (I 6) (I 7) (I 1 10)) (9 - dd) (sa ||| 2 ^ c) == (decide (dd % 2 = 0)))) (n := n) (fun c hc => by simp [show ¬ c < n by omega]) (8 - n)
  rw [show n + (8 - n) = 8 by omega] at h8
  rw [h8]
  have hl : lwF (fun c => canG (I 60) (I 61) (I 62) dd c sa && (wG n (canG (I 2) (I 3) (I 4)) (esF n (I 6) (I 7) (I 1 10)) (9 - dd) (sa ||| 2 ^ c) == (decide (dd % 2 = 0)))) n = lwF (fun c => (decide (c < n) && canG (I 2) (I 3) (I 4) dd c sa) && (wG n (canG (I 2) (I 3) (I 4)) (esF n (I 6) (I 7) (I 1 10)) (9 - dd) (sa ||| 2 ^ c) == (decide (dd % 2 = 0)))) n :=
    lwF_congr (fun c hc => by rw [decide_eq_true hc, Bool.true_and, canG, canG, (tr c hc).1, (tr c hc).2.1, (tr c hc).2.2.1])
  rw [hl]
/-! fits -/
theorem stF_low {L F : Nat → Int32} {x : Int32} : ∀ {n m c : Nat}, n ≤ 8 → m ≤ n → c < m → (stF L F x n).toBitVec.getLsbD c = (stF L F x m).toBitVec.getLsbD c
  | 0, m, c, _, h1, h2 => absurd h2 (by omega)
  | n + 1, m, c, h8, h1, h2 => by
    by_cases e : m = n + 1
    · rw [e]
    · have ih := stF_low (L := L) (F := F) (x := x) (n := n) (m := m) (c := c) (by omega) (by omega) h2
      rw [stF]
      split
      · rw [Int32.toBitVec_or, BitVec.getLsbD_or, one_lsb (by omega), decide_eq_false (by omega), Bool.or_false]; exact ih
      · exact ih
theorem stF_hi {L F : Nat → Int32} {x : Int32} {e : Nat} (he : e ≤ 8) : (stF L F x e).toBitVec.getLsbD e = false := by
  obtain ⟨k, hk, ek⟩ := stF_bd L F x e he
  rw [ek, nI_lsb k he]
  exact Nat.testBit_lt_two_pow hk
theorem stF_at {L F : Nat → Int32} {x : Int32} {e n : Nat} (hn : n ≤ 8) (he : e < n) : (stF L F x n).toBitVec.getLsbD e = decide ((L e &&& (stF L F x e ^^^ (-1)) = 0 ∧ F e &&& stF L F x e = 0) ∧ (x >>> (nI e &&& 31)) &&& 1 = 1) := by
  rw [stF_low hn (show e + 1 ≤ n by omega) (Nat.lt_succ_self e), stF]
  split
  · next hq => rw [Int32.toBitVec_or, BitVec.getLsbD_or, one_lsb (by omega), decide_eq_true hq, decide_eq_true rfl, Bool.or_true]
  · next hq => rw [stF_hi (by omega), decide_eq_false hq]
theorem mask_eq {M A B : Int32} {e : Nat} (hM : Bd M (2 ^ e)) (h : ∀ c, c < e → A.toBitVec.getLsbD c = B.toBitVec.getLsbD c) : M &&& A = M &&& B := by
  obtain ⟨k, hk, rfl⟩ := hM
  apply Int32.toBitVec_inj.mp
  rw [Int32.toBitVec_and, Int32.toBitVec_and]
  apply BitVec.eq_of_getLsbD_eq
  intro i hi
  rw [BitVec.getLsbD_and, BitVec.getLsbD_and]
  by_cases hie : i < e
  · rw [h i hie]
  · have hf : (nI k).toBitVec.getLsbD i = false := by
      show (BitVec.ofNat 32 k).getLsbD i = false
      rw [BitVec.getLsbD_ofNat, Nat.testBit_lt_two_pow (Nat.lt_of_lt_of_le hk (Nat.pow_le_pow_right (by decide) (by omega))), Bool.and_false]
    rw [hf, Bool.false_and, Bool.false_and]
theorem bitD (x : Int32) {k : Nat} (hk : k ≤ 8) : decide ((x >>> (nI k &&& 31)) &&& 1 = 1) = x.toBitVec.getLsbD k := by
  rw [Bool.eq_iff_iff, decide_eq_true_eq]; exact bitL x hk
theorem es_fall {L F F' : Nat → Int32} {x s : Int32} {e n : Nat} (hn : n ≤ 8) (he : e < n) (hL : Bd (L e) (2 ^ e)) (hs : Bd s (2 ^ e)) (h1 : ∀ c, c < e → F' c = F c) (h2 : F' e = s) : esF n L F' (nI e) x = (decide ((x >>> (nI e &&& 31)) &&& 1 = 1) && decide (L e &&& (stF L F x n ^^^ (-1)) = 0) && decide (stF L F x n &&& s = 0)) := by
  have a1 : stF L F' x e = stF L F x e := stF_congr (fun _ _ => rfl) h1
  have a2 : L e &&& (stF L F x n ^^^ (-1)) = L e &&& (stF L F x e ^^^ (-1)) := mask_eq hL (fun c hc => by rw [not_lsb (by omega), not_lsb (by omega), stF_low hn (show e ≤ n by omega) hc])
  have a3 : s &&& stF L F x n = s &&& stF L F x e := mask_eq hs (fun c hc => stF_low hn (show e ≤ n by omega) hc)
  rw [esF, (cOK_iff (by omega)).mpr ⟨e, he, rfl⟩, Bool.true_and, bitD _ (show e ≤ 8 by omega), stF_at hn he, a1, h2, a2, Int32.and_comm (stF L F x n) s, a3]
  simp only [Bool.decide_and]
  cases decide (L e &&& (stF L F x e ^^^ (-1)) = 0) <;> cases decide (s &&& stF L F x e = 0) <;> cases decide ((x >>> (nI e &&& 31)) &&& 1 = 1) <;> rfl
theorem ag_so {sd : Nat → Int32} {rd : Nat → Bool} {stood s : Int32} {es : Nat → Bool} {st : Nat → Int32} : ∀ {q : Nat}, (∀ i, i < q → es i = (rd i && decide (sd i &&& s = 0))) → (∀ i, i < q → st i = (stood >>> (nI i &&& 31)) &&& 1) → soF es st q = agF sd rd stood s q
  | 0, _, _ => rfl
  | q + 1, h1, h2 => by
    rw [soF, agF, ag_so (fun i hi => h1 i (by omega)) (fun i hi => h2 i (by omega)), h1 q (by omega), h2 q (by omega)]
    congr 1
    rcases and1 (stood >>> (nI q &&& 31)) with e | e <;> rw [e] <;> cases (rd q && decide (sd q &&& s = 0)) <;> decide
theorem ft_rel {ok ok' : Nat → Bool} {could : Int32} : ∀ k, k ≤ 256 → (∀ i, i < k → nI i &&& (could ^^^ (-1)) = 0 → ok i = ok' i) → (ftF ok could (0, 0, could, 0) k = (0, 0, could, 0) ∧ ftF ok' could (0, -4, could, 0) k = (0, -4, could, 0)) ∨ (ftF ok could (0, 0, could, 0) k = ftF ok' could (0, -4, could, 0) k ∧ ∃ j, 1 ≤ j ∧ j ≤ k ∧ (ftF ok could (0, 0, could, 0) k).1 = nI j)
  | 0, _, _ => Or.inl ⟨rfl, rfl⟩
  | k + 1, hk, h => by
    have ih := ft_rel (ok := ok) (ok' := ok') (could := could) k (by omega) (fun i hi => h i (by omega))
    by_cases h1 : nI k &&& (could ^^^ (-1)) = 0
    · cases h2 : ok k
      · have h3 : ok' k = false := by rw [← h k (by omega) h1]; exact h2
        rw [ft_no2 h2, ft_no2 h3]
        rcases ih with ih | ⟨i1, j, j1, j2, j3⟩
        · exact Or.inl ih
        · exact Or.inr ⟨i1, j, j1, by omega, j3⟩
      · have h3 : ok' k = true := by rw [← h k (by omega) h1]; exact h2
        rw [ft_in h1 h2, ft_in h1 h3]
        rcases ih with ⟨i1, i2⟩ | ⟨i1, j, j1, j2, j3⟩
        · rw [i1, i2]
          exact Or.inr ⟨rfl, 1, by omega, by omega, rfl⟩
        · rw [← i1]
          exact Or.inr ⟨rfl, j + 1, by omega, by omega, by rw [j3]; exact nI_1 j⟩
    · rw [ft_no1 h1, ft_no1 h1]
      rcases ih with ih | ⟨i1, j, j1, j2, j3⟩
      · exact Or.inl ih
      · exact Or.inr ⟨i1, j, j1, by omega, j3⟩
theorem ft_res {ok ok' : Nat → Bool} {could what c : Int32} {k : Nat} (hk : k ≤ 256) (h : ∀ i, i < k → nI i &&& (could ^^^ (-1)) = 0 → ok i = ok' i) : fitR what c (ftF ok' could (0, -4, could, 0) k) = fitR what c (ftF ok could (0, 0, could, 0) k) := by
  rcases ft_rel k hk h with ⟨h1, h2⟩ | ⟨h1, -⟩
  · rw [h1, h2]; rfl
  · rw [h1]
theorem op_fits {I : Wo} (h : Inv I) (what : Int32) : OpI yX6_fits cX6_fits 2 3 69 yX7_fits cX7_fits 8 4 89 [.int what] I := by
  obtain ⟨n, hI⟩ := id h
  obtain ⟨n8, nM, ⟨s1, sL, sF, sY, sd, ⟨se, seB⟩, sy, sp, ⟨z, z6, zq, zM, sn⟩⟩, tr⟩ := hI.view
  obtain ⟨e, K, hz⟩ : ∃ e K, ¬ n = 0 → I 1 10 = nI e ∧ e < n ∧ (((1 : Int32) <<< (nI e &&& 31)) - 1 &&& (I 6 e ^^^ (-1))) = nI K ∧ K < 2 ^ e := by
    rcases seB with ⟨h0, _⟩ | ⟨e, he, ee⟩
    · exact ⟨0, 0, fun z => absurd h0 z⟩
    · have hb : Bd (((1 : Int32) <<< (nI e &&& 31)) - 1 &&& (I 6 e ^^^ (-1))) (2 ^ e) := bd_and (by
        rw [shl1 (by omega), pm1 (by omega)]
        exact ⟨2 ^ e - 1, by have := Nat.two_pow_pos e; omega, rfl⟩)
      obtain ⟨K, hK, eK⟩ := hb
      exact ⟨e, K, fun _ => ⟨ee, he, eK, hK⟩⟩
  have p256 : ¬ n = 0 → 2 ^ e ≤ 256 := fun h0 => pow8 (by have := (hz h0).2.1; omega)
  refine op_scr hI ((ct_X6_fits s1 n8 (fun h0 => ⟨(hz h0).1, (hz h0).2.1, (hz h0).2.2.1, by have := p256 h0; have := (hz h0).2.2.2; omega⟩) zq z6 what).monoI (fun r u q => ⟨q.1, fun x y hs => q.2 x y (fun e => hs (by unfold scr; omega)) (fun e => hs (by unfold scr; omega)) (fun e => hs (by unfold scr; omega))⟩)) (fun u hu => ?_)
  have e58 := row_eq hu 58 (fun y => by unfold scr; omega)
  have c2 := ct_X7_fits (I := u) (n := n) (e := e) (q := z) (K := K) (by rw [hu 57 2 (by unfold scr; omega)]; exact nM) n8 (fun h0 => ⟨by rw [e58, se]; exact (hz h0).1, (hz h0).2.1, by rw [e58, (sL e (hz h0).2.1).1]; exact (hz h0).2.2.1, by have := p256 h0; have := (hz h0).2.2.2; omega⟩) (by rw [e58]; exact zM) z6 what
  refine c2.monoI (fun r u' q => ⟨q.1.trans (ite_c fun hc => ?_), fun x y hs => by rw [q.2]⟩)
  by_cases h0 : n = 0
  · rw [if_pos h0, if_pos h0]
  · rw [if_neg h0, if_neg h0]
    obtain ⟨z1, z2, z3, z4⟩ := hz h0
    have := p256 h0
    rw [e58, (sL e z2).1]
    refine ft_res (by omega) (fun k hk hc => ?_)
    refine (ag_so (fun i hi => ?_) (fun i hi => (sn i hi).2.2)).symm
    rw [(sn i hi).1]
    have hF : ∀ c, w2 u 58 (8 + e) (nI k) 58 (8 + c) = if c = e then nI k else I 58 (8 + c) := by
      intro c
      rw [w2_get]
      by_cases ec : c = e
      · rw [if_pos (by omega), if_pos ec]
      · rw [if_neg (by omega), if_neg ec, e58]
    rw [esF_congr (L' := I 6) (F' := fun c => w2 u 58 (8 + e) (nI k) 58 (8 + c)) (fun c hc => (sL c hc).1) (fun _ _ => rfl)]
    exact es_fall (F := I 7) n8 z2 (sL e z2).2 ⟨k, by omega, rfl⟩ (fun c hc => by
      show w2 u 58 (8 + e) (nI k) 58 (8 + c) = I 7 c
      rw [hF, if_neg (by omega)]; exact sF c (by omega)) (by
      show w2 u 58 (8 + e) (nI k) 58 (8 + e) = nI k
      rw [hF, if_pos rfl])
end

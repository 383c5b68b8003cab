/-! what changes the suit, the tape, the sheets -/
section
theorem w2_row (I : Wo) {k j a : Nat} (v : Int32) (h : a ≠ k) : w2 I k j v a = I a := by
  funext b
  exact w2_cell I v h
theorem bd_and {x y : Int32} {m : Nat} (h : Bd x m) : Bd (x &&& y) m := by
  obtain ⟨k, hk, rfl⟩ := h
  have e : nI y.toBitVec.toNat = y := by
    apply Int32.toBitVec_inj.mp
    show BitVec.ofNat 32 y.toBitVec.toNat = y.toBitVec
    simp
  rw [← e, nI_and]
  exact ⟨_, Nat.lt_of_le_of_lt Nat.and_le_left hk, rfl⟩
theorem bd_or1 {x : Int32} {n j : Nat} (h : Bd x (2 ^ n)) (hn : n ≤ 8) (hj : j < n) : Bd (x ||| ((1 : Int32) <<< (nI j &&& 31))) (2 ^ n) := by
  obtain ⟨k, hk, rfl⟩ := h
  rw [shl1 (by omega), nI_or]
  exact ⟨_, or_2n hk hj, rfl⟩
theorem bitB (x : Int32) {k : Nat} (hk : k ≤ 8) : (x >>> (nI k &&& 31)) &&& 1 = bI (x.toBitVec.getLsbD k) := by
  cases hq : x.toBitVec.getLsbD k
  · rcases and1 (x >>> (nI k &&& 31)) with e | e
    · exact e
    · rw [(bitL x hk).mp e] at hq; cases hq
  · exact (bitL x hk).mpr hq
theorem op_mut {y1 y2 : MethodName} {b1 b2 : ByteArray} {n1 f1 l1 n2 f2 l2 : Nat} {As : List Value} {I u1 u2 : Wo} {r1 r2 : Int32} (c1 : Ct y1 b1 n1 (some .int) f1 l1 (.ref 0 :: As) I (pI (fun r u => r = r1 ∧ u = u1))) (c2 : Ct y2 b2 n2 (some .int) f2 l2 (.ref 57 :: As) u1 (pI (fun r u => r = r2 ∧ u = u2))) (e : r2 = r1) (h : Inv u2) : OpI y1 b1 n1 f1 l1 y2 b2 n2 f2 l2 As I := by
  refine ⟨r1, fun u => u = u1, c1, fun u hu => ?_⟩
  subst hu
  exact c2.monoI (fun r u q => ⟨q.1.trans e, q.2 ▸ h⟩)
/-- the suit and the reference's rows told anew, all else as it was -/
theorem InvN.suit {I u : Wo} {n : Nat} (s : InvN I n) (hf : ∀ k j, ¬ ((k = 1 ∨ (5 ≤ k ∧ k ≤ 9)) ∨ (k = 58 ∧ j < 47)) → u k j = I k j) (hS : SR1 u n) : InvN u n := by
  obtain ⟨s1, s2, s3, s4, s5, s6, s7, s8, s9⟩ := s
  refine ⟨s1, ?_, SR_1.mpr hS, TR_1.mpr (fun c hc => ?_), fun k hk => (s5 k hk).frame s1 hk (hf _ _ (by omega)) (hf _ _ (by omega)) ⟨fun a j h1 h2 => hf a j (by omega), fun j h1 h2 => hf 58 j (by omega)⟩ (fun a j h1 h2 => hf a j (by omega)), s6.frame (hf _ _ (by omega)) (hf _ _ (by omega)) (fun j => hf _ _ (by omega)) (fun j => hf _ _ (by omega)), ?_, ?_, fun k hk => (s9 k hk).frame hk (fun a j h1 h2 => hf a j (by omega)) (fun a j h1 h2 => hf a j (by omega))⟩
  · rw [hf _ _ (by omega)]; exact s2
  · rw [hf 60 _ (by omega), hf 61 _ (by omega), hf 62 _ (by omega), hf 2 _ (by omega), hf 3 _ (by omega), hf 4 _ (by omega)]
    exact TR_1.mp s4 c hc
  · rw [hf 57 _ (by omega), hf 0 _ (by omega)]; exact s7
  · rw [hf 57 _ (by omega), hf 0 _ (by omega)]; exact s8
theorem InvN.tape {I u : Wo} {n : Nat} (s : InvN I n) (hf : ∀ k j, ¬ ((k = 40 ∨ k = 67) ∨ (k = 39 ∧ j = 1) ∨ (k = 57 ∧ j = 14)) → u k j = I k j) (hT : TpR u) : InvN u n := by
  obtain ⟨s1, s2, s3, s4, s5, s6, s7, s8, s9⟩ := s
  refine ⟨s1, ?_, s3.frame s1 ⟨fun a j h1 h2 => hf a j (by omega), fun j h1 h2 => hf 58 j (by omega)⟩, s4.frame (fun a j h1 h2 => hf a j (by omega)) (fun a j h1 h2 => hf a j (by omega)), fun k hk => (s5 k hk).frame s1 hk (hf _ _ (by omega)) (hf _ _ (by omega)) ⟨fun a j h1 h2 => hf a j (by omega), fun j h1 h2 => hf 58 j (by omega)⟩ (fun a j h1 h2 => hf a j (by omega)), hT, ?_, ?_, fun k hk => (s9 k hk).frame hk (fun a j h1 h2 => hf a j (by omega)) (fun a j h1 h2 => hf a j (by omega))⟩
  · rw [hf _ _ (by omega)]; exact s2
  · rw [hf 57 _ (by omega), hf 0 _ (by omega)]; exact s7
  · rw [hf 57 _ (by omega), hf 0 _ (by omega)]; exact s8
theorem InvN.sheets {I u : Wo} {n : Nat} (s : InvN I n) (hf : ∀ k j, ¬ ((42 ≤ k ∧ k ≤ 49) ∨ (70 ≤ k ∧ k ≤ 72)) → u k j = I k j) (hT : ∀ k, k < 4 → ShR u k) : InvN u n := by
  obtain ⟨s1, s2, s3, s4, s5, s6, s7, s8, s9⟩ := s
  refine ⟨s1, ?_, s3.frame s1 ⟨fun a j h1 h2 => hf a j (by omega), fun j h1 h2 => hf 58 j (by omega)⟩, s4.frame (fun a j h1 h2 => hf a j (by omega)) (fun a j h1 h2 => hf a j (by omega)), fun k hk => (s5 k hk).frame s1 hk (hf _ _ (by omega)) (hf _ _ (by omega)) ⟨fun a j h1 h2 => hf a j (by omega), fun j h1 h2 => hf 58 j (by omega)⟩ (fun a j h1 h2 => hf a j (by omega)), s6.frame (hf _ _ (by omega)) (hf _ _ (by omega)) (fun j => hf _ _ (by omega)) (fun j => hf _ _ (by omega)), ?_, ?_, hT⟩
  · rw [hf _ _ (by omega)]; exact s2
  · rw [hf 57 _ (by omega), hf 0 _ (by omega)]; exact s7
  · rw [hf 57 _ (by omega), hf 0 _ (by omega)]; exact s8
theorem inv_torn {I u : Wo} {n : Nat} (s : InvN I n) (hf : ∀ k j, ¬ ((k = 0 ∧ j = 11) ∨ (k = 57 ∧ j = 28)) → u k j = I k j) (h1 : u 57 28 = u 0 11) : InvN u n := by
  obtain ⟨s1, s2, s3, s4, s5, s6, s7, s8, s9⟩ := s
  refine ⟨s1, ?_, s3.frame s1 ⟨fun a j h1 h2 => hf a j (by omega), fun j h1 h2 => hf 58 j (by omega)⟩, s4.frame (fun a j h1 h2 => hf a j (by omega)) (fun a j h1 h2 => hf a j (by omega)), fun k hk => (s5 k hk).frame s1 hk (hf _ _ (by omega)) (hf _ _ (by omega)) ⟨fun a j h1 h2 => hf a j (by omega), fun j h1 h2 => hf 58 j (by omega)⟩ (fun a j h1 h2 => hf a j (by omega)), s6.frame (hf _ _ (by omega)) (hf _ _ (by omega)) (fun j => hf _ _ (by omega)) (fun j => hf _ _ (by omega)), ?_, h1, fun k hk => (s9 k hk).frame hk (fun a j h1 h2 => hf a j (by omega)) (fun a j h1 h2 => hf a j (by omega))⟩
  · rw [hf _ _ (by omega)]; exact s2
  · rw [hf 57 _ (by omega), hf 0 _ (by omega)]; exact s7
theorem InvN.say {I : Wo} {n : Nat} (h : InvN I n) (c s : Int32) : sayQ n c s (I 58 26) (I 61) (I 62) = sayQ n c s (I 1 11) (I 3) (I 4) := by
  obtain ⟨n8, nM, ⟨s1, sL, sF, sY, sd, se, ⟨sy, syB⟩, sp, sn⟩, tr⟩ := h.view
  unfold sayQ
  refine ite_c fun hc => ?_
  obtain ⟨j, hj, rfl⟩ := (cOK_iff (by omega)).mp hc
  rw [nI_clamp (by omega), sy, (tr j hj).2.1, (tr j hj).2.2.1]
theorem sayQ_ok {n : Nat} {c s d : Int32} {f t : Nat → Int32} (h : sayQ n c s d f t = 0) : cOK n c = true := by
  unfold sayQ at h
  split at h
  · next e => exact e
  · exact absurd h (by decide)
theorem drpQ_ok {n : Nat} {c s : Int32} (h : drpQ n c s = 0) : cOK n c = true := by
  unfold drpQ at h
  split at h
  · next e => exact e
  · exact absurd h (by decide)
theorem bindQ_ok {n : Nat} {o ag : Int32} {z : Bool} (h : bindQ n o z ag = 0) : cOK n o = true := by
  unfold bindQ at h
  split at h
  · next e => exact e
  · exact absurd h (by decide)
theorem bd_bind {a : Nat} {o x : Int32} {z : Bool} (ha : a ≤ 8) (ho : cOK a o = true) (h : Bd x (2 ^ a)) : Bd (bindV o z x) (2 ^ a) := by
  obtain ⟨j, hj, rfl⟩ := (cOK_iff (by omega)).mp ho
  cases z
  · exact bd_and h
  · exact bd_or1 h ha hj
theorem inv_said {I u : Wo} {n : Nat} (h : InvN I n) {v : Int32} (hv : Bd v (2 ^ n)) (h1 : u 1 12 = v) (h2 : u 58 24 = v) (hu : ∀ k j, ¬ ((k = 1 ∧ j = 12) ∨ (k = 58 ∧ j = 24)) → u k j = I k j) : InvN u n := by
  obtain ⟨n8, nM, ⟨s1, sL, sF, sY, ⟨sd, sdB⟩, ⟨se, seB⟩, ⟨sy, syB⟩, ⟨q, q6, pq, pM, pl⟩, ⟨z, z6, zq, zM, sn⟩⟩, tr⟩ := h.view
  refine h.suit (fun k j hk => hu k j (by omega)) ?_
  exact ⟨by rw [hu _ _ (by omega)]; exact s1,
    fun c hc => by rw [hu _ _ (by omega), hu _ _ (by omega)]; exact sL c hc,
    fun c hc => by rw [hu _ _ (by omega), hu _ _ (by omega)]; exact sF c hc,
    fun c hc => by rw [hu _ _ (by omega), hu _ _ (by omega)]; exact sY c hc,
    ⟨h2.trans h1.symm, by rw [h1]; exact hv⟩,
    by rw [hu _ _ (by omega), hu _ _ (by omega)]; exact ⟨se, seB⟩,
    by rw [hu _ _ (by omega), hu _ _ (by omega)]; exact ⟨sy, syB⟩,
    ⟨q, q6, by rw [hu _ _ (by omega)]; exact pq, by rw [hu _ _ (by omega)]; exact pM, fun i hi => by rw [hu _ _ (by omega), hu _ _ (by omega)]; exact pl i hi⟩,
    ⟨z, z6, by rw [hu _ _ (by omega)]; exact zq, by rw [hu _ _ (by omega)]; exact zM, fun i hi => by rw [hu _ _ (by omega), hu _ _ (by omega), hu _ _ (by omega), hu _ _ (by omega)]; exact sn i hi⟩⟩
theorem inv_end {I u : Wo} {n : Nat} (h : InvN I n) {v : Int32} (hv : Bd v n) (h1 : u 1 10 = v) (h2 : u 58 25 = v) (hu : ∀ k j, ¬ ((k = 1 ∧ j = 10) ∨ (k = 58 ∧ j = 25)) → u k j = I k j) : InvN u n := by
  obtain ⟨n8, nM, ⟨s1, sL, sF, sY, ⟨sd, sdB⟩, ⟨se, seB⟩, ⟨sy, syB⟩, ⟨q, q6, pq, pM, pl⟩, ⟨z, z6, zq, zM, sn⟩⟩, tr⟩ := h.view
  refine h.suit (fun k j hk => hu k j (by omega)) ?_
  exact ⟨by rw [hu _ _ (by omega)]; exact s1,
    fun c hc => by rw [hu _ _ (by omega), hu _ _ (by omega)]; exact sL c hc,
    fun c hc => by rw [hu _ _ (by omega), hu _ _ (by omega)]; exact sF c hc,
    fun c hc => by rw [hu _ _ (by omega), hu _ _ (by omega)]; exact sY c hc,
    by rw [hu _ _ (by omega), hu _ _ (by omega)]; exact ⟨sd, sdB⟩,
    ⟨h2.trans h1.symm, Or.inr (by rw [h1]; exact hv)⟩,
    by rw [hu _ _ (by omega), hu _ _ (by omega)]; exact ⟨sy, syB⟩,
    ⟨q, q6, by rw [hu _ _ (by omega)]; exact pq, by rw [hu _ _ (by omega)]; exact pM, fun i hi => by rw [hu _ _ (by omega), hu _ _ (by omega)]; exact pl i hi⟩,
    ⟨z, z6, by rw [hu _ _ (by omega)]; exact zq, by rw [hu _ _ (by omega)]; exact zM, fun i hi => by rw [hu _ _ (by omega), hu _ _ (by omega), hu _ _ (by omega), hu _ _ (by omega)]; exact sn i hi⟩⟩
theorem inv_day {I u : Wo} {n : Nat} (h : InvN I n) {v : Int32} (hv : Bd v 10) (h1 : u 1 11 = v) (h2 : u 58 26 = v) (hu : ∀ k j, ¬ ((k = 1 ∧ j = 11) ∨ (k = 58 ∧ j = 26)) → u k j = I k j) : InvN u n := by
  obtain ⟨n8, nM, ⟨s1, sL, sF, sY, ⟨sd, sdB⟩, ⟨se, seB⟩, ⟨sy, syB⟩, ⟨q, q6, pq, pM, pl⟩, ⟨z, z6, zq, zM, sn⟩⟩, tr⟩ := h.view
  refine h.suit (fun k j hk => hu k j (by omega)) ?_
  exact ⟨by rw [hu _ _ (by omega)]; exact s1,
    fun c hc => by rw [hu _ _ (by omega), hu _ _ (by omega)]; exact sL c hc,
    fun c hc => by rw [hu _ _ (by omega), hu _ _ (by omega)]; exact sF c hc,
    fun c hc => by rw [hu _ _ (by omega), hu _ _ (by omega)]; exact sY c hc,
    by rw [hu _ _ (by omega), hu _ _ (by omega)]; exact ⟨sd, sdB⟩,
    by rw [hu _ _ (by omega), hu _ _ (by omega)]; exact ⟨se, seB⟩,
    ⟨h2.trans h1.symm, by rw [h1]; exact hv⟩,
    ⟨q, q6, by rw [hu _ _ (by omega)]; exact pq, by rw [hu _ _ (by omega)]; exact pM, fun i hi => by rw [hu _ _ (by omega), hu _ _ (by omega)]; exact pl i hi⟩,
    ⟨z, z6, by rw [hu _ _ (by omega)]; exact zq, by rw [hu _ _ (by omega)]; exact zM, fun i hi => by rw [hu _ _ (by omega), hu _ _ (by omega), hu _ _ (by omega), hu _ _ (by omega)]; exact sn i hi⟩⟩
theorem inv_L {I u : Wo} {n : Nat} (h : InvN I n) {a : Nat} {v : Int32} (ha : a < n) (hv : Bd v (2 ^ a)) (h1 : u 6 a = v) (h2 : u 58 a = v) (hu : ∀ k j, ¬ ((k = 6 ∧ j = a) ∨ (k = 58 ∧ j = a)) → u k j = I k j) : InvN u n := by
  obtain ⟨n8, nM, ⟨s1, sL, sF, sY, ⟨sd, sdB⟩, ⟨se, seB⟩, ⟨sy, syB⟩, ⟨q, q6, pq, pM, pl⟩, ⟨z, z6, zq, zM, sn⟩⟩, tr⟩ := h.view
  refine h.suit (fun k j hk => hu k j (by omega)) ?_
  exact ⟨by rw [hu _ _ (by omega)]; exact s1,
    fun c hc => by
      by_cases e : c = a
      · subst e; rw [h1, h2]; exact ⟨rfl, hv⟩
      · rw [hu _ _ (by omega), hu _ _ (by omega)]; exact sL c hc,
    fun c hc => by rw [hu _ _ (by omega), hu _ _ (by omega)]; exact sF c hc,
    fun c hc => by rw [hu _ _ (by omega), hu _ _ (by omega)]; exact sY c hc,
    by rw [hu _ _ (by omega), hu _ _ (by omega)]; exact ⟨sd, sdB⟩,
    by rw [hu _ _ (by omega), hu _ _ (by omega)]; exact ⟨se, seB⟩,
    by rw [hu _ _ (by omega), hu _ _ (by omega)]; exact ⟨sy, syB⟩,
    ⟨q, q6, by rw [hu _ _ (by omega)]; exact pq, by rw [hu _ _ (by omega)]; exact pM, fun i hi => by rw [hu _ _ (by omega), hu _ _ (by omega)]; exact pl i hi⟩,
    ⟨z, z6, by rw [hu _ _ (by omega)]; exact zq, by rw [hu _ _ (by omega)]; exact zM, fun i hi => by rw [hu _ _ (by omega), hu _ _ (by omega), hu _ _ (by omega), hu _ _ (by omega)]; exact sn i hi⟩⟩
theorem inv_F {I u : Wo} {n : Nat} (h : InvN I n) {a : Nat} {v : Int32} (ha : a < n) (h1 : u 7 a = v) (h2 : u 58 (8 + a) = v) (hu : ∀ k j, ¬ ((k = 7 ∧ j = a) ∨ (k = 58 ∧ j = 8 + a)) → u k j = I k j) : InvN u n := by
  obtain ⟨n8, nM, ⟨s1, sL, sF, sY, ⟨sd, sdB⟩, ⟨se, seB⟩, ⟨sy, syB⟩, ⟨q, q6, pq, pM, pl⟩, ⟨z, z6, zq, zM, sn⟩⟩, tr⟩ := h.view
  refine h.suit (fun k j hk => hu k j (by omega)) ?_
  exact ⟨by rw [hu _ _ (by omega)]; exact s1,
    fun c hc => by rw [hu _ _ (by omega), hu _ _ (by omega)]; exact sL c hc,
    fun c hc => by
      by_cases e : c = a
      · subst e; rw [h1, h2]
      · rw [hu _ _ (by omega), hu _ _ (by omega)]; exact sF c hc,
    fun c hc => by rw [hu _ _ (by omega), hu _ _ (by omega)]; exact sY c hc,
    by rw [hu _ _ (by omega), hu _ _ (by omega)]; exact ⟨sd, sdB⟩,
    by rw [hu _ _ (by omega), hu _ _ (by omega)]; exact ⟨se, seB⟩,
    by rw [hu _ _ (by omega), hu _ _ (by omega)]; exact ⟨sy, syB⟩,
    ⟨q, q6, by rw [hu _ _ (by omega)]; exact pq, by rw [hu _ _ (by omega)]; exact pM, fun i hi => by rw [hu _ _ (by omega), hu _ _ (by omega)]; exact pl i hi⟩,
    ⟨z, z6, by rw [hu _ _ (by omega)]; exact zq, by rw [hu _ _ (by omega)]; exact zM, fun i hi => by rw [hu _ _ (by omega), hu _ _ (by omega), hu _ _ (by omega), hu _ _ (by omega)]; exact sn i hi⟩⟩
theorem inv_Y {I u : Wo} {n : Nat} (h : InvN I n) {a : Nat} {v : Int32} (ha : a < n) (h1 : u 5 a = v) (h2 : u 58 (16 + a) = v) (hu : ∀ k j, ¬ ((k = 5 ∧ j = a) ∨ (k = 58 ∧ j = 16 + a)) → u k j = I k j) : InvN u n := by
  obtain ⟨n8, nM, ⟨s1, sL, sF, sY, ⟨sd, sdB⟩, ⟨se, seB⟩, ⟨sy, syB⟩, ⟨q, q6, pq, pM, pl⟩, ⟨z, z6, zq, zM, sn⟩⟩, tr⟩ := h.view
  refine h.suit (fun k j hk => hu k j (by omega)) ?_
  exact ⟨by rw [hu _ _ (by omega)]; exact s1,
    fun c hc => by rw [hu _ _ (by omega), hu _ _ (by omega)]; exact sL c hc,
    fun c hc => by rw [hu _ _ (by omega), hu _ _ (by omega)]; exact sF c hc,
    fun c hc => by
      by_cases e : c = a
      · subst e; rw [h1, h2]
      · rw [hu _ _ (by omega), hu _ _ (by omega)]; exact sY c hc,
    by rw [hu _ _ (by omega), hu _ _ (by omega)]; exact ⟨sd, sdB⟩,
    by rw [hu _ _ (by omega), hu _ _ (by omega)]; exact ⟨se, seB⟩,
    by rw [hu _ _ (by omega), hu _ _ (by omega)]; exact ⟨sy, syB⟩,
    ⟨q, q6, by rw [hu _ _ (by omega)]; exact pq, by rw [hu _ _ (by omega)]; exact pM, fun i hi => by rw [hu _ _ (by omega), hu _ _ (by omega)]; exact pl i hi⟩,
    ⟨z, z6, by rw [hu _ _ (by omega)]; exact zq, by rw [hu _ _ (by omega)]; exact zM, fun i hi => by rw [hu _ _ (by omega), hu _ _ (by omega), hu _ _ (by omega), hu _ _ (by omega)]; exact sn i hi⟩⟩
theorem inv_plan {I u : Wo} {n : Nat} (h : InvN I n) {q : Nat} {v : Int32} (hq : q < 6) (hp : ∀ i, i < q → I 58 (28 + i) = I 8 i ∧ Bd (I 8 i) n) (hv : Bd v n) (h1 : u 8 q = v) (h2 : u 1 13 = nI (q + 1)) (h3 : u 58 (28 + q) = v) (h4 : u 58 27 = nI (q + 1)) (hu : ∀ k j, ¬ ((k = 8 ∧ j = q) ∨ (k = 1 ∧ j = 13) ∨ (k = 58 ∧ (j = 28 + q ∨ j = 27))) → u k j = I k j) : InvN u n := by
  obtain ⟨n8, nM, ⟨s1, sL, sF, sY, ⟨sd, sdB⟩, ⟨se, seB⟩, ⟨sy, syB⟩, sp, ⟨z, z6, zq, zM, sn⟩⟩, tr⟩ := h.view
  refine h.suit (fun k j hk => hu k j (by omega)) ?_
  exact ⟨by rw [hu _ _ (by omega)]; exact s1,
    fun c hc => by rw [hu _ _ (by omega), hu _ _ (by omega)]; exact sL c hc,
    fun c hc => by rw [hu _ _ (by omega), hu _ _ (by omega)]; exact sF c hc,
    fun c hc => by rw [hu _ _ (by omega), hu _ _ (by omega)]; exact sY c hc,
    by rw [hu _ _ (by omega), hu _ _ (by omega)]; exact ⟨sd, sdB⟩,
    by rw [hu _ _ (by omega), hu _ _ (by omega)]; exact ⟨se, seB⟩,
    by rw [hu _ _ (by omega), hu _ _ (by omega)]; exact ⟨sy, syB⟩,
    ⟨q + 1, by omega, h2, h4, fun i hi => by
      by_cases e : i = q
      · subst e; rw [h1, h3]; exact ⟨rfl, hv⟩
      · rw [hu _ _ (by omega), hu _ _ (by omega)]; exact hp i (by omega)⟩,
    ⟨z, z6, by rw [hu _ _ (by omega)]; exact zq, by rw [hu _ _ (by omega)]; exact zM, fun i hi => by rw [hu _ _ (by omega), hu _ _ (by omega), hu _ _ (by omega), hu _ _ (by omega)]; exact sn i hi⟩⟩
theorem inv_cut {I u : Wo} {n : Nat} (h : InvN I n) {q a : Nat} (hq : q ≤ 6) (ha : a ≤ q) (hp : ∀ i, i < q → I 58 (28 + i) = I 8 i ∧ Bd (I 8 i) n) (h2 : u 1 13 = nI a) (h4 : u 58 27 = nI a) (hu : ∀ k j, ¬ ((k = 1 ∧ j = 13) ∨ (k = 58 ∧ j = 27)) → u k j = I k j) : InvN u n := by
  obtain ⟨n8, nM, ⟨s1, sL, sF, sY, ⟨sd, sdB⟩, ⟨se, seB⟩, ⟨sy, syB⟩, sp, ⟨z, z6, zq, zM, sn⟩⟩, tr⟩ := h.view
  refine h.suit (fun k j hk => hu k j (by omega)) ?_
  exact ⟨by rw [hu _ _ (by omega)]; exact s1,
    fun c hc => by rw [hu _ _ (by omega), hu _ _ (by omega)]; exact sL c hc,
    fun c hc => by rw [hu _ _ (by omega), hu _ _ (by omega)]; exact sF c hc,
    fun c hc => by rw [hu _ _ (by omega), hu _ _ (by omega)]; exact sY c hc,
    by rw [hu _ _ (by omega), hu _ _ (by omega)]; exact ⟨sd, sdB⟩,
    by rw [hu _ _ (by omega), hu _ _ (by omega)]; exact ⟨se, seB⟩,
    by rw [hu _ _ (by omega), hu _ _ (by omega)]; exact ⟨sy, syB⟩,
    ⟨a, by omega, h2, h4, fun i hi => by rw [hu _ _ (by omega), hu _ _ (by omega)]; exact hp i (by omega)⟩,
    ⟨z, z6, by rw [hu _ _ (by omega)]; exact zq, by rw [hu _ _ (by omega)]; exact zM, fun i hi => by rw [hu _ _ (by omega), hu _ _ (by omega), hu _ _ (by omega), hu _ _ (by omega)]; exact sn i hi⟩⟩
theorem inv_see {I u : Wo} {n : Nat} (h : InvN I n) {z : Nat} {v b m : Int32} (hz : z < 6) (hp : ∀ i, i < z → I 58 (35 + 2 * i) = I 9 i ∧ Bd (I 9 i) (2 ^ n) ∧ I 58 (36 + 2 * i) = (I 1 8 >>> (nI i &&& 31)) &&& 1) (hv : Bd v (2 ^ n)) (hm : ∀ i, i < z → (m >>> (nI i &&& 31)) &&& 1 = (I 1 8 >>> (nI i &&& 31)) &&& 1) (hb : (m >>> (nI z &&& 31)) &&& 1 = b) (h1 : u 9 z = v) (h2 : u 1 14 = nI (z + 1)) (h8 : u 1 8 = m) (h3 : u 58 (35 + 2 * z) = v) (h4 : u 58 34 = nI (z + 1)) (h5 : u 58 (36 + 2 * z) = b) (hu : ∀ k j, ¬ ((k = 9 ∧ j = z) ∨ (k = 1 ∧ (j = 14 ∨ j = 8)) ∨ (k = 58 ∧ (j = 35 + 2 * z ∨ j = 34 ∨ j = 36 + 2 * z))) → u k j = I k j) : InvN u n := by
  obtain ⟨n8, nM, ⟨s1, sL, sF, sY, ⟨sd, sdB⟩, ⟨se, seB⟩, ⟨sy, syB⟩, ⟨q, q6, pq, pM, pl⟩, sn⟩, tr⟩ := h.view
  refine h.suit (fun k j hk => hu k j (by omega)) ?_
  exact ⟨by rw [hu _ _ (by omega)]; exact s1,
    fun c hc => by rw [hu _ _ (by omega), hu _ _ (by omega)]; exact sL c hc,
    fun c hc => by rw [hu _ _ (by omega), hu _ _ (by omega)]; exact sF c hc,
    fun c hc => by rw [hu _ _ (by omega), hu _ _ (by omega)]; exact sY c hc,
    by rw [hu _ _ (by omega), hu _ _ (by omega)]; exact ⟨sd, sdB⟩,
    by rw [hu _ _ (by omega), hu _ _ (by omega)]; exact ⟨se, seB⟩,
    by rw [hu _ _ (by omega), hu _ _ (by omega)]; exact ⟨sy, syB⟩,
    ⟨q, q6, by rw [hu _ _ (by omega)]; exact pq, by rw [hu _ _ (by omega)]; exact pM, fun i hi => by rw [hu _ _ (by omega), hu _ _ (by omega)]; exact pl i hi⟩,
    ⟨z + 1, by omega, h2, h4, fun i hi => by
      by_cases e : i = z
      · subst e; rw [h1, h3, h5, h8]; exact ⟨rfl, hv, hb.symm⟩
      · rw [h8, hm i (by omega), hu 58 _ (by omega), hu 9 _ (by omega), hu 58 _ (by omega)]; exact hp i (by omega)⟩⟩
theorem inv_forget {I u : Wo} {n : Nat} (h : InvN I n) {z a : Nat} (hz : z ≤ 6) (ha : a ≤ z) (hp : ∀ i, i < z → I 58 (35 + 2 * i) = I 9 i ∧ Bd (I 9 i) (2 ^ n) ∧ I 58 (36 + 2 * i) = (I 1 8 >>> (nI i &&& 31)) &&& 1) (h2 : u 1 14 = nI a) (h4 : u 58 34 = nI a) (hu : ∀ k j, ¬ ((k = 1 ∧ j = 14) ∨ (k = 58 ∧ j = 34)) → u k j = I k j) : InvN u n := by
  obtain ⟨n8, nM, ⟨s1, sL, sF, sY, ⟨sd, sdB⟩, ⟨se, seB⟩, ⟨sy, syB⟩, ⟨q, q6, pq, pM, pl⟩, sn⟩, tr⟩ := h.view
  refine h.suit (fun k j hk => hu k j (by omega)) ?_
  exact ⟨by rw [hu _ _ (by omega)]; exact s1,
    fun c hc => by rw [hu _ _ (by omega), hu _ _ (by omega)]; exact sL c hc,
    fun c hc => by rw [hu _ _ (by omega), hu _ _ (by omega)]; exact sF c hc,
    fun c hc => by rw [hu _ _ (by omega), hu _ _ (by omega)]; exact sY c hc,
    by rw [hu _ _ (by omega), hu _ _ (by omega)]; exact ⟨sd, sdB⟩,
    by rw [hu _ _ (by omega), hu _ _ (by omega)]; exact ⟨se, seB⟩,
    by rw [hu _ _ (by omega), hu _ _ (by omega)]; exact ⟨sy, syB⟩,
    ⟨q, q6, by rw [hu _ _ (by omega)]; exact pq, by rw [hu _ _ (by omega)]; exact pM, fun i hi => by rw [hu _ _ (by omega), hu _ _ (by omega)]; exact pl i hi⟩,
    ⟨a, by omega, h2, h4, fun i hi => by rw [hu 58 _ (by omega), hu 9 _ (by omega), hu 58 _ (by omega), hu 1 _ (by omega)]; exact hp i (by omega)⟩⟩
theorem op_say {I : Wo} (h : Inv I) (c : Int32) : OpI yX6_say cX6_say 2 1 24 yX7_say cX7_say 2 2 47 [.int c] I := by
  obtain ⟨n, hI⟩ := id h
  obtain ⟨n8, nM, ⟨s1, sL, sF, sY, ⟨sd, sdB⟩, se, sy, sp, sn⟩, tr⟩ := hI.view
  have c1 := ct_X6_say s1 n8 c
  by_cases hq : sayQ n c (I 1 12) (I 1 11) (I 3) (I 4) = 0
  · simp only [if_pos hq] at c1
    generalize hu1 : w2 I 1 12 (I 1 12 ||| ((1 : Int32) <<< (c &&& 31))) = u1 at c1
    have e57 : u1 57 = I 57 := by rw [← hu1]; exact w2_row _ _ (by decide)
    have e58 : u1 58 = I 58 := by rw [← hu1]; exact w2_row _ _ (by decide)
    have e61 : u1 61 = I 61 := by rw [← hu1]; exact w2_row _ _ (by decide)
    have e62 : u1 62 = I 62 := by rw [← hu1]; exact w2_row _ _ (by decide)
    have c2 := ct_X7_say (I := u1) (n := n) (by rw [e57]; exact nM) n8 c
    rw [e58, e61, e62, hI.say, sd] at c2
    simp only [if_pos hq] at c2
    refine op_mut c1 c2 (by rw [hI.st]) ⟨n, inv_said hI (v := I 1 12 ||| ((1 : Int32) <<< (c &&& 31))) ?_ ?_ ?_ ?_⟩
    · obtain ⟨j, hj, rfl⟩ := (cOK_iff (by omega)).mp (sayQ_ok hq)
      exact bd_or1 sdB n8 hj
    · rw [← hu1, w2_cell _ _ (by decide), w2_same]
    · rw [w2_same]
    · intro k j hk
      rw [← hu1, w2_get, w2_get, if_neg (by omega), if_neg (by omega)]
  · simp only [if_neg hq] at c1
    have c2 := ct_X7_say (I := I) nM n8 c
    rw [hI.say, sd] at c2
    simp only [if_neg hq] at c2
    exact op_mut c1 c2 rfl h
theorem op_drop {I : Wo} (h : Inv I) (c : Int32) : OpI yX6_drop cX6_drop 2 1 24 yX7_drop cX7_drop 2 2 46 [.int c] I := by
  obtain ⟨n, hI⟩ := id h
  obtain ⟨n8, nM, ⟨s1, sL, sF, sY, ⟨sd, sdB⟩, se, sy, sp, sn⟩, tr⟩ := hI.view
  have c1 := ct_X6_drop s1 n8 c
  by_cases hq : drpQ n c (I 1 12) = 0
  · simp only [if_pos hq] at c1
    generalize hu1 : w2 I 1 12 (I 1 12 &&& (((1 : Int32) <<< (c &&& 31)) ^^^ (-1))) = u1 at c1
    have e57 : u1 57 = I 57 := by rw [← hu1]; exact w2_row _ _ (by decide)
    have e58 : u1 58 = I 58 := by rw [← hu1]; exact w2_row _ _ (by decide)
    have c2 := ct_X7_drop (I := u1) (n := n) (by rw [e57]; exact nM) n8 c
    rw [e58, sd] at c2
    simp only [if_pos hq] at c2
    refine op_mut c1 c2 (by rw [hI.st]) ⟨n, inv_said hI (v := I 1 12 &&& (((1 : Int32) <<< (c &&& 31)) ^^^ (-1))) (bd_and sdB) ?_ ?_ ?_⟩
    · rw [← hu1, w2_cell _ _ (by decide), w2_same]
    · rw [w2_same]
    · intro k j hk
      rw [← hu1, w2_get, w2_get, if_neg (by omega), if_neg (by omega)]
  · simp only [if_neg hq] at c1
    have c2 := ct_X7_drop (I := I) nM n8 c
    rw [sd] at c2
    simp only [if_neg hq] at c2
    exact op_mut c1 c2 rfl h
theorem op_day {I : Wo} (h : Inv I) (d : Int32) : OpI yX6_day cX6_day 3 1 22 yX7_day cX7_day 2 1 25 [.int d] I := by
  obtain ⟨n, hI⟩ := id h
  obtain ⟨n8, nM, ⟨s1, sL, sF, sY, sd, se, ⟨sy, syB⟩, sp, sn⟩, tr⟩ := hI.view
  have c1 := ct_X6_day (I := I) d
  by_cases hq : wi d 0 9 = true
  · simp only [if_pos hq] at c1
    generalize hu1 : w2 I 1 11 d = u1 at c1
    have e58 : u1 58 = I 58 := by rw [← hu1]; exact w2_row _ _ (by decide)
    have c2 := ct_X7_day (I := u1) d
    rw [e58, sy] at c2
    simp only [if_pos hq] at c2
    refine op_mut c1 c2 rfl ⟨n, inv_day hI (v := d) ?_ ?_ ?_ ?_⟩
    · obtain ⟨j, hj, rfl⟩ := (wi_iff (m := 9) (by decide)).mp hq
      exact ⟨j, by omega, rfl⟩
    · rw [← hu1, w2_cell _ _ (by decide), w2_same]
    · rw [w2_same]
    · intro k j hk
      rw [← hu1, w2_get, w2_get, if_neg (by omega), if_neg (by omega)]
  · simp only [if_neg hq] at c1
    have c2 := ct_X7_day (I := I) d
    simp only [if_neg hq] at c2
    exact op_mut c1 c2 rfl h
theorem op_aim {I : Wo} (h : Inv I) (c : Int32) : OpI yX6_aim cX6_aim 3 1 21 yX7_aim cX7_aim 2 2 46 [.int c] I := by
  obtain ⟨n, hI⟩ := id h
  obtain ⟨n8, nM, ⟨s1, sL, sF, sY, sd, ⟨se, seB⟩, sy, sp, sn⟩, tr⟩ := hI.view
  have c1 := ct_X6_aim s1 n8 c
  by_cases hq : cOK n c = true
  · simp only [if_pos hq] at c1
    generalize hu1 : w2 I 1 10 c = u1 at c1
    have e57 : u1 57 = I 57 := by rw [← hu1]; exact w2_row _ _ (by decide)
    have e58 : u1 58 = I 58 := by rw [← hu1]; exact w2_row _ _ (by decide)
    have c2 := ct_X7_aim (I := u1) (n := n) (by rw [e57]; exact nM) n8 c
    rw [e58, se] at c2
    simp only [if_pos hq] at c2
    refine op_mut c1 c2 rfl ⟨n, inv_end hI (v := c) ?_ ?_ ?_ ?_⟩
    · obtain ⟨j, hj, rfl⟩ := (cOK_iff (by omega)).mp hq
      exact ⟨j, hj, rfl⟩
    · rw [← hu1, w2_cell _ _ (by decide), w2_same]
    · rw [w2_same]
    · intro k j hk
      rw [← hu1, w2_get, w2_get, if_neg (by omega), if_neg (by omega)]
  · simp only [if_neg hq] at c1
    have c2 := ct_X7_aim (I := I) nM n8 c
    simp only [if_neg hq] at c2
    exact op_mut c1 c2 rfl h
theorem op_yards {I : Wo} (h : Inv I) (c v : Int32) : OpI yX6_yards cX6_yards 4 1 22 yX7_yards cX7_yards 3 2 46 [.int c, .int v] I := by
  obtain ⟨n, hI⟩ := id h
  obtain ⟨n8, nM, ⟨s1, sL, sF, sY, sd, se, sy, sp, sn⟩, tr⟩ := hI.view
  have c1 := ct_X6_yards s1 n8 c v
  by_cases hq : (cOK n c && wi v 0 9) = true
  · simp only [if_pos hq] at c1
    obtain ⟨j, hj, rfl⟩ := (cOK_iff (by omega)).mp (Bool.and_eq_true_iff.mp hq).1
    rw [nI_clamp (by omega)] at c1
    generalize hu1 : w2 I 5 j v = u1 at c1
    have e57 : u1 57 = I 57 := by rw [← hu1]; exact w2_row _ _ (by decide)
    have e58 : u1 58 = I 58 := by rw [← hu1]; exact w2_row _ _ (by decide)
    have c2 := ct_X7_yards (I := u1) (n := n) (by rw [e57]; exact nM) n8 (nI j) v
    rw [e58, nI_clamp (by omega), sY j hj] at c2
    simp only [if_pos hq] at c2
    refine op_mut c1 c2 rfl ⟨n, inv_Y hI (v := v) hj ?_ ?_ ?_⟩
    · rw [← hu1, w2_cell _ _ (by decide), w2_same]
    · rw [w2_same]
    · intro k i hk
      rw [← hu1, w2_get, w2_get, if_neg (by omega), if_neg (by omega)]
  · simp only [if_neg hq] at c1
    have c2 := ct_X7_yards (I := I) nM n8 c v
    simp only [if_neg hq] at c2
    exact op_mut c1 c2 rfl h
theorem op_plans {I : Wo} (h : Inv I) (c : Int32) : OpI yX6_plans cX6_plans 2 1 21 yX7_plans cX7_plans 2 2 46 [.int c] I := by
  obtain ⟨n, hI⟩ := id h
  obtain ⟨n8, nM, ⟨s1, sL, sF, sY, sd, se, sy, ⟨q, q6, pq, pM, pl⟩, sn⟩, tr⟩ := hI.view
  have c1 := ct_X6_plans s1 n8 pq q6 c
  by_cases hq : (cOK n c && decide (q < 6)) = true
  · simp only [if_pos hq] at c1
    obtain ⟨hc, hq6⟩ := Bool.and_eq_true_iff.mp hq
    obtain ⟨j, hj, rfl⟩ := (cOK_iff (by omega)).mp hc
    have hq6 := of_decide_eq_true hq6
    generalize hu1 : w2 (w2 I 8 q (nI j)) 1 13 (nI (q + 1)) = u1 at c1
    have e57 : u1 57 = I 57 := by rw [← hu1]; exact (w2_row _ _ (by decide)).trans (w2_row _ _ (by decide))
    have e58 : u1 58 = I 58 := by rw [← hu1]; exact (w2_row _ _ (by decide)).trans (w2_row _ _ (by decide))
    have c2 := ct_X7_plans (I := u1) (n := n) (q := q) (by rw [e57]; exact nM) n8 (by rw [e58]; exact pM) q6 (nI j)
    simp only [if_pos hq] at c2
    refine op_mut c1 c2 rfl ⟨n, inv_plan hI (v := nI j) hq6 pl ⟨j, hj, rfl⟩ ?_ ?_ ?_ ?_ ?_⟩
    · rw [← hu1, w2_cell _ _ (by decide), w2_cell _ _ (by decide), w2_cell _ _ (by decide), w2_same]
    · rw [← hu1, w2_cell _ _ (by decide), w2_cell _ _ (by decide), w2_same]
    · rw [w2_slot _ _ (by omega), w2_same]
    · rw [w2_same]
    · intro k i hk
      rw [← hu1, w2_get, w2_get, w2_get, w2_get, if_neg (by omega), if_neg (by omega), if_neg (by omega), if_neg (by omega)]
  · simp only [if_neg hq] at c1
    have c2 := ct_X7_plans (I := I) nM n8 pM q6 c
    simp only [if_neg hq] at c2
    exact op_mut c1 c2 rfl h
theorem op_cut {I : Wo} (h : Inv I) (i : Int32) : OpI yX6_cut cX6_cut 3 1 22 yX7_cut cX7_cut 2 1 25 [.int i] I := by
  obtain ⟨n, hI⟩ := id h
  obtain ⟨n8, nM, ⟨s1, sL, sF, sY, sd, se, sy, ⟨q, q6, pq, pM, pl⟩, sn⟩, tr⟩ := hI.view
  have c1 := ct_X6_cut pq i
  by_cases hq : wi i 0 (nI q) = true
  · simp only [if_pos hq] at c1
    generalize hu1 : w2 I 1 13 i = u1 at c1
    have e58 : u1 58 = I 58 := by rw [← hu1]; exact w2_row _ _ (by decide)
    have c2 := ct_X7_cut (I := u1) (q := q) (by rw [e58]; exact pM) i
    simp only [if_pos hq] at c2
    obtain ⟨a, ha, rfl⟩ := (wi_iff (m := q) (by omega)).mp hq
    refine op_mut c1 c2 rfl ⟨n, inv_cut hI q6 ha pl ?_ ?_ ?_⟩
    · rw [← hu1, w2_cell _ _ (by decide), w2_same]
    · rw [w2_same]
    · intro k j hk
      rw [← hu1, w2_get, w2_get, if_neg (by omega), if_neg (by omega)]
  · simp only [if_neg hq] at c1
    have c2 := ct_X7_cut (I := I) pM i
    simp only [if_neg hq] at c2
    exact op_mut c1 c2 rfl h
theorem op_forget {I : Wo} (h : Inv I) (i : Int32) : OpI yX6_forget cX6_forget 3 1 22 yX7_forget cX7_forget 2 1 25 [.int i] I := by
  obtain ⟨n, hI⟩ := id h
  obtain ⟨n8, nM, ⟨s1, sL, sF, sY, sd, se, sy, sp, ⟨z, z6, zq, zM, sn⟩⟩, tr⟩ := hI.view
  have c1 := ct_X6_forget zq i
  by_cases hq : wi i 0 (nI z) = true
  · simp only [if_pos hq] at c1
    generalize hu1 : w2 I 1 14 i = u1 at c1
    have e58 : u1 58 = I 58 := by rw [← hu1]; exact w2_row _ _ (by decide)
    have c2 := ct_X7_forget (I := u1) (q := z) (by rw [e58]; exact zM) i
    simp only [if_pos hq] at c2
    obtain ⟨a, ha, rfl⟩ := (wi_iff (m := z) (by omega)).mp hq
    refine op_mut c1 c2 rfl ⟨n, inv_forget hI z6 ha sn ?_ ?_ ?_⟩
    · rw [← hu1, w2_cell _ _ (by decide), w2_same]
    · rw [w2_same]
    · intro k j hk
      rw [← hu1, w2_get, w2_get, if_neg (by omega), if_neg (by omega)]
  · simp only [if_neg hq] at c1
    have c2 := ct_X7_forget (I := I) zM i
    simp only [if_neg hq] at c2
    exact op_mut c1 c2 rfl h
theorem op_leans {I : Wo} (h : Inv I) (c o : Int32) (z : Bool) : OpI yX6_leans cX6_leans 4 2 48 yX7_leans cX7_leans 4 3 72 [.int c, .int o, .int (bI z)] I := by
  obtain ⟨n, hI⟩ := id h
  obtain ⟨n8, nM, ⟨s1, sL, sF, sY, sd, se, sy, sp, sn⟩, tr⟩ := hI.view
  have c1 := ct_X6_leans s1 n8 c o z
  by_cases hc : cOK n c = true
  · obtain ⟨j, hj, rfl⟩ := (cOK_iff (by omega)).mp hc
    rw [nI_clamp (by omega)] at c1
    by_cases hq : bindQ j o z (I 7 j) = 0
    · simp only [if_pos hc, if_pos hq, if_pos (And.intro hc hq)] at c1
      generalize hu1 : w2 I 6 j (bindV o z (I 6 j)) = u1 at c1
      have e57 : u1 57 = I 57 := by rw [← hu1]; exact w2_row _ _ (by decide)
      have e58 : u1 58 = I 58 := by rw [← hu1]; exact w2_row _ _ (by decide)
      have c2 := ct_X7_leans (I := u1) (n := n) (by rw [e57]; exact nM) n8 (nI j) o z
      rw [e58, nI_clamp (by omega), Nat.zero_add, (sL j hj).1, sF j hj] at c2
      simp only [if_pos hc, if_pos hq, if_pos (And.intro hc hq)] at c2
      refine op_mut c1 c2 rfl ⟨n, inv_L hI (v := bindV o z (I 6 j)) hj (bd_bind (by omega) (bindQ_ok hq) (sL j hj).2) ?_ ?_ ?_⟩
      · rw [← hu1, w2_cell _ _ (by decide), w2_same]
      · rw [w2_same]
      · intro k i hk
        rw [← hu1, w2_get, w2_get, if_neg (by omega), if_neg (by omega)]
    · have hq2 : ¬ (cOK n (nI j) = true ∧ bindQ j o z (I 7 j) = 0) := fun e => hq e.2
      simp only [if_pos hc, if_neg hq, if_neg hq2] at c1
      have c2 := ct_X7_leans (I := I) nM n8 (nI j) o z
      rw [nI_clamp (by omega), sF j hj] at c2
      simp only [if_pos hc, if_neg hq, if_neg hq2] at c2
      exact op_mut c1 c2 rfl h
  · have hq2 : ∀ p : Prop, ¬ (cOK n c = true ∧ p) := fun p e => hc e.1
    simp only [if_neg hc, if_neg (hq2 _)] at c1
    have c2 := ct_X7_leans (I := I) nM n8 c o z
    simp only [if_neg hc, if_neg (hq2 _)] at c2
    exact op_mut c1 c2 rfl h
theorem op_falls {I : Wo} (h : Inv I) (c o : Int32) (z : Bool) : OpI yX6_falls cX6_falls 4 2 48 yX7_falls cX7_falls 4 3 72 [.int c, .int o, .int (bI z)] I := by
  obtain ⟨n, hI⟩ := id h
  obtain ⟨n8, nM, ⟨s1, sL, sF, sY, sd, se, sy, sp, sn⟩, tr⟩ := hI.view
  have c1 := ct_X6_falls s1 n8 c o z
  by_cases hc : cOK n c = true
  · obtain ⟨j, hj, rfl⟩ := (cOK_iff (by omega)).mp hc
    rw [nI_clamp (by omega)] at c1
    by_cases hq : bindQ j o z (I 6 j) = 0
    · simp only [if_pos hc, if_pos hq, if_pos (And.intro hc hq)] at c1
      generalize hu1 : w2 I 7 j (bindV o z (I 7 j)) = u1 at c1
      have e57 : u1 57 = I 57 := by rw [← hu1]; exact w2_row _ _ (by decide)
      have e58 : u1 58 = I 58 := by rw [← hu1]; exact w2_row _ _ (by decide)
      have c2 := ct_X7_falls (I := u1) (n := n) (by rw [e57]; exact nM) n8 (nI j) o z
      rw [e58, nI_clamp (by omega), Nat.zero_add, (sL j hj).1, sF j hj] at c2
      simp only [if_pos hc, if_pos hq, if_pos (And.intro hc hq)] at c2
      refine op_mut c1 c2 rfl ⟨n, inv_F hI (v := bindV o z (I 7 j)) hj ?_ ?_ ?_⟩
      · rw [← hu1, w2_cell _ _ (by decide), w2_same]
      · rw [w2_same]
      · intro k i hk
        rw [← hu1, w2_get, w2_get, if_neg (by omega), if_neg (by omega)]
    · have hq2 : ¬ (cOK n (nI j) = true ∧ bindQ j o z (I 6 j) = 0) := fun e => hq e.2
      simp only [if_pos hc, if_neg hq, if_neg hq2] at c1
      have c2 := ct_X7_falls (I := I) nM n8 (nI j) o z
      rw [nI_clamp (by omega), Nat.zero_add, (sL j hj).1] at c2
      simp only [if_pos hc, if_neg hq, if_neg hq2] at c2
      exact op_mut c1 c2 rfl h
  · have hq2 : ∀ p : Prop, ¬ (cOK n c = true ∧ p) := fun p e => hc e.1
    simp only [if_neg hc, if_neg (hq2 _)] at c1
    have c2 := ct_X7_falls (I := I) nM n8 c o z
    simp only [if_neg hc, if_neg (hq2 _)] at c2
    exact op_mut c1 c2 rfl h
theorem see_bits {x : Int32} {q : Nat} (hq : q < 6) (z : Bool) : ∀ i, i ≤ q → ((if z then x ||| ((1 : Int32) <<< (nI q &&& 31)) else x &&& (((1 : Int32) <<< (nI q &&& 31)) ^^^ (-1))) >>> (nI i &&& 31)) &&& 1 = (if i = q then bI z else (x >>> (nI i &&& 31)) &&& 1) := by
  intro i hi
  rw [bitB _ (show i ≤ 8 by omega), bitB x (show i ≤ 8 by omega)]
  cases z
  · rw [if_neg (by decide), Int32.toBitVec_and, BitVec.getLsbD_and, not_lsb (by omega), one_lsb (by omega)]
    by_cases e : i = q
    · rw [if_pos e, decide_eq_true e]; simp
    · rw [if_neg e, decide_eq_false e]; simp
  · rw [if_pos rfl, Int32.toBitVec_or, BitVec.getLsbD_or, one_lsb (by omega)]
    by_cases e : i = q
    · rw [if_pos e, decide_eq_true e]; simp
    · rw [if_neg e, decide_eq_false e]; simp
theorem op_see {I : Wo} (h : Inv I) (s : Int32) (b : Bool) : OpI yX6_see cX6_see 3 1 23 yX7_see cX7_see 3 1 25 [.int s, .int (bI b)] I := by
  obtain ⟨n, hI⟩ := id h
  obtain ⟨n8, nM, ⟨s1, sL, sF, sY, sd, se, sy, sp, ⟨z, z6, zq, zM, sn⟩⟩, tr⟩ := hI.view
  have c1 := ct_X6_see s1 n8 zq z6 s b
  by_cases hq : (cOK (2 ^ n) s && decide (z < 6)) = true
  · simp only [if_pos hq] at c1
    obtain ⟨hc, hq6⟩ := Bool.and_eq_true_iff.mp hq
    obtain ⟨j, hj, rfl⟩ := (cOK_iff (by have := pow8 n8; omega)).mp hc
    have hq6 := of_decide_eq_true hq6
    have hb := see_bits (x := I 1 8) hq6 b
    generalize hm : (if b = true then I 1 8 ||| ((1 : Int32) <<< (nI z &&& 31)) else I 1 8 &&& (((1 : Int32) <<< (nI z &&& 31)) ^^^ (-1))) = m at c1 hb
    generalize hu1 : w2 (w2 (w2 I 9 z (nI j)) 1 8 m) 1 14 (nI (z + 1)) = u1 at c1
    have e57 : u1 57 = I 57 := by rw [← hu1]; exact (w2_row _ _ (by decide)).trans ((w2_row _ _ (by decide)).trans (w2_row _ _ (by decide)))
    have e58 : u1 58 = I 58 := by rw [← hu1]; exact (w2_row _ _ (by decide)).trans ((w2_row _ _ (by decide)).trans (w2_row _ _ (by decide)))
    have c2 := ct_X7_see (I := u1) (n := n) (q := z) (by rw [e57]; exact nM) n8 (by rw [e58]; exact zM) z6 (nI j) b
    simp only [if_pos hq] at c2
    refine op_mut c1 c2 rfl ⟨n, inv_see hI (v := nI j) (b := bI b) (m := m) hq6 sn ⟨j, hj, rfl⟩ (fun i hi => ?_) ?_ ?_ ?_ ?_ ?_ ?_ ?_ ?_⟩
    · rw [hb i (by omega), if_neg (by omega)]
    · rw [hb z (Nat.le_refl z), if_pos rfl]
    · rw [← hu1, w2_cell _ _ (by decide), w2_cell _ _ (by decide), w2_cell _ _ (by decide), w2_cell _ _ (by decide), w2_cell _ _ (by decide), w2_same]
    · rw [← hu1, w2_cell _ _ (by decide), w2_cell _ _ (by decide), w2_cell _ _ (by decide), w2_same]
    · rw [← hu1, w2_cell _ _ (by decide), w2_cell _ _ (by decide), w2_cell _ _ (by decide), w2_slot _ _ (by decide), w2_same]
    · rw [w2_slot _ _ (by omega), w2_slot _ _ (by omega), w2_same]
    · rw [w2_same]
    · rw [w2_slot _ _ (by omega), w2_same]
    · intro k i hk
      rw [← hu1, w2_get, w2_get, w2_get, w2_get, w2_get, w2_get, if_neg (by omega), if_neg (by omega), if_neg (by omega), if_neg (by omega), if_neg (by omega), if_neg (by omega)]
  · simp only [if_neg hq] at c1
    have c2 := ct_X7_see (I := I) nM n8 zM z6 s b
    simp only [if_neg hq] at c2
    exact op_mut c1 c2 rfl h
theorem byte_tab : (List.range 128).all (fun k => decide (vp_nar .byte (nI k).toInt8.toInt32 = nI k)) = true := by decide +kernel
theorem byte_nar {k : Nat} (h : k < 128) : vp_nar .byte (nI k).toInt8.toInt32 = nI k := of_decide_eq_true (List.all_eq_true.mp byte_tab k (List.mem_range.mpr h))
theorem op_feed {I : Wo} (h : Inv I) (c : Int32) : OpI yX6_feed cX6_feed 2 1 22 yX7_feed cX7_feed 2 1 25 [.int c] I := by
  obtain ⟨n, hI⟩ := id h
  obtain ⟨q, q160, t1, t2, t3⟩ := hI.2.2.2.2.2.1
  have c1 := ct_X6_feed t1 q160 c
  by_cases hq : (wi c 0 127 && decide (q < 160)) = true
  · simp only [if_pos hq] at c1
    obtain ⟨hc, hq6⟩ := Bool.and_eq_true_iff.mp hq
    obtain ⟨j, hj, rfl⟩ := (wi_iff (m := 127) (by decide)).mp hc
    have hq6 := of_decide_eq_true hq6
    rw [byte_nar (by omega)] at c1
    generalize hu1 : w2 (w2 I 40 q (nI j)) 39 1 (nI (q + 1)) = u1 at c1
    have e57 : u1 57 = I 57 := by rw [← hu1]; exact (w2_row _ _ (by decide)).trans (w2_row _ _ (by decide))
    have c2 := ct_X7_feed (I := u1) (q := q) (by rw [e57]; exact t2) q160 (nI j)
    simp only [if_pos hq] at c2
    refine op_mut c1 c2 rfl ⟨n, hI.tape ?_ ⟨q + 1, by omega, ?_, ?_, fun i hi => ?_⟩⟩
    · intro k i hk
      rw [← hu1, w2_get, w2_get, w2_get, w2_get, if_neg (by omega), if_neg (by omega), if_neg (by omega), if_neg (by omega)]
    · rw [← hu1, w2_cell _ _ (by decide), w2_cell _ _ (by decide), w2_same]
    · rw [w2_same]
    · by_cases e : i = q
      · subst e
        rw [← hu1, w2_cell _ _ (by decide), w2_same, w2_cell _ _ (by decide), w2_cell _ _ (by decide), w2_cell _ _ (by decide), w2_same]
        exact ⟨rfl, j, by omega, rfl⟩
      · have := t3 i (by omega)
        rw [← hu1, w2_get, w2_get, w2_get, w2_get, if_neg (by omega), if_neg (by omega), if_neg (by omega), if_neg (by omega), w2_get, w2_get, w2_get, w2_get, if_neg (by omega), if_neg (by omega), if_neg (by omega), if_neg (by omega)]
        exact this
  · simp only [if_neg hq] at c1
    have c2 := ct_X7_feed (I := I) t2 q160 c
    simp only [if_neg hq] at c2
    exact op_mut c1 c2 rfl h
theorem op_end {I : Wo} (h : Inv I) (i : Int32) : OpI yX6_end cX6_end 3 1 22 yX7_end cX7_end 3 1 25 [.int i] I := by
  obtain ⟨n, hI⟩ := id h
  obtain ⟨q, q160, t1, t2, t3⟩ := hI.2.2.2.2.2.1
  have c1 := ct_X6_end t1 i
  by_cases hq : wi i 0 (nI q) = true
  · simp only [if_pos hq] at c1
    generalize hu1 : w2 I 39 1 i = u1 at c1
    have e57 : u1 57 = I 57 := by rw [← hu1]; exact w2_row _ _ (by decide)
    have c2 := ct_X7_end (I := u1) (q := q) (by rw [e57]; exact t2) i
    simp only [if_pos hq] at c2
    obtain ⟨a, ha, rfl⟩ := (wi_iff (m := q) (by omega)).mp hq
    refine op_mut c1 c2 rfl ⟨n, hI.tape ?_ ⟨a, by omega, ?_, ?_, fun i hi => ?_⟩⟩
    · intro k j hk
      rw [← hu1, w2_get, w2_get, if_neg (by omega), if_neg (by omega)]
    · rw [← hu1, w2_cell _ _ (by decide), w2_same]
    · rw [w2_same]
    · have := t3 i (by omega)
      rw [← hu1, w2_cell _ _ (by decide), w2_cell _ _ (by decide), w2_cell _ _ (by decide), w2_cell _ _ (by decide)]
      exact this
  · simp only [if_neg hq] at c1
    have c2 := ct_X7_end (I := I) t2 i
    simp only [if_neg hq] at c2
    exact op_mut c1 c2 rfl h
end

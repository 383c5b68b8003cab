/-! images, the text -/
section
theorem SR.copy {I u : Wo} {b o b' o' n : Nat} (hn : n ≤ 8) (s : SR I b o n) (h1 : ∀ i, 1 ≤ i → i ≤ 6 → ∀ k, k < 8 → u (b' + i) k = I (b + i) k) (h2 : ∀ i, 7 ≤ i → i ≤ 8 → ∀ k, k < 6 → u (b' + i) k = I (b + i) k) (h3 : ∀ k, 8 ≤ k → k ≤ 14 → u b' k = I b k) (h4 : ∀ i, i < 47 → u 58 (o' + i) = I 58 (o + i)) : SR u b' o' n := by
  obtain ⟨s1, s2, s3, s4, s5, s6, s7, ⟨q, p1, p2, p3, p4⟩, ⟨q', r1, r2, r3, r4⟩⟩ := s
  refine ⟨?_, fun c hc => ?_, fun c hc => ?_, fun c hc => ?_, ?_, ?_, ?_, ⟨q, p1, ?_, ?_, fun i hi => ?_⟩, ⟨q', r1, ?_, ?_, fun i hi => ?_⟩⟩
  · rw [h3 9 (by omega) (by omega)]; exact s1
  · rw [h4 c (by omega), h1 5 (by omega) (by omega) c (by omega)]; exact s2 c hc
  · rw [h4 (8 + c) (by omega), h1 6 (by omega) (by omega) c (by omega)]; exact s3 c hc
  · rw [h4 (16 + c) (by omega), h1 4 (by omega) (by omega) c (by omega)]; exact s4 c hc
  · rw [h4 24 (by omega), h3 12 (by omega) (by omega)]; exact s5
  · rw [h4 25 (by omega), h3 10 (by omega) (by omega)]; exact s6
  · rw [h4 26 (by omega), h3 11 (by omega) (by omega)]; exact s7
  · rw [h3 13 (by omega) (by omega)]; exact p2
  · rw [h4 27 (by omega)]; exact p3
  · rw [h4 (28 + i) (by omega), h2 7 (by omega) (by omega) i (by omega)]; exact p4 i hi
  · rw [h3 14 (by omega) (by omega)]; exact r2
  · rw [h4 34 (by omega)]; exact r3
  · rw [h4 (35 + 2 * i) (by omega), h4 (36 + 2 * i) (by omega), h2 8 (by omega) (by omega) i (by omega), h3 8 (by omega) (by omega)]; exact r4 i hi
theorem TR.copy {I u : Wo} {b b' n : Nat} (hn : n ≤ 8) (s : TR I b n) (h1 : ∀ i, 1 ≤ i → i ≤ 6 → ∀ k, k < 8 → u (b' + i) k = I (b + i) k) (h2 : ∀ a j, 60 ≤ a → a ≤ 62 → u a j = I a j) : TR u b' n := by
  intro c hc
  rw [h2 60 _ (by omega) (by omega), h2 61 _ (by omega) (by omega), h2 62 _ (by omega) (by omega), h1 1 (by omega) (by omega) c (by omega), h1 2 (by omega) (by omega) c (by omega), h1 3 (by omega) (by omega) c (by omega)]
  exact s c hc
theorem op_keep {I : Wo} (h : Inv I) (k : Int32) : OpI yX6_keep cX6_keep 3 2 61 yX7_keep cX7_keep 3 1 25 [.int k] I := by
  obtain ⟨n, hI⟩ := id h
  have c1 := ct_X6_keep (fun k hk => (hI.k01 k hk).1) k
  by_cases hw : wi k 0 1 = true
  · obtain ⟨j, hj, rfl⟩ := (wi_iff (m := 1) (by decide)).mp hw
    refine ⟨I 38 j, fun u => ∃ u0, BecR I u0 (20 + 9 * j) 1 ∧ u = w2 u0 38 j 1, c1.monoI ?_, ?_⟩
    · rintro r u (⟨e, -⟩ | ⟨j', b1, b2, b3, b4⟩)
      · rw [hw] at e; cases e
      · have ej : j' = j := (nI_eq (by omega) (by omega)).mp b2.symm
        subst ej
        exact ⟨b3, b4⟩
    · rintro u ⟨u0, ⟨B1, B2, B3, B4⟩, hu⟩
      have hf : ∀ a y, (a < 20 + 9 * j ∨ 20 + 9 * j + 8 < a) → ¬ (a = 38 ∧ y = j) → u a y = I a y := by
        intro a y h1 h2
        rw [hu, w2_get, if_neg h2]
        exact B4 a y h1
      have k01 : ∀ i, i < 2 → u 59 i = I 38 i := fun i hi => by rw [hf 59 i (by omega) (by omega)]; exact (hI.k01 i hi).2
      refine (ct_X7_keep (I := u) (fun i hi => by rw [k01 i hi]; exact (hI.k01 i hi).1) (nI j)).monoI ?_
      rintro r u' (⟨e, -⟩ | ⟨j', b1, b2, b3, b4, b5, b6⟩)
      · rw [hw] at e; cases e
      · have ej : j' = j := (nI_eq (by omega) (by omega)).mp b2.symm
        subst ej
        refine ⟨b3.trans (k01 _ b1), n, ?_⟩
        have hg : ∀ a y, (a < 20 + 9 * j' ∨ 20 + 9 * j' + 8 < a) → ¬ (a = 38 ∧ y = j') → ¬ (a = 58 ∧ 47 * (j' + 1) ≤ y ∧ y < 47 * (j' + 1) + 47) → ¬ (a = 59 ∧ y = j') → u' a y = I a y := fun a y h1 h2 h3 h4 => by
          rw [b6 a y h3 h4]; exact hf a y h1 h2
        have hrow : ∀ i, 1 ≤ i → i ≤ 6 → ∀ y, y < 8 → u' (20 + 9 * j' + i) y = I (1 + i) y := fun i h1 h2 y h3 => by
          rw [b6 _ _ (by omega) (by omega), hu, w2_cell _ _ (by omega)]; exact B1 i h1 h2 y h3
        obtain ⟨s1, s2, s3, s4, s5, s6, s7, s8, s9⟩ := id hI
        refine ⟨s1, ?_, s3.frame s1 ⟨fun a y h1 h2 => hg a y (by omega) (by omega) (by omega) (by omega), fun y h1 h2 => hg 58 y (by omega) (by omega) (by omega) (by omega)⟩, s4.frame (fun a y h1 h2 => hg a y (by omega) (by omega) (by omega) (by omega)) (fun a y h1 h2 => hg a y (by omega) (by omega) (by omega) (by omega)), fun i hi => ?_, s6.frame (hg _ _ (by omega) (by omega) (by omega) (by omega)) (hg _ _ (by omega) (by omega) (by omega) (by omega)) (fun y => hg _ _ (by omega) (by omega) (by omega) (by omega)) (fun y => hg _ _ (by omega) (by omega) (by omega) (by omega)), ?_, ?_, fun i hi => (s9 i hi).frame hi (fun a y h1 h2 => hg a y (by omega) (by omega) (by omega) (by omega)) (fun a y h1 h2 => hg a y (by omega) (by omega) (by omega) (by omega))⟩
        · rw [hg _ _ (by omega) (by omega) (by omega) (by omega)]; exact s2
        · by_cases e : i = j'
          · subst e
            have e38 : u' 38 i = 1 := by rw [b6 _ _ (by omega) (by omega), hu, w2_same]
            refine ⟨by rw [b4, e38], Or.inr ⟨e38, ?_, ?_⟩⟩
            · refine SR.copy s1 s3 hrow (fun i2 h1 h2 y h3 => ?_) (fun y h1 h2 => ?_) (fun y h1 => ?_)
              · rw [b6 _ _ (by omega) (by omega), hu, w2_cell _ _ (by omega)]; exact B2 i2 h1 h2 y h3
              · rw [b6 _ _ (by omega) (by omega), hu, w2_cell _ _ (by omega)]; exact B3 y h1 h2
              · rw [b5 y h1, hf 58 y (by omega) (by omega), Nat.zero_add]
            · exact TR.copy s1 s4 hrow (fun a y h1 h2 => hg a y (by omega) (by omega) (by omega) (by omega))
          · exact (s5 i hi).frame s1 hi (hg _ _ (by omega) (by omega) (by omega) (by omega)) (hg _ _ (by omega) (by omega) (by omega) (by omega)) ⟨fun a y h1 h2 => hg a y (by omega) (by omega) (by omega) (by omega), fun y h1 h2 => hg 58 y (by omega) (by omega) (by omega) (by omega)⟩ (fun a y h1 h2 => hg a y (by omega) (by omega) (by omega) (by omega))
        · rw [hg 57 _ (by omega) (by omega) (by omega) (by omega), hg 0 _ (by omega) (by omega) (by omega) (by omega)]; exact s7
        · rw [hg 57 _ (by omega) (by omega) (by omega) (by omega), hg 0 _ (by omega) (by omega) (by omega) (by omega)]; exact s8
  · refine ⟨-1, fun u => I = u, c1.monoI ?_, ?_⟩
    · rintro r u (⟨e, e2, e3⟩ | ⟨j, hj, rfl, -⟩)
      · exact ⟨e2, e3⟩
      · exact absurd ((wi_iff (m := 1) (by decide)).mpr ⟨j, by omega, rfl⟩) hw
    · rintro u rfl
      refine (ct_X7_keep (fun k hk => by rw [(hI.k01 k hk).2]; exact (hI.k01 k hk).1) k).monoI ?_
      rintro r u (⟨e, e2, e3⟩ | ⟨j, hj, rfl, -⟩)
      · exact ⟨e2, e3 ▸ h⟩
      · exact absurd ((wi_iff (m := 1) (by decide)).mpr ⟨j, by omega, rfl⟩) hw
theorem op_back {I : Wo} (h : Inv I) (k : Int32) : OpI yX6_back cX6_back 2 2 61 yX7_back cX7_back 2 1 25 [.int k] I := by
  obtain ⟨n, hI⟩ := id h
  have c1 := ct_X6_back (fun k hk => (hI.k01 k hk).1) k
  by_cases hw : wi k 0 1 = true
  · obtain ⟨j, hj, rfl⟩ := (wi_iff (m := 1) (by decide)).mp hw
    obtain ⟨i1, i2⟩ := hI.2.2.2.2.1 j (by omega)
    rcases i2 with i2 | ⟨i2, iS, iT⟩
    · refine ⟨-2, fun u => I = u, c1.monoI ?_, ?_⟩
      · rintro r u (⟨e, -⟩ | ⟨j', b1, b2, ⟨b3, b4, b5⟩ | ⟨b3, -⟩⟩)
        · rw [hw] at e; cases e
        · exact ⟨b4, b5⟩
        · have ej : j' = j := (nI_eq (by omega) (by omega)).mp b2.symm
          subst ej
          exact absurd i2 b3
      · rintro u rfl
        refine (ct_X7_back (nI j)).monoI ?_
        rintro r u (⟨e, -⟩ | ⟨j', b1, b2, ⟨b3, b4, b5⟩ | ⟨b3, -⟩⟩)
        · rw [hw] at e; cases e
        · exact ⟨b4, b5 ▸ h⟩
        · have ej : j' = j := (nI_eq (by omega) (by omega)).mp b2.symm
          subst ej
          exact absurd (i1.trans i2) b3
    · have i0 : ¬ I 38 j = 0 := by rw [i2]; decide
      refine ⟨I (20 + 9 * j) 11, fun u => BecR I u 1 (20 + 9 * j), c1.monoI ?_, ?_⟩
      · rintro r u (⟨e, -⟩ | ⟨j', b1, b2, ⟨b3, -⟩ | ⟨b3, b4, b5⟩⟩)
        · rw [hw] at e; cases e
        · have ej : j' = j := (nI_eq (by omega) (by omega)).mp b2.symm
          subst ej
          exact absurd b3 i0
        · have ej : j' = j := (nI_eq (by omega) (by omega)).mp b2.symm
          subst ej
          exact ⟨b4, b5⟩
      · rintro u ⟨B1, B2, B3, B4⟩
        refine (ct_X7_back (I := u) (nI j)).monoI ?_
        rintro r u' (⟨e, -⟩ | ⟨j', b1, b2, ⟨b3, -⟩ | ⟨b3, b4, b5, b6⟩⟩)
        · rw [hw] at e; cases e
        · have ej : j' = j := (nI_eq (by omega) (by omega)).mp b2.symm
          subst ej
          rw [B4 59 _ (by omega), i1] at b3
          exact absurd b3 i0
        · have ej : j' = j := (nI_eq (by omega) (by omega)).mp b2.symm
          subst ej
          refine ⟨?_, n, ?_⟩
          · rw [b4, B4 58 _ (by omega)]; exact iS.2.2.2.2.2.2.1.1
          · have hg : ∀ a y, ¬ (1 ≤ a ∧ a ≤ 9) → ¬ (a = 58 ∧ y < 47) → u' a y = I a y := fun a y h1 h2 => by
              rw [b6 a y h2]; exact B4 a y (by omega)
            have hrow : ∀ i, 1 ≤ i → i ≤ 6 → ∀ y, y < 8 → u' (1 + i) y = I (20 + 9 * j' + i) y := fun i h1 h2 y h3 => by
              rw [b6 _ _ (by omega)]; exact B1 i h1 h2 y h3
            obtain ⟨s1, s2, s3, s4, s5, s6, s7, s8, s9⟩ := id hI
            refine ⟨s1, ?_, ?_, ?_, fun i hi => (s5 i hi).frame s1 hi (hg _ _ (by omega) (by omega)) (hg _ _ (by omega) (by omega)) ⟨fun a y h1 h2 => hg a y (by omega) (by omega), fun y h1 h2 => hg 58 y (by omega) (by omega)⟩ (fun a y h1 h2 => hg a y (by omega) (by omega)), s6.frame (hg _ _ (by omega) (by omega)) (hg _ _ (by omega) (by omega)) (fun y => hg _ _ (by omega) (by omega)) (fun y => hg _ _ (by omega) (by omega)), ?_, ?_, fun i hi => (s9 i hi).frame hi (fun a y h1 h2 => hg a y (by omega) (by omega)) (fun a y h1 h2 => hg a y (by omega) (by omega))⟩
            · rw [hg _ _ (by omega) (by omega)]; exact s2
            · refine SR.copy s1 iS hrow (fun i2 h1 h2 y h3 => ?_) (fun y h1 h2 => ?_) (fun y h1 => ?_)
              · rw [b6 _ _ (by omega)]; exact B2 i2 h1 h2 y h3
              · rw [b6 _ _ (by omega)]; exact B3 y h1 h2
              · rw [Nat.zero_add, b5 y h1, B4 58 _ (by omega)]
            · exact TR.copy s1 iT hrow (fun a y h1 h2 => hg a y (by omega) (by omega))
            · rw [hg 57 _ (by omega) (by omega), hg 0 _ (by omega) (by omega)]; exact s7
            · rw [hg 57 _ (by omega) (by omega), hg 0 _ (by omega) (by omega)]; exact s8
  · refine ⟨-1, fun u => I = u, c1.monoI ?_, ?_⟩
    · rintro r u (⟨e, e2, e3⟩ | ⟨j, hj, rfl, -⟩)
      · exact ⟨e2, e3⟩
      · exact absurd ((wi_iff (m := 1) (by decide)).mpr ⟨j, by omega, rfl⟩) hw
    · rintro u rfl
      refine (ct_X7_back k).monoI ?_
      rintro r u (⟨e, e2, e3⟩ | ⟨j, hj, rfl, -⟩)
      · exact ⟨e2, e3 ▸ h⟩
      · exact absurd ((wi_iff (m := 1) (by decide)).mpr ⟨j, by omega, rfl⟩) hw
theorem clD_ne {n : Nat} {D : Wo} {a j : Nat} (h : ¬ (a = 10 ∧ j = 10)) : clD n D a j = D a j := by
  unfold clD
  split
  · rw [w2_get, if_neg h]
  · rfl
theorem op_text {I : Wo} (h : Inv I) : OpI yX6_text cX6_text 3 11 241 yX7_text cX7_text 2 6 136 [] I := by
  obtain ⟨n, hI⟩ := id h
  obtain ⟨q, q160, t1, t2, t3⟩ := hI.2.2.2.2.2.1
  have hT : TB I (fun i => (I 40 i).toNatClampNeg) q := by
    refine ⟨fun i hi => ?_, t1, q160⟩
    obtain ⟨b, hb, e⟩ := (t3 i hi).2
    show I 40 i = nI (I 40 i).toNatClampNeg ∧ (I 40 i).toNatClampNeg < 128
    rw [e, nI_clamp (by omega)]
    exact ⟨rfl, hb⟩
  have c1 := ct_X6_text hT
  have hM : ∀ u : Wo, (∀ i, u 67 i = I 67 i) → u 57 14 = I 57 14 → MB u (fun i => (I 40 i).toNatClampNeg) q := by
    intro u h1 h2
    refine ⟨fun i hi => ?_, by rw [h2]; exact t2, q160⟩
    rw [h1, (t3 i hi).1]
    exact hT.1 i hi
  generalize (fun i => (I 40 i).toNatClampNeg) = b at c1 hM
  cases hx : txR b q (dr0 I) with
  | error e =>
    rw [hx] at c1
    refine ⟨(-10) - nI e.2, fun u => u 0 10 = nI e.1 ∧ u 39 1 = 0 ∧ (∀ x y, x ≠ 39 → (x < 10 ∨ 18 < x) → ¬ (x = 0 ∧ y = 10) → u x y = I x y), c1.monoI (fun r u q => q), ?_⟩
    rintro u ⟨u1, u2, u3⟩
    have c2 := ct_X7_text (I := u) (J := I) (hM u (fun i => u3 _ _ (by omega) (by omega) (by omega)) (u3 _ _ (by omega) (by omega) (by omega)))
    rw [hx] at c2
    refine c2.monoI ?_
    rintro r u' ⟨v1, v2, v3, v4⟩
    refine ⟨v1, n, ?_⟩
    have hg : ∀ x y, ¬ (x = 57 ∧ (y = 7 ∨ y = 11 ∨ y = 12 ∨ y = 14 ∨ (15 ≤ y ∧ y ≤ 20))) → (x < 63 ∨ 66 < x) → x ≠ 39 → (x < 10 ∨ 18 < x) → ¬ (x = 0 ∧ y = 10) → u' x y = I x y := by
      intro x y h1 h2 h3 h4 h5
      rw [v4 x y (fun e => by omega) h2]
      exact u3 x y h3 h4 h5
    obtain ⟨s1, s2, s3, s4, s5, s6, s7, s8, s9⟩ := id hI
    refine ⟨s1, ?_, s3.frame s1 ⟨fun a y h1 h2 => hg a y (by omega) (by omega) (by omega) (by omega) (by omega), fun y h1 h2 => hg 58 y (by omega) (by omega) (by omega) (by omega) (by omega)⟩, s4.frame (fun a y h1 h2 => hg a y (by omega) (by omega) (by omega) (by omega) (by omega)) (fun a y h1 h2 => hg a y (by omega) (by omega) (by omega) (by omega) (by omega)), fun i hi => (s5 i hi).frame s1 hi (hg _ _ (by omega) (by omega) (by omega) (by omega) (by omega)) (hg _ _ (by omega) (by omega) (by omega) (by omega) (by omega)) ⟨fun a y h1 h2 => hg a y (by omega) (by omega) (by omega) (by omega) (by omega), fun y h1 h2 => hg 58 y (by omega) (by omega) (by omega) (by omega) (by omega)⟩ (fun a y h1 h2 => hg a y (by omega) (by omega) (by omega) (by omega) (by omega)), ⟨0, by decide, ?_, v3, fun i hi => absurd hi (Nat.not_lt_zero i)⟩, ?_, ?_, fun i hi => (s9 i hi).frame hi (fun a y h1 h2 => hg a y (by omega) (by omega) (by omega) (by omega) (by omega)) (fun a y h1 h2 => hg a y (by omega) (by omega) (by omega) (by omega) (by omega))⟩
    · rw [hg _ _ (by omega) (by omega) (by omega) (by omega) (by omega)]; exact s2
    · rw [v4 39 1 (fun e => by omega) (by omega)]; exact u2
    · rw [v2, v4 0 10 (fun e => by omega) (by omega)]; exact u1.symm
    · rw [hg 57 _ (by omega) (by omega) (by omega) (by omega) (by omega), hg 0 _ (by omega) (by omega) (by omega) (by omega) (by omega)]; exact s8
  | ok x =>
    rw [hx] at c1
    refine ⟨nI x.1, fun u => u 0 10 = 0 ∧ u 39 1 = 0 ∧ ((∀ i, 1 ≤ i → i ≤ 6 → ∀ k, k < 8 → u (1 + i) k = x.2 (10 + i) k) ∧ (∀ i, 7 ≤ i → i ≤ 8 → ∀ k, k < 6 → u (1 + i) k = x.2 (10 + i) k) ∧ (∀ k, 8 ≤ k → k ≤ 14 → u 1 k = x.2 10 k)) ∧ (∀ j, j < 2 → u 38 j = 0) ∧ (∀ x y, x ≠ 39 → (x = 0 ∨ 18 < x) → x ≠ 38 → ¬ (x = 0 ∧ y = 10) → u x y = I x y), c1.monoI (fun r u q => q), ?_⟩
    rintro u ⟨u1, u2, ⟨R1, R2, R3⟩, u3, u4⟩
    have c2 := ct_X7_text (I := u) (J := I) (hM u (fun i => u4 _ _ (by omega) (by omega) (by omega) (by omega)) (u4 _ _ (by omega) (by omega) (by omega) (by omega)))
    rw [hx] at c2
    refine c2.monoI ?_
    rintro r u' ⟨v1, v2, v3, ⟨D, n2, m, e, dI, dO, ⟨K1, K2, K3, K4, K5, K6, K7, K8, K9, K10⟩⟩, v4⟩
    refine ⟨v1, n2, ?_⟩
    have n8 := dI.n8
    have m6 := dI.m6
    have hg : ∀ x y, ¬ (x = 58 ∧ y < 47) → ¬ (x = 59 ∧ y < 2) → ¬ (60 ≤ x ∧ x ≤ 62) → ¬ (x = 57 ∧ (y = 2 ∨ y = 7 ∨ y = 11 ∨ y = 12 ∨ y = 14 ∨ (15 ≤ y ∧ y ≤ 20))) → (x < 63 ∨ 66 < x) → u' x y = u x y := by
      intro x y h1 h2 h3 h4 h5
      exact v4 x y h1 h2 h3 (fun e => by omega) h5
    have r1 : ∀ i, 1 ≤ i → i ≤ 6 → ∀ k, k < 8 → u' (1 + i) k = D (10 + i) k := fun i h1 h2 k hk => by
      rw [hg _ _ (by omega) (by omega) (by omega) (by omega) (by omega), R1 i h1 h2 k hk, e, clD_ne (by omega)]
    have r2 : ∀ k, k < 6 → u' 8 k = D 17 k := fun k hk => by
      rw [hg _ _ (by omega) (by omega) (by omega) (by omega) (by omega), R2 7 (by omega) (by omega) k hk, e, clD_ne (by omega)]
    have r3 : ∀ k, 8 ≤ k → k ≤ 14 → k ≠ 10 → u' 1 k = D 10 k := fun k h1 h2 h3 => by
      rw [hg _ _ (by omega) (by omega) (by omega) (by omega) (by omega), R3 k h1 h2, e, clD_ne (by omega)]
    have r4 : u' 1 10 = clD n2 D 10 10 := by
      rw [hg _ _ (by omega) (by omega) (by omega) (by omega) (by omega), R3 10 (by omega) (by omega), e]
    obtain ⟨o1, o2, o3⟩ := okD_iff.mp dO
    have hg2 : ∀ x y, ¬ (x = 58 ∧ y < 47) → ¬ (x = 59 ∧ y < 2) → ¬ (60 ≤ x ∧ x ≤ 62) → ¬ (x = 57 ∧ (y = 2 ∨ y = 7 ∨ y = 11 ∨ y = 12 ∨ y = 14 ∨ (15 ≤ y ∧ y ≤ 20))) → (x < 63 ∨ 66 < x) → x ≠ 39 → (x = 0 ∨ 18 < x) → x ≠ 38 → ¬ (x = 0 ∧ y = 10) → u' x y = I x y := by
      intro x y h1 h2 h3 h4 h5 h6 h7 h8 h9
      rw [hg x y h1 h2 h3 h4 h5]
      exact u4 x y h6 h7 h8 h9
    obtain ⟨s1, s2, s3, s4, s5, s6, s7, s8, s9⟩ := id hI
    refine ⟨n8, K1, SR_1.mpr ⟨?_, fun c hc => ?_, fun c hc => ?_, fun c hc => ?_, ⟨?_, ?_⟩, ⟨?_, ?_⟩, ⟨?_, ?_⟩, ⟨m, m6, ?_, K6, fun i hi => ?_⟩, ⟨0, by decide, ?_, K8, fun i hi => absurd hi (Nat.not_lt_zero i)⟩⟩, TR_1.mpr (fun c hc => ?_), fun i hi => ⟨?_, Or.inl ?_⟩, ⟨0, by decide, ?_, v3, fun i hi => absurd hi (Nat.not_lt_zero i)⟩, ?_, ?_, fun i hi => (s9 i hi).frame hi (fun a y h1 h2 => hg2 a y (by omega) (by omega) (by omega) (by omega) (by omega) (by omega) (by omega) (by omega) (by omega)) (fun a y h1 h2 => hg2 a y (by omega) (by omega) (by omega) (by omega) (by omega) (by omega) (by omega) (by omega) (by omega))⟩
    · rw [r3 9 (by omega) (by omega) (by omega)]; exact dI.hn
    · rw [(K2 c hc).2.2.2.1, show u' 6 c = D 15 c from r1 5 (by omega) (by omega) c (by omega)]; exact ⟨rfl, (dI.cl c hc).2⟩
    · rw [(K2 c hc).2.2.2.2.1, show u' 7 c = D 16 c from r1 6 (by omega) (by omega) c (by omega)]
    · rw [(K2 c hc).2.2.2.2.2, show u' 5 c = D 14 c from r1 4 (by omega) (by omega) c (by omega)]
    · rw [K3, r3 12 (by omega) (by omega) (by omega)]
    · rw [r3 12 (by omega) (by omega) (by omega)]
      obtain ⟨j, hj, ej⟩ := (cOK_iff (by have := pow8 n8; omega)).mp o1
      exact ⟨j, hj, ej⟩
    · rw [K4, r4]
    · rw [r4]
      by_cases e8 : D 39 8 = 0
      · rw [clD, if_pos e8, w2_same]
        by_cases e0 : n2 = 0
        · exact Or.inl ⟨e0, if_pos e0⟩
        · refine Or.inr ⟨n2 - 1, by omega, ?_⟩
          rw [if_neg e0]
          obtain ⟨n3, rfl⟩ : ∃ n3, n2 = n3 + 1 := ⟨n2 - 1, by omega⟩
          exact nI_pred n3
      · rw [clD, if_neg e8]
        obtain ⟨j, hj, ej⟩ := (cOK_iff (by omega)).mp (o2.resolve_left e8)
        exact Or.inr ⟨j, hj, ej⟩
    · rw [K5, r3 11 (by omega) (by omega) (by omega)]
    · rw [r3 11 (by omega) (by omega) (by omega)]; exact dI.dy
    · rw [r3 13 (by omega) (by omega) (by omega)]; exact dI.hm
    · rw [K7 i hi, r2 i (by omega)]
      obtain ⟨j, hj, ej⟩ := (cOK_iff (by omega)).mp (o3 i hi)
      exact ⟨rfl, j, hj, ej⟩
    · rw [r3 14 (by omega) (by omega) (by omega)]; exact dI.se
    · rw [(K2 c hc).1, (K2 c hc).2.1, (K2 c hc).2.2.1, show u' 2 c = D 11 c from r1 1 (by omega) (by omega) c (by omega), show u' 3 c = D 12 c from r1 2 (by omega) (by omega) c (by omega), show u' 4 c = D 13 c from r1 3 (by omega) (by omega) c (by omega)]
      exact ⟨rfl, rfl, rfl, (dI.cl c hc).1⟩
    · rw [hg 38 i (by omega) (by omega) (by omega) (by omega) (by omega), u3 i hi]
      rcases (show i = 0 ∨ i = 1 by omega) with rfl | rfl
      · exact K9
      · exact K10
    · rw [hg 38 i (by omega) (by omega) (by omega) (by omega) (by omega), u3 i hi]
    · rw [hg 39 1 (by omega) (by omega) (by omega) (by omega) (by omega)]; exact u2
    · rw [v2, hg 0 10 (by omega) (by omega) (by omega) (by omega) (by omega)]; exact u1.symm
    · rw [hg2 57 28 (by omega) (by omega) (by omega) (by omega) (by omega) (by omega) (by omega) (by omega) (by omega), hg2 0 11 (by omega) (by omega) (by omega) (by omega) (by omega) (by omega) (by omega) (by omega) (by omega)]; exact s8
end

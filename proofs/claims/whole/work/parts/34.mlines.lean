theorem kd_end {I W V : Wo} {n : Nat} (hk : ∀ k, k < 47 → W 58 k = I 63 k) (hW : ∀ x y, ¬ (x = 58 ∧ y < 47) → W x y = I x y) (hv : ∀ c, c < n → V 60 c = I 64 c ∧ V 61 c = I 65 c ∧ V 62 c = I 66 c) (hV : ∀ x y, ¬ (60 ≤ x ∧ x ≤ 62) → V x y = w2 W 57 2 (nI n) x y) :
    (∀ k, k < 47 → k ≠ 25 → w2 (w2 (w2 V 58 25 (if I 63 25 = -4 ∧ 0 < n then nI n - 1 else I 63 25)) 59 0 (vp_nar .boolean 0)) 59 1 (vp_nar .boolean 0) 58 k = I 63 k) ∧ w2 (w2 (w2 V 58 25 (if I 63 25 = -4 ∧ 0 < n then nI n - 1 else I 63 25)) 59 0 (vp_nar .boolean 0)) 59 1 (vp_nar .boolean 0) 58 25 = (if I 63 25 = -4 ∧ 0 < n then nI n - 1 else I 63 25) ∧ w2 (w2 (w2 V 58 25 (if I 63 25 = -4 ∧ 0 < n then nI n - 1 else I 63 25)) 59 0 (vp_nar .boolean 0)) 59 1 (vp_nar .boolean 0) 57 2 = nI n ∧ (∀ c, c < n → w2 (w2 (w2 V 58 25 (if I 63 25 = -4 ∧ 0 < n then nI n - 1 else I 63 25)) 59 0 (vp_nar .boolean 0)) 59 1 (vp_nar .boolean 0) 60 c = I 64 c ∧ w2 (w2 (w2 V 58 25 (if I 63 25 = -4 ∧ 0 < n then nI n - 1 else I 63 25)) 59 0 (vp_nar .boolean 0)) 59 1 (vp_nar .boolean 0) 61 c = I 65 c ∧ w2 (w2 (w2 V 58 25 (if I 63 25 = -4 ∧ 0 < n then nI n - 1 else I 63 25)) 59 0 (vp_nar .boolean 0)) 59 1 (vp_nar .boolean 0) 62 c = I 66 c) ∧ w2 (w2 (w2 V 58 25 (if I 63 25 = -4 ∧ 0 < n then nI n - 1 else I 63 25)) 59 0 (vp_nar .boolean 0)) 59 1 (vp_nar .boolean 0) 59 0 = 0 ∧ w2 (w2 (w2 V 58 25 (if I 63 25 = -4 ∧ 0 < n then nI n - 1 else I 63 25)) 59 0 (vp_nar .boolean 0)) 59 1 (vp_nar .boolean 0) 59 1 = 0 ∧
    (∀ x y, ¬ (x = 58 ∧ y < 47) → ¬ (x = 59 ∧ y < 2) → ¬ (60 ≤ x ∧ x ≤ 62) → ¬ (x = 57 ∧ y = 2) → w2 (w2 (w2 V 58 25 (if I 63 25 = -4 ∧ 0 < n then nI n - 1 else I 63 25)) 59 0 (vp_nar .boolean 0)) 59 1 (vp_nar .boolean 0) x y = I x y) := by
  refine ⟨fun k h1 h2 => ?_, rfl, ?_, fun c hc => ?_, rfl, rfl, fun x y h1 h2 h3 h4 => ?_⟩
  · rw [w2_cell _ _ (by decide), w2_cell _ _ (by decide), w2_slot _ _ h2, hV 58 k (by decide), w2_cell _ _ (by decide)]; exact hk k h1
  · rw [w2_cell _ _ (by decide), w2_cell _ _ (by decide), w2_cell _ _ (by decide), hV 57 2 (by decide), w2_same]
  · exact hv c hc
  · rw [show w2 (w2 (w2 V 58 25 (if I 63 25 = -4 ∧ 0 < n then nI n - 1 else I 63 25)) 59 0 (vp_nar .boolean 0)) 59 1 (vp_nar .boolean 0) x y = V x y by
      have z1 : ¬ (x = 58 ∧ y = 25) := fun z => h1 ⟨z.1, by omega⟩
      have z2 : ¬ (x = 59 ∧ y = 0) := fun z => h2 ⟨z.1, by omega⟩
      have z3 : ¬ (x = 59 ∧ y = 1) := fun z => h2 ⟨z.1, by omega⟩
      rw [w2_get, if_neg z3, w2_get, if_neg z2, w2_get, if_neg z1], hV x y h3, show w2 W 57 2 (nI n) x y = W x y from if_neg h4]
    exact hW x y h1
def k3 (b : Nat → Nat) (q p : Nat) (D : Wo) : Except (Nat × Nat) (Nat × Wo) := match rdN b q p 0 7 with
  | .error e => .error e
  | .ok v => .ok (tE b q p, w2 (w2 D 10 10 (nI v)) 39 8 1)
def k4 (b : Nat → Nat) (q p : Nat) (D : Wo) : Except (Nat × Nat) (Nat × Wo) := match rdN b q p 0 9 with
  | .error e => .error e
  | .ok v => .ok (tE b q p, w2 (w2 D 10 11 (nI v)) 39 9 1)
def k5 (b : Nat → Nat) (q m p : Nat) (D : Wo) : Except (Nat × Nat) (Nat × Wo) := match rdN b q p 0 7 with
  | .error e => .error e
  | .ok v => .ok (tE b q p, w2 (w2 D 17 m (nI v)) 10 13 (nI (m + 1)))
theorem bCl_bW {b : Nat → Nat} {q n s p : Nat} {sd : Int32} {D : Wo} (h : ¬ 8 ≤ n) : bCl b q sd n s p D = bW b q sd n p D := by rw [bCl, if_neg h]; rfl
theorem bEn_k3 {b : Nat → Nat} {q s p : Nat} {D : Wo} (h : D 39 8 = 0) : bEn b q s p D = k3 b q p D := by rw [bEn, if_neg (fun z => z h)]; rfl
theorem bDy_k4 {b : Nat → Nat} {q s p : Nat} {D : Wo} (h : D 39 9 = 0) : bDy b q s p D = k4 b q p D := by rw [bDy, if_neg (fun z => z h)]; rfl
theorem bPl_k5 {b : Nat → Nat} {q m s p : Nat} {D : Wo} (h : ¬ 6 ≤ m) : bPl b q m s p D = k5 b q m p D := by rw [bPl, if_neg h]; rfl
theorem mx_lt {a : Int32} {v k : Nat} (hv : v < 2 ^ 31) (hk : k ≤ 8) : (if a < nI v then nI v else a) < nI k ↔ (a < nI k ∧ cOK k (nI v) = true) := by
  have hc : cOK k (nI v) = true ↔ v < k := by
    rw [cOK_iff (by omega)]
    constructor
    · rintro ⟨j, hj, e⟩; rw [nI_eq hv (by omega)] at e; omega
    · intro h; exact ⟨v, h, rfl⟩
  rw [hc]
  have hvk : nI v < nI k ↔ v < k := nI_ltI hv (by omega)
  rw [← hvk]
  rw [fa_lt9 a (nI k), fa_lt9 (nI v) (nI k)]
  split
  · next h => rw [fa_lt9] at h; rw [fa_lt9]; omega
  · next h => rw [fa_lt9] at h; rw [fa_lt9]; omega
theorem md_3 {I u D : Wo} {n m v : Nat} (h : MDn I D n m) (hn8 : n ≤ 8) (h8 : D 39 8 = 0) (hF : FrH I u) (h12 : u 57 12 = (if I 57 12 < nI v then nI v else I 57 12)) (v99 : v ≤ 99) (hv : v ≤ 7) : MDn (w2 u 63 25 (nI v)) (w2 (w2 D 10 10 (nI v)) 39 8 1) n m := by
  have hc : ∀ x y, x ≠ 57 → u x y = I x y := fun x y a => hF x y (fun e => absurd e a)
  refine ⟨h.d9, h.d13, h.bn, h.bm, (hF 57 7 (fun _ => by decide)).trans h.c7, fun c hcn => ?_, (hc 63 24 (by decide)).trans h.sa, rfl, (hc 63 26 (by decide)).trans h.dy, (hc 63 27 (by decide)).trans h.pm, fun i hi => ?_, (hc 63 34 (by decide)).trans h.se, fun k hk => ?_⟩
  · obtain ⟨b1, b2, b3, b4, b5, b6⟩ := h.cl c hcn
    have h25 : c < 8 ∨ 8 ≤ c := by omega
    exact ⟨(hc 64 c (by decide)).trans b1, (hc 65 c (by decide)).trans b2, (hc 66 c (by decide)).trans b3, (if_neg (fun z => by omega)).trans ((hc 63 _ (by decide)).trans b4), (if_neg (fun z => by omega)).trans ((hc 63 _ (by decide)).trans b5), (if_neg (fun z => by omega)).trans ((hc 63 _ (by decide)).trans b6)⟩
  · rw [w2_slot _ _ (by omega), hc 63 _ (by decide)]; exact h.pl i hi
  · show u 57 12 < nI k ↔ _
    rw [h12, mx_lt (by omega) hk, h.hi k hk]
    constructor
    · rintro ⟨⟨a1, a2, a3⟩, a4⟩; exact ⟨a1, Or.inr a4, a3⟩
    · rintro ⟨a1, a2, a3⟩; exact ⟨⟨a1, Or.inl h8, a3⟩, a2.resolve_left (by intro z; exact absurd z (show ¬ (1 : Int32) = 0 by decide))⟩
theorem md_4 {u D : Wo} {n m v : Nat} (h : MDn u D n m) (hn8 : n ≤ 8) : MDn (w2 u 63 26 (nI v)) (w2 (w2 D 10 11 (nI v)) 39 9 1) n m := by
  refine ⟨h.d9, h.d13, h.bn, h.bm, h.c7, fun c hcn => ?_, h.sa, h.en, rfl, h.pm, fun i hi => ?_, h.se, h.hi⟩
  · obtain ⟨b1, b2, b3, b4, b5, b6⟩ := h.cl c hcn
    exact ⟨b1, b2, b3, (if_neg (fun z => by omega)).trans b4, (if_neg (fun z => by omega)).trans b5, (if_neg (fun z => by omega)).trans b6⟩
  · rw [w2_slot _ _ (by omega)]; exact h.pl i hi
theorem md_5 {I u D : Wo} {n m v : Nat} (h : MDn I D n m) (hm : m < 6) (hF : FrH I u) (h12 : u 57 12 = (if I 57 12 < nI v then nI v else I 57 12)) (v99 : v ≤ 99) (hv : v ≤ 7) (hn8 : n ≤ 8) : MDn (w2 (w2 u 63 (28 + m) (nI v)) 63 27 (nI (m + 1))) (w2 (w2 D 17 m (nI v)) 10 13 (nI (m + 1))) n (m + 1) := by
  have hc : ∀ x y, x ≠ 57 → u x y = I x y := fun x y a => hF x y (fun e => absurd e a)
  have hw : ∀ y, y ≠ 27 → y ≠ 28 + m → w2 (w2 u 63 (28 + m) (nI v)) 63 27 (nI (m + 1)) 63 y = I 63 y := fun y a1 a2 => by rw [w2_slot _ _ a1, w2_slot _ _ a2, hc 63 y (by decide)]
  refine ⟨h.d9, rfl, h.bn, by omega, (hF 57 7 (fun _ => by decide)).trans h.c7, fun c hcn => ?_, (hw 24 (by omega) (by omega)).trans h.sa, (hw 25 (by omega) (by omega)).trans h.en, (hw 26 (by omega) (by omega)).trans h.dy, rfl, fun i hi => ?_, (hw 34 (by omega) (by omega)).trans h.se, fun k hk => ?_⟩
  · obtain ⟨b1, b2, b3, b4, b5, b6⟩ := h.cl c hcn
    exact ⟨(hc 64 c (by decide)).trans b1, (hc 65 c (by decide)).trans b2, (hc 66 c (by decide)).trans b3, (hw _ (by omega) (by omega)).trans b4, (hw _ (by omega) (by omega)).trans b5, (hw _ (by omega) (by omega)).trans b6⟩
  · by_cases e : i = m
    · subst e
      rw [w2_slot _ _ (by omega), w2_same, w2_cell _ _ (by decide), w2_same]
    · rw [hw _ (by omega) (by omega), w2_cell _ _ (by decide), w2_slot _ _ e]; exact h.pl i (by omega)
  · show u 57 12 < nI k ↔ _
    rw [h12, mx_lt (by omega) hk, h.hi k hk]
    constructor
    · rintro ⟨⟨a1, a2, a3⟩, a4⟩
      refine ⟨a1, a2, fun i hi => ?_⟩
      by_cases e : i = m
      · subst e; rw [w2_cell _ _ (by decide), w2_same]; exact a4
      · rw [w2_cell _ _ (by decide), w2_slot _ _ e]; exact a3 i (by omega)
    · rintro ⟨a1, a2, a3⟩
      refine ⟨⟨a1, a2, fun i hi => ?_⟩, ?_⟩
      · have := a3 i (by omega)
        rw [w2_cell _ _ (by decide), w2_slot _ _ (by omega)] at this; exact this
      · have := a3 m (by omega)
        rw [w2_cell _ _ (by decide), w2_same] at this; exact this
theorem lt_2k {s v k : Nat} : s ||| 2 ^ v < 2 ^ k ↔ (s < 2 ^ k ∧ v < k) := by
  constructor
  · intro h
    have h1 := Nat.left_le_or (n := s) (m := 2 ^ v)
    have h2 := Nat.right_le_or (n := s) (m := 2 ^ v)
    refine ⟨by omega, ?_⟩
    exact (Nat.pow_lt_pow_iff_right (a := 2) (by decide)).mp (by omega)
  · rintro ⟨h1, h2⟩; exact or_2n h1 h2
theorem md_6 {I u D : Wo} {n m v : Nat} (h : MDn I D n m) (hI : DIn D n m) (hF : FrN (w2 I 57 12 (if I 57 12 < nI v then nI v else I 57 12)) u) (hv : v ≤ 7) : MDn (w2 u 63 24 (D 10 12 ||| ((1 : Int32) <<< (nI v &&& 31)))) (w2 D 10 12 (D 10 12 ||| ((1 : Int32) <<< (nI v &&& 31)))) n m := by
  have hn8 := hI.n8
  have hm6 := hI.m6
  have hc : ∀ x y, x ≠ 57 → u x y = I x y := fun x y a => (hF x y (fun e => absurd e a)).trans (w2_cell _ _ a)
  have hw : ∀ y, y ≠ 24 → w2 u 63 24 (D 10 12 ||| ((1 : Int32) <<< (nI v &&& 31))) 63 y = I 63 y := fun y a1 => by rw [w2_slot _ _ a1, hc 63 y (by decide)]
  refine ⟨h.d9, h.d13, h.bn, h.bm, (hF 57 7 (fun _ => by decide)).trans h.c7, fun c hcn => ?_, rfl, (hw 25 (by omega)).trans h.en, (hw 26 (by omega)).trans h.dy, (hw 27 (by omega)).trans h.pm, fun i hi => (hw _ (by omega)).trans (h.pl i hi), (hw 34 (by omega)).trans h.se, fun k hk => ?_⟩
  · obtain ⟨b1, b2, b3, b4, b5, b6⟩ := h.cl c hcn
    exact ⟨(hc 64 c (by decide)).trans b1, (hc 65 c (by decide)).trans b2, (hc 66 c (by decide)).trans b3, (hw _ (by omega)).trans b4, (hw _ (by omega)).trans b5, (hw _ (by omega)).trans b6⟩
  · have h12 : u 57 12 = (if I 57 12 < nI v then nI v else I 57 12) := (hF 57 12 (fun _ => by decide)).trans (w2_same _ _ _ _)
    show u 57 12 < nI k ↔ _
    rw [h12, mx_lt (by omega) hk, h.hi k hk]
    obtain ⟨s, hs, e⟩ := hI.sa
    have hsd : cOK (2 ^ k) (D 10 12 ||| ((1 : Int32) <<< (nI v &&& 31))) = true ↔ (cOK (2 ^ k) (D 10 12) = true ∧ cOK k (nI v) = true) := by
      have hk8 := pow8 hk
      have hor := or_256 hs (show v < 8 by omega)
      have g : ∀ a B : Nat, a < 2 ^ 31 → B < 2 ^ 31 → (cOK B (nI a) = true ↔ a < B) := fun a B ha hB => by
        rw [cOK_iff hB]
        constructor
        · rintro ⟨j, hj, z⟩; rw [nI_eq ha (by omega)] at z; omega
        · intro z; exact ⟨a, z, rfl⟩
      rw [e, shl1 (show v ≤ 8 by omega), nI_or, g _ _ (by omega) (by omega), g _ _ (by omega) (by omega), g _ _ (by omega) (by omega)]
      exact lt_2k
    constructor
    · rintro ⟨⟨a1, a2, a3⟩, a4⟩; exact ⟨hsd.mpr ⟨a1, a4⟩, a2, a3⟩
    · rintro ⟨a1, a2, a3⟩; exact ⟨⟨(hsd.mp a1).1, a2, a3⟩, (hsd.mp a1).2⟩
theorem mr_sa_e {b : Nat → Nat} {q p : Nat} {D : Wo} {e : Nat × Nat} (h : mr b q p 8 (D 10 12) = .error e) : bSa b q p D = .error e := by
  unfold mr at h
  rw [show nI 8 - 1 = (7 : Int32) by decide] at h
  unfold bSa
  split at h
  · next hN => rw [hN]; cases h; rfl
  · next v hN =>
    rw [hN]
    split at h
    · cases h
    · next hb =>
      cases h
      simp only [if_pos (bit01 hb)]
theorem mr_sa_o {b : Nat → Nat} {q p v w : Nat} {D : Wo} (hN : rdN b q p 0 7 = .ok v) (h : mr b q p 8 (D 10 12) = .ok w) : w = v ∧ bSa b q p D = .ok (tE b q p, w2 D 10 12 (D 10 12 ||| ((1 : Int32) <<< (nI v &&& 31)))) := by
  unfold mr at h
  rw [show nI 8 - 1 = (7 : Int32) by decide, hN] at h
  simp only at h
  unfold bSa
  rw [hN]
  split at h
  · next hb => cases h; exact ⟨rfl, by simp only [if_neg (nbit hb)]⟩
  · cases h
def tb (D : Wo) : Int32 := (if D 39 8 = 0 then 0 else 8) ||| (if D 39 9 = 0 then 0 else 16)
theorem tb_8 {D : Wo} {n m : Nat} (hI : DIn D n m) : (tb D >>> ((3 : Int32) &&& 31)) &&& 1 = 0 ↔ D 39 8 = 0 := by
  unfold tb
  rcases hI.en with h | h <;> rcases hI.dt with g | g <;> rw [h.1, g] <;> decide
theorem tb_9 {D : Wo} {n m : Nat} (hI : DIn D n m) : (tb D >>> ((4 : Int32) &&& 31)) &&& 1 = 0 ↔ D 39 9 = 0 := by
  unfold tb
  rcases hI.en with h | h <;> rcases hI.dt with g | g <;> rw [h.1, g] <;> decide
def FrL (I u : Wo) : Prop := ∀ x y, (x = 57 → ¬ y = 7 ∧ ¬ y = 11 ∧ ¬ y = 12 ∧ (y < 15 ∨ 20 < y)) → (x < 63 ∨ 66 < x) → u x y = I x y
theorem frL_0 {I : Wo} : FrL I I := fun _ _ _ _ => rfl
theorem FrL.trans {I u v : Wo} (h1 : FrL I u) (h2 : FrL u v) : FrL I v := fun x y a b => (h2 x y a b).trans (h1 x y a b)
theorem FrN.l {I u : Wo} (h : FrN I u) : FrL I u := fun x y a _ => h x y (fun e => (a e).2.2.2)
theorem FrD.l {I u : Wo} (h : FrD I u) : FrL I u := fun x y a c => h x y (fun e => ⟨(a e).1, (a e).2.2.1, (a e).2.2.2⟩) c
theorem frL_w2 {I u : Wo} {k j : Nat} {v : Int32} (hk : (63 ≤ k ∧ k ≤ 66) ∨ (k = 57 ∧ (j = 7 ∨ j = 11 ∨ j = 12 ∨ (15 ≤ j ∧ j ≤ 20)))) (h : FrL I u) : FrL I (w2 u k j v) := by
  intro x y a b
  rw [show w2 u k j v x y = u x y from if_neg (fun ⟨z1, z2⟩ => by
    subst z1; subst z2
    rcases hk with z | z
    · omega
    · have := a z.1; omega)]
  exact h x y a b
theorem MB.frL {I u : Wo} {b : Nat → Nat} {q : Nat} (h : MB I b q) (hF : FrL I u) : MB u b q :=
  ⟨fun i hi => by rw [hF 67 i (fun e => absurd e (by decide)) (by decide)]; exact h.1 i hi, by rw [hF 57 14 (fun _ => by decide) (by decide)]; exact h.2.1, h.2.2⟩
def RlR (I u : Wo) (b : Nat → Nat) (q : Nat) : Except (Nat × Nat) (Nat × Wo) → Prop
  | .error e => Er u e ∧ FrL I u
  | .ok x => Sn u b q x.1 ∧ (∃ n m, MDn u x.2 n m) ∧ u 57 11 = tb x.2 ∧ FrL I u
theorem rl_er {I u : Wo} {b : Nat → Nat} {q : Nat} {R : Except (Nat × Nat) (Nat × Wo)} {e : Nat × Nat} (hR : R = .error e) (hE : Er u e) (hF : FrL I u) : RlR I u b q R := by rw [hR]; exact ⟨hE, hF⟩
theorem rl_ok {I u : Wo} {b : Nat → Nat} {q n m : Nat} {R : Except (Nat × Nat) (Nat × Wo)} {x : Nat × Wo} (hR : R = .ok x) (hS : Sn u b q x.1) (hD : MDn u x.2 n m) (ht : u 57 11 = tb x.2) (hF : FrL I u) : RlR I u b q R := by rw [hR]; exact ⟨hS, ⟨n, m, hD⟩, ht, hF⟩
theorem tb_same {D D2 : Wo} (h8 : D2 39 8 = D 39 8) (h9 : D2 39 9 = D 39 9) : tb D = tb D2 := by rw [tb, tb, h8, h9]
theorem gr_39 {b : Nat → Nat} {q c : Nat} : ∀ {f p : Nat} {un : Bool} {D : Wo} {x : Nat × Wo}, gr b q c f p un D = .ok x → x.2 39 8 = D 39 8 ∧ x.2 39 9 = D 39 9
  | 0, p, un, D, x, h => by rw [gr] at h; cases h
  | f + 1, p, un, D, x, h => by
    rw [gr] at h
    split at h
    · cases h
    · split at h
      · split at h
        · cases h
        · next D2 ht =>
          have := gr_39 h
          unfold tg at ht
          split at ht
          · cases ht
          · split at ht
            · cases ht
              cases un
              · exact this
              · exact this
            · cases ht
      · split at h
        · split at h
          · exact gr_39 h
          · cases h
        · split at h
          · cases h
          · cases h; exact ⟨rfl, rfl⟩
theorem tb_cl {b : Nat → Nat} {q n p : Nat} {sd : Int32} {D : Wo} {x : Nat × Wo} (h : bW b q sd n p D = .ok x) : tb D = tb x.2 := by
  unfold bW at h
  split at h
  · cases h
  · split at h
    · cases h
    · split at h
      · cases h
      · have := gr_39 h
        exact tb_same this.1 this.2
theorem tb_pl {b : Nat → Nat} {q m p : Nat} {D : Wo} {x : Nat × Wo} (h : k5 b q m p D = .ok x) : tb D = tb x.2 := by
  unfold k5 at h
  split at h
  · cases h
  · cases h; rfl
theorem tb_sa {b : Nat → Nat} {q p : Nat} {D : Wo} {x : Nat × Wo} (h : bSa b q p D = .ok x) : tb D = tb x.2 := by
  unfold bSa at h
  split at h
  · cases h
  · split at h
    · cases h
    · cases h; rfl
theorem tb_en {b : Nat → Nat} {q n m p : Nat} {D : Wo} {x : Nat × Wo} (hI : DIn D n m) (h0 : D 39 8 = 0) (h : k3 b q p D = .ok x) : tb D ||| ((1 : Int32) <<< ((3 : Int32) &&& 31)) = tb x.2 := by
  unfold k3 at h
  split at h
  · cases h
  · cases h
    show _ = (if (1 : Int32) = 0 then 0 else 8) ||| (if D 39 9 = 0 then 0 else 16)
    rw [tb, h0]
    rcases hI.dt with g | g <;> rw [g] <;> decide
theorem tb_dy {b : Nat → Nat} {q n m p : Nat} {D : Wo} {x : Nat × Wo} (hI : DIn D n m) (h0 : D 39 9 = 0) (h : k4 b q p D = .ok x) : tb D ||| ((1 : Int32) <<< ((4 : Int32) &&& 31)) = tb x.2 := by
  unfold k4 at h
  split at h
  · cases h
  · cases h
    show _ = (if D 39 8 = 0 then 0 else 8) ||| (if (1 : Int32) = 0 then 0 else 16)
    rw [tb, h0]
    rcases hI.en with g | g <;> rw [g.1] <;> decide
set_option maxHeartbeats 4000000 in
set_option maxRecDepth 100000 in
theorem ct_X7_firstDraft {I : Wo} : Ct yX7_firstDraft cX7_firstDraft 2 none 0 0 [.ref 57] I (pV (fun u => (∀ k, k < 47 → u 63 k = if k = 25 then -4 else 0) ∧ u 57 7 = 0 ∧ u 57 11 = 0 ∧ u 57 12 = -4 ∧ (∀ x y, ¬ (x = 63 ∧ y < 47) → ¬ (x = 57 ∧ (y = 7 ∨ y = 11 ∨ y = 12)) → u x y = I x y))) := by
  refine ct_of RX7 rfl (by decide) (Nat.le_of_ble_eq_true rfl) (fun X B E => ?_)
  show GW X 2 0 [some (.ref 57), none] [] _
  refine g_iconst B (v := 0) dX7_firstDraft_0 (by decide) ?_
  refine g_istn1 B dX7_firstDraft_1 (by decide) rfl ?_
  have L2 : ∀ i, i ≤ 47 → ∀ (W : Wo), (∀ k, k < i → W 63 k = 0) → (∀ x y, ¬ (x = 63 ∧ y < 47) → W x y = I x y) → GW X 2 2 [some (.ref 57), some (.int (nI i))] [] W := by
    refine loopN 47 (fun i hi ih W hk hW => ?_)
    refine g_iload_n B dX7_firstDraft_2 rfl ?_
    refine g_bipush B (v := 47) dX7_firstDraft_3 (by decide) ?_
    refine g_icmp_ge B 21 dX7_firstDraft_5 (by decide) (fun h5 => ?_) (fun h5 => ?_)
    · have hi2 : i = 47 := by have := le_le (a := 47) (b := i) (by decide) (by omega) h5; omega
      subst hi2
      refine g_aload_n B dX7_firstDraft_21 rfl ?_
      refine g_getr B ci_X7 (by first | rfl | assumption) rfl (by decide) fl_X7_26 dX7_firstDraft_22 ?_
      refine g_bipush B (v := 25) dX7_firstDraft_25 (by decide) ?_
      refine g_bipush B (v := (-4)) dX7_firstDraft_27 (by decide) ?_
      refine g_iast B (by first | rfl | assumption) 25 (lit_nI 25) (by first | decide | omega | assumption) (by decide) dX7_firstDraft_29 ?_
      refine g_aload_n B dX7_firstDraft_30 rfl ?_
      refine g_iconst B (v := 0) dX7_firstDraft_31 (by decide) ?_
      refine g_put B ci_X7 (by first | rfl | assumption) rfl (by decide) fl_X7_62 rfl rfl rfl dX7_firstDraft_32 ?_
      refine g_aload_n B dX7_firstDraft_35 rfl ?_
      refine g_iconst B (v := 0) dX7_firstDraft_36 (by decide) ?_
      refine g_put B ci_X7 (by first | rfl | assumption) rfl (by decide) fl_X7_66 rfl rfl rfl dX7_firstDraft_37 ?_
      refine g_aload_n B dX7_firstDraft_40 rfl ?_
      refine g_bipush B (v := (-4)) dX7_firstDraft_41 (by decide) ?_
      refine g_put B ci_X7 (by first | rfl | assumption) rfl (by decide) fl_X7_69 rfl rfl rfl dX7_firstDraft_43 ?_
      refine g_vret B E dX7_firstDraft_46 ⟨fun k hk2 => by
      by_cases e : k = 25
      · subst e; rfl
      · rw [if_neg e, w2_cell _ _ (by decide), w2_cell _ _ (by decide), w2_cell _ _ (by decide), w2_slot _ _ e]; exact hk k hk2, rfl, rfl, rfl, fun x y h1 h2 => by
      rw [show w2 (w2 (w2 (w2 W 63 25 (-4)) 57 7 0) 57 11 0) 57 12 (-4) x y = W x y by
        have z1 : ¬ (x = 63 ∧ y = 25) := fun z => h1 ⟨z.1, by omega⟩
        have z2 : ¬ (x = 57 ∧ y = 7) := fun z => h2 ⟨z.1, by omega⟩
        have z3 : ¬ (x = 57 ∧ y = 11) := fun z => h2 ⟨z.1, by omega⟩
        have z4 : ¬ (x = 57 ∧ y = 12) := fun z => h2 ⟨z.1, by omega⟩
        simp only [w2, z1, z2, z3, z4, if_false]]
      exact hW x y h1⟩
    · have hlt : i < 47 := nle_lt (a := 47) (by decide) (by omega) h5
      refine g_aload_n B dX7_firstDraft_8 rfl ?_
      refine g_getr B ci_X7 (by first | rfl | assumption) rfl (by decide) fl_X7_26 dX7_firstDraft_9 ?_
      refine g_iload_n B dX7_firstDraft_12 rfl ?_
      refine g_iconst B (v := 0) dX7_firstDraft_13 (by decide) ?_
      refine g_iast B (by first | rfl | assumption) i rfl (by omega) (by decide) dX7_firstDraft_14 ?_
      refine g_inc1 B dX7_firstDraft_15 rfl (inc1 _) (by decide) rfl ?_
      refine g_goto B 2 dX7_firstDraft_18 (by decide) ?_
      refine ih hlt _ (fun k hk2 => ?_) (fun x y h => by rw [show w2 W 63 i 0 x y = W x y from if_neg (by rintro ⟨rfl, rfl⟩; exact h ⟨rfl, hlt⟩)]; exact hW x y h)
      by_cases e : k = i
      · subst e; rw [w2_same]
      · rw [w2_slot _ _ e]; exact hk k (by omega)
  exact L2 0 (Nat.zero_le _) _ (fun k h => absurd h (Nat.not_lt_zero k)) (fun _ _ _ => rfl)
set_option maxHeartbeats 4000000 in
set_option maxRecDepth 100000 in
theorem ct_X7_keepDraft {I : Wo} {n : Nat} (h7 : I 57 7 = nI n) (hn8 : n ≤ 8) : Ct yX7_keepDraft cX7_keepDraft 2 none 0 0 [.ref 57] I (pV (fun u => (∀ k, k < 47 → k ≠ 25 → u 58 k = I 63 k) ∧ u 58 25 = (if I 63 25 = -4 ∧ 0 < n then nI n - 1 else I 63 25) ∧ u 57 2 = nI n ∧ (∀ c, c < n → u 60 c = I 64 c ∧ u 61 c = I 65 c ∧ u 62 c = I 66 c) ∧ u 59 0 = 0 ∧ u 59 1 = 0 ∧ (∀ x y, ¬ (x = 58 ∧ y < 47) → ¬ (x = 59 ∧ y < 2) → ¬ (60 ≤ x ∧ x ≤ 62) → ¬ (x = 57 ∧ y = 2) → u x y = I x y))) := by
  refine ct_of RX7 rfl (by decide) (Nat.le_of_ble_eq_true rfl) (fun X B E => ?_)
  show GW X 2 0 [some (.ref 57), none] [] _
  refine g_iconst B (v := 0) dX7_keepDraft_0 (by decide) ?_
  refine g_istn1 B dX7_keepDraft_1 (by decide) rfl ?_
  have L2 : ∀ i, i ≤ 47 → ∀ (W : Wo), (∀ k, k < i → W 58 k = I 63 k) → (∀ x y, ¬ (x = 58 ∧ y < 47) → W x y = I x y) → GW X 2 2 [some (.ref 57), some (.int (nI i))] [] W := by
    refine loopN 47 (fun i hi ih W hk hW => ?_)
    refine g_iload_n B dX7_keepDraft_2 rfl ?_
    refine g_bipush B (v := 47) dX7_keepDraft_3 (by decide) ?_
    refine g_icmp_ge B 26 dX7_keepDraft_5 (by decide) (fun h5 => ?_) (fun h5 => ?_)
    · have hi2 : i = 47 := by have := le_le (a := 47) (b := i) (by decide) (by omega) h5; omega
      subst hi2
      refine g_aload_n B dX7_keepDraft_26 rfl ?_
      refine g_aload_n B dX7_keepDraft_27 rfl ?_
      refine g_geti B ci_X7 (by first | rfl | assumption) rfl (by decide) fl_X7_62 dX7_keepDraft_28 ?_
      rw [hW 57 7 (fun z => absurd z.1 (by decide)), h7]
      refine g_put B ci_X7 (by first | rfl | assumption) rfl (by decide) fl_X7_72 rfl rfl rfl dX7_keepDraft_31 ?_
      refine g_iconst B (v := 0) dX7_keepDraft_34 (by decide) ?_
      refine g_istn1 B dX7_keepDraft_35 (by decide) rfl ?_
      have L36 : ∀ i, i ≤ n → ∀ (V : Wo), (∀ c, c < i → V 60 c = I 64 c ∧ V 61 c = I 65 c ∧ V 62 c = I 66 c) → (∀ x y, ¬ (60 ≤ x ∧ x ≤ 62) → V x y = w2 W 57 2 (nI n) x y) → GW X 2 36 [some (.ref 57), some (.int (nI i))] [] V := by
        refine loopN n (fun i hi ih V hv hV => ?_)
        have w64 : ∀ c, V 64 c = I 64 c := fun c => (hV 64 c (by decide)).trans (hW 64 c (fun z => absurd z.1 (by decide)))
        have w65 : ∀ c, V 65 c = I 65 c := fun c => (hV 65 c (by decide)).trans (hW 65 c (fun z => absurd z.1 (by decide)))
        have w66 : ∀ c, V 66 c = I 66 c := fun c => (hV 66 c (by decide)).trans (hW 66 c (fun z => absurd z.1 (by decide)))
        have w58 : ∀ c, V 58 c = W 58 c := fun c => (hV 58 c (by decide)).trans (w2_cell _ _ (by decide))
        have w25 : V 58 25 = I 63 25 := (w58 25).trans (hk 25 (by decide))
        have w572 : V 57 2 = nI n := hV 57 2 (by decide)
        refine g_iload_n B dX7_keepDraft_36 rfl ?_
        refine g_aload_n B dX7_keepDraft_37 rfl ?_
        refine g_geti B ci_X7 (by first | rfl | assumption) rfl (by decide) fl_X7_72 dX7_keepDraft_38 ?_
        rw [w572]
        refine g_icmp_ge B 86 dX7_keepDraft_41 (by decide) (fun h41 => ?_) (fun h41 => ?_)
        · have hi2 : i = n := by have := le_le (a := n) (b := i) (by omega) (by omega) h41; omega
          subst hi2
          refine g_aload_n B dX7_keepDraft_86 rfl ?_
          refine g_getr B ci_X7 (by first | rfl | assumption) rfl (by decide) fl_X7_7 dX7_keepDraft_87 ?_
          refine g_bipush B (v := 25) dX7_keepDraft_90 (by decide) ?_
          refine g_aload_n B dX7_keepDraft_92 rfl ?_
          refine g_getr B ci_X7 (by first | rfl | assumption) rfl (by decide) fl_X7_7 dX7_keepDraft_93 ?_
          refine g_bipush B (v := 25) dX7_keepDraft_96 (by decide) ?_
          refine g_iald B (by first | rfl | assumption) 25 (lit_nI 25) (by first | decide | omega | assumption) (by decide) dX7_keepDraft_98 ?_
          rw [w25]
          refine g_bipush B (v := (-4)) dX7_keepDraft_99 (by decide) ?_
          refine g_icmp_ne B 120 dX7_keepDraft_101 (by decide) (fun h101 => ?_) (fun h101 => ?_)
          · refine g_aload_n B dX7_keepDraft_120 rfl ?_
            refine g_getr B ci_X7 (by first | rfl | assumption) rfl (by decide) fl_X7_7 dX7_keepDraft_121 ?_
            refine g_bipush B (v := 25) dX7_keepDraft_124 (by decide) ?_
            refine g_iald B (by first | rfl | assumption) 25 (lit_nI 25) (by first | decide | omega | assumption) (by decide) dX7_keepDraft_126 ?_
            rw [w25]
            refine g_eqi (if I 63 25 = -4 ∧ 0 < i then nI i - 1 else I 63 25) (by rw [if_neg (fun z => h101 z.1)]) ?_
            refine g_iast B (by first | rfl | assumption) 25 (lit_nI 25) (by first | decide | omega | assumption) (by decide) dX7_keepDraft_127 ?_
            refine g_aload_n B dX7_keepDraft_128 rfl ?_
            refine g_getr B ci_X7 (by first | rfl | assumption) rfl (by decide) fl_X7_13 dX7_keepDraft_129 ?_
            refine g_iconst B (v := 0) dX7_keepDraft_132 (by decide) ?_
            refine g_iconst B (v := 0) dX7_keepDraft_133 (by decide) ?_
            refine g_zast B (by first | rfl | assumption) 0 (lit_nI 0) (by first | decide | omega | assumption) (by decide) dX7_keepDraft_134 ?_
            refine g_aload_n B dX7_keepDraft_135 rfl ?_
            refine g_getr B ci_X7 (by first | rfl | assumption) rfl (by decide) fl_X7_13 dX7_keepDraft_136 ?_
            refine g_iconst B (v := 1) dX7_keepDraft_139 (by decide) ?_
            refine g_iconst B (v := 0) dX7_keepDraft_140 (by decide) ?_
            refine g_zast B (by first | rfl | assumption) 1 (lit_nI 1) (by first | decide | omega | assumption) (by decide) dX7_keepDraft_141 ?_
            exact g_vret B E dX7_keepDraft_142 (kd_end hk hW hv hV)
          · refine g_aload_n B dX7_keepDraft_104 rfl ?_
            refine g_geti B ci_X7 (by first | rfl | assumption) rfl (by decide) fl_X7_72 dX7_keepDraft_105 ?_
            rw [w572]
            refine g_if_le B 120 dX7_keepDraft_108 (by decide) (fun h108 => ?_) (fun h108 => ?_)
            · replace h108 : ¬ 0 < i := by have := le_le (a := i) (b := 0) (by omega) (by decide) h108; omega
              refine g_aload_n B dX7_keepDraft_120 rfl ?_
              refine g_getr B ci_X7 (by first | rfl | assumption) rfl (by decide) fl_X7_7 dX7_keepDraft_121 ?_
              refine g_bipush B (v := 25) dX7_keepDraft_124 (by decide) ?_
              refine g_iald B (by first | rfl | assumption) 25 (lit_nI 25) (by first | decide | omega | assumption) (by decide) dX7_keepDraft_126 ?_
              rw [w25]
              refine g_eqi (if I 63 25 = -4 ∧ 0 < i then nI i - 1 else I 63 25) (by rw [if_neg (fun z => h108 z.2)]) ?_
              refine g_iast B (by first | rfl | assumption) 25 (lit_nI 25) (by first | decide | omega | assumption) (by decide) dX7_keepDraft_127 ?_
              refine g_aload_n B dX7_keepDraft_128 rfl ?_
              refine g_getr B ci_X7 (by first | rfl | assumption) rfl (by decide) fl_X7_13 dX7_keepDraft_129 ?_
              refine g_iconst B (v := 0) dX7_keepDraft_132 (by decide) ?_
              refine g_iconst B (v := 0) dX7_keepDraft_133 (by decide) ?_
              refine g_zast B (by first | rfl | assumption) 0 (lit_nI 0) (by first | decide | omega | assumption) (by decide) dX7_keepDraft_134 ?_
              refine g_aload_n B dX7_keepDraft_135 rfl ?_
              refine g_getr B ci_X7 (by first | rfl | assumption) rfl (by decide) fl_X7_13 dX7_keepDraft_136 ?_
              refine g_iconst B (v := 1) dX7_keepDraft_139 (by decide) ?_
              refine g_iconst B (v := 0) dX7_keepDraft_140 (by decide) ?_
              refine g_zast B (by first | rfl | assumption) 1 (lit_nI 1) (by first | decide | omega | assumption) (by decide) dX7_keepDraft_141 ?_
              exact g_vret B E dX7_keepDraft_142 (kd_end hk hW hv hV)
            · replace h108 : 0 < i := by have := nle_lt (a := i) (b := 0) (by omega) (by decide) h108; omega
              refine g_aload_n B dX7_keepDraft_111 rfl ?_
              refine g_geti B ci_X7 (by first | rfl | assumption) rfl (by decide) fl_X7_72 dX7_keepDraft_112 ?_
              rw [w572]
              refine g_iconst B (v := 1) dX7_keepDraft_115 (by decide) ?_
              refine g_isub B dX7_keepDraft_116 ?_
              refine g_goto B 127 dX7_keepDraft_117 (by decide) ?_
              refine g_eqi (if I 63 25 = -4 ∧ 0 < i then nI i - 1 else I 63 25) (by rw [if_pos ⟨h101, h108⟩]) ?_
              refine g_iast B (by first | rfl | assumption) 25 (lit_nI 25) (by first | decide | omega | assumption) (by decide) dX7_keepDraft_127 ?_
              refine g_aload_n B dX7_keepDraft_128 rfl ?_
              refine g_getr B ci_X7 (by first | rfl | assumption) rfl (by decide) fl_X7_13 dX7_keepDraft_129 ?_
              refine g_iconst B (v := 0) dX7_keepDraft_132 (by decide) ?_
              refine g_iconst B (v := 0) dX7_keepDraft_133 (by decide) ?_
              refine g_zast B (by first | rfl | assumption) 0 (lit_nI 0) (by first | decide | omega | assumption) (by decide) dX7_keepDraft_134 ?_
              refine g_aload_n B dX7_keepDraft_135 rfl ?_
              refine g_getr B ci_X7 (by first | rfl | assumption) rfl (by decide) fl_X7_13 dX7_keepDraft_136 ?_
              refine g_iconst B (v := 1) dX7_keepDraft_139 (by decide) ?_
              refine g_iconst B (v := 0) dX7_keepDraft_140 (by decide) ?_
              refine g_zast B (by first | rfl | assumption) 1 (lit_nI 1) (by first | decide | omega | assumption) (by decide) dX7_keepDraft_141 ?_
              exact g_vret B E dX7_keepDraft_142 (kd_end hk hW hv hV)
        · have hlt : i < n := nle_lt (by omega) (by omega) h41
          refine g_aload_n B dX7_keepDraft_44 rfl ?_
          refine g_getr B ci_X7 (by first | rfl | assumption) rfl (by decide) fl_X7_17 dX7_keepDraft_45 ?_
          refine g_iload_n B dX7_keepDraft_48 rfl ?_
          refine g_aload_n B dX7_keepDraft_49 rfl ?_
          refine g_getr B ci_X7 (by first | rfl | assumption) rfl (by decide) fl_X7_29 dX7_keepDraft_50 ?_
          refine g_iload_n B dX7_keepDraft_53 rfl ?_
          refine g_iald B (by first | rfl | assumption) i rfl (by omega) (by decide) dX7_keepDraft_54 ?_
          rw [w64]
          refine g_iast B (by first | rfl | assumption) i rfl (by omega) (by decide) dX7_keepDraft_55 ?_
          refine g_aload_n B dX7_keepDraft_56 rfl ?_
          refine g_getr B ci_X7 (by first | rfl | assumption) rfl (by decide) fl_X7_20 dX7_keepDraft_57 ?_
          refine g_iload_n B dX7_keepDraft_60 rfl ?_
          refine g_aload_n B dX7_keepDraft_61 rfl ?_
          refine g_getr B ci_X7 (by first | rfl | assumption) rfl (by decide) fl_X7_32 dX7_keepDraft_62 ?_
          refine g_iload_n B dX7_keepDraft_65 rfl ?_
          refine g_iald B (by first | rfl | assumption) i rfl (by omega) (by decide) dX7_keepDraft_66 ?_
          rw [w2_cell _ _ (by decide), w65]
          refine g_iast B (by first | rfl | assumption) i rfl (by omega) (by decide) dX7_keepDraft_67 ?_
          refine g_aload_n B dX7_keepDraft_68 rfl ?_
          refine g_getr B ci_X7 (by first | rfl | assumption) rfl (by decide) fl_X7_23 dX7_keepDraft_69 ?_
          refine g_iload_n B dX7_keepDraft_72 rfl ?_
          refine g_aload_n B dX7_keepDraft_73 rfl ?_
          refine g_getr B ci_X7 (by first | rfl | assumption) rfl (by decide) fl_X7_35 dX7_keepDraft_74 ?_
          refine g_iload_n B dX7_keepDraft_77 rfl ?_
          refine g_iald B (by first | rfl | assumption) i rfl (by omega) (by decide) dX7_keepDraft_78 ?_
          rw [w2_cell _ _ (by decide), w2_cell _ _ (by decide), w66]
          refine g_iast B (by first | rfl | assumption) i rfl (by omega) (by decide) dX7_keepDraft_79 ?_
          refine g_inc1 B dX7_keepDraft_80 rfl (inc1 _) (by decide) rfl ?_
          refine g_goto B 36 dX7_keepDraft_83 (by decide) ?_
          refine ih hlt _ (fun c hc => ?_) (fun x y h => by rw [w2_cell _ _ (by omega), w2_cell _ _ (by omega), w2_cell _ _ (by omega)]; exact hV x y h)
          by_cases e : c = i
          · subst e
            exact ⟨by rw [w2_cell _ _ (by decide), w2_cell _ _ (by decide), w2_same], by rw [w2_cell _ _ (by decide), w2_same], by rw [w2_same]⟩
          · rw [w2_cell _ _ (show 60 ≠ 62 by decide), w2_cell _ _ (show 60 ≠ 61 by decide), w2_slot _ _ e, w2_cell _ _ (show 61 ≠ 62 by decide), w2_slot _ _ e, w2_cell _ _ (show 61 ≠ 60 by decide), w2_slot _ _ e, w2_cell _ _ (show 62 ≠ 61 by decide), w2_cell _ _ (show 62 ≠ 60 by decide)]; exact hv c (by omega)
      exact L36 0 (Nat.zero_le _) _ (fun c h => absurd h (Nat.not_lt_zero c)) (fun _ _ _ => rfl)
    · have hlt : i < 47 := nle_lt (a := 47) (by decide) (by omega) h5
      refine g_aload_n B dX7_keepDraft_8 rfl ?_
      refine g_getr B ci_X7 (by first | rfl | assumption) rfl (by decide) fl_X7_7 dX7_keepDraft_9 ?_
      refine g_iload_n B dX7_keepDraft_12 rfl ?_
      refine g_aload_n B dX7_keepDraft_13 rfl ?_
      refine g_getr B ci_X7 (by first | rfl | assumption) rfl (by decide) fl_X7_26 dX7_keepDraft_14 ?_
      refine g_iload_n B dX7_keepDraft_17 rfl ?_
      refine g_iald B (by first | rfl | assumption) i rfl (by omega) (by decide) dX7_keepDraft_18 ?_
      rw [hW 63 i (fun z => absurd z.1 (by decide))]
      refine g_iast B (by first | rfl | assumption) i rfl (by omega) (by decide) dX7_keepDraft_19 ?_
      refine g_inc1 B dX7_keepDraft_20 rfl (inc1 _) (by decide) rfl ?_
      refine g_goto B 2 dX7_keepDraft_23 (by decide) ?_
      refine ih hlt _ (fun k hk2 => ?_) (fun x y h => by rw [show w2 W 58 i (I 63 i) x y = W x y from if_neg (by rintro ⟨rfl, rfl⟩; exact h ⟨rfl, hlt⟩)]; exact hW x y h)
      by_cases e : k = i
      · subst e; rw [w2_same]
      · rw [w2_slot _ _ e]; exact hk k (by omega)
  exact L2 0 (Nat.zero_le _) _ (fun k h => absurd h (Nat.not_lt_zero k)) (fun _ _ _ => rfl)
set_option maxHeartbeats 4000000 in
set_option maxRecDepth 100000 in
theorem rl_3 {I D : Wo} {b : Nat → Nat} {q p n m : Nat} (hM : MB I b q) (hS : Sn I b q p) (hpq : p ≤ q) (hMD : MDn I D n m) (hI : DIn D n m) (h8 : D 39 8 = 0) : Ct yX7_readLineOf cX7_readLineOf 3 none 4 93 [.ref 57, .int 3] I (pV (fun u => (∃ e : Nat × Nat, k3 b q p D = .error e ∧ Er u e ∧ FrD I u) ∨ (∃ x : Nat × Wo, k3 b q p D = .ok x ∧ Sn u b q x.1 ∧ (Ld u b q x.1 → MDn u x.2 n m) ∧ FrD I u))) := by
  refine ct_of RX7 rfl (by decide) (Nat.le_of_ble_eq_true rfl) (fun X B E => ?_)
  show GW X 3 0 [some (.ref 57), some (.int 3), none] [] _
  refine g_iload_n B dX7_readLineOf_0 rfl ?_
  refine g_tableIn B 32 dX7_readLineOf_1 (by decide) (by decide) rfl (by decide) ?_
  refine g_aload_n B dX7_readLineOf_32 rfl ?_
  refine g_getr B ci_X7 (by first | rfl | assumption) rfl (by decide) fl_X7_26 dX7_readLineOf_33 ?_
  refine g_bipush B (v := 25) dX7_readLineOf_36 (by decide) ?_
  refine g_aload_n B dX7_readLineOf_38 rfl ?_
  refine g_callVI B (rc_S hM hS) (by first | rfl | assumption) rfl ml_X7_143 mm_X7_readClaim rfl rfl (Nat.le_of_ble_eq_true rfl) dX7_readLineOf_39 (by decide) ?_
  rintro _ u1 (⟨e, hN, hEu, hF⟩ | ⟨v, hN, v99, rfl, hSu, h12, hF⟩)
  · refine g_iast B (by first | rfl | assumption) 25 (lit_nI 25) (by first | decide | omega | assumption) (by decide) dX7_readLineOf_42 ?_
    refine g_goto B 159 dX7_readLineOf_43 (by decide) ?_
    exact g_vret B E dX7_readLineOf_159 (Or.inl ⟨e, by rw [k3, hN], hEu, frD_w2 (by omega) hF.d⟩)
  · refine g_iast B (by first | rfl | assumption) 25 (lit_nI 25) (by first | decide | omega | assumption) (by decide) dX7_readLineOf_42 ?_
    refine g_goto B 159 dX7_readLineOf_43 (by decide) ?_
    exact g_vret B E dX7_readLineOf_159 (Or.inr ⟨(tE b q p, w2 (w2 D 10 10 (nI v)) 39 8 1), by rw [k3, hN], hSu, fun _ => md_3 hMD hI.n8 h8 hF h12 v99 (rdN_le (h := 7) (by decide) hN), frD_w2 (by omega) hF.d⟩)
set_option maxHeartbeats 4000000 in
set_option maxRecDepth 100000 in
theorem rl_4 {I D : Wo} {b : Nat → Nat} {q p n m : Nat} (hM : MB I b q) (hS : Sn I b q p) (hpq : p ≤ q) (hMD : MDn I D n m) (hI : DIn D n m) : Ct yX7_readLineOf cX7_readLineOf 3 none 4 93 [.ref 57, .int 4] I (pV (fun u => (∃ e : Nat × Nat, k4 b q p D = .error e ∧ Er u e ∧ FrD I u) ∨ (∃ x : Nat × Wo, k4 b q p D = .ok x ∧ Sn u b q x.1 ∧ (Ld u b q x.1 → MDn u x.2 n m) ∧ FrD I u))) := by
  refine ct_of RX7 rfl (by decide) (Nat.le_of_ble_eq_true rfl) (fun X B E => ?_)
  show GW X 3 0 [some (.ref 57), some (.int 4), none] [] _
  refine g_iload_n B dX7_readLineOf_0 rfl ?_
  refine g_tableIn B 46 dX7_readLineOf_1 (by decide) (by decide) rfl (by decide) ?_
  refine g_aload_n B dX7_readLineOf_46 rfl ?_
  refine g_getr B ci_X7 (by first | rfl | assumption) rfl (by decide) fl_X7_26 dX7_readLineOf_47 ?_
  refine g_bipush B (v := 26) dX7_readLineOf_50 (by decide) ?_
  refine g_aload_n B dX7_readLineOf_52 rfl ?_
  refine g_iconst B (v := 0) dX7_readLineOf_53 (by decide) ?_
  refine g_bipush B (v := 9) dX7_readLineOf_54 (by decide) ?_
  refine g_callVI B (rn_S hM hS 0 9) (by first | rfl | assumption) rfl ml_X7_133 mm_X7_readNumber rfl rfl (Nat.le_of_ble_eq_true rfl) dX7_readLineOf_56 (by decide) ?_
  rintro _ u1 (⟨e, hN, rfl, hEu, hF⟩ | ⟨v, hN, v99, rfl, hSu, hF⟩)
  · refine g_iast B (by first | rfl | assumption) 26 (lit_nI 26) (by first | decide | omega | assumption) (by decide) dX7_readLineOf_59 ?_
    refine g_goto B 159 dX7_readLineOf_60 (by decide) ?_
    exact g_vret B E dX7_readLineOf_159 (Or.inl ⟨e, by rw [k4, hN], hEu, frD_w2 (by omega) hF.d⟩)
  · refine g_iast B (by first | rfl | assumption) 26 (lit_nI 26) (by first | decide | omega | assumption) (by decide) dX7_readLineOf_59 ?_
    refine g_goto B 159 dX7_readLineOf_60 (by decide) ?_
    exact g_vret B E dX7_readLineOf_159 (Or.inr ⟨(tE b q p, w2 (w2 D 10 11 (nI v)) 39 9 1), by rw [k4, hN], hSu, fun _ => md_4 (hMD.frN hF) hI.n8, frD_w2 (by omega) hF.d⟩)
set_option maxHeartbeats 4000000 in
set_option maxRecDepth 100000 in
theorem rl_5 {I D : Wo} {b : Nat → Nat} {q p n m : Nat} (hM : MB I b q) (hS : Sn I b q p) (hpq : p ≤ q) (hMD : MDn I D n m) (hI : DIn D n m) (hm6 : m < 6) : Ct yX7_readLineOf cX7_readLineOf 3 none 4 93 [.ref 57, .int 5] I (pV (fun u => (∃ e : Nat × Nat, k5 b q m p D = .error e ∧ Er u e ∧ FrD I u) ∨ (∃ x : Nat × Wo, k5 b q m p D = .ok x ∧ Sn u b q x.1 ∧ (Ld u b q x.1 → MDn u x.2 n (m + 1)) ∧ FrD I u))) := by
  refine ct_of RX7 rfl (by decide) (Nat.le_of_ble_eq_true rfl) (fun X B E => ?_)
  show GW X 3 0 [some (.ref 57), some (.int 5), none] [] _
  refine g_iload_n B dX7_readLineOf_0 rfl ?_
  refine g_tableIn B 63 dX7_readLineOf_1 (by decide) (by decide) rfl (by decide) ?_
  refine g_aload_n B dX7_readLineOf_63 rfl ?_
  refine g_getr B ci_X7 (by first | rfl | assumption) rfl (by decide) fl_X7_26 dX7_readLineOf_64 ?_
  refine g_bipush B (v := 28) dX7_readLineOf_67 (by decide) ?_
  refine g_aload_n B dX7_readLineOf_69 rfl ?_
  refine g_getr B ci_X7 (by first | rfl | assumption) rfl (by decide) fl_X7_26 dX7_readLineOf_70 ?_
  refine g_bipush B (v := 27) dX7_readLineOf_73 (by decide) ?_
  refine g_iald B (by first | rfl | assumption) 27 (lit_nI 27) (by first | decide | omega | assumption) (by decide) dX7_readLineOf_75 ?_
  rw [hMD.pm]
  refine g_iadd B dX7_readLineOf_76 ?_
  refine g_eqi (nI (28 + m)) (la_28 m) ?_
  refine g_aload_n B dX7_readLineOf_77 rfl ?_
  refine g_callVI B (rc_S hM hS) (by first | rfl | assumption) rfl ml_X7_143 mm_X7_readClaim rfl rfl (Nat.le_of_ble_eq_true rfl) dX7_readLineOf_78 (by decide) ?_
  rintro _ u1 (⟨e, hN, hEu, hF⟩ | ⟨v, hN, v99, rfl, hSu, h12, hF⟩)
  · refine g_iast B (by first | rfl | assumption) (28 + m) rfl (by omega) (by decide) dX7_readLineOf_81 ?_
    refine g_aload_n B dX7_readLineOf_82 rfl ?_
    refine g_getr B ci_X7 (by first | rfl | assumption) rfl (by decide) fl_X7_26 dX7_readLineOf_83 ?_
    refine g_bipush B (v := 27) dX7_readLineOf_86 (by decide) ?_
    refine g_dup2 B dX7_readLineOf_88 rfl rfl ?_
    refine g_iald B (by first | rfl | assumption) 27 (lit_nI 27) (by first | decide | omega | assumption) (by decide) dX7_readLineOf_89 ?_
    
    refine g_iconst B (v := 1) dX7_readLineOf_90 (by decide) ?_
    refine g_iadd B dX7_readLineOf_91 ?_
    
    refine g_iast B (by first | rfl | assumption) 27 (lit_nI 27) (by first | decide | omega | assumption) (by decide) dX7_readLineOf_92 ?_
    refine g_goto B 159 dX7_readLineOf_93 (by decide) ?_
    exact g_vret B E dX7_readLineOf_159 (Or.inl ⟨e, by rw [k5, hN], hEu, frD_w2 (by omega) (frD_w2 (by omega) hF.d)⟩)
  · refine g_iast B (by first | rfl | assumption) (28 + m) rfl (by omega) (by decide) dX7_readLineOf_81 ?_
    refine g_aload_n B dX7_readLineOf_82 rfl ?_
    refine g_getr B ci_X7 (by first | rfl | assumption) rfl (by decide) fl_X7_26 dX7_readLineOf_83 ?_
    refine g_bipush B (v := 27) dX7_readLineOf_86 (by decide) ?_
    refine g_dup2 B dX7_readLineOf_88 rfl rfl ?_
    refine g_iald B (by first | rfl | assumption) 27 (lit_nI 27) (by first | decide | omega | assumption) (by decide) dX7_readLineOf_89 ?_
    rw [w2_slot _ _ (show 27 ≠ 28 + m by omega), hF 63 27 (fun e => absurd e (by decide)), hMD.pm]
    refine g_iconst B (v := 1) dX7_readLineOf_90 (by decide) ?_
    refine g_iadd B dX7_readLineOf_91 ?_
    refine g_eqi (nI (m + 1)) (nI_1 m) ?_
    refine g_iast B (by first | rfl | assumption) 27 (lit_nI 27) (by first | decide | omega | assumption) (by decide) dX7_readLineOf_92 ?_
    refine g_goto B 159 dX7_readLineOf_93 (by decide) ?_
    exact g_vret B E dX7_readLineOf_159 (Or.inr ⟨(tE b q p, w2 (w2 D 17 m (nI v)) 10 13 (nI (m + 1))), by rw [k5, hN], hSu, fun _ => md_5 hMD hm6 hF h12 v99 (rdN_le (h := 7) (by decide) hN) hI.n8, frD_w2 (by omega) (frD_w2 (by omega) hF.d)⟩)
set_option maxHeartbeats 4000000 in
set_option maxRecDepth 100000 in
theorem rl_6 {I D : Wo} {b : Nat → Nat} {q p n m : Nat} (hM : MB I b q) (hS : Sn I b q p) (hpq : p ≤ q) (hMD : MDn I D n m) (hI : DIn D n m) : Ct yX7_readLineOf cX7_readLineOf 3 none 4 93 [.ref 57, .int 6] I (pV (fun u => (∃ e : Nat × Nat, bSa b q p D = .error e ∧ Er u e ∧ FrD I u) ∨ (∃ x : Nat × Wo, bSa b q p D = .ok x ∧ Sn u b q x.1 ∧ (Ld u b q x.1 → MDn u x.2 n m) ∧ FrD I u))) := by
  refine ct_of RX7 rfl (by decide) (Nat.le_of_ble_eq_true rfl) (fun X B E => ?_)
  show GW X 3 0 [some (.ref 57), some (.int 6), none] [] _
  refine g_iload_n B dX7_readLineOf_0 rfl ?_
  refine g_tableIn B 96 dX7_readLineOf_1 (by decide) (by decide) rfl (by decide) ?_
  refine g_aload_n B dX7_readLineOf_96 rfl ?_
  refine g_iconst B (v := 0) dX7_readLineOf_97 (by decide) ?_
  refine g_bipush B (v := 7) dX7_readLineOf_98 (by decide) ?_
  refine g_callVI B (lk_S hS 0 7) (by first | rfl | assumption) rfl ml_X7_126 mm_X7_looked rfl rfl (Nat.le_of_ble_eq_true rfl) dX7_readLineOf_100 (by decide) ?_
  rintro _ u1 (⟨e, hN, rfl, hEu, hF⟩ | ⟨v, hN, v99, rfl, rfl, hL⟩)
  · refine g_istn2 B dX7_readLineOf_103 (by decide) rfl ?_
    refine g_aload_n B dX7_readLineOf_104 rfl ?_
    refine g_aload_n B dX7_readLineOf_105 rfl ?_
    refine g_geti B ci_X7 (by first | rfl | assumption) rfl (by decide) fl_X7_84 dX7_readLineOf_106 ?_
    rw [hEu.1]
    refine g_if_ne B 124 dX7_readLineOf_109 (by decide) (fun h109 => ?_) (fun h109 => ?_)
    · refine g_aload_n B dX7_readLineOf_124 rfl ?_
      refine g_geti B ci_X7 (by first | rfl | assumption) rfl (by decide) fl_X7_69 dX7_readLineOf_125 ?_
      
      refine g_put B ci_X7 (by first | rfl | assumption) rfl (by decide) fl_X7_69 rfl rfl rfl dX7_readLineOf_128 ?_
      refine g_aload_n B dX7_readLineOf_131 rfl ?_
      refine g_getr B ci_X7 (by first | rfl | assumption) rfl (by decide) fl_X7_26 dX7_readLineOf_132 ?_
      refine g_bipush B (v := 24) dX7_readLineOf_135 (by decide) ?_
      refine g_aload_n B dX7_readLineOf_137 rfl ?_
      refine g_aload_n B dX7_readLineOf_138 rfl ?_
      refine g_getr B ci_X7 (by first | rfl | assumption) rfl (by decide) fl_X7_26 dX7_readLineOf_139 ?_
      refine g_bipush B (v := 24) dX7_readLineOf_142 (by decide) ?_
      refine g_iald B (by first | rfl | assumption) 24 (lit_nI 24) (by first | decide | omega | assumption) (by decide) dX7_readLineOf_144 ?_
      
      refine g_bipush B (v := 7) dX7_readLineOf_145 (by decide) ?_
      refine g_eqi (nI 8 - 1) (by decide) ?_
      refine g_callVI B (rm_E (I := w2 u1 57 12 _) hEu _ _) (by first | rfl | assumption) rfl ml_X7_136 mm_X7_readMore rfl rfl (Nat.le_of_ble_eq_true rfl) dX7_readLineOf_147 (by decide) ?_
      rintro r147 _ rfl
      refine g_iast B (by first | rfl | assumption) 24 (lit_nI 24) (by first | decide | omega | assumption) (by decide) dX7_readLineOf_150 ?_
      refine g_goto B 159 dX7_readLineOf_151 (by decide) ?_
      exact g_vret B E dX7_readLineOf_159 (Or.inl ⟨e, by rw [bSa, hN], hEu, frD_w2 (by omega) (frD_w2 (by omega) hF.d)⟩)
    · exact absurd ((nI_eq (by have := hEu.2.2.2; omega) (by decide)).mp h109) hEu.2.2.1
  · refine g_istn2 B dX7_readLineOf_103 (by decide) rfl ?_
    refine g_aload_n B dX7_readLineOf_104 rfl ?_
    refine g_aload_n B dX7_readLineOf_105 rfl ?_
    refine g_geti B ci_X7 (by first | rfl | assumption) rfl (by decide) fl_X7_84 dX7_readLineOf_106 ?_
    rw [hL.1]
    refine g_if_ne B 124 dX7_readLineOf_109 (by decide) (fun h109 => ?_) (fun h109 => ?_)
    · exact absurd rfl h109
    · refine g_iload_n B dX7_readLineOf_112 rfl ?_
      refine g_aload_n B dX7_readLineOf_113 rfl ?_
      refine g_geti B ci_X7 (by first | rfl | assumption) rfl (by decide) fl_X7_69 dX7_readLineOf_114 ?_
      refine g_icmp_le B 124 dX7_readLineOf_117 (by decide) (fun h117 => ?_) (fun h117 => ?_)
      · refine g_aload_n B dX7_readLineOf_124 rfl ?_
        refine g_geti B ci_X7 (by first | rfl | assumption) rfl (by decide) fl_X7_69 dX7_readLineOf_125 ?_
        refine g_eqi (if I 57 12 < nI v then nI v else I 57 12) (by rw [if_neg (le_not_lt h117)]) ?_
        refine g_put B ci_X7 (by first | rfl | assumption) rfl (by decide) fl_X7_69 rfl rfl rfl dX7_readLineOf_128 ?_
        refine g_aload_n B dX7_readLineOf_131 rfl ?_
        refine g_getr B ci_X7 (by first | rfl | assumption) rfl (by decide) fl_X7_26 dX7_readLineOf_132 ?_
        refine g_bipush B (v := 24) dX7_readLineOf_135 (by decide) ?_
        refine g_aload_n B dX7_readLineOf_137 rfl ?_
        refine g_aload_n B dX7_readLineOf_138 rfl ?_
        refine g_getr B ci_X7 (by first | rfl | assumption) rfl (by decide) fl_X7_26 dX7_readLineOf_139 ?_
        refine g_bipush B (v := 24) dX7_readLineOf_142 (by decide) ?_
        refine g_iald B (by first | rfl | assumption) 24 (lit_nI 24) (by first | decide | omega | assumption) (by decide) dX7_readLineOf_144 ?_
        rw [show w2 I 57 12 (if I 57 12 < nI v then nI v else I 57 12) 63 24 = D 10 12 from hMD.sa]
        refine g_bipush B (v := 7) dX7_readLineOf_145 (by decide) ?_
        refine g_eqi (nI 8 - 1) (by decide) ?_
        refine g_callVI B (rm_S (I := w2 I 57 12 (if I 57 12 < nI v then nI v else I 57 12)) (p := p) (c := 8) (hM.frD (frD_w2 (by omega) frD_0)) (Or.inr hL) (D 10 12)) (by first | rfl | assumption) rfl ml_X7_136 mm_X7_readMore rfl rfl (Nat.le_of_ble_eq_true rfl) dX7_readLineOf_147 (by decide) ?_
        rintro _ um (⟨e, hmr, hEm, hFm⟩ | ⟨w, hmr, w99, hSu, hr, hFm⟩)
        · refine g_iast B (by first | rfl | assumption) 24 (lit_nI 24) (by first | decide | omega | assumption) (by decide) dX7_readLineOf_150 ?_
          refine g_goto B 159 dX7_readLineOf_151 (by decide) ?_
          exact g_vret B E dX7_readLineOf_159 (Or.inl ⟨e, mr_sa_e hmr, hEm, frD_w2 (by omega) ((frD_w2 (by omega) frD_0).trans hFm.d)⟩)
        · refine g_iast B (by first | rfl | assumption) 24 (lit_nI 24) (by first | decide | omega | assumption) (by decide) dX7_readLineOf_150 ?_
          refine g_goto B 159 dX7_readLineOf_151 (by decide) ?_
          exact g_vret B E dX7_readLineOf_159 (Or.inr ⟨(tE b q p, w2 D 10 12 (D 10 12 ||| ((1 : Int32) <<< (nI v &&& 31)))), (mr_sa_o hN hmr).2, hSu, fun hL2 => by rw [hr hL2, (mr_sa_o hN hmr).1]; exact md_6 hMD hI hFm (rdN_le (h := 7) (by decide) hN), frD_w2 (by omega) ((frD_w2 (by omega) frD_0).trans hFm.d)⟩)
      · refine g_iload_n B dX7_readLineOf_120 rfl ?_
        refine g_goto B 128 dX7_readLineOf_121 (by decide) ?_
        refine g_eqi (if I 57 12 < nI v then nI v else I 57 12) (by rw [if_pos (not_le_lt h117)]) ?_
        refine g_put B ci_X7 (by first | rfl | assumption) rfl (by decide) fl_X7_69 rfl rfl rfl dX7_readLineOf_128 ?_
        refine g_aload_n B dX7_readLineOf_131 rfl ?_
        refine g_getr B ci_X7 (by first | rfl | assumption) rfl (by decide) fl_X7_26 dX7_readLineOf_132 ?_
        refine g_bipush B (v := 24) dX7_readLineOf_135 (by decide) ?_
        refine g_aload_n B dX7_readLineOf_137 rfl ?_
        refine g_aload_n B dX7_readLineOf_138 rfl ?_
        refine g_getr B ci_X7 (by first | rfl | assumption) rfl (by decide) fl_X7_26 dX7_readLineOf_139 ?_
        refine g_bipush B (v := 24) dX7_readLineOf_142 (by decide) ?_
        refine g_iald B (by first | rfl | assumption) 24 (lit_nI 24) (by first | decide | omega | assumption) (by decide) dX7_readLineOf_144 ?_
        rw [show w2 I 57 12 (if I 57 12 < nI v then nI v else I 57 12) 63 24 = D 10 12 from hMD.sa]
        refine g_bipush B (v := 7) dX7_readLineOf_145 (by decide) ?_
        refine g_eqi (nI 8 - 1) (by decide) ?_
        refine g_callVI B (rm_S (I := w2 I 57 12 (if I 57 12 < nI v then nI v else I 57 12)) (p := p) (c := 8) (hM.frD (frD_w2 (by omega) frD_0)) (Or.inr hL) (D 10 12)) (by first | rfl | assumption) rfl ml_X7_136 mm_X7_readMore rfl rfl (Nat.le_of_ble_eq_true rfl) dX7_readLineOf_147 (by decide) ?_
        rintro _ um (⟨e, hmr, hEm, hFm⟩ | ⟨w, hmr, w99, hSu, hr, hFm⟩)
        · refine g_iast B (by first | rfl | assumption) 24 (lit_nI 24) (by first | decide | omega | assumption) (by decide) dX7_readLineOf_150 ?_
          refine g_goto B 159 dX7_readLineOf_151 (by decide) ?_
          exact g_vret B E dX7_readLineOf_159 (Or.inl ⟨e, mr_sa_e hmr, hEm, frD_w2 (by omega) ((frD_w2 (by omega) frD_0).trans hFm.d)⟩)
        · refine g_iast B (by first | rfl | assumption) 24 (lit_nI 24) (by first | decide | omega | assumption) (by decide) dX7_readLineOf_150 ?_
          refine g_goto B 159 dX7_readLineOf_151 (by decide) ?_
          exact g_vret B E dX7_readLineOf_159 (Or.inr ⟨(tE b q p, w2 D 10 12 (D 10 12 ||| ((1 : Int32) <<< (nI v &&& 31)))), (mr_sa_o hN hmr).2, hSu, fun hL2 => by rw [hr hL2, (mr_sa_o hN hmr).1]; exact md_6 hMD hI hFm (rdN_le (h := 7) (by decide) hN), frD_w2 (by omega) ((frD_w2 (by omega) frD_0).trans hFm.d)⟩)
set_option maxHeartbeats 4000000 in
set_option maxRecDepth 100000 in
theorem rl_c {I D : Wo} {b : Nat → Nat} {q p n m : Nat} (hM : MB I b q) (hS : Sn I b q p) (hpq : p ≤ q) (hMD : MDn I D n m) (hI : DIn D n m) (hn8 : n < 8) (sd : Int32) (hsd : sd = 0 ∨ sd = 1 ∨ sd = 2) : Ct yX7_readLineOf cX7_readLineOf 3 none 4 93 [.ref 57, .int sd] I (pV (fun u => (∃ e : Nat × Nat, bW b q sd n p D = .error e ∧ Er u e ∧ FrD I u) ∨ (∃ x : Nat × Wo, bW b q sd n p D = .ok x ∧ Sn u b q x.1 ∧ (Ld u b q x.1 → MDn u x.2 (n + 1) m) ∧ FrD I u))) := by
  refine ct_of RX7 rfl (by decide) (Nat.le_of_ble_eq_true rfl) (fun X B E => ?_)
  show GW X 3 0 [some (.ref 57), some (.int sd), none] [] _
  refine g_iload_n B dX7_readLineOf_0 rfl ?_
  refine g_tableOut B 154 dX7_readLineOf_1 (by rcases hsd with rfl | rfl | rfl <;> decide) (by decide) ?_
  refine g_aload_n B dX7_readLineOf_154 rfl ?_
  refine g_iload_n B dX7_readLineOf_155 rfl ?_
  refine g_callVV B (ct_X7_readWhole hM hS hpq hMD hn8 sd) (by first | rfl | assumption) rfl ml_X7_147 mm_X7_readWhole rfl rfl (Nat.le_of_ble_eq_true rfl) dX7_readLineOf_156 (by decide) ?_
  rintro u hu
  exact g_vret B E dX7_readLineOf_159 (hu.imp id (fun ⟨x, h1, h2, h3, h4⟩ => ⟨x, h1, h2, fun _ => h3, h4⟩))
set_option maxHeartbeats 4000000 in
set_option maxRecDepth 100000 in
theorem rd_0 {I D : Wo} {b : Nat → Nat} {q p0 n m : Nat} (hM : MB I b q) (hL : Ld I b q p0) (hMD : MDn I D n m) (hI : DIn D n m) (htb : I 57 11 = tb D) (hk1 : tK b q p0 = 1) (hlk : lnK b (tS b q p0) (tE b q p0) = 0) : Ct yX7_readLine cX7_readLine 2 none 5 115 [.ref 57] I (pV (fun u => RlR I u b q (thenS b q (bCl b q 0 n (tS b q p0) (tE b q p0) D)))) := by
  obtain ⟨h19, h16, h17, h15, h18, hB, hpq⟩ := id hL
  have hE1 := tE_ge b hpq
  have hS1 := tS_le b hpq
  have hK4 := tK_le b q p0
  have hn8 := hI.n8
  have hm6 := hI.m6
  refine ct_of RX7 rfl (by decide) (Nat.le_of_ble_eq_true rfl) (fun X B E => ?_)
  show GW X 2 0 [some (.ref 57), none] [] _
  refine g_aload_n B dX7_readLine_0 rfl ?_
  refine g_geti B ci_X7 (by first | rfl | assumption) rfl (by decide) fl_X7_108 dX7_readLine_1 ?_
  rw [h17]
  refine g_iconst B (v := 1) dX7_readLine_4 (by decide) ?_
  refine g_icmp_ne B 15 dX7_readLine_5 (by decide) (fun h5 => ?_) (fun h5 => ?_)
  · rw [show (1 : Int32) = nI 1 from rfl, nI_eq (by omega) (by decide)] at h5
    exact absurd hk1 h5
  · clear h5
    refine g_aload_n B dX7_readLine_8 rfl ?_
    refine g_callVI B (ct_X7_lineNow hM hL) (by first | rfl | assumption) rfl ml_X7_151 mm_X7_lineNow rfl rfl (Nat.le_of_ble_eq_true rfl) dX7_readLine_9 (by decide) ?_
    rintro r9 _ ⟨h9, rfl⟩
    rw [h9, hlk]
    refine g_goto B 17 dX7_readLine_12 (by decide) ?_
    refine g_istn1 B dX7_readLine_17 (by decide) rfl ?_
    refine g_aload_n B dX7_readLine_18 rfl ?_
    refine g_iload_n B dX7_readLine_19 rfl ?_
    refine g_bipush B (v := (-4)) dX7_readLine_20 (by decide) ?_
    refine g_icmp_eq B 29 dX7_readLine_22 (by decide) (fun h22 => ?_) (fun h22 => ?_)
    · exact absurd h22 (by decide)
    · refine g_iconst B (v := 1) dX7_readLine_25 (by decide) ?_
      refine g_goto B 30 dX7_readLine_26 (by decide) ?_
      refine g_eqi (bI true) rfl ?_
      refine g_iconst B (v := 2) dX7_readLine_30 (by decide) ?_
      refine g_callVV B (ct_X7_needs true 2) (by first | rfl | assumption) rfl ml_X7_122 mm_X7_needs rfl rfl (Nat.le_of_ble_eq_true rfl) dX7_readLine_31 (by decide) ?_
      rintro _ (⟨hg, rfl⟩ | ⟨hg, hf0, rfl⟩)
      · refine g_aload_n B dX7_readLine_34 rfl ?_
        refine g_iload_n B dX7_readLine_35 rfl ?_
        refine g_iconst B (v := 2) dX7_readLine_36 (by decide) ?_
        refine g_icmp_gt B 49 dX7_readLine_37 (by decide) (fun h37 => ?_) (fun h37 => ?_)
        · exact absurd h37 (by decide)
        · refine g_aload_n B dX7_readLine_40 rfl ?_
          refine g_geti B ci_X7 (by first | rfl | assumption) rfl (by decide) fl_X7_62 dX7_readLine_41 ?_
          rw [hMD.c7]
          refine g_bipush B (v := 8) dX7_readLine_44 (by decide) ?_
          refine g_icmp_ge B 70 dX7_readLine_46 (by decide) (fun h46 => ?_) (fun h46 => ?_)
          · replace h46 := le_le (a := 8) (b := n) (by decide) (by omega) h46
            refine g_iconst B (v := 0) dX7_readLine_70 (by decide) ?_
            refine g_eqi (bI false) rfl ?_
            refine g_iconst B (v := 5) dX7_readLine_71 (by decide) ?_
            refine g_callVV B (ct_X7_needs false 5) (by first | rfl | assumption) rfl ml_X7_122 mm_X7_needs rfl rfl (Nat.le_of_ble_eq_true rfl) dX7_readLine_72 (by decide) ?_
            rintro _ (⟨hg, rfl⟩ | ⟨hg, hf0, rfl⟩)
            · exact absurd hg (by simp [h19])
            · refine g_aload_n B dX7_readLine_75 rfl ?_
              refine g_geti B ci_X7 (by first | rfl | assumption) rfl (by decide) fl_X7_84 dX7_readLine_76 ?_
              rw [show (w2 (w2 I 57 19 5) 57 20 (I 57 16)) 57 19 = 5 from rfl]
              refine g_if_ne B 129 dX7_readLine_79 (by decide) (fun h79 => ?_) (fun h79 => ?_)
              · refine g_aload_n B dX7_readLine_129 rfl ?_
                refine g_callVV B (cn_next (I := w2 (w2 I 57 19 5) 57 20 (I 57 16)) (e := (5, tS b q p0)) ⟨rfl, h16, (er8 rfl).1, (er8 rfl).2⟩) (by first | rfl | assumption) rfl ml_X7_130 mm_X7_next rfl rfl (Nat.le_of_ble_eq_true rfl) dX7_readLine_130 (by decide) ?_
                rintro _ rfl
                refine g_aload_n B dX7_readLine_133 rfl ?_
                refine g_geti B ci_X7 (by first | rfl | assumption) rfl (by decide) fl_X7_84 dX7_readLine_134 ?_
                rw [show (w2 (w2 I 57 19 5) 57 20 (I 57 16)) 57 19 = 5 from rfl]
                refine g_if_le B 141 dX7_readLine_137 (by decide) (fun h137 => ?_) (fun h137 => ?_)
                · exact absurd h137 (show ¬ (5 : Int32) ≤ 0 by decide)
                · exact g_vret B E dX7_readLine_140 (rl_er (e := (5, tS b q p0)) (by rw [bCl, if_pos h46]; rfl) ⟨rfl, h16, (er8 rfl).1, (er8 rfl).2⟩ (frL_w2 (by omega) (frL_w2 (by omega) frL_0)))
              · exact absurd h79 (by decide)
          · replace h46 := nle_lt (a := 8) (b := n) (by decide) (by omega) h46
            refine g_iload_n B dX7_readLine_49 rfl ?_
            refine g_iconst B (v := 5) dX7_readLine_50 (by decide) ?_
            refine g_icmp_ne B 66 dX7_readLine_51 (by decide) (fun h51 => ?_) (fun h51 => ?_)
            · refine g_iconst B (v := 1) dX7_readLine_66 (by decide) ?_
              refine g_goto B 71 dX7_readLine_67 (by decide) ?_
              refine g_eqi (bI true) rfl ?_
              refine g_iconst B (v := 5) dX7_readLine_71 (by decide) ?_
              refine g_callVV B (ct_X7_needs true 5) (by first | rfl | assumption) rfl ml_X7_122 mm_X7_needs rfl rfl (Nat.le_of_ble_eq_true rfl) dX7_readLine_72 (by decide) ?_
              rintro _ (⟨hg, rfl⟩ | ⟨hg, hf0, rfl⟩)
              · refine g_aload_n B dX7_readLine_75 rfl ?_
                refine g_geti B ci_X7 (by first | rfl | assumption) rfl (by decide) fl_X7_84 dX7_readLine_76 ?_
                rw [h19]
                refine g_if_ne B 129 dX7_readLine_79 (by decide) (fun h79 => ?_) (fun h79 => ?_)
                · exact absurd rfl h79
                · refine g_iload_n B dX7_readLine_82 rfl ?_
                  refine g_i2l B dX7_readLine_83 ?_
                  refine g_ldc2 B dX7_readLine_84 cn_X7_154 ?_
                  refine g_ldc2 B dX7_readLine_87 cn_X7_156 ?_
                  refine g_callSI B (ct_in 0 3 4 rfl (by decide) (by decide)) ml_X7_77 mm_X7_in rfl rfl (Nat.le_of_ble_eq_true rfl) dX7_readLine_90 (by decide) ?_
                  rintro _ _ ⟨rfl, rfl⟩
                  refine g_if_eq B 129 dX7_readLine_93 (by decide) (fun h93 => ?_) (fun h93 => ?_)
                  · rw [bI_eq0] at h93
                    refine g_aload_n B dX7_readLine_129 rfl ?_
                    refine g_callVV B (ct_X7_next (I := I) (p := (tE b q p0)) (hM.frL (frL_0)) h19 h15 hE1.2) (by first | rfl | assumption) rfl ml_X7_130 mm_X7_next rfl rfl (Nat.le_of_ble_eq_true rfl) dX7_readLine_130 (by decide) ?_
                    rintro u2 ⟨hS2, hF2⟩
                    have hM2 : MB u2 b q := (hM.frL (frL_0)).frN hF2
                    have hMD2 : MDn u2 D n m := (hMD : MDn (I) D n m).frN hF2
                    have hFL2 : FrL I u2 := (frL_0).trans hF2.l
                    have h211 : u2 57 11 = tb D := (hF2 57 11 (fun _ => by decide)).trans htb
                    rcases hS2 with ⟨hB2, hE2⟩ | hL2
                    ·
                      refine g_aload_n B dX7_readLine_133 rfl ?_
                      refine g_geti B ci_X7 (by first | rfl | assumption) rfl (by decide) fl_X7_84 dX7_readLine_134 ?_
                      rw [hE2.1]
                      refine g_if_le B 141 dX7_readLine_137 (by decide) (fun h137 => ?_) (fun h137 => ?_)
                      · exact absurd h137 (show ¬ (1 : Int32) ≤ 0 by decide)
                      · exact g_vret B E dX7_readLine_140 (rl_er (e := (1, tS b q (tE b q p0))) (by rw [bCl, if_neg (show ¬ 8 ≤ n by omega), rdN, if_pos hB2]; rfl) hE2 hFL2)
                    ·
                      have hS2 : Sn u2 b q (tE b q p0) := Or.inr hL2
                      refine g_aload_n B dX7_readLine_133 rfl ?_
                      refine g_geti B ci_X7 (by first | rfl | assumption) rfl (by decide) fl_X7_84 dX7_readLine_134 ?_
                      rw [hL2.1]
                      refine g_if_le B 141 dX7_readLine_137 (by decide) (fun h137 => ?_) (fun h137 => ?_)
                      · refine g_aload_n B dX7_readLine_141 rfl ?_
                        refine g_iload_n B dX7_readLine_142 rfl ?_
                        refine g_callVV B (rl_c hM2 hS2 hE1.2 hMD2 hI (show n < 8 by omega) 0 (by decide)) (by first | rfl | assumption) rfl ml_X7_158 mm_X7_readLineOf rfl rfl (Nat.le_of_ble_eq_true rfl) dX7_readLine_143 (by decide) ?_
                        rintro u3 (⟨e, hk, hE3, hF3⟩ | ⟨x, hk, hS3, hD3, hF3⟩)
                        · have hbq : bCl b q 0 n (tS b q p0) (tE b q p0) D = bW b q 0 n (tE b q p0) D := bCl_bW (show ¬ 8 ≤ n by omega)
                          refine g_aload_n B dX7_readLine_146 rfl ?_
                          refine g_geti B ci_X7 (by first | rfl | assumption) rfl (by decide) fl_X7_84 dX7_readLine_147 ?_
                          rw [hE3.1]
                          refine g_if_ne B 171 dX7_readLine_150 (by decide) (fun h150 => ?_) (fun h150 => ?_)
                          · refine g_aload_n B dX7_readLine_171 rfl ?_
                            refine g_callVV B (cn_next hE3) (by first | rfl | assumption) rfl ml_X7_130 mm_X7_next rfl rfl (Nat.le_of_ble_eq_true rfl) dX7_readLine_172 (by decide) ?_
                            rintro _ rfl
                            exact g_vret B E dX7_readLine_175 (rl_er (e := e) (by rw [hbq, hk]; rfl) hE3 (hFL2.trans hF3.l))
                          · exact absurd ((nI_eq (by have := hE3.2.2.2; omega) (by decide)).mp h150) hE3.2.2.1
                        · have hbq : bCl b q 0 n (tS b q p0) (tE b q p0) D = bW b q 0 n (tE b q p0) D := bCl_bW (show ¬ 8 ≤ n by omega)
                          have hx9 : x.1 ≤ q := (bCl_ok hE1.2 hI (hbq.trans hk)).2.2
                          have hM3 : MB u3 b q := hM2.frD hF3
                          have hFL3 : FrL I u3 := hFL2.trans hF3.l
                          have h311 : u3 57 11 = tb D := (hF3 57 11 (fun _ => by decide) (by decide)).trans h211
                          rcases hS3 with ⟨hB3, hE3⟩ | hL3
                          ·
                            refine g_aload_n B dX7_readLine_146 rfl ?_
                            refine g_geti B ci_X7 (by first | rfl | assumption) rfl (by decide) fl_X7_84 dX7_readLine_147 ?_
                            rw [hE3.1]
                            refine g_if_ne B 171 dX7_readLine_150 (by decide) (fun h150 => ?_) (fun h150 => ?_)
                            · refine g_aload_n B dX7_readLine_171 rfl ?_
                              refine g_callVV B (cn_next hE3) (by first | rfl | assumption) rfl ml_X7_130 mm_X7_next rfl rfl (Nat.le_of_ble_eq_true rfl) dX7_readLine_172 (by decide) ?_
                              rintro _ rfl
                              exact g_vret B E dX7_readLine_175 (rl_er (e := (1, tS b q x.1)) (by rw [hbq, hk]; simp only [thenS, rdT, if_pos hB3]) hE3 hFL3)
                            · exact absurd ((nI_eq (by have := hE3.2.2.2; omega) (by decide)).mp h150) hE3.2.2.1
                          ·
                            have hD4 := hD3 hL3
                            have hK5 := tK_le b q x.1
                            have hE5 := tE_ge b hx9
                            refine g_aload_n B dX7_readLine_146 rfl ?_
                            refine g_geti B ci_X7 (by first | rfl | assumption) rfl (by decide) fl_X7_84 dX7_readLine_147 ?_
                            rw [hL3.1]
                            refine g_if_ne B 171 dX7_readLine_150 (by decide) (fun h150 => ?_) (fun h150 => ?_)
                            · exact absurd rfl h150
                            · refine g_aload_n B dX7_readLine_153 rfl ?_
                              refine g_aload_n B dX7_readLine_154 rfl ?_
                              refine g_geti B ci_X7 (by first | rfl | assumption) rfl (by decide) fl_X7_108 dX7_readLine_155 ?_
                              rw [hL3.2.2.1]
                              refine g_iconst B (v := 3) dX7_readLine_158 (by decide) ?_
                              refine g_icmp_ne B 166 dX7_readLine_159 (by decide) (fun h159 => ?_) (fun h159 => ?_)
                              · rw [show (3 : Int32) = nI 3 from rfl, nI_eq (by omega) (by decide)] at h159
                                refine g_iconst B (v := 0) dX7_readLine_166 (by decide) ?_
                                refine g_eqi (bI false) rfl ?_
                                refine g_iconst B (v := 2) dX7_readLine_167 (by decide) ?_
                                refine g_callVV B (ct_X7_needs false 2) (by first | rfl | assumption) rfl ml_X7_122 mm_X7_needs rfl rfl (Nat.le_of_ble_eq_true rfl) dX7_readLine_168 (by decide) ?_
                                rintro _ (⟨hg, rfl⟩ | ⟨hg, hf0, rfl⟩)
                                · exact absurd hg (by simp [hL3.1])
                                · have hE4 : Er (w2 (w2 u3 57 19 2) 57 20 (u3 57 16)) (2, tS b q x.1) := ⟨rfl, hL3.2.1, (er8 rfl).1, (er8 rfl).2⟩
                                  refine g_aload_n B dX7_readLine_171 rfl ?_
                                  refine g_callVV B (cn_next hE4) (by first | rfl | assumption) rfl ml_X7_130 mm_X7_next rfl rfl (Nat.le_of_ble_eq_true rfl) dX7_readLine_172 (by decide) ?_
                                  rintro _ rfl
                                  exact g_vret B E dX7_readLine_175 (rl_er (e := (2, tS b q x.1)) (by rw [hbq, hk]; simp only [thenS, rdT, if_neg (ne_t hL3.2.2.2.2.2.1), if_neg h159]) hE4 (hFL3.trans (frL_w2 (by omega) (frL_w2 (by omega) frL_0))))
                              · rw [show (3 : Int32) = nI 3 from rfl, nI_eq (by omega) (by decide)] at h159
                                refine g_iconst B (v := 1) dX7_readLine_162 (by decide) ?_
                                refine g_goto B 167 dX7_readLine_163 (by decide) ?_
                                refine g_eqi (bI true) rfl ?_
                                refine g_iconst B (v := 2) dX7_readLine_167 (by decide) ?_
                                refine g_callVV B (ct_X7_needs true 2) (by first | rfl | assumption) rfl ml_X7_122 mm_X7_needs rfl rfl (Nat.le_of_ble_eq_true rfl) dX7_readLine_168 (by decide) ?_
                                rintro _ (⟨hg, rfl⟩ | ⟨hg, hf0, rfl⟩)
                                · refine g_aload_n B dX7_readLine_171 rfl ?_
                                  refine g_callVV B (ct_X7_next (p := tE b q x.1) hM3 hL3.1 hL3.2.2.2.1 hE5.2) (by first | rfl | assumption) rfl ml_X7_130 mm_X7_next rfl rfl (Nat.le_of_ble_eq_true rfl) dX7_readLine_172 (by decide) ?_
                                  rintro u4 ⟨hS4, hF4⟩
                                  exact g_vret B E dX7_readLine_175 (rl_ok (x := (tE b q x.1, x.2)) (by rw [hbq, hk]; simp only [thenS, rdT, if_neg (ne_t hL3.2.2.2.2.2.1), if_pos h159]) hS4 (hD4.frN hF4) (by rw [hF4 57 11 (fun _ => by decide), h311]; exact (show _ = tb x.2 from tb_cl hk)) (hFL3.trans hF4.l))
                                · exact absurd hg (by decide)
                      · exact absurd (by decide) h137
                  · rw [bI_ne0] at h93
                    exact absurd h93 (by decide)
              · exact absurd hg (by decide)
            · exact absurd h51 (by decide)
      · exact absurd hg (by decide)
set_option maxHeartbeats 4000000 in
set_option maxRecDepth 100000 in
theorem rd_1 {I D : Wo} {b : Nat → Nat} {q p0 n m : Nat} (hM : MB I b q) (hL : Ld I b q p0) (hMD : MDn I D n m) (hI : DIn D n m) (htb : I 57 11 = tb D) (hk1 : tK b q p0 = 1) (hlk : lnK b (tS b q p0) (tE b q p0) = 1) : Ct yX7_readLine cX7_readLine 2 none 5 115 [.ref 57] I (pV (fun u => RlR I u b q (thenS b q (bCl b q 1 n (tS b q p0) (tE b q p0) D)))) := by
  obtain ⟨h19, h16, h17, h15, h18, hB, hpq⟩ := id hL
  have hE1 := tE_ge b hpq
  have hS1 := tS_le b hpq
  have hK4 := tK_le b q p0
  have hn8 := hI.n8
  have hm6 := hI.m6
  refine ct_of RX7 rfl (by decide) (Nat.le_of_ble_eq_true rfl) (fun X B E => ?_)
  show GW X 2 0 [some (.ref 57), none] [] _
  refine g_aload_n B dX7_readLine_0 rfl ?_
  refine g_geti B ci_X7 (by first | rfl | assumption) rfl (by decide) fl_X7_108 dX7_readLine_1 ?_
  rw [h17]
  refine g_iconst B (v := 1) dX7_readLine_4 (by decide) ?_
  refine g_icmp_ne B 15 dX7_readLine_5 (by decide) (fun h5 => ?_) (fun h5 => ?_)
  · rw [show (1 : Int32) = nI 1 from rfl, nI_eq (by omega) (by decide)] at h5
    exact absurd hk1 h5
  · clear h5
    refine g_aload_n B dX7_readLine_8 rfl ?_
    refine g_callVI B (ct_X7_lineNow hM hL) (by first | rfl | assumption) rfl ml_X7_151 mm_X7_lineNow rfl rfl (Nat.le_of_ble_eq_true rfl) dX7_readLine_9 (by decide) ?_
    rintro r9 _ ⟨h9, rfl⟩
    rw [h9, hlk]
    refine g_goto B 17 dX7_readLine_12 (by decide) ?_
    refine g_istn1 B dX7_readLine_17 (by decide) rfl ?_
    refine g_aload_n B dX7_readLine_18 rfl ?_
    refine g_iload_n B dX7_readLine_19 rfl ?_
    refine g_bipush B (v := (-4)) dX7_readLine_20 (by decide) ?_
    refine g_icmp_eq B 29 dX7_readLine_22 (by decide) (fun h22 => ?_) (fun h22 => ?_)
    · exact absurd h22 (by decide)
    · refine g_iconst B (v := 1) dX7_readLine_25 (by decide) ?_
      refine g_goto B 30 dX7_readLine_26 (by decide) ?_
      refine g_eqi (bI true) rfl ?_
      refine g_iconst B (v := 2) dX7_readLine_30 (by decide) ?_
      refine g_callVV B (ct_X7_needs true 2) (by first | rfl | assumption) rfl ml_X7_122 mm_X7_needs rfl rfl (Nat.le_of_ble_eq_true rfl) dX7_readLine_31 (by decide) ?_
      rintro _ (⟨hg, rfl⟩ | ⟨hg, hf0, rfl⟩)
      · refine g_aload_n B dX7_readLine_34 rfl ?_
        refine g_iload_n B dX7_readLine_35 rfl ?_
        refine g_iconst B (v := 2) dX7_readLine_36 (by decide) ?_
        refine g_icmp_gt B 49 dX7_readLine_37 (by decide) (fun h37 => ?_) (fun h37 => ?_)
        · exact absurd h37 (by decide)
        · refine g_aload_n B dX7_readLine_40 rfl ?_
          refine g_geti B ci_X7 (by first | rfl | assumption) rfl (by decide) fl_X7_62 dX7_readLine_41 ?_
          rw [hMD.c7]
          refine g_bipush B (v := 8) dX7_readLine_44 (by decide) ?_
          refine g_icmp_ge B 70 dX7_readLine_46 (by decide) (fun h46 => ?_) (fun h46 => ?_)
          · replace h46 := le_le (a := 8) (b := n) (by decide) (by omega) h46
            refine g_iconst B (v := 0) dX7_readLine_70 (by decide) ?_
            refine g_eqi (bI false) rfl ?_
            refine g_iconst B (v := 5) dX7_readLine_71 (by decide) ?_
            refine g_callVV B (ct_X7_needs false 5) (by first | rfl | assumption) rfl ml_X7_122 mm_X7_needs rfl rfl (Nat.le_of_ble_eq_true rfl) dX7_readLine_72 (by decide) ?_
            rintro _ (⟨hg, rfl⟩ | ⟨hg, hf0, rfl⟩)
            · exact absurd hg (by simp [h19])
            · refine g_aload_n B dX7_readLine_75 rfl ?_
              refine g_geti B ci_X7 (by first | rfl | assumption) rfl (by decide) fl_X7_84 dX7_readLine_76 ?_
              rw [show (w2 (w2 I 57 19 5) 57 20 (I 57 16)) 57 19 = 5 from rfl]
              refine g_if_ne B 129 dX7_readLine_79 (by decide) (fun h79 => ?_) (fun h79 => ?_)
              · refine g_aload_n B dX7_readLine_129 rfl ?_
                refine g_callVV B (cn_next (I := w2 (w2 I 57 19 5) 57 20 (I 57 16)) (e := (5, tS b q p0)) ⟨rfl, h16, (er8 rfl).1, (er8 rfl).2⟩) (by first | rfl | assumption) rfl ml_X7_130 mm_X7_next rfl rfl (Nat.le_of_ble_eq_true rfl) dX7_readLine_130 (by decide) ?_
                rintro _ rfl
                refine g_aload_n B dX7_readLine_133 rfl ?_
                refine g_geti B ci_X7 (by first | rfl | assumption) rfl (by decide) fl_X7_84 dX7_readLine_134 ?_
                rw [show (w2 (w2 I 57 19 5) 57 20 (I 57 16)) 57 19 = 5 from rfl]
                refine g_if_le B 141 dX7_readLine_137 (by decide) (fun h137 => ?_) (fun h137 => ?_)
                · exact absurd h137 (show ¬ (5 : Int32) ≤ 0 by decide)
                · exact g_vret B E dX7_readLine_140 (rl_er (e := (5, tS b q p0)) (by rw [bCl, if_pos h46]; rfl) ⟨rfl, h16, (er8 rfl).1, (er8 rfl).2⟩ (frL_w2 (by omega) (frL_w2 (by omega) frL_0)))
              · exact absurd h79 (by decide)
          · replace h46 := nle_lt (a := 8) (b := n) (by decide) (by omega) h46
            refine g_iload_n B dX7_readLine_49 rfl ?_
            refine g_iconst B (v := 5) dX7_readLine_50 (by decide) ?_
            refine g_icmp_ne B 66 dX7_readLine_51 (by decide) (fun h51 => ?_) (fun h51 => ?_)
            · refine g_iconst B (v := 1) dX7_readLine_66 (by decide) ?_
              refine g_goto B 71 dX7_readLine_67 (by decide) ?_
              refine g_eqi (bI true) rfl ?_
              refine g_iconst B (v := 5) dX7_readLine_71 (by decide) ?_
              refine g_callVV B (ct_X7_needs true 5) (by first | rfl | assumption) rfl ml_X7_122 mm_X7_needs rfl rfl (Nat.le_of_ble_eq_true rfl) dX7_readLine_72 (by decide) ?_
              rintro _ (⟨hg, rfl⟩ | ⟨hg, hf0, rfl⟩)
              · refine g_aload_n B dX7_readLine_75 rfl ?_
                refine g_geti B ci_X7 (by first | rfl | assumption) rfl (by decide) fl_X7_84 dX7_readLine_76 ?_
                rw [h19]
                refine g_if_ne B 129 dX7_readLine_79 (by decide) (fun h79 => ?_) (fun h79 => ?_)
                · exact absurd rfl h79
                · refine g_iload_n B dX7_readLine_82 rfl ?_
                  refine g_i2l B dX7_readLine_83 ?_
                  refine g_ldc2 B dX7_readLine_84 cn_X7_154 ?_
                  refine g_ldc2 B dX7_readLine_87 cn_X7_156 ?_
                  refine g_callSI B (ct_in 1 3 4 rfl (by decide) (by decide)) ml_X7_77 mm_X7_in rfl rfl (Nat.le_of_ble_eq_true rfl) dX7_readLine_90 (by decide) ?_
                  rintro _ _ ⟨rfl, rfl⟩
                  refine g_if_eq B 129 dX7_readLine_93 (by decide) (fun h93 => ?_) (fun h93 => ?_)
                  · rw [bI_eq0] at h93
                    refine g_aload_n B dX7_readLine_129 rfl ?_
                    refine g_callVV B (ct_X7_next (I := I) (p := (tE b q p0)) (hM.frL (frL_0)) h19 h15 hE1.2) (by first | rfl | assumption) rfl ml_X7_130 mm_X7_next rfl rfl (Nat.le_of_ble_eq_true rfl) dX7_readLine_130 (by decide) ?_
                    rintro u2 ⟨hS2, hF2⟩
                    have hM2 : MB u2 b q := (hM.frL (frL_0)).frN hF2
                    have hMD2 : MDn u2 D n m := (hMD : MDn (I) D n m).frN hF2
                    have hFL2 : FrL I u2 := (frL_0).trans hF2.l
                    have h211 : u2 57 11 = tb D := (hF2 57 11 (fun _ => by decide)).trans htb
                    rcases hS2 with ⟨hB2, hE2⟩ | hL2
                    ·
                      refine g_aload_n B dX7_readLine_133 rfl ?_
                      refine g_geti B ci_X7 (by first | rfl | assumption) rfl (by decide) fl_X7_84 dX7_readLine_134 ?_
                      rw [hE2.1]
                      refine g_if_le B 141 dX7_readLine_137 (by decide) (fun h137 => ?_) (fun h137 => ?_)
                      · exact absurd h137 (show ¬ (1 : Int32) ≤ 0 by decide)
                      · exact g_vret B E dX7_readLine_140 (rl_er (e := (1, tS b q (tE b q p0))) (by rw [bCl, if_neg (show ¬ 8 ≤ n by omega), rdN, if_pos hB2]; rfl) hE2 hFL2)
                    ·
                      have hS2 : Sn u2 b q (tE b q p0) := Or.inr hL2
                      refine g_aload_n B dX7_readLine_133 rfl ?_
                      refine g_geti B ci_X7 (by first | rfl | assumption) rfl (by decide) fl_X7_84 dX7_readLine_134 ?_
                      rw [hL2.1]
                      refine g_if_le B 141 dX7_readLine_137 (by decide) (fun h137 => ?_) (fun h137 => ?_)
                      · refine g_aload_n B dX7_readLine_141 rfl ?_
                        refine g_iload_n B dX7_readLine_142 rfl ?_
                        refine g_callVV B (rl_c hM2 hS2 hE1.2 hMD2 hI (show n < 8 by omega) 1 (by decide)) (by first | rfl | assumption) rfl ml_X7_158 mm_X7_readLineOf rfl rfl (Nat.le_of_ble_eq_true rfl) dX7_readLine_143 (by decide) ?_
                        rintro u3 (⟨e, hk, hE3, hF3⟩ | ⟨x, hk, hS3, hD3, hF3⟩)
                        · have hbq : bCl b q 1 n (tS b q p0) (tE b q p0) D = bW b q 1 n (tE b q p0) D := bCl_bW (show ¬ 8 ≤ n by omega)
                          refine g_aload_n B dX7_readLine_146 rfl ?_
                          refine g_geti B ci_X7 (by first | rfl | assumption) rfl (by decide) fl_X7_84 dX7_readLine_147 ?_
                          rw [hE3.1]
                          refine g_if_ne B 171 dX7_readLine_150 (by decide) (fun h150 => ?_) (fun h150 => ?_)
                          · refine g_aload_n B dX7_readLine_171 rfl ?_
                            refine g_callVV B (cn_next hE3) (by first | rfl | assumption) rfl ml_X7_130 mm_X7_next rfl rfl (Nat.le_of_ble_eq_true rfl) dX7_readLine_172 (by decide) ?_
                            rintro _ rfl
                            exact g_vret B E dX7_readLine_175 (rl_er (e := e) (by rw [hbq, hk]; rfl) hE3 (hFL2.trans hF3.l))
                          · exact absurd ((nI_eq (by have := hE3.2.2.2; omega) (by decide)).mp h150) hE3.2.2.1
                        · have hbq : bCl b q 1 n (tS b q p0) (tE b q p0) D = bW b q 1 n (tE b q p0) D := bCl_bW (show ¬ 8 ≤ n by omega)
                          have hx9 : x.1 ≤ q := (bCl_ok hE1.2 hI (hbq.trans hk)).2.2
                          have hM3 : MB u3 b q := hM2.frD hF3
                          have hFL3 : FrL I u3 := hFL2.trans hF3.l
                          have h311 : u3 57 11 = tb D := (hF3 57 11 (fun _ => by decide) (by decide)).trans h211
                          rcases hS3 with ⟨hB3, hE3⟩ | hL3
                          ·
                            refine g_aload_n B dX7_readLine_146 rfl ?_
                            refine g_geti B ci_X7 (by first | rfl | assumption) rfl (by decide) fl_X7_84 dX7_readLine_147 ?_
                            rw [hE3.1]
                            refine g_if_ne B 171 dX7_readLine_150 (by decide) (fun h150 => ?_) (fun h150 => ?_)
                            · refine g_aload_n B dX7_readLine_171 rfl ?_
                              refine g_callVV B (cn_next hE3) (by first | rfl | assumption) rfl ml_X7_130 mm_X7_next rfl rfl (Nat.le_of_ble_eq_true rfl) dX7_readLine_172 (by decide) ?_
                              rintro _ rfl
                              exact g_vret B E dX7_readLine_175 (rl_er (e := (1, tS b q x.1)) (by rw [hbq, hk]; simp only [thenS, rdT, if_pos hB3]) hE3 hFL3)
                            · exact absurd ((nI_eq (by have := hE3.2.2.2; omega) (by decide)).mp h150) hE3.2.2.1
                          ·
                            have hD4 := hD3 hL3
                            have hK5 := tK_le b q x.1
                            have hE5 := tE_ge b hx9
                            refine g_aload_n B dX7_readLine_146 rfl ?_
                            refine g_geti B ci_X7 (by first | rfl | assumption) rfl (by decide) fl_X7_84 dX7_readLine_147 ?_
                            rw [hL3.1]
                            refine g_if_ne B 171 dX7_readLine_150 (by decide) (fun h150 => ?_) (fun h150 => ?_)
                            · exact absurd rfl h150
                            · refine g_aload_n B dX7_readLine_153 rfl ?_
                              refine g_aload_n B dX7_readLine_154 rfl ?_
                              refine g_geti B ci_X7 (by first | rfl | assumption) rfl (by decide) fl_X7_108 dX7_readLine_155 ?_
                              rw [hL3.2.2.1]
                              refine g_iconst B (v := 3) dX7_readLine_158 (by decide) ?_
                              refine g_icmp_ne B 166 dX7_readLine_159 (by decide) (fun h159 => ?_) (fun h159 => ?_)
                              · rw [show (3 : Int32) = nI 3 from rfl, nI_eq (by omega) (by decide)] at h159
                                refine g_iconst B (v := 0) dX7_readLine_166 (by decide) ?_
                                refine g_eqi (bI false) rfl ?_
                                refine g_iconst B (v := 2) dX7_readLine_167 (by decide) ?_
                                refine g_callVV B (ct_X7_needs false 2) (by first | rfl | assumption) rfl ml_X7_122 mm_X7_needs rfl rfl (Nat.le_of_ble_eq_true rfl) dX7_readLine_168 (by decide) ?_
                                rintro _ (⟨hg, rfl⟩ | ⟨hg, hf0, rfl⟩)
                                · exact absurd hg (by simp [hL3.1])
                                · have hE4 : Er (w2 (w2 u3 57 19 2) 57 20 (u3 57 16)) (2, tS b q x.1) := ⟨rfl, hL3.2.1, (er8 rfl).1, (er8 rfl).2⟩
                                  refine g_aload_n B dX7_readLine_171 rfl ?_
                                  refine g_callVV B (cn_next hE4) (by first | rfl | assumption) rfl ml_X7_130 mm_X7_next rfl rfl (Nat.le_of_ble_eq_true rfl) dX7_readLine_172 (by decide) ?_
                                  rintro _ rfl
                                  exact g_vret B E dX7_readLine_175 (rl_er (e := (2, tS b q x.1)) (by rw [hbq, hk]; simp only [thenS, rdT, if_neg (ne_t hL3.2.2.2.2.2.1), if_neg h159]) hE4 (hFL3.trans (frL_w2 (by omega) (frL_w2 (by omega) frL_0))))
                              · rw [show (3 : Int32) = nI 3 from rfl, nI_eq (by omega) (by decide)] at h159
                                refine g_iconst B (v := 1) dX7_readLine_162 (by decide) ?_
                                refine g_goto B 167 dX7_readLine_163 (by decide) ?_
                                refine g_eqi (bI true) rfl ?_
                                refine g_iconst B (v := 2) dX7_readLine_167 (by decide) ?_
                                refine g_callVV B (ct_X7_needs true 2) (by first | rfl | assumption) rfl ml_X7_122 mm_X7_needs rfl rfl (Nat.le_of_ble_eq_true rfl) dX7_readLine_168 (by decide) ?_
                                rintro _ (⟨hg, rfl⟩ | ⟨hg, hf0, rfl⟩)
                                · refine g_aload_n B dX7_readLine_171 rfl ?_
                                  refine g_callVV B (ct_X7_next (p := tE b q x.1) hM3 hL3.1 hL3.2.2.2.1 hE5.2) (by first | rfl | assumption) rfl ml_X7_130 mm_X7_next rfl rfl (Nat.le_of_ble_eq_true rfl) dX7_readLine_172 (by decide) ?_
                                  rintro u4 ⟨hS4, hF4⟩
                                  exact g_vret B E dX7_readLine_175 (rl_ok (x := (tE b q x.1, x.2)) (by rw [hbq, hk]; simp only [thenS, rdT, if_neg (ne_t hL3.2.2.2.2.2.1), if_pos h159]) hS4 (hD4.frN hF4) (by rw [hF4 57 11 (fun _ => by decide), h311]; exact (show _ = tb x.2 from tb_cl hk)) (hFL3.trans hF4.l))
                                · exact absurd hg (by decide)
                      · exact absurd (by decide) h137
                  · rw [bI_ne0] at h93
                    exact absurd h93 (by decide)
              · exact absurd hg (by decide)
            · exact absurd h51 (by decide)
      · exact absurd hg (by decide)
set_option maxHeartbeats 4000000 in
set_option maxRecDepth 100000 in
theorem rd_2 {I D : Wo} {b : Nat → Nat} {q p0 n m : Nat} (hM : MB I b q) (hL : Ld I b q p0) (hMD : MDn I D n m) (hI : DIn D n m) (htb : I 57 11 = tb D) (hk1 : tK b q p0 = 1) (hlk : lnK b (tS b q p0) (tE b q p0) = 2) : Ct yX7_readLine cX7_readLine 2 none 5 115 [.ref 57] I (pV (fun u => RlR I u b q (thenS b q (bCl b q 2 n (tS b q p0) (tE b q p0) D)))) := by
  obtain ⟨h19, h16, h17, h15, h18, hB, hpq⟩ := id hL
  have hE1 := tE_ge b hpq
  have hS1 := tS_le b hpq
  have hK4 := tK_le b q p0
  have hn8 := hI.n8
  have hm6 := hI.m6
  refine ct_of RX7 rfl (by decide) (Nat.le_of_ble_eq_true rfl) (fun X B E => ?_)
  show GW X 2 0 [some (.ref 57), none] [] _
  refine g_aload_n B dX7_readLine_0 rfl ?_
  refine g_geti B ci_X7 (by first | rfl | assumption) rfl (by decide) fl_X7_108 dX7_readLine_1 ?_
  rw [h17]
  refine g_iconst B (v := 1) dX7_readLine_4 (by decide) ?_
  refine g_icmp_ne B 15 dX7_readLine_5 (by decide) (fun h5 => ?_) (fun h5 => ?_)
  · rw [show (1 : Int32) = nI 1 from rfl, nI_eq (by omega) (by decide)] at h5
    exact absurd hk1 h5
  · clear h5
    refine g_aload_n B dX7_readLine_8 rfl ?_
    refine g_callVI B (ct_X7_lineNow hM hL) (by first | rfl | assumption) rfl ml_X7_151 mm_X7_lineNow rfl rfl (Nat.le_of_ble_eq_true rfl) dX7_readLine_9 (by decide) ?_
    rintro r9 _ ⟨h9, rfl⟩
    rw [h9, hlk]
    refine g_goto B 17 dX7_readLine_12 (by decide) ?_
    refine g_istn1 B dX7_readLine_17 (by decide) rfl ?_
    refine g_aload_n B dX7_readLine_18 rfl ?_
    refine g_iload_n B dX7_readLine_19 rfl ?_
    refine g_bipush B (v := (-4)) dX7_readLine_20 (by decide) ?_
    refine g_icmp_eq B 29 dX7_readLine_22 (by decide) (fun h22 => ?_) (fun h22 => ?_)
    · exact absurd h22 (by decide)
    · refine g_iconst B (v := 1) dX7_readLine_25 (by decide) ?_
      refine g_goto B 30 dX7_readLine_26 (by decide) ?_
      refine g_eqi (bI true) rfl ?_
      refine g_iconst B (v := 2) dX7_readLine_30 (by decide) ?_
      refine g_callVV B (ct_X7_needs true 2) (by first | rfl | assumption) rfl ml_X7_122 mm_X7_needs rfl rfl (Nat.le_of_ble_eq_true rfl) dX7_readLine_31 (by decide) ?_
      rintro _ (⟨hg, rfl⟩ | ⟨hg, hf0, rfl⟩)
      · refine g_aload_n B dX7_readLine_34 rfl ?_
        refine g_iload_n B dX7_readLine_35 rfl ?_
        refine g_iconst B (v := 2) dX7_readLine_36 (by decide) ?_
        refine g_icmp_gt B 49 dX7_readLine_37 (by decide) (fun h37 => ?_) (fun h37 => ?_)
        · exact absurd h37 (by decide)
        · refine g_aload_n B dX7_readLine_40 rfl ?_
          refine g_geti B ci_X7 (by first | rfl | assumption) rfl (by decide) fl_X7_62 dX7_readLine_41 ?_
          rw [hMD.c7]
          refine g_bipush B (v := 8) dX7_readLine_44 (by decide) ?_
          refine g_icmp_ge B 70 dX7_readLine_46 (by decide) (fun h46 => ?_) (fun h46 => ?_)
          · replace h46 := le_le (a := 8) (b := n) (by decide) (by omega) h46
            refine g_iconst B (v := 0) dX7_readLine_70 (by decide) ?_
            refine g_eqi (bI false) rfl ?_
            refine g_iconst B (v := 5) dX7_readLine_71 (by decide) ?_
            refine g_callVV B (ct_X7_needs false 5) (by first | rfl | assumption) rfl ml_X7_122 mm_X7_needs rfl rfl (Nat.le_of_ble_eq_true rfl) dX7_readLine_72 (by decide) ?_
            rintro _ (⟨hg, rfl⟩ | ⟨hg, hf0, rfl⟩)
            · exact absurd hg (by simp [h19])
            · refine g_aload_n B dX7_readLine_75 rfl ?_
              refine g_geti B ci_X7 (by first | rfl | assumption) rfl (by decide) fl_X7_84 dX7_readLine_76 ?_
              rw [show (w2 (w2 I 57 19 5) 57 20 (I 57 16)) 57 19 = 5 from rfl]
              refine g_if_ne B 129 dX7_readLine_79 (by decide) (fun h79 => ?_) (fun h79 => ?_)
              · refine g_aload_n B dX7_readLine_129 rfl ?_
                refine g_callVV B (cn_next (I := w2 (w2 I 57 19 5) 57 20 (I 57 16)) (e := (5, tS b q p0)) ⟨rfl, h16, (er8 rfl).1, (er8 rfl).2⟩) (by first | rfl | assumption) rfl ml_X7_130 mm_X7_next rfl rfl (Nat.le_of_ble_eq_true rfl) dX7_readLine_130 (by decide) ?_
                rintro _ rfl
                refine g_aload_n B dX7_readLine_133 rfl ?_
                refine g_geti B ci_X7 (by first | rfl | assumption) rfl (by decide) fl_X7_84 dX7_readLine_134 ?_
                rw [show (w2 (w2 I 57 19 5) 57 20 (I 57 16)) 57 19 = 5 from rfl]
                refine g_if_le B 141 dX7_readLine_137 (by decide) (fun h137 => ?_) (fun h137 => ?_)
                · exact absurd h137 (show ¬ (5 : Int32) ≤ 0 by decide)
                · exact g_vret B E dX7_readLine_140 (rl_er (e := (5, tS b q p0)) (by rw [bCl, if_pos h46]; rfl) ⟨rfl, h16, (er8 rfl).1, (er8 rfl).2⟩ (frL_w2 (by omega) (frL_w2 (by omega) frL_0)))
              · exact absurd h79 (by decide)
          · replace h46 := nle_lt (a := 8) (b := n) (by decide) (by omega) h46
            refine g_iload_n B dX7_readLine_49 rfl ?_
            refine g_iconst B (v := 5) dX7_readLine_50 (by decide) ?_
            refine g_icmp_ne B 66 dX7_readLine_51 (by decide) (fun h51 => ?_) (fun h51 => ?_)
            · refine g_iconst B (v := 1) dX7_readLine_66 (by decide) ?_
              refine g_goto B 71 dX7_readLine_67 (by decide) ?_
              refine g_eqi (bI true) rfl ?_
              refine g_iconst B (v := 5) dX7_readLine_71 (by decide) ?_
              refine g_callVV B (ct_X7_needs true 5) (by first | rfl | assumption) rfl ml_X7_122 mm_X7_needs rfl rfl (Nat.le_of_ble_eq_true rfl) dX7_readLine_72 (by decide) ?_
              rintro _ (⟨hg, rfl⟩ | ⟨hg, hf0, rfl⟩)
              · refine g_aload_n B dX7_readLine_75 rfl ?_
                refine g_geti B ci_X7 (by first | rfl | assumption) rfl (by decide) fl_X7_84 dX7_readLine_76 ?_
                rw [h19]
                refine g_if_ne B 129 dX7_readLine_79 (by decide) (fun h79 => ?_) (fun h79 => ?_)
                · exact absurd rfl h79
                · refine g_iload_n B dX7_readLine_82 rfl ?_
                  refine g_i2l B dX7_readLine_83 ?_
                  refine g_ldc2 B dX7_readLine_84 cn_X7_154 ?_
                  refine g_ldc2 B dX7_readLine_87 cn_X7_156 ?_
                  refine g_callSI B (ct_in 2 3 4 rfl (by decide) (by decide)) ml_X7_77 mm_X7_in rfl rfl (Nat.le_of_ble_eq_true rfl) dX7_readLine_90 (by decide) ?_
                  rintro _ _ ⟨rfl, rfl⟩
                  refine g_if_eq B 129 dX7_readLine_93 (by decide) (fun h93 => ?_) (fun h93 => ?_)
                  · rw [bI_eq0] at h93
                    refine g_aload_n B dX7_readLine_129 rfl ?_
                    refine g_callVV B (ct_X7_next (I := I) (p := (tE b q p0)) (hM.frL (frL_0)) h19 h15 hE1.2) (by first | rfl | assumption) rfl ml_X7_130 mm_X7_next rfl rfl (Nat.le_of_ble_eq_true rfl) dX7_readLine_130 (by decide) ?_
                    rintro u2 ⟨hS2, hF2⟩
                    have hM2 : MB u2 b q := (hM.frL (frL_0)).frN hF2
                    have hMD2 : MDn u2 D n m := (hMD : MDn (I) D n m).frN hF2
                    have hFL2 : FrL I u2 := (frL_0).trans hF2.l
                    have h211 : u2 57 11 = tb D := (hF2 57 11 (fun _ => by decide)).trans htb
                    rcases hS2 with ⟨hB2, hE2⟩ | hL2
                    ·
                      refine g_aload_n B dX7_readLine_133 rfl ?_
                      refine g_geti B ci_X7 (by first | rfl | assumption) rfl (by decide) fl_X7_84 dX7_readLine_134 ?_
                      rw [hE2.1]
                      refine g_if_le B 141 dX7_readLine_137 (by decide) (fun h137 => ?_) (fun h137 => ?_)
                      · exact absurd h137 (show ¬ (1 : Int32) ≤ 0 by decide)
                      · exact g_vret B E dX7_readLine_140 (rl_er (e := (1, tS b q (tE b q p0))) (by rw [bCl, if_neg (show ¬ 8 ≤ n by omega), rdN, if_pos hB2]; rfl) hE2 hFL2)
                    ·
                      have hS2 : Sn u2 b q (tE b q p0) := Or.inr hL2
                      refine g_aload_n B dX7_readLine_133 rfl ?_
                      refine g_geti B ci_X7 (by first | rfl | assumption) rfl (by decide) fl_X7_84 dX7_readLine_134 ?_
                      rw [hL2.1]
                      refine g_if_le B 141 dX7_readLine_137 (by decide) (fun h137 => ?_) (fun h137 => ?_)
                      · refine g_aload_n B dX7_readLine_141 rfl ?_
                        refine g_iload_n B dX7_readLine_142 rfl ?_
                        refine g_callVV B (rl_c hM2 hS2 hE1.2 hMD2 hI (show n < 8 by omega) 2 (by decide)) (by first | rfl | assumption) rfl ml_X7_158 mm_X7_readLineOf rfl rfl (Nat.le_of_ble_eq_true rfl) dX7_readLine_143 (by decide) ?_
                        rintro u3 (⟨e, hk, hE3, hF3⟩ | ⟨x, hk, hS3, hD3, hF3⟩)
                        · have hbq : bCl b q 2 n (tS b q p0) (tE b q p0) D = bW b q 2 n (tE b q p0) D := bCl_bW (show ¬ 8 ≤ n by omega)
                          refine g_aload_n B dX7_readLine_146 rfl ?_
                          refine g_geti B ci_X7 (by first | rfl | assumption) rfl (by decide) fl_X7_84 dX7_readLine_147 ?_
                          rw [hE3.1]
                          refine g_if_ne B 171 dX7_readLine_150 (by decide) (fun h150 => ?_) (fun h150 => ?_)
                          · refine g_aload_n B dX7_readLine_171 rfl ?_
                            refine g_callVV B (cn_next hE3) (by first | rfl | assumption) rfl ml_X7_130 mm_X7_next rfl rfl (Nat.le_of_ble_eq_true rfl) dX7_readLine_172 (by decide) ?_
                            rintro _ rfl
                            exact g_vret B E dX7_readLine_175 (rl_er (e := e) (by rw [hbq, hk]; rfl) hE3 (hFL2.trans hF3.l))
                          · exact absurd ((nI_eq (by have := hE3.2.2.2; omega) (by decide)).mp h150) hE3.2.2.1
                        · have hbq : bCl b q 2 n (tS b q p0) (tE b q p0) D = bW b q 2 n (tE b q p0) D := bCl_bW (show ¬ 8 ≤ n by omega)
                          have hx9 : x.1 ≤ q := (bCl_ok hE1.2 hI (hbq.trans hk)).2.2
                          have hM3 : MB u3 b q := hM2.frD hF3
                          have hFL3 : FrL I u3 := hFL2.trans hF3.l
                          have h311 : u3 57 11 = tb D := (hF3 57 11 (fun _ => by decide) (by decide)).trans h211
                          rcases hS3 with ⟨hB3, hE3⟩ | hL3
                          ·
                            refine g_aload_n B dX7_readLine_146 rfl ?_
                            refine g_geti B ci_X7 (by first | rfl | assumption) rfl (by decide) fl_X7_84 dX7_readLine_147 ?_
                            rw [hE3.1]
                            refine g_if_ne B 171 dX7_readLine_150 (by decide) (fun h150 => ?_) (fun h150 => ?_)
                            · refine g_aload_n B dX7_readLine_171 rfl ?_
                              refine g_callVV B (cn_next hE3) (by first | rfl | assumption) rfl ml_X7_130 mm_X7_next rfl rfl (Nat.le_of_ble_eq_true rfl) dX7_readLine_172 (by decide) ?_
                              rintro _ rfl
                              exact g_vret B E dX7_readLine_175 (rl_er (e := (1, tS b q x.1)) (by rw [hbq, hk]; simp only [thenS, rdT, if_pos hB3]) hE3 hFL3)
                            · exact absurd ((nI_eq (by have := hE3.2.2.2; omega) (by decide)).mp h150) hE3.2.2.1
                          ·
                            have hD4 := hD3 hL3
                            have hK5 := tK_le b q x.1
                            have hE5 := tE_ge b hx9
                            refine g_aload_n B dX7_readLine_146 rfl ?_
                            refine g_geti B ci_X7 (by first | rfl | assumption) rfl (by decide) fl_X7_84 dX7_readLine_147 ?_
                            rw [hL3.1]
                            refine g_if_ne B 171 dX7_readLine_150 (by decide) (fun h150 => ?_) (fun h150 => ?_)
                            · exact absurd rfl h150
                            · refine g_aload_n B dX7_readLine_153 rfl ?_
                              refine g_aload_n B dX7_readLine_154 rfl ?_
                              refine g_geti B ci_X7 (by first | rfl | assumption) rfl (by decide) fl_X7_108 dX7_readLine_155 ?_
                              rw [hL3.2.2.1]
                              refine g_iconst B (v := 3) dX7_readLine_158 (by decide) ?_
                              refine g_icmp_ne B 166 dX7_readLine_159 (by decide) (fun h159 => ?_) (fun h159 => ?_)
                              · rw [show (3 : Int32) = nI 3 from rfl, nI_eq (by omega) (by decide)] at h159
                                refine g_iconst B (v := 0) dX7_readLine_166 (by decide) ?_
                                refine g_eqi (bI false) rfl ?_
                                refine g_iconst B (v := 2) dX7_readLine_167 (by decide) ?_
                                refine g_callVV B (ct_X7_needs false 2) (by first | rfl | assumption) rfl ml_X7_122 mm_X7_needs rfl rfl (Nat.le_of_ble_eq_true rfl) dX7_readLine_168 (by decide) ?_
                                rintro _ (⟨hg, rfl⟩ | ⟨hg, hf0, rfl⟩)
                                · exact absurd hg (by simp [hL3.1])
                                · have hE4 : Er (w2 (w2 u3 57 19 2) 57 20 (u3 57 16)) (2, tS b q x.1) := ⟨rfl, hL3.2.1, (er8 rfl).1, (er8 rfl).2⟩
                                  refine g_aload_n B dX7_readLine_171 rfl ?_
                                  refine g_callVV B (cn_next hE4) (by first | rfl | assumption) rfl ml_X7_130 mm_X7_next rfl rfl (Nat.le_of_ble_eq_true rfl) dX7_readLine_172 (by decide) ?_
                                  rintro _ rfl
                                  exact g_vret B E dX7_readLine_175 (rl_er (e := (2, tS b q x.1)) (by rw [hbq, hk]; simp only [thenS, rdT, if_neg (ne_t hL3.2.2.2.2.2.1), if_neg h159]) hE4 (hFL3.trans (frL_w2 (by omega) (frL_w2 (by omega) frL_0))))
                              · rw [show (3 : Int32) = nI 3 from rfl, nI_eq (by omega) (by decide)] at h159
                                refine g_iconst B (v := 1) dX7_readLine_162 (by decide) ?_
                                refine g_goto B 167 dX7_readLine_163 (by decide) ?_
                                refine g_eqi (bI true) rfl ?_
                                refine g_iconst B (v := 2) dX7_readLine_167 (by decide) ?_
                                refine g_callVV B (ct_X7_needs true 2) (by first | rfl | assumption) rfl ml_X7_122 mm_X7_needs rfl rfl (Nat.le_of_ble_eq_true rfl) dX7_readLine_168 (by decide) ?_
                                rintro _ (⟨hg, rfl⟩ | ⟨hg, hf0, rfl⟩)
                                · refine g_aload_n B dX7_readLine_171 rfl ?_
                                  refine g_callVV B (ct_X7_next (p := tE b q x.1) hM3 hL3.1 hL3.2.2.2.1 hE5.2) (by first | rfl | assumption) rfl ml_X7_130 mm_X7_next rfl rfl (Nat.le_of_ble_eq_true rfl) dX7_readLine_172 (by decide) ?_
                                  rintro u4 ⟨hS4, hF4⟩
                                  exact g_vret B E dX7_readLine_175 (rl_ok (x := (tE b q x.1, x.2)) (by rw [hbq, hk]; simp only [thenS, rdT, if_neg (ne_t hL3.2.2.2.2.2.1), if_pos h159]) hS4 (hD4.frN hF4) (by rw [hF4 57 11 (fun _ => by decide), h311]; exact (show _ = tb x.2 from tb_cl hk)) (hFL3.trans hF4.l))
                                · exact absurd hg (by decide)
                      · exact absurd (by decide) h137
                  · rw [bI_ne0] at h93
                    exact absurd h93 (by decide)
              · exact absurd hg (by decide)
            · exact absurd h51 (by decide)
      · exact absurd hg (by decide)
set_option maxHeartbeats 4000000 in
set_option maxRecDepth 100000 in
theorem rd_3 {I D : Wo} {b : Nat → Nat} {q p0 n m : Nat} (hM : MB I b q) (hL : Ld I b q p0) (hMD : MDn I D n m) (hI : DIn D n m) (htb : I 57 11 = tb D) (hk1 : tK b q p0 = 1) (hlk : lnK b (tS b q p0) (tE b q p0) = 3) : Ct yX7_readLine cX7_readLine 2 none 5 115 [.ref 57] I (pV (fun u => RlR I u b q (thenS b q (bEn b q (tS b q p0) (tE b q p0) D)))) := by
  obtain ⟨h19, h16, h17, h15, h18, hB, hpq⟩ := id hL
  have hE1 := tE_ge b hpq
  have hS1 := tS_le b hpq
  have hK4 := tK_le b q p0
  have hn8 := hI.n8
  have hm6 := hI.m6
  refine ct_of RX7 rfl (by decide) (Nat.le_of_ble_eq_true rfl) (fun X B E => ?_)
  show GW X 2 0 [some (.ref 57), none] [] _
  refine g_aload_n B dX7_readLine_0 rfl ?_
  refine g_geti B ci_X7 (by first | rfl | assumption) rfl (by decide) fl_X7_108 dX7_readLine_1 ?_
  rw [h17]
  refine g_iconst B (v := 1) dX7_readLine_4 (by decide) ?_
  refine g_icmp_ne B 15 dX7_readLine_5 (by decide) (fun h5 => ?_) (fun h5 => ?_)
  · rw [show (1 : Int32) = nI 1 from rfl, nI_eq (by omega) (by decide)] at h5
    exact absurd hk1 h5
  · clear h5
    refine g_aload_n B dX7_readLine_8 rfl ?_
    refine g_callVI B (ct_X7_lineNow hM hL) (by first | rfl | assumption) rfl ml_X7_151 mm_X7_lineNow rfl rfl (Nat.le_of_ble_eq_true rfl) dX7_readLine_9 (by decide) ?_
    rintro r9 _ ⟨h9, rfl⟩
    rw [h9, hlk]
    refine g_goto B 17 dX7_readLine_12 (by decide) ?_
    refine g_istn1 B dX7_readLine_17 (by decide) rfl ?_
    refine g_aload_n B dX7_readLine_18 rfl ?_
    refine g_iload_n B dX7_readLine_19 rfl ?_
    refine g_bipush B (v := (-4)) dX7_readLine_20 (by decide) ?_
    refine g_icmp_eq B 29 dX7_readLine_22 (by decide) (fun h22 => ?_) (fun h22 => ?_)
    · exact absurd h22 (by decide)
    · refine g_iconst B (v := 1) dX7_readLine_25 (by decide) ?_
      refine g_goto B 30 dX7_readLine_26 (by decide) ?_
      refine g_eqi (bI true) rfl ?_
      refine g_iconst B (v := 2) dX7_readLine_30 (by decide) ?_
      refine g_callVV B (ct_X7_needs true 2) (by first | rfl | assumption) rfl ml_X7_122 mm_X7_needs rfl rfl (Nat.le_of_ble_eq_true rfl) dX7_readLine_31 (by decide) ?_
      rintro _ (⟨hg, rfl⟩ | ⟨hg, hf0, rfl⟩)
      · refine g_aload_n B dX7_readLine_34 rfl ?_
        refine g_iload_n B dX7_readLine_35 rfl ?_
        refine g_iconst B (v := 2) dX7_readLine_36 (by decide) ?_
        refine g_icmp_gt B 49 dX7_readLine_37 (by decide) (fun h37 => ?_) (fun h37 => ?_)
        · refine g_iload_n B dX7_readLine_49 rfl ?_
          refine g_iconst B (v := 5) dX7_readLine_50 (by decide) ?_
          refine g_icmp_ne B 66 dX7_readLine_51 (by decide) (fun h51 => ?_) (fun h51 => ?_)
          · refine g_iconst B (v := 1) dX7_readLine_66 (by decide) ?_
            refine g_goto B 71 dX7_readLine_67 (by decide) ?_
            refine g_eqi (bI true) rfl ?_
            refine g_iconst B (v := 5) dX7_readLine_71 (by decide) ?_
            refine g_callVV B (ct_X7_needs true 5) (by first | rfl | assumption) rfl ml_X7_122 mm_X7_needs rfl rfl (Nat.le_of_ble_eq_true rfl) dX7_readLine_72 (by decide) ?_
            rintro _ (⟨hg, rfl⟩ | ⟨hg, hf0, rfl⟩)
            · refine g_aload_n B dX7_readLine_75 rfl ?_
              refine g_geti B ci_X7 (by first | rfl | assumption) rfl (by decide) fl_X7_84 dX7_readLine_76 ?_
              rw [h19]
              refine g_if_ne B 129 dX7_readLine_79 (by decide) (fun h79 => ?_) (fun h79 => ?_)
              · exact absurd rfl h79
              · refine g_iload_n B dX7_readLine_82 rfl ?_
                refine g_i2l B dX7_readLine_83 ?_
                refine g_ldc2 B dX7_readLine_84 cn_X7_154 ?_
                refine g_ldc2 B dX7_readLine_87 cn_X7_156 ?_
                refine g_callSI B (ct_in 3 3 4 rfl (by decide) (by decide)) ml_X7_77 mm_X7_in rfl rfl (Nat.le_of_ble_eq_true rfl) dX7_readLine_90 (by decide) ?_
                rintro _ _ ⟨rfl, rfl⟩
                refine g_if_eq B 129 dX7_readLine_93 (by decide) (fun h93 => ?_) (fun h93 => ?_)
                · rw [bI_eq0] at h93
                  exact absurd h93 (by decide)
                · rw [bI_ne0] at h93
                  refine g_aload_n B dX7_readLine_96 rfl ?_
                  refine g_aload_n B dX7_readLine_97 rfl ?_
                  refine g_geti B ci_X7 (by first | rfl | assumption) rfl (by decide) fl_X7_66 dX7_readLine_98 ?_
                  rw [htb]
                  refine g_iload_n B dX7_readLine_101 rfl ?_
                  refine g_ishr B dX7_readLine_102 ?_
                  refine g_iconst B (v := 1) dX7_readLine_103 (by decide) ?_
                  refine g_iand B dX7_readLine_104 ?_
                  refine g_if_ne B 112 dX7_readLine_105 (by decide) (fun h105 => ?_) (fun h105 => ?_)
                  · have hto : ¬ D 39 8 = 0 := fun z => h105 ((tb_8 hI).mpr z)
                    refine g_iconst B (v := 0) dX7_readLine_112 (by decide) ?_
                    refine g_eqi (bI false) rfl ?_
                    refine g_iconst B (v := 4) dX7_readLine_113 (by decide) ?_
                    refine g_callVV B (ct_X7_needs false 4) (by first | rfl | assumption) rfl ml_X7_122 mm_X7_needs rfl rfl (Nat.le_of_ble_eq_true rfl) dX7_readLine_114 (by decide) ?_
                    rintro _ (⟨hg, rfl⟩ | ⟨hg, hf0, rfl⟩)
                    · exact absurd hg (by simp [h19])
                    · refine g_aload_n B dX7_readLine_117 rfl ?_
                      refine g_dup B dX7_readLine_118 rfl ?_
                      refine g_geti B ci_X7 (by first | rfl | assumption) rfl (by decide) fl_X7_66 dX7_readLine_119 ?_
                      rw [show (w2 (w2 I 57 19 4) 57 20 (I 57 16)) 57 11 = tb D from htb]
                      refine g_iconst B (v := 1) dX7_readLine_122 (by decide) ?_
                      refine g_iload_n B dX7_readLine_123 rfl ?_
                      refine g_ishl B dX7_readLine_124 ?_
                      refine g_ior B dX7_readLine_125 ?_
                      refine g_put B ci_X7 (by first | rfl | assumption) rfl (by decide) fl_X7_66 rfl rfl rfl dX7_readLine_126 ?_
                      refine g_aload_n B dX7_readLine_129 rfl ?_
                      refine g_callVV B (cn_next (I := w2 (w2 (w2 I 57 19 4) 57 20 (I 57 16)) 57 11 (tb D ||| ((1 : Int32) <<< ((3 : Int32) &&& 31)))) (e := (4, tS b q p0)) ⟨rfl, h16, (er8 rfl).1, (er8 rfl).2⟩) (by first | rfl | assumption) rfl ml_X7_130 mm_X7_next rfl rfl (Nat.le_of_ble_eq_true rfl) dX7_readLine_130 (by decide) ?_
                      rintro _ rfl
                      refine g_aload_n B dX7_readLine_133 rfl ?_
                      refine g_geti B ci_X7 (by first | rfl | assumption) rfl (by decide) fl_X7_84 dX7_readLine_134 ?_
                      rw [show (w2 (w2 (w2 I 57 19 4) 57 20 (I 57 16)) 57 11 (tb D ||| ((1 : Int32) <<< ((3 : Int32) &&& 31)))) 57 19 = 4 from rfl]
                      refine g_if_le B 141 dX7_readLine_137 (by decide) (fun h137 => ?_) (fun h137 => ?_)
                      · exact absurd h137 (show ¬ (4 : Int32) ≤ 0 by decide)
                      · exact g_vret B E dX7_readLine_140 (rl_er (e := (4, tS b q p0)) (by rw [bEn, if_pos hto]; rfl) ⟨rfl, h16, (er8 rfl).1, (er8 rfl).2⟩ (frL_w2 (by omega) (frL_w2 (by omega) (frL_w2 (by omega) frL_0))))
                  · have hto : D 39 8 = 0 := (tb_8 hI).mp h105
                    refine g_iconst B (v := 1) dX7_readLine_108 (by decide) ?_
                    refine g_goto B 113 dX7_readLine_109 (by decide) ?_
                    refine g_eqi (bI true) rfl ?_
                    refine g_iconst B (v := 4) dX7_readLine_113 (by decide) ?_
                    refine g_callVV B (ct_X7_needs true 4) (by first | rfl | assumption) rfl ml_X7_122 mm_X7_needs rfl rfl (Nat.le_of_ble_eq_true rfl) dX7_readLine_114 (by decide) ?_
                    rintro _ (⟨hg, rfl⟩ | ⟨hg, hf0, rfl⟩)
                    · refine g_aload_n B dX7_readLine_117 rfl ?_
                      refine g_dup B dX7_readLine_118 rfl ?_
                      refine g_geti B ci_X7 (by first | rfl | assumption) rfl (by decide) fl_X7_66 dX7_readLine_119 ?_
                      rw [show (I) 57 11 = tb D from htb]
                      refine g_iconst B (v := 1) dX7_readLine_122 (by decide) ?_
                      refine g_iload_n B dX7_readLine_123 rfl ?_
                      refine g_ishl B dX7_readLine_124 ?_
                      refine g_ior B dX7_readLine_125 ?_
                      refine g_put B ci_X7 (by first | rfl | assumption) rfl (by decide) fl_X7_66 rfl rfl rfl dX7_readLine_126 ?_
                      refine g_aload_n B dX7_readLine_129 rfl ?_
                      refine g_callVV B (ct_X7_next (I := w2 (I) 57 11 (tb D ||| ((1 : Int32) <<< ((3 : Int32) &&& 31)))) (p := (tE b q p0)) (hM.frL (frL_w2 (by omega) frL_0)) h19 h15 hE1.2) (by first | rfl | assumption) rfl ml_X7_130 mm_X7_next rfl rfl (Nat.le_of_ble_eq_true rfl) dX7_readLine_130 (by decide) ?_
                      rintro u2 ⟨hS2, hF2⟩
                      have hM2 : MB u2 b q := (hM.frL (frL_w2 (by omega) frL_0)).frN hF2
                      have hMD2 : MDn u2 D n m := (hMD.fr rfl rfl (fun x y a b => w2_cell _ _ (by omega)) : MDn (w2 (I) 57 11 (tb D ||| ((1 : Int32) <<< ((3 : Int32) &&& 31)))) D n m).frN hF2
                      have hFL2 : FrL I u2 := (frL_w2 (by omega) frL_0).trans hF2.l
                      have h211 : u2 57 11 = (tb D ||| ((1 : Int32) <<< ((3 : Int32) &&& 31))) := (hF2 57 11 (fun _ => by decide)).trans (w2_same _ _ _ _)
                      rcases hS2 with ⟨hB2, hE2⟩ | hL2
                      ·
                        refine g_aload_n B dX7_readLine_133 rfl ?_
                        refine g_geti B ci_X7 (by first | rfl | assumption) rfl (by decide) fl_X7_84 dX7_readLine_134 ?_
                        rw [hE2.1]
                        refine g_if_le B 141 dX7_readLine_137 (by decide) (fun h137 => ?_) (fun h137 => ?_)
                        · exact absurd h137 (show ¬ (1 : Int32) ≤ 0 by decide)
                        · exact g_vret B E dX7_readLine_140 (rl_er (e := (1, tS b q (tE b q p0))) (by rw [bEn, if_neg (fun z => z hto), rdN, if_pos hB2]; rfl) hE2 hFL2)
                      ·
                        have hS2 : Sn u2 b q (tE b q p0) := Or.inr hL2
                        refine g_aload_n B dX7_readLine_133 rfl ?_
                        refine g_geti B ci_X7 (by first | rfl | assumption) rfl (by decide) fl_X7_84 dX7_readLine_134 ?_
                        rw [hL2.1]
                        refine g_if_le B 141 dX7_readLine_137 (by decide) (fun h137 => ?_) (fun h137 => ?_)
                        · refine g_aload_n B dX7_readLine_141 rfl ?_
                          refine g_iload_n B dX7_readLine_142 rfl ?_
                          refine g_callVV B (rl_3 hM2 hS2 hE1.2 hMD2 hI hto) (by first | rfl | assumption) rfl ml_X7_158 mm_X7_readLineOf rfl rfl (Nat.le_of_ble_eq_true rfl) dX7_readLine_143 (by decide) ?_
                          rintro u3 (⟨e, hk, hE3, hF3⟩ | ⟨x, hk, hS3, hD3, hF3⟩)
                          · have hbq : bEn b q (tS b q p0) (tE b q p0) D = k3 b q (tE b q p0) D := bEn_k3 hto
                            refine g_aload_n B dX7_readLine_146 rfl ?_
                            refine g_geti B ci_X7 (by first | rfl | assumption) rfl (by decide) fl_X7_84 dX7_readLine_147 ?_
                            rw [hE3.1]
                            refine g_if_ne B 171 dX7_readLine_150 (by decide) (fun h150 => ?_) (fun h150 => ?_)
                            · refine g_aload_n B dX7_readLine_171 rfl ?_
                              refine g_callVV B (cn_next hE3) (by first | rfl | assumption) rfl ml_X7_130 mm_X7_next rfl rfl (Nat.le_of_ble_eq_true rfl) dX7_readLine_172 (by decide) ?_
                              rintro _ rfl
                              exact g_vret B E dX7_readLine_175 (rl_er (e := e) (by rw [hbq, hk]; rfl) hE3 (hFL2.trans hF3.l))
                            · exact absurd ((nI_eq (by have := hE3.2.2.2; omega) (by decide)).mp h150) hE3.2.2.1
                          · have hbq : bEn b q (tS b q p0) (tE b q p0) D = k3 b q (tE b q p0) D := bEn_k3 hto
                            have hx9 : x.1 ≤ q := (bEn_ok hE1.2 hI (hbq.trans hk)).2.2
                            have hM3 : MB u3 b q := hM2.frD hF3
                            have hFL3 : FrL I u3 := hFL2.trans hF3.l
                            have h311 : u3 57 11 = (tb D ||| ((1 : Int32) <<< ((3 : Int32) &&& 31))) := (hF3 57 11 (fun _ => by decide) (by decide)).trans h211
                            rcases hS3 with ⟨hB3, hE3⟩ | hL3
                            ·
                              refine g_aload_n B dX7_readLine_146 rfl ?_
                              refine g_geti B ci_X7 (by first | rfl | assumption) rfl (by decide) fl_X7_84 dX7_readLine_147 ?_
                              rw [hE3.1]
                              refine g_if_ne B 171 dX7_readLine_150 (by decide) (fun h150 => ?_) (fun h150 => ?_)
                              · refine g_aload_n B dX7_readLine_171 rfl ?_
                                refine g_callVV B (cn_next hE3) (by first | rfl | assumption) rfl ml_X7_130 mm_X7_next rfl rfl (Nat.le_of_ble_eq_true rfl) dX7_readLine_172 (by decide) ?_
                                rintro _ rfl
                                exact g_vret B E dX7_readLine_175 (rl_er (e := (1, tS b q x.1)) (by rw [hbq, hk]; simp only [thenS, rdT, if_pos hB3]) hE3 hFL3)
                              · exact absurd ((nI_eq (by have := hE3.2.2.2; omega) (by decide)).mp h150) hE3.2.2.1
                            ·
                              have hD4 := hD3 hL3
                              have hK5 := tK_le b q x.1
                              have hE5 := tE_ge b hx9
                              refine g_aload_n B dX7_readLine_146 rfl ?_
                              refine g_geti B ci_X7 (by first | rfl | assumption) rfl (by decide) fl_X7_84 dX7_readLine_147 ?_
                              rw [hL3.1]
                              refine g_if_ne B 171 dX7_readLine_150 (by decide) (fun h150 => ?_) (fun h150 => ?_)
                              · exact absurd rfl h150
                              · refine g_aload_n B dX7_readLine_153 rfl ?_
                                refine g_aload_n B dX7_readLine_154 rfl ?_
                                refine g_geti B ci_X7 (by first | rfl | assumption) rfl (by decide) fl_X7_108 dX7_readLine_155 ?_
                                rw [hL3.2.2.1]
                                refine g_iconst B (v := 3) dX7_readLine_158 (by decide) ?_
                                refine g_icmp_ne B 166 dX7_readLine_159 (by decide) (fun h159 => ?_) (fun h159 => ?_)
                                · rw [show (3 : Int32) = nI 3 from rfl, nI_eq (by omega) (by decide)] at h159
                                  refine g_iconst B (v := 0) dX7_readLine_166 (by decide) ?_
                                  refine g_eqi (bI false) rfl ?_
                                  refine g_iconst B (v := 2) dX7_readLine_167 (by decide) ?_
                                  refine g_callVV B (ct_X7_needs false 2) (by first | rfl | assumption) rfl ml_X7_122 mm_X7_needs rfl rfl (Nat.le_of_ble_eq_true rfl) dX7_readLine_168 (by decide) ?_
                                  rintro _ (⟨hg, rfl⟩ | ⟨hg, hf0, rfl⟩)
                                  · exact absurd hg (by simp [hL3.1])
                                  · have hE4 : Er (w2 (w2 u3 57 19 2) 57 20 (u3 57 16)) (2, tS b q x.1) := ⟨rfl, hL3.2.1, (er8 rfl).1, (er8 rfl).2⟩
                                    refine g_aload_n B dX7_readLine_171 rfl ?_
                                    refine g_callVV B (cn_next hE4) (by first | rfl | assumption) rfl ml_X7_130 mm_X7_next rfl rfl (Nat.le_of_ble_eq_true rfl) dX7_readLine_172 (by decide) ?_
                                    rintro _ rfl
                                    exact g_vret B E dX7_readLine_175 (rl_er (e := (2, tS b q x.1)) (by rw [hbq, hk]; simp only [thenS, rdT, if_neg (ne_t hL3.2.2.2.2.2.1), if_neg h159]) hE4 (hFL3.trans (frL_w2 (by omega) (frL_w2 (by omega) frL_0))))
                                · rw [show (3 : Int32) = nI 3 from rfl, nI_eq (by omega) (by decide)] at h159
                                  refine g_iconst B (v := 1) dX7_readLine_162 (by decide) ?_
                                  refine g_goto B 167 dX7_readLine_163 (by decide) ?_
                                  refine g_eqi (bI true) rfl ?_
                                  refine g_iconst B (v := 2) dX7_readLine_167 (by decide) ?_
                                  refine g_callVV B (ct_X7_needs true 2) (by first | rfl | assumption) rfl ml_X7_122 mm_X7_needs rfl rfl (Nat.le_of_ble_eq_true rfl) dX7_readLine_168 (by decide) ?_
                                  rintro _ (⟨hg, rfl⟩ | ⟨hg, hf0, rfl⟩)
                                  · refine g_aload_n B dX7_readLine_171 rfl ?_
                                    refine g_callVV B (ct_X7_next (p := tE b q x.1) hM3 hL3.1 hL3.2.2.2.1 hE5.2) (by first | rfl | assumption) rfl ml_X7_130 mm_X7_next rfl rfl (Nat.le_of_ble_eq_true rfl) dX7_readLine_172 (by decide) ?_
                                    rintro u4 ⟨hS4, hF4⟩
                                    exact g_vret B E dX7_readLine_175 (rl_ok (x := (tE b q x.1, x.2)) (by rw [hbq, hk]; simp only [thenS, rdT, if_neg (ne_t hL3.2.2.2.2.2.1), if_pos h159]) hS4 (hD4.frN hF4) (by rw [hF4 57 11 (fun _ => by decide), h311]; exact (show _ = tb x.2 from tb_en hI hto hk)) (hFL3.trans hF4.l))
                                  · exact absurd hg (by decide)
                        · exact absurd (by decide) h137
                    · exact absurd hg (by decide)
            · exact absurd hg (by decide)
          · exact absurd h51 (by decide)
        · exact absurd (by decide) h37
      · exact absurd hg (by decide)
set_option maxHeartbeats 4000000 in
set_option maxRecDepth 100000 in
theorem rd_4 {I D : Wo} {b : Nat → Nat} {q p0 n m : Nat} (hM : MB I b q) (hL : Ld I b q p0) (hMD : MDn I D n m) (hI : DIn D n m) (htb : I 57 11 = tb D) (hk1 : tK b q p0 = 1) (hlk : lnK b (tS b q p0) (tE b q p0) = 5) : Ct yX7_readLine cX7_readLine 2 none 5 115 [.ref 57] I (pV (fun u => RlR I u b q (thenS b q (bPl b q m (tS b q p0) (tE b q p0) D)))) := by
  obtain ⟨h19, h16, h17, h15, h18, hB, hpq⟩ := id hL
  have hE1 := tE_ge b hpq
  have hS1 := tS_le b hpq
  have hK4 := tK_le b q p0
  have hn8 := hI.n8
  have hm6 := hI.m6
  refine ct_of RX7 rfl (by decide) (Nat.le_of_ble_eq_true rfl) (fun X B E => ?_)
  show GW X 2 0 [some (.ref 57), none] [] _
  refine g_aload_n B dX7_readLine_0 rfl ?_
  refine g_geti B ci_X7 (by first | rfl | assumption) rfl (by decide) fl_X7_108 dX7_readLine_1 ?_
  rw [h17]
  refine g_iconst B (v := 1) dX7_readLine_4 (by decide) ?_
  refine g_icmp_ne B 15 dX7_readLine_5 (by decide) (fun h5 => ?_) (fun h5 => ?_)
  · rw [show (1 : Int32) = nI 1 from rfl, nI_eq (by omega) (by decide)] at h5
    exact absurd hk1 h5
  · clear h5
    refine g_aload_n B dX7_readLine_8 rfl ?_
    refine g_callVI B (ct_X7_lineNow hM hL) (by first | rfl | assumption) rfl ml_X7_151 mm_X7_lineNow rfl rfl (Nat.le_of_ble_eq_true rfl) dX7_readLine_9 (by decide) ?_
    rintro r9 _ ⟨h9, rfl⟩
    rw [h9, hlk]
    refine g_goto B 17 dX7_readLine_12 (by decide) ?_
    refine g_istn1 B dX7_readLine_17 (by decide) rfl ?_
    refine g_aload_n B dX7_readLine_18 rfl ?_
    refine g_iload_n B dX7_readLine_19 rfl ?_
    refine g_bipush B (v := (-4)) dX7_readLine_20 (by decide) ?_
    refine g_icmp_eq B 29 dX7_readLine_22 (by decide) (fun h22 => ?_) (fun h22 => ?_)
    · exact absurd h22 (by decide)
    · refine g_iconst B (v := 1) dX7_readLine_25 (by decide) ?_
      refine g_goto B 30 dX7_readLine_26 (by decide) ?_
      refine g_eqi (bI true) rfl ?_
      refine g_iconst B (v := 2) dX7_readLine_30 (by decide) ?_
      refine g_callVV B (ct_X7_needs true 2) (by first | rfl | assumption) rfl ml_X7_122 mm_X7_needs rfl rfl (Nat.le_of_ble_eq_true rfl) dX7_readLine_31 (by decide) ?_
      rintro _ (⟨hg, rfl⟩ | ⟨hg, hf0, rfl⟩)
      · refine g_aload_n B dX7_readLine_34 rfl ?_
        refine g_iload_n B dX7_readLine_35 rfl ?_
        refine g_iconst B (v := 2) dX7_readLine_36 (by decide) ?_
        refine g_icmp_gt B 49 dX7_readLine_37 (by decide) (fun h37 => ?_) (fun h37 => ?_)
        · refine g_iload_n B dX7_readLine_49 rfl ?_
          refine g_iconst B (v := 5) dX7_readLine_50 (by decide) ?_
          refine g_icmp_ne B 66 dX7_readLine_51 (by decide) (fun h51 => ?_) (fun h51 => ?_)
          · exact absurd rfl h51
          · refine g_aload_n B dX7_readLine_54 rfl ?_
            refine g_getr B ci_X7 (by first | rfl | assumption) rfl (by decide) fl_X7_26 dX7_readLine_55 ?_
            refine g_bipush B (v := 27) dX7_readLine_58 (by decide) ?_
            refine g_iald B (by first | rfl | assumption) 27 (lit_nI 27) (by first | decide | omega | assumption) (by decide) dX7_readLine_60 ?_
            rw [hMD.pm]
            refine g_bipush B (v := 6) dX7_readLine_61 (by decide) ?_
            refine g_icmp_ge B 70 dX7_readLine_63 (by decide) (fun h63 => ?_) (fun h63 => ?_)
            · replace h63 := le_le (a := 6) (b := m) (by decide) (by omega) h63
              refine g_iconst B (v := 0) dX7_readLine_70 (by decide) ?_
              refine g_eqi (bI false) rfl ?_
              refine g_iconst B (v := 5) dX7_readLine_71 (by decide) ?_
              refine g_callVV B (ct_X7_needs false 5) (by first | rfl | assumption) rfl ml_X7_122 mm_X7_needs rfl rfl (Nat.le_of_ble_eq_true rfl) dX7_readLine_72 (by decide) ?_
              rintro _ (⟨hg, rfl⟩ | ⟨hg, hf0, rfl⟩)
              · exact absurd hg (by simp [h19])
              · refine g_aload_n B dX7_readLine_75 rfl ?_
                refine g_geti B ci_X7 (by first | rfl | assumption) rfl (by decide) fl_X7_84 dX7_readLine_76 ?_
                rw [show (w2 (w2 I 57 19 5) 57 20 (I 57 16)) 57 19 = 5 from rfl]
                refine g_if_ne B 129 dX7_readLine_79 (by decide) (fun h79 => ?_) (fun h79 => ?_)
                · refine g_aload_n B dX7_readLine_129 rfl ?_
                  refine g_callVV B (cn_next (I := w2 (w2 I 57 19 5) 57 20 (I 57 16)) (e := (5, tS b q p0)) ⟨rfl, h16, (er8 rfl).1, (er8 rfl).2⟩) (by first | rfl | assumption) rfl ml_X7_130 mm_X7_next rfl rfl (Nat.le_of_ble_eq_true rfl) dX7_readLine_130 (by decide) ?_
                  rintro _ rfl
                  refine g_aload_n B dX7_readLine_133 rfl ?_
                  refine g_geti B ci_X7 (by first | rfl | assumption) rfl (by decide) fl_X7_84 dX7_readLine_134 ?_
                  rw [show (w2 (w2 I 57 19 5) 57 20 (I 57 16)) 57 19 = 5 from rfl]
                  refine g_if_le B 141 dX7_readLine_137 (by decide) (fun h137 => ?_) (fun h137 => ?_)
                  · exact absurd h137 (show ¬ (5 : Int32) ≤ 0 by decide)
                  · exact g_vret B E dX7_readLine_140 (rl_er (e := (5, tS b q p0)) (by rw [bPl, if_pos h63]; rfl) ⟨rfl, h16, (er8 rfl).1, (er8 rfl).2⟩ (frL_w2 (by omega) (frL_w2 (by omega) frL_0)))
                · exact absurd h79 (by decide)
            · replace h63 := nle_lt (a := 6) (b := m) (by decide) (by omega) h63
              refine g_iconst B (v := 1) dX7_readLine_66 (by decide) ?_
              refine g_goto B 71 dX7_readLine_67 (by decide) ?_
              refine g_eqi (bI true) rfl ?_
              refine g_iconst B (v := 5) dX7_readLine_71 (by decide) ?_
              refine g_callVV B (ct_X7_needs true 5) (by first | rfl | assumption) rfl ml_X7_122 mm_X7_needs rfl rfl (Nat.le_of_ble_eq_true rfl) dX7_readLine_72 (by decide) ?_
              rintro _ (⟨hg, rfl⟩ | ⟨hg, hf0, rfl⟩)
              · refine g_aload_n B dX7_readLine_75 rfl ?_
                refine g_geti B ci_X7 (by first | rfl | assumption) rfl (by decide) fl_X7_84 dX7_readLine_76 ?_
                rw [h19]
                refine g_if_ne B 129 dX7_readLine_79 (by decide) (fun h79 => ?_) (fun h79 => ?_)
                · exact absurd rfl h79
                · refine g_iload_n B dX7_readLine_82 rfl ?_
                  refine g_i2l B dX7_readLine_83 ?_
                  refine g_ldc2 B dX7_readLine_84 cn_X7_154 ?_
                  refine g_ldc2 B dX7_readLine_87 cn_X7_156 ?_
                  refine g_callSI B (ct_in 5 3 4 rfl (by decide) (by decide)) ml_X7_77 mm_X7_in rfl rfl (Nat.le_of_ble_eq_true rfl) dX7_readLine_90 (by decide) ?_
                  rintro _ _ ⟨rfl, rfl⟩
                  refine g_if_eq B 129 dX7_readLine_93 (by decide) (fun h93 => ?_) (fun h93 => ?_)
                  · rw [bI_eq0] at h93
                    refine g_aload_n B dX7_readLine_129 rfl ?_
                    refine g_callVV B (ct_X7_next (I := I) (p := (tE b q p0)) (hM.frL (frL_0)) h19 h15 hE1.2) (by first | rfl | assumption) rfl ml_X7_130 mm_X7_next rfl rfl (Nat.le_of_ble_eq_true rfl) dX7_readLine_130 (by decide) ?_
                    rintro u2 ⟨hS2, hF2⟩
                    have hM2 : MB u2 b q := (hM.frL (frL_0)).frN hF2
                    have hMD2 : MDn u2 D n m := (hMD : MDn (I) D n m).frN hF2
                    have hFL2 : FrL I u2 := (frL_0).trans hF2.l
                    have h211 : u2 57 11 = tb D := (hF2 57 11 (fun _ => by decide)).trans htb
                    rcases hS2 with ⟨hB2, hE2⟩ | hL2
                    ·
                      refine g_aload_n B dX7_readLine_133 rfl ?_
                      refine g_geti B ci_X7 (by first | rfl | assumption) rfl (by decide) fl_X7_84 dX7_readLine_134 ?_
                      rw [hE2.1]
                      refine g_if_le B 141 dX7_readLine_137 (by decide) (fun h137 => ?_) (fun h137 => ?_)
                      · exact absurd h137 (show ¬ (1 : Int32) ≤ 0 by decide)
                      · exact g_vret B E dX7_readLine_140 (rl_er (e := (1, tS b q (tE b q p0))) (by rw [bPl, if_neg (show ¬ 6 ≤ m by omega), rdN, if_pos hB2]; rfl) hE2 hFL2)
                    ·
                      have hS2 : Sn u2 b q (tE b q p0) := Or.inr hL2
                      refine g_aload_n B dX7_readLine_133 rfl ?_
                      refine g_geti B ci_X7 (by first | rfl | assumption) rfl (by decide) fl_X7_84 dX7_readLine_134 ?_
                      rw [hL2.1]
                      refine g_if_le B 141 dX7_readLine_137 (by decide) (fun h137 => ?_) (fun h137 => ?_)
                      · refine g_aload_n B dX7_readLine_141 rfl ?_
                        refine g_iload_n B dX7_readLine_142 rfl ?_
                        refine g_callVV B (rl_5 hM2 hS2 hE1.2 hMD2 hI (show m < 6 by omega)) (by first | rfl | assumption) rfl ml_X7_158 mm_X7_readLineOf rfl rfl (Nat.le_of_ble_eq_true rfl) dX7_readLine_143 (by decide) ?_
                        rintro u3 (⟨e, hk, hE3, hF3⟩ | ⟨x, hk, hS3, hD3, hF3⟩)
                        · have hbq : bPl b q m (tS b q p0) (tE b q p0) D = k5 b q m (tE b q p0) D := bPl_k5 (show ¬ 6 ≤ m by omega)
                          refine g_aload_n B dX7_readLine_146 rfl ?_
                          refine g_geti B ci_X7 (by first | rfl | assumption) rfl (by decide) fl_X7_84 dX7_readLine_147 ?_
                          rw [hE3.1]
                          refine g_if_ne B 171 dX7_readLine_150 (by decide) (fun h150 => ?_) (fun h150 => ?_)
                          · refine g_aload_n B dX7_readLine_171 rfl ?_
                            refine g_callVV B (cn_next hE3) (by first | rfl | assumption) rfl ml_X7_130 mm_X7_next rfl rfl (Nat.le_of_ble_eq_true rfl) dX7_readLine_172 (by decide) ?_
                            rintro _ rfl
                            exact g_vret B E dX7_readLine_175 (rl_er (e := e) (by rw [hbq, hk]; rfl) hE3 (hFL2.trans hF3.l))
                          · exact absurd ((nI_eq (by have := hE3.2.2.2; omega) (by decide)).mp h150) hE3.2.2.1
                        · have hbq : bPl b q m (tS b q p0) (tE b q p0) D = k5 b q m (tE b q p0) D := bPl_k5 (show ¬ 6 ≤ m by omega)
                          have hx9 : x.1 ≤ q := (bPl_ok hE1.2 hI (hbq.trans hk)).2.2
                          have hM3 : MB u3 b q := hM2.frD hF3
                          have hFL3 : FrL I u3 := hFL2.trans hF3.l
                          have h311 : u3 57 11 = tb D := (hF3 57 11 (fun _ => by decide) (by decide)).trans h211
                          rcases hS3 with ⟨hB3, hE3⟩ | hL3
                          ·
                            refine g_aload_n B dX7_readLine_146 rfl ?_
                            refine g_geti B ci_X7 (by first | rfl | assumption) rfl (by decide) fl_X7_84 dX7_readLine_147 ?_
                            rw [hE3.1]
                            refine g_if_ne B 171 dX7_readLine_150 (by decide) (fun h150 => ?_) (fun h150 => ?_)
                            · refine g_aload_n B dX7_readLine_171 rfl ?_
                              refine g_callVV B (cn_next hE3) (by first | rfl | assumption) rfl ml_X7_130 mm_X7_next rfl rfl (Nat.le_of_ble_eq_true rfl) dX7_readLine_172 (by decide) ?_
                              rintro _ rfl
                              exact g_vret B E dX7_readLine_175 (rl_er (e := (1, tS b q x.1)) (by rw [hbq, hk]; simp only [thenS, rdT, if_pos hB3]) hE3 hFL3)
                            · exact absurd ((nI_eq (by have := hE3.2.2.2; omega) (by decide)).mp h150) hE3.2.2.1
                          ·
                            have hD4 := hD3 hL3
                            have hK5 := tK_le b q x.1
                            have hE5 := tE_ge b hx9
                            refine g_aload_n B dX7_readLine_146 rfl ?_
                            refine g_geti B ci_X7 (by first | rfl | assumption) rfl (by decide) fl_X7_84 dX7_readLine_147 ?_
                            rw [hL3.1]
                            refine g_if_ne B 171 dX7_readLine_150 (by decide) (fun h150 => ?_) (fun h150 => ?_)
                            · exact absurd rfl h150
                            · refine g_aload_n B dX7_readLine_153 rfl ?_
                              refine g_aload_n B dX7_readLine_154 rfl ?_
                              refine g_geti B ci_X7 (by first | rfl | assumption) rfl (by decide) fl_X7_108 dX7_readLine_155 ?_
                              rw [hL3.2.2.1]
                              refine g_iconst B (v := 3) dX7_readLine_158 (by decide) ?_
                              refine g_icmp_ne B 166 dX7_readLine_159 (by decide) (fun h159 => ?_) (fun h159 => ?_)
                              · rw [show (3 : Int32) = nI 3 from rfl, nI_eq (by omega) (by decide)] at h159
                                refine g_iconst B (v := 0) dX7_readLine_166 (by decide) ?_
                                refine g_eqi (bI false) rfl ?_
                                refine g_iconst B (v := 2) dX7_readLine_167 (by decide) ?_
                                refine g_callVV B (ct_X7_needs false 2) (by first | rfl | assumption) rfl ml_X7_122 mm_X7_needs rfl rfl (Nat.le_of_ble_eq_true rfl) dX7_readLine_168 (by decide) ?_
                                rintro _ (⟨hg, rfl⟩ | ⟨hg, hf0, rfl⟩)
                                · exact absurd hg (by simp [hL3.1])
                                · have hE4 : Er (w2 (w2 u3 57 19 2) 57 20 (u3 57 16)) (2, tS b q x.1) := ⟨rfl, hL3.2.1, (er8 rfl).1, (er8 rfl).2⟩
                                  refine g_aload_n B dX7_readLine_171 rfl ?_
                                  refine g_callVV B (cn_next hE4) (by first | rfl | assumption) rfl ml_X7_130 mm_X7_next rfl rfl (Nat.le_of_ble_eq_true rfl) dX7_readLine_172 (by decide) ?_
                                  rintro _ rfl
                                  exact g_vret B E dX7_readLine_175 (rl_er (e := (2, tS b q x.1)) (by rw [hbq, hk]; simp only [thenS, rdT, if_neg (ne_t hL3.2.2.2.2.2.1), if_neg h159]) hE4 (hFL3.trans (frL_w2 (by omega) (frL_w2 (by omega) frL_0))))
                              · rw [show (3 : Int32) = nI 3 from rfl, nI_eq (by omega) (by decide)] at h159
                                refine g_iconst B (v := 1) dX7_readLine_162 (by decide) ?_
                                refine g_goto B 167 dX7_readLine_163 (by decide) ?_
                                refine g_eqi (bI true) rfl ?_
                                refine g_iconst B (v := 2) dX7_readLine_167 (by decide) ?_
                                refine g_callVV B (ct_X7_needs true 2) (by first | rfl | assumption) rfl ml_X7_122 mm_X7_needs rfl rfl (Nat.le_of_ble_eq_true rfl) dX7_readLine_168 (by decide) ?_
                                rintro _ (⟨hg, rfl⟩ | ⟨hg, hf0, rfl⟩)
                                · refine g_aload_n B dX7_readLine_171 rfl ?_
                                  refine g_callVV B (ct_X7_next (p := tE b q x.1) hM3 hL3.1 hL3.2.2.2.1 hE5.2) (by first | rfl | assumption) rfl ml_X7_130 mm_X7_next rfl rfl (Nat.le_of_ble_eq_true rfl) dX7_readLine_172 (by decide) ?_
                                  rintro u4 ⟨hS4, hF4⟩
                                  exact g_vret B E dX7_readLine_175 (rl_ok (x := (tE b q x.1, x.2)) (by rw [hbq, hk]; simp only [thenS, rdT, if_neg (ne_t hL3.2.2.2.2.2.1), if_pos h159]) hS4 (hD4.frN hF4) (by rw [hF4 57 11 (fun _ => by decide), h311]; exact (show _ = tb x.2 from tb_pl hk)) (hFL3.trans hF4.l))
                                · exact absurd hg (by decide)
                      · exact absurd (by decide) h137
                  · rw [bI_ne0] at h93
                    exact absurd h93 (by decide)
              · exact absurd hg (by decide)
        · exact absurd (by decide) h37
      · exact absurd hg (by decide)
set_option maxHeartbeats 4000000 in
set_option maxRecDepth 100000 in
theorem rd_5 {I D : Wo} {b : Nat → Nat} {q p0 n m : Nat} (hM : MB I b q) (hL : Ld I b q p0) (hMD : MDn I D n m) (hI : DIn D n m) (htb : I 57 11 = tb D) (hk1 : tK b q p0 = 1) (hlk : lnK b (tS b q p0) (tE b q p0) = 6) : Ct yX7_readLine cX7_readLine 2 none 5 115 [.ref 57] I (pV (fun u => RlR I u b q (thenS b q (bSa b q (tE b q p0) D)))) := by
  obtain ⟨h19, h16, h17, h15, h18, hB, hpq⟩ := id hL
  have hE1 := tE_ge b hpq
  have hS1 := tS_le b hpq
  have hK4 := tK_le b q p0
  have hn8 := hI.n8
  have hm6 := hI.m6
  refine ct_of RX7 rfl (by decide) (Nat.le_of_ble_eq_true rfl) (fun X B E => ?_)
  show GW X 2 0 [some (.ref 57), none] [] _
  refine g_aload_n B dX7_readLine_0 rfl ?_
  refine g_geti B ci_X7 (by first | rfl | assumption) rfl (by decide) fl_X7_108 dX7_readLine_1 ?_
  rw [h17]
  refine g_iconst B (v := 1) dX7_readLine_4 (by decide) ?_
  refine g_icmp_ne B 15 dX7_readLine_5 (by decide) (fun h5 => ?_) (fun h5 => ?_)
  · rw [show (1 : Int32) = nI 1 from rfl, nI_eq (by omega) (by decide)] at h5
    exact absurd hk1 h5
  · clear h5
    refine g_aload_n B dX7_readLine_8 rfl ?_
    refine g_callVI B (ct_X7_lineNow hM hL) (by first | rfl | assumption) rfl ml_X7_151 mm_X7_lineNow rfl rfl (Nat.le_of_ble_eq_true rfl) dX7_readLine_9 (by decide) ?_
    rintro r9 _ ⟨h9, rfl⟩
    rw [h9, hlk]
    refine g_goto B 17 dX7_readLine_12 (by decide) ?_
    refine g_istn1 B dX7_readLine_17 (by decide) rfl ?_
    refine g_aload_n B dX7_readLine_18 rfl ?_
    refine g_iload_n B dX7_readLine_19 rfl ?_
    refine g_bipush B (v := (-4)) dX7_readLine_20 (by decide) ?_
    refine g_icmp_eq B 29 dX7_readLine_22 (by decide) (fun h22 => ?_) (fun h22 => ?_)
    · exact absurd h22 (by decide)
    · refine g_iconst B (v := 1) dX7_readLine_25 (by decide) ?_
      refine g_goto B 30 dX7_readLine_26 (by decide) ?_
      refine g_eqi (bI true) rfl ?_
      refine g_iconst B (v := 2) dX7_readLine_30 (by decide) ?_
      refine g_callVV B (ct_X7_needs true 2) (by first | rfl | assumption) rfl ml_X7_122 mm_X7_needs rfl rfl (Nat.le_of_ble_eq_true rfl) dX7_readLine_31 (by decide) ?_
      rintro _ (⟨hg, rfl⟩ | ⟨hg, hf0, rfl⟩)
      · refine g_aload_n B dX7_readLine_34 rfl ?_
        refine g_iload_n B dX7_readLine_35 rfl ?_
        refine g_iconst B (v := 2) dX7_readLine_36 (by decide) ?_
        refine g_icmp_gt B 49 dX7_readLine_37 (by decide) (fun h37 => ?_) (fun h37 => ?_)
        · refine g_iload_n B dX7_readLine_49 rfl ?_
          refine g_iconst B (v := 5) dX7_readLine_50 (by decide) ?_
          refine g_icmp_ne B 66 dX7_readLine_51 (by decide) (fun h51 => ?_) (fun h51 => ?_)
          · refine g_iconst B (v := 1) dX7_readLine_66 (by decide) ?_
            refine g_goto B 71 dX7_readLine_67 (by decide) ?_
            refine g_eqi (bI true) rfl ?_
            refine g_iconst B (v := 5) dX7_readLine_71 (by decide) ?_
            refine g_callVV B (ct_X7_needs true 5) (by first | rfl | assumption) rfl ml_X7_122 mm_X7_needs rfl rfl (Nat.le_of_ble_eq_true rfl) dX7_readLine_72 (by decide) ?_
            rintro _ (⟨hg, rfl⟩ | ⟨hg, hf0, rfl⟩)
            · refine g_aload_n B dX7_readLine_75 rfl ?_
              refine g_geti B ci_X7 (by first | rfl | assumption) rfl (by decide) fl_X7_84 dX7_readLine_76 ?_
              rw [h19]
              refine g_if_ne B 129 dX7_readLine_79 (by decide) (fun h79 => ?_) (fun h79 => ?_)
              · exact absurd rfl h79
              · refine g_iload_n B dX7_readLine_82 rfl ?_
                refine g_i2l B dX7_readLine_83 ?_
                refine g_ldc2 B dX7_readLine_84 cn_X7_154 ?_
                refine g_ldc2 B dX7_readLine_87 cn_X7_156 ?_
                refine g_callSI B (ct_in 6 3 4 rfl (by decide) (by decide)) ml_X7_77 mm_X7_in rfl rfl (Nat.le_of_ble_eq_true rfl) dX7_readLine_90 (by decide) ?_
                rintro _ _ ⟨rfl, rfl⟩
                refine g_if_eq B 129 dX7_readLine_93 (by decide) (fun h93 => ?_) (fun h93 => ?_)
                · rw [bI_eq0] at h93
                  refine g_aload_n B dX7_readLine_129 rfl ?_
                  refine g_callVV B (ct_X7_next (I := I) (p := (tE b q p0)) (hM.frL (frL_0)) h19 h15 hE1.2) (by first | rfl | assumption) rfl ml_X7_130 mm_X7_next rfl rfl (Nat.le_of_ble_eq_true rfl) dX7_readLine_130 (by decide) ?_
                  rintro u2 ⟨hS2, hF2⟩
                  have hM2 : MB u2 b q := (hM.frL (frL_0)).frN hF2
                  have hMD2 : MDn u2 D n m := (hMD : MDn (I) D n m).frN hF2
                  have hFL2 : FrL I u2 := (frL_0).trans hF2.l
                  have h211 : u2 57 11 = tb D := (hF2 57 11 (fun _ => by decide)).trans htb
                  rcases hS2 with ⟨hB2, hE2⟩ | hL2
                  ·
                    refine g_aload_n B dX7_readLine_133 rfl ?_
                    refine g_geti B ci_X7 (by first | rfl | assumption) rfl (by decide) fl_X7_84 dX7_readLine_134 ?_
                    rw [hE2.1]
                    refine g_if_le B 141 dX7_readLine_137 (by decide) (fun h137 => ?_) (fun h137 => ?_)
                    · exact absurd h137 (show ¬ (1 : Int32) ≤ 0 by decide)
                    · exact g_vret B E dX7_readLine_140 (rl_er (e := (1, tS b q (tE b q p0))) (by rw [bSa, rdN, if_pos hB2]; rfl) hE2 hFL2)
                  ·
                    have hS2 : Sn u2 b q (tE b q p0) := Or.inr hL2
                    refine g_aload_n B dX7_readLine_133 rfl ?_
                    refine g_geti B ci_X7 (by first | rfl | assumption) rfl (by decide) fl_X7_84 dX7_readLine_134 ?_
                    rw [hL2.1]
                    refine g_if_le B 141 dX7_readLine_137 (by decide) (fun h137 => ?_) (fun h137 => ?_)
                    · refine g_aload_n B dX7_readLine_141 rfl ?_
                      refine g_iload_n B dX7_readLine_142 rfl ?_
                      refine g_callVV B (rl_6 hM2 hS2 hE1.2 hMD2 hI) (by first | rfl | assumption) rfl ml_X7_158 mm_X7_readLineOf rfl rfl (Nat.le_of_ble_eq_true rfl) dX7_readLine_143 (by decide) ?_
                      rintro u3 (⟨e, hk, hE3, hF3⟩ | ⟨x, hk, hS3, hD3, hF3⟩)
                      · have hbq : bSa b q (tE b q p0) D = bSa b q (tE b q p0) D := rfl
                        refine g_aload_n B dX7_readLine_146 rfl ?_
                        refine g_geti B ci_X7 (by first | rfl | assumption) rfl (by decide) fl_X7_84 dX7_readLine_147 ?_
                        rw [hE3.1]
                        refine g_if_ne B 171 dX7_readLine_150 (by decide) (fun h150 => ?_) (fun h150 => ?_)
                        · refine g_aload_n B dX7_readLine_171 rfl ?_
                          refine g_callVV B (cn_next hE3) (by first | rfl | assumption) rfl ml_X7_130 mm_X7_next rfl rfl (Nat.le_of_ble_eq_true rfl) dX7_readLine_172 (by decide) ?_
                          rintro _ rfl
                          exact g_vret B E dX7_readLine_175 (rl_er (e := e) (by rw [hbq, hk]; rfl) hE3 (hFL2.trans hF3.l))
                        · exact absurd ((nI_eq (by have := hE3.2.2.2; omega) (by decide)).mp h150) hE3.2.2.1
                      · have hbq : bSa b q (tE b q p0) D = bSa b q (tE b q p0) D := rfl
                        have hx9 : x.1 ≤ q := (bSa_ok hE1.2 hI hk).2.2
                        have hM3 : MB u3 b q := hM2.frD hF3
                        have hFL3 : FrL I u3 := hFL2.trans hF3.l
                        have h311 : u3 57 11 = tb D := (hF3 57 11 (fun _ => by decide) (by decide)).trans h211
                        rcases hS3 with ⟨hB3, hE3⟩ | hL3
                        ·
                          refine g_aload_n B dX7_readLine_146 rfl ?_
                          refine g_geti B ci_X7 (by first | rfl | assumption) rfl (by decide) fl_X7_84 dX7_readLine_147 ?_
                          rw [hE3.1]
                          refine g_if_ne B 171 dX7_readLine_150 (by decide) (fun h150 => ?_) (fun h150 => ?_)
                          · refine g_aload_n B dX7_readLine_171 rfl ?_
                            refine g_callVV B (cn_next hE3) (by first | rfl | assumption) rfl ml_X7_130 mm_X7_next rfl rfl (Nat.le_of_ble_eq_true rfl) dX7_readLine_172 (by decide) ?_
                            rintro _ rfl
                            exact g_vret B E dX7_readLine_175 (rl_er (e := (1, tS b q x.1)) (by rw [hbq, hk]; simp only [thenS, rdT, if_pos hB3]) hE3 hFL3)
                          · exact absurd ((nI_eq (by have := hE3.2.2.2; omega) (by decide)).mp h150) hE3.2.2.1
                        ·
                          have hD4 := hD3 hL3
                          have hK5 := tK_le b q x.1
                          have hE5 := tE_ge b hx9
                          refine g_aload_n B dX7_readLine_146 rfl ?_
                          refine g_geti B ci_X7 (by first | rfl | assumption) rfl (by decide) fl_X7_84 dX7_readLine_147 ?_
                          rw [hL3.1]
                          refine g_if_ne B 171 dX7_readLine_150 (by decide) (fun h150 => ?_) (fun h150 => ?_)
                          · exact absurd rfl h150
                          · refine g_aload_n B dX7_readLine_153 rfl ?_
                            refine g_aload_n B dX7_readLine_154 rfl ?_
                            refine g_geti B ci_X7 (by first | rfl | assumption) rfl (by decide) fl_X7_108 dX7_readLine_155 ?_
                            rw [hL3.2.2.1]
                            refine g_iconst B (v := 3) dX7_readLine_158 (by decide) ?_
                            refine g_icmp_ne B 166 dX7_readLine_159 (by decide) (fun h159 => ?_) (fun h159 => ?_)
                            · rw [show (3 : Int32) = nI 3 from rfl, nI_eq (by omega) (by decide)] at h159
                              refine g_iconst B (v := 0) dX7_readLine_166 (by decide) ?_
                              refine g_eqi (bI false) rfl ?_
                              refine g_iconst B (v := 2) dX7_readLine_167 (by decide) ?_
                              refine g_callVV B (ct_X7_needs false 2) (by first | rfl | assumption) rfl ml_X7_122 mm_X7_needs rfl rfl (Nat.le_of_ble_eq_true rfl) dX7_readLine_168 (by decide) ?_
                              rintro _ (⟨hg, rfl⟩ | ⟨hg, hf0, rfl⟩)
                              · exact absurd hg (by simp [hL3.1])
                              · have hE4 : Er (w2 (w2 u3 57 19 2) 57 20 (u3 57 16)) (2, tS b q x.1) := ⟨rfl, hL3.2.1, (er8 rfl).1, (er8 rfl).2⟩
                                refine g_aload_n B dX7_readLine_171 rfl ?_
                                refine g_callVV B (cn_next hE4) (by first | rfl | assumption) rfl ml_X7_130 mm_X7_next rfl rfl (Nat.le_of_ble_eq_true rfl) dX7_readLine_172 (by decide) ?_
                                rintro _ rfl
                                exact g_vret B E dX7_readLine_175 (rl_er (e := (2, tS b q x.1)) (by rw [hbq, hk]; simp only [thenS, rdT, if_neg (ne_t hL3.2.2.2.2.2.1), if_neg h159]) hE4 (hFL3.trans (frL_w2 (by omega) (frL_w2 (by omega) frL_0))))
                            · rw [show (3 : Int32) = nI 3 from rfl, nI_eq (by omega) (by decide)] at h159
                              refine g_iconst B (v := 1) dX7_readLine_162 (by decide) ?_
                              refine g_goto B 167 dX7_readLine_163 (by decide) ?_
                              refine g_eqi (bI true) rfl ?_
                              refine g_iconst B (v := 2) dX7_readLine_167 (by decide) ?_
                              refine g_callVV B (ct_X7_needs true 2) (by first | rfl | assumption) rfl ml_X7_122 mm_X7_needs rfl rfl (Nat.le_of_ble_eq_true rfl) dX7_readLine_168 (by decide) ?_
                              rintro _ (⟨hg, rfl⟩ | ⟨hg, hf0, rfl⟩)
                              · refine g_aload_n B dX7_readLine_171 rfl ?_
                                refine g_callVV B (ct_X7_next (p := tE b q x.1) hM3 hL3.1 hL3.2.2.2.1 hE5.2) (by first | rfl | assumption) rfl ml_X7_130 mm_X7_next rfl rfl (Nat.le_of_ble_eq_true rfl) dX7_readLine_172 (by decide) ?_
                                rintro u4 ⟨hS4, hF4⟩
                                exact g_vret B E dX7_readLine_175 (rl_ok (x := (tE b q x.1, x.2)) (by rw [hbq, hk]; simp only [thenS, rdT, if_neg (ne_t hL3.2.2.2.2.2.1), if_pos h159]) hS4 (hD4.frN hF4) (by rw [hF4 57 11 (fun _ => by decide), h311]; exact (show _ = tb x.2 from tb_sa hk)) (hFL3.trans hF4.l))
                              · exact absurd hg (by decide)
                    · exact absurd (by decide) h137
                · rw [bI_ne0] at h93
                  exact absurd h93 (by decide)
            · exact absurd hg (by decide)
          · exact absurd h51 (by decide)
        · exact absurd (by decide) h37
      · exact absurd hg (by decide)
set_option maxHeartbeats 4000000 in
set_option maxRecDepth 100000 in
theorem rd_6 {I D : Wo} {b : Nat → Nat} {q p0 n m : Nat} (hM : MB I b q) (hL : Ld I b q p0) (hMD : MDn I D n m) (hI : DIn D n m) (htb : I 57 11 = tb D) (hk1 : tK b q p0 = 1) (hlk : lnK b (tS b q p0) (tE b q p0) = 4) : Ct yX7_readLine cX7_readLine 2 none 5 115 [.ref 57] I (pV (fun u => RlR I u b q (thenS b q (bDy b q (tS b q p0) (tE b q p0) D)))) := by
  obtain ⟨h19, h16, h17, h15, h18, hB, hpq⟩ := id hL
  have hE1 := tE_ge b hpq
  have hS1 := tS_le b hpq
  have hK4 := tK_le b q p0
  have hn8 := hI.n8
  have hm6 := hI.m6
  refine ct_of RX7 rfl (by decide) (Nat.le_of_ble_eq_true rfl) (fun X B E => ?_)
  show GW X 2 0 [some (.ref 57), none] [] _
  refine g_aload_n B dX7_readLine_0 rfl ?_
  refine g_geti B ci_X7 (by first | rfl | assumption) rfl (by decide) fl_X7_108 dX7_readLine_1 ?_
  rw [h17]
  refine g_iconst B (v := 1) dX7_readLine_4 (by decide) ?_
  refine g_icmp_ne B 15 dX7_readLine_5 (by decide) (fun h5 => ?_) (fun h5 => ?_)
  · rw [show (1 : Int32) = nI 1 from rfl, nI_eq (by omega) (by decide)] at h5
    exact absurd hk1 h5
  · clear h5
    refine g_aload_n B dX7_readLine_8 rfl ?_
    refine g_callVI B (ct_X7_lineNow hM hL) (by first | rfl | assumption) rfl ml_X7_151 mm_X7_lineNow rfl rfl (Nat.le_of_ble_eq_true rfl) dX7_readLine_9 (by decide) ?_
    rintro r9 _ ⟨h9, rfl⟩
    rw [h9, hlk]
    refine g_goto B 17 dX7_readLine_12 (by decide) ?_
    refine g_istn1 B dX7_readLine_17 (by decide) rfl ?_
    refine g_aload_n B dX7_readLine_18 rfl ?_
    refine g_iload_n B dX7_readLine_19 rfl ?_
    refine g_bipush B (v := (-4)) dX7_readLine_20 (by decide) ?_
    refine g_icmp_eq B 29 dX7_readLine_22 (by decide) (fun h22 => ?_) (fun h22 => ?_)
    · exact absurd h22 (by decide)
    · refine g_iconst B (v := 1) dX7_readLine_25 (by decide) ?_
      refine g_goto B 30 dX7_readLine_26 (by decide) ?_
      refine g_eqi (bI true) rfl ?_
      refine g_iconst B (v := 2) dX7_readLine_30 (by decide) ?_
      refine g_callVV B (ct_X7_needs true 2) (by first | rfl | assumption) rfl ml_X7_122 mm_X7_needs rfl rfl (Nat.le_of_ble_eq_true rfl) dX7_readLine_31 (by decide) ?_
      rintro _ (⟨hg, rfl⟩ | ⟨hg, hf0, rfl⟩)
      · refine g_aload_n B dX7_readLine_34 rfl ?_
        refine g_iload_n B dX7_readLine_35 rfl ?_
        refine g_iconst B (v := 2) dX7_readLine_36 (by decide) ?_
        refine g_icmp_gt B 49 dX7_readLine_37 (by decide) (fun h37 => ?_) (fun h37 => ?_)
        · refine g_iload_n B dX7_readLine_49 rfl ?_
          refine g_iconst B (v := 5) dX7_readLine_50 (by decide) ?_
          refine g_icmp_ne B 66 dX7_readLine_51 (by decide) (fun h51 => ?_) (fun h51 => ?_)
          · refine g_iconst B (v := 1) dX7_readLine_66 (by decide) ?_
            refine g_goto B 71 dX7_readLine_67 (by decide) ?_
            refine g_eqi (bI true) rfl ?_
            refine g_iconst B (v := 5) dX7_readLine_71 (by decide) ?_
            refine g_callVV B (ct_X7_needs true 5) (by first | rfl | assumption) rfl ml_X7_122 mm_X7_needs rfl rfl (Nat.le_of_ble_eq_true rfl) dX7_readLine_72 (by decide) ?_
            rintro _ (⟨hg, rfl⟩ | ⟨hg, hf0, rfl⟩)
            · refine g_aload_n B dX7_readLine_75 rfl ?_
              refine g_geti B ci_X7 (by first | rfl | assumption) rfl (by decide) fl_X7_84 dX7_readLine_76 ?_
              rw [h19]
              refine g_if_ne B 129 dX7_readLine_79 (by decide) (fun h79 => ?_) (fun h79 => ?_)
              · exact absurd rfl h79
              · refine g_iload_n B dX7_readLine_82 rfl ?_
                refine g_i2l B dX7_readLine_83 ?_
                refine g_ldc2 B dX7_readLine_84 cn_X7_154 ?_
                refine g_ldc2 B dX7_readLine_87 cn_X7_156 ?_
                refine g_callSI B (ct_in 4 3 4 rfl (by decide) (by decide)) ml_X7_77 mm_X7_in rfl rfl (Nat.le_of_ble_eq_true rfl) dX7_readLine_90 (by decide) ?_
                rintro _ _ ⟨rfl, rfl⟩
                refine g_if_eq B 129 dX7_readLine_93 (by decide) (fun h93 => ?_) (fun h93 => ?_)
                · rw [bI_eq0] at h93
                  exact absurd h93 (by decide)
                · rw [bI_ne0] at h93
                  refine g_aload_n B dX7_readLine_96 rfl ?_
                  refine g_aload_n B dX7_readLine_97 rfl ?_
                  refine g_geti B ci_X7 (by first | rfl | assumption) rfl (by decide) fl_X7_66 dX7_readLine_98 ?_
                  rw [htb]
                  refine g_iload_n B dX7_readLine_101 rfl ?_
                  refine g_ishr B dX7_readLine_102 ?_
                  refine g_iconst B (v := 1) dX7_readLine_103 (by decide) ?_
                  refine g_iand B dX7_readLine_104 ?_
                  refine g_if_ne B 112 dX7_readLine_105 (by decide) (fun h105 => ?_) (fun h105 => ?_)
                  · have hto : ¬ D 39 9 = 0 := fun z => h105 ((tb_9 hI).mpr z)
                    refine g_iconst B (v := 0) dX7_readLine_112 (by decide) ?_
                    refine g_eqi (bI false) rfl ?_
                    refine g_iconst B (v := 4) dX7_readLine_113 (by decide) ?_
                    refine g_callVV B (ct_X7_needs false 4) (by first | rfl | assumption) rfl ml_X7_122 mm_X7_needs rfl rfl (Nat.le_of_ble_eq_true rfl) dX7_readLine_114 (by decide) ?_
                    rintro _ (⟨hg, rfl⟩ | ⟨hg, hf0, rfl⟩)
                    · exact absurd hg (by simp [h19])
                    · refine g_aload_n B dX7_readLine_117 rfl ?_
                      refine g_dup B dX7_readLine_118 rfl ?_
                      refine g_geti B ci_X7 (by first | rfl | assumption) rfl (by decide) fl_X7_66 dX7_readLine_119 ?_
                      rw [show (w2 (w2 I 57 19 4) 57 20 (I 57 16)) 57 11 = tb D from htb]
                      refine g_iconst B (v := 1) dX7_readLine_122 (by decide) ?_
                      refine g_iload_n B dX7_readLine_123 rfl ?_
                      refine g_ishl B dX7_readLine_124 ?_
                      refine g_ior B dX7_readLine_125 ?_
                      refine g_put B ci_X7 (by first | rfl | assumption) rfl (by decide) fl_X7_66 rfl rfl rfl dX7_readLine_126 ?_
                      refine g_aload_n B dX7_readLine_129 rfl ?_
                      refine g_callVV B (cn_next (I := w2 (w2 (w2 I 57 19 4) 57 20 (I 57 16)) 57 11 (tb D ||| ((1 : Int32) <<< ((4 : Int32) &&& 31)))) (e := (4, tS b q p0)) ⟨rfl, h16, (er8 rfl).1, (er8 rfl).2⟩) (by first | rfl | assumption) rfl ml_X7_130 mm_X7_next rfl rfl (Nat.le_of_ble_eq_true rfl) dX7_readLine_130 (by decide) ?_
                      rintro _ rfl
                      refine g_aload_n B dX7_readLine_133 rfl ?_
                      refine g_geti B ci_X7 (by first | rfl | assumption) rfl (by decide) fl_X7_84 dX7_readLine_134 ?_
                      rw [show (w2 (w2 (w2 I 57 19 4) 57 20 (I 57 16)) 57 11 (tb D ||| ((1 : Int32) <<< ((4 : Int32) &&& 31)))) 57 19 = 4 from rfl]
                      refine g_if_le B 141 dX7_readLine_137 (by decide) (fun h137 => ?_) (fun h137 => ?_)
                      · exact absurd h137 (show ¬ (4 : Int32) ≤ 0 by decide)
                      · exact g_vret B E dX7_readLine_140 (rl_er (e := (4, tS b q p0)) (by rw [bDy, if_pos hto]; rfl) ⟨rfl, h16, (er8 rfl).1, (er8 rfl).2⟩ (frL_w2 (by omega) (frL_w2 (by omega) (frL_w2 (by omega) frL_0))))
                  · have hto : D 39 9 = 0 := (tb_9 hI).mp h105
                    refine g_iconst B (v := 1) dX7_readLine_108 (by decide) ?_
                    refine g_goto B 113 dX7_readLine_109 (by decide) ?_
                    refine g_eqi (bI true) rfl ?_
                    refine g_iconst B (v := 4) dX7_readLine_113 (by decide) ?_
                    refine g_callVV B (ct_X7_needs true 4) (by first | rfl | assumption) rfl ml_X7_122 mm_X7_needs rfl rfl (Nat.le_of_ble_eq_true rfl) dX7_readLine_114 (by decide) ?_
                    rintro _ (⟨hg, rfl⟩ | ⟨hg, hf0, rfl⟩)
                    · refine g_aload_n B dX7_readLine_117 rfl ?_
                      refine g_dup B dX7_readLine_118 rfl ?_
                      refine g_geti B ci_X7 (by first | rfl | assumption) rfl (by decide) fl_X7_66 dX7_readLine_119 ?_
                      rw [show (I) 57 11 = tb D from htb]
                      refine g_iconst B (v := 1) dX7_readLine_122 (by decide) ?_
                      refine g_iload_n B dX7_readLine_123 rfl ?_
                      refine g_ishl B dX7_readLine_124 ?_
                      refine g_ior B dX7_readLine_125 ?_
                      refine g_put B ci_X7 (by first | rfl | assumption) rfl (by decide) fl_X7_66 rfl rfl rfl dX7_readLine_126 ?_
                      refine g_aload_n B dX7_readLine_129 rfl ?_
                      refine g_callVV B (ct_X7_next (I := w2 (I) 57 11 (tb D ||| ((1 : Int32) <<< ((4 : Int32) &&& 31)))) (p := (tE b q p0)) (hM.frL (frL_w2 (by omega) frL_0)) h19 h15 hE1.2) (by first | rfl | assumption) rfl ml_X7_130 mm_X7_next rfl rfl (Nat.le_of_ble_eq_true rfl) dX7_readLine_130 (by decide) ?_
                      rintro u2 ⟨hS2, hF2⟩
                      have hM2 : MB u2 b q := (hM.frL (frL_w2 (by omega) frL_0)).frN hF2
                      have hMD2 : MDn u2 D n m := (hMD.fr rfl rfl (fun x y a b => w2_cell _ _ (by omega)) : MDn (w2 (I) 57 11 (tb D ||| ((1 : Int32) <<< ((4 : Int32) &&& 31)))) D n m).frN hF2
                      have hFL2 : FrL I u2 := (frL_w2 (by omega) frL_0).trans hF2.l
                      have h211 : u2 57 11 = (tb D ||| ((1 : Int32) <<< ((4 : Int32) &&& 31))) := (hF2 57 11 (fun _ => by decide)).trans (w2_same _ _ _ _)
                      rcases hS2 with ⟨hB2, hE2⟩ | hL2
                      ·
                        refine g_aload_n B dX7_readLine_133 rfl ?_
                        refine g_geti B ci_X7 (by first | rfl | assumption) rfl (by decide) fl_X7_84 dX7_readLine_134 ?_
                        rw [hE2.1]
                        refine g_if_le B 141 dX7_readLine_137 (by decide) (fun h137 => ?_) (fun h137 => ?_)
                        · exact absurd h137 (show ¬ (1 : Int32) ≤ 0 by decide)
                        · exact g_vret B E dX7_readLine_140 (rl_er (e := (1, tS b q (tE b q p0))) (by rw [bDy, if_neg (fun z => z hto), rdN, if_pos hB2]; rfl) hE2 hFL2)
                      ·
                        have hS2 : Sn u2 b q (tE b q p0) := Or.inr hL2
                        refine g_aload_n B dX7_readLine_133 rfl ?_
                        refine g_geti B ci_X7 (by first | rfl | assumption) rfl (by decide) fl_X7_84 dX7_readLine_134 ?_
                        rw [hL2.1]
                        refine g_if_le B 141 dX7_readLine_137 (by decide) (fun h137 => ?_) (fun h137 => ?_)
                        · refine g_aload_n B dX7_readLine_141 rfl ?_
                          refine g_iload_n B dX7_readLine_142 rfl ?_
                          refine g_callVV B (rl_4 hM2 hS2 hE1.2 hMD2 hI) (by first | rfl | assumption) rfl ml_X7_158 mm_X7_readLineOf rfl rfl (Nat.le_of_ble_eq_true rfl) dX7_readLine_143 (by decide) ?_
                          rintro u3 (⟨e, hk, hE3, hF3⟩ | ⟨x, hk, hS3, hD3, hF3⟩)
                          · have hbq : bDy b q (tS b q p0) (tE b q p0) D = k4 b q (tE b q p0) D := bDy_k4 hto
                            refine g_aload_n B dX7_readLine_146 rfl ?_
                            refine g_geti B ci_X7 (by first | rfl | assumption) rfl (by decide) fl_X7_84 dX7_readLine_147 ?_
                            rw [hE3.1]
                            refine g_if_ne B 171 dX7_readLine_150 (by decide) (fun h150 => ?_) (fun h150 => ?_)
                            · refine g_aload_n B dX7_readLine_171 rfl ?_
                              refine g_callVV B (cn_next hE3) (by first | rfl | assumption) rfl ml_X7_130 mm_X7_next rfl rfl (Nat.le_of_ble_eq_true rfl) dX7_readLine_172 (by decide) ?_
                              rintro _ rfl
                              exact g_vret B E dX7_readLine_175 (rl_er (e := e) (by rw [hbq, hk]; rfl) hE3 (hFL2.trans hF3.l))
                            · exact absurd ((nI_eq (by have := hE3.2.2.2; omega) (by decide)).mp h150) hE3.2.2.1
                          · have hbq : bDy b q (tS b q p0) (tE b q p0) D = k4 b q (tE b q p0) D := bDy_k4 hto
                            have hx9 : x.1 ≤ q := (bDy_ok hE1.2 hI (hbq.trans hk)).2.2
                            have hM3 : MB u3 b q := hM2.frD hF3
                            have hFL3 : FrL I u3 := hFL2.trans hF3.l
                            have h311 : u3 57 11 = (tb D ||| ((1 : Int32) <<< ((4 : Int32) &&& 31))) := (hF3 57 11 (fun _ => by decide) (by decide)).trans h211
                            rcases hS3 with ⟨hB3, hE3⟩ | hL3
                            ·
                              refine g_aload_n B dX7_readLine_146 rfl ?_
                              refine g_geti B ci_X7 (by first | rfl | assumption) rfl (by decide) fl_X7_84 dX7_readLine_147 ?_
                              rw [hE3.1]
                              refine g_if_ne B 171 dX7_readLine_150 (by decide) (fun h150 => ?_) (fun h150 => ?_)
                              · refine g_aload_n B dX7_readLine_171 rfl ?_
                                refine g_callVV B (cn_next hE3) (by first | rfl | assumption) rfl ml_X7_130 mm_X7_next rfl rfl (Nat.le_of_ble_eq_true rfl) dX7_readLine_172 (by decide) ?_
                                rintro _ rfl
                                exact g_vret B E dX7_readLine_175 (rl_er (e := (1, tS b q x.1)) (by rw [hbq, hk]; simp only [thenS, rdT, if_pos hB3]) hE3 hFL3)
                              · exact absurd ((nI_eq (by have := hE3.2.2.2; omega) (by decide)).mp h150) hE3.2.2.1
                            ·
                              have hD4 := hD3 hL3
                              have hK5 := tK_le b q x.1
                              have hE5 := tE_ge b hx9
                              refine g_aload_n B dX7_readLine_146 rfl ?_
                              refine g_geti B ci_X7 (by first | rfl | assumption) rfl (by decide) fl_X7_84 dX7_readLine_147 ?_
                              rw [hL3.1]
                              refine g_if_ne B 171 dX7_readLine_150 (by decide) (fun h150 => ?_) (fun h150 => ?_)
                              · exact absurd rfl h150
                              · refine g_aload_n B dX7_readLine_153 rfl ?_
                                refine g_aload_n B dX7_readLine_154 rfl ?_
                                refine g_geti B ci_X7 (by first | rfl | assumption) rfl (by decide) fl_X7_108 dX7_readLine_155 ?_
                                rw [hL3.2.2.1]
                                refine g_iconst B (v := 3) dX7_readLine_158 (by decide) ?_
                                refine g_icmp_ne B 166 dX7_readLine_159 (by decide) (fun h159 => ?_) (fun h159 => ?_)
                                · rw [show (3 : Int32) = nI 3 from rfl, nI_eq (by omega) (by decide)] at h159
                                  refine g_iconst B (v := 0) dX7_readLine_166 (by decide) ?_
                                  refine g_eqi (bI false) rfl ?_
                                  refine g_iconst B (v := 2) dX7_readLine_167 (by decide) ?_
                                  refine g_callVV B (ct_X7_needs false 2) (by first | rfl | assumption) rfl ml_X7_122 mm_X7_needs rfl rfl (Nat.le_of_ble_eq_true rfl) dX7_readLine_168 (by decide) ?_
                                  rintro _ (⟨hg, rfl⟩ | ⟨hg, hf0, rfl⟩)
                                  · exact absurd hg (by simp [hL3.1])
                                  · have hE4 : Er (w2 (w2 u3 57 19 2) 57 20 (u3 57 16)) (2, tS b q x.1) := ⟨rfl, hL3.2.1, (er8 rfl).1, (er8 rfl).2⟩
                                    refine g_aload_n B dX7_readLine_171 rfl ?_
                                    refine g_callVV B (cn_next hE4) (by first | rfl | assumption) rfl ml_X7_130 mm_X7_next rfl rfl (Nat.le_of_ble_eq_true rfl) dX7_readLine_172 (by decide) ?_
                                    rintro _ rfl
                                    exact g_vret B E dX7_readLine_175 (rl_er (e := (2, tS b q x.1)) (by rw [hbq, hk]; simp only [thenS, rdT, if_neg (ne_t hL3.2.2.2.2.2.1), if_neg h159]) hE4 (hFL3.trans (frL_w2 (by omega) (frL_w2 (by omega) frL_0))))
                                · rw [show (3 : Int32) = nI 3 from rfl, nI_eq (by omega) (by decide)] at h159
                                  refine g_iconst B (v := 1) dX7_readLine_162 (by decide) ?_
                                  refine g_goto B 167 dX7_readLine_163 (by decide) ?_
                                  refine g_eqi (bI true) rfl ?_
                                  refine g_iconst B (v := 2) dX7_readLine_167 (by decide) ?_
                                  refine g_callVV B (ct_X7_needs true 2) (by first | rfl | assumption) rfl ml_X7_122 mm_X7_needs rfl rfl (Nat.le_of_ble_eq_true rfl) dX7_readLine_168 (by decide) ?_
                                  rintro _ (⟨hg, rfl⟩ | ⟨hg, hf0, rfl⟩)
                                  · refine g_aload_n B dX7_readLine_171 rfl ?_
                                    refine g_callVV B (ct_X7_next (p := tE b q x.1) hM3 hL3.1 hL3.2.2.2.1 hE5.2) (by first | rfl | assumption) rfl ml_X7_130 mm_X7_next rfl rfl (Nat.le_of_ble_eq_true rfl) dX7_readLine_172 (by decide) ?_
                                    rintro u4 ⟨hS4, hF4⟩
                                    exact g_vret B E dX7_readLine_175 (rl_ok (x := (tE b q x.1, x.2)) (by rw [hbq, hk]; simp only [thenS, rdT, if_neg (ne_t hL3.2.2.2.2.2.1), if_pos h159]) hS4 (hD4.frN hF4) (by rw [hF4 57 11 (fun _ => by decide), h311]; exact (show _ = tb x.2 from tb_dy hI hto hk)) (hFL3.trans hF4.l))
                                  · exact absurd hg (by decide)
                        · exact absurd (by decide) h137
                    · exact absurd hg (by decide)
            · exact absurd hg (by decide)
          · exact absurd h51 (by decide)
        · exact absurd (by decide) h37
      · exact absurd hg (by decide)
set_option maxHeartbeats 4000000 in
set_option maxRecDepth 100000 in
theorem rd_7 {I D : Wo} {b : Nat → Nat} {q p0 n m : Nat} (hM : MB I b q) (hL : Ld I b q p0) (hMD : MDn I D n m) (hI : DIn D n m) (htb : I 57 11 = tb D) (hlk : tK b q p0 = 1 → lnK b (tS b q p0) (tE b q p0) = -4) : Ct yX7_readLine cX7_readLine 2 none 5 115 [.ref 57] I (pV (fun u => RlR I u b q (thenS b q (.error (2, tS b q p0))))) := by
  obtain ⟨h19, h16, h17, h15, h18, hB, hpq⟩ := id hL
  have hE1 := tE_ge b hpq
  have hS1 := tS_le b hpq
  have hK4 := tK_le b q p0
  have hn8 := hI.n8
  have hm6 := hI.m6
  refine ct_of RX7 rfl (by decide) (Nat.le_of_ble_eq_true rfl) (fun X B E => ?_)
  show GW X 2 0 [some (.ref 57), none] [] _
  refine g_aload_n B dX7_readLine_0 rfl ?_
  refine g_geti B ci_X7 (by first | rfl | assumption) rfl (by decide) fl_X7_108 dX7_readLine_1 ?_
  rw [h17]
  refine g_iconst B (v := 1) dX7_readLine_4 (by decide) ?_
  refine g_icmp_ne B 15 dX7_readLine_5 (by decide) (fun h5 => ?_) (fun h5 => ?_)
  · rw [show (1 : Int32) = nI 1 from rfl, nI_eq (by omega) (by decide)] at h5
    refine g_bipush B (v := (-4)) dX7_readLine_15 (by decide) ?_
    refine g_istn1 B dX7_readLine_17 (by decide) rfl ?_
    refine g_aload_n B dX7_readLine_18 rfl ?_
    refine g_iload_n B dX7_readLine_19 rfl ?_
    refine g_bipush B (v := (-4)) dX7_readLine_20 (by decide) ?_
    refine g_icmp_eq B 29 dX7_readLine_22 (by decide) (fun h22 => ?_) (fun h22 => ?_)
    · refine g_iconst B (v := 0) dX7_readLine_29 (by decide) ?_
      refine g_eqi (bI false) rfl ?_
      refine g_iconst B (v := 2) dX7_readLine_30 (by decide) ?_
      refine g_callVV B (ct_X7_needs false 2) (by first | rfl | assumption) rfl ml_X7_122 mm_X7_needs rfl rfl (Nat.le_of_ble_eq_true rfl) dX7_readLine_31 (by decide) ?_
      rintro _ (⟨hg, rfl⟩ | ⟨hg, hf0, rfl⟩)
      · exact absurd hg (by simp [h19])
      · refine g_aload_n B dX7_readLine_34 rfl ?_
        refine g_iload_n B dX7_readLine_35 rfl ?_
        refine g_iconst B (v := 2) dX7_readLine_36 (by decide) ?_
        refine g_icmp_gt B 49 dX7_readLine_37 (by decide) (fun h37 => ?_) (fun h37 => ?_)
        · exact absurd h37 (by decide)
        · refine g_aload_n B dX7_readLine_40 rfl ?_
          refine g_geti B ci_X7 (by first | rfl | assumption) rfl (by decide) fl_X7_62 dX7_readLine_41 ?_
          rw [show (w2 (w2 I 57 19 2) 57 20 (I 57 16)) 57 7 = nI n from hMD.c7]
          refine g_bipush B (v := 8) dX7_readLine_44 (by decide) ?_
          refine g_icmp_ge B 70 dX7_readLine_46 (by decide) (fun h46 => ?_) (fun h46 => ?_)
          · replace h46 := le_le (a := 8) (b := n) (by decide) (by omega) h46
            refine g_iconst B (v := 0) dX7_readLine_70 (by decide) ?_
            refine g_eqi (bI false) rfl ?_
            refine g_iconst B (v := 5) dX7_readLine_71 (by decide) ?_
            refine g_callVV B (ct_X7_needs false 5) (by first | rfl | assumption) rfl ml_X7_122 mm_X7_needs rfl rfl (Nat.le_of_ble_eq_true rfl) dX7_readLine_72 (by decide) ?_
            rintro _ (⟨hg, rfl⟩ | ⟨hg, hf0, rfl⟩)
            · refine g_aload_n B dX7_readLine_75 rfl ?_
              refine g_geti B ci_X7 (by first | rfl | assumption) rfl (by decide) fl_X7_84 dX7_readLine_76 ?_
              rw [show (w2 (w2 I 57 19 2) 57 20 (I 57 16)) 57 19 = 2 from rfl]
              refine g_if_ne B 129 dX7_readLine_79 (by decide) (fun h79 => ?_) (fun h79 => ?_)
              · refine g_aload_n B dX7_readLine_129 rfl ?_
                refine g_callVV B (cn_next (I := w2 (w2 I 57 19 2) 57 20 (I 57 16)) (e := (2, tS b q p0)) ⟨rfl, h16, (er8 rfl).1, (er8 rfl).2⟩) (by first | rfl | assumption) rfl ml_X7_130 mm_X7_next rfl rfl (Nat.le_of_ble_eq_true rfl) dX7_readLine_130 (by decide) ?_
                rintro _ rfl
                refine g_aload_n B dX7_readLine_133 rfl ?_
                refine g_geti B ci_X7 (by first | rfl | assumption) rfl (by decide) fl_X7_84 dX7_readLine_134 ?_
                rw [show (w2 (w2 I 57 19 2) 57 20 (I 57 16)) 57 19 = 2 from rfl]
                refine g_if_le B 141 dX7_readLine_137 (by decide) (fun h137 => ?_) (fun h137 => ?_)
                · exact absurd h137 (show ¬ (2 : Int32) ≤ 0 by decide)
                · exact g_vret B E dX7_readLine_140 (rl_er (e := (2, tS b q p0)) (by rw [thenS]) ⟨rfl, h16, (er8 rfl).1, (er8 rfl).2⟩ (frL_w2 (by omega) (frL_w2 (by omega) frL_0)))
              · exact absurd h79 (by decide)
            · exact absurd hf0 (show ¬ (2 : Int32) = 0 by decide)
          · replace h46 := nle_lt (a := 8) (b := n) (by decide) (by omega) h46
            refine g_iload_n B dX7_readLine_49 rfl ?_
            refine g_iconst B (v := 5) dX7_readLine_50 (by decide) ?_
            refine g_icmp_ne B 66 dX7_readLine_51 (by decide) (fun h51 => ?_) (fun h51 => ?_)
            · refine g_iconst B (v := 1) dX7_readLine_66 (by decide) ?_
              refine g_goto B 71 dX7_readLine_67 (by decide) ?_
              refine g_eqi (bI true) rfl ?_
              refine g_iconst B (v := 5) dX7_readLine_71 (by decide) ?_
              refine g_callVV B (ct_X7_needs true 5) (by first | rfl | assumption) rfl ml_X7_122 mm_X7_needs rfl rfl (Nat.le_of_ble_eq_true rfl) dX7_readLine_72 (by decide) ?_
              rintro _ (⟨hg, rfl⟩ | ⟨hg, hf0, rfl⟩)
              · refine g_aload_n B dX7_readLine_75 rfl ?_
                refine g_geti B ci_X7 (by first | rfl | assumption) rfl (by decide) fl_X7_84 dX7_readLine_76 ?_
                rw [show (w2 (w2 I 57 19 2) 57 20 (I 57 16)) 57 19 = 2 from rfl]
                refine g_if_ne B 129 dX7_readLine_79 (by decide) (fun h79 => ?_) (fun h79 => ?_)
                · refine g_aload_n B dX7_readLine_129 rfl ?_
                  refine g_callVV B (cn_next (I := w2 (w2 I 57 19 2) 57 20 (I 57 16)) (e := (2, tS b q p0)) ⟨rfl, h16, (er8 rfl).1, (er8 rfl).2⟩) (by first | rfl | assumption) rfl ml_X7_130 mm_X7_next rfl rfl (Nat.le_of_ble_eq_true rfl) dX7_readLine_130 (by decide) ?_
                  rintro _ rfl
                  refine g_aload_n B dX7_readLine_133 rfl ?_
                  refine g_geti B ci_X7 (by first | rfl | assumption) rfl (by decide) fl_X7_84 dX7_readLine_134 ?_
                  rw [show (w2 (w2 I 57 19 2) 57 20 (I 57 16)) 57 19 = 2 from rfl]
                  refine g_if_le B 141 dX7_readLine_137 (by decide) (fun h137 => ?_) (fun h137 => ?_)
                  · exact absurd h137 (show ¬ (2 : Int32) ≤ 0 by decide)
                  · exact g_vret B E dX7_readLine_140 (rl_er (e := (2, tS b q p0)) (by rw [thenS]) ⟨rfl, h16, (er8 rfl).1, (er8 rfl).2⟩ (frL_w2 (by omega) (frL_w2 (by omega) frL_0)))
                · exact absurd h79 (by decide)
              · exact absurd hf0 (show ¬ (2 : Int32) = 0 by decide)
            · exact absurd h51 (by decide)
    · exact absurd rfl h22
  · rw [show (1 : Int32) = nI 1 from rfl, nI_eq (by omega) (by decide)] at h5
    refine g_aload_n B dX7_readLine_8 rfl ?_
    refine g_callVI B (ct_X7_lineNow hM hL) (by first | rfl | assumption) rfl ml_X7_151 mm_X7_lineNow rfl rfl (Nat.le_of_ble_eq_true rfl) dX7_readLine_9 (by decide) ?_
    rintro r9 _ ⟨h9, rfl⟩
    rw [h9, hlk h5]
    refine g_goto B 17 dX7_readLine_12 (by decide) ?_
    refine g_istn1 B dX7_readLine_17 (by decide) rfl ?_
    refine g_aload_n B dX7_readLine_18 rfl ?_
    refine g_iload_n B dX7_readLine_19 rfl ?_
    refine g_bipush B (v := (-4)) dX7_readLine_20 (by decide) ?_
    refine g_icmp_eq B 29 dX7_readLine_22 (by decide) (fun h22 => ?_) (fun h22 => ?_)
    · refine g_iconst B (v := 0) dX7_readLine_29 (by decide) ?_
      refine g_eqi (bI false) rfl ?_
      refine g_iconst B (v := 2) dX7_readLine_30 (by decide) ?_
      refine g_callVV B (ct_X7_needs false 2) (by first | rfl | assumption) rfl ml_X7_122 mm_X7_needs rfl rfl (Nat.le_of_ble_eq_true rfl) dX7_readLine_31 (by decide) ?_
      rintro _ (⟨hg, rfl⟩ | ⟨hg, hf0, rfl⟩)
      · exact absurd hg (by simp [h19])
      · refine g_aload_n B dX7_readLine_34 rfl ?_
        refine g_iload_n B dX7_readLine_35 rfl ?_
        refine g_iconst B (v := 2) dX7_readLine_36 (by decide) ?_
        refine g_icmp_gt B 49 dX7_readLine_37 (by decide) (fun h37 => ?_) (fun h37 => ?_)
        · exact absurd h37 (by decide)
        · refine g_aload_n B dX7_readLine_40 rfl ?_
          refine g_geti B ci_X7 (by first | rfl | assumption) rfl (by decide) fl_X7_62 dX7_readLine_41 ?_
          rw [show (w2 (w2 I 57 19 2) 57 20 (I 57 16)) 57 7 = nI n from hMD.c7]
          refine g_bipush B (v := 8) dX7_readLine_44 (by decide) ?_
          refine g_icmp_ge B 70 dX7_readLine_46 (by decide) (fun h46 => ?_) (fun h46 => ?_)
          · replace h46 := le_le (a := 8) (b := n) (by decide) (by omega) h46
            refine g_iconst B (v := 0) dX7_readLine_70 (by decide) ?_
            refine g_eqi (bI false) rfl ?_
            refine g_iconst B (v := 5) dX7_readLine_71 (by decide) ?_
            refine g_callVV B (ct_X7_needs false 5) (by first | rfl | assumption) rfl ml_X7_122 mm_X7_needs rfl rfl (Nat.le_of_ble_eq_true rfl) dX7_readLine_72 (by decide) ?_
            rintro _ (⟨hg, rfl⟩ | ⟨hg, hf0, rfl⟩)
            · refine g_aload_n B dX7_readLine_75 rfl ?_
              refine g_geti B ci_X7 (by first | rfl | assumption) rfl (by decide) fl_X7_84 dX7_readLine_76 ?_
              rw [show (w2 (w2 I 57 19 2) 57 20 (I 57 16)) 57 19 = 2 from rfl]
              refine g_if_ne B 129 dX7_readLine_79 (by decide) (fun h79 => ?_) (fun h79 => ?_)
              · refine g_aload_n B dX7_readLine_129 rfl ?_
                refine g_callVV B (cn_next (I := w2 (w2 I 57 19 2) 57 20 (I 57 16)) (e := (2, tS b q p0)) ⟨rfl, h16, (er8 rfl).1, (er8 rfl).2⟩) (by first | rfl | assumption) rfl ml_X7_130 mm_X7_next rfl rfl (Nat.le_of_ble_eq_true rfl) dX7_readLine_130 (by decide) ?_
                rintro _ rfl
                refine g_aload_n B dX7_readLine_133 rfl ?_
                refine g_geti B ci_X7 (by first | rfl | assumption) rfl (by decide) fl_X7_84 dX7_readLine_134 ?_
                rw [show (w2 (w2 I 57 19 2) 57 20 (I 57 16)) 57 19 = 2 from rfl]
                refine g_if_le B 141 dX7_readLine_137 (by decide) (fun h137 => ?_) (fun h137 => ?_)
                · exact absurd h137 (show ¬ (2 : Int32) ≤ 0 by decide)
                · exact g_vret B E dX7_readLine_140 (rl_er (e := (2, tS b q p0)) (by rw [thenS]) ⟨rfl, h16, (er8 rfl).1, (er8 rfl).2⟩ (frL_w2 (by omega) (frL_w2 (by omega) frL_0)))
              · exact absurd h79 (by decide)
            · exact absurd hf0 (show ¬ (2 : Int32) = 0 by decide)
          · replace h46 := nle_lt (a := 8) (b := n) (by decide) (by omega) h46
            refine g_iload_n B dX7_readLine_49 rfl ?_
            refine g_iconst B (v := 5) dX7_readLine_50 (by decide) ?_
            refine g_icmp_ne B 66 dX7_readLine_51 (by decide) (fun h51 => ?_) (fun h51 => ?_)
            · refine g_iconst B (v := 1) dX7_readLine_66 (by decide) ?_
              refine g_goto B 71 dX7_readLine_67 (by decide) ?_
              refine g_eqi (bI true) rfl ?_
              refine g_iconst B (v := 5) dX7_readLine_71 (by decide) ?_
              refine g_callVV B (ct_X7_needs true 5) (by first | rfl | assumption) rfl ml_X7_122 mm_X7_needs rfl rfl (Nat.le_of_ble_eq_true rfl) dX7_readLine_72 (by decide) ?_
              rintro _ (⟨hg, rfl⟩ | ⟨hg, hf0, rfl⟩)
              · refine g_aload_n B dX7_readLine_75 rfl ?_
                refine g_geti B ci_X7 (by first | rfl | assumption) rfl (by decide) fl_X7_84 dX7_readLine_76 ?_
                rw [show (w2 (w2 I 57 19 2) 57 20 (I 57 16)) 57 19 = 2 from rfl]
                refine g_if_ne B 129 dX7_readLine_79 (by decide) (fun h79 => ?_) (fun h79 => ?_)
                · refine g_aload_n B dX7_readLine_129 rfl ?_
                  refine g_callVV B (cn_next (I := w2 (w2 I 57 19 2) 57 20 (I 57 16)) (e := (2, tS b q p0)) ⟨rfl, h16, (er8 rfl).1, (er8 rfl).2⟩) (by first | rfl | assumption) rfl ml_X7_130 mm_X7_next rfl rfl (Nat.le_of_ble_eq_true rfl) dX7_readLine_130 (by decide) ?_
                  rintro _ rfl
                  refine g_aload_n B dX7_readLine_133 rfl ?_
                  refine g_geti B ci_X7 (by first | rfl | assumption) rfl (by decide) fl_X7_84 dX7_readLine_134 ?_
                  rw [show (w2 (w2 I 57 19 2) 57 20 (I 57 16)) 57 19 = 2 from rfl]
                  refine g_if_le B 141 dX7_readLine_137 (by decide) (fun h137 => ?_) (fun h137 => ?_)
                  · exact absurd h137 (show ¬ (2 : Int32) ≤ 0 by decide)
                  · exact g_vret B E dX7_readLine_140 (rl_er (e := (2, tS b q p0)) (by rw [thenS]) ⟨rfl, h16, (er8 rfl).1, (er8 rfl).2⟩ (frL_w2 (by omega) (frL_w2 (by omega) frL_0)))
                · exact absurd h79 (by decide)
              · exact absurd hf0 (show ¬ (2 : Int32) = 0 by decide)
            · exact absurd h51 (by decide)
    · exact absurd rfl h22

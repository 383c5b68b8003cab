/-! luck: floods behind the last day change nothing -/
section
theorem gdN_congr {es es' : Nat → Bool} {w w' : Nat → Nat} : ∀ {m : Nat}, (∀ k, k < m → es k = es' k) → (∀ k, k < m → w k = w' k) → gdN es w m = gdN es' w' m
  | 0, _, _ => rfl
  | m + 1, h1, h2 => by rw [gdN, gdN, gdN_congr (fun k hk => h1 k (by omega)) (fun k hk => h2 k (by omega)), h1 m (by omega), h2 m (by omega)]
theorem gdN_add {es : Nat → Bool} {w : Nat → Nat} (a : Nat) : ∀ b, gdN es w (a + b) = gdN es w a + gdN (fun k => es (a + k)) (fun k => w (a + k)) b
  | 0 => rfl
  | b + 1 => by
    rw [← Nat.add_assoc, gdN, gdN, gdN_add a b]
    split
    · rw [Nat.add_assoc]
    · rfl
theorem gdN_mul {es : Nat → Bool} {w : Nat → Nat} (c : Nat) : ∀ m, gdN es (fun k => w k * c) m = gdN es w m * c
  | 0 => by rw [gdN, gdN, Nat.zero_mul]
  | m + 1 => by
    rw [gdN, gdN, gdN_mul c m]
    split
    · rw [Nat.add_mul]
    · rfl
theorem wN_congr {p p' : Nat → Bool} {v : Nat} : ∀ {i : Nat}, (∀ j, j < i → p j = p' j) → wN p v i = wN p' v i
  | 0, _ => rfl
  | i + 1, h => by rw [wN, wN, wN_congr (fun j hj => h j (by omega)), h i (by omega)]
def flB (k i : Nat) : Bool := decide ((nI k >>> (nI i &&& 31)) &&& 1 = 1)
theorem flB_bit {k i : Nat} (h : i ≤ 8) : flB k i = k.testBit i := by
  rw [flB, bitD _ h, nI_lsb k h]
theorem gd_step {es : Nat → Bool} {v j : Nat} (hv : v ≤ 10) (hj : j ≤ 8) (hE : ∀ k, k < 2 ^ j → es (2 ^ j + k) = es k) : gdN es (fun k => wN (flB k) v (j + 1)) (2 ^ (j + 1)) = gdN es (fun k => wN (flB k) v j) (2 ^ j) * 10 := by
  rw [show 2 ^ (j + 1) = 2 ^ j + 2 ^ j by rw [Nat.pow_succ]; omega, gdN_add]
  have a1 : gdN es (fun k => wN (flB k) v (j + 1)) (2 ^ j) = gdN es (fun k => wN (flB k) v j * (10 - v)) (2 ^ j) := gdN_congr (fun _ _ => rfl) (fun k hk => by
    show wN (flB k) v (j + 1) = wN (flB k) v j * (10 - v)
    rw [wN, flB_bit hj, Nat.testBit_lt_two_pow hk]; rfl)
  have a2 : gdN (fun k => es (2 ^ j + k)) (fun k => wN (flB (2 ^ j + k)) v (j + 1)) (2 ^ j) = gdN es (fun k => wN (flB k) v j * v) (2 ^ j) := gdN_congr hE (fun k hk => by
    show wN (flB (2 ^ j + k)) v (j + 1) = wN (flB k) v j * v
    rw [wN, flB_bit hj, Nat.testBit_two_pow_add_eq, Nat.testBit_lt_two_pow hk, wN_congr (p' := flB k) (fun i hi => by rw [flB_bit (by omega), flB_bit (by omega), Nat.testBit_two_pow_add_gt hi])]; rfl)
  rw [a1, a2, gdN_mul, gdN_mul, ← Nat.mul_add, show 10 - v + v = 10 by omega]
theorem gd_all {es : Nat → Bool} {v d : Nat} (hv : v ≤ 10) (hE : ∀ j, d ≤ j → j ≤ 8 → ∀ k, k < 2 ^ j → es (2 ^ j + k) = es k) : ∀ m, d + m ≤ 8 → gdN es (fun k => wN (flB k) v (d + m)) (2 ^ (d + m)) = gdN es (fun k => wN (flB k) v d) (2 ^ d) * 10 ^ m
  | 0, _ => by rw [Nat.add_zero, Nat.pow_zero, Nat.mul_one]
  | m + 1, h => by
    rw [← Nat.add_assoc, gd_step hv (by omega) (hE (d + m) (by omega) (by omega)), gd_all hv hE m (by omega), Nat.pow_succ, Nat.mul_assoc]
theorem trF_late {fl fl' : Nat → Bool} {day s0 : Int32} {pl fr to : Nat → Int32} {n dd : Nat} (hn : n ≤ 8) (hto : ∀ c, c < n → Bd (to c) 10) (hdd : day = nI dd) (hd : dd ≤ 9) : ∀ {q : Nat}, q ≤ 6 → (∀ i, i < q → Bd (pl i) n) → (∀ i, i < q → dd + i ≤ 9 → fl i = fl' i) → trF fl day pl fr to s0 q = trF fl' day pl fr to s0 q
  | 0, _, _, _ => rfl
  | q + 1, h6, hp, h => by
    have ih := trF_late (fr := fr) (s0 := s0) (fl := fl) (fl' := fl') hn hto hdd hd (q := q) (by omega) (fun i hi => hp i (by omega)) (fun i hi => h i (by omega))
    rw [trF, trF, ih]
    by_cases hl : dd + q ≤ 9
    · rw [trQ, trQ, h q (by omega) hl]
    · obtain ⟨p, hp1, hp2⟩ := hp q (by omega)
      have h9 : (9 : Int32) < nI dd + nI q := by
        rw [nI_add, show (9 : Int32) = nI 9 from rfl]
        exact nI_lt (by omega) (by omega)
      rw [tr_late hto hp1 hdd hp2 h9 hn, tr_late hto hp1 hdd hp2 h9 hn]
theorem low_mul {a b c : Nat} {what : Int32} (hc : 0 < c) (hb : 0 < b) (h1 : a * c < 2 ^ 63) (h2 : b * c < 2 ^ 63) : lowF (lN (a * c)) (lN (b * c)) (lN (Nat.gcd (b * c) (a * c))) what = lowF (lN a) (lN b) (lN (Nat.gcd b a)) what := by
  have g0 : 0 < Nat.gcd b a := Nat.gcd_pos_of_pos_left _ hb
  have gb : Nat.gcd b a ≤ b := Nat.le_of_dvd hb (Nat.gcd_dvd_left b a)
  have gc : Nat.gcd b a * c ≤ b * c := Nat.mul_le_mul_right c gb
  have ac : a ≤ a * c := Nat.le_mul_of_pos_right a hc
  have bc : b ≤ b * c := Nat.le_mul_of_pos_right b hc
  rw [Nat.gcd_mul_right, lowF, lowF, pk_lDiv h1 (Nat.mul_pos g0 hc) (by omega), pk_lDiv h2 (Nat.mul_pos g0 hc) (by omega), pk_lDiv (by omega) g0 (by omega), pk_lDiv (by omega) g0 (by omega), Nat.mul_div_mul_right _ _ hc, Nat.mul_div_mul_right _ _ hc]
theorem op_luck {I : Wo} (h : Inv I) (vv what : Int32) : OpL yX6_luck cX6_luck 8 2 52 yX7_luck cX7_luck 13 3 73 [.int vv, .int what] I := by
  obtain ⟨n, hI⟩ := id h
  obtain ⟨n8, nM, ⟨s1, sL, sF, sY, ⟨sd, sdB⟩, ⟨se, seB⟩, ⟨sy, ⟨dd, d10, syB⟩⟩, ⟨q, q6, pq, pM, pl⟩, sn⟩, tr⟩ := hI.view
  have c1 := ct_X6_luck s1 n8 pq q6 (fun i hi => (pl i hi).2) vv what
  have C2 : ∀ u : Wo, (∀ x y, ¬ scr x y → u x y = I x y) → _ := fun u hu => ct_X7_luck (I := u) (n := n) (q := q) (dd := dd) (dq := if q < 10 - dd then q else 10 - dd) (by rw [hu 57 2 (by unfold scr; omega)]; exact nM) n8 (by rw [row_eq hu 58 (fun y => by unfold scr; omega)]; exact hI.e0) (by rw [row_eq hu 58 (fun y => by unfold scr; omega)]; exact pM) q6 (fun i hi => by rw [row_eq hu 58 (fun y => by unfold scr; omega), (pl i hi).1]; exact (pl i hi).2) (fun c hc => by rw [row_eq hu 62 (fun y => by unfold scr; omega), (tr c hc).2.2.1]; exact (tr c hc).2.2.2) (by rw [row_eq hu 58 (fun y => by unfold scr; omega), sy]; exact syB) (by omega) rfl vv what
  have hT : ∀ fl, trF fl (I 58 26) (fun i => I 58 (28 + i)) (I 61) (I 62) (I 58 24) q = trF fl (I 1 11) (I 8) (I 3) (I 4) (I 1 12) q := fun fl => by
    rw [sy, sd]
    exact trF_congr n8 (fun _ _ => rfl) (fun i hi => pl i hi) (fun c hc => ⟨(tr c hc).2.1, (tr c hc).2.2.1⟩)
  by_cases hw : (wi vv 0 10 && wi what 0 1) = true
  · obtain ⟨hw1, hw2⟩ := Bool.and_eq_true_iff.mp hw
    obtain ⟨v, hv, rfl⟩ := (wi_iff (m := 10) (by decide)).mp hw1
    by_cases h0 : n = 0
    · refine ⟨-2, fun u => I = u, c1.monoL ?_, ?_⟩
      · rintro r u (⟨e, -⟩ | ⟨v', b1, b2, b3, ⟨b4, b5, b6⟩ | ⟨b4, -⟩⟩)
        · rw [hw] at e; cases e
        · exact ⟨b5, b6⟩
        · exact absurd h0 b4
      · rintro u rfl
        refine (C2 I (fun _ _ _ => rfl)).monoL ?_
        rintro r u (⟨e, -⟩ | ⟨v', b1, b2, b3, ⟨b4, b5, b6⟩ | ⟨b4, -⟩⟩)
        · rw [hw] at e; cases e
        · exact ⟨b5, b6 ▸ h⟩
        · exact absurd h0 b4
    · refine ⟨lowF (lN (gdN (fun k => esF n (I 6) (I 7) (I 1 10) (trF (flB k) (I 1 11) (I 8) (I 3) (I 4) (I 1 12) q).1) (fun k => wN (flB k) v q) (2 ^ q))) (lN (10 ^ q)) (lN (Nat.gcd (10 ^ q) (gdN (fun k => esF n (I 6) (I 7) (I 1 10) (trF (flB k) (I 1 11) (I 8) (I 3) (I 4) (I 1 12) q).1) (fun k => wN (flB k) v q) (2 ^ q)))) what, fun u => ∀ x y, x ≠ 50 → u x y = I x y, c1.monoL ?_, ?_⟩
      · rintro r u (⟨e, -⟩ | ⟨v', b1, b2, b3, ⟨b4, -⟩ | ⟨b4, b5, b6⟩⟩)
        · rw [hw] at e; cases e
        · exact absurd b4 h0
        · have ev : v' = v := (nI_eq (by omega) (by omega)).mp b2.symm
          subst ev
          exact ⟨b5, b6⟩
      · intro u hu
        have hu2 : ∀ x y, ¬ scr x y → u x y = I x y := fun x y hs => hu x y (fun e => hs (by unfold scr; omega))
        have c2 := C2 u hu2
        rw [row_eq hu2 58 (fun y => by unfold scr; omega), row_eq hu2 61 (fun y => by unfold scr; omega), row_eq hu2 62 (fun y => by unfold scr; omega)] at c2
        refine c2.monoL ?_
        rintro r u' (⟨e, -⟩ | ⟨v', b1, b2, b3, ⟨b4, -⟩ | ⟨b4, b5, b6⟩⟩)
        · rw [hw] at e; cases e
        · exact absurd b4 h0
        · have ev : v' = v := (nI_eq (by omega) (by omega)).mp b2.symm
          subst ev
          refine ⟨b5.trans ?_, n, hI.frame (fun x y hs => (b6 x y (fun e => hs (by unfold scr; omega))).trans (hu2 x y hs))⟩
          simp only [hT, hI.es]
          show lowF (lN (gdN (fun k => esF n (I 6) (I 7) (I 1 10) (trF (flB k) (I 1 11) (I 8) (I 3) (I 4) (I 1 12) q).1) (fun k => wN (flB k) v' (if q < 10 - dd then q else 10 - dd)) (2 ^ (if q < 10 - dd then q else 10 - dd)))) (lN (10 ^ (if q < 10 - dd then q else 10 - dd))) (lN (Nat.gcd (10 ^ (if q < 10 - dd then q else 10 - dd)) (gdN (fun k => esF n (I 6) (I 7) (I 1 10) (trF (flB k) (I 1 11) (I 8) (I 3) (I 4) (I 1 12) q).1) (fun k => wN (flB k) v' (if q < 10 - dd then q else 10 - dd)) (2 ^ (if q < 10 - dd then q else 10 - dd))))) what = _
          obtain ⟨m, hm, hdm⟩ : ∃ m, q = (if q < 10 - dd then q else 10 - dd) + m ∧ (m = 0 ∨ 10 - dd = (if q < 10 - dd then q else 10 - dd)) := by
            by_cases hq : q < 10 - dd
            · exact ⟨0, by rw [if_pos hq]; rfl, Or.inl rfl⟩
            · exact ⟨q - (10 - dd), by rw [if_neg hq]; omega, Or.inr (if_neg hq).symm⟩
          generalize (if q < 10 - dd then q else 10 - dd) = d at hm hdm ⊢
          rcases hdm with hm0 | hdm
          · have ed : d = q := by omega
            rw [ed]
          · have hE : ∀ j, d ≤ j → j ≤ 8 → ∀ k, k < 2 ^ j → (fun k => esF n (I 6) (I 7) (I 1 10) (trF (flB k) (I 1 11) (I 8) (I 3) (I 4) (I 1 12) q).1) (2 ^ j + k) = (fun k => esF n (I 6) (I 7) (I 1 10) (trF (flB k) (I 1 11) (I 8) (I 3) (I 4) (I 1 12) q).1) k := by
              intro j h1 h2 k hk
              show esF n (I 6) (I 7) (I 1 10) (trF (flB (2 ^ j + k)) (I 1 11) (I 8) (I 3) (I 4) (I 1 12) q).1 = esF n (I 6) (I 7) (I 1 10) (trF (flB k) (I 1 11) (I 8) (I 3) (I 4) (I 1 12) q).1
              rw [trF_late (fl' := flB k) n8 (fun c hc => (tr c hc).2.2.2) syB (by omega) q6 (fun i hi => (pl i hi).2) (fun i hi hl => by rw [flB_bit (by omega), flB_bit (by omega), Nat.testBit_two_pow_add_gt (by omega)])]
            have hG := gd_all (es := fun k => esF n (I 6) (I 7) (I 1 10) (trF (flB k) (I 1 11) (I 8) (I 3) (I 4) (I 1 12) q).1) (v := v') (d := d) hv hE m (by omega)
            rw [← hm] at hG
            rw [hG]
            generalize hg : gdN (fun k => esF n (I 6) (I 7) (I 1 10) (trF (flB k) (I 1 11) (I 8) (I 3) (I 4) (I 1 12) q).1) (fun k => wN (flB k) v' d) (2 ^ d) = g at hG ⊢
            have hlt : gdN (fun k => esF n (I 6) (I 7) (I 1 10) (trF (flB k) (I 1 11) (I 8) (I 3) (I 4) (I 1 12) q).1) (fun k => wN (flB k) v' q) (2 ^ q) < 2 ^ 63 := gd_lt q6 hv
            rw [hG] at hlt
            have h10 : 10 ^ q = 10 ^ d * 10 ^ m := by rw [hm, Nat.pow_add]
            have hlt2 : 10 ^ d * 10 ^ m < 2 ^ 63 := by rw [← h10]; have := ten6 q6; omega
            rw [h10, low_mul (ten_pos m) (ten_pos d) hlt hlt2]
  · have no : ∀ v : Nat, v ≤ 10 → vv = nI v → wi what 0 1 = true → False := by
      rintro v hv rfl hl
      have w3 : wi (nI v) 0 10 = true := (wi_iff (m := 10) (by decide)).mpr ⟨v, hv, rfl⟩
      exact hw (by rw [w3, hl]; rfl)
    refine ⟨-1, fun u => I = u, c1.monoL ?_, ?_⟩
    · rintro r u (⟨e, e2, e3⟩ | ⟨v, b1, b2, b3, -⟩)
      · exact ⟨e2, e3⟩
      · exact (no v b1 b2 b3).elim
    · rintro u rfl
      refine (C2 I (fun _ _ _ => rfl)).monoL ?_
      rintro r u (⟨e, e2, e3⟩ | ⟨v, b1, b2, b3, -⟩)
      · exact ⟨e2, e3 ▸ h⟩
      · exact (no v b1 b2 b3).elim
end

/-! the tokens of a text: b its bytes, q how many -/
def kc (c : Nat) : Nat := if 97 ≤ c ∧ c ≤ 122 then 1 else if 48 ≤ c ∧ c ≤ 57 then 2 else if c = 59 then 3 else 4
def kd (b : Nat → Nat) (q i : Nat) : Nat := if i < q then kc (b i) else 0
def rn (P : Nat → Bool) : Nat → Nat → Nat
  | 0, p => p
  | f + 1, p => if P p then rn P f (p + 1) else p
def tS (b : Nat → Nat) (q p : Nat) : Nat := rn (fun j => decide (b j = 32)) (q - p) p
def tK (b : Nat → Nat) (q p : Nat) : Nat := kd b q (tS b q p)
def eN (b : Nat → Nat) (q s k : Nat) : Nat := rn (fun j => decide (kd b q j = k)) (q - s) s
def tE (b : Nat → Nat) (q p : Nat) : Nat := if tK b q p = 0 then tS b q p else if tK b q p = 1 ∨ tK b q p = 2 then eN b q (tS b q p + 1) (tK b q p) else tS b q p + 1
def fg (b : Nat → Nat) (s : Nat) : Nat → Nat
  | 0 => 0
  | m + 1 => fg b s m * 10 + (b (s + m) - 48)
def tV (b : Nat → Nat) (q p : Nat) : Nat := fg b (tS b q p) (tE b q p - tS b q p)
def tB (b : Nat → Nat) (q p : Nat) : Bool := decide (tK b q p = 4) || (decide (tK b q p = 2) && decide (2 < tE b q p - tS b q p))
def allF (p : Nat → Bool) : Nat → Bool
  | 0 => true
  | m + 1 => allF p m && p m
theorem allF_no {p : Nat → Bool} {i : Nat} (h : p i = false) : ∀ {n : Nat}, i < n → allF p n = false
  | 0, h2 => absurd h2 (Nat.not_lt_zero i)
  | n + 1, h2 => by
    by_cases e : i = n
    · subst e; rw [allF, h, Bool.and_false]
    · rw [allF, allF_no h (by omega), Bool.false_and]
/-- word i of the language stands from s to e -/
def wd (b : Nat → Nat) (s e i : Nat) : Bool := decide (e - s = strN.getD i 0) && allF (fun j => decide (b (s + j) = ((strB.getD i []).getD j 0).toNatClampNeg)) (strN.getD i 0)
theorem rn_step {P : Nat → Bool} {q i : Nat} (h : P i = true) (hi : i < q) : rn P (q - i) i = rn P (q - (i + 1)) (i + 1) := by
  rw [show q - i = (q - (i + 1)) + 1 by omega, rn, if_pos h]
theorem rn_stop {P : Nat → Bool} {f i : Nat} (h : P i = false) : rn P f i = i := by
  cases f with
  | zero => rfl
  | succ f => rw [rn, if_neg (by rw [h]; decide)]
theorem rn_le (P : Nat → Bool) : ∀ f p, p ≤ rn P f p ∧ rn P f p ≤ p + f
  | 0, p => ⟨Nat.le_refl _, Nat.le_refl _⟩
  | f + 1, p => by
    have := rn_le P f (p + 1)
    rw [rn]
    split <;> omega
theorem rn_all {P : Nat → Bool} : ∀ {f p j}, p ≤ j → j < rn P f p → P j = true
  | 0, p, j, h1, h2 => by rw [rn] at h2; omega
  | f + 1, p, j, h1, h2 => by
    rw [rn] at h2
    split at h2
    · next h => by_cases e : p = j
                · subst e; exact h
                · exact rn_all (f := f) (p := p + 1) (by omega) h2
    · omega
theorem kc_le (c : Nat) : 1 ≤ kc c ∧ kc c ≤ 4 := by
  unfold kc
  split
  · omega
  · split
    · omega
    · split <;> omega
theorem kd_le (b : Nat → Nat) (q i : Nat) : kd b q i ≤ 4 := by
  have := kc_le (b i)
  unfold kd; split <;> omega
theorem tS_le (b : Nat → Nat) {q p : Nat} (h : p ≤ q) : p ≤ tS b q p ∧ tS b q p ≤ q := by
  have := rn_le (fun j => decide (b j = 32)) (q - p) p
  unfold tS; omega
theorem tK_le (b : Nat → Nat) (q p : Nat) : tK b q p ≤ 4 := kd_le b q _
theorem tK_lt {b : Nat → Nat} {q p : Nat} (h : tK b q p ≠ 0) : tS b q p < q := by
  unfold tK kd at h
  split at h
  · assumption
  · exact absurd rfl h
theorem tK_0 {b : Nat → Nat} {q p : Nat} (h : tK b q p = 0) : q ≤ tS b q p := by
  have := kc_le (b (tS b q p))
  unfold tK kd at h
  split at h <;> omega
theorem tE_ge (b : Nat → Nat) {q p : Nat} (h : p ≤ q) : tS b q p ≤ tE b q p ∧ tE b q p ≤ q := by
  have h1 := tS_le b h
  unfold tE
  split
  · omega
  · next hk =>
    have h2 := tK_lt hk
    split
    · have := rn_le (fun j => decide (kd b q j = tK b q p)) (q - (tS b q p + 1)) (tS b q p + 1)
      unfold eN; omega
    · omega
theorem tE_gt {b : Nat → Nat} {q p : Nat} (hk : tK b q p ≠ 0) : tS b q p < tE b q p := by
  unfold tE
  rw [if_neg hk]
  split
  · have := rn_le (fun j => decide (kd b q j = tK b q p)) (q - (tS b q p + 1)) (tS b q p + 1)
    unfold eN; omega
  · omega
theorem tE_kd {b : Nat → Nat} {q p j : Nat} (hk : tK b q p = 1 ∨ tK b q p = 2) (h1 : tS b q p ≤ j) (h2 : j < tE b q p) : kd b q j = tK b q p := by
  by_cases e : tS b q p = j
  · subst e; rfl
  · unfold tE at h2
    rw [if_neg (by omega), if_pos hk] at h2
    simpa using rn_all (by omega) h2
theorem kd_dig {b : Nat → Nat} {q j : Nat} (h : kd b q j = 2) : 48 ≤ b j ∧ b j ≤ 57 := by
  unfold kd kc at h
  repeat' split at h
  all_goals first | omega | assumption
theorem tE_dig {b : Nat → Nat} {q p : Nat} (hpq : p ≤ q) (hk : tK b q p = 2) : ∀ j, tS b q p ≤ j → j < tE b q p → 48 ≤ b j :=
  fun j h1 h2 => (kd_dig ((tE_kd (Or.inr hk) h1 h2).trans hk)).1
theorem tB_of {b : Nat → Nat} {q p : Nat} (h1 : ¬ tK b q p = 4) (h2 : ¬ (tK b q p = 2 ∧ 2 < tE b q p - tS b q p)) : tB b q p = false := by
  cases hz : tB b q p
  · rfl
  · simp only [tB, Bool.or_eq_true, Bool.and_eq_true, decide_eq_true_eq] at hz
    exact absurd hz (fun z => z.elim h1 h2)
theorem tV_le {b : Nat → Nat} {q p : Nat} (hk : tK b q p = 2) (hB : tB b q p = false) : tV b q p ≤ 99 := by
  have h1 := tE_gt (b := b) (q := q) (p := p) (by omega)
  have h2 : tE b q p - tS b q p ≤ 2 := by
    simp [tB, hk] at hB; omega
  have hd : ∀ j, tS b q p ≤ j → j < tE b q p → 48 ≤ b j ∧ b j ≤ 57 := fun j h1 h2 => kd_dig ((tE_kd (Or.inr hk) h1 h2).trans hk)
  unfold tV
  rcases (show tE b q p - tS b q p = 1 ∨ tE b q p - tS b q p = 2 by omega) with e | e
  · rw [e]
    have := hd (tS b q p) (Nat.le_refl _) h1
    simp only [fg, Nat.add_zero]; omega
  · rw [e]
    have a1 := hd (tS b q p) (Nat.le_refl _) h1
    have a2 := hd (tS b q p + 1) (by omega) (by omega)
    simp only [fg, Nat.add_zero, Nat.zero_mul, Nat.zero_add]; omega
def TB (I : Wo) (b : Nat → Nat) (q : Nat) : Prop := (∀ i, i < q → I 40 i = nI (b i) ∧ b i < 128) ∧ I 39 1 = nI q ∧ q ≤ 160
theorem TB.w2 {I : Wo} {b : Nat → Nat} {q j : Nat} {v : Int32} (hj : j ≠ 1) (h : TB I b q) : TB (w2 I 39 j v) b q :=
  ⟨fun i hi => by rw [w2_cell _ _ (by decide)]; exact h.1 i hi, by rw [w2_slot _ _ (Ne.symm hj)]; exact h.2.1, h.2.2⟩
def FrT (I u : Wo) : Prop := ∀ x y, (x = 39 → y < 2 ∨ 8 ≤ y) → u x y = I x y
theorem frT_w2 {I u : Wo} {j : Nat} {v : Int32} (h1 : 2 ≤ j) (h2 : j < 8) (h : FrT I u) : FrT I (w2 u 39 j v) := by
  intro x y hx
  by_cases e : x = 39
  · subst e
    rw [w2_slot _ _ (by have := hx rfl; omega)]; exact h 39 y hx
  · rw [w2_cell _ _ e]; exact h x y hx
theorem frT_0 {I : Wo} : FrT I I := fun _ _ _ => rfl
theorem frT_3 {I : Wo} {a b c : Int32} : FrT I (w2 (w2 (w2 I 39 5 a) 39 4 b) 39 6 c) := frT_w2 (by decide) (by decide) (frT_w2 (by decide) (by decide) (frT_w2 (by decide) (by decide) frT_0))
theorem frT_4 {I : Wo} {a b c d : Int32} : FrT I (w2 (w2 (w2 (w2 I 39 5 a) 39 4 b) 39 6 c) 39 7 d) := frT_w2 (by decide) (by decide) frT_3
theorem frT_5 {I : Wo} {a b c d e : Int32} : FrT I (w2 (w2 (w2 (w2 (w2 I 39 5 a) 39 4 b) 39 6 c) 39 2 d) 39 3 e) := frT_w2 (by decide) (by decide) (frT_w2 (by decide) (by decide) frT_3)
set_option maxHeartbeats 4000000 in
set_option maxRecDepth 100000 in
theorem ct_X4_refuse {I : Wo} (w a : Int32) : Ct yX4_refuse cX4_refuse 3 (some .boolean) 0 0 [.ref 39, .int w, .int a] I (pI (fun r u => r = 0 ∧ u = w2 (w2 I 39 2 w) 39 3 a)) := by
  refine ct_of RX4 rfl (by decide) (Nat.le_of_ble_eq_true rfl) (fun X B E => ?_)
  show GW X 3 0 [some (.ref 39), some (.int w), some (.int a)] [] _
  refine g_aload_n B dX4_refuse_0 rfl ?_
  refine g_iload_n B dX4_refuse_1 rfl ?_
  refine g_put B ci_X4 (by first | rfl | assumption) rfl (by decide) fl_X4_24 rfl rfl rfl dX4_refuse_2 ?_
  refine g_aload_n B dX4_refuse_5 rfl ?_
  refine g_iload_n B dX4_refuse_6 rfl ?_
  refine g_put B ci_X4 (by first | rfl | assumption) rfl (by decide) fl_X4_27 rfl rfl rfl dX4_refuse_7 ?_
  refine g_iconst B (v := 0) dX4_refuse_10 (by decide) ?_
  exact g_iret B E (by first | exact bI_nar _ | decide | exact bI_narv (by assumption)) dX4_refuse_11 ⟨rfl, rfl⟩
set_option maxHeartbeats 4000000 in
set_option maxRecDepth 100000 in
theorem ct_X4_kindAt {I : Wo} {b : Nat → Nat} {q i : Nat} (hT : TB I b q) (hi : i ≤ 160) : Ct yX4_kindAt cX4_kindAt 3 (some .int) 0 0 [.ref 39, .int (nI i)] I (pI (fun r u => r = nI (kd b q i) ∧ I = u)) := by
  obtain ⟨hb, hq, hq6⟩ := id hT
  refine ct_of RX4 rfl (by decide) (Nat.le_of_ble_eq_true rfl) (fun X B E => ?_)
  show GW X 3 0 [some (.ref 39), some (.int (nI i)), none] [] _
  refine g_iload_n B dX4_kindAt_0 rfl ?_
  refine g_if_lt B 12 dX4_kindAt_1 (by decide) (fun h1 => ?_) (fun h1 => ?_)
  · exact absurd h1 (nI_pos (by omega))
  · refine g_iload_n B dX4_kindAt_4 rfl ?_
    refine g_aload_n B dX4_kindAt_5 rfl ?_
    refine g_geti B ci_X4 (by first | rfl | assumption) rfl (by decide) fl_X4_15 dX4_kindAt_6 ?_
    rw [hq]
    refine g_icmp_lt B 14 dX4_kindAt_9 (by decide) (fun h9 => ?_) (fun h9 => ?_)
    · have hlt := lt_lt (a := i) (b := q) (by omega) (by omega) h9
      obtain ⟨hbi, hb8⟩ := hb i hlt
      refine g_aload_n B dX4_kindAt_14 rfl ?_
      refine g_getr B ci_X4 (by first | rfl | assumption) rfl (by decide) fl_X4_9 dX4_kindAt_15 ?_
      refine g_iload_n B dX4_kindAt_18 rfl ?_
      refine g_bald B (by first | rfl | assumption) i rfl (by omega) (by decide) dX4_kindAt_19 ?_
      rw [hbi]
      refine g_istn2 B dX4_kindAt_20 (by decide) rfl ?_
      refine g_iload_n B dX4_kindAt_21 rfl ?_
      refine g_bipush B (v := 97) dX4_kindAt_22 (by decide) ?_
      refine g_icmp_lt B 35 dX4_kindAt_24 (by decide) (fun h24 => ?_) (fun h24 => ?_)
      · replace h24 := lt_lt (a := b i) (b := 97) (by omega) (by decide) h24
        refine g_iload_n B dX4_kindAt_35 rfl ?_
        refine g_bipush B (v := 48) dX4_kindAt_36 (by decide) ?_
        refine g_icmp_lt B 49 dX4_kindAt_38 (by decide) (fun h38 => ?_) (fun h38 => ?_)
        · replace h38 := lt_lt (a := b i) (b := 48) (by omega) (by decide) h38
          refine g_iload_n B dX4_kindAt_49 rfl ?_
          refine g_bipush B (v := 59) dX4_kindAt_50 (by decide) ?_
          refine g_icmp_ne B 59 dX4_kindAt_52 (by decide) (fun h52 => ?_) (fun h52 => ?_)
          · rw [show (59 : Int32) = nI 59 from rfl, nI_eq (by omega) (by decide)] at h52
            refine g_iconst B (v := 4) dX4_kindAt_59 (by decide) ?_
            exact g_iret B E rfl dX4_kindAt_60 ⟨by rw [kd, if_pos hlt, kc, if_neg (by omega), if_neg (by omega)]; first | (rw [if_pos h52]; rfl) | (rw [if_neg h52]; rfl), rfl⟩
          · rw [show (59 : Int32) = nI 59 from rfl, nI_eq (by omega) (by decide)] at h52
            refine g_iconst B (v := 3) dX4_kindAt_55 (by decide) ?_
            refine g_goto B 60 dX4_kindAt_56 (by decide) ?_
            exact g_iret B E rfl dX4_kindAt_60 ⟨by rw [kd, if_pos hlt, kc, if_neg (by omega), if_neg (by omega)]; first | (rw [if_pos h52]; rfl) | (rw [if_neg h52]; rfl), rfl⟩
        · replace h38 := nlt_le (a := b i) (b := 48) (by omega) (by decide) h38
          refine g_iload_n B dX4_kindAt_41 rfl ?_
          refine g_bipush B (v := 57) dX4_kindAt_42 (by decide) ?_
          refine g_icmp_gt B 49 dX4_kindAt_44 (by decide) (fun h44 => ?_) (fun h44 => ?_)
          · replace h44 := lt_lt (a := 57) (b := b i) (by decide) (by omega) h44
            refine g_iload_n B dX4_kindAt_49 rfl ?_
            refine g_bipush B (v := 59) dX4_kindAt_50 (by decide) ?_
            refine g_icmp_ne B 59 dX4_kindAt_52 (by decide) (fun h52 => ?_) (fun h52 => ?_)
            · rw [show (59 : Int32) = nI 59 from rfl, nI_eq (by omega) (by decide)] at h52
              refine g_iconst B (v := 4) dX4_kindAt_59 (by decide) ?_
              exact g_iret B E rfl dX4_kindAt_60 ⟨by rw [kd, if_pos hlt, kc, if_neg (by omega), if_neg (by omega)]; first | (rw [if_pos h52]; rfl) | (rw [if_neg h52]; rfl), rfl⟩
            · rw [show (59 : Int32) = nI 59 from rfl, nI_eq (by omega) (by decide)] at h52
              refine g_iconst B (v := 3) dX4_kindAt_55 (by decide) ?_
              refine g_goto B 60 dX4_kindAt_56 (by decide) ?_
              exact g_iret B E rfl dX4_kindAt_60 ⟨by rw [kd, if_pos hlt, kc, if_neg (by omega), if_neg (by omega)]; first | (rw [if_pos h52]; rfl) | (rw [if_neg h52]; rfl), rfl⟩
          · replace h44 := nlt_le (a := 57) (b := b i) (by decide) (by omega) h44
            refine g_iconst B (v := 2) dX4_kindAt_47 (by decide) ?_
            exact g_iret B E rfl dX4_kindAt_48 ⟨by rw [kd, if_pos hlt, kc, if_neg (by omega), if_pos (by omega)]; rfl, rfl⟩
      · replace h24 := nlt_le (a := b i) (b := 97) (by omega) (by decide) h24
        refine g_iload_n B dX4_kindAt_27 rfl ?_
        refine g_bipush B (v := 122) dX4_kindAt_28 (by decide) ?_
        refine g_icmp_gt B 35 dX4_kindAt_30 (by decide) (fun h30 => ?_) (fun h30 => ?_)
        · replace h30 := lt_lt (a := 122) (b := b i) (by decide) (by omega) h30
          refine g_iload_n B dX4_kindAt_35 rfl ?_
          refine g_bipush B (v := 48) dX4_kindAt_36 (by decide) ?_
          refine g_icmp_lt B 49 dX4_kindAt_38 (by decide) (fun h38 => ?_) (fun h38 => ?_)
          · replace h38 := lt_lt (a := b i) (b := 48) (by omega) (by decide) h38
            refine g_iload_n B dX4_kindAt_49 rfl ?_
            refine g_bipush B (v := 59) dX4_kindAt_50 (by decide) ?_
            refine g_icmp_ne B 59 dX4_kindAt_52 (by decide) (fun h52 => ?_) (fun h52 => ?_)
            · rw [show (59 : Int32) = nI 59 from rfl, nI_eq (by omega) (by decide)] at h52
              refine g_iconst B (v := 4) dX4_kindAt_59 (by decide) ?_
              exact g_iret B E rfl dX4_kindAt_60 ⟨by rw [kd, if_pos hlt, kc, if_neg (by omega), if_neg (by omega)]; first | (rw [if_pos h52]; rfl) | (rw [if_neg h52]; rfl), rfl⟩
            · rw [show (59 : Int32) = nI 59 from rfl, nI_eq (by omega) (by decide)] at h52
              refine g_iconst B (v := 3) dX4_kindAt_55 (by decide) ?_
              refine g_goto B 60 dX4_kindAt_56 (by decide) ?_
              exact g_iret B E rfl dX4_kindAt_60 ⟨by rw [kd, if_pos hlt, kc, if_neg (by omega), if_neg (by omega)]; first | (rw [if_pos h52]; rfl) | (rw [if_neg h52]; rfl), rfl⟩
          · replace h38 := nlt_le (a := b i) (b := 48) (by omega) (by decide) h38
            refine g_iload_n B dX4_kindAt_41 rfl ?_
            refine g_bipush B (v := 57) dX4_kindAt_42 (by decide) ?_
            refine g_icmp_gt B 49 dX4_kindAt_44 (by decide) (fun h44 => ?_) (fun h44 => ?_)
            · replace h44 := lt_lt (a := 57) (b := b i) (by decide) (by omega) h44
              refine g_iload_n B dX4_kindAt_49 rfl ?_
              refine g_bipush B (v := 59) dX4_kindAt_50 (by decide) ?_
              refine g_icmp_ne B 59 dX4_kindAt_52 (by decide) (fun h52 => ?_) (fun h52 => ?_)
              · rw [show (59 : Int32) = nI 59 from rfl, nI_eq (by omega) (by decide)] at h52
                refine g_iconst B (v := 4) dX4_kindAt_59 (by decide) ?_
                exact g_iret B E rfl dX4_kindAt_60 ⟨by rw [kd, if_pos hlt, kc, if_neg (by omega), if_neg (by omega)]; first | (rw [if_pos h52]; rfl) | (rw [if_neg h52]; rfl), rfl⟩
              · rw [show (59 : Int32) = nI 59 from rfl, nI_eq (by omega) (by decide)] at h52
                refine g_iconst B (v := 3) dX4_kindAt_55 (by decide) ?_
                refine g_goto B 60 dX4_kindAt_56 (by decide) ?_
                exact g_iret B E rfl dX4_kindAt_60 ⟨by rw [kd, if_pos hlt, kc, if_neg (by omega), if_neg (by omega)]; first | (rw [if_pos h52]; rfl) | (rw [if_neg h52]; rfl), rfl⟩
            · replace h44 := nlt_le (a := 57) (b := b i) (by decide) (by omega) h44
              refine g_iconst B (v := 2) dX4_kindAt_47 (by decide) ?_
              exact g_iret B E rfl dX4_kindAt_48 ⟨by rw [kd, if_pos hlt, kc, if_neg (by omega), if_pos (by omega)]; rfl, rfl⟩
        · replace h30 := nlt_le (a := 122) (b := b i) (by decide) (by omega) h30
          refine g_iconst B (v := 1) dX4_kindAt_33 (by decide) ?_
          exact g_iret B E rfl dX4_kindAt_34 ⟨by rw [kd, if_pos hlt, kc, if_pos (by omega)]; rfl, rfl⟩
    · have hge := nlt_le (a := i) (b := q) (by omega) (by omega) h9
      refine g_iconst B (v := 0) dX4_kindAt_12 (by decide) ?_
      exact g_iret B E rfl dX4_kindAt_13 ⟨by rw [kd, if_neg (by omega)]; rfl, rfl⟩
set_option maxHeartbeats 4000000 in
set_option maxRecDepth 100000 in
theorem ct_X4_skipBlanks {I : Wo} {b : Nat → Nat} {q p : Nat} (hT : TB I b q) (hp : I 39 6 = nI p) (hpq : p ≤ q) : Ct yX4_skipBlanks cX4_skipBlanks 2 none 0 0 [.ref 39] I (pV (fun u => u = w2 I 39 5 (nI (tS b q p)))) := by
  obtain ⟨hb, hq, hq6⟩ := id hT
  refine ct_of RX4 rfl (by decide) (Nat.le_of_ble_eq_true rfl) (fun X B E => ?_)
  show GW X 2 0 [some (.ref 39), none] [] _
  refine g_aload_n B dX4_skipBlanks_0 rfl ?_
  refine g_aload_n B dX4_skipBlanks_1 rfl ?_
  refine g_geti B ci_X4 (by first | rfl | assumption) rfl (by decide) fl_X4_30 dX4_skipBlanks_2 ?_
  rw [hp]
  refine g_put B ci_X4 (by first | rfl | assumption) rfl (by decide) fl_X4_113 rfl rfl rfl dX4_skipBlanks_5 ?_
  refine g_aload_n B dX4_skipBlanks_8 rfl ?_
  refine g_geti B ci_X4 (by first | rfl | assumption) rfl (by decide) fl_X4_30 dX4_skipBlanks_9 ?_
  rw [show w2 I 39 5 (nI p) 39 6 = nI p from hp]
  refine g_istn1 B dX4_skipBlanks_12 (by decide) rfl ?_
  have L13 : ∀ i, i ≤ q → rn (fun j => decide (b j = 32)) (q - i) i = tS b q p → GW X 2 13 [some (.ref 39), some (.int (nI i))] [] (w2 I 39 5 (nI i)) := by
    refine loopN q (fun i hi ih hx => ?_)
    refine g_iload_n B dX4_skipBlanks_13 rfl ?_
    refine g_aload_n B dX4_skipBlanks_14 rfl ?_
    refine g_geti B ci_X4 (by first | rfl | assumption) rfl (by decide) fl_X4_15 dX4_skipBlanks_15 ?_
    rw [show w2 I 39 5 (nI i) 39 1 = nI q from hq]
    refine g_icmp_ge B 45 dX4_skipBlanks_18 (by decide) (fun h18 => ?_) (fun h18 => ?_)
    · have hi2 : i = q := by have := le_le (a := q) (b := i) (by omega) (by omega) h18; omega
      have hs : tS b q p = i := by rw [← hx, hi2, Nat.sub_self]; rfl
      exact g_vret B E dX4_skipBlanks_45 (by rw [hs])
    · have hlt : i < q := nle_lt (by omega) (by omega) h18
      obtain ⟨hbi, hb8⟩ := hb i hlt
      refine g_aload_n B dX4_skipBlanks_21 rfl ?_
      refine g_getr B ci_X4 (by first | rfl | assumption) rfl (by decide) fl_X4_9 dX4_skipBlanks_22 ?_
      refine g_iload_n B dX4_skipBlanks_25 rfl ?_
      refine g_bald B (by first | rfl | assumption) i rfl (by omega) (by decide) dX4_skipBlanks_26 ?_
      rw [show w2 I 39 5 (nI i) 40 i = nI (b i) from hbi]
      refine g_bipush B (v := 32) dX4_skipBlanks_27 (by decide) ?_
      refine g_icmp_ne B 45 dX4_skipBlanks_29 (by decide) (fun h29 => ?_) (fun h29 => ?_)
      · rw [show (32 : Int32) = nI 32 from rfl, nI_eq (by omega) (by decide)] at h29
        have hs : tS b q p = i := by rw [← hx, rn_stop (by simpa using h29)]
        exact g_vret B E dX4_skipBlanks_45 (by rw [hs])
      · rw [show (32 : Int32) = nI 32 from rfl, nI_eq (by omega) (by decide)] at h29
        refine g_aload_n B dX4_skipBlanks_32 rfl ?_
        refine g_iload_n B dX4_skipBlanks_33 rfl ?_
        refine g_iconst B (v := 1) dX4_skipBlanks_34 (by decide) ?_
        refine g_iadd B dX4_skipBlanks_35 ?_
        refine g_eqi (nI (i + 1)) (nI_1 i) ?_
        refine g_put B ci_X4 (by first | rfl | assumption) rfl (by decide) fl_X4_113 rfl rfl rfl dX4_skipBlanks_36 ?_
        refine g_eqI (w2_w2 _ _ _ _ _) ?_
        refine g_inc1 B dX4_skipBlanks_39 rfl (inc1 _) (by decide) rfl ?_
        refine g_goto B 13 dX4_skipBlanks_42 (by decide) ?_
        exact ih hlt (by rw [← hx, rn_step (by simpa using h29) hlt])
  exact L13 p hpq rfl
set_option maxHeartbeats 4000000 in
set_option maxRecDepth 100000 in
theorem ct_X4_figures {I : Wo} {b : Nat → Nat} {q s e : Nat} (hT : TB I b q) (hs : I 39 5 = nI s) (he : I 39 6 = nI e) (hse : s ≤ e) (heq : e ≤ q) (hd : ∀ j, s ≤ j → j < e → 48 ≤ b j) : Ct yX4_figures cX4_figures 3 (some .int) 0 0 [.ref 39] I (pI (fun r u => r = nI (fg b s (e - s)) ∧ I = u)) := by
  obtain ⟨hb, hq, hq6⟩ := id hT
  refine ct_of RX4 rfl (by decide) (Nat.le_of_ble_eq_true rfl) (fun X B E => ?_)
  show GW X 3 0 [some (.ref 39), none, none] [] _
  refine g_iconst B (v := 0) dX4_figures_0 (by decide) ?_
  refine g_istn1 B dX4_figures_1 (by decide) rfl ?_
  refine g_aload_n B dX4_figures_2 rfl ?_
  refine g_geti B ci_X4 (by first | rfl | assumption) rfl (by decide) fl_X4_113 dX4_figures_3 ?_
  rw [hs]
  refine g_istn2 B dX4_figures_6 (by decide) rfl ?_
  have L7 : ∀ m, m ≤ e - s → ∀ x, x = nI (fg b s m) → GW X 3 7 [some (.ref 39), some (.int x), some (.int (nI (s + m)))] [] I := by
    refine loopN (e - s) (fun m hm ih x hx => ?_)
    refine g_iload_n B dX4_figures_7 rfl ?_
    refine g_aload_n B dX4_figures_8 rfl ?_
    refine g_geti B ci_X4 (by first | rfl | assumption) rfl (by decide) fl_X4_30 dX4_figures_9 ?_
    rw [he]
    refine g_icmp_ge B 36 dX4_figures_12 (by decide) (fun h12 => ?_) (fun h12 => ?_)
    · have hm2 : m = e - s := by have := le_le (a := e) (b := s + m) (by omega) (by omega) h12; omega
      refine g_iload_n B dX4_figures_36 rfl ?_
      exact g_iret B E rfl dX4_figures_37 ⟨by rw [hx, hm2], rfl⟩
    · have hlt : m < e - s := by have := nle_lt (a := e) (b := s + m) (by omega) (by omega) h12; omega
      obtain ⟨hbi, hb8⟩ := hb (s + m) (by omega)
      have hd2 := hd (s + m) (by omega) (by omega)
      refine g_iload_n B dX4_figures_15 rfl ?_
      refine g_bipush B (v := 10) dX4_figures_16 (by decide) ?_
      refine g_imul B dX4_figures_18 ?_
      refine g_aload_n B dX4_figures_19 rfl ?_
      refine g_getr B ci_X4 (by first | rfl | assumption) rfl (by decide) fl_X4_9 dX4_figures_20 ?_
      refine g_iload_n B dX4_figures_23 rfl ?_
      refine g_bald B (by first | rfl | assumption) (s + m) rfl (by omega) (by decide) dX4_figures_24 ?_
      rw [hbi]
      refine g_iadd B dX4_figures_25 ?_
      refine g_bipush B (v := 48) dX4_figures_26 (by decide) ?_
      refine g_isub B dX4_figures_28 ?_
      refine g_istn1 B dX4_figures_29 (by decide) rfl ?_
      refine g_inc2 B dX4_figures_30 rfl (inc1 _) (by decide) rfl ?_
      refine g_goto B 7 dX4_figures_33 (by decide) ?_
      exact ih hlt _ (by rw [hx, show (10 : Int32) = nI 10 from rfl, pk_mul, nI_add, show (48 : Int32) = nI 48 from rfl, pk_sub (by omega), fg]; congr 1; omega)
  exact L7 0 (Nat.zero_le _) _ rfl
set_option maxHeartbeats 4000000 in
set_option maxRecDepth 100000 in
theorem ct_X4_readToken {I : Wo} {b : Nat → Nat} {q p : Nat} (hT : TB I b q) (hp : I 39 6 = nI p) (hpq : p ≤ q) : Ct yX4_readToken cX4_readToken 2 (some .boolean) 1 22 [.ref 39] I (pI (fun r u => (tB b q p = true ∧ r = 0 ∧ u 39 2 = 1 ∧ u 39 3 = nI (tS b q p) ∧ FrT I u) ∨ (tB b q p = false ∧ r = 1 ∧ u 39 4 = nI (tK b q p) ∧ u 39 5 = nI (tS b q p) ∧ u 39 6 = nI (tE b q p) ∧ (tK b q p = 2 → u 39 7 = nI (tV b q p)) ∧ u 39 2 = I 39 2 ∧ u 39 3 = I 39 3 ∧ FrT I u))) := by
  obtain ⟨hb, hq, hq6⟩ := id hT
  have hS1 := tS_le b hpq
  have hK4 := tK_le b q p
  have hT5 : ∀ v, TB (w2 I 39 5 v) b q := fun v => hT.w2 (by decide)
  refine ct_of RX4 rfl (by decide) (Nat.le_of_ble_eq_true rfl) (fun X B E => ?_)
  show GW X 2 0 [some (.ref 39), none] [] _
  refine g_aload_n B dX4_readToken_0 rfl ?_
  refine g_callVV B (ct_X4_skipBlanks hT hp hpq) (by first | rfl | assumption) rfl ml_X4_164 mm_X4_skipBlanks rfl rfl (Nat.le_of_ble_eq_true rfl) dX4_readToken_1 (by decide) ?_
  rintro _ rfl
  refine g_aload_n B dX4_readToken_4 rfl ?_
  refine g_aload_n B dX4_readToken_5 rfl ?_
  refine g_aload_n B dX4_readToken_6 rfl ?_
  refine g_geti B ci_X4 (by first | rfl | assumption) rfl (by decide) fl_X4_113 dX4_readToken_7 ?_
  rw [show w2 I 39 5 (nI (tS b q p)) 39 5 = nI (tS b q p) from rfl]
  refine g_callVI B (ct_X4_kindAt (hT5 _) (show tS b q p ≤ 160 by omega)) (by first | rfl | assumption) rfl ml_X4_167 mm_X4_kindAt rfl rfl (Nat.le_of_ble_eq_true rfl) dX4_readToken_10 (by decide) ?_
  rintro _ _ ⟨rfl, rfl⟩
  rw [show kd b q (tS b q p) = tK b q p from rfl]
  refine g_put B ci_X4 (by first | rfl | assumption) rfl (by decide) fl_X4_44 rfl rfl rfl dX4_readToken_13 ?_
  have J94 : ∀ p1, GW X 2 94 [some (.ref 39), p1] [] (w2 (w2 (w2 I 39 5 (nI (tS b q p))) 39 4 (nI (tK b q p))) 39 6 (nI (tE b q p))) := by
    intro p1
    refine g_aload_n B dX4_readToken_94 rfl ?_
    refine g_geti B ci_X4 (by first | rfl | assumption) rfl (by decide) fl_X4_44 dX4_readToken_95 ?_
    rw [show (w2 (w2 (w2 I 39 5 (nI (tS b q p))) 39 4 (nI (tK b q p))) 39 6 (nI (tE b q p))) 39 4 = nI (tK b q p) from rfl]
    refine g_iconst B (v := 2) dX4_readToken_98 (by decide) ?_
    refine g_icmp_ne B 119 dX4_readToken_99 (by decide) (fun h99 => ?_) (fun h99 => ?_)
    · rw [show (2 : Int32) = nI 2 from rfl, nI_eq (by omega) (by decide)] at h99
      refine g_iconst B (v := 0) dX4_readToken_119 (by decide) ?_
      refine g_istn1 B dX4_readToken_120 (by decide) rfl ?_
      refine g_aload_n B dX4_readToken_121 rfl ?_
      refine g_geti B ci_X4 (by first | rfl | assumption) rfl (by decide) fl_X4_44 dX4_readToken_122 ?_
      rw [show (w2 (w2 (w2 I 39 5 (nI (tS b q p))) 39 4 (nI (tK b q p))) 39 6 (nI (tE b q p))) 39 4 = nI (tK b q p) from rfl]
      refine g_iconst B (v := 4) dX4_readToken_125 (by decide) ?_
      refine g_icmp_eq B 133 dX4_readToken_126 (by decide) (fun h126 => ?_) (fun h126 => ?_)
      · rw [show (4 : Int32) = nI 4 from rfl, nI_eq (by omega) (by decide)] at h126
        refine g_aload_n B dX4_readToken_133 rfl ?_
        refine g_iconst B (v := 1) dX4_readToken_134 (by decide) ?_
        refine g_aload_n B dX4_readToken_135 rfl ?_
        refine g_geti B ci_X4 (by first | rfl | assumption) rfl (by decide) fl_X4_113 dX4_readToken_136 ?_
        rw [show (w2 (w2 (w2 I 39 5 (nI (tS b q p))) 39 4 (nI (tK b q p))) 39 6 (nI (tE b q p))) 39 5 = nI (tS b q p) from rfl]
        refine g_callVI B (ct_X4_refuse _ _) (by first | rfl | assumption) rfl ml_X4_78 mm_X4_refuse rfl rfl (Nat.le_of_ble_eq_true rfl) dX4_readToken_139 (by decide) ?_
        rintro _ _ ⟨rfl, rfl⟩
        exact g_iret B E rfl dX4_readToken_142 (Or.inl ⟨by simp only [tB, Bool.or_eq_true, Bool.and_eq_true, decide_eq_true_eq]; omega, rfl, rfl, rfl, frT_5⟩)
      · rw [show (4 : Int32) = nI 4 from rfl, nI_eq (by omega) (by decide)] at h126
        refine g_iload_n B dX4_readToken_129 rfl ?_
        refine g_if_eq B 143 dX4_readToken_130 (by decide) (fun h130 => ?_) (fun h130 => ?_)
        · refine g_aload_n B dX4_readToken_143 rfl ?_
          refine g_geti B ci_X4 (by first | rfl | assumption) rfl (by decide) fl_X4_44 dX4_readToken_144 ?_
          rw [show (w2 (w2 (w2 I 39 5 (nI (tS b q p))) 39 4 (nI (tK b q p))) 39 6 (nI (tE b q p))) 39 4 = nI (tK b q p) from rfl]
          refine g_iconst B (v := 2) dX4_readToken_147 (by decide) ?_
          refine g_icmp_ne B 159 dX4_readToken_148 (by decide) (fun h148 => ?_) (fun h148 => ?_)
          · rw [show (2 : Int32) = nI 2 from rfl, nI_eq (by omega) (by decide)] at h148
            refine g_iconst B (v := 1) dX4_readToken_159 (by decide) ?_
            exact g_iret B E rfl dX4_readToken_160 (Or.inr ⟨tB_of (by omega) (by omega), rfl, rfl, rfl, rfl, fun z => by first | exact absurd z h148 | rfl, rfl, rfl, by first | exact frT_4 | exact frT_3⟩)
          · rw [show (2 : Int32) = nI 2 from rfl, nI_eq (by omega) (by decide)] at h148
            refine g_aload_n B dX4_readToken_151 rfl ?_
            refine g_aload_n B dX4_readToken_152 rfl ?_
            refine g_callVI B (ct_X4_figures (((hT5 _).w2 (j := 4) (by decide)).w2 (j := 6) (by decide)) rfl rfl (tE_ge b hpq).1 (tE_ge b hpq).2 (tE_dig hpq h148)) (by first | rfl | assumption) rfl ml_X4_171 mm_X4_figures rfl rfl (Nat.le_of_ble_eq_true rfl) dX4_readToken_153 (by decide) ?_
            rintro _ _ ⟨rfl, rfl⟩
            refine g_put B ci_X4 (by first | rfl | assumption) rfl (by decide) fl_X4_122 rfl rfl rfl dX4_readToken_156 ?_
            refine g_iconst B (v := 1) dX4_readToken_159 (by decide) ?_
            exact g_iret B E rfl dX4_readToken_160 (Or.inr ⟨tB_of (by omega) (by omega), rfl, rfl, rfl, rfl, fun z => by first | exact absurd z h148 | rfl, rfl, rfl, by first | exact frT_4 | exact frT_3⟩)
        · exact absurd rfl h130
    · rw [show (2 : Int32) = nI 2 from rfl, nI_eq (by omega) (by decide)] at h99
      refine g_aload_n B dX4_readToken_102 rfl ?_
      refine g_geti B ci_X4 (by first | rfl | assumption) rfl (by decide) fl_X4_30 dX4_readToken_103 ?_
      rw [show (w2 (w2 (w2 I 39 5 (nI (tS b q p))) 39 4 (nI (tK b q p))) 39 6 (nI (tE b q p))) 39 6 = nI (tE b q p) from rfl]
      refine g_aload_n B dX4_readToken_106 rfl ?_
      refine g_geti B ci_X4 (by first | rfl | assumption) rfl (by decide) fl_X4_113 dX4_readToken_107 ?_
      rw [show (w2 (w2 (w2 I 39 5 (nI (tS b q p))) 39 4 (nI (tK b q p))) 39 6 (nI (tE b q p))) 39 5 = nI (tS b q p) from rfl]
      refine g_isub B dX4_readToken_110 ?_
      refine g_eqi (nI (tE b q p - tS b q p)) (pk_sub (tE_ge b hpq).1) ?_
      have hE1 := (tE_ge b hpq).2
      refine g_iconst B (v := 2) dX4_readToken_111 (by decide) ?_
      refine g_icmp_le B 119 dX4_readToken_112 (by decide) (fun h112 => ?_) (fun h112 => ?_)
      · replace h112 := le_le (b := 2) (by omega) (by decide) h112
        refine g_iconst B (v := 0) dX4_readToken_119 (by decide) ?_
        refine g_istn1 B dX4_readToken_120 (by decide) rfl ?_
        refine g_aload_n B dX4_readToken_121 rfl ?_
        refine g_geti B ci_X4 (by first | rfl | assumption) rfl (by decide) fl_X4_44 dX4_readToken_122 ?_
        rw [show (w2 (w2 (w2 I 39 5 (nI (tS b q p))) 39 4 (nI (tK b q p))) 39 6 (nI (tE b q p))) 39 4 = nI (tK b q p) from rfl]
        refine g_iconst B (v := 4) dX4_readToken_125 (by decide) ?_
        refine g_icmp_eq B 133 dX4_readToken_126 (by decide) (fun h126 => ?_) (fun h126 => ?_)
        · rw [show (4 : Int32) = nI 4 from rfl, nI_eq (by omega) (by decide)] at h126
          refine g_aload_n B dX4_readToken_133 rfl ?_
          refine g_iconst B (v := 1) dX4_readToken_134 (by decide) ?_
          refine g_aload_n B dX4_readToken_135 rfl ?_
          refine g_geti B ci_X4 (by first | rfl | assumption) rfl (by decide) fl_X4_113 dX4_readToken_136 ?_
          rw [show (w2 (w2 (w2 I 39 5 (nI (tS b q p))) 39 4 (nI (tK b q p))) 39 6 (nI (tE b q p))) 39 5 = nI (tS b q p) from rfl]
          refine g_callVI B (ct_X4_refuse _ _) (by first | rfl | assumption) rfl ml_X4_78 mm_X4_refuse rfl rfl (Nat.le_of_ble_eq_true rfl) dX4_readToken_139 (by decide) ?_
          rintro _ _ ⟨rfl, rfl⟩
          exact g_iret B E rfl dX4_readToken_142 (Or.inl ⟨by simp only [tB, Bool.or_eq_true, Bool.and_eq_true, decide_eq_true_eq]; omega, rfl, rfl, rfl, frT_5⟩)
        · rw [show (4 : Int32) = nI 4 from rfl, nI_eq (by omega) (by decide)] at h126
          refine g_iload_n B dX4_readToken_129 rfl ?_
          refine g_if_eq B 143 dX4_readToken_130 (by decide) (fun h130 => ?_) (fun h130 => ?_)
          · refine g_aload_n B dX4_readToken_143 rfl ?_
            refine g_geti B ci_X4 (by first | rfl | assumption) rfl (by decide) fl_X4_44 dX4_readToken_144 ?_
            rw [show (w2 (w2 (w2 I 39 5 (nI (tS b q p))) 39 4 (nI (tK b q p))) 39 6 (nI (tE b q p))) 39 4 = nI (tK b q p) from rfl]
            refine g_iconst B (v := 2) dX4_readToken_147 (by decide) ?_
            refine g_icmp_ne B 159 dX4_readToken_148 (by decide) (fun h148 => ?_) (fun h148 => ?_)
            · rw [show (2 : Int32) = nI 2 from rfl, nI_eq (by omega) (by decide)] at h148
              refine g_iconst B (v := 1) dX4_readToken_159 (by decide) ?_
              exact g_iret B E rfl dX4_readToken_160 (Or.inr ⟨tB_of (by omega) (by omega), rfl, rfl, rfl, rfl, fun z => by first | exact absurd z h148 | rfl, rfl, rfl, by first | exact frT_4 | exact frT_3⟩)
            · rw [show (2 : Int32) = nI 2 from rfl, nI_eq (by omega) (by decide)] at h148
              refine g_aload_n B dX4_readToken_151 rfl ?_
              refine g_aload_n B dX4_readToken_152 rfl ?_
              refine g_callVI B (ct_X4_figures (((hT5 _).w2 (j := 4) (by decide)).w2 (j := 6) (by decide)) rfl rfl (tE_ge b hpq).1 (tE_ge b hpq).2 (tE_dig hpq h148)) (by first | rfl | assumption) rfl ml_X4_171 mm_X4_figures rfl rfl (Nat.le_of_ble_eq_true rfl) dX4_readToken_153 (by decide) ?_
              rintro _ _ ⟨rfl, rfl⟩
              refine g_put B ci_X4 (by first | rfl | assumption) rfl (by decide) fl_X4_122 rfl rfl rfl dX4_readToken_156 ?_
              refine g_iconst B (v := 1) dX4_readToken_159 (by decide) ?_
              exact g_iret B E rfl dX4_readToken_160 (Or.inr ⟨tB_of (by omega) (by omega), rfl, rfl, rfl, rfl, fun z => by first | exact absurd z h148 | rfl, rfl, rfl, by first | exact frT_4 | exact frT_3⟩)
          · exact absurd rfl h130
      · replace h112 := nle_lt (b := 2) (by omega) (by decide) h112
        refine g_iconst B (v := 1) dX4_readToken_115 (by decide) ?_
        refine g_goto B 120 dX4_readToken_116 (by decide) ?_
        refine g_istn1 B dX4_readToken_120 (by decide) rfl ?_
        refine g_aload_n B dX4_readToken_121 rfl ?_
        refine g_geti B ci_X4 (by first | rfl | assumption) rfl (by decide) fl_X4_44 dX4_readToken_122 ?_
        rw [show (w2 (w2 (w2 I 39 5 (nI (tS b q p))) 39 4 (nI (tK b q p))) 39 6 (nI (tE b q p))) 39 4 = nI (tK b q p) from rfl]
        refine g_iconst B (v := 4) dX4_readToken_125 (by decide) ?_
        refine g_icmp_eq B 133 dX4_readToken_126 (by decide) (fun h126 => ?_) (fun h126 => ?_)
        · rw [show (4 : Int32) = nI 4 from rfl, nI_eq (by omega) (by decide)] at h126
          refine g_aload_n B dX4_readToken_133 rfl ?_
          refine g_iconst B (v := 1) dX4_readToken_134 (by decide) ?_
          refine g_aload_n B dX4_readToken_135 rfl ?_
          refine g_geti B ci_X4 (by first | rfl | assumption) rfl (by decide) fl_X4_113 dX4_readToken_136 ?_
          rw [show (w2 (w2 (w2 I 39 5 (nI (tS b q p))) 39 4 (nI (tK b q p))) 39 6 (nI (tE b q p))) 39 5 = nI (tS b q p) from rfl]
          refine g_callVI B (ct_X4_refuse _ _) (by first | rfl | assumption) rfl ml_X4_78 mm_X4_refuse rfl rfl (Nat.le_of_ble_eq_true rfl) dX4_readToken_139 (by decide) ?_
          rintro _ _ ⟨rfl, rfl⟩
          exact g_iret B E rfl dX4_readToken_142 (Or.inl ⟨by simp only [tB, Bool.or_eq_true, Bool.and_eq_true, decide_eq_true_eq]; omega, rfl, rfl, rfl, frT_5⟩)
        · rw [show (4 : Int32) = nI 4 from rfl, nI_eq (by omega) (by decide)] at h126
          refine g_iload_n B dX4_readToken_129 rfl ?_
          refine g_if_eq B 143 dX4_readToken_130 (by decide) (fun h130 => ?_) (fun h130 => ?_)
          · exact absurd h130 (by decide)
          · refine g_aload_n B dX4_readToken_133 rfl ?_
            refine g_iconst B (v := 1) dX4_readToken_134 (by decide) ?_
            refine g_aload_n B dX4_readToken_135 rfl ?_
            refine g_geti B ci_X4 (by first | rfl | assumption) rfl (by decide) fl_X4_113 dX4_readToken_136 ?_
            rw [show (w2 (w2 (w2 I 39 5 (nI (tS b q p))) 39 4 (nI (tK b q p))) 39 6 (nI (tE b q p))) 39 5 = nI (tS b q p) from rfl]
            refine g_callVI B (ct_X4_refuse _ _) (by first | rfl | assumption) rfl ml_X4_78 mm_X4_refuse rfl rfl (Nat.le_of_ble_eq_true rfl) dX4_readToken_139 (by decide) ?_
            rintro _ _ ⟨rfl, rfl⟩
            exact g_iret B E rfl dX4_readToken_142 (Or.inl ⟨by simp only [tB, Bool.or_eq_true, Bool.and_eq_true, decide_eq_true_eq]; omega, rfl, rfl, rfl, frT_5⟩)
  refine g_aload_n B dX4_readToken_16 rfl ?_
  refine g_aload_n B dX4_readToken_17 rfl ?_
  refine g_geti B ci_X4 (by first | rfl | assumption) rfl (by decide) fl_X4_44 dX4_readToken_18 ?_
  rw [show (w2 (w2 I 39 5 (nI (tS b q p))) 39 4 (nI (tK b q p))) 39 4 = nI (tK b q p) from rfl]
  refine g_if_ne B 31 dX4_readToken_21 (by decide) (fun h21 => ?_) (fun h21 => ?_)
  · rw [show (0 : Int32) = nI 0 from rfl, nI_eq (by omega) (by decide)] at h21
    refine g_aload_n B dX4_readToken_31 rfl ?_
    refine g_geti B ci_X4 (by first | rfl | assumption) rfl (by decide) fl_X4_113 dX4_readToken_32 ?_
    rw [show (w2 (w2 I 39 5 (nI (tS b q p))) 39 4 (nI (tK b q p))) 39 5 = nI (tS b q p) from rfl]
    refine g_iconst B (v := 1) dX4_readToken_35 (by decide) ?_
    refine g_iadd B dX4_readToken_36 ?_
    refine g_eqi (nI (tS b q p + 1)) (nI_1 _) ?_
    refine g_put B ci_X4 (by first | rfl | assumption) rfl (by decide) fl_X4_30 rfl rfl rfl dX4_readToken_37 ?_
    refine g_aload_n B dX4_readToken_40 rfl ?_
    refine g_geti B ci_X4 (by first | rfl | assumption) rfl (by decide) fl_X4_44 dX4_readToken_41 ?_
    rw [show w2 (w2 (w2 I 39 5 (nI (tS b q p))) 39 4 (nI (tK b q p))) 39 6 _ 39 4 = nI (tK b q p) from rfl]
    refine g_iconst B (v := 1) dX4_readToken_44 (by decide) ?_
    refine g_icmp_eq B 56 dX4_readToken_45 (by decide) (fun h45 => ?_) (fun h45 => ?_)
    · rw [show (1 : Int32) = nI 1 from rfl, nI_eq (by omega) (by decide)] at h45
      refine g_aload_n B dX4_readToken_56 rfl ?_
      refine g_geti B ci_X4 (by first | rfl | assumption) rfl (by decide) fl_X4_30 dX4_readToken_57 ?_
      rw [show w2 (w2 (w2 I 39 5 (nI (tS b q p))) 39 4 (nI (tK b q p))) 39 6 (nI (tS b q p + 1)) 39 6 = nI (tS b q p + 1) from rfl]
      refine g_istn1 B dX4_readToken_60 (by decide) rfl ?_
      have hk12 : tK b q p = 1 ∨ tK b q p = 2 := by omega
      have hne := tK_lt (b := b) (q := q) (p := p) (by omega)
      have L61 : ∀ i, i ≤ q → rn (fun j => decide (kd b q j = tK b q p)) (q - i) i = tE b q p → GW X 2 61 [some (.ref 39), some (.int (nI i))] [] (w2 (w2 (w2 I 39 5 (nI (tS b q p))) 39 4 (nI (tK b q p))) 39 6 (nI i)) := by
        refine loopN q (fun i hi ih hx => ?_)
        refine g_iload_n B dX4_readToken_61 rfl ?_
        refine g_aload_n B dX4_readToken_62 rfl ?_
        refine g_geti B ci_X4 (by first | rfl | assumption) rfl (by decide) fl_X4_15 dX4_readToken_63 ?_
        rw [show w2 (w2 (w2 I 39 5 (nI (tS b q p))) 39 4 (nI (tK b q p))) 39 6 (nI i) 39 1 = nI q from hq]
        refine g_icmp_ge B 94 dX4_readToken_66 (by decide) (fun h66 => ?_) (fun h66 => ?_)
        · have hi2 : i = q := by have := le_le (a := q) (b := i) (by omega) (by omega) h66; omega
          have hs : i = tE b q p := by rw [← hx, hi2, Nat.sub_self]; rfl
          rw [hs]
          exact J94 _
        · have hlt : i < q := nle_lt (by omega) (by omega) h66
          refine g_aload_n B dX4_readToken_69 rfl ?_
          refine g_iload_n B dX4_readToken_70 rfl ?_
          refine g_callVI B (ct_X4_kindAt (((hT5 _).w2 (j := 4) (by decide)).w2 (j := 6) (by decide)) (show i ≤ 160 by omega)) (by first | rfl | assumption) rfl ml_X4_167 mm_X4_kindAt rfl rfl (Nat.le_of_ble_eq_true rfl) dX4_readToken_71 (by decide) ?_
          rintro _ _ ⟨rfl, rfl⟩
          refine g_aload_n B dX4_readToken_74 rfl ?_
          refine g_geti B ci_X4 (by first | rfl | assumption) rfl (by decide) fl_X4_44 dX4_readToken_75 ?_
          rw [show w2 (w2 (w2 I 39 5 (nI (tS b q p))) 39 4 (nI (tK b q p))) 39 6 (nI i) 39 4 = nI (tK b q p) from rfl]
          refine g_icmp_ne B 94 dX4_readToken_78 (by decide) (fun h78 => ?_) (fun h78 => ?_)
          · rw [nI_eq (by have := kd_le b q i; omega) (by omega)] at h78
            have hs : i = tE b q p := by rw [← hx, rn_stop (by simpa using h78)]
            rw [hs]
            exact J94 _
          · rw [nI_eq (by have := kd_le b q i; omega) (by omega)] at h78
            refine g_aload_n B dX4_readToken_81 rfl ?_
            refine g_iload_n B dX4_readToken_82 rfl ?_
            refine g_iconst B (v := 1) dX4_readToken_83 (by decide) ?_
            refine g_iadd B dX4_readToken_84 ?_
            refine g_eqi (nI (i + 1)) (nI_1 i) ?_
            refine g_put B ci_X4 (by first | rfl | assumption) rfl (by decide) fl_X4_30 rfl rfl rfl dX4_readToken_85 ?_
            refine g_eqI (w2_w2 _ _ _ _ _) ?_
            refine g_inc1 B dX4_readToken_88 rfl (inc1 _) (by decide) rfl ?_
            refine g_goto B 61 dX4_readToken_91 (by decide) ?_
            exact ih hlt (by rw [← hx, rn_step (by simpa using h78) hlt])
      exact L61 (tS b q p + 1) (by omega) (by rw [tE, if_neg (by omega), if_pos hk12, eN])
    · rw [show (1 : Int32) = nI 1 from rfl, nI_eq (by omega) (by decide)] at h45
      refine g_aload_n B dX4_readToken_48 rfl ?_
      refine g_geti B ci_X4 (by first | rfl | assumption) rfl (by decide) fl_X4_44 dX4_readToken_49 ?_
      rw [show w2 (w2 (w2 I 39 5 (nI (tS b q p))) 39 4 (nI (tK b q p))) 39 6 _ 39 4 = nI (tK b q p) from rfl]
      refine g_iconst B (v := 2) dX4_readToken_52 (by decide) ?_
      refine g_icmp_ne B 94 dX4_readToken_53 (by decide) (fun h53 => ?_) (fun h53 => ?_)
      · rw [show (2 : Int32) = nI 2 from rfl, nI_eq (by omega) (by decide)] at h53
        rw [show tS b q p + 1 = tE b q p by rw [tE, if_neg h21, if_neg (by omega)]]
        exact J94 _
      · rw [show (2 : Int32) = nI 2 from rfl, nI_eq (by omega) (by decide)] at h53
        refine g_aload_n B dX4_readToken_56 rfl ?_
        refine g_geti B ci_X4 (by first | rfl | assumption) rfl (by decide) fl_X4_30 dX4_readToken_57 ?_
        rw [show w2 (w2 (w2 I 39 5 (nI (tS b q p))) 39 4 (nI (tK b q p))) 39 6 (nI (tS b q p + 1)) 39 6 = nI (tS b q p + 1) from rfl]
        refine g_istn1 B dX4_readToken_60 (by decide) rfl ?_
        have hk12 : tK b q p = 1 ∨ tK b q p = 2 := by omega
        have hne := tK_lt (b := b) (q := q) (p := p) (by omega)
        have L61 : ∀ i, i ≤ q → rn (fun j => decide (kd b q j = tK b q p)) (q - i) i = tE b q p → GW X 2 61 [some (.ref 39), some (.int (nI i))] [] (w2 (w2 (w2 I 39 5 (nI (tS b q p))) 39 4 (nI (tK b q p))) 39 6 (nI i)) := by
          refine loopN q (fun i hi ih hx => ?_)
          refine g_iload_n B dX4_readToken_61 rfl ?_
          refine g_aload_n B dX4_readToken_62 rfl ?_
          refine g_geti B ci_X4 (by first | rfl | assumption) rfl (by decide) fl_X4_15 dX4_readToken_63 ?_
          rw [show w2 (w2 (w2 I 39 5 (nI (tS b q p))) 39 4 (nI (tK b q p))) 39 6 (nI i) 39 1 = nI q from hq]
          refine g_icmp_ge B 94 dX4_readToken_66 (by decide) (fun h66 => ?_) (fun h66 => ?_)
          · have hi2 : i = q := by have := le_le (a := q) (b := i) (by omega) (by omega) h66; omega
            have hs : i = tE b q p := by rw [← hx, hi2, Nat.sub_self]; rfl
            rw [hs]
            exact J94 _
          · have hlt : i < q := nle_lt (by omega) (by omega) h66
            refine g_aload_n B dX4_readToken_69 rfl ?_
            refine g_iload_n B dX4_readToken_70 rfl ?_
            refine g_callVI B (ct_X4_kindAt (((hT5 _).w2 (j := 4) (by decide)).w2 (j := 6) (by decide)) (show i ≤ 160 by omega)) (by first | rfl | assumption) rfl ml_X4_167 mm_X4_kindAt rfl rfl (Nat.le_of_ble_eq_true rfl) dX4_readToken_71 (by decide) ?_
            rintro _ _ ⟨rfl, rfl⟩
            refine g_aload_n B dX4_readToken_74 rfl ?_
            refine g_geti B ci_X4 (by first | rfl | assumption) rfl (by decide) fl_X4_44 dX4_readToken_75 ?_
            rw [show w2 (w2 (w2 I 39 5 (nI (tS b q p))) 39 4 (nI (tK b q p))) 39 6 (nI i) 39 4 = nI (tK b q p) from rfl]
            refine g_icmp_ne B 94 dX4_readToken_78 (by decide) (fun h78 => ?_) (fun h78 => ?_)
            · rw [nI_eq (by have := kd_le b q i; omega) (by omega)] at h78
              have hs : i = tE b q p := by rw [← hx, rn_stop (by simpa using h78)]
              rw [hs]
              exact J94 _
            · rw [nI_eq (by have := kd_le b q i; omega) (by omega)] at h78
              refine g_aload_n B dX4_readToken_81 rfl ?_
              refine g_iload_n B dX4_readToken_82 rfl ?_
              refine g_iconst B (v := 1) dX4_readToken_83 (by decide) ?_
              refine g_iadd B dX4_readToken_84 ?_
              refine g_eqi (nI (i + 1)) (nI_1 i) ?_
              refine g_put B ci_X4 (by first | rfl | assumption) rfl (by decide) fl_X4_30 rfl rfl rfl dX4_readToken_85 ?_
              refine g_eqI (w2_w2 _ _ _ _ _) ?_
              refine g_inc1 B dX4_readToken_88 rfl (inc1 _) (by decide) rfl ?_
              refine g_goto B 61 dX4_readToken_91 (by decide) ?_
              exact ih hlt (by rw [← hx, rn_step (by simpa using h78) hlt])
        exact L61 (tS b q p + 1) (by omega) (by rw [tE, if_neg (by omega), if_pos hk12, eN])
  · rw [show (0 : Int32) = nI 0 from rfl, nI_eq (by omega) (by decide)] at h21
    refine g_aload_n B dX4_readToken_24 rfl ?_
    refine g_geti B ci_X4 (by first | rfl | assumption) rfl (by decide) fl_X4_113 dX4_readToken_25 ?_
    rw [show (w2 (w2 I 39 5 (nI (tS b q p))) 39 4 (nI (tK b q p))) 39 5 = nI (tS b q p) from rfl]
    refine g_goto B 37 dX4_readToken_28 (by decide) ?_
    refine g_put B ci_X4 (by first | rfl | assumption) rfl (by decide) fl_X4_30 rfl rfl rfl dX4_readToken_37 ?_
    refine g_aload_n B dX4_readToken_40 rfl ?_
    refine g_geti B ci_X4 (by first | rfl | assumption) rfl (by decide) fl_X4_44 dX4_readToken_41 ?_
    rw [show w2 (w2 (w2 I 39 5 (nI (tS b q p))) 39 4 (nI (tK b q p))) 39 6 _ 39 4 = nI (tK b q p) from rfl]
    refine g_iconst B (v := 1) dX4_readToken_44 (by decide) ?_
    refine g_icmp_eq B 56 dX4_readToken_45 (by decide) (fun h45 => ?_) (fun h45 => ?_)
    · rw [show (1 : Int32) = nI 1 from rfl, nI_eq (by omega) (by decide)] at h45
      exfalso; omega
    · rw [show (1 : Int32) = nI 1 from rfl, nI_eq (by omega) (by decide)] at h45
      refine g_aload_n B dX4_readToken_48 rfl ?_
      refine g_geti B ci_X4 (by first | rfl | assumption) rfl (by decide) fl_X4_44 dX4_readToken_49 ?_
      rw [show w2 (w2 (w2 I 39 5 (nI (tS b q p))) 39 4 (nI (tK b q p))) 39 6 _ 39 4 = nI (tK b q p) from rfl]
      refine g_iconst B (v := 2) dX4_readToken_52 (by decide) ?_
      refine g_icmp_ne B 94 dX4_readToken_53 (by decide) (fun h53 => ?_) (fun h53 => ?_)
      · rw [show (2 : Int32) = nI 2 from rfl, nI_eq (by omega) (by decide)] at h53
        have j94 := J94 none
        rw [show tE b q p = tS b q p by rw [tE, if_pos h21]] at j94
        exact j94
      · rw [show (2 : Int32) = nI 2 from rfl, nI_eq (by omega) (by decide)] at h53
        exfalso; omega
set_option maxHeartbeats 4000000 in
set_option maxRecDepth 100000 in
theorem ct_X4_isWord {I : Wo} {b : Nat → Nat} {q k s e i : Nat} (hT : TB I b q) (hi : i < 8) (hk : I 39 4 = nI k) (hk4 : k ≤ 4) (hs : I 39 5 = nI s) (he : I 39 6 = nI e) (hse : s ≤ e) (heq : e ≤ q) : Ct yX4_isWord cX4_isWord 3 (some .boolean) 6 128 [.ref 39, .ref (81 + i)] I (pI (fun r u => r = bI (decide (k = 1) && wd b s e i) ∧ I = u)) := by
  obtain ⟨hb, hq, hq6⟩ := id hT
  have hsl := sN31 hi
  refine ct_of RX4 rfl (by decide) (Nat.le_of_ble_eq_true rfl) (fun X B E => ?_)
  show GW X 3 0 [some (.ref 39), some (.ref (81 + i)), none] [] _
  refine g_aload_n B dX4_isWord_0 rfl ?_
  refine g_geti B ci_X4 (by first | rfl | assumption) rfl (by decide) fl_X4_44 dX4_isWord_1 ?_
  rw [hk]
  refine g_iconst B (v := 1) dX4_isWord_4 (by decide) ?_
  refine g_icmp_ne B 24 dX4_isWord_5 (by decide) (fun h5 => ?_) (fun h5 => ?_)
  · rw [show (1 : Int32) = nI 1 from rfl, nI_eq (by omega) (by decide)] at h5
    refine g_iconst B (v := 0) dX4_isWord_24 (by decide) ?_
    exact g_iret B E rfl dX4_isWord_25 ⟨by rw [decide_eq_false h5, Bool.false_and]; rfl, rfl⟩
  · rw [show (1 : Int32) = nI 1 from rfl, nI_eq (by omega) (by decide)] at h5
    refine g_aload_n B dX4_isWord_8 rfl ?_
    refine g_geti B ci_X4 (by first | rfl | assumption) rfl (by decide) fl_X4_30 dX4_isWord_9 ?_
    rw [he]
    refine g_aload_n B dX4_isWord_12 rfl ?_
    refine g_geti B ci_X4 (by first | rfl | assumption) rfl (by decide) fl_X4_113 dX4_isWord_13 ?_
    rw [hs]
    refine g_isub B dX4_isWord_16 ?_
    refine g_eqi (nI (e - s)) (pk_sub hse) ?_
    refine g_aload_n B dX4_isWord_17 rfl ?_
    refine g_callKI B hi rfl (ct_J0_length_8abf5 hi) ml_X4_175 mm_J0_length_8abf5 rfl rfl (Nat.le_of_ble_eq_true rfl) dX4_isWord_18 (by decide) ?_
    rintro _ _ ⟨rfl, rfl⟩
    refine g_icmp_eq B 26 dX4_isWord_21 (by decide) (fun h21 => ?_) (fun h21 => ?_)
    · rw [nI_eq (by omega) hsl] at h21
      refine g_aload_n B dX4_isWord_26 rfl ?_
      refine g_geti B ci_X4 (by first | rfl | assumption) rfl (by decide) fl_X4_113 dX4_isWord_27 ?_
      rw [hs]
      refine g_istn2 B dX4_isWord_30 (by decide) rfl ?_
      have L31 : ∀ m, m ≤ e - s → allF (fun j => decide (b (s + j) = ((strB.getD i []).getD j 0).toNatClampNeg)) m = true → GW X 3 31 [some (.ref 39), some (.ref (81 + i)), some (.int (nI (s + m)))] [] I := by
        refine loopN (e - s) (fun m hm ih hx => ?_)
        refine g_iload_n B dX4_isWord_31 rfl ?_
        refine g_aload_n B dX4_isWord_32 rfl ?_
        refine g_geti B ci_X4 (by first | rfl | assumption) rfl (by decide) fl_X4_30 dX4_isWord_33 ?_
        rw [he]
        refine g_icmp_ge B 66 dX4_isWord_36 (by decide) (fun h36 => ?_) (fun h36 => ?_)
        · have hm2 : m = e - s := by have := le_le (a := e) (b := s + m) (by omega) (by omega) h36; omega
          refine g_iconst B (v := 1) dX4_isWord_66 (by decide) ?_
          exact g_iret B E rfl dX4_isWord_67 ⟨by rw [hm2, h21] at hx; simp only [wd, hx, h5, h21, decide_true, Bool.and_true]; rfl, rfl⟩
        · have hlt : m < e - s := by have := nle_lt (a := e) (b := s + m) (by omega) (by omega) h36; omega
          obtain ⟨hbi, hb8⟩ := hb (s + m) (by omega)
          have hml : m < strN.getD i 0 := by omega
          obtain ⟨-, hc1, hc2⟩ := st_chr hi hml
          refine g_aload_n B dX4_isWord_39 rfl ?_
          refine g_getr B ci_X4 (by first | rfl | assumption) rfl (by decide) fl_X4_9 dX4_isWord_40 ?_
          refine g_iload_n B dX4_isWord_43 rfl ?_
          refine g_bald B (by first | rfl | assumption) (s + m) rfl (by omega) (by decide) dX4_isWord_44 ?_
          rw [hbi]
          refine g_aload_n B dX4_isWord_45 rfl ?_
          refine g_iload_n B dX4_isWord_46 rfl ?_
          refine g_aload_n B dX4_isWord_47 rfl ?_
          refine g_geti B ci_X4 (by first | rfl | assumption) rfl (by decide) fl_X4_113 dX4_isWord_48 ?_
          rw [hs]
          refine g_isub B dX4_isWord_51 ?_
          refine g_eqi (nI m) (by rw [pk_sub (by omega), Nat.add_sub_cancel_left]) ?_
          refine g_callKI B hi rfl (ct_J0_charAt_5068e hi hml) ml_X4_179 mm_J0_charAt_5068e rfl rfl (Nat.le_of_ble_eq_true rfl) dX4_isWord_52 (by decide) ?_
          rintro _ _ ⟨rfl, rfl⟩
          rw [hc1]
          refine g_icmp_eq B 60 dX4_isWord_55 (by decide) (fun h55 => ?_) (fun h55 => ?_)
          · rw [nI_eq (by omega) (by omega)] at h55
            refine g_inc2 B dX4_isWord_60 rfl (inc1 _) (by decide) rfl ?_
            refine g_goto B 31 dX4_isWord_63 (by decide) ?_
            exact ih hlt (by rw [allF, hx]; simpa using h55)
          · rw [nI_eq (by omega) (by omega)] at h55
            refine g_iconst B (v := 0) dX4_isWord_58 (by decide) ?_
            exact g_iret B E rfl dX4_isWord_59 ⟨by rw [wd, allF_no (i := m) (by simpa using h55) hml]; simp; rfl, rfl⟩
      exact L31 0 (Nat.zero_le _) rfl
    · rw [nI_eq (by omega) hsl] at h21
      refine g_iconst B (v := 0) dX4_isWord_24 (by decide) ?_
      exact g_iret B E rfl dX4_isWord_25 ⟨by rw [wd, decide_eq_false h21, Bool.false_and, Bool.and_false]; rfl, rfl⟩

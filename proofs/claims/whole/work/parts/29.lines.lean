/-! the lines of a text, as they are told into a draft: D holds its cells -/
def rdN (b : Nat → Nat) (q p : Nat) (lo hi : Int32) : Except (Nat × Nat) Nat := if tB b q p = true then .error (1, tS b q p) else if ¬ tK b q p = 2 then .error (2, tS b q p) else if wi (nI (tV b q p)) lo hi = true then .ok (tV b q p) else .error (3, tS b q p)
def rdT (b : Nat → Nat) (q p : Nat) : Except (Nat × Nat) Nat := if tB b q p = true then .error (1, tS b q p) else if tK b q p = 3 then .ok (tE b q p) else .error (2, tS b q p)
def tg (c : Nat) (un : Bool) (v : Nat) (D : Wo) : Except Nat Wo := if c ≤ v then .error 3 else if (D 15 c ||| D 16 c) &&& ((1 : Int32) <<< (nI v &&& 31)) = 0 then .ok (if un = true then w2 D 16 c (D 16 c ||| ((1 : Int32) <<< (nI v &&& 31))) else w2 D 15 c (D 15 c ||| ((1 : Int32) <<< (nI v &&& 31)))) else .error 4
def gr (b : Nat → Nat) (q c : Nat) : Nat → Nat → Bool → Wo → Except (Nat × Nat) (Nat × Wo)
  | 0, _, _, _ => .error (2, 0)
  | f + 1, p, un, D => if tB b q p = true then .error (1, tS b q p)
    else if tK b q p = 2 then (match tg c un (tV b q p) D with
      | .error k => .error (k, tS b q p)
      | .ok D2 => gr b q c f (tE b q p) un D2)
    else if un = false ∧ tK b q p = 1 then (if wd b (tS b q p) (tE b q p) 7 = true then gr b q c f (tE b q p) true D else .error (2, tS b q p))
    else if un = true ∧ D 16 c = 0 then .error (2, tS b q p) else .ok (p, D)
def thenS (b : Nat → Nat) (q : Nat) (r : Except (Nat × Nat) (Nat × Wo)) : Except (Nat × Nat) (Nat × Wo) := match r with
  | .error e => .error e
  | .ok x => match rdT b q x.1 with
    | .error e => .error e
    | .ok p2 => .ok (p2, x.2)
theorem gr_stop {b : Nat → Nat} {q c f p : Nat} {un : Bool} {D : Wo} (hB : tB b q p = false) (h3 : tK b q p = 3) (hu : un = false ∨ ¬ D 16 c = 0) : thenS b q (gr b q c (f + 1) p un D) = .ok (tE b q p, D) := by
  have hn : ¬ tB b q p = true := by rw [hB]; decide
  rw [gr, if_neg hn, if_neg (by omega), if_neg (by omega), if_neg (by rcases hu with h | h <;> simp [h])]
  simp only [thenS, rdT, if_neg hn, if_pos h3]
theorem gr_stop0 {b : Nat → Nat} {q c f p : Nat} {un : Bool} {D : Wo} (hB : tB b q p = false) (h3 : tK b q p = 3) (hu : un = true) (h0 : D 16 c = 0) : thenS b q (gr b q c (f + 1) p un D) = .error (2, tS b q p) := by
  have hn : ¬ tB b q p = true := by rw [hB]; decide
  rw [gr, if_neg hn, if_neg (by omega), if_neg (by omega), if_pos ⟨hu, h0⟩, thenS]
theorem gr_end {b : Nat → Nat} {q c f p : Nat} {un : Bool} {D : Wo} (hB : tB b q p = false) (h2 : ¬ tK b q p = 2) (h3 : ¬ tK b q p = 3) (hu : un = true ∨ (tK b q p = 1 → wd b (tS b q p) (tE b q p) 7 = false)) : thenS b q (gr b q c (f + 1) p un D) = .error (2, tS b q p) := by
  have hn : ¬ tB b q p = true := by rw [hB]; decide
  rw [gr, if_neg hn, if_neg h2]
  split
  · next h =>
    rcases hu with hu | hu
    · rw [hu] at h; exact absurd h.1 (by decide)
    · rw [if_neg (by rw [hu h.2]; decide), thenS]
  · split
    · rfl
    · simp only [thenS, rdT, if_neg hn, if_neg h3]
/-- the draft's cells are D's -/
def DE (u D : Wo) : Prop := (∀ x y, 10 ≤ x → x ≤ 18 → u x y = D x y) ∧ u 39 8 = D 39 8 ∧ u 39 9 = D 39 9
def FrC (I u : Wo) : Prop := ∀ x y, (x = 39 → y < 2) → (x < 10 ∨ 18 < x) → u x y = I x y
theorem frC_0 {I : Wo} : FrC I I := fun _ _ _ _ => rfl
theorem FrC.trans {I u v : Wo} (h1 : FrC I u) (h2 : FrC u v) : FrC I v := fun x y a b => (h2 x y a b).trans (h1 x y a b)
theorem FrT.c {I u : Wo} (h : FrT I u) : FrC I u := fun x y a _ => h x y (fun e => Or.inl (a e))
theorem FrT.c10 {I u : Wo} (h : FrT I u) (y : Nat) (_ : True ∨ True := Or.inl trivial) : u 10 y = I 10 y := h 10 y (fun e => absurd e (by decide))
theorem FrT.de {I u D : Wo} (h : FrT I u) (hD : DE I D) : DE u D :=
  ⟨fun x y a b => (h x y (fun e => by omega)).trans (hD.1 x y a b), (h 39 8 (fun _ => by decide)).trans hD.2.1, (h 39 9 (fun _ => by decide)).trans hD.2.2⟩
theorem frC_w2 {I u : Wo} {k j : Nat} {v : Int32} (hk : (10 ≤ k ∧ k ≤ 18) ∨ (k = 39 ∧ 2 ≤ j)) (h : FrC I u) : FrC I (w2 u k j v) := by
  intro x y a b
  rw [show w2 u k j v x y = u x y from if_neg (by rintro ⟨rfl, rfl⟩; rcases hk with q | q <;> omega)]
  exact h x y a b
theorem w2_at (u D : Wo) {k j x y : Nat} {v : Int32} (h : u x y = D x y) : w2 u k j v x y = w2 D k j v x y := by
  rw [w2_get, w2_get]
  split
  · rfl
  · exact h
theorem DE.w2 {u D : Wo} {k j : Nat} {v : Int32} (h : DE u D) : DE (w2 u k j v) (w2 D k j v) :=
  ⟨fun x y a b => w2_at u D (h.1 x y a b), w2_at u D h.2.1, w2_at u D h.2.2⟩
theorem TB.frC {I u : Wo} {b : Nat → Nat} {q : Nat} (h : TB I b q) (hF : FrC I u) : TB u b q :=
  ⟨fun i hi => by rw [hF 40 i (fun e => absurd e (by decide)) (Or.inr (by decide))]; exact h.1 i hi, by rw [hF 39 1 (fun _ => by decide) (Or.inr (by decide))]; exact h.2.1, h.2.2⟩
def CR (I : Wo) (r : Int32) (u : Wo) : Except (Nat × Nat) (Nat × Wo) → Prop
  | .error e => r = 0 ∧ u 39 2 = nI e.1 ∧ u 39 3 = nI e.2 ∧ FrC I u
  | .ok x => r = 1 ∧ u 39 6 = nI x.1 ∧ u 39 2 = I 39 2 ∧ u 39 3 = I 39 3 ∧ DE u x.2 ∧ FrC I u
theorem cr_nar {I u : Wo} {r : Int32} {x : Except (Nat × Nat) (Nat × Wo)} (h : CR I r u x) : narrow .boolean (.int r) = .int r := by
  cases x with
  | error e => rw [h.1]; rfl
  | ok x => rw [h.1]; rfl
theorem CR.up {I J u : Wo} {r : Int32} {x : Except (Nat × Nat) (Nat × Wo)} (h : CR J r u x) (hF : FrC I J) (h2 : J 39 2 = I 39 2) (h3 : J 39 3 = I 39 3) : CR I r u x := by
  cases x with
  | error e => exact ⟨h.1, h.2.1, h.2.2.1, hF.trans h.2.2.2⟩
  | ok x => exact ⟨h.1, h.2.1, h.2.2.1.trans h2, h.2.2.2.1.trans h3, h.2.2.2.2.1, hF.trans h.2.2.2.2.2⟩
def cD (sd : Int32) (n f t y : Nat) (D : Wo) : Wo := w2 (w2 (w2 (w2 (w2 (w2 (w2 D 12 n (nI f)) 13 n (nI t)) 14 n (nI y)) 11 n sd) 15 n 0) 16 n 0) 10 9 (nI (n + 1))
def bCl (b : Nat → Nat) (q : Nat) (sd : Int32) (n s p : Nat) (D : Wo) : Except (Nat × Nat) (Nat × Wo) := if 8 ≤ n then .error (5, s) else match rdN b q p 0 9 with
  | .error e => .error e
  | .ok f => match rdN b q (tE b q p) (nI f) 9 with
    | .error e => .error e
    | .ok t => match rdN b q (tE b q (tE b q p)) 0 9 with
      | .error e => .error e
      | .ok y => gr b q n 161 (tE b q (tE b q (tE b q p))) false (cD sd n f t y D)
def bEn (b : Nat → Nat) (q s p : Nat) (D : Wo) : Except (Nat × Nat) (Nat × Wo) := if ¬ D 39 8 = 0 then .error (4, s) else match rdN b q p 0 7 with
  | .error e => .error e
  | .ok v => .ok (tE b q p, w2 (w2 D 10 10 (nI v)) 39 8 1)
def bDy (b : Nat → Nat) (q s p : Nat) (D : Wo) : Except (Nat × Nat) (Nat × Wo) := if ¬ D 39 9 = 0 then .error (4, s) else match rdN b q p 0 9 with
  | .error e => .error e
  | .ok v => .ok (tE b q p, w2 (w2 D 10 11 (nI v)) 39 9 1)
def bPl (b : Nat → Nat) (q m s p : Nat) (D : Wo) : Except (Nat × Nat) (Nat × Wo) := if 6 ≤ m then .error (5, s) else match rdN b q p 0 7 with
  | .error e => .error e
  | .ok v => .ok (tE b q p, w2 (w2 D 17 m (nI v)) 10 13 (nI (m + 1)))
def bSa (b : Nat → Nat) (q p : Nat) (D : Wo) : Except (Nat × Nat) (Nat × Wo) := match rdN b q p 0 7 with
  | .error e => .error e
  | .ok v => if (D 10 12 >>> (nI v &&& 31)) &&& 1 = 1 then .error (4, tS b q p) else .ok (tE b q p, w2 D 10 12 (D 10 12 ||| ((1 : Int32) <<< (nI v &&& 31))))
set_option maxHeartbeats 4000000 in
set_option maxRecDepth 100000 in
theorem ct_X4_readNumber {I : Wo} {b : Nat → Nat} {q p : Nat} (hT : TB I b q) (hp : I 39 6 = nI p) (hpq : p ≤ q) (lo hi : Int32) : Ct yX4_readNumber cX4_readNumber 3 (some .boolean) 2 43 [.ref 39, .int lo, .int hi] I (pI (fun r u => (∃ e : Nat × Nat, rdN b q p lo hi = .error e ∧ r = 0 ∧ u 39 2 = nI e.1 ∧ u 39 3 = nI e.2 ∧ FrT I u) ∨ (∃ v : Nat, rdN b q p lo hi = .ok v ∧ v ≤ 99 ∧ wi (nI v) lo hi = true ∧ r = 1 ∧ u 39 7 = nI v ∧ u 39 6 = nI (tE b q p) ∧ u 39 5 = nI (tS b q p) ∧ u 39 2 = I 39 2 ∧ u 39 3 = I 39 3 ∧ FrT I u))) := by
  have hK4 := tK_le b q p
  refine ct_of RX4 rfl (by decide) (Nat.le_of_ble_eq_true rfl) (fun X B E => ?_)
  show GW X 3 0 [some (.ref 39), some (.int lo), some (.int hi)] [] _
  refine g_aload_n B dX4_readNumber_0 rfl ?_
  refine g_callVI B (ct_X4_readToken hT hp hpq) (by first | rfl | assumption) rfl ml_X4_40 mm_X4_readToken rfl rfl (Nat.le_of_ble_eq_true rfl) dX4_readNumber_1 (by decide) ?_
  rintro _ _ (⟨hB, rfl, f2, f3, hF⟩ | ⟨hB, rfl, g4, g5, g6, g7, g2, g3, hF⟩)
  · refine g_if_ne B 9 dX4_readNumber_4 (by decide) (fun h4 => ?_) (fun h4 => ?_)
    · exact absurd rfl h4
    · refine g_iconst B (v := 0) dX4_readNumber_7 (by decide) ?_
      exact g_iret B E rfl dX4_readNumber_8 (Or.inl ⟨(1, tS b q p), by rw [rdN, if_pos hB], rfl, f2, f3, hF⟩)
  · refine g_if_ne B 9 dX4_readNumber_4 (by decide) (fun h4 => ?_) (fun h4 => ?_)
    · refine g_aload_n B dX4_readNumber_9 rfl ?_
      refine g_geti B ci_X4 (by first | rfl | assumption) rfl (by decide) fl_X4_44 dX4_readNumber_10 ?_
      rw [g4]
      refine g_iconst B (v := 2) dX4_readNumber_13 (by decide) ?_
      refine g_icmp_eq B 27 dX4_readNumber_14 (by decide) (fun h14 => ?_) (fun h14 => ?_)
      · rw [show (2 : Int32) = nI 2 from rfl, nI_eq (by omega) (by decide)] at h14
        refine g_aload_n B dX4_readNumber_27 rfl ?_
        refine g_geti B ci_X4 (by first | rfl | assumption) rfl (by decide) fl_X4_122 dX4_readNumber_28 ?_
        rw [g7 h14]
        refine g_iload_n B dX4_readNumber_31 rfl ?_
        refine g_iload_n B dX4_readNumber_32 rfl ?_
        refine g_callNI B (ct_X6_within _ _ _) (fun _ _ h => h.2.1) mm_X6_within rfl rfl (Nat.le_of_ble_eq_true rfl) dX4_readNumber_33 (by decide) ?_
        rintro _ _ ⟨rfl, rfl⟩
        refine g_if_ne B 51 dX4_readNumber_36 (by decide) (fun h36 => ?_) (fun h36 => ?_)
        · rw [bI_ne0] at h36
          refine g_iconst B (v := 1) dX4_readNumber_51 (by decide) ?_
          refine g_goto B 56 dX4_readNumber_52 (by decide) ?_
          exact g_iret B E rfl dX4_readNumber_56 (Or.inr ⟨tV b q p, by rw [rdN, if_neg (by rw [hB]; decide), if_neg (by simp [h14]), if_pos h36], tV_le h14 hB, h36, rfl, g7 h14, g6, g5, g2, g3, hF⟩)
        · rw [bI_eq0] at h36
          refine g_aload_n B dX4_readNumber_39 rfl ?_
          refine g_iconst B (v := 3) dX4_readNumber_40 (by decide) ?_
          refine g_aload_n B dX4_readNumber_41 rfl ?_
          refine g_geti B ci_X4 (by first | rfl | assumption) rfl (by decide) fl_X4_113 dX4_readNumber_42 ?_
          rw [g5]
          refine g_callVI B (ct_X4_refuse _ _) (by first | rfl | assumption) rfl ml_X4_78 mm_X4_refuse rfl rfl (Nat.le_of_ble_eq_true rfl) dX4_readNumber_45 (by decide) ?_
          rintro _ _ ⟨rfl, rfl⟩
          refine g_if_eq B 55 dX4_readNumber_48 (by decide) (fun h48 => ?_) (fun h48 => ?_)
          · refine g_iconst B (v := 0) dX4_readNumber_55 (by decide) ?_
            exact g_iret B E rfl dX4_readNumber_56 (Or.inl ⟨(3, tS b q p), by rw [rdN, if_neg (by rw [hB]; decide), if_neg (by simp [h14]), if_neg (by rw [h36]; decide)], rfl, rfl, rfl, frT_w2 (by decide) (by decide) (frT_w2 (by decide) (by decide) hF)⟩)
          · exact absurd rfl h48
      · rw [show (2 : Int32) = nI 2 from rfl, nI_eq (by omega) (by decide)] at h14
        refine g_aload_n B dX4_readNumber_17 rfl ?_
        refine g_iconst B (v := 2) dX4_readNumber_18 (by decide) ?_
        refine g_aload_n B dX4_readNumber_19 rfl ?_
        refine g_geti B ci_X4 (by first | rfl | assumption) rfl (by decide) fl_X4_113 dX4_readNumber_20 ?_
        rw [g5]
        refine g_callVI B (ct_X4_refuse _ _) (by first | rfl | assumption) rfl ml_X4_78 mm_X4_refuse rfl rfl (Nat.le_of_ble_eq_true rfl) dX4_readNumber_23 (by decide) ?_
        rintro _ _ ⟨rfl, rfl⟩
        exact g_iret B E rfl dX4_readNumber_26 (Or.inl ⟨(2, tS b q p), by rw [rdN, if_neg (by rw [hB]; decide), if_pos h14], rfl, rfl, rfl, frT_w2 (by decide) (by decide) (frT_w2 (by decide) (by decide) hF)⟩)
    · exact absurd h4 (by decide)
set_option maxHeartbeats 4000000 in
set_option maxRecDepth 100000 in
theorem ct_X4_readStop {I : Wo} {b : Nat → Nat} {q p : Nat} (hT : TB I b q) (hp : I 39 6 = nI p) (hpq : p ≤ q) : Ct yX4_readStop cX4_readStop 1 (some .boolean) 2 43 [.ref 39] I (pI (fun r u => (∃ e : Nat × Nat, rdT b q p = .error e ∧ r = 0 ∧ u 39 2 = nI e.1 ∧ u 39 3 = nI e.2 ∧ FrT I u) ∨ (∃ p2 : Nat, rdT b q p = .ok p2 ∧ r = 1 ∧ u 39 6 = nI p2 ∧ u 39 2 = I 39 2 ∧ u 39 3 = I 39 3 ∧ FrT I u))) := by
  have hK4 := tK_le b q p
  refine ct_of RX4 rfl (by decide) (Nat.le_of_ble_eq_true rfl) (fun X B E => ?_)
  show GW X 1 0 [some (.ref 39)] [] _
  refine g_aload_n B dX4_readStop_0 rfl ?_
  refine g_callVI B (ct_X4_readToken hT hp hpq) (by first | rfl | assumption) rfl ml_X4_40 mm_X4_readToken rfl rfl (Nat.le_of_ble_eq_true rfl) dX4_readStop_1 (by decide) ?_
  rintro _ _ (⟨hB, rfl, f2, f3, hF⟩ | ⟨hB, rfl, g4, g5, g6, g7, g2, g3, hF⟩)
  · refine g_if_eq B 31 dX4_readStop_4 (by decide) (fun h4 => ?_) (fun h4 => ?_)
    · refine g_iconst B (v := 0) dX4_readStop_31 (by decide) ?_
      exact g_iret B E rfl dX4_readStop_32 (Or.inl ⟨(1, tS b q p), by rw [rdT, if_pos hB], rfl, f2, f3, hF⟩)
    · exact absurd rfl h4
  · refine g_if_eq B 31 dX4_readStop_4 (by decide) (fun h4 => ?_) (fun h4 => ?_)
    · exact absurd h4 (by decide)
    · refine g_aload_n B dX4_readStop_7 rfl ?_
      refine g_geti B ci_X4 (by first | rfl | assumption) rfl (by decide) fl_X4_44 dX4_readStop_8 ?_
      rw [g4]
      refine g_iconst B (v := 3) dX4_readStop_11 (by decide) ?_
      refine g_icmp_eq B 27 dX4_readStop_12 (by decide) (fun h12 => ?_) (fun h12 => ?_)
      · rw [show (3 : Int32) = nI 3 from rfl, nI_eq (by omega) (by decide)] at h12
        refine g_iconst B (v := 1) dX4_readStop_27 (by decide) ?_
        refine g_goto B 32 dX4_readStop_28 (by decide) ?_
        exact g_iret B E rfl dX4_readStop_32 (Or.inr ⟨tE b q p, by rw [rdT, if_neg (by rw [hB]; decide), if_pos h12], rfl, g6, g2, g3, hF⟩)
      · rw [show (3 : Int32) = nI 3 from rfl, nI_eq (by omega) (by decide)] at h12
        refine g_aload_n B dX4_readStop_15 rfl ?_
        refine g_iconst B (v := 2) dX4_readStop_16 (by decide) ?_
        refine g_aload_n B dX4_readStop_17 rfl ?_
        refine g_geti B ci_X4 (by first | rfl | assumption) rfl (by decide) fl_X4_113 dX4_readStop_18 ?_
        rw [g5]
        refine g_callVI B (ct_X4_refuse _ _) (by first | rfl | assumption) rfl ml_X4_78 mm_X4_refuse rfl rfl (Nat.le_of_ble_eq_true rfl) dX4_readStop_21 (by decide) ?_
        rintro _ _ ⟨rfl, rfl⟩
        refine g_if_eq B 31 dX4_readStop_24 (by decide) (fun h24 => ?_) (fun h24 => ?_)
        · refine g_iconst B (v := 0) dX4_readStop_31 (by decide) ?_
          exact g_iret B E rfl dX4_readStop_32 (Or.inl ⟨(2, tS b q p), by rw [rdT, if_neg (by rw [hB]; decide), if_neg h12], rfl, rfl, rfl, frT_w2 (by decide) (by decide) (frT_w2 (by decide) (by decide) hF)⟩)
        · exact absurd rfl h24
set_option maxHeartbeats 4000000 in
set_option maxRecDepth 100000 in
theorem ct_X4_takeGround {I D : Wo} {c v s : Nat} (hD : DE I D) (hc : c < 8) (h7 : I 39 7 = nI v) (hv : v ≤ 99) (h5 : I 39 5 = nI s) (un : Bool) : Ct yX4_takeGround cX4_takeGround 5 (some .boolean) 1 22 [.ref 39, .ref 10, .int (nI c), .int (bI un)] I (pI (fun r u => (∃ k : Nat, tg c un v D = .error k ∧ r = 0 ∧ u 39 2 = nI k ∧ u 39 3 = nI s ∧ FrT I u) ∨ (∃ D2 : Wo, tg c un v D = .ok D2 ∧ r = 1 ∧ DE u D2 ∧ (∀ y, u 39 y = I 39 y) ∧ FrC I u))) := by
  have d15 : I 15 c = D 15 c := hD.1 15 c (by decide) (by decide)
  have d16 : I 16 c = D 16 c := hD.1 16 c (by decide) (by decide)
  refine ct_of RX4 rfl (by decide) (Nat.le_of_ble_eq_true rfl) (fun X B E => ?_)
  show GW X 5 0 [some (.ref 39), some (.ref 10), some (.int (nI c)), some (.int (bI un)), none] [] _
  refine g_aload_n B dX4_takeGround_0 rfl ?_
  refine g_geti B ci_X4 (by first | rfl | assumption) rfl (by decide) fl_X4_122 dX4_takeGround_1 ?_
  rw [h7]
  refine g_iload_n B dX4_takeGround_4 rfl ?_
  refine g_icmp_lt B 18 dX4_takeGround_5 (by decide) (fun h5_ => ?_) (fun h5_ => ?_)
  · have hlt := lt_lt (a := v) (b := c) (by omega) (by omega) h5_
    refine g_iconst B (v := 1) dX4_takeGround_18 (by decide) ?_
    refine g_aload_n B dX4_takeGround_19 rfl ?_
    refine g_geti B ci_X4 (by first | rfl | assumption) rfl (by decide) fl_X4_122 dX4_takeGround_20 ?_
    rw [h7]
    refine g_ishl B dX4_takeGround_23 ?_
    refine g_ist4 B dX4_takeGround_24 (by decide) rfl ?_
    refine g_aload_n B dX4_takeGround_26 rfl ?_
    refine g_getr B ci_X3 (by first | rfl | assumption) rfl (by decide) fl_X4_134 dX4_takeGround_27 ?_
    refine g_iload_n B dX4_takeGround_30 rfl ?_
    refine g_iald B (by first | rfl | assumption) c rfl (by first | decide | omega | assumption) (by decide) dX4_takeGround_31 ?_
    rw [d15]
    refine g_aload_n B dX4_takeGround_32 rfl ?_
    refine g_getr B ci_X3 (by first | rfl | assumption) rfl (by decide) fl_X4_137 dX4_takeGround_33 ?_
    refine g_iload_n B dX4_takeGround_36 rfl ?_
    refine g_iald B (by first | rfl | assumption) c rfl (by first | decide | omega | assumption) (by decide) dX4_takeGround_37 ?_
    rw [d16]
    refine g_ior B dX4_takeGround_38 ?_
    refine g_iload B dX4_takeGround_39 rfl ?_
    refine g_iand B dX4_takeGround_41 ?_
    refine g_if_eq B 55 dX4_takeGround_42 (by decide) (fun h42 => ?_) (fun h42 => ?_)
    · refine g_iload_n B dX4_takeGround_55 rfl ?_
      refine g_if_eq B 73 dX4_takeGround_56 (by decide) (fun h56 => ?_) (fun h56 => ?_)
      · rw [bI_eq0] at h56
        refine g_aload_n B dX4_takeGround_73 rfl ?_
        refine g_getr B ci_X3 (by first | rfl | assumption) rfl (by decide) fl_X4_134 dX4_takeGround_74 ?_
        refine g_iload_n B dX4_takeGround_77 rfl ?_
        refine g_dup2 B dX4_takeGround_78 rfl rfl ?_
        refine g_iald B (by first | rfl | assumption) c rfl (by first | decide | omega | assumption) (by decide) dX4_takeGround_79 ?_
        rw [d15]
        refine g_iload B dX4_takeGround_80 rfl ?_
        refine g_ior B dX4_takeGround_82 ?_
        refine g_iast B (by first | rfl | assumption) c rfl (by first | decide | omega | assumption) (by decide) dX4_takeGround_83 ?_
        refine g_iconst B (v := 1) dX4_takeGround_84 (by decide) ?_
        exact g_iret B E rfl dX4_takeGround_85 (Or.inr ⟨_, by rw [tg, if_neg (by omega), if_pos h42, if_neg (by rw [h56]; decide)], rfl, hD.w2, fun y => w2_cell _ _ (by decide), frC_w2 (Or.inl (by decide)) frC_0⟩)
      · rw [bI_ne0] at h56
        refine g_aload_n B dX4_takeGround_59 rfl ?_
        refine g_getr B ci_X3 (by first | rfl | assumption) rfl (by decide) fl_X4_137 dX4_takeGround_60 ?_
        refine g_iload_n B dX4_takeGround_63 rfl ?_
        refine g_dup2 B dX4_takeGround_64 rfl rfl ?_
        refine g_iald B (by first | rfl | assumption) c rfl (by first | decide | omega | assumption) (by decide) dX4_takeGround_65 ?_
        rw [d16]
        refine g_iload B dX4_takeGround_66 rfl ?_
        refine g_ior B dX4_takeGround_68 ?_
        refine g_iast B (by first | rfl | assumption) c rfl (by first | decide | omega | assumption) (by decide) dX4_takeGround_69 ?_
        refine g_goto B 84 dX4_takeGround_70 (by decide) ?_
        refine g_iconst B (v := 1) dX4_takeGround_84 (by decide) ?_
        exact g_iret B E rfl dX4_takeGround_85 (Or.inr ⟨_, by rw [tg, if_neg (by omega), if_pos h42, if_pos h56], rfl, hD.w2, fun y => w2_cell _ _ (by decide), frC_w2 (Or.inl (by decide)) frC_0⟩)
    · refine g_aload_n B dX4_takeGround_45 rfl ?_
      refine g_iconst B (v := 4) dX4_takeGround_46 (by decide) ?_
      refine g_aload_n B dX4_takeGround_47 rfl ?_
      refine g_geti B ci_X4 (by first | rfl | assumption) rfl (by decide) fl_X4_113 dX4_takeGround_48 ?_
      rw [h5]
      refine g_callVI B (ct_X4_refuse _ _) (by first | rfl | assumption) rfl ml_X4_78 mm_X4_refuse rfl rfl (Nat.le_of_ble_eq_true rfl) dX4_takeGround_51 (by decide) ?_
      rintro _ _ ⟨rfl, rfl⟩
      exact g_iret B E rfl dX4_takeGround_54 (Or.inl ⟨4, by rw [tg, if_neg (by omega), if_neg h42], rfl, rfl, rfl, frT_w2 (by decide) (by decide) (frT_w2 (by decide) (by decide) frT_0)⟩)
  · have hge := nlt_le (a := v) (b := c) (by omega) (by omega) h5_
    refine g_aload_n B dX4_takeGround_8 rfl ?_
    refine g_iconst B (v := 3) dX4_takeGround_9 (by decide) ?_
    refine g_aload_n B dX4_takeGround_10 rfl ?_
    refine g_geti B ci_X4 (by first | rfl | assumption) rfl (by decide) fl_X4_113 dX4_takeGround_11 ?_
    rw [h5]
    refine g_callVI B (ct_X4_refuse _ _) (by first | rfl | assumption) rfl ml_X4_78 mm_X4_refuse rfl rfl (Nat.le_of_ble_eq_true rfl) dX4_takeGround_14 (by decide) ?_
    rintro _ _ ⟨rfl, rfl⟩
    exact g_iret B E rfl dX4_takeGround_17 (Or.inl ⟨3, by rw [tg, if_pos hge], rfl, rfl, rfl, frT_w2 (by decide) (by decide) (frT_w2 (by decide) (by decide) frT_0)⟩)
set_option maxHeartbeats 4000000 in
set_option maxRecDepth 100000 in
theorem ct_X4_readGrounds {I D : Wo} {b : Nat → Nat} {q p c : Nat} (hT : TB I b q) (hp : I 39 6 = nI p) (hpq : p ≤ q) (hD : DE I D) (hc : c < 8) : Ct yX4_readGrounds cX4_readGrounds 5 (some .boolean) 7 150 [.ref 39, .ref 10, .int (nI c)] I (pI (fun r u => CR I r u (thenS b q (gr b q c 161 p false D)))) := by
  obtain ⟨hb, hq, hq6⟩ := id hT
  refine ct_of RX4 rfl (by decide) (Nat.le_of_ble_eq_true rfl) (fun X B E => ?_)
  show GW X 5 0 [some (.ref 39), some (.ref 10), some (.int (nI c)), none, none] [] _
  refine g_iconst B (v := 0) dX4_readGrounds_0 (by decide) ?_
  refine g_istn3 B dX4_readGrounds_1 (by decide) rfl ?_
  refine g_iconst B (v := 0) dX4_readGrounds_2 (by decide) ?_
  refine g_ist4 B dX4_readGrounds_3 (by decide) rfl ?_
  have L5 : ∀ i, i ≤ 161 → ∀ (W : Wo) (un : Bool) (p2 : Nat) (D2 : Wo), W 39 6 = nI p2 → p2 ≤ q → q < p2 + (161 - i) → DE W D2 → W 39 2 = I 39 2 → W 39 3 = I 39 3 → FrC I W → thenS b q (gr b q c (161 - i) p2 un D2) = thenS b q (gr b q c 161 p false D) → GW X 5 5 [some (.ref 39), some (.ref 10), some (.int (nI c)), some (.int (bI un)), some (.int (nI i))] [] W := by
    refine loopN 161 (fun i hi ih W un p2 D2 hp2 hpq2 hfu hD2 w2' w3' hFW hR => ?_)
    have hTW := hT.frC hFW
    have hK4 := tK_le b q p2
    have hS1 := tS_le b hpq2
    have hE1 := tE_ge b hpq2
    refine g_iload B dX4_readGrounds_5 rfl ?_
    refine g_sipush B (v := 160) dX4_readGrounds_7 (by decide) ?_
    refine g_icmp_gt B 89 dX4_readGrounds_10 (by decide) (fun h10 => ?_) (fun h10 => ?_)
    · exfalso
      have := lt_lt (a := 160) (b := i) (by decide) (by omega) h10
      omega
    · have hlt : i < 161 := by have := nlt_le (a := 160) (b := i) (by decide) (by omega) h10; omega
      refine g_aload_n B dX4_readGrounds_13 rfl ?_
      refine g_callVI B (ct_X4_readToken hTW hp2 hpq2) (by first | rfl | assumption) rfl ml_X4_40 mm_X4_readToken rfl rfl (Nat.le_of_ble_eq_true rfl) dX4_readGrounds_14 (by decide) ?_
      rintro _ _ (⟨hB, rfl, f2, f3, hF⟩ | ⟨hB, rfl, g4, g5, g6, g7, g2, g3, hF⟩)
      · refine g_if_ne B 22 dX4_readGrounds_17 (by decide) (fun h17 => ?_) (fun h17 => ?_)
        · exact absurd rfl h17
        · refine g_iconst B (v := 0) dX4_readGrounds_20 (by decide) ?_
          exact g_iret B E rfl dX4_readGrounds_21 (by rw [← hR, show 161 - i = (161 - (i + 1)) + 1 by omega, gr, if_pos hB]; exact ⟨rfl, f2, f3, hFW.trans hF.c⟩)
      · refine g_if_ne B 22 dX4_readGrounds_17 (by decide) (fun h17 => ?_) (fun h17 => ?_)
        · refine g_aload_n B dX4_readGrounds_22 rfl ?_
          refine g_geti B ci_X4 (by first | rfl | assumption) rfl (by decide) fl_X4_44 dX4_readGrounds_23 ?_
          rw [g4]
          refine g_iconst B (v := 2) dX4_readGrounds_26 (by decide) ?_
          refine g_icmp_ne B 42 dX4_readGrounds_27 (by decide) (fun h27 => ?_) (fun h27 => ?_)
          · rw [show (2 : Int32) = nI 2 from rfl, nI_eq (by omega) (by decide)] at h27
            refine g_iload_n B dX4_readGrounds_42 rfl ?_
            refine g_if_ne B 60 dX4_readGrounds_43 (by decide) (fun h43 => ?_) (fun h43 => ?_)
            · have h43b := (bI_ne0 un).mp h43
              refine g_aload_n B dX4_readGrounds_60 rfl ?_
              refine g_geti B ci_X4 (by first | rfl | assumption) rfl (by decide) fl_X4_44 dX4_readGrounds_61 ?_
              rw [g4]
              refine g_iconst B (v := 3) dX4_readGrounds_64 (by decide) ?_
              refine g_icmp_ne B 89 dX4_readGrounds_65 (by decide) (fun h65 => ?_) (fun h65 => ?_)
              · rw [show (3 : Int32) = nI 3 from rfl, nI_eq (by omega) (by decide)] at h65
                refine g_aload_n B dX4_readGrounds_89 rfl ?_
                refine g_iconst B (v := 2) dX4_readGrounds_90 (by decide) ?_
                refine g_aload_n B dX4_readGrounds_91 rfl ?_
                refine g_geti B ci_X4 (by first | rfl | assumption) rfl (by decide) fl_X4_113 dX4_readGrounds_92 ?_
                rw [g5]
                refine g_callVI B (ct_X4_refuse _ _) (by first | rfl | assumption) rfl ml_X4_78 mm_X4_refuse rfl rfl (Nat.le_of_ble_eq_true rfl) dX4_readGrounds_95 (by decide) ?_
                rintro _ _ ⟨rfl, rfl⟩
                exact g_iret B E rfl dX4_readGrounds_98 (by rw [← hR, show 161 - i = (161 - (i + 1)) + 1 by omega, gr_end hB h27 h65 (Or.inl h43b)]; exact ⟨rfl, rfl, rfl, hFW.trans (frC_w2 (Or.inr ⟨rfl, by decide⟩) (frC_w2 (Or.inr ⟨rfl, by decide⟩) hF.c))⟩)
              · rw [show (3 : Int32) = nI 3 from rfl, nI_eq (by omega) (by decide)] at h65
                refine g_iload_n B dX4_readGrounds_68 rfl ?_
                refine g_if_eq B 81 dX4_readGrounds_69 (by decide) (fun h69 => ?_) (fun h69 => ?_)
                · rw [bI_eq0] at h69
                  refine g_iconst B (v := 1) dX4_readGrounds_81 (by decide) ?_
                  exact g_iret B E rfl dX4_readGrounds_82 (by rw [← hR, show 161 - i = (161 - (i + 1)) + 1 by omega, gr_stop hB h65 (Or.inl h69)]; exact ⟨rfl, g6, g2.trans w2', g3.trans w3', hF.de hD2, hFW.trans hF.c⟩)
                · rw [bI_ne0] at h69
                  refine g_aload_n B dX4_readGrounds_72 rfl ?_
                  refine g_getr B ci_X3 (by first | rfl | assumption) rfl (by decide) fl_X4_137 dX4_readGrounds_73 ?_
                  refine g_iload_n B dX4_readGrounds_76 rfl ?_
                  refine g_iald B (by first | rfl | assumption) c rfl (by first | decide | omega | assumption) (by decide) dX4_readGrounds_77 ?_
                  rw [(hF.de hD2).1 16 c (by decide) (by decide)]
                  refine g_if_eq B 89 dX4_readGrounds_78 (by decide) (fun h78 => ?_) (fun h78 => ?_)
                  · refine g_aload_n B dX4_readGrounds_89 rfl ?_
                    refine g_iconst B (v := 2) dX4_readGrounds_90 (by decide) ?_
                    refine g_aload_n B dX4_readGrounds_91 rfl ?_
                    refine g_geti B ci_X4 (by first | rfl | assumption) rfl (by decide) fl_X4_113 dX4_readGrounds_92 ?_
                    rw [g5]
                    refine g_callVI B (ct_X4_refuse _ _) (by first | rfl | assumption) rfl ml_X4_78 mm_X4_refuse rfl rfl (Nat.le_of_ble_eq_true rfl) dX4_readGrounds_95 (by decide) ?_
                    rintro _ _ ⟨rfl, rfl⟩
                    exact g_iret B E rfl dX4_readGrounds_98 (by rw [← hR, show 161 - i = (161 - (i + 1)) + 1 by omega, gr_stop0 hB h65 h69 h78]; exact ⟨rfl, rfl, rfl, hFW.trans (frC_w2 (Or.inr ⟨rfl, by decide⟩) (frC_w2 (Or.inr ⟨rfl, by decide⟩) hF.c))⟩)
                  · refine g_iconst B (v := 1) dX4_readGrounds_81 (by decide) ?_
                    exact g_iret B E rfl dX4_readGrounds_82 (by rw [← hR, show 161 - i = (161 - (i + 1)) + 1 by omega, gr_stop hB h65 (Or.inr h78)]; exact ⟨rfl, g6, g2.trans w2', g3.trans w3', hF.de hD2, hFW.trans hF.c⟩)
            · have h43b := (bI_eq0 un).mp h43
              refine g_aload_n B dX4_readGrounds_46 rfl ?_
              refine g_ldcS B (i := 7) (by decide) dX4_readGrounds_47 ?_
              refine g_callVI B (ct_X4_isWord (i := 7) (hTW.frC hF.c) (by decide) g4 hK4 g5 g6 hE1.1 hE1.2) (by first | rfl | assumption) rfl ml_X4_84 mm_X4_isWord rfl rfl (Nat.le_of_ble_eq_true rfl) dX4_readGrounds_49 (by decide) ?_
              rintro _ _ ⟨rfl, rfl⟩
              refine g_if_eq B 60 dX4_readGrounds_52 (by decide) (fun h52 => ?_) (fun h52 => ?_)
              · rw [bI_eq0] at h52
                simp only [Bool.and_eq_false_imp, decide_eq_true_eq] at h52
                refine g_aload_n B dX4_readGrounds_60 rfl ?_
                refine g_geti B ci_X4 (by first | rfl | assumption) rfl (by decide) fl_X4_44 dX4_readGrounds_61 ?_
                rw [g4]
                refine g_iconst B (v := 3) dX4_readGrounds_64 (by decide) ?_
                refine g_icmp_ne B 89 dX4_readGrounds_65 (by decide) (fun h65 => ?_) (fun h65 => ?_)
                · rw [show (3 : Int32) = nI 3 from rfl, nI_eq (by omega) (by decide)] at h65
                  refine g_aload_n B dX4_readGrounds_89 rfl ?_
                  refine g_iconst B (v := 2) dX4_readGrounds_90 (by decide) ?_
                  refine g_aload_n B dX4_readGrounds_91 rfl ?_
                  refine g_geti B ci_X4 (by first | rfl | assumption) rfl (by decide) fl_X4_113 dX4_readGrounds_92 ?_
                  rw [g5]
                  refine g_callVI B (ct_X4_refuse _ _) (by first | rfl | assumption) rfl ml_X4_78 mm_X4_refuse rfl rfl (Nat.le_of_ble_eq_true rfl) dX4_readGrounds_95 (by decide) ?_
                  rintro _ _ ⟨rfl, rfl⟩
                  exact g_iret B E rfl dX4_readGrounds_98 (by rw [← hR, show 161 - i = (161 - (i + 1)) + 1 by omega, gr_end hB h27 h65 (Or.inr h52)]; exact ⟨rfl, rfl, rfl, hFW.trans (frC_w2 (Or.inr ⟨rfl, by decide⟩) (frC_w2 (Or.inr ⟨rfl, by decide⟩) hF.c))⟩)
                · rw [show (3 : Int32) = nI 3 from rfl, nI_eq (by omega) (by decide)] at h65
                  refine g_iload_n B dX4_readGrounds_68 rfl ?_
                  refine g_if_eq B 81 dX4_readGrounds_69 (by decide) (fun h69 => ?_) (fun h69 => ?_)
                  · rw [bI_eq0] at h69
                    refine g_iconst B (v := 1) dX4_readGrounds_81 (by decide) ?_
                    exact g_iret B E rfl dX4_readGrounds_82 (by rw [← hR, show 161 - i = (161 - (i + 1)) + 1 by omega, gr_stop hB h65 (Or.inl h69)]; exact ⟨rfl, g6, g2.trans w2', g3.trans w3', hF.de hD2, hFW.trans hF.c⟩)
                  · rw [bI_ne0] at h69
                    refine g_aload_n B dX4_readGrounds_72 rfl ?_
                    refine g_getr B ci_X3 (by first | rfl | assumption) rfl (by decide) fl_X4_137 dX4_readGrounds_73 ?_
                    refine g_iload_n B dX4_readGrounds_76 rfl ?_
                    refine g_iald B (by first | rfl | assumption) c rfl (by first | decide | omega | assumption) (by decide) dX4_readGrounds_77 ?_
                    rw [(hF.de hD2).1 16 c (by decide) (by decide)]
                    refine g_if_eq B 89 dX4_readGrounds_78 (by decide) (fun h78 => ?_) (fun h78 => ?_)
                    · refine g_aload_n B dX4_readGrounds_89 rfl ?_
                      refine g_iconst B (v := 2) dX4_readGrounds_90 (by decide) ?_
                      refine g_aload_n B dX4_readGrounds_91 rfl ?_
                      refine g_geti B ci_X4 (by first | rfl | assumption) rfl (by decide) fl_X4_113 dX4_readGrounds_92 ?_
                      rw [g5]
                      refine g_callVI B (ct_X4_refuse _ _) (by first | rfl | assumption) rfl ml_X4_78 mm_X4_refuse rfl rfl (Nat.le_of_ble_eq_true rfl) dX4_readGrounds_95 (by decide) ?_
                      rintro _ _ ⟨rfl, rfl⟩
                      exact g_iret B E rfl dX4_readGrounds_98 (by rw [← hR, show 161 - i = (161 - (i + 1)) + 1 by omega, gr_stop0 hB h65 h69 h78]; exact ⟨rfl, rfl, rfl, hFW.trans (frC_w2 (Or.inr ⟨rfl, by decide⟩) (frC_w2 (Or.inr ⟨rfl, by decide⟩) hF.c))⟩)
                    · refine g_iconst B (v := 1) dX4_readGrounds_81 (by decide) ?_
                      exact g_iret B E rfl dX4_readGrounds_82 (by rw [← hR, show 161 - i = (161 - (i + 1)) + 1 by omega, gr_stop hB h65 (Or.inr h78)]; exact ⟨rfl, g6, g2.trans w2', g3.trans w3', hF.de hD2, hFW.trans hF.c⟩)
              · rw [bI_ne0] at h52
                simp only [Bool.and_eq_true, decide_eq_true_eq] at h52
                refine g_iconst B (v := 1) dX4_readGrounds_55 (by decide) ?_
                refine g_istn3 B dX4_readGrounds_56 (by decide) rfl ?_
                refine g_goto B 83 dX4_readGrounds_57 (by decide) ?_
                refine g_inc4 B dX4_readGrounds_83 rfl (inc1 _) (by decide) rfl ?_
                refine g_goto B 5 dX4_readGrounds_86 (by decide) ?_
                rw [bI_eq0] at h43
                exact ih hlt _ true _ D2 g6 hE1.2 (by have := tE_gt (b := b) (q := q) (p := p2) (by omega); omega) (hF.de hD2) (g2.trans w2') (g3.trans w3') (hFW.trans hF.c) (by rw [← hR, show 161 - i = (161 - (i + 1)) + 1 by omega, gr, if_neg (by rw [hB]; decide), if_neg h27, if_pos ⟨h43, h52.1⟩, if_pos h52.2])
          · rw [show (2 : Int32) = nI 2 from rfl, nI_eq (by omega) (by decide)] at h27
            refine g_aload_n B dX4_readGrounds_30 rfl ?_
            refine g_aload_n B dX4_readGrounds_31 rfl ?_
            refine g_iload_n B dX4_readGrounds_32 rfl ?_
            refine g_iload_n B dX4_readGrounds_33 rfl ?_
            refine g_callVI B (ct_X4_takeGround (hF.de hD2) hc (g7 h27) (tV_le h27 hB) g5 un) (by first | rfl | assumption) rfl ml_X4_143 mm_X4_takeGround rfl rfl (Nat.le_of_ble_eq_true rfl) dX4_readGrounds_34 (by decide) ?_
            rintro _ _ (⟨k3, htg, rfl, e2, e3, hF3⟩ | ⟨D3, htg, rfl, hD3, hu39, hF3⟩)
            · refine g_if_ne B 83 dX4_readGrounds_37 (by decide) (fun h37 => ?_) (fun h37 => ?_)
              · exact absurd rfl h37
              · refine g_iconst B (v := 0) dX4_readGrounds_40 (by decide) ?_
                exact g_iret B E rfl dX4_readGrounds_41 (by rw [← hR, show 161 - i = (161 - (i + 1)) + 1 by omega, gr, if_neg (by rw [hB]; decide), if_pos h27, htg]; exact ⟨rfl, e2, e3, hFW.trans (hF.c.trans hF3.c)⟩)
            · refine g_if_ne B 83 dX4_readGrounds_37 (by decide) (fun h37 => ?_) (fun h37 => ?_)
              · refine g_inc4 B dX4_readGrounds_83 rfl (inc1 _) (by decide) rfl ?_
                refine g_goto B 5 dX4_readGrounds_86 (by decide) ?_
                exact ih hlt _ un _ D3 (by rw [hu39 6]; exact g6) hE1.2 (by have := tE_gt (b := b) (q := q) (p := p2) (by omega); omega) hD3 (by rw [hu39 2, g2]; exact w2') (by rw [hu39 3, g3]; exact w3') (hFW.trans (hF.c.trans hF3)) (by rw [← hR, show 161 - i = (161 - (i + 1)) + 1 by omega, gr, if_neg (by rw [hB]; decide), if_pos h27, htg])
              · exact absurd h37 (by decide)
        · exact absurd h17 (by decide)
  exact L5 0 (Nat.zero_le _) _ false p D hp hpq (by omega) hD rfl rfl frC_0 rfl
set_option maxHeartbeats 4000000 in
set_option maxRecDepth 100000 in
theorem ct_X4_readClaim {I D : Wo} {b : Nat → Nat} {q p s n : Nat} (hT : TB I b q) (hp : I 39 6 = nI p) (hpq : p ≤ q) (hD : DE I D) (h5 : I 39 5 = nI s) (hn : D 10 9 = nI n) (hn8 : n ≤ 8) (sd : Int32) : Ct yX4_readClaim cX4_readClaim 4 (some .boolean) 8 174 [.ref 39, .ref 10, .int sd] I (pI (fun r u => CR I r u (thenS b q (bCl b q sd n s p D)))) := by
  obtain ⟨hb, hq, hq6⟩ := id hT
  have hn2 : I 10 9 = nI n := (hD.1 10 9 (by decide) (by decide)).trans hn
  have hE1 := tE_ge b hpq
  have hE2 := tE_ge b hE1.2
  have hE3 := tE_ge b hE2.2
  refine ct_of RX4 rfl (by decide) (Nat.le_of_ble_eq_true rfl) (fun X B E => ?_)
  show GW X 4 0 [some (.ref 39), some (.ref 10), some (.int sd), none] [] _
  refine g_aload_n B dX4_readClaim_0 rfl ?_
  refine g_geti B ci_X3 (by first | rfl | assumption) rfl (by decide) fl_X4_55 dX4_readClaim_1 ?_
  rw [hn2]
  refine g_istn3 B dX4_readClaim_4 (by decide) rfl ?_
  refine g_iload_n B dX4_readClaim_5 rfl ?_
  refine g_bipush B (v := 8) dX4_readClaim_6 (by decide) ?_
  refine g_icmp_lt B 21 dX4_readClaim_8 (by decide) (fun h8 => ?_) (fun h8 => ?_)
  · have hlt := lt_lt (a := n) (b := 8) (by omega) (by decide) h8
    have hnlt : ¬ 8 ≤ n := by omega
    refine g_aload_n B dX4_readClaim_21 rfl ?_
    refine g_iconst B (v := 0) dX4_readClaim_22 (by decide) ?_
    refine g_bipush B (v := 9) dX4_readClaim_23 (by decide) ?_
    refine g_callVI B (ct_X4_readNumber hT hp hpq 0 9) (by first | rfl | assumption) rfl ml_X4_116 mm_X4_readNumber rfl rfl (Nat.le_of_ble_eq_true rfl) dX4_readClaim_25 (by decide) ?_
    rintro _ _ (⟨e, hN1, rfl, e2, e3, hF1⟩ | ⟨v1, hN1, v99_1, vw1, rfl, a7_1, a6_1, a5_1, a2_1, a3_1, hF1⟩)
    · refine g_if_ne B 33 dX4_readClaim_28 (by decide) (fun h28 => ?_) (fun h28 => ?_)
      · exact absurd rfl h28
      · refine g_iconst B (v := 0) dX4_readClaim_31 (by decide) ?_
        exact g_iret B E rfl dX4_readClaim_32 (by rw [bCl, if_neg hnlt, hN1]; exact ⟨rfl, e2, e3, hF1.c⟩)
    · refine g_if_ne B 33 dX4_readClaim_28 (by decide) (fun h28 => ?_) (fun h28 => ?_)
      · refine g_aload_n B dX4_readClaim_33 rfl ?_
        refine g_getr B ci_X3 (by first | rfl | assumption) rfl (by decide) fl_X4_119 dX4_readClaim_34 ?_
        refine g_iload_n B dX4_readClaim_37 rfl ?_
        refine g_aload_n B dX4_readClaim_38 rfl ?_
        refine g_geti B ci_X4 (by first | rfl | assumption) rfl (by decide) fl_X4_122 dX4_readClaim_39 ?_
        rw [a7_1]
        refine g_iast B (by first | rfl | assumption) n rfl (by first | decide | omega | assumption) (by decide) dX4_readClaim_42 ?_
        refine g_aload_n B dX4_readClaim_43 rfl ?_
        refine g_aload_n B dX4_readClaim_44 rfl ?_
        refine g_geti B ci_X4 (by first | rfl | assumption) rfl (by decide) fl_X4_122 dX4_readClaim_45 ?_
        rw [w2_cell _ _ (show 39 ≠ 12 by decide), a7_1]
        refine g_bipush B (v := 9) dX4_readClaim_48 (by decide) ?_
        refine g_callVI B (ct_X4_readNumber (p := tE b q p) ((hT.frC hF1.c).frC (frC_w2 (Or.inl (by decide)) frC_0)) (by rw [w2_cell _ _ (show 39 ≠ 12 by decide)]; exact a6_1) hE1.2 (nI v1) 9) (by first | rfl | assumption) rfl ml_X4_116 mm_X4_readNumber rfl rfl (Nat.le_of_ble_eq_true rfl) dX4_readClaim_50 (by decide) ?_
        rintro _ _ (⟨e, hN2, rfl, e2, e3, hF2⟩ | ⟨v2, hN2, v99_2, vw2, rfl, a7_2, a6_2, a5_2, a2_2, a3_2, hF2⟩)
        · refine g_if_ne B 58 dX4_readClaim_53 (by decide) (fun h53 => ?_) (fun h53 => ?_)
          · exact absurd rfl h53
          · refine g_iconst B (v := 0) dX4_readClaim_56 (by decide) ?_
            exact g_iret B E rfl dX4_readClaim_57 (by rw [bCl, if_neg hnlt, hN1]; simp only [hN2]; exact ⟨rfl, e2, e3, hF1.c.trans ((frC_w2 (Or.inl (by decide)) frC_0).trans hF2.c)⟩)
        · refine g_if_ne B 58 dX4_readClaim_53 (by decide) (fun h53 => ?_) (fun h53 => ?_)
          · refine g_aload_n B dX4_readClaim_58 rfl ?_
            refine g_getr B ci_X3 (by first | rfl | assumption) rfl (by decide) fl_X4_125 dX4_readClaim_59 ?_
            refine g_iload_n B dX4_readClaim_62 rfl ?_
            refine g_aload_n B dX4_readClaim_63 rfl ?_
            refine g_geti B ci_X4 (by first | rfl | assumption) rfl (by decide) fl_X4_122 dX4_readClaim_64 ?_
            rw [a7_2]
            refine g_iast B (by first | rfl | assumption) n rfl (by first | decide | omega | assumption) (by decide) dX4_readClaim_67 ?_
            refine g_aload_n B dX4_readClaim_68 rfl ?_
            refine g_iconst B (v := 0) dX4_readClaim_69 (by decide) ?_
            refine g_bipush B (v := 9) dX4_readClaim_70 (by decide) ?_
            refine g_callVI B (ct_X4_readNumber (p := tE b q (tE b q p)) (((((hT.frC hF1.c).frC (frC_w2 (Or.inl (by decide)) frC_0))).frC hF2.c).frC (frC_w2 (Or.inl (by decide)) frC_0)) (by rw [w2_cell _ _ (show 39 ≠ 13 by decide)]; exact a6_2) hE2.2 0 9) (by first | rfl | assumption) rfl ml_X4_116 mm_X4_readNumber rfl rfl (Nat.le_of_ble_eq_true rfl) dX4_readClaim_72 (by decide) ?_
            rintro _ u3 (⟨e, hN3, rfl, e2, e3, hF3⟩ | ⟨v3, hN3, v99_3, vw3, rfl, a7_3, a6_3, a5_3, a2_3, a3_3, hF3⟩)
            · refine g_if_ne B 80 dX4_readClaim_75 (by decide) (fun h75 => ?_) (fun h75 => ?_)
              · exact absurd rfl h75
              · refine g_iconst B (v := 0) dX4_readClaim_78 (by decide) ?_
                exact g_iret B E rfl dX4_readClaim_79 (by rw [bCl, if_neg hnlt, hN1]; simp only [hN2, hN3]; exact ⟨rfl, e2, e3, hF1.c.trans ((frC_w2 (Or.inl (by decide)) frC_0).trans (hF2.c.trans ((frC_w2 (Or.inl (by decide)) frC_0).trans hF3.c)))⟩)
            · refine g_if_ne B 80 dX4_readClaim_75 (by decide) (fun h75 => ?_) (fun h75 => ?_)
              · refine g_aload_n B dX4_readClaim_80 rfl ?_
                refine g_getr B ci_X3 (by first | rfl | assumption) rfl (by decide) fl_X4_128 dX4_readClaim_81 ?_
                refine g_iload_n B dX4_readClaim_84 rfl ?_
                refine g_aload_n B dX4_readClaim_85 rfl ?_
                refine g_geti B ci_X4 (by first | rfl | assumption) rfl (by decide) fl_X4_122 dX4_readClaim_86 ?_
                rw [a7_3]
                refine g_iast B (by first | rfl | assumption) n rfl (by first | decide | omega | assumption) (by decide) dX4_readClaim_89 ?_
                generalize hu9 : w2 _ 14 n (nI v3) = u9
                refine g_aload_n B dX4_readClaim_90 rfl ?_
                refine g_getr B ci_X3 (by first | rfl | assumption) rfl (by decide) fl_X4_131 dX4_readClaim_91 ?_
                refine g_iload_n B dX4_readClaim_94 rfl ?_
                refine g_iload_n B dX4_readClaim_95 rfl ?_
                refine g_iast B (by first | rfl | assumption) n rfl (by first | decide | omega | assumption) (by decide) dX4_readClaim_96 ?_
                refine g_aload_n B dX4_readClaim_97 rfl ?_
                refine g_getr B ci_X3 (by first | rfl | assumption) rfl (by decide) fl_X4_134 dX4_readClaim_98 ?_
                refine g_iload_n B dX4_readClaim_101 rfl ?_
                refine g_iconst B (v := 0) dX4_readClaim_102 (by decide) ?_
                refine g_iast B (by first | rfl | assumption) n rfl (by first | decide | omega | assumption) (by decide) dX4_readClaim_103 ?_
                refine g_aload_n B dX4_readClaim_104 rfl ?_
                refine g_getr B ci_X3 (by first | rfl | assumption) rfl (by decide) fl_X4_137 dX4_readClaim_105 ?_
                refine g_iload_n B dX4_readClaim_108 rfl ?_
                refine g_iconst B (v := 0) dX4_readClaim_109 (by decide) ?_
                refine g_iast B (by first | rfl | assumption) n rfl (by first | decide | omega | assumption) (by decide) dX4_readClaim_110 ?_
                refine g_aload_n B dX4_readClaim_111 rfl ?_
                refine g_dup B dX4_readClaim_112 rfl ?_
                refine g_geti B ci_X3 (by first | rfl | assumption) rfl (by decide) fl_X4_55 dX4_readClaim_113 ?_
                have hD9 : DE u9 (w2 (w2 (w2 D 12 n (nI v1)) 13 n (nI v2)) 14 n (nI v3)) := by
                  rw [← hu9]
                  exact (hF3.de (hF2.de (hF1.de hD).w2).w2).w2
                have hF9 : FrC I u9 := by
                  rw [← hu9]
                  exact frC_w2 (Or.inl (by decide)) (hF1.c.trans ((frC_w2 (Or.inl (by decide)) frC_0).trans (hF2.c.trans ((frC_w2 (Or.inl (by decide)) frC_0).trans hF3.c))))
                have h939 : ∀ y, u9 39 y = u3 39 y := fun y => by rw [← hu9]; exact w2_cell _ _ (show 39 ≠ 14 by decide)
                rw [show w2 (w2 (w2 u9 11 n sd) 15 n 0) 16 n 0 10 9 = nI n from (hD9.1 10 9 (by decide) (by decide)).trans hn]
                refine g_iconst B (v := 1) dX4_readClaim_116 (by decide) ?_
                refine g_iadd B dX4_readClaim_117 ?_
                refine g_eqi (nI (n + 1)) (nI_1 n) ?_
                refine g_put B ci_X3 (by first | rfl | assumption) rfl (by decide) fl_X4_55 rfl rfl rfl dX4_readClaim_118 ?_
                have hF10 : FrC I (w2 (w2 (w2 (w2 u9 11 n sd) 15 n 0) 16 n 0) 10 9 (nI (n + 1))) := frC_w2 (Or.inl (by decide)) (frC_w2 (Or.inl (by decide)) (frC_w2 (Or.inl (by decide)) (frC_w2 (Or.inl (by decide)) hF9)))
                refine g_aload_n B dX4_readClaim_121 rfl ?_
                refine g_aload_n B dX4_readClaim_122 rfl ?_
                refine g_iload_n B dX4_readClaim_123 rfl ?_
                refine g_callVI B (ct_X4_readGrounds (c := n) (p := tE b q (tE b q (tE b q p))) (D := cD sd n v1 v2 v3 D) (hT.frC hF10) ((h939 6).trans a6_3) hE3.2 hD9.w2.w2.w2.w2 hlt) (by first | rfl | assumption) rfl ml_X4_140 mm_X4_readGrounds rfl rfl (Nat.le_of_ble_eq_true rfl) dX4_readClaim_124 (by decide) ?_
                intro r u hu
                exact g_iret B E (cr_nar hu) dX4_readClaim_127 (by rw [bCl, if_neg hnlt, hN1]; simp only [hN2, hN3]; exact hu.up hF10 ((h939 2).trans (a2_3.trans (a2_2.trans a2_1))) ((h939 3).trans (a3_3.trans (a3_2.trans a3_1))))
              · exact absurd h75 (by decide)
          · exact absurd h53 (by decide)
      · exact absurd h28 (by decide)
  · have hge := nlt_le (a := n) (b := 8) (by omega) (by decide) h8
    refine g_aload_n B dX4_readClaim_11 rfl ?_
    refine g_iconst B (v := 5) dX4_readClaim_12 (by decide) ?_
    refine g_aload_n B dX4_readClaim_13 rfl ?_
    refine g_geti B ci_X4 (by first | rfl | assumption) rfl (by decide) fl_X4_113 dX4_readClaim_14 ?_
    rw [h5]
    refine g_callVI B (ct_X4_refuse _ _) (by first | rfl | assumption) rfl ml_X4_78 mm_X4_refuse rfl rfl (Nat.le_of_ble_eq_true rfl) dX4_readClaim_17 (by decide) ?_
    rintro _ _ ⟨rfl, rfl⟩
    exact g_iret B E rfl dX4_readClaim_20 (by rw [bCl, if_pos hge]; exact ⟨rfl, rfl, rfl, frC_w2 (Or.inr ⟨rfl, by decide⟩) (frC_w2 (Or.inr ⟨rfl, by decide⟩) frC_0)⟩)
set_option maxHeartbeats 4000000 in
set_option maxRecDepth 100000 in
theorem ct_X4_readEnd {I D : Wo} {b : Nat → Nat} {q p s : Nat} (hT : TB I b q) (hp : I 39 6 = nI p) (hpq : p ≤ q) (hD : DE I D) (h5 : I 39 5 = nI s) : Ct yX4_readEnd cX4_readEnd 2 (some .boolean) 3 65 [.ref 39, .ref 10] I (pI (fun r u => CR I r u (thenS b q (bEn b q s p D)))) := by
  obtain ⟨hb, hq, hq6⟩ := id hT
  have hE1 := tE_ge b hpq
  have h39 : I 39 8 = D 39 8 := hD.2.1
  refine ct_of RX4 rfl (by decide) (Nat.le_of_ble_eq_true rfl) (fun X B E => ?_)
  show GW X 2 0 [some (.ref 39), some (.ref 10)] [] _
  refine g_aload_n B dX4_readEnd_0 rfl ?_
  refine g_geti B ci_X4 (by first | rfl | assumption) rfl (by decide) fl_X4_33 dX4_readEnd_1 ?_
  rw [h39]
  refine g_if_eq B 17 dX4_readEnd_4 (by decide) (fun h4 => ?_) (fun h4 => ?_)
  · refine g_aload_n B dX4_readEnd_17 rfl ?_
    refine g_iconst B (v := 0) dX4_readEnd_18 (by decide) ?_
    refine g_bipush B (v := 7) dX4_readEnd_19 (by decide) ?_
    refine g_callVI B (ct_X4_readNumber hT hp hpq 0 7) (by first | rfl | assumption) rfl ml_X4_116 mm_X4_readNumber rfl rfl (Nat.le_of_ble_eq_true rfl) dX4_readEnd_21 (by decide) ?_
    rintro _ _ (⟨e, hN1, rfl, e2, e3, hF1⟩ | ⟨v1, hN1, v99_1, vw1, rfl, a7_1, a6_1, a5_1, a2_1, a3_1, hF1⟩)
    · refine g_if_ne B 29 dX4_readEnd_24 (by decide) (fun h24 => ?_) (fun h24 => ?_)
      · exact absurd rfl h24
      · refine g_iconst B (v := 0) dX4_readEnd_27 (by decide) ?_
        exact g_iret B E rfl dX4_readEnd_28 (by rw [bEn, if_neg (fun z => z h4), hN1]; exact ⟨rfl, e2, e3, hF1.c⟩)
    · refine g_if_ne B 29 dX4_readEnd_24 (by decide) (fun h24 => ?_) (fun h24 => ?_)
      · refine g_aload_n B dX4_readEnd_29 rfl ?_
        refine g_aload_n B dX4_readEnd_30 rfl ?_
        refine g_geti B ci_X4 (by first | rfl | assumption) rfl (by decide) fl_X4_122 dX4_readEnd_31 ?_
        rw [a7_1]
        refine g_put B ci_X3 (by first | rfl | assumption) rfl (by decide) fl_X4_58 rfl rfl rfl dX4_readEnd_34 ?_
        refine g_aload_n B dX4_readEnd_37 rfl ?_
        refine g_iconst B (v := 1) dX4_readEnd_38 (by decide) ?_
        refine g_put B ci_X4 (by first | rfl | assumption) rfl (by decide) fl_X4_33 rfl (by first | rfl | decide | exact bI_nar _) (by first | rfl | decide | exact bI_fit _) dX4_readEnd_39 ?_
        generalize hu9 : w2 (w2 _ 10 10 (nI v1)) 39 8 1 = u9
        have hD9 : DE u9 (w2 (w2 D 10 10 (nI v1)) 39 8 1) := by rw [← hu9]; exact (hF1.de hD).w2.w2
        have hF9 : FrC I u9 := by rw [← hu9]; exact frC_w2 (Or.inr ⟨rfl, by decide⟩) (frC_w2 (Or.inl (by decide)) hF1.c)
        have h96 : u9 39 6 = nI (tE b q p) := by rw [← hu9]; exact a6_1
        have h92 : u9 39 2 = I 39 2 := by rw [← hu9]; exact a2_1
        have h93 : u9 39 3 = I 39 3 := by rw [← hu9]; exact a3_1
        refine g_aload_n B dX4_readEnd_42 rfl ?_
        refine g_callVI B (ct_X4_readStop (hT.frC hF9) h96 hE1.2) (by first | rfl | assumption) rfl ml_X4_149 mm_X4_readStop rfl rfl (Nat.le_of_ble_eq_true rfl) dX4_readEnd_43 (by decide) ?_
        rintro _ _ (⟨e, hS1, rfl, e2, e3, hG⟩ | ⟨p9, hS1, rfl, b6, b2, b3, hG⟩)
        · exact g_iret B E rfl dX4_readEnd_46 (by rw [bEn, if_neg (fun z => z h4), hN1]; simp only [thenS, hS1]; exact ⟨rfl, e2, e3, hF9.trans hG.c⟩)
        · exact g_iret B E rfl dX4_readEnd_46 (by rw [bEn, if_neg (fun z => z h4), hN1]; simp only [thenS, hS1]; exact ⟨rfl, b6, b2.trans h92, b3.trans h93, hG.de hD9, hF9.trans hG.c⟩)
      · exact absurd h24 (by decide)
  · refine g_aload_n B dX4_readEnd_7 rfl ?_
    refine g_iconst B (v := 4) dX4_readEnd_8 (by decide) ?_
    refine g_aload_n B dX4_readEnd_9 rfl ?_
    refine g_geti B ci_X4 (by first | rfl | assumption) rfl (by decide) fl_X4_113 dX4_readEnd_10 ?_
    rw [h5]
    refine g_callVI B (ct_X4_refuse _ _) (by first | rfl | assumption) rfl ml_X4_78 mm_X4_refuse rfl rfl (Nat.le_of_ble_eq_true rfl) dX4_readEnd_13 (by decide) ?_
    rintro _ _ ⟨rfl, rfl⟩
    exact g_iret B E rfl dX4_readEnd_16 (by rw [bEn, if_pos h4]; exact ⟨rfl, rfl, rfl, frC_w2 (Or.inr ⟨rfl, by decide⟩) (frC_w2 (Or.inr ⟨rfl, by decide⟩) frC_0)⟩)
set_option maxHeartbeats 4000000 in
set_option maxRecDepth 100000 in
theorem ct_X4_readDay {I D : Wo} {b : Nat → Nat} {q p s : Nat} (hT : TB I b q) (hp : I 39 6 = nI p) (hpq : p ≤ q) (hD : DE I D) (h5 : I 39 5 = nI s) : Ct yX4_readDay cX4_readDay 2 (some .boolean) 3 65 [.ref 39, .ref 10] I (pI (fun r u => CR I r u (thenS b q (bDy b q s p D)))) := by
  obtain ⟨hb, hq, hq6⟩ := id hT
  have hE1 := tE_ge b hpq
  have h39 : I 39 9 = D 39 9 := hD.2.2
  refine ct_of RX4 rfl (by decide) (Nat.le_of_ble_eq_true rfl) (fun X B E => ?_)
  show GW X 2 0 [some (.ref 39), some (.ref 10)] [] _
  refine g_aload_n B dX4_readDay_0 rfl ?_
  refine g_geti B ci_X4 (by first | rfl | assumption) rfl (by decide) fl_X4_37 dX4_readDay_1 ?_
  rw [h39]
  refine g_if_eq B 17 dX4_readDay_4 (by decide) (fun h4 => ?_) (fun h4 => ?_)
  · refine g_aload_n B dX4_readDay_17 rfl ?_
    refine g_iconst B (v := 0) dX4_readDay_18 (by decide) ?_
    refine g_bipush B (v := 9) dX4_readDay_19 (by decide) ?_
    refine g_callVI B (ct_X4_readNumber hT hp hpq 0 9) (by first | rfl | assumption) rfl ml_X4_116 mm_X4_readNumber rfl rfl (Nat.le_of_ble_eq_true rfl) dX4_readDay_21 (by decide) ?_
    rintro _ _ (⟨e, hN1, rfl, e2, e3, hF1⟩ | ⟨v1, hN1, v99_1, vw1, rfl, a7_1, a6_1, a5_1, a2_1, a3_1, hF1⟩)
    · refine g_if_ne B 29 dX4_readDay_24 (by decide) (fun h24 => ?_) (fun h24 => ?_)
      · exact absurd rfl h24
      · refine g_iconst B (v := 0) dX4_readDay_27 (by decide) ?_
        exact g_iret B E rfl dX4_readDay_28 (by rw [bDy, if_neg (fun z => z h4), hN1]; exact ⟨rfl, e2, e3, hF1.c⟩)
    · refine g_if_ne B 29 dX4_readDay_24 (by decide) (fun h24 => ?_) (fun h24 => ?_)
      · refine g_aload_n B dX4_readDay_29 rfl ?_
        refine g_aload_n B dX4_readDay_30 rfl ?_
        refine g_geti B ci_X4 (by first | rfl | assumption) rfl (by decide) fl_X4_122 dX4_readDay_31 ?_
        rw [a7_1]
        refine g_put B ci_X3 (by first | rfl | assumption) rfl (by decide) fl_X4_158 rfl rfl rfl dX4_readDay_34 ?_
        refine g_aload_n B dX4_readDay_37 rfl ?_
        refine g_iconst B (v := 1) dX4_readDay_38 (by decide) ?_
        refine g_put B ci_X4 (by first | rfl | assumption) rfl (by decide) fl_X4_37 rfl (by first | rfl | decide | exact bI_nar _) (by first | rfl | decide | exact bI_fit _) dX4_readDay_39 ?_
        generalize hu9 : w2 (w2 _ 10 11 (nI v1)) 39 9 1 = u9
        have hD9 : DE u9 (w2 (w2 D 10 11 (nI v1)) 39 9 1) := by rw [← hu9]; exact (hF1.de hD).w2.w2
        have hF9 : FrC I u9 := by rw [← hu9]; exact frC_w2 (Or.inr ⟨rfl, by decide⟩) (frC_w2 (Or.inl (by decide)) hF1.c)
        have h96 : u9 39 6 = nI (tE b q p) := by rw [← hu9]; exact a6_1
        have h92 : u9 39 2 = I 39 2 := by rw [← hu9]; exact a2_1
        have h93 : u9 39 3 = I 39 3 := by rw [← hu9]; exact a3_1
        refine g_aload_n B dX4_readDay_42 rfl ?_
        refine g_callVI B (ct_X4_readStop (hT.frC hF9) h96 hE1.2) (by first | rfl | assumption) rfl ml_X4_149 mm_X4_readStop rfl rfl (Nat.le_of_ble_eq_true rfl) dX4_readDay_43 (by decide) ?_
        rintro _ _ (⟨e, hS1, rfl, e2, e3, hG⟩ | ⟨p9, hS1, rfl, b6, b2, b3, hG⟩)
        · exact g_iret B E rfl dX4_readDay_46 (by rw [bDy, if_neg (fun z => z h4), hN1]; simp only [thenS, hS1]; exact ⟨rfl, e2, e3, hF9.trans hG.c⟩)
        · exact g_iret B E rfl dX4_readDay_46 (by rw [bDy, if_neg (fun z => z h4), hN1]; simp only [thenS, hS1]; exact ⟨rfl, b6, b2.trans h92, b3.trans h93, hG.de hD9, hF9.trans hG.c⟩)
      · exact absurd h24 (by decide)
  · refine g_aload_n B dX4_readDay_7 rfl ?_
    refine g_iconst B (v := 4) dX4_readDay_8 (by decide) ?_
    refine g_aload_n B dX4_readDay_9 rfl ?_
    refine g_geti B ci_X4 (by first | rfl | assumption) rfl (by decide) fl_X4_113 dX4_readDay_10 ?_
    rw [h5]
    refine g_callVI B (ct_X4_refuse _ _) (by first | rfl | assumption) rfl ml_X4_78 mm_X4_refuse rfl rfl (Nat.le_of_ble_eq_true rfl) dX4_readDay_13 (by decide) ?_
    rintro _ _ ⟨rfl, rfl⟩
    exact g_iret B E rfl dX4_readDay_16 (by rw [bDy, if_pos h4]; exact ⟨rfl, rfl, rfl, frC_w2 (Or.inr ⟨rfl, by decide⟩) (frC_w2 (Or.inr ⟨rfl, by decide⟩) frC_0)⟩)
set_option maxHeartbeats 4000000 in
set_option maxRecDepth 100000 in
theorem ct_X4_readPlan {I D : Wo} {b : Nat → Nat} {q p s m : Nat} (hT : TB I b q) (hp : I 39 6 = nI p) (hpq : p ≤ q) (hD : DE I D) (h5 : I 39 5 = nI s) (hm : D 10 13 = nI m) (hm6 : m ≤ 6) : Ct yX4_readPlan cX4_readPlan 2 (some .boolean) 3 65 [.ref 39, .ref 10] I (pI (fun r u => CR I r u (thenS b q (bPl b q m s p D)))) := by
  obtain ⟨hb, hq, hq6⟩ := id hT
  have hE1 := tE_ge b hpq
  have hm2 : I 10 13 = nI m := (hD.1 10 13 (by decide) (by decide)).trans hm
  refine ct_of RX4 rfl (by decide) (Nat.le_of_ble_eq_true rfl) (fun X B E => ?_)
  show GW X 2 0 [some (.ref 39), some (.ref 10)] [] _
  refine g_aload_n B dX4_readPlan_0 rfl ?_
  refine g_geti B ci_X3 (by first | rfl | assumption) rfl (by decide) fl_X4_71 dX4_readPlan_1 ?_
  rw [hm2]
  refine g_bipush B (v := 6) dX4_readPlan_4 (by decide) ?_
  refine g_icmp_lt B 19 dX4_readPlan_6 (by decide) (fun h6 => ?_) (fun h6 => ?_)
  · have hlt := lt_lt (a := m) (b := 6) (by omega) (by decide) h6
    have hnlt : ¬ 6 ≤ m := by omega
    refine g_aload_n B dX4_readPlan_19 rfl ?_
    refine g_iconst B (v := 0) dX4_readPlan_20 (by decide) ?_
    refine g_bipush B (v := 7) dX4_readPlan_21 (by decide) ?_
    refine g_callVI B (ct_X4_readNumber hT hp hpq 0 7) (by first | rfl | assumption) rfl ml_X4_116 mm_X4_readNumber rfl rfl (Nat.le_of_ble_eq_true rfl) dX4_readPlan_23 (by decide) ?_
    rintro _ _ (⟨e, hN1, rfl, e2, e3, hF1⟩ | ⟨v1, hN1, v99_1, vw1, rfl, a7_1, a6_1, a5_1, a2_1, a3_1, hF1⟩)
    · refine g_if_eq B 51 dX4_readPlan_26 (by decide) (fun h26 => ?_) (fun h26 => ?_)
      · refine g_iconst B (v := 0) dX4_readPlan_51 (by decide) ?_
        exact g_iret B E rfl dX4_readPlan_52 (by rw [bPl, if_neg hnlt, hN1]; exact ⟨rfl, e2, e3, hF1.c⟩)
      · exact absurd rfl h26
    · refine g_if_eq B 51 dX4_readPlan_26 (by decide) (fun h26 => ?_) (fun h26 => ?_)
      · exact absurd h26 (by decide)
      · refine g_aload_n B dX4_readPlan_29 rfl ?_
        refine g_aload_n B dX4_readPlan_30 rfl ?_
        refine g_geti B ci_X4 (by first | rfl | assumption) rfl (by decide) fl_X4_122 dX4_readPlan_31 ?_
        rw [a7_1]
        refine g_callVI B (ct_X3_addToPlan (b := 10) (q := m) su_10 ((hF1.c10 13 (Or.inl (by decide))).trans hm2) hm6 _) (by first | rfl | assumption) rfl ml_X4_152 mm_X3_addToPlan rfl rfl (Nat.le_of_ble_eq_true rfl) dX4_readPlan_34 (by decide) ?_
        rintro _ _ (⟨-, rfl, rfl⟩ | ⟨h6m, rfl, rfl⟩)
        · generalize hu9 : w2 (w2 _ (10 + 7) m (nI v1)) 10 13 (nI (m + 1)) = u9
          have hD9 : DE u9 (w2 (w2 D 17 m (nI v1)) 10 13 (nI (m + 1))) := by rw [← hu9]; exact (hF1.de hD).w2.w2
          have hF9 : FrC I u9 := by rw [← hu9]; exact frC_w2 (Or.inl (by decide)) (frC_w2 (Or.inl (by decide)) hF1.c)
          have h96 : u9 39 6 = nI (tE b q p) := by rw [← hu9]; exact a6_1
          have h92 : u9 39 2 = I 39 2 := by rw [← hu9]; exact a2_1
          have h93 : u9 39 3 = I 39 3 := by rw [← hu9]; exact a3_1
          refine g_if_eq B 51 dX4_readPlan_37 (by decide) (fun h37 => ?_) (fun h37 => ?_)
          · exact absurd h37 (by decide)
          · refine g_aload_n B dX4_readPlan_40 rfl ?_
            refine g_callVI B (ct_X4_readStop (hT.frC hF9) h96 hE1.2) (by first | rfl | assumption) rfl ml_X4_149 mm_X4_readStop rfl rfl (Nat.le_of_ble_eq_true rfl) dX4_readPlan_41 (by decide) ?_
            rintro _ _ (⟨e, hS1, rfl, e2, e3, hG⟩ | ⟨p9, hS1, rfl, b6, b2, b3, hG⟩)
            · refine g_if_eq B 51 dX4_readPlan_44 (by decide) (fun h44 => ?_) (fun h44 => ?_)
              · refine g_iconst B (v := 0) dX4_readPlan_51 (by decide) ?_
                exact g_iret B E rfl dX4_readPlan_52 (by rw [bPl, if_neg hnlt, hN1]; simp only [thenS, hS1]; exact ⟨rfl, e2, e3, hF9.trans hG.c⟩)
              · exact absurd rfl h44
            · refine g_if_eq B 51 dX4_readPlan_44 (by decide) (fun h44 => ?_) (fun h44 => ?_)
              · exact absurd h44 (by decide)
              · refine g_iconst B (v := 1) dX4_readPlan_47 (by decide) ?_
                refine g_goto B 52 dX4_readPlan_48 (by decide) ?_
                exact g_iret B E rfl dX4_readPlan_52 (by rw [bPl, if_neg hnlt, hN1]; simp only [thenS, hS1]; exact ⟨rfl, b6, b2.trans h92, b3.trans h93, hG.de hD9, hF9.trans hG.c⟩)
        · exact absurd h6m (by omega)
  · have hge := nlt_le (a := m) (b := 6) (by omega) (by decide) h6
    refine g_aload_n B dX4_readPlan_9 rfl ?_
    refine g_iconst B (v := 5) dX4_readPlan_10 (by decide) ?_
    refine g_aload_n B dX4_readPlan_11 rfl ?_
    refine g_geti B ci_X4 (by first | rfl | assumption) rfl (by decide) fl_X4_113 dX4_readPlan_12 ?_
    rw [h5]
    refine g_callVI B (ct_X4_refuse _ _) (by first | rfl | assumption) rfl ml_X4_78 mm_X4_refuse rfl rfl (Nat.le_of_ble_eq_true rfl) dX4_readPlan_15 (by decide) ?_
    rintro _ _ ⟨rfl, rfl⟩
    exact g_iret B E rfl dX4_readPlan_18 (by rw [bPl, if_pos hge]; exact ⟨rfl, rfl, rfl, frC_w2 (Or.inr ⟨rfl, by decide⟩) (frC_w2 (Or.inr ⟨rfl, by decide⟩) frC_0)⟩)
set_option maxHeartbeats 4000000 in
set_option maxRecDepth 100000 in
theorem ct_X4_readSaid {I D : Wo} {b : Nat → Nat} {q p : Nat} (hT : TB I b q) (hp : I 39 6 = nI p) (hpq : p ≤ q) (hD : DE I D) : Ct yX4_readSaid cX4_readSaid 2 (some .boolean) 3 65 [.ref 39, .ref 10] I (pI (fun r u => CR I r u (thenS b q (bSa b q p D)))) := by
  obtain ⟨hb, hq, hq6⟩ := id hT
  have hE1 := tE_ge b hpq
  refine ct_of RX4 rfl (by decide) (Nat.le_of_ble_eq_true rfl) (fun X B E => ?_)
  show GW X 2 0 [some (.ref 39), some (.ref 10)] [] _
  refine g_aload_n B dX4_readSaid_0 rfl ?_
  refine g_iconst B (v := 0) dX4_readSaid_1 (by decide) ?_
  refine g_bipush B (v := 7) dX4_readSaid_2 (by decide) ?_
  refine g_callVI B (ct_X4_readNumber hT hp hpq 0 7) (by first | rfl | assumption) rfl ml_X4_116 mm_X4_readNumber rfl rfl (Nat.le_of_ble_eq_true rfl) dX4_readSaid_4 (by decide) ?_
  rintro _ _ (⟨e, hN1, rfl, e2, e3, hF1⟩ | ⟨v1, hN1, v99_1, vw1, rfl, a7_1, a6_1, a5_1, a2_1, a3_1, hF1⟩)
  · refine g_if_ne B 12 dX4_readSaid_7 (by decide) (fun h7 => ?_) (fun h7 => ?_)
    · exact absurd rfl h7
    · refine g_iconst B (v := 0) dX4_readSaid_10 (by decide) ?_
      exact g_iret B E rfl dX4_readSaid_11 (by rw [bSa, hN1]; exact ⟨rfl, e2, e3, hF1.c⟩)
  · have d12 := (hF1.de hD).1 10 12 (by decide) (by decide)
    refine g_if_ne B 12 dX4_readSaid_7 (by decide) (fun h7 => ?_) (fun h7 => ?_)
    · refine g_aload_n B dX4_readSaid_12 rfl ?_
      refine g_aload_n B dX4_readSaid_13 rfl ?_
      refine g_geti B ci_X4 (by first | rfl | assumption) rfl (by decide) fl_X4_122 dX4_readSaid_14 ?_
      rw [a7_1]
      refine g_callVI B (ct_X3_isSaid su_10 _) (by first | rfl | assumption) rfl ml_X4_155 mm_X3_isSaid rfl rfl (Nat.le_of_ble_eq_true rfl) dX4_readSaid_17 (by decide) ?_
      rintro _ _ ⟨rfl, rfl⟩
      rw [d12]
      refine g_if_eq B 33 dX4_readSaid_20 (by decide) (fun h20 => ?_) (fun h20 => ?_)
      · rw [bI_eq0] at h20
        simp only [decide_eq_true_eq, decide_eq_false_iff_not] at h20
        refine g_aload_n B dX4_readSaid_33 rfl ?_
        refine g_dup B dX4_readSaid_34 rfl ?_
        refine g_geti B ci_X3 (by first | rfl | assumption) rfl (by decide) fl_X4_61 dX4_readSaid_35 ?_
        rw [d12]
        refine g_iconst B (v := 1) dX4_readSaid_38 (by decide) ?_
        refine g_aload_n B dX4_readSaid_39 rfl ?_
        refine g_geti B ci_X4 (by first | rfl | assumption) rfl (by decide) fl_X4_122 dX4_readSaid_40 ?_
        rw [a7_1]
        refine g_ishl B dX4_readSaid_43 ?_
        refine g_ior B dX4_readSaid_44 ?_
        refine g_put B ci_X3 (by first | rfl | assumption) rfl (by decide) fl_X4_61 rfl rfl rfl dX4_readSaid_45 ?_
        generalize hu9 : w2 _ 10 12 _ = u9
        have hD9 : DE u9 (w2 D 10 12 (D 10 12 ||| ((1 : Int32) <<< (nI v1 &&& 31)))) := by rw [← hu9]; exact (hF1.de hD).w2
        have hF9 : FrC I u9 := by rw [← hu9]; exact frC_w2 (Or.inl (by decide)) hF1.c
        have h96 : u9 39 6 = nI (tE b q p) := by rw [← hu9]; exact a6_1
        have h92 : u9 39 2 = I 39 2 := by rw [← hu9]; exact a2_1
        have h93 : u9 39 3 = I 39 3 := by rw [← hu9]; exact a3_1
        refine g_aload_n B dX4_readSaid_48 rfl ?_
        refine g_callVI B (ct_X4_readStop (hT.frC hF9) h96 hE1.2) (by first | rfl | assumption) rfl ml_X4_149 mm_X4_readStop rfl rfl (Nat.le_of_ble_eq_true rfl) dX4_readSaid_49 (by decide) ?_
        rintro _ _ (⟨e, hS1, rfl, e2, e3, hG⟩ | ⟨p9, hS1, rfl, b6, b2, b3, hG⟩)
        · exact g_iret B E rfl dX4_readSaid_52 (by rw [bSa, hN1]; simp only [if_neg h20, thenS, hS1]; exact ⟨rfl, e2, e3, hF9.trans hG.c⟩)
        · exact g_iret B E rfl dX4_readSaid_52 (by rw [bSa, hN1]; simp only [if_neg h20, thenS, hS1]; exact ⟨rfl, b6, b2.trans h92, b3.trans h93, hG.de hD9, hF9.trans hG.c⟩)
      · rw [bI_ne0] at h20
        simp only [decide_eq_true_eq, decide_eq_false_iff_not] at h20
        refine g_aload_n B dX4_readSaid_23 rfl ?_
        refine g_iconst B (v := 4) dX4_readSaid_24 (by decide) ?_
        refine g_aload_n B dX4_readSaid_25 rfl ?_
        refine g_geti B ci_X4 (by first | rfl | assumption) rfl (by decide) fl_X4_113 dX4_readSaid_26 ?_
        rw [a5_1]
        refine g_callVI B (ct_X4_refuse _ _) (by first | rfl | assumption) rfl ml_X4_78 mm_X4_refuse rfl rfl (Nat.le_of_ble_eq_true rfl) dX4_readSaid_29 (by decide) ?_
        rintro _ _ ⟨rfl, rfl⟩
        exact g_iret B E rfl dX4_readSaid_32 (by rw [bSa, hN1]; simp only [if_pos h20]; exact ⟨rfl, rfl, rfl, frC_w2 (Or.inr ⟨rfl, by decide⟩) (frC_w2 (Or.inr ⟨rfl, by decide⟩) hF1.c)⟩)
    · exact absurd h7 (by decide)

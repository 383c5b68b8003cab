theorem wd_ne {b : Nat → Nat} {s e i j : Nat} (hi : 0 < strN.getD i 0) (hj : 0 < strN.getD j 0) (hij : ((strB.getD i []).getD 0 0).toNatClampNeg ≠ ((strB.getD j []).getD 0 0).toNatClampNeg) (h : wd b s e i = true) : wd b s e j = false := by
  cases hq : wd b s e j
  · rfl
  · have h1 := (wd_iff.mp h).2 0 hi
    have h2 := (wd_iff.mp hq).2 0 hj
    exact absurd (h1.symm.trans h2) hij
theorem rd_all {I D : Wo} {b : Nat → Nat} {q p0 n m : Nat} (hM : MB I b q) (hL : Ld I b q p0) (hMD : MDn I D n m) (hI : DIn D n m) (htb : I 57 11 = tb D) : Ct yX7_readLine cX7_readLine 2 none 5 115 [.ref 57] I (pV (fun u => RlR I u b q (thenS b q (ln b q n m p0 D)))) := by
  by_cases hk1 : tK b q p0 = 1
  · have hd : ∀ i, (decide (tK b q p0 = 1) && wd b (tS b q p0) (tE b q p0) i) = wd b (tS b q p0) (tE b q p0) i := fun i => by rw [decide_eq_true hk1, Bool.true_and]
    have e : ln b q n m p0 D = if wd b (tS b q p0) (tE b q p0) 0 = true then bCl b q 0 n (tS b q p0) (tE b q p0) D else if wd b (tS b q p0) (tE b q p0) 1 = true then bCl b q 1 n (tS b q p0) (tE b q p0) D else if wd b (tS b q p0) (tE b q p0) 2 = true then bCl b q 2 n (tS b q p0) (tE b q p0) D else if wd b (tS b q p0) (tE b q p0) 3 = true then bEn b q (tS b q p0) (tE b q p0) D else if wd b (tS b q p0) (tE b q p0) 4 = true then bPl b q m (tS b q p0) (tE b q p0) D else if wd b (tS b q p0) (tE b q p0) 5 = true then bSa b q (tE b q p0) D else if wd b (tS b q p0) (tE b q p0) 6 = true then bDy b q (tS b q p0) (tE b q p0) D else .error (2, tS b q p0) := by
      rw [ln, hd, hd, hd, hd, hd, hd, hd]
    rw [e]
    by_cases w0 : wd b (tS b q p0) (tE b q p0) 0 = true
    · rw [if_pos w0]
      exact rd_0 hM hL hMD hI htb hk1 (by rw [lnK, if_pos w0])
    by_cases w1 : wd b (tS b q p0) (tE b q p0) 1 = true
    · rw [if_neg w0, if_pos w1]
      exact rd_1 hM hL hMD hI htb hk1 (by rw [lnK, if_neg w0, if_pos w1])
    by_cases w2 : wd b (tS b q p0) (tE b q p0) 2 = true
    · rw [if_neg w0, if_neg w1, if_pos w2]
      exact rd_2 hM hL hMD hI htb hk1 (by rw [lnK, if_neg w0, if_neg w1, if_pos w2])
    by_cases w3 : wd b (tS b q p0) (tE b q p0) 3 = true
    · rw [if_neg w0, if_neg w1, if_neg w2, if_pos w3]
      exact rd_3 hM hL hMD hI htb hk1 (by rw [lnK, if_neg w0, if_neg w1, if_neg w2, if_pos w3])
    by_cases w4 : wd b (tS b q p0) (tE b q p0) 4 = true
    · rw [if_neg w0, if_neg w1, if_neg w2, if_neg w3, if_pos w4]
      exact rd_4 hM hL hMD hI htb hk1 (by rw [lnK, if_neg w0, if_neg w1, if_neg w2, if_neg w3, if_neg (ne_t (wd_ne (i := 4) (j := 6) (by decide) (by decide) (by decide) w4)), if_pos w4])
    by_cases w5 : wd b (tS b q p0) (tE b q p0) 5 = true
    · rw [if_neg w0, if_neg w1, if_neg w2, if_neg w3, if_neg w4, if_pos w5]
      exact rd_5 hM hL hMD hI htb hk1 (by rw [lnK, if_neg w0, if_neg w1, if_neg w2, if_neg w3, if_neg (ne_t (wd_ne (i := 5) (j := 6) (by decide) (by decide) (by decide) w5)), if_neg w4, if_pos w5])
    by_cases w6 : wd b (tS b q p0) (tE b q p0) 6 = true
    · rw [if_neg w0, if_neg w1, if_neg w2, if_neg w3, if_neg w4, if_neg w5, if_pos w6]
      exact rd_6 hM hL hMD hI htb hk1 (by rw [lnK, if_neg w0, if_neg w1, if_neg w2, if_neg w3, if_pos w6])
    rw [if_neg w0, if_neg w1, if_neg w2, if_neg w3, if_neg w4, if_neg w5, if_neg w6]
    exact rd_7 hM hL hMD hI htb (fun _ => by rw [lnK, if_neg w0, if_neg w1, if_neg w2, if_neg w3, if_neg w6, if_neg w4, if_neg w5])
  · have e : ln b q n m p0 D = .error (2, tS b q p0) := by
      have hd : ∀ i, ¬ (decide (tK b q p0 = 1) && wd b (tS b q p0) (tE b q p0) i) = true := fun i => by rw [decide_eq_false hk1, Bool.false_and]; decide
      rw [ln, if_neg (hd 0), if_neg (hd 1), if_neg (hd 2), if_neg (hd 3), if_neg (hd 4), if_neg (hd 5), if_neg (hd 6)]
    rw [e]
    exact rd_7 hM hL hMD hI htb (fun z => absurd z hk1)
theorem okD_iff {D : Wo} {n m : Nat} : okD n m D = true ↔ hiB D m n := by
  unfold okD hiB
  rw [Bool.and_eq_true, Bool.and_eq_true, Bool.or_eq_true, decide_eq_true_eq, allF_iff, and_assoc]
def FrX (I u : Wo) : Prop := ∀ x y, (x = 57 → ¬ y = 7 ∧ ¬ y = 11 ∧ ¬ y = 12 ∧ ¬ y = 14 ∧ (y < 15 ∨ 20 < y)) → (x < 63 ∨ 66 < x) → u x y = I x y
theorem FrL.x {I u : Wo} (h : FrL I u) {v : Int32} : FrX I (w2 u 57 14 v) := by
  intro x y a c
  rw [show w2 u 57 14 v x y = u x y from if_neg (fun z => (a z.1).2.2.2.1 z.2)]
  exact h x y (fun e => ⟨(a e).1, (a e).2.1, (a e).2.2.1, (a e).2.2.2.2⟩) c
def KpR (u D : Wo) (n m : Nat) : Prop := u 57 2 = nI n ∧ (∀ c, c < n → u 60 c = D 11 c ∧ u 61 c = D 12 c ∧ u 62 c = D 13 c ∧ u 58 c = D 15 c ∧ u 58 (8 + c) = D 16 c ∧ u 58 (16 + c) = D 14 c) ∧ u 58 24 = D 10 12 ∧ u 58 25 = clD n D 10 10 ∧ u 58 26 = D 10 11 ∧ u 58 27 = nI m ∧ (∀ i, i < m → u 58 (28 + i) = D 17 i) ∧ u 58 34 = 0 ∧ u 59 0 = 0 ∧ u 59 1 = 0
def TxM (I : Wo) (r : Int32) (u : Wo) : Except (Nat × Nat) (Nat × Wo) → Prop
  | .error e => r = (-10) - nI e.2 ∧ u 57 19 = nI e.1 ∧ u 57 14 = 0 ∧ FrX I u
  | .ok x => r = nI x.1 ∧ u 57 19 = 0 ∧ u 57 14 = 0 ∧ (∃ D n m, x.2 = clD n D ∧ DIn D n m ∧ okD n m D = true ∧ KpR u D n m) ∧ (∀ x y, ¬ (x = 58 ∧ y < 47) → ¬ (x = 59 ∧ y < 2) → ¬ (60 ≤ x ∧ x ≤ 62) → (x = 57 → ¬ y = 2 ∧ ¬ y = 7 ∧ ¬ y = 11 ∧ ¬ y = 12 ∧ ¬ y = 14 ∧ (y < 15 ∨ 20 < y)) → (x < 63 ∨ 66 < x) → u x y = I x y)
theorem tb_0 {J : Wo} : tb (dr0 J) = 0 := by
  rw [tb, show dr0 J 39 8 = 0 from rfl, show dr0 J 39 9 = 0 from rfl]; decide
theorem md_0 {u J : Wo} (h1 : ∀ k, k < 47 → u 63 k = if k = 25 then -4 else 0) (h2 : u 57 7 = 0) (h4 : u 57 12 = -4) : MDn u (dr0 J) 0 0 := by
  refine ⟨rfl, rfl, by decide, by decide, h2, fun c h => absurd h (Nat.not_lt_zero c), (h1 24 (by decide)).trans rfl, (h1 25 (by decide)).trans rfl, (h1 26 (by decide)).trans rfl, (h1 27 (by decide)).trans rfl, fun c h => absurd h (Nat.not_lt_zero c), (h1 34 (by decide)).trans rfl, fun k hk => ?_⟩
  rw [h4]
  refine ⟨fun _ => ⟨(cOK_iff (by have := pow8 hk; omega)).mpr ⟨0, Nat.two_pow_pos _, rfl⟩, Or.inl rfl, fun i h => absurd h (Nat.not_lt_zero i)⟩, fun _ => ?_⟩
  rw [fa_lt9, nI_toInt (by omega)]
  have : (-4 : Int32).toInt = -4 := by decide
  omega
theorem md_fix {u D : Wo} {n m n2 m2 : Nat} (h : MDn u D n m) (hI : DIn D n2 m2) : MDn u D n2 m2 := by
  have e1 : n = n2 := (nI_eq h.bn (by have := hI.n8; omega)).mp (h.d9.symm.trans hI.hn)
  have e2 : m = m2 := (nI_eq h.bm (by have := hI.m6; omega)).mp (h.d13.symm.trans hI.hm)
  rw [← e1, ← e2]; exact h
theorem kp_of {V u D : Wo} {n m : Nat} (hMD : MDn V D n m) (hI : DIn D n m) (k1 : ∀ k, k < 47 → k ≠ 25 → u 58 k = V 63 k) (k2 : u 58 25 = (if V 63 25 = -4 ∧ 0 < n then nI n - 1 else V 63 25)) (k3 : u 57 2 = nI n) (k4 : ∀ c, c < n → u 60 c = V 64 c ∧ u 61 c = V 65 c ∧ u 62 c = V 66 c) (k5 : u 59 0 = 0) (k6 : u 59 1 = 0) : KpR u D n m := by
  have hn8 := hI.n8
  have hm6 := hI.m6
  refine ⟨k3, fun c hc => ?_, (k1 24 (by decide) (by decide)).trans hMD.sa, ?_, (k1 26 (by decide) (by decide)).trans hMD.dy, (k1 27 (by decide) (by decide)).trans hMD.pm, fun i hi => (k1 _ (by omega) (by omega)).trans (hMD.pl i hi), (k1 34 (by decide) (by decide)).trans hMD.se, k5, k6⟩
  · obtain ⟨b1, b2, b3, b4, b5, b6⟩ := hMD.cl c hc
    obtain ⟨a1, a2, a3⟩ := k4 c hc
    exact ⟨a1.trans b1, a2.trans b2, a3.trans b3, (k1 _ (by omega) (by omega)).trans b4, (k1 _ (by omega) (by omega)).trans b5, (k1 _ (by omega) (by omega)).trans b6⟩
  · rw [k2, hMD.en, clD]
    rcases hI.en with ⟨h8, h10⟩ | ⟨h8, j, hj, h10⟩
    · rw [if_pos h8, w2_same, h10]
      by_cases hz : n = 0
      · rw [if_neg (by omega), if_pos hz]
      · rw [if_pos ⟨rfl, by omega⟩, if_neg hz]
    · have h0 : ¬ D 39 8 = 0 := by rw [h8]; decide
      have h4 : ¬ (D 10 10 = -4 ∧ 0 < n) := fun z => nI_ne4 (show j < 2 ^ 31 by omega) (h10.symm.trans z.1)
      rw [if_neg h0, if_neg h4]
set_option maxHeartbeats 4000000 in
set_option maxRecDepth 100000 in
theorem ct_X7_text {I J : Wo} {b : Nat → Nat} {q : Nat} (hM : MB I b q) : Ct yX7_text cX7_text 2 (some .int) 6 136 [.ref 57] I (pI (fun r u => TxM I r u (txR b q (dr0 J)))) := by
  obtain ⟨hb, hq, hq6⟩ := id hM
  refine ct_of RX7 rfl (by decide) (Nat.le_of_ble_eq_true rfl) (fun X B E => ?_)
  show GW X 2 0 [some (.ref 57), none] [] _
  refine g_iconst B (v := 0) dX7_text_0 (by decide) ?_
  refine g_istn1 B dX7_text_1 (by decide) rfl ?_
  refine g_aload_n B dX7_text_2 rfl ?_
  refine g_iconst B (v := 0) dX7_text_3 (by decide) ?_
  refine g_put B ci_X7 (by first | rfl | assumption) rfl (by decide) fl_X7_84 rfl rfl rfl dX7_text_4 ?_
  refine g_aload_n B dX7_text_7 rfl ?_
  refine g_iconst B (v := 0) dX7_text_8 (by decide) ?_
  refine g_put B ci_X7 (by first | rfl | assumption) rfl (by decide) fl_X7_93 rfl rfl rfl dX7_text_9 ?_
  refine g_aload_n B dX7_text_12 rfl ?_
  refine g_callVV B (ct_X7_firstDraft (I := w2 (w2 I 57 19 0) 57 15 0)) (by first | rfl | assumption) rfl ml_X7_56 mm_X7_firstDraft rfl rfl (Nat.le_of_ble_eq_true rfl) dX7_text_13 (by decide) ?_
  rintro u0 ⟨f1, f2, f3, f4, f5⟩
  have hF0 : FrL I u0 := fun x y a c => (f5 x y (fun z => by omega) (fun z => by have := a z.1; omega)).trans (by rw [w2_get, if_neg (fun z => by have := a z.1; omega), w2_get, if_neg (fun z => by have := a z.1; omega)])
  have h019 : u0 57 19 = 0 := f5 57 19 (by decide) (by decide)
  have h015 : u0 57 15 = nI 0 := f5 57 15 (by decide) (by decide)
  refine g_aload_n B dX7_text_16 rfl ?_
  refine g_callVV B (ct_X7_next (p := 0) (hM.frL hF0) h019 h015 (Nat.zero_le _)) (by first | rfl | assumption) rfl ml_X7_130 mm_X7_next rfl rfl (Nat.le_of_ble_eq_true rfl) dX7_text_17 (by decide) ?_
  rintro u1 ⟨hS1, hF1⟩
  have JE44 : ∀ (W : Wo) (k : Nat) (e : Nat × Nat), Er W e → FrL I W → tl b q 161 0 (dr0 J) 0 = .error e → GW X 2 44 [some (.ref 57), some (.int (nI k))] [] W := by
    intro W k e hE hFW hR
    refine g_aload_n B dX7_text_44 rfl ?_
    refine g_geti B ci_X7 (by first | rfl | assumption) rfl (by decide) fl_X7_84 dX7_text_45 ?_
    rw [hE.1]
    refine g_if_ne B 73 dX7_text_48 (by decide) (fun h48 => ?_) (fun h48 => ?_)
    · refine g_aload_n B dX7_text_73 rfl ?_
      refine g_iconst B (v := 0) dX7_text_74 (by decide) ?_
      refine g_put B ci_X7 (by first | rfl | assumption) rfl (by decide) fl_X7_81 rfl rfl rfl dX7_text_75 ?_
      refine g_aload_n B dX7_text_78 rfl ?_
      refine g_geti B ci_X7 (by first | rfl | assumption) rfl (by decide) fl_X7_84 dX7_text_79 ?_
      rw [show w2 W 57 14 0 57 19 = nI e.1 from hE.1]
      refine g_if_le B 93 dX7_text_82 (by decide) (fun h82 => ?_) (fun h82 => ?_)
      · exfalso
        have := le_le (a := e.1) (b := 0) (by have := hE.2.2.2; omega) (by decide) h82
        have := hE.2.2.1
        omega
      · refine g_bipush B (v := (-10)) dX7_text_85 (by decide) ?_
        refine g_aload_n B dX7_text_87 rfl ?_
        refine g_geti B ci_X7 (by first | rfl | assumption) rfl (by decide) fl_X7_90 dX7_text_88 ?_
        rw [show w2 W 57 14 0 57 20 = nI e.2 from hE.2.1]
        refine g_isub B dX7_text_91 ?_
        exact g_iret B E rfl dX7_text_92 (by rw [txR, hR]; exact ⟨rfl, hE.1, rfl, hFW.x⟩)
    · exact absurd ((nI_eq (by have := hE.2.2.2; omega) (by decide)).mp h48) hE.2.2.1
  have JE20 : ∀ (W : Wo) (k : Nat) (e : Nat × Nat), Er W e → FrL I W → tl b q 161 0 (dr0 J) 0 = .error e → GW X 2 20 [some (.ref 57), some (.int (nI k))] [] W := by
    intro W k e hE hFW hR
    refine g_aload_n B dX7_text_20 rfl ?_
    refine g_geti B ci_X7 (by first | rfl | assumption) rfl (by decide) fl_X7_84 dX7_text_21 ?_
    rw [hE.1]
    refine g_if_ne B 44 dX7_text_24 (by decide) (fun h24 => ?_) (fun h24 => ?_)
    · exact JE44 _ _ _ hE hFW hR
    · exact absurd ((nI_eq (by have := hE.2.2.2; omega) (by decide)).mp h24) hE.2.2.1
  have JL44 : ∀ (W D : Wo) (k n m p : Nat), Ld W b q p → tK b q p = 0 → DIn D n m → MDn W D n m → FrL I W → tl b q 161 0 (dr0 J) 0 = .ok (k, D) → GW X 2 44 [some (.ref 57), some (.int (nI k))] [] W := by
    intro W D k n m p hL hk0 hI hMD hFW hR
    have htq : tS b q p = q := by have := tS_le b hL.2.2.2.2.2.2; have := tK_0 hk0; omega
    refine g_aload_n B dX7_text_44 rfl ?_
    refine g_geti B ci_X7 (by first | rfl | assumption) rfl (by decide) fl_X7_84 dX7_text_45 ?_
    rw [hL.1]
    refine g_if_ne B 73 dX7_text_48 (by decide) (fun h48 => ?_) (fun h48 => ?_)
    · exact absurd rfl h48
    · refine g_aload_n B dX7_text_51 rfl ?_
      refine g_aload_n B dX7_text_52 rfl ?_
      refine g_geti B ci_X7 (by first | rfl | assumption) rfl (by decide) fl_X7_69 dX7_text_53 ?_
      refine g_aload_n B dX7_text_56 rfl ?_
      refine g_geti B ci_X7 (by first | rfl | assumption) rfl (by decide) fl_X7_62 dX7_text_57 ?_
      rw [hMD.c7]
      refine g_icmp_ge B 67 dX7_text_60 (by decide) (fun h60 => ?_) (fun h60 => ?_)
      · have hok : okD n m D = false := by
          cases z : okD n m D
          · rfl
          · exact absurd ((hMD.hi n hI.n8).mpr (okD_iff.mp z)) (le_not_lt h60)
        refine g_iconst B (v := 0) dX7_text_67 (by decide) ?_
        refine g_eqi (bI false) rfl ?_
        refine g_bipush B (v := 6) dX7_text_68 (by decide) ?_
        refine g_callVV B (ct_X7_needs false 6) (by first | rfl | assumption) rfl ml_X7_122 mm_X7_needs rfl rfl (Nat.le_of_ble_eq_true rfl) dX7_text_70 (by decide) ?_
        rintro _ (⟨hg, rfl⟩ | ⟨hg, hf0, rfl⟩)
        · exact absurd hg (by simp [hL.1])
        · refine g_aload_n B dX7_text_73 rfl ?_
          refine g_iconst B (v := 0) dX7_text_74 (by decide) ?_
          refine g_put B ci_X7 (by first | rfl | assumption) rfl (by decide) fl_X7_81 rfl rfl rfl dX7_text_75 ?_
          refine g_aload_n B dX7_text_78 rfl ?_
          refine g_geti B ci_X7 (by first | rfl | assumption) rfl (by decide) fl_X7_84 dX7_text_79 ?_
          rw [show w2 (w2 (w2 W 57 19 6) 57 20 (W 57 16)) 57 14 0 57 19 = 6 from rfl]
          refine g_if_le B 93 dX7_text_82 (by decide) (fun h82 => ?_) (fun h82 => ?_)
          · exact absurd h82 (by decide)
          · refine g_bipush B (v := (-10)) dX7_text_85 (by decide) ?_
            refine g_aload_n B dX7_text_87 rfl ?_
            refine g_geti B ci_X7 (by first | rfl | assumption) rfl (by decide) fl_X7_90 dX7_text_88 ?_
            rw [show w2 (w2 (w2 W 57 19 6) 57 20 (W 57 16)) 57 14 0 57 20 = nI q from hL.2.1.trans (by rw [htq])]
            refine g_isub B dX7_text_91 ?_
            exact g_iret B E rfl dX7_text_92 (by rw [txR, hR]; simp only [dn_eq hI, dm_eq hI, hok]; exact ⟨rfl, rfl, rfl, (frL_w2 (by omega) (frL_w2 (by omega) hFW)).x⟩)
      · have hok : okD n m D = true := okD_iff.mpr ((hMD.hi n hI.n8).mp (not_le_lt h60))
        refine g_iconst B (v := 1) dX7_text_63 (by decide) ?_
        refine g_goto B 68 dX7_text_64 (by decide) ?_
        refine g_eqi (bI true) rfl ?_
        refine g_bipush B (v := 6) dX7_text_68 (by decide) ?_
        refine g_callVV B (ct_X7_needs true 6) (by first | rfl | assumption) rfl ml_X7_122 mm_X7_needs rfl rfl (Nat.le_of_ble_eq_true rfl) dX7_text_70 (by decide) ?_
        rintro _ (⟨hg, rfl⟩ | ⟨hg, hf0, rfl⟩)
        · refine g_aload_n B dX7_text_73 rfl ?_
          refine g_iconst B (v := 0) dX7_text_74 (by decide) ?_
          refine g_put B ci_X7 (by first | rfl | assumption) rfl (by decide) fl_X7_81 rfl rfl rfl dX7_text_75 ?_
          refine g_aload_n B dX7_text_78 rfl ?_
          refine g_geti B ci_X7 (by first | rfl | assumption) rfl (by decide) fl_X7_84 dX7_text_79 ?_
          rw [show w2 W 57 14 0 57 19 = 0 from hL.1]
          refine g_if_le B 93 dX7_text_82 (by decide) (fun h82 => ?_) (fun h82 => ?_)
          · refine g_aload_n B dX7_text_93 rfl ?_
            refine g_callVV B (ct_X7_keepDraft (I := w2 W 57 14 0) (n := n) hMD.c7 hI.n8) (by first | rfl | assumption) rfl ml_X7_59 mm_X7_keepDraft rfl rfl (Nat.le_of_ble_eq_true rfl) dX7_text_94 (by decide) ?_
            rintro u ⟨k1, k2, k3, k4, k5, k6, k7⟩
            refine g_iload_n B dX7_text_97 rfl ?_
            exact g_iret B E rfl dX7_text_98 (by rw [txR, hR]; simp only [dn_eq hI, dm_eq hI, hok, if_true]; exact ⟨rfl, (k7 57 19 (by decide) (by decide) (by decide) (by decide)).trans hL.1, (k7 57 14 (by decide) (by decide) (by decide) (by decide)).trans rfl, ⟨D, n, m, rfl, hI, hok, kp_of (hMD.fr (u := w2 W 57 14 0) rfl rfl (fun x y a c => w2_cell _ _ (by omega))) hI k1 k2 k3 k4 k5 k6⟩, fun x y h1 h2 h3 h4 h5 => (k7 x y h1 h2 h3 (fun z => (h4 z.1).1 z.2)).trans (hFW.x x y (fun z => (h4 z).2) h5)⟩)
          · exact absurd (by decide) h82
        · exact absurd hg (by decide)
  have L20 : ∀ f (p : Nat) (D : Wo) (k n m : Nat) (W : Wo), q < p + f → p ≤ q → Sn W b q p → DIn D n m → MDn W D n m → W 57 11 = tb D → FrL I W → tl b q f p D k = tl b q 161 0 (dr0 J) 0 → GW X 2 20 [some (.ref 57), some (.int (nI k))] [] W := by
    intro f
    induction f with
    | zero => intro p D k n m W hfu hpq; omega
    | succ f ih =>
      intro p D k n m W hfu hpq hS hI hMD htb hFW hR
      rcases hS with ⟨hB, hE⟩ | hL
      · exact JE20 _ _ _ hE hFW (by rw [← hR, tl, if_pos hB])
      ·
        have hB := hL.2.2.2.2.2.1
        have hK4 := tK_le b q p
        refine g_aload_n B dX7_text_20 rfl ?_
        refine g_geti B ci_X7 (by first | rfl | assumption) rfl (by decide) fl_X7_84 dX7_text_21 ?_
        rw [hL.1]
        refine g_if_ne B 44 dX7_text_24 (by decide) (fun h24 => ?_) (fun h24 => ?_)
        · exact absurd rfl h24
        · refine g_aload_n B dX7_text_27 rfl ?_
          refine g_geti B ci_X7 (by first | rfl | assumption) rfl (by decide) fl_X7_108 dX7_text_28 ?_
          rw [hL.2.2.1]
          refine g_if_eq B 44 dX7_text_31 (by decide) (fun h31 => ?_) (fun h31 => ?_)
          · rw [show (0 : Int32) = nI 0 from rfl, nI_eq (by omega) (by decide)] at h31
            exact JL44 _ D k n m p hL h31 hI hMD hFW (by rw [← hR, tl, if_neg (ne_t hB), if_pos h31])
          · rw [show (0 : Int32) = nI 0 from rfl, nI_eq (by omega) (by decide)] at h31
            refine g_aload_n B dX7_text_34 rfl ?_
            refine g_callVV B (rd_all (hM.frL hFW) hL hMD hI htb) (by first | rfl | assumption) rfl ml_X7_161 mm_X7_readLine rfl rfl (Nat.le_of_ble_eq_true rfl) dX7_text_35 (by decide) ?_
            rintro u hu
            refine g_inc1 B dX7_text_38 rfl (inc1 _) (by decide) rfl ?_
            refine g_goto B 20 dX7_text_41 (by decide) ?_
            cases hx : thenS b q (ln b q n m p D) with
            | error e =>
              rw [hx] at hu
              exact JE20 _ _ _ hu.1 (hFW.trans hu.2) (by rw [← hR, tl, if_neg (ne_t hB), if_neg h31, dn_eq hI, dm_eq hI, hx])
            | ok x =>
              rw [hx] at hu
              obtain ⟨hS5, ⟨n3, m3, hMD3⟩, ht5, hF5⟩ := hu
              obtain ⟨n2, m2, hI2, ha⟩ := ln_ok hpq hI h31 hx
              have e9 : MDn u x.2 n2 m2 := md_fix hMD3 hI2
              exact ih x.1 x.2 (k + 1) n2 m2 _ (by omega) ha.2 hS5 hI2 e9 ht5 (hFW.trans hF5) (by rw [← hR, tl, if_neg (ne_t hB), if_neg h31, dn_eq hI, dm_eq hI, hx])
  exact L20 161 0 (dr0 J) 0 0 0 _ (by omega) (Nat.zero_le _) hS1 din_0 ((md_0 f1 f2 f4).frN hF1) ((hF1 57 11 (fun _ => by decide)).trans (f3.trans tb_0.symm)) (hF0.trans hF1.l) rfl

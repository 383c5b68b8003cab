def mr (b : Nat → Nat) (q p c : Nat) (S0 : Int32) : Except (Nat × Nat) Nat := match rdN b q p 0 (nI c - 1) with
  | .error e => .error e
  | .ok v => if (S0 >>> (nI v &&& 31)) &&& 1 = 0 then .ok v else .error (4, tS b q p)
/-- beside what is looked at only the highest claim changes -/
def FrH (I u : Wo) : Prop := ∀ x y, (x = 57 → ¬ y = 12 ∧ (y < 15 ∨ 20 < y)) → u x y = I x y
theorem frH_w2 {I u : Wo} {v : Int32} (h : FrN I u) : FrH I (w2 u 57 12 v) := by
  intro x y a
  rw [show w2 u 57 12 v x y = u x y from if_neg (by rintro ⟨rfl, rfl⟩; exact (a rfl).1 rfl)]
  exact h x y (fun e => (a e).2)
theorem sn_12 {u : Wo} {b : Nat → Nat} {q p : Nat} {v : Int32} (h : Sn u b q p) : Sn (w2 u 57 12 v) b q p := by
  rcases h with ⟨h1, h2⟩ | h
  · exact Or.inl ⟨h1, h2⟩
  · exact Or.inr h
set_option maxHeartbeats 4000000 in
set_option maxRecDepth 100000 in
theorem cn_next {I : Wo} {e : Nat × Nat} (hE : Er I e) : Ct yX7_next cX7_next 2 none 1 25 [.ref 57] I (pV (fun u => I = u)) := by
  obtain ⟨e19, e20, he0, he8⟩ := id hE
  refine ct_of RX7 rfl (by decide) (Nat.le_of_ble_eq_true rfl) (fun X B E => ?_)
  show GW X 2 0 [some (.ref 57), none] [] _
  refine g_aload_n B dX7_next_0 rfl ?_
  refine g_geti B ci_X7 (by first | rfl | assumption) rfl (by decide) fl_X7_84 dX7_next_1 ?_
  rw [e19]
  refine g_if_le B 8 dX7_next_4 (by decide) (fun h4 => ?_) (fun h4 => ?_)
  · exfalso
    have := le_le (a := e.1) (b := 0) (by omega) (by decide) h4
    omega
  · exact g_vret B E dX7_next_7 rfl
set_option maxHeartbeats 4000000 in
set_option maxRecDepth 100000 in
theorem cn_looked {I : Wo} {e : Nat × Nat} (hE : Er I e) (lo hi : Int32) : Ct yX7_looked cX7_looked 3 (some .int) 1 25 [.ref 57, .int lo, .int hi] I (pI (fun r u => r = 0 ∧ I = u)) := by
  obtain ⟨e19, e20, he0, he8⟩ := id hE
  refine ct_of RX7 rfl (by decide) (Nat.le_of_ble_eq_true rfl) (fun X B E => ?_)
  show GW X 3 0 [some (.ref 57), some (.int lo), some (.int hi)] [] _
  refine g_aload_n B dX7_looked_0 rfl ?_
  refine g_geti B ci_X7 (by first | rfl | assumption) rfl (by decide) fl_X7_84 dX7_looked_1 ?_
  rw [e19]
  refine g_if_ne B 25 dX7_looked_4 (by decide) (fun h4 => ?_) (fun h4 => ?_)
  · refine g_aload_n B dX7_looked_25 rfl ?_
    refine g_geti B ci_X7 (by first | rfl | assumption) rfl (by decide) fl_X7_84 dX7_looked_26 ?_
    rw [e19]
    refine g_if_ne B 49 dX7_looked_29 (by decide) (fun h29 => ?_) (fun h29 => ?_)
    · refine g_aload_n B dX7_looked_49 rfl ?_
      refine g_geti B ci_X7 (by first | rfl | assumption) rfl (by decide) fl_X7_84 dX7_looked_50 ?_
      rw [e19]
      refine g_if_ne B 63 dX7_looked_53 (by decide) (fun h53 => ?_) (fun h53 => ?_)
      · refine g_iconst B (v := 0) dX7_looked_63 (by decide) ?_
        exact g_iret B E rfl dX7_looked_64 ⟨rfl, rfl⟩
      · exact absurd ((nI_eq (by omega) (by decide)).mp h53) he0
    · exact absurd ((nI_eq (by omega) (by decide)).mp h29) he0
  · exact absurd ((nI_eq (by omega) (by decide)).mp h4) he0
set_option maxHeartbeats 4000000 in
set_option maxRecDepth 100000 in
theorem cl_looked {I : Wo} {b : Nat → Nat} {q p : Nat} (hL : Ld I b q p) (lo hi : Int32) : Ct yX7_looked cX7_looked 3 (some .int) 1 25 [.ref 57, .int lo, .int hi] I (pI (fun r u => (∃ e : Nat × Nat, rdN b q p lo hi = .error e ∧ r = 0 ∧ Er u e ∧ FrN I u) ∨ (∃ v : Nat, rdN b q p lo hi = .ok v ∧ v ≤ 99 ∧ r = nI v ∧ I = u))) := by
  obtain ⟨h19, h16, h17, h15, h18, hB, hpq⟩ := id hL
  have hE1 := tE_ge b hpq
  have hS1 := tS_le b hpq
  have hK4 := tK_le b q p
  have hnB : ¬ tB b q p = true := by rw [hB]; decide
  refine ct_of RX7 rfl (by decide) (Nat.le_of_ble_eq_true rfl) (fun X B E => ?_)
  show GW X 3 0 [some (.ref 57), some (.int lo), some (.int hi)] [] _
  refine g_aload_n B dX7_looked_0 rfl ?_
  refine g_geti B ci_X7 (by first | rfl | assumption) rfl (by decide) fl_X7_84 dX7_looked_1 ?_
  rw [h19]
  refine g_if_ne B 25 dX7_looked_4 (by decide) (fun h4 => ?_) (fun h4 => ?_)
  · exact absurd rfl h4
  · refine g_aload_n B dX7_looked_7 rfl ?_
    refine g_aload_n B dX7_looked_8 rfl ?_
    refine g_geti B ci_X7 (by first | rfl | assumption) rfl (by decide) fl_X7_108 dX7_looked_9 ?_
    rw [h17]
    refine g_iconst B (v := 2) dX7_looked_12 (by decide) ?_
    refine g_icmp_ne B 20 dX7_looked_13 (by decide) (fun h13 => ?_) (fun h13 => ?_)
    · rw [show (2 : Int32) = nI 2 from rfl, nI_eq (by omega) (by decide)] at h13
      refine g_iconst B (v := 0) dX7_looked_20 (by decide) ?_
      refine g_eqi (bI false) rfl ?_
      refine g_iconst B (v := 2) dX7_looked_21 (by decide) ?_
      refine g_callVV B (ct_X7_needs false 2) (by first | rfl | assumption) rfl ml_X7_122 mm_X7_needs rfl rfl (Nat.le_of_ble_eq_true rfl) dX7_looked_22 (by decide) ?_
      rintro _ (⟨hg, rfl⟩ | ⟨hg, hf0, rfl⟩)
      · exact absurd hg (by simp [h19])
      · refine g_aload_n B dX7_looked_25 rfl ?_
        refine g_geti B ci_X7 (by first | rfl | assumption) rfl (by decide) fl_X7_84 dX7_looked_26 ?_
        rw [show w2 (w2 I 57 19 2) 57 20 (I 57 16) 57 19 = 2 from rfl]
        refine g_if_ne B 49 dX7_looked_29 (by decide) (fun h29 => ?_) (fun h29 => ?_)
        · refine g_aload_n B dX7_looked_49 rfl ?_
          refine g_geti B ci_X7 (by first | rfl | assumption) rfl (by decide) fl_X7_84 dX7_looked_50 ?_
          rw [show w2 (w2 I 57 19 2) 57 20 (I 57 16) 57 19 = 2 from rfl]
          refine g_if_ne B 63 dX7_looked_53 (by decide) (fun h53 => ?_) (fun h53 => ?_)
          · refine g_iconst B (v := 0) dX7_looked_63 (by decide) ?_
            exact g_iret B E rfl dX7_looked_64 (Or.inl ⟨(2, tS b q p), by rw [rdN, if_neg hnB, if_pos h13], rfl, ⟨rfl, h16, (er8 rfl).1, (er8 rfl).2⟩, frN_w2 (by decide) (by decide) (frN_w2 (by decide) (by decide) frN_0)⟩)
          · exact absurd h53 (by decide)
        · exact absurd h29 (by decide)
    · rw [show (2 : Int32) = nI 2 from rfl, nI_eq (by omega) (by decide)] at h13
      refine g_iconst B (v := 1) dX7_looked_16 (by decide) ?_
      refine g_goto B 21 dX7_looked_17 (by decide) ?_
      refine g_eqi (bI true) rfl ?_
      refine g_iconst B (v := 2) dX7_looked_21 (by decide) ?_
      refine g_callVV B (ct_X7_needs true 2) (by first | rfl | assumption) rfl ml_X7_122 mm_X7_needs rfl rfl (Nat.le_of_ble_eq_true rfl) dX7_looked_22 (by decide) ?_
      rintro _ (⟨hg, rfl⟩ | ⟨hg, hf0, rfl⟩)
      · refine g_aload_n B dX7_looked_25 rfl ?_
        refine g_geti B ci_X7 (by first | rfl | assumption) rfl (by decide) fl_X7_84 dX7_looked_26 ?_
        rw [h19]
        refine g_if_ne B 49 dX7_looked_29 (by decide) (fun h29 => ?_) (fun h29 => ?_)
        · exact absurd rfl h29
        · refine g_aload_n B dX7_looked_32 rfl ?_
          refine g_aload_n B dX7_looked_33 rfl ?_
          refine g_geti B ci_X7 (by first | rfl | assumption) rfl (by decide) fl_X7_119 dX7_looked_34 ?_
          rw [h18 h13]
          refine g_i2l B dX7_looked_37 ?_
          refine g_iload_n B dX7_looked_38 rfl ?_
          refine g_i2l B dX7_looked_39 ?_
          refine g_iload_n B dX7_looked_40 rfl ?_
          refine g_i2l B dX7_looked_41 ?_
          refine g_callSI B (ct_in (nI (tV b q p)) lo hi rfl rfl rfl) ml_X7_77 mm_X7_in rfl rfl (Nat.le_of_ble_eq_true rfl) dX7_looked_42 (by decide) ?_
          rintro _ _ ⟨rfl, rfl⟩
          refine g_iconst B (v := 3) dX7_looked_45 (by decide) ?_
          refine g_callVV B (ct_X7_needs _ 3) (by first | rfl | assumption) rfl ml_X7_122 mm_X7_needs rfl rfl (Nat.le_of_ble_eq_true rfl) dX7_looked_46 (by decide) ?_
          rintro _ (⟨hg, rfl⟩ | ⟨hg, hf0, rfl⟩)
          · replace hg := hg.resolve_right (fun z => z h19)
            refine g_aload_n B dX7_looked_49 rfl ?_
            refine g_geti B ci_X7 (by first | rfl | assumption) rfl (by decide) fl_X7_84 dX7_looked_50 ?_
            rw [h19]
            refine g_if_ne B 63 dX7_looked_53 (by decide) (fun h53 => ?_) (fun h53 => ?_)
            · exact absurd rfl h53
            · refine g_aload_n B dX7_looked_56 rfl ?_
              refine g_geti B ci_X7 (by first | rfl | assumption) rfl (by decide) fl_X7_119 dX7_looked_57 ?_
              rw [h18 h13]
              refine g_goto B 64 dX7_looked_60 (by decide) ?_
              exact g_iret B E rfl dX7_looked_64 (Or.inr ⟨tV b q p, by rw [rdN, if_neg hnB, if_neg (fun z => z h13), if_pos hg], tV_le h13 hB, rfl, rfl⟩)
          · refine g_aload_n B dX7_looked_49 rfl ?_
            refine g_geti B ci_X7 (by first | rfl | assumption) rfl (by decide) fl_X7_84 dX7_looked_50 ?_
            rw [show w2 (w2 I 57 19 3) 57 20 (I 57 16) 57 19 = 3 from rfl]
            refine g_if_ne B 63 dX7_looked_53 (by decide) (fun h53 => ?_) (fun h53 => ?_)
            · refine g_iconst B (v := 0) dX7_looked_63 (by decide) ?_
              exact g_iret B E rfl dX7_looked_64 (Or.inl ⟨(3, tS b q p), by rw [rdN, if_neg hnB, if_neg (fun z => z h13), if_neg (by rw [hg]; decide)], rfl, ⟨rfl, h16, (er8 rfl).1, (er8 rfl).2⟩, frN_w2 (by decide) (by decide) (frN_w2 (by decide) (by decide) frN_0)⟩)
            · exact absurd h53 (by decide)
      · exact absurd hg (by decide)
theorem lk_S {I : Wo} {b : Nat → Nat} {q p : Nat} (hS : Sn I b q p) (lo hi : Int32) : Ct yX7_looked cX7_looked 3 (some .int) 1 25 [.ref 57, .int lo, .int hi] I (pI (fun r u => (∃ e : Nat × Nat, rdN b q p lo hi = .error e ∧ r = 0 ∧ Er u e ∧ FrN I u) ∨ (∃ v : Nat, rdN b q p lo hi = .ok v ∧ v ≤ 99 ∧ r = nI v ∧ I = u ∧ Ld I b q p))) := by
  rcases hS with ⟨hB, hE⟩ | hL
  · exact (cn_looked hE lo hi).monoI (fun r u ⟨h1, h2⟩ => Or.inl ⟨(1, tS b q p), by rw [rdN, if_pos hB], h1, h2 ▸ hE, h2 ▸ frN_0⟩)
  · refine (cl_looked hL lo hi).monoI (fun r u h => ?_)
    rcases h with h | ⟨v, h1, h2, h3, h4⟩
    · exact Or.inl h
    · exact Or.inr ⟨v, h1, h2, h3, h4, hL⟩
set_option maxHeartbeats 4000000 in
set_option maxRecDepth 100000 in
theorem rn_S {I : Wo} {b : Nat → Nat} {q p : Nat} (hM : MB I b q) (hS : Sn I b q p) (lo hi : Int32) : Ct yX7_readNumber cX7_readNumber 4 (some .int) 2 47 [.ref 57, .int lo, .int hi] I (pI (fun r u => (∃ e : Nat × Nat, rdN b q p lo hi = .error e ∧ r = 0 ∧ Er u e ∧ FrN I u) ∨ (∃ v : Nat, rdN b q p lo hi = .ok v ∧ v ≤ 99 ∧ r = nI v ∧ Sn u b q (tE b q p) ∧ FrN I u))) := by
  refine ct_of RX7 rfl (by decide) (Nat.le_of_ble_eq_true rfl) (fun X B E => ?_)
  show GW X 4 0 [some (.ref 57), some (.int lo), some (.int hi), none] [] _
  refine g_aload_n B dX7_readNumber_0 rfl ?_
  refine g_iload_n B dX7_readNumber_1 rfl ?_
  refine g_iload_n B dX7_readNumber_2 rfl ?_
  refine g_callVI B (lk_S hS lo hi) (by first | rfl | assumption) rfl ml_X7_126 mm_X7_looked rfl rfl (Nat.le_of_ble_eq_true rfl) dX7_readNumber_3 (by decide) ?_
  rintro _ _ (⟨e, hN, rfl, hEu, hF⟩ | ⟨v, hN, v99, rfl, rfl, hL⟩)
  · refine g_istn3 B dX7_readNumber_6 (by decide) rfl ?_
    refine g_aload_n B dX7_readNumber_7 rfl ?_
    refine g_callVV B (cn_next hEu) (by first | rfl | assumption) rfl ml_X7_130 mm_X7_next rfl rfl (Nat.le_of_ble_eq_true rfl) dX7_readNumber_8 (by decide) ?_
    rintro _ rfl
    refine g_iload_n B dX7_readNumber_11 rfl ?_
    exact g_iret B E rfl dX7_readNumber_12 (Or.inl ⟨e, hN, rfl, hEu, hF⟩)
  · refine g_istn3 B dX7_readNumber_6 (by decide) rfl ?_
    refine g_aload_n B dX7_readNumber_7 rfl ?_
    refine g_callVV B (ct_X7_next hM hL.1 hL.2.2.2.1 (tE_ge b hL.2.2.2.2.2.2).2) (by first | rfl | assumption) rfl ml_X7_130 mm_X7_next rfl rfl (Nat.le_of_ble_eq_true rfl) dX7_readNumber_8 (by decide) ?_
    rintro u ⟨hSu, hF⟩
    refine g_iload_n B dX7_readNumber_11 rfl ?_
    exact g_iret B E rfl dX7_readNumber_12 (Or.inr ⟨v, hN, v99, rfl, hSu, hF⟩)
set_option maxHeartbeats 4000000 in
set_option maxRecDepth 100000 in
theorem rn_E {I : Wo} {e : Nat × Nat} (hE : Er I e) (lo hi : Int32) : Ct yX7_readNumber cX7_readNumber 4 (some .int) 2 47 [.ref 57, .int lo, .int hi] I (pI (fun r u => r = 0 ∧ I = u)) := by
  refine ct_of RX7 rfl (by decide) (Nat.le_of_ble_eq_true rfl) (fun X B E => ?_)
  show GW X 4 0 [some (.ref 57), some (.int lo), some (.int hi), none] [] _
  refine g_aload_n B dX7_readNumber_0 rfl ?_
  refine g_iload_n B dX7_readNumber_1 rfl ?_
  refine g_iload_n B dX7_readNumber_2 rfl ?_
  refine g_callVI B (cn_looked hE lo hi) (by first | rfl | assumption) rfl ml_X7_126 mm_X7_looked rfl rfl (Nat.le_of_ble_eq_true rfl) dX7_readNumber_3 (by decide) ?_
  rintro _ _ ⟨rfl, rfl⟩
  refine g_istn3 B dX7_readNumber_6 (by decide) rfl ?_
  refine g_aload_n B dX7_readNumber_7 rfl ?_
  refine g_callVV B (cn_next hE) (by first | rfl | assumption) rfl ml_X7_130 mm_X7_next rfl rfl (Nat.le_of_ble_eq_true rfl) dX7_readNumber_8 (by decide) ?_
  rintro _ rfl
  refine g_iload_n B dX7_readNumber_11 rfl ?_
  exact g_iret B E rfl dX7_readNumber_12 ⟨rfl, rfl⟩
set_option maxHeartbeats 4000000 in
set_option maxRecDepth 100000 in
theorem rm_S {I : Wo} {b : Nat → Nat} {q p c : Nat} (hM : MB I b q) (hS : Sn I b q p) (S0 : Int32) : Ct yX7_readMore cX7_readMore 4 (some .int) 2 47 [.ref 57, .int S0, .int (nI c - 1)] I (pI (fun r u => (∃ e : Nat × Nat, mr b q p c S0 = .error e ∧ Er u e ∧ FrN I u) ∨ (∃ v : Nat, mr b q p c S0 = .ok v ∧ v ≤ 99 ∧ Sn u b q (tE b q p) ∧ (Ld u b q (tE b q p) → r = S0 ||| ((1 : Int32) <<< (nI v &&& 31))) ∧ FrN I u))) := by
  refine ct_of RX7 rfl (by decide) (Nat.le_of_ble_eq_true rfl) (fun X B E => ?_)
  show GW X 4 0 [some (.ref 57), some (.int S0), some (.int (nI c - 1)), none] [] _
  refine g_aload_n B dX7_readMore_0 rfl ?_
  refine g_iconst B (v := 0) dX7_readMore_1 (by decide) ?_
  refine g_iload_n B dX7_readMore_2 rfl ?_
  refine g_callVI B (lk_S hS 0 (nI c - 1)) (by first | rfl | assumption) rfl ml_X7_126 mm_X7_looked rfl rfl (Nat.le_of_ble_eq_true rfl) dX7_readMore_3 (by decide) ?_
  rintro _ _ (⟨e, hN, rfl, hEu, hF⟩ | ⟨v, hN, v99, rfl, rfl, hL⟩)
  · obtain ⟨e19, e20, he0, he8⟩ := id hEu
    refine g_istn3 B dX7_readMore_6 (by decide) rfl ?_
    refine g_aload_n B dX7_readMore_7 rfl ?_
    refine g_geti B ci_X7 (by first | rfl | assumption) rfl (by decide) fl_X7_84 dX7_readMore_8 ?_
    rw [e19]
    refine g_if_ne B 32 dX7_readMore_11 (by decide) (fun h11 => ?_) (fun h11 => ?_)
    · refine g_aload_n B dX7_readMore_32 rfl ?_
      refine g_callVV B (cn_next hEu) (by first | rfl | assumption) rfl ml_X7_130 mm_X7_next rfl rfl (Nat.le_of_ble_eq_true rfl) dX7_readMore_33 (by decide) ?_
      rintro _ rfl
      refine g_aload_n B dX7_readMore_36 rfl ?_
      refine g_geti B ci_X7 (by first | rfl | assumption) rfl (by decide) fl_X7_84 dX7_readMore_37 ?_
      rw [e19]
      refine g_if_ne B 51 dX7_readMore_40 (by decide) (fun h40 => ?_) (fun h40 => ?_)
      · refine g_iload_n B dX7_readMore_51 rfl ?_
        exact g_iret B E rfl dX7_readMore_52 (Or.inl ⟨e, by rw [mr, hN], hEu, hF⟩)
      · exact absurd ((nI_eq (by omega) (by decide)).mp h40) he0
    · exact absurd ((nI_eq (by omega) (by decide)).mp h11) he0
  · obtain ⟨h19, h16, h17, h15, h18, hB, hpq⟩ := id hL
    refine g_istn3 B dX7_readMore_6 (by decide) rfl ?_
    refine g_aload_n B dX7_readMore_7 rfl ?_
    refine g_geti B ci_X7 (by first | rfl | assumption) rfl (by decide) fl_X7_84 dX7_readMore_8 ?_
    rw [h19]
    refine g_if_ne B 32 dX7_readMore_11 (by decide) (fun h11 => ?_) (fun h11 => ?_)
    · exact absurd rfl h11
    · refine g_aload_n B dX7_readMore_14 rfl ?_
      refine g_iload_n B dX7_readMore_15 rfl ?_
      refine g_iload_n B dX7_readMore_16 rfl ?_
      refine g_ishr B dX7_readMore_17 ?_
      refine g_iconst B (v := 1) dX7_readMore_18 (by decide) ?_
      refine g_iand B dX7_readMore_19 ?_
      refine g_if_ne B 27 dX7_readMore_20 (by decide) (fun h20 => ?_) (fun h20 => ?_)
      · refine g_iconst B (v := 0) dX7_readMore_27 (by decide) ?_
        refine g_eqi (bI false) rfl ?_
        refine g_iconst B (v := 4) dX7_readMore_28 (by decide) ?_
        refine g_callVV B (ct_X7_needs false 4) (by first | rfl | assumption) rfl ml_X7_122 mm_X7_needs rfl rfl (Nat.le_of_ble_eq_true rfl) dX7_readMore_29 (by decide) ?_
        rintro _ (⟨hg, rfl⟩ | ⟨hg, hf0, rfl⟩)
        · exact absurd hg (by simp [h19])
        · have hE4 : Er (w2 (w2 I 57 19 4) 57 20 (I 57 16)) (4, tS b q p) := ⟨rfl, h16, (er8 rfl).1, (er8 rfl).2⟩
          refine g_aload_n B dX7_readMore_32 rfl ?_
          refine g_callVV B (cn_next hE4) (by first | rfl | assumption) rfl ml_X7_130 mm_X7_next rfl rfl (Nat.le_of_ble_eq_true rfl) dX7_readMore_33 (by decide) ?_
          rintro _ rfl
          refine g_aload_n B dX7_readMore_36 rfl ?_
          refine g_geti B ci_X7 (by first | rfl | assumption) rfl (by decide) fl_X7_84 dX7_readMore_37 ?_
          rw [show (w2 (w2 I 57 19 4) 57 20 (I 57 16)) 57 19 = 4 from rfl]
          refine g_if_ne B 51 dX7_readMore_40 (by decide) (fun h40 => ?_) (fun h40 => ?_)
          · refine g_iload_n B dX7_readMore_51 rfl ?_
            exact g_iret B E rfl dX7_readMore_52 (Or.inl ⟨(4, tS b q p), by rw [mr, hN]; simp only [if_neg h20], hE4, frN_w2 (by decide) (by decide) (frN_w2 (by decide) (by decide) frN_0)⟩)
          · exact absurd h40 (by decide)
      · refine g_iconst B (v := 1) dX7_readMore_23 (by decide) ?_
        refine g_goto B 28 dX7_readMore_24 (by decide) ?_
        refine g_eqi (bI true) rfl ?_
        refine g_iconst B (v := 4) dX7_readMore_28 (by decide) ?_
        refine g_callVV B (ct_X7_needs true 4) (by first | rfl | assumption) rfl ml_X7_122 mm_X7_needs rfl rfl (Nat.le_of_ble_eq_true rfl) dX7_readMore_29 (by decide) ?_
        rintro _ (⟨hg, rfl⟩ | ⟨hg, hf0, rfl⟩)
        · refine g_aload_n B dX7_readMore_32 rfl ?_
          refine g_callVV B (ct_X7_next hM hL.1 hL.2.2.2.1 (tE_ge b hL.2.2.2.2.2.2).2) (by first | rfl | assumption) rfl ml_X7_130 mm_X7_next rfl rfl (Nat.le_of_ble_eq_true rfl) dX7_readMore_33 (by decide) ?_
          rintro u ⟨hSu, hF⟩
          refine g_aload_n B dX7_readMore_36 rfl ?_
          refine g_geti B ci_X7 (by first | rfl | assumption) rfl (by decide) fl_X7_84 dX7_readMore_37 ?_
          
          refine g_if_ne B 51 dX7_readMore_40 (by decide) (fun h40 => ?_) (fun h40 => ?_)
          · refine g_iload_n B dX7_readMore_51 rfl ?_
            exact g_iret B E rfl dX7_readMore_52 (Or.inr ⟨v, by rw [mr, hN]; simp only [if_pos h20], v99, hSu, fun z => absurd z.1 h40, hF⟩)
          · refine g_iload_n B dX7_readMore_43 rfl ?_
            refine g_iconst B (v := 1) dX7_readMore_44 (by decide) ?_
            refine g_iload_n B dX7_readMore_45 rfl ?_
            refine g_ishl B dX7_readMore_46 ?_
            refine g_ior B dX7_readMore_47 ?_
            refine g_goto B 52 dX7_readMore_48 (by decide) ?_
            exact g_iret B E rfl dX7_readMore_52 (Or.inr ⟨v, by rw [mr, hN]; simp only [if_pos h20], v99, hSu, fun _ => rfl, hF⟩)
        · exact absurd hg (by decide)
set_option maxHeartbeats 4000000 in
set_option maxRecDepth 100000 in
theorem rm_E {I : Wo} {e : Nat × Nat} (hE : Er I e) (S0 m0 : Int32) : Ct yX7_readMore cX7_readMore 4 (some .int) 2 47 [.ref 57, .int S0, .int m0] I (pI (fun r u => I = u)) := by
  obtain ⟨e19, e20, he0, he8⟩ := id hE
  refine ct_of RX7 rfl (by decide) (Nat.le_of_ble_eq_true rfl) (fun X B E => ?_)
  show GW X 4 0 [some (.ref 57), some (.int S0), some (.int m0), none] [] _
  refine g_aload_n B dX7_readMore_0 rfl ?_
  refine g_iconst B (v := 0) dX7_readMore_1 (by decide) ?_
  refine g_iload_n B dX7_readMore_2 rfl ?_
  refine g_callVI B (cn_looked hE _ _) (by first | rfl | assumption) rfl ml_X7_126 mm_X7_looked rfl rfl (Nat.le_of_ble_eq_true rfl) dX7_readMore_3 (by decide) ?_
  rintro _ _ ⟨rfl, rfl⟩
  refine g_istn3 B dX7_readMore_6 (by decide) rfl ?_
  refine g_aload_n B dX7_readMore_7 rfl ?_
  refine g_geti B ci_X7 (by first | rfl | assumption) rfl (by decide) fl_X7_84 dX7_readMore_8 ?_
  rw [e19]
  refine g_if_ne B 32 dX7_readMore_11 (by decide) (fun h11 => ?_) (fun h11 => ?_)
  · refine g_aload_n B dX7_readMore_32 rfl ?_
    refine g_callVV B (cn_next hE) (by first | rfl | assumption) rfl ml_X7_130 mm_X7_next rfl rfl (Nat.le_of_ble_eq_true rfl) dX7_readMore_33 (by decide) ?_
    rintro _ rfl
    refine g_aload_n B dX7_readMore_36 rfl ?_
    refine g_geti B ci_X7 (by first | rfl | assumption) rfl (by decide) fl_X7_84 dX7_readMore_37 ?_
    rw [e19]
    refine g_if_ne B 51 dX7_readMore_40 (by decide) (fun h40 => ?_) (fun h40 => ?_)
    · refine g_iload_n B dX7_readMore_51 rfl ?_
      exact g_iret B E rfl dX7_readMore_52 rfl
    · exact absurd ((nI_eq (by omega) (by decide)).mp h40) he0
  · exact absurd ((nI_eq (by omega) (by decide)).mp h11) he0
set_option maxHeartbeats 4000000 in
set_option maxRecDepth 100000 in
theorem rc_S {I : Wo} {b : Nat → Nat} {q p : Nat} (hM : MB I b q) (hS : Sn I b q p) : Ct yX7_readClaim cX7_readClaim 2 (some .int) 3 70 [.ref 57] I (pI (fun r u => (∃ e : Nat × Nat, rdN b q p 0 7 = .error e ∧ Er u e ∧ FrH I u) ∨ (∃ v : Nat, rdN b q p 0 7 = .ok v ∧ v ≤ 99 ∧ r = nI v ∧ Sn u b q (tE b q p) ∧ u 57 12 = (if I 57 12 < nI v then nI v else I 57 12) ∧ FrH I u))) := by
  refine ct_of RX7 rfl (by decide) (Nat.le_of_ble_eq_true rfl) (fun X B E => ?_)
  show GW X 2 0 [some (.ref 57), none] [] _
  refine g_aload_n B dX7_readClaim_0 rfl ?_
  refine g_iconst B (v := 0) dX7_readClaim_1 (by decide) ?_
  refine g_bipush B (v := 7) dX7_readClaim_2 (by decide) ?_
  refine g_callVI B (rn_S hM hS 0 7) (by first | rfl | assumption) rfl ml_X7_133 mm_X7_readNumber rfl rfl (Nat.le_of_ble_eq_true rfl) dX7_readClaim_4 (by decide) ?_
  rintro _ u (⟨e, hN, rfl, hEu, hF⟩ | ⟨v, hN, v99, rfl, hSu, hF⟩)
  · have h12 := hF 57 12 (fun _ => by decide)
    refine g_istn1 B dX7_readClaim_7 (by decide) rfl ?_
    refine g_aload_n B dX7_readClaim_8 rfl ?_
    refine g_iload_n B dX7_readClaim_9 rfl ?_
    refine g_aload_n B dX7_readClaim_10 rfl ?_
    refine g_geti B ci_X7 (by first | rfl | assumption) rfl (by decide) fl_X7_69 dX7_readClaim_11 ?_
    rw [h12]
    refine g_icmp_le B 21 dX7_readClaim_14 (by decide) (fun h14 => ?_) (fun h14 => ?_)
    · refine g_aload_n B dX7_readClaim_21 rfl ?_
      refine g_geti B ci_X7 (by first | rfl | assumption) rfl (by decide) fl_X7_69 dX7_readClaim_22 ?_
      rw [h12]
      refine g_put B ci_X7 (by first | rfl | assumption) rfl (by decide) fl_X7_69 rfl rfl rfl dX7_readClaim_25 ?_
      refine g_iload_n B dX7_readClaim_28 rfl ?_
      exact g_iret B E rfl dX7_readClaim_29 (Or.inl ⟨e, hN, ⟨hEu.1, hEu.2.1, hEu.2.2.1, hEu.2.2.2⟩, frH_w2 hF⟩)
    · refine g_iload_n B dX7_readClaim_17 rfl ?_
      refine g_goto B 25 dX7_readClaim_18 (by decide) ?_
      refine g_put B ci_X7 (by first | rfl | assumption) rfl (by decide) fl_X7_69 rfl rfl rfl dX7_readClaim_25 ?_
      refine g_iload_n B dX7_readClaim_28 rfl ?_
      exact g_iret B E rfl dX7_readClaim_29 (Or.inl ⟨e, hN, ⟨hEu.1, hEu.2.1, hEu.2.2.1, hEu.2.2.2⟩, frH_w2 hF⟩)
  · have h12 := hF 57 12 (fun _ => by decide)
    refine g_istn1 B dX7_readClaim_7 (by decide) rfl ?_
    refine g_aload_n B dX7_readClaim_8 rfl ?_
    refine g_iload_n B dX7_readClaim_9 rfl ?_
    refine g_aload_n B dX7_readClaim_10 rfl ?_
    refine g_geti B ci_X7 (by first | rfl | assumption) rfl (by decide) fl_X7_69 dX7_readClaim_11 ?_
    rw [h12]
    refine g_icmp_le B 21 dX7_readClaim_14 (by decide) (fun h14 => ?_) (fun h14 => ?_)
    · refine g_aload_n B dX7_readClaim_21 rfl ?_
      refine g_geti B ci_X7 (by first | rfl | assumption) rfl (by decide) fl_X7_69 dX7_readClaim_22 ?_
      rw [h12]
      refine g_put B ci_X7 (by first | rfl | assumption) rfl (by decide) fl_X7_69 rfl rfl rfl dX7_readClaim_25 ?_
      refine g_iload_n B dX7_readClaim_28 rfl ?_
      exact g_iret B E rfl dX7_readClaim_29 (Or.inr ⟨v, hN, v99, rfl, sn_12 hSu, by rw [w2_same, if_neg (le_not_lt h14)], frH_w2 hF⟩)
    · refine g_iload_n B dX7_readClaim_17 rfl ?_
      refine g_goto B 25 dX7_readClaim_18 (by decide) ?_
      refine g_put B ci_X7 (by first | rfl | assumption) rfl (by decide) fl_X7_69 rfl rfl rfl dX7_readClaim_25 ?_
      refine g_iload_n B dX7_readClaim_28 rfl ?_
      exact g_iret B E rfl dX7_readClaim_29 (Or.inr ⟨v, hN, v99, rfl, sn_12 hSu, by rw [w2_same, if_pos (not_le_lt h14)], frH_w2 hF⟩)

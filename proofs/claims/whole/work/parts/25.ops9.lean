def agF (sd : Nat → Int32) (rd : Nat → Bool) (stood s : Int32) : Nat → Bool
  | 0 => true
  | k + 1 => agF sd rd stood s k && ((rd k && decide (sd k &&& s = 0)) == decide ((stood >>> (nI k &&& 31)) &&& 1 = 1))
theorem agF_no {sd : Nat → Int32} {rd : Nat → Bool} {stood s : Int32} {i : Nat} : ∀ {q : Nat}, i < q → agF sd rd stood s (i + 1) = false → agF sd rd stood s q = false
  | 0, h, _ => absurd h (Nat.not_lt_zero i)
  | q + 1, h, h2 => by
    by_cases e : i = q
    · subst e; exact h2
    · rw [agF, agF_no (by omega) h2]; rfl
def ftF (ok : Nat → Bool) (could : Int32) (s0 : Int32 × Int32 × Int32 × Int32) : Nat → Int32 × Int32 × Int32 × Int32
  | 0 => s0
  | k + 1 => if (decide (nI k &&& (could ^^^ (-1)) = 0) && ok k) = true then ((ftF ok could s0 k).1 + 1, if (ftF ok could s0 k).1 = 0 then nI k else (ftF ok could s0 k).2.1, (ftF ok could s0 k).2.2.1 &&& nI k, (ftF ok could s0 k).2.2.2 ||| nI k) else ftF ok could s0 k
def fitR (what could : Int32) (s : Int32 × Int32 × Int32 × Int32) : Int32 := if what = 0 then s.1 else if s.1 = 0 then -4 else if what = 1 then s.2.1 else if what = 2 then s.2.2.1 else could &&& (s.2.2.2 ^^^ (-1))
theorem fitN {what c : Int32} {s : Int32 × Int32 × Int32 × Int32} (h : ¬ what = 0) (h2 : s.1 = 0) : fitR what c s = -4 := by rw [fitR, if_neg h, if_pos h2]
theorem fit1 {what c : Int32} {s : Int32 × Int32 × Int32 × Int32} (h : what = 1) (h2 : ¬ s.1 = 0) : fitR what c s = s.2.1 := by rw [h, fitR, if_neg (by decide), if_neg h2, if_pos rfl]
theorem fit2 {what c : Int32} {s : Int32 × Int32 × Int32 × Int32} (h : what = 2) (h2 : ¬ s.1 = 0) : fitR what c s = s.2.2.1 := by rw [h, fitR, if_neg (by decide), if_neg h2, if_neg (by decide), if_pos rfl]
theorem fit3 {what c : Int32} {s : Int32 × Int32 × Int32 × Int32} (h : ¬ what = 0) (h1 : ¬ what = 1) (h3 : ¬ what = 2) (h2 : ¬ s.1 = 0) : fitR what c s = c &&& (s.2.2.2 ^^^ (-1)) := by rw [fitR, if_neg h, if_neg h2, if_neg h1, if_neg h3]
theorem ft_in {ok : Nat → Bool} {could : Int32} {s0 : Int32 × Int32 × Int32 × Int32} {k : Nat} (h1 : nI k &&& (could ^^^ (-1)) = 0) (h2 : ok k = true) : ftF ok could s0 (k + 1) = ((ftF ok could s0 k).1 + 1, if (ftF ok could s0 k).1 = 0 then nI k else (ftF ok could s0 k).2.1, (ftF ok could s0 k).2.2.1 &&& nI k, (ftF ok could s0 k).2.2.2 ||| nI k) := by rw [ftF, if_pos (by rw [h2, decide_eq_true h1]; rfl)]
theorem ft_no1 {ok : Nat → Bool} {could : Int32} {s0 : Int32 × Int32 × Int32 × Int32} {k : Nat} (h1 : ¬ nI k &&& (could ^^^ (-1)) = 0) : ftF ok could s0 (k + 1) = ftF ok could s0 k := by rw [ftF, if_neg (by rw [decide_eq_false h1, Bool.false_and]; decide)]
theorem ft_no2 {ok : Nat → Bool} {could : Int32} {s0 : Int32 × Int32 × Int32 × Int32} {k : Nat} (h2 : ok k = false) : ftF ok could s0 (k + 1) = ftF ok could s0 k := by rw [ftF, if_neg (by rw [h2, Bool.and_false]; decide)]
def soF (es : Nat → Bool) (st : Nat → Int32) : Nat → Bool
  | 0 => true
  | k + 1 => soF es st k && decide (bI (es k) = st k)
theorem eso_eq {I : Wo} {n e : Nat} {s x : Int32} (he : e < n) (hn : n ≤ 8) : esF n (w2 I 58 (8 + e) s 58) (fun c => w2 I 58 (8 + e) s 58 (8 + c)) (nI e) x = esF n (I 58) (fun c => w2 I 58 (8 + e) s 58 (8 + c)) (nI e) x :=
  esF_congr (fun c hc => w2_slot I _ (by omega)) (fun c hc => rfl)
set_option maxHeartbeats 4000000 in
set_option maxRecDepth 100000 in
theorem ct_X1_prepare {I : Wo} {n e q : Nat} (hn : I 1 9 = nI n) (hn8 : n ≤ 8) (hee : I 1 10 = nI e) (hen : e < n) (hq : I 1 14 = nI q) (hq6 : q ≤ 6) : Ct yX1_prepare cX1_prepare 4 none 1 24 [.ref 53, .ref 1] I (pV (fun u => (∀ k, k < q → u 54 k = (fun k => stF (I 6) (I 7) (I 9 k) n) k ∧ u 55 k = bI ((fun k => decide ((I 9 k >>> (nI e &&& 31)) &&& 1 = 1) && decide (I 6 e &&& (stF (I 6) (I 7) (I 9 k) n ^^^ (-1)) = 0)) k)) ∧ ∀ x y, x ≠ 54 → x ≠ 55 → u x y = I x y)) := by
  refine ct_of RX1 rfl (by decide) (Nat.le_of_ble_eq_true rfl) (fun X B E => ?_)
  show GW X 4 0 [some (.ref 53), some (.ref 1), none, none] [] _
  refine g_aload_n B dX1_prepare_0 rfl ?_
  refine g_getr B ci_X3 (by first | rfl | assumption) rfl (by decide) fl_X1_41 dX1_prepare_1 ?_
  refine g_aload_n B dX1_prepare_4 rfl ?_
  refine g_geti B ci_X3 (by first | rfl | assumption) rfl (by decide) fl_X1_32 dX1_prepare_5 ?_
  refine g_iald B (by first | rfl | assumption) e hee (by first | decide | omega | assumption) (by decide) dX1_prepare_8 ?_
  refine g_istn2 B dX1_prepare_9 (by decide) rfl ?_
  refine g_iconst B (v := 0) dX1_prepare_10 (by decide) ?_
  refine g_istn3 B dX1_prepare_11 (by decide) rfl ?_
  have L : ∀ i, i ≤ q → ∀ (W : Wo), (∀ k, k < i → W 54 k = (fun k => stF (I 6) (I 7) (I 9 k) n) k ∧ W 55 k = bI ((fun k => decide ((I 9 k >>> (nI e &&& 31)) &&& 1 = 1) && decide (I 6 e &&& (stF (I 6) (I 7) (I 9 k) n ^^^ (-1)) = 0)) k)) → (∀ x y, x ≠ 54 → x ≠ 55 → W x y = I x y) → GW X 4 12 [some (.ref 53), some (.ref 1), some (.int (I 6 e)), some (.int (nI i))] [] W := by
    refine loopN q (fun i hi ih W hk hW => ?_)
    have hn2 : W 1 9 = nI n := by rw [hW 1 9 (by decide) (by decide)]; exact hn
    refine g_iload_n B dX1_prepare_12 rfl ?_
    refine g_aload_n B dX1_prepare_13 rfl ?_
    refine g_geti B ci_X3 (by first | rfl | assumption) rfl (by decide) fl_X1_55 dX1_prepare_14 ?_
    rw [hW 1 14 (by decide) (by decide), hq]
    refine g_icmp_ge B 83 dX1_prepare_17 (by decide) (fun h17 => ?_) (fun h17 => ?_)
    · have hi2 : i = q := by have := le_le (a := q) (b := i) (by omega) (by omega) h17; omega
      exact g_vret B E dX1_prepare_83 ⟨by subst hi2; exact hk, hW⟩
    · have hlt : i < q := nle_lt (by omega) (by omega) h17
      refine g_aload_n B dX1_prepare_20 rfl ?_
      refine g_getr B ci_X1 (by first | rfl | assumption) rfl (by decide) fl_X1_9 dX1_prepare_21 ?_
      refine g_iload_n B dX1_prepare_24 rfl ?_
      refine g_aload_n B dX1_prepare_25 rfl ?_
      refine g_aload_n B dX1_prepare_26 rfl ?_
      refine g_getr B ci_X3 (by first | rfl | assumption) rfl (by decide) fl_X1_58 dX1_prepare_27 ?_
      refine g_iload_n B dX1_prepare_30 rfl ?_
      refine g_iald B (by first | rfl | assumption) _ (by first | with_reducible rfl | exact lit_add _ _ | exact add_lit _ _ | exact nI_add _ _ | exact lit_nI _ | assumption | rfl) (by first | decide | omega | assumption) (by decide) dX1_prepare_31 ?_
      rw [hW 9 i (by decide) (by decide)]
      refine g_callVI B (cs_X3_standing hn2 hn8 _) (by first | rfl | assumption) rfl ml_X1_61 mm_X3_standing rfl rfl (Nat.le_of_ble_eq_true rfl) dX1_prepare_32 (by decide) ?_
      rintro _ _ ⟨rfl, rfl⟩
      rw [show W 6 = I 6 from funext fun y => hW 6 y (by decide) (by decide), show W 7 = I 7 from funext fun y => hW 7 y (by decide) (by decide)]
      refine g_iast B (by first | rfl | assumption) _ (by first | with_reducible rfl | exact lit_add _ _ | exact add_lit _ _ | exact nI_add _ _ | exact lit_nI _ | assumption | rfl) (by first | decide | omega | assumption) (by decide) dX1_prepare_35 ?_
      refine g_aload_n B dX1_prepare_36 rfl ?_
      refine g_getr B ci_X1 (by first | rfl | assumption) rfl (by decide) fl_X1_15 dX1_prepare_37 ?_
      refine g_iload_n B dX1_prepare_40 rfl ?_
      refine g_aload_n B dX1_prepare_41 rfl ?_
      refine g_getr B ci_X3 (by first | rfl | assumption) rfl (by decide) fl_X1_58 dX1_prepare_42 ?_
      refine g_iload_n B dX1_prepare_45 rfl ?_
      refine g_iald B (by first | rfl | assumption) _ (by first | with_reducible rfl | exact lit_add _ _ | exact add_lit _ _ | exact nI_add _ _ | exact lit_nI _ | assumption | rfl) (by first | decide | omega | assumption) (by decide) dX1_prepare_46 ?_
      rw [w2_cell _ _ (show 9 ≠ 54 by decide), hW 9 i (by decide) (by decide)]
      refine g_aload_n B dX1_prepare_47 rfl ?_
      refine g_geti B ci_X3 (by first | rfl | assumption) rfl (by decide) fl_X1_32 dX1_prepare_48 ?_
      rw [w2_cell _ _ (show 1 ≠ 54 by decide), hW 1 10 (by decide) (by decide), hee]
      refine g_ishr B dX1_prepare_51 ?_
      refine g_iconst B (v := 1) dX1_prepare_52 (by decide) ?_
      refine g_iand B dX1_prepare_53 ?_
      refine g_iconst B (v := 1) dX1_prepare_54 (by decide) ?_
      refine g_icmp_ne B 75 dX1_prepare_55 (by decide) (fun h55 => ?_) (fun h55 => ?_)
      · refine g_iconst B (v := 0) dX1_prepare_75 (by decide) ?_
        refine g_zast B (by first | rfl | assumption) _ (by first | with_reducible rfl | exact lit_add _ _ | exact add_lit _ _ | exact nI_add _ _ | exact lit_nI _ | assumption | rfl) (by first | decide | omega | assumption) (by decide) dX1_prepare_76 ?_
        refine g_inc3 B dX1_prepare_77 rfl (inc1 _) (by decide) rfl ?_
        refine g_goto B 12 dX1_prepare_80 (by decide) ?_
        refine ih hlt _ (lt_s (fun k hk2 => ?_) ⟨?_, ?_⟩) (fun x y h1 h2 => ?_)
        · rw [w2_cell _ _ (show 54 ≠ 55 by decide), w2_slot _ _ (show k ≠ i by omega), w2_slot _ _ (show k ≠ i by omega), w2_cell _ _ (show 55 ≠ 54 by decide)]; exact hk k hk2
        · rw [w2_cell _ _ (show 54 ≠ 55 by decide), w2_same]
        · rw [w2_same]; simp only [h55, decide_true, decide_false, Bool.and_true, Bool.and_false, Bool.true_and, Bool.false_and]; rfl
        · rw [w2_cell _ _ h2, w2_cell _ _ h1]; exact hW x y h1 h2
      · refine g_iload_n B dX1_prepare_58 rfl ?_
        refine g_aload_n B dX1_prepare_59 rfl ?_
        refine g_getr B ci_X1 (by first | rfl | assumption) rfl (by decide) fl_X1_9 dX1_prepare_60 ?_
        refine g_iload_n B dX1_prepare_63 rfl ?_
        refine g_iald B (by first | rfl | assumption) _ (by first | with_reducible rfl | exact lit_add _ _ | exact add_lit _ _ | exact nI_add _ _ | exact lit_nI _ | assumption | rfl) (by first | decide | omega | assumption) (by decide) dX1_prepare_64 ?_
        rw [w2_same]
        refine g_iconst B (v := (-1)) dX1_prepare_65 (by decide) ?_
        refine g_ixor B dX1_prepare_66 ?_
        refine g_iand B dX1_prepare_67 ?_
        refine g_if_ne B 75 dX1_prepare_68 (by decide) (fun h68 => ?_) (fun h68 => ?_)
        · refine g_iconst B (v := 0) dX1_prepare_75 (by decide) ?_
          refine g_zast B (by first | rfl | assumption) _ (by first | with_reducible rfl | exact lit_add _ _ | exact add_lit _ _ | exact nI_add _ _ | exact lit_nI _ | assumption | rfl) (by first | decide | omega | assumption) (by decide) dX1_prepare_76 ?_
          refine g_inc3 B dX1_prepare_77 rfl (inc1 _) (by decide) rfl ?_
          refine g_goto B 12 dX1_prepare_80 (by decide) ?_
          refine ih hlt _ (lt_s (fun k hk2 => ?_) ⟨?_, ?_⟩) (fun x y h1 h2 => ?_)
          · rw [w2_cell _ _ (show 54 ≠ 55 by decide), w2_slot _ _ (show k ≠ i by omega), w2_slot _ _ (show k ≠ i by omega), w2_cell _ _ (show 55 ≠ 54 by decide)]; exact hk k hk2
          · rw [w2_cell _ _ (show 54 ≠ 55 by decide), w2_same]
          · rw [w2_same]; simp only [h55, h68, decide_true, decide_false, Bool.and_true, Bool.and_false, Bool.true_and, Bool.false_and]; rfl
          · rw [w2_cell _ _ h2, w2_cell _ _ h1]; exact hW x y h1 h2
        · refine g_iconst B (v := 1) dX1_prepare_71 (by decide) ?_
          refine g_goto B 76 dX1_prepare_72 (by decide) ?_
          refine g_zast B (by first | rfl | assumption) _ (by first | with_reducible rfl | exact lit_add _ _ | exact add_lit _ _ | exact nI_add _ _ | exact lit_nI _ | assumption | rfl) (by first | decide | omega | assumption) (by decide) dX1_prepare_76 ?_
          refine g_inc3 B dX1_prepare_77 rfl (inc1 _) (by decide) rfl ?_
          refine g_goto B 12 dX1_prepare_80 (by decide) ?_
          refine ih hlt _ (lt_s (fun k hk2 => ?_) ⟨?_, ?_⟩) (fun x y h1 h2 => ?_)
          · rw [w2_cell _ _ (show 54 ≠ 55 by decide), w2_slot _ _ (show k ≠ i by omega), w2_slot _ _ (show k ≠ i by omega), w2_cell _ _ (show 55 ≠ 54 by decide)]; exact hk k hk2
          · rw [w2_cell _ _ (show 54 ≠ 55 by decide), w2_same]
          · rw [w2_same]; simp only [h55, h68, decide_true, decide_false, Bool.and_true, Bool.and_false, Bool.true_and, Bool.false_and]; rfl
          · rw [w2_cell _ _ h2, w2_cell _ _ h1]; exact hW x y h1 h2
  exact L 0 (Nat.zero_le _) _ (fun k hk => absurd hk (Nat.not_lt_zero k)) (fun _ _ _ _ => rfl)
set_option maxHeartbeats 4000000 in
set_option maxRecDepth 100000 in
theorem ct_X1_agrees {I : Wo} {q : Nat} {sd : Nat → Int32} {rd : Nat → Bool} (hq : I 1 14 = nI q) (hq6 : q ≤ 6) (hsr : ∀ k, k < q → I 54 k = sd k ∧ I 55 k = bI (rd k)) (s : Int32) : Ct yX1_agrees cX1_agrees 5 (some .boolean) 0 0 [.ref 53, .ref 1, .int s] I (pI (fun r u => r = bI (agF sd rd (I 1 8) s q) ∧ I = u)) := by
  refine ct_of RX1 rfl (by decide) (Nat.le_of_ble_eq_true rfl) (fun X B E => ?_)
  show GW X 5 0 [some (.ref 53), some (.ref 1), some (.int s), none, none] [] _
  refine g_iconst B (v := 0) dX1_agrees_0 (by decide) ?_
  refine g_istn3 B dX1_agrees_1 (by decide) rfl ?_
  have L : ∀ i, i ≤ q → ∀ p, agF sd rd (I 1 8) s i = true → GW X 5 2 [some (.ref 53), some (.ref 1), some (.int s), some (.int (nI i)), p] [] I := by
    refine loopN q (fun i hi ih p ha => ?_)
    refine g_iload_n B dX1_agrees_2 rfl ?_
    refine g_aload_n B dX1_agrees_3 rfl ?_
    refine g_geti B ci_X3 (by first | rfl | assumption) rfl (by decide) fl_X1_55 dX1_agrees_4 ?_
    refine g_icmp_ge B 67 dX1_agrees_7 (by decide) (fun h7 => ?_) (fun h7 => ?_)
    · have hi2 : i = q := by have := le_le (a := q) (b := i) (by omega) (by omega) (by rw [← hq]; exact h7); omega
      refine g_iconst B (v := 1) dX1_agrees_67 (by decide) ?_
      exact g_iret B E (by first | exact bI_nar _ | decide | exact bI_narv (by assumption)) dX1_agrees_68 ⟨by subst hi2; rw [ha]; rfl, rfl⟩
    · have hlt : i < q := nle_lt (by omega) (by omega) (by rw [← hq]; exact h7)
      obtain ⟨hs1, hs2⟩ := hsr i hlt
      refine g_aload_n B dX1_agrees_10 rfl ?_
      refine g_getr B ci_X1 (by first | rfl | assumption) rfl (by decide) fl_X1_15 dX1_agrees_11 ?_
      refine g_iload_n B dX1_agrees_14 rfl ?_
      refine g_zald B (by first | rfl | assumption) _ (by first | with_reducible rfl | exact lit_add _ _ | exact add_lit _ _ | exact nI_add _ _ | exact lit_nI _ | assumption | rfl) (by first | decide | omega | assumption) (by decide) dX1_agrees_15 ?_
      rw [hs2]
      refine g_if_eq B 34 dX1_agrees_16 (by decide) (fun h16 => ?_) (fun h16 => ?_)
      · rw [bI_eq0] at h16
        refine g_iconst B (v := 0) dX1_agrees_34 (by decide) ?_
        refine g_ist4 B dX1_agrees_35 (by decide) rfl ?_
        refine g_iload B dX1_agrees_37 rfl ?_
        refine g_aload_n B dX1_agrees_39 rfl ?_
        refine g_geti B ci_X3 (by first | rfl | assumption) rfl (by decide) fl_X1_64 dX1_agrees_40 ?_
        refine g_iload_n B dX1_agrees_43 rfl ?_
        refine g_ishr B dX1_agrees_44 ?_
        refine g_iconst B (v := 1) dX1_agrees_45 (by decide) ?_
        refine g_iand B dX1_agrees_46 ?_
        refine g_iconst B (v := 1) dX1_agrees_47 (by decide) ?_
        refine g_icmp_ne B 55 dX1_agrees_48 (by decide) (fun h48 => ?_) (fun h48 => ?_)
        · refine g_iconst B (v := 0) dX1_agrees_55 (by decide) ?_
          refine g_icmp_eq B 61 dX1_agrees_56 (by decide) (fun h56 => ?_) (fun h56 => ?_)
          · refine g_inc3 B dX1_agrees_61 rfl (inc1 _) (by decide) rfl ?_
            refine g_goto B 2 dX1_agrees_64 (by decide) ?_
            exact ih hlt _ (by simp [agF, *])
          · exact absurd rfl h56
        · refine g_iconst B (v := 1) dX1_agrees_51 (by decide) ?_
          refine g_goto B 56 dX1_agrees_52 (by decide) ?_
          refine g_icmp_eq B 61 dX1_agrees_56 (by decide) (fun h56 => ?_) (fun h56 => ?_)
          · exact absurd h56 (by decide)
          · refine g_iconst B (v := 0) dX1_agrees_59 (by decide) ?_
            exact g_iret B E (by first | exact bI_nar _ | decide | exact bI_narv (by assumption)) dX1_agrees_60 ⟨by rw [agF_no (i := i) hlt (by simp [agF, *])]; rfl, rfl⟩
      · rw [bI_ne0] at h16
        refine g_aload_n B dX1_agrees_19 rfl ?_
        refine g_getr B ci_X1 (by first | rfl | assumption) rfl (by decide) fl_X1_9 dX1_agrees_20 ?_
        refine g_iload_n B dX1_agrees_23 rfl ?_
        refine g_iald B (by first | rfl | assumption) _ (by first | with_reducible rfl | exact lit_add _ _ | exact add_lit _ _ | exact nI_add _ _ | exact lit_nI _ | assumption | rfl) (by first | decide | omega | assumption) (by decide) dX1_agrees_24 ?_
        rw [hs1]
        refine g_iload_n B dX1_agrees_25 rfl ?_
        refine g_iand B dX1_agrees_26 ?_
        refine g_if_ne B 34 dX1_agrees_27 (by decide) (fun h27 => ?_) (fun h27 => ?_)
        · refine g_iconst B (v := 0) dX1_agrees_34 (by decide) ?_
          refine g_ist4 B dX1_agrees_35 (by decide) rfl ?_
          refine g_iload B dX1_agrees_37 rfl ?_
          refine g_aload_n B dX1_agrees_39 rfl ?_
          refine g_geti B ci_X3 (by first | rfl | assumption) rfl (by decide) fl_X1_64 dX1_agrees_40 ?_
          refine g_iload_n B dX1_agrees_43 rfl ?_
          refine g_ishr B dX1_agrees_44 ?_
          refine g_iconst B (v := 1) dX1_agrees_45 (by decide) ?_
          refine g_iand B dX1_agrees_46 ?_
          refine g_iconst B (v := 1) dX1_agrees_47 (by decide) ?_
          refine g_icmp_ne B 55 dX1_agrees_48 (by decide) (fun h48 => ?_) (fun h48 => ?_)
          · refine g_iconst B (v := 0) dX1_agrees_55 (by decide) ?_
            refine g_icmp_eq B 61 dX1_agrees_56 (by decide) (fun h56 => ?_) (fun h56 => ?_)
            · refine g_inc3 B dX1_agrees_61 rfl (inc1 _) (by decide) rfl ?_
              refine g_goto B 2 dX1_agrees_64 (by decide) ?_
              exact ih hlt _ (by simp [agF, *])
            · exact absurd rfl h56
          · refine g_iconst B (v := 1) dX1_agrees_51 (by decide) ?_
            refine g_goto B 56 dX1_agrees_52 (by decide) ?_
            refine g_icmp_eq B 61 dX1_agrees_56 (by decide) (fun h56 => ?_) (fun h56 => ?_)
            · exact absurd h56 (by decide)
            · refine g_iconst B (v := 0) dX1_agrees_59 (by decide) ?_
              exact g_iret B E (by first | exact bI_nar _ | decide | exact bI_narv (by assumption)) dX1_agrees_60 ⟨by rw [agF_no (i := i) hlt (by simp [agF, *])]; rfl, rfl⟩
        · refine g_iconst B (v := 1) dX1_agrees_30 (by decide) ?_
          refine g_goto B 35 dX1_agrees_31 (by decide) ?_
          refine g_ist4 B dX1_agrees_35 (by decide) rfl ?_
          refine g_iload B dX1_agrees_37 rfl ?_
          refine g_aload_n B dX1_agrees_39 rfl ?_
          refine g_geti B ci_X3 (by first | rfl | assumption) rfl (by decide) fl_X1_64 dX1_agrees_40 ?_
          refine g_iload_n B dX1_agrees_43 rfl ?_
          refine g_ishr B dX1_agrees_44 ?_
          refine g_iconst B (v := 1) dX1_agrees_45 (by decide) ?_
          refine g_iand B dX1_agrees_46 ?_
          refine g_iconst B (v := 1) dX1_agrees_47 (by decide) ?_
          refine g_icmp_ne B 55 dX1_agrees_48 (by decide) (fun h48 => ?_) (fun h48 => ?_)
          · refine g_iconst B (v := 0) dX1_agrees_55 (by decide) ?_
            refine g_icmp_eq B 61 dX1_agrees_56 (by decide) (fun h56 => ?_) (fun h56 => ?_)
            · exact absurd h56 (by decide)
            · refine g_iconst B (v := 0) dX1_agrees_59 (by decide) ?_
              exact g_iret B E (by first | exact bI_nar _ | decide | exact bI_narv (by assumption)) dX1_agrees_60 ⟨by rw [agF_no (i := i) hlt (by simp [agF, *])]; rfl, rfl⟩
          · refine g_iconst B (v := 1) dX1_agrees_51 (by decide) ?_
            refine g_goto B 56 dX1_agrees_52 (by decide) ?_
            refine g_icmp_eq B 61 dX1_agrees_56 (by decide) (fun h56 => ?_) (fun h56 => ?_)
            · refine g_inc3 B dX1_agrees_61 rfl (inc1 _) (by decide) rfl ?_
              refine g_goto B 2 dX1_agrees_64 (by decide) ?_
              exact ih hlt _ (by simp [agF, *])
            · exact absurd rfl h56
  exact L 0 (Nat.zero_le _) _ rfl
set_option maxHeartbeats 4000000 in
set_option maxRecDepth 100000 in
theorem ct_X1_search {I : Wo} {n e q K : Nat} (hn : I 1 9 = nI n) (hn8 : n ≤ 8) (hee : I 1 10 = nI e) (hen : e < n) (hq : I 1 14 = nI q) (hq6 : q ≤ 6) (hK : (((1 : Int32) <<< (nI e &&& 31)) - 1 &&& (I 6 e ^^^ (-1))) = nI K) (hK8 : K < 256) : Ct yX1_search cX1_search 3 none 2 47 [.ref 53, .ref 1] I (pV (fun u => u 53 0 = nI K ∧ (u 53 1, u 53 2, u 53 3, u 53 4) = ftF (fun k => agF (fun k => stF (I 6) (I 7) (I 9 k) n) (fun k => decide ((I 9 k >>> (nI e &&& 31)) &&& 1 = 1) && decide (I 6 e &&& (stF (I 6) (I 7) (I 9 k) n ^^^ (-1)) = 0)) (I 1 8) (nI k) q) (((1 : Int32) <<< (nI e &&& 31)) - 1 &&& (I 6 e ^^^ (-1))) (0, 0, (((1 : Int32) <<< (nI e &&& 31)) - 1 &&& (I 6 e ^^^ (-1))), 0) (K + 1) ∧ (∀ x y, x ≠ 53 → x ≠ 54 → x ≠ 55 → u x y = I x y))) := by
  refine ct_of RX1 rfl (by decide) (Nat.le_of_ble_eq_true rfl) (fun X B E => ?_)
  show GW X 3 0 [some (.ref 53), some (.ref 1), none] [] _
  refine g_aload_n B dX1_search_0 rfl ?_
  refine g_iconst B (v := 0) dX1_search_1 (by decide) ?_
  refine g_put B ci_X1 (by first | rfl | assumption) rfl (by decide) fl_X1_19 rfl rfl rfl dX1_search_2 ?_
  refine g_aload_n B dX1_search_5 rfl ?_
  refine g_iconst B (v := 0) dX1_search_6 (by decide) ?_
  refine g_put B ci_X1 (by first | rfl | assumption) rfl (by decide) fl_X1_23 rfl rfl rfl dX1_search_7 ?_
  refine g_aload_n B dX1_search_10 rfl ?_
  refine g_iconst B (v := 0) dX1_search_11 (by decide) ?_
  refine g_put B ci_X1 (by first | rfl | assumption) rfl (by decide) fl_X1_26 rfl rfl rfl dX1_search_12 ?_
  refine g_aload_n B dX1_search_15 rfl ?_
  refine g_iconst B (v := 0) dX1_search_16 (by decide) ?_
  refine g_put B ci_X1 (by first | rfl | assumption) rfl (by decide) fl_X1_29 rfl rfl rfl dX1_search_17 ?_
  refine g_aload_n B dX1_search_20 rfl ?_
  refine g_aload_n B dX1_search_21 rfl ?_
  refine g_geti B ci_X3 (by first | rfl | assumption) rfl (by decide) fl_X1_32 dX1_search_22 ?_
  refine g_callVI B (cs_X3_hasClaim (I := w2 (w2 (w2 (w2 I 53 1 0) 53 2 0) 53 0 0) 53 4 0) (n := n) hn _) (by first | rfl | assumption) rfl ml_X1_37 mm_X3_hasClaim rfl rfl (Nat.le_of_ble_eq_true rfl) dX1_search_25 (by decide) ?_
  rintro _ _ ⟨rfl, rfl⟩
  refine g_if_eq B 60 dX1_search_28 (by decide) (fun h28 => ?_) (fun h28 => ?_)
  · rw [bI_eq0] at h28
    exact absurd ((cOK_iff (by omega)).mpr ⟨e, hen, hee⟩) (by rw [show cOK n (I 1 10) = false from h28]; decide)
  · rw [bI_ne0] at h28
    refine g_aload_n B dX1_search_31 rfl ?_
    refine g_iconst B (v := 1) dX1_search_32 (by decide) ?_
    refine g_aload_n B dX1_search_33 rfl ?_
    refine g_geti B ci_X3 (by first | rfl | assumption) rfl (by decide) fl_X1_32 dX1_search_34 ?_
    rw [show w2 (w2 (w2 (w2 I 53 1 0) 53 2 0) 53 0 0) 53 4 0 1 10 = nI e from hee]
    refine g_ishl B dX1_search_37 ?_
    refine g_iconst B (v := 1) dX1_search_38 (by decide) ?_
    refine g_isub B dX1_search_39 ?_
    refine g_aload_n B dX1_search_40 rfl ?_
    refine g_getr B ci_X3 (by first | rfl | assumption) rfl (by decide) fl_X1_41 dX1_search_41 ?_
    refine g_aload_n B dX1_search_44 rfl ?_
    refine g_geti B ci_X3 (by first | rfl | assumption) rfl (by decide) fl_X1_32 dX1_search_45 ?_
    refine g_iald B (by first | rfl | assumption) e hee (by first | decide | omega | assumption) (by decide) dX1_search_48 ?_
    rw [show w2 (w2 (w2 (w2 I 53 1 0) 53 2 0) 53 0 0) 53 4 0 6 e = I 6 e from rfl]
    refine g_iconst B (v := (-1)) dX1_search_49 (by decide) ?_
    refine g_ixor B dX1_search_50 ?_
    refine g_iand B dX1_search_51 ?_
    rw [hK]
    refine g_put B ci_X1 (by first | rfl | assumption) rfl (by decide) fl_X1_26 rfl rfl rfl dX1_search_52 ?_
    refine g_aload_n B dX1_search_55 rfl ?_
    refine g_aload_n B dX1_search_56 rfl ?_
    refine g_callVV B (ct_X1_prepare (I := w2 (w2 (w2 (w2 (w2 I 53 1 0) 53 2 0) 53 0 0) 53 4 0) 53 0 (nI K)) (n := n) (e := e) (q := q) hn hn8 hee hen hq hq6) (by first | rfl | assumption) rfl ml_X1_44 mm_X1_prepare rfl rfl (Nat.le_of_ble_eq_true rfl) dX1_search_57 (by decide) ?_
    rintro u ⟨hu1, hu2⟩
    have hu : (∀ x y, x ≠ 53 → x ≠ 54 → x ≠ 55 → u x y = I x y) := fun x y h1 h2 h3 => (hu2 x y h2 h3).trans (by simp only [w2, h1, false_and, ↓reduceIte])
    have hu3 : ∀ k, k < q → u 54 k = (fun k => stF (I 6) (I 7) (I 9 k) n) k ∧ u 55 k = bI ((fun k => decide ((I 9 k >>> (nI e &&& 31)) &&& 1 = 1) && decide (I 6 e &&& (stF (I 6) (I 7) (I 9 k) n ^^^ (-1)) = 0)) k) := hu1
    have c0 : u 53 0 = nI K := hu2 53 0 (by decide) (by decide)
    have c1 : u 53 1 = 0 := hu2 53 1 (by decide) (by decide)
    have c2 : u 53 2 = 0 := hu2 53 2 (by decide) (by decide)
    have c4 : u 53 4 = 0 := hu2 53 4 (by decide) (by decide)
    refine g_aload_n B dX1_search_60 rfl ?_
    refine g_aload_n B dX1_search_61 rfl ?_
    refine g_geti B ci_X1 (by first | rfl | assumption) rfl (by decide) fl_X1_26 dX1_search_62 ?_
    rw [c0]
    refine g_put B ci_X1 (by first | rfl | assumption) rfl (by decide) fl_X1_48 rfl rfl rfl dX1_search_65 ?_
    refine g_iconst B (v := 0) dX1_search_68 (by decide) ?_
    refine g_istn2 B dX1_search_69 (by decide) rfl ?_
    have L : ∀ i, i ≤ K + 1 → ∀ (W : Wo), W 53 0 = nI K → (W 53 1, W 53 2, W 53 3, W 53 4) = ftF (fun k => agF (fun k => stF (I 6) (I 7) (I 9 k) n) (fun k => decide ((I 9 k >>> (nI e &&& 31)) &&& 1 = 1) && decide (I 6 e &&& (stF (I 6) (I 7) (I 9 k) n ^^^ (-1)) = 0)) (I 1 8) (nI k) q) (((1 : Int32) <<< (nI e &&& 31)) - 1 &&& (I 6 e ^^^ (-1))) (0, 0, (((1 : Int32) <<< (nI e &&& 31)) - 1 &&& (I 6 e ^^^ (-1))), 0) i → (∀ k, k < q → W 54 k = (fun k => stF (I 6) (I 7) (I 9 k) n) k ∧ W 55 k = bI ((fun k => decide ((I 9 k >>> (nI e &&& 31)) &&& 1 = 1) && decide (I 6 e &&& (stF (I 6) (I 7) (I 9 k) n ^^^ (-1)) = 0)) k)) → (∀ x y, x ≠ 53 → x ≠ 54 → x ≠ 55 → W x y = I x y) → GW X 3 70 [some (.ref 53), some (.ref 1), some (.int (nI i))] [] W := by
      refine loopN (K + 1) (fun i hi ih W w0 wf ws hW => ?_)
      refine g_iload_n B dX1_search_70 rfl ?_
      refine g_aload_n B dX1_search_71 rfl ?_
      refine g_geti B ci_X1 (by first | rfl | assumption) rfl (by decide) fl_X1_26 dX1_search_72 ?_
      rw [w0]
      refine g_icmp_gt B 153 dX1_search_75 (by decide) (fun h75 => ?_) (fun h75 => ?_)
      · have hi2 : i = K + 1 := by have := lt_lt (a := K) (b := i) (by omega) (by omega) h75; omega
        exact g_vret B E dX1_search_153 ⟨w0, by rw [← hi2]; exact wf, hW⟩
      · have hlt : i < K + 1 := by have := not_lt_le (by omega) (by omega) h75; omega
        refine g_iload_n B dX1_search_78 rfl ?_
        refine g_aload_n B dX1_search_79 rfl ?_
        refine g_geti B ci_X1 (by first | rfl | assumption) rfl (by decide) fl_X1_26 dX1_search_80 ?_
        rw [w0]
        refine g_iconst B (v := (-1)) dX1_search_83 (by decide) ?_
        refine g_ixor B dX1_search_84 ?_
        refine g_iand B dX1_search_85 ?_
        refine g_if_ne B 147 dX1_search_86 (by decide) (fun h86 => ?_) (fun h86 => ?_)
        · refine g_inc2 B dX1_search_147 rfl (inc1 _) (by decide) rfl ?_
          refine g_goto B 70 dX1_search_150 (by decide) ?_
          exact ih hlt _ w0 (wf.trans (ft_no1 (k := i) (by rw [hK]; exact h86)).symm) ws hW
        · refine g_aload_n B dX1_search_89 rfl ?_
          refine g_aload_n B dX1_search_90 rfl ?_
          refine g_iload_n B dX1_search_91 rfl ?_
          refine g_callVI B (ct_X1_agrees (I := W) (by rw [hW 1 14 (by decide) (by decide) (by decide)]; exact hq) hq6 ws (nI i)) (by first | rfl | assumption) rfl ml_X1_51 mm_X1_agrees rfl rfl (Nat.le_of_ble_eq_true rfl) dX1_search_92 (by decide) ?_
          rintro _ _ ⟨rfl, rfl⟩
          rw [hW 1 8 (by decide) (by decide) (by decide)]
          refine g_if_eq B 147 dX1_search_95 (by decide) (fun h95 => ?_) (fun h95 => ?_)
          · rw [bI_eq0] at h95
            refine g_inc2 B dX1_search_147 rfl (inc1 _) (by decide) rfl ?_
            refine g_goto B 70 dX1_search_150 (by decide) ?_
            exact ih hlt _ w0 (wf.trans (ft_no2 (k := i) h95).symm) ws hW
          · rw [bI_ne0] at h95
            refine g_aload_n B dX1_search_98 rfl ?_
            refine g_aload_n B dX1_search_99 rfl ?_
            refine g_geti B ci_X1 (by first | rfl | assumption) rfl (by decide) fl_X1_19 dX1_search_100 ?_
            refine g_if_ne B 110 dX1_search_103 (by decide) (fun h103 => ?_) (fun h103 => ?_)
            · refine g_aload_n B dX1_search_110 rfl ?_
              refine g_geti B ci_X1 (by first | rfl | assumption) rfl (by decide) fl_X1_23 dX1_search_111 ?_
              refine g_put B ci_X1 (by first | rfl | assumption) rfl (by decide) fl_X1_23 rfl rfl rfl dX1_search_114 ?_
              refine g_aload_n B dX1_search_117 rfl ?_
              refine g_dup B dX1_search_118 rfl ?_
              refine g_geti B ci_X1 (by first | rfl | assumption) rfl (by decide) fl_X1_19 dX1_search_119 ?_
              refine g_iconst B (v := 1) dX1_search_122 (by decide) ?_
              refine g_iadd B dX1_search_123 ?_
              refine g_put B ci_X1 (by first | rfl | assumption) rfl (by decide) fl_X1_19 rfl rfl rfl dX1_search_124 ?_
              refine g_aload_n B dX1_search_127 rfl ?_
              refine g_dup B dX1_search_128 rfl ?_
              refine g_geti B ci_X1 (by first | rfl | assumption) rfl (by decide) fl_X1_48 dX1_search_129 ?_
              refine g_iload_n B dX1_search_132 rfl ?_
              refine g_iand B dX1_search_133 ?_
              refine g_put B ci_X1 (by first | rfl | assumption) rfl (by decide) fl_X1_48 rfl rfl rfl dX1_search_134 ?_
              refine g_aload_n B dX1_search_137 rfl ?_
              refine g_dup B dX1_search_138 rfl ?_
              refine g_geti B ci_X1 (by first | rfl | assumption) rfl (by decide) fl_X1_29 dX1_search_139 ?_
              refine g_iload_n B dX1_search_142 rfl ?_
              refine g_ior B dX1_search_143 ?_
              refine g_put B ci_X1 (by first | rfl | assumption) rfl (by decide) fl_X1_29 rfl rfl rfl dX1_search_144 ?_
              refine g_inc2 B dX1_search_147 rfl (inc1 _) (by decide) rfl ?_
              refine g_goto B 70 dX1_search_150 (by decide) ?_
              refine ih hlt _ (by simp only [w2]; simpa using w0) (by rw [ft_in (k := i) (by rw [hK]; exact h86) h95, ← wf]; simp [w2, h103]) (fun k hk => by simp only [w2]; simpa using ws k hk) (fun x y h1 h2 h3 => by simp only [w2, h1, false_and, ↓reduceIte]; exact hW x y h1 h2 h3)
            · refine g_iload_n B dX1_search_106 rfl ?_
              refine g_goto B 114 dX1_search_107 (by decide) ?_
              refine g_put B ci_X1 (by first | rfl | assumption) rfl (by decide) fl_X1_23 rfl rfl rfl dX1_search_114 ?_
              refine g_aload_n B dX1_search_117 rfl ?_
              refine g_dup B dX1_search_118 rfl ?_
              refine g_geti B ci_X1 (by first | rfl | assumption) rfl (by decide) fl_X1_19 dX1_search_119 ?_
              refine g_iconst B (v := 1) dX1_search_122 (by decide) ?_
              refine g_iadd B dX1_search_123 ?_
              refine g_put B ci_X1 (by first | rfl | assumption) rfl (by decide) fl_X1_19 rfl rfl rfl dX1_search_124 ?_
              refine g_aload_n B dX1_search_127 rfl ?_
              refine g_dup B dX1_search_128 rfl ?_
              refine g_geti B ci_X1 (by first | rfl | assumption) rfl (by decide) fl_X1_48 dX1_search_129 ?_
              refine g_iload_n B dX1_search_132 rfl ?_
              refine g_iand B dX1_search_133 ?_
              refine g_put B ci_X1 (by first | rfl | assumption) rfl (by decide) fl_X1_48 rfl rfl rfl dX1_search_134 ?_
              refine g_aload_n B dX1_search_137 rfl ?_
              refine g_dup B dX1_search_138 rfl ?_
              refine g_geti B ci_X1 (by first | rfl | assumption) rfl (by decide) fl_X1_29 dX1_search_139 ?_
              refine g_iload_n B dX1_search_142 rfl ?_
              refine g_ior B dX1_search_143 ?_
              refine g_put B ci_X1 (by first | rfl | assumption) rfl (by decide) fl_X1_29 rfl rfl rfl dX1_search_144 ?_
              refine g_inc2 B dX1_search_147 rfl (inc1 _) (by decide) rfl ?_
              refine g_goto B 70 dX1_search_150 (by decide) ?_
              refine ih hlt _ (by simp only [w2]; simpa using w0) (by rw [ft_in (k := i) (by rw [hK]; exact h86) h95, ← wf]; simp [w2, h103]) (fun k hk => by simp only [w2]; simpa using ws k hk) (fun x y h1 h2 h3 => by simp only [w2, h1, false_and, ↓reduceIte]; exact hW x y h1 h2 h3)
    exact L 0 (Nat.zero_le _) _ (by rw [w2_slot _ _ (by decide)]; exact c0) (by rw [ftF, hK]; simp [w2, c1, c2, c4]) (fun k hk => by rw [w2_cell _ _ (by decide), w2_cell _ _ (by decide)]; exact hu3 k hk) (fun x y h1 h2 h3 => by rw [w2_cell _ _ h1]; exact hu x y h1 h2 h3)
set_option maxHeartbeats 4000000 in
set_option maxRecDepth 100000 in
theorem ct_X6_fits {I : Wo} {n e q K : Nat} (hn : I 1 9 = nI n) (hn8 : n ≤ 8) (hz : ¬ n = 0 → I 1 10 = nI e ∧ e < n ∧ (((1 : Int32) <<< (nI e &&& 31)) - 1 &&& (I 6 e ^^^ (-1))) = nI K ∧ K < 256) (hq : I 1 14 = nI q) (hq6 : q ≤ 6) (what : Int32) : Ct yX6_fits cX6_fits 2 (some .int) 3 69 [.ref 0, .int what] I (pI (fun r u => r = (if wi what 0 3 then (if n = 0 then -2 else fitR what (nI K) (ftF (fun k => agF (fun k => stF (I 6) (I 7) (I 9 k) n) (fun k => decide ((I 9 k >>> (nI e &&& 31)) &&& 1 = 1) && decide (I 6 e &&& (stF (I 6) (I 7) (I 9 k) n ^^^ (-1)) = 0)) (I 1 8) (nI k) q) (((1 : Int32) <<< (nI e &&& 31)) - 1 &&& (I 6 e ^^^ (-1))) (0, 0, (((1 : Int32) <<< (nI e &&& 31)) - 1 &&& (I 6 e ^^^ (-1))), 0) (K + 1))) else -1) ∧ (∀ x y, x ≠ 53 → x ≠ 54 → x ≠ 55 → u x y = I x y))) := by
  refine ct_of RX6 rfl (by decide) (Nat.le_of_ble_eq_true rfl) (fun X B E => ?_)
  show GW X 2 0 [some (.ref 0), some (.int what)] [] _
  refine g_iload_n B dX6_fits_0 rfl ?_
  refine g_iconst B (v := 0) dX6_fits_1 (by decide) ?_
  refine g_iconst B (v := 3) dX6_fits_2 (by decide) ?_
  refine g_callSI B (ct_X6_within _ _ _) ml_X6_66 mm_X6_within rfl rfl (Nat.le_of_ble_eq_true rfl) dX6_fits_3 (by decide) ?_
  rintro _ _ ⟨rfl, rfl⟩
  refine g_if_ne B 11 dX6_fits_6 (by decide) (fun h6 => ?_) (fun h6 => ?_)
  · rw [bI_ne0] at h6
    refine g_aload_n B dX6_fits_11 rfl ?_
    refine g_getr B ci_X6 (by first | rfl | assumption) rfl (by decide) fl_X6_10 dX6_fits_12 ?_
    refine g_geti B ci_X3 (by first | rfl | assumption) rfl (by decide) fl_X6_95 dX6_fits_15 ?_
    refine g_if_ne B 24 dX6_fits_18 (by decide) (fun h18 => ?_) (fun h18 => ?_)
    · have hz0 : ¬ n = 0 := fun q => h18 (by rw [hn, q]; rfl)
      obtain ⟨hee, hen, hK, hK8⟩ := hz hz0
      refine g_aload_n B dX6_fits_24 rfl ?_
      refine g_getr B ci_X6 (by first | rfl | assumption) rfl (by decide) fl_X6_58 dX6_fits_25 ?_
      refine g_aload_n B dX6_fits_28 rfl ?_
      refine g_getr B ci_X6 (by first | rfl | assumption) rfl (by decide) fl_X6_10 dX6_fits_29 ?_
      refine g_callVV B (ct_X1_search hn hn8 hee hen hq hq6 hK hK8) (by first | rfl | assumption) rfl ml_X6_226 mm_X1_search rfl rfl (Nat.le_of_ble_eq_true rfl) dX6_fits_32 (by decide) ?_
      rintro u ⟨w0, wf, hu⟩
      refine g_iload_n B dX6_fits_35 rfl ?_
      refine g_if_ne B 47 dX6_fits_36 (by decide) (fun h36 => ?_) (fun h36 => ?_)
      · refine g_aload_n B dX6_fits_47 rfl ?_
        refine g_getr B ci_X6 (by first | rfl | assumption) rfl (by decide) fl_X6_58 dX6_fits_48 ?_
        refine g_geti B ci_X1 (by first | rfl | assumption) rfl (by decide) fl_X6_229 dX6_fits_51 ?_
        refine g_if_ne B 60 dX6_fits_54 (by decide) (fun h54 => ?_) (fun h54 => ?_)
        · refine g_iload_n B dX6_fits_60 rfl ?_
          by_cases h61_1 : what = 1
          · refine g_lookup B (off := 27) 88 dX6_fits_61 (by decide) (by first | (rw [h61_1]; done) | (rw [h61_1]; decide)) (by decide) ?_
            refine g_aload_n B dX6_fits_88 rfl ?_
            refine g_getr B ci_X6 (by first | rfl | assumption) rfl (by decide) fl_X6_58 dX6_fits_89 ?_
            refine g_geti B ci_X1 (by first | rfl | assumption) rfl (by decide) fl_X6_232 dX6_fits_92 ?_
            exact g_iret B E rfl dX6_fits_95 ⟨by rw [if_pos h6, if_neg hz0, ← wf]; simp only [fitR, h36, h54, h61_1, ↓reduceIte]; rfl, hu⟩
          by_cases h61_2 : what = 2
          · refine g_lookup B (off := 35) 96 dX6_fits_61 (by decide) (by first | (rw [h61_2]; done) | (rw [h61_2]; decide)) (by decide) ?_
            refine g_aload_n B dX6_fits_96 rfl ?_
            refine g_getr B ci_X6 (by first | rfl | assumption) rfl (by decide) fl_X6_58 dX6_fits_97 ?_
            refine g_geti B ci_X1 (by first | rfl | assumption) rfl (by decide) fl_X6_235 dX6_fits_100 ?_
            exact g_iret B E rfl dX6_fits_103 ⟨by rw [if_pos h6, if_neg hz0, ← wf]; simp only [fitR, h36, h54, h61_1, h61_2, ↓reduceIte]; rfl, hu⟩
          refine g_lookup B (off := 43) 104 dX6_fits_61 (by decide) (by show Op.lookupswitch.offset [(1, 27), (2, 35)] 43 _ = 43; rw [lv_osw (a := 1) h61_1 rfl, lv_osw (a := 2) h61_2 rfl]; rfl) (by decide) ?_
          refine g_aload_n B dX6_fits_104 rfl ?_
          refine g_getr B ci_X6 (by first | rfl | assumption) rfl (by decide) fl_X6_58 dX6_fits_105 ?_
          refine g_geti B ci_X1 (by first | rfl | assumption) rfl (by decide) fl_X6_238 dX6_fits_108 ?_
          refine g_aload_n B dX6_fits_111 rfl ?_
          refine g_getr B ci_X6 (by first | rfl | assumption) rfl (by decide) fl_X6_58 dX6_fits_112 ?_
          refine g_geti B ci_X1 (by first | rfl | assumption) rfl (by decide) fl_X6_241 dX6_fits_115 ?_
          refine g_iconst B (v := (-1)) dX6_fits_118 (by decide) ?_
          refine g_ixor B dX6_fits_119 ?_
          refine g_iand B dX6_fits_120 ?_
          exact g_iret B E rfl dX6_fits_121 ⟨by rw [if_pos h6, if_neg hz0, ← wf, w0]; simp only [fitR, h36, h54, h61_1, h61_2, ↓reduceIte], hu⟩
        · refine g_bipush B (v := (-4)) dX6_fits_57 (by decide) ?_
          exact g_iret B E rfl dX6_fits_59 ⟨by rw [if_pos h6, if_neg hz0, ← wf]; simp only [fitR, h36, h54, ↓reduceIte], hu⟩
      · refine g_aload_n B dX6_fits_39 rfl ?_
        refine g_getr B ci_X6 (by first | rfl | assumption) rfl (by decide) fl_X6_58 dX6_fits_40 ?_
        refine g_geti B ci_X1 (by first | rfl | assumption) rfl (by decide) fl_X6_229 dX6_fits_43 ?_
        exact g_iret B E rfl dX6_fits_46 ⟨by rw [if_pos h6, if_neg hz0, ← wf, h36]; rfl, hu⟩
    · have hz0 : n = 0 := (nI_eq (by omega) (by decide)).mp (by rw [← hn]; exact h18)
      refine g_bipush B (v := (-2)) dX6_fits_21 (by decide) ?_
      exact g_iret B E rfl dX6_fits_23 ⟨by rw [if_pos h6, if_pos hz0], fun _ _ _ _ _ => rfl⟩
  · rw [bI_eq0] at h6
    refine g_iconst B (v := (-1)) dX6_fits_9 (by decide) ?_
    exact g_iret B E rfl dX6_fits_10 ⟨by simp [*], fun _ _ _ _ _ => rfl⟩
set_option maxHeartbeats 4000000 in
set_option maxRecDepth 100000 in
theorem ct_X7_isSo {I : Wo} {n e q : Nat} (hn : I 57 2 = nI n) (hn8 : n ≤ 8) (hee : I 58 25 = nI e) (hen : e < n) (hq : I 58 34 = nI q) (hq6 : q ≤ 6) (s : Int32) : Ct yX7_isSo cX7_isSo 5 (some .boolean) 3 65 [.ref 57, .int s] I (pI (fun r u => r = bI (soF (fun k => esF n (I 58) (fun c => w2 I 58 (8 + e) s 58 (8 + c)) (nI e) (I 58 (35 + 2 * k))) (fun k => I 58 (36 + 2 * k)) q) ∧ I = u)) := by
  refine ct_of RX7 rfl (by decide) (Nat.le_of_ble_eq_true rfl) (fun X B E => ?_)
  show GW X 5 0 [some (.ref 57), some (.int s), none, none, none] [] _
  refine g_aload_n B dX7_isSo_0 rfl ?_
  refine g_getr B ci_X7 (by first | rfl | assumption) rfl (by decide) fl_X7_7 dX7_isSo_1 ?_
  refine g_bipush B (v := 8) dX7_isSo_4 (by decide) ?_
  refine g_aload_n B dX7_isSo_6 rfl ?_
  refine g_getr B ci_X7 (by first | rfl | assumption) rfl (by decide) fl_X7_7 dX7_isSo_7 ?_
  refine g_bipush B (v := 25) dX7_isSo_10 (by decide) ?_
  refine g_iald B (by first | rfl | assumption) 25 (lit_nI 25) (by first | decide | omega | assumption) (by decide) dX7_isSo_12 ?_
  refine g_iadd B dX7_isSo_13 ?_
  refine g_eqi (nI (8 + e)) (by rw [hee]; exact la_8 e) ?_
  refine g_iald B (by first | rfl | assumption) (8 + e) rfl (by first | decide | omega | assumption) (by decide) dX7_isSo_14 ?_
  refine g_istn2 B dX7_isSo_15 (by decide) rfl ?_
  refine g_iconst B (v := 1) dX7_isSo_16 (by decide) ?_
  refine g_istn3 B dX7_isSo_17 (by decide) rfl ?_
  refine g_aload_n B dX7_isSo_18 rfl ?_
  refine g_getr B ci_X7 (by first | rfl | assumption) rfl (by decide) fl_X7_7 dX7_isSo_19 ?_
  refine g_bipush B (v := 8) dX7_isSo_22 (by decide) ?_
  refine g_aload_n B dX7_isSo_24 rfl ?_
  refine g_getr B ci_X7 (by first | rfl | assumption) rfl (by decide) fl_X7_7 dX7_isSo_25 ?_
  refine g_bipush B (v := 25) dX7_isSo_28 (by decide) ?_
  refine g_iald B (by first | rfl | assumption) 25 (lit_nI 25) (by first | decide | omega | assumption) (by decide) dX7_isSo_30 ?_
  refine g_iadd B dX7_isSo_31 ?_
  refine g_eqi (nI (8 + e)) (by rw [hee]; exact la_8 e) ?_
  refine g_iload_n B dX7_isSo_32 rfl ?_
  refine g_iast B (by first | rfl | assumption) (8 + e) rfl (by first | decide | omega | assumption) (by decide) dX7_isSo_33 ?_
  refine g_iconst B (v := 0) dX7_isSo_34 (by decide) ?_
  refine g_ist4 B dX7_isSo_35 (by decide) rfl ?_
  have hW : ∀ j, j ≠ 8 + e → w2 I 58 (8 + e) s 58 j = I 58 j := fun j hj => w2_slot I _ hj
  have he2 : cOK n (w2 I 58 (8 + e) s 58 25) = decide (0 < n) := by rw [hW 25 (by omega), hee, (cOK_iff (by omega)).mpr ⟨e, hen, rfl⟩]; exact (decide_eq_true (by omega)).symm
  have hn2 : w2 I 58 (8 + e) s 57 2 = nI n := hn
  have L : ∀ i, i ≤ q → ∀ z, z = bI (soF (fun k => esF n (I 58) (fun c => w2 I 58 (8 + e) s 58 (8 + c)) (nI e) (I 58 (35 + 2 * k))) (fun k => I 58 (36 + 2 * k)) i) → GW X 5 37 [some (.ref 57), some (.int s), some (.int (I 58 (8 + e))), some (.int z), some (.int (nI i))] [] (w2 I 58 (8 + e) s) := by
    refine loopN q (fun i hi ih z hz => ?_)
    refine g_iload B dX7_isSo_37 rfl ?_
    refine g_aload_n B dX7_isSo_39 rfl ?_
    refine g_getr B ci_X7 (by first | rfl | assumption) rfl (by decide) fl_X7_7 dX7_isSo_40 ?_
    refine g_bipush B (v := 34) dX7_isSo_43 (by decide) ?_
    refine g_iald B (by first | rfl | assumption) 34 (lit_nI 34) (by first | decide | omega | assumption) (by decide) dX7_isSo_45 ?_
    rw [hW 34 (by omega), hq]
    refine g_icmp_ge B 101 dX7_isSo_46 (by decide) (fun h46 => ?_) (fun h46 => ?_)
    · have hi2 : i = q := by have := le_le (a := q) (b := i) (by omega) (by omega) h46; omega
      refine g_aload_n B dX7_isSo_101 rfl ?_
      refine g_getr B ci_X7 (by first | rfl | assumption) rfl (by decide) fl_X7_7 dX7_isSo_102 ?_
      refine g_bipush B (v := 8) dX7_isSo_105 (by decide) ?_
      refine g_aload_n B dX7_isSo_107 rfl ?_
      refine g_getr B ci_X7 (by first | rfl | assumption) rfl (by decide) fl_X7_7 dX7_isSo_108 ?_
      refine g_bipush B (v := 25) dX7_isSo_111 (by decide) ?_
      refine g_iald B (by first | rfl | assumption) 25 (lit_nI 25) (by first | decide | omega | assumption) (by decide) dX7_isSo_113 ?_
      refine g_iadd B dX7_isSo_114 ?_
      refine g_eqi (nI (8 + e)) (by rw [hW 25 (by omega), hee]; exact la_8 e) ?_
      refine g_iload_n B dX7_isSo_115 rfl ?_
      refine g_iast B (by first | rfl | assumption) (8 + e) rfl (by first | decide | omega | assumption) (by decide) dX7_isSo_116 ?_
      refine g_eqI ((w2_w2 _ _ _ _ _).trans (w2_self I 58 (8 + e))) ?_
      refine g_iload_n B dX7_isSo_117 rfl ?_
      exact g_iret B E (bI_narv hz) dX7_isSo_118 ⟨by rw [hz, hi2], rfl⟩
    · have hlt : i < q := nle_lt (by omega) (by omega) h46
      refine g_iload_n B dX7_isSo_49 rfl ?_
      refine g_if_eq B 93 dX7_isSo_50 (by decide) (fun h50 => ?_) (fun h50 => ?_)
      · rw [hz, bI_eq0] at h50
        refine g_iconst B (v := 0) dX7_isSo_93 (by decide) ?_
        refine g_istn3 B dX7_isSo_94 (by decide) rfl ?_
        refine g_inc4 B dX7_isSo_95 rfl (inc1 _) (by decide) rfl ?_
        refine g_goto B 37 dX7_isSo_98 (by decide) ?_
        exact ih hlt _ (by simp only [soF, h50, decide_true, decide_false, Bool.and_true, Bool.and_false, Bool.true_and, Bool.false_and]; rfl)
      · rw [hz, bI_ne0] at h50
        refine g_aload_n B dX7_isSo_53 rfl ?_
        refine g_aload_n B dX7_isSo_54 rfl ?_
        refine g_getr B ci_X7 (by first | rfl | assumption) rfl (by decide) fl_X7_7 dX7_isSo_55 ?_
        refine g_bipush B (v := 35) dX7_isSo_58 (by decide) ?_
        refine g_iconst B (v := 2) dX7_isSo_60 (by decide) ?_
        refine g_iload B dX7_isSo_61 rfl ?_
        refine g_imul B dX7_isSo_63 ?_
        refine g_iadd B dX7_isSo_64 ?_
        refine g_eqi (nI (35 + 2 * i)) (by rw [show (2 : Int32) = nI 2 from rfl, pk_mul]; exact la_35 _) ?_
        refine g_iald B (by first | rfl | assumption) (35 + 2 * i) rfl (by first | decide | omega | assumption) (by decide) dX7_isSo_65 ?_
        rw [hW _ (by omega)]
        refine g_callVI B (ct_X7_endStands hn2 hn8 he2 _) (by first | rfl | assumption) rfl ml_X7_200 mm_X7_endStands rfl rfl (Nat.le_of_ble_eq_true rfl) dX7_isSo_66 (by decide) ?_
        rintro _ _ ⟨rfl, rfl⟩
        rw [hW 25 (by omega), hee, eso_eq hen hn8]
        refine g_callSI B (ct_X7_flag _) ml_X7_164 mm_X7_flag rfl rfl (Nat.le_of_ble_eq_true rfl) dX7_isSo_69 (by decide) ?_
        rintro _ _ ⟨rfl, rfl⟩
        refine g_aload_n B dX7_isSo_72 rfl ?_
        refine g_getr B ci_X7 (by first | rfl | assumption) rfl (by decide) fl_X7_7 dX7_isSo_73 ?_
        refine g_bipush B (v := 35) dX7_isSo_76 (by decide) ?_
        refine g_iconst B (v := 2) dX7_isSo_78 (by decide) ?_
        refine g_iload B dX7_isSo_79 rfl ?_
        refine g_imul B dX7_isSo_81 ?_
        refine g_iadd B dX7_isSo_82 ?_
        refine g_iconst B (v := 1) dX7_isSo_83 (by decide) ?_
        refine g_iadd B dX7_isSo_84 ?_
        refine g_eqi (nI (36 + 2 * i)) (by rw [show (2 : Int32) = nI 2 from rfl, pk_mul, la_35, nI_1, show 35 + 2 * i + 1 = 36 + 2 * i by omega]) ?_
        refine g_iald B (by first | rfl | assumption) (36 + 2 * i) rfl (by first | decide | omega | assumption) (by decide) dX7_isSo_85 ?_
        rw [hW _ (by omega)]
        refine g_icmp_ne B 93 dX7_isSo_86 (by decide) (fun h86 => ?_) (fun h86 => ?_)
        · refine g_iconst B (v := 0) dX7_isSo_93 (by decide) ?_
          refine g_istn3 B dX7_isSo_94 (by decide) rfl ?_
          refine g_inc4 B dX7_isSo_95 rfl (inc1 _) (by decide) rfl ?_
          refine g_goto B 37 dX7_isSo_98 (by decide) ?_
          exact ih hlt _ (by simp only [soF, h50, h86, decide_true, decide_false, Bool.and_true, Bool.and_false, Bool.true_and, Bool.false_and]; rfl)
        · refine g_iconst B (v := 1) dX7_isSo_89 (by decide) ?_
          refine g_goto B 94 dX7_isSo_90 (by decide) ?_
          refine g_istn3 B dX7_isSo_94 (by decide) rfl ?_
          refine g_inc4 B dX7_isSo_95 rfl (inc1 _) (by decide) rfl ?_
          refine g_goto B 37 dX7_isSo_98 (by decide) ?_
          exact ih hlt _ (by simp only [soF, h50, h86, decide_true, decide_false, Bool.and_true, Bool.and_false, Bool.true_and, Bool.false_and]; rfl)
  exact L 0 (Nat.zero_le _) _ rfl
set_option maxHeartbeats 4000000 in
set_option maxRecDepth 100000 in
theorem ct_X7_fits {I : Wo} {n e q K : Nat} (hn : I 57 2 = nI n) (hn8 : n ≤ 8) (hz : ¬ n = 0 → I 58 25 = nI e ∧ e < n ∧ (((1 : Int32) <<< (nI e &&& 31)) - 1 &&& (I 58 e ^^^ (-1))) = nI K ∧ K < 256) (hq : I 58 34 = nI q) (hq6 : q ≤ 6) (what : Int32) : Ct yX7_fits cX7_fits 8 (some .int) 4 89 [.ref 57, .int what] I (pI (fun r u => r = (if wi what 0 3 then (if n = 0 then -2 else fitR what (nI K) (ftF (fun k => soF (fun i => esF n (I 58) (fun c => w2 I 58 (8 + e) (nI k) 58 (8 + c)) (nI e) (I 58 (35 + 2 * i))) (fun i => I 58 (36 + 2 * i)) q) (((1 : Int32) <<< (nI e &&& 31)) - 1 &&& (I 58 e ^^^ (-1))) (0, -4, (((1 : Int32) <<< (nI e &&& 31)) - 1 &&& (I 58 e ^^^ (-1))), 0) (K + 1))) else -1) ∧ I = u)) := by
  refine ct_of RX7 rfl (by decide) (Nat.le_of_ble_eq_true rfl) (fun X B E => ?_)
  show GW X 8 0 [some (.ref 57), some (.int what), none, none, none, none, none, none] [] _
  refine g_iload_n B dX7_fits_0 rfl ?_
  refine g_i2l B dX7_fits_1 ?_
  refine g_lconst B (v := 0) dX7_fits_2 (by decide) ?_
  refine g_ldc2 B dX7_fits_3 cn_X7_154 ?_
  refine g_callSI B (ct_in _ 0 3 rfl (by decide) (by decide)) ml_X7_77 mm_X7_in rfl rfl (Nat.le_of_ble_eq_true rfl) dX7_fits_6 (by decide) ?_
  rintro _ _ ⟨rfl, rfl⟩
  refine g_if_ne B 14 dX7_fits_9 (by decide) (fun h9 => ?_) (fun h9 => ?_)
  · rw [bI_ne0] at h9
    refine g_aload_n B dX7_fits_14 rfl ?_
    refine g_geti B ci_X7 (by first | rfl | assumption) rfl (by decide) fl_X7_72 dX7_fits_15 ?_
    refine g_if_ne B 24 dX7_fits_18 (by decide) (fun h18 => ?_) (fun h18 => ?_)
    · have hz0 : ¬ n = 0 := fun q => h18 (by rw [hn, q]; rfl)
      obtain ⟨hee, hen, hK, hK8⟩ := hz hz0
      refine g_iconst B (v := 1) dX7_fits_24 (by decide) ?_
      refine g_aload_n B dX7_fits_25 rfl ?_
      refine g_getr B ci_X7 (by first | rfl | assumption) rfl (by decide) fl_X7_7 dX7_fits_26 ?_
      refine g_bipush B (v := 25) dX7_fits_29 (by decide) ?_
      refine g_iald B (by first | rfl | assumption) 25 (lit_nI 25) (by first | decide | omega | assumption) (by decide) dX7_fits_31 ?_
      rw [hee]
      refine g_ishl B dX7_fits_32 ?_
      refine g_iconst B (v := 1) dX7_fits_33 (by decide) ?_
      refine g_isub B dX7_fits_34 ?_
      refine g_aload_n B dX7_fits_35 rfl ?_
      refine g_getr B ci_X7 (by first | rfl | assumption) rfl (by decide) fl_X7_7 dX7_fits_36 ?_
      refine g_iconst B (v := 0) dX7_fits_39 (by decide) ?_
      refine g_aload_n B dX7_fits_40 rfl ?_
      refine g_getr B ci_X7 (by first | rfl | assumption) rfl (by decide) fl_X7_7 dX7_fits_41 ?_
      refine g_bipush B (v := 25) dX7_fits_44 (by decide) ?_
      refine g_iald B (by first | rfl | assumption) 25 (lit_nI 25) (by first | decide | omega | assumption) (by decide) dX7_fits_46 ?_
      refine g_iadd B dX7_fits_47 ?_
      refine g_eqi (nI e) (by rw [hee]; exact la_0 e) ?_
      refine g_iald B (by first | rfl | assumption) e rfl (by first | decide | omega | assumption) (by decide) dX7_fits_48 ?_
      refine g_iconst B (v := (-1)) dX7_fits_49 (by decide) ?_
      refine g_ixor B dX7_fits_50 ?_
      refine g_iand B dX7_fits_51 ?_
      rw [hK]
      refine g_istn2 B dX7_fits_52 (by decide) rfl ?_
      refine g_iconst B (v := 0) dX7_fits_53 (by decide) ?_
      refine g_istn3 B dX7_fits_54 (by decide) rfl ?_
      refine g_bipush B (v := (-4)) dX7_fits_55 (by decide) ?_
      refine g_ist4 B dX7_fits_57 (by decide) rfl ?_
      refine g_iload_n B dX7_fits_59 rfl ?_
      refine g_ist5 B dX7_fits_60 (by decide) rfl ?_
      refine g_iconst B (v := 0) dX7_fits_62 (by decide) ?_
      refine g_ist6 B dX7_fits_63 (by decide) rfl ?_
      refine g_iconst B (v := 0) dX7_fits_65 (by decide) ?_
      refine g_ist7 B dX7_fits_66 (by decide) rfl ?_
      have L : ∀ i, i ≤ K + 1 → ∀ f l a t, (f, l, a, t) = ftF (fun k => soF (fun i => esF n (I 58) (fun c => w2 I 58 (8 + e) (nI k) 58 (8 + c)) (nI e) (I 58 (35 + 2 * i))) (fun i => I 58 (36 + 2 * i)) q) (((1 : Int32) <<< (nI e &&& 31)) - 1 &&& (I 58 e ^^^ (-1))) (0, -4, (((1 : Int32) <<< (nI e &&& 31)) - 1 &&& (I 58 e ^^^ (-1))), 0) i → GW X 8 68 [some (.ref 57), some (.int what), some (.int (nI K)), some (.int f), some (.int l), some (.int a), some (.int t), some (.int (nI i))] [] I := by
        refine loopN (K + 1) (fun i hi ih f l a t wf => ?_)
        refine g_iload B dX7_fits_68 rfl ?_
        refine g_iload_n B dX7_fits_70 rfl ?_
        refine g_icmp_gt B 128 dX7_fits_71 (by decide) (fun h71 => ?_) (fun h71 => ?_)
        · have hi2 : i = K + 1 := by have := lt_lt (a := K) (b := i) (by omega) (by omega) h71; omega
          refine g_iload_n B dX7_fits_128 rfl ?_
          refine g_if_eq B 136 dX7_fits_129 (by decide) (fun h129 => ?_) (fun h129 => ?_)
          · refine g_iload_n B dX7_fits_136 rfl ?_
            refine g_if_ne B 144 dX7_fits_137 (by decide) (fun h137 => ?_) (fun h137 => ?_)
            · refine g_bipush B (v := (-4)) dX7_fits_144 (by decide) ?_
              exact g_iret B E rfl dX7_fits_146 ⟨by first | exact absurd h129 h137 | exact absurd h137 h129 | (rw [if_pos h9, if_neg hz0, ← hi2, ← wf, h129]; rfl) | (rw [if_pos h9, if_neg hz0, ← hi2, ← wf]; exact (fitN (s := (f, l, a, t)) h129 h133).symm), rfl⟩
            · refine g_iload_n B dX7_fits_140 rfl ?_
              refine g_goto B 146 dX7_fits_141 (by decide) ?_
              exact g_iret B E rfl dX7_fits_146 ⟨by first | exact absurd h129 h137 | exact absurd h137 h129 | (rw [if_pos h9, if_neg hz0, ← hi2, ← wf, h129]; rfl) | (rw [if_pos h9, if_neg hz0, ← hi2, ← wf]; exact (fitN (s := (f, l, a, t)) h129 h133).symm), rfl⟩
          · refine g_iload_n B dX7_fits_132 rfl ?_
            refine g_if_ne B 147 dX7_fits_133 (by decide) (fun h133 => ?_) (fun h133 => ?_)
            · refine g_iload_n B dX7_fits_147 rfl ?_
              refine g_iconst B (v := 1) dX7_fits_148 (by decide) ?_
              refine g_icmp_ne B 157 dX7_fits_149 (by decide) (fun h149 => ?_) (fun h149 => ?_)
              · refine g_iload_n B dX7_fits_157 rfl ?_
                refine g_iconst B (v := 2) dX7_fits_158 (by decide) ?_
                refine g_icmp_ne B 167 dX7_fits_159 (by decide) (fun h159 => ?_) (fun h159 => ?_)
                · refine g_iload_n B dX7_fits_167 rfl ?_
                  refine g_iload B dX7_fits_168 rfl ?_
                  refine g_iconst B (v := (-1)) dX7_fits_170 (by decide) ?_
                  refine g_ixor B dX7_fits_171 ?_
                  refine g_iand B dX7_fits_172 ?_
                  exact g_iret B E rfl dX7_fits_173 ⟨by rw [if_pos h9, if_neg hz0, ← hi2, ← wf]; first | exact (fit3 (s := (f, l, a, t)) h129 h149 h159 h133).symm | exact (fit2 (s := (f, l, a, t)) h159 h133).symm | exact (fit1 (s := (f, l, a, t)) h149 h133).symm, rfl⟩
                · refine g_iload B dX7_fits_162 rfl ?_
                  refine g_goto B 173 dX7_fits_164 (by decide) ?_
                  exact g_iret B E rfl dX7_fits_173 ⟨by rw [if_pos h9, if_neg hz0, ← hi2, ← wf]; first | exact (fit3 (s := (f, l, a, t)) h129 h149 h159 h133).symm | exact (fit2 (s := (f, l, a, t)) h159 h133).symm | exact (fit1 (s := (f, l, a, t)) h149 h133).symm, rfl⟩
              · refine g_iload B dX7_fits_152 rfl ?_
                refine g_goto B 173 dX7_fits_154 (by decide) ?_
                exact g_iret B E rfl dX7_fits_173 ⟨by rw [if_pos h9, if_neg hz0, ← hi2, ← wf]; first | exact (fit3 (s := (f, l, a, t)) h129 h149 h159 h133).symm | exact (fit2 (s := (f, l, a, t)) h159 h133).symm | exact (fit1 (s := (f, l, a, t)) h149 h133).symm, rfl⟩
            · refine g_iload_n B dX7_fits_136 rfl ?_
              refine g_if_ne B 144 dX7_fits_137 (by decide) (fun h137 => ?_) (fun h137 => ?_)
              · refine g_bipush B (v := (-4)) dX7_fits_144 (by decide) ?_
                exact g_iret B E rfl dX7_fits_146 ⟨by first | exact absurd h129 h137 | exact absurd h137 h129 | (rw [if_pos h9, if_neg hz0, ← hi2, ← wf, h129]; rfl) | (rw [if_pos h9, if_neg hz0, ← hi2, ← wf]; exact (fitN (s := (f, l, a, t)) h129 h133).symm), rfl⟩
              · refine g_iload_n B dX7_fits_140 rfl ?_
                refine g_goto B 146 dX7_fits_141 (by decide) ?_
                exact g_iret B E rfl dX7_fits_146 ⟨by first | exact absurd h129 h137 | exact absurd h137 h129 | (rw [if_pos h9, if_neg hz0, ← hi2, ← wf, h129]; rfl) | (rw [if_pos h9, if_neg hz0, ← hi2, ← wf]; exact (fitN (s := (f, l, a, t)) h129 h133).symm), rfl⟩
        · have hlt : i < K + 1 := by have := not_lt_le (by omega) (by omega) h71; omega
          refine g_iload B dX7_fits_74 rfl ?_
          refine g_iload_n B dX7_fits_76 rfl ?_
          refine g_iconst B (v := (-1)) dX7_fits_77 (by decide) ?_
          refine g_ixor B dX7_fits_78 ?_
          refine g_iand B dX7_fits_79 ?_
          refine g_if_ne B 122 dX7_fits_80 (by decide) (fun h80 => ?_) (fun h80 => ?_)
          · refine g_inc7 B dX7_fits_122 rfl (inc1 _) (by decide) rfl ?_
            refine g_goto B 68 dX7_fits_125 (by decide) ?_
            exact ih hlt _ _ _ _ (wf.trans (ft_no1 (k := i) (by rw [hK]; exact h80)).symm)
          · refine g_aload_n B dX7_fits_83 rfl ?_
            refine g_iload B dX7_fits_84 rfl ?_
            refine g_callVI B (ct_X7_isSo hn hn8 hee hen hq hq6 _) (by first | rfl | assumption) rfl ml_X7_240 mm_X7_isSo rfl rfl (Nat.le_of_ble_eq_true rfl) dX7_fits_86 (by decide) ?_
            rintro _ _ ⟨rfl, rfl⟩
            refine g_if_eq B 122 dX7_fits_89 (by decide) (fun h89 => ?_) (fun h89 => ?_)
            · rw [bI_eq0] at h89
              refine g_inc7 B dX7_fits_122 rfl (inc1 _) (by decide) rfl ?_
              refine g_goto B 68 dX7_fits_125 (by decide) ?_
              exact ih hlt _ _ _ _ (wf.trans (ft_no2 (k := i) h89).symm)
            · rw [bI_ne0] at h89
              refine g_iload_n B dX7_fits_92 rfl ?_
              refine g_if_ne B 101 dX7_fits_93 (by decide) (fun h93 => ?_) (fun h93 => ?_)
              · refine g_iload B dX7_fits_101 rfl ?_
                refine g_ist4 B dX7_fits_103 (by decide) rfl ?_
                refine g_iload B dX7_fits_105 rfl ?_
                refine g_iload B dX7_fits_107 rfl ?_
                refine g_iand B dX7_fits_109 ?_
                refine g_ist5 B dX7_fits_110 (by decide) rfl ?_
                refine g_iload B dX7_fits_112 rfl ?_
                refine g_iload B dX7_fits_114 rfl ?_
                refine g_ior B dX7_fits_116 ?_
                refine g_ist6 B dX7_fits_117 (by decide) rfl ?_
                refine g_inc3 B dX7_fits_119 rfl rfl (by decide) rfl ?_
                refine g_inc7 B dX7_fits_122 rfl (inc1 _) (by decide) rfl ?_
                refine g_goto B 68 dX7_fits_125 (by decide) ?_
                exact ih hlt _ _ _ _ (by rw [ft_in (k := i) (by rw [hK]; exact h80) h89, ← wf]; simp only [h93, ↓reduceIte]; rfl)
              · refine g_iload B dX7_fits_96 rfl ?_
                refine g_goto B 103 dX7_fits_98 (by decide) ?_
                refine g_ist4 B dX7_fits_103 (by decide) rfl ?_
                refine g_iload B dX7_fits_105 rfl ?_
                refine g_iload B dX7_fits_107 rfl ?_
                refine g_iand B dX7_fits_109 ?_
                refine g_ist5 B dX7_fits_110 (by decide) rfl ?_
                refine g_iload B dX7_fits_112 rfl ?_
                refine g_iload B dX7_fits_114 rfl ?_
                refine g_ior B dX7_fits_116 ?_
                refine g_ist6 B dX7_fits_117 (by decide) rfl ?_
                refine g_inc3 B dX7_fits_119 rfl rfl (by decide) rfl ?_
                refine g_inc7 B dX7_fits_122 rfl (inc1 _) (by decide) rfl ?_
                refine g_goto B 68 dX7_fits_125 (by decide) ?_
                exact ih hlt _ _ _ _ (by rw [ft_in (k := i) (by rw [hK]; exact h80) h89, ← wf]; simp only [h93, ↓reduceIte]; rfl)
      exact L 0 (Nat.zero_le _) _ _ _ _ (by rw [ftF, hK])
    · have hz0 : n = 0 := (nI_eq (by omega) (by decide)).mp (by rw [← hn]; exact h18)
      refine g_bipush B (v := (-2)) dX7_fits_21 (by decide) ?_
      exact g_iret B E rfl dX7_fits_23 ⟨by rw [if_pos h9, if_pos hz0], rfl⟩
  · rw [bI_eq0] at h9
    refine g_iconst B (v := (-1)) dX7_fits_12 (by decide) ?_
    exact g_iret B E rfl dX7_fits_13 ⟨by simp [*], rfl⟩

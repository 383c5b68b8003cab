set_option maxHeartbeats 4000000 in
set_option maxRecDepth 100000 in
theorem ct_X3_standing {I : Wo} {b n : Nat} (hS : Su b) (hn : I b 9 = nI n) (hn8 : n ≤ 8) (set : Int32) : Ct yX3_standing cX3_standing 5 (some .int) 0 0 [.ref b, .int set] I (pI (fun r u => r = stF (I (b + 5)) (I (b + 6)) set n ∧ I = u)) := by
  obtain ⟨s0, s1, s2, s3, s4, s5, s6, s7, s8⟩ := id hS
  refine ct_of RX3 rfl (by decide) (Nat.le_of_ble_eq_true rfl) (fun X B E => ?_)
  show GW X 5 0 [some (.ref b), some (.int set), none, none, none] [] _
  refine g_iconst B (v := 0) dX3_standing_0 (by decide) ?_
  refine g_istn2 B dX3_standing_1 (by decide) rfl ?_
  refine g_iconst B (v := 0) dX3_standing_2 (by decide) ?_
  refine g_istn3 B dX3_standing_3 (by decide) rfl ?_
  have L : ∀ i, i ≤ n → ∀ x q, x = stF (I (b + 5)) (I (b + 6)) set i → GW X 5 4 [some (.ref b), some (.int set), some (.int x), some (.int (nI i)), q] [] I := by
    refine loopN n (fun i hi ih x q hx => ?_)
    refine g_iload_n B dX3_standing_4 rfl ?_
    refine g_aload_n B dX3_standing_5 rfl ?_
    refine g_geti B ci_X3 (by first | rfl | assumption) rfl (by decide) fl_X3_40 dX3_standing_6 ?_
    refine g_icmp_ge B 69 dX3_standing_9 (by decide) (fun h9 => ?_) (fun h9 => ?_)
    · have hi2 : i = n := by have := le_le (a := n) (b := i) (by omega) (by omega) (by rw [← hn]; exact h9); omega
      refine g_iload_n B dX3_standing_69 rfl ?_
      exact g_iret B E rfl dX3_standing_70 ⟨by rw [hx, hi2], rfl⟩
    · have hlt : i < n := nle_lt (by omega) (by omega) (by rw [← hn]; exact h9)
      refine g_aload_n B dX3_standing_12 rfl ?_
      refine g_getr B ci_X3 (by first | rfl | assumption) rfl (by decide) fl_X3_24 dX3_standing_13 ?_
      refine g_iload_n B dX3_standing_16 rfl ?_
      refine g_iald B (by first | rfl | assumption) _ (by first | with_reducible rfl | exact lit_add _ _ | exact add_lit _ _ | exact nI_add _ _ | exact lit_nI _ | assumption | rfl) (by first | decide | omega | assumption) (by decide) dX3_standing_17 ?_
      refine g_iload_n B dX3_standing_18 rfl ?_
      refine g_iconst B (v := (-1)) dX3_standing_19 (by decide) ?_
      refine g_ixor B dX3_standing_20 ?_
      refine g_iand B dX3_standing_21 ?_
      refine g_if_ne B 40 dX3_standing_22 (by decide) (fun h22 => ?_) (fun h22 => ?_)
      · refine g_iconst B (v := 0) dX3_standing_40 (by decide) ?_
        refine g_ist4 B dX3_standing_41 (by decide) rfl ?_
        refine g_iload B dX3_standing_43 rfl ?_
        refine g_if_eq B 63 dX3_standing_45 (by decide) (fun h45 => ?_) (fun h45 => ?_)
        · refine g_inc3 B dX3_standing_63 rfl (inc1 _) (by decide) rfl ?_
          refine g_goto B 4 dX3_standing_66 (by decide) ?_
          first | exact absurd h45 (by decide) | exact ih hlt _ _ (by subst hx; simp only [stF, *, and_true, true_and, and_false, false_and, and_self, ↓reduceIte])
        · exact absurd rfl h45
      · refine g_aload_n B dX3_standing_25 rfl ?_
        refine g_getr B ci_X3 (by first | rfl | assumption) rfl (by decide) fl_X3_27 dX3_standing_26 ?_
        refine g_iload_n B dX3_standing_29 rfl ?_
        refine g_iald B (by first | rfl | assumption) _ (by first | with_reducible rfl | exact lit_add _ _ | exact add_lit _ _ | exact nI_add _ _ | exact lit_nI _ | assumption | rfl) (by first | decide | omega | assumption) (by decide) dX3_standing_30 ?_
        refine g_iload_n B dX3_standing_31 rfl ?_
        refine g_iand B dX3_standing_32 ?_
        refine g_if_ne B 40 dX3_standing_33 (by decide) (fun h33 => ?_) (fun h33 => ?_)
        · refine g_iconst B (v := 0) dX3_standing_40 (by decide) ?_
          refine g_ist4 B dX3_standing_41 (by decide) rfl ?_
          refine g_iload B dX3_standing_43 rfl ?_
          refine g_if_eq B 63 dX3_standing_45 (by decide) (fun h45 => ?_) (fun h45 => ?_)
          · refine g_inc3 B dX3_standing_63 rfl (inc1 _) (by decide) rfl ?_
            refine g_goto B 4 dX3_standing_66 (by decide) ?_
            first | exact absurd h45 (by decide) | exact ih hlt _ _ (by subst hx; simp only [stF, *, and_true, true_and, and_false, false_and, and_self, ↓reduceIte])
          · exact absurd rfl h45
        · refine g_iconst B (v := 1) dX3_standing_36 (by decide) ?_
          refine g_goto B 41 dX3_standing_37 (by decide) ?_
          refine g_ist4 B dX3_standing_41 (by decide) rfl ?_
          refine g_iload B dX3_standing_43 rfl ?_
          refine g_if_eq B 63 dX3_standing_45 (by decide) (fun h45 => ?_) (fun h45 => ?_)
          · exact absurd h45 (by decide)
          · refine g_iload_n B dX3_standing_48 rfl ?_
            refine g_iload_n B dX3_standing_49 rfl ?_
            refine g_ishr B dX3_standing_50 ?_
            refine g_iconst B (v := 1) dX3_standing_51 (by decide) ?_
            refine g_iand B dX3_standing_52 ?_
            refine g_iconst B (v := 1) dX3_standing_53 (by decide) ?_
            refine g_icmp_ne B 63 dX3_standing_54 (by decide) (fun h54 => ?_) (fun h54 => ?_)
            · refine g_inc3 B dX3_standing_63 rfl (inc1 _) (by decide) rfl ?_
              refine g_goto B 4 dX3_standing_66 (by decide) ?_
              first | exact absurd h45 (by decide) | exact ih hlt _ _ (by subst hx; simp only [stF, *, and_true, true_and, and_false, false_and, and_self, ↓reduceIte])
            · refine g_iload_n B dX3_standing_57 rfl ?_
              refine g_iconst B (v := 1) dX3_standing_58 (by decide) ?_
              refine g_iload_n B dX3_standing_59 rfl ?_
              refine g_ishl B dX3_standing_60 ?_
              refine g_ior B dX3_standing_61 ?_
              refine g_istn2 B dX3_standing_62 (by decide) rfl ?_
              refine g_inc3 B dX3_standing_63 rfl (inc1 _) (by decide) rfl ?_
              refine g_goto B 4 dX3_standing_66 (by decide) ?_
              first | exact absurd h45 (by decide) | exact ih hlt _ _ (by subst hx; simp only [stF, *, and_true, true_and, and_false, false_and, and_self, ↓reduceIte])
  exact L 0 (Nat.zero_le n) _ _ rfl
set_option maxHeartbeats 4000000 in
set_option maxRecDepth 100000 in
theorem ct_X7_flag {I : Wo} (b : Bool) : Ct yX7_flag cX7_flag 1 (some .int) 0 0 [.int (bI b)] I (pI (fun r u => r = bI b ∧ I = u)) := by
  refine ct_of RX7 rfl (by decide) (Nat.le_of_ble_eq_true rfl) (fun X B E => ?_)
  show GW X 1 0 [some (.int (bI b))] [] _
  refine g_iload_n B dX7_flag_0 rfl ?_
  refine g_if_eq B 8 dX7_flag_1 (by decide) (fun h1 => ?_) (fun h1 => ?_)
  · refine g_iconst B (v := 0) dX7_flag_8 (by decide) ?_
    exact g_iret B E rfl dX7_flag_9 ⟨by simp_all [bI], rfl⟩
  · refine g_iconst B (v := 1) dX7_flag_4 (by decide) ?_
    refine g_goto B 9 dX7_flag_5 (by decide) ?_
    exact g_iret B E rfl dX7_flag_9 ⟨by simp_all [bI], rfl⟩

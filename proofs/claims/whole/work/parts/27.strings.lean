section STRINGS
variable {X : Cx} {cc : ByteArray} {nL fr lo pc : Nat} {own : String} {ls : List (Option Value)} {st stk : List Value} {I : Wo} {i : Nat}
theorem g_ldcS (B : Fx X cc nL RX4 fr lo) (hi : i < 8) (d : decode cc pc = .ok (.ldc (strI.getD i 0), 2)) (k : GW X nL (pc + 2) ls (.ref (81 + i) :: st) I) : GW X nL pc ls st I := by
  obtain ⟨p, l, e, R, s, m, args, below, meth, c, D, ad, cy, A, Q, kc, ks⟩ := X
  obtain ⟨⟨hx, hb, hml, hown, hts⟩, hj, hA, hK, hZ, hN, hfr, hlo, hkc, hks⟩ := B
  intro la H locs hl hP hS
  exact va_ldcS hx hb hown (hN.2.2 i hi) d (k la H locs hl hP hS)
theorem g_strV (B : Fx X cc nL RJ0 fr lo) (hi : i < 8) (d : decode cc pc = .ok (.getfield 9, 3)) (k : GW X nL (pc + 3) ls (.ref (90 + i) :: st) I) : GW X nL pc ls (.ref (81 + i) :: st) I := by
  obtain ⟨p, l, e, R, s, m, args, below, meth, c, D, ad, cy, A, Q, kc, ks⟩ := X
  obtain ⟨⟨hx, hb, hml, hown, hts⟩, hj, hA, hK, hZ, hN, hfr, hlo, hkc, hks⟩ := B
  intro la H locs hl hP hS
  exact vk_getf hx hb (hZ.2.2.2.2.1 i hi).2.2.1 hS hown (hts _ fl_J0_9) (fun _ h => h) d (k la H locs hl hP hS)
theorem g_strC (B : Fx X cc nL RJ0 fr lo) (hi : i < 8) (d : decode cc pc = .ok (.getfield 15, 3)) (k : GW X nL (pc + 3) ls (.int 0 :: st) I) : GW X nL pc ls (.ref (81 + i) :: st) I := by
  obtain ⟨p, l, e, R, s, m, args, below, meth, c, D, ad, cy, A, Q, kc, ks⟩ := X
  obtain ⟨⟨hx, hb, hml, hown, hts⟩, hj, hA, hK, hZ, hN, hfr, hlo, hkc, hks⟩ := B
  intro la H locs hl hP hS
  exact vk_getf hx hb (hZ.2.2.2.2.1 i hi).2.1 hS hown (hts _ fl_J0_15) (fun _ h => h) d (k la H locs hl hP hS)
theorem g_getC (B : Fx X cc nL RJ0 fr lo) (d : decode cc pc = .ok (.getstatic 38, 3)) (k : GW X nL (pc + 3) ls (.int 1 :: st) I) : GW X nL pc ls st I := by
  obtain ⟨p, l, e, R, s, m, args, below, meth, c, D, ad, cy, A, Q, kc, ks⟩ := X
  obtain ⟨⟨hx, hb, hml, hown, hts⟩, hj, hA, hK, hZ, hN, hfr, hlo, hkc, hks⟩ := B
  intro la H locs hl hP hS
  exact va_gets hx hb hZ.2.2.1 hS hown (hts _ fl_J0_38) (fun _ h => h) d (k la H locs hl hP hS)
theorem g_slen (B : Fx X cc nL own fr lo) (hi : i < 8) (d : decode cc pc = .ok (.arraylength, 1)) (k : GW X nL (pc + 1) ls (.int (nI (strN.getD i 0)) :: st) I) : GW X nL pc ls (.ref (90 + i) :: st) I := by
  obtain ⟨p, l, e, R, s, m, args, below, meth, c, D, ad, cy, A, Q, kc, ks⟩ := X
  obtain ⟨⟨hx, hb, hml, hown, hts⟩, hj, hA, hK, hZ, hN, hfr, hlo, hkc, hks⟩ := B
  intro la H locs hl hP hS
  exact va_tlen hx hb (hZ.2.2.2.2.1 i hi).2.2.2 hS rfl d (k la H locs hl hP hS)
theorem sN31 (hi : i < 8) : strN.getD i 0 < 2 ^ 31 := by
  rcases (show i = 0 ∨ i = 1 ∨ i = 2 ∨ i = 3 ∨ i = 4 ∨ i = 5 ∨ i = 6 ∨ i = 7 by omega) with rfl | rfl | rfl | rfl | rfl | rfl | rfl | rfl <;> decide
theorem g_sbald (B : Fx X cc nL own fr lo) (hi : i < 8) {x : Int32} (j : Nat) (he : x = nI j) (hj9 : j < strN.getD i 0) (d : decode cc pc = .ok (.baload, 1)) (k : GW X nL (pc + 1) ls (.int ((strB.getD i []).getD j 0) :: st) I) : GW X nL pc ls (.int x :: .ref (90 + i) :: st) I := by
  obtain ⟨p, l, e, R, s, m, args, below, meth, c, D, ad, cy, A, Q, kc, ks⟩ := X
  obtain ⟨⟨hx, hb, hml, hown, hts⟩, hj, hA, hK, hZ, hN, hfr, hlo, hkc, hks⟩ := B
  intro la H locs hl hP hS
  subst he
  exact va_tb hx hb (hZ.2.2.2.2.1 i hi).2.2.2 hS (vp_in_nI hj9 (sN31 hi)) (v := .int ((strB.getD i []).getD j 0)) (by rw [nI_clamp (Nat.lt_trans hj9 (sN31 hi))]) d (k la H locs hl hP hS)
theorem g_callKI {y : MethodName} {b : ByteArray} {nL' fr' lo' n ix : Nat} {ret : Option FieldType} {As : List Value} {post : Int32 → Wo → Prop} (B : Fx X cc nL own fr lo) (hi : i < 8) (hyc : y.cls = "java/lang/String") (ct : Ct y b nL' ret fr' lo' (.ref (81 + i) :: As) I (pI post)) (hl9 : Cond.methodLink own ix y ∈ lw_g) (hm : mV y b nL' ret n) (hn : As.length = n) (hst : stk = As.reverse ++ .ref (81 + i) :: st) (hw : (st.map fun v => v.category).sum ≤ 8) (d : decode cc pc = .ok (.invokevirtual ix, 3)) (hroom : fr' + 1 ≤ fr ∧ 8 + (nL' + 11) + lo' ≤ lo) (kk : ∀ r u, post r u → GW X nL (pc + 3) ls (.int r :: st) u) : GW X nL pc ls stk I :=
  g_callK B hi hyc ct hl9 hm hn hst hw (fun ad v u ⟨r, h, _⟩ => by subst h; rfl) d hroom (fun v u ⟨r, h, h2⟩ => by subst h; exact kk r u h2)
end STRINGS
set_option maxHeartbeats 4000000 in
set_option maxRecDepth 100000 in
/-- the index lies within: whatever stands third -/
theorem met_J3 {I : Wo} {j n : Nat} (hj : j < n) (hn : n < 2 ^ 31) (w : Value) (hw : w.category = 1) : ∀ (l : Launch) (D : va_G) (ad : Nat → Nat) (cy : Nat → ClassId), Met l yJ3_checkIndex_8e157 (.code yJ3_checkIndex_8e157 cJ3_checkIndex_8e157 3 (some .int) :: lw_g) { frames := 0, cells := 0, slots := 0, locals := 0 } (va_Pc [.int (nI j), .int (nI n), w] (WF D ad cy I)) (Qg (pI (fun r u => r = nI j ∧ I = u)) D ad cy) 0 0 (Aw ad) := by
  intro l D ad cy
  refine Met.ofW (cc := cJ3_checkIndex_8e157) (maxL := 3) (ret := some .int) (by decide) rfl ?_
  intro p e s m args below meth c s₁ B hml hv
  obtain ⟨rfl, hj9, hP, hK, hZ, hN⟩ := hv
  have hts := atoms_spec (ws := .code yJ3_checkIndex_8e157 cJ3_checkIndex_8e157 3 (some .int) :: lw_g) B.pre
  have hown' : s.vm.findClass RJ3 = some m.cls := findClass_of_methodNamed B.named
  rw [lg_entry_eq]
  have hl := lv_entry [.int (nI j), .int (nI n), w] (n := 3) (by cases w <;> simp [lg_sl, Value.category] at hw ⊢)
  have key : ∀ X : Cx, Fx X cJ3_checkIndex_8e157 3 RJ3 0 0 → Rx X (some .int) (pI (fun r u => r = nI j ∧ I = u)) → GW X 3 0 [some (.int (nI j)), some (.int (nI n)), none] [] I := by
    intro X B E
    refine g_iload_n B dJ3_checkIndex_8e157_0 rfl ?_
    refine g_if_lt B 9 dJ3_checkIndex_8e157_1 (by decide) (fun h => absurd h (nI_pos (by omega))) (fun h => ?_)
    refine g_iload_n B dJ3_checkIndex_8e157_4 rfl ?_
    refine g_iload_n B dJ3_checkIndex_8e157_5 rfl ?_
    refine g_icmp_lt B 16 dJ3_checkIndex_8e157_6 (by decide) (fun h => ?_) (fun h => absurd ((nI_ltI (by omega) hn).mpr hj) h)
    refine g_iload_n B dJ3_checkIndex_8e157_16 rfl ?_
    exact g_iret B E rfl dJ3_checkIndex_8e157_17 ⟨rfl, rfl⟩
  exact key (p, l, e, _, s, m, _, below, meth, c, D, ad, cy, Aw ad, _, 0, 0)
    ⟨⟨B.exec, B.bytes, hml, hown', fun w hw => hts w (List.mem_cons_of_mem _ hw)⟩, hj9, fun k hk => ⟨k, hk, rfl⟩, hK, hZ, hN, Nat.le_refl _, Nat.le_refl _, Nat.zero_le _, Nat.zero_le _⟩
    ⟨B.returns, B.notSynchronized, rfl, rfl⟩ _ _ _ ⟨hl.1, hl.2.1, fun i v hi => by
      match i, hi with
      | 0, hi => cases hi; exact hl.2.2 (0, .int (nI j)) (by simp [lv_args])
      | 1, hi => cases hi; exact hl.2.2 (1, .int (nI n)) (by simp [lv_args, Value.category])
      | 2, hi => cases hi
      | i + 3, hi => simp at hi⟩ hP va_S.rf
theorem g_chk {X : Cx} {cc : ByteArray} {nL fr lo pc : Nat} {ls : List (Option Value)} {st : List Value} {I : Wo} (B : Fx X cc nL RJ0 fr lo) {j n : Nat} (hj9 : j < n) (hn9 : n < 2 ^ 31) (hw : (st.map fun v => v.category).sum ≤ 8) (d1 : decode cc pc = .ok (.getstatic 1053, 3)) (d : decode cc (pc + 3) = .ok (.invokestatic 1059, 3)) (hroom : 0 + 1 ≤ fr ∧ 8 + (3 + 11) + 0 ≤ lo) (kk : GW X nL (pc + 3 + 3) ls (.int (nI j) :: st) I) : GW X nL pc ls (.int (nI n) :: .int (nI j) :: st) I := by
  obtain ⟨p, l, e, R, s, m, args, below, meth, c, D, ad, cy, A, Q, kc, ks⟩ := X
  obtain ⟨⟨hx, hb, hml, hown, hts⟩, hj, hA, hK, hZ, hN, hfr, hlo, hkc, hks⟩ := B
  intro la H locs hl hP hS
  obtain ⟨m1, m3, m4, m5⟩ := mm_J3_checkIndex_8e157
  have cw : CallB R s args RJ0 1059 yJ3_checkIndex_8e157 cJ3_checkIndex_8e157 3 (some .int) (.code yJ3_checkIndex_8e157 cJ3_checkIndex_8e157 3 (some .int) :: lw_g) { frames := 0, cells := 0, slots := 0, locals := 0 } 0 0 3 ∧ (Cond.static yJ3_checkIndex_8e157).before args s = true := va_cwS 3 hts (good_g (fun w hw => by
    rcases List.mem_append.mp hw with h | h
    · simp only [List.mem_cons, List.not_mem_nil, or_false] at h
      rcases h with rfl | rfl | rfl
      · exact ml_J0_1059
      · exact m1
      · exact m3
    · exact (good_c m4 w h).1)) rfl rfl rfl m5 ⟨Nat.le_trans hroom.1 hfr, Nat.le_trans hroom.2 hlo⟩
  have main : ∀ w : Value, w.category = 1 → W p l e R s m args below meth c H locs kc ks Q (F0 m (pc + 3) la (w :: .int (nI n) :: .int (nI j) :: st.map (cv ad))) := by
    intro w hwc
    refine qg_run (va_runS (As := [.int (nI j), .int (nI n), w]) (rest := st.map (cv ad)) ⟨hx, hb, hml, hown, hts⟩ (met_J3 hj9 hn9 w hwc l D ad cy) cw ⟨WF.blind, fun U hU hW => ⟨rfl, wf_at hj hA hK hZ hN hP hS hU hW⟩⟩ rfl rfl hl.1 rfl (lv_room (by rw [cv_cats]; exact hw)) d ⟨hkc, hks⟩) hS (fun q ⟨k, h1, h2⟩ => by rw [h2]; exact hA k h1) (fun v u H1 locs1 hp hP1 hS1 => ?_)
    obtain ⟨r, rfl, rfl, rfl⟩ := hp
    exact kk la H1 locs1 hl hP1 hS1
  rcases hZ.2.2.2.1 with h0 | ⟨t, h0⟩
  · exact va_gets hx hb h0 hS hown (hts _ fl_J0_1053) (fun _ h => h) d1 (main .null rfl)
  · exact va_gets hx hb h0 hS hown (hts _ fl_J0_1053) (fun _ h => h) d1 (main (.ref t) rfl)
theorem st_tab : (List.range 8).all (fun i => decide (nI (strN.getD i 0) >>> ((0 : Int32) &&& 31) = nI (strN.getD i 0)) && (List.range (strN.getD i 0)).all (fun j => decide (((((strB.getD i []).getD j 0) &&& 255).toUInt32 % 65536).toInt32 = (strB.getD i []).getD j 0) && decide ((strB.getD i []).getD j 0 = nI ((strB.getD i []).getD j 0).toNatClampNeg) && decide (((strB.getD i []).getD j 0).toNatClampNeg < 128))) = true := by decide +kernel
theorem st_len {i : Nat} (hi : i < 8) : nI (strN.getD i 0) >>> ((0 : Int32) &&& 31) = nI (strN.getD i 0) := by
  have h := List.all_eq_true.mp st_tab i (List.mem_range.mpr hi)
  simp only [Bool.and_eq_true, decide_eq_true_eq] at h
  exact h.1
theorem st_chr {i j : Nat} (hi : i < 8) (hj : j < strN.getD i 0) : ((((strB.getD i []).getD j 0) &&& 255).toUInt32 % 65536).toInt32 = (strB.getD i []).getD j 0 ∧ (strB.getD i []).getD j 0 = nI ((strB.getD i []).getD j 0).toNatClampNeg ∧ ((strB.getD i []).getD j 0).toNatClampNeg < 128 := by
  have h := List.all_eq_true.mp st_tab i (List.mem_range.mpr hi)
  simp only [Bool.and_eq_true] at h
  have h2 := List.all_eq_true.mp h.2 j (List.mem_range.mpr hj)
  simp only [Bool.and_eq_true, decide_eq_true_eq] at h2
  exact ⟨h2.1.1, h2.1.2, h2.2⟩
theorem st_nar {i j : Nat} (hi : i < 8) (hj : j < strN.getD i 0) : narrow .char (.int ((strB.getD i []).getD j 0)) = .int ((strB.getD i []).getD j 0) := by
  have h := List.all_eq_true.mp (show (List.range 8).all (fun i => (List.range (strN.getD i 0)).all (fun j => decide (narrow .char (.int ((strB.getD i []).getD j 0)) = .int ((strB.getD i []).getD j 0)))) = true by decide +kernel) i (List.mem_range.mpr hi)
  have h2 := List.all_eq_true.mp h j (List.mem_range.mpr hj)
  simpa using h2
set_option maxHeartbeats 4000000 in
set_option maxRecDepth 100000 in
theorem ct_J0_coder_7d493 {I : Wo} {i : Nat} (hi : i < 8) : Ct yJ0_coder_7d493 cJ0_coder_7d493 1 (some .byte) 0 0 [.ref (81 + i)] I (pI (fun r u => r = 0 ∧ I = u)) := by
  refine ct_of RJ0 rfl (by decide) (Nat.le_of_ble_eq_true rfl) (fun X B E => ?_)
  show GW X 1 0 [some (.ref (81 + i))] [] _
  refine g_getC B dJ0_coder_7d493_0 ?_
  refine g_if_eq B 13 dJ0_coder_7d493_3 (by decide) (fun h3 => ?_) (fun h3 => ?_)
  · exact absurd h3 (by decide)
  · refine g_aload_n B dJ0_coder_7d493_6 rfl ?_
    refine g_strC B hi dJ0_coder_7d493_7 ?_
    refine g_goto B 14 dJ0_coder_7d493_10 (by decide) ?_
    exact g_iret B E (by decide) dJ0_coder_7d493_14 ⟨rfl, rfl⟩
set_option maxHeartbeats 4000000 in
set_option maxRecDepth 100000 in
theorem ct_J0_isLatin1_aae02 {I : Wo} {i : Nat} (hi : i < 8) : Ct yJ0_isLatin1_aae02 cJ0_isLatin1_aae02 1 (some .boolean) 0 0 [.ref (81 + i)] I (pI (fun r u => r = 1 ∧ I = u)) := by
  refine ct_of RJ0 rfl (by decide) (Nat.le_of_ble_eq_true rfl) (fun X B E => ?_)
  show GW X 1 0 [some (.ref (81 + i))] [] _
  refine g_getC B dJ0_isLatin1_aae02_0 ?_
  refine g_if_eq B 17 dJ0_isLatin1_aae02_3 (by decide) (fun h3 => ?_) (fun h3 => ?_)
  · exact absurd h3 (by decide)
  · refine g_aload_n B dJ0_isLatin1_aae02_6 rfl ?_
    refine g_strC B hi dJ0_isLatin1_aae02_7 ?_
    refine g_if_ne B 17 dJ0_isLatin1_aae02_10 (by decide) (fun h10 => ?_) (fun h10 => ?_)
    · exact absurd rfl h10
    · refine g_iconst B (v := 1) dJ0_isLatin1_aae02_13 (by decide) ?_
      refine g_goto B 18 dJ0_isLatin1_aae02_14 (by decide) ?_
      exact g_iret B E (by decide) dJ0_isLatin1_aae02_18 ⟨rfl, rfl⟩
set_option maxHeartbeats 4000000 in
set_option maxRecDepth 100000 in
theorem ct_J0_length_8abf5 {I : Wo} {i : Nat} (hi : i < 8) : Ct yJ0_length_8abf5 cJ0_length_8abf5 1 (some .int) 1 20 [.ref (81 + i)] I (pI (fun r u => r = nI (strN.getD i 0) ∧ I = u)) := by
  refine ct_of RJ0 rfl (by decide) (Nat.le_of_ble_eq_true rfl) (fun X B E => ?_)
  show GW X 1 0 [some (.ref (81 + i))] [] _
  refine g_aload_n B dJ0_length_8abf5_0 rfl ?_
  refine g_strV B hi dJ0_length_8abf5_1 ?_
  refine g_slen B hi dJ0_length_8abf5_4 ?_
  refine g_aload_n B dJ0_length_8abf5_5 rfl ?_
  refine g_callKI B hi rfl (ct_J0_coder_7d493 hi) ml_J0_335 mm_J0_coder_7d493 rfl rfl (Nat.le_of_ble_eq_true rfl) dJ0_length_8abf5_6 (by decide) ?_
  rintro _ _ ⟨rfl, rfl⟩
  refine g_ishr B dJ0_length_8abf5_9 ?_
  rw [st_len hi]
  exact g_iret B E rfl dJ0_length_8abf5_10 ⟨rfl, rfl⟩
set_option maxHeartbeats 4000000 in
set_option maxRecDepth 100000 in
theorem ct_J0_checkIndex_df160 {I : Wo} {j n : Nat} (hj : j < n) (hn : n < 2 ^ 31) : Ct yJ0_checkIndex_df160 cJ0_checkIndex_df160 2 none 2 44 [.int (nI j), .int (nI n)] I (pV (fun u => I = u)) := by
  refine ct_of RJ0 rfl (by decide) (Nat.le_of_ble_eq_true rfl) (fun X B E => ?_)
  show GW X 2 0 [some (.int (nI j)), some (.int (nI n))] [] _
  refine g_iload_n B dJ0_checkIndex_df160_0 rfl ?_
  refine g_iload_n B dJ0_checkIndex_df160_1 rfl ?_
  refine g_chk B hj hn (Nat.le_of_ble_eq_true rfl) dJ0_checkIndex_df160_2 dJ0_checkIndex_df160_5 (by decide) ?_
  refine g_pop B dJ0_checkIndex_df160_8 rfl ?_
  exact g_vret B E dJ0_checkIndex_df160_9 rfl
set_option maxHeartbeats 4000000 in
set_option maxRecDepth 100000 in
theorem ct_J1_charAt_3b067 {I : Wo} {i j : Nat} (hi : i < 8) (hj : j < strN.getD i 0) : Ct yJ1_charAt_3b067 cJ1_charAt_3b067 2 (some .char) 3 65 [.ref (90 + i), .int (nI j)] I (pI (fun r u => r = (strB.getD i []).getD j 0 ∧ I = u)) := by
  refine ct_of RJ1 rfl (by decide) (Nat.le_of_ble_eq_true rfl) (fun X B E => ?_)
  show GW X 2 0 [some (.ref (90 + i)), some (.int (nI j))] [] _
  refine g_iload_n B dJ1_charAt_3b067_0 rfl ?_
  refine g_aload_n B dJ1_charAt_3b067_1 rfl ?_
  refine g_slen B hi dJ1_charAt_3b067_2 ?_
  refine g_callSV B (ct_J0_checkIndex_df160 hj (sN31 hi)) ml_J1_9 mm_J0_checkIndex_df160 rfl rfl (Nat.le_of_ble_eq_true rfl) dJ1_charAt_3b067_3 (by decide) ?_
  rintro _ rfl
  refine g_aload_n B dJ1_charAt_3b067_6 rfl ?_
  refine g_iload_n B dJ1_charAt_3b067_7 rfl ?_
  refine g_sbald B hi j rfl hj dJ1_charAt_3b067_8 ?_
  refine g_sipush B (v := 255) dJ1_charAt_3b067_9 (by decide) ?_
  refine g_iand B dJ1_charAt_3b067_12 ?_
  refine g_i2c B dJ1_charAt_3b067_13 ?_
  rw [(st_chr hi hj).1]
  exact g_iret B E (st_nar hi hj) dJ1_charAt_3b067_14 ⟨rfl, rfl⟩
set_option maxHeartbeats 4000000 in
set_option maxRecDepth 100000 in
theorem ct_J0_charAt_5068e {I : Wo} {i j : Nat} (hi : i < 8) (hj : j < strN.getD i 0) : Ct yJ0_charAt_5068e cJ0_charAt_5068e 2 (some .char) 5 107 [.ref (81 + i), .int (nI j)] I (pI (fun r u => r = (strB.getD i []).getD j 0 ∧ I = u)) := by
  refine ct_of RJ0 rfl (by decide) (Nat.le_of_ble_eq_true rfl) (fun X B E => ?_)
  show GW X 2 0 [some (.ref (81 + i)), some (.int (nI j))] [] _
  refine g_aload_n B dJ0_charAt_5068e_0 rfl ?_
  refine g_callKI B hi rfl (ct_J0_isLatin1_aae02 hi) ml_J0_492 mm_J0_isLatin1_aae02 rfl rfl (Nat.le_of_ble_eq_true rfl) dJ0_charAt_5068e_1 (by decide) ?_
  rintro _ _ ⟨rfl, rfl⟩
  refine g_if_eq B 16 dJ0_charAt_5068e_4 (by decide) (fun h4 => ?_) (fun h4 => ?_)
  · exact absurd h4 (by decide)
  · refine g_aload_n B dJ0_charAt_5068e_7 rfl ?_
    refine g_strV B hi dJ0_charAt_5068e_8 ?_
    refine g_iload_n B dJ0_charAt_5068e_11 rfl ?_
    refine g_callSI B (ct_J1_charAt_3b067 hi hj) ml_J0_495 mm_J1_charAt_3b067 rfl rfl (Nat.le_of_ble_eq_true rfl) dJ0_charAt_5068e_12 (by decide) ?_
    rintro _ _ ⟨rfl, rfl⟩
    exact g_iret B E (st_nar hi hj) dJ0_charAt_5068e_15 ⟨rfl, rfl⟩

section RULES
variable {X : Cx} {cc : ByteArray} {nL fr lo pc : Nat} {own : String} {ls : List (Option Value)} {st : List Value} {I : Wo}
theorem g_iconst (B : Fx X cc nL own fr lo) {n : Int} {v : Int32} (d : decode cc pc = .ok (.iconst n, 1)) (hv : Int32.ofInt n = v) (k : GW X nL (pc + 1) ls (.int v :: st) I) : GW X nL pc ls (st) I := by
  obtain ⟨p, l, e, R, s, m, args, below, meth, c, D, ad, cy, A, Q, kc, ks⟩ := X
  obtain ⟨⟨hx, hb, hml, hown, hts⟩, hj, hA, hK, hZ, hN, hfr, hlo, hkc, hks⟩ := B
  intro la H locs hl hP hS
  exact lv_iconst hx hb d hv (k la H locs hl hP hS)
theorem g_bipush (B : Fx X cc nL own fr lo) {n : Int} {v : Int32} (d : decode cc pc = .ok (.bipush n, 2)) (hv : (Int8.ofInt n).toInt32 = v) (k : GW X nL (pc + 2) ls (.int v :: st) I) : GW X nL pc ls (st) I := by
  obtain ⟨p, l, e, R, s, m, args, below, meth, c, D, ad, cy, A, Q, kc, ks⟩ := X
  obtain ⟨⟨hx, hb, hml, hown, hts⟩, hj, hA, hK, hZ, hN, hfr, hlo, hkc, hks⟩ := B
  intro la H locs hl hP hS
  exact lv_bipush hx hb d hv (k la H locs hl hP hS)
theorem g_sipush (B : Fx X cc nL own fr lo) {n : Int} {v : Int32} (d : decode cc pc = .ok (.sipush n, 3)) (hv : (Int16.ofInt n).toInt32 = v) (k : GW X nL (pc + 3) ls (.int v :: st) I) : GW X nL pc ls (st) I := by
  obtain ⟨p, l, e, R, s, m, args, below, meth, c, D, ad, cy, A, Q, kc, ks⟩ := X
  obtain ⟨⟨hx, hb, hml, hown, hts⟩, hj, hA, hK, hZ, hN, hfr, hlo, hkc, hks⟩ := B
  intro la H locs hl hP hS
  exact lv_sipush hx hb d hv (k la H locs hl hP hS)
theorem g_lconst (B : Fx X cc nL own fr lo) {n : Fin 2} {v : Int64} (d : decode cc pc = .ok (.lconst n, 1)) (hv : Int64.ofNat (n : Nat) = v) (k : GW X nL (pc + 1) ls (.long v :: st) I) : GW X nL pc ls (st) I := by
  obtain ⟨p, l, e, R, s, m, args, below, meth, c, D, ad, cy, A, Q, kc, ks⟩ := X
  obtain ⟨⟨hx, hb, hml, hown, hts⟩, hj, hA, hK, hZ, hN, hfr, hlo, hkc, hks⟩ := B
  intro la H locs hl hP hS
  exact lv_lconst hx hb d hv (k la H locs hl hP hS)
theorem g_ldc (B : Fx X cc nL own fr lo) {ix : Nat} {v : Int32} (d : decode cc pc = .ok (.ldc ix, 2)) (hc : Cond.constant own ix v ∈ lw_g) (k : GW X nL (pc + 2) ls (.int v :: st) I) : GW X nL pc ls (st) I := by
  obtain ⟨p, l, e, R, s, m, args, below, meth, c, D, ad, cy, A, Q, kc, ks⟩ := X
  obtain ⟨⟨hx, hb, hml, hown, hts⟩, hj, hA, hK, hZ, hN, hfr, hlo, hkc, hks⟩ := B
  intro la H locs hl hP hS
  exact lv_ldc hx hb hown (hts _ hc) d (k la H locs hl hP hS)
theorem g_ldcw (B : Fx X cc nL own fr lo) {ix : Nat} {v : Int32} (d : decode cc pc = .ok (.ldc_w ix, 3)) (hc : Cond.constant own ix v ∈ lw_g) (k : GW X nL (pc + 3) ls (.int v :: st) I) : GW X nL pc ls (st) I := by
  obtain ⟨p, l, e, R, s, m, args, below, meth, c, D, ad, cy, A, Q, kc, ks⟩ := X
  obtain ⟨⟨hx, hb, hml, hown, hts⟩, hj, hA, hK, hZ, hN, hfr, hlo, hkc, hks⟩ := B
  intro la H locs hl hP hS
  exact lv_ldcw hx hb hown (hts _ hc) d (k la H locs hl hP hS)
theorem g_ldc2 (B : Fx X cc nL own fr lo) {ix : Nat} {v : Int64} (d : decode cc pc = .ok (.ldc2_w ix, 3)) (hc : Cond.constantLong own ix v ∈ lw_g) (k : GW X nL (pc + 3) ls (.long v :: st) I) : GW X nL pc ls (st) I := by
  obtain ⟨p, l, e, R, s, m, args, below, meth, c, D, ad, cy, A, Q, kc, ks⟩ := X
  obtain ⟨⟨hx, hb, hml, hown, hts⟩, hj, hA, hK, hZ, hN, hfr, hlo, hkc, hks⟩ := B
  intro la H locs hl hP hS
  exact lv_ldc2 hx hb hown (hts _ hc) d (k la H locs hl hP hS)
theorem g_iload_n (B : Fx X cc nL own fr lo) {i : Fin 4} {x : Int32} (d : decode cc pc = .ok (.iload_n i, 1)) (h : ls[(i : Nat)]? = some (some (.int x))) (k : GW X nL (pc + 1) ls (.int x :: st) I) : GW X nL pc ls (st) I := by
  obtain ⟨p, l, e, R, s, m, args, below, meth, c, D, ad, cy, A, Q, kc, ks⟩ := X
  obtain ⟨⟨hx, hb, hml, hown, hts⟩, hj, hA, hK, hZ, hN, hfr, hlo, hkc, hks⟩ := B
  intro la H locs hl hP hS
  exact lv_iload_n hx hb d rfl (hl.2.2 _ _ h) (k la H locs hl hP hS)
theorem g_iload (B : Fx X cc nL own fr lo) {i : Nat} {x : Int32} (d : decode cc pc = .ok (.iload i, 2)) (h : ls[i]? = some (some (.int x))) (k : GW X nL (pc + 2) ls (.int x :: st) I) : GW X nL pc ls (st) I := by
  obtain ⟨p, l, e, R, s, m, args, below, meth, c, D, ad, cy, A, Q, kc, ks⟩ := X
  obtain ⟨⟨hx, hb, hml, hown, hts⟩, hj, hA, hK, hZ, hN, hfr, hlo, hkc, hks⟩ := B
  intro la H locs hl hP hS
  exact lv_iload hx hb d (hl.2.2 _ _ h) (k la H locs hl hP hS)
theorem g_lload_n (B : Fx X cc nL own fr lo) {i : Fin 4} {x : Int64} (d : decode cc pc = .ok (.lload_n i, 1)) (h : ls[(i : Nat)]? = some (some (.long x))) (k : GW X nL (pc + 1) ls (.long x :: st) I) : GW X nL pc ls (st) I := by
  obtain ⟨p, l, e, R, s, m, args, below, meth, c, D, ad, cy, A, Q, kc, ks⟩ := X
  obtain ⟨⟨hx, hb, hml, hown, hts⟩, hj, hA, hK, hZ, hN, hfr, hlo, hkc, hks⟩ := B
  intro la H locs hl hP hS
  exact lv_lload_n hx hb d rfl (hl.2.2 _ _ h) (k la H locs hl hP hS)
theorem g_lload (B : Fx X cc nL own fr lo) {i : Nat} {x : Int64} (d : decode cc pc = .ok (.lload i, 2)) (h : ls[i]? = some (some (.long x))) (k : GW X nL (pc + 2) ls (.long x :: st) I) : GW X nL pc ls (st) I := by
  obtain ⟨p, l, e, R, s, m, args, below, meth, c, D, ad, cy, A, Q, kc, ks⟩ := X
  obtain ⟨⟨hx, hb, hml, hown, hts⟩, hj, hA, hK, hZ, hN, hfr, hlo, hkc, hks⟩ := B
  intro la H locs hl hP hS
  exact lv_lload hx hb d (hl.2.2 _ _ h) (k la H locs hl hP hS)
theorem g_aload_n (B : Fx X cc nL own fr lo) {i : Fin 4} {x : Nat} (d : decode cc pc = .ok (.aload_n i, 1)) (h : ls[(i : Nat)]? = some (some (.ref x))) (k : GW X nL (pc + 1) ls (.ref x :: st) I) : GW X nL pc ls (st) I := by
  obtain ⟨p, l, e, R, s, m, args, below, meth, c, D, ad, cy, A, Q, kc, ks⟩ := X
  obtain ⟨⟨hx, hb, hml, hown, hts⟩, hj, hA, hK, hZ, hN, hfr, hlo, hkc, hks⟩ := B
  intro la H locs hl hP hS
  exact lv_aload_n hx hb d rfl (hl.2.2 _ _ h) (k la H locs hl hP hS)
theorem g_aload (B : Fx X cc nL own fr lo) {i : Nat} {x : Nat} (d : decode cc pc = .ok (.aload i, 2)) (h : ls[i]? = some (some (.ref x))) (k : GW X nL (pc + 2) ls (.ref x :: st) I) : GW X nL pc ls (st) I := by
  obtain ⟨p, l, e, R, s, m, args, below, meth, c, D, ad, cy, A, Q, kc, ks⟩ := X
  obtain ⟨⟨hx, hb, hml, hown, hts⟩, hj, hA, hK, hZ, hN, hfr, hlo, hkc, hks⟩ := B
  intro la H locs hl hP hS
  exact lv_aload hx hb d (hl.2.2 _ _ h) (k la H locs hl hP hS)
theorem g_aload_nN (B : Fx X cc nL own fr lo) {i : Fin 4} (d : decode cc pc = .ok (.aload_n i, 1)) (h : ls[(i : Nat)]? = some (some .null)) (k : GW X nL (pc + 1) ls (.null :: st) I) : GW X nL pc ls (st) I := by
  obtain ⟨p, l, e, R, s, m, args, below, meth, c, D, ad, cy, A, Q, kc, ks⟩ := X
  obtain ⟨⟨hx, hb, hml, hown, hts⟩, hj, hA, hK, hZ, hN, hfr, hlo, hkc, hks⟩ := B
  intro la H locs hl hP hS
  exact lv_aload_nN hx hb d rfl (hl.2.2 _ _ h) (k la H locs hl hP hS)
theorem g_iadd (B : Fx X cc nL own fr lo) {x y : Int32} (d : decode cc pc = .ok (.iadd, 1))  (k : GW X nL (pc + 1) ls (.int (x + y) :: st) I) : GW X nL pc ls (.int y :: .int x :: st) I := by
  obtain ⟨p, l, e, R, s, m, args, below, meth, c, D, ad, cy, A, Q, kc, ks⟩ := X
  obtain ⟨⟨hx, hb, hml, hown, hts⟩, hj, hA, hK, hZ, hN, hfr, hlo, hkc, hks⟩ := B
  intro la H locs hl hP hS
  exact lv_iadd hx hb d (k la H locs hl hP hS)
theorem g_isub (B : Fx X cc nL own fr lo) {x y : Int32} (d : decode cc pc = .ok (.isub, 1))  (k : GW X nL (pc + 1) ls (.int (x - y) :: st) I) : GW X nL pc ls (.int y :: .int x :: st) I := by
  obtain ⟨p, l, e, R, s, m, args, below, meth, c, D, ad, cy, A, Q, kc, ks⟩ := X
  obtain ⟨⟨hx, hb, hml, hown, hts⟩, hj, hA, hK, hZ, hN, hfr, hlo, hkc, hks⟩ := B
  intro la H locs hl hP hS
  exact lv_isub hx hb d (k la H locs hl hP hS)
theorem g_imul (B : Fx X cc nL own fr lo) {x y : Int32} (d : decode cc pc = .ok (.imul, 1))  (k : GW X nL (pc + 1) ls (.int (x * y) :: st) I) : GW X nL pc ls (.int y :: .int x :: st) I := by
  obtain ⟨p, l, e, R, s, m, args, below, meth, c, D, ad, cy, A, Q, kc, ks⟩ := X
  obtain ⟨⟨hx, hb, hml, hown, hts⟩, hj, hA, hK, hZ, hN, hfr, hlo, hkc, hks⟩ := B
  intro la H locs hl hP hS
  exact lv_imul hx hb d (k la H locs hl hP hS)
theorem g_iand (B : Fx X cc nL own fr lo) {x y : Int32} (d : decode cc pc = .ok (.iand, 1))  (k : GW X nL (pc + 1) ls (.int (x &&& y) :: st) I) : GW X nL pc ls (.int y :: .int x :: st) I := by
  obtain ⟨p, l, e, R, s, m, args, below, meth, c, D, ad, cy, A, Q, kc, ks⟩ := X
  obtain ⟨⟨hx, hb, hml, hown, hts⟩, hj, hA, hK, hZ, hN, hfr, hlo, hkc, hks⟩ := B
  intro la H locs hl hP hS
  exact lv_iand hx hb d (k la H locs hl hP hS)
theorem g_ior (B : Fx X cc nL own fr lo) {x y : Int32} (d : decode cc pc = .ok (.ior, 1))  (k : GW X nL (pc + 1) ls (.int (x ||| y) :: st) I) : GW X nL pc ls (.int y :: .int x :: st) I := by
  obtain ⟨p, l, e, R, s, m, args, below, meth, c, D, ad, cy, A, Q, kc, ks⟩ := X
  obtain ⟨⟨hx, hb, hml, hown, hts⟩, hj, hA, hK, hZ, hN, hfr, hlo, hkc, hks⟩ := B
  intro la H locs hl hP hS
  exact lv_ior hx hb d (k la H locs hl hP hS)
theorem g_ixor (B : Fx X cc nL own fr lo) {x y : Int32} (d : decode cc pc = .ok (.ixor, 1))  (k : GW X nL (pc + 1) ls (.int (x ^^^ y) :: st) I) : GW X nL pc ls (.int y :: .int x :: st) I := by
  obtain ⟨p, l, e, R, s, m, args, below, meth, c, D, ad, cy, A, Q, kc, ks⟩ := X
  obtain ⟨⟨hx, hb, hml, hown, hts⟩, hj, hA, hK, hZ, hN, hfr, hlo, hkc, hks⟩ := B
  intro la H locs hl hP hS
  exact lv_ixor hx hb d (k la H locs hl hP hS)
theorem g_ishl (B : Fx X cc nL own fr lo) {x y : Int32} (d : decode cc pc = .ok (.ishl, 1))  (k : GW X nL (pc + 1) ls (.int (x <<< (y &&& 31)) :: st) I) : GW X nL pc ls (.int y :: .int x :: st) I := by
  obtain ⟨p, l, e, R, s, m, args, below, meth, c, D, ad, cy, A, Q, kc, ks⟩ := X
  obtain ⟨⟨hx, hb, hml, hown, hts⟩, hj, hA, hK, hZ, hN, hfr, hlo, hkc, hks⟩ := B
  intro la H locs hl hP hS
  exact lv_ishl hx hb d (k la H locs hl hP hS)
theorem g_ishr (B : Fx X cc nL own fr lo) {x y : Int32} (d : decode cc pc = .ok (.ishr, 1))  (k : GW X nL (pc + 1) ls (.int (x >>> (y &&& 31)) :: st) I) : GW X nL pc ls (.int y :: .int x :: st) I := by
  obtain ⟨p, l, e, R, s, m, args, below, meth, c, D, ad, cy, A, Q, kc, ks⟩ := X
  obtain ⟨⟨hx, hb, hml, hown, hts⟩, hj, hA, hK, hZ, hN, hfr, hlo, hkc, hks⟩ := B
  intro la H locs hl hP hS
  exact lv_ishr hx hb d (k la H locs hl hP hS)
theorem g_iushr (B : Fx X cc nL own fr lo) {x y : Int32} (d : decode cc pc = .ok (.iushr, 1))  (k : GW X nL (pc + 1) ls (.int ((x.toUInt32 >>> (y.toUInt32 &&& Int32.toUInt32 31)).toInt32) :: st) I) : GW X nL pc ls (.int y :: .int x :: st) I := by
  obtain ⟨p, l, e, R, s, m, args, below, meth, c, D, ad, cy, A, Q, kc, ks⟩ := X
  obtain ⟨⟨hx, hb, hml, hown, hts⟩, hj, hA, hK, hZ, hN, hfr, hlo, hkc, hks⟩ := B
  intro la H locs hl hP hS
  exact lv_iushr hx hb d rfl (k la H locs hl hP hS)
theorem g_irem (B : Fx X cc nL own fr lo) {x y : Int32} (d : decode cc pc = .ok (.irem, 1)) (hne : ¬ y = 0) (k : GW X nL (pc + 1) ls (.int (x - x / y * y) :: st) I) : GW X nL pc ls (.int y :: .int x :: st) I := by
  obtain ⟨p, l, e, R, s, m, args, below, meth, c, D, ad, cy, A, Q, kc, ks⟩ := X
  obtain ⟨⟨hx, hb, hml, hown, hts⟩, hj, hA, hK, hZ, hN, hfr, hlo, hkc, hks⟩ := B
  intro la H locs hl hP hS
  exact lv_irem hx hb d hne (k la H locs hl hP hS)
theorem g_ladd (B : Fx X cc nL own fr lo) {x y : Int64} (d : decode cc pc = .ok (.ladd, 1))  (k : GW X nL (pc + 1) ls (.long (x + y) :: st) I) : GW X nL pc ls (.long y :: .long x :: st) I := by
  obtain ⟨p, l, e, R, s, m, args, below, meth, c, D, ad, cy, A, Q, kc, ks⟩ := X
  obtain ⟨⟨hx, hb, hml, hown, hts⟩, hj, hA, hK, hZ, hN, hfr, hlo, hkc, hks⟩ := B
  intro la H locs hl hP hS
  exact lv_ladd hx hb d (k la H locs hl hP hS)
theorem g_lsub (B : Fx X cc nL own fr lo) {x y : Int64} (d : decode cc pc = .ok (.lsub, 1))  (k : GW X nL (pc + 1) ls (.long (x - y) :: st) I) : GW X nL pc ls (.long y :: .long x :: st) I := by
  obtain ⟨p, l, e, R, s, m, args, below, meth, c, D, ad, cy, A, Q, kc, ks⟩ := X
  obtain ⟨⟨hx, hb, hml, hown, hts⟩, hj, hA, hK, hZ, hN, hfr, hlo, hkc, hks⟩ := B
  intro la H locs hl hP hS
  exact lv_lsub hx hb d (k la H locs hl hP hS)
theorem g_lmul (B : Fx X cc nL own fr lo) {x y : Int64} (d : decode cc pc = .ok (.lmul, 1))  (k : GW X nL (pc + 1) ls (.long (x * y) :: st) I) : GW X nL pc ls (.long y :: .long x :: st) I := by
  obtain ⟨p, l, e, R, s, m, args, below, meth, c, D, ad, cy, A, Q, kc, ks⟩ := X
  obtain ⟨⟨hx, hb, hml, hown, hts⟩, hj, hA, hK, hZ, hN, hfr, hlo, hkc, hks⟩ := B
  intro la H locs hl hP hS
  exact lv_lmul hx hb d (k la H locs hl hP hS)
theorem g_ldiv (B : Fx X cc nL own fr lo) {x y : Int64} (d : decode cc pc = .ok (.ldiv, 1)) (hne : ¬ y = 0) (k : GW X nL (pc + 1) ls (.long (x / y) :: st) I) : GW X nL pc ls (.long y :: .long x :: st) I := by
  obtain ⟨p, l, e, R, s, m, args, below, meth, c, D, ad, cy, A, Q, kc, ks⟩ := X
  obtain ⟨⟨hx, hb, hml, hown, hts⟩, hj, hA, hK, hZ, hN, hfr, hlo, hkc, hks⟩ := B
  intro la H locs hl hP hS
  exact lv_ldiv hx hb d hne (k la H locs hl hP hS)
theorem g_lrem (B : Fx X cc nL own fr lo) {x y : Int64} (d : decode cc pc = .ok (.lrem, 1)) (hne : ¬ y = 0) (k : GW X nL (pc + 1) ls (.long (x - x / y * y) :: st) I) : GW X nL pc ls (.long y :: .long x :: st) I := by
  obtain ⟨p, l, e, R, s, m, args, below, meth, c, D, ad, cy, A, Q, kc, ks⟩ := X
  obtain ⟨⟨hx, hb, hml, hown, hts⟩, hj, hA, hK, hZ, hN, hfr, hlo, hkc, hks⟩ := B
  intro la H locs hl hP hS
  exact lv_lrem hx hb d hne (k la H locs hl hP hS)
theorem g_lneg (B : Fx X cc nL own fr lo) {x : Int64} (d : decode cc pc = .ok (.lneg, 1))  (k : GW X nL (pc + 1) ls (.long (-x) :: st) I) : GW X nL pc ls (.long x :: st) I := by
  obtain ⟨p, l, e, R, s, m, args, below, meth, c, D, ad, cy, A, Q, kc, ks⟩ := X
  obtain ⟨⟨hx, hb, hml, hown, hts⟩, hj, hA, hK, hZ, hN, hfr, hlo, hkc, hks⟩ := B
  intro la H locs hl hP hS
  exact lv_lneg hx hb d (k la H locs hl hP hS)
theorem g_i2l (B : Fx X cc nL own fr lo) {x : Int32} (d : decode cc pc = .ok (.i2l, 1))  (k : GW X nL (pc + 1) ls (.long x.toInt64 :: st) I) : GW X nL pc ls (.int x :: st) I := by
  obtain ⟨p, l, e, R, s, m, args, below, meth, c, D, ad, cy, A, Q, kc, ks⟩ := X
  obtain ⟨⟨hx, hb, hml, hown, hts⟩, hj, hA, hK, hZ, hN, hfr, hlo, hkc, hks⟩ := B
  intro la H locs hl hP hS
  exact lv_i2l hx hb d rfl (k la H locs hl hP hS)
theorem g_i2b (B : Fx X cc nL own fr lo) {x : Int32} (d : decode cc pc = .ok (.i2b, 1))  (k : GW X nL (pc + 1) ls (.int x.toInt8.toInt32 :: st) I) : GW X nL pc ls (.int x :: st) I := by
  obtain ⟨p, l, e, R, s, m, args, below, meth, c, D, ad, cy, A, Q, kc, ks⟩ := X
  obtain ⟨⟨hx, hb, hml, hown, hts⟩, hj, hA, hK, hZ, hN, hfr, hlo, hkc, hks⟩ := B
  intro la H locs hl hP hS
  exact lv_i2b hx hb d rfl (k la H locs hl hP hS)
theorem g_i2s (B : Fx X cc nL own fr lo) {x : Int32} (d : decode cc pc = .ok (.i2s, 1))  (k : GW X nL (pc + 1) ls (.int x.toInt16.toInt32 :: st) I) : GW X nL pc ls (.int x :: st) I := by
  obtain ⟨p, l, e, R, s, m, args, below, meth, c, D, ad, cy, A, Q, kc, ks⟩ := X
  obtain ⟨⟨hx, hb, hml, hown, hts⟩, hj, hA, hK, hZ, hN, hfr, hlo, hkc, hks⟩ := B
  intro la H locs hl hP hS
  exact lv_i2s hx hb d rfl (k la H locs hl hP hS)
theorem g_i2c (B : Fx X cc nL own fr lo) {x : Int32} (d : decode cc pc = .ok (.i2c, 1))  (k : GW X nL (pc + 1) ls (.int (x.toUInt32 % 65536).toInt32 :: st) I) : GW X nL pc ls (.int x :: st) I := by
  obtain ⟨p, l, e, R, s, m, args, below, meth, c, D, ad, cy, A, Q, kc, ks⟩ := X
  obtain ⟨⟨hx, hb, hml, hown, hts⟩, hj, hA, hK, hZ, hN, hfr, hlo, hkc, hks⟩ := B
  intro la H locs hl hP hS
  exact lv_i2c hx hb d rfl (k la H locs hl hP hS)
theorem g_lcmp (B : Fx X cc nL own fr lo) {x y : Int64} (d : decode cc pc = .ok (.lcmp, 1))  (k : GW X nL (pc + 1) ls (.int (lg_cmp x y) :: st) I) : GW X nL pc ls (.long y :: .long x :: st) I := by
  obtain ⟨p, l, e, R, s, m, args, below, meth, c, D, ad, cy, A, Q, kc, ks⟩ := X
  obtain ⟨⟨hx, hb, hml, hown, hts⟩, hj, hA, hK, hZ, hN, hfr, hlo, hkc, hks⟩ := B
  intro la H locs hl hP hS
  exact W.lcmp hx hb d (k la H locs hl hP hS)
theorem g_dup (B : Fx X cc nL own fr lo) {v : Value} (d : decode cc pc = .ok (.dup, 1)) (hv : v.category = 1) (k : GW X nL (pc + 1) ls (v :: v :: st) I) : GW X nL pc ls (v :: st) I := by
  obtain ⟨p, l, e, R, s, m, args, below, meth, c, D, ad, cy, A, Q, kc, ks⟩ := X
  obtain ⟨⟨hx, hb, hml, hown, hts⟩, hj, hA, hK, hZ, hN, hfr, hlo, hkc, hks⟩ := B
  intro la H locs hl hP hS
  exact lv_dup hx hb d (by rw [cv_cat]; exact hv) (k la H locs hl hP hS)
theorem g_pop (B : Fx X cc nL own fr lo) {v : Value} (d : decode cc pc = .ok (.pop, 1)) (hv : v.category = 1) (k : GW X nL (pc + 1) ls (st) I) : GW X nL pc ls (v :: st) I := by
  obtain ⟨p, l, e, R, s, m, args, below, meth, c, D, ad, cy, A, Q, kc, ks⟩ := X
  obtain ⟨⟨hx, hb, hml, hown, hts⟩, hj, hA, hK, hZ, hN, hfr, hlo, hkc, hks⟩ := B
  intro la H locs hl hP hS
  exact lv_pop hx hb d (by rw [cv_cat]; exact hv) (k la H locs hl hP hS)
theorem g_dup2 (B : Fx X cc nL own fr lo) {v w : Value} (d : decode cc pc = .ok (.dup2, 1)) (hv : v.category = 1) (hw : w.category = 1) (k : GW X nL (pc + 1) ls (v :: w :: v :: w :: st) I) : GW X nL pc ls (v :: w :: st) I := by
  obtain ⟨p, l, e, R, s, m, args, below, meth, c, D, ad, cy, A, Q, kc, ks⟩ := X
  obtain ⟨⟨hx, hb, hml, hown, hts⟩, hj, hA, hK, hZ, hN, hfr, hlo, hkc, hks⟩ := B
  intro la H locs hl hP hS
  exact lv_dup2_11 hx hb d (by rw [cv_cat]; exact hv) (by rw [cv_cat]; exact hw) (k la H locs hl hP hS)
theorem g_istore_n (B : Fx X cc nL own fr lo) {i : Fin 4} {x : Int32} (d : decode cc pc = .ok (.istore_n i, 1)) (hn : (i : Nat) < nL) (hf : lfree ls (i : Nat) = true) (k : GW X nL (pc + 1) (ls.set (i : Nat) (some (.int x))) st I) : GW X nL pc ls (.int x :: st) I := by
  obtain ⟨p, l, e, R, s, m, args, below, meth, c, D, ad, cy, A, Q, kc, ks⟩ := X
  obtain ⟨⟨hx, hb, hml, hown, hts⟩, hj, hA, hK, hZ, hN, hfr, hlo, hkc, hks⟩ := B
  intro la H locs hl hP hS
  exact lv_istore_n hx hb d rfl (lo_lv hl) hn rfl (fun la' h' => k la' H locs (lo_store1 (v := .int x) hl hn hf h') hP hS)
theorem g_istore (B : Fx X cc nL own fr lo) {i : Nat} {x : Int32} (d : decode cc pc = .ok (.istore i, 2)) (hn : i < nL) (hf : lfree ls i = true) (k : GW X nL (pc + 2) (ls.set i (some (.int x))) st I) : GW X nL pc ls (.int x :: st) I := by
  obtain ⟨p, l, e, R, s, m, args, below, meth, c, D, ad, cy, A, Q, kc, ks⟩ := X
  obtain ⟨⟨hx, hb, hml, hown, hts⟩, hj, hA, hK, hZ, hN, hfr, hlo, hkc, hks⟩ := B
  intro la H locs hl hP hS
  exact lv_istore hx hb d (lo_lv hl) hn rfl (fun la' h' => k la' H locs (lo_store1 (v := .int x) hl hn hf h') hP hS)
theorem g_astore_n (B : Fx X cc nL own fr lo) {i : Fin 4} {x : Nat} (d : decode cc pc = .ok (.astore_n i, 1)) (hn : (i : Nat) < nL) (hf : lfree ls (i : Nat) = true) (k : GW X nL (pc + 1) (ls.set (i : Nat) (some (.ref x))) st I) : GW X nL pc ls (.ref x :: st) I := by
  obtain ⟨p, l, e, R, s, m, args, below, meth, c, D, ad, cy, A, Q, kc, ks⟩ := X
  obtain ⟨⟨hx, hb, hml, hown, hts⟩, hj, hA, hK, hZ, hN, hfr, hlo, hkc, hks⟩ := B
  intro la H locs hl hP hS
  exact lv_astore_n hx hb d rfl (lo_lv hl) hn rfl (fun la' h' => k la' H locs (lo_store1 (v := .ref x) hl hn hf h') hP hS)
theorem g_astore (B : Fx X cc nL own fr lo) {i : Nat} {x : Nat} (d : decode cc pc = .ok (.astore i, 2)) (hn : i < nL) (hf : lfree ls i = true) (k : GW X nL (pc + 2) (ls.set i (some (.ref x))) st I) : GW X nL pc ls (.ref x :: st) I := by
  obtain ⟨p, l, e, R, s, m, args, below, meth, c, D, ad, cy, A, Q, kc, ks⟩ := X
  obtain ⟨⟨hx, hb, hml, hown, hts⟩, hj, hA, hK, hZ, hN, hfr, hlo, hkc, hks⟩ := B
  intro la H locs hl hP hS
  exact lv_astore hx hb d (lo_lv hl) hn rfl (fun la' h' => k la' H locs (lo_store1 (v := .ref x) hl hn hf h') hP hS)
theorem g_lstore_n (B : Fx X cc nL own fr lo) {i : Fin 4} {x : Int64} (d : decode cc pc = .ok (.lstore_n i, 1)) (hn : (i : Nat) + 1 < nL) (hf : lfree ls (i : Nat) = true) (k : GW X nL (pc + 1) ((ls.set (i : Nat) (some (.long x))).set ((i : Nat) + 1) none) st I) : GW X nL pc ls (.long x :: st) I := by
  obtain ⟨p, l, e, R, s, m, args, below, meth, c, D, ad, cy, A, Q, kc, ks⟩ := X
  obtain ⟨⟨hx, hb, hml, hown, hts⟩, hj, hA, hK, hZ, hN, hfr, hlo, hkc, hks⟩ := B
  intro la H locs hl hP hS
  exact lv_lstore_n hx hb d rfl (lo_lv hl) hn rfl (fun la' h' => k la' H locs (lo_store2 (v := .long x) hl hn hf h') hP hS)
theorem g_lstore (B : Fx X cc nL own fr lo) {i : Nat} {x : Int64} (d : decode cc pc = .ok (.lstore i, 2)) (hn : i + 1 < nL) (hf : lfree ls i = true) (k : GW X nL (pc + 2) ((ls.set i (some (.long x))).set (i + 1) none) st I) : GW X nL pc ls (.long x :: st) I := by
  obtain ⟨p, l, e, R, s, m, args, below, meth, c, D, ad, cy, A, Q, kc, ks⟩ := X
  obtain ⟨⟨hx, hb, hml, hown, hts⟩, hj, hA, hK, hZ, hN, hfr, hlo, hkc, hks⟩ := B
  intro la H locs hl hP hS
  exact lv_lstore hx hb d (lo_lv hl) hn rfl (fun la' h' => k la' H locs (lo_store2 (v := .long x) hl hn hf h') hP hS)
theorem g_iinc (B : Fx X cc nL own fr lo) {i : Nat} {n : Int} {x v : Int32} (d : decode cc pc = .ok (.iinc i n, 3)) (h : ls[i]? = some (some (.int x))) (hv : x + Int32.ofInt n = v) (hn : i < nL) (hf : lfree ls i = true) (k : GW X nL (pc + 3) (ls.set i (some (.int v))) st I) : GW X nL pc ls st I := by
  obtain ⟨p, l, e, R, s, m, args, below, meth, c, D, ad, cy, A, Q, kc, ks⟩ := X
  obtain ⟨⟨hx, hb, hml, hown, hts⟩, hj, hA, hK, hZ, hN, hfr, hlo, hkc, hks⟩ := B
  intro la H locs hl hP hS
  obtain ⟨kk, hk⟩ := List.getElem?_of_mem (lpairs_mem.mpr ⟨_, h, rfl⟩ : (i, cv ad (.int x)) ∈ lpairs ad ls)
  exact lv_iinc hx hb d (lo_lv hl) hk hv hn rfl (fun la' h' => k la' H locs (lo_store1 (v := .int v) hl hn hf h') hP hS)
theorem g_if_eq (B : Fx X cc nL own fr lo) {x : Int32} {off : Int} (tgt : Nat) (d : decode cc pc = .ok (.ifCond .eq off, 3)) (ht : (pc : Int) + off = (tgt : Int)) (kt : x = 0 → GW X nL tgt ls st I) (kf : ¬ x = 0 → GW X nL (pc + 3) ls st I) : GW X nL pc ls (.int x :: st) I := by
  obtain ⟨p, l, e, R, s, m, args, below, meth, c, D, ad, cy, A, Q, kc, ks⟩ := X
  obtain ⟨⟨hx, hb, hml, hown, hts⟩, hj, hA, hK, hZ, hN, hfr, hlo, hkc, hks⟩ := B
  intro la H locs hl hP hS
  exact lv_if_eq hx hb d ht (fun h => kt h la H locs hl hP hS) (fun h => kf h la H locs hl hP hS)
theorem g_if_ne (B : Fx X cc nL own fr lo) {x : Int32} {off : Int} (tgt : Nat) (d : decode cc pc = .ok (.ifCond .ne off, 3)) (ht : (pc : Int) + off = (tgt : Int)) (kt : ¬ x = 0 → GW X nL tgt ls st I) (kf : x = 0 → GW X nL (pc + 3) ls st I) : GW X nL pc ls (.int x :: st) I := by
  obtain ⟨p, l, e, R, s, m, args, below, meth, c, D, ad, cy, A, Q, kc, ks⟩ := X
  obtain ⟨⟨hx, hb, hml, hown, hts⟩, hj, hA, hK, hZ, hN, hfr, hlo, hkc, hks⟩ := B
  intro la H locs hl hP hS
  exact lv_if_ne hx hb d ht (fun h => kt h la H locs hl hP hS) (fun h => kf h la H locs hl hP hS)
theorem g_if_lt (B : Fx X cc nL own fr lo) {x : Int32} {off : Int} (tgt : Nat) (d : decode cc pc = .ok (.ifCond .lt off, 3)) (ht : (pc : Int) + off = (tgt : Int)) (kt : x < 0 → GW X nL tgt ls st I) (kf : ¬ x < 0 → GW X nL (pc + 3) ls st I) : GW X nL pc ls (.int x :: st) I := by
  obtain ⟨p, l, e, R, s, m, args, below, meth, c, D, ad, cy, A, Q, kc, ks⟩ := X
  obtain ⟨⟨hx, hb, hml, hown, hts⟩, hj, hA, hK, hZ, hN, hfr, hlo, hkc, hks⟩ := B
  intro la H locs hl hP hS
  exact lv_if_lt hx hb d ht (fun h => kt h la H locs hl hP hS) (fun h => kf h la H locs hl hP hS)
theorem g_if_ge (B : Fx X cc nL own fr lo) {x : Int32} {off : Int} (tgt : Nat) (d : decode cc pc = .ok (.ifCond .ge off, 3)) (ht : (pc : Int) + off = (tgt : Int)) (kt : 0 ≤ x → GW X nL tgt ls st I) (kf : ¬ 0 ≤ x → GW X nL (pc + 3) ls st I) : GW X nL pc ls (.int x :: st) I := by
  obtain ⟨p, l, e, R, s, m, args, below, meth, c, D, ad, cy, A, Q, kc, ks⟩ := X
  obtain ⟨⟨hx, hb, hml, hown, hts⟩, hj, hA, hK, hZ, hN, hfr, hlo, hkc, hks⟩ := B
  intro la H locs hl hP hS
  exact lv_if_ge hx hb d ht (fun h => kt h la H locs hl hP hS) (fun h => kf h la H locs hl hP hS)
theorem g_if_gt (B : Fx X cc nL own fr lo) {x : Int32} {off : Int} (tgt : Nat) (d : decode cc pc = .ok (.ifCond .gt off, 3)) (ht : (pc : Int) + off = (tgt : Int)) (kt : 0 < x → GW X nL tgt ls st I) (kf : ¬ 0 < x → GW X nL (pc + 3) ls st I) : GW X nL pc ls (.int x :: st) I := by
  obtain ⟨p, l, e, R, s, m, args, below, meth, c, D, ad, cy, A, Q, kc, ks⟩ := X
  obtain ⟨⟨hx, hb, hml, hown, hts⟩, hj, hA, hK, hZ, hN, hfr, hlo, hkc, hks⟩ := B
  intro la H locs hl hP hS
  exact lv_if_gt hx hb d ht (fun h => kt h la H locs hl hP hS) (fun h => kf h la H locs hl hP hS)
theorem g_if_le (B : Fx X cc nL own fr lo) {x : Int32} {off : Int} (tgt : Nat) (d : decode cc pc = .ok (.ifCond .le off, 3)) (ht : (pc : Int) + off = (tgt : Int)) (kt : x ≤ 0 → GW X nL tgt ls st I) (kf : ¬ x ≤ 0 → GW X nL (pc + 3) ls st I) : GW X nL pc ls (.int x :: st) I := by
  obtain ⟨p, l, e, R, s, m, args, below, meth, c, D, ad, cy, A, Q, kc, ks⟩ := X
  obtain ⟨⟨hx, hb, hml, hown, hts⟩, hj, hA, hK, hZ, hN, hfr, hlo, hkc, hks⟩ := B
  intro la H locs hl hP hS
  exact lv_if_le hx hb d ht (fun h => kt h la H locs hl hP hS) (fun h => kf h la H locs hl hP hS)
theorem g_icmp_eq (B : Fx X cc nL own fr lo) {x y : Int32} {off : Int} (tgt : Nat) (d : decode cc pc = .ok (.if_icmp .eq off, 3)) (ht : (pc : Int) + off = (tgt : Int)) (kt : x = y → GW X nL tgt ls st I) (kf : ¬ x = y → GW X nL (pc + 3) ls st I) : GW X nL pc ls (.int y :: .int x :: st) I := by
  obtain ⟨p, l, e, R, s, m, args, below, meth, c, D, ad, cy, A, Q, kc, ks⟩ := X
  obtain ⟨⟨hx, hb, hml, hown, hts⟩, hj, hA, hK, hZ, hN, hfr, hlo, hkc, hks⟩ := B
  intro la H locs hl hP hS
  exact lv_icmp_eq hx hb d ht (fun h => kt h la H locs hl hP hS) (fun h => kf h la H locs hl hP hS)
theorem g_icmp_ne (B : Fx X cc nL own fr lo) {x y : Int32} {off : Int} (tgt : Nat) (d : decode cc pc = .ok (.if_icmp .ne off, 3)) (ht : (pc : Int) + off = (tgt : Int)) (kt : ¬ x = y → GW X nL tgt ls st I) (kf : x = y → GW X nL (pc + 3) ls st I) : GW X nL pc ls (.int y :: .int x :: st) I := by
  obtain ⟨p, l, e, R, s, m, args, below, meth, c, D, ad, cy, A, Q, kc, ks⟩ := X
  obtain ⟨⟨hx, hb, hml, hown, hts⟩, hj, hA, hK, hZ, hN, hfr, hlo, hkc, hks⟩ := B
  intro la H locs hl hP hS
  exact lv_icmp_ne hx hb d ht (fun h => kt h la H locs hl hP hS) (fun h => kf h la H locs hl hP hS)
theorem g_icmp_lt (B : Fx X cc nL own fr lo) {x y : Int32} {off : Int} (tgt : Nat) (d : decode cc pc = .ok (.if_icmp .lt off, 3)) (ht : (pc : Int) + off = (tgt : Int)) (kt : x < y → GW X nL tgt ls st I) (kf : ¬ x < y → GW X nL (pc + 3) ls st I) : GW X nL pc ls (.int y :: .int x :: st) I := by
  obtain ⟨p, l, e, R, s, m, args, below, meth, c, D, ad, cy, A, Q, kc, ks⟩ := X
  obtain ⟨⟨hx, hb, hml, hown, hts⟩, hj, hA, hK, hZ, hN, hfr, hlo, hkc, hks⟩ := B
  intro la H locs hl hP hS
  exact lv_icmp_lt hx hb d ht (fun h => kt h la H locs hl hP hS) (fun h => kf h la H locs hl hP hS)
theorem g_icmp_ge (B : Fx X cc nL own fr lo) {x y : Int32} {off : Int} (tgt : Nat) (d : decode cc pc = .ok (.if_icmp .ge off, 3)) (ht : (pc : Int) + off = (tgt : Int)) (kt : y ≤ x → GW X nL tgt ls st I) (kf : ¬ y ≤ x → GW X nL (pc + 3) ls st I) : GW X nL pc ls (.int y :: .int x :: st) I := by
  obtain ⟨p, l, e, R, s, m, args, below, meth, c, D, ad, cy, A, Q, kc, ks⟩ := X
  obtain ⟨⟨hx, hb, hml, hown, hts⟩, hj, hA, hK, hZ, hN, hfr, hlo, hkc, hks⟩ := B
  intro la H locs hl hP hS
  exact lv_icmp_ge hx hb d ht (fun h => kt h la H locs hl hP hS) (fun h => kf h la H locs hl hP hS)
theorem g_icmp_gt (B : Fx X cc nL own fr lo) {x y : Int32} {off : Int} (tgt : Nat) (d : decode cc pc = .ok (.if_icmp .gt off, 3)) (ht : (pc : Int) + off = (tgt : Int)) (kt : y < x → GW X nL tgt ls st I) (kf : ¬ y < x → GW X nL (pc + 3) ls st I) : GW X nL pc ls (.int y :: .int x :: st) I := by
  obtain ⟨p, l, e, R, s, m, args, below, meth, c, D, ad, cy, A, Q, kc, ks⟩ := X
  obtain ⟨⟨hx, hb, hml, hown, hts⟩, hj, hA, hK, hZ, hN, hfr, hlo, hkc, hks⟩ := B
  intro la H locs hl hP hS
  exact lv_icmp_gt hx hb d ht (fun h => kt h la H locs hl hP hS) (fun h => kf h la H locs hl hP hS)
theorem g_icmp_le (B : Fx X cc nL own fr lo) {x y : Int32} {off : Int} (tgt : Nat) (d : decode cc pc = .ok (.if_icmp .le off, 3)) (ht : (pc : Int) + off = (tgt : Int)) (kt : x ≤ y → GW X nL tgt ls st I) (kf : ¬ x ≤ y → GW X nL (pc + 3) ls st I) : GW X nL pc ls (.int y :: .int x :: st) I := by
  obtain ⟨p, l, e, R, s, m, args, below, meth, c, D, ad, cy, A, Q, kc, ks⟩ := X
  obtain ⟨⟨hx, hb, hml, hown, hts⟩, hj, hA, hK, hZ, hN, hfr, hlo, hkc, hks⟩ := B
  intro la H locs hl hP hS
  exact lv_icmp_le hx hb d ht (fun h => kt h la H locs hl hP hS) (fun h => kf h la H locs hl hP hS)
theorem g_goto (B : Fx X cc nL own fr lo) {off : Int} (tgt : Nat) (d : decode cc pc = .ok (.goto off, 3)) (ht : (pc : Int) + off = (tgt : Int)) (k : GW X nL tgt ls st I) : GW X nL pc ls st I := by
  obtain ⟨p, l, e, R, s, m, args, below, meth, c, D, ad, cy, A, Q, kc, ks⟩ := X
  obtain ⟨⟨hx, hb, hml, hown, hts⟩, hj, hA, hK, hZ, hN, hfr, hlo, hkc, hks⟩ := B
  intro la H locs hl hP hS
  exact lv_goto hx hb d ht (k la H locs hl hP hS)
theorem g_tableOut (B : Fx X cc nL own fr lo) {dflt lw hg : Int} {offs : Array Int} {len : Nat} {x : Int32} (tgt : Nat) (d : decode cc pc = .ok (.tableswitch dflt lw hg offs, len)) (h : x.toInt < lw ∨ hg < x.toInt) (ht : (pc : Int) + dflt = (tgt : Int)) (k : GW X nL tgt ls st I) : GW X nL pc ls (.int x :: st) I := by
  obtain ⟨p, l, e, R, s, m, args, below, meth, c, D, ad, cy, A, Q, kc, ks⟩ := X
  obtain ⟨⟨hx, hb, hml, hown, hts⟩, hj, hA, hK, hZ, hN, hfr, hlo, hkc, hks⟩ := B
  intro la H locs hl hP hS
  exact lv_tableOut hx hb d h ht (k la H locs hl hP hS)
theorem g_tableIn (B : Fx X cc nL own fr lo) {dflt lw hg : Int} {offs : Array Int} {len : Nat} {x : Int32} {off : Int} (tgt : Nat) (d : decode cc pc = .ok (.tableswitch dflt lw hg offs, len)) (h1 : ¬ x.toInt < lw) (h2 : ¬ hg < x.toInt) (ho : offs[(x.toInt - lw).toNat]? = some off) (ht : (pc : Int) + off = (tgt : Int)) (k : GW X nL tgt ls st I) : GW X nL pc ls (.int x :: st) I := by
  obtain ⟨p, l, e, R, s, m, args, below, meth, c, D, ad, cy, A, Q, kc, ks⟩ := X
  obtain ⟨⟨hx, hb, hml, hown, hts⟩, hj, hA, hK, hZ, hN, hfr, hlo, hkc, hks⟩ := B
  intro la H locs hl hP hS
  exact lv_tableIn hx hb d h1 h2 ho ht (k la H locs hl hP hS)
theorem g_lookup (B : Fx X cc nL own fr lo) {dflt : Int} {ps : Array (Int × Int)} {len : Nat} {x : Int32} {off : Int} (tgt : Nat) (d : decode cc pc = .ok (.lookupswitch dflt ps, len)) (hp : (ps.toList.zip (ps.toList.drop 1)).all (fun (a, next) => a.1 < next.1) = true) (ho : Op.lookupswitch.offset ps.toList dflt x.toInt = off) (ht : (pc : Int) + off = (tgt : Int)) (k : GW X nL tgt ls st I) : GW X nL pc ls (.int x :: st) I := by
  obtain ⟨p, l, e, R, s, m, args, below, meth, c, D, ad, cy, A, Q, kc, ks⟩ := X
  obtain ⟨⟨hx, hb, hml, hown, hts⟩, hj, hA, hK, hZ, hN, hfr, hlo, hkc, hks⟩ := B
  intro la H locs hl hP hS
  exact lv_lookup hx hb d hp ho ht (k la H locs hl hP hS)
/-- fewer locals are known -/
theorem g_drop {i : Nat} (k : GW X nL pc (ls.set i none) st I) : GW X nL pc ls st I := by
  obtain ⟨p, l, e, R, s, m, args, below, meth, c, D, ad, cy, A, Q, kc, ks⟩ := X
  intro la H locs hl hP hS
  refine k la H locs ⟨hl.1, hl.2.1, fun j v hj => ?_⟩ hP hS
  by_cases e : i = j
  · subst e
    have hl := (List.getElem?_eq_some_iff.mp hj).1
    rw [List.getElem?_set_self (by simpa using hl)] at hj
    cases hj
  · rw [List.getElem?_set_ne e] at hj
    exact hl.2.2 j v hj
theorem g_topi {x : Int32} (k : ∀ y : Int32, y = x → GW X nL pc ls (.int y :: st) I) : GW X nL pc ls (.int x :: st) I := k x rfl
theorem g_eqi {x : Int32} (y : Int32) (h : x = y) (k : GW X nL pc ls (.int y :: st) I) : GW X nL pc ls (.int x :: st) I := h ▸ k
theorem g_eql {x : Int64} (y : Int64) (h : x = y) (k : GW X nL pc ls (.long y :: st) I) : GW X nL pc ls (.long x :: st) I := h ▸ k
theorem g_eqI {J : Wo} (h : I = J) (k : GW X nL pc ls st J) : GW X nL pc ls st I := h ▸ k
end RULES
/-- a class of the world: its place among vwCl, its fields -/
def CI (ci : Nat) (C : String) (T : u_T) (N : Nat) (ty : Nat → FieldType) : Prop := vwCl[ci]? = some (C, T, N) ∧ (∀ w ∈ u_ws C T N, w ∈ lw_g) ∧ (∀ k, k < N → parseFieldDescriptor (T k).2.2.1 = some (ty k)) ∧ (∀ a, a < N → ∀ b, b < N → a ≠ b → (T a).2.1 ≠ (T b).2.1)
theorem ci_mem {C : String} {T : u_T} {N : Nat} (ix : List Nat) (h : (List.range N).all (fun k => decide (lw_tbl[ix.getD k 0]? = some (u_lay C T k)) && goodWord (u_lay C T k)) = true) : ∀ w ∈ u_ws C T N, w ∈ lw_g := by
  intro w hw
  obtain ⟨k, hk, rfl⟩ := List.mem_map.mp hw
  have h1 := List.all_eq_true.mp h k hk
  simp only [Bool.and_eq_true, decide_eq_true_eq] at h1
  exact lw_g_of _ _ h1.1 h1.2
section FIELDS
variable {X : Cx} {cc : ByteArray} {nL fr lo pc : Nat} {own : String} {ls : List (Option Value)} {st : List Value} {I : Wo}
variable {ci k j N ix : Nat} {C : String} {T : u_T} {ty : Nat → FieldType} {fs : List (Option Nat)}
theorem g_geti (B : Fx X cc nL own fr lo) (hc : CI ci C T N ty) (hs : shL[k]? = some (.inl (ci, fs))) (hf : fs[j]? = some none) (hj9 : j < N) (hl9 : Cond.fieldLink own ix (T j).1 (T j).2.1 (T j).2.2.1 ∈ lw_g) (d : decode cc pc = .ok (.getfield ix, 3)) (kk : GW X nL (pc + 3) ls (.int (I k j) :: st) I) : GW X nL pc ls (.ref k :: st) I := by
  obtain ⟨p, l, e, R, s, m, args, below, meth, c, D, ad, cy, A, Q, kc, ks⟩ := X
  obtain ⟨⟨hx, hb, hml, hown, hts⟩, hj, hA, hK, hZ, hN, hfr, hlo, hkc, hks⟩ := B
  intro la H locs hl hP hS
  exact va_get (D := D) (cl := vwCl) (ws := Wd ad cy I) hx hb hts hc.2.1 hown hK hP k (fs := fieldsOf ad (I k) fs) (Wd_get hs) hc.1 j hj9 (hts _ hl9) (fun _ h => h) (v := .int (I k j)) (by rw [fieldsOf_get, hf]; rfl) d (kk la H locs hl hP hS)
theorem g_getr (B : Fx X cc nL own fr lo) {r : Nat} (hc : CI ci C T N ty) (hs : shL[k]? = some (.inl (ci, fs))) (hf : fs[j]? = some (some r)) (hj9 : j < N) (hl9 : Cond.fieldLink own ix (T j).1 (T j).2.1 (T j).2.2.1 ∈ lw_g) (d : decode cc pc = .ok (.getfield ix, 3)) (kk : GW X nL (pc + 3) ls (.ref r :: st) I) : GW X nL pc ls (.ref k :: st) I := by
  obtain ⟨p, l, e, R, s, m, args, below, meth, c, D, ad, cy, A, Q, kc, ks⟩ := X
  obtain ⟨⟨hx, hb, hml, hown, hts⟩, hj, hA, hK, hZ, hN, hfr, hlo, hkc, hks⟩ := B
  intro la H locs hl hP hS
  exact va_get (D := D) (cl := vwCl) (ws := Wd ad cy I) hx hb hts hc.2.1 hown hK hP k (fs := fieldsOf ad (I k) fs) (Wd_get hs) hc.1 j hj9 (hts _ hl9) (fun _ h => h) (v := .ref (ad r)) (by rw [fieldsOf_get, hf]; rfl) d (kk la H locs hl hP hS)
theorem g_put (B : Fx X cc nL own fr lo) {v : Int32} (hc : CI ci C T N ty) (hs : shL[k]? = some (.inl (ci, fs))) (hf : fs[j]? = some none) (hj9 : j < N) (hl9 : Cond.fieldLink own ix (T j).1 (T j).2.1 (T j).2.2.1 ∈ lw_g) (hfin : (T j).2.2.2 = false) (hn : narrow (ty j) (.int v) = .int v) (hfit : fits (ty j) (.int v) = true) (d : decode cc pc = .ok (.putfield ix, 3)) (kk : GW X nL (pc + 3) ls st (w2 I k j v)) : GW X nL pc ls (.int v :: .ref k :: st) I := by
  obtain ⟨p, l, e, R, s, m, args, below, meth, c, D, ad, cy, A, Q, kc, ks⟩ := X
  obtain ⟨⟨hx, hb, hml, hown, hts⟩, hj, hA, hK, hZ, hN, hfr, hlo, hkc, hks⟩ := B
  intro la H locs hl hP hS
  refine va_put (D := D) (cl := vwCl) (ws := Wd ad cy I) hx hb hts hc.2.1 ty hc.2.2.1 hc.2.2.2 hown hK hP (Wd_D hj hA) hS k (fs := fieldsOf ad (I k) fs) (Wd_get hs) hc.1 j hj9 (hts _ hl9) (fun _ h => h) hfin (hc.2.2.1 j hj9) hn hfit (by rw [fieldsOf_len]; exact (List.getElem?_eq_some_iff.mp hf).1) d (fun H1 locs1 hP1 _ hS1 => kk la H1 locs1 hl ?_ hS1)
  have e := Wd_set (ad := ad) (cy := cy) (I := I) hs (upd (I k) j v)
  rw [w2_up] at e
  rw [← e]
  have hP2 : va_P D vwCl ((Wd ad cy I).set k (ad k, .inr (ci, (fieldsOf ad (I k) fs).set j (.int v)))) H1 := hP1
  rw [fieldsOf_set hf] at hP2
  exact hP2
end FIELDS
section ARRAYS
variable {X : Cx} {cc : ByteArray} {nL fr lo pc : Nat} {own : String} {ls : List (Option Value)} {st : List Value} {I : Wo}
variable {k n : Nat} {i : Int32}
theorem g_iald (B : Fx X cc nL own fr lo) (hs : shL[k]? = some (.inr (.inl (0, n)))) (j : Nat) (he : i = nI j) (hj9 : j < n) (hn9 : n < 2 ^ 31) (d : decode cc pc = .ok (.iaload, 1)) (kk : GW X nL (pc + 1) ls (.int (I k j) :: st) I) : GW X nL pc ls (.int i :: .ref k :: st) I := by
  obtain ⟨p, l, e, R, s, m, args, below, meth, c, D, ad, cy, A, Q, kc, ks⟩ := X
  obtain ⟨⟨hx, hb, hml, hown, hts⟩, hj, hA, hK, hZ, hN, hfr, hlo, hkc, hks⟩ := B
  intro la H locs hl hP hS
  subst he
  refine va_iald (D := D) (cl := vwCl) (ws := Wd ad cy I) hx hb hK hP k 0 (f := I k) (n := n) (cA := cy 0) (Wd_get hs) rfl (vp_in_nI hj9 hn9) d ?_
  rw [nI_clamp (Nat.lt_trans hj9 hn9)]
  exact kk la H locs hl hP hS
theorem g_zald (B : Fx X cc nL own fr lo) (hs : shL[k]? = some (.inr (.inl (1, n)))) (j : Nat) (he : i = nI j) (hj9 : j < n) (hn9 : n < 2 ^ 31) (d : decode cc pc = .ok (.baload, 1)) (kk : GW X nL (pc + 1) ls (.int (I k j) :: st) I) : GW X nL pc ls (.int i :: .ref k :: st) I := by
  obtain ⟨p, l, e, R, s, m, args, below, meth, c, D, ad, cy, A, Q, kc, ks⟩ := X
  obtain ⟨⟨hx, hb, hml, hown, hts⟩, hj, hA, hK, hZ, hN, hfr, hlo, hkc, hks⟩ := B
  intro la H locs hl hP hS
  subst he
  refine va_zald (D := D) (cl := vwCl) (ws := Wd ad cy I) hx hb hK hP k 1 (f := I k) (n := n) (cA := cy 1) (Wd_get hs) rfl (vp_in_nI hj9 hn9) d ?_
  rw [nI_clamp (Nat.lt_trans hj9 hn9)]
  exact kk la H locs hl hP hS
theorem g_bald (B : Fx X cc nL own fr lo) (hs : shL[k]? = some (.inr (.inl (2, n)))) (j : Nat) (he : i = nI j) (hj9 : j < n) (hn9 : n < 2 ^ 31) (d : decode cc pc = .ok (.baload, 1)) (kk : GW X nL (pc + 1) ls (.int (I k j) :: st) I) : GW X nL pc ls (.int i :: .ref k :: st) I := by
  obtain ⟨p, l, e, R, s, m, args, below, meth, c, D, ad, cy, A, Q, kc, ks⟩ := X
  obtain ⟨⟨hx, hb, hml, hown, hts⟩, hj, hA, hK, hZ, hN, hfr, hlo, hkc, hks⟩ := B
  intro la H locs hl hP hS
  subst he
  refine va_bald (D := D) (cl := vwCl) (ws := Wd ad cy I) hx hb hK hP k 2 (f := I k) (n := n) (cA := cy 2) (Wd_get hs) rfl (vp_in_nI hj9 hn9) d ?_
  rw [nI_clamp (Nat.lt_trans hj9 hn9)]
  exact kk la H locs hl hP hS
theorem g_iast (B : Fx X cc nL own fr lo) {v : Int32} (hs : shL[k]? = some (.inr (.inl (0, n)))) (j : Nat) (he : i = nI j) (hj9 : j < n) (hn9 : n < 2 ^ 31) (d : decode cc pc = .ok (.iastore, 1)) (kk : GW X nL (pc + 1) ls st (w2 I k j (v))) : GW X nL pc ls (.int v :: .int i :: .ref k :: st) I := by
  obtain ⟨p, l, e, R, s, m, args, below, meth, c, D, ad, cy, A, Q, kc, ks⟩ := X
  obtain ⟨⟨hx, hb, hml, hown, hts⟩, hj, hA, hK, hZ, hN, hfr, hlo, hkc, hks⟩ := B
  intro la H locs hl hP hS
  subst he
  refine va_iast (D := D) (cl := vwCl) (ws := Wd ad cy I) hx hb hK hP (Wd_D hj hA) hS k 0 (f := I k) (n := n) (cA := cy 0) (Wd_get hs) rfl (vp_in_nI hj9 hn9) d (fun H1 locs1 hP1 _ hS1 => kk la H1 locs1 hl ?_ hS1)
  have e := Wd_set (ad := ad) (cy := cy) (I := I) hs (upd (I k) j (v))
  rw [w2_up] at e
  rw [← e]
  rw [nI_clamp (Nat.lt_trans hj9 hn9)] at hP1
  exact hP1
theorem g_zast (B : Fx X cc nL own fr lo) {v : Int32} (hs : shL[k]? = some (.inr (.inl (1, n)))) (j : Nat) (he : i = nI j) (hj9 : j < n) (hn9 : n < 2 ^ 31) (d : decode cc pc = .ok (.bastore, 1)) (kk : GW X nL (pc + 1) ls st (w2 I k j (vp_nar .boolean v))) : GW X nL pc ls (.int v :: .int i :: .ref k :: st) I := by
  obtain ⟨p, l, e, R, s, m, args, below, meth, c, D, ad, cy, A, Q, kc, ks⟩ := X
  obtain ⟨⟨hx, hb, hml, hown, hts⟩, hj, hA, hK, hZ, hN, hfr, hlo, hkc, hks⟩ := B
  intro la H locs hl hP hS
  subst he
  refine va_zast (D := D) (cl := vwCl) (ws := Wd ad cy I) hx hb hK hP (Wd_D hj hA) hS k 1 (f := I k) (n := n) (cA := cy 1) (Wd_get hs) rfl (vp_in_nI hj9 hn9) d (fun H1 locs1 hP1 _ hS1 => kk la H1 locs1 hl ?_ hS1)
  have e := Wd_set (ad := ad) (cy := cy) (I := I) hs (upd (I k) j (vp_nar .boolean v))
  rw [w2_up] at e
  rw [← e]
  rw [nI_clamp (Nat.lt_trans hj9 hn9)] at hP1
  exact hP1
theorem g_bast (B : Fx X cc nL own fr lo) {v : Int32} (hs : shL[k]? = some (.inr (.inl (2, n)))) (j : Nat) (he : i = nI j) (hj9 : j < n) (hn9 : n < 2 ^ 31) (d : decode cc pc = .ok (.bastore, 1)) (kk : GW X nL (pc + 1) ls st (w2 I k j (vp_nar .byte v))) : GW X nL pc ls (.int v :: .int i :: .ref k :: st) I := by
  obtain ⟨p, l, e, R, s, m, args, below, meth, c, D, ad, cy, A, Q, kc, ks⟩ := X
  obtain ⟨⟨hx, hb, hml, hown, hts⟩, hj, hA, hK, hZ, hN, hfr, hlo, hkc, hks⟩ := B
  intro la H locs hl hP hS
  subst he
  refine va_bast (D := D) (cl := vwCl) (ws := Wd ad cy I) hx hb hK hP (Wd_D hj hA) hS k 2 (f := I k) (n := n) (cA := cy 2) (Wd_get hs) rfl (vp_in_nI hj9 hn9) d (fun H1 locs1 hP1 _ hS1 => kk la H1 locs1 hl ?_ hS1)
  have e := Wd_set (ad := ad) (cy := cy) (I := I) hs (upd (I k) j (vp_nar .byte v))
  rw [w2_up] at e
  rw [← e]
  rw [nI_clamp (Nat.lt_trans hj9 hn9)] at hP1
  exact hP1
theorem g_aald (B : Fx X cc nL own fr lo) {t : Nat} {rs : List Nat} {Cn : String} (hs : shL[k]? = some (.inr (.inr (t, rs)))) (ht : ∀ cy : Nat → ClassId, (tysW cy)[t]? = some (cy t, .object Cn)) (j : Nat) (he : i = nI j) (hj9 : j < rs.length) (hn9 : rs.length < 2 ^ 31) (d : decode cc pc = .ok (.aaload, 1)) (kk : GW X nL (pc + 1) ls (.ref (rs.getD j 0) :: st) I) : GW X nL pc ls (.int i :: .ref k :: st) I := by
  obtain ⟨p, l, e, R, s, m, args, below, meth, c, D, ad, cy, A, Q, kc, ks⟩ := X
  obtain ⟨⟨hx, hb, hml, hown, hts⟩, hj, hA, hK, hZ, hN, hfr, hlo, hkc, hks⟩ := B
  intro la H locs hl hP hS
  subst he
  refine va_aldq (D := D) (cl := vwCl) (ws := Wd ad cy I) hx hb hK hP k t (C := Cn) (f := fun j => some (ad (rs.getD j 0))) (n := rs.length) (cA := cy t) (Wd_get hs) (ht cy) (vp_in_nI hj9 hn9) d ?_
  rw [nI_clamp (Nat.lt_trans hj9 hn9)]
  exact kk la H locs hl hP hS
theorem g_acopy (B : Fx X cc nL own fr lo) {ix k2 n2 : Nat} (hs : shL[k]? = some (.inr (.inl (0, n)))) (hs2 : shL[k2]? = some (.inr (.inl (0, n2)))) {q : Nat} (hq1 : q ≤ n) (hq2 : q ≤ n2) (hq3 : q < 2 ^ 31) {v : Int32} (hv : v = nI q) (hl9 : Cond.methodLink own ix arraycopyName ∈ lw_g) (hnat : Cond.native arraycopyName ∈ lw_g) (hst : Cond.static arraycopyName ∈ lw_g) (hini : Cond.initialized "java/lang/System" ∈ lw_g) (hfr9 : 1 ≤ fr) (hlo9 : (st.map fun v => v.category).sum + 18 ≤ lo) (d : decode cc pc = .ok (.invokestatic ix, 3)) (kk : GW X nL (pc + 3) ls st (va_up I k2 (va_cpy (I k) (I k2) 0 0 q))) : GW X nL pc ls (.int v :: .int 0 :: .ref k2 :: .int 0 :: .ref k :: st) I := by
  obtain ⟨p, l, e, R, s, m, args, below, meth, c, D, ad, cy, A, Q, kc, ks⟩ := X
  obtain ⟨⟨hx, hb, hml, hown, hts⟩, hj, hA, hK, hZ, hN, hfr, hlo, hkc, hks⟩ := B
  intro la H locs hl hP hS
  subst hv
  have e0 : (0 : Int32).toNatClampNeg = 0 := rfl
  refine va_copyi (D := D) (cl := vwCl) (ws := Wd ad cy I) hx hb (by rw [hml]; exact hl.1.symm) hown (hts _ hl9) (hts _ hnat) (hts _ hst) (hts _ hini) hK hP (Wd_D hj hA) hS k k2 0 0 (f := I k) (g := I k2) (ty := .int) (Wd_get hs) (Wd_get hs2) rfl rfl rfl (by decide) (by decide) (nI_pos hq3) (by rw [nI_clamp hq3, e0]; omega) (by rw [nI_clamp hq3, e0]; omega) (fun _ _ => rfl) (Nat.le_trans hfr9 hfr) (Nat.le_trans (by rw [cv_cats]; exact hlo9) hlo) d (fun H1 locs1 hP1 _ hS1 => kk la H1 locs1 hl ?_ hS1)
  rw [← Wd_set hs2]
  rw [nI_clamp hq3, e0] at hP1
  exact hP1
end ARRAYS
/-! the end of a method -/
def pI (post : Int32 → Wo → Prop) : Option Value → Wo → Prop := fun v u => ∃ r : Int32, v = some (.int r) ∧ post r u
def pL (post : Int64 → Wo → Prop) : Option Value → Wo → Prop := fun v u => ∃ r : Int64, v = some (.long r) ∧ post r u
def pV (post : Wo → Prop) : Option Value → Wo → Prop := fun v u => v = none ∧ post u
section ENDS
variable {X : Cx} {cc : ByteArray} {nL fr lo pc : Nat} {own : String} {ls : List (Option Value)} {st : List Value} {I : Wo}
theorem g_iret (B : Fx X cc nL own fr lo) {ty : FieldType} {post : Int32 → Wo → Prop} (E : Rx X (some ty) (pI post)) {v : Int32} (hn : narrow ty (.int v) = .int v) (d : decode cc pc = .ok (.ireturn, 1)) (h : post v I) : GW X nL pc ls [.int v] I := by
  obtain ⟨p, l, e, R, s, m, args, below, meth, c, D, ad, cy, A, Q, kc, ks⟩ := X
  obtain ⟨⟨hx, hb, hml, hown, hts⟩, hj, hA, hK, hZ, hN, hfr, hlo, hkc, hks⟩ := B
  intro la H locs hl hP hS
  obtain ⟨hr, hlk, rfl, rfl⟩ := E
  exact W.zret hx hb hr hn (fun t ht hW => ⟨⟨_, I, rfl, ⟨v, rfl, h⟩, by rw [ht]; exact hP⟩, hS.F ht⟩) hS.2.2 d hlk
theorem g_lret (B : Fx X cc nL own fr lo) {post : Int64 → Wo → Prop} (E : Rx X (some .long) (pL post)) {v : Int64} (d : decode cc pc = .ok (.lreturn, 1)) (h : post v I) : GW X nL pc ls [.long v] I := by
  obtain ⟨p, l, e, R, s, m, args, below, meth, c, D, ad, cy, A, Q, kc, ks⟩ := X
  obtain ⟨⟨hx, hb, hml, hown, hts⟩, hj, hA, hK, hZ, hN, hfr, hlo, hkc, hks⟩ := B
  intro la H locs hl hP hS
  obtain ⟨hr, hlk, rfl, rfl⟩ := E
  exact W.lret hx hb hr (fun t ht hW => ⟨⟨_, I, rfl, ⟨v, rfl, h⟩, by rw [ht]; exact hP⟩, hS.F ht⟩) hS.2.2 d hlk
theorem g_vret (B : Fx X cc nL own fr lo) {post : Wo → Prop} (E : Rx X none (pV post)) (d : decode cc pc = .ok (.return_, 1)) (h : post I) : GW X nL pc ls [] I := by
  obtain ⟨p, l, e, R, s, m, args, below, meth, c, D, ad, cy, A, Q, kc, ks⟩ := X
  obtain ⟨⟨hx, hb, hml, hown, hts⟩, hj, hA, hK, hZ, hN, hfr, hlo, hkc, hks⟩ := B
  intro la H locs hl hP hS
  obtain ⟨hr, hlk, rfl, rfl⟩ := E
  exact W.vret hx hb hr (fun t ht hW => ⟨⟨_, I, rfl, ⟨rfl, h⟩, by rw [ht]; exact hP⟩, hS.F ht⟩) hS.2.2 d hlk
end ENDS
/-! calls -/
def mD (y : MethodName) (n : Nat) : Prop := y.cls ≠ "java/lang/invoke/MethodHandle" ∧ y.cls ≠ "java/lang/invoke/VarHandle" ∧ (parseMethodDescriptor y.desc).map (fun d => d.parameters.length) = some n
def mV (y : MethodName) (b : ByteArray) (nL : Nat) (ret : Option FieldType) (n : Nat) : Prop := Cond.instanceMethod y ∈ lw_g ∧ Cond.selects y.cls y y ∈ lw_g ∧ Cond.initialized y.cls ∈ lw_g ∧ Cond.code y b nL ret ∈ lw_g ∧ mD y n
def mS (y : MethodName) (b : ByteArray) (nL : Nat) (ret : Option FieldType) (n : Nat) : Prop := Cond.static y ∈ lw_g ∧ Cond.initialized y.cls ∈ lw_g ∧ Cond.code y b nL ret ∈ lw_g ∧ mD y n
theorem good_g {ws : List Cond} (h : ∀ w ∈ ws, w ∈ lw_g) : GoodIn lw_g ws := fun w hw => ⟨h w hw, lw_g_good w (h w hw)⟩
theorem good_c {y : MethodName} {b : ByteArray} {nL : Nat} {ret : Option FieldType} (h : Cond.code y b nL ret ∈ lw_g) : GoodIn lw_g (.code y b nL ret :: lw_g) := good_g (fun w hw => by
  rcases List.mem_cons.mp hw with rfl | h2
  · exact h
  · exact h2)
theorem qg_run {p : Program} {l : Launch} {e : Env} {R : Room} {s : State} {m : MethodId} {args : Array Value} {below : List Frame} {meth : Method} {c : Code} {H : Heap} {locs : List Loc} {kc ks : Nat} {Q : State → Prop} {pc : Nat} {la : Array Slot} {rest st0 : List Value} {a : Array Value} {A : Nat → Prop} {D : va_G} {ad : Nat → Nat} {cy : Nat → ClassId} {post : Option Value → Wo → Prop}
    (hr : va_Run p l e R s m args below meth c H locs kc ks 0 0 (F0 m pc la st0) rest (Qg post D ad cy a) (Aw ad)) (hS : va_S A s.heap H locs) (hA : ∀ q, Aw ad q → A q)
    (kk : ∀ (v : Option Value) (u : Wo) (H1 : Heap) (locs1 : List Loc), post v u → va_P D vwCl (Wd ad cy u) H1 → va_S A s.heap H1 locs1 → W p l e R s m args below meth c H1 locs1 kc ks Q (F0 m (pc + 3) la (v.toList ++ rest))) : W p l e R s m args below meth c H locs kc ks Q (F0 m pc la st0) := by
  intro T hT X
  obtain ⟨v, st₀, t, T', L, h0, X', hL, e1, e2, ⟨⟨v2, u, hv, hp, hb⟩, hz, hk⟩, st⟩ := hr T hT X
  cases hv
  rw [h0] at hz hk
  obtain ⟨t2, a1, b1⟩ := kk v u T'.heap (locs ++ L) hp (by rw [e1]; exact hb)
    ⟨Nat.le_trans hS.1 (by rw [e1]; exact hz), fun q h1 h2 => by rw [e1, hk q (Nat.lt_of_lt_of_le h1 hS.1) (fun z => h2 (hA q z))]; exact hS.2.1 q h1 h2, fun q hq => by
      rcases List.mem_append.mp hq with h | h
      · exact hS.2.2 q h
      · exact hA _ (hL q h)⟩ T' rfl X'
  exact ⟨t2, st t2 a1, b1⟩
theorem wf_at {s U : State} {D : va_G} {ad : Nat → Nat} {cy : Nat → ClassId} {A : Nat → Prop} {I : Wo} {H : Heap} {locs : List Loc} (hj : Dj ad) (hA : ∀ k : Nat, k < 73 → A (ad k)) (hK : va_K D vwCl (tysW cy) s) (hZ : Zs ad A s s.heap) (hN : Ns ad s) (hP : va_P D vwCl (Wd ad cy I) H) (hS : va_S A s.heap H locs) (hU : U.heap = H) (hW : s.WarmedH U.vm) : WF D ad cy I U :=
  ⟨hj, by rw [hU]; exact hP, va_K.moved hW.alike hK, by rw [hU]; exact ((hZ.kept hS.2.1).moved hW.alike).narrow (fun q ⟨k, h1, h2⟩ => by rw [h2]; exact hA k h1), hN.warm hW⟩
section CALLS
variable {X : Cx} {cc : ByteArray} {nL fr lo pc : Nat} {own : String} {ls : List (Option Value)} {st stk : List Value} {I : Wo}
variable {y : MethodName} {b : ByteArray} {nL' fr' lo' n ix k : Nat} {ret : Option FieldType} {As : List Value} {post : Option Value → Wo → Prop}
theorem st_rev {ad : Nat → Nat} {As st : List Value} {v : Value} : (As.reverse ++ v :: st).map (cv ad) = (As.map (cv ad)).reverse ++ cv ad v :: st.map (cv ad) := by simp
/-- what a call of an instance method goes on with -/
theorem g_runV (B : Fx X cc nL own fr lo) (hrc : ∀ (s : State) (H : Heap) (D : va_G) (ad : Nat → Nat) (cy : Nat → ClassId) (A : Nat → Prop) (locs : List Loc), va_K D vwCl (tysW cy) s → Zs ad A s s.heap → va_P D vwCl (Wd ad cy I) H → va_S A s.heap H locs → ∃ cellB : Cell, H[ad k]? = some cellB ∧ cellB.vm.isStatics = false ∧ s.vm.findClass y.cls = some cellB.cls)
    (ct : Ct y b nL' ret fr' lo' (.ref k :: As) I post) (hl9 : Cond.methodLink own ix y ∈ lw_g) (hm : mV y b nL' ret n) (hn : As.length = n) (hst : stk = As.reverse ++ .ref k :: st) (hw : (st.map fun v => v.category).sum ≤ 8) (hv : ∀ (ad : Nat → Nat) v u, post v u → v.toList.map (cv ad) = v.toList) (d : decode cc pc = .ok (.invokevirtual ix, 3)) (hroom : fr' + 1 ≤ fr ∧ 8 + (nL' + 11) + lo' ≤ lo)
    (kk : ∀ v u, post v u → GW X nL (pc + 3) ls (v.toList ++ st) u) : GW X nL pc ls stk I := by
  obtain ⟨p, l, e, R, s, m, args, below, meth, c, D, ad, cy, A, Q, kc, ks⟩ := X
  obtain ⟨⟨hx, hb, hml, hown, hts⟩, hj, hA, hK, hZ, hN, hfr, hlo, hkc, hks⟩ := B
  intro la H locs hl hP hS
  subst hst
  rw [st_rev]
  obtain ⟨m1, m2, m3, m4, m5⟩ := hm
  have cw : CallW R s args own y.cls ix y b nL' ret (.code y b nL' ret :: lw_g) { frames := fr', cells := 0, slots := 0, locals := lo' } 0 0 n := cwV n hts (good_g (fun w hw => by
    rcases List.mem_append.mp hw with h | h
    · simp only [List.mem_cons, List.not_mem_nil, or_false] at h
      rcases h with rfl | rfl | rfl | rfl
      · exact hl9
      · exact m1
      · exact m2
      · exact m3
    · exact (good_c m4 w h).1)) rfl rfl rfl ⟨rfl, m5⟩ ⟨Nat.le_trans hroom.1 hfr, Nat.le_trans hroom.2 hlo⟩
  refine qg_run (va_runV (As := As.map (cv ad)) (rest := st.map (cv ad)) ⟨hx, hb, hml, hown, hts⟩ (ct l D ad cy) cw ⟨WF.blind, hrc s H D ad cy A locs hK hZ hP hS, fun U hU hW => ⟨rfl, wf_at hj hA hK hZ hN hP hS hU hW⟩⟩ rfl (by rw [List.length_map]; exact hn) hl.1 rfl (lv_room (by rw [cv_cats]; exact hw)) d ⟨hkc, hks⟩) hS (fun q ⟨k, h1, h2⟩ => by rw [h2]; exact hA k h1) (fun v u H1 locs1 hp hP1 hS1 => ?_)
  have h := kk v u hp la H1 locs1 hl hP1 hS1
  rw [List.map_append, hv ad v u hp] at h
  exact h
theorem g_callV (B : Fx X cc nL own fr lo) (ct : Ct y b nL' ret fr' lo' (.ref k :: As) I post) {ci N : Nat} {T : u_T} {fs : List (Option Nat)} (hs : shL[k]? = some (.inl (ci, fs))) (hci : vwCl[ci]? = some (y.cls, T, N)) (hl9 : Cond.methodLink own ix y ∈ lw_g) (hm : mV y b nL' ret n) (hn : As.length = n) (hst : stk = As.reverse ++ .ref k :: st) (hw : (st.map fun v => v.category).sum ≤ 8) (hv : ∀ (ad : Nat → Nat) v u, post v u → v.toList.map (cv ad) = v.toList) (d : decode cc pc = .ok (.invokevirtual ix, 3)) (hroom : fr' + 1 ≤ fr ∧ 8 + (nL' + 11) + lo' ≤ lo)
    (kk : ∀ v u, post v u → GW X nL (pc + 3) ls (v.toList ++ st) u) : GW X nL pc ls stk I :=
  g_runV B (fun s H D ad cy A locs hK hZ hP hS => va_recv hK hP (q := (y.cls, T, N)) hci (Wd_get hs)) ct hl9 hm hn hst hw hv d hroom kk
theorem g_callK (B : Fx X cc nL own fr lo) {i : Nat} (hi : i < 8) (hyc : y.cls = "java/lang/String") (ct : Ct y b nL' ret fr' lo' (.ref (81 + i) :: As) I post) (hl9 : Cond.methodLink own ix y ∈ lw_g) (hm : mV y b nL' ret n) (hn : As.length = n) (hst : stk = As.reverse ++ .ref (81 + i) :: st) (hw : (st.map fun v => v.category).sum ≤ 8) (hv : ∀ (ad : Nat → Nat) v u, post v u → v.toList.map (cv ad) = v.toList) (d : decode cc pc = .ok (.invokevirtual ix, 3)) (hroom : fr' + 1 ≤ fr ∧ 8 + (nL' + 11) + lo' ≤ lo)
    (kk : ∀ v u, post v u → GW X nL (pc + 3) ls (v.toList ++ st) u) : GW X nL pc ls stk I :=
  g_runV B (fun s H D ad cy A locs hK hZ hP hS => by rw [hyc]; exact vk_recv (adK := fun i => ad (81 + i)) (i := i) hZ.2.2.2.2 hi hS) ct hl9 hm hn hst hw hv d hroom kk
theorem g_callS (B : Fx X cc nL own fr lo) (ct : Ct y b nL' ret fr' lo' As I post) (hl9 : Cond.methodLink own ix y ∈ lw_g) (hm : mS y b nL' ret n) (hn : As.length = n) (hst : stk = As.reverse ++ st) (hw : (st.map fun v => v.category).sum ≤ 8) (hv : ∀ (ad : Nat → Nat) v u, post v u → v.toList.map (cv ad) = v.toList) (d : decode cc pc = .ok (.invokestatic ix, 3)) (hroom : fr' + 1 ≤ fr ∧ 8 + (nL' + 11) + lo' ≤ lo)
    (kk : ∀ v u, post v u → GW X nL (pc + 3) ls (v.toList ++ st) u) : GW X nL pc ls stk I := by
  obtain ⟨p, l, e, R, s, m, args, below, meth, c, D, ad, cy, A, Q, kc, ks⟩ := X
  obtain ⟨⟨hx, hb, hml, hown, hts⟩, hj, hA, hK, hZ, hN, hfr, hlo, hkc, hks⟩ := B
  intro la H locs hl hP hS
  subst hst
  rw [List.map_append, List.map_reverse]
  obtain ⟨m1, m3, m4, m5⟩ := hm
  have cw : CallB R s args own ix y b nL' ret (.code y b nL' ret :: lw_g) { frames := fr', cells := 0, slots := 0, locals := lo' } 0 0 n ∧ (Cond.static y).before args s = true := va_cwS n hts (good_g (fun w hw => by
    rcases List.mem_append.mp hw with h | h
    · simp only [List.mem_cons, List.not_mem_nil, or_false] at h
      rcases h with rfl | rfl | rfl
      · exact hl9
      · exact m1
      · exact m3
    · exact (good_c m4 w h).1)) rfl rfl rfl m5 ⟨Nat.le_trans hroom.1 hfr, Nat.le_trans hroom.2 hlo⟩
  refine qg_run (va_runS (As := As.map (cv ad)) (rest := st.map (cv ad)) ⟨hx, hb, hml, hown, hts⟩ (ct l D ad cy) cw ⟨WF.blind, fun U hU hW => ⟨rfl, wf_at hj hA hK hZ hN hP hS hU hW⟩⟩ rfl (by rw [List.length_map]; exact hn) hl.1 rfl (lv_room (by rw [cv_cats]; exact hw)) d ⟨hkc, hks⟩) hS (fun q ⟨k, h1, h2⟩ => by rw [h2]; exact hA k h1) (fun v u H1 locs1 hp hP1 hS1 => ?_)
  have h := kk v u hp la H1 locs1 hl hP1 hS1
  rw [List.map_append, hv ad v u hp] at h
  exact h
theorem g_callN (B : Fx X cc nL own fr lo) (ct : Ct y b nL' ret fr' lo' As I post) (hl9 : ∀ (ad : Nat → Nat) (U : State), Ns ad U → va_Nw (.methodLinkNest own ix y "RiverSuit") U) (hm : mS y b nL' ret n) (hn : As.length = n) (hst : stk = As.reverse ++ st) (hw : (st.map fun v => v.category).sum ≤ 8) (hv : ∀ (ad : Nat → Nat) v u, post v u → v.toList.map (cv ad) = v.toList) (d : decode cc pc = .ok (.invokestatic ix, 3)) (hroom : fr' + 1 ≤ fr ∧ 8 + (nL' + 11) + lo' ≤ lo)
    (kk : ∀ v u, post v u → GW X nL (pc + 3) ls (v.toList ++ st) u) : GW X nL pc ls stk I := by
  obtain ⟨p, l, e, R, s, m, args, below, meth, c, D, ad, cy, A, Q, kc, ks⟩ := X
  obtain ⟨⟨hx, hb, hml, hown, hts⟩, hj, hA, hK, hZ, hN, hfr, hlo, hkc, hks⟩ := B
  intro la H locs hl hP hS
  subst hst
  rw [List.map_append, List.map_reverse]
  obtain ⟨m1, m3, m4, m5⟩ := hm
  have cw := va_cnB (R := R) (own := own) (host := "RiverSuit") (index := ix) (rm := { frames := fr', cells := 0, slots := 0, locals := lo' }) (mc := 0) (ms := 0) n hts (good_c m4) rfl rfl rfl (hl9 ad s hN) (hts _ m3) m5 ⟨Nat.le_trans hroom.1 hfr, Nat.le_trans hroom.2 hlo⟩
  refine qg_run (va_runSN (As := As.map (cv ad)) (rest := st.map (cv ad)) ⟨hx, hb, hml, hown, hts⟩ (ct l D ad cy) ⟨cw, hts _ m1, trivial⟩ ⟨WF.blind, fun U hU hW => ⟨rfl, wf_at hj hA hK hZ hN hP hS hU hW⟩⟩ rfl (by rw [List.length_map]; exact hn) hl.1 rfl (lv_room (by rw [cv_cats]; exact hw)) d ⟨hkc, hks⟩) hS (fun q ⟨k, h1, h2⟩ => by rw [h2]; exact hA k h1) (fun v u H1 locs1 hp hP1 hS1 => ?_)
  have h := kk v u hp la H1 locs1 hl hP1 hS1
  rw [List.map_append, hv ad v u hp] at h
  exact h
theorem g_callVI {post : Int32 → Wo → Prop} (B : Fx X cc nL own fr lo) (ct : Ct y b nL' ret fr' lo' (.ref k :: As) I (pI post)) {ci N : Nat} {T : u_T} {fs : List (Option Nat)} (hs : shL[k]? = some (.inl (ci, fs))) (hci : vwCl[ci]? = some (y.cls, T, N)) (hl9 : Cond.methodLink own ix y ∈ lw_g) (hm : mV y b nL' ret n) (hn : As.length = n) (hst : stk = As.reverse ++ .ref k :: st) (hw : (st.map fun v => v.category).sum ≤ 8) (d : decode cc pc = .ok (.invokevirtual ix, 3)) (hroom : fr' + 1 ≤ fr ∧ 8 + (nL' + 11) + lo' ≤ lo) (kk : ∀ r u, post r u → GW X nL (pc + 3) ls (.int r :: st) u) : GW X nL pc ls stk I :=
  g_callV B ct hs hci hl9 hm hn hst hw (fun ad v u ⟨r, h, _⟩ => by subst h; rfl) d hroom (fun v u ⟨r, h, h2⟩ => by subst h; exact kk r u h2)
theorem g_callSI {post : Int32 → Wo → Prop} (B : Fx X cc nL own fr lo) (ct : Ct y b nL' ret fr' lo' As I (pI post)) (hl9 : Cond.methodLink own ix y ∈ lw_g) (hm : mS y b nL' ret n) (hn : As.length = n) (hst : stk = As.reverse ++ st) (hw : (st.map fun v => v.category).sum ≤ 8) (d : decode cc pc = .ok (.invokestatic ix, 3)) (hroom : fr' + 1 ≤ fr ∧ 8 + (nL' + 11) + lo' ≤ lo) (kk : ∀ r u, post r u → GW X nL (pc + 3) ls (.int r :: st) u) : GW X nL pc ls stk I :=
  g_callS B ct hl9 hm hn hst hw (fun ad v u ⟨r, h, _⟩ => by subst h; rfl) d hroom (fun v u ⟨r, h, h2⟩ => by subst h; exact kk r u h2)
theorem g_callNI {post : Int32 → Wo → Prop} (B : Fx X cc nL own fr lo) (ct : Ct y b nL' ret fr' lo' As I (pI post)) (hl9 : ∀ (ad : Nat → Nat) (U : State), Ns ad U → va_Nw (.methodLinkNest own ix y "RiverSuit") U) (hm : mS y b nL' ret n) (hn : As.length = n) (hst : stk = As.reverse ++ st) (hw : (st.map fun v => v.category).sum ≤ 8) (d : decode cc pc = .ok (.invokestatic ix, 3)) (hroom : fr' + 1 ≤ fr ∧ 8 + (nL' + 11) + lo' ≤ lo) (kk : ∀ r u, post r u → GW X nL (pc + 3) ls (.int r :: st) u) : GW X nL pc ls stk I :=
  g_callN B ct hl9 hm hn hst hw (fun ad v u ⟨r, h, _⟩ => by subst h; rfl) d hroom (fun v u ⟨r, h, h2⟩ => by subst h; exact kk r u h2)
theorem g_callVL {post : Int64 → Wo → Prop} (B : Fx X cc nL own fr lo) (ct : Ct y b nL' ret fr' lo' (.ref k :: As) I (pL post)) {ci N : Nat} {T : u_T} {fs : List (Option Nat)} (hs : shL[k]? = some (.inl (ci, fs))) (hci : vwCl[ci]? = some (y.cls, T, N)) (hl9 : Cond.methodLink own ix y ∈ lw_g) (hm : mV y b nL' ret n) (hn : As.length = n) (hst : stk = As.reverse ++ .ref k :: st) (hw : (st.map fun v => v.category).sum ≤ 8) (d : decode cc pc = .ok (.invokevirtual ix, 3)) (hroom : fr' + 1 ≤ fr ∧ 8 + (nL' + 11) + lo' ≤ lo) (kk : ∀ r u, post r u → GW X nL (pc + 3) ls (.long r :: st) u) : GW X nL pc ls stk I :=
  g_callV B ct hs hci hl9 hm hn hst hw (fun ad v u ⟨r, h, _⟩ => by subst h; rfl) d hroom (fun v u ⟨r, h, h2⟩ => by subst h; exact kk r u h2)
theorem g_callSL {post : Int64 → Wo → Prop} (B : Fx X cc nL own fr lo) (ct : Ct y b nL' ret fr' lo' As I (pL post)) (hl9 : Cond.methodLink own ix y ∈ lw_g) (hm : mS y b nL' ret n) (hn : As.length = n) (hst : stk = As.reverse ++ st) (hw : (st.map fun v => v.category).sum ≤ 8) (d : decode cc pc = .ok (.invokestatic ix, 3)) (hroom : fr' + 1 ≤ fr ∧ 8 + (nL' + 11) + lo' ≤ lo) (kk : ∀ r u, post r u → GW X nL (pc + 3) ls (.long r :: st) u) : GW X nL pc ls stk I :=
  g_callS B ct hl9 hm hn hst hw (fun ad v u ⟨r, h, _⟩ => by subst h; rfl) d hroom (fun v u ⟨r, h, h2⟩ => by subst h; exact kk r u h2)
theorem g_callNL {post : Int64 → Wo → Prop} (B : Fx X cc nL own fr lo) (ct : Ct y b nL' ret fr' lo' As I (pL post)) (hl9 : ∀ (ad : Nat → Nat) (U : State), Ns ad U → va_Nw (.methodLinkNest own ix y "RiverSuit") U) (hm : mS y b nL' ret n) (hn : As.length = n) (hst : stk = As.reverse ++ st) (hw : (st.map fun v => v.category).sum ≤ 8) (d : decode cc pc = .ok (.invokestatic ix, 3)) (hroom : fr' + 1 ≤ fr ∧ 8 + (nL' + 11) + lo' ≤ lo) (kk : ∀ r u, post r u → GW X nL (pc + 3) ls (.long r :: st) u) : GW X nL pc ls stk I :=
  g_callN B ct hl9 hm hn hst hw (fun ad v u ⟨r, h, _⟩ => by subst h; rfl) d hroom (fun v u ⟨r, h, h2⟩ => by subst h; exact kk r u h2)
theorem g_callVV {post : Wo → Prop} (B : Fx X cc nL own fr lo) (ct : Ct y b nL' ret fr' lo' (.ref k :: As) I (pV post)) {ci N : Nat} {T : u_T} {fs : List (Option Nat)} (hs : shL[k]? = some (.inl (ci, fs))) (hci : vwCl[ci]? = some (y.cls, T, N)) (hl9 : Cond.methodLink own ix y ∈ lw_g) (hm : mV y b nL' ret n) (hn : As.length = n) (hst : stk = As.reverse ++ .ref k :: st) (hw : (st.map fun v => v.category).sum ≤ 8) (d : decode cc pc = .ok (.invokevirtual ix, 3)) (hroom : fr' + 1 ≤ fr ∧ 8 + (nL' + 11) + lo' ≤ lo) (kk : ∀ u, post u → GW X nL (pc + 3) ls st u) : GW X nL pc ls stk I :=
  g_callV B ct hs hci hl9 hm hn hst hw (fun ad v u ⟨h, _⟩ => by subst h; rfl) d hroom (fun v u ⟨h, h2⟩ => by subst h; exact kk u h2)
theorem g_callSV {post : Wo → Prop} (B : Fx X cc nL own fr lo) (ct : Ct y b nL' ret fr' lo' As I (pV post)) (hl9 : Cond.methodLink own ix y ∈ lw_g) (hm : mS y b nL' ret n) (hn : As.length = n) (hst : stk = As.reverse ++ st) (hw : (st.map fun v => v.category).sum ≤ 8) (d : decode cc pc = .ok (.invokestatic ix, 3)) (hroom : fr' + 1 ≤ fr ∧ 8 + (nL' + 11) + lo' ≤ lo) (kk : ∀ u, post u → GW X nL (pc + 3) ls st u) : GW X nL pc ls stk I :=
  g_callS B ct hl9 hm hn hst hw (fun ad v u ⟨h, _⟩ => by subst h; rfl) d hroom (fun v u ⟨h, h2⟩ => by subst h; exact kk u h2)
end CALLS

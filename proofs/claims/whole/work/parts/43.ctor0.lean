/-! the constructors: rules for a world that grows -/
theorem k_one {U : State} {a b : ClassId} {ty : FieldType} (ha : va_RA U a ty) (hb : va_RA U b ty) : a = b := by
  cases ty with
  | object C =>
    obtain ⟨_, _, _, _, _, h1⟩ := ha
    obtain ⟨_, _, _, _, _, h2⟩ := hb
    exact Option.some.inj (h1.symm.trans h2)
  | _ => exact Option.some.inj (Eq.trans (Eq.symm (show U.vm.findClass _ = some a from ha)) (show U.vm.findClass _ = some b from hb))
theorem k_dv {ty0 : Nat → FieldType} {N : Nat} {fs : List Value} (h : (List.range N).map (fun j => defaultValue (ty0 j)) = fs) : ∀ j, j < N → defaultValue (ty0 j) = vp_V fs j := by
  intro j hj
  subst h
  simp [vp_V, hj]
theorem k_D1 {q sz : Nat} {e : va_E} : va_D (va_A [(q, e)] sz) [(q, e)] := by
  refine ⟨fun i j x y hi hj _ => ?_, fun k x hk => va_A.in hk⟩
  have h1 := (List.getElem?_eq_some_iff.mp hi).1
  have h2 := (List.getElem?_eq_some_iff.mp hj).1
  simp only [List.length_cons, List.length_nil] at h1 h2
  omega
section CTOR
variable {p : Program} {l : Launch} {e : Env} {R : Room} {s : State} {m : MethodId} {args : Array Value} {below : List Frame} {meth : Method} {c : Code} {H : Heap} {locs : List Loc} {cells slots : Nat} {Q : State → Prop}
variable {cc : ByteArray} {pc : Nat} {ls : Array Slot} {rest : List Value} {D : va_G} {A : Nat → Prop} {a : Nat} {ws : va_W} {H0 : Heap} {cy : Nat → ClassId} {own C : String} {T : u_T} {N ci index : Nat} {ty0 : Nat → FieldType}
theorem k_newa (hx : p.tables.exec = Jvm.exec) (hb : c.code = cc) (hts : ∀ w ∈ lw_g, w.before args s = true) {atype : ArrayType} (t : Nat) {ty : FieldType} (hty : newarray.typeOf atype = ty) (harr : Cond.arrayClass ty ∈ lw_g) (ht : (tysW cy)[t]? = some (cy t, ty)) (hdv : defaultValue ty = .int 0) (hK : va_K D vwCl (tysW cy) s) (hP : va_P D vwCl ws H) (hD : va_D A ws) (hS : va_S A H0 H locs) (hA : ∀ q, H0.size ≤ q → A q)
    {n : Int32} (N' : Nat) (hn : n = nI N') (h31 : N' < 2 ^ 31) (hbytes : N' * componentBytes ty ≤ 536870912) (hcells : cells + 1 ≤ R.cells) (hslots : slots + N' ≤ R.slots) (hdg : decode cc pc = .ok (.newarray atype, 2))
    (kk : ∀ (q : Nat) (H1 : Heap), va_P D vwCl (ws ++ [(q, .inl (cy t, N', .inl (fun _ => 0)))]) H1 → va_D A (ws ++ [(q, .inl (cy t, N', .inl (fun _ => 0)))]) → va_S A H0 H1 locs → W p l e R s m args below meth c H1 locs (cells + 1) (slots + N') Q (F0 m (pc + 2) ls (.ref q :: rest))) : W p l e R s m args below meth c H locs cells slots Q (F0 m pc ls (.int n :: rest)) := by
  subst hn
  refine va_newa (a0 := (N', .inl (fun _ => 0))) hx hb (by rw [hty]; exact hts _ harr) hty hK hP hD hS hA (fun cA => ?_) (nI_pos h31) (nI_clamp h31) hbytes hcells hslots hdg (fun q cA H1 hK1 hP1 hD1 hS1 => ?_)
  · rw [hdv]; rfl
  · have e9 : cA = cy t := k_one (hK1.2 5 (cA, ty) rfl).2 (hK.2 t _ ht).2
    subst e9
    exact kk q H1 hP1 hD1 hS1
theorem k_newq (hx : p.tables.exec = Jvm.exec) (hb : c.code = cc) (hts : ∀ w ∈ lw_g, w.before args s = true) (hown : s.vm.findClass own = some m.cls) (hcl : Cond.classLink own index C ∈ lw_g) (hover : va_AO C s) (t : Nat) (ht : (tysW cy)[t]? = some (cy t, .object C)) (hK : va_K D vwCl (tysW cy) s) (hP : va_P D vwCl ws H) (hD : va_D A ws) (hS : va_S A H0 H locs) (hA : ∀ q, H0.size ≤ q → A q)
    {n : Int32} (N' : Nat) (hn : n = nI N') (h31 : N' < 2 ^ 31) (hbytes : N' * 4 ≤ 536870912) (hcells : cells + 1 ≤ R.cells) (hslots : slots + N' ≤ R.slots) (hdg : decode cc pc = .ok (.anewarray index, 3))
    (kk : ∀ (q : Nat) (H1 : Heap), va_P D vwCl (ws ++ [(q, .inl (cy t, N', .inr (.inr (.inr (.inr (fun _ => none))))))]) H1 → va_D A (ws ++ [(q, .inl (cy t, N', .inr (.inr (.inr (.inr (fun _ => none))))))]) → va_S A H0 H1 locs → W p l e R s m args below meth c H1 locs (cells + 1) (slots + N') Q (F0 m (pc + 3) ls (.ref q :: rest))) : W p l e R s m args below meth c H locs cells slots Q (F0 m pc ls (.int n :: rest)) := by
  subst hn
  refine va_newq hx hb hown (hts _ hcl) hover hK hP hD hS hA (nI_pos h31) (nI_clamp h31) hbytes hcells hslots hdg (fun q cA H1 hK1 hP1 hD1 hS1 => ?_)
  have e9 : cA = cy t := k_one (hK1.2 5 (cA, .object C) rfl).2 (hK.2 t _ ht).2
  subst e9
  exact kk q H1 hP1 hD1 hS1
theorem k_putF (hx : p.tables.exec = Jvm.exec) (hb : c.code = cc) (hts : ∀ w ∈ lw_g, w.before args s = true) (hown : s.vm.findClass own = some m.cls) (hci : CI ci C T N ty0) (hK : va_K D vwCl (tysW cy) s) (hP : va_P D vwCl ws H) (hD : va_D A ws) (hS : va_S A H0 H locs) (q0 : Nat) {fs : List Value} (he : ws[q0]? = some (a, .inr (ci, fs))) (k : Nat) (hk : k < N) (hl9 : Cond.fieldLink own index (T k).1 (T k).2.1 (T k).2.2.1 ∈ lw_g) (hfin : (T k).2.2.2 = true) (hin2 : meth.name = "<init>") (hdecl : (T k).1 = own) {v : Value} (hn : narrow (ty0 k) v = v) (hfit : fits (ty0 k) v = true) (hl : k < fs.length)
    (hdg : decode cc pc = .ok (.putfield index, 3)) (kk : ∀ (H1 : Heap) (locs1 : List Loc), va_P D vwCl (ws.set q0 (a, .inr (ci, fs.set k v))) H1 → va_D A (ws.set q0 (a, .inr (ci, fs.set k v))) → va_S A H0 H1 locs1 → W p l e R s m args below meth c H1 locs1 cells slots Q (F0 m (pc + 3) ls rest)) : W p l e R s m args below meth c H locs cells slots Q (F0 m pc ls (v :: .ref a :: rest)) :=
  va_putF (ref := (T k).1) hx hb hts hci.2.1 ty0 hci.2.2.1 hci.2.2.2 hown hK hP hD hS q0 he hci.1 k hk (hts _ hl9) (fun _ h => h) hfin hin2 hdecl (hci.2.2.1 k hk) hn hfit hl hdg kk
theorem k_put (hx : p.tables.exec = Jvm.exec) (hb : c.code = cc) (hts : ∀ w ∈ lw_g, w.before args s = true) (hown : s.vm.findClass own = some m.cls) (hci : CI ci C T N ty0) (hK : va_K D vwCl (tysW cy) s) (hP : va_P D vwCl ws H) (hD : va_D A ws) (hS : va_S A H0 H locs) (q0 : Nat) {fs : List Value} (he : ws[q0]? = some (a, .inr (ci, fs))) (k : Nat) (hk : k < N) (hl9 : Cond.fieldLink own index (T k).1 (T k).2.1 (T k).2.2.1 ∈ lw_g) (hfin : (T k).2.2.2 = false) {v : Value} (hn : narrow (ty0 k) v = v) (hfit : fits (ty0 k) v = true) (hl : k < fs.length)
    (hdg : decode cc pc = .ok (.putfield index, 3)) (kk : ∀ (H1 : Heap) (locs1 : List Loc), va_P D vwCl (ws.set q0 (a, .inr (ci, fs.set k v))) H1 → va_D A (ws.set q0 (a, .inr (ci, fs.set k v))) → va_S A H0 H1 locs1 → W p l e R s m args below meth c H1 locs1 cells slots Q (F0 m (pc + 3) ls rest)) : W p l e R s m args below meth c H locs cells slots Q (F0 m pc ls (v :: .ref a :: rest)) :=
  va_put (ref := (T k).1) hx hb hts hci.2.1 ty0 hci.2.2.1 hci.2.2.2 hown hK hP hD hS q0 he hci.1 k hk (hts _ hl9) (fun _ h => h) hfin (hci.2.2.1 k hk) hn hfit hl hdg kk
theorem k_get (hx : p.tables.exec = Jvm.exec) (hb : c.code = cc) (hts : ∀ w ∈ lw_g, w.before args s = true) (hown : s.vm.findClass own = some m.cls) (hci : CI ci C T N ty0) (hK : va_K D vwCl (tysW cy) s) (hP : va_P D vwCl ws H) (q0 : Nat) {fs : List Value} (he : ws[q0]? = some (a, .inr (ci, fs))) (k : Nat) (hk : k < N) (hl9 : Cond.fieldLink own index (T k).1 (T k).2.1 (T k).2.2.1 ∈ lw_g) {v : Value} (hv : fs[k]? = some v) (hdg : decode cc pc = .ok (.getfield index, 3))
    (kk : W p l e R s m args below meth c H locs cells slots Q (F0 m (pc + 3) ls (v :: rest))) : W p l e R s m args below meth c H locs cells slots Q (F0 m pc ls (.ref a :: rest)) :=
  va_get (ref := (T k).1) (C := C) (T := T) (N := N) hx hb hts hci.2.1 hown hK hP q0 he hci.1 k hk (hts _ hl9) (fun _ h => h) hv hdg kk
theorem k_new (hx : p.tables.exec = Jvm.exec) (hb : c.code = cc) (hts : ∀ w ∈ lw_g, w.before args s = true) (hown : s.vm.findClass own = some m.cls) (hci : CI ci C T N ty0) (hcl : Cond.classLink own index C ∈ lw_g) (hinst : Cond.instantiable C N ∈ lw_g) (hini : Cond.initialized C ∈ lw_g) (hK : va_K D vwCl (tysW cy) s) (hP : va_P D vwCl ws H) (hD : va_D A ws) (hS : va_S A H0 H locs) (hA : ∀ q, H0.size ≤ q → A q) {fs : List Value} (hfs : (List.range N).map (fun j => defaultValue (ty0 j)) = fs) (hcells : cells + 1 ≤ R.cells) (hslots : slots + N ≤ R.slots) (hdg : decode cc pc = .ok (.new index, 3))
    (kk : ∀ (q : Nat) (H1 : Heap), va_P D vwCl (ws ++ [(q, .inr (ci, fs))]) H1 → va_D A (ws ++ [(q, .inr (ci, fs))]) → va_S A H0 H1 locs → W p l e R s m args below meth c H1 locs (cells + 1) (slots + N) Q (F0 m (pc + 3) ls (.ref q :: rest))) : W p l e R s m args below meth c H locs cells slots Q (F0 m pc ls rest) :=
  va_new hx hb hts hci.2.1 ty0 hci.2.2.1 hown (hts _ hcl) (hts _ hinst) (hts _ hini) hK hP hD hS hA hci.1 (k_dv hfs) hcells hslots hdg kk
theorem k_astq (hx : p.tables.exec = Jvm.exec) (hb : c.code = cc) (hK : va_K D vwCl (tysW cy) s) (hP : va_P D vwCl ws H) (hD : va_D A ws) (hS : va_S A H0 H locs) (q0 t0 qk : Nat) {n v : Nat} {vs : List Value} {f : Nat → Option Nat} (ha : ws[q0]? = some (a, .inl (cy t0, n, .inr (.inr (.inr (.inr f)))))) (hci : CI ci C T N ty0) (ht : (tysW cy)[t0]? = some (cy t0, .object C)) (hv : ws[qk]? = some (v, .inr (ci, vs))) {i : Int32} (j : Nat) (hi : i = nI j) (hj : j < n) (hn : n < 2 ^ 31) (hdg : decode cc pc = .ok (.aastore, 1))
    (kk : ∀ (H1 : Heap) (locs1 : List Loc), va_P D vwCl (ws.set q0 (a, .inl (cy t0, n, .inr (.inr (.inr (.inr (va_up f j (some v)))))))) H1 → va_D A (ws.set q0 (a, .inl (cy t0, n, .inr (.inr (.inr (.inr (va_up f j (some v)))))))) → va_S A H0 H1 locs1 → W p l e R s m args below meth c H1 locs1 cells slots Q (F0 m (pc + 1) ls rest)) : W p l e R s m args below meth c H locs cells slots Q (F0 m pc ls (.ref v :: .int i :: .ref a :: rest)) := by
  subst hi
  have e9 : (nI j).toNatClampNeg = j := nI_clamp (by omega)
  refine va_astq hx hb hK hP hD hS q0 t0 qk ci ha (r := (C, T, N)) ht hv hci.1 (vp_in_nI hj hn) hdg ?_
  rw [e9]
  exact kk
end CTOR
/-- what a call made stands in place of the last cell -/
theorem k_join {A0 : Nat → Prop} {D : va_G} {cl : List vw_C} {ws w1 : va_W} {q : Nat} {e1 : va_E} {H H1 : Heap} (hP : va_P D cl (ws ++ [(q, e1)]) H) (hD : va_D A0 (ws ++ [(q, e1)])) (hk : ∀ x : Nat, x < H.size → ¬ va_A [(q, e1)] H.size x → H1[x]? = H[x]?) (hF : ∀ x, va_A [(q, e1)] H.size x → A0 x) (hP1 : va_P D cl w1 H1) (hD1 : va_D (va_A [(q, e1)] H.size) w1) : va_P D cl (ws ++ w1) H1 ∧ va_D A0 (ws ++ w1) := by
  have up : ∀ (k : Nat) (z : Nat × va_E), ws[k]? = some z → (ws ++ [(q, e1)])[k]? = some z := by
    intro k z hz
    rw [List.getElem?_append_left (List.getElem?_eq_some_iff.mp hz).1]; exact hz
  have ap : ∀ (k : Nat) (z : Nat × va_E), ws[k]? = some z → z.1 < H.size ∧ ¬ va_A [(q, e1)] H.size z.1 := by
    intro k z hz
    have hlt := (List.getElem?_eq_some_iff.mp hz).1
    have hl := (hP k z (up k z hz)).lt
    refine ⟨hl, fun h => ?_⟩
    rcases h with ⟨k2, e2, h⟩ | h
    · have hk2 := (List.getElem?_eq_some_iff.mp h).1
      simp only [List.length_cons, List.length_nil] at hk2
      have hk0 : k2 = 0 := by omega
      subst hk0
      have hh : (q, e1) = (z.1, e2) := Option.some.inj h
      have hq : (ws ++ [(q, e1)])[ws.length]? = some (q, e1) := by simp
      have := hD.1 k ws.length z (q, e1) (up k z hz) hq (congrArg Prod.fst hh).symm
      omega
    · omega
  refine ⟨va_P.app (fun k z hz => ?_) hP1, va_D.app ⟨fun i j x y hx hy hxy => hD.1 i j x y (up i x hx) (up j y hy) hxy, fun k z hz => hD.2 k z (up k z hz)⟩ (hD1.weaken (fun k z _ h => hF z.1 h)) (fun i j x y hx hy hxy => ?_)⟩
  · obtain ⟨g1, g2⟩ := ap k z hz
    exact (hP k z (up k z hz)).kept (hk z.1 g1 g2)
  · exact (ap i x hx).2 (by rw [hxy]; exact hD1.2 j y hy)
/-- a constructor of a class that is nested: what it makes -/
def Kc (y : MethodName) (b : ByteArray) (mc ms ci : Nat) (fs0 : List Value) (out : (Nat → ClassId) → Nat → (Nat → Nat) → va_W) : Prop :=
  ∀ (l : Launch) (D : va_G) (cy : Nat → ClassId) (h0 sz : Nat), Met l y (.code y b 1 none :: lw_g) { frames := 1, cells := mc, slots := ms, locals := 12 } (va_Pc [.ref h0] (fun U => U.heap.size = sz ∧ va_P D vwCl [(h0, .inr (ci, fs0))] U.heap ∧ va_K D vwCl (tysW cy) U)) (va_Qv (fun _ : Nat → Nat => True) (fun r t => va_P D vwCl (out cy h0 r) t.heap ∧ va_D (va_A [(h0, .inr (ci, fs0))] sz) (out cy h0 r)) (va_A [(h0, .inr (ci, fs0))] sz)) mc ms (va_A [(h0, .inr (ci, fs0))] sz)
def mI (y : MethodName) (b : ByteArray) (nL : Nat) : Prop := Cond.instanceMethod y ∈ lw_g ∧ Cond.initialized y.cls ∈ lw_g ∧ Cond.code y b nL none ∈ lw_g ∧ y.name = "<init>" ∧ mD y 0
section MAKE
variable {p : Program} {l : Launch} {e : Env} {R : Room} {s : State} {m : MethodId} {args : Array Value} {below : List Frame} {meth : Method} {c : Code} {H : Heap} {locs : List Loc} {cells slots : Nat} {Q : State → Prop}
variable {cc : ByteArray} {pc nL : Nat} {ls : Array Slot} {rest : List Value} {D : va_G} {A : Nat → Prop} {a : Nat} {ws : va_W} {H0 : Heap} {cy : Nat → ClassId} {own C : String} {T : u_T} {N ci ix ix2 mc ms : Nat} {ty0 : Nat → FieldType} {y : MethodName} {b : ByteArray} {fs0 : List Value} {out : (Nat → ClassId) → Nat → (Nat → Nat) → va_W}
/-- new, dup, <init> -/
theorem k_make (hx : p.tables.exec = Jvm.exec) (hb : c.code = cc) (hml : c.maxLocals = nL) (hts : ∀ w ∈ lw_g, w.before args s = true) (hown : s.vm.findClass own = some m.cls) (hci : CI ci C T N ty0) (kc : Kc y b mc ms ci fs0 out) (hfs : (List.range N).map (fun j => defaultValue (ty0 j)) = fs0) (hcl : Cond.classLink own ix C ∈ lw_g) (hinst : Cond.instantiable C N ∈ lw_g) (hini : Cond.initialized C ∈ lw_g) (hm : mI y b 1) (hlink : va_Nw (.methodLinkNest own ix2 y "RiverSuit") s)
    (hK : va_K D vwCl (tysW cy) s) (hP : va_P D vwCl ws H) (hD : va_D A ws) (hS : va_S A H0 H locs) (hA : ∀ q, H0.size ≤ q → A q) (hls : ls.size = nL) (hrest : (rest.map fun v => v.category).sum ≤ 7) (d0 : decode cc pc = .ok (.new ix, 3)) (d1 : decode cc (pc + 3) = .ok (.dup, 1)) (d2 : decode cc (pc + 3 + 1) = .ok (.invokespecial ix2, 3)) (hroom : 2 ≤ R.frames ∧ 32 ≤ R.locals) (hcells : cells + 1 + mc ≤ R.cells) (hslots : slots + N + ms ≤ R.slots)
    (kk : ∀ (q : Nat) (r : Nat → Nat) (H1 : Heap) (locs1 : List Loc), va_P D vwCl (ws ++ out cy q r) H1 → va_D A (ws ++ out cy q r) → va_S A H0 H1 locs1 → W p l e R s m args below meth c H1 locs1 (cells + 1 + mc) (slots + N + ms) Q (F0 m (pc + 3 + 1 + 3) ls (.ref q :: rest))) : W p l e R s m args below meth c H locs cells slots Q (F0 m pc ls rest) := by
  obtain ⟨m1, m2, m3, m4, m5⟩ := hm
  refine k_new hx hb hts hown hci hcl hinst hini hK hP hD hS hA hfs (by omega) (by omega) d0 (fun q H1 hP1 hD1 hS1 => ?_)
  refine lv_dup hx hb d1 rfl ?_
  have hPc : va_P D vwCl [(q, .inr (ci, fs0))] H1 := hP1.sub [ws.length] (by simp)
  have hFc := va_free (wc := [(q, .inr (ci, fs0))]) hD1 hS1 hA [ws.length] (by simp)
  refine va_callv (va_runIN (As := []) (rest := .ref q :: rest) ⟨hx, hb, hml, hown, hts⟩ (kc l D cy q H1.size) ⟨va_cnB (R := R) (own := own) (host := "RiverSuit") (index := ix2) (rm := { frames := 1, cells := mc, slots := ms, locals := 12 }) (mc := mc) (ms := ms) 0 hts (good_c m3) rfl rfl rfl hlink (hts _ m2) m5 ⟨hroom.1, hroom.2⟩, m4, hts _ m1⟩ ⟨fun a U g mk z => by
    obtain ⟨z0, z1, zP, zK⟩ := z
    exact ⟨z0, z1, zP, va_K.moved (u := U) (U := U.calling g mk a) (Vm.Alike.refl U.vm) zK⟩, fun U hU hW => ⟨rfl, by rw [hU], by rw [hU]; exact hPc, va_K.moved hW.alike hK⟩⟩ rfl rfl hls rfl (lv_room (by simp only [List.map_cons, List.sum_cons]; show 1 + _ ≤ 8; omega)) d2 ⟨hcells, hslots⟩) hS1 (fun x _ h => hFc x h) hFc (fun r t H2 locs2 ht hvm hw hB hz1 hk1 hS2 => ?_)
  obtain ⟨hP2, hD2⟩ := hB
  rw [ht] at hP2
  obtain ⟨hP3, hD3⟩ := k_join hP1 hD1 hk1 hFc hP2 hD2
  exact kk q r H2 locs2 hP3 hD3 hS2
end MAKE

/-! THE LAYER: one world for the class and the reference, its cells by number; refs in locals and stack are numbers of cells, 'ad' gives their addresses; the world's numbers are one function I : cell → slot → Int32 -/
abbrev Wo : Type := Nat → Nat → Int32
def cv (ad : Nat → Nat) (v : Value) : Value := match v with
  | .ref k => .ref (ad k)
  | v => v
theorem cv_cat (ad : Nat → Nat) (v : Value) : (cv ad v).category = v.category := by cases v <;> rfl
theorem cv_cats (ad : Nat → Nat) (st : List Value) : ((st.map (cv ad)).map fun v => v.category) = st.map fun v => v.category := by
  rw [List.map_map]; exact List.map_congr_left fun v _ => cv_cat ad v
abbrev Sh : Type := (Nat × List (Option Nat)) ⊕ ((Nat × Nat) ⊕ (Nat × List Nat))
def fieldsOf (ad : Nat → Nat) (f : Nat → Int32) (fs : List (Option Nat)) : List Value := fs.zipIdx.map (fun q => match q.1 with
  | none => Value.int (f q.2)
  | some r => Value.ref (ad r))
def cellOf (ad : Nat → Nat) (cy : Nat → ClassId) (f : Nat → Int32) (sh : Sh) : va_E := match sh with
  | .inl o => .inr (o.1, fieldsOf ad f o.2)
  | .inr (.inl a) => .inl (cy a.1, a.2, .inl f)
  | .inr (.inr a) => .inl (cy a.1, a.2.length, .inr (.inr (.inr (.inr (fun j => some (ad (a.2.getD j 0)))))))
def shL : List Sh := [.inl (6, [some 1, some 10, some 19, some 38, some 39, some 41, some 50, some 51, some 53, some 56, none, none]),
  .inl (3, [some 2, some 3, some 4, some 5, some 6, some 7, some 8, some 9, none, none, none, none, none, none, none]),
  .inr (.inl (0, 8)),
  .inr (.inl (0, 8)),
  .inr (.inl (0, 8)),
  .inr (.inl (0, 8)),
  .inr (.inl (0, 8)),
  .inr (.inl (0, 8)),
  .inr (.inl (0, 6)),
  .inr (.inl (0, 6)),
  .inl (3, [some 11, some 12, some 13, some 14, some 15, some 16, some 17, some 18, none, none, none, none, none, none, none]),
  .inr (.inl (0, 8)),
  .inr (.inl (0, 8)),
  .inr (.inl (0, 8)),
  .inr (.inl (0, 8)),
  .inr (.inl (0, 8)),
  .inr (.inl (0, 8)),
  .inr (.inl (0, 6)),
  .inr (.inl (0, 6)),
  .inr (.inr (3, [20, 29])),
  .inl (3, [some 21, some 22, some 23, some 24, some 25, some 26, some 27, some 28, none, none, none, none, none, none, none]),
  .inr (.inl (0, 8)),
  .inr (.inl (0, 8)),
  .inr (.inl (0, 8)),
  .inr (.inl (0, 8)),
  .inr (.inl (0, 8)),
  .inr (.inl (0, 8)),
  .inr (.inl (0, 6)),
  .inr (.inl (0, 6)),
  .inl (3, [some 30, some 31, some 32, some 33, some 34, some 35, some 36, some 37, none, none, none, none, none, none, none]),
  .inr (.inl (0, 8)),
  .inr (.inl (0, 8)),
  .inr (.inl (0, 8)),
  .inr (.inl (0, 8)),
  .inr (.inl (0, 8)),
  .inr (.inl (0, 8)),
  .inr (.inl (0, 6)),
  .inr (.inl (0, 6)),
  .inr (.inl (1, 2)),
  .inl (4, [some 40, none, none, none, none, none, none, none, none, none]),
  .inr (.inl (2, 160)),
  .inr (.inr (4, [42, 44, 46, 48])),
  .inl (2, [some 43, none, none]),
  .inr (.inl (0, 40)),
  .inl (2, [some 45, none, none]),
  .inr (.inl (0, 40)),
  .inl (2, [some 47, none, none]),
  .inr (.inl (0, 40)),
  .inl (2, [some 49, none, none]),
  .inr (.inl (0, 40)),
  .inl (5, [none, none, none]),
  .inl (0, [some 52]),
  .inr (.inl (1, 256)),
  .inl (1, [none, none, none, none, none, some 54, some 55]),
  .inr (.inl (0, 6)),
  .inr (.inl (1, 6)),
  .inr (.inl (0, 8)),
  .inl (7, [some 58, some 59, none, some 60, some 61, some 62, some 63, none, some 64, some 65, some 66, none, none, some 67, none, none, none, none, none, none, none, some 68, none, none, some 69, some 70, some 71, some 72, none]),
  .inr (.inl (0, 141)),
  .inr (.inl (1, 2)),
  .inr (.inl (0, 8)),
  .inr (.inl (0, 8)),
  .inr (.inl (0, 8)),
  .inr (.inl (0, 47)),
  .inr (.inl (0, 8)),
  .inr (.inl (0, 8)),
  .inr (.inl (0, 8)),
  .inr (.inl (0, 160)),
  .inr (.inl (0, 8)),
  .inr (.inl (1, 2816)),
  .inr (.inl (0, 4)),
  .inr (.inl (0, 4)),
  .inr (.inl (0, 160))]
theorem shL_len : shL.length = 73 := rfl
def Wd (ad : Nat → Nat) (cy : Nat → ClassId) (I : Wo) : va_W := shL.zipIdx.map (fun q => (ad q.2, cellOf ad cy (I q.2) q.1))
theorem Wd_get {ad : Nat → Nat} {cy : Nat → ClassId} {I : Wo} {k : Nat} {sh : Sh} (h : shL[k]? = some sh) : (Wd ad cy I)[k]? = some (ad k, cellOf ad cy (I k) sh) := by
  simp [Wd, List.getElem?_map, List.getElem?_zipIdx, h]
theorem Wd_addr {ad : Nat → Nat} {cy : Nat → ClassId} {I : Wo} {k : Nat} {q : Nat × va_E} (h : (Wd ad cy I)[k]? = some q) : k < 73 ∧ q.1 = ad k := by
  cases hs : shL[k]? with
  | none => simp [Wd, List.getElem?_map, List.getElem?_zipIdx, hs] at h
  | some sh =>
    rw [Wd_get hs] at h
    cases h
    exact ⟨shL_len ▸ (List.getElem?_eq_some_iff.mp hs).1, rfl⟩
theorem Wd_set {ad : Nat → Nat} {cy : Nat → ClassId} {I : Wo} {k : Nat} {sh : Sh} (h : shL[k]? = some sh) (f : Nat → Int32) : (Wd ad cy I).set k (ad k, cellOf ad cy f sh) = Wd ad cy (va_up I k f) := by
  apply List.ext_getElem?
  intro i
  by_cases hi : i = k
  · subst hi
    rw [List.getElem?_set_self (List.getElem?_eq_some_iff.mp (Wd_get h)).1, Wd_get h]
    simp [va_up]
  · rw [List.getElem?_set_ne (Ne.symm hi)]
    cases hs : shL[i]? with
    | none => simp [Wd, List.getElem?_map, List.getElem?_zipIdx, hs]
    | some sh' => rw [Wd_get hs, Wd_get hs]; simp [va_up, hi]
/-- one slot of one cell anew -/
def w2 (I : Wo) (k j : Nat) (v : Int32) : Wo := fun a b => if a = k ∧ b = j then v else I a b
theorem w2_up (I : Wo) (k j : Nat) (v : Int32) : va_up I k (upd (I k) j v) = w2 I k j v := by
  funext a b
  by_cases h : a = k
  · subst h; by_cases h2 : b = j <;> simp [va_up, upd, w2, h2]
  · simp [va_up, w2, h]
theorem fieldsOf_get {ad : Nat → Nat} {f : Nat → Int32} {fs : List (Option Nat)} {j : Nat} : (fieldsOf ad f fs)[j]? = (fs[j]?).map (fun q => match q with
  | none => Value.int (f j)
  | some r => Value.ref (ad r)) := by
  cases h : fs[j]? <;> simp [fieldsOf, List.getElem?_map, List.getElem?_zipIdx, h]
theorem fieldsOf_len {ad : Nat → Nat} {f : Nat → Int32} {fs : List (Option Nat)} : (fieldsOf ad f fs).length = fs.length := by simp [fieldsOf]
theorem fieldsOf_set {ad : Nat → Nat} {f : Nat → Int32} {fs : List (Option Nat)} {j : Nat} (h : fs[j]? = some none) (v : Int32) : (fieldsOf ad f fs).set j (.int v) = fieldsOf ad (upd f j v) fs := by
  apply List.ext_getElem?
  intro i
  by_cases hi : i = j
  · subst hi
    have hl := (List.getElem?_eq_some_iff.mp h).1
    rw [List.getElem?_set_self (by rw [fieldsOf_len]; exact hl), fieldsOf_get, h]
    simp [upd]
  · rw [List.getElem?_set_ne (Ne.symm hi), fieldsOf_get, fieldsOf_get]
    simp [upd, hi]
def Aw (ad : Nat → Nat) (q : Nat) : Prop := ∃ k : Nat, k < 73 ∧ q = ad k
def Dj (ad : Nat → Nat) : Prop := ∀ i j : Nat, i < 73 → j < 73 → ad i = ad j → i = j
theorem Wd_D {ad : Nat → Nat} {cy : Nat → ClassId} {I : Wo} {A : Nat → Prop} (hj : Dj ad) (hA : ∀ k : Nat, k < 73 → A (ad k)) : va_D A (Wd ad cy I) := by
  refine ⟨fun i j p q hp hq e => ?_, fun k q hq => ?_⟩
  · obtain ⟨h1, h2⟩ := Wd_addr hp
    obtain ⟨h3, h4⟩ := Wd_addr hq
    exact hj i j h1 h3 (by rw [← h2, ← h4, e])
  · obtain ⟨h1, h2⟩ := Wd_addr hq
    rw [h2]; exact hA k h1
/-- what stands beside the world: statics, String constants -/
def factL : List Int32 := [1, 1, 2, 6, 24, 120, 720, 5040, 40320]
def strI : List Nat := [82, 92, 94, 96, 100, 104, 108, 147]
def strT : List String := ["river", "bridge", "ferry", "end", "plan", "said", "day", "unless"]
def strN : List Nat := [5, 6, 5, 3, 4, 4, 3, 6]
def strB : List (List Int32) := [[114, 105, 118, 101, 114], [98, 114, 105, 100, 103, 101], [102, 101, 114, 114, 121], [101, 110, 100], [112, 108, 97, 110], [115, 97, 105, 100], [100, 97, 121], [117, 110, 108, 101, 115, 115]]
def Zs (ad : Nat → Nat) (A : Nat → Prop) (U : State) (H : Heap) : Prop :=
  va_Z "RiverSuit" "FACTORIALS" "[I" (.ref (ad 80)) A U H ∧ va_T .int (ad 80) 9 (fun j => .int (factL.getD j 0)) A U H ∧ va_Z "java/lang/String" "COMPACT_STRINGS" "Z" (.int 1) A U H ∧
  va_Zq "jdk/internal/util/Preconditions" "SIOOBE_FORMATTER" "Ljava/util/function/BiFunction;" A U H ∧ vk_S 8 strN strB (fun i => ad (81 + i)) (fun i => ad (90 + i)) A U H
theorem Zs.moved {ad : Nat → Nat} {A : Nat → Prop} {u U : State} {H : Heap} (hvm : u.vm.Alike U.vm) (h : Zs ad A u H) : Zs ad A U H := ⟨h.1.moved hvm, h.2.1.moved hvm, h.2.2.1.moved hvm, h.2.2.2.1.moved hvm, h.2.2.2.2.moved hvm⟩
theorem Zs.kept {ad : Nat → Nat} {A : Nat → Prop} {U : State} {H H1 : Heap} (h : Zs ad A U H) (hq : ∀ a : Nat, a < H.size → ¬ A a → H1[a]? = H[a]?) : Zs ad A U H1 := ⟨h.1.kept hq, h.2.1.kept hq, h.2.2.1.kept hq, h.2.2.2.1.kept hq, h.2.2.2.2.kept hq⟩
theorem Zs.narrow {ad : Nat → Nat} {A B : Nat → Prop} {U : State} {H : Heap} (h : Zs ad A U H) (hAB : ∀ q, B q → A q) : Zs ad B U H := ⟨h.1.narrow hAB, h.2.1.narrow hAB, h.2.2.1.narrow hAB, h.2.2.2.1.narrow hAB, h.2.2.2.2.narrow hAB⟩
def Ns (ad : Nat → Nat) (U : State) : Prop :=
  va_Nw (.methodLinkNest "RiverSuit$Sheet" 26 yX6_within "RiverSuit") U ∧ va_Nw (.methodLinkNest "RiverSuit$Tape" 160 yX6_within "RiverSuit") U ∧ ∀ i : Nat, i < 8 → vk_R "RiverSuit$Tape" (strI.getD i 0) (strT.getD i "") (ad (81 + i)) U
theorem Ns.warm {ad : Nat → Nat} {s U : State} (hW : s.WarmedH U.vm) (h : Ns ad s) : Ns ad U := ⟨h.1.warmM hW, h.2.1.warmM hW, fun i hi => (h.2.2 i hi).warm hW⟩
theorem Ns.same {ad : Nat → Nat} {u U : State} (hv : U.vm = u.vm) (h : Ns ad u) : Ns ad U := ⟨h.1.same rfl hv.symm, h.2.1.same rfl hv.symm, fun i hi => (h.2.2 i hi).same hv⟩
abbrev tysW (cy : Nat → ClassId) : List (ClassId × FieldType) := [(cy 0, .int), (cy 1, .boolean), (cy 2, .byte), (cy 3, .object "RiverSuit$Suit"), (cy 4, .object "RiverSuit$Sheet")]
/-- the world holds I, in state U -/
def WF (D : va_G) (ad : Nat → Nat) (cy : Nat → ClassId) (I : Wo) (U : State) : Prop :=
  Dj ad ∧ va_P D vwCl (Wd ad cy I) U.heap ∧ va_K D vwCl (tysW cy) U ∧ Zs ad (Aw ad) U U.heap ∧ Ns ad U
def Qg (post : Option Value → Wo → Prop) (D : va_G) (ad : Nat → Nat) (cy : Nat → ClassId) : Array Value → State → Outcome → State → Prop := fun _ st oc t =>
  (∃ (v : Option Value) (u : Wo), oc = .returned v ∧ post v u ∧ va_P D vwCl (Wd ad cy u) t.heap) ∧ va_F (Aw ad) st t
/-- a method's contract: from the world I with these arguments it returns, 'post' of its answer and the new world -/
def Ct (y : MethodName) (b : ByteArray) (nL : Nat) (ret : Option FieldType) (fr lo : Nat) (As : List Value) (I : Wo) (post : Option Value → Wo → Prop) : Prop :=
  ∀ (l : Launch) (D : va_G) (ad : Nat → Nat) (cy : Nat → ClassId), Met l y (.code y b nL ret :: lw_g) { frames := fr, cells := 0, slots := 0, locals := lo } (va_Pc (As.map (cv ad)) (WF D ad cy I)) (Qg post D ad cy) 0 0 (Aw ad)
theorem WF.blind {av : List Value} {D : va_G} {ad : Nat → Nat} {cy : Nat → ClassId} {I : Wo} : FrameBlind (va_Pc av (WF D ad cy I)) := by
  intro a U g mk q
  obtain ⟨h1, h2, h3, h4, h5, h6⟩ := q
  exact ⟨h1, h2, h3, va_K.moved (u := U) (U := U.calling g mk a) (Vm.Alike.refl U.vm) h4, Zs.moved (u := U) (U := U.calling g mk a) (Vm.Alike.refl U.vm) h5, Ns.same (u := U) (U := U.calling g mk a) rfl h6⟩
abbrev Cx := Program × Launch × Env × Room × State × MethodId × Array Value × List Frame × Method × Code × va_G × (Nat → Nat) × (Nat → ClassId) × (Nat → Prop) × (State → Prop) × Nat × Nat
/-- the locals that are known -/
def lo_has (ad : Nat → Nat) (la : Array Slot) (nL : Nat) (l : List (Option Value)) : Prop := la.size = nL ∧ lv_wf la ∧ ∀ (i : Nat) (v : Value), l[i]? = some (some v) → la[i]? = some (.val (cv ad v))
/-- the machine, at pc with these locals and this stack over the world I, comes to its end -/
def GW (X : Cx) (nL pc : Nat) (ls : List (Option Value)) (st : List Value) (I : Wo) : Prop := match X with
  | (p, l, e, R, s, m, args, below, meth, c, D, ad, cy, A, Q, kc, ks) => ∀ (la : Array Slot) (H : Heap) (locs : List Loc), lo_has ad la nL ls → va_P D vwCl (Wd ad cy I) H → va_S A s.heap H locs → W p l e R s m args below meth c H locs kc ks Q (F0 m pc la (st.map (cv ad)))
def Fx (X : Cx) (cc : ByteArray) (nL : Nat) (own : String) (fr lo : Nat) : Prop := match X with
  | (p, l, e, R, s, m, args, below, meth, c, D, ad, cy, A, Q, kc, ks) => CallFix p m c cc nL s args lw_g own ∧ Dj ad ∧ (∀ k : Nat, k < 73 → A (ad k)) ∧ va_K D vwCl (tysW cy) s ∧ Zs ad A s s.heap ∧ Ns ad s ∧ fr ≤ R.frames ∧ lo ≤ R.locals ∧ kc ≤ R.cells ∧ ks ≤ R.slots
def Rx (X : Cx) (ret : Option FieldType) (post : Option Value → Wo → Prop) : Prop := match X with
  | (p, l, e, R, s, m, args, below, meth, c, D, ad, cy, A, Q, kc, ks) => meth.sig.returnType = ret ∧ meth.locks = false ∧ A = Aw ad ∧ Q = MQ below (Qg post D ad cy) args s kc ks (Aw ad)
/-! the locals -/
def lpairs (ad : Nat → Nat) (l : List (Option Value)) : List (Nat × Value) := (List.range l.length).filterMap (fun j => (l[j]?).bind (fun o => o.map (fun w => (j, cv ad w))))
theorem lpairs_mem {ad : Nat → Nat} {l : List (Option Value)} {q : Nat × Value} : q ∈ lpairs ad l ↔ ∃ w, l[q.1]? = some (some w) ∧ q.2 = cv ad w := by
  simp only [lpairs, List.mem_filterMap, List.mem_range]
  constructor
  · rintro ⟨j, hj, h⟩
    cases ho : l[j]? with
    | none => simp [ho] at h
    | some o => cases o with
      | none => simp [ho] at h
      | some w => simp [ho] at h; subst h; exact ⟨w, ho, rfl⟩
  · rintro ⟨w, h1, h2⟩
    refine ⟨q.1, (List.getElem?_eq_some_iff.mp h1).1, ?_⟩
    obtain ⟨a, b⟩ := q
    simp only at h1 h2
    simp [h1, h2]
theorem lo_lv {ad : Nat → Nat} {la : Array Slot} {nL : Nat} {l : List (Option Value)} (h : lo_has ad la nL l) : lv_has la nL (lpairs ad l) := by
  refine ⟨h.1, h.2.1, fun q hq => ?_⟩
  obtain ⟨w, h1, h2⟩ := lpairs_mem.mp hq
  rw [h.2.2 _ _ h1, h2]
/-- no long stands just below place i -/
def lfree (l : List (Option Value)) (i : Nat) : Bool := match i with
  | 0 => true
  | j + 1 => match l[j]? with
    | some (some v) => v.category == 1
    | _ => true
theorem lfree_not {l : List (Option Value)} {i j : Nat} {w : Value} (h : lfree l i = true) (hj : j + 1 = i) (hw : l[j]? = some (some w)) : ¬ w.category = 2 := by
  subst hj
  simp [lfree, hw] at h
  omega
theorem lo_store1 {ad : Nat → Nat} {la : Array Slot} {nL i : Nat} {l : List (Option Value)} {v : Value} (h : lo_has ad la nL l) (hn : i < nL) (hf : lfree l i = true) {la' : Array Slot}
    (h' : lv_has la' nL ((i, cv ad v) :: (lpairs ad l).filter (fun q => !(q.1 == i) && !(q.1 + 1 == i && q.2.category == 2)))) : lo_has ad la' nL (l.set i (some v)) := by
  refine ⟨h'.1, h'.2.1, fun j w hj => ?_⟩
  by_cases e : i = j
  · subst e
    have hl := (List.getElem?_eq_some_iff.mp hj).1
    rw [List.getElem?_set_self (by simpa using hl)] at hj
    cases hj
    exact h'.2.2 (i, cv ad v) List.mem_cons_self
  · rw [List.getElem?_set_ne e] at hj
    refine h'.2.2 (j, cv ad w) (List.mem_cons_of_mem _ (List.mem_filter.mpr ⟨lpairs_mem.mpr ⟨w, hj, rfl⟩, ?_⟩))
    simp only [Bool.and_eq_true, Bool.not_eq_true', beq_eq_false_iff_ne, ne_eq, Bool.and_eq_false_iff]
    refine ⟨fun z => e z.symm, ?_⟩
    by_cases e2 : j + 1 = i
    · right; rw [cv_cat]; exact lfree_not hf e2 hj
    · left; exact e2
theorem lo_store2 {ad : Nat → Nat} {la : Array Slot} {nL i : Nat} {l : List (Option Value)} {v : Value} (h : lo_has ad la nL l) (hn : i + 1 < nL) (hf : lfree l i = true) {la' : Array Slot}
    (h' : lv_has la' nL ((i, cv ad v) :: (lpairs ad l).filter (fun q => !(q.1 == i) && (!(q.1 == i + 1) && !(q.1 + 1 == i && q.2.category == 2))))) : lo_has ad la' nL ((l.set i (some v)).set (i + 1) none) := by
  refine ⟨h'.1, h'.2.1, fun j w hj => ?_⟩
  by_cases e1 : i + 1 = j
  · subst e1
    have hl := (List.getElem?_eq_some_iff.mp hj).1
    rw [List.getElem?_set_self (by simpa using hl)] at hj
    cases hj
  · rw [List.getElem?_set_ne e1] at hj
    by_cases e : i = j
    · subst e
      have hl := (List.getElem?_eq_some_iff.mp hj).1
      rw [List.getElem?_set_self (by simpa using hl)] at hj
      cases hj
      exact h'.2.2 (i, cv ad v) List.mem_cons_self
    · rw [List.getElem?_set_ne e] at hj
      refine h'.2.2 (j, cv ad w) (List.mem_cons_of_mem _ (List.mem_filter.mpr ⟨lpairs_mem.mpr ⟨w, hj, rfl⟩, ?_⟩))
      simp only [Bool.and_eq_true, Bool.not_eq_true', beq_eq_false_iff_ne, ne_eq, Bool.and_eq_false_iff]
      refine ⟨fun z => e z.symm, fun z => e1 z.symm, ?_⟩
      by_cases e2 : j + 1 = i
      · right; rw [cv_cat]; exact lfree_not hf e2 hj
      · left; exact e2
def lsl : List Value → List (Option Value)
  | [] => []
  | v :: vs => if v.category = 2 then some v :: none :: lsl vs else some v :: lsl vs
theorem lsl_len (ad : Nat → Nat) (vs : List Value) : (lg_sl (vs.map (cv ad))).length = (lsl vs).length := by
  induction vs with
  | nil => rfl
  | cons v vs ih =>
    have e : lg_sl ((v :: vs).map (cv ad)) = (if v.category = 2 then [Slot.val (cv ad v), .second] else [.val (cv ad v)]) ++ lg_sl (vs.map (cv ad)) := by simp [lg_sl, cv_cat]
    rw [e]
    by_cases h : v.category = 2 <;> simp [lsl, h, ih] <;> omega
theorem lsl_args (ad : Nat → Nat) (vs : List Value) : ∀ (k i : Nat) (w : Value), (lsl vs)[i]? = some (some w) → (k + i, cv ad w) ∈ lv_args k (vs.map (cv ad)) := by
  induction vs with
  | nil => intro k i w h; simp [lsl] at h
  | cons v vs ih =>
    intro k i w h
    simp only [List.map_cons, lv_args, cv_cat]
    by_cases hc : v.category = 2
    · simp only [lsl, hc, if_true] at h ⊢
      match i, h with
      | 0, h => simp at h; subst h; exact List.mem_cons_self
      | 1, h => simp at h
      | i + 2, h =>
        have := ih (k + 2) i w (by simpa using h)
        rw [show k + (i + 2) = k + 2 + i by omega]
        exact List.mem_cons_of_mem _ this
    · simp only [lsl, hc, if_false] at h ⊢
      match i, h with
      | 0, h => simp at h; subst h; exact List.mem_cons_self
      | i + 1, h =>
        have := ih (k + 1) i w (by simpa using h)
        rw [show k + (i + 1) = k + 1 + i by omega]
        exact List.mem_cons_of_mem _ this
def lini (As : List Value) (nL : Nat) : List (Option Value) := lsl As ++ List.replicate (nL - (lsl As).length) none
theorem lini_has (ad : Nat → Nat) {As : List Value} {nL : Nat} (h : (lsl As).length ≤ nL) : lo_has ad ((lg_sl (As.map (cv ad)) ++ List.replicate (nL - (lg_sl (As.map (cv ad))).length) Slot.unset).toArray) nL (lini As nL) := by
  have hl := lv_entry (As.map (cv ad)) (n := nL) (by rw [lsl_len]; exact h)
  refine ⟨hl.1, hl.2.1, fun i v hi => ?_⟩
  rcases Nat.lt_or_ge i (lsl As).length with q | q
  · rw [lini, List.getElem?_append_left q] at hi
    have := hl.2.2 _ (lsl_args ad As 0 i v hi)
    simpa using this
  · rw [lini, List.getElem?_append_right q] at hi
    have := List.mem_of_getElem? hi
    simp at this
/-- a method out of its walk -/
theorem ct_of {y : MethodName} {b : ByteArray} {nL : Nat} {ret : Option FieldType} {fr lo : Nat} {As : List Value} {I : Wo} {post : Option Value → Wo → Prop} (own : String) (hown : y.cls = own) (hy : plainName y.cls = true) (hlen : (lsl As).length ≤ nL)
    (h : ∀ X : Cx, Fx X b nL own fr lo → Rx X ret post → GW X nL 0 (lini As nL) [] I) : Ct y b nL ret fr lo As I post := by
  intro l D ad cy
  refine Met.ofW (cc := b) (maxL := nL) (ret := ret) hy rfl ?_
  intro p e s m args below meth c s₁ B hml hv
  obtain ⟨rfl, hj, hP, hK, hZ, hN⟩ := hv
  have hts := atoms_spec (ws := .code y b nL ret :: lw_g) B.pre
  have hown' : s.vm.findClass own = some m.cls := hown ▸ findClass_of_methodNamed B.named
  rw [lg_entry_eq]
  exact h (p, l, e, _, s, m, _, below, meth, c, D, ad, cy, Aw ad, _, 0, 0)
    ⟨⟨B.exec, B.bytes, hml, hown', fun w hw => hts w (List.mem_cons_of_mem _ hw)⟩, hj, fun k hk => ⟨k, hk, rfl⟩, hK, hZ, hN, Nat.le_refl _, Nat.le_refl _, Nat.zero_le _, Nat.zero_le _⟩
    ⟨B.returns, B.notSynchronized, rfl, rfl⟩ _ _ _ (lini_has ad hlen) hP va_S.rf

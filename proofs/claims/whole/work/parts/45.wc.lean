/-! RiverSuit(): the class's 57 cells -/
def sI : Nat → Int32 := fun j => if j = 10 then -4 else 0
def hI : Nat → Int32 := fun j => if j = 2 then -1 else 0
def I0 : Wo := fun k => if k = 1 then sI else if k = 10 then sI else if k = 20 then sI else if k = 29 then sI else if k = 42 then hI else if k = 44 then hI else if k = 46 then hI else if k = 48 then hI else fun _ => 0
def Wc (ad : Nat → Nat) (cy : Nat → ClassId) (I : Wo) : va_W := (shL.take 57).zipIdx.map (fun q => (ad q.2, cellOf ad cy (I q.2) q.1))
def adL (l : List Nat) : Nat → Nat := fun k => l.getD k 0
def Nk (U : State) : Prop := va_Nw (.methodLinkNest RX6 9 yX3_init "RiverSuit") U ∧ va_Nw (.methodLinkNest RX6 29 yX4_init "RiverSuit") U ∧ va_Nw (.methodLinkNest RX6 40 yX2_init "RiverSuit") U ∧ va_Nw (.methodLinkNest RX6 43 yX5_init "RiverSuit") U ∧ va_Nw (.methodLinkNest RX6 50 yX0_init "RiverSuit") U ∧ va_Nw (.methodLinkNest RX6 57 yX1_init "RiverSuit") U ∧ va_AO RX3 U ∧ va_AO RX2 U
theorem Nk.warm {s U : State} (hW : s.WarmedH U.vm) (h : Nk s) : Nk U := ⟨h.1.warmM hW, h.2.1.warmM hW, h.2.2.1.warmM hW, h.2.2.2.1.warmM hW, h.2.2.2.2.1.warmM hW, h.2.2.2.2.2.1.warmM hW, va_AO.moved hW.alike h.2.2.2.2.2.2.1, va_AO.moved hW.alike h.2.2.2.2.2.2.2⟩
theorem Nk.same {u U : State} (hv : U.vm = u.vm) (h : Nk u) : Nk U := ⟨h.1.same rfl hv.symm, h.2.1.same rfl hv.symm, h.2.2.1.same rfl hv.symm, h.2.2.2.1.same rfl hv.symm, h.2.2.2.2.1.same rfl hv.symm, h.2.2.2.2.2.1.same rfl hv.symm, va_AO.moved (by rw [hv]; exact Vm.Alike.refl u.vm) h.2.2.2.2.2.2.1, va_AO.moved (by rw [hv]; exact Vm.Alike.refl u.vm) h.2.2.2.2.2.2.2⟩
theorem k_refs {A : Nat → Prop} {D : va_G} {cl : List vw_C} {ws : va_W} {H : Heap} {a n : Nat} {cA : ClassId} {f : Nat → Option Nat} (g : Nat → Option Nat) (hP : va_P D cl ws H) (hD : va_D A ws) (q0 : Nat) (ha : ws[q0]? = some (a, .inl (cA, n, .inr (.inr (.inr (.inr f)))))) (hfg : ∀ j, j < n → f j = g j) : va_P D cl (ws.set q0 (a, .inl (cA, n, .inr (.inr (.inr (.inr g)))))) H ∧ va_D A (ws.set q0 (a, .inl (cA, n, .inr (.inr (.inr (.inr g)))))) := by
  refine ⟨hP.set hD ha ?_ (fun _ _ => rfl), hD.set ha⟩
  have h := hP q0 _ ha
  have e9 : vp_cell cA (n, .inr (.inr (.inr (.inr f)))) = vp_cell cA (n, .inr (.inr (.inr (.inr g)))) := by
    rw [vp_cell_q, vp_cell_q]
    unfold arrV
    have e8 : (fun j : Fin n => va_rf (f j.val)) = (fun j : Fin n => va_rf (g j.val)) := funext fun j => by rw [hfg j.val j.isLt]
    rw [e8]
  show H[a]? = some (vp_cell cA (n, .inr (.inr (.inr (.inr g)))))
  rw [← e9]
  exact h
set_option maxHeartbeats 40000000 in
set_option maxRecDepth 100000 in
theorem Wc_eq0 (ad : Nat → Nat) (cy : Nat → ClassId) : Wc ad cy I0 = ((ad 0, .inr (6, [.ref (ad 1), .ref (ad 10), .ref (ad 19), .ref (ad 38), .ref (ad 39), .ref (ad 41), .ref (ad 50), .ref (ad 51), .ref (ad 53), .ref (ad 56), .int 0, .int 0])) :: (((((((((((((((suW cy (ad 1) (fun j => ad (2 + j)) ++ suW cy (ad 10) (fun j => ad (11 + j))) ++ [(ad 19, .inl (cy 3, 2, .inr (.inr (.inr (.inr (fun j => some (ad ([20, 29].getD j 0))))))))]) ++ suW cy (ad 20) (fun j => ad (21 + j))) ++ suW cy (ad 29) (fun j => ad (30 + j))) ++ [(ad 38, .inl (cy 1, 2, .inl (fun _ => 0)))]) ++ taW cy (ad 39) (fun j => ad (40 + j))) ++ [(ad 41, .inl (cy 4, 4, .inr (.inr (.inr (.inr (fun j => some (ad ([42, 44, 46, 48].getD j 0))))))))]) ++ shW cy (ad 42) (fun j => ad (43 + j))) ++ shW cy (ad 44) (fun j => ad (45 + j))) ++ shW cy (ad 46) (fun j => ad (47 + j))) ++ shW cy (ad 48) (fun j => ad (49 + j))) ++ trW cy (ad 50) (fun j => ad (51 + j))) ++ gaW cy (ad 51) (fun j => ad (52 + j))) ++ laW cy (ad 53) (fun j => ad (54 + j))) ++ [(ad 56, .inl (cy 0, 8, .inl (fun _ => 0)))])) := by
  rfl
def im3 (h a b : Nat) : Nat → Option Nat := fun j => some (if j = 0 then a else if j = 1 then b else h)
def im4 (h a b c d : Nat) : Nat → Option Nat := fun j => some (if j = 0 then a else if j = 1 then b else if j = 2 then c else if j = 3 then d else h)
theorem im3_eq (ad : Nat → Nat) : (fun j => some (ad ([20, 29].getD j 0))) = im3 (ad 0) (ad 20) (ad 29) := by
  funext j
  match j with
  | 0 => rfl
  | 1 => rfl
  | j + 2 => simp [im3]
theorem im4_eq (ad : Nat → Nat) : (fun j => some (ad ([42, 44, 46, 48].getD j 0))) = im4 (ad 0) (ad 42) (ad 44) (ad 46) (ad 48) := by
  funext j
  match j with
  | 0 => rfl
  | 1 => rfl
  | 2 => rfl
  | 3 => rfl
  | j + 4 => simp [im4]
theorem Wc_eq (ad : Nat → Nat) (cy : Nat → ClassId) : Wc ad cy I0 = ((ad 0, .inr (6, [.ref (ad 1), .ref (ad 10), .ref (ad 19), .ref (ad 38), .ref (ad 39), .ref (ad 41), .ref (ad 50), .ref (ad 51), .ref (ad 53), .ref (ad 56), .int 0, .int 0])) :: (((((((((((((((suW cy (ad 1) (fun j => ad (2 + j)) ++ suW cy (ad 10) (fun j => ad (11 + j))) ++ [(ad 19, .inl (cy 3, 2, .inr (.inr (.inr (.inr (im3 (ad 0) (ad 20) (ad 29)))))))]) ++ suW cy (ad 20) (fun j => ad (21 + j))) ++ suW cy (ad 29) (fun j => ad (30 + j))) ++ [(ad 38, .inl (cy 1, 2, .inl (fun _ => 0)))]) ++ taW cy (ad 39) (fun j => ad (40 + j))) ++ [(ad 41, .inl (cy 4, 4, .inr (.inr (.inr (.inr (im4 (ad 0) (ad 42) (ad 44) (ad 46) (ad 48)))))))]) ++ shW cy (ad 42) (fun j => ad (43 + j))) ++ shW cy (ad 44) (fun j => ad (45 + j))) ++ shW cy (ad 46) (fun j => ad (47 + j))) ++ shW cy (ad 48) (fun j => ad (49 + j))) ++ trW cy (ad 50) (fun j => ad (51 + j))) ++ gaW cy (ad 51) (fun j => ad (52 + j))) ++ laW cy (ad 53) (fun j => ad (54 + j))) ++ [(ad 56, .inl (cy 0, 8, .inl (fun _ => 0)))])) := by
  rw [Wc_eq0, im3_eq, im4_eq]
theorem trW_c {cy : Nat → ClassId} {h : Nat} {r r' : Nat → Nat} : trW cy h r = trW cy h r' := rfl
theorem gaW_c {cy : Nat → ClassId} {h : Nat} {r r' : Nat → Nat} (e : ∀ j, j < 1 → r j = r' j) : gaW cy h r = gaW cy h r' := by
  simp only [gaW, e 0 (by decide)]
theorem laW_c {cy : Nat → ClassId} {h : Nat} {r r' : Nat → Nat} (e : ∀ j, j < 2 → r j = r' j) : laW cy h r = laW cy h r' := by
  simp only [laW, e 0 (by decide), e 1 (by decide)]
theorem shW_c {cy : Nat → ClassId} {h : Nat} {r r' : Nat → Nat} (e : ∀ j, j < 1 → r j = r' j) : shW cy h r = shW cy h r' := by
  simp only [shW, e 0 (by decide)]
theorem taW_c {cy : Nat → ClassId} {h : Nat} {r r' : Nat → Nat} (e : ∀ j, j < 1 → r j = r' j) : taW cy h r = taW cy h r' := by
  simp only [taW, e 0 (by decide)]
theorem suW_c {cy : Nat → ClassId} {h : Nat} {r r' : Nat → Nat} (e : ∀ j, j < 8 → r j = r' j) : suW cy h r = suW cy h r' := by
  simp only [suW, e 0 (by decide), e 1 (by decide), e 2 (by decide), e 3 (by decide), e 4 (by decide), e 5 (by decide), e 6 (by decide), e 7 (by decide)]

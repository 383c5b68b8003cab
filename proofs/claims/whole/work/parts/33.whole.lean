def FrD (I u : Wo) : Prop := ∀ x y, (x = 57 → ¬ y = 7 ∧ ¬ y = 12 ∧ (y < 15 ∨ 20 < y)) → (x < 63 ∨ 66 < x) → u x y = I x y
theorem frD_0 {I : Wo} : FrD I I := fun _ _ _ _ => rfl
theorem FrD.trans {I u v : Wo} (h1 : FrD I u) (h2 : FrD u v) : FrD I v := fun x y a b => (h2 x y a b).trans (h1 x y a b)
theorem FrN.d {I u : Wo} (h : FrN I u) : FrD I u := fun x y a _ => h x y (fun e => (a e).2.2)
theorem FrH.d {I u : Wo} (h : FrH I u) : FrD I u := fun x y a _ => h x y (fun e => ⟨(a e).2.1, (a e).2.2⟩)
theorem frD_w2 {I u : Wo} {k j : Nat} {v : Int32} (hk : (63 ≤ k ∧ k ≤ 66) ∨ (k = 57 ∧ (j = 7 ∨ j = 12 ∨ (15 ≤ j ∧ j ≤ 20)))) (h : FrD I u) : FrD I (w2 u k j v) := by
  intro x y a b
  rw [show w2 u k j v x y = u x y from if_neg (fun ⟨z1, z2⟩ => by
    subst z1; subst z2
    rcases hk with z | z
    · omega
    · have := a z.1; omega)]
  exact h x y a b
theorem MB.frD {I u : Wo} {b : Nat → Nat} {q : Nat} (h : MB I b q) (hF : FrD I u) : MB u b q :=
  ⟨fun i hi => by rw [hF 67 i (fun e => absurd e (by decide)) (by decide)]; exact h.1 i hi, by rw [hF 57 14 (fun _ => by decide) (by decide)]; exact h.2.1, h.2.2⟩
def hiB (D : Wo) (m k : Nat) : Prop := cOK (2 ^ k) (D 10 12) = true ∧ (D 39 8 = 0 ∨ cOK k (D 10 10) = true) ∧ ∀ i, i < m → cOK k (D 17 i) = true
/-- the reference's draft is D -/
def MDn (u D : Wo) (n m : Nat) : Prop :=
  (D 10 9 = nI n) ∧
  (D 10 13 = nI m) ∧
  (n < 2 ^ 31) ∧
  (m < 2 ^ 31) ∧
  (u 57 7 = nI n) ∧
  (∀ c, c < n → u 64 c = D 11 c ∧ u 65 c = D 12 c ∧ u 66 c = D 13 c ∧ u 63 c = D 15 c ∧ u 63 (8 + c) = D 16 c ∧ u 63 (16 + c) = D 14 c) ∧
  (u 63 24 = D 10 12) ∧
  (u 63 25 = D 10 10) ∧
  (u 63 26 = D 10 11) ∧
  (u 63 27 = nI m) ∧
  (∀ i, i < m → u 63 (28 + i) = D 17 i) ∧
  (u 63 34 = 0) ∧
  (∀ k, k ≤ 8 → (u 57 12 < nI k ↔ hiB D m k))
theorem MDn.d9 {u D : Wo} {n m : Nat} (h : MDn u D n m) : D 10 9 = nI n := h.1
theorem MDn.d13 {u D : Wo} {n m : Nat} (h : MDn u D n m) : D 10 13 = nI m := h.2.1
theorem MDn.bn {u D : Wo} {n m : Nat} (h : MDn u D n m) : n < 2 ^ 31 := h.2.2.1
theorem MDn.bm {u D : Wo} {n m : Nat} (h : MDn u D n m) : m < 2 ^ 31 := h.2.2.2.1
theorem MDn.c7 {u D : Wo} {n m : Nat} (h : MDn u D n m) : u 57 7 = nI n := h.2.2.2.2.1
theorem MDn.cl {u D : Wo} {n m : Nat} (h : MDn u D n m) : ∀ c, c < n → u 64 c = D 11 c ∧ u 65 c = D 12 c ∧ u 66 c = D 13 c ∧ u 63 c = D 15 c ∧ u 63 (8 + c) = D 16 c ∧ u 63 (16 + c) = D 14 c := h.2.2.2.2.2.1
theorem MDn.sa {u D : Wo} {n m : Nat} (h : MDn u D n m) : u 63 24 = D 10 12 := h.2.2.2.2.2.2.1
theorem MDn.en {u D : Wo} {n m : Nat} (h : MDn u D n m) : u 63 25 = D 10 10 := h.2.2.2.2.2.2.2.1
theorem MDn.dy {u D : Wo} {n m : Nat} (h : MDn u D n m) : u 63 26 = D 10 11 := h.2.2.2.2.2.2.2.2.1
theorem MDn.pm {u D : Wo} {n m : Nat} (h : MDn u D n m) : u 63 27 = nI m := h.2.2.2.2.2.2.2.2.2.1
theorem MDn.pl {u D : Wo} {n m : Nat} (h : MDn u D n m) : ∀ i, i < m → u 63 (28 + i) = D 17 i := h.2.2.2.2.2.2.2.2.2.2.1
theorem MDn.se {u D : Wo} {n m : Nat} (h : MDn u D n m) : u 63 34 = 0 := h.2.2.2.2.2.2.2.2.2.2.2.1
theorem MDn.hi {u D : Wo} {n m : Nat} (h : MDn u D n m) : ∀ k, k ≤ 8 → (u 57 12 < nI k ↔ hiB D m k) := h.2.2.2.2.2.2.2.2.2.2.2.2
theorem MDn.fr {I u D : Wo} {n m : Nat} (h : MDn I D n m) (h7 : u 57 7 = I 57 7) (h12 : u 57 12 = I 57 12) (hc : ∀ x y, 63 ≤ x → x ≤ 66 → u x y = I x y) : MDn u D n m := by
  refine ⟨h.d9, h.d13, h.bn, h.bm, h7.trans h.c7, fun c hcn => ?_, ?_, ?_, ?_, ?_, fun i hi => ?_, ?_, fun k hk => ?_⟩
  · rw [hc 64 c (by decide) (by decide), hc 65 c (by decide) (by decide), hc 66 c (by decide) (by decide), hc 63 c (by decide) (by decide), hc 63 _ (by decide) (by decide), hc 63 _ (by decide) (by decide)]; exact h.cl c hcn
  · rw [hc 63 _ (by decide) (by decide)]; exact h.sa
  · rw [hc 63 _ (by decide) (by decide)]; exact h.en
  · rw [hc 63 _ (by decide) (by decide)]; exact h.dy
  · rw [hc 63 _ (by decide) (by decide)]; exact h.pm
  · rw [hc 63 _ (by decide) (by decide)]; exact h.pl i hi
  · rw [hc 63 _ (by decide) (by decide)]; exact h.se
  · rw [h12]; exact h.hi k hk
theorem MDn.frN {I u D : Wo} {n m : Nat} (h : MDn I D n m) (hF : FrN I u) : MDn u D n m :=
  h.fr (hF 57 7 (fun _ => by decide)) (hF 57 12 (fun _ => by decide)) (fun x y a b => hF x y (fun e => by omega))
def bW (b : Nat → Nat) (q : Nat) (sd : Int32) (n p : Nat) (D : Wo) : Except (Nat × Nat) (Nat × Wo) := match rdN b q p 0 9 with
  | .error e => .error e
  | .ok f => match rdN b q (tE b q p) (nI f) 9 with
    | .error e => .error e
    | .ok t => match rdN b q (tE b q (tE b q p)) 0 9 with
      | .error e => .error e
      | .ok y => gr b q n 161 (tE b q (tE b q (tE b q p))) false (cD sd n f t y D)
/-- while a claim is read: what was told before stands, and its numbers -/
def KW (I W : Wo) (n : Nat) (sd : Int32) (f t y : Nat) : Prop := FrD I W ∧ ((∀ c, c < n → W 64 c = I 64 c ∧ W 65 c = I 65 c ∧ W 66 c = I 66 c ∧ W 63 c = I 63 c ∧ W 63 (8 + c) = I 63 (8 + c) ∧ W 63 (16 + c) = I 63 (16 + c)) ∧ (∀ j, 24 ≤ j → W 63 j = I 63 j) ∧ W 57 7 = I 57 7 ∧ W 57 12 = I 57 12) ∧ W 64 n = sd ∧ W 65 n = nI f ∧ W 66 n = nI t ∧ W 63 (16 + n) = nI y
theorem KW.c7 {I W : Wo} {n : Nat} {sd : Int32} {f t y : Nat} (h : KW I W n sd f t y) : W 57 7 = I 57 7 := h.2.1.2.2.1
theorem KW.frN {I W u : Wo} {n : Nat} {sd : Int32} {f t y : Nat} (h : KW I W n sd f t y) (hF : FrN W u) : KW I u n sd f t y := by
  have hc : ∀ x z, 63 ≤ x → x ≤ 66 → u x z = W x z := fun x z a b => hF x z (fun e => by omega)
  obtain ⟨a1, ⟨a2, a3, a4, a5⟩, a6, a7, a8, a9⟩ := h
  refine ⟨a1.trans hF.d, ⟨fun c hcn => ?_, fun j hj => ?_, ?_, ?_⟩, ?_, ?_, ?_, ?_⟩
  · rw [hc 64 c (by decide) (by decide), hc 65 c (by decide) (by decide), hc 66 c (by decide) (by decide), hc 63 c (by decide) (by decide), hc 63 _ (by decide) (by decide), hc 63 _ (by decide) (by decide)]; exact a2 c hcn
  · rw [hc 63 _ (by decide) (by decide)]; exact a3 j hj
  · rw [hF 57 7 (fun _ => by decide)]; exact a4
  · rw [hF 57 12 (fun _ => by decide)]; exact a5
  · rw [hc 64 _ (by decide) (by decide)]; exact a6
  · rw [hc 65 _ (by decide) (by decide)]; exact a7
  · rw [hc 66 _ (by decide) (by decide)]; exact a8
  · rw [hc 63 _ (by decide) (by decide)]; exact a9
theorem KW.w63 {I W : Wo} {n : Nat} {sd : Int32} {f t y : Nat} {S : Int32} (hn : n < 8) (h : KW I W n sd f t y) : KW I (w2 W 63 n S) n sd f t y := by
  obtain ⟨a1, ⟨a2, a3, a4, a5⟩, a6, a7, a8, a9⟩ := h
  refine ⟨frD_w2 (by omega) a1, ⟨fun c hcn => ?_, fun j hj => ?_, a4, a5⟩, a6, a7, a8, ?_⟩
  · rw [w2_cell _ _ (show 64 ≠ 63 by decide), w2_cell _ _ (show 65 ≠ 63 by decide), w2_cell _ _ (show 66 ≠ 63 by decide), w2_slot _ _ (show c ≠ n by omega), w2_slot _ _ (show 8 + c ≠ n by omega), w2_slot _ _ (show 16 + c ≠ n by omega)]; exact a2 c hcn
  · rw [w2_slot _ _ (show j ≠ n by omega)]; exact a3 j hj
  · rw [w2_slot _ _ (show 16 + n ≠ n by omega)]; exact a9
theorem kw_0 {I u1 u2 u3 : Wo} {n v1 v2 v3 : Nat} {sd : Int32} (hn : n < 8) (hF1 : FrN (w2 I 64 n sd) u1) (hF2 : FrN (w2 u1 65 n (nI v1)) u2) (hF3 : FrN (w2 u2 66 n (nI v2)) u3) : KW I (w2 u3 63 (16 + n) (nI v3)) n sd v1 v2 v3 := by
  have c1 : ∀ x z, 63 ≤ x → x ≤ 66 → u1 x z = w2 I 64 n sd x z := fun x z a b => hF1 x z (fun e => by omega)
  have c2 : ∀ x z, 63 ≤ x → x ≤ 66 → u2 x z = w2 u1 65 n (nI v1) x z := fun x z a b => hF2 x z (fun e => by omega)
  have c3 : ∀ x z, 63 ≤ x → x ≤ 66 → u3 x z = w2 u2 66 n (nI v2) x z := fun x z a b => hF3 x z (fun e => by omega)
  have k64 : ∀ z, u3 64 z = w2 I 64 n sd 64 z := fun z => by rw [c3 64 z (by decide) (by decide), w2_cell _ _ (by decide), c2 64 z (by decide) (by decide), w2_cell _ _ (by decide), c1 64 z (by decide) (by decide)]
  have k65 : ∀ z, u3 65 z = w2 u1 65 n (nI v1) 65 z := fun z => by rw [c3 65 z (by decide) (by decide), w2_cell _ _ (by decide), c2 65 z (by decide) (by decide)]
  have k65b : ∀ z, u1 65 z = I 65 z := fun z => by rw [c1 65 z (by decide) (by decide), w2_cell _ _ (by decide)]
  have k66 : ∀ z, u3 66 z = w2 u2 66 n (nI v2) 66 z := fun z => c3 66 z (by decide) (by decide)
  have k66b : ∀ z, u2 66 z = I 66 z := fun z => by rw [c2 66 z (by decide) (by decide), w2_cell _ _ (by decide), c1 66 z (by decide) (by decide), w2_cell _ _ (by decide)]
  have k63 : ∀ z, u3 63 z = I 63 z := fun z => by rw [c3 63 z (by decide) (by decide), w2_cell _ _ (by decide), c2 63 z (by decide) (by decide), w2_cell _ _ (by decide), c1 63 z (by decide) (by decide), w2_cell _ _ (by decide)]
  refine ⟨frD_w2 (by omega) ((frD_w2 (by omega) ((frD_w2 (by omega) ((frD_w2 (by omega) frD_0).trans hF1.d)).trans hF2.d)).trans hF3.d), ⟨fun c hcn => ⟨?_, ?_, ?_, ?_, ?_, ?_⟩, fun j hj => ?_, ?_, ?_⟩, ?_, ?_, ?_, ?_⟩
  · rw [w2_cell _ _ (by decide), k64, w2_slot _ _ (by omega)]
  · rw [w2_cell _ _ (by decide), k65, w2_slot _ _ (by omega), k65b]
  · rw [w2_cell _ _ (by decide), k66, w2_slot _ _ (by omega), k66b]
  · rw [w2_slot _ _ (by omega), k63]
  · rw [w2_slot _ _ (by omega), k63]
  · rw [w2_slot _ _ (by omega), k63]
  · rw [w2_slot _ _ (by omega), k63]
  · rw [w2_cell _ _ (by decide), hF3 57 7 (fun _ => by decide), w2_cell _ _ (by decide), hF2 57 7 (fun _ => by decide), w2_cell _ _ (by decide), hF1 57 7 (fun _ => by decide), w2_cell _ _ (by decide)]
  · rw [w2_cell _ _ (by decide), hF3 57 12 (fun _ => by decide), w2_cell _ _ (by decide), hF2 57 12 (fun _ => by decide), w2_cell _ _ (by decide), hF1 57 12 (fun _ => by decide), w2_cell _ _ (by decide)]
  · rw [w2_cell _ _ (by decide), k64, w2_same]
  · rw [w2_cell _ _ (by decide), k65, w2_same]
  · rw [w2_cell _ _ (by decide), k66, w2_same]
  · rw [w2_same]
theorem md_new {I W D : Wo} {n m f t y : Nat} {sd L F : Int32} (hn : n < 8) (h : KW I W n sd f t y) (hMD : MDn I D n m) (hL : W 63 n = L) : MDn (w2 (w2 W 63 (8 + n) F) 57 7 (nI (n + 1))) (w2 (w2 (cD sd n f t y D) 15 n L) 16 n F) (n + 1) m := by
  obtain ⟨a1, ⟨a2, a3, a4, a5⟩, a6, a7, a8, a9⟩ := h
  have kk : ∀ x z, x ≠ 57 → w2 (w2 W 63 (8 + n) F) 57 7 (nI (n + 1)) x z = w2 W 63 (8 + n) F x z := fun x z a => w2_cell _ _ a
  refine ⟨rfl, hMD.d13, by omega, hMD.bm, rfl, fun c hcn => ?_, ?_, ?_, ?_, ?_, fun i hi => ?_, ?_, fun k hk => ?_⟩
  · rw [kk 64 c (by decide), kk 65 c (by decide), kk 66 c (by decide), kk 63 c (by decide), kk 63 _ (by decide), kk 63 _ (by decide), w2_cell _ _ (show 64 ≠ 63 by decide), w2_cell _ _ (show 65 ≠ 63 by decide), w2_cell _ _ (show 66 ≠ 63 by decide), w2_slot _ _ (show c ≠ 8 + n by omega), w2_slot _ _ (show 16 + c ≠ 8 + n by omega)]
    by_cases e : c = n
    · subst e
      rw [w2_same, hL, a6, a7, a8, a9]
      simp [cD, w2]
    · rw [w2_slot _ _ (show 8 + c ≠ 8 + n by omega)]
      obtain ⟨b1, b2, b3, b4, b5, b6⟩ := a2 c (by omega)
      rw [b1, b2, b3, b4, b5, b6]
      have := hMD.cl c (by omega)
      simp only [cD, w2]
      simpa [e] using this
  · rw [kk 63 _ (by decide), w2_slot _ _ (by omega), a3 24 (by decide)]; exact hMD.sa
  · rw [kk 63 _ (by decide), w2_slot _ _ (by omega), a3 25 (by decide)]; exact hMD.en
  · rw [kk 63 _ (by decide), w2_slot _ _ (by omega), a3 26 (by decide)]; exact hMD.dy
  · rw [kk 63 _ (by decide), w2_slot _ _ (by omega), a3 27 (by decide)]; exact hMD.pm
  · rw [kk 63 _ (by decide), w2_slot _ _ (by omega), a3 (28 + i) (by omega)]; exact hMD.pl i hi
  · rw [kk 63 _ (by decide), w2_slot _ _ (by omega), a3 34 (by decide)]; exact hMD.se
  · rw [w2_slot _ _ (show 12 ≠ 7 by decide), w2_cell _ _ (by decide), a5]; exact hMD.hi k hk
theorem ext32 {x y : Int32} (h : ∀ i, i < 32 → x.toBitVec.getLsbD i = y.toBitVec.getLsbD i) : x = y := Int32.toBitVec_inj.mp (BitVec.eq_of_getLsbD_eq h)
theorem and0 {x y : Int32} (h : x &&& y = 0) (i : Nat) : (x.toBitVec.getLsbD i && y.toBitVec.getLsbD i) = false := by
  have := congrArg (fun z : Int32 => z.toBitVec.getLsbD i) h
  simpa using this
theorem dis_new {L F B : Int32} (h : L &&& F = 0) (h2 : (L ||| F) &&& B = 0) : L &&& (F ||| B) = 0 := by
  apply ext32
  intro i hi
  have a := and0 h i
  have c := and0 h2 i
  simp only [Int32.toBitVec_and, Int32.toBitVec_or, BitVec.getLsbD_and, BitVec.getLsbD_or] at c ⊢
  revert a c
  cases L.toBitVec.getLsbD i <;> cases F.toBitVec.getLsbD i <;> cases B.toBitVec.getLsbD i <;> simp
theorem dis_out {L F : Int32} (h : L &&& F = 0) : (L ||| F) &&& (L ^^^ (-1)) = F := by
  apply ext32
  intro i hi
  have a := and0 h i
  rw [x_not]
  simp only [Int32.toBitVec_and, Int32.toBitVec_or, Int32.toBitVec_not, BitVec.getLsbD_and, BitVec.getLsbD_or, BitVec.getLsbD_not]
  revert a
  cases L.toBitVec.getLsbD i <;> cases F.toBitVec.getLsbD i <;> simp [hi]
theorem or_ne0 {x : Int32} {v : Nat} (hv : v ≤ 8) : ¬ x ||| ((1 : Int32) <<< (nI v &&& 31)) = 0 := by
  intro z
  have := congrArg (fun z : Int32 => z.toBitVec.getLsbD v) z
  simp only [Int32.toBitVec_or, BitVec.getLsbD_or, one_lsb hv, decide_true, Bool.or_true] at this
  exact absurd this (by simp)
theorem bit_0 {x : Int32} {v : Nat} (hv : v < 8) : (x >>> (nI v &&& 31)) &&& 1 = 0 ↔ x &&& ((1 : Int32) <<< (nI v &&& 31)) = 0 := by
  rw [bit_and x (j := 8) ((cOK_iff (by decide)).mpr ⟨v, hv, rfl⟩) (by decide)]
  rcases and1 (x >>> (nI v &&& 31)) with h | h <;> rw [h] <;> decide
theorem mr_o {b : Nat → Nat} {q p c v : Nat} {S : Int32} {un : Bool} {D : Wo} (hc : c < 8) (hS : S = D 15 c ||| D 16 c) (h : mr b q p c S = .ok v) : tB b q p = false ∧ tK b q p = 2 ∧ v = tV b q p ∧ v < c ∧ tg c un v D = .ok (if un = true then w2 D 16 c (D 16 c ||| ((1 : Int32) <<< (nI v &&& 31))) else w2 D 15 c (D 15 c ||| ((1 : Int32) <<< (nI v &&& 31)))) ∧ S &&& ((1 : Int32) <<< (nI v &&& 31)) = 0 := by
  unfold mr at h
  split at h
  · cases h
  · next v2 hN =>
    split at h
    · next hb =>
      cases h
      obtain ⟨a1, a2, a3, a4⟩ := rdN_ok hN
      rw [cOK_pred (by omega)] at a4
      obtain ⟨j, hj, e⟩ := (cOK_iff (by omega)).mp a4
      have h99 := tV_le a2 a1
      rw [nI_eq (by omega) (by omega)] at e
      have hvc : v < c := by omega
      rw [bit_0 (by omega)] at hb
      exact ⟨a1, a2, a3, hvc, by rw [tg, if_neg (by omega), if_pos (by rw [← hS]; exact hb)], hb⟩
    · cases h
theorem mr_e {b : Nat → Nat} {q p c : Nat} {S : Int32} {un : Bool} {D : Wo} {e : Nat × Nat} (hc : c < 8) (hS : S = D 15 c ||| D 16 c) (hB : tB b q p = false) (hk : tK b q p = 2) (h : mr b q p c S = .error e) : ∃ k, tg c un (tV b q p) D = .error k ∧ e = (k, tS b q p) := by
  have h99 := tV_le hk hB
  unfold mr rdN at h
  rw [if_neg (by rw [hB]; decide), if_neg (fun z => z hk), cOK_pred (by omega)] at h
  by_cases hv : cOK c (nI (tV b q p)) = true
  · rw [if_pos hv] at h
    obtain ⟨j, hj, e2⟩ := (cOK_iff (by omega)).mp hv
    rw [nI_eq (by omega) (by omega)] at e2
    simp only at h
    split at h
    · cases h
    · next hb =>
      cases h
      rw [bit_0 (by omega)] at hb
      exact ⟨4, by rw [tg, if_neg (by omega), if_neg (by rw [← hS]; exact hb)], rfl⟩
  · rw [if_neg hv] at h
    cases h
    refine ⟨3, ?_, rfl⟩
    rw [tg, if_pos]
    apply Nat.le_of_not_lt
    intro z
    exact hv ((cOK_iff (by omega)).mpr ⟨_, z, rfl⟩)
theorem gr_e1 {b : Nat → Nat} {q p c f : Nat} {S : Int32} {un : Bool} {D : Wo} {e : Nat × Nat} (hc : c < 8) (hS : S = D 15 c ||| D 16 c) (hd : (un = true ∧ D 16 c = 0) ∨ (tB b q p = true) ∨ (tB b q p = false ∧ tK b q p = 2)) (h : mr b q p c S = .error e) : gr b q c (f + 1) p un D = .error e := by
  by_cases hB : tB b q p = true
  · rw [gr, if_pos hB]
    unfold mr rdN at h
    rw [if_pos hB] at h
    cases h
    rfl
  · have hB2 : tB b q p = false := by simpa using hB
    rw [gr, if_neg hB]
    by_cases hk : tK b q p = 2
    · obtain ⟨k, h1, rfl⟩ := mr_e (un := un) hc hS hB2 hk h
      rw [if_pos hk, h1]
    · rw [if_neg hk]
      obtain ⟨hu, h0⟩ := hd.resolve_right (fun z => z.elim hB (fun z => hk z.2))
      rw [if_neg (fun z => by rw [hu] at z; exact absurd z.1 (by decide)), if_pos ⟨hu, h0⟩]
      unfold mr rdN at h
      rw [if_neg hB, if_pos hk] at h
      cases h
      rfl
theorem gr_bad {b : Nat → Nat} {q p c f : Nat} {un : Bool} {D : Wo} (hf : 0 < f) (hB : tB b q p = true) : gr b q c f p un D = .error (1, tS b q p) := by
  obtain ⟨g, rfl⟩ : ∃ g, f = g + 1 := ⟨f - 1, by omega⟩
  rw [gr, if_pos hB]
theorem gr_out {b : Nat → Nat} {q p c f : Nat} {D : Wo} (hf : 0 < f) (hB : tB b q p = false) (hk : ¬ tK b q p = 2) (hF : ¬ D 16 c = 0) : gr b q c f p true D = .ok (p, D) := by
  obtain ⟨g, rfl⟩ : ∃ g, f = g + 1 := ⟨f - 1, by omega⟩
  rw [gr, if_neg (by rw [hB]; decide), if_neg hk, if_neg (fun z => absurd z.1 (by decide)), if_neg (fun z => hF z.2)]
set_option maxHeartbeats 4000000 in
set_option maxRecDepth 100000 in
theorem ct_X7_readWhole {I D : Wo} {b : Nat → Nat} {q p n m : Nat} (hM : MB I b q) (hS : Sn I b q p) (hpq : p ≤ q) (hMD : MDn I D n m) (hn8 : n < 8) (sd : Int32) : Ct yX7_readWhole cX7_readWhole 4 none 3 70 [.ref 57, .int sd] I (pV (fun u => (∃ e : Nat × Nat, bW b q sd n p D = .error e ∧ Er u e ∧ FrD I u) ∨ (∃ x : Nat × Wo, bW b q sd n p D = .ok x ∧ Sn u b q x.1 ∧ MDn u x.2 (n + 1) m ∧ FrD I u))) := by
  have hD7 := hMD.c7
  obtain ⟨hb, hq, hq6⟩ := id hM
  refine ct_of RX7 rfl (by decide) (Nat.le_of_ble_eq_true rfl) (fun X B E => ?_)
  show GW X 4 0 [some (.ref 57), some (.int sd), none, none] [] _
  have JE149 : ∀ (W : Wo) (S : Int32) (e : Nat × Nat), Er W e → FrD I W → bW b q sd n p D = .error e → GW X 4 149 [some (.ref 57), some (.int sd), some (.int (nI n)), some (.int S)] [] W := by
    intro W S e hE hFW hR
    refine g_aload_n B dX7_readWhole_149 rfl ?_
    refine g_getr B ci_X7 (by first | rfl | assumption) rfl (by decide) fl_X7_26 dX7_readWhole_150 ?_
    refine g_bipush B (v := 8) dX7_readWhole_153 (by decide) ?_
    refine g_iload_n B dX7_readWhole_155 rfl ?_
    refine g_iadd B dX7_readWhole_156 ?_
    refine g_eqi (nI (8 + n)) (la_8 n) ?_
    refine g_iload_n B dX7_readWhole_157 rfl ?_
    refine g_aload_n B dX7_readWhole_158 rfl ?_
    refine g_getr B ci_X7 (by first | rfl | assumption) rfl (by decide) fl_X7_26 dX7_readWhole_159 ?_
    refine g_iconst B (v := 0) dX7_readWhole_162 (by decide) ?_
    refine g_iload_n B dX7_readWhole_163 rfl ?_
    refine g_iadd B dX7_readWhole_164 ?_
    refine g_eqi (nI n) (la_0 n) ?_
    refine g_iald B (by first | rfl | assumption) n rfl (by omega) (by decide) dX7_readWhole_165 ?_
    
    refine g_iconst B (v := (-1)) dX7_readWhole_166 (by decide) ?_
    refine g_ixor B dX7_readWhole_167 ?_
    refine g_iand B dX7_readWhole_168 ?_
    
    refine g_iast B (by first | rfl | assumption) (8 + n) rfl (by omega) (by decide) dX7_readWhole_169 ?_
    refine g_aload_n B dX7_readWhole_170 rfl ?_
    refine g_dup B dX7_readWhole_171 rfl ?_
    refine g_geti B ci_X7 (by first | rfl | assumption) rfl (by decide) fl_X7_62 dX7_readWhole_172 ?_
    
    refine g_iconst B (v := 1) dX7_readWhole_175 (by decide) ?_
    refine g_iadd B dX7_readWhole_176 ?_
    
    refine g_put B ci_X7 (by first | rfl | assumption) rfl (by decide) fl_X7_62 rfl rfl rfl dX7_readWhole_177 ?_
    exact g_vret B E dX7_readWhole_180 (Or.inl ⟨e, hR, hE, frD_w2 (by omega) (frD_w2 (by omega) hFW)⟩)
  have JE61 : ∀ (W : Wo) (S : Int32) (e : Nat × Nat), Er W e → FrD I W → bW b q sd n p D = .error e → GW X 4 61 [some (.ref 57), some (.int sd), some (.int (nI n)), some (.int S)] [] W := by
    intro W S e hE hFW hR
    obtain ⟨e19, e20, he0, he8⟩ := id hE
    refine g_aload_n B dX7_readWhole_61 rfl ?_
    refine g_geti B ci_X7 (by first | rfl | assumption) rfl (by decide) fl_X7_84 dX7_readWhole_62 ?_
    rw [e19]
    refine g_if_ne B 88 dX7_readWhole_65 (by decide) (fun h65 => ?_) (fun h65 => ?_)
    · refine g_aload_n B dX7_readWhole_88 rfl ?_
      refine g_getr B ci_X7 (by first | rfl | assumption) rfl (by decide) fl_X7_26 dX7_readWhole_89 ?_
      refine g_iconst B (v := 0) dX7_readWhole_92 (by decide) ?_
      refine g_iload_n B dX7_readWhole_93 rfl ?_
      refine g_iadd B dX7_readWhole_94 ?_
      refine g_eqi (nI n) (la_0 n) ?_
      refine g_iload_n B dX7_readWhole_95 rfl ?_
      refine g_iast B (by first | rfl | assumption) n rfl (by omega) (by decide) dX7_readWhole_96 ?_
      refine g_aload_n B dX7_readWhole_97 rfl ?_
      refine g_geti B ci_X7 (by first | rfl | assumption) rfl (by decide) fl_X7_84 dX7_readWhole_98 ?_
      rw [show w2 W 63 n S 57 19 = nI e.1 from e19]
      refine g_if_ne B 149 dX7_readWhole_101 (by decide) (fun h101 => ?_) (fun h101 => ?_)
      · exact JE149 _ _ e hE (frD_w2 (by omega) hFW) hR
      · exact absurd ((nI_eq (by omega) (by decide)).mp h101) he0
    · exact absurd ((nI_eq (by omega) (by decide)).mp h65) he0
  refine g_aload_n B dX7_readWhole_0 rfl ?_
  refine g_geti B ci_X7 (by first | rfl | assumption) rfl (by decide) fl_X7_62 dX7_readWhole_1 ?_
  rw [hD7]
  refine g_istn2 B dX7_readWhole_4 (by decide) rfl ?_
  refine g_aload_n B dX7_readWhole_5 rfl ?_
  refine g_getr B ci_X7 (by first | rfl | assumption) rfl (by decide) fl_X7_29 dX7_readWhole_6 ?_
  refine g_iload_n B dX7_readWhole_9 rfl ?_
  refine g_iload_n B dX7_readWhole_10 rfl ?_
  refine g_iast B (by first | rfl | assumption) n rfl (by first | decide | omega | assumption) (by decide) dX7_readWhole_11 ?_
  refine g_aload_n B dX7_readWhole_12 rfl ?_
  refine g_getr B ci_X7 (by first | rfl | assumption) rfl (by decide) fl_X7_32 dX7_readWhole_13 ?_
  refine g_iload_n B dX7_readWhole_16 rfl ?_
  refine g_aload_n B dX7_readWhole_17 rfl ?_
  refine g_iconst B (v := 0) dX7_readWhole_18 (by decide) ?_
  refine g_bipush B (v := 9) dX7_readWhole_19 (by decide) ?_
  refine g_callVI B (rn_S (I := w2 I 64 n sd) (p := p) (hM.frD (frD_w2 (by omega) frD_0)) hS 0 9) (by first | rfl | assumption) rfl ml_X7_133 mm_X7_readNumber rfl rfl (Nat.le_of_ble_eq_true rfl) dX7_readWhole_21 (by decide) ?_
  rintro _ u1 (⟨e, hN1, rfl, hEk, hF1⟩ | ⟨v1, hN1, v99_1, rfl, hS1, hF1⟩)
  · refine g_iast B (by first | rfl | assumption) n rfl (by first | decide | omega | assumption) (by decide) dX7_readWhole_24 ?_
    refine g_aload_n B dX7_readWhole_25 rfl ?_
    refine g_getr B ci_X7 (by first | rfl | assumption) rfl (by decide) fl_X7_35 dX7_readWhole_26 ?_
    refine g_iload_n B dX7_readWhole_29 rfl ?_
    refine g_aload_n B dX7_readWhole_30 rfl ?_
    refine g_aload_n B dX7_readWhole_31 rfl ?_
    refine g_getr B ci_X7 (by first | rfl | assumption) rfl (by decide) fl_X7_32 dX7_readWhole_32 ?_
    refine g_iload_n B dX7_readWhole_35 rfl ?_
    refine g_iald B (by first | rfl | assumption) n rfl (by first | decide | omega | assumption) (by decide) dX7_readWhole_36 ?_
    rw [w2_same]
    refine g_bipush B (v := 9) dX7_readWhole_37 (by decide) ?_
    refine g_callVI B (rn_E (I := w2 u1 65 n 0) hEk _ _) (by first | rfl | assumption) rfl ml_X7_133 mm_X7_readNumber rfl rfl (Nat.le_of_ble_eq_true rfl) dX7_readWhole_39 (by decide) ?_
    rintro _ _ ⟨rfl, rfl⟩
    refine g_iast B (by first | rfl | assumption) n rfl (by first | decide | omega | assumption) (by decide) dX7_readWhole_42 ?_
    refine g_aload_n B dX7_readWhole_43 rfl ?_
    refine g_getr B ci_X7 (by first | rfl | assumption) rfl (by decide) fl_X7_26 dX7_readWhole_44 ?_
    refine g_bipush B (v := 16) dX7_readWhole_47 (by decide) ?_
    refine g_iload_n B dX7_readWhole_49 rfl ?_
    refine g_iadd B dX7_readWhole_50 ?_
    refine g_eqi (nI (16 + n)) (la_16 n) ?_
    refine g_aload_n B dX7_readWhole_51 rfl ?_
    refine g_iconst B (v := 0) dX7_readWhole_52 (by decide) ?_
    refine g_bipush B (v := 9) dX7_readWhole_53 (by decide) ?_
    refine g_callVI B (rn_E (I := w2 (w2 u1 65 n 0) 66 n 0) hEk _ _) (by first | rfl | assumption) rfl ml_X7_133 mm_X7_readNumber rfl rfl (Nat.le_of_ble_eq_true rfl) dX7_readWhole_55 (by decide) ?_
    rintro _ _ ⟨rfl, rfl⟩
    refine g_iast B (by first | rfl | assumption) (16 + n) rfl (by omega) (by decide) dX7_readWhole_58 ?_
    refine g_iconst B (v := 0) dX7_readWhole_59 (by decide) ?_
    refine g_istn3 B dX7_readWhole_60 (by decide) rfl ?_
    exact JE61 _ _ e hEk (frD_w2 (by omega) (frD_w2 (by omega) (frD_w2 (by omega) ((frD_w2 (by omega) frD_0).trans hF1.d)))) (by rw [bW, hN1])
  · refine g_iast B (by first | rfl | assumption) n rfl (by first | decide | omega | assumption) (by decide) dX7_readWhole_24 ?_
    refine g_aload_n B dX7_readWhole_25 rfl ?_
    refine g_getr B ci_X7 (by first | rfl | assumption) rfl (by decide) fl_X7_35 dX7_readWhole_26 ?_
    refine g_iload_n B dX7_readWhole_29 rfl ?_
    refine g_aload_n B dX7_readWhole_30 rfl ?_
    refine g_aload_n B dX7_readWhole_31 rfl ?_
    refine g_getr B ci_X7 (by first | rfl | assumption) rfl (by decide) fl_X7_32 dX7_readWhole_32 ?_
    refine g_iload_n B dX7_readWhole_35 rfl ?_
    refine g_iald B (by first | rfl | assumption) n rfl (by first | decide | omega | assumption) (by decide) dX7_readWhole_36 ?_
    rw [w2_same]
    refine g_bipush B (v := 9) dX7_readWhole_37 (by decide) ?_
    refine g_callVI B (rn_S (I := w2 u1 65 n (nI v1)) (p := tE b q p) (((hM.frD (frD_w2 (by omega) frD_0)).frN hF1).frD (frD_w2 (by omega) frD_0)) hS1 (nI v1) 9) (by first | rfl | assumption) rfl ml_X7_133 mm_X7_readNumber rfl rfl (Nat.le_of_ble_eq_true rfl) dX7_readWhole_39 (by decide) ?_
    rintro _ u2 (⟨e, hN2, rfl, hEk, hF2⟩ | ⟨v2, hN2, v99_2, rfl, hS2, hF2⟩)
    · refine g_iast B (by first | rfl | assumption) n rfl (by first | decide | omega | assumption) (by decide) dX7_readWhole_42 ?_
      refine g_aload_n B dX7_readWhole_43 rfl ?_
      refine g_getr B ci_X7 (by first | rfl | assumption) rfl (by decide) fl_X7_26 dX7_readWhole_44 ?_
      refine g_bipush B (v := 16) dX7_readWhole_47 (by decide) ?_
      refine g_iload_n B dX7_readWhole_49 rfl ?_
      refine g_iadd B dX7_readWhole_50 ?_
      refine g_eqi (nI (16 + n)) (la_16 n) ?_
      refine g_aload_n B dX7_readWhole_51 rfl ?_
      refine g_iconst B (v := 0) dX7_readWhole_52 (by decide) ?_
      refine g_bipush B (v := 9) dX7_readWhole_53 (by decide) ?_
      refine g_callVI B (rn_E (I := w2 u2 66 n 0) hEk _ _) (by first | rfl | assumption) rfl ml_X7_133 mm_X7_readNumber rfl rfl (Nat.le_of_ble_eq_true rfl) dX7_readWhole_55 (by decide) ?_
      rintro _ _ ⟨rfl, rfl⟩
      refine g_iast B (by first | rfl | assumption) (16 + n) rfl (by omega) (by decide) dX7_readWhole_58 ?_
      refine g_iconst B (v := 0) dX7_readWhole_59 (by decide) ?_
      refine g_istn3 B dX7_readWhole_60 (by decide) rfl ?_
      exact JE61 _ _ e hEk (frD_w2 (by omega) (frD_w2 (by omega) ((frD_w2 (by omega) ((frD_w2 (by omega) frD_0).trans hF1.d)).trans hF2.d))) (by rw [bW, hN1]; simp only [hN2])
    · refine g_iast B (by first | rfl | assumption) n rfl (by first | decide | omega | assumption) (by decide) dX7_readWhole_42 ?_
      refine g_aload_n B dX7_readWhole_43 rfl ?_
      refine g_getr B ci_X7 (by first | rfl | assumption) rfl (by decide) fl_X7_26 dX7_readWhole_44 ?_
      refine g_bipush B (v := 16) dX7_readWhole_47 (by decide) ?_
      refine g_iload_n B dX7_readWhole_49 rfl ?_
      refine g_iadd B dX7_readWhole_50 ?_
      refine g_eqi (nI (16 + n)) (la_16 n) ?_
      refine g_aload_n B dX7_readWhole_51 rfl ?_
      refine g_iconst B (v := 0) dX7_readWhole_52 (by decide) ?_
      refine g_bipush B (v := 9) dX7_readWhole_53 (by decide) ?_
      refine g_callVI B (rn_S (I := w2 u2 66 n (nI v2)) (p := tE b q (tE b q p)) (((((hM.frD (frD_w2 (by omega) frD_0)).frN hF1).frD (frD_w2 (by omega) frD_0)).frN hF2).frD (frD_w2 (by omega) frD_0)) hS2 0 9) (by first | rfl | assumption) rfl ml_X7_133 mm_X7_readNumber rfl rfl (Nat.le_of_ble_eq_true rfl) dX7_readWhole_55 (by decide) ?_
      rintro _ u3 (⟨e, hN3, rfl, hEk, hF3⟩ | ⟨v3, hN3, v99_3, rfl, hS3, hF3⟩)
      · refine g_iast B (by first | rfl | assumption) (16 + n) rfl (by omega) (by decide) dX7_readWhole_58 ?_
        refine g_iconst B (v := 0) dX7_readWhole_59 (by decide) ?_
        refine g_istn3 B dX7_readWhole_60 (by decide) rfl ?_
        exact JE61 _ _ e hEk (frD_w2 (by omega) ((frD_w2 (by omega) ((frD_w2 (by omega) ((frD_w2 (by omega) frD_0).trans hF1.d)).trans hF2.d)).trans hF3.d)) (by rw [bW, hN1]; simp only [hN2, hN3])
      · refine g_iast B (by first | rfl | assumption) (16 + n) rfl (by omega) (by decide) dX7_readWhole_58 ?_
        refine g_iconst B (v := 0) dX7_readWhole_59 (by decide) ?_
        refine g_istn3 B dX7_readWhole_60 (by decide) rfl ?_
        have hBW : bW b q sd n p D = gr b q n 161 (tE b q (tE b q (tE b q p))) false (cD sd n v1 v2 v3 D) := by rw [bW, hN1]; simp only [hN2, hN3]
        have hE1 := tE_ge b hpq
        have hE2 := tE_ge b hE1.2
        have hE3 := tE_ge b hE2.2
        have hK0 : KW I (w2 u3 63 (16 + n) (nI v3)) n sd v1 v2 v3 := kw_0 hn8 hF1 hF2 hF3
        have h15n : (cD sd n v1 v2 v3 D) 15 n = 0 := by simp [cD, w2]
        have h16n : (cD sd n v1 v2 v3 D) 16 n = 0 := by simp [cD, w2]
        have JL149 : ∀ (W : Wo) (S L F : Int32) (p2 : Nat), Sn W b q p2 → KW I W n sd v1 v2 v3 → bW b q sd n p D = .ok (p2, w2 (w2 (cD sd n v1 v2 v3 D) 15 n L) 16 n F) → S = L ||| F → L &&& F = 0 → W 63 n = L → GW X 4 149 [some (.ref 57), some (.int sd), some (.int (nI n)), some (.int S)] [] W := by
          intro W S L F p2 hS2 hKW hR hSL hLF hL63
          refine g_aload_n B dX7_readWhole_149 rfl ?_
          refine g_getr B ci_X7 (by first | rfl | assumption) rfl (by decide) fl_X7_26 dX7_readWhole_150 ?_
          refine g_bipush B (v := 8) dX7_readWhole_153 (by decide) ?_
          refine g_iload_n B dX7_readWhole_155 rfl ?_
          refine g_iadd B dX7_readWhole_156 ?_
          refine g_eqi (nI (8 + n)) (la_8 n) ?_
          refine g_iload_n B dX7_readWhole_157 rfl ?_
          refine g_aload_n B dX7_readWhole_158 rfl ?_
          refine g_getr B ci_X7 (by first | rfl | assumption) rfl (by decide) fl_X7_26 dX7_readWhole_159 ?_
          refine g_iconst B (v := 0) dX7_readWhole_162 (by decide) ?_
          refine g_iload_n B dX7_readWhole_163 rfl ?_
          refine g_iadd B dX7_readWhole_164 ?_
          refine g_eqi (nI n) (la_0 n) ?_
          refine g_iald B (by first | rfl | assumption) n rfl (by omega) (by decide) dX7_readWhole_165 ?_
          rw [hL63]
          refine g_iconst B (v := (-1)) dX7_readWhole_166 (by decide) ?_
          refine g_ixor B dX7_readWhole_167 ?_
          refine g_iand B dX7_readWhole_168 ?_
          refine g_eqi F (by rw [hSL]; exact dis_out hLF) ?_
          refine g_iast B (by first | rfl | assumption) (8 + n) rfl (by omega) (by decide) dX7_readWhole_169 ?_
          refine g_aload_n B dX7_readWhole_170 rfl ?_
          refine g_dup B dX7_readWhole_171 rfl ?_
          refine g_geti B ci_X7 (by first | rfl | assumption) rfl (by decide) fl_X7_62 dX7_readWhole_172 ?_
          rw [show w2 W 63 (8 + n) F 57 7 = nI n from hKW.c7.trans hD7]
          refine g_iconst B (v := 1) dX7_readWhole_175 (by decide) ?_
          refine g_iadd B dX7_readWhole_176 ?_
          refine g_eqi (nI (n + 1)) (nI_1 n) ?_
          refine g_put B ci_X7 (by first | rfl | assumption) rfl (by decide) fl_X7_62 rfl rfl rfl dX7_readWhole_177 ?_
          exact g_vret B E dX7_readWhole_180 (Or.inr ⟨_, hR, hS2, md_new hn8 hKW hMD hL63, frD_w2 (by omega) (frD_w2 (by omega) hKW.1)⟩)
        have L61 : ∀ f (p2 : Nat) (S : Int32) (W : Wo), q < p2 + f → p2 ≤ q → Sn W b q p2 → KW I W n sd v1 v2 v3 → gr b q n f p2 false (w2 (cD sd n v1 v2 v3 D) 15 n S) = bW b q sd n p D → GW X 4 61 [some (.ref 57), some (.int sd), some (.int (nI n)), some (.int S)] [] W := by
          intro f
          induction f with
          | zero => intro p2 S W hfu hpq2; omega
          | succ f ih =>
            intro p2 S W hfu hpq2 hS2 hKW hR
            have hMW := hM.frD hKW.1
            rcases hS2 with ⟨hB, hE⟩ | hL
            · exact JE61 _ _ _ hE hKW.1 (by rw [← hR, gr, if_pos hB])
            ·
              obtain ⟨h19, h16, h17, h15, h18, hB, -⟩ := id hL
              have hS2 : Sn W b q p2 := Or.inr hL
              have hK4 := tK_le b q p2
              have hE4 := tE_ge b hpq2
              have hS4 := tS_le b hpq2
              have hnB : ¬ tB b q p2 = true := by rw [hB]; decide
              refine g_aload_n B dX7_readWhole_61 rfl ?_
              refine g_geti B ci_X7 (by first | rfl | assumption) rfl (by decide) fl_X7_84 dX7_readWhole_62 ?_
              rw [h19]
              refine g_if_ne B 88 dX7_readWhole_65 (by decide) (fun h65 => ?_) (fun h65 => ?_)
              · exact absurd rfl h65
              · refine g_aload_n B dX7_readWhole_68 rfl ?_
                refine g_geti B ci_X7 (by first | rfl | assumption) rfl (by decide) fl_X7_108 dX7_readWhole_69 ?_
                rw [h17]
                refine g_iconst B (v := 2) dX7_readWhole_72 (by decide) ?_
                refine g_icmp_ne B 88 dX7_readWhole_73 (by decide) (fun h73 => ?_) (fun h73 => ?_)
                · rw [show (2 : Int32) = nI 2 from rfl, nI_eq (by omega) (by decide)] at h73
                  refine g_aload_n B dX7_readWhole_88 rfl ?_
                  refine g_getr B ci_X7 (by first | rfl | assumption) rfl (by decide) fl_X7_26 dX7_readWhole_89 ?_
                  refine g_iconst B (v := 0) dX7_readWhole_92 (by decide) ?_
                  refine g_iload_n B dX7_readWhole_93 rfl ?_
                  refine g_iadd B dX7_readWhole_94 ?_
                  refine g_eqi (nI n) (la_0 n) ?_
                  refine g_iload_n B dX7_readWhole_95 rfl ?_
                  refine g_iast B (by first | rfl | assumption) n rfl (by omega) (by decide) dX7_readWhole_96 ?_
                  refine g_aload_n B dX7_readWhole_97 rfl ?_
                  refine g_geti B ci_X7 (by first | rfl | assumption) rfl (by decide) fl_X7_84 dX7_readWhole_98 ?_
                  rw [show w2 W 63 n S 57 19 = 0 from h19]
                  refine g_if_ne B 149 dX7_readWhole_101 (by decide) (fun h101 => ?_) (fun h101 => ?_)
                  · exact absurd rfl h101
                  · refine g_aload_n B dX7_readWhole_104 rfl ?_
                    refine g_geti B ci_X7 (by first | rfl | assumption) rfl (by decide) fl_X7_108 dX7_readWhole_105 ?_
                    rw [show w2 W 63 n S 57 17 = nI (tK b q p2) from h17]
                    refine g_iconst B (v := 1) dX7_readWhole_108 (by decide) ?_
                    refine g_icmp_ne B 149 dX7_readWhole_109 (by decide) (fun h109 => ?_) (fun h109 => ?_)
                    · rw [show (1 : Int32) = nI 1 from rfl, nI_eq (by omega) (by decide)] at h109
                      exact JL149 _ _ S 0 p2 (Or.inr hL) (hKW.w63 hn8) (by rw [← hR, gr, if_neg hnB, if_neg h73, if_neg (fun z => h109 z.2), if_neg (fun z => absurd z.1 (by decide)), ← w2_id (show w2 (cD sd n v1 v2 v3 D) 15 n S 16 n = 0 from h16n)]) (Int32.or_zero).symm (Int32.and_zero) (w2_same _ _ _ _)
                    · rw [show (1 : Int32) = nI 1 from rfl, nI_eq (by omega) (by decide)] at h109
                      refine g_aload_n B dX7_readWhole_112 rfl ?_
                      refine g_aload_n B dX7_readWhole_113 rfl ?_
                      refine g_callVI B (ct_X7_isUnless (I := w2 W 63 n S) (p := p2) (hMW.frD (frD_w2 (by omega) frD_0)) hL) (by first | rfl | assumption) rfl ml_X7_139 mm_X7_isUnless rfl rfl (Nat.le_of_ble_eq_true rfl) dX7_readWhole_114 (by decide) ?_
                      rintro _ _ ⟨rfl, rfl⟩
                      refine g_iconst B (v := 2) dX7_readWhole_117 (by decide) ?_
                      refine g_callVV B (ct_X7_needs _ 2) (by first | rfl | assumption) rfl ml_X7_122 mm_X7_needs rfl rfl (Nat.le_of_ble_eq_true rfl) dX7_readWhole_118 (by decide) ?_
                      rintro _ (⟨hg, rfl⟩ | ⟨hg, hf0, rfl⟩)
                      · replace hg := hg.resolve_right (fun z => z h19)
                        rw [decide_eq_true h109, Bool.true_and] at hg
                        refine g_aload_n B dX7_readWhole_121 rfl ?_
                        refine g_callVV B (ct_X7_next (I := w2 W 63 n S) (p := tE b q p2) (hMW.frD (frD_w2 (by omega) frD_0)) h19 h15 hE4.2) (by first | rfl | assumption) rfl ml_X7_130 mm_X7_next rfl rfl (Nat.le_of_ble_eq_true rfl) dX7_readWhole_122 (by decide) ?_
                        rintro un ⟨hSn, hFn⟩
                        have L125 : ∀ f (p3 : Nat) (T F : Int32) (V : Wo), q < p3 + f → p3 ≤ q → Sn V b q p3 → KW I V n sd v1 v2 v3 → V 63 n = S → T = S ||| F → S &&& F = 0 → (F = 0 ∨ (tB b q p3 = false ∧ tK b q p3 = 2)) → gr b q n f p3 true (w2 (w2 (cD sd n v1 v2 v3 D) 15 n S) 16 n F) = bW b q sd n p D → GW X 4 125 [some (.ref 57), some (.int sd), some (.int (nI n)), some (.int T)] [] V := by
                          clear ih
                          intro f
                          induction f with
                          | zero => intro p3 T F V hfu hpq3; omega
                          | succ f ih =>
                            intro p3 T F V hfu hpq3 hSV hKV hL63 hSF hLF hfst hR
                            have hMV := hM.frD hKV.1
                            have hE5 := tE_ge b hpq3
                            have hS5 := tS_le b hpq3
                            refine g_aload_n B dX7_readWhole_125 rfl ?_
                            refine g_iload_n B dX7_readWhole_126 rfl ?_
                            refine g_iload_n B dX7_readWhole_127 rfl ?_
                            refine g_iconst B (v := 1) dX7_readWhole_128 (by decide) ?_
                            refine g_isub B dX7_readWhole_129 ?_
                            refine g_callVI B (rm_S hMV hSV T) (by first | rfl | assumption) rfl ml_X7_136 mm_X7_readMore rfl rfl (Nat.le_of_ble_eq_true rfl) dX7_readWhole_130 (by decide) ?_
                            rintro _ um (⟨e, hmr, hEm, hFm⟩ | ⟨v, hmr, v99, hSu, hr, hFm⟩)
                            · have hR2 : bW b q sd n p D = .error e := by rw [← hR]; exact gr_e1 hn8 (by rw [w2_same, w2_cell _ _ (by decide), w2_same, hSF]) (hfst.elim (fun z => Or.inl ⟨rfl, by rw [w2_same, z]⟩) (fun z => Or.inr (Or.inr z))) hmr
                              refine g_istn3 B dX7_readWhole_133 (by decide) rfl ?_
                              refine g_aload_n B dX7_readWhole_134 rfl ?_
                              refine g_geti B ci_X7 (by first | rfl | assumption) rfl (by decide) fl_X7_84 dX7_readWhole_135 ?_
                              rw [hEm.1]
                              refine g_if_ne B 149 dX7_readWhole_138 (by decide) (fun h138 => ?_) (fun h138 => ?_)
                              · exact JE149 _ _ _ hEm (hKV.1.trans hFm.d) hR2
                              · exact absurd ((nI_eq (by have := hEm.2.2.2; omega) (by decide)).mp h138) hEm.2.2.1
                            · obtain ⟨hB5, hk5, hvt, hvc, htg, hsb⟩ := mr_o (un := true) (D := w2 (w2 (cD sd n v1 v2 v3 D) 15 n S) 16 n F) hn8 (by rw [w2_same, w2_cell _ _ (by decide), w2_same, hSF]) hmr
                              have hR2 : gr b q n f (tE b q p3) true (w2 (w2 (cD sd n v1 v2 v3 D) 15 n S) 16 n (F ||| ((1 : Int32) <<< (nI v &&& 31)))) = bW b q sd n p D := by
                                rw [← hR, gr, if_neg (by rw [hB5]; decide), if_pos hk5, ← hvt, htg]; simp only [if_true, w2_w2, w2_same]
                              have hf0 : 0 < f := by have := tE_gt (b := b) (q := q) (p := p3) (by omega); omega
                              refine g_istn3 B dX7_readWhole_133 (by decide) rfl ?_
                              rcases hSu with ⟨hB3, hE3⟩ | hL3
                              ·
                                refine g_aload_n B dX7_readWhole_134 rfl ?_
                                refine g_geti B ci_X7 (by first | rfl | assumption) rfl (by decide) fl_X7_84 dX7_readWhole_135 ?_
                                rw [hE3.1]
                                refine g_if_ne B 149 dX7_readWhole_138 (by decide) (fun h138 => ?_) (fun h138 => ?_)
                                · exact JE149 _ _ _ hE3 (hKV.1.trans hFm.d) (by rw [← hR2]; exact gr_bad hf0 hB3)
                                · exact absurd h138 (show ¬ (1 : Int32) = 0 by decide)
                              ·
                                have hB3 := hL3.2.2.2.2.2.1
                                have hk3 := tK_le b q (tE b q p3)
                                refine g_aload_n B dX7_readWhole_134 rfl ?_
                                refine g_geti B ci_X7 (by first | rfl | assumption) rfl (by decide) fl_X7_84 dX7_readWhole_135 ?_
                                rw [hL3.1]
                                refine g_if_ne B 149 dX7_readWhole_138 (by decide) (fun h138 => ?_) (fun h138 => ?_)
                                · exact absurd rfl h138
                                · refine g_aload_n B dX7_readWhole_141 rfl ?_
                                  refine g_geti B ci_X7 (by first | rfl | assumption) rfl (by decide) fl_X7_108 dX7_readWhole_142 ?_
                                  rw [hL3.2.2.1]
                                  refine g_iconst B (v := 2) dX7_readWhole_145 (by decide) ?_
                                  refine g_icmp_eq B 125 dX7_readWhole_146 (by decide) (fun h146 => ?_) (fun h146 => ?_)
                                  · rw [show (2 : Int32) = nI 2 from rfl, nI_eq (by omega) (by decide)] at h146
                                    exact ih (tE b q p3) _ (F ||| ((1 : Int32) <<< (nI v &&& 31))) _ (by have := tE_gt (b := b) (q := q) (p := p3) (by omega); omega) hE5.2 (Or.inr hL3) (hKV.frN hFm) ((hFm 63 n (fun e => absurd e (by decide))).trans hL63) (by rw [hr hL3, hSF, Int32.or_assoc]) (dis_new hLF (by rw [← hSF]; exact hsb)) (Or.inr ⟨hL3.2.2.2.2.2.1, h146⟩) hR2
                                  · rw [show (2 : Int32) = nI 2 from rfl, nI_eq (by omega) (by decide)] at h146
                                    exact JL149 _ _ S (F ||| ((1 : Int32) <<< (nI v &&& 31))) (tE b q p3) (Or.inr hL3) (hKV.frN hFm) (by rw [← hR2]; exact gr_out hf0 hB3 h146 (by rw [w2_same]; exact or_ne0 (by omega))) (by rw [hr hL3, hSF, Int32.or_assoc]) (dis_new hLF (by rw [← hSF]; exact hsb)) ((hFm 63 n (fun e => absurd e (by decide))).trans hL63)
                        exact L125 f (tE b q p2) S 0 _ (by have := tE_gt (b := b) (q := q) (p := p2) (by omega); omega) hE4.2 hSn ((hKW.w63 hn8).frN hFn) ((hFn 63 n (fun e => absurd e (by decide))).trans (w2_same _ _ _ _)) (Int32.or_zero).symm (Int32.and_zero) (Or.inl rfl) (by rw [← hR, gr, if_neg hnB, if_neg h73, if_pos ⟨rfl, h109⟩, if_pos hg, ← w2_id (show w2 (cD sd n v1 v2 v3 D) 15 n S 16 n = 0 from h16n)])
                      · rw [decide_eq_true h109, Bool.true_and] at hg
                        have hE2u : Er (w2 (w2 (w2 W 63 n S) 57 19 2) 57 20 (w2 W 63 n S 57 16)) (2, tS b q p2) := ⟨rfl, h16, (er8 rfl).1, (er8 rfl).2⟩
                        have hFu : FrD I (w2 (w2 (w2 W 63 n S) 57 19 2) 57 20 (w2 W 63 n S 57 16)) := frD_w2 (by omega) (frD_w2 (by omega) (frD_w2 (by omega) hKW.1))
                        refine g_aload_n B dX7_readWhole_121 rfl ?_
                        refine g_callVV B (cn_next hE2u) (by first | rfl | assumption) rfl ml_X7_130 mm_X7_next rfl rfl (Nat.le_of_ble_eq_true rfl) dX7_readWhole_122 (by decide) ?_
                        rintro _ rfl
                        refine g_aload_n B dX7_readWhole_125 rfl ?_
                        refine g_iload_n B dX7_readWhole_126 rfl ?_
                        refine g_iload_n B dX7_readWhole_127 rfl ?_
                        refine g_iconst B (v := 1) dX7_readWhole_128 (by decide) ?_
                        refine g_isub B dX7_readWhole_129 ?_
                        refine g_callVI B (rm_E hE2u _ _) (by first | rfl | assumption) rfl ml_X7_136 mm_X7_readMore rfl rfl (Nat.le_of_ble_eq_true rfl) dX7_readWhole_130 (by decide) ?_
                        rintro r130 _ rfl
                        refine g_istn3 B dX7_readWhole_133 (by decide) rfl ?_
                        refine g_aload_n B dX7_readWhole_134 rfl ?_
                        refine g_geti B ci_X7 (by first | rfl | assumption) rfl (by decide) fl_X7_84 dX7_readWhole_135 ?_
                        rw [hE2u.1]
                        refine g_if_ne B 149 dX7_readWhole_138 (by decide) (fun h138 => ?_) (fun h138 => ?_)
                        · exact JE149 _ _ _ hE2u hFu (by rw [← hR, gr, if_neg hnB, if_neg h73, if_pos ⟨rfl, h109⟩, if_neg (by rw [hg]; decide)])
                        · exact absurd h138 (show ¬ (2 : Int32) = 0 by decide)
                · rw [show (2 : Int32) = nI 2 from rfl, nI_eq (by omega) (by decide)] at h73
                  refine g_aload_n B dX7_readWhole_76 rfl ?_
                  refine g_iload_n B dX7_readWhole_77 rfl ?_
                  refine g_iload_n B dX7_readWhole_78 rfl ?_
                  refine g_iconst B (v := 1) dX7_readWhole_79 (by decide) ?_
                  refine g_isub B dX7_readWhole_80 ?_
                  refine g_callVI B (rm_S hMW hS2 S) (by first | rfl | assumption) rfl ml_X7_136 mm_X7_readMore rfl rfl (Nat.le_of_ble_eq_true rfl) dX7_readWhole_81 (by decide) ?_
                  rintro _ um (⟨e, hmr, hEm, hFm⟩ | ⟨v, hmr, v99, hSu, hr, hFm⟩)
                  · refine g_istn3 B dX7_readWhole_84 (by decide) rfl ?_
                    refine g_goto B 61 dX7_readWhole_85 (by decide) ?_
                    exact JE61 _ _ e hEm (hKW.1.trans hFm.d) (by rw [← hR]; exact gr_e1 hn8 (by rw [w2_same, w2_cell _ _ (by decide), h16n, Int32.or_zero]) (Or.inr (Or.inr ⟨hB, h73⟩)) hmr)
                  · refine g_istn3 B dX7_readWhole_84 (by decide) rfl ?_
                    refine g_goto B 61 dX7_readWhole_85 (by decide) ?_
                    obtain ⟨-, -, hvt, hvc, htg, hsb⟩ := mr_o (un := false) (D := w2 (cD sd n v1 v2 v3 D) 15 n S) hn8 (by rw [w2_same, w2_cell _ _ (by decide), h16n, Int32.or_zero]) hmr
                    have hf0 : 0 < f := by have := tE_gt (b := b) (q := q) (p := p2) (by omega); omega
                    have hR2 : gr b q n f (tE b q p2) false (w2 (cD sd n v1 v2 v3 D) 15 n (S ||| ((1 : Int32) <<< (nI v &&& 31)))) = bW b q sd n p D := by
                      rw [← hR, gr, if_neg hnB, if_pos h73, ← hvt, htg]; simp only [Bool.false_eq_true, if_false, w2_w2, w2_same]
                    rcases hSu with ⟨hB3, hE3⟩ | hL3
                    · exact JE61 _ _ _ hE3 (hKW.1.trans hFm.d) (by rw [← hR2]; exact gr_bad hf0 hB3)
                    · rw [hr hL3]
                      exact ih (tE b q p2) _ _ (by have := tE_gt (b := b) (q := q) (p := p2) (by omega); omega) hE4.2 (Or.inr hL3) (hKW.frN hFm) hR2
        exact L61 161 (tE b q (tE b q (tE b q p))) 0 _ (by omega) hE3.2 hS3 hK0 (by rw [hBW, ← w2_id h15n])

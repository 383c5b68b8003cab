def ln (b : Nat → Nat) (q n m p0 : Nat) (D : Wo) : Except (Nat × Nat) (Nat × Wo) :=
  if (decide (tK b q p0 = 1) && wd b (tS b q p0) (tE b q p0) 0) = true then bCl b q 0 n (tS b q p0) (tE b q p0) D else if (decide (tK b q p0 = 1) && wd b (tS b q p0) (tE b q p0) 1) = true then bCl b q 1 n (tS b q p0) (tE b q p0) D else if (decide (tK b q p0 = 1) && wd b (tS b q p0) (tE b q p0) 2) = true then bCl b q 2 n (tS b q p0) (tE b q p0) D else if (decide (tK b q p0 = 1) && wd b (tS b q p0) (tE b q p0) 3) = true then bEn b q (tS b q p0) (tE b q p0) D else if (decide (tK b q p0 = 1) && wd b (tS b q p0) (tE b q p0) 4) = true then bPl b q m (tS b q p0) (tE b q p0) D else if (decide (tK b q p0 = 1) && wd b (tS b q p0) (tE b q p0) 5) = true then bSa b q (tE b q p0) D else if (decide (tK b q p0 = 1) && wd b (tS b q p0) (tE b q p0) 6) = true then bDy b q (tS b q p0) (tE b q p0) D else .error (2, tS b q p0)
/-- what a draft keeps -/
def DIn (D : Wo) (n m : Nat) : Prop :=
  (n ≤ 8) ∧
  (m ≤ 6) ∧
  (D 10 9 = nI n) ∧
  (D 10 13 = nI m) ∧
  (∀ c, c < n → Bd (D 13 c) 10 ∧ Bd (D 15 c) (2 ^ c)) ∧
  (Bd (D 10 12) 256) ∧
  (Bd (D 10 11) 10) ∧
  (∀ i, i < m → Bd (D 17 i) 8) ∧
  ((D 39 8 = 0 ∧ D 10 10 = -4) ∨ (D 39 8 = 1 ∧ Bd (D 10 10) 8)) ∧
  (D 39 9 = 0 ∨ D 39 9 = 1) ∧
  (D 10 14 = 0)
theorem DIn.n8 {D : Wo} {n m : Nat} (h : DIn D n m) : n ≤ 8 := h.1
theorem DIn.m6 {D : Wo} {n m : Nat} (h : DIn D n m) : m ≤ 6 := h.2.1
theorem DIn.hn {D : Wo} {n m : Nat} (h : DIn D n m) : D 10 9 = nI n := h.2.2.1
theorem DIn.hm {D : Wo} {n m : Nat} (h : DIn D n m) : D 10 13 = nI m := h.2.2.2.1
theorem DIn.cl {D : Wo} {n m : Nat} (h : DIn D n m) : ∀ c, c < n → Bd (D 13 c) 10 ∧ Bd (D 15 c) (2 ^ c) := h.2.2.2.2.1
theorem DIn.sa {D : Wo} {n m : Nat} (h : DIn D n m) : Bd (D 10 12) 256 := h.2.2.2.2.2.1
theorem DIn.dy {D : Wo} {n m : Nat} (h : DIn D n m) : Bd (D 10 11) 10 := h.2.2.2.2.2.2.1
theorem DIn.pl {D : Wo} {n m : Nat} (h : DIn D n m) : ∀ i, i < m → Bd (D 17 i) 8 := h.2.2.2.2.2.2.2.1
theorem DIn.en {D : Wo} {n m : Nat} (h : DIn D n m) : (D 39 8 = 0 ∧ D 10 10 = -4) ∨ (D 39 8 = 1 ∧ Bd (D 10 10) 8) := h.2.2.2.2.2.2.2.2.1
theorem DIn.dt {D : Wo} {n m : Nat} (h : DIn D n m) : D 39 9 = 0 ∨ D 39 9 = 1 := h.2.2.2.2.2.2.2.2.2.1
theorem DIn.se {D : Wo} {n m : Nat} (h : DIn D n m) : D 10 14 = 0 := h.2.2.2.2.2.2.2.2.2.2
theorem rdN_ok {b : Nat → Nat} {q p v : Nat} {lo hi : Int32} (h : rdN b q p lo hi = .ok v) : tB b q p = false ∧ tK b q p = 2 ∧ v = tV b q p ∧ wi (nI v) lo hi = true := by
  unfold rdN at h
  split at h
  · cases h
  · next h1 =>
    split at h
    · cases h
    · next h2 =>
      split at h
      · next h3 =>
        cases h
        exact ⟨by simpa using h1, Decidable.not_not.mp h2, rfl, h3⟩
      · cases h
theorem wi_le {v h : Nat} (hv : v < 2 ^ 31) (hh : h < 2 ^ 31) {lo : Int32} (h2 : wi (nI v) lo (nI h) = true) : v ≤ h := by
  simp only [wi, Bool.and_eq_true, Bool.not_eq_true', decide_eq_false_iff_not] at h2
  exact nlt_le hh hv h2.2
theorem rdN_le {b : Nat → Nat} {q p v h : Nat} {lo : Int32} (hh : h < 2 ^ 31) (h2 : rdN b q p lo (nI h) = .ok v) : v ≤ h := by
  obtain ⟨a1, a2, a3, a4⟩ := rdN_ok h2
  have := tV_le a2 a1
  exact wi_le (by omega) hh a4
theorem bd_or {x : Int32} {v n : Nat} (hn : n ≤ 8) (hx : Bd x (2 ^ n)) (hv : v < n) : Bd (x ||| ((1 : Int32) <<< (nI v &&& 31))) (2 ^ n) := by
  obtain ⟨k, hk, rfl⟩ := hx
  exact ⟨k ||| 2 ^ v, or_2n hk hv, by rw [shl1 (by omega), nI_or]⟩
theorem tg_ok {c n m v : Nat} {un : Bool} {D D2 : Wo} (hI : DIn D n m) (hc : c < n) (h : tg c un v D = .ok D2) : DIn D2 n m := by
  unfold tg at h
  have hn8 := hI.n8
  split at h
  · cases h
  · next hv =>
    split at h
    · cases h
      cases un
      · refine ⟨hI.n8, hI.m6, hI.hn, hI.hm, fun c2 h2 => ⟨(hI.cl c2 h2).1, ?_⟩, hI.sa, hI.dy, hI.pl, hI.en, hI.dt, hI.se⟩
        by_cases e : c2 = c
        · subst e
          rw [if_neg (by decide), w2_same]
          exact bd_or (by omega) (hI.cl c2 h2).2 (by omega)
        · rw [if_neg (by decide), w2_slot _ _ e]; exact (hI.cl c2 h2).2
      · exact ⟨hI.n8, hI.m6, hI.hn, hI.hm, fun c2 h2 => ⟨(hI.cl c2 h2).1, (hI.cl c2 h2).2⟩, hI.sa, hI.dy, hI.pl, hI.en, hI.dt, hI.se⟩
    · cases h
theorem er8 {c w : Nat} (h : decide (c ≠ 0 ∧ c < 8) = true) : ((c, w) : Nat × Nat).1 ≠ 0 ∧ ((c, w) : Nat × Nat).1 < 8 := of_decide_eq_true h
theorem tg_er {c v k : Nat} {un : Bool} {D : Wo} (h : tg c un v D = .error k) : k ≠ 0 ∧ k < 8 := by
  unfold tg at h
  split at h
  · cases h; decide
  · split at h
    · cases h
    · cases h; decide
theorem grD_ok {b : Nat → Nat} {q c n m : Nat} (hc : c < n) : ∀ {f p : Nat} {un : Bool} {D : Wo} {x : Nat × Wo}, p ≤ q → DIn D n m → gr b q c f p un D = .ok x → DIn x.2 n m ∧ p ≤ x.1 ∧ x.1 ≤ q
  | 0, p, un, D, x, _, _, h => by rw [gr] at h; cases h
  | f + 1, p, un, D, x, hp, hI, h => by
    have h1 := tS_le b hp
    have h2 := tE_ge b hp
    rw [gr] at h
    split at h
    · cases h
    · split at h
      · split at h
        · cases h
        · next D2 ht =>
          have := grD_ok hc h2.2 (tg_ok hI hc ht) h
          exact ⟨this.1, by omega, this.2.2⟩
      · split at h
        · split at h
          · have := grD_ok hc h2.2 hI h
            exact ⟨this.1, by omega, this.2.2⟩
          · cases h
        · split at h
          · cases h
          · cases h; exact ⟨hI, Nat.le_refl _, hp⟩
theorem grD_er {b : Nat → Nat} {q c : Nat} : ∀ {f p : Nat} {un : Bool} {D : Wo} {e : Nat × Nat}, gr b q c f p un D = .error e → e.1 ≠ 0 ∧ e.1 < 8
  | 0, p, un, D, e, h => by rw [gr] at h; cases h; exact er8 rfl
  | f + 1, p, un, D, e, h => by
    rw [gr] at h
    split at h
    · cases h; exact er8 rfl
    · split at h
      · split at h
        · next k ht => cases h; exact tg_er ht
        · exact grD_er h
      · split at h
        · split at h
          · exact grD_er h
          · cases h; exact er8 rfl
        · split at h
          · cases h; exact er8 rfl
          · cases h
theorem rdN_er {b : Nat → Nat} {q p : Nat} {lo hi : Int32} {e : Nat × Nat} (h : rdN b q p lo hi = .error e) : e.1 ≠ 0 ∧ e.1 < 8 := by
  unfold rdN at h
  split at h
  · cases h; exact er8 rfl
  · split at h
    · cases h; exact er8 rfl
    · split at h
      · cases h
      · cases h; exact er8 rfl
theorem din_cD {D : Wo} {n m f t y : Nat} {sd : Int32} (hI : DIn D n m) (hn : n < 8) (ht : t ≤ 9) : DIn (cD sd n f t y D) (n + 1) m := by
  refine ⟨hn, hI.m6, rfl, hI.hm, fun c hc => ?_, hI.sa, hI.dy, hI.pl, hI.en, hI.dt, hI.se⟩
  by_cases e : c = n
  · subst e
    exact ⟨⟨t, by omega, by simp [cD, w2]⟩, ⟨0, Nat.two_pow_pos _, by simp [cD, w2]; rfl⟩⟩
  · have h1 : cD sd n f t y D 13 c = D 13 c := by simp [cD, w2, e]
    have h2 : cD sd n f t y D 15 c = D 15 c := by simp [cD, w2, e]
    rw [h1, h2]; exact hI.cl c (by omega)
theorem bCl_ok {b : Nat → Nat} {q n m s p : Nat} {sd : Int32} {D : Wo} {x : Nat × Wo} (hp : p ≤ q) (hI : DIn D n m) (h : bCl b q sd n s p D = .ok x) : (∃ n2 m2, DIn x.2 n2 m2) ∧ p ≤ x.1 ∧ x.1 ≤ q := by
  have h1 := tE_ge b hp
  have h2 := tE_ge b h1.2
  have h3 := tE_ge b h2.2
  have s1 := tS_le b hp
  have s2 := tS_le b h1.2
  have s3 := tS_le b h2.2
  unfold bCl at h
  split at h
  · cases h
  · next hn =>
    split at h
    · cases h
    · next f hf =>
      split at h
      · cases h
      · next t ht =>
        split at h
        · cases h
        · next y hy =>
          have := grD_ok (Nat.lt_succ_self n) h3.2 (din_cD hI (by omega) (rdN_le (h := 9) (by decide) ht)) h
          exact ⟨⟨_, _, this.1⟩, by omega, this.2.2⟩
theorem bCl_er {b : Nat → Nat} {q n s p : Nat} {sd : Int32} {D : Wo} {e : Nat × Nat} (h : bCl b q sd n s p D = .error e) : e.1 ≠ 0 ∧ e.1 < 8 := by
  unfold bCl at h
  split at h
  · cases h; exact er8 rfl
  · split at h
    · next h1 => cases h; exact rdN_er h1
    · split at h
      · next h1 => cases h; exact rdN_er h1
      · split at h
        · next h1 => cases h; exact rdN_er h1
        · exact grD_er h
theorem bEn_ok {b : Nat → Nat} {q n m s p : Nat} {D : Wo} {x : Nat × Wo} (hp : p ≤ q) (hI : DIn D n m) (h : bEn b q s p D = .ok x) : (∃ n2 m2, DIn x.2 n2 m2) ∧ p ≤ x.1 ∧ x.1 ≤ q := by
  have h1 := tE_ge b hp
  have s1 := tS_le b hp
  unfold bEn at h
  split at h
  · cases h
  · split at h
    · cases h
    · next v hv =>
      cases h
      have := rdN_le (h := 7) (by decide) hv
      exact ⟨⟨n, m, ⟨hI.n8, hI.m6, hI.hn, hI.hm, hI.cl, hI.sa, hI.dy, hI.pl, Or.inr ⟨rfl, ⟨v, by omega, rfl⟩⟩, hI.dt, hI.se⟩⟩, by show p ≤ tE b q p; omega, h1.2⟩
theorem bEn_er {b : Nat → Nat} {q s p : Nat} {D : Wo} {e : Nat × Nat} (h : bEn b q s p D = .error e) : e.1 ≠ 0 ∧ e.1 < 8 := by
  unfold bEn at h
  split at h
  · cases h; exact er8 rfl
  · split at h
    · next h1 => cases h; exact rdN_er h1
    · cases h
theorem bDy_ok {b : Nat → Nat} {q n m s p : Nat} {D : Wo} {x : Nat × Wo} (hp : p ≤ q) (hI : DIn D n m) (h : bDy b q s p D = .ok x) : (∃ n2 m2, DIn x.2 n2 m2) ∧ p ≤ x.1 ∧ x.1 ≤ q := by
  have h1 := tE_ge b hp
  have s1 := tS_le b hp
  unfold bDy at h
  split at h
  · cases h
  · split at h
    · cases h
    · next v hv =>
      cases h
      have := rdN_le (h := 9) (by decide) hv
      exact ⟨⟨n, m, ⟨hI.n8, hI.m6, hI.hn, hI.hm, hI.cl, hI.sa, ⟨v, by omega, rfl⟩, hI.pl, hI.en, Or.inr rfl, hI.se⟩⟩, by show p ≤ tE b q p; omega, h1.2⟩
theorem bDy_er {b : Nat → Nat} {q s p : Nat} {D : Wo} {e : Nat × Nat} (h : bDy b q s p D = .error e) : e.1 ≠ 0 ∧ e.1 < 8 := by
  unfold bDy at h
  split at h
  · cases h; exact er8 rfl
  · split at h
    · next h1 => cases h; exact rdN_er h1
    · cases h
theorem bPl_ok {b : Nat → Nat} {q n m s p : Nat} {D : Wo} {x : Nat × Wo} (hp : p ≤ q) (hI : DIn D n m) (h : bPl b q m s p D = .ok x) : (∃ n2 m2, DIn x.2 n2 m2) ∧ p ≤ x.1 ∧ x.1 ≤ q := by
  have h1 := tE_ge b hp
  have s1 := tS_le b hp
  unfold bPl at h
  split at h
  · cases h
  · split at h
    · cases h
    · next hm v hv =>
      cases h
      have := rdN_le (h := 7) (by decide) hv
      refine ⟨⟨n, m + 1, ⟨hI.n8, by omega, hI.hn, rfl, hI.cl, hI.sa, hI.dy, fun i hi => ?_, hI.en, hI.dt, hI.se⟩⟩, by show p ≤ tE b q p; omega, h1.2⟩
      by_cases e : i = m
      · subst e; exact ⟨v, by omega, by simp [w2]⟩
      · show Bd (w2 (w2 D 17 m (nI v)) 10 13 (nI (m + 1)) 17 i) 8
        rw [show w2 (w2 D 17 m (nI v)) 10 13 (nI (m + 1)) 17 i = D 17 i by simp [w2, e]]; exact hI.pl i (by omega)
theorem bPl_er {b : Nat → Nat} {q m s p : Nat} {D : Wo} {e : Nat × Nat} (h : bPl b q m s p D = .error e) : e.1 ≠ 0 ∧ e.1 < 8 := by
  unfold bPl at h
  split at h
  · cases h; exact er8 rfl
  · split at h
    · next h1 => cases h; exact rdN_er h1
    · cases h
theorem bSa_ok {b : Nat → Nat} {q n m p : Nat} {D : Wo} {x : Nat × Wo} (hp : p ≤ q) (hI : DIn D n m) (h : bSa b q p D = .ok x) : (∃ n2 m2, DIn x.2 n2 m2) ∧ p ≤ x.1 ∧ x.1 ≤ q := by
  have h1 := tE_ge b hp
  have s1 := tS_le b hp
  unfold bSa at h
  split at h
  · cases h
  · next v hv =>
    have := rdN_le (h := 7) (by decide) hv
    split at h
    · cases h
    · cases h
      exact ⟨⟨n, m, ⟨hI.n8, hI.m6, hI.hn, hI.hm, hI.cl, bd_or (n := 8) (by decide) hI.sa (by omega), hI.dy, hI.pl, hI.en, hI.dt, hI.se⟩⟩, by show p ≤ tE b q p; omega, h1.2⟩
theorem bSa_er {b : Nat → Nat} {q p : Nat} {D : Wo} {e : Nat × Nat} (h : bSa b q p D = .error e) : e.1 ≠ 0 ∧ e.1 < 8 := by
  unfold bSa at h
  split at h
  · next h1 => cases h; exact rdN_er h1
  · split at h
    · cases h; exact er8 rfl
    · cases h
theorem rdT_ok {b : Nat → Nat} {q p p2 : Nat} (hp : p ≤ q) (h : rdT b q p = .ok p2) : p < p2 ∧ p2 ≤ q := by
  have h1 := tE_ge b hp
  have s1 := tS_le b hp
  unfold rdT at h
  split at h
  · cases h
  · split at h
    · next h3 =>
      cases h
      have := tE_gt (b := b) (q := q) (p := p) (by omega)
      omega
    · cases h
theorem rdT_er {b : Nat → Nat} {q p : Nat} {e : Nat × Nat} (h : rdT b q p = .error e) : e.1 ≠ 0 ∧ e.1 < 8 := by
  unfold rdT at h
  split at h
  · cases h; exact er8 rfl
  · split at h
    · cases h
    · cases h; exact er8 rfl
theorem lnb_ok {b : Nat → Nat} {q n m p0 : Nat} {D : Wo} {x : Nat × Wo} (hp : p0 ≤ q) (hI : DIn D n m) (h : ln b q n m p0 D = .ok x) : (∃ n2 m2, DIn x.2 n2 m2) ∧ p0 ≤ x.1 ∧ x.1 ≤ q := by
  have h1 := tE_ge b hp
  have s1 := tS_le b hp
  have key : (∃ n2 m2, DIn x.2 n2 m2) ∧ tE b q p0 ≤ x.1 ∧ x.1 ≤ q := by
    unfold ln at h
    repeat' split at h
    · exact bCl_ok h1.2 hI h
    · exact bCl_ok h1.2 hI h
    · exact bCl_ok h1.2 hI h
    · exact bEn_ok h1.2 hI h
    · exact bPl_ok h1.2 hI h
    · exact bSa_ok h1.2 hI h
    · exact bDy_ok h1.2 hI h
    · cases h
  exact ⟨key.1, by omega, key.2.2⟩
theorem lnb_er {b : Nat → Nat} {q n m p0 : Nat} {D : Wo} {e : Nat × Nat} (h : ln b q n m p0 D = .error e) : e.1 ≠ 0 ∧ e.1 < 8 := by
  unfold ln at h
  repeat' split at h
  · exact bCl_er h
  · exact bCl_er h
  · exact bCl_er h
  · exact bEn_er h
  · exact bPl_er h
  · exact bSa_er h
  · exact bDy_er h
  · cases h; exact er8 rfl
theorem ln_ok {b : Nat → Nat} {q n m p0 : Nat} {D : Wo} {x : Nat × Wo} (hp : p0 ≤ q) (hI : DIn D n m) (hk : ¬ tK b q p0 = 0) (h : thenS b q (ln b q n m p0 D) = .ok x) : ∃ n2 m2, DIn x.2 n2 m2 ∧ (p0 < x.1 ∧ x.1 ≤ q) := by
  unfold thenS at h
  split at h
  · cases h
  · next y hy =>
    split at h
    · cases h
    · next p2 hp2 =>
      cases h
      obtain ⟨⟨n2, m2, a⟩, a2, a3⟩ := lnb_ok hp hI hy
      have := rdT_ok a3 hp2
      exact ⟨n2, m2, a, by show p0 < p2; omega, this.2⟩
theorem ln_er {b : Nat → Nat} {q n m p0 : Nat} {D : Wo} {e : Nat × Nat} (h : thenS b q (ln b q n m p0 D) = .error e) : e.1 ≠ 0 ∧ e.1 < 8 := by
  unfold thenS at h
  split at h
  · next hy => cases h; exact lnb_er hy
  · split at h
    · next hy => cases h; exact rdT_er hy
    · cases h
def dn (D : Wo) : Nat := (D 10 9).toNatClampNeg
def dm (D : Wo) : Nat := (D 10 13).toNatClampNeg
theorem dn_eq {D : Wo} {n m : Nat} (h : DIn D n m) : dn D = n := by rw [dn, h.hn, nI_clamp (by have := h.n8; omega)]
theorem dm_eq {D : Wo} {n m : Nat} (h : DIn D n m) : dm D = m := by rw [dm, h.hm, nI_clamp (by have := h.m6; omega)]
/-- all lines, from the place p on -/
def tl (b : Nat → Nat) (q : Nat) : Nat → Nat → Wo → Nat → Except (Nat × Nat) (Nat × Wo)
  | 0, _, _, _ => .error (2, 0)
  | f + 1, p, D, k => if tB b q p = true then .error (1, tS b q p) else if tK b q p = 0 then .ok (k, D) else match thenS b q (ln b q (dn D) (dm D) p D) with
    | .error e => .error e
    | .ok x => tl b q f x.1 x.2 (k + 1)
def clD (n : Nat) (D : Wo) : Wo := if D 39 8 = 0 then w2 D 10 10 (if n = 0 then -4 else nI n - 1) else D
def okD (n m : Nat) (D : Wo) : Bool := cOK (2 ^ n) (D 10 12) && (decide (D 39 8 = 0) || cOK n (D 10 10)) && allF (fun i => cOK n (D 17 i)) m
def dr0 (I : Wo) : Wo := w2 (w2 (w2 (w2 (w2 (w2 (w2 (w2 I 10 9 0) 10 10 (-4)) 10 11 0) 10 12 0) 10 13 0) 10 14 0) 39 8 0) 39 9 0
def txR (b : Nat → Nat) (q : Nat) (D0 : Wo) : Except (Nat × Nat) (Nat × Wo) := match tl b q 161 0 D0 0 with
  | .error e => .error e
  | .ok x => if okD (dn x.2) (dm x.2) x.2 = true then .ok (x.1, clD (dn x.2) x.2) else .error (6, q)
def TlR (I : Wo) (r : Int32) (u : Wo) : Except (Nat × Nat) (Nat × Wo) → Prop
  | .error e => e.1 ≠ 0 ∧ e.1 < 8 ∧ u 39 1 = 0 ∧ u 39 2 = nI e.1 ∧ u 39 3 = nI e.2 ∧ (∀ x y, x ≠ 39 → (x < 10 ∨ 18 < x) → u x y = I x y)
  | .ok x => r = nI x.1 ∧ u 39 1 = 0 ∧ u 39 2 = 0 ∧ DE u x.2 ∧ (∀ x y, x ≠ 39 → (x < 10 ∨ 18 < x) → u x y = I x y)
def TxR (I : Wo) (r : Int32) (u : Wo) : Except (Nat × Nat) (Nat × Wo) → Prop
  | .error e => r = (-10) - nI e.2 ∧ u 0 10 = nI e.1 ∧ u 39 1 = 0 ∧ (∀ x y, x ≠ 39 → (x < 10 ∨ 18 < x) → ¬ (x = 0 ∧ y = 10) → u x y = I x y)
  | .ok x => r = nI x.1 ∧ u 0 10 = 0 ∧ u 39 1 = 0 ∧ ((∀ i, 1 ≤ i → i ≤ 6 → ∀ k, k < 8 → u (1 + i) k = x.2 (10 + i) k) ∧ (∀ i, 7 ≤ i → i ≤ 8 → ∀ k, k < 6 → u (1 + i) k = x.2 (10 + i) k) ∧ (∀ k, 8 ≤ k → k ≤ 14 → u 1 k = x.2 10 k)) ∧ (∀ j, j < 2 → u 38 j = 0) ∧ (∀ x y, x ≠ 39 → (x = 0 ∨ 18 < x) → x ≠ 38 → ¬ (x = 0 ∧ y = 10) → u x y = I x y)
theorem TlR.ok {I u : Wo} {r : Int32} {x : Except (Nat × Nat) (Nat × Wo)} (h : TlR I r u x) (h0 : u 39 2 = 0) : ∃ k D, x = .ok (k, D) ∧ r = nI k ∧ (u 39 1 = 0 ∧ DE u D ∧ (∀ x y, x ≠ 39 → (x < 10 ∨ 18 < x) → u x y = I x y)) := by
  cases x with
  | error e =>
    obtain ⟨a1, a2, a3, a4, -⟩ := h
    rw [h0, show (0 : Int32) = nI 0 from rfl, nI_eq (by decide) (by omega)] at a4
    exact absurd a4.symm a1
  | ok x => exact ⟨x.1, x.2, rfl, h.1, h.2.1, h.2.2.2.1, h.2.2.2.2⟩
theorem TlR.er {I u : Wo} {r : Int32} {x : Except (Nat × Nat) (Nat × Wo)} (h : TlR I r u x) (h0 : ¬ u 39 2 = 0) : ∃ e, x = .error e ∧ (u 39 1 = 0 ∧ u 39 2 = nI e.1 ∧ u 39 3 = nI e.2 ∧ (∀ x y, x ≠ 39 → (x < 10 ∨ 18 < x) → u x y = I x y)) := by
  cases x with
  | error e => exact ⟨e, rfl, h.2.2⟩
  | ok x => exact absurd h.2.2.1 h0
theorem cr_ne {I u : Wo} {r : Int32} {x : Except (Nat × Nat) (Nat × Wo)} (h : CR I r u x) (h0 : ¬ r = 0) : ∃ y, x = .ok y ∧ CR I r u (.ok y) := by
  cases x with
  | error e => exact absurd h.1 h0
  | ok x => exact ⟨x, rfl, h⟩
theorem cr_eq {I u : Wo} {r : Int32} {x : Except (Nat × Nat) (Nat × Wo)} (h : CR I r u x) (h0 : r = 0) : ∃ e, x = .error e ∧ CR I r u (.error e) := by
  cases x with
  | error e => exact ⟨e, rfl, h⟩
  | ok x => exact absurd (h.1.symm.trans h0) (by decide)
theorem de_0 {I : Wo} : DE (w2 (w2 (w2 (w2 (w2 (w2 (w2 (w2 (w2 (w2 (w2 I 10 9 0) 10 10 (-4)) 10 11 0) 10 12 0) 10 13 0) 10 14 0) 39 2 0) 39 3 0) 39 6 0) 39 8 0) 39 9 0) (dr0 I) := by
  refine ⟨fun x y a b => ?_, rfl, rfl⟩
  have hx : x ≠ 39 := by omega
  simp only [dr0, w2, hx, false_and, ↓reduceIte]
theorem frC_tell {I : Wo} : FrC I (w2 (w2 (w2 (w2 (w2 (w2 (w2 (w2 (w2 (w2 (w2 I 10 9 0) 10 10 (-4)) 10 11 0) 10 12 0) 10 13 0) 10 14 0) 39 2 0) 39 3 0) 39 6 0) 39 8 0) 39 9 0) :=
  frC_w2 (Or.inr ⟨rfl, by decide⟩) (frC_w2 (Or.inr ⟨rfl, by decide⟩) (frC_w2 (Or.inr ⟨rfl, by decide⟩) (frC_w2 (Or.inr ⟨rfl, by decide⟩) (frC_w2 (Or.inr ⟨rfl, by decide⟩) (frC_w2 (Or.inl (by decide)) (frC_w2 (Or.inl (by decide)) (frC_w2 (Or.inl (by decide)) (frC_w2 (Or.inl (by decide)) (frC_w2 (Or.inl (by decide)) (frC_w2 (Or.inl (by decide)) frC_0))))))))))
theorem din_0 {I : Wo} : DIn (dr0 I) 0 0 := ⟨by decide, by decide, rfl, rfl, fun c h => absurd h (Nat.not_lt_zero c), ⟨0, by decide, rfl⟩, ⟨0, by decide, rfl⟩, fun c h => absurd h (Nat.not_lt_zero c), Or.inl ⟨rfl, rfl⟩, Or.inl rfl, rfl⟩
theorem FrC.f {I u : Wo} (h : FrC I u) : ∀ x y, x ≠ 39 → (x < 10 ∨ 18 < x) → u x y = I x y := fun x y a b => h x y (fun e => absurd e a) b
theorem tlr_e {I V : Wo} {b : Nat → Nat} {q : Nat} {r : Int32} {e : Nat × Nat} (h : tl b q 161 0 (dr0 I) 0 = .error e) (e0 : e.1 ≠ 0) (e8 : e.1 < 8) (e2 : V 39 2 = nI e.1) (e3 : V 39 3 = nI e.2) (hF : FrC I V) : TlR I r (w2 V 39 1 0) (txR b q (dr0 I)) := by
  rw [txR, h]
  exact ⟨e0, e8, rfl, e2, e3, fun x y a c => (w2_cell _ _ a).trans (hF.f x y a c)⟩
theorem tlr_o {I V u D : Wo} {b : Nat → Nat} {q n m k : Nat} (h : tl b q 161 0 (dr0 I) 0 = .ok (k, D)) (hI : DIn D n m) (h2 : V 39 2 = 0) (hu : (okD n m D = true ∧ DE u (clD n D) ∧ (∀ y, u 39 y = V 39 y) ∧ FrC V u) ∨ (okD n m D = false ∧ u 39 2 = 6 ∧ u 39 3 = nI q ∧ u 39 1 = nI q ∧ FrC V u)) (hF : FrC I V) : TlR I (nI k) (w2 u 39 1 0) (txR b q (dr0 I)) := by
  rw [txR, h]
  simp only [dn_eq hI, dm_eq hI]
  rcases hu with ⟨a1, a2, a3, a4⟩ | ⟨a1, a2, a3, -, a4⟩
  · rw [if_pos a1]
    exact ⟨rfl, rfl, (a3 2).trans h2, ⟨fun x y p1 p2 => (w2_cell _ _ (by omega)).trans (a2.1 x y p1 p2), a2.2.1, a2.2.2⟩, fun x y a c => (w2_cell _ _ a).trans ((hF.trans a4).f x y a c)⟩
  · rw [if_neg (by rw [a1]; decide)]
    exact ⟨(er8 (w := q) rfl).1, (er8 (w := q) rfl).2, rfl, a2, a3, fun x y a c => (w2_cell _ _ a).trans ((hF.trans a4).f x y a c)⟩
theorem txr_o {I u v V D : Wo} {k : Nat} {f9 : Int32} (hu : u 39 1 = 0 ∧ DE u D ∧ (∀ x y, x ≠ 39 → (x < 10 ∨ 18 < x) → u x y = I x y)) (hv : BecR (w2 u 0 10 f9) v 1 10) (hf : f9 = 0) (hV : ∀ x y, x ≠ 38 → V x y = v x y) (hk : ∀ j, j < 2 → V 38 j = 0) : TxR I (nI k) V (.ok (k, D)) := by
  obtain ⟨b1, b2, b3, b4⟩ := hv
  obtain ⟨u1, u2, u3⟩ := hu
  refine ⟨rfl, ?_, ?_, ⟨fun i h1 h2 j hj => ?_, fun i h1 h2 j hj => ?_, fun j h1 h2 => ?_⟩, hk, fun x y h1 h2 h3 h4 => ?_⟩
  · rw [hV 0 10 (by decide), b4 0 10 (Or.inl (by decide)), w2_same, hf]
  · rw [hV 39 1 (by decide), b4 39 1 (Or.inr (by decide)), w2_cell _ _ (by decide)]; exact u1
  · rw [hV _ _ (by omega), b1 i h1 h2 j hj, w2_cell _ _ (by omega)]; exact u2.1 _ _ (by omega) (by omega)
  · rw [hV _ _ (by omega), b2 i h1 h2 j hj, w2_cell _ _ (by omega)]; exact u2.1 _ _ (by omega) (by omega)
  · rw [hV _ _ (by omega), b3 j h1 h2, w2_cell _ _ (by omega)]; exact u2.1 _ _ (by omega) (by omega)
  · rw [hV _ _ h3, b4 x y (by omega), show w2 u 0 10 f9 x y = u x y from if_neg h4]; exact u3 x y h1 (by omega)
set_option maxHeartbeats 4000000 in
set_option maxRecDepth 100000 in
theorem ct_X4_readLine {I D : Wo} {b : Nat → Nat} {q p0 n m : Nat} (hT : TB I b q) (hpq : p0 ≤ q) (hk4 : I 39 4 = nI (tK b q p0)) (hs5 : I 39 5 = nI (tS b q p0)) (he6 : I 39 6 = nI (tE b q p0)) (hD : DE I D) (hI : DIn D n m) : Ct yX4_readLine cX4_readLine 2 (some .boolean) 9 197 [.ref 39, .ref 10] I (pI (fun r u => CR I r u (thenS b q (ln b q n m p0 D)))) := by
  have hE := tE_ge b hpq
  have hK4 := tK_le b q p0
  refine ct_of RX4 rfl (by decide) (Nat.le_of_ble_eq_true rfl) (fun X B E => ?_)
  show GW X 2 0 [some (.ref 39), some (.ref 10)] [] _
  refine g_aload_n B dX4_readLine_0 rfl ?_
  refine g_ldcS B (i := 0) (by decide) dX4_readLine_1 ?_
  refine g_callVI B (ct_X4_isWord (i := 0) hT (by decide) hk4 hK4 hs5 he6 hE.1 hE.2) (by first | rfl | assumption) rfl ml_X4_84 mm_X4_isWord rfl rfl (Nat.le_of_ble_eq_true rfl) dX4_readLine_3 (by decide) ?_
  rintro _ _ ⟨rfl, rfl⟩
  refine g_if_eq B 16 dX4_readLine_6 (by decide) (fun h6 => ?_) (fun h6 => ?_)
  · rw [bI_eq0] at h6
    refine g_aload_n B dX4_readLine_16 rfl ?_
    refine g_ldcS B (i := 1) (by decide) dX4_readLine_17 ?_
    refine g_callVI B (ct_X4_isWord (i := 1) hT (by decide) hk4 hK4 hs5 he6 hE.1 hE.2) (by first | rfl | assumption) rfl ml_X4_84 mm_X4_isWord rfl rfl (Nat.le_of_ble_eq_true rfl) dX4_readLine_19 (by decide) ?_
    rintro _ _ ⟨rfl, rfl⟩
    refine g_if_eq B 32 dX4_readLine_22 (by decide) (fun h22 => ?_) (fun h22 => ?_)
    · rw [bI_eq0] at h22
      refine g_aload_n B dX4_readLine_32 rfl ?_
      refine g_ldcS B (i := 2) (by decide) dX4_readLine_33 ?_
      refine g_callVI B (ct_X4_isWord (i := 2) hT (by decide) hk4 hK4 hs5 he6 hE.1 hE.2) (by first | rfl | assumption) rfl ml_X4_84 mm_X4_isWord rfl rfl (Nat.le_of_ble_eq_true rfl) dX4_readLine_35 (by decide) ?_
      rintro _ _ ⟨rfl, rfl⟩
      refine g_if_eq B 48 dX4_readLine_38 (by decide) (fun h38 => ?_) (fun h38 => ?_)
      · rw [bI_eq0] at h38
        refine g_aload_n B dX4_readLine_48 rfl ?_
        refine g_ldcS B (i := 3) (by decide) dX4_readLine_49 ?_
        refine g_callVI B (ct_X4_isWord (i := 3) hT (by decide) hk4 hK4 hs5 he6 hE.1 hE.2) (by first | rfl | assumption) rfl ml_X4_84 mm_X4_isWord rfl rfl (Nat.le_of_ble_eq_true rfl) dX4_readLine_51 (by decide) ?_
        rintro _ _ ⟨rfl, rfl⟩
        refine g_if_eq B 63 dX4_readLine_54 (by decide) (fun h54 => ?_) (fun h54 => ?_)
        · rw [bI_eq0] at h54
          refine g_aload_n B dX4_readLine_63 rfl ?_
          refine g_ldcS B (i := 4) (by decide) dX4_readLine_64 ?_
          refine g_callVI B (ct_X4_isWord (i := 4) hT (by decide) hk4 hK4 hs5 he6 hE.1 hE.2) (by first | rfl | assumption) rfl ml_X4_84 mm_X4_isWord rfl rfl (Nat.le_of_ble_eq_true rfl) dX4_readLine_66 (by decide) ?_
          rintro _ _ ⟨rfl, rfl⟩
          refine g_if_eq B 78 dX4_readLine_69 (by decide) (fun h69 => ?_) (fun h69 => ?_)
          · rw [bI_eq0] at h69
            refine g_aload_n B dX4_readLine_78 rfl ?_
            refine g_ldcS B (i := 5) (by decide) dX4_readLine_79 ?_
            refine g_callVI B (ct_X4_isWord (i := 5) hT (by decide) hk4 hK4 hs5 he6 hE.1 hE.2) (by first | rfl | assumption) rfl ml_X4_84 mm_X4_isWord rfl rfl (Nat.le_of_ble_eq_true rfl) dX4_readLine_81 (by decide) ?_
            rintro _ _ ⟨rfl, rfl⟩
            refine g_if_eq B 93 dX4_readLine_84 (by decide) (fun h84 => ?_) (fun h84 => ?_)
            · rw [bI_eq0] at h84
              refine g_aload_n B dX4_readLine_93 rfl ?_
              refine g_ldcS B (i := 6) (by decide) dX4_readLine_94 ?_
              refine g_callVI B (ct_X4_isWord (i := 6) hT (by decide) hk4 hK4 hs5 he6 hE.1 hE.2) (by first | rfl | assumption) rfl ml_X4_84 mm_X4_isWord rfl rfl (Nat.le_of_ble_eq_true rfl) dX4_readLine_96 (by decide) ?_
              rintro _ _ ⟨rfl, rfl⟩
              refine g_if_eq B 108 dX4_readLine_99 (by decide) (fun h99 => ?_) (fun h99 => ?_)
              · rw [bI_eq0] at h99
                refine g_aload_n B dX4_readLine_108 rfl ?_
                refine g_iconst B (v := 2) dX4_readLine_109 (by decide) ?_
                refine g_aload_n B dX4_readLine_110 rfl ?_
                refine g_geti B ci_X4 (by first | rfl | assumption) rfl (by decide) fl_X4_113 dX4_readLine_111 ?_
                rw [hs5]
                refine g_callVI B (ct_X4_refuse _ _) (by first | rfl | assumption) rfl ml_X4_78 mm_X4_refuse rfl rfl (Nat.le_of_ble_eq_true rfl) dX4_readLine_114 (by decide) ?_
                rintro _ _ ⟨rfl, rfl⟩
                exact g_iret B E rfl dX4_readLine_117 (by rw [ln, if_neg (by rw [h6]; decide), if_neg (by rw [h22]; decide), if_neg (by rw [h38]; decide), if_neg (by rw [h54]; decide), if_neg (by rw [h69]; decide), if_neg (by rw [h84]; decide), if_neg (by rw [h99]; decide)]; exact ⟨rfl, rfl, rfl, frC_w2 (Or.inr ⟨rfl, by decide⟩) (frC_w2 (Or.inr ⟨rfl, by decide⟩) frC_0)⟩)
              · rw [bI_ne0] at h99
                refine g_aload_n B dX4_readLine_102 rfl ?_
                refine g_aload_n B dX4_readLine_103 rfl ?_
                refine g_callVI B (ct_X4_readDay hT he6 hE.2 hD hs5) (by first | rfl | assumption) rfl ml_X4_110 mm_X4_readDay rfl rfl (Nat.le_of_ble_eq_true rfl) dX4_readLine_104 (by decide) ?_
                intro r u hu
                exact g_iret B E (cr_nar hu) dX4_readLine_107 (by rw [ln, if_neg (by rw [h6]; decide), if_neg (by rw [h22]; decide), if_neg (by rw [h38]; decide), if_neg (by rw [h54]; decide), if_neg (by rw [h69]; decide), if_neg (by rw [h84]; decide), if_pos h99]; exact hu)
            · rw [bI_ne0] at h84
              refine g_aload_n B dX4_readLine_87 rfl ?_
              refine g_aload_n B dX4_readLine_88 rfl ?_
              refine g_callVI B (ct_X4_readSaid hT he6 hE.2 hD) (by first | rfl | assumption) rfl ml_X4_105 mm_X4_readSaid rfl rfl (Nat.le_of_ble_eq_true rfl) dX4_readLine_89 (by decide) ?_
              intro r u hu
              exact g_iret B E (cr_nar hu) dX4_readLine_92 (by rw [ln, if_neg (by rw [h6]; decide), if_neg (by rw [h22]; decide), if_neg (by rw [h38]; decide), if_neg (by rw [h54]; decide), if_neg (by rw [h69]; decide), if_pos h84]; exact hu)
          · rw [bI_ne0] at h69
            refine g_aload_n B dX4_readLine_72 rfl ?_
            refine g_aload_n B dX4_readLine_73 rfl ?_
            refine g_callVI B (ct_X4_readPlan hT he6 hE.2 hD hs5 hI.hm hI.m6) (by first | rfl | assumption) rfl ml_X4_101 mm_X4_readPlan rfl rfl (Nat.le_of_ble_eq_true rfl) dX4_readLine_74 (by decide) ?_
            intro r u hu
            exact g_iret B E (cr_nar hu) dX4_readLine_77 (by rw [ln, if_neg (by rw [h6]; decide), if_neg (by rw [h22]; decide), if_neg (by rw [h38]; decide), if_neg (by rw [h54]; decide), if_pos h69]; exact hu)
        · rw [bI_ne0] at h54
          refine g_aload_n B dX4_readLine_57 rfl ?_
          refine g_aload_n B dX4_readLine_58 rfl ?_
          refine g_callVI B (ct_X4_readEnd hT he6 hE.2 hD hs5) (by first | rfl | assumption) rfl ml_X4_97 mm_X4_readEnd rfl rfl (Nat.le_of_ble_eq_true rfl) dX4_readLine_59 (by decide) ?_
          intro r u hu
          exact g_iret B E (cr_nar hu) dX4_readLine_62 (by rw [ln, if_neg (by rw [h6]; decide), if_neg (by rw [h22]; decide), if_neg (by rw [h38]; decide), if_pos h54]; exact hu)
      · rw [bI_ne0] at h38
        refine g_aload_n B dX4_readLine_41 rfl ?_
        refine g_aload_n B dX4_readLine_42 rfl ?_
        refine g_iconst B (v := 2) dX4_readLine_43 (by decide) ?_
        refine g_callVI B (ct_X4_readClaim hT he6 hE.2 hD hs5 hI.hn hI.n8 2) (by first | rfl | assumption) rfl ml_X4_88 mm_X4_readClaim rfl rfl (Nat.le_of_ble_eq_true rfl) dX4_readLine_44 (by decide) ?_
        intro r u hu
        exact g_iret B E (cr_nar hu) dX4_readLine_47 (by rw [ln, if_neg (by rw [h6]; decide), if_neg (by rw [h22]; decide), if_pos h38]; exact hu)
    · rw [bI_ne0] at h22
      refine g_aload_n B dX4_readLine_25 rfl ?_
      refine g_aload_n B dX4_readLine_26 rfl ?_
      refine g_iconst B (v := 1) dX4_readLine_27 (by decide) ?_
      refine g_callVI B (ct_X4_readClaim hT he6 hE.2 hD hs5 hI.hn hI.n8 1) (by first | rfl | assumption) rfl ml_X4_88 mm_X4_readClaim rfl rfl (Nat.le_of_ble_eq_true rfl) dX4_readLine_28 (by decide) ?_
      intro r u hu
      exact g_iret B E (cr_nar hu) dX4_readLine_31 (by rw [ln, if_neg (by rw [h6]; decide), if_pos h22]; exact hu)
  · rw [bI_ne0] at h6
    refine g_aload_n B dX4_readLine_9 rfl ?_
    refine g_aload_n B dX4_readLine_10 rfl ?_
    refine g_iconst B (v := 0) dX4_readLine_11 (by decide) ?_
    refine g_callVI B (ct_X4_readClaim hT he6 hE.2 hD hs5 hI.hn hI.n8 0) (by first | rfl | assumption) rfl ml_X4_88 mm_X4_readClaim rfl rfl (Nat.le_of_ble_eq_true rfl) dX4_readLine_12 (by decide) ?_
    intro r u hu
    exact g_iret B E (cr_nar hu) dX4_readLine_15 (by rw [ln, if_pos h6]; exact hu)
set_option maxHeartbeats 4000000 in
set_option maxRecDepth 100000 in
theorem ct_X4_close {I D : Wo} {q n m : Nat} (hq : I 39 1 = nI q) (hD : DE I D) (hI : DIn D n m) : Ct yX4_close cX4_close 4 none 1 22 [.ref 39, .ref 10] I (pV (fun u => (okD n m D = true ∧ DE u (clD n D) ∧ (∀ y, u 39 y = I 39 y) ∧ FrC I u) ∨ (okD n m D = false ∧ u 39 2 = 6 ∧ u 39 3 = nI q ∧ u 39 1 = nI q ∧ FrC I u))) := by
  have hn8 := hI.n8
  have hm6 := hI.m6
  have h8 : I 39 8 = D 39 8 := hD.2.1
  have hn : I 10 9 = nI n := (hD.1 10 9 (by decide) (by decide)).trans hI.hn
  refine ct_of RX4 rfl (by decide) (Nat.le_of_ble_eq_true rfl) (fun X B E => ?_)
  show GW X 4 0 [some (.ref 39), some (.ref 10), none, none] [] _
  refine g_aload_n B dX4_close_0 rfl ?_
  refine g_geti B ci_X4 (by first | rfl | assumption) rfl (by decide) fl_X4_33 dX4_close_1 ?_
  rw [h8]
  refine g_if_ne B 29 dX4_close_4 (by decide) (fun h4 => ?_) (fun h4 => ?_)
  · have hcl : clD n D = D := by rw [clD, if_neg h4]
    have J29 : ∀ (V : Wo), DE V (clD n D) → (∀ y, V 39 y = I 39 y) → FrC I V → GW X 4 29 [some (.ref 39), some (.ref 10), none, none] [] V := by
      intro V hDV h39 hFV
      have c12 : V 10 12 = D 10 12 := by rw [hDV.1 10 12 (by decide) (by decide), clD]; split <;> rfl
      have c13 : V 10 13 = nI m := by rw [← hI.hm, hDV.1 10 13 (by decide) (by decide), clD]; split <;> rfl
      have c9 : V 10 9 = nI n := by rw [← hI.hn, hDV.1 10 9 (by decide) (by decide), clD]; split <;> rfl
      have c17 : ∀ i, V 17 i = D 17 i := fun i => by rw [hDV.1 17 i (by decide) (by decide), clD]; split <;> rfl
      have c10 : ¬ D 39 8 = 0 → V 10 10 = D 10 10 := fun z => by rw [hDV.1 10 10 (by decide) (by decide), clD, if_neg z]
      refine g_aload_n B dX4_close_29 rfl ?_
      refine g_aload_n B dX4_close_30 rfl ?_
      refine g_geti B ci_X3 (by first | rfl | assumption) rfl (by decide) fl_X4_61 dX4_close_31 ?_
      rw [c12]
      refine g_callVI B (ct_X3_hasSet su_10 c9 hn8 _) (by first | rfl | assumption) rfl ml_X4_64 mm_X3_hasSet rfl rfl (Nat.le_of_ble_eq_true rfl) dX4_close_34 (by decide) ?_
      rintro _ _ ⟨rfl, rfl⟩
      refine g_if_eq B 62 dX4_close_37 (by decide) (fun h37 => ?_) (fun h37 => ?_)
      · rw [bI_eq0] at h37
        refine g_iconst B (v := 0) dX4_close_62 (by decide) ?_
        refine g_eqi (bI (cOK (2 ^ n) (D 10 12) && (decide (D 39 8 = 0) || cOK n (D 10 10)))) (by rw [h37, Bool.false_and]; rfl) ?_
        refine g_istn2 B dX4_close_63 (by decide) rfl ?_
        refine g_iconst B (v := 0) dX4_close_64 (by decide) ?_
        refine g_istn3 B dX4_close_65 (by decide) rfl ?_
        have L66 : ∀ i, i ≤ m → GW X 4 66 [some (.ref 39), some (.ref 10), some (.int (bI ((cOK (2 ^ n) (D 10 12) && (decide (D 39 8 = 0) || cOK n (D 10 10))) && allF (fun i => cOK n (D 17 i)) i))), some (.int (nI i))] [] V := by
          refine loopN m (fun i hi ih => ?_)
          refine g_iload_n B dX4_close_66 rfl ?_
          refine g_aload_n B dX4_close_67 rfl ?_
          refine g_geti B ci_X3 (by first | rfl | assumption) rfl (by decide) fl_X4_71 dX4_close_68 ?_
          rw [c13]
          refine g_icmp_ge B 103 dX4_close_71 (by decide) (fun h71 => ?_) (fun h71 => ?_)
          · have hi2 : i = m := by have := le_le (a := m) (b := i) (by omega) (by omega) h71; omega
            refine g_iload_n B dX4_close_103 rfl ?_
            refine g_if_ne B 118 dX4_close_104 (by decide) (fun h104 => ?_) (fun h104 => ?_)
            · rw [bI_ne0, hi2] at h104
              exact g_vret B E dX4_close_118 (Or.inl ⟨h104, hDV, h39, hFV⟩)
            · rw [bI_eq0, hi2] at h104
              refine g_aload_n B dX4_close_107 rfl ?_
              refine g_bipush B (v := 6) dX4_close_108 (by decide) ?_
              refine g_aload_n B dX4_close_110 rfl ?_
              refine g_geti B ci_X4 (by first | rfl | assumption) rfl (by decide) fl_X4_15 dX4_close_111 ?_
              rw [h39 1, hq]
              refine g_callVI B (ct_X4_refuse _ _) (by first | rfl | assumption) rfl ml_X4_78 mm_X4_refuse rfl rfl (Nat.le_of_ble_eq_true rfl) dX4_close_114 (by decide) ?_
              rintro _ _ ⟨rfl, rfl⟩
              refine g_pop B dX4_close_117 rfl ?_
              exact g_vret B E dX4_close_118 (Or.inr ⟨h104, rfl, rfl, by rw [w2_slot _ _ (by decide), w2_slot _ _ (by decide), h39 1, hq], frC_w2 (Or.inr ⟨rfl, by decide⟩) (frC_w2 (Or.inr ⟨rfl, by decide⟩) hFV)⟩)
          · have hlt : i < m := nle_lt (by omega) (by omega) h71
            refine g_iload_n B dX4_close_74 rfl ?_
            refine g_if_eq B 95 dX4_close_75 (by decide) (fun h75 => ?_) (fun h75 => ?_)
            · rw [bI_eq0] at h75
              refine g_iconst B (v := 0) dX4_close_95 (by decide) ?_
              refine g_eqi (bI ((cOK (2 ^ n) (D 10 12) && (decide (D 39 8 = 0) || cOK n (D 10 10))) && allF (fun i => cOK n (D 17 i)) (i + 1))) (by rw [allF, ← Bool.and_assoc, h75, Bool.false_and]; rfl) ?_
              refine g_istn2 B dX4_close_96 (by decide) rfl ?_
              refine g_inc3 B dX4_close_97 rfl (inc1 _) (by decide) rfl ?_
              refine g_goto B 66 dX4_close_100 (by decide) ?_
              exact ih hlt
            · rw [bI_ne0] at h75
              refine g_aload_n B dX4_close_78 rfl ?_
              refine g_aload_n B dX4_close_79 rfl ?_
              refine g_getr B ci_X3 (by first | rfl | assumption) rfl (by decide) fl_X4_74 dX4_close_80 ?_
              refine g_iload_n B dX4_close_83 rfl ?_
              refine g_iald B (by first | rfl | assumption) i rfl (by first | decide | omega | assumption) (by decide) dX4_close_84 ?_
              rw [c17]
              refine g_callVI B (ct_X3_hasClaim su_10 c9 _) (by first | rfl | assumption) rfl ml_X4_68 mm_X3_hasClaim rfl rfl (Nat.le_of_ble_eq_true rfl) dX4_close_85 (by decide) ?_
              rintro _ _ ⟨rfl, rfl⟩
              refine g_if_eq B 95 dX4_close_88 (by decide) (fun h88 => ?_) (fun h88 => ?_)
              · rw [bI_eq0] at h88
                refine g_iconst B (v := 0) dX4_close_95 (by decide) ?_
                refine g_eqi (bI ((cOK (2 ^ n) (D 10 12) && (decide (D 39 8 = 0) || cOK n (D 10 10))) && allF (fun i => cOK n (D 17 i)) (i + 1))) (by rw [allF, ← Bool.and_assoc, h75, h88]; rfl) ?_
                refine g_istn2 B dX4_close_96 (by decide) rfl ?_
                refine g_inc3 B dX4_close_97 rfl (inc1 _) (by decide) rfl ?_
                refine g_goto B 66 dX4_close_100 (by decide) ?_
                exact ih hlt
              · rw [bI_ne0] at h88
                refine g_iconst B (v := 1) dX4_close_91 (by decide) ?_
                refine g_goto B 96 dX4_close_92 (by decide) ?_
                refine g_eqi (bI ((cOK (2 ^ n) (D 10 12) && (decide (D 39 8 = 0) || cOK n (D 10 10))) && allF (fun i => cOK n (D 17 i)) (i + 1))) (by rw [allF, ← Bool.and_assoc, h75, h88]; rfl) ?_
                refine g_istn2 B dX4_close_96 (by decide) rfl ?_
                refine g_inc3 B dX4_close_97 rfl (inc1 _) (by decide) rfl ?_
                refine g_goto B 66 dX4_close_100 (by decide) ?_
                exact ih hlt
        have l0 := L66 0 (Nat.zero_le _)
        rw [allF, Bool.and_true] at l0
        exact l0
      · rw [bI_ne0] at h37
        refine g_aload_n B dX4_close_40 rfl ?_
        refine g_geti B ci_X4 (by first | rfl | assumption) rfl (by decide) fl_X4_33 dX4_close_41 ?_
        rw [h39 8, h8]
        refine g_if_eq B 58 dX4_close_44 (by decide) (fun h44 => ?_) (fun h44 => ?_)
        · refine g_iconst B (v := 1) dX4_close_58 (by decide) ?_
          refine g_goto B 63 dX4_close_59 (by decide) ?_
          refine g_eqi (bI (cOK (2 ^ n) (D 10 12) && (decide (D 39 8 = 0) || cOK n (D 10 10)))) (by rw [h37, decide_eq_true h44]; rfl) ?_
          refine g_istn2 B dX4_close_63 (by decide) rfl ?_
          refine g_iconst B (v := 0) dX4_close_64 (by decide) ?_
          refine g_istn3 B dX4_close_65 (by decide) rfl ?_
          have L66 : ∀ i, i ≤ m → GW X 4 66 [some (.ref 39), some (.ref 10), some (.int (bI ((cOK (2 ^ n) (D 10 12) && (decide (D 39 8 = 0) || cOK n (D 10 10))) && allF (fun i => cOK n (D 17 i)) i))), some (.int (nI i))] [] V := by
            refine loopN m (fun i hi ih => ?_)
            refine g_iload_n B dX4_close_66 rfl ?_
            refine g_aload_n B dX4_close_67 rfl ?_
            refine g_geti B ci_X3 (by first | rfl | assumption) rfl (by decide) fl_X4_71 dX4_close_68 ?_
            rw [c13]
            refine g_icmp_ge B 103 dX4_close_71 (by decide) (fun h71 => ?_) (fun h71 => ?_)
            · have hi2 : i = m := by have := le_le (a := m) (b := i) (by omega) (by omega) h71; omega
              refine g_iload_n B dX4_close_103 rfl ?_
              refine g_if_ne B 118 dX4_close_104 (by decide) (fun h104 => ?_) (fun h104 => ?_)
              · rw [bI_ne0, hi2] at h104
                exact g_vret B E dX4_close_118 (Or.inl ⟨h104, hDV, h39, hFV⟩)
              · rw [bI_eq0, hi2] at h104
                refine g_aload_n B dX4_close_107 rfl ?_
                refine g_bipush B (v := 6) dX4_close_108 (by decide) ?_
                refine g_aload_n B dX4_close_110 rfl ?_
                refine g_geti B ci_X4 (by first | rfl | assumption) rfl (by decide) fl_X4_15 dX4_close_111 ?_
                rw [h39 1, hq]
                refine g_callVI B (ct_X4_refuse _ _) (by first | rfl | assumption) rfl ml_X4_78 mm_X4_refuse rfl rfl (Nat.le_of_ble_eq_true rfl) dX4_close_114 (by decide) ?_
                rintro _ _ ⟨rfl, rfl⟩
                refine g_pop B dX4_close_117 rfl ?_
                exact g_vret B E dX4_close_118 (Or.inr ⟨h104, rfl, rfl, by rw [w2_slot _ _ (by decide), w2_slot _ _ (by decide), h39 1, hq], frC_w2 (Or.inr ⟨rfl, by decide⟩) (frC_w2 (Or.inr ⟨rfl, by decide⟩) hFV)⟩)
            · have hlt : i < m := nle_lt (by omega) (by omega) h71
              refine g_iload_n B dX4_close_74 rfl ?_
              refine g_if_eq B 95 dX4_close_75 (by decide) (fun h75 => ?_) (fun h75 => ?_)
              · rw [bI_eq0] at h75
                refine g_iconst B (v := 0) dX4_close_95 (by decide) ?_
                refine g_eqi (bI ((cOK (2 ^ n) (D 10 12) && (decide (D 39 8 = 0) || cOK n (D 10 10))) && allF (fun i => cOK n (D 17 i)) (i + 1))) (by rw [allF, ← Bool.and_assoc, h75, Bool.false_and]; rfl) ?_
                refine g_istn2 B dX4_close_96 (by decide) rfl ?_
                refine g_inc3 B dX4_close_97 rfl (inc1 _) (by decide) rfl ?_
                refine g_goto B 66 dX4_close_100 (by decide) ?_
                exact ih hlt
              · rw [bI_ne0] at h75
                refine g_aload_n B dX4_close_78 rfl ?_
                refine g_aload_n B dX4_close_79 rfl ?_
                refine g_getr B ci_X3 (by first | rfl | assumption) rfl (by decide) fl_X4_74 dX4_close_80 ?_
                refine g_iload_n B dX4_close_83 rfl ?_
                refine g_iald B (by first | rfl | assumption) i rfl (by first | decide | omega | assumption) (by decide) dX4_close_84 ?_
                rw [c17]
                refine g_callVI B (ct_X3_hasClaim su_10 c9 _) (by first | rfl | assumption) rfl ml_X4_68 mm_X3_hasClaim rfl rfl (Nat.le_of_ble_eq_true rfl) dX4_close_85 (by decide) ?_
                rintro _ _ ⟨rfl, rfl⟩
                refine g_if_eq B 95 dX4_close_88 (by decide) (fun h88 => ?_) (fun h88 => ?_)
                · rw [bI_eq0] at h88
                  refine g_iconst B (v := 0) dX4_close_95 (by decide) ?_
                  refine g_eqi (bI ((cOK (2 ^ n) (D 10 12) && (decide (D 39 8 = 0) || cOK n (D 10 10))) && allF (fun i => cOK n (D 17 i)) (i + 1))) (by rw [allF, ← Bool.and_assoc, h75, h88]; rfl) ?_
                  refine g_istn2 B dX4_close_96 (by decide) rfl ?_
                  refine g_inc3 B dX4_close_97 rfl (inc1 _) (by decide) rfl ?_
                  refine g_goto B 66 dX4_close_100 (by decide) ?_
                  exact ih hlt
                · rw [bI_ne0] at h88
                  refine g_iconst B (v := 1) dX4_close_91 (by decide) ?_
                  refine g_goto B 96 dX4_close_92 (by decide) ?_
                  refine g_eqi (bI ((cOK (2 ^ n) (D 10 12) && (decide (D 39 8 = 0) || cOK n (D 10 10))) && allF (fun i => cOK n (D 17 i)) (i + 1))) (by rw [allF, ← Bool.and_assoc, h75, h88]; rfl) ?_
                  refine g_istn2 B dX4_close_96 (by decide) rfl ?_
                  refine g_inc3 B dX4_close_97 rfl (inc1 _) (by decide) rfl ?_
                  refine g_goto B 66 dX4_close_100 (by decide) ?_
                  exact ih hlt
          have l0 := L66 0 (Nat.zero_le _)
          rw [allF, Bool.and_true] at l0
          exact l0
        · refine g_aload_n B dX4_close_47 rfl ?_
          refine g_aload_n B dX4_close_48 rfl ?_
          refine g_geti B ci_X3 (by first | rfl | assumption) rfl (by decide) fl_X4_58 dX4_close_49 ?_
          rw [c10 h44]
          refine g_callVI B (ct_X3_hasClaim su_10 c9 _) (by first | rfl | assumption) rfl ml_X4_68 mm_X3_hasClaim rfl rfl (Nat.le_of_ble_eq_true rfl) dX4_close_52 (by decide) ?_
          rintro _ _ ⟨rfl, rfl⟩
          refine g_if_eq B 62 dX4_close_55 (by decide) (fun h55 => ?_) (fun h55 => ?_)
          · rw [bI_eq0] at h55
            refine g_iconst B (v := 0) dX4_close_62 (by decide) ?_
            refine g_eqi (bI (cOK (2 ^ n) (D 10 12) && (decide (D 39 8 = 0) || cOK n (D 10 10)))) (by rw [h37, h55, decide_eq_false h44]; rfl) ?_
            refine g_istn2 B dX4_close_63 (by decide) rfl ?_
            refine g_iconst B (v := 0) dX4_close_64 (by decide) ?_
            refine g_istn3 B dX4_close_65 (by decide) rfl ?_
            have L66 : ∀ i, i ≤ m → GW X 4 66 [some (.ref 39), some (.ref 10), some (.int (bI ((cOK (2 ^ n) (D 10 12) && (decide (D 39 8 = 0) || cOK n (D 10 10))) && allF (fun i => cOK n (D 17 i)) i))), some (.int (nI i))] [] V := by
              refine loopN m (fun i hi ih => ?_)
              refine g_iload_n B dX4_close_66 rfl ?_
              refine g_aload_n B dX4_close_67 rfl ?_
              refine g_geti B ci_X3 (by first | rfl | assumption) rfl (by decide) fl_X4_71 dX4_close_68 ?_
              rw [c13]
              refine g_icmp_ge B 103 dX4_close_71 (by decide) (fun h71 => ?_) (fun h71 => ?_)
              · have hi2 : i = m := by have := le_le (a := m) (b := i) (by omega) (by omega) h71; omega
                refine g_iload_n B dX4_close_103 rfl ?_
                refine g_if_ne B 118 dX4_close_104 (by decide) (fun h104 => ?_) (fun h104 => ?_)
                · rw [bI_ne0, hi2] at h104
                  exact g_vret B E dX4_close_118 (Or.inl ⟨h104, hDV, h39, hFV⟩)
                · rw [bI_eq0, hi2] at h104
                  refine g_aload_n B dX4_close_107 rfl ?_
                  refine g_bipush B (v := 6) dX4_close_108 (by decide) ?_
                  refine g_aload_n B dX4_close_110 rfl ?_
                  refine g_geti B ci_X4 (by first | rfl | assumption) rfl (by decide) fl_X4_15 dX4_close_111 ?_
                  rw [h39 1, hq]
                  refine g_callVI B (ct_X4_refuse _ _) (by first | rfl | assumption) rfl ml_X4_78 mm_X4_refuse rfl rfl (Nat.le_of_ble_eq_true rfl) dX4_close_114 (by decide) ?_
                  rintro _ _ ⟨rfl, rfl⟩
                  refine g_pop B dX4_close_117 rfl ?_
                  exact g_vret B E dX4_close_118 (Or.inr ⟨h104, rfl, rfl, by rw [w2_slot _ _ (by decide), w2_slot _ _ (by decide), h39 1, hq], frC_w2 (Or.inr ⟨rfl, by decide⟩) (frC_w2 (Or.inr ⟨rfl, by decide⟩) hFV)⟩)
              · have hlt : i < m := nle_lt (by omega) (by omega) h71
                refine g_iload_n B dX4_close_74 rfl ?_
                refine g_if_eq B 95 dX4_close_75 (by decide) (fun h75 => ?_) (fun h75 => ?_)
                · rw [bI_eq0] at h75
                  refine g_iconst B (v := 0) dX4_close_95 (by decide) ?_
                  refine g_eqi (bI ((cOK (2 ^ n) (D 10 12) && (decide (D 39 8 = 0) || cOK n (D 10 10))) && allF (fun i => cOK n (D 17 i)) (i + 1))) (by rw [allF, ← Bool.and_assoc, h75, Bool.false_and]; rfl) ?_
                  refine g_istn2 B dX4_close_96 (by decide) rfl ?_
                  refine g_inc3 B dX4_close_97 rfl (inc1 _) (by decide) rfl ?_
                  refine g_goto B 66 dX4_close_100 (by decide) ?_
                  exact ih hlt
                · rw [bI_ne0] at h75
                  refine g_aload_n B dX4_close_78 rfl ?_
                  refine g_aload_n B dX4_close_79 rfl ?_
                  refine g_getr B ci_X3 (by first | rfl | assumption) rfl (by decide) fl_X4_74 dX4_close_80 ?_
                  refine g_iload_n B dX4_close_83 rfl ?_
                  refine g_iald B (by first | rfl | assumption) i rfl (by first | decide | omega | assumption) (by decide) dX4_close_84 ?_
                  rw [c17]
                  refine g_callVI B (ct_X3_hasClaim su_10 c9 _) (by first | rfl | assumption) rfl ml_X4_68 mm_X3_hasClaim rfl rfl (Nat.le_of_ble_eq_true rfl) dX4_close_85 (by decide) ?_
                  rintro _ _ ⟨rfl, rfl⟩
                  refine g_if_eq B 95 dX4_close_88 (by decide) (fun h88 => ?_) (fun h88 => ?_)
                  · rw [bI_eq0] at h88
                    refine g_iconst B (v := 0) dX4_close_95 (by decide) ?_
                    refine g_eqi (bI ((cOK (2 ^ n) (D 10 12) && (decide (D 39 8 = 0) || cOK n (D 10 10))) && allF (fun i => cOK n (D 17 i)) (i + 1))) (by rw [allF, ← Bool.and_assoc, h75, h88]; rfl) ?_
                    refine g_istn2 B dX4_close_96 (by decide) rfl ?_
                    refine g_inc3 B dX4_close_97 rfl (inc1 _) (by decide) rfl ?_
                    refine g_goto B 66 dX4_close_100 (by decide) ?_
                    exact ih hlt
                  · rw [bI_ne0] at h88
                    refine g_iconst B (v := 1) dX4_close_91 (by decide) ?_
                    refine g_goto B 96 dX4_close_92 (by decide) ?_
                    refine g_eqi (bI ((cOK (2 ^ n) (D 10 12) && (decide (D 39 8 = 0) || cOK n (D 10 10))) && allF (fun i => cOK n (D 17 i)) (i + 1))) (by rw [allF, ← Bool.and_assoc, h75, h88]; rfl) ?_
                    refine g_istn2 B dX4_close_96 (by decide) rfl ?_
                    refine g_inc3 B dX4_close_97 rfl (inc1 _) (by decide) rfl ?_
                    refine g_goto B 66 dX4_close_100 (by decide) ?_
                    exact ih hlt
            have l0 := L66 0 (Nat.zero_le _)
            rw [allF, Bool.and_true] at l0
            exact l0
          · rw [bI_ne0] at h55
            refine g_iconst B (v := 1) dX4_close_58 (by decide) ?_
            refine g_goto B 63 dX4_close_59 (by decide) ?_
            refine g_eqi (bI (cOK (2 ^ n) (D 10 12) && (decide (D 39 8 = 0) || cOK n (D 10 10)))) (by rw [h37, h55, Bool.or_true]; rfl) ?_
            refine g_istn2 B dX4_close_63 (by decide) rfl ?_
            refine g_iconst B (v := 0) dX4_close_64 (by decide) ?_
            refine g_istn3 B dX4_close_65 (by decide) rfl ?_
            have L66 : ∀ i, i ≤ m → GW X 4 66 [some (.ref 39), some (.ref 10), some (.int (bI ((cOK (2 ^ n) (D 10 12) && (decide (D 39 8 = 0) || cOK n (D 10 10))) && allF (fun i => cOK n (D 17 i)) i))), some (.int (nI i))] [] V := by
              refine loopN m (fun i hi ih => ?_)
              refine g_iload_n B dX4_close_66 rfl ?_
              refine g_aload_n B dX4_close_67 rfl ?_
              refine g_geti B ci_X3 (by first | rfl | assumption) rfl (by decide) fl_X4_71 dX4_close_68 ?_
              rw [c13]
              refine g_icmp_ge B 103 dX4_close_71 (by decide) (fun h71 => ?_) (fun h71 => ?_)
              · have hi2 : i = m := by have := le_le (a := m) (b := i) (by omega) (by omega) h71; omega
                refine g_iload_n B dX4_close_103 rfl ?_
                refine g_if_ne B 118 dX4_close_104 (by decide) (fun h104 => ?_) (fun h104 => ?_)
                · rw [bI_ne0, hi2] at h104
                  exact g_vret B E dX4_close_118 (Or.inl ⟨h104, hDV, h39, hFV⟩)
                · rw [bI_eq0, hi2] at h104
                  refine g_aload_n B dX4_close_107 rfl ?_
                  refine g_bipush B (v := 6) dX4_close_108 (by decide) ?_
                  refine g_aload_n B dX4_close_110 rfl ?_
                  refine g_geti B ci_X4 (by first | rfl | assumption) rfl (by decide) fl_X4_15 dX4_close_111 ?_
                  rw [h39 1, hq]
                  refine g_callVI B (ct_X4_refuse _ _) (by first | rfl | assumption) rfl ml_X4_78 mm_X4_refuse rfl rfl (Nat.le_of_ble_eq_true rfl) dX4_close_114 (by decide) ?_
                  rintro _ _ ⟨rfl, rfl⟩
                  refine g_pop B dX4_close_117 rfl ?_
                  exact g_vret B E dX4_close_118 (Or.inr ⟨h104, rfl, rfl, by rw [w2_slot _ _ (by decide), w2_slot _ _ (by decide), h39 1, hq], frC_w2 (Or.inr ⟨rfl, by decide⟩) (frC_w2 (Or.inr ⟨rfl, by decide⟩) hFV)⟩)
              · have hlt : i < m := nle_lt (by omega) (by omega) h71
                refine g_iload_n B dX4_close_74 rfl ?_
                refine g_if_eq B 95 dX4_close_75 (by decide) (fun h75 => ?_) (fun h75 => ?_)
                · rw [bI_eq0] at h75
                  refine g_iconst B (v := 0) dX4_close_95 (by decide) ?_
                  refine g_eqi (bI ((cOK (2 ^ n) (D 10 12) && (decide (D 39 8 = 0) || cOK n (D 10 10))) && allF (fun i => cOK n (D 17 i)) (i + 1))) (by rw [allF, ← Bool.and_assoc, h75, Bool.false_and]; rfl) ?_
                  refine g_istn2 B dX4_close_96 (by decide) rfl ?_
                  refine g_inc3 B dX4_close_97 rfl (inc1 _) (by decide) rfl ?_
                  refine g_goto B 66 dX4_close_100 (by decide) ?_
                  exact ih hlt
                · rw [bI_ne0] at h75
                  refine g_aload_n B dX4_close_78 rfl ?_
                  refine g_aload_n B dX4_close_79 rfl ?_
                  refine g_getr B ci_X3 (by first | rfl | assumption) rfl (by decide) fl_X4_74 dX4_close_80 ?_
                  refine g_iload_n B dX4_close_83 rfl ?_
                  refine g_iald B (by first | rfl | assumption) i rfl (by first | decide | omega | assumption) (by decide) dX4_close_84 ?_
                  rw [c17]
                  refine g_callVI B (ct_X3_hasClaim su_10 c9 _) (by first | rfl | assumption) rfl ml_X4_68 mm_X3_hasClaim rfl rfl (Nat.le_of_ble_eq_true rfl) dX4_close_85 (by decide) ?_
                  rintro _ _ ⟨rfl, rfl⟩
                  refine g_if_eq B 95 dX4_close_88 (by decide) (fun h88 => ?_) (fun h88 => ?_)
                  · rw [bI_eq0] at h88
                    refine g_iconst B (v := 0) dX4_close_95 (by decide) ?_
                    refine g_eqi (bI ((cOK (2 ^ n) (D 10 12) && (decide (D 39 8 = 0) || cOK n (D 10 10))) && allF (fun i => cOK n (D 17 i)) (i + 1))) (by rw [allF, ← Bool.and_assoc, h75, h88]; rfl) ?_
                    refine g_istn2 B dX4_close_96 (by decide) rfl ?_
                    refine g_inc3 B dX4_close_97 rfl (inc1 _) (by decide) rfl ?_
                    refine g_goto B 66 dX4_close_100 (by decide) ?_
                    exact ih hlt
                  · rw [bI_ne0] at h88
                    refine g_iconst B (v := 1) dX4_close_91 (by decide) ?_
                    refine g_goto B 96 dX4_close_92 (by decide) ?_
                    refine g_eqi (bI ((cOK (2 ^ n) (D 10 12) && (decide (D 39 8 = 0) || cOK n (D 10 10))) && allF (fun i => cOK n (D 17 i)) (i + 1))) (by rw [allF, ← Bool.and_assoc, h75, h88]; rfl) ?_
                    refine g_istn2 B dX4_close_96 (by decide) rfl ?_
                    refine g_inc3 B dX4_close_97 rfl (inc1 _) (by decide) rfl ?_
                    refine g_goto B 66 dX4_close_100 (by decide) ?_
                    exact ih hlt
            have l0 := L66 0 (Nat.zero_le _)
            rw [allF, Bool.and_true] at l0
            exact l0
    first | exact J29 _ (by rw [hcl]; exact hD) (fun _ => rfl) frC_0 | exact J29 _ (by rw [hcl]; exact hD.w2) (fun y => w2_cell _ _ (by decide)) (frC_w2 (Or.inl (by decide)) frC_0)
  · have hcl : clD n D = w2 D 10 10 (if n = 0 then -4 else nI n - 1) := by rw [clD, if_pos h4]
    refine g_aload_n B dX4_close_7 rfl ?_
    refine g_aload_n B dX4_close_8 rfl ?_
    refine g_geti B ci_X3 (by first | rfl | assumption) rfl (by decide) fl_X4_55 dX4_close_9 ?_
    rw [hn]
    refine g_if_ne B 20 dX4_close_12 (by decide) (fun h12 => ?_) (fun h12 => ?_)
    · have hz : ¬ n = 0 := fun z => h12 (by rw [z]; rfl)
      refine g_aload_n B dX4_close_20 rfl ?_
      refine g_geti B ci_X3 (by first | rfl | assumption) rfl (by decide) fl_X4_55 dX4_close_21 ?_
      rw [hn]
      refine g_iconst B (v := 1) dX4_close_24 (by decide) ?_
      refine g_isub B dX4_close_25 ?_
      refine g_eqi (if n = 0 then -4 else nI n - 1) (by first | rw [if_neg hz] | rw [if_pos hz]) ?_
      refine g_put B ci_X3 (by first | rfl | assumption) rfl (by decide) fl_X4_58 rfl rfl rfl dX4_close_26 ?_
      have J29 : ∀ (V : Wo), DE V (clD n D) → (∀ y, V 39 y = I 39 y) → FrC I V → GW X 4 29 [some (.ref 39), some (.ref 10), none, none] [] V := by
        intro V hDV h39 hFV
        have c12 : V 10 12 = D 10 12 := by rw [hDV.1 10 12 (by decide) (by decide), clD]; split <;> rfl
        have c13 : V 10 13 = nI m := by rw [← hI.hm, hDV.1 10 13 (by decide) (by decide), clD]; split <;> rfl
        have c9 : V 10 9 = nI n := by rw [← hI.hn, hDV.1 10 9 (by decide) (by decide), clD]; split <;> rfl
        have c17 : ∀ i, V 17 i = D 17 i := fun i => by rw [hDV.1 17 i (by decide) (by decide), clD]; split <;> rfl
        have c10 : ¬ D 39 8 = 0 → V 10 10 = D 10 10 := fun z => by rw [hDV.1 10 10 (by decide) (by decide), clD, if_neg z]
        refine g_aload_n B dX4_close_29 rfl ?_
        refine g_aload_n B dX4_close_30 rfl ?_
        refine g_geti B ci_X3 (by first | rfl | assumption) rfl (by decide) fl_X4_61 dX4_close_31 ?_
        rw [c12]
        refine g_callVI B (ct_X3_hasSet su_10 c9 hn8 _) (by first | rfl | assumption) rfl ml_X4_64 mm_X3_hasSet rfl rfl (Nat.le_of_ble_eq_true rfl) dX4_close_34 (by decide) ?_
        rintro _ _ ⟨rfl, rfl⟩
        refine g_if_eq B 62 dX4_close_37 (by decide) (fun h37 => ?_) (fun h37 => ?_)
        · rw [bI_eq0] at h37
          refine g_iconst B (v := 0) dX4_close_62 (by decide) ?_
          refine g_eqi (bI (cOK (2 ^ n) (D 10 12) && (decide (D 39 8 = 0) || cOK n (D 10 10)))) (by rw [h37, Bool.false_and]; rfl) ?_
          refine g_istn2 B dX4_close_63 (by decide) rfl ?_
          refine g_iconst B (v := 0) dX4_close_64 (by decide) ?_
          refine g_istn3 B dX4_close_65 (by decide) rfl ?_
          have L66 : ∀ i, i ≤ m → GW X 4 66 [some (.ref 39), some (.ref 10), some (.int (bI ((cOK (2 ^ n) (D 10 12) && (decide (D 39 8 = 0) || cOK n (D 10 10))) && allF (fun i => cOK n (D 17 i)) i))), some (.int (nI i))] [] V := by
            refine loopN m (fun i hi ih => ?_)
            refine g_iload_n B dX4_close_66 rfl ?_
            refine g_aload_n B dX4_close_67 rfl ?_
            refine g_geti B ci_X3 (by first | rfl | assumption) rfl (by decide) fl_X4_71 dX4_close_68 ?_
            rw [c13]
            refine g_icmp_ge B 103 dX4_close_71 (by decide) (fun h71 => ?_) (fun h71 => ?_)
            · have hi2 : i = m := by have := le_le (a := m) (b := i) (by omega) (by omega) h71; omega
              refine g_iload_n B dX4_close_103 rfl ?_
              refine g_if_ne B 118 dX4_close_104 (by decide) (fun h104 => ?_) (fun h104 => ?_)
              · rw [bI_ne0, hi2] at h104
                exact g_vret B E dX4_close_118 (Or.inl ⟨h104, hDV, h39, hFV⟩)
              · rw [bI_eq0, hi2] at h104
                refine g_aload_n B dX4_close_107 rfl ?_
                refine g_bipush B (v := 6) dX4_close_108 (by decide) ?_
                refine g_aload_n B dX4_close_110 rfl ?_
                refine g_geti B ci_X4 (by first | rfl | assumption) rfl (by decide) fl_X4_15 dX4_close_111 ?_
                rw [h39 1, hq]
                refine g_callVI B (ct_X4_refuse _ _) (by first | rfl | assumption) rfl ml_X4_78 mm_X4_refuse rfl rfl (Nat.le_of_ble_eq_true rfl) dX4_close_114 (by decide) ?_
                rintro _ _ ⟨rfl, rfl⟩
                refine g_pop B dX4_close_117 rfl ?_
                exact g_vret B E dX4_close_118 (Or.inr ⟨h104, rfl, rfl, by rw [w2_slot _ _ (by decide), w2_slot _ _ (by decide), h39 1, hq], frC_w2 (Or.inr ⟨rfl, by decide⟩) (frC_w2 (Or.inr ⟨rfl, by decide⟩) hFV)⟩)
            · have hlt : i < m := nle_lt (by omega) (by omega) h71
              refine g_iload_n B dX4_close_74 rfl ?_
              refine g_if_eq B 95 dX4_close_75 (by decide) (fun h75 => ?_) (fun h75 => ?_)
              · rw [bI_eq0] at h75
                refine g_iconst B (v := 0) dX4_close_95 (by decide) ?_
                refine g_eqi (bI ((cOK (2 ^ n) (D 10 12) && (decide (D 39 8 = 0) || cOK n (D 10 10))) && allF (fun i => cOK n (D 17 i)) (i + 1))) (by rw [allF, ← Bool.and_assoc, h75, Bool.false_and]; rfl) ?_
                refine g_istn2 B dX4_close_96 (by decide) rfl ?_
                refine g_inc3 B dX4_close_97 rfl (inc1 _) (by decide) rfl ?_
                refine g_goto B 66 dX4_close_100 (by decide) ?_
                exact ih hlt
              · rw [bI_ne0] at h75
                refine g_aload_n B dX4_close_78 rfl ?_
                refine g_aload_n B dX4_close_79 rfl ?_
                refine g_getr B ci_X3 (by first | rfl | assumption) rfl (by decide) fl_X4_74 dX4_close_80 ?_
                refine g_iload_n B dX4_close_83 rfl ?_
                refine g_iald B (by first | rfl | assumption) i rfl (by first | decide | omega | assumption) (by decide) dX4_close_84 ?_
                rw [c17]
                refine g_callVI B (ct_X3_hasClaim su_10 c9 _) (by first | rfl | assumption) rfl ml_X4_68 mm_X3_hasClaim rfl rfl (Nat.le_of_ble_eq_true rfl) dX4_close_85 (by decide) ?_
                rintro _ _ ⟨rfl, rfl⟩
                refine g_if_eq B 95 dX4_close_88 (by decide) (fun h88 => ?_) (fun h88 => ?_)
                · rw [bI_eq0] at h88
                  refine g_iconst B (v := 0) dX4_close_95 (by decide) ?_
                  refine g_eqi (bI ((cOK (2 ^ n) (D 10 12) && (decide (D 39 8 = 0) || cOK n (D 10 10))) && allF (fun i => cOK n (D 17 i)) (i + 1))) (by rw [allF, ← Bool.and_assoc, h75, h88]; rfl) ?_
                  refine g_istn2 B dX4_close_96 (by decide) rfl ?_
                  refine g_inc3 B dX4_close_97 rfl (inc1 _) (by decide) rfl ?_
                  refine g_goto B 66 dX4_close_100 (by decide) ?_
                  exact ih hlt
                · rw [bI_ne0] at h88
                  refine g_iconst B (v := 1) dX4_close_91 (by decide) ?_
                  refine g_goto B 96 dX4_close_92 (by decide) ?_
                  refine g_eqi (bI ((cOK (2 ^ n) (D 10 12) && (decide (D 39 8 = 0) || cOK n (D 10 10))) && allF (fun i => cOK n (D 17 i)) (i + 1))) (by rw [allF, ← Bool.and_assoc, h75, h88]; rfl) ?_
                  refine g_istn2 B dX4_close_96 (by decide) rfl ?_
                  refine g_inc3 B dX4_close_97 rfl (inc1 _) (by decide) rfl ?_
                  refine g_goto B 66 dX4_close_100 (by decide) ?_
                  exact ih hlt
          have l0 := L66 0 (Nat.zero_le _)
          rw [allF, Bool.and_true] at l0
          exact l0
        · rw [bI_ne0] at h37
          refine g_aload_n B dX4_close_40 rfl ?_
          refine g_geti B ci_X4 (by first | rfl | assumption) rfl (by decide) fl_X4_33 dX4_close_41 ?_
          rw [h39 8, h8]
          refine g_if_eq B 58 dX4_close_44 (by decide) (fun h44 => ?_) (fun h44 => ?_)
          · refine g_iconst B (v := 1) dX4_close_58 (by decide) ?_
            refine g_goto B 63 dX4_close_59 (by decide) ?_
            refine g_eqi (bI (cOK (2 ^ n) (D 10 12) && (decide (D 39 8 = 0) || cOK n (D 10 10)))) (by rw [h37, decide_eq_true h44]; rfl) ?_
            refine g_istn2 B dX4_close_63 (by decide) rfl ?_
            refine g_iconst B (v := 0) dX4_close_64 (by decide) ?_
            refine g_istn3 B dX4_close_65 (by decide) rfl ?_
            have L66 : ∀ i, i ≤ m → GW X 4 66 [some (.ref 39), some (.ref 10), some (.int (bI ((cOK (2 ^ n) (D 10 12) && (decide (D 39 8 = 0) || cOK n (D 10 10))) && allF (fun i => cOK n (D 17 i)) i))), some (.int (nI i))] [] V := by
              refine loopN m (fun i hi ih => ?_)
              refine g_iload_n B dX4_close_66 rfl ?_
              refine g_aload_n B dX4_close_67 rfl ?_
              refine g_geti B ci_X3 (by first | rfl | assumption) rfl (by decide) fl_X4_71 dX4_close_68 ?_
              rw [c13]
              refine g_icmp_ge B 103 dX4_close_71 (by decide) (fun h71 => ?_) (fun h71 => ?_)
              · have hi2 : i = m := by have := le_le (a := m) (b := i) (by omega) (by omega) h71; omega
                refine g_iload_n B dX4_close_103 rfl ?_
                refine g_if_ne B 118 dX4_close_104 (by decide) (fun h104 => ?_) (fun h104 => ?_)
                · rw [bI_ne0, hi2] at h104
                  exact g_vret B E dX4_close_118 (Or.inl ⟨h104, hDV, h39, hFV⟩)
                · rw [bI_eq0, hi2] at h104
                  refine g_aload_n B dX4_close_107 rfl ?_
                  refine g_bipush B (v := 6) dX4_close_108 (by decide) ?_
                  refine g_aload_n B dX4_close_110 rfl ?_
                  refine g_geti B ci_X4 (by first | rfl | assumption) rfl (by decide) fl_X4_15 dX4_close_111 ?_
                  rw [h39 1, hq]
                  refine g_callVI B (ct_X4_refuse _ _) (by first | rfl | assumption) rfl ml_X4_78 mm_X4_refuse rfl rfl (Nat.le_of_ble_eq_true rfl) dX4_close_114 (by decide) ?_
                  rintro _ _ ⟨rfl, rfl⟩
                  refine g_pop B dX4_close_117 rfl ?_
                  exact g_vret B E dX4_close_118 (Or.inr ⟨h104, rfl, rfl, by rw [w2_slot _ _ (by decide), w2_slot _ _ (by decide), h39 1, hq], frC_w2 (Or.inr ⟨rfl, by decide⟩) (frC_w2 (Or.inr ⟨rfl, by decide⟩) hFV)⟩)
              · have hlt : i < m := nle_lt (by omega) (by omega) h71
                refine g_iload_n B dX4_close_74 rfl ?_
                refine g_if_eq B 95 dX4_close_75 (by decide) (fun h75 => ?_) (fun h75 => ?_)
                · rw [bI_eq0] at h75
                  refine g_iconst B (v := 0) dX4_close_95 (by decide) ?_
                  refine g_eqi (bI ((cOK (2 ^ n) (D 10 12) && (decide (D 39 8 = 0) || cOK n (D 10 10))) && allF (fun i => cOK n (D 17 i)) (i + 1))) (by rw [allF, ← Bool.and_assoc, h75, Bool.false_and]; rfl) ?_
                  refine g_istn2 B dX4_close_96 (by decide) rfl ?_
                  refine g_inc3 B dX4_close_97 rfl (inc1 _) (by decide) rfl ?_
                  refine g_goto B 66 dX4_close_100 (by decide) ?_
                  exact ih hlt
                · rw [bI_ne0] at h75
                  refine g_aload_n B dX4_close_78 rfl ?_
                  refine g_aload_n B dX4_close_79 rfl ?_
                  refine g_getr B ci_X3 (by first | rfl | assumption) rfl (by decide) fl_X4_74 dX4_close_80 ?_
                  refine g_iload_n B dX4_close_83 rfl ?_
                  refine g_iald B (by first | rfl | assumption) i rfl (by first | decide | omega | assumption) (by decide) dX4_close_84 ?_
                  rw [c17]
                  refine g_callVI B (ct_X3_hasClaim su_10 c9 _) (by first | rfl | assumption) rfl ml_X4_68 mm_X3_hasClaim rfl rfl (Nat.le_of_ble_eq_true rfl) dX4_close_85 (by decide) ?_
                  rintro _ _ ⟨rfl, rfl⟩
                  refine g_if_eq B 95 dX4_close_88 (by decide) (fun h88 => ?_) (fun h88 => ?_)
                  · rw [bI_eq0] at h88
                    refine g_iconst B (v := 0) dX4_close_95 (by decide) ?_
                    refine g_eqi (bI ((cOK (2 ^ n) (D 10 12) && (decide (D 39 8 = 0) || cOK n (D 10 10))) && allF (fun i => cOK n (D 17 i)) (i + 1))) (by rw [allF, ← Bool.and_assoc, h75, h88]; rfl) ?_
                    refine g_istn2 B dX4_close_96 (by decide) rfl ?_
                    refine g_inc3 B dX4_close_97 rfl (inc1 _) (by decide) rfl ?_
                    refine g_goto B 66 dX4_close_100 (by decide) ?_
                    exact ih hlt
                  · rw [bI_ne0] at h88
                    refine g_iconst B (v := 1) dX4_close_91 (by decide) ?_
                    refine g_goto B 96 dX4_close_92 (by decide) ?_
                    refine g_eqi (bI ((cOK (2 ^ n) (D 10 12) && (decide (D 39 8 = 0) || cOK n (D 10 10))) && allF (fun i => cOK n (D 17 i)) (i + 1))) (by rw [allF, ← Bool.and_assoc, h75, h88]; rfl) ?_
                    refine g_istn2 B dX4_close_96 (by decide) rfl ?_
                    refine g_inc3 B dX4_close_97 rfl (inc1 _) (by decide) rfl ?_
                    refine g_goto B 66 dX4_close_100 (by decide) ?_
                    exact ih hlt
            have l0 := L66 0 (Nat.zero_le _)
            rw [allF, Bool.and_true] at l0
            exact l0
          · refine g_aload_n B dX4_close_47 rfl ?_
            refine g_aload_n B dX4_close_48 rfl ?_
            refine g_geti B ci_X3 (by first | rfl | assumption) rfl (by decide) fl_X4_58 dX4_close_49 ?_
            rw [c10 h44]
            refine g_callVI B (ct_X3_hasClaim su_10 c9 _) (by first | rfl | assumption) rfl ml_X4_68 mm_X3_hasClaim rfl rfl (Nat.le_of_ble_eq_true rfl) dX4_close_52 (by decide) ?_
            rintro _ _ ⟨rfl, rfl⟩
            refine g_if_eq B 62 dX4_close_55 (by decide) (fun h55 => ?_) (fun h55 => ?_)
            · rw [bI_eq0] at h55
              refine g_iconst B (v := 0) dX4_close_62 (by decide) ?_
              refine g_eqi (bI (cOK (2 ^ n) (D 10 12) && (decide (D 39 8 = 0) || cOK n (D 10 10)))) (by rw [h37, h55, decide_eq_false h44]; rfl) ?_
              refine g_istn2 B dX4_close_63 (by decide) rfl ?_
              refine g_iconst B (v := 0) dX4_close_64 (by decide) ?_
              refine g_istn3 B dX4_close_65 (by decide) rfl ?_
              have L66 : ∀ i, i ≤ m → GW X 4 66 [some (.ref 39), some (.ref 10), some (.int (bI ((cOK (2 ^ n) (D 10 12) && (decide (D 39 8 = 0) || cOK n (D 10 10))) && allF (fun i => cOK n (D 17 i)) i))), some (.int (nI i))] [] V := by
                refine loopN m (fun i hi ih => ?_)
                refine g_iload_n B dX4_close_66 rfl ?_
                refine g_aload_n B dX4_close_67 rfl ?_
                refine g_geti B ci_X3 (by first | rfl | assumption) rfl (by decide) fl_X4_71 dX4_close_68 ?_
                rw [c13]
                refine g_icmp_ge B 103 dX4_close_71 (by decide) (fun h71 => ?_) (fun h71 => ?_)
                · have hi2 : i = m := by have := le_le (a := m) (b := i) (by omega) (by omega) h71; omega
                  refine g_iload_n B dX4_close_103 rfl ?_
                  refine g_if_ne B 118 dX4_close_104 (by decide) (fun h104 => ?_) (fun h104 => ?_)
                  · rw [bI_ne0, hi2] at h104
                    exact g_vret B E dX4_close_118 (Or.inl ⟨h104, hDV, h39, hFV⟩)
                  · rw [bI_eq0, hi2] at h104
                    refine g_aload_n B dX4_close_107 rfl ?_
                    refine g_bipush B (v := 6) dX4_close_108 (by decide) ?_
                    refine g_aload_n B dX4_close_110 rfl ?_
                    refine g_geti B ci_X4 (by first | rfl | assumption) rfl (by decide) fl_X4_15 dX4_close_111 ?_
                    rw [h39 1, hq]
                    refine g_callVI B (ct_X4_refuse _ _) (by first | rfl | assumption) rfl ml_X4_78 mm_X4_refuse rfl rfl (Nat.le_of_ble_eq_true rfl) dX4_close_114 (by decide) ?_
                    rintro _ _ ⟨rfl, rfl⟩
                    refine g_pop B dX4_close_117 rfl ?_
                    exact g_vret B E dX4_close_118 (Or.inr ⟨h104, rfl, rfl, by rw [w2_slot _ _ (by decide), w2_slot _ _ (by decide), h39 1, hq], frC_w2 (Or.inr ⟨rfl, by decide⟩) (frC_w2 (Or.inr ⟨rfl, by decide⟩) hFV)⟩)
                · have hlt : i < m := nle_lt (by omega) (by omega) h71
                  refine g_iload_n B dX4_close_74 rfl ?_
                  refine g_if_eq B 95 dX4_close_75 (by decide) (fun h75 => ?_) (fun h75 => ?_)
                  · rw [bI_eq0] at h75
                    refine g_iconst B (v := 0) dX4_close_95 (by decide) ?_
                    refine g_eqi (bI ((cOK (2 ^ n) (D 10 12) && (decide (D 39 8 = 0) || cOK n (D 10 10))) && allF (fun i => cOK n (D 17 i)) (i + 1))) (by rw [allF, ← Bool.and_assoc, h75, Bool.false_and]; rfl) ?_
                    refine g_istn2 B dX4_close_96 (by decide) rfl ?_
                    refine g_inc3 B dX4_close_97 rfl (inc1 _) (by decide) rfl ?_
                    refine g_goto B 66 dX4_close_100 (by decide) ?_
                    exact ih hlt
                  · rw [bI_ne0] at h75
                    refine g_aload_n B dX4_close_78 rfl ?_
                    refine g_aload_n B dX4_close_79 rfl ?_
                    refine g_getr B ci_X3 (by first | rfl | assumption) rfl (by decide) fl_X4_74 dX4_close_80 ?_
                    refine g_iload_n B dX4_close_83 rfl ?_
                    refine g_iald B (by first | rfl | assumption) i rfl (by first | decide | omega | assumption) (by decide) dX4_close_84 ?_
                    rw [c17]
                    refine g_callVI B (ct_X3_hasClaim su_10 c9 _) (by first | rfl | assumption) rfl ml_X4_68 mm_X3_hasClaim rfl rfl (Nat.le_of_ble_eq_true rfl) dX4_close_85 (by decide) ?_
                    rintro _ _ ⟨rfl, rfl⟩
                    refine g_if_eq B 95 dX4_close_88 (by decide) (fun h88 => ?_) (fun h88 => ?_)
                    · rw [bI_eq0] at h88
                      refine g_iconst B (v := 0) dX4_close_95 (by decide) ?_
                      refine g_eqi (bI ((cOK (2 ^ n) (D 10 12) && (decide (D 39 8 = 0) || cOK n (D 10 10))) && allF (fun i => cOK n (D 17 i)) (i + 1))) (by rw [allF, ← Bool.and_assoc, h75, h88]; rfl) ?_
                      refine g_istn2 B dX4_close_96 (by decide) rfl ?_
                      refine g_inc3 B dX4_close_97 rfl (inc1 _) (by decide) rfl ?_
                      refine g_goto B 66 dX4_close_100 (by decide) ?_
                      exact ih hlt
                    · rw [bI_ne0] at h88
                      refine g_iconst B (v := 1) dX4_close_91 (by decide) ?_
                      refine g_goto B 96 dX4_close_92 (by decide) ?_
                      refine g_eqi (bI ((cOK (2 ^ n) (D 10 12) && (decide (D 39 8 = 0) || cOK n (D 10 10))) && allF (fun i => cOK n (D 17 i)) (i + 1))) (by rw [allF, ← Bool.and_assoc, h75, h88]; rfl) ?_
                      refine g_istn2 B dX4_close_96 (by decide) rfl ?_
                      refine g_inc3 B dX4_close_97 rfl (inc1 _) (by decide) rfl ?_
                      refine g_goto B 66 dX4_close_100 (by decide) ?_
                      exact ih hlt
              have l0 := L66 0 (Nat.zero_le _)
              rw [allF, Bool.and_true] at l0
              exact l0
            · rw [bI_ne0] at h55
              refine g_iconst B (v := 1) dX4_close_58 (by decide) ?_
              refine g_goto B 63 dX4_close_59 (by decide) ?_
              refine g_eqi (bI (cOK (2 ^ n) (D 10 12) && (decide (D 39 8 = 0) || cOK n (D 10 10)))) (by rw [h37, h55, Bool.or_true]; rfl) ?_
              refine g_istn2 B dX4_close_63 (by decide) rfl ?_
              refine g_iconst B (v := 0) dX4_close_64 (by decide) ?_
              refine g_istn3 B dX4_close_65 (by decide) rfl ?_
              have L66 : ∀ i, i ≤ m → GW X 4 66 [some (.ref 39), some (.ref 10), some (.int (bI ((cOK (2 ^ n) (D 10 12) && (decide (D 39 8 = 0) || cOK n (D 10 10))) && allF (fun i => cOK n (D 17 i)) i))), some (.int (nI i))] [] V := by
                refine loopN m (fun i hi ih => ?_)
                refine g_iload_n B dX4_close_66 rfl ?_
                refine g_aload_n B dX4_close_67 rfl ?_
                refine g_geti B ci_X3 (by first | rfl | assumption) rfl (by decide) fl_X4_71 dX4_close_68 ?_
                rw [c13]
                refine g_icmp_ge B 103 dX4_close_71 (by decide) (fun h71 => ?_) (fun h71 => ?_)
                · have hi2 : i = m := by have := le_le (a := m) (b := i) (by omega) (by omega) h71; omega
                  refine g_iload_n B dX4_close_103 rfl ?_
                  refine g_if_ne B 118 dX4_close_104 (by decide) (fun h104 => ?_) (fun h104 => ?_)
                  · rw [bI_ne0, hi2] at h104
                    exact g_vret B E dX4_close_118 (Or.inl ⟨h104, hDV, h39, hFV⟩)
                  · rw [bI_eq0, hi2] at h104
                    refine g_aload_n B dX4_close_107 rfl ?_
                    refine g_bipush B (v := 6) dX4_close_108 (by decide) ?_
                    refine g_aload_n B dX4_close_110 rfl ?_
                    refine g_geti B ci_X4 (by first | rfl | assumption) rfl (by decide) fl_X4_15 dX4_close_111 ?_
                    rw [h39 1, hq]
                    refine g_callVI B (ct_X4_refuse _ _) (by first | rfl | assumption) rfl ml_X4_78 mm_X4_refuse rfl rfl (Nat.le_of_ble_eq_true rfl) dX4_close_114 (by decide) ?_
                    rintro _ _ ⟨rfl, rfl⟩
                    refine g_pop B dX4_close_117 rfl ?_
                    exact g_vret B E dX4_close_118 (Or.inr ⟨h104, rfl, rfl, by rw [w2_slot _ _ (by decide), w2_slot _ _ (by decide), h39 1, hq], frC_w2 (Or.inr ⟨rfl, by decide⟩) (frC_w2 (Or.inr ⟨rfl, by decide⟩) hFV)⟩)
                · have hlt : i < m := nle_lt (by omega) (by omega) h71
                  refine g_iload_n B dX4_close_74 rfl ?_
                  refine g_if_eq B 95 dX4_close_75 (by decide) (fun h75 => ?_) (fun h75 => ?_)
                  · rw [bI_eq0] at h75
                    refine g_iconst B (v := 0) dX4_close_95 (by decide) ?_
                    refine g_eqi (bI ((cOK (2 ^ n) (D 10 12) && (decide (D 39 8 = 0) || cOK n (D 10 10))) && allF (fun i => cOK n (D 17 i)) (i + 1))) (by rw [allF, ← Bool.and_assoc, h75, Bool.false_and]; rfl) ?_
                    refine g_istn2 B dX4_close_96 (by decide) rfl ?_
                    refine g_inc3 B dX4_close_97 rfl (inc1 _) (by decide) rfl ?_
                    refine g_goto B 66 dX4_close_100 (by decide) ?_
                    exact ih hlt
                  · rw [bI_ne0] at h75
                    refine g_aload_n B dX4_close_78 rfl ?_
                    refine g_aload_n B dX4_close_79 rfl ?_
                    refine g_getr B ci_X3 (by first | rfl | assumption) rfl (by decide) fl_X4_74 dX4_close_80 ?_
                    refine g_iload_n B dX4_close_83 rfl ?_
                    refine g_iald B (by first | rfl | assumption) i rfl (by first | decide | omega | assumption) (by decide) dX4_close_84 ?_
                    rw [c17]
                    refine g_callVI B (ct_X3_hasClaim su_10 c9 _) (by first | rfl | assumption) rfl ml_X4_68 mm_X3_hasClaim rfl rfl (Nat.le_of_ble_eq_true rfl) dX4_close_85 (by decide) ?_
                    rintro _ _ ⟨rfl, rfl⟩
                    refine g_if_eq B 95 dX4_close_88 (by decide) (fun h88 => ?_) (fun h88 => ?_)
                    · rw [bI_eq0] at h88
                      refine g_iconst B (v := 0) dX4_close_95 (by decide) ?_
                      refine g_eqi (bI ((cOK (2 ^ n) (D 10 12) && (decide (D 39 8 = 0) || cOK n (D 10 10))) && allF (fun i => cOK n (D 17 i)) (i + 1))) (by rw [allF, ← Bool.and_assoc, h75, h88]; rfl) ?_
                      refine g_istn2 B dX4_close_96 (by decide) rfl ?_
                      refine g_inc3 B dX4_close_97 rfl (inc1 _) (by decide) rfl ?_
                      refine g_goto B 66 dX4_close_100 (by decide) ?_
                      exact ih hlt
                    · rw [bI_ne0] at h88
                      refine g_iconst B (v := 1) dX4_close_91 (by decide) ?_
                      refine g_goto B 96 dX4_close_92 (by decide) ?_
                      refine g_eqi (bI ((cOK (2 ^ n) (D 10 12) && (decide (D 39 8 = 0) || cOK n (D 10 10))) && allF (fun i => cOK n (D 17 i)) (i + 1))) (by rw [allF, ← Bool.and_assoc, h75, h88]; rfl) ?_
                      refine g_istn2 B dX4_close_96 (by decide) rfl ?_
                      refine g_inc3 B dX4_close_97 rfl (inc1 _) (by decide) rfl ?_
                      refine g_goto B 66 dX4_close_100 (by decide) ?_
                      exact ih hlt
              have l0 := L66 0 (Nat.zero_le _)
              rw [allF, Bool.and_true] at l0
              exact l0
      first | exact J29 _ (by rw [hcl]; exact hD) (fun _ => rfl) frC_0 | exact J29 _ (by rw [hcl]; exact hD.w2) (fun y => w2_cell _ _ (by decide)) (frC_w2 (Or.inl (by decide)) frC_0)
    · have hz : n = 0 := (nI_eq (by omega) (by decide)).mp h12
      refine g_bipush B (v := (-4)) dX4_close_15 (by decide) ?_
      refine g_goto B 26 dX4_close_17 (by decide) ?_
      refine g_eqi (if n = 0 then -4 else nI n - 1) (by first | rw [if_neg hz] | rw [if_pos hz]) ?_
      refine g_put B ci_X3 (by first | rfl | assumption) rfl (by decide) fl_X4_58 rfl rfl rfl dX4_close_26 ?_
      have J29 : ∀ (V : Wo), DE V (clD n D) → (∀ y, V 39 y = I 39 y) → FrC I V → GW X 4 29 [some (.ref 39), some (.ref 10), none, none] [] V := by
        intro V hDV h39 hFV
        have c12 : V 10 12 = D 10 12 := by rw [hDV.1 10 12 (by decide) (by decide), clD]; split <;> rfl
        have c13 : V 10 13 = nI m := by rw [← hI.hm, hDV.1 10 13 (by decide) (by decide), clD]; split <;> rfl
        have c9 : V 10 9 = nI n := by rw [← hI.hn, hDV.1 10 9 (by decide) (by decide), clD]; split <;> rfl
        have c17 : ∀ i, V 17 i = D 17 i := fun i => by rw [hDV.1 17 i (by decide) (by decide), clD]; split <;> rfl
        have c10 : ¬ D 39 8 = 0 → V 10 10 = D 10 10 := fun z => by rw [hDV.1 10 10 (by decide) (by decide), clD, if_neg z]
        refine g_aload_n B dX4_close_29 rfl ?_
        refine g_aload_n B dX4_close_30 rfl ?_
        refine g_geti B ci_X3 (by first | rfl | assumption) rfl (by decide) fl_X4_61 dX4_close_31 ?_
        rw [c12]
        refine g_callVI B (ct_X3_hasSet su_10 c9 hn8 _) (by first | rfl | assumption) rfl ml_X4_64 mm_X3_hasSet rfl rfl (Nat.le_of_ble_eq_true rfl) dX4_close_34 (by decide) ?_
        rintro _ _ ⟨rfl, rfl⟩
        refine g_if_eq B 62 dX4_close_37 (by decide) (fun h37 => ?_) (fun h37 => ?_)
        · rw [bI_eq0] at h37
          refine g_iconst B (v := 0) dX4_close_62 (by decide) ?_
          refine g_eqi (bI (cOK (2 ^ n) (D 10 12) && (decide (D 39 8 = 0) || cOK n (D 10 10)))) (by rw [h37, Bool.false_and]; rfl) ?_
          refine g_istn2 B dX4_close_63 (by decide) rfl ?_
          refine g_iconst B (v := 0) dX4_close_64 (by decide) ?_
          refine g_istn3 B dX4_close_65 (by decide) rfl ?_
          have L66 : ∀ i, i ≤ m → GW X 4 66 [some (.ref 39), some (.ref 10), some (.int (bI ((cOK (2 ^ n) (D 10 12) && (decide (D 39 8 = 0) || cOK n (D 10 10))) && allF (fun i => cOK n (D 17 i)) i))), some (.int (nI i))] [] V := by
            refine loopN m (fun i hi ih => ?_)
            refine g_iload_n B dX4_close_66 rfl ?_
            refine g_aload_n B dX4_close_67 rfl ?_
            refine g_geti B ci_X3 (by first | rfl | assumption) rfl (by decide) fl_X4_71 dX4_close_68 ?_
            rw [c13]
            refine g_icmp_ge B 103 dX4_close_71 (by decide) (fun h71 => ?_) (fun h71 => ?_)
            · have hi2 : i = m := by have := le_le (a := m) (b := i) (by omega) (by omega) h71; omega
              refine g_iload_n B dX4_close_103 rfl ?_
              refine g_if_ne B 118 dX4_close_104 (by decide) (fun h104 => ?_) (fun h104 => ?_)
              · rw [bI_ne0, hi2] at h104
                exact g_vret B E dX4_close_118 (Or.inl ⟨h104, hDV, h39, hFV⟩)
              · rw [bI_eq0, hi2] at h104
                refine g_aload_n B dX4_close_107 rfl ?_
                refine g_bipush B (v := 6) dX4_close_108 (by decide) ?_
                refine g_aload_n B dX4_close_110 rfl ?_
                refine g_geti B ci_X4 (by first | rfl | assumption) rfl (by decide) fl_X4_15 dX4_close_111 ?_
                rw [h39 1, hq]
                refine g_callVI B (ct_X4_refuse _ _) (by first | rfl | assumption) rfl ml_X4_78 mm_X4_refuse rfl rfl (Nat.le_of_ble_eq_true rfl) dX4_close_114 (by decide) ?_
                rintro _ _ ⟨rfl, rfl⟩
                refine g_pop B dX4_close_117 rfl ?_
                exact g_vret B E dX4_close_118 (Or.inr ⟨h104, rfl, rfl, by rw [w2_slot _ _ (by decide), w2_slot _ _ (by decide), h39 1, hq], frC_w2 (Or.inr ⟨rfl, by decide⟩) (frC_w2 (Or.inr ⟨rfl, by decide⟩) hFV)⟩)
            · have hlt : i < m := nle_lt (by omega) (by omega) h71
              refine g_iload_n B dX4_close_74 rfl ?_
              refine g_if_eq B 95 dX4_close_75 (by decide) (fun h75 => ?_) (fun h75 => ?_)
              · rw [bI_eq0] at h75
                refine g_iconst B (v := 0) dX4_close_95 (by decide) ?_
                refine g_eqi (bI ((cOK (2 ^ n) (D 10 12) && (decide (D 39 8 = 0) || cOK n (D 10 10))) && allF (fun i => cOK n (D 17 i)) (i + 1))) (by rw [allF, ← Bool.and_assoc, h75, Bool.false_and]; rfl) ?_
                refine g_istn2 B dX4_close_96 (by decide) rfl ?_
                refine g_inc3 B dX4_close_97 rfl (inc1 _) (by decide) rfl ?_
                refine g_goto B 66 dX4_close_100 (by decide) ?_
                exact ih hlt
              · rw [bI_ne0] at h75
                refine g_aload_n B dX4_close_78 rfl ?_
                refine g_aload_n B dX4_close_79 rfl ?_
                refine g_getr B ci_X3 (by first | rfl | assumption) rfl (by decide) fl_X4_74 dX4_close_80 ?_
                refine g_iload_n B dX4_close_83 rfl ?_
                refine g_iald B (by first | rfl | assumption) i rfl (by first | decide | omega | assumption) (by decide) dX4_close_84 ?_
                rw [c17]
                refine g_callVI B (ct_X3_hasClaim su_10 c9 _) (by first | rfl | assumption) rfl ml_X4_68 mm_X3_hasClaim rfl rfl (Nat.le_of_ble_eq_true rfl) dX4_close_85 (by decide) ?_
                rintro _ _ ⟨rfl, rfl⟩
                refine g_if_eq B 95 dX4_close_88 (by decide) (fun h88 => ?_) (fun h88 => ?_)
                · rw [bI_eq0] at h88
                  refine g_iconst B (v := 0) dX4_close_95 (by decide) ?_
                  refine g_eqi (bI ((cOK (2 ^ n) (D 10 12) && (decide (D 39 8 = 0) || cOK n (D 10 10))) && allF (fun i => cOK n (D 17 i)) (i + 1))) (by rw [allF, ← Bool.and_assoc, h75, h88]; rfl) ?_
                  refine g_istn2 B dX4_close_96 (by decide) rfl ?_
                  refine g_inc3 B dX4_close_97 rfl (inc1 _) (by decide) rfl ?_
                  refine g_goto B 66 dX4_close_100 (by decide) ?_
                  exact ih hlt
                · rw [bI_ne0] at h88
                  refine g_iconst B (v := 1) dX4_close_91 (by decide) ?_
                  refine g_goto B 96 dX4_close_92 (by decide) ?_
                  refine g_eqi (bI ((cOK (2 ^ n) (D 10 12) && (decide (D 39 8 = 0) || cOK n (D 10 10))) && allF (fun i => cOK n (D 17 i)) (i + 1))) (by rw [allF, ← Bool.and_assoc, h75, h88]; rfl) ?_
                  refine g_istn2 B dX4_close_96 (by decide) rfl ?_
                  refine g_inc3 B dX4_close_97 rfl (inc1 _) (by decide) rfl ?_
                  refine g_goto B 66 dX4_close_100 (by decide) ?_
                  exact ih hlt
          have l0 := L66 0 (Nat.zero_le _)
          rw [allF, Bool.and_true] at l0
          exact l0
        · rw [bI_ne0] at h37
          refine g_aload_n B dX4_close_40 rfl ?_
          refine g_geti B ci_X4 (by first | rfl | assumption) rfl (by decide) fl_X4_33 dX4_close_41 ?_
          rw [h39 8, h8]
          refine g_if_eq B 58 dX4_close_44 (by decide) (fun h44 => ?_) (fun h44 => ?_)
          · refine g_iconst B (v := 1) dX4_close_58 (by decide) ?_
            refine g_goto B 63 dX4_close_59 (by decide) ?_
            refine g_eqi (bI (cOK (2 ^ n) (D 10 12) && (decide (D 39 8 = 0) || cOK n (D 10 10)))) (by rw [h37, decide_eq_true h44]; rfl) ?_
            refine g_istn2 B dX4_close_63 (by decide) rfl ?_
            refine g_iconst B (v := 0) dX4_close_64 (by decide) ?_
            refine g_istn3 B dX4_close_65 (by decide) rfl ?_
            have L66 : ∀ i, i ≤ m → GW X 4 66 [some (.ref 39), some (.ref 10), some (.int (bI ((cOK (2 ^ n) (D 10 12) && (decide (D 39 8 = 0) || cOK n (D 10 10))) && allF (fun i => cOK n (D 17 i)) i))), some (.int (nI i))] [] V := by
              refine loopN m (fun i hi ih => ?_)
              refine g_iload_n B dX4_close_66 rfl ?_
              refine g_aload_n B dX4_close_67 rfl ?_
              refine g_geti B ci_X3 (by first | rfl | assumption) rfl (by decide) fl_X4_71 dX4_close_68 ?_
              rw [c13]
              refine g_icmp_ge B 103 dX4_close_71 (by decide) (fun h71 => ?_) (fun h71 => ?_)
              · have hi2 : i = m := by have := le_le (a := m) (b := i) (by omega) (by omega) h71; omega
                refine g_iload_n B dX4_close_103 rfl ?_
                refine g_if_ne B 118 dX4_close_104 (by decide) (fun h104 => ?_) (fun h104 => ?_)
                · rw [bI_ne0, hi2] at h104
                  exact g_vret B E dX4_close_118 (Or.inl ⟨h104, hDV, h39, hFV⟩)
                · rw [bI_eq0, hi2] at h104
                  refine g_aload_n B dX4_close_107 rfl ?_
                  refine g_bipush B (v := 6) dX4_close_108 (by decide) ?_
                  refine g_aload_n B dX4_close_110 rfl ?_
                  refine g_geti B ci_X4 (by first | rfl | assumption) rfl (by decide) fl_X4_15 dX4_close_111 ?_
                  rw [h39 1, hq]
                  refine g_callVI B (ct_X4_refuse _ _) (by first | rfl | assumption) rfl ml_X4_78 mm_X4_refuse rfl rfl (Nat.le_of_ble_eq_true rfl) dX4_close_114 (by decide) ?_
                  rintro _ _ ⟨rfl, rfl⟩
                  refine g_pop B dX4_close_117 rfl ?_
                  exact g_vret B E dX4_close_118 (Or.inr ⟨h104, rfl, rfl, by rw [w2_slot _ _ (by decide), w2_slot _ _ (by decide), h39 1, hq], frC_w2 (Or.inr ⟨rfl, by decide⟩) (frC_w2 (Or.inr ⟨rfl, by decide⟩) hFV)⟩)
              · have hlt : i < m := nle_lt (by omega) (by omega) h71
                refine g_iload_n B dX4_close_74 rfl ?_
                refine g_if_eq B 95 dX4_close_75 (by decide) (fun h75 => ?_) (fun h75 => ?_)
                · rw [bI_eq0] at h75
                  refine g_iconst B (v := 0) dX4_close_95 (by decide) ?_
                  refine g_eqi (bI ((cOK (2 ^ n) (D 10 12) && (decide (D 39 8 = 0) || cOK n (D 10 10))) && allF (fun i => cOK n (D 17 i)) (i + 1))) (by rw [allF, ← Bool.and_assoc, h75, Bool.false_and]; rfl) ?_
                  refine g_istn2 B dX4_close_96 (by decide) rfl ?_
                  refine g_inc3 B dX4_close_97 rfl (inc1 _) (by decide) rfl ?_
                  refine g_goto B 66 dX4_close_100 (by decide) ?_
                  exact ih hlt
                · rw [bI_ne0] at h75
                  refine g_aload_n B dX4_close_78 rfl ?_
                  refine g_aload_n B dX4_close_79 rfl ?_
                  refine g_getr B ci_X3 (by first | rfl | assumption) rfl (by decide) fl_X4_74 dX4_close_80 ?_
                  refine g_iload_n B dX4_close_83 rfl ?_
                  refine g_iald B (by first | rfl | assumption) i rfl (by first | decide | omega | assumption) (by decide) dX4_close_84 ?_
                  rw [c17]
                  refine g_callVI B (ct_X3_hasClaim su_10 c9 _) (by first | rfl | assumption) rfl ml_X4_68 mm_X3_hasClaim rfl rfl (Nat.le_of_ble_eq_true rfl) dX4_close_85 (by decide) ?_
                  rintro _ _ ⟨rfl, rfl⟩
                  refine g_if_eq B 95 dX4_close_88 (by decide) (fun h88 => ?_) (fun h88 => ?_)
                  · rw [bI_eq0] at h88
                    refine g_iconst B (v := 0) dX4_close_95 (by decide) ?_
                    refine g_eqi (bI ((cOK (2 ^ n) (D 10 12) && (decide (D 39 8 = 0) || cOK n (D 10 10))) && allF (fun i => cOK n (D 17 i)) (i + 1))) (by rw [allF, ← Bool.and_assoc, h75, h88]; rfl) ?_
                    refine g_istn2 B dX4_close_96 (by decide) rfl ?_
                    refine g_inc3 B dX4_close_97 rfl (inc1 _) (by decide) rfl ?_
                    refine g_goto B 66 dX4_close_100 (by decide) ?_
                    exact ih hlt
                  · rw [bI_ne0] at h88
                    refine g_iconst B (v := 1) dX4_close_91 (by decide) ?_
                    refine g_goto B 96 dX4_close_92 (by decide) ?_
                    refine g_eqi (bI ((cOK (2 ^ n) (D 10 12) && (decide (D 39 8 = 0) || cOK n (D 10 10))) && allF (fun i => cOK n (D 17 i)) (i + 1))) (by rw [allF, ← Bool.and_assoc, h75, h88]; rfl) ?_
                    refine g_istn2 B dX4_close_96 (by decide) rfl ?_
                    refine g_inc3 B dX4_close_97 rfl (inc1 _) (by decide) rfl ?_
                    refine g_goto B 66 dX4_close_100 (by decide) ?_
                    exact ih hlt
            have l0 := L66 0 (Nat.zero_le _)
            rw [allF, Bool.and_true] at l0
            exact l0
          · refine g_aload_n B dX4_close_47 rfl ?_
            refine g_aload_n B dX4_close_48 rfl ?_
            refine g_geti B ci_X3 (by first | rfl | assumption) rfl (by decide) fl_X4_58 dX4_close_49 ?_
            rw [c10 h44]
            refine g_callVI B (ct_X3_hasClaim su_10 c9 _) (by first | rfl | assumption) rfl ml_X4_68 mm_X3_hasClaim rfl rfl (Nat.le_of_ble_eq_true rfl) dX4_close_52 (by decide) ?_
            rintro _ _ ⟨rfl, rfl⟩
            refine g_if_eq B 62 dX4_close_55 (by decide) (fun h55 => ?_) (fun h55 => ?_)
            · rw [bI_eq0] at h55
              refine g_iconst B (v := 0) dX4_close_62 (by decide) ?_
              refine g_eqi (bI (cOK (2 ^ n) (D 10 12) && (decide (D 39 8 = 0) || cOK n (D 10 10)))) (by rw [h37, h55, decide_eq_false h44]; rfl) ?_
              refine g_istn2 B dX4_close_63 (by decide) rfl ?_
              refine g_iconst B (v := 0) dX4_close_64 (by decide) ?_
              refine g_istn3 B dX4_close_65 (by decide) rfl ?_
              have L66 : ∀ i, i ≤ m → GW X 4 66 [some (.ref 39), some (.ref 10), some (.int (bI ((cOK (2 ^ n) (D 10 12) && (decide (D 39 8 = 0) || cOK n (D 10 10))) && allF (fun i => cOK n (D 17 i)) i))), some (.int (nI i))] [] V := by
                refine loopN m (fun i hi ih => ?_)
                refine g_iload_n B dX4_close_66 rfl ?_
                refine g_aload_n B dX4_close_67 rfl ?_
                refine g_geti B ci_X3 (by first | rfl | assumption) rfl (by decide) fl_X4_71 dX4_close_68 ?_
                rw [c13]
                refine g_icmp_ge B 103 dX4_close_71 (by decide) (fun h71 => ?_) (fun h71 => ?_)
                · have hi2 : i = m := by have := le_le (a := m) (b := i) (by omega) (by omega) h71; omega
                  refine g_iload_n B dX4_close_103 rfl ?_
                  refine g_if_ne B 118 dX4_close_104 (by decide) (fun h104 => ?_) (fun h104 => ?_)
                  · rw [bI_ne0, hi2] at h104
                    exact g_vret B E dX4_close_118 (Or.inl ⟨h104, hDV, h39, hFV⟩)
                  · rw [bI_eq0, hi2] at h104
                    refine g_aload_n B dX4_close_107 rfl ?_
                    refine g_bipush B (v := 6) dX4_close_108 (by decide) ?_
                    refine g_aload_n B dX4_close_110 rfl ?_
                    refine g_geti B ci_X4 (by first | rfl | assumption) rfl (by decide) fl_X4_15 dX4_close_111 ?_
                    rw [h39 1, hq]
                    refine g_callVI B (ct_X4_refuse _ _) (by first | rfl | assumption) rfl ml_X4_78 mm_X4_refuse rfl rfl (Nat.le_of_ble_eq_true rfl) dX4_close_114 (by decide) ?_
                    rintro _ _ ⟨rfl, rfl⟩
                    refine g_pop B dX4_close_117 rfl ?_
                    exact g_vret B E dX4_close_118 (Or.inr ⟨h104, rfl, rfl, by rw [w2_slot _ _ (by decide), w2_slot _ _ (by decide), h39 1, hq], frC_w2 (Or.inr ⟨rfl, by decide⟩) (frC_w2 (Or.inr ⟨rfl, by decide⟩) hFV)⟩)
                · have hlt : i < m := nle_lt (by omega) (by omega) h71
                  refine g_iload_n B dX4_close_74 rfl ?_
                  refine g_if_eq B 95 dX4_close_75 (by decide) (fun h75 => ?_) (fun h75 => ?_)
                  · rw [bI_eq0] at h75
                    refine g_iconst B (v := 0) dX4_close_95 (by decide) ?_
                    refine g_eqi (bI ((cOK (2 ^ n) (D 10 12) && (decide (D 39 8 = 0) || cOK n (D 10 10))) && allF (fun i => cOK n (D 17 i)) (i + 1))) (by rw [allF, ← Bool.and_assoc, h75, Bool.false_and]; rfl) ?_
                    refine g_istn2 B dX4_close_96 (by decide) rfl ?_
                    refine g_inc3 B dX4_close_97 rfl (inc1 _) (by decide) rfl ?_
                    refine g_goto B 66 dX4_close_100 (by decide) ?_
                    exact ih hlt
                  · rw [bI_ne0] at h75
                    refine g_aload_n B dX4_close_78 rfl ?_
                    refine g_aload_n B dX4_close_79 rfl ?_
                    refine g_getr B ci_X3 (by first | rfl | assumption) rfl (by decide) fl_X4_74 dX4_close_80 ?_
                    refine g_iload_n B dX4_close_83 rfl ?_
                    refine g_iald B (by first | rfl | assumption) i rfl (by first | decide | omega | assumption) (by decide) dX4_close_84 ?_
                    rw [c17]
                    refine g_callVI B (ct_X3_hasClaim su_10 c9 _) (by first | rfl | assumption) rfl ml_X4_68 mm_X3_hasClaim rfl rfl (Nat.le_of_ble_eq_true rfl) dX4_close_85 (by decide) ?_
                    rintro _ _ ⟨rfl, rfl⟩
                    refine g_if_eq B 95 dX4_close_88 (by decide) (fun h88 => ?_) (fun h88 => ?_)
                    · rw [bI_eq0] at h88
                      refine g_iconst B (v := 0) dX4_close_95 (by decide) ?_
                      refine g_eqi (bI ((cOK (2 ^ n) (D 10 12) && (decide (D 39 8 = 0) || cOK n (D 10 10))) && allF (fun i => cOK n (D 17 i)) (i + 1))) (by rw [allF, ← Bool.and_assoc, h75, h88]; rfl) ?_
                      refine g_istn2 B dX4_close_96 (by decide) rfl ?_
                      refine g_inc3 B dX4_close_97 rfl (inc1 _) (by decide) rfl ?_
                      refine g_goto B 66 dX4_close_100 (by decide) ?_
                      exact ih hlt
                    · rw [bI_ne0] at h88
                      refine g_iconst B (v := 1) dX4_close_91 (by decide) ?_
                      refine g_goto B 96 dX4_close_92 (by decide) ?_
                      refine g_eqi (bI ((cOK (2 ^ n) (D 10 12) && (decide (D 39 8 = 0) || cOK n (D 10 10))) && allF (fun i => cOK n (D 17 i)) (i + 1))) (by rw [allF, ← Bool.and_assoc, h75, h88]; rfl) ?_
                      refine g_istn2 B dX4_close_96 (by decide) rfl ?_
                      refine g_inc3 B dX4_close_97 rfl (inc1 _) (by decide) rfl ?_
                      refine g_goto B 66 dX4_close_100 (by decide) ?_
                      exact ih hlt
              have l0 := L66 0 (Nat.zero_le _)
              rw [allF, Bool.and_true] at l0
              exact l0
            · rw [bI_ne0] at h55
              refine g_iconst B (v := 1) dX4_close_58 (by decide) ?_
              refine g_goto B 63 dX4_close_59 (by decide) ?_
              refine g_eqi (bI (cOK (2 ^ n) (D 10 12) && (decide (D 39 8 = 0) || cOK n (D 10 10)))) (by rw [h37, h55, Bool.or_true]; rfl) ?_
              refine g_istn2 B dX4_close_63 (by decide) rfl ?_
              refine g_iconst B (v := 0) dX4_close_64 (by decide) ?_
              refine g_istn3 B dX4_close_65 (by decide) rfl ?_
              have L66 : ∀ i, i ≤ m → GW X 4 66 [some (.ref 39), some (.ref 10), some (.int (bI ((cOK (2 ^ n) (D 10 12) && (decide (D 39 8 = 0) || cOK n (D 10 10))) && allF (fun i => cOK n (D 17 i)) i))), some (.int (nI i))] [] V := by
                refine loopN m (fun i hi ih => ?_)
                refine g_iload_n B dX4_close_66 rfl ?_
                refine g_aload_n B dX4_close_67 rfl ?_
                refine g_geti B ci_X3 (by first | rfl | assumption) rfl (by decide) fl_X4_71 dX4_close_68 ?_
                rw [c13]
                refine g_icmp_ge B 103 dX4_close_71 (by decide) (fun h71 => ?_) (fun h71 => ?_)
                · have hi2 : i = m := by have := le_le (a := m) (b := i) (by omega) (by omega) h71; omega
                  refine g_iload_n B dX4_close_103 rfl ?_
                  refine g_if_ne B 118 dX4_close_104 (by decide) (fun h104 => ?_) (fun h104 => ?_)
                  · rw [bI_ne0, hi2] at h104
                    exact g_vret B E dX4_close_118 (Or.inl ⟨h104, hDV, h39, hFV⟩)
                  · rw [bI_eq0, hi2] at h104
                    refine g_aload_n B dX4_close_107 rfl ?_
                    refine g_bipush B (v := 6) dX4_close_108 (by decide) ?_
                    refine g_aload_n B dX4_close_110 rfl ?_
                    refine g_geti B ci_X4 (by first | rfl | assumption) rfl (by decide) fl_X4_15 dX4_close_111 ?_
                    rw [h39 1, hq]
                    refine g_callVI B (ct_X4_refuse _ _) (by first | rfl | assumption) rfl ml_X4_78 mm_X4_refuse rfl rfl (Nat.le_of_ble_eq_true rfl) dX4_close_114 (by decide) ?_
                    rintro _ _ ⟨rfl, rfl⟩
                    refine g_pop B dX4_close_117 rfl ?_
                    exact g_vret B E dX4_close_118 (Or.inr ⟨h104, rfl, rfl, by rw [w2_slot _ _ (by decide), w2_slot _ _ (by decide), h39 1, hq], frC_w2 (Or.inr ⟨rfl, by decide⟩) (frC_w2 (Or.inr ⟨rfl, by decide⟩) hFV)⟩)
                · have hlt : i < m := nle_lt (by omega) (by omega) h71
                  refine g_iload_n B dX4_close_74 rfl ?_
                  refine g_if_eq B 95 dX4_close_75 (by decide) (fun h75 => ?_) (fun h75 => ?_)
                  · rw [bI_eq0] at h75
                    refine g_iconst B (v := 0) dX4_close_95 (by decide) ?_
                    refine g_eqi (bI ((cOK (2 ^ n) (D 10 12) && (decide (D 39 8 = 0) || cOK n (D 10 10))) && allF (fun i => cOK n (D 17 i)) (i + 1))) (by rw [allF, ← Bool.and_assoc, h75, Bool.false_and]; rfl) ?_
                    refine g_istn2 B dX4_close_96 (by decide) rfl ?_
                    refine g_inc3 B dX4_close_97 rfl (inc1 _) (by decide) rfl ?_
                    refine g_goto B 66 dX4_close_100 (by decide) ?_
                    exact ih hlt
                  · rw [bI_ne0] at h75
                    refine g_aload_n B dX4_close_78 rfl ?_
                    refine g_aload_n B dX4_close_79 rfl ?_
                    refine g_getr B ci_X3 (by first | rfl | assumption) rfl (by decide) fl_X4_74 dX4_close_80 ?_
                    refine g_iload_n B dX4_close_83 rfl ?_
                    refine g_iald B (by first | rfl | assumption) i rfl (by first | decide | omega | assumption) (by decide) dX4_close_84 ?_
                    rw [c17]
                    refine g_callVI B (ct_X3_hasClaim su_10 c9 _) (by first | rfl | assumption) rfl ml_X4_68 mm_X3_hasClaim rfl rfl (Nat.le_of_ble_eq_true rfl) dX4_close_85 (by decide) ?_
                    rintro _ _ ⟨rfl, rfl⟩
                    refine g_if_eq B 95 dX4_close_88 (by decide) (fun h88 => ?_) (fun h88 => ?_)
                    · rw [bI_eq0] at h88
                      refine g_iconst B (v := 0) dX4_close_95 (by decide) ?_
                      refine g_eqi (bI ((cOK (2 ^ n) (D 10 12) && (decide (D 39 8 = 0) || cOK n (D 10 10))) && allF (fun i => cOK n (D 17 i)) (i + 1))) (by rw [allF, ← Bool.and_assoc, h75, h88]; rfl) ?_
                      refine g_istn2 B dX4_close_96 (by decide) rfl ?_
                      refine g_inc3 B dX4_close_97 rfl (inc1 _) (by decide) rfl ?_
                      refine g_goto B 66 dX4_close_100 (by decide) ?_
                      exact ih hlt
                    · rw [bI_ne0] at h88
                      refine g_iconst B (v := 1) dX4_close_91 (by decide) ?_
                      refine g_goto B 96 dX4_close_92 (by decide) ?_
                      refine g_eqi (bI ((cOK (2 ^ n) (D 10 12) && (decide (D 39 8 = 0) || cOK n (D 10 10))) && allF (fun i => cOK n (D 17 i)) (i + 1))) (by rw [allF, ← Bool.and_assoc, h75, h88]; rfl) ?_
                      refine g_istn2 B dX4_close_96 (by decide) rfl ?_
                      refine g_inc3 B dX4_close_97 rfl (inc1 _) (by decide) rfl ?_
                      refine g_goto B 66 dX4_close_100 (by decide) ?_
                      exact ih hlt
              have l0 := L66 0 (Nat.zero_le _)
              rw [allF, Bool.and_true] at l0
              exact l0
      first | exact J29 _ (by rw [hcl]; exact hD) (fun _ => rfl) frC_0 | exact J29 _ (by rw [hcl]; exact hD.w2) (fun y => w2_cell _ _ (by decide)) (frC_w2 (Or.inl (by decide)) frC_0)
set_option maxHeartbeats 4000000 in
set_option maxRecDepth 100000 in
theorem ct_X4_tell {I : Wo} {b : Nat → Nat} {q : Nat} (hT : TB I b q) : Ct yX4_tell cX4_tell 4 (some .int) 10 218 [.ref 39, .ref 10] I (pI (fun r u => TlR I r u (txR b q (dr0 I)))) := by
  obtain ⟨hb, hq, hq6⟩ := id hT
  refine ct_of RX4 rfl (by decide) (Nat.le_of_ble_eq_true rfl) (fun X B E => ?_)
  show GW X 4 0 [some (.ref 39), some (.ref 10), none, none] [] _
  refine g_aload_n B dX4_tell_0 rfl ?_
  refine g_callVV B (ct_X3_empty su_10) (by first | rfl | assumption) rfl ml_X4_19 mm_X3_empty rfl rfl (Nat.le_of_ble_eq_true rfl) dX4_tell_1 (by decide) ?_
  rintro _ rfl
  refine g_aload_n B dX4_tell_4 rfl ?_
  refine g_iconst B (v := 0) dX4_tell_5 (by decide) ?_
  refine g_put B ci_X4 (by first | rfl | assumption) rfl (by decide) fl_X4_24 rfl rfl rfl dX4_tell_6 ?_
  refine g_aload_n B dX4_tell_9 rfl ?_
  refine g_iconst B (v := 0) dX4_tell_10 (by decide) ?_
  refine g_put B ci_X4 (by first | rfl | assumption) rfl (by decide) fl_X4_27 rfl rfl rfl dX4_tell_11 ?_
  refine g_aload_n B dX4_tell_14 rfl ?_
  refine g_iconst B (v := 0) dX4_tell_15 (by decide) ?_
  refine g_put B ci_X4 (by first | rfl | assumption) rfl (by decide) fl_X4_30 rfl rfl rfl dX4_tell_16 ?_
  refine g_aload_n B dX4_tell_19 rfl ?_
  refine g_iconst B (v := 0) dX4_tell_20 (by decide) ?_
  refine g_put B ci_X4 (by first | rfl | assumption) rfl (by decide) fl_X4_33 rfl (by first | rfl | decide | exact bI_nar _) (by first | rfl | decide | exact bI_fit _) dX4_tell_21 ?_
  refine g_aload_n B dX4_tell_24 rfl ?_
  refine g_iconst B (v := 0) dX4_tell_25 (by decide) ?_
  refine g_put B ci_X4 (by first | rfl | assumption) rfl (by decide) fl_X4_37 rfl (by first | rfl | decide | exact bI_nar _) (by first | rfl | decide | exact bI_fit _) dX4_tell_26 ?_
  generalize hu0 : w2 _ 39 9 0 = u0
  have hD0 : DE u0 (dr0 I) := by rw [← hu0]; exact de_0
  have hF0 : FrC I u0 := by rw [← hu0]; exact frC_tell
  have h02 : u0 39 2 = 0 := by rw [← hu0]; rfl
  have h06 : u0 39 6 = nI 0 := by rw [← hu0]; rfl
  refine g_iconst B (v := 0) dX4_tell_29 (by decide) ?_
  refine g_istn2 B dX4_tell_30 (by decide) rfl ?_
  refine g_iconst B (v := 0) dX4_tell_31 (by decide) ?_
  refine g_istn3 B dX4_tell_32 (by decide) rfl ?_
  have J74 : ∀ (V : Wo) k i, i ≤ 161 → k ≤ i → FrC I V → ((∃ e : Nat × Nat, tl b q 161 0 (dr0 I) 0 = .error e ∧ e.1 ≠ 0 ∧ e.1 < 8 ∧ V 39 2 = nI e.1 ∧ V 39 3 = nI e.2) ∨ (∃ (D : Wo) (n m : Nat), tl b q 161 0 (dr0 I) 0 = .ok (k, D) ∧ DIn D n m ∧ DE V D ∧ V 39 2 = 0)) → GW X 4 74 [some (.ref 39), some (.ref 10), some (.int (nI k)), some (.int (nI i))] [] V := by
    intro V k i hi hki hFV hV
    refine g_aload_n B dX4_tell_74 rfl ?_
    refine g_geti B ci_X4 (by first | rfl | assumption) rfl (by decide) fl_X4_24 dX4_tell_75 ?_
    refine g_if_ne B 86 dX4_tell_78 (by decide) (fun h78 => ?_) (fun h78 => ?_)
    · obtain ⟨e, he, e0, e8, e2, e3⟩ := hV.resolve_right (fun ⟨_, _, _, _, _, _, z⟩ => h78 z)
      refine g_aload_n B dX4_tell_86 rfl ?_
      refine g_iconst B (v := 0) dX4_tell_87 (by decide) ?_
      refine g_put B ci_X4 (by first | rfl | assumption) rfl (by decide) fl_X4_15 rfl rfl rfl dX4_tell_88 ?_
      refine g_iload_n B dX4_tell_91 rfl ?_
      exact g_iret B E rfl dX4_tell_92 (tlr_e he e0 e8 e2 e3 hFV)
    · obtain ⟨D, n, m, hk, hI, hDV, -⟩ := hV.resolve_left (fun ⟨e, _, e0, e8, z, _⟩ => by rw [h78, show (0 : Int32) = nI 0 from rfl, nI_eq (by decide) (by omega)] at z; exact e0 z.symm)
      have hqV := (hT.frC hFV).2.1
      refine g_aload_n B dX4_tell_81 rfl ?_
      refine g_aload_n B dX4_tell_82 rfl ?_
      refine g_callVV B (ct_X4_close hqV hDV hI) (by first | rfl | assumption) rfl ml_X4_51 mm_X4_close rfl rfl (Nat.le_of_ble_eq_true rfl) dX4_tell_83 (by decide) ?_
      rintro u hu
      refine g_aload_n B dX4_tell_86 rfl ?_
      refine g_iconst B (v := 0) dX4_tell_87 (by decide) ?_
      refine g_put B ci_X4 (by first | rfl | assumption) rfl (by decide) fl_X4_15 rfl rfl rfl dX4_tell_88 ?_
      refine g_iload_n B dX4_tell_91 rfl ?_
      exact g_iret B E rfl dX4_tell_92 (tlr_o hk hI h78 hu hFV)
  have L33 : ∀ i, i ≤ 161 → ∀ (W : Wo) p2 D k n m, k ≤ i → W 39 6 = nI p2 → p2 ≤ q → q < p2 + (161 - i) → DE W D → DIn D n m → W 39 2 = 0 → FrC I W → tl b q (161 - i) p2 D k = tl b q 161 0 (dr0 I) 0 → GW X 4 33 [some (.ref 39), some (.ref 10), some (.int (nI k)), some (.int (nI i))] [] W := by
    refine loopN 161 (fun i hi ih W p2 D k n m hki hp2 hpq2 hfu hDW hI w2' hFW hR => ?_)
    have hTW := hT.frC hFW
    have hK4 := tK_le b q p2
    have hE1 := tE_ge b hpq2
    refine g_iload_n B dX4_tell_33 rfl ?_
    refine g_sipush B (v := 160) dX4_tell_34 (by decide) ?_
    refine g_icmp_gt B 74 dX4_tell_37 (by decide) (fun h37 => ?_) (fun h37 => ?_)
    · exfalso
      have := lt_lt (a := 160) (b := i) (by decide) (by omega) h37
      omega
    · have hlt : i < 161 := by have := nlt_le (a := 160) (b := i) (by decide) (by omega) h37; omega
      refine g_aload_n B dX4_tell_40 rfl ?_
      refine g_callVI B (ct_X4_readToken hTW hp2 hpq2) (by first | rfl | assumption) rfl ml_X4_40 mm_X4_readToken rfl rfl (Nat.le_of_ble_eq_true rfl) dX4_tell_41 (by decide) ?_
      rintro _ _ (⟨hB, rfl, f2, f3, hF⟩ | ⟨hB, rfl, g4, g5, g6, g7, g2, g3, hF⟩)
      · refine g_if_eq B 74 dX4_tell_44 (by decide) (fun h44 => ?_) (fun h44 => ?_)
        · refine J74 _ _ _ hi hki (hFW.trans hF.c) (Or.inl ⟨(1, tS b q p2), ?_, (er8 rfl).1, (er8 rfl).2, f2, f3⟩)
          rw [← hR, show 161 - i = (161 - (i + 1)) + 1 by omega, tl, if_pos hB]
        · exact absurd rfl h44
      · refine g_if_eq B 74 dX4_tell_44 (by decide) (fun h44 => ?_) (fun h44 => ?_)
        · exact absurd h44 (by decide)
        · refine g_aload_n B dX4_tell_47 rfl ?_
          refine g_geti B ci_X4 (by first | rfl | assumption) rfl (by decide) fl_X4_44 dX4_tell_48 ?_
          rw [g4]
          refine g_if_eq B 74 dX4_tell_51 (by decide) (fun h51 => ?_) (fun h51 => ?_)
          · rw [show (0 : Int32) = nI 0 from rfl, nI_eq (by omega) (by decide)] at h51
            refine J74 _ _ _ hi hki (hFW.trans hF.c) (Or.inr ⟨D, n, m, ?_, hI, hF.de hDW, g2.trans w2'⟩)
            rw [← hR, show 161 - i = (161 - (i + 1)) + 1 by omega, tl, if_neg (by rw [hB]; decide), if_pos h51]
          · rw [show (0 : Int32) = nI 0 from rfl, nI_eq (by omega) (by decide)] at h51
            refine g_aload_n B dX4_tell_54 rfl ?_
            refine g_aload_n B dX4_tell_55 rfl ?_
            refine g_callVI B (ct_X4_readLine (hTW.frC hF.c) hpq2 g4 g5 g6 (hF.de hDW) hI) (by first | rfl | assumption) rfl ml_X4_47 mm_X4_readLine rfl rfl (Nat.le_of_ble_eq_true rfl) dX4_tell_56 (by decide) ?_
            intro r u hu
            refine g_if_ne B 65 dX4_tell_59 (by decide) (fun h59 => ?_) (fun h59 => ?_)
            · obtain ⟨x, hx, hu⟩ := cr_ne hu h59
              obtain ⟨n2, m2, hI2, ha⟩ := ln_ok hpq2 hI h51 hx
              refine g_inc2 B dX4_tell_65 rfl (inc1 _) (by decide) rfl ?_
              refine g_inc3 B dX4_tell_68 rfl (inc1 _) (by decide) rfl ?_
              refine g_goto B 33 dX4_tell_71 (by decide) ?_
              exact ih hlt _ x.1 x.2 (k + 1) n2 m2 (by omega) hu.2.1 ha.2 (by omega) hu.2.2.2.2.1 hI2 (hu.2.2.1.trans (g2.trans w2')) (hFW.trans (hF.c.trans hu.2.2.2.2.2)) (by rw [← hR, show 161 - i = (161 - (i + 1)) + 1 by omega, tl, if_neg (by rw [hB]; decide), if_neg h51, dn_eq hI, dm_eq hI, hx])
            · obtain ⟨e, hx, hu⟩ := cr_eq hu h59
              refine g_goto B 74 dX4_tell_62 (by decide) ?_
              refine J74 _ _ _ hi hki (hFW.trans (hF.c.trans hu.2.2.2)) (Or.inl ⟨e, ?_, (ln_er hx).1, (ln_er hx).2, hu.2.1, hu.2.2.1⟩)
              rw [← hR, show 161 - i = (161 - (i + 1)) + 1 by omega, tl, if_neg (by rw [hB]; decide), if_neg h51, dn_eq hI, dm_eq hI, hx]
  exact L33 0 (Nat.zero_le _) _ 0 _ 0 0 0 (Nat.le_refl _) h06 (Nat.zero_le _) (by omega) hD0 din_0 h02 hF0 rfl
set_option maxHeartbeats 4000000 in
set_option maxRecDepth 100000 in
theorem ct_X6_text {I : Wo} {b : Nat → Nat} {q : Nat} (hT : TB I b q) : Ct yX6_text cX6_text 3 (some .int) 11 241 [.ref 0] I (pI (fun r u => TxR I r u (txR b q (dr0 I)))) := by
  refine ct_of RX6 rfl (by decide) (Nat.le_of_ble_eq_true rfl) (fun X B E => ?_)
  show GW X 3 0 [some (.ref 0), none, none] [] _
  refine g_aload_n B dX6_text_0 rfl ?_
  refine g_getr B ci_X6 (by first | rfl | assumption) rfl (by decide) fl_X6_30 dX6_text_1 ?_
  refine g_aload_n B dX6_text_4 rfl ?_
  refine g_getr B ci_X6 (by first | rfl | assumption) rfl (by decide) fl_X6_16 dX6_text_5 ?_
  refine g_callVI B (ct_X4_tell hT) (by first | rfl | assumption) rfl ml_X6_78 mm_X4_tell rfl rfl (Nat.le_of_ble_eq_true rfl) dX6_text_8 (by decide) ?_
  rintro r u hu
  refine g_istn1 B dX6_text_11 (by decide) rfl ?_
  refine g_aload_n B dX6_text_12 rfl ?_
  refine g_aload_n B dX6_text_13 rfl ?_
  refine g_getr B ci_X6 (by first | rfl | assumption) rfl (by decide) fl_X6_30 dX6_text_14 ?_
  refine g_geti B ci_X4 (by first | rfl | assumption) rfl (by decide) fl_X6_82 dX6_text_17 ?_
  generalize hf9 : u 39 2 = f9
  refine g_put B ci_X6 (by first | rfl | assumption) rfl (by decide) fl_X6_85 rfl rfl rfl dX6_text_20 ?_
  refine g_aload_n B dX6_text_23 rfl ?_
  refine g_geti B ci_X6 (by first | rfl | assumption) rfl (by decide) fl_X6_85 dX6_text_24 ?_
  rw [show w2 u 0 10 f9 0 10 = f9 from w2_same _ _ _ _]
  refine g_if_eq B 41 dX6_text_27 (by decide) (fun h27 => ?_) (fun h27 => ?_)
  · obtain ⟨k, D, hk, rfl, ho⟩ := hu.ok (hf9.trans h27)
    refine g_aload_n B dX6_text_41 rfl ?_
    refine g_getr B ci_X6 (by first | rfl | assumption) rfl (by decide) fl_X6_10 dX6_text_42 ?_
    refine g_aload_n B dX6_text_45 rfl ?_
    refine g_getr B ci_X6 (by first | rfl | assumption) rfl (by decide) fl_X6_16 dX6_text_46 ?_
    refine g_callVV B (ct_X3_become su_1 su_10 (by decide)) (by first | rfl | assumption) rfl ml_X6_91 mm_X3_become rfl rfl (Nat.le_of_ble_eq_true rfl) dX6_text_49 (by decide) ?_
    rintro v hv
    refine g_iconst B (v := 0) dX6_text_52 (by decide) ?_
    refine g_istn2 B dX6_text_53 (by decide) rfl ?_
    have L54 : ∀ i, i ≤ 2 → ∀ (V : Wo), (∀ j, j < i → V 38 j = 0) → (∀ x y, x ≠ 38 → V x y = v x y) → GW X 3 54 [some (.ref 0), some (.int (nI k)), some (.int (nI i))] [] V := by
      refine loopN 2 (fun i hi ih V hk0 hVv => ?_)
      refine g_iload_n B dX6_text_54 rfl ?_
      refine g_iconst B (v := 2) dX6_text_55 (by decide) ?_
      refine g_icmp_ge B 72 dX6_text_56 (by decide) (fun h56 => ?_) (fun h56 => ?_)
      · have hi2 : i = 2 := by have := le_le (a := 2) (b := i) (by decide) (by omega) h56; omega
        refine g_iload_n B dX6_text_72 rfl ?_
        exact g_iret B E rfl dX6_text_73 (by rw [hk]; exact txr_o ho hv (by rw [← h27]) hVv (fun j hj => hk0 j (by omega)))
      · have hlt : i < 2 := nle_lt (a := 2) (by decide) (by omega) h56
        refine g_aload_n B dX6_text_59 rfl ?_
        refine g_getr B ci_X6 (by first | rfl | assumption) rfl (by decide) fl_X6_23 dX6_text_60 ?_
        refine g_iload_n B dX6_text_63 rfl ?_
        refine g_iconst B (v := 0) dX6_text_64 (by decide) ?_
        refine g_zast B (by first | rfl | assumption) i rfl (by omega) (by decide) dX6_text_65 ?_
        refine g_inc2 B dX6_text_66 rfl (inc1 _) (by decide) rfl ?_
        refine g_goto B 54 dX6_text_69 (by decide) ?_
        refine ih hlt _ (fun j hj => ?_) (fun x y h => by rw [w2_cell _ _ h]; exact hVv x y h)
        by_cases e : j = i
        · subst e; rw [w2_same]; rfl
        · rw [w2_slot _ _ e]; exact hk0 j (by omega)
    exact L54 0 (Nat.zero_le _) _ (fun j h => absurd h (Nat.not_lt_zero j)) (fun _ _ _ => rfl)
  · obtain ⟨e, he, hu⟩ := hu.er (fun z => h27 (hf9.symm.trans z))
    refine g_bipush B (v := (-10)) dX6_text_30 (by decide) ?_
    refine g_aload_n B dX6_text_32 rfl ?_
    refine g_getr B ci_X6 (by first | rfl | assumption) rfl (by decide) fl_X6_30 dX6_text_33 ?_
    refine g_geti B ci_X4 (by first | rfl | assumption) rfl (by decide) fl_X6_88 dX6_text_36 ?_
    rw [show w2 u 0 10 f9 39 3 = u 39 3 from w2_cell _ _ (by decide)]
    refine g_isub B dX6_text_39 ?_
    exact g_iret B E rfl dX6_text_40 (by rw [he]; exact ⟨by rw [hu.2.2.1], by rw [w2_same, ← hf9]; exact hu.2.1, by rw [w2_cell _ _ (by decide)]; exact hu.1, fun x y h1 h2 h3 => by rw [show w2 u 0 10 f9 x y = u x y from if_neg h3]; exact hu.2.2.2 x y h1 h2⟩)

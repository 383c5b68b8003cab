/-! what the methods' contracts speak of -/
def wi (v lo hi : Int32) : Bool := !decide (v < lo) && !decide (hi < v)
def wiL (v lo hi : Int64) : Bool := !decide (v < lo) && !decide (hi < v)
def cOK (n : Nat) (c : Int32) : Bool := !decide (c < 0) && !decide (nI n ≤ c)
def inT (f t d : Int32) : Bool := !decide (d < f) && !decide (t < d)
def esF (n : Nat) (L F : Nat → Int32) (e set : Int32) : Bool := cOK n e && decide ((stF L F set n >>> (e &&& 31)) &&& 1 = 1)
theorem fa_lt9 (a b : Int32) : a < b ↔ a.toInt < b.toInt := Int32.lt_iff_toInt_lt
theorem fa_le9 (a b : Int32) : a ≤ b ↔ a.toInt ≤ b.toInt := Int32.le_iff_toInt_le
theorem wide_lt (a b : Int32) : a.toInt64 < b.toInt64 ↔ a < b := by
  rw [Int64.lt_iff_toInt_lt, Int32.toInt_toInt64, Int32.toInt_toInt64, Int32.lt_iff_toInt_lt]
theorem wiL_wide (a b c : Int32) : wiL a.toInt64 b.toInt64 c.toInt64 = wi a b c := by
  simp only [wiL, wi, wide_lt]
theorem cmp_lt (x y : Int64) : lg_cmp x y < 0 ↔ x < y := by
  unfold lg_cmp
  by_cases h1 : x > y
  · rw [if_pos h1]
    have h2 : ¬ x < y := fun q => Int64.lt_irrefl (Int64.lt_trans h1 q)
    exact ⟨fun q => absurd q (by decide), fun q => absurd q h2⟩
  · rw [if_neg h1]
    by_cases h2 : x = y
    · rw [if_pos h2]; subst h2
      exact ⟨fun q => absurd q (by decide), fun q => absurd q Int64.lt_irrefl⟩
    · rw [if_neg h2]
      exact ⟨fun _ => by
        rw [gt_iff_lt, Int64.lt_iff_toInt_lt] at h1
        rw [Int64.lt_iff_toInt_lt]
        have : x.toInt ≠ y.toInt := fun q => h2 (Int64.toInt_inj.mp q)
        omega, fun _ => by decide⟩
theorem cmp_gt (x y : Int64) : 0 < lg_cmp x y ↔ y < x := by
  unfold lg_cmp
  by_cases h1 : x > y
  · rw [if_pos h1]; exact ⟨fun _ => h1, fun _ => by decide⟩
  · rw [if_neg h1]
    by_cases h2 : x = y
    · rw [if_pos h2]; exact ⟨fun q => absurd q (by decide), fun q => absurd q h1⟩
    · rw [if_neg h2]; exact ⟨fun q => absurd q (by decide), fun q => absurd q h1⟩
theorem n8 {n : Nat} (h : n ≤ 8) : n = 0 ∨ n = 1 ∨ n = 2 ∨ n = 3 ∨ n = 4 ∨ n = 5 ∨ n = 6 ∨ n = 7 ∨ n = 8 := by omega
theorem shl1 {n : Nat} (h : n ≤ 8) : (1 : Int32) <<< (nI n &&& 31) = nI (2 ^ n) := by
  rcases n8 h with rfl | rfl | rfl | rfl | rfl | rfl | rfl | rfl | rfl <;> decide
theorem cOK_iff {n : Nat} (hn : n < 2 ^ 31) {c : Int32} : cOK n c = true ↔ ∃ j, j < n ∧ c = nI j := by
  simp only [cOK, Bool.and_eq_true, Bool.not_eq_true', decide_eq_false_iff_not]
  constructor
  · rintro ⟨h1, h2⟩
    obtain ⟨j, hj, rfl⟩ := nI_of h1
    exact ⟨j, nle_lt hn hj h2, rfl⟩
  · rintro ⟨j, hj, rfl⟩
    exact ⟨nI_pos (by omega), nI_ge hj hn⟩
theorem cOK_pred {n : Nat} (hn : n ≤ 8) (c : Int32) : wi c 0 (nI n - 1) = cOK n c := by
  have e : (nI n - 1 < c) ↔ nI n ≤ c := by
    rw [fa_lt9, fa_le9]
    rcases n8 hn with rfl | rfl | rfl | rfl | rfl | rfl | rfl | rfl | rfl
    · rw [show (nI 0 - 1).toInt = -1 by decide, show (nI 0).toInt = 0 by decide]; omega
    · rw [show (nI 1 - 1).toInt = 0 by decide, show (nI 1).toInt = 1 by decide]; omega
    · rw [show (nI 2 - 1).toInt = 1 by decide, show (nI 2).toInt = 2 by decide]; omega
    · rw [show (nI 3 - 1).toInt = 2 by decide, show (nI 3).toInt = 3 by decide]; omega
    · rw [show (nI 4 - 1).toInt = 3 by decide, show (nI 4).toInt = 4 by decide]; omega
    · rw [show (nI 5 - 1).toInt = 4 by decide, show (nI 5).toInt = 5 by decide]; omega
    · rw [show (nI 6 - 1).toInt = 5 by decide, show (nI 6).toInt = 6 by decide]; omega
    · rw [show (nI 7 - 1).toInt = 6 by decide, show (nI 7).toInt = 7 by decide]; omega
    · rw [show (nI 8 - 1).toInt = 7 by decide, show (nI 8).toInt = 8 by decide]; omega
  simp only [wi, cOK, e]
theorem sOK_pred {n : Nat} (hn : n ≤ 8) (c : Int32) : wi c 0 (nI (2 ^ n) - 1) = cOK (2 ^ n) c := by
  have e : (nI (2 ^ n) - 1 < c) ↔ nI (2 ^ n) ≤ c := by
    rw [fa_lt9, fa_le9]
    rcases n8 hn with rfl | rfl | rfl | rfl | rfl | rfl | rfl | rfl | rfl
    · rw [show (nI (2 ^ 0) - 1).toInt = 0 by decide, show (nI (2 ^ 0)).toInt = 1 by decide]; omega
    · rw [show (nI (2 ^ 1) - 1).toInt = 1 by decide, show (nI (2 ^ 1)).toInt = 2 by decide]; omega
    · rw [show (nI (2 ^ 2) - 1).toInt = 3 by decide, show (nI (2 ^ 2)).toInt = 4 by decide]; omega
    · rw [show (nI (2 ^ 3) - 1).toInt = 7 by decide, show (nI (2 ^ 3)).toInt = 8 by decide]; omega
    · rw [show (nI (2 ^ 4) - 1).toInt = 15 by decide, show (nI (2 ^ 4)).toInt = 16 by decide]; omega
    · rw [show (nI (2 ^ 5) - 1).toInt = 31 by decide, show (nI (2 ^ 5)).toInt = 32 by decide]; omega
    · rw [show (nI (2 ^ 6) - 1).toInt = 63 by decide, show (nI (2 ^ 6)).toInt = 64 by decide]; omega
    · rw [show (nI (2 ^ 7) - 1).toInt = 127 by decide, show (nI (2 ^ 7)).toInt = 128 by decide]; omega
    · rw [show (nI (2 ^ 8) - 1).toInt = 255 by decide, show (nI (2 ^ 8)).toInt = 256 by decide]; omega
  simp only [wi, cOK, e]
theorem bI_fit (b : Bool) : fits .boolean (.int (bI b)) = true := by cases b <;> rfl
/-- how many of the lowest k bits are set -/
def bcF (x : Int32) : Nat → Int32
  | 0 => 0
  | k + 1 => bcF x k + ((x >>> (nI k &&& 31)) &&& 1)
def bc8 (x : Int32) : Int32 := bcF x 8

/-! the numbers of sets -/
theorem nI_or (a b : Nat) : nI a ||| nI b = nI (a ||| b) := by
  apply Int32.toBitVec_inj.mp
  show BitVec.ofNat 32 a ||| BitVec.ofNat 32 b = BitVec.ofNat 32 (a ||| b)
  apply BitVec.eq_of_getLsbD_eq
  intro i hi
  simp [BitVec.getLsbD_or, BitVec.getLsbD_ofNat, hi]
theorem nI_and (a b : Nat) : nI a &&& nI b = nI (a &&& b) := by
  apply Int32.toBitVec_inj.mp
  show BitVec.ofNat 32 a &&& BitVec.ofNat 32 b = BitVec.ofNat 32 (a &&& b)
  apply BitVec.eq_of_getLsbD_eq
  intro i hi
  simp [BitVec.getLsbD_and, BitVec.getLsbD_ofNat, hi]
theorem stF_bd (L F : Nat → Int32) (set : Int32) : ∀ n, n ≤ 8 → ∃ k, k < 2 ^ n ∧ stF L F set n = nI k
  | 0, _ => ⟨0, by decide, rfl⟩
  | n + 1, h => by
    obtain ⟨k, hk, e⟩ := stF_bd L F set n (by omega)
    have h2 : 2 ^ n < 2 ^ (n + 1) := by rw [Nat.pow_succ]; have := Nat.two_pow_pos n; omega
    rw [stF]
    split
    · rw [e, shl1 (by omega), nI_or]
      exact ⟨k ||| 2 ^ n, Nat.or_lt_two_pow (by omega) h2, rfl⟩
    · rw [e]; exact ⟨k, by omega, rfl⟩
theorem pow8 {n : Nat} (h : n ≤ 8) : 2 ^ n ≤ 256 := by
  rcases n8 h with rfl | rfl | rfl | rfl | rfl | rfl | rfl | rfl | rfl <;> decide
theorem bc_st (L F : Nat → Int32) (set : Int32) {n : Nat} (h : n ≤ 8) : bcJ (stF L F set n) = bc8 (stF L F set n) := by
  obtain ⟨k, hk, e⟩ := stF_bd L F set n h
  rw [e]
  exact bcJ_8 (Nat.lt_of_lt_of_le hk (pow8 h))
theorem stF_congr {L L' F F' : Nat → Int32} {set : Int32} : ∀ {n : Nat}, (∀ c, c < n → L c = L' c) → (∀ c, c < n → F c = F' c) → stF L F set n = stF L' F' set n
  | 0, _, _ => rfl
  | n + 1, h1, h2 => by
    rw [stF, stF, stF_congr (fun c hc => h1 c (by omega)) (fun c hc => h2 c (by omega)), h1 n (by omega), h2 n (by omega)]
theorem esF_congr {L L' F F' : Nat → Int32} {e set : Int32} {n : Nat} (h1 : ∀ c, c < n → L c = L' c) (h2 : ∀ c, c < n → F c = F' c) : esF n L F e set = esF n L' F' e set := by
  rw [esF, esF, stF_congr h1 h2]
/-! what ties the class to the reference, in the world I -/
def Bd (x : Int32) (m : Nat) : Prop := ∃ k, k < m ∧ x = nI k
def SR (I : Wo) (b o n : Nat) : Prop :=
  I b 9 = nI n ∧ (∀ c, c < n → I 58 (o + c) = I (b + 5) c ∧ Bd (I (b + 5) c) (2 ^ c)) ∧ (∀ c, c < n → I 58 (o + (8 + c)) = I (b + 6) c) ∧ (∀ c, c < n → I 58 (o + (16 + c)) = I (b + 4) c) ∧
  (I 58 (o + 24) = I b 12 ∧ Bd (I b 12) (2 ^ n)) ∧ (I 58 (o + 25) = I b 10 ∧ ((n = 0 ∧ I b 10 = -4) ∨ Bd (I b 10) n)) ∧ (I 58 (o + 26) = I b 11 ∧ Bd (I b 11) 10) ∧
  (∃ q, q ≤ 6 ∧ I b 13 = nI q ∧ I 58 (o + 27) = nI q ∧ ∀ i, i < q → I 58 (o + (28 + i)) = I (b + 7) i ∧ Bd (I (b + 7) i) n) ∧
  (∃ q, q ≤ 6 ∧ I b 14 = nI q ∧ I 58 (o + 34) = nI q ∧ ∀ i, i < q → I 58 (o + (35 + 2 * i)) = I (b + 8) i ∧ Bd (I (b + 8) i) (2 ^ n) ∧ I 58 (o + (36 + 2 * i)) = (I b 8 >>> (nI i &&& 31)) &&& 1)
def TR (I : Wo) (b n : Nat) : Prop := ∀ c, c < n → I 60 c = I (b + 1) c ∧ I 61 c = I (b + 2) c ∧ I 62 c = I (b + 3) c ∧ Bd (I (b + 3) c) 10
def ShR (I : Wo) (k : Nat) : Prop := (I (42 + 2 * k) 2 = -1 ∧ I 70 k = -4) ∨ (∃ z, z ≤ 40 ∧ I (42 + 2 * k) 2 = nI z ∧ I 71 k = nI z ∧ I 70 k = I (42 + 2 * k) 1 ∧ Bd (I (42 + 2 * k) 1) 3 ∧ ∀ i, i < 40 → I 72 (40 * k + i) = I (43 + 2 * k) i)
def TpR (I : Wo) : Prop := ∃ q, q ≤ 160 ∧ I 39 1 = nI q ∧ I 57 14 = nI q ∧ ∀ i, i < q → I 67 i = I 40 i ∧ Bd (I 40 i) 128
def ImR (I : Wo) (n k : Nat) : Prop := I 59 k = I 38 k ∧ (I 38 k = 0 ∨ (I 38 k = 1 ∧ SR I (20 + 9 * k) (47 * (k + 1)) n ∧ TR I (20 + 9 * k) n))
def InvN (I : Wo) (n : Nat) : Prop := n ≤ 8 ∧ I 57 2 = nI n ∧ SR I 1 0 n ∧ TR I 1 n ∧ (∀ k, k < 2 → ImR I n k) ∧ TpR I ∧ I 57 19 = I 0 10 ∧ I 57 28 = I 0 11 ∧ (∀ k, k < 4 → ShR I k)
def Inv (I : Wo) : Prop := ∃ n, InvN I n
/-- suit b and its rows, and what the reference keeps at o, are the same in both worlds -/
def Ag (I u : Wo) (b o : Nat) : Prop := (∀ a j, b ≤ a → a ≤ b + 8 → u a j = I a j) ∧ (∀ j, o ≤ j → j < o + 47 → u 58 j = I 58 j)
theorem SR.frame {I u : Wo} {b o n : Nat} (hn : n ≤ 8) (h : Ag I u b o) (s : SR I b o n) : SR u b o n := by
  obtain ⟨h1, h2⟩ := h
  obtain ⟨s1, s2, s3, s4, s5, s6, s7, ⟨q, p1, p2, p3, p4⟩, ⟨q', r1, r2, r3, r4⟩⟩ := s
  refine ⟨?_, fun c hc => ?_, fun c hc => ?_, fun c hc => ?_, ⟨?_, ?_⟩, ⟨?_, ?_⟩, ⟨?_, ?_⟩, ⟨q, p1, ?_, ?_, fun i hi => ?_⟩, ⟨q', r1, ?_, ?_, fun i hi => ?_⟩⟩
  · rw [h1 b _ (by omega) (by omega)]; exact s1
  · rw [h2 _ (by omega) (by omega), h1 _ _ (by omega) (by omega)]; exact s2 c hc
  · rw [h2 _ (by omega) (by omega), h1 _ _ (by omega) (by omega)]; exact s3 c hc
  · rw [h2 _ (by omega) (by omega), h1 _ _ (by omega) (by omega)]; exact s4 c hc
  · rw [h2 _ (by omega) (by omega), h1 _ _ (by omega) (by omega)]; exact s5.1
  · rw [h1 _ _ (by omega) (by omega)]; exact s5.2
  · rw [h2 _ (by omega) (by omega), h1 _ _ (by omega) (by omega)]; exact s6.1
  · rw [h1 _ _ (by omega) (by omega)]; exact s6.2
  · rw [h2 _ (by omega) (by omega), h1 _ _ (by omega) (by omega)]; exact s7.1
  · rw [h1 _ _ (by omega) (by omega)]; exact s7.2
  · rw [h1 _ _ (by omega) (by omega)]; exact p2
  · rw [h2 _ (by omega) (by omega)]; exact p3
  · rw [h2 _ (by omega) (by omega), h1 _ _ (by omega) (by omega)]; exact p4 i hi
  · rw [h1 _ _ (by omega) (by omega)]; exact r2
  · rw [h2 _ (by omega) (by omega)]; exact r3
  · rw [h2 _ (by omega) (by omega), h2 _ (by omega) (by omega), h1 _ _ (by omega) (by omega), h1 _ _ (by omega) (by omega)]; exact r4 i hi
theorem TR.frame {I u : Wo} {b n : Nat} (h : ∀ a j, b ≤ a → a ≤ b + 8 → u a j = I a j) (h2 : ∀ a j, 60 ≤ a → a ≤ 62 → u a j = I a j) (s : TR I b n) : TR u b n := by
  intro c hc
  rw [h2 60 _ (by omega) (by omega), h2 61 _ (by omega) (by omega), h2 62 _ (by omega) (by omega), h _ _ (by omega) (by omega), h _ _ (by omega) (by omega), h _ _ (by omega) (by omega)]
  exact s c hc
/-- cells and slots that tie nothing -/
def scr (k j : Nat) : Prop := (10 ≤ k ∧ k ≤ 18) ∨ (k = 39 ∧ j ≠ 1) ∨ (50 ≤ k ∧ k ≤ 56) ∨ (k = 57 ∧ j ≠ 2 ∧ j ≠ 14 ∧ j ≠ 19 ∧ j ≠ 28) ∨ (63 ≤ k ∧ k ≤ 66) ∨ k = 68 ∨ k = 69
theorem ImR.frame {I u : Wo} {n k : Nat} (hn : n ≤ 8) (hk : k < 2) (h38 : u 38 k = I 38 k) (h59 : u 59 k = I 59 k) (ha : Ag I u (20 + 9 * k) (47 * (k + 1))) (ht : ∀ a j, 60 ≤ a → a ≤ 62 → u a j = I a j) (s : ImR I n k) : ImR u n k := by
  obtain ⟨s1, s2⟩ := s
  refine ⟨by rw [h38, h59]; exact s1, ?_⟩
  rw [h38]
  rcases s2 with s2 | ⟨s2, s3, s4⟩
  · exact Or.inl s2
  · exact Or.inr ⟨s2, s3.frame hn ha, s4.frame ha.1 ht⟩
theorem ShR.frame {I u : Wo} {k : Nat} (hk : k < 4) (h : ∀ a j, 42 ≤ a → a ≤ 49 → u a j = I a j) (h2 : ∀ a j, 70 ≤ a → a ≤ 72 → u a j = I a j) (s : ShR I k) : ShR u k := by
  rcases s with ⟨s1, s2⟩ | ⟨z, z1, z2, z3, z4, z5, z6⟩
  · exact Or.inl ⟨by rw [h _ _ (by omega) (by omega)]; exact s1, by rw [h2 _ _ (by omega) (by omega)]; exact s2⟩
  · refine Or.inr ⟨z, z1, ?_, ?_, ?_, ?_, fun i hi => ?_⟩
    · rw [h _ _ (by omega) (by omega)]; exact z2
    · rw [h2 _ _ (by omega) (by omega)]; exact z3
    · rw [h2 _ _ (by omega) (by omega), h _ _ (by omega) (by omega)]; exact z4
    · rw [h _ _ (by omega) (by omega)]; exact z5
    · rw [h2 _ _ (by omega) (by omega), h _ _ (by omega) (by omega)]; exact z6 i hi
theorem TpR.frame {I u : Wo} (h1 : u 39 1 = I 39 1) (h2 : u 57 14 = I 57 14) (h3 : ∀ j, u 40 j = I 40 j) (h4 : ∀ j, u 67 j = I 67 j) (s : TpR I) : TpR u := by
  obtain ⟨q, s1, s2, s3, s4⟩ := s
  exact ⟨q, s1, by rw [h1]; exact s2, by rw [h2]; exact s3, fun i hi => by rw [h3, h4]; exact s4 i hi⟩
theorem InvN.frame {I u : Wo} {n : Nat} (h : ∀ k j, ¬ scr k j → u k j = I k j) (s : InvN I n) : InvN u n := by
  obtain ⟨s1, s2, s3, s4, s5, s6, s7, s8, s9⟩ := s
  refine ⟨s1, ?_, s3.frame s1 ⟨fun a j h1 h2 => h a j (by unfold scr; omega), fun j h1 h2 => h 58 j (by unfold scr; omega)⟩, s4.frame (fun a j h1 h2 => h a j (by unfold scr; omega)) (fun a j h1 h2 => h a j (by unfold scr; omega)), fun k hk => (s5 k hk).frame s1 hk (h _ _ (by unfold scr; omega)) (h _ _ (by unfold scr; omega)) ⟨fun a j h1 h2 => h a j (by unfold scr; omega), fun j h1 h2 => h 58 j (by unfold scr; omega)⟩ (fun a j h1 h2 => h a j (by unfold scr; omega)), s6.frame (h _ _ (by unfold scr; omega)) (h _ _ (by unfold scr; omega)) (fun j => h _ _ (by unfold scr; omega)) (fun j => h _ _ (by unfold scr; omega)), ?_, ?_, fun k hk => (s9 k hk).frame hk (fun a j h1 h2 => h a j (by unfold scr; omega)) (fun a j h1 h2 => h a j (by unfold scr; omega))⟩
  · rw [h _ _ (by unfold scr; omega)]; exact s2
  · rw [h _ _ (by unfold scr; omega), h _ _ (by unfold scr; omega)]; exact s7
  · rw [h _ _ (by unfold scr; omega), h _ _ (by unfold scr; omega)]; exact s8

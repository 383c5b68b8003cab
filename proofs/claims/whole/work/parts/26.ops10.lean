theorem bitL (x : Int32) {k : Nat} (hk : k ≤ 8) : ((x >>> (nI k &&& 31)) &&& 1 = 1) ↔ x.toBitVec.getLsbD k = true := by
  have e : (nI k &&& 31) = nI k := by
    rcases n8 hk with rfl | rfl | rfl | rfl | rfl | rfl | rfl | rfl | rfl <;> decide
  have h2 : (x >>> (nI k &&& 31)).toBitVec = x.toBitVec.sshiftRight k := by
    rw [e, Int32.toBitVec_shiftRight]
    have : (nI k).toBitVec.smod 32 = BitVec.ofNat 32 k := by
      rcases n8 hk with rfl | rfl | rfl | rfl | rfl | rfl | rfl | rfl | rfl <;> decide
    rw [this, BitVec.sshiftRight', BitVec.toNat_ofNat, Nat.mod_eq_of_lt (by omega)]
  rw [← Int32.toBitVec_inj, Int32.toBitVec_and, h2, show (1 : Int32).toBitVec = 1#32 from rfl, BitVec.and_one_eq_setWidth_ofBool_getLsbD]
  have : (x.toBitVec.sshiftRight k).getLsbD 0 = x.toBitVec.getLsbD k := by
    rw [BitVec.getLsbD_sshiftRight]
    simp [show k < 32 by omega]
  rw [this]
  cases x.toBitVec.getLsbD k <;> simp
theorem nI_lsb (s : Nat) {c : Nat} (hc : c ≤ 8) : (nI s).toBitVec.getLsbD c = s.testBit c := by
  show (BitVec.ofNat 32 s).getLsbD c = _
  rw [BitVec.getLsbD_ofNat]
  simp [show c < 32 by omega]
theorem bitN {s c : Nat} (hc : c ≤ 8) : ((nI s >>> (nI c &&& 31)) &&& 1 = 1) ↔ s.testBit c = true := by rw [bitL _ hc, nI_lsb s hc]
theorem bitN0 {s c : Nat} (hc : c ≤ 8) (h : (nI s >>> (nI c &&& 31)) &&& 1 = 0) : s.testBit c = false := by
  cases hq : s.testBit c
  · rfl
  · rw [(bitN hc).mpr hq] at h; exact absurd h (by decide)
theorem one_lsb {n c : Nat} (hn : n ≤ 8) : ((1 : Int32) <<< (nI n &&& 31)).toBitVec.getLsbD c = decide (c = n) := by
  rw [shl1 hn]
  show (BitVec.ofNat 32 (2 ^ n)).getLsbD c = _
  rw [BitVec.getLsbD_ofNat, Nat.testBit_two_pow]
  by_cases h : c = n
  · subst h; simp [show c < 32 by omega]
  · simp [h, Ne.symm h]
theorem orF_lsb (p : Nat → Bool) (c : Nat) : ∀ n, n ≤ 8 → (orF p n).toBitVec.getLsbD c = (decide (c < n) && p c)
  | 0, _ => by simp [orF]
  | n + 1, h => by
    have ih := orF_lsb p c n (by omega)
    rw [orF]
    by_cases hp : p n = true
    · rw [if_pos hp, Int32.toBitVec_or, BitVec.getLsbD_or, ih, one_lsb (show n ≤ 8 by omega)]
      by_cases hc : c = n
      · subst hc; simp [hp]
      · simp [hc, show (c < n + 1) ↔ c < n by omega]
    · rw [if_neg hp, ih]
      by_cases hc : c = n
      · subst hc; simp at hp; simp [hp]
      · simp [show (c < n + 1) ↔ c < n by omega]
theorem not_lsb {x : Int32} {c : Nat} (hc : c ≤ 8) : (x ^^^ (-1)).toBitVec.getLsbD c = !x.toBitVec.getLsbD c := by
  rw [x_not, Int32.toBitVec_not, BitVec.getLsbD_not]
  simp [show c < 32 by omega]
def anyF (p : Nat → Bool) : Nat → Bool
  | 0 => false
  | c + 1 => anyF p c || p c
def lwF (p : Nat → Bool) : Nat → Int32
  | 0 => -4
  | c + 1 => if lwF p c = -4 then (if p c then nI c else -4) else lwF p c
theorem lw_skip {p : Nat → Bool} {i : Nat} (h : lwF p i = -4) (h2 : p i = false) : lwF p (i + 1) = -4 := by
  rw [lwF, if_pos h, if_neg (by rw [h2]; decide)]
theorem nI_ne4 {i : Nat} (h : i < 2 ^ 31) : ¬ nI i = -4 := by
  intro z
  have := congrArg Int32.toInt z
  rw [nI_toInt h] at this
  have h2 : (-4 : Int32).toInt = -4 := by decide
  omega
theorem lw_hit {p : Nat → Bool} {i : Nat} (h : lwF p i = -4) (h2 : p i = true) : ∀ {m : Nat}, i < m → m ≤ 8 → lwF p m = nI i
  | 0, h3, _ => absurd h3 (Nat.not_lt_zero i)
  | m + 1, h3, h4 => by
    by_cases e : i = m
    · subst e; rw [lwF, if_pos h, if_pos h2]
    · have ih := lw_hit h h2 (m := m) (by omega) (by omega)
      rw [lwF, ih, if_neg (nI_ne4 (by omega))]
theorem lw_any {p : Nat → Bool} : ∀ {m : Nat}, m ≤ 8 → (lwF p m = -4 ↔ anyF p m = false)
  | 0, _ => by simp [lwF, anyF]
  | m + 1, h => by
    have ih := lw_any (p := p) (m := m) (by omega)
    rw [lwF, anyF]
    by_cases h1 : lwF p m = -4
    · rw [if_pos h1, ih.mp h1]
      cases hp : p m
      · simp
      · simp only [if_true, Bool.or_true, Bool.true_eq_false, iff_false]; exact nI_ne4 (by omega)
    · rw [if_neg h1]
      cases ha : anyF p m
      · exact absurd (ih.mpr ha) h1
      · simp [h1]
theorem anyF_congr {p q : Nat → Bool} : ∀ {n : Nat}, (∀ c, c < n → p c = q c) → anyF p n = anyF q n
  | 0, _ => rfl
  | n + 1, h => by rw [anyF, anyF, anyF_congr (fun c hc => h c (by omega)), h n (by omega)]
theorem anyF_ext {p : Nat → Bool} {n : Nat} (h : ∀ c, n ≤ c → p c = false) : ∀ k, anyF p (n + k) = anyF p n
  | 0 => rfl
  | k + 1 => by rw [← Nat.add_assoc, anyF, anyF_ext h k, h _ (by omega), Bool.or_false]
theorem lwF_ext {p : Nat → Bool} {n : Nat} (h : ∀ c, n ≤ c → p c = false) : ∀ k, lwF p (n + k) = lwF p n
  | 0 => rfl
  | k + 1 => by
    rw [← Nat.add_assoc, lwF, lwF_ext h k, h _ (by omega)]
    by_cases h1 : lwF p n = -4
    · rw [if_pos h1, h1]; rfl
    · rw [if_neg h1]
theorem lwF_congr {p q : Nat → Bool} : ∀ {n : Nat}, (∀ c, c < n → p c = q c) → lwF p n = lwF q n
  | 0, _ => rfl
  | n + 1, h => by rw [lwF, lwF, lwF_congr (fun c hc => h c (by omega)), h n (by omega)]
def canG (sd fr to : Nat → Int32) (d c s : Nat) : Bool := decide (sd c = nI (d % 2)) && inT (fr c) (to c) (nI d) && !s.testBit c
def mvG (n : Nat) (can : Nat → Nat → Bool) (w : Nat → Bool) (g : Bool) (s : Nat) : Bool := anyF (fun c => can c s && (w (s ||| 2 ^ c) == g)) n
/-- one day back: who wins from a set -/
def stepG (n : Nat) (can : Nat → Nat → Bool) (w : Nat → Bool) (g : Bool) (s : Nat) : Bool := ((w s == g) || mvG n can w g s) == g
/-- who wins from day 10 - k -/
def wG (n : Nat) (can : Nat → Nat → Nat → Bool) (es : Int32 → Bool) : Nat → Nat → Bool
  | 0, s => es (nI s)
  | k + 1, s => stepG n (can (9 - k)) (wG n can es k) (decide ((9 - k) % 2 = 0)) s
def dyF (p : Nat → Bool) : Nat → Int32
  | 0 => 0
  | k + 1 => if p (k + 1) then dyF p k ||| ((1 : Int32) <<< (nI (9 - k) &&& 31)) else dyF p k
def dyM (p : Nat → Bool) : Nat → Int32
  | 0 => 0
  | k + 1 => dyM p k ||| (bI (p k) <<< (nI k &&& 31))
theorem d10 {d : Nat} (h : d ≤ 10) : d = 0 ∨ d = 1 ∨ d = 2 ∨ d = 3 ∨ d = 4 ∨ d = 5 ∨ d = 6 ∨ d = 7 ∨ d = 8 ∨ d = 9 ∨ d = 10 := by omega
theorem mv_0 {d : Nat} (hd : d ≤ 10) (h : nI d &&& 1 = 0) : (0 : Int32) = nI (d % 2) := by
  rcases d10 hd with rfl | rfl | rfl | rfl | rfl | rfl | rfl | rfl | rfl | rfl | rfl <;> revert h <;> decide
theorem mv_1 {d : Nat} (hd : d ≤ 10) (h : ¬ nI d &&& 1 = 0) : (1 : Int32) = nI (d % 2) := by
  rcases d10 hd with rfl | rfl | rfl | rfl | rfl | rfl | rfl | rfl | rfl | rfl | rfl <;> revert h <;> decide
theorem rem2 {d : Nat} (hd : d ≤ 10) : nI d - nI d / 2 * 2 = nI (d % 2) := by
  rcases d10 hd with rfl | rfl | rfl | rfl | rfl | rfl | rfl | rfl | rfl | rfl | rfl <;> decide
theorem mv_b0 {d : Nat} (h : ¬ nI (d % 2) = 0) : (0 : Int32) = bI (decide (d % 2 = 0)) := by
  rcases (show d % 2 = 0 ∨ d % 2 = 1 by omega) with e | e
  · rw [e] at h; exact absurd rfl h
  · rw [e]; rfl
theorem mv_b1 {d : Nat} (h : nI (d % 2) = 0) : (1 : Int32) = bI (decide (d % 2 = 0)) := by
  rcases (show d % 2 = 0 ∨ d % 2 = 1 by omega) with e | e
  · rw [e]; rfl
  · rw [e] at h; exact absurd h (by decide)
theorem be_1 {a b : Bool} (h : a = b) : (1 : Int32) = bI (a == b) := by subst h; cases a <;> rfl
theorem be_0 {a b : Bool} (h : ¬ a = b) : (0 : Int32) = bI (a == b) := by cases a <;> cases b <;> first | rfl | exact absurd rfl h
theorem ay_t {A a b : Bool} (h : (A || a) = true) : (1 : Int32) = bI (A || (a || b)) := by rw [← Bool.or_assoc, h]; rfl
theorem ay_f {A a b : Bool} (h : (A || a) = false) (hb : b = false) : (0 : Int32) = bI (A || (a || b)) := by rw [← Bool.or_assoc, h, hb]; rfl
theorem ay_1 {A a b : Bool} (h : (A || a) = false) (hb : b = true) : (1 : Int32) = bI (A || (a || b)) := by rw [← Bool.or_assoc, h, hb]; rfl
theorem or_256 {s c : Nat} (hs : s < 256) (hc : c < 8) : s ||| 2 ^ c < 256 := Nat.or_lt_two_pow (n := 8) hs (Nat.pow_lt_pow_right (by decide) hc)
theorem or_2n {n s c : Nat} (hs : s < 2 ^ n) (hc : c < n) : s ||| 2 ^ c < 2 ^ n := Nat.or_lt_two_pow hs (Nat.pow_lt_pow_right (by decide) hc)
theorem or_and {s sn c : Nat} (h : s &&& sn = sn) : (s ||| 2 ^ c) &&& sn = sn := by
  apply Nat.eq_of_testBit_eq
  intro i
  have := congrArg (fun x => Nat.testBit x i) h
  simp only [Nat.testBit_and] at this
  rw [Nat.testBit_and, Nat.testBit_or]
  cases h1 : s.testBit i <;> cases h2 : sn.testBit i <;> simp_all
theorem and_eqI {i sn : Nat} (hi : i ≤ 256) (hs : sn < 256) : nI (i &&& sn) = nI sn ↔ i &&& sn = sn :=
  nI_eq (by have := Nat.and_le_left (n := i) (m := sn); omega) (by omega)
theorem dn_tab : (List.range 11).all (fun f => (List.range 11).all (fun k => !decide (k ≤ 10 - f) || (decide (nI 9 - nI k < nI f) == decide (k = 10 - f)))) = true := by decide +kernel
theorem dn_lt {f k : Nat} (hf : f ≤ 10) (hk : k ≤ 10 - f) : nI 9 - nI k < nI f ↔ k = 10 - f := by
  have h1 := List.all_eq_true.mp (List.all_eq_true.mp dn_tab f (List.mem_range.mpr (by omega))) k (List.mem_range.mpr (by omega))
  simpa [hk] using h1
theorem dn_step {k : Nat} (hk : k ≤ 10) : nI 9 - nI k + Int32.ofInt (-1) = nI 9 - nI (k + 1) := by
  rcases d10 hk with rfl | rfl | rfl | rfl | rfl | rfl | rfl | rfl | rfl | rfl | rfl <;> decide
theorem ix1 {k i : Nat} (hk : k ≤ 9) : (256 : Int32) * (nI (9 - k) + 1) + nI i = nI (256 * (10 - k) + i) := by
  rw [show nI _ + (1 : Int32) = nI (_ + 1) from nI_1 _, show 9 - k + 1 = 10 - k by omega, show (256 : Int32) = nI 256 from rfl, pk_mul, nI_add]
theorem ix2 {d i : Nat} (hd : d ≤ 9) : (256 : Int32) * (nI d + 1) + nI i = nI (256 * (10 - (9 - d)) + i) := by
  rw [show nI _ + (1 : Int32) = nI (_ + 1) from nI_1 _, show 10 - (9 - d) = d + 1 by omega, show (256 : Int32) = nI 256 from rfl, pk_mul, nI_add]
theorem lw_p {sd fr to : Nat → Int32} {n d c s : Nat} (hn : n ≤ 8) (hc : c < 8) : ((((orF (fun c => decide (sd c = nI (d % 2)) && inT (fr c) (to c) (nI d)) n &&& (nI s ^^^ (-1))) >>> (nI c &&& 31)) &&& 1 = 1) ↔ (decide (c < n) && canG sd fr to d c s) = true) := by
  rw [bitL _ (show c ≤ 8 by omega), Int32.toBitVec_and, BitVec.getLsbD_and, orF_lsb _ _ _ hn, not_lsb (show c ≤ 8 by omega), nI_lsb s (show c ≤ 8 by omega), canG, Bool.and_assoc]
theorem sb_next {T w : Nat → Bool} {W : Wo} {i n sn : Nat} (hk : ∀ s, s < 2 ^ n → s &&& sn = sn → W 52 s = bI (if s < i then T s else w s)) (h : i &&& sn = sn → w i = T i) : ∀ s, s < 2 ^ n → s &&& sn = sn → W 52 s = bI (if s < i + 1 then T s else w s) := by
  intro s h1 h2
  rw [hk s h1 h2]
  by_cases e : s = i
  · subst e; rw [if_neg (Nat.lt_irrefl s), if_pos (Nat.lt_succ_self s), h h2]
  · by_cases e2 : s < i
    · rw [if_pos e2, if_pos (by omega)]
    · rw [if_neg e2, if_neg (by omega)]
theorem sb_put {T w : Nat → Bool} {W : Wo} {i n sn : Nat} {g : Bool} (hk : ∀ s, s < 2 ^ n → s &&& sn = sn → W 52 s = bI (if s < i then T s else w s)) (h : T i = g) : ∀ s, s < 2 ^ n → s &&& sn = sn → w2 W 52 i (vp_nar .boolean (bI g)) 52 s = bI (if s < i + 1 then T s else w s) := by
  intro s h1 h2
  by_cases e : s = i
  · subst e; rw [w2_same, bI_vnar, if_pos (Nat.lt_succ_self s), h]
  · rw [w2_slot _ _ e, hk s h1 h2]
    by_cases e2 : s < i
    · rw [if_pos e2, if_pos (by omega)]
    · rw [if_neg e2, if_neg (by omega)]
theorem sb_up {T w : Nat → Bool} {W : Wo} {i n sn c : Nat} (hk : ∀ s, s < 2 ^ n → s &&& sn = sn → W 52 s = bI (if s < i then T s else w s)) (hi : i < 2 ^ n) (hr : i &&& sn = sn) (hc : c < n) : W 52 (i ||| 2 ^ c) = bI (w (i ||| 2 ^ c)) := by
  rw [hk _ (or_2n hi hc) (or_and hr), if_neg]
  have := Nat.left_le_or (n := i) (m := 2 ^ c)
  omega
theorem sg_same {n i : Nat} {can : Nat → Nat → Bool} {w : Nat → Bool} {g : Bool} (h : w i = g) : stepG n can w g i = w i := by
  rw [stepG, h]; cases g <;> simp
theorem lw8 {n i : Nat} {can : Nat → Nat → Bool} {w : Nat → Bool} {g : Bool} (hn : n ≤ 8) : lwF (fun c => (decide (c < n) && can c i) && (w (i ||| 2 ^ c) == g)) 8 = -4 ↔ mvG n can w g i = false := by
  rw [lw_any (Nat.le_refl 8), mvG]
  have e := anyF_ext (p := fun c => (decide (c < n) && can c i) && (w (i ||| 2 ^ c) == g)) (n := n) (fun c hc => by simp [show ¬ c < n by omega]) (8 - n)
  rw [show n + (8 - n) = 8 by omega] at e
  rw [e, anyF_congr (q := fun c => can c i && (w (i ||| 2 ^ c) == g)) (fun c hc => by simp [hc])]
theorem sg_none {n i : Nat} {can : Nat → Nat → Bool} {w : Nat → Bool} {g : Bool} (hn : n ≤ 8) (h : ¬ w i = g) (h2 : lwF (fun c => (decide (c < n) && can c i) && (w (i ||| 2 ^ c) == g)) 8 = -4) : stepG n can w g i = w i := by
  rw [stepG, (lw8 hn).mp h2]
  cases hw : w i <;> cases g <;> simp_all
theorem sg_some {n i : Nat} {can : Nat → Nat → Bool} {w : Nat → Bool} {g : Bool} (hn : n ≤ 8) (h2 : ¬ lwF (fun c => (decide (c < n) && can c i) && (w (i ||| 2 ^ c) == g)) 8 = -4) : stepG n can w g i = g := by
  have h3 : mvG n can w g i = true := by
    cases hq : mvG n can w g i
    · exact absurd ((lw8 hn).mpr hq) h2
    · rfl
  rw [stepG, h3]
  cases g <;> simp
theorem pl_next {n k : Nat} {V : Wo} {w : Nat → Nat → Bool} (h1 : ∀ k', k' ≤ k → ∀ s, s < 2 ^ n → V 69 (256 * (10 - k') + s) = bI (w k' s)) (h2 : ∀ s, s < 2 ^ n → V 69 (256 * (9 - k) + s) = bI (w (k + 1) s)) : ∀ k', k' ≤ k + 1 → ∀ s, s < 2 ^ n → V 69 (256 * (10 - k') + s) = bI (w k' s) := by
  intro k' hk s hs
  rcases Nat.lt_or_ge k' (k + 1) with q | q
  · exact h1 k' (by omega) s hs
  · rw [show k' = k + 1 by omega, show 10 - (k + 1) = 9 - k by omega]; exact h2 s hs
set_option maxHeartbeats 4000000 in
set_option maxRecDepth 100000 in
theorem ct_X0_mover {I : Wo} {d : Nat} (hd : d ≤ 10) : Ct yX0_mover cX0_mover 1 (some .int) 0 0 [.int (nI d)] I (pI (fun r u => r = nI (d % 2) ∧ I = u)) := by
  refine ct_of RX0 rfl (by decide) (Nat.le_of_ble_eq_true rfl) (fun X B E => ?_)
  show GW X 1 0 [some (.int (nI d))] [] _
  refine g_iload_n B dX0_mover_0 rfl ?_
  refine g_iconst B (v := 1) dX0_mover_1 (by decide) ?_
  refine g_iand B dX0_mover_2 ?_
  refine g_if_ne B 10 dX0_mover_3 (by decide) (fun h3 => ?_) (fun h3 => ?_)
  · refine g_iconst B (v := 1) dX0_mover_10 (by decide) ?_
    exact g_iret B E rfl dX0_mover_11 ⟨by first | exact mv_1 hd h3 | exact mv_0 hd h3, rfl⟩
  · refine g_iconst B (v := 0) dX0_mover_6 (by decide) ?_
    refine g_goto B 11 dX0_mover_7 (by decide) ?_
    exact g_iret B E rfl dX0_mover_11 ⟨by first | exact mv_1 hd h3 | exact mv_0 hd h3, rfl⟩
set_option maxHeartbeats 4000000 in
set_option maxRecDepth 100000 in
theorem ct_X0_riverWins {I : Wo} {s : Nat} {w : Bool} (hs : s < 256) (hw : I 52 s = bI w) : Ct yX0_riverWins cX0_riverWins 2 (some .boolean) 0 0 [.ref 51, .int (nI s)] I (pI (fun r u => r = bI w ∧ I = u)) := by
  refine ct_of RX0 rfl (by decide) (Nat.le_of_ble_eq_true rfl) (fun X B E => ?_)
  show GW X 2 0 [some (.ref 51), some (.int (nI s))] [] _
  refine g_iload_n B dX0_riverWins_0 rfl ?_
  refine g_if_lt B 24 dX0_riverWins_1 (by decide) (fun h1 => ?_) (fun h1 => ?_)
  · exact absurd h1 (nI_pos (by omega))
  · refine g_iload_n B dX0_riverWins_4 rfl ?_
    refine g_sipush B (v := 256) dX0_riverWins_5 (by decide) ?_
    refine g_icmp_ge B 24 dX0_riverWins_8 (by decide) (fun h8 => ?_) (fun h8 => ?_)
    · exact absurd (le_le (a := 256) (b := s) (by decide) (by omega) h8) (by omega)
    · refine g_aload_n B dX0_riverWins_11 rfl ?_
      refine g_getr B ci_X0 (by first | rfl | assumption) rfl (by decide) fl_X0_9 dX0_riverWins_12 ?_
      refine g_iload_n B dX0_riverWins_15 rfl ?_
      refine g_zald B (by first | rfl | assumption) _ (by first | with_reducible rfl | exact lit_add _ _ | exact add_lit _ _ | exact nI_add _ _ | exact lit_nI _ | assumption | rfl) (by first | decide | omega | assumption) (by decide) dX0_riverWins_16 ?_
      rw [hw]
      refine g_if_eq B 24 dX0_riverWins_17 (by decide) (fun h17 => ?_) (fun h17 => ?_)
      · rw [bI_eq0] at h17
        subst h17
        refine g_iconst B (v := 0) dX0_riverWins_24 (by decide) ?_
        exact g_iret B E (by first | exact bI_nar _ | decide | exact bI_narv (by assumption)) dX0_riverWins_25 ⟨rfl, rfl⟩
      · rw [bI_ne0] at h17
        subst h17
        refine g_iconst B (v := 1) dX0_riverWins_20 (by decide) ?_
        refine g_goto B 25 dX0_riverWins_21 (by decide) ?_
        exact g_iret B E (by first | exact bI_nar _ | decide | exact bI_narv (by assumption)) dX0_riverWins_25 ⟨rfl, rfl⟩
set_option maxHeartbeats 4000000 in
set_option maxRecDepth 100000 in
theorem ct_X0_leastWinning {I : Wo} {s : Nat} {p w : Nat → Bool} (hs : s < 256) (sy : Int32) (g : Bool) (hp : ∀ c, c < 8 → ((((sy &&& (nI s ^^^ (-1))) >>> (nI c &&& 31)) &&& 1 = 1) ↔ p c = true)) (hw : ∀ c, c < 8 → p c = true → I 52 (s ||| 2 ^ c) = bI (w c)) : Ct yX0_leastWinning cX0_leastWinning 6 (some .int) 1 21 [.ref 51, .int (nI s), .int sy, .int (bI g)] I (pI (fun r u => r = lwF (fun c => p c && (w c == g)) 8 ∧ I = u)) := by
  refine ct_of RX0 rfl (by decide) (Nat.le_of_ble_eq_true rfl) (fun X B E => ?_)
  show GW X 6 0 [some (.ref 51), some (.int (nI s)), some (.int sy), some (.int (bI g)), none, none] [] _
  refine g_iload_n B dX0_leastWinning_0 rfl ?_
  refine g_iload_n B dX0_leastWinning_1 rfl ?_
  refine g_iconst B (v := (-1)) dX0_leastWinning_2 (by decide) ?_
  refine g_ixor B dX0_leastWinning_3 ?_
  refine g_iand B dX0_leastWinning_4 ?_
  refine g_ist4 B dX0_leastWinning_5 (by decide) rfl ?_
  refine g_iconst B (v := 0) dX0_leastWinning_7 (by decide) ?_
  refine g_ist5 B dX0_leastWinning_8 (by decide) rfl ?_
  have L10 : ∀ i, i ≤ 8 → lwF (fun c => p c && (w c == g)) i = -4 → GW X 6 10 [some (.ref 51), some (.int (nI s)), some (.int sy), some (.int (bI g)), some (.int (sy &&& (nI s ^^^ (-1)))), some (.int (nI i))] [] I := by
    refine loopN (8) (fun i hi ih  hx => ?_)
    refine g_iload B dX0_leastWinning_10 rfl ?_
    refine g_bipush B (v := 8) dX0_leastWinning_12 (by decide) ?_
    refine g_icmp_ge B 51 dX0_leastWinning_14 (by decide) (fun h14 => ?_) (fun h14 => ?_)
    · have hi2 : i = 8 := by have := le_le (a := 8) (b := i) (by decide) (by omega) h14; omega
      refine g_bipush B (v := (-4)) dX0_leastWinning_51 (by decide) ?_
      exact g_iret B E rfl dX0_leastWinning_53 ⟨by rw [hi2] at hx; exact hx.symm, rfl⟩
    · have hlt : i < 8 := nle_lt (a := 8) (by decide) (by omega) h14
      refine g_iload B dX0_leastWinning_17 rfl ?_
      refine g_iload B dX0_leastWinning_19 rfl ?_
      refine g_ishr B dX0_leastWinning_21 ?_
      refine g_iconst B (v := 1) dX0_leastWinning_22 (by decide) ?_
      refine g_iand B dX0_leastWinning_23 ?_
      refine g_iconst B (v := 1) dX0_leastWinning_24 (by decide) ?_
      refine g_icmp_ne B 45 dX0_leastWinning_25 (by decide) (fun h25 => ?_) (fun h25 => ?_)
      · have hpi : p i = false := by
          cases hq : p i
          · rfl
          · exact absurd ((hp i hlt).mpr hq) h25
        refine g_inc5 B dX0_leastWinning_45 rfl (inc1 _) (by decide) rfl ?_
        refine g_goto B 10 dX0_leastWinning_48 (by decide) ?_
        exact ih hlt (lw_skip hx (by simp [hpi]))
      · have hpi : p i = true := (hp i hlt).mp h25
        refine g_aload_n B dX0_leastWinning_28 rfl ?_
        refine g_iload_n B dX0_leastWinning_29 rfl ?_
        refine g_iconst B (v := 1) dX0_leastWinning_30 (by decide) ?_
        refine g_iload B dX0_leastWinning_31 rfl ?_
        refine g_ishl B dX0_leastWinning_33 ?_
        refine g_ior B dX0_leastWinning_34 ?_
        refine g_eqi (nI (s ||| 2 ^ i)) (by rw [shl1 (by omega), nI_or]) ?_
        refine g_callVI B (ct_X0_riverWins (or_256 hs hlt) (hw i hlt hpi)) (by first | rfl | assumption) rfl ml_X0_32 mm_X0_riverWins rfl rfl (Nat.le_of_ble_eq_true rfl) dX0_leastWinning_35 (by decide) ?_
        rintro _ _ ⟨rfl, rfl⟩
        refine g_iload_n B dX0_leastWinning_38 rfl ?_
        refine g_icmp_ne B 45 dX0_leastWinning_39 (by decide) (fun h39 => ?_) (fun h39 => ?_)
        · rw [bI_inj] at h39
          refine g_inc5 B dX0_leastWinning_45 rfl (inc1 _) (by decide) rfl ?_
          refine g_goto B 10 dX0_leastWinning_48 (by decide) ?_
          exact ih hlt (lw_skip hx (by simp [hpi, h39]))
        · rw [bI_inj] at h39
          refine g_iload B dX0_leastWinning_42 rfl ?_
          exact g_iret B E rfl dX0_leastWinning_44 ⟨(lw_hit hx (by simp [hpi, h39]) hlt (by decide)).symm, rfl⟩
  exact L10 0 (Nat.zero_le _) rfl
set_option maxHeartbeats 4000000 in
set_option maxRecDepth 100000 in
theorem ct_X0_sayableOn {I : Wo} {n d : Nat} (hn : I 1 9 = nI n) (hn8 : n ≤ 8) (hd : d ≤ 10) : Ct yX0_sayableOn cX0_sayableOn 4 (some .int) 1 22 [.ref 1, .int (nI d)] I (pI (fun r u => r = orF (fun c => decide (I 2 c = nI (d % 2)) && inT (I 3 c) (I 4 c) (nI d)) n ∧ I = u)) := by
  refine ct_of RX0 rfl (by decide) (Nat.le_of_ble_eq_true rfl) (fun X B E => ?_)
  show GW X 4 0 [some (.ref 1), some (.int (nI d)), none, none] [] _
  refine g_iconst B (v := 0) dX0_sayableOn_0 (by decide) ?_
  refine g_istn2 B dX0_sayableOn_1 (by decide) rfl ?_
  refine g_iconst B (v := 0) dX0_sayableOn_2 (by decide) ?_
  refine g_istn3 B dX0_sayableOn_3 (by decide) rfl ?_
  have L4 : ∀ i, i ≤ n → ∀ x, x = orF (fun c => decide (I 2 c = nI (d % 2)) && inT (I 3 c) (I 4 c) (nI d)) i → GW X 4 4 [some (.ref 1), some (.int (nI d)), some (.int x), some (.int (nI i))] [] I := by
    refine loopN (n) (fun i hi ih x hx => ?_)
    refine g_iload_n B dX0_sayableOn_4 rfl ?_
    refine g_aload_n B dX0_sayableOn_5 rfl ?_
    refine g_geti B ci_X3 (by first | rfl | assumption) rfl (by decide) fl_X0_15 dX0_sayableOn_6 ?_
    refine g_icmp_ge B 46 dX0_sayableOn_9 (by decide) (fun h9 => ?_) (fun h9 => ?_)
    · have hi2 : i = n := by have := le_le (a := n) (b := i) (by omega) (by omega) (by rw [← hn]; exact h9); omega
      refine g_iload_n B dX0_sayableOn_46 rfl ?_
      exact g_iret B E rfl dX0_sayableOn_47 ⟨by rw [hx, hi2], rfl⟩
    · have hlt : i < n := nle_lt (by omega) (by omega) (by rw [← hn]; exact h9)
      refine g_aload_n B dX0_sayableOn_12 rfl ?_
      refine g_getr B ci_X3 (by first | rfl | assumption) rfl (by decide) fl_X0_47 dX0_sayableOn_13 ?_
      refine g_iload_n B dX0_sayableOn_16 rfl ?_
      refine g_iald B (by first | rfl | assumption) _ (by first | with_reducible rfl | exact lit_add _ _ | exact add_lit _ _ | exact nI_add _ _ | exact lit_nI _ | assumption | rfl) (by first | decide | omega | assumption) (by decide) dX0_sayableOn_17 ?_
      refine g_iload_n B dX0_sayableOn_18 rfl ?_
      refine g_callSI B (ct_X0_mover hd) ml_X0_35 mm_X0_mover rfl rfl (Nat.le_of_ble_eq_true rfl) dX0_sayableOn_19 (by decide) ?_
      rintro _ _ ⟨rfl, rfl⟩
      refine g_icmp_ne B 40 dX0_sayableOn_22 (by decide) (fun h22 => ?_) (fun h22 => ?_)
      · refine g_inc3 B dX0_sayableOn_40 rfl (inc1 _) (by decide) rfl ?_
        refine g_goto B 4 dX0_sayableOn_43 (by decide) ?_
        exact ih hlt _ (by subst hx; simp only [orF, *, and_true, true_and, and_false, false_and, and_self, ↓reduceIte, zero_shl, Int32.or_zero, bI_t, bI_f, decide_true, decide_false, Bool.and_true, Bool.true_and, Bool.and_false, Bool.false_and, Bool.not_true, Bool.not_false, Bool.false_eq_true, not_true_eq_false, not_false_eq_true])
      · refine g_aload_n B dX0_sayableOn_25 rfl ?_
        refine g_iload_n B dX0_sayableOn_26 rfl ?_
        refine g_iload_n B dX0_sayableOn_27 rfl ?_
        refine g_callVI B (cs_X3_inTime (show i < 8 by omega) _) (by first | rfl | assumption) rfl ml_X0_51 mm_X3_inTime rfl rfl (Nat.le_of_ble_eq_true rfl) dX0_sayableOn_28 (by decide) ?_
        rintro _ _ ⟨rfl, rfl⟩
        refine g_if_eq B 40 dX0_sayableOn_31 (by decide) (fun h31 => ?_) (fun h31 => ?_)
        · rw [bI_eq0] at h31
          refine g_inc3 B dX0_sayableOn_40 rfl (inc1 _) (by decide) rfl ?_
          refine g_goto B 4 dX0_sayableOn_43 (by decide) ?_
          exact ih hlt _ (by subst hx; simp only [orF, *, and_true, true_and, and_false, false_and, and_self, ↓reduceIte, zero_shl, Int32.or_zero, bI_t, bI_f, decide_true, decide_false, Bool.and_true, Bool.true_and, Bool.and_false, Bool.false_and, Bool.not_true, Bool.not_false, Bool.false_eq_true, not_true_eq_false, not_false_eq_true])
        · rw [bI_ne0] at h31
          refine g_iload_n B dX0_sayableOn_34 rfl ?_
          refine g_iconst B (v := 1) dX0_sayableOn_35 (by decide) ?_
          refine g_iload_n B dX0_sayableOn_36 rfl ?_
          refine g_ishl B dX0_sayableOn_37 ?_
          refine g_ior B dX0_sayableOn_38 ?_
          refine g_istn2 B dX0_sayableOn_39 (by decide) rfl ?_
          refine g_inc3 B dX0_sayableOn_40 rfl (inc1 _) (by decide) rfl ?_
          refine g_goto B 4 dX0_sayableOn_43 (by decide) ?_
          exact ih hlt _ (by subst hx; simp only [orF, *, and_true, true_and, and_false, false_and, and_self, ↓reduceIte, zero_shl, Int32.or_zero, bI_t, bI_f, decide_true, decide_false, Bool.and_true, Bool.true_and, Bool.and_false, Bool.false_and, Bool.not_true, Bool.not_false, Bool.false_eq_true, not_true_eq_false, not_false_eq_true])
  exact L4 0 (Nat.zero_le _) _ rfl
set_option maxHeartbeats 4000000 in
set_option maxRecDepth 100000 in
theorem ct_X0_stepBack {I : Wo} {n d sn : Nat} {w : Nat → Bool} (hn : I 1 9 = nI n) (hn8 : n ≤ 8) (hd : d ≤ 9) (hsn : I 1 12 = nI sn) (hsn2 : sn < 2 ^ n) (hw : ∀ s, s < 2 ^ n → s &&& sn = sn → I 52 s = bI (w s)) : Ct yX0_stepBack cX0_stepBack 7 none 2 46 [.ref 51, .ref 1, .int (nI d)] I (pV (fun u => (∀ s, s < 2 ^ n → s &&& sn = sn → u 52 s = bI (stepG n (canG (I 2) (I 3) (I 4) d) w (decide (d % 2 = 0)) s)) ∧ ∀ x y, x ≠ 52 → u x y = I x y)) := by
  have h256 := pow8 hn8
  refine ct_of RX0 rfl (by decide) (Nat.le_of_ble_eq_true rfl) (fun X B E => ?_)
  show GW X 7 0 [some (.ref 51), some (.ref 1), some (.int (nI d)), none, none, none, none] [] _
  refine g_iload_n B dX0_stepBack_0 rfl ?_
  refine g_callSI B (ct_X0_mover (show d ≤ 10 by omega)) ml_X0_35 mm_X0_mover rfl rfl (Nat.le_of_ble_eq_true rfl) dX0_stepBack_1 (by decide) ?_
  rintro _ _ ⟨rfl, rfl⟩
  refine g_if_ne B 11 dX0_stepBack_4 (by decide) (fun h4 => ?_) (fun h4 => ?_)
  · refine g_iconst B (v := 0) dX0_stepBack_11 (by decide) ?_
    refine g_eqi (bI (decide (d % 2 = 0))) (by first | exact mv_b0 h4 | exact mv_b1 h4) ?_
    refine g_istn3 B dX0_stepBack_12 (by decide) rfl ?_
    refine g_aload_n B dX0_stepBack_13 rfl ?_
    refine g_iload_n B dX0_stepBack_14 rfl ?_
    refine g_callSI B (ct_X0_sayableOn hn hn8 (show d ≤ 10 by omega)) ml_X0_39 mm_X0_sayableOn rfl rfl (Nat.le_of_ble_eq_true rfl) dX0_stepBack_15 (by decide) ?_
    rintro _ _ ⟨rfl, rfl⟩
    refine g_ist4 B dX0_stepBack_18 (by decide) rfl ?_
    refine g_aload_n B dX0_stepBack_20 rfl ?_
    refine g_geti B ci_X3 (by first | rfl | assumption) rfl (by decide) fl_X0_21 dX0_stepBack_21 ?_
    rw [hsn]
    refine g_ist5 B dX0_stepBack_24 (by decide) rfl ?_
    have L26 : ∀ i, i ≤ 2 ^ n → ∀ (W : Wo) p6, (∀ s, s < 2 ^ n → s &&& sn = sn → W 52 s = bI (if s < i then stepG n (canG (I 2) (I 3) (I 4) d) w (decide (d % 2 = 0)) s else w s)) → (∀ x y, x ≠ 52 → W x y = I x y) → GW X 7 26 [some (.ref 51), some (.ref 1), some (.int (nI d)), some (.int (bI (decide (d % 2 = 0)))), some (.int (orF (fun c => decide (I 2 c = nI (d % 2)) && inT (I 3 c) (I 4 c) (nI d)) n)), some (.int (nI i)), p6] [] W := by
      refine loopN (2 ^ n) (fun i hi ih W p6 hk hW => ?_)
      refine g_iload B dX0_stepBack_26 rfl ?_
      refine g_iconst B (v := 1) dX0_stepBack_28 (by decide) ?_
      refine g_aload_n B dX0_stepBack_29 rfl ?_
      refine g_geti B ci_X3 (by first | rfl | assumption) rfl (by decide) fl_X0_15 dX0_stepBack_30 ?_
      refine g_ishl B dX0_stepBack_33 ?_
      refine g_eqi (nI (2 ^ n)) (by rw [hW 1 9 (by decide), hn, shl1 hn8]) ?_
      refine g_icmp_ge B 102 dX0_stepBack_34 (by decide) (fun h34 => ?_) (fun h34 => ?_)
      · have hi2 : i = 2 ^ n := by have := le_le (a := 2 ^ n) (b := i) (by omega) (by omega) h34; omega
        exact g_vret B E dX0_stepBack_102 ⟨fun s h1 h2 => by rw [hk s h1 h2, if_pos (by omega)], hW⟩
      · have hlt : i < 2 ^ n := nle_lt (by omega) (by omega) h34
        refine g_iload B dX0_stepBack_37 rfl ?_
        refine g_aload_n B dX0_stepBack_39 rfl ?_
        refine g_geti B ci_X3 (by first | rfl | assumption) rfl (by decide) fl_X0_21 dX0_stepBack_40 ?_
        refine g_iand B dX0_stepBack_43 ?_
        refine g_eqi (nI (i &&& sn)) (by rw [hW 1 12 (by decide), hsn, nI_and]) ?_
        refine g_aload_n B dX0_stepBack_44 rfl ?_
        refine g_geti B ci_X3 (by first | rfl | assumption) rfl (by decide) fl_X0_21 dX0_stepBack_45 ?_
        rw [hW 1 12 (by decide), hsn]
        refine g_icmp_ne B 55 dX0_stepBack_48 (by decide) (fun h48 => ?_) (fun h48 => ?_)
        · rw [and_eqI (by omega) (by omega)] at h48
          refine g_iconst B (v := 0) dX0_stepBack_55 (by decide) ?_
          refine g_ist6 B dX0_stepBack_56 (by decide) rfl ?_
          refine g_iload B dX0_stepBack_58 rfl ?_
          refine g_if_eq B 96 dX0_stepBack_60 (by decide) (fun h60 => ?_) (fun h60 => ?_)
          · refine g_inc5 B dX0_stepBack_96 rfl (inc1 _) (by decide) rfl ?_
            refine g_goto B 26 dX0_stepBack_99 (by decide) ?_
            exact ih hlt _ _ (sb_next hk (fun q => absurd q h48)) hW
          · exact absurd rfl h60
        · rw [and_eqI (by omega) (by omega)] at h48
          refine g_iconst B (v := 1) dX0_stepBack_51 (by decide) ?_
          refine g_goto B 56 dX0_stepBack_52 (by decide) ?_
          refine g_ist6 B dX0_stepBack_56 (by decide) rfl ?_
          refine g_iload B dX0_stepBack_58 rfl ?_
          refine g_if_eq B 96 dX0_stepBack_60 (by decide) (fun h60 => ?_) (fun h60 => ?_)
          · exact absurd h60 (by decide)
          · refine g_aload_n B dX0_stepBack_63 rfl ?_
            refine g_getr B ci_X0 (by first | rfl | assumption) rfl (by decide) fl_X0_9 dX0_stepBack_64 ?_
            refine g_iload B dX0_stepBack_67 rfl ?_
            refine g_zald B (by first | rfl | assumption) _ (by first | with_reducible rfl | exact lit_add _ _ | exact add_lit _ _ | exact nI_add _ _ | exact lit_nI _ | assumption | rfl) (by first | decide | omega | assumption) (by decide) dX0_stepBack_69 ?_
            rw [show W 52 i = bI (w i) by rw [hk i hlt h48, if_neg (Nat.lt_irrefl i)]]
            refine g_iload_n B dX0_stepBack_70 rfl ?_
            refine g_icmp_eq B 96 dX0_stepBack_71 (by decide) (fun h71 => ?_) (fun h71 => ?_)
            · rw [bI_inj] at h71
              refine g_inc5 B dX0_stepBack_96 rfl (inc1 _) (by decide) rfl ?_
              refine g_goto B 26 dX0_stepBack_99 (by decide) ?_
              exact ih hlt _ _ (sb_next hk (fun _ => (sg_same h71).symm)) hW
            · rw [bI_inj] at h71
              refine g_aload_n B dX0_stepBack_74 rfl ?_
              refine g_iload B dX0_stepBack_75 rfl ?_
              refine g_iload B dX0_stepBack_77 rfl ?_
              refine g_iload_n B dX0_stepBack_79 rfl ?_
              refine g_callVI B (ct_X0_leastWinning (I := W) (s := i) (p := fun c => decide (c < n) && canG (I 2) (I 3) (I 4) d c i) (w := fun c => w (i ||| 2 ^ c)) (by omega) (orF (fun c => decide (I 2 c = nI (d % 2)) && inT (I 3 c) (I 4 c) (nI d)) n) (decide (d % 2 = 0)) (fun c hc => lw_p hn8 hc) (fun c hc hq => sb_up hk hlt h48 (by simp at hq; exact hq.1))) (by first | rfl | assumption) rfl ml_X0_43 mm_X0_leastWinning rfl rfl (Nat.le_of_ble_eq_true rfl) dX0_stepBack_80 (by decide) ?_
              rintro r80 _ ⟨h80, rfl⟩
              refine g_bipush B (v := (-4)) dX0_stepBack_83 (by decide) ?_
              refine g_icmp_eq B 96 dX0_stepBack_85 (by decide) (fun h85 => ?_) (fun h85 => ?_)
              · refine g_inc5 B dX0_stepBack_96 rfl (inc1 _) (by decide) rfl ?_
                refine g_goto B 26 dX0_stepBack_99 (by decide) ?_
                exact ih hlt _ _ (sb_next hk (fun _ => (sg_none hn8 h71 (h80 ▸ h85)).symm)) hW
              · refine g_aload_n B dX0_stepBack_88 rfl ?_
                refine g_getr B ci_X0 (by first | rfl | assumption) rfl (by decide) fl_X0_9 dX0_stepBack_89 ?_
                refine g_iload B dX0_stepBack_92 rfl ?_
                refine g_iload_n B dX0_stepBack_94 rfl ?_
                refine g_zast B (by first | rfl | assumption) _ (by first | with_reducible rfl | exact lit_add _ _ | exact add_lit _ _ | exact nI_add _ _ | exact lit_nI _ | assumption | rfl) (by first | decide | omega | assumption) (by decide) dX0_stepBack_95 ?_
                
                refine g_inc5 B dX0_stepBack_96 rfl (inc1 _) (by decide) rfl ?_
                refine g_goto B 26 dX0_stepBack_99 (by decide) ?_
                exact ih hlt _ _ (sb_put hk (sg_some hn8 (h80 ▸ h85))) (fun x y h => by rw [w2_cell _ _ h]; exact hW x y h)
    exact L26 sn (by omega) _ _ (fun s h1 h2 => by rw [if_neg (show ¬ s < sn by have := Nat.and_le_left (n := s) (m := sn); omega)]; exact hw s h1 h2) (fun _ _ _ => rfl)
  · refine g_iconst B (v := 1) dX0_stepBack_7 (by decide) ?_
    refine g_goto B 12 dX0_stepBack_8 (by decide) ?_
    refine g_eqi (bI (decide (d % 2 = 0))) (by first | exact mv_b0 h4 | exact mv_b1 h4) ?_
    refine g_istn3 B dX0_stepBack_12 (by decide) rfl ?_
    refine g_aload_n B dX0_stepBack_13 rfl ?_
    refine g_iload_n B dX0_stepBack_14 rfl ?_
    refine g_callSI B (ct_X0_sayableOn hn hn8 (show d ≤ 10 by omega)) ml_X0_39 mm_X0_sayableOn rfl rfl (Nat.le_of_ble_eq_true rfl) dX0_stepBack_15 (by decide) ?_
    rintro _ _ ⟨rfl, rfl⟩
    refine g_ist4 B dX0_stepBack_18 (by decide) rfl ?_
    refine g_aload_n B dX0_stepBack_20 rfl ?_
    refine g_geti B ci_X3 (by first | rfl | assumption) rfl (by decide) fl_X0_21 dX0_stepBack_21 ?_
    rw [hsn]
    refine g_ist5 B dX0_stepBack_24 (by decide) rfl ?_
    have L26 : ∀ i, i ≤ 2 ^ n → ∀ (W : Wo) p6, (∀ s, s < 2 ^ n → s &&& sn = sn → W 52 s = bI (if s < i then stepG n (canG (I 2) (I 3) (I 4) d) w (decide (d % 2 = 0)) s else w s)) → (∀ x y, x ≠ 52 → W x y = I x y) → GW X 7 26 [some (.ref 51), some (.ref 1), some (.int (nI d)), some (.int (bI (decide (d % 2 = 0)))), some (.int (orF (fun c => decide (I 2 c = nI (d % 2)) && inT (I 3 c) (I 4 c) (nI d)) n)), some (.int (nI i)), p6] [] W := by
      refine loopN (2 ^ n) (fun i hi ih W p6 hk hW => ?_)
      refine g_iload B dX0_stepBack_26 rfl ?_
      refine g_iconst B (v := 1) dX0_stepBack_28 (by decide) ?_
      refine g_aload_n B dX0_stepBack_29 rfl ?_
      refine g_geti B ci_X3 (by first | rfl | assumption) rfl (by decide) fl_X0_15 dX0_stepBack_30 ?_
      refine g_ishl B dX0_stepBack_33 ?_
      refine g_eqi (nI (2 ^ n)) (by rw [hW 1 9 (by decide), hn, shl1 hn8]) ?_
      refine g_icmp_ge B 102 dX0_stepBack_34 (by decide) (fun h34 => ?_) (fun h34 => ?_)
      · have hi2 : i = 2 ^ n := by have := le_le (a := 2 ^ n) (b := i) (by omega) (by omega) h34; omega
        exact g_vret B E dX0_stepBack_102 ⟨fun s h1 h2 => by rw [hk s h1 h2, if_pos (by omega)], hW⟩
      · have hlt : i < 2 ^ n := nle_lt (by omega) (by omega) h34
        refine g_iload B dX0_stepBack_37 rfl ?_
        refine g_aload_n B dX0_stepBack_39 rfl ?_
        refine g_geti B ci_X3 (by first | rfl | assumption) rfl (by decide) fl_X0_21 dX0_stepBack_40 ?_
        refine g_iand B dX0_stepBack_43 ?_
        refine g_eqi (nI (i &&& sn)) (by rw [hW 1 12 (by decide), hsn, nI_and]) ?_
        refine g_aload_n B dX0_stepBack_44 rfl ?_
        refine g_geti B ci_X3 (by first | rfl | assumption) rfl (by decide) fl_X0_21 dX0_stepBack_45 ?_
        rw [hW 1 12 (by decide), hsn]
        refine g_icmp_ne B 55 dX0_stepBack_48 (by decide) (fun h48 => ?_) (fun h48 => ?_)
        · rw [and_eqI (by omega) (by omega)] at h48
          refine g_iconst B (v := 0) dX0_stepBack_55 (by decide) ?_
          refine g_ist6 B dX0_stepBack_56 (by decide) rfl ?_
          refine g_iload B dX0_stepBack_58 rfl ?_
          refine g_if_eq B 96 dX0_stepBack_60 (by decide) (fun h60 => ?_) (fun h60 => ?_)
          · refine g_inc5 B dX0_stepBack_96 rfl (inc1 _) (by decide) rfl ?_
            refine g_goto B 26 dX0_stepBack_99 (by decide) ?_
            exact ih hlt _ _ (sb_next hk (fun q => absurd q h48)) hW
          · exact absurd rfl h60
        · rw [and_eqI (by omega) (by omega)] at h48
          refine g_iconst B (v := 1) dX0_stepBack_51 (by decide) ?_
          refine g_goto B 56 dX0_stepBack_52 (by decide) ?_
          refine g_ist6 B dX0_stepBack_56 (by decide) rfl ?_
          refine g_iload B dX0_stepBack_58 rfl ?_
          refine g_if_eq B 96 dX0_stepBack_60 (by decide) (fun h60 => ?_) (fun h60 => ?_)
          · exact absurd h60 (by decide)
          · refine g_aload_n B dX0_stepBack_63 rfl ?_
            refine g_getr B ci_X0 (by first | rfl | assumption) rfl (by decide) fl_X0_9 dX0_stepBack_64 ?_
            refine g_iload B dX0_stepBack_67 rfl ?_
            refine g_zald B (by first | rfl | assumption) _ (by first | with_reducible rfl | exact lit_add _ _ | exact add_lit _ _ | exact nI_add _ _ | exact lit_nI _ | assumption | rfl) (by first | decide | omega | assumption) (by decide) dX0_stepBack_69 ?_
            rw [show W 52 i = bI (w i) by rw [hk i hlt h48, if_neg (Nat.lt_irrefl i)]]
            refine g_iload_n B dX0_stepBack_70 rfl ?_
            refine g_icmp_eq B 96 dX0_stepBack_71 (by decide) (fun h71 => ?_) (fun h71 => ?_)
            · rw [bI_inj] at h71
              refine g_inc5 B dX0_stepBack_96 rfl (inc1 _) (by decide) rfl ?_
              refine g_goto B 26 dX0_stepBack_99 (by decide) ?_
              exact ih hlt _ _ (sb_next hk (fun _ => (sg_same h71).symm)) hW
            · rw [bI_inj] at h71
              refine g_aload_n B dX0_stepBack_74 rfl ?_
              refine g_iload B dX0_stepBack_75 rfl ?_
              refine g_iload B dX0_stepBack_77 rfl ?_
              refine g_iload_n B dX0_stepBack_79 rfl ?_
              refine g_callVI B (ct_X0_leastWinning (I := W) (s := i) (p := fun c => decide (c < n) && canG (I 2) (I 3) (I 4) d c i) (w := fun c => w (i ||| 2 ^ c)) (by omega) (orF (fun c => decide (I 2 c = nI (d % 2)) && inT (I 3 c) (I 4 c) (nI d)) n) (decide (d % 2 = 0)) (fun c hc => lw_p hn8 hc) (fun c hc hq => sb_up hk hlt h48 (by simp at hq; exact hq.1))) (by first | rfl | assumption) rfl ml_X0_43 mm_X0_leastWinning rfl rfl (Nat.le_of_ble_eq_true rfl) dX0_stepBack_80 (by decide) ?_
              rintro r80 _ ⟨h80, rfl⟩
              refine g_bipush B (v := (-4)) dX0_stepBack_83 (by decide) ?_
              refine g_icmp_eq B 96 dX0_stepBack_85 (by decide) (fun h85 => ?_) (fun h85 => ?_)
              · refine g_inc5 B dX0_stepBack_96 rfl (inc1 _) (by decide) rfl ?_
                refine g_goto B 26 dX0_stepBack_99 (by decide) ?_
                exact ih hlt _ _ (sb_next hk (fun _ => (sg_none hn8 h71 (h80 ▸ h85)).symm)) hW
              · refine g_aload_n B dX0_stepBack_88 rfl ?_
                refine g_getr B ci_X0 (by first | rfl | assumption) rfl (by decide) fl_X0_9 dX0_stepBack_89 ?_
                refine g_iload B dX0_stepBack_92 rfl ?_
                refine g_iload_n B dX0_stepBack_94 rfl ?_
                refine g_zast B (by first | rfl | assumption) _ (by first | with_reducible rfl | exact lit_add _ _ | exact add_lit _ _ | exact nI_add _ _ | exact lit_nI _ | assumption | rfl) (by first | decide | omega | assumption) (by decide) dX0_stepBack_95 ?_
                
                refine g_inc5 B dX0_stepBack_96 rfl (inc1 _) (by decide) rfl ?_
                refine g_goto B 26 dX0_stepBack_99 (by decide) ?_
                exact ih hlt _ _ (sb_put hk (sg_some hn8 (h80 ▸ h85))) (fun x y h => by rw [w2_cell _ _ h]; exact hW x y h)
    exact L26 sn (by omega) _ _ (fun s h1 h2 => by rw [if_neg (show ¬ s < sn by have := Nat.and_le_left (n := s) (m := sn); omega)]; exact hw s h1 h2) (fun _ _ _ => rfl)
set_option maxHeartbeats 4000000 in
set_option maxRecDepth 100000 in
theorem ct_X0_solve {I : Wo} {n f sn : Nat} (hn : I 1 9 = nI n) (hn8 : n ≤ 8) (hf : f ≤ 10) (hsn : I 1 12 = nI sn) (hsn2 : sn < 2 ^ n) : Ct yX0_solve cX0_solve 5 (some .int) 3 72 [.ref 51, .ref 1, .int (nI f)] I (pI (fun r u => r = dyF (fun k => wG n (canG (I 2) (I 3) (I 4)) (esF n (I 6) (I 7) (I 1 10)) k sn) (10 - f) ∧ (∀ s, s < 2 ^ n → s &&& sn = sn → u 52 s = bI (wG n (canG (I 2) (I 3) (I 4)) (esF n (I 6) (I 7) (I 1 10)) (10 - f) s)) ∧ ∀ x y, x ≠ 52 → u x y = I x y)) := by
  have h256 := pow8 hn8
  refine ct_of RX0 rfl (by decide) (Nat.le_of_ble_eq_true rfl) (fun X B E => ?_)
  show GW X 5 0 [some (.ref 51), some (.ref 1), some (.int (nI f)), none, none] [] _
  refine g_iconst B (v := 0) dX0_solve_0 (by decide) ?_
  refine g_istn3 B dX0_solve_1 (by decide) rfl ?_
  have L2 : ∀ i, i ≤ 2 ^ n → ∀ (W : Wo), (∀ s, s < i → s &&& sn = sn → W 52 s = bI (wG n (canG (I 2) (I 3) (I 4)) (esF n (I 6) (I 7) (I 1 10)) 0 s)) → (∀ x y, x ≠ 52 → W x y = I x y) → GW X 5 2 [some (.ref 51), some (.ref 1), some (.int (nI f)), some (.int (nI i)), none] [] W := by
    refine loopN (2 ^ n) (fun i hi ih W hk hW => ?_)
    have hn2 : W 1 9 = nI n := by rw [hW 1 9 (by decide)]; exact hn
    refine g_iload_n B dX0_solve_2 rfl ?_
    refine g_iconst B (v := 1) dX0_solve_3 (by decide) ?_
    refine g_aload_n B dX0_solve_4 rfl ?_
    refine g_geti B ci_X3 (by first | rfl | assumption) rfl (by decide) fl_X0_15 dX0_solve_5 ?_
    refine g_ishl B dX0_solve_8 ?_
    refine g_eqi (nI (2 ^ n)) (by rw [hn2, shl1 hn8]) ?_
    refine g_icmp_ge B 50 dX0_solve_9 (by decide) (fun h9 => ?_) (fun h9 => ?_)
    · have hi2 : i = 2 ^ n := by have := le_le (a := 2 ^ n) (b := i) (by omega) (by omega) h9; omega
      subst hi2
      refine g_iconst B (v := 0) dX0_solve_50 (by decide) ?_
      refine g_istn3 B dX0_solve_51 (by decide) rfl ?_
      refine g_bipush B (v := 9) dX0_solve_52 (by decide) ?_
      refine g_eqi (nI 9 - nI 0) (by decide) ?_
      refine g_ist4 B dX0_solve_54 (by decide) rfl ?_
      have L56 : ∀ k, k ≤ 10 - f → ∀ (V : Wo), (∀ s, s < 2 ^ n → s &&& sn = sn → V 52 s = bI (wG n (canG (I 2) (I 3) (I 4)) (esF n (I 6) (I 7) (I 1 10)) k s)) → (∀ x y, x ≠ 52 → V x y = I x y) → GW X 5 56 [some (.ref 51), some (.ref 1), some (.int (nI f)), some (.int (dyF (fun k => wG n (canG (I 2) (I 3) (I 4)) (esF n (I 6) (I 7) (I 1 10)) k sn) k)), some (.int (nI 9 - nI k))] [] V := by
        refine loopN (10 - f) (fun k hk9 ihk V hv hV => ?_)
        refine g_iload B dX0_solve_56 rfl ?_
        refine g_iload_n B dX0_solve_58 rfl ?_
        refine g_icmp_lt B 93 dX0_solve_59 (by decide) (fun h59 => ?_) (fun h59 => ?_)
        · have hk2 : k = 10 - f := (dn_lt hf hk9).mp h59
          refine g_iload_n B dX0_solve_93 rfl ?_
          exact g_iret B E rfl dX0_solve_94 ⟨by rw [hk2], by rw [← hk2]; exact hv, hV⟩
        · have hltk : k < 10 - f := by have hne : ¬ k = 10 - f := fun q => h59 ((dn_lt hf hk9).mpr q); omega
          refine g_aload_n B dX0_solve_62 rfl ?_
          refine g_aload_n B dX0_solve_63 rfl ?_
          refine g_iload B dX0_solve_64 rfl ?_
          refine g_eqi (nI (9 - k)) (pk_sub (by omega)) ?_
          refine g_callVV B (ct_X0_stepBack (I := V) (n := n) (d := 9 - k) (sn := sn) (w := wG n (canG (I 2) (I 3) (I 4)) (esF n (I 6) (I 7) (I 1 10)) k) (by rw [hV 1 9 (by decide)]; exact hn) hn8 (by omega) (by rw [hV 1 12 (by decide)]; exact hsn) hsn2 hv) (by first | rfl | assumption) rfl ml_X0_28 mm_X0_stepBack rfl rfl (Nat.le_of_ble_eq_true rfl) dX0_solve_66 (by decide) ?_
          rintro u ⟨hu1, hu2⟩
          rw [show V 2 = I 2 from funext fun y => hV 2 y (by decide), show V 3 = I 3 from funext fun y => hV 3 y (by decide), show V 4 = I 4 from funext fun y => hV 4 y (by decide)] at hu1
          have hu3 : ∀ s, s < 2 ^ n → s &&& sn = sn → u 52 s = bI (wG n (canG (I 2) (I 3) (I 4)) (esF n (I 6) (I 7) (I 1 10)) (k + 1) s) := hu1
          have hu : ∀ x y, x ≠ 52 → u x y = I x y := fun x y h => (hu2 x y h).trans (hV x y h)
          refine g_aload_n B dX0_solve_69 rfl ?_
          refine g_aload_n B dX0_solve_70 rfl ?_
          refine g_geti B ci_X3 (by first | rfl | assumption) rfl (by decide) fl_X0_21 dX0_solve_71 ?_
          rw [hu 1 12 (by decide), hsn]
          refine g_callVI B (ct_X0_riverWins (show sn < 256 by omega) (hu3 sn hsn2 (Nat.and_self sn))) (by first | rfl | assumption) rfl ml_X0_32 mm_X0_riverWins rfl rfl (Nat.le_of_ble_eq_true rfl) dX0_solve_74 (by decide) ?_
          rintro _ _ ⟨rfl, rfl⟩
          refine g_if_eq B 87 dX0_solve_77 (by decide) (fun h77 => ?_) (fun h77 => ?_)
          · rw [bI_eq0] at h77
            refine g_inc4 B dX0_solve_87 rfl (dn_step (by omega)) (by decide) rfl ?_
            refine g_goto B 56 dX0_solve_90 (by decide) ?_
            rw [show dyF (fun k => wG n (canG (I 2) (I 3) (I 4)) (esF n (I 6) (I 7) (I 1 10)) k sn) k = dyF (fun k => wG n (canG (I 2) (I 3) (I 4)) (esF n (I 6) (I 7) (I 1 10)) k sn) (k + 1) by rw [dyF, if_neg (by rw [h77]; decide)]]
            exact ihk hltk _ hu3 hu
          · rw [bI_ne0] at h77
            refine g_iload_n B dX0_solve_80 rfl ?_
            refine g_iconst B (v := 1) dX0_solve_81 (by decide) ?_
            refine g_iload B dX0_solve_82 rfl ?_
            refine g_eqi (nI (9 - k)) (pk_sub (by omega)) ?_
            refine g_ishl B dX0_solve_84 ?_
            refine g_ior B dX0_solve_85 ?_
            refine g_istn3 B dX0_solve_86 (by decide) rfl ?_
            refine g_inc4 B dX0_solve_87 rfl (dn_step (by omega)) (by decide) rfl ?_
            refine g_goto B 56 dX0_solve_90 (by decide) ?_
            rw [show dyF (fun k => wG n (canG (I 2) (I 3) (I 4)) (esF n (I 6) (I 7) (I 1 10)) k sn) k ||| ((1 : Int32) <<< (nI (9 - k) &&& 31)) = dyF (fun k => wG n (canG (I 2) (I 3) (I 4)) (esF n (I 6) (I 7) (I 1 10)) k sn) (k + 1) by rw [dyF, if_pos h77]]
            exact ihk hltk _ hu3 hu
      exact L56 0 (Nat.zero_le _) _ hk hW
    · have hlt : i < 2 ^ n := nle_lt (by omega) (by omega) h9
      refine g_aload_n B dX0_solve_12 rfl ?_
      refine g_getr B ci_X0 (by first | rfl | assumption) rfl (by decide) fl_X0_9 dX0_solve_13 ?_
      refine g_iload_n B dX0_solve_16 rfl ?_
      refine g_iload_n B dX0_solve_17 rfl ?_
      refine g_aload_n B dX0_solve_18 rfl ?_
      refine g_geti B ci_X3 (by first | rfl | assumption) rfl (by decide) fl_X0_21 dX0_solve_19 ?_
      refine g_iand B dX0_solve_22 ?_
      refine g_eqi (nI (i &&& sn)) (by rw [hW 1 12 (by decide), hsn, nI_and]) ?_
      refine g_aload_n B dX0_solve_23 rfl ?_
      refine g_geti B ci_X3 (by first | rfl | assumption) rfl (by decide) fl_X0_21 dX0_solve_24 ?_
      rw [hW 1 12 (by decide), hsn]
      refine g_icmp_ne B 42 dX0_solve_27 (by decide) (fun h27 => ?_) (fun h27 => ?_)
      · rw [and_eqI (by omega) (by omega)] at h27
        refine g_iconst B (v := 0) dX0_solve_42 (by decide) ?_
        refine g_zast B (by first | rfl | assumption) _ (by first | with_reducible rfl | exact lit_add _ _ | exact add_lit _ _ | exact nI_add _ _ | exact lit_nI _ | assumption | rfl) (by first | decide | omega | assumption) (by decide) dX0_solve_43 ?_
        refine g_inc3 B dX0_solve_44 rfl (inc1 _) (by decide) rfl ?_
        refine g_goto B 2 dX0_solve_47 (by decide) ?_
        refine ih hlt _ (fun s h1 h2 => ?_) (fun x y h => by rw [w2_cell _ _ h]; exact hW x y h)
        by_cases hsi : s = i
        · subst hsi
          rw [w2_same]
          exact absurd h2 h27
        · rw [w2_slot _ _ hsi]; exact hk s (by omega) h2
      · rw [and_eqI (by omega) (by omega)] at h27
        refine g_aload_n B dX0_solve_30 rfl ?_
        refine g_iload_n B dX0_solve_31 rfl ?_
        refine g_callVI B (cs_X3_endStands (I := W) hn2 hn8 _) (by first | rfl | assumption) rfl ml_X0_24 mm_X3_endStands rfl rfl (Nat.le_of_ble_eq_true rfl) dX0_solve_32 (by decide) ?_
        rintro _ _ ⟨rfl, rfl⟩
        rw [show W 6 = I 6 from funext fun y => hW 6 y (by decide), show W 7 = I 7 from funext fun y => hW 7 y (by decide), hW 1 10 (by decide)]
        refine g_if_eq B 42 dX0_solve_35 (by decide) (fun h35 => ?_) (fun h35 => ?_)
        · rw [bI_eq0] at h35
          refine g_iconst B (v := 0) dX0_solve_42 (by decide) ?_
          refine g_zast B (by first | rfl | assumption) _ (by first | with_reducible rfl | exact lit_add _ _ | exact add_lit _ _ | exact nI_add _ _ | exact lit_nI _ | assumption | rfl) (by first | decide | omega | assumption) (by decide) dX0_solve_43 ?_
          refine g_inc3 B dX0_solve_44 rfl (inc1 _) (by decide) rfl ?_
          refine g_goto B 2 dX0_solve_47 (by decide) ?_
          refine ih hlt _ (fun s h1 h2 => ?_) (fun x y h => by rw [w2_cell _ _ h]; exact hW x y h)
          by_cases hsi : s = i
          · subst hsi
            rw [w2_same]
            rw [wG, h35]; rfl
          · rw [w2_slot _ _ hsi]; exact hk s (by omega) h2
        · rw [bI_ne0] at h35
          refine g_iconst B (v := 1) dX0_solve_38 (by decide) ?_
          refine g_goto B 43 dX0_solve_39 (by decide) ?_
          refine g_zast B (by first | rfl | assumption) _ (by first | with_reducible rfl | exact lit_add _ _ | exact add_lit _ _ | exact nI_add _ _ | exact lit_nI _ | assumption | rfl) (by first | decide | omega | assumption) (by decide) dX0_solve_43 ?_
          refine g_inc3 B dX0_solve_44 rfl (inc1 _) (by decide) rfl ?_
          refine g_goto B 2 dX0_solve_47 (by decide) ?_
          refine ih hlt _ (fun s h1 h2 => ?_) (fun x y h => by rw [w2_cell _ _ h]; exact hW x y h)
          by_cases hsi : s = i
          · subst hsi
            rw [w2_same]
            rw [wG, h35]; rfl
          · rw [w2_slot _ _ hsi]; exact hk s (by omega) h2
  exact L2 0 (Nat.zero_le _) _ (fun s h1 _ => absurd h1 (Nat.not_lt_zero s)) (fun _ _ _ => rfl)
set_option maxHeartbeats 4000000 in
set_option maxRecDepth 100000 in
theorem ct_X0_bestSaying {I : Wo} {n d sn : Nat} {w : Nat → Bool} (hn : I 1 9 = nI n) (hn8 : n ≤ 8) (hdd : I 1 11 = nI d) (hd : d ≤ 9) (hsn : I 1 12 = nI sn) (hsn2 : sn < 2 ^ n) (hw : ∀ s, s < 2 ^ n → s &&& sn = sn → I 52 s = bI (w s)) : Ct yX0_bestSaying cX0_bestSaying 3 (some .int) 2 46 [.ref 51, .ref 1] I (pI (fun r u => r = (if w sn = (decide (d % 2 = 0)) then -4 else lwF (fun c => (decide (c < n) && canG (I 2) (I 3) (I 4) d c sn) && (w (sn ||| 2 ^ c) == (decide (d % 2 = 0)))) 8) ∧ I = u)) := by
  have h256 := pow8 hn8
  refine ct_of RX0 rfl (by decide) (Nat.le_of_ble_eq_true rfl) (fun X B E => ?_)
  show GW X 3 0 [some (.ref 51), some (.ref 1), none] [] _
  refine g_aload_n B dX0_bestSaying_0 rfl ?_
  refine g_geti B ci_X3 (by first | rfl | assumption) rfl (by decide) fl_X0_55 dX0_bestSaying_1 ?_
  rw [hdd]
  refine g_callSI B (ct_X0_mover (show d ≤ 10 by omega)) ml_X0_35 mm_X0_mover rfl rfl (Nat.le_of_ble_eq_true rfl) dX0_bestSaying_4 (by decide) ?_
  rintro _ _ ⟨rfl, rfl⟩
  refine g_if_ne B 14 dX0_bestSaying_7 (by decide) (fun h7 => ?_) (fun h7 => ?_)
  · refine g_iconst B (v := 0) dX0_bestSaying_14 (by decide) ?_
    refine g_eqi (bI (decide (d % 2 = 0))) (by first | exact mv_b0 h7 | exact mv_b1 h7) ?_
    refine g_istn2 B dX0_bestSaying_15 (by decide) rfl ?_
    refine g_aload_n B dX0_bestSaying_16 rfl ?_
    refine g_aload_n B dX0_bestSaying_17 rfl ?_
    refine g_geti B ci_X3 (by first | rfl | assumption) rfl (by decide) fl_X0_21 dX0_bestSaying_18 ?_
    rw [hsn]
    refine g_callVI B (ct_X0_riverWins (show sn < 256 by omega) (hw sn hsn2 (Nat.and_self sn))) (by first | rfl | assumption) rfl ml_X0_32 mm_X0_riverWins rfl rfl (Nat.le_of_ble_eq_true rfl) dX0_bestSaying_21 (by decide) ?_
    rintro _ _ ⟨rfl, rfl⟩
    refine g_iload_n B dX0_bestSaying_24 rfl ?_
    refine g_icmp_ne B 31 dX0_bestSaying_25 (by decide) (fun h25 => ?_) (fun h25 => ?_)
    · rw [bI_inj] at h25
      refine g_aload_n B dX0_bestSaying_31 rfl ?_
      refine g_aload_n B dX0_bestSaying_32 rfl ?_
      refine g_geti B ci_X3 (by first | rfl | assumption) rfl (by decide) fl_X0_21 dX0_bestSaying_33 ?_
      rw [hsn]
      refine g_aload_n B dX0_bestSaying_36 rfl ?_
      refine g_aload_n B dX0_bestSaying_37 rfl ?_
      refine g_geti B ci_X3 (by first | rfl | assumption) rfl (by decide) fl_X0_55 dX0_bestSaying_38 ?_
      rw [hdd]
      refine g_callSI B (ct_X0_sayableOn hn hn8 (show d ≤ 10 by omega)) ml_X0_39 mm_X0_sayableOn rfl rfl (Nat.le_of_ble_eq_true rfl) dX0_bestSaying_41 (by decide) ?_
      rintro _ _ ⟨rfl, rfl⟩
      refine g_iload_n B dX0_bestSaying_44 rfl ?_
      refine g_callVI B (ct_X0_leastWinning (I := I) (s := sn) (p := fun c => decide (c < n) && canG (I 2) (I 3) (I 4) d c sn) (w := fun c => w (sn ||| 2 ^ c)) (by omega) (orF (fun c => decide (I 2 c = nI (d % 2)) && inT (I 3 c) (I 4 c) (nI d)) n) (decide (d % 2 = 0)) (fun c hc => lw_p hn8 hc) (fun c hc hq => hw _ (or_2n hsn2 (by simp at hq; exact hq.1)) (or_and (Nat.and_self sn)))) (by first | rfl | assumption) rfl ml_X0_43 mm_X0_leastWinning rfl rfl (Nat.le_of_ble_eq_true rfl) dX0_bestSaying_45 (by decide) ?_
      rintro r45 _ ⟨h45, rfl⟩
      exact g_iret B E rfl dX0_bestSaying_48 ⟨by rw [if_neg h25]; exact h45, rfl⟩
    · rw [bI_inj] at h25
      refine g_bipush B (v := (-4)) dX0_bestSaying_28 (by decide) ?_
      exact g_iret B E rfl dX0_bestSaying_30 ⟨by rw [if_pos h25], rfl⟩
  · refine g_iconst B (v := 1) dX0_bestSaying_10 (by decide) ?_
    refine g_goto B 15 dX0_bestSaying_11 (by decide) ?_
    refine g_eqi (bI (decide (d % 2 = 0))) (by first | exact mv_b0 h7 | exact mv_b1 h7) ?_
    refine g_istn2 B dX0_bestSaying_15 (by decide) rfl ?_
    refine g_aload_n B dX0_bestSaying_16 rfl ?_
    refine g_aload_n B dX0_bestSaying_17 rfl ?_
    refine g_geti B ci_X3 (by first | rfl | assumption) rfl (by decide) fl_X0_21 dX0_bestSaying_18 ?_
    rw [hsn]
    refine g_callVI B (ct_X0_riverWins (show sn < 256 by omega) (hw sn hsn2 (Nat.and_self sn))) (by first | rfl | assumption) rfl ml_X0_32 mm_X0_riverWins rfl rfl (Nat.le_of_ble_eq_true rfl) dX0_bestSaying_21 (by decide) ?_
    rintro _ _ ⟨rfl, rfl⟩
    refine g_iload_n B dX0_bestSaying_24 rfl ?_
    refine g_icmp_ne B 31 dX0_bestSaying_25 (by decide) (fun h25 => ?_) (fun h25 => ?_)
    · rw [bI_inj] at h25
      refine g_aload_n B dX0_bestSaying_31 rfl ?_
      refine g_aload_n B dX0_bestSaying_32 rfl ?_
      refine g_geti B ci_X3 (by first | rfl | assumption) rfl (by decide) fl_X0_21 dX0_bestSaying_33 ?_
      rw [hsn]
      refine g_aload_n B dX0_bestSaying_36 rfl ?_
      refine g_aload_n B dX0_bestSaying_37 rfl ?_
      refine g_geti B ci_X3 (by first | rfl | assumption) rfl (by decide) fl_X0_55 dX0_bestSaying_38 ?_
      rw [hdd]
      refine g_callSI B (ct_X0_sayableOn hn hn8 (show d ≤ 10 by omega)) ml_X0_39 mm_X0_sayableOn rfl rfl (Nat.le_of_ble_eq_true rfl) dX0_bestSaying_41 (by decide) ?_
      rintro _ _ ⟨rfl, rfl⟩
      refine g_iload_n B dX0_bestSaying_44 rfl ?_
      refine g_callVI B (ct_X0_leastWinning (I := I) (s := sn) (p := fun c => decide (c < n) && canG (I 2) (I 3) (I 4) d c sn) (w := fun c => w (sn ||| 2 ^ c)) (by omega) (orF (fun c => decide (I 2 c = nI (d % 2)) && inT (I 3 c) (I 4 c) (nI d)) n) (decide (d % 2 = 0)) (fun c hc => lw_p hn8 hc) (fun c hc hq => hw _ (or_2n hsn2 (by simp at hq; exact hq.1)) (or_and (Nat.and_self sn)))) (by first | rfl | assumption) rfl ml_X0_43 mm_X0_leastWinning rfl rfl (Nat.le_of_ble_eq_true rfl) dX0_bestSaying_45 (by decide) ?_
      rintro r45 _ ⟨h45, rfl⟩
      exact g_iret B E rfl dX0_bestSaying_48 ⟨by rw [if_neg h25]; exact h45, rfl⟩
    · rw [bI_inj] at h25
      refine g_bipush B (v := (-4)) dX0_bestSaying_28 (by decide) ?_
      exact g_iret B E rfl dX0_bestSaying_30 ⟨by rw [if_pos h25], rfl⟩
set_option maxHeartbeats 4000000 in
set_option maxRecDepth 100000 in
theorem ct_X6_game {I : Wo} {n d sn : Nat} (hn : I 1 9 = nI n) (hn8 : n ≤ 8) (hdd : I 1 11 = nI d) (hd : d ≤ 9) (hsn : I 1 12 = nI sn) (hsn2 : sn < 2 ^ n) (what : Int32) : Ct yX6_game cX6_game 2 (some .int) 4 96 [.ref 0, .int what] I (pI (fun r u => r = (if wi what 0 1 then (if n = 0 then -2 else if what = 0 then bI (wG n (canG (I 2) (I 3) (I 4)) (esF n (I 6) (I 7) (I 1 10)) (10 - d) sn) else (if wG n (canG (I 2) (I 3) (I 4)) (esF n (I 6) (I 7) (I 1 10)) (9 - d) sn = (decide (d % 2 = 0)) then -4 else lwF (fun c => (decide (c < n) && canG (I 2) (I 3) (I 4) d c sn) && (wG n (canG (I 2) (I 3) (I 4)) (esF n (I 6) (I 7) (I 1 10)) (9 - d) (sn ||| 2 ^ c) == (decide (d % 2 = 0)))) 8)) else -1) ∧ ∀ x y, x ≠ 52 → u x y = I x y)) := by
  have h256 := pow8 hn8
  refine ct_of RX6 rfl (by decide) (Nat.le_of_ble_eq_true rfl) (fun X B E => ?_)
  show GW X 2 0 [some (.ref 0), some (.int what)] [] _
  refine g_iload_n B dX6_game_0 rfl ?_
  refine g_iconst B (v := 0) dX6_game_1 (by decide) ?_
  refine g_iconst B (v := 1) dX6_game_2 (by decide) ?_
  refine g_callSI B (ct_X6_within _ _ _) ml_X6_66 mm_X6_within rfl rfl (Nat.le_of_ble_eq_true rfl) dX6_game_3 (by decide) ?_
  rintro _ _ ⟨rfl, rfl⟩
  refine g_if_ne B 11 dX6_game_6 (by decide) (fun h6 => ?_) (fun h6 => ?_)
  · rw [bI_ne0] at h6
    refine g_aload_n B dX6_game_11 rfl ?_
    refine g_getr B ci_X6 (by first | rfl | assumption) rfl (by decide) fl_X6_10 dX6_game_12 ?_
    refine g_geti B ci_X3 (by first | rfl | assumption) rfl (by decide) fl_X6_95 dX6_game_15 ?_
    refine g_if_ne B 24 dX6_game_18 (by decide) (fun h18 => ?_) (fun h18 => ?_)
    · have hz : ¬ n = 0 := fun q => h18 (by rw [hn, q]; rfl)
      refine g_iload_n B dX6_game_24 rfl ?_
      refine g_if_ne B 65 dX6_game_25 (by decide) (fun h25 => ?_) (fun h25 => ?_)
      · refine g_aload_n B dX6_game_65 rfl ?_
        refine g_getr B ci_X6 (by first | rfl | assumption) rfl (by decide) fl_X6_51 dX6_game_66 ?_
        refine g_aload_n B dX6_game_69 rfl ?_
        refine g_getr B ci_X6 (by first | rfl | assumption) rfl (by decide) fl_X6_10 dX6_game_70 ?_
        refine g_aload_n B dX6_game_73 rfl ?_
        refine g_getr B ci_X6 (by first | rfl | assumption) rfl (by decide) fl_X6_10 dX6_game_74 ?_
        refine g_geti B ci_X3 (by first | rfl | assumption) rfl (by decide) fl_X6_101 dX6_game_77 ?_
        refine g_iconst B (v := 1) dX6_game_80 (by decide) ?_
        refine g_iadd B dX6_game_81 ?_
        refine g_eqi (nI (d + 1)) (by rw [hdd]; exact nI_1 d) ?_
        refine g_callVI B (ct_X0_solve hn hn8 (show d + 1 ≤ 10 by omega) hsn hsn2) (by first | rfl | assumption) rfl ml_X6_202 mm_X0_solve rfl rfl (Nat.le_of_ble_eq_true rfl) dX6_game_82 (by decide) ?_
        rintro r u ⟨hr, hu1, hu⟩
        rw [show 10 - (d + 1) = 9 - d by omega] at hu1
        refine g_pop B dX6_game_85 rfl ?_
        refine g_aload_n B dX6_game_86 rfl ?_
        refine g_getr B ci_X6 (by first | rfl | assumption) rfl (by decide) fl_X6_51 dX6_game_87 ?_
        refine g_aload_n B dX6_game_90 rfl ?_
        refine g_getr B ci_X6 (by first | rfl | assumption) rfl (by decide) fl_X6_10 dX6_game_91 ?_
        refine g_callVI B (ct_X0_bestSaying (I := u) (w := wG n (canG (I 2) (I 3) (I 4)) (esF n (I 6) (I 7) (I 1 10)) (9 - d)) (by rw [hu 1 9 (by decide)]; exact hn) hn8 (by rw [hu 1 11 (by decide)]; exact hdd) hd (by rw [hu 1 12 (by decide)]; exact hsn) hsn2 hu1) (by first | rfl | assumption) rfl ml_X6_209 mm_X0_bestSaying rfl rfl (Nat.le_of_ble_eq_true rfl) dX6_game_94 (by decide) ?_
        rintro r94 _ ⟨h94, rfl⟩
        exact g_iret B E rfl dX6_game_97 ⟨by rw [if_pos h6, if_neg hz, if_neg h25, h94, show u 2 = I 2 from funext fun y => hu 2 y (by decide), show u 3 = I 3 from funext fun y => hu 3 y (by decide), show u 4 = I 4 from funext fun y => hu 4 y (by decide)], hu⟩
      · refine g_aload_n B dX6_game_28 rfl ?_
        refine g_getr B ci_X6 (by first | rfl | assumption) rfl (by decide) fl_X6_51 dX6_game_29 ?_
        refine g_aload_n B dX6_game_32 rfl ?_
        refine g_getr B ci_X6 (by first | rfl | assumption) rfl (by decide) fl_X6_10 dX6_game_33 ?_
        refine g_aload_n B dX6_game_36 rfl ?_
        refine g_getr B ci_X6 (by first | rfl | assumption) rfl (by decide) fl_X6_10 dX6_game_37 ?_
        refine g_geti B ci_X3 (by first | rfl | assumption) rfl (by decide) fl_X6_101 dX6_game_40 ?_
        rw [hdd]
        refine g_callVI B (ct_X0_solve hn hn8 (show d ≤ 10 by omega) hsn hsn2) (by first | rfl | assumption) rfl ml_X6_202 mm_X0_solve rfl rfl (Nat.le_of_ble_eq_true rfl) dX6_game_43 (by decide) ?_
        rintro r u ⟨hr, hu1, hu⟩
        refine g_pop B dX6_game_46 rfl ?_
        refine g_aload_n B dX6_game_47 rfl ?_
        refine g_getr B ci_X6 (by first | rfl | assumption) rfl (by decide) fl_X6_51 dX6_game_48 ?_
        refine g_aload_n B dX6_game_51 rfl ?_
        refine g_getr B ci_X6 (by first | rfl | assumption) rfl (by decide) fl_X6_10 dX6_game_52 ?_
        refine g_geti B ci_X3 (by first | rfl | assumption) rfl (by decide) fl_X6_104 dX6_game_55 ?_
        rw [hu 1 12 (by decide), hsn]
        refine g_callVI B (ct_X0_riverWins (show sn < 256 by omega) (hu1 sn hsn2 (Nat.and_self sn))) (by first | rfl | assumption) rfl ml_X6_206 mm_X0_riverWins rfl rfl (Nat.le_of_ble_eq_true rfl) dX6_game_58 (by decide) ?_
        rintro _ _ ⟨rfl, rfl⟩
        refine g_callSI B (ct_X6_oneIf _) ml_X6_178 mm_X6_oneIf rfl rfl (Nat.le_of_ble_eq_true rfl) dX6_game_61 (by decide) ?_
        rintro _ _ ⟨rfl, rfl⟩
        exact g_iret B E rfl dX6_game_64 ⟨by rw [if_pos h6, if_neg hz, if_pos h25], hu⟩
    · have hz : n = 0 := (nI_eq (by omega) (by decide)).mp (by rw [← hn]; exact h18)
      refine g_bipush B (v := (-2)) dX6_game_21 (by decide) ?_
      exact g_iret B E rfl dX6_game_23 ⟨by rw [if_pos h6, if_pos hz], fun _ _ _ => rfl⟩
  · rw [bI_eq0] at h6
    refine g_iconst B (v := (-1)) dX6_game_9 (by decide) ?_
    exact g_iret B E rfl dX6_game_10 ⟨by simp [*], fun _ _ _ => rfl⟩
set_option maxHeartbeats 4000000 in
set_option maxRecDepth 100000 in
theorem ct_X6_days {I : Wo} {n sn : Nat} (hn : I 1 9 = nI n) (hn8 : n ≤ 8) (hsn : I 1 12 = nI sn) (hsn2 : sn < 2 ^ n) : Ct yX6_days cX6_days 1 (some .int) 4 96 [.ref 0] I (pI (fun r u => r = (if n = 0 then -2 else dyF (fun k => wG n (canG (I 2) (I 3) (I 4)) (esF n (I 6) (I 7) (I 1 10)) k sn) 10) ∧ ∀ x y, x ≠ 52 → u x y = I x y)) := by
  refine ct_of RX6 rfl (by decide) (Nat.le_of_ble_eq_true rfl) (fun X B E => ?_)
  show GW X 1 0 [some (.ref 0)] [] _
  refine g_aload_n B dX6_days_0 rfl ?_
  refine g_getr B ci_X6 (by first | rfl | assumption) rfl (by decide) fl_X6_10 dX6_days_1 ?_
  refine g_geti B ci_X3 (by first | rfl | assumption) rfl (by decide) fl_X6_95 dX6_days_4 ?_
  refine g_if_ne B 13 dX6_days_7 (by decide) (fun h7 => ?_) (fun h7 => ?_)
  · have hz : ¬ n = 0 := fun q => h7 (by rw [hn, q]; rfl)
    refine g_aload_n B dX6_days_13 rfl ?_
    refine g_getr B ci_X6 (by first | rfl | assumption) rfl (by decide) fl_X6_51 dX6_days_14 ?_
    refine g_aload_n B dX6_days_17 rfl ?_
    refine g_getr B ci_X6 (by first | rfl | assumption) rfl (by decide) fl_X6_10 dX6_days_18 ?_
    refine g_iconst B (v := 0) dX6_days_21 (by decide) ?_
    refine g_callVI B (ct_X0_solve (f := 0) hn hn8 (by decide) hsn hsn2) (by first | rfl | assumption) rfl ml_X6_202 mm_X0_solve rfl rfl (Nat.le_of_ble_eq_true rfl) dX6_days_22 (by decide) ?_
    rintro r u ⟨hr, hu1, hu⟩
    exact g_iret B E rfl dX6_days_25 ⟨by rw [if_neg hz, hr], hu⟩
  · have hz : n = 0 := (nI_eq (by omega) (by decide)).mp (by rw [← hn]; exact h7)
    refine g_bipush B (v := (-2)) dX6_days_10 (by decide) ?_
    exact g_iret B E rfl dX6_days_12 ⟨by rw [if_pos hz], fun _ _ _ => rfl⟩
set_option maxHeartbeats 4000000 in
set_option maxRecDepth 100000 in
theorem ct_X7_canSay {I : Wo} {c d s : Nat} (hc : c < 8) (hd : d ≤ 10) : Ct yX7_canSay cX7_canSay 4 (some .boolean) 2 47 [.ref 57, .int (nI c), .int (nI d), .int (nI s)] I (pI (fun r u => r = bI (canG (I 60) (I 61) (I 62) d c s) ∧ I = u)) := by
  refine ct_of RX7 rfl (by decide) (Nat.le_of_ble_eq_true rfl) (fun X B E => ?_)
  show GW X 4 0 [some (.ref 57), some (.int (nI c)), some (.int (nI d)), some (.int (nI s))] [] _
  refine g_aload_n B dX7_canSay_0 rfl ?_
  refine g_getr B ci_X7 (by first | rfl | assumption) rfl (by decide) fl_X7_17 dX7_canSay_1 ?_
  refine g_iload_n B dX7_canSay_4 rfl ?_
  refine g_iald B (by first | rfl | assumption) _ (by first | with_reducible rfl | exact lit_add _ _ | exact add_lit _ _ | exact nI_add _ _ | exact lit_nI _ | assumption | rfl) (by first | decide | omega | assumption) (by decide) dX7_canSay_5 ?_
  refine g_iload_n B dX7_canSay_6 rfl ?_
  refine g_iconst B (v := 2) dX7_canSay_7 (by decide) ?_
  refine g_irem B dX7_canSay_8 (by decide) ?_
  refine g_eqi (nI (d % 2)) (rem2 hd) ?_
  refine g_icmp_ne B 33 dX7_canSay_9 (by decide) (fun h9 => ?_) (fun h9 => ?_)
  · refine g_iconst B (v := 0) dX7_canSay_33 (by decide) ?_
    exact g_iret B E (by first | exact bI_nar _ | decide | exact bI_narv (by assumption)) dX7_canSay_34 ⟨by simp [canG, bI, *], rfl⟩
  · refine g_aload_n B dX7_canSay_12 rfl ?_
    refine g_iload_n B dX7_canSay_13 rfl ?_
    refine g_iload_n B dX7_canSay_14 rfl ?_
    refine g_callVI B (ct_X7_inTime hc _) (by first | rfl | assumption) rfl ml_X7_175 mm_X7_inTime rfl rfl (Nat.le_of_ble_eq_true rfl) dX7_canSay_15 (by decide) ?_
    rintro _ _ ⟨rfl, rfl⟩
    refine g_if_eq B 33 dX7_canSay_18 (by decide) (fun h18 => ?_) (fun h18 => ?_)
    · rw [bI_eq0] at h18
      refine g_iconst B (v := 0) dX7_canSay_33 (by decide) ?_
      exact g_iret B E (by first | exact bI_nar _ | decide | exact bI_narv (by assumption)) dX7_canSay_34 ⟨by simp [canG, bI, *], rfl⟩
    · rw [bI_ne0] at h18
      refine g_iload_n B dX7_canSay_21 rfl ?_
      refine g_iload_n B dX7_canSay_22 rfl ?_
      refine g_ishr B dX7_canSay_23 ?_
      refine g_iconst B (v := 1) dX7_canSay_24 (by decide) ?_
      refine g_iand B dX7_canSay_25 ?_
      refine g_if_ne B 33 dX7_canSay_26 (by decide) (fun h26 => ?_) (fun h26 => ?_)
      · replace h26 := (bitN (show c ≤ 8 by omega)).mp (bit01 h26)
        refine g_iconst B (v := 0) dX7_canSay_33 (by decide) ?_
        exact g_iret B E (by first | exact bI_nar _ | decide | exact bI_narv (by assumption)) dX7_canSay_34 ⟨by simp [canG, bI, *], rfl⟩
      · replace h26 := bitN0 (show c ≤ 8 by omega) h26
        refine g_iconst B (v := 1) dX7_canSay_29 (by decide) ?_
        refine g_goto B 34 dX7_canSay_30 (by decide) ?_
        exact g_iret B E (by first | exact bI_nar _ | decide | exact bI_narv (by assumption)) dX7_canSay_34 ⟨by simp [canG, bI, *], rfl⟩
set_option maxHeartbeats 4000000 in
set_option maxRecDepth 100000 in
theorem ct_X7_play {I : Wo} {n : Nat} (hn : I 57 2 = nI n) (hn8 : n ≤ 8) (he : cOK n (I 58 25) = decide (0 < n)) : Ct yX7_play cX7_play 6 none 3 70 [.ref 57] I (pV (fun u => (∀ k, k ≤ 10 → ∀ s, s < 2 ^ n → u 69 (256 * (10 - k) + s) = bI (wG n (canG (I 60) (I 61) (I 62)) (esF n (I 58) (fun c => I 58 (8 + c)) (I 58 25)) k s)) ∧ ∀ x y, x ≠ 69 → u x y = I x y)) := by
  have h256 := pow8 hn8
  refine ct_of RX7 rfl (by decide) (Nat.le_of_ble_eq_true rfl) (fun X B E => ?_)
  show GW X 6 0 [some (.ref 57), none, none, none, none, none] [] _
  refine g_iconst B (v := 0) dX7_play_0 (by decide) ?_
  refine g_istn1 B dX7_play_1 (by decide) rfl ?_
  have L2 : ∀ i, i ≤ 2 ^ n → ∀ (V : Wo), (∀ s, s < i → V 69 (2560 + s) = bI (wG n (canG (I 60) (I 61) (I 62)) (esF n (I 58) (fun c => I 58 (8 + c)) (I 58 25)) 0 s)) → (∀ x y, x ≠ 69 → V x y = I x y) → GW X 6 2 [some (.ref 57), some (.int (nI i)), none, none, none, none] [] V := by
    refine loopN (2 ^ n) (fun i hi ih V hk hV => ?_)
    have hn2 : V 57 2 = nI n := by rw [hV 57 2 (by decide)]; exact hn
    have he2 : cOK n (V 58 25) = decide (0 < n) := by rw [hV 58 25 (by decide)]; exact he
    refine g_iload_n B dX7_play_2 rfl ?_
    refine g_aload_n B dX7_play_3 rfl ?_
    refine g_callVI B (ct_X7_every hn2 hn8) (by first | rfl | assumption) rfl ml_X7_191 mm_X7_every rfl rfl (Nat.le_of_ble_eq_true rfl) dX7_play_4 (by decide) ?_
    rintro _ _ ⟨rfl, rfl⟩
    refine g_icmp_gt B 31 dX7_play_7 (by decide) (fun h7 => ?_) (fun h7 => ?_)
    · have hi2 : i = 2 ^ n := ev_out hn8 hi h7
      subst hi2
      refine g_bipush B (v := 9) dX7_play_31 (by decide) ?_
      refine g_eqi (nI 9 - nI 0) (by decide) ?_
      refine g_istn1 B dX7_play_33 (by decide) rfl ?_
      have L34 : ∀ k, k ≤ 10 → ∀ (V : Wo) p2 p3 p4 p5, (∀ k', k' ≤ k → ∀ s, s < 2 ^ n → V 69 (256 * (10 - k') + s) = bI (wG n (canG (I 60) (I 61) (I 62)) (esF n (I 58) (fun c => I 58 (8 + c)) (I 58 25)) k' s)) → (∀ x y, x ≠ 69 → V x y = I x y) → GW X 6 34 [some (.ref 57), some (.int (nI 9 - nI k)), p2, p3, p4, p5] [] V := by
        refine loopN 10 (fun k hk9 ihk V p2 p3 p4 p5 hv hV => ?_)
        refine g_iload_n B dX7_play_34 rfl ?_
        refine g_if_lt B 184 dX7_play_35 (by decide) (fun h35 => ?_) (fun h35 => ?_)
        · have hk2 : k = 10 := (dn_lt (f := 0) (by decide) hk9).mp h35
          exact g_vret B E dX7_play_184 ⟨fun k' hk' => hv k' (by omega), hV⟩
        · have hltk : k < 10 := by have hne : ¬ k = 10 := fun q => h35 ((dn_lt (f := 0) (by decide) hk9).mpr q); omega
          refine g_iconst B (v := 0) dX7_play_38 (by decide) ?_
          refine g_istn2 B dX7_play_39 (by decide) rfl ?_
          have L40 : ∀ i, i ≤ 2 ^ n → ∀ (V : Wo) p3 p4 p5, (∀ k', k' ≤ k → ∀ s, s < 2 ^ n → V 69 (256 * (10 - k') + s) = bI (wG n (canG (I 60) (I 61) (I 62)) (esF n (I 58) (fun c => I 58 (8 + c)) (I 58 25)) k' s)) → (∀ s, s < i → V 69 (256 * (9 - k) + s) = bI (wG n (canG (I 60) (I 61) (I 62)) (esF n (I 58) (fun c => I 58 (8 + c)) (I 58 25)) (k + 1) s)) → (∀ x y, x ≠ 69 → V x y = I x y) → GW X 6 40 [some (.ref 57), some (.int (nI 9 - nI k)), some (.int (nI i)), p3, p4, p5] [] V := by
            refine loopN (2 ^ n) (fun i hi ih V p3 p4 p5 hv2 hk2 hV2 => ?_)
            have hn2 : V 57 2 = nI n := by rw [hV2 57 2 (by decide)]; exact hn
            refine g_iload_n B dX7_play_40 rfl ?_
            refine g_aload_n B dX7_play_41 rfl ?_
            refine g_callVI B (ct_X7_every hn2 hn8) (by first | rfl | assumption) rfl ml_X7_191 mm_X7_every rfl rfl (Nat.le_of_ble_eq_true rfl) dX7_play_42 (by decide) ?_
            rintro _ _ ⟨rfl, rfl⟩
            refine g_icmp_gt B 178 dX7_play_45 (by decide) (fun h45 => ?_) (fun h45 => ?_)
            · have hi2 : i = 2 ^ n := ev_out hn8 hi h45
              subst hi2
              refine g_inc1 B dX7_play_178 rfl (dn_step (by omega)) (by decide) rfl ?_
              refine g_goto B 34 dX7_play_181 (by decide) ?_
              exact ihk hltk _ _ _ _ _ (pl_next hv2 hk2) hV2
            · have hlt : i < 2 ^ n := ev_in hn8 hi h45
              refine g_iload_n B dX7_play_48 rfl ?_
              refine g_eqi (nI (9 - k)) (pk_sub (by omega)) ?_
              refine g_iconst B (v := 2) dX7_play_49 (by decide) ?_
              refine g_irem B dX7_play_50 (by decide) ?_
              refine g_eqi (nI ((9 - k) % 2)) (rem2 (by omega)) ?_
              refine g_if_ne B 58 dX7_play_51 (by decide) (fun h51 => ?_) (fun h51 => ?_)
              · refine g_iconst B (v := 0) dX7_play_58 (by decide) ?_
                refine g_eqi (bI (decide ((9 - k) % 2 = 0))) (by first | exact mv_b0 h51 | exact mv_b1 h51) ?_
                refine g_istn3 B dX7_play_59 (by decide) rfl ?_
                refine g_aload_n B dX7_play_60 rfl ?_
                refine g_getr B ci_X7 (by first | rfl | assumption) rfl (by decide) fl_X7_44 dX7_play_61 ?_
                refine g_sipush B (v := 256) dX7_play_64 (by decide) ?_
                refine g_iload_n B dX7_play_67 rfl ?_
                refine g_eqi (nI (9 - k)) (pk_sub (by omega)) ?_
                refine g_iconst B (v := 1) dX7_play_68 (by decide) ?_
                refine g_iadd B dX7_play_69 ?_
                refine g_imul B dX7_play_70 ?_
                refine g_iload_n B dX7_play_71 rfl ?_
                refine g_iadd B dX7_play_72 ?_
                refine g_eqi (nI (256 * (10 - k) + i)) (ix1 (by omega)) ?_
                refine g_zald B (by first | rfl | assumption) (256 * (10 - k) + i) rfl (by first | decide | omega | assumption) (by decide) dX7_play_73 ?_
                rw [hv2 k (Nat.le_refl k) i hlt]
                refine g_iload_n B dX7_play_74 rfl ?_
                refine g_icmp_ne B 82 dX7_play_75 (by decide) (fun h75 => ?_) (fun h75 => ?_)
                · rw [bI_inj] at h75
                  refine g_iconst B (v := 0) dX7_play_82 (by decide) ?_
                  refine g_eqi (bI (wG n (canG (I 60) (I 61) (I 62)) (esF n (I 58) (fun c => I 58 (8 + c)) (I 58 25)) k i == (decide ((9 - k) % 2 = 0)))) (by first | exact be_1 h75 | exact be_0 h75) ?_
                  refine g_ist4 B dX7_play_83 (by decide) rfl ?_
                  refine g_iconst B (v := 0) dX7_play_85 (by decide) ?_
                  refine g_ist5 B dX7_play_86 (by decide) rfl ?_
                  have L88 : ∀ c, c ≤ n → GW X 6 88 [some (.ref 57), some (.int (nI 9 - nI k)), some (.int (nI i)), some (.int (bI (decide ((9 - k) % 2 = 0)))), some (.int (bI ((wG n (canG (I 60) (I 61) (I 62)) (esF n (I 58) (fun c => I 58 (8 + c)) (I 58 25)) k i == (decide ((9 - k) % 2 = 0))) || anyF (fun c => canG (I 60) (I 61) (I 62) (9 - k) c i && (wG n (canG (I 60) (I 61) (I 62)) (esF n (I 58) (fun c => I 58 (8 + c)) (I 58 25)) k (i ||| 2 ^ c) == (decide ((9 - k) % 2 = 0)))) c))), some (.int (nI c))] [] V := by
                    refine loopN n (fun c hc ihc => ?_)
                    refine g_iload B dX7_play_88 rfl ?_
                    refine g_aload_n B dX7_play_90 rfl ?_
                    refine g_geti B ci_X7 (by first | rfl | assumption) rfl (by decide) fl_X7_72 dX7_play_91 ?_
                    rw [hn2]
                    refine g_icmp_ge B 149 dX7_play_94 (by decide) (fun h94 => ?_) (fun h94 => ?_)
                    · have hc2 : n = c := by have := le_le (a := n) (b := c) (by omega) (by omega) h94; omega
                      subst hc2
                      refine g_aload_n B dX7_play_149 rfl ?_
                      refine g_getr B ci_X7 (by first | rfl | assumption) rfl (by decide) fl_X7_44 dX7_play_150 ?_
                      refine g_sipush B (v := 256) dX7_play_153 (by decide) ?_
                      refine g_iload_n B dX7_play_156 rfl ?_
                      refine g_eqi (nI (9 - k)) (pk_sub (by omega)) ?_
                      refine g_imul B dX7_play_157 ?_
                      refine g_iload_n B dX7_play_158 rfl ?_
                      refine g_iadd B dX7_play_159 ?_
                      refine g_eqi (nI (256 * (9 - k) + i)) (by rw [show (256 : Int32) = nI 256 from rfl, pk_mul, nI_add]) ?_
                      refine g_iload B dX7_play_160 rfl ?_
                      refine g_iload_n B dX7_play_162 rfl ?_
                      refine g_icmp_ne B 170 dX7_play_163 (by decide) (fun h163 => ?_) (fun h163 => ?_)
                      · rw [bI_inj] at h163
                        refine g_iconst B (v := 0) dX7_play_170 (by decide) ?_
                        refine g_eqi (bI (wG n (canG (I 60) (I 61) (I 62)) (esF n (I 58) (fun c => I 58 (8 + c)) (I 58 25)) (k + 1) i)) (by rw [wG, stepG, mvG]; first | exact be_1 h163 | exact be_0 h163) ?_
                        refine g_zast B (by first | rfl | assumption) (256 * (9 - k) + i) rfl (by first | decide | omega | assumption) (by decide) dX7_play_171 ?_
                        refine g_inc2 B dX7_play_172 rfl (inc1 _) (by decide) rfl ?_
                        refine g_goto B 40 dX7_play_175 (by decide) ?_
                        refine ih hlt _ _ _ _ (fun k' hk' s hs => by rw [w2_slot _ _ (by omega)]; exact hv2 k' hk' s hs) (fun s h1 => ?_) (fun x y h => by rw [w2_cell _ _ h]; exact hV2 x y h)
                        by_cases hsi : s = i
                        · subst hsi
                          rw [w2_same, bI_vnar]
                        · rw [w2_slot _ _ (by omega)]; exact hk2 s (by omega)
                      · rw [bI_inj] at h163
                        refine g_iconst B (v := 1) dX7_play_166 (by decide) ?_
                        refine g_goto B 171 dX7_play_167 (by decide) ?_
                        refine g_eqi (bI (wG n (canG (I 60) (I 61) (I 62)) (esF n (I 58) (fun c => I 58 (8 + c)) (I 58 25)) (k + 1) i)) (by rw [wG, stepG, mvG]; first | exact be_1 h163 | exact be_0 h163) ?_
                        refine g_zast B (by first | rfl | assumption) (256 * (9 - k) + i) rfl (by first | decide | omega | assumption) (by decide) dX7_play_171 ?_
                        refine g_inc2 B dX7_play_172 rfl (inc1 _) (by decide) rfl ?_
                        refine g_goto B 40 dX7_play_175 (by decide) ?_
                        refine ih hlt _ _ _ _ (fun k' hk' s hs => by rw [w2_slot _ _ (by omega)]; exact hv2 k' hk' s hs) (fun s h1 => ?_) (fun x y h => by rw [w2_cell _ _ h]; exact hV2 x y h)
                        by_cases hsi : s = i
                        · subst hsi
                          rw [w2_same, bI_vnar]
                        · rw [w2_slot _ _ (by omega)]; exact hk2 s (by omega)
                    · have hltc : c < n := nle_lt (by omega) (by omega) h94
                      refine g_iload B dX7_play_97 rfl ?_
                      refine g_if_ne B 136 dX7_play_99 (by decide) (fun h99 => ?_) (fun h99 => ?_)
                      · rw [bI_ne0] at h99
                        refine g_iconst B (v := 1) dX7_play_136 (by decide) ?_
                        refine g_goto B 141 dX7_play_137 (by decide) ?_
                        refine g_eqi (bI ((wG n (canG (I 60) (I 61) (I 62)) (esF n (I 58) (fun c => I 58 (8 + c)) (I 58 25)) k i == (decide ((9 - k) % 2 = 0))) || anyF (fun c => canG (I 60) (I 61) (I 62) (9 - k) c i && (wG n (canG (I 60) (I 61) (I 62)) (esF n (I 58) (fun c => I 58 (8 + c)) (I 58 25)) k (i ||| 2 ^ c) == (decide ((9 - k) % 2 = 0)))) (c + 1))) (by rw [anyF]; exact ay_t h99) ?_
                        refine g_ist4 B dX7_play_141 (by decide) rfl ?_
                        refine g_inc5 B dX7_play_143 rfl (inc1 _) (by decide) rfl ?_
                        refine g_goto B 88 dX7_play_146 (by decide) ?_
                        exact ihc hltc
                      · rw [bI_eq0] at h99
                        refine g_aload_n B dX7_play_102 rfl ?_
                        refine g_iload B dX7_play_103 rfl ?_
                        refine g_iload_n B dX7_play_105 rfl ?_
                        refine g_eqi (nI (9 - k)) (pk_sub (by omega)) ?_
                        refine g_iload_n B dX7_play_106 rfl ?_
                        refine g_callVI B (ct_X7_canSay (I := V) (show c < 8 by omega) (show 9 - k ≤ 10 by omega)) (by first | rfl | assumption) rfl ml_X7_230 mm_X7_canSay rfl rfl (Nat.le_of_ble_eq_true rfl) dX7_play_107 (by decide) ?_
                        rintro _ _ ⟨rfl, rfl⟩
                        rw [show V 60 = I 60 from funext fun y => hV2 60 y (by decide), show V 61 = I 61 from funext fun y => hV2 61 y (by decide), show V 62 = I 62 from funext fun y => hV2 62 y (by decide)]
                        refine g_if_eq B 140 dX7_play_110 (by decide) (fun h110 => ?_) (fun h110 => ?_)
                        · rw [bI_eq0] at h110
                          refine g_iconst B (v := 0) dX7_play_140 (by decide) ?_
                          refine g_eqi (bI ((wG n (canG (I 60) (I 61) (I 62)) (esF n (I 58) (fun c => I 58 (8 + c)) (I 58 25)) k i == (decide ((9 - k) % 2 = 0))) || anyF (fun c => canG (I 60) (I 61) (I 62) (9 - k) c i && (wG n (canG (I 60) (I 61) (I 62)) (esF n (I 58) (fun c => I 58 (8 + c)) (I 58 25)) k (i ||| 2 ^ c) == (decide ((9 - k) % 2 = 0)))) (c + 1))) (by rw [anyF]; exact ay_f h99 (by simp [h110])) ?_
                          refine g_ist4 B dX7_play_141 (by decide) rfl ?_
                          refine g_inc5 B dX7_play_143 rfl (inc1 _) (by decide) rfl ?_
                          refine g_goto B 88 dX7_play_146 (by decide) ?_
                          exact ihc hltc
                        · rw [bI_ne0] at h110
                          refine g_aload_n B dX7_play_113 rfl ?_
                          refine g_getr B ci_X7 (by first | rfl | assumption) rfl (by decide) fl_X7_44 dX7_play_114 ?_
                          refine g_sipush B (v := 256) dX7_play_117 (by decide) ?_
                          refine g_iload_n B dX7_play_120 rfl ?_
                          refine g_eqi (nI (9 - k)) (pk_sub (by omega)) ?_
                          refine g_iconst B (v := 1) dX7_play_121 (by decide) ?_
                          refine g_iadd B dX7_play_122 ?_
                          refine g_imul B dX7_play_123 ?_
                          refine g_iload_n B dX7_play_124 rfl ?_
                          refine g_iconst B (v := 1) dX7_play_125 (by decide) ?_
                          refine g_iload B dX7_play_126 rfl ?_
                          refine g_ishl B dX7_play_128 ?_
                          refine g_ior B dX7_play_129 ?_
                          refine g_eqi (nI (i ||| 2 ^ c)) (by rw [shl1 (by omega), nI_or]) ?_
                          refine g_iadd B dX7_play_130 ?_
                          refine g_eqi (nI (256 * (10 - k) + (i ||| 2 ^ c))) (ix1 (by omega)) ?_
                          have hor := or_256 (show i < 256 by omega) (show c < 8 by omega)
                          refine g_zald B (by first | rfl | assumption) (256 * (10 - k) + (i ||| 2 ^ c)) rfl (by first | decide | omega | assumption) (by decide) dX7_play_131 ?_
                          rw [hv2 k (Nat.le_refl k) _ (or_2n hlt hltc)]
                          refine g_iload_n B dX7_play_132 rfl ?_
                          refine g_icmp_ne B 140 dX7_play_133 (by decide) (fun h133 => ?_) (fun h133 => ?_)
                          · rw [bI_inj] at h133
                            refine g_iconst B (v := 0) dX7_play_140 (by decide) ?_
                            refine g_eqi (bI ((wG n (canG (I 60) (I 61) (I 62)) (esF n (I 58) (fun c => I 58 (8 + c)) (I 58 25)) k i == (decide ((9 - k) % 2 = 0))) || anyF (fun c => canG (I 60) (I 61) (I 62) (9 - k) c i && (wG n (canG (I 60) (I 61) (I 62)) (esF n (I 58) (fun c => I 58 (8 + c)) (I 58 25)) k (i ||| 2 ^ c) == (decide ((9 - k) % 2 = 0)))) (c + 1))) (by rw [anyF]; exact ay_f h99 (by simp [h133])) ?_
                            refine g_ist4 B dX7_play_141 (by decide) rfl ?_
                            refine g_inc5 B dX7_play_143 rfl (inc1 _) (by decide) rfl ?_
                            refine g_goto B 88 dX7_play_146 (by decide) ?_
                            exact ihc hltc
                          · rw [bI_inj] at h133
                            refine g_iconst B (v := 1) dX7_play_136 (by decide) ?_
                            refine g_goto B 141 dX7_play_137 (by decide) ?_
                            refine g_eqi (bI ((wG n (canG (I 60) (I 61) (I 62)) (esF n (I 58) (fun c => I 58 (8 + c)) (I 58 25)) k i == (decide ((9 - k) % 2 = 0))) || anyF (fun c => canG (I 60) (I 61) (I 62) (9 - k) c i && (wG n (canG (I 60) (I 61) (I 62)) (esF n (I 58) (fun c => I 58 (8 + c)) (I 58 25)) k (i ||| 2 ^ c) == (decide ((9 - k) % 2 = 0)))) (c + 1))) (by rw [anyF]; exact ay_1 h99 (by simp [h110, h133])) ?_
                            refine g_ist4 B dX7_play_141 (by decide) rfl ?_
                            refine g_inc5 B dX7_play_143 rfl (inc1 _) (by decide) rfl ?_
                            refine g_goto B 88 dX7_play_146 (by decide) ?_
                            exact ihc hltc
                  rw [show (wG n (canG (I 60) (I 61) (I 62)) (esF n (I 58) (fun c => I 58 (8 + c)) (I 58 25)) k i == (decide ((9 - k) % 2 = 0))) = ((wG n (canG (I 60) (I 61) (I 62)) (esF n (I 58) (fun c => I 58 (8 + c)) (I 58 25)) k i == (decide ((9 - k) % 2 = 0))) || anyF (fun c => canG (I 60) (I 61) (I 62) (9 - k) c i && (wG n (canG (I 60) (I 61) (I 62)) (esF n (I 58) (fun c => I 58 (8 + c)) (I 58 25)) k (i ||| 2 ^ c) == (decide ((9 - k) % 2 = 0)))) 0) by rw [anyF, Bool.or_false]]
                  exact L88 0 (Nat.zero_le _)
                · rw [bI_inj] at h75
                  refine g_iconst B (v := 1) dX7_play_78 (by decide) ?_
                  refine g_goto B 83 dX7_play_79 (by decide) ?_
                  refine g_eqi (bI (wG n (canG (I 60) (I 61) (I 62)) (esF n (I 58) (fun c => I 58 (8 + c)) (I 58 25)) k i == (decide ((9 - k) % 2 = 0)))) (by first | exact be_1 h75 | exact be_0 h75) ?_
                  refine g_ist4 B dX7_play_83 (by decide) rfl ?_
                  refine g_iconst B (v := 0) dX7_play_85 (by decide) ?_
                  refine g_ist5 B dX7_play_86 (by decide) rfl ?_
                  have L88 : ∀ c, c ≤ n → GW X 6 88 [some (.ref 57), some (.int (nI 9 - nI k)), some (.int (nI i)), some (.int (bI (decide ((9 - k) % 2 = 0)))), some (.int (bI ((wG n (canG (I 60) (I 61) (I 62)) (esF n (I 58) (fun c => I 58 (8 + c)) (I 58 25)) k i == (decide ((9 - k) % 2 = 0))) || anyF (fun c => canG (I 60) (I 61) (I 62) (9 - k) c i && (wG n (canG (I 60) (I 61) (I 62)) (esF n (I 58) (fun c => I 58 (8 + c)) (I 58 25)) k (i ||| 2 ^ c) == (decide ((9 - k) % 2 = 0)))) c))), some (.int (nI c))] [] V := by
                    refine loopN n (fun c hc ihc => ?_)
                    refine g_iload B dX7_play_88 rfl ?_
                    refine g_aload_n B dX7_play_90 rfl ?_
                    refine g_geti B ci_X7 (by first | rfl | assumption) rfl (by decide) fl_X7_72 dX7_play_91 ?_
                    rw [hn2]
                    refine g_icmp_ge B 149 dX7_play_94 (by decide) (fun h94 => ?_) (fun h94 => ?_)
                    · have hc2 : n = c := by have := le_le (a := n) (b := c) (by omega) (by omega) h94; omega
                      subst hc2
                      refine g_aload_n B dX7_play_149 rfl ?_
                      refine g_getr B ci_X7 (by first | rfl | assumption) rfl (by decide) fl_X7_44 dX7_play_150 ?_
                      refine g_sipush B (v := 256) dX7_play_153 (by decide) ?_
                      refine g_iload_n B dX7_play_156 rfl ?_
                      refine g_eqi (nI (9 - k)) (pk_sub (by omega)) ?_
                      refine g_imul B dX7_play_157 ?_
                      refine g_iload_n B dX7_play_158 rfl ?_
                      refine g_iadd B dX7_play_159 ?_
                      refine g_eqi (nI (256 * (9 - k) + i)) (by rw [show (256 : Int32) = nI 256 from rfl, pk_mul, nI_add]) ?_
                      refine g_iload B dX7_play_160 rfl ?_
                      refine g_iload_n B dX7_play_162 rfl ?_
                      refine g_icmp_ne B 170 dX7_play_163 (by decide) (fun h163 => ?_) (fun h163 => ?_)
                      · rw [bI_inj] at h163
                        refine g_iconst B (v := 0) dX7_play_170 (by decide) ?_
                        refine g_eqi (bI (wG n (canG (I 60) (I 61) (I 62)) (esF n (I 58) (fun c => I 58 (8 + c)) (I 58 25)) (k + 1) i)) (by rw [wG, stepG, mvG]; first | exact be_1 h163 | exact be_0 h163) ?_
                        refine g_zast B (by first | rfl | assumption) (256 * (9 - k) + i) rfl (by first | decide | omega | assumption) (by decide) dX7_play_171 ?_
                        refine g_inc2 B dX7_play_172 rfl (inc1 _) (by decide) rfl ?_
                        refine g_goto B 40 dX7_play_175 (by decide) ?_
                        refine ih hlt _ _ _ _ (fun k' hk' s hs => by rw [w2_slot _ _ (by omega)]; exact hv2 k' hk' s hs) (fun s h1 => ?_) (fun x y h => by rw [w2_cell _ _ h]; exact hV2 x y h)
                        by_cases hsi : s = i
                        · subst hsi
                          rw [w2_same, bI_vnar]
                        · rw [w2_slot _ _ (by omega)]; exact hk2 s (by omega)
                      · rw [bI_inj] at h163
                        refine g_iconst B (v := 1) dX7_play_166 (by decide) ?_
                        refine g_goto B 171 dX7_play_167 (by decide) ?_
                        refine g_eqi (bI (wG n (canG (I 60) (I 61) (I 62)) (esF n (I 58) (fun c => I 58 (8 + c)) (I 58 25)) (k + 1) i)) (by rw [wG, stepG, mvG]; first | exact be_1 h163 | exact be_0 h163) ?_
                        refine g_zast B (by first | rfl | assumption) (256 * (9 - k) + i) rfl (by first | decide | omega | assumption) (by decide) dX7_play_171 ?_
                        refine g_inc2 B dX7_play_172 rfl (inc1 _) (by decide) rfl ?_
                        refine g_goto B 40 dX7_play_175 (by decide) ?_
                        refine ih hlt _ _ _ _ (fun k' hk' s hs => by rw [w2_slot _ _ (by omega)]; exact hv2 k' hk' s hs) (fun s h1 => ?_) (fun x y h => by rw [w2_cell _ _ h]; exact hV2 x y h)
                        by_cases hsi : s = i
                        · subst hsi
                          rw [w2_same, bI_vnar]
                        · rw [w2_slot _ _ (by omega)]; exact hk2 s (by omega)
                    · have hltc : c < n := nle_lt (by omega) (by omega) h94
                      refine g_iload B dX7_play_97 rfl ?_
                      refine g_if_ne B 136 dX7_play_99 (by decide) (fun h99 => ?_) (fun h99 => ?_)
                      · rw [bI_ne0] at h99
                        refine g_iconst B (v := 1) dX7_play_136 (by decide) ?_
                        refine g_goto B 141 dX7_play_137 (by decide) ?_
                        refine g_eqi (bI ((wG n (canG (I 60) (I 61) (I 62)) (esF n (I 58) (fun c => I 58 (8 + c)) (I 58 25)) k i == (decide ((9 - k) % 2 = 0))) || anyF (fun c => canG (I 60) (I 61) (I 62) (9 - k) c i && (wG n (canG (I 60) (I 61) (I 62)) (esF n (I 58) (fun c => I 58 (8 + c)) (I 58 25)) k (i ||| 2 ^ c) == (decide ((9 - k) % 2 = 0)))) (c + 1))) (by rw [anyF]; exact ay_t h99) ?_
                        refine g_ist4 B dX7_play_141 (by decide) rfl ?_
                        refine g_inc5 B dX7_play_143 rfl (inc1 _) (by decide) rfl ?_
                        refine g_goto B 88 dX7_play_146 (by decide) ?_
                        exact ihc hltc
                      · rw [bI_eq0] at h99
                        refine g_aload_n B dX7_play_102 rfl ?_
                        refine g_iload B dX7_play_103 rfl ?_
                        refine g_iload_n B dX7_play_105 rfl ?_
                        refine g_eqi (nI (9 - k)) (pk_sub (by omega)) ?_
                        refine g_iload_n B dX7_play_106 rfl ?_
                        refine g_callVI B (ct_X7_canSay (I := V) (show c < 8 by omega) (show 9 - k ≤ 10 by omega)) (by first | rfl | assumption) rfl ml_X7_230 mm_X7_canSay rfl rfl (Nat.le_of_ble_eq_true rfl) dX7_play_107 (by decide) ?_
                        rintro _ _ ⟨rfl, rfl⟩
                        rw [show V 60 = I 60 from funext fun y => hV2 60 y (by decide), show V 61 = I 61 from funext fun y => hV2 61 y (by decide), show V 62 = I 62 from funext fun y => hV2 62 y (by decide)]
                        refine g_if_eq B 140 dX7_play_110 (by decide) (fun h110 => ?_) (fun h110 => ?_)
                        · rw [bI_eq0] at h110
                          refine g_iconst B (v := 0) dX7_play_140 (by decide) ?_
                          refine g_eqi (bI ((wG n (canG (I 60) (I 61) (I 62)) (esF n (I 58) (fun c => I 58 (8 + c)) (I 58 25)) k i == (decide ((9 - k) % 2 = 0))) || anyF (fun c => canG (I 60) (I 61) (I 62) (9 - k) c i && (wG n (canG (I 60) (I 61) (I 62)) (esF n (I 58) (fun c => I 58 (8 + c)) (I 58 25)) k (i ||| 2 ^ c) == (decide ((9 - k) % 2 = 0)))) (c + 1))) (by rw [anyF]; exact ay_f h99 (by simp [h110])) ?_
                          refine g_ist4 B dX7_play_141 (by decide) rfl ?_
                          refine g_inc5 B dX7_play_143 rfl (inc1 _) (by decide) rfl ?_
                          refine g_goto B 88 dX7_play_146 (by decide) ?_
                          exact ihc hltc
                        · rw [bI_ne0] at h110
                          refine g_aload_n B dX7_play_113 rfl ?_
                          refine g_getr B ci_X7 (by first | rfl | assumption) rfl (by decide) fl_X7_44 dX7_play_114 ?_
                          refine g_sipush B (v := 256) dX7_play_117 (by decide) ?_
                          refine g_iload_n B dX7_play_120 rfl ?_
                          refine g_eqi (nI (9 - k)) (pk_sub (by omega)) ?_
                          refine g_iconst B (v := 1) dX7_play_121 (by decide) ?_
                          refine g_iadd B dX7_play_122 ?_
                          refine g_imul B dX7_play_123 ?_
                          refine g_iload_n B dX7_play_124 rfl ?_
                          refine g_iconst B (v := 1) dX7_play_125 (by decide) ?_
                          refine g_iload B dX7_play_126 rfl ?_
                          refine g_ishl B dX7_play_128 ?_
                          refine g_ior B dX7_play_129 ?_
                          refine g_eqi (nI (i ||| 2 ^ c)) (by rw [shl1 (by omega), nI_or]) ?_
                          refine g_iadd B dX7_play_130 ?_
                          refine g_eqi (nI (256 * (10 - k) + (i ||| 2 ^ c))) (ix1 (by omega)) ?_
                          have hor := or_256 (show i < 256 by omega) (show c < 8 by omega)
                          refine g_zald B (by first | rfl | assumption) (256 * (10 - k) + (i ||| 2 ^ c)) rfl (by first | decide | omega | assumption) (by decide) dX7_play_131 ?_
                          rw [hv2 k (Nat.le_refl k) _ (or_2n hlt hltc)]
                          refine g_iload_n B dX7_play_132 rfl ?_
                          refine g_icmp_ne B 140 dX7_play_133 (by decide) (fun h133 => ?_) (fun h133 => ?_)
                          · rw [bI_inj] at h133
                            refine g_iconst B (v := 0) dX7_play_140 (by decide) ?_
                            refine g_eqi (bI ((wG n (canG (I 60) (I 61) (I 62)) (esF n (I 58) (fun c => I 58 (8 + c)) (I 58 25)) k i == (decide ((9 - k) % 2 = 0))) || anyF (fun c => canG (I 60) (I 61) (I 62) (9 - k) c i && (wG n (canG (I 60) (I 61) (I 62)) (esF n (I 58) (fun c => I 58 (8 + c)) (I 58 25)) k (i ||| 2 ^ c) == (decide ((9 - k) % 2 = 0)))) (c + 1))) (by rw [anyF]; exact ay_f h99 (by simp [h133])) ?_
                            refine g_ist4 B dX7_play_141 (by decide) rfl ?_
                            refine g_inc5 B dX7_play_143 rfl (inc1 _) (by decide) rfl ?_
                            refine g_goto B 88 dX7_play_146 (by decide) ?_
                            exact ihc hltc
                          · rw [bI_inj] at h133
                            refine g_iconst B (v := 1) dX7_play_136 (by decide) ?_
                            refine g_goto B 141 dX7_play_137 (by decide) ?_
                            refine g_eqi (bI ((wG n (canG (I 60) (I 61) (I 62)) (esF n (I 58) (fun c => I 58 (8 + c)) (I 58 25)) k i == (decide ((9 - k) % 2 = 0))) || anyF (fun c => canG (I 60) (I 61) (I 62) (9 - k) c i && (wG n (canG (I 60) (I 61) (I 62)) (esF n (I 58) (fun c => I 58 (8 + c)) (I 58 25)) k (i ||| 2 ^ c) == (decide ((9 - k) % 2 = 0)))) (c + 1))) (by rw [anyF]; exact ay_1 h99 (by simp [h110, h133])) ?_
                            refine g_ist4 B dX7_play_141 (by decide) rfl ?_
                            refine g_inc5 B dX7_play_143 rfl (inc1 _) (by decide) rfl ?_
                            refine g_goto B 88 dX7_play_146 (by decide) ?_
                            exact ihc hltc
                  rw [show (wG n (canG (I 60) (I 61) (I 62)) (esF n (I 58) (fun c => I 58 (8 + c)) (I 58 25)) k i == (decide ((9 - k) % 2 = 0))) = ((wG n (canG (I 60) (I 61) (I 62)) (esF n (I 58) (fun c => I 58 (8 + c)) (I 58 25)) k i == (decide ((9 - k) % 2 = 0))) || anyF (fun c => canG (I 60) (I 61) (I 62) (9 - k) c i && (wG n (canG (I 60) (I 61) (I 62)) (esF n (I 58) (fun c => I 58 (8 + c)) (I 58 25)) k (i ||| 2 ^ c) == (decide ((9 - k) % 2 = 0)))) 0) by rw [anyF, Bool.or_false]]
                  exact L88 0 (Nat.zero_le _)
              · refine g_iconst B (v := 1) dX7_play_54 (by decide) ?_
                refine g_goto B 59 dX7_play_55 (by decide) ?_
                refine g_eqi (bI (decide ((9 - k) % 2 = 0))) (by first | exact mv_b0 h51 | exact mv_b1 h51) ?_
                refine g_istn3 B dX7_play_59 (by decide) rfl ?_
                refine g_aload_n B dX7_play_60 rfl ?_
                refine g_getr B ci_X7 (by first | rfl | assumption) rfl (by decide) fl_X7_44 dX7_play_61 ?_
                refine g_sipush B (v := 256) dX7_play_64 (by decide) ?_
                refine g_iload_n B dX7_play_67 rfl ?_
                refine g_eqi (nI (9 - k)) (pk_sub (by omega)) ?_
                refine g_iconst B (v := 1) dX7_play_68 (by decide) ?_
                refine g_iadd B dX7_play_69 ?_
                refine g_imul B dX7_play_70 ?_
                refine g_iload_n B dX7_play_71 rfl ?_
                refine g_iadd B dX7_play_72 ?_
                refine g_eqi (nI (256 * (10 - k) + i)) (ix1 (by omega)) ?_
                refine g_zald B (by first | rfl | assumption) (256 * (10 - k) + i) rfl (by first | decide | omega | assumption) (by decide) dX7_play_73 ?_
                rw [hv2 k (Nat.le_refl k) i hlt]
                refine g_iload_n B dX7_play_74 rfl ?_
                refine g_icmp_ne B 82 dX7_play_75 (by decide) (fun h75 => ?_) (fun h75 => ?_)
                · rw [bI_inj] at h75
                  refine g_iconst B (v := 0) dX7_play_82 (by decide) ?_
                  refine g_eqi (bI (wG n (canG (I 60) (I 61) (I 62)) (esF n (I 58) (fun c => I 58 (8 + c)) (I 58 25)) k i == (decide ((9 - k) % 2 = 0)))) (by first | exact be_1 h75 | exact be_0 h75) ?_
                  refine g_ist4 B dX7_play_83 (by decide) rfl ?_
                  refine g_iconst B (v := 0) dX7_play_85 (by decide) ?_
                  refine g_ist5 B dX7_play_86 (by decide) rfl ?_
                  have L88 : ∀ c, c ≤ n → GW X 6 88 [some (.ref 57), some (.int (nI 9 - nI k)), some (.int (nI i)), some (.int (bI (decide ((9 - k) % 2 = 0)))), some (.int (bI ((wG n (canG (I 60) (I 61) (I 62)) (esF n (I 58) (fun c => I 58 (8 + c)) (I 58 25)) k i == (decide ((9 - k) % 2 = 0))) || anyF (fun c => canG (I 60) (I 61) (I 62) (9 - k) c i && (wG n (canG (I 60) (I 61) (I 62)) (esF n (I 58) (fun c => I 58 (8 + c)) (I 58 25)) k (i ||| 2 ^ c) == (decide ((9 - k) % 2 = 0)))) c))), some (.int (nI c))] [] V := by
                    refine loopN n (fun c hc ihc => ?_)
                    refine g_iload B dX7_play_88 rfl ?_
                    refine g_aload_n B dX7_play_90 rfl ?_
                    refine g_geti B ci_X7 (by first | rfl | assumption) rfl (by decide) fl_X7_72 dX7_play_91 ?_
                    rw [hn2]
                    refine g_icmp_ge B 149 dX7_play_94 (by decide) (fun h94 => ?_) (fun h94 => ?_)
                    · have hc2 : n = c := by have := le_le (a := n) (b := c) (by omega) (by omega) h94; omega
                      subst hc2
                      refine g_aload_n B dX7_play_149 rfl ?_
                      refine g_getr B ci_X7 (by first | rfl | assumption) rfl (by decide) fl_X7_44 dX7_play_150 ?_
                      refine g_sipush B (v := 256) dX7_play_153 (by decide) ?_
                      refine g_iload_n B dX7_play_156 rfl ?_
                      refine g_eqi (nI (9 - k)) (pk_sub (by omega)) ?_
                      refine g_imul B dX7_play_157 ?_
                      refine g_iload_n B dX7_play_158 rfl ?_
                      refine g_iadd B dX7_play_159 ?_
                      refine g_eqi (nI (256 * (9 - k) + i)) (by rw [show (256 : Int32) = nI 256 from rfl, pk_mul, nI_add]) ?_
                      refine g_iload B dX7_play_160 rfl ?_
                      refine g_iload_n B dX7_play_162 rfl ?_
                      refine g_icmp_ne B 170 dX7_play_163 (by decide) (fun h163 => ?_) (fun h163 => ?_)
                      · rw [bI_inj] at h163
                        refine g_iconst B (v := 0) dX7_play_170 (by decide) ?_
                        refine g_eqi (bI (wG n (canG (I 60) (I 61) (I 62)) (esF n (I 58) (fun c => I 58 (8 + c)) (I 58 25)) (k + 1) i)) (by rw [wG, stepG, mvG]; first | exact be_1 h163 | exact be_0 h163) ?_
                        refine g_zast B (by first | rfl | assumption) (256 * (9 - k) + i) rfl (by first | decide | omega | assumption) (by decide) dX7_play_171 ?_
                        refine g_inc2 B dX7_play_172 rfl (inc1 _) (by decide) rfl ?_
                        refine g_goto B 40 dX7_play_175 (by decide) ?_
                        refine ih hlt _ _ _ _ (fun k' hk' s hs => by rw [w2_slot _ _ (by omega)]; exact hv2 k' hk' s hs) (fun s h1 => ?_) (fun x y h => by rw [w2_cell _ _ h]; exact hV2 x y h)
                        by_cases hsi : s = i
                        · subst hsi
                          rw [w2_same, bI_vnar]
                        · rw [w2_slot _ _ (by omega)]; exact hk2 s (by omega)
                      · rw [bI_inj] at h163
                        refine g_iconst B (v := 1) dX7_play_166 (by decide) ?_
                        refine g_goto B 171 dX7_play_167 (by decide) ?_
                        refine g_eqi (bI (wG n (canG (I 60) (I 61) (I 62)) (esF n (I 58) (fun c => I 58 (8 + c)) (I 58 25)) (k + 1) i)) (by rw [wG, stepG, mvG]; first | exact be_1 h163 | exact be_0 h163) ?_
                        refine g_zast B (by first | rfl | assumption) (256 * (9 - k) + i) rfl (by first | decide | omega | assumption) (by decide) dX7_play_171 ?_
                        refine g_inc2 B dX7_play_172 rfl (inc1 _) (by decide) rfl ?_
                        refine g_goto B 40 dX7_play_175 (by decide) ?_
                        refine ih hlt _ _ _ _ (fun k' hk' s hs => by rw [w2_slot _ _ (by omega)]; exact hv2 k' hk' s hs) (fun s h1 => ?_) (fun x y h => by rw [w2_cell _ _ h]; exact hV2 x y h)
                        by_cases hsi : s = i
                        · subst hsi
                          rw [w2_same, bI_vnar]
                        · rw [w2_slot _ _ (by omega)]; exact hk2 s (by omega)
                    · have hltc : c < n := nle_lt (by omega) (by omega) h94
                      refine g_iload B dX7_play_97 rfl ?_
                      refine g_if_ne B 136 dX7_play_99 (by decide) (fun h99 => ?_) (fun h99 => ?_)
                      · rw [bI_ne0] at h99
                        refine g_iconst B (v := 1) dX7_play_136 (by decide) ?_
                        refine g_goto B 141 dX7_play_137 (by decide) ?_
                        refine g_eqi (bI ((wG n (canG (I 60) (I 61) (I 62)) (esF n (I 58) (fun c => I 58 (8 + c)) (I 58 25)) k i == (decide ((9 - k) % 2 = 0))) || anyF (fun c => canG (I 60) (I 61) (I 62) (9 - k) c i && (wG n (canG (I 60) (I 61) (I 62)) (esF n (I 58) (fun c => I 58 (8 + c)) (I 58 25)) k (i ||| 2 ^ c) == (decide ((9 - k) % 2 = 0)))) (c + 1))) (by rw [anyF]; exact ay_t h99) ?_
                        refine g_ist4 B dX7_play_141 (by decide) rfl ?_
                        refine g_inc5 B dX7_play_143 rfl (inc1 _) (by decide) rfl ?_
                        refine g_goto B 88 dX7_play_146 (by decide) ?_
                        exact ihc hltc
                      · rw [bI_eq0] at h99
                        refine g_aload_n B dX7_play_102 rfl ?_
                        refine g_iload B dX7_play_103 rfl ?_
                        refine g_iload_n B dX7_play_105 rfl ?_
                        refine g_eqi (nI (9 - k)) (pk_sub (by omega)) ?_
                        refine g_iload_n B dX7_play_106 rfl ?_
                        refine g_callVI B (ct_X7_canSay (I := V) (show c < 8 by omega) (show 9 - k ≤ 10 by omega)) (by first | rfl | assumption) rfl ml_X7_230 mm_X7_canSay rfl rfl (Nat.le_of_ble_eq_true rfl) dX7_play_107 (by decide) ?_
                        rintro _ _ ⟨rfl, rfl⟩
                        rw [show V 60 = I 60 from funext fun y => hV2 60 y (by decide), show V 61 = I 61 from funext fun y => hV2 61 y (by decide), show V 62 = I 62 from funext fun y => hV2 62 y (by decide)]
                        refine g_if_eq B 140 dX7_play_110 (by decide) (fun h110 => ?_) (fun h110 => ?_)
                        · rw [bI_eq0] at h110
                          refine g_iconst B (v := 0) dX7_play_140 (by decide) ?_
                          refine g_eqi (bI ((wG n (canG (I 60) (I 61) (I 62)) (esF n (I 58) (fun c => I 58 (8 + c)) (I 58 25)) k i == (decide ((9 - k) % 2 = 0))) || anyF (fun c => canG (I 60) (I 61) (I 62) (9 - k) c i && (wG n (canG (I 60) (I 61) (I 62)) (esF n (I 58) (fun c => I 58 (8 + c)) (I 58 25)) k (i ||| 2 ^ c) == (decide ((9 - k) % 2 = 0)))) (c + 1))) (by rw [anyF]; exact ay_f h99 (by simp [h110])) ?_
                          refine g_ist4 B dX7_play_141 (by decide) rfl ?_
                          refine g_inc5 B dX7_play_143 rfl (inc1 _) (by decide) rfl ?_
                          refine g_goto B 88 dX7_play_146 (by decide) ?_
                          exact ihc hltc
                        · rw [bI_ne0] at h110
                          refine g_aload_n B dX7_play_113 rfl ?_
                          refine g_getr B ci_X7 (by first | rfl | assumption) rfl (by decide) fl_X7_44 dX7_play_114 ?_
                          refine g_sipush B (v := 256) dX7_play_117 (by decide) ?_
                          refine g_iload_n B dX7_play_120 rfl ?_
                          refine g_eqi (nI (9 - k)) (pk_sub (by omega)) ?_
                          refine g_iconst B (v := 1) dX7_play_121 (by decide) ?_
                          refine g_iadd B dX7_play_122 ?_
                          refine g_imul B dX7_play_123 ?_
                          refine g_iload_n B dX7_play_124 rfl ?_
                          refine g_iconst B (v := 1) dX7_play_125 (by decide) ?_
                          refine g_iload B dX7_play_126 rfl ?_
                          refine g_ishl B dX7_play_128 ?_
                          refine g_ior B dX7_play_129 ?_
                          refine g_eqi (nI (i ||| 2 ^ c)) (by rw [shl1 (by omega), nI_or]) ?_
                          refine g_iadd B dX7_play_130 ?_
                          refine g_eqi (nI (256 * (10 - k) + (i ||| 2 ^ c))) (ix1 (by omega)) ?_
                          have hor := or_256 (show i < 256 by omega) (show c < 8 by omega)
                          refine g_zald B (by first | rfl | assumption) (256 * (10 - k) + (i ||| 2 ^ c)) rfl (by first | decide | omega | assumption) (by decide) dX7_play_131 ?_
                          rw [hv2 k (Nat.le_refl k) _ (or_2n hlt hltc)]
                          refine g_iload_n B dX7_play_132 rfl ?_
                          refine g_icmp_ne B 140 dX7_play_133 (by decide) (fun h133 => ?_) (fun h133 => ?_)
                          · rw [bI_inj] at h133
                            refine g_iconst B (v := 0) dX7_play_140 (by decide) ?_
                            refine g_eqi (bI ((wG n (canG (I 60) (I 61) (I 62)) (esF n (I 58) (fun c => I 58 (8 + c)) (I 58 25)) k i == (decide ((9 - k) % 2 = 0))) || anyF (fun c => canG (I 60) (I 61) (I 62) (9 - k) c i && (wG n (canG (I 60) (I 61) (I 62)) (esF n (I 58) (fun c => I 58 (8 + c)) (I 58 25)) k (i ||| 2 ^ c) == (decide ((9 - k) % 2 = 0)))) (c + 1))) (by rw [anyF]; exact ay_f h99 (by simp [h133])) ?_
                            refine g_ist4 B dX7_play_141 (by decide) rfl ?_
                            refine g_inc5 B dX7_play_143 rfl (inc1 _) (by decide) rfl ?_
                            refine g_goto B 88 dX7_play_146 (by decide) ?_
                            exact ihc hltc
                          · rw [bI_inj] at h133
                            refine g_iconst B (v := 1) dX7_play_136 (by decide) ?_
                            refine g_goto B 141 dX7_play_137 (by decide) ?_
                            refine g_eqi (bI ((wG n (canG (I 60) (I 61) (I 62)) (esF n (I 58) (fun c => I 58 (8 + c)) (I 58 25)) k i == (decide ((9 - k) % 2 = 0))) || anyF (fun c => canG (I 60) (I 61) (I 62) (9 - k) c i && (wG n (canG (I 60) (I 61) (I 62)) (esF n (I 58) (fun c => I 58 (8 + c)) (I 58 25)) k (i ||| 2 ^ c) == (decide ((9 - k) % 2 = 0)))) (c + 1))) (by rw [anyF]; exact ay_1 h99 (by simp [h110, h133])) ?_
                            refine g_ist4 B dX7_play_141 (by decide) rfl ?_
                            refine g_inc5 B dX7_play_143 rfl (inc1 _) (by decide) rfl ?_
                            refine g_goto B 88 dX7_play_146 (by decide) ?_
                            exact ihc hltc
                  rw [show (wG n (canG (I 60) (I 61) (I 62)) (esF n (I 58) (fun c => I 58 (8 + c)) (I 58 25)) k i == (decide ((9 - k) % 2 = 0))) = ((wG n (canG (I 60) (I 61) (I 62)) (esF n (I 58) (fun c => I 58 (8 + c)) (I 58 25)) k i == (decide ((9 - k) % 2 = 0))) || anyF (fun c => canG (I 60) (I 61) (I 62) (9 - k) c i && (wG n (canG (I 60) (I 61) (I 62)) (esF n (I 58) (fun c => I 58 (8 + c)) (I 58 25)) k (i ||| 2 ^ c) == (decide ((9 - k) % 2 = 0)))) 0) by rw [anyF, Bool.or_false]]
                  exact L88 0 (Nat.zero_le _)
                · rw [bI_inj] at h75
                  refine g_iconst B (v := 1) dX7_play_78 (by decide) ?_
                  refine g_goto B 83 dX7_play_79 (by decide) ?_
                  refine g_eqi (bI (wG n (canG (I 60) (I 61) (I 62)) (esF n (I 58) (fun c => I 58 (8 + c)) (I 58 25)) k i == (decide ((9 - k) % 2 = 0)))) (by first | exact be_1 h75 | exact be_0 h75) ?_
                  refine g_ist4 B dX7_play_83 (by decide) rfl ?_
                  refine g_iconst B (v := 0) dX7_play_85 (by decide) ?_
                  refine g_ist5 B dX7_play_86 (by decide) rfl ?_
                  have L88 : ∀ c, c ≤ n → GW X 6 88 [some (.ref 57), some (.int (nI 9 - nI k)), some (.int (nI i)), some (.int (bI (decide ((9 - k) % 2 = 0)))), some (.int (bI ((wG n (canG (I 60) (I 61) (I 62)) (esF n (I 58) (fun c => I 58 (8 + c)) (I 58 25)) k i == (decide ((9 - k) % 2 = 0))) || anyF (fun c => canG (I 60) (I 61) (I 62) (9 - k) c i && (wG n (canG (I 60) (I 61) (I 62)) (esF n (I 58) (fun c => I 58 (8 + c)) (I 58 25)) k (i ||| 2 ^ c) == (decide ((9 - k) % 2 = 0)))) c))), some (.int (nI c))] [] V := by
                    refine loopN n (fun c hc ihc => ?_)
                    refine g_iload B dX7_play_88 rfl ?_
                    refine g_aload_n B dX7_play_90 rfl ?_
                    refine g_geti B ci_X7 (by first | rfl | assumption) rfl (by decide) fl_X7_72 dX7_play_91 ?_
                    rw [hn2]
                    refine g_icmp_ge B 149 dX7_play_94 (by decide) (fun h94 => ?_) (fun h94 => ?_)
                    · have hc2 : n = c := by have := le_le (a := n) (b := c) (by omega) (by omega) h94; omega
                      subst hc2
                      refine g_aload_n B dX7_play_149 rfl ?_
                      refine g_getr B ci_X7 (by first | rfl | assumption) rfl (by decide) fl_X7_44 dX7_play_150 ?_
                      refine g_sipush B (v := 256) dX7_play_153 (by decide) ?_
                      refine g_iload_n B dX7_play_156 rfl ?_
                      refine g_eqi (nI (9 - k)) (pk_sub (by omega)) ?_
                      refine g_imul B dX7_play_157 ?_
                      refine g_iload_n B dX7_play_158 rfl ?_
                      refine g_iadd B dX7_play_159 ?_
                      refine g_eqi (nI (256 * (9 - k) + i)) (by rw [show (256 : Int32) = nI 256 from rfl, pk_mul, nI_add]) ?_
                      refine g_iload B dX7_play_160 rfl ?_
                      refine g_iload_n B dX7_play_162 rfl ?_
                      refine g_icmp_ne B 170 dX7_play_163 (by decide) (fun h163 => ?_) (fun h163 => ?_)
                      · rw [bI_inj] at h163
                        refine g_iconst B (v := 0) dX7_play_170 (by decide) ?_
                        refine g_eqi (bI (wG n (canG (I 60) (I 61) (I 62)) (esF n (I 58) (fun c => I 58 (8 + c)) (I 58 25)) (k + 1) i)) (by rw [wG, stepG, mvG]; first | exact be_1 h163 | exact be_0 h163) ?_
                        refine g_zast B (by first | rfl | assumption) (256 * (9 - k) + i) rfl (by first | decide | omega | assumption) (by decide) dX7_play_171 ?_
                        refine g_inc2 B dX7_play_172 rfl (inc1 _) (by decide) rfl ?_
                        refine g_goto B 40 dX7_play_175 (by decide) ?_
                        refine ih hlt _ _ _ _ (fun k' hk' s hs => by rw [w2_slot _ _ (by omega)]; exact hv2 k' hk' s hs) (fun s h1 => ?_) (fun x y h => by rw [w2_cell _ _ h]; exact hV2 x y h)
                        by_cases hsi : s = i
                        · subst hsi
                          rw [w2_same, bI_vnar]
                        · rw [w2_slot _ _ (by omega)]; exact hk2 s (by omega)
                      · rw [bI_inj] at h163
                        refine g_iconst B (v := 1) dX7_play_166 (by decide) ?_
                        refine g_goto B 171 dX7_play_167 (by decide) ?_
                        refine g_eqi (bI (wG n (canG (I 60) (I 61) (I 62)) (esF n (I 58) (fun c => I 58 (8 + c)) (I 58 25)) (k + 1) i)) (by rw [wG, stepG, mvG]; first | exact be_1 h163 | exact be_0 h163) ?_
                        refine g_zast B (by first | rfl | assumption) (256 * (9 - k) + i) rfl (by first | decide | omega | assumption) (by decide) dX7_play_171 ?_
                        refine g_inc2 B dX7_play_172 rfl (inc1 _) (by decide) rfl ?_
                        refine g_goto B 40 dX7_play_175 (by decide) ?_
                        refine ih hlt _ _ _ _ (fun k' hk' s hs => by rw [w2_slot _ _ (by omega)]; exact hv2 k' hk' s hs) (fun s h1 => ?_) (fun x y h => by rw [w2_cell _ _ h]; exact hV2 x y h)
                        by_cases hsi : s = i
                        · subst hsi
                          rw [w2_same, bI_vnar]
                        · rw [w2_slot _ _ (by omega)]; exact hk2 s (by omega)
                    · have hltc : c < n := nle_lt (by omega) (by omega) h94
                      refine g_iload B dX7_play_97 rfl ?_
                      refine g_if_ne B 136 dX7_play_99 (by decide) (fun h99 => ?_) (fun h99 => ?_)
                      · rw [bI_ne0] at h99
                        refine g_iconst B (v := 1) dX7_play_136 (by decide) ?_
                        refine g_goto B 141 dX7_play_137 (by decide) ?_
                        refine g_eqi (bI ((wG n (canG (I 60) (I 61) (I 62)) (esF n (I 58) (fun c => I 58 (8 + c)) (I 58 25)) k i == (decide ((9 - k) % 2 = 0))) || anyF (fun c => canG (I 60) (I 61) (I 62) (9 - k) c i && (wG n (canG (I 60) (I 61) (I 62)) (esF n (I 58) (fun c => I 58 (8 + c)) (I 58 25)) k (i ||| 2 ^ c) == (decide ((9 - k) % 2 = 0)))) (c + 1))) (by rw [anyF]; exact ay_t h99) ?_
                        refine g_ist4 B dX7_play_141 (by decide) rfl ?_
                        refine g_inc5 B dX7_play_143 rfl (inc1 _) (by decide) rfl ?_
                        refine g_goto B 88 dX7_play_146 (by decide) ?_
                        exact ihc hltc
                      · rw [bI_eq0] at h99
                        refine g_aload_n B dX7_play_102 rfl ?_
                        refine g_iload B dX7_play_103 rfl ?_
                        refine g_iload_n B dX7_play_105 rfl ?_
                        refine g_eqi (nI (9 - k)) (pk_sub (by omega)) ?_
                        refine g_iload_n B dX7_play_106 rfl ?_
                        refine g_callVI B (ct_X7_canSay (I := V) (show c < 8 by omega) (show 9 - k ≤ 10 by omega)) (by first | rfl | assumption) rfl ml_X7_230 mm_X7_canSay rfl rfl (Nat.le_of_ble_eq_true rfl) dX7_play_107 (by decide) ?_
                        rintro _ _ ⟨rfl, rfl⟩
                        rw [show V 60 = I 60 from funext fun y => hV2 60 y (by decide), show V 61 = I 61 from funext fun y => hV2 61 y (by decide), show V 62 = I 62 from funext fun y => hV2 62 y (by decide)]
                        refine g_if_eq B 140 dX7_play_110 (by decide) (fun h110 => ?_) (fun h110 => ?_)
                        · rw [bI_eq0] at h110
                          refine g_iconst B (v := 0) dX7_play_140 (by decide) ?_
                          refine g_eqi (bI ((wG n (canG (I 60) (I 61) (I 62)) (esF n (I 58) (fun c => I 58 (8 + c)) (I 58 25)) k i == (decide ((9 - k) % 2 = 0))) || anyF (fun c => canG (I 60) (I 61) (I 62) (9 - k) c i && (wG n (canG (I 60) (I 61) (I 62)) (esF n (I 58) (fun c => I 58 (8 + c)) (I 58 25)) k (i ||| 2 ^ c) == (decide ((9 - k) % 2 = 0)))) (c + 1))) (by rw [anyF]; exact ay_f h99 (by simp [h110])) ?_
                          refine g_ist4 B dX7_play_141 (by decide) rfl ?_
                          refine g_inc5 B dX7_play_143 rfl (inc1 _) (by decide) rfl ?_
                          refine g_goto B 88 dX7_play_146 (by decide) ?_
                          exact ihc hltc
                        · rw [bI_ne0] at h110
                          refine g_aload_n B dX7_play_113 rfl ?_
                          refine g_getr B ci_X7 (by first | rfl | assumption) rfl (by decide) fl_X7_44 dX7_play_114 ?_
                          refine g_sipush B (v := 256) dX7_play_117 (by decide) ?_
                          refine g_iload_n B dX7_play_120 rfl ?_
                          refine g_eqi (nI (9 - k)) (pk_sub (by omega)) ?_
                          refine g_iconst B (v := 1) dX7_play_121 (by decide) ?_
                          refine g_iadd B dX7_play_122 ?_
                          refine g_imul B dX7_play_123 ?_
                          refine g_iload_n B dX7_play_124 rfl ?_
                          refine g_iconst B (v := 1) dX7_play_125 (by decide) ?_
                          refine g_iload B dX7_play_126 rfl ?_
                          refine g_ishl B dX7_play_128 ?_
                          refine g_ior B dX7_play_129 ?_
                          refine g_eqi (nI (i ||| 2 ^ c)) (by rw [shl1 (by omega), nI_or]) ?_
                          refine g_iadd B dX7_play_130 ?_
                          refine g_eqi (nI (256 * (10 - k) + (i ||| 2 ^ c))) (ix1 (by omega)) ?_
                          have hor := or_256 (show i < 256 by omega) (show c < 8 by omega)
                          refine g_zald B (by first | rfl | assumption) (256 * (10 - k) + (i ||| 2 ^ c)) rfl (by first | decide | omega | assumption) (by decide) dX7_play_131 ?_
                          rw [hv2 k (Nat.le_refl k) _ (or_2n hlt hltc)]
                          refine g_iload_n B dX7_play_132 rfl ?_
                          refine g_icmp_ne B 140 dX7_play_133 (by decide) (fun h133 => ?_) (fun h133 => ?_)
                          · rw [bI_inj] at h133
                            refine g_iconst B (v := 0) dX7_play_140 (by decide) ?_
                            refine g_eqi (bI ((wG n (canG (I 60) (I 61) (I 62)) (esF n (I 58) (fun c => I 58 (8 + c)) (I 58 25)) k i == (decide ((9 - k) % 2 = 0))) || anyF (fun c => canG (I 60) (I 61) (I 62) (9 - k) c i && (wG n (canG (I 60) (I 61) (I 62)) (esF n (I 58) (fun c => I 58 (8 + c)) (I 58 25)) k (i ||| 2 ^ c) == (decide ((9 - k) % 2 = 0)))) (c + 1))) (by rw [anyF]; exact ay_f h99 (by simp [h133])) ?_
                            refine g_ist4 B dX7_play_141 (by decide) rfl ?_
                            refine g_inc5 B dX7_play_143 rfl (inc1 _) (by decide) rfl ?_
                            refine g_goto B 88 dX7_play_146 (by decide) ?_
                            exact ihc hltc
                          · rw [bI_inj] at h133
                            refine g_iconst B (v := 1) dX7_play_136 (by decide) ?_
                            refine g_goto B 141 dX7_play_137 (by decide) ?_
                            refine g_eqi (bI ((wG n (canG (I 60) (I 61) (I 62)) (esF n (I 58) (fun c => I 58 (8 + c)) (I 58 25)) k i == (decide ((9 - k) % 2 = 0))) || anyF (fun c => canG (I 60) (I 61) (I 62) (9 - k) c i && (wG n (canG (I 60) (I 61) (I 62)) (esF n (I 58) (fun c => I 58 (8 + c)) (I 58 25)) k (i ||| 2 ^ c) == (decide ((9 - k) % 2 = 0)))) (c + 1))) (by rw [anyF]; exact ay_1 h99 (by simp [h110, h133])) ?_
                            refine g_ist4 B dX7_play_141 (by decide) rfl ?_
                            refine g_inc5 B dX7_play_143 rfl (inc1 _) (by decide) rfl ?_
                            refine g_goto B 88 dX7_play_146 (by decide) ?_
                            exact ihc hltc
                  rw [show (wG n (canG (I 60) (I 61) (I 62)) (esF n (I 58) (fun c => I 58 (8 + c)) (I 58 25)) k i == (decide ((9 - k) % 2 = 0))) = ((wG n (canG (I 60) (I 61) (I 62)) (esF n (I 58) (fun c => I 58 (8 + c)) (I 58 25)) k i == (decide ((9 - k) % 2 = 0))) || anyF (fun c => canG (I 60) (I 61) (I 62) (9 - k) c i && (wG n (canG (I 60) (I 61) (I 62)) (esF n (I 58) (fun c => I 58 (8 + c)) (I 58 25)) k (i ||| 2 ^ c) == (decide ((9 - k) % 2 = 0)))) 0) by rw [anyF, Bool.or_false]]
                  exact L88 0 (Nat.zero_le _)
          exact L40 0 (Nat.zero_le _) _ _ _ _ hv (fun s h1 => absurd h1 (Nat.not_lt_zero s)) hV
      exact L34 0 (Nat.zero_le _) _ _ _ _ _ (fun k' hk' s hs => by rw [show k' = 0 by omega]; exact hk s hs) hV
    · have hlt : i < 2 ^ n := ev_in hn8 hi h7
      refine g_aload_n B dX7_play_10 rfl ?_
      refine g_getr B ci_X7 (by first | rfl | assumption) rfl (by decide) fl_X7_44 dX7_play_11 ?_
      refine g_sipush B (v := 2560) dX7_play_14 (by decide) ?_
      refine g_iload_n B dX7_play_17 rfl ?_
      refine g_iadd B dX7_play_18 ?_
      refine g_eqi (nI (2560 + i)) (lit_add _ _) ?_
      refine g_aload_n B dX7_play_19 rfl ?_
      refine g_iload_n B dX7_play_20 rfl ?_
      refine g_callVI B (ct_X7_endStands hn2 hn8 he2 _) (by first | rfl | assumption) rfl ml_X7_200 mm_X7_endStands rfl rfl (Nat.le_of_ble_eq_true rfl) dX7_play_21 (by decide) ?_
      rintro _ _ ⟨rfl, rfl⟩
      rw [show V 58 = I 58 from funext fun y => hV 58 y (by decide)]
      refine g_zast B (by first | rfl | assumption) (2560 + i) rfl (by first | decide | omega | assumption) (by decide) dX7_play_24 ?_
      refine g_inc1 B dX7_play_25 rfl (inc1 _) (by decide) rfl ?_
      refine g_goto B 2 dX7_play_28 (by decide) ?_
      refine ih hlt _ (fun s h1 => ?_) (fun x y h => by rw [w2_cell _ _ h]; exact hV x y h)
      by_cases hsi : s = i
      · subst hsi
        rw [w2_same, bI_vnar]; rfl
      · rw [w2_slot _ _ (by omega)]; exact hk s (by omega)
  exact L2 0 (Nat.zero_le _) _ (fun s h1 => absurd h1 (Nat.not_lt_zero s)) (fun _ _ _ => rfl)
set_option maxHeartbeats 4000000 in
set_option maxRecDepth 100000 in
theorem ct_X7_game {I : Wo} {n d sn : Nat} (hn : I 57 2 = nI n) (hn8 : n ≤ 8) (he : cOK n (I 58 25) = decide (0 < n)) (hdd : I 58 26 = nI d) (hd : d ≤ 9) (hsn : I 58 24 = nI sn) (hsn2 : sn < 2 ^ n) (what : Int32) : Ct yX7_game cX7_game 5 (some .int) 4 95 [.ref 57, .int what] I (pI (fun r u => r = (if wi what 0 1 then (if n = 0 then -2 else if what = 0 then bI (wG n (canG (I 60) (I 61) (I 62)) (esF n (I 58) (fun c => I 58 (8 + c)) (I 58 25)) (10 - d) sn) else (if wG n (canG (I 60) (I 61) (I 62)) (esF n (I 58) (fun c => I 58 (8 + c)) (I 58 25)) (9 - d) sn = (decide (d % 2 = 0)) then -4 else lwF (fun c => canG (I 60) (I 61) (I 62) d c sn && (wG n (canG (I 60) (I 61) (I 62)) (esF n (I 58) (fun c => I 58 (8 + c)) (I 58 25)) (9 - d) (sn ||| 2 ^ c) == (decide (d % 2 = 0)))) n)) else -1) ∧ ∀ x y, x ≠ 69 → u x y = I x y)) := by
  have h256 := pow8 hn8
  refine ct_of RX7 rfl (by decide) (Nat.le_of_ble_eq_true rfl) (fun X B E => ?_)
  show GW X 5 0 [some (.ref 57), some (.int what), none, none, none] [] _
  refine g_iload_n B dX7_game_0 rfl ?_
  refine g_callSI B (ct_X7_isPart _) ml_X7_196 mm_X7_isPart rfl rfl (Nat.le_of_ble_eq_true rfl) dX7_game_1 (by decide) ?_
  rintro _ _ ⟨rfl, rfl⟩
  refine g_if_ne B 9 dX7_game_4 (by decide) (fun h4 => ?_) (fun h4 => ?_)
  · rw [bI_ne0] at h4
    refine g_aload_n B dX7_game_9 rfl ?_
    refine g_geti B ci_X7 (by first | rfl | assumption) rfl (by decide) fl_X7_72 dX7_game_10 ?_
    refine g_if_ne B 19 dX7_game_13 (by decide) (fun h13 => ?_) (fun h13 => ?_)
    · have hz : ¬ n = 0 := fun q => h13 (by rw [hn, q]; rfl)
      refine g_aload_n B dX7_game_19 rfl ?_
      refine g_callVV B (ct_X7_play hn hn8 he) (by first | rfl | assumption) rfl ml_X7_233 mm_X7_play rfl rfl (Nat.le_of_ble_eq_true rfl) dX7_game_20 (by decide) ?_
      rintro u ⟨hv, hu⟩
      have hn2 : u 57 2 = nI n := by rw [hu 57 2 (by decide)]; exact hn
      refine g_aload_n B dX7_game_23 rfl ?_
      refine g_getr B ci_X7 (by first | rfl | assumption) rfl (by decide) fl_X7_7 dX7_game_24 ?_
      refine g_bipush B (v := 26) dX7_game_27 (by decide) ?_
      refine g_iald B (by first | rfl | assumption) 26 (lit_nI 26) (by first | decide | omega | assumption) (by decide) dX7_game_29 ?_
      rw [hu 58 26 (by decide), hdd]
      refine g_istn2 B dX7_game_30 (by decide) rfl ?_
      refine g_iload_n B dX7_game_31 rfl ?_
      refine g_iconst B (v := 2) dX7_game_32 (by decide) ?_
      refine g_irem B dX7_game_33 (by decide) ?_
      refine g_eqi (nI (d % 2)) (rem2 (by omega)) ?_
      refine g_if_ne B 41 dX7_game_34 (by decide) (fun h34 => ?_) (fun h34 => ?_)
      · refine g_iconst B (v := 0) dX7_game_41 (by decide) ?_
        refine g_eqi (bI (decide (d % 2 = 0))) (by first | exact mv_b0 h34 | exact mv_b1 h34) ?_
        refine g_istn3 B dX7_game_42 (by decide) rfl ?_
        refine g_iload_n B dX7_game_43 rfl ?_
        refine g_if_ne B 69 dX7_game_44 (by decide) (fun h44 => ?_) (fun h44 => ?_)
        · refine g_aload_n B dX7_game_69 rfl ?_
          refine g_getr B ci_X7 (by first | rfl | assumption) rfl (by decide) fl_X7_44 dX7_game_70 ?_
          refine g_sipush B (v := 256) dX7_game_73 (by decide) ?_
          refine g_iload_n B dX7_game_76 rfl ?_
          refine g_iconst B (v := 1) dX7_game_77 (by decide) ?_
          refine g_iadd B dX7_game_78 ?_
          refine g_imul B dX7_game_79 ?_
          refine g_aload_n B dX7_game_80 rfl ?_
          refine g_getr B ci_X7 (by first | rfl | assumption) rfl (by decide) fl_X7_7 dX7_game_81 ?_
          refine g_bipush B (v := 24) dX7_game_84 (by decide) ?_
          refine g_iald B (by first | rfl | assumption) 24 (lit_nI 24) (by first | decide | omega | assumption) (by decide) dX7_game_86 ?_
          rw [hu 58 24 (by decide), hsn]
          refine g_iadd B dX7_game_87 ?_
          refine g_eqi (nI (256 * (10 - (9 - d)) + sn)) (ix2 (by omega)) ?_
          refine g_zald B (by first | rfl | assumption) (256 * (10 - (9 - d)) + sn) rfl (by first | decide | omega | assumption) (by decide) dX7_game_88 ?_
          rw [hv (9 - d) (by omega) sn hsn2]
          refine g_iload_n B dX7_game_89 rfl ?_
          refine g_icmp_ne B 96 dX7_game_90 (by decide) (fun h90 => ?_) (fun h90 => ?_)
          · rw [bI_inj] at h90
            refine g_iconst B (v := 0) dX7_game_96 (by decide) ?_
            refine g_ist4 B dX7_game_97 (by decide) rfl ?_
            have L99 : ∀ i, i ≤ n → lwF (fun c => canG (I 60) (I 61) (I 62) d c sn && (wG n (canG (I 60) (I 61) (I 62)) (esF n (I 58) (fun c => I 58 (8 + c)) (I 58 25)) (9 - d) (sn ||| 2 ^ c) == (decide (d % 2 = 0)))) i = -4 → GW X 5 99 [some (.ref 57), some (.int what), some (.int (nI d)), some (.int (bI (decide (d % 2 = 0)))), some (.int (nI i))] [] u := by
              refine loopN (n) (fun i hi ih  hx => ?_)
              refine g_iload B dX7_game_99 rfl ?_
              refine g_aload_n B dX7_game_101 rfl ?_
              refine g_geti B ci_X7 (by first | rfl | assumption) rfl (by decide) fl_X7_72 dX7_game_102 ?_
              rw [hn2]
              refine g_icmp_ge B 163 dX7_game_105 (by decide) (fun h105 => ?_) (fun h105 => ?_)
              · have hi2 : i = n := by have := le_le (a := n) (b := i) (by omega) (by omega) h105; omega
                refine g_bipush B (v := (-4)) dX7_game_163 (by decide) ?_
                exact g_iret B E rfl dX7_game_165 ⟨by rw [hi2] at hx; rw [if_pos h4, if_neg hz, if_neg h44, if_neg h90, hx], hu⟩
              · have hlt : i < n := nle_lt (by omega) (by omega) h105
                refine g_aload_n B dX7_game_108 rfl ?_
                refine g_iload B dX7_game_109 rfl ?_
                refine g_iload_n B dX7_game_111 rfl ?_
                refine g_aload_n B dX7_game_112 rfl ?_
                refine g_getr B ci_X7 (by first | rfl | assumption) rfl (by decide) fl_X7_7 dX7_game_113 ?_
                refine g_bipush B (v := 24) dX7_game_116 (by decide) ?_
                refine g_iald B (by first | rfl | assumption) 24 (lit_nI 24) (by first | decide | omega | assumption) (by decide) dX7_game_118 ?_
                rw [hu 58 24 (by decide), hsn]
                refine g_callVI B (ct_X7_canSay (I := u) (show i < 8 by omega) (show d ≤ 10 by omega)) (by first | rfl | assumption) rfl ml_X7_230 mm_X7_canSay rfl rfl (Nat.le_of_ble_eq_true rfl) dX7_game_119 (by decide) ?_
                rintro _ _ ⟨rfl, rfl⟩
                rw [show u 60 = I 60 from funext fun y => hu 60 y (by decide), show u 61 = I 61 from funext fun y => hu 61 y (by decide), show u 62 = I 62 from funext fun y => hu 62 y (by decide)]
                refine g_if_eq B 157 dX7_game_122 (by decide) (fun h122 => ?_) (fun h122 => ?_)
                · rw [bI_eq0] at h122
                  refine g_inc4 B dX7_game_157 rfl (inc1 _) (by decide) rfl ?_
                  refine g_goto B 99 dX7_game_160 (by decide) ?_
                  exact ih hlt (lw_skip hx (by simp [h122]))
                · rw [bI_ne0] at h122
                  refine g_aload_n B dX7_game_125 rfl ?_
                  refine g_getr B ci_X7 (by first | rfl | assumption) rfl (by decide) fl_X7_44 dX7_game_126 ?_
                  refine g_sipush B (v := 256) dX7_game_129 (by decide) ?_
                  refine g_iload_n B dX7_game_132 rfl ?_
                  refine g_iconst B (v := 1) dX7_game_133 (by decide) ?_
                  refine g_iadd B dX7_game_134 ?_
                  refine g_imul B dX7_game_135 ?_
                  refine g_aload_n B dX7_game_136 rfl ?_
                  refine g_getr B ci_X7 (by first | rfl | assumption) rfl (by decide) fl_X7_7 dX7_game_137 ?_
                  refine g_bipush B (v := 24) dX7_game_140 (by decide) ?_
                  refine g_iald B (by first | rfl | assumption) 24 (lit_nI 24) (by first | decide | omega | assumption) (by decide) dX7_game_142 ?_
                  rw [hu 58 24 (by decide), hsn]
                  refine g_iconst B (v := 1) dX7_game_143 (by decide) ?_
                  refine g_iload B dX7_game_144 rfl ?_
                  refine g_ishl B dX7_game_146 ?_
                  refine g_ior B dX7_game_147 ?_
                  refine g_eqi (nI (sn ||| 2 ^ i)) (by rw [shl1 (by omega), nI_or]) ?_
                  refine g_iadd B dX7_game_148 ?_
                  refine g_eqi (nI (256 * (10 - (9 - d)) + (sn ||| 2 ^ i))) (ix2 (by omega)) ?_
                  have hor := or_256 (show sn < 256 by omega) (show i < 8 by omega)
                  refine g_zald B (by first | rfl | assumption) (256 * (10 - (9 - d)) + (sn ||| 2 ^ i)) rfl (by first | decide | omega | assumption) (by decide) dX7_game_149 ?_
                  rw [hv (9 - d) (by omega) _ (or_2n hsn2 hlt)]
                  refine g_iload_n B dX7_game_150 rfl ?_
                  refine g_icmp_ne B 157 dX7_game_151 (by decide) (fun h151 => ?_) (fun h151 => ?_)
                  · rw [bI_inj] at h151
                    refine g_inc4 B dX7_game_157 rfl (inc1 _) (by decide) rfl ?_
                    refine g_goto B 99 dX7_game_160 (by decide) ?_
                    exact ih hlt (lw_skip hx (by simp [h151]))
                  · rw [bI_inj] at h151
                    refine g_iload B dX7_game_154 rfl ?_
                    exact g_iret B E rfl dX7_game_156 ⟨by rw [if_pos h4, if_neg hz, if_neg h44, if_neg h90]; exact (lw_hit hx (by simp [h122, h151]) hlt hn8).symm, hu⟩
            exact L99 0 (Nat.zero_le _) rfl
          · rw [bI_inj] at h90
            refine g_bipush B (v := (-4)) dX7_game_93 (by decide) ?_
            exact g_iret B E rfl dX7_game_95 ⟨by rw [if_pos h4, if_neg hz, if_neg h44, if_pos h90], hu⟩
        · refine g_aload_n B dX7_game_47 rfl ?_
          refine g_getr B ci_X7 (by first | rfl | assumption) rfl (by decide) fl_X7_44 dX7_game_48 ?_
          refine g_sipush B (v := 256) dX7_game_51 (by decide) ?_
          refine g_iload_n B dX7_game_54 rfl ?_
          refine g_imul B dX7_game_55 ?_
          refine g_aload_n B dX7_game_56 rfl ?_
          refine g_getr B ci_X7 (by first | rfl | assumption) rfl (by decide) fl_X7_7 dX7_game_57 ?_
          refine g_bipush B (v := 24) dX7_game_60 (by decide) ?_
          refine g_iald B (by first | rfl | assumption) 24 (lit_nI 24) (by first | decide | omega | assumption) (by decide) dX7_game_62 ?_
          rw [hu 58 24 (by decide), hsn]
          refine g_iadd B dX7_game_63 ?_
          refine g_eqi (nI (256 * (10 - (10 - d)) + sn)) (by rw [show 10 - (10 - d) = d by omega, show (256 : Int32) = nI 256 from rfl, pk_mul, nI_add]) ?_
          refine g_zald B (by first | rfl | assumption) (256 * (10 - (10 - d)) + sn) rfl (by first | decide | omega | assumption) (by decide) dX7_game_64 ?_
          rw [hv (10 - d) (by omega) sn hsn2]
          refine g_callSI B (ct_X7_flag _) ml_X7_164 mm_X7_flag rfl rfl (Nat.le_of_ble_eq_true rfl) dX7_game_65 (by decide) ?_
          rintro _ _ ⟨rfl, rfl⟩
          exact g_iret B E rfl dX7_game_68 ⟨by rw [if_pos h4, if_neg hz, if_pos h44], hu⟩
      · refine g_iconst B (v := 1) dX7_game_37 (by decide) ?_
        refine g_goto B 42 dX7_game_38 (by decide) ?_
        refine g_eqi (bI (decide (d % 2 = 0))) (by first | exact mv_b0 h34 | exact mv_b1 h34) ?_
        refine g_istn3 B dX7_game_42 (by decide) rfl ?_
        refine g_iload_n B dX7_game_43 rfl ?_
        refine g_if_ne B 69 dX7_game_44 (by decide) (fun h44 => ?_) (fun h44 => ?_)
        · refine g_aload_n B dX7_game_69 rfl ?_
          refine g_getr B ci_X7 (by first | rfl | assumption) rfl (by decide) fl_X7_44 dX7_game_70 ?_
          refine g_sipush B (v := 256) dX7_game_73 (by decide) ?_
          refine g_iload_n B dX7_game_76 rfl ?_
          refine g_iconst B (v := 1) dX7_game_77 (by decide) ?_
          refine g_iadd B dX7_game_78 ?_
          refine g_imul B dX7_game_79 ?_
          refine g_aload_n B dX7_game_80 rfl ?_
          refine g_getr B ci_X7 (by first | rfl | assumption) rfl (by decide) fl_X7_7 dX7_game_81 ?_
          refine g_bipush B (v := 24) dX7_game_84 (by decide) ?_
          refine g_iald B (by first | rfl | assumption) 24 (lit_nI 24) (by first | decide | omega | assumption) (by decide) dX7_game_86 ?_
          rw [hu 58 24 (by decide), hsn]
          refine g_iadd B dX7_game_87 ?_
          refine g_eqi (nI (256 * (10 - (9 - d)) + sn)) (ix2 (by omega)) ?_
          refine g_zald B (by first | rfl | assumption) (256 * (10 - (9 - d)) + sn) rfl (by first | decide | omega | assumption) (by decide) dX7_game_88 ?_
          rw [hv (9 - d) (by omega) sn hsn2]
          refine g_iload_n B dX7_game_89 rfl ?_
          refine g_icmp_ne B 96 dX7_game_90 (by decide) (fun h90 => ?_) (fun h90 => ?_)
          · rw [bI_inj] at h90
            refine g_iconst B (v := 0) dX7_game_96 (by decide) ?_
            refine g_ist4 B dX7_game_97 (by decide) rfl ?_
            have L99 : ∀ i, i ≤ n → lwF (fun c => canG (I 60) (I 61) (I 62) d c sn && (wG n (canG (I 60) (I 61) (I 62)) (esF n (I 58) (fun c => I 58 (8 + c)) (I 58 25)) (9 - d) (sn ||| 2 ^ c) == (decide (d % 2 = 0)))) i = -4 → GW X 5 99 [some (.ref 57), some (.int what), some (.int (nI d)), some (.int (bI (decide (d % 2 = 0)))), some (.int (nI i))] [] u := by
              refine loopN (n) (fun i hi ih  hx => ?_)
              refine g_iload B dX7_game_99 rfl ?_
              refine g_aload_n B dX7_game_101 rfl ?_
              refine g_geti B ci_X7 (by first | rfl | assumption) rfl (by decide) fl_X7_72 dX7_game_102 ?_
              rw [hn2]
              refine g_icmp_ge B 163 dX7_game_105 (by decide) (fun h105 => ?_) (fun h105 => ?_)
              · have hi2 : i = n := by have := le_le (a := n) (b := i) (by omega) (by omega) h105; omega
                refine g_bipush B (v := (-4)) dX7_game_163 (by decide) ?_
                exact g_iret B E rfl dX7_game_165 ⟨by rw [hi2] at hx; rw [if_pos h4, if_neg hz, if_neg h44, if_neg h90, hx], hu⟩
              · have hlt : i < n := nle_lt (by omega) (by omega) h105
                refine g_aload_n B dX7_game_108 rfl ?_
                refine g_iload B dX7_game_109 rfl ?_
                refine g_iload_n B dX7_game_111 rfl ?_
                refine g_aload_n B dX7_game_112 rfl ?_
                refine g_getr B ci_X7 (by first | rfl | assumption) rfl (by decide) fl_X7_7 dX7_game_113 ?_
                refine g_bipush B (v := 24) dX7_game_116 (by decide) ?_
                refine g_iald B (by first | rfl | assumption) 24 (lit_nI 24) (by first | decide | omega | assumption) (by decide) dX7_game_118 ?_
                rw [hu 58 24 (by decide), hsn]
                refine g_callVI B (ct_X7_canSay (I := u) (show i < 8 by omega) (show d ≤ 10 by omega)) (by first | rfl | assumption) rfl ml_X7_230 mm_X7_canSay rfl rfl (Nat.le_of_ble_eq_true rfl) dX7_game_119 (by decide) ?_
                rintro _ _ ⟨rfl, rfl⟩
                rw [show u 60 = I 60 from funext fun y => hu 60 y (by decide), show u 61 = I 61 from funext fun y => hu 61 y (by decide), show u 62 = I 62 from funext fun y => hu 62 y (by decide)]
                refine g_if_eq B 157 dX7_game_122 (by decide) (fun h122 => ?_) (fun h122 => ?_)
                · rw [bI_eq0] at h122
                  refine g_inc4 B dX7_game_157 rfl (inc1 _) (by decide) rfl ?_
                  refine g_goto B 99 dX7_game_160 (by decide) ?_
                  exact ih hlt (lw_skip hx (by simp [h122]))
                · rw [bI_ne0] at h122
                  refine g_aload_n B dX7_game_125 rfl ?_
                  refine g_getr B ci_X7 (by first | rfl | assumption) rfl (by decide) fl_X7_44 dX7_game_126 ?_
                  refine g_sipush B (v := 256) dX7_game_129 (by decide) ?_
                  refine g_iload_n B dX7_game_132 rfl ?_
                  refine g_iconst B (v := 1) dX7_game_133 (by decide) ?_
                  refine g_iadd B dX7_game_134 ?_
                  refine g_imul B dX7_game_135 ?_
                  refine g_aload_n B dX7_game_136 rfl ?_
                  refine g_getr B ci_X7 (by first | rfl | assumption) rfl (by decide) fl_X7_7 dX7_game_137 ?_
                  refine g_bipush B (v := 24) dX7_game_140 (by decide) ?_
                  refine g_iald B (by first | rfl | assumption) 24 (lit_nI 24) (by first | decide | omega | assumption) (by decide) dX7_game_142 ?_
                  rw [hu 58 24 (by decide), hsn]
                  refine g_iconst B (v := 1) dX7_game_143 (by decide) ?_
                  refine g_iload B dX7_game_144 rfl ?_
                  refine g_ishl B dX7_game_146 ?_
                  refine g_ior B dX7_game_147 ?_
                  refine g_eqi (nI (sn ||| 2 ^ i)) (by rw [shl1 (by omega), nI_or]) ?_
                  refine g_iadd B dX7_game_148 ?_
                  refine g_eqi (nI (256 * (10 - (9 - d)) + (sn ||| 2 ^ i))) (ix2 (by omega)) ?_
                  have hor := or_256 (show sn < 256 by omega) (show i < 8 by omega)
                  refine g_zald B (by first | rfl | assumption) (256 * (10 - (9 - d)) + (sn ||| 2 ^ i)) rfl (by first | decide | omega | assumption) (by decide) dX7_game_149 ?_
                  rw [hv (9 - d) (by omega) _ (or_2n hsn2 hlt)]
                  refine g_iload_n B dX7_game_150 rfl ?_
                  refine g_icmp_ne B 157 dX7_game_151 (by decide) (fun h151 => ?_) (fun h151 => ?_)
                  · rw [bI_inj] at h151
                    refine g_inc4 B dX7_game_157 rfl (inc1 _) (by decide) rfl ?_
                    refine g_goto B 99 dX7_game_160 (by decide) ?_
                    exact ih hlt (lw_skip hx (by simp [h151]))
                  · rw [bI_inj] at h151
                    refine g_iload B dX7_game_154 rfl ?_
                    exact g_iret B E rfl dX7_game_156 ⟨by rw [if_pos h4, if_neg hz, if_neg h44, if_neg h90]; exact (lw_hit hx (by simp [h122, h151]) hlt hn8).symm, hu⟩
            exact L99 0 (Nat.zero_le _) rfl
          · rw [bI_inj] at h90
            refine g_bipush B (v := (-4)) dX7_game_93 (by decide) ?_
            exact g_iret B E rfl dX7_game_95 ⟨by rw [if_pos h4, if_neg hz, if_neg h44, if_pos h90], hu⟩
        · refine g_aload_n B dX7_game_47 rfl ?_
          refine g_getr B ci_X7 (by first | rfl | assumption) rfl (by decide) fl_X7_44 dX7_game_48 ?_
          refine g_sipush B (v := 256) dX7_game_51 (by decide) ?_
          refine g_iload_n B dX7_game_54 rfl ?_
          refine g_imul B dX7_game_55 ?_
          refine g_aload_n B dX7_game_56 rfl ?_
          refine g_getr B ci_X7 (by first | rfl | assumption) rfl (by decide) fl_X7_7 dX7_game_57 ?_
          refine g_bipush B (v := 24) dX7_game_60 (by decide) ?_
          refine g_iald B (by first | rfl | assumption) 24 (lit_nI 24) (by first | decide | omega | assumption) (by decide) dX7_game_62 ?_
          rw [hu 58 24 (by decide), hsn]
          refine g_iadd B dX7_game_63 ?_
          refine g_eqi (nI (256 * (10 - (10 - d)) + sn)) (by rw [show 10 - (10 - d) = d by omega, show (256 : Int32) = nI 256 from rfl, pk_mul, nI_add]) ?_
          refine g_zald B (by first | rfl | assumption) (256 * (10 - (10 - d)) + sn) rfl (by first | decide | omega | assumption) (by decide) dX7_game_64 ?_
          rw [hv (10 - d) (by omega) sn hsn2]
          refine g_callSI B (ct_X7_flag _) ml_X7_164 mm_X7_flag rfl rfl (Nat.le_of_ble_eq_true rfl) dX7_game_65 (by decide) ?_
          rintro _ _ ⟨rfl, rfl⟩
          exact g_iret B E rfl dX7_game_68 ⟨by rw [if_pos h4, if_neg hz, if_pos h44], hu⟩
    · have hz : n = 0 := (nI_eq (by omega) (by decide)).mp (by rw [← hn]; exact h13)
      refine g_bipush B (v := (-2)) dX7_game_16 (by decide) ?_
      exact g_iret B E rfl dX7_game_18 ⟨by rw [if_pos h4, if_pos hz], fun _ _ _ => rfl⟩
  · rw [bI_eq0] at h4
    refine g_iconst B (v := (-1)) dX7_game_7 (by decide) ?_
    exact g_iret B E rfl dX7_game_8 ⟨by simp [*], fun _ _ _ => rfl⟩
set_option maxHeartbeats 4000000 in
set_option maxRecDepth 100000 in
theorem ct_X7_days {I : Wo} {n sn : Nat} (hn : I 57 2 = nI n) (hn8 : n ≤ 8) (he : cOK n (I 58 25) = decide (0 < n)) (hsn : I 58 24 = nI sn) (hsn2 : sn < 2 ^ n) : Ct yX7_days cX7_days 3 (some .int) 4 95 [.ref 57] I (pI (fun r u => r = (if n = 0 then -2 else dyM (fun i => wG n (canG (I 60) (I 61) (I 62)) (esF n (I 58) (fun c => I 58 (8 + c)) (I 58 25)) (10 - i) sn) 10) ∧ ∀ x y, x ≠ 69 → u x y = I x y)) := by
  have h256 := pow8 hn8
  refine ct_of RX7 rfl (by decide) (Nat.le_of_ble_eq_true rfl) (fun X B E => ?_)
  show GW X 3 0 [some (.ref 57), none, none] [] _
  refine g_aload_n B dX7_days_0 rfl ?_
  refine g_geti B ci_X7 (by first | rfl | assumption) rfl (by decide) fl_X7_72 dX7_days_1 ?_
  refine g_if_ne B 10 dX7_days_4 (by decide) (fun h4 => ?_) (fun h4 => ?_)
  · have hz : ¬ n = 0 := fun q => h4 (by rw [hn, q]; rfl)
    refine g_aload_n B dX7_days_10 rfl ?_
    refine g_callVV B (ct_X7_play hn hn8 he) (by first | rfl | assumption) rfl ml_X7_233 mm_X7_play rfl rfl (Nat.le_of_ble_eq_true rfl) dX7_days_11 (by decide) ?_
    rintro u ⟨hv, hu⟩
    refine g_iconst B (v := 0) dX7_days_14 (by decide) ?_
    refine g_istn1 B dX7_days_15 (by decide) rfl ?_
    refine g_iconst B (v := 0) dX7_days_16 (by decide) ?_
    refine g_istn2 B dX7_days_17 (by decide) rfl ?_
    have L18 : ∀ i, i ≤ 10 → ∀ x, x = dyM (fun i => wG n (canG (I 60) (I 61) (I 62)) (esF n (I 58) (fun c => I 58 (8 + c)) (I 58 25)) (10 - i) sn) i → GW X 3 18 [some (.ref 57), some (.int x), some (.int (nI i))] [] u := by
      refine loopN (10) (fun i hi ih x hx => ?_)
      refine g_iload_n B dX7_days_18 rfl ?_
      refine g_bipush B (v := 9) dX7_days_19 (by decide) ?_
      refine g_icmp_gt B 56 dX7_days_21 (by decide) (fun h21 => ?_) (fun h21 => ?_)
      · have hi2 : i = 10 := by have := lt_lt (a := 9) (b := i) (by decide) (by omega) h21; omega
        refine g_iload_n B dX7_days_56 rfl ?_
        exact g_iret B E rfl dX7_days_57 ⟨by rw [if_neg hz, hx, hi2], hu⟩
      · have hlt : i < 10 := by have := not_lt_le (a := 9) (b := i) (by decide) (by omega) h21; omega
        refine g_iload_n B dX7_days_24 rfl ?_
        refine g_aload_n B dX7_days_25 rfl ?_
        refine g_getr B ci_X7 (by first | rfl | assumption) rfl (by decide) fl_X7_44 dX7_days_26 ?_
        refine g_sipush B (v := 256) dX7_days_29 (by decide) ?_
        refine g_iload_n B dX7_days_32 rfl ?_
        refine g_imul B dX7_days_33 ?_
        refine g_aload_n B dX7_days_34 rfl ?_
        refine g_getr B ci_X7 (by first | rfl | assumption) rfl (by decide) fl_X7_7 dX7_days_35 ?_
        refine g_bipush B (v := 24) dX7_days_38 (by decide) ?_
        refine g_iald B (by first | rfl | assumption) 24 (lit_nI 24) (by first | decide | omega | assumption) (by decide) dX7_days_40 ?_
        rw [hu 58 24 (by decide), hsn]
        refine g_iadd B dX7_days_41 ?_
        refine g_eqi (nI (256 * (10 - (10 - i)) + sn)) (by rw [show 10 - (10 - i) = i by omega, show (256 : Int32) = nI 256 from rfl, pk_mul, nI_add]) ?_
        refine g_zald B (by first | rfl | assumption) (256 * (10 - (10 - i)) + sn) rfl (by first | decide | omega | assumption) (by decide) dX7_days_42 ?_
        rw [hv (10 - i) (by omega) sn hsn2]
        refine g_callSI B (ct_X7_flag _) ml_X7_164 mm_X7_flag rfl rfl (Nat.le_of_ble_eq_true rfl) dX7_days_43 (by decide) ?_
        rintro _ _ ⟨rfl, rfl⟩
        refine g_iload_n B dX7_days_46 rfl ?_
        refine g_ishl B dX7_days_47 ?_
        refine g_ior B dX7_days_48 ?_
        refine g_istn1 B dX7_days_49 (by decide) rfl ?_
        refine g_inc2 B dX7_days_50 rfl (inc1 _) (by decide) rfl ?_
        refine g_goto B 18 dX7_days_53 (by decide) ?_
        exact ih hlt _ (by rw [hx, dyM])
    exact L18 0 (Nat.zero_le _) _ rfl
  · have hz : n = 0 := (nI_eq (by omega) (by decide)).mp (by rw [← hn]; exact h4)
    refine g_bipush B (v := (-2)) dX7_days_7 (by decide) ?_
    exact g_iret B E rfl dX7_days_9 ⟨by rw [if_pos hz], fun _ _ _ => rfl⟩

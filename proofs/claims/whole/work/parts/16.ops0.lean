theorem Ct.mono {y : MethodName} {b : ByteArray} {nL : Nat} {ret : Option FieldType} {fr lo : Nat} {As : List Value} {I : Wo} {post post' : Option Value → Wo → Prop} (h : Ct y b nL ret fr lo As I post) (hp : ∀ v u, post v u → post' v u) : Ct y b nL ret fr lo As I post' := by
  intro l D ad cy p e ha hc hk s m args below hf happ hP hK
  obtain ⟨k, o, h1, h2, h3, ⟨⟨v, u, q1, q2, q3⟩, q4⟩, q5⟩ := h l D ad cy p e ha hc hk s m args below hf happ hP hK
  exact ⟨k, o, h1, h2, h3, ⟨⟨v, u, q1, hp v u q2, q3⟩, q4⟩, q5⟩
theorem Ct.monoI {y : MethodName} {b : ByteArray} {nL : Nat} {ret : Option FieldType} {fr lo : Nat} {As : List Value} {I : Wo} {post post' : Int32 → Wo → Prop} (h : Ct y b nL ret fr lo As I (pI post)) (hp : ∀ r u, post r u → post' r u) : Ct y b nL ret fr lo As I (pI post') := h.mono (fun v u ⟨r, e, q⟩ => ⟨r, e, hp r u q⟩)
theorem Ct.monoL {y : MethodName} {b : ByteArray} {nL : Nat} {ret : Option FieldType} {fr lo : Nat} {As : List Value} {I : Wo} {post post' : Int64 → Wo → Prop} (h : Ct y b nL ret fr lo As I (pL post)) (hp : ∀ r u, post r u → post' r u) : Ct y b nL ret fr lo As I (pL post') := h.mono (fun v u ⟨r, e, q⟩ => ⟨r, e, hp r u q⟩)
/-- a call of the class and the same call of the reference: the same answer, and what ties them holds again -/
def OpI (y1 : MethodName) (b1 : ByteArray) (n1 f1 l1 : Nat) (y2 : MethodName) (b2 : ByteArray) (n2 f2 l2 : Nat) (As : List Value) (I : Wo) : Prop :=
  ∃ (rr : Int32) (U : Wo → Prop), Ct y1 b1 n1 (some .int) f1 l1 (.ref 0 :: As) I (pI fun r u => r = rr ∧ U u) ∧ ∀ u, U u → Ct y2 b2 n2 (some .int) f2 l2 (.ref 57 :: As) u (pI fun r u' => r = rr ∧ Inv u')
def OpL (y1 : MethodName) (b1 : ByteArray) (n1 f1 l1 : Nat) (y2 : MethodName) (b2 : ByteArray) (n2 f2 l2 : Nat) (As : List Value) (I : Wo) : Prop :=
  ∃ (rr : Int64) (U : Wo → Prop), Ct y1 b1 n1 (some .long) f1 l1 (.ref 0 :: As) I (pL fun r u => r = rr ∧ U u) ∧ ∀ u, U u → Ct y2 b2 n2 (some .long) f2 l2 (.ref 57 :: As) u (pL fun r u' => r = rr ∧ Inv u')

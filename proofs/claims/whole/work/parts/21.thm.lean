/-! contracts over the typed heap -/
def th_P (cs : Nat → ClassId) (P : Option Value → th_S → Prop) : Option Value → mw_G → Prop := fun v g' => ∃ h', g' = th_g cs h' ∧ P v h'
def th_X (cs : Nat → ClassId) (X : String → th_S → Prop) : String → mw_G → Prop := fun E g' => ∃ h', g' = th_g cs h' ∧ X E h'
theorem th_cd : ∀ w ∈ th_nw, mw_cd w = true := by decide +kernel
def th_M (l : Launch) (y : MethodName) (ws : List Cond) (rm : Room) (D : va_G) (cs : Nat → ClassId) (h : th_S) (sz : Nat) (av : List Value) (P : Option Value → th_S → Prop) (X : String → th_S → Prop) : Prop :=
  mw_Met l y ws rm D vwC5 (th_tys cs) th_sx th_nw (th_g cs h) sz av (th_P cs P) (th_X cs X)
def th_MI (l : Launch) (y : MethodName) (ws : List Cond) (rm : Room) (D : va_G) (cs : Nat → ClassId) (h : th_S) (sz : Nat) (av : List Value) (P : Option Value → th_S → Prop) : Prop :=
  mw_MetI l y ws rm D vwC5 (th_tys cs) th_sx th_nw (th_g cs h) sz av (th_P cs P)
abbrev th_C (D : va_G) (cs : Nat → ClassId) (h0 : th_S) (p : Program) (m : MethodId) (c : Code) (cc : ByteArray) (nL : Nat) (s : State) (av : List Value) (own : String) : Prop :=
  mx D vwC5 (th_tys cs) th_sx th_nw (mw_A (th_g cs h0) s.heap.size) p m c cc nL s av.toArray TB own
abbrev th_H (D : va_G) (cs : Nat → ClassId) (h0 : th_S) (s : State) (h : th_S) (H : Heap) (locs : List Loc) : Prop :=
  mw D vwC5 (mw_A (th_g cs h0) s.heap.size) s.heap (th_g cs h) H locs
abbrev th_Q (below : List Frame) (D : va_G) (cs : Nat → ClassId) (h0 : th_S) (s : State) (av : List Value) (P : Option Value → th_S → Prop) (X : String → th_S → Prop) (mc ms : Nat) : State → Prop :=
  vx_MQ below (mw_Qc D vwC5 (th_g cs h0) s.heap.size (th_P cs P)) (mw_Xc D vwC5 (th_g cs h0) s.heap.size (th_X cs X)) av.toArray s mc ms (mw_A (th_g cs h0) s.heap.size)
abbrev th_QI (below : List Frame) (D : va_G) (cs : Nat → ClassId) (h0 : th_S) (s : State) (av : List Value) (P : Option Value → th_S → Prop) (mc ms : Nat) : State → Prop :=
  MQ below (mw_Qc D vwC5 (th_g cs h0) s.heap.size (th_P cs P)) av.toArray s mc ms (mw_A (th_g cs h0) s.heap.size)
theorem th_un_self (h : th_S) (q : Nat) (t : Nat × Nat) : (th_un h q t).1 q = some t := by simp [th_un, va_up]
theorem th_un_k {h : th_S} {q b : Nat} {t t' : Nat × Nat} (hn : h.1 q = none) (hb : h.1 b = some t') : (th_un h q t).1 b = some t' := by
  have hne : b ≠ q := fun e => by rw [e, hn] at hb; cases hb
  simp [th_un, va_up, hne, hb]
theorem th_un_ne {h : th_S} {q b : Nat} {t : Nat × Nat} (hne : b ≠ q) : (th_un h q t).1 b = h.1 b := by simp [th_un, va_up, hne]
theorem th_un_i {h : th_S} {q b j : Nat} {t : Nat × Nat} (hne : b ≠ q) : (th_un h q t).2.1 b j = h.2.1 b j := by simp [th_un, va_up, hne]
theorem th_un_r {h : th_S} {q b j : Nat} {t : Nat × Nat} (hne : b ≠ q) : (th_un h q t).2.2 b j = h.2.2 b j := by simp [th_un, va_up, hne]
theorem th_kne {h : th_S} {a b : Nat} {t t' : Nat × Nat} (ha : h.1 a = some t) (hb : h.1 b = some t') (ht : t ≠ t') : a ≠ b := fun e => ht (by rw [e, hb] at ha; exact (Option.some.inj ha).symm)
theorem th_ui_s (h : th_S) (a k : Nat) (v : Int32) : (th_ui h a k v).2.1 a k = v := by simp [th_ui, va_up]
theorem th_ui_k (h : th_S) (a : Nat) {k j : Nat} (v : Int32) (hj : j ≠ k) : (th_ui h a k v).2.1 a j = h.2.1 a j := by simp [th_ui, va_up, hj]
theorem th_ui_n (h : th_S) {a b : Nat} (k j : Nat) (v : Int32) (hb : b ≠ a) : (th_ui h a k v).2.1 b j = h.2.1 b j := by simp [th_ui, va_up, hb]
theorem th_ur_s (h : th_S) (a k : Nat) (v : Option Nat) : (th_ur h a k v).2.2 a k = v := by simp [th_ur, va_up]
theorem th_ur_k (h : th_S) (a : Nat) {k j : Nat} (v : Option Nat) (hj : j ≠ k) : (th_ur h a k v).2.2 a j = h.2.2 a j := by simp [th_ur, va_up, hj]
theorem th_ur_n (h : th_S) {a b : Nat} (k j : Nat) (v : Option Nat) (hb : b ≠ a) : (th_ur h a k v).2.2 b j = h.2.2 b j := by simp [th_ur, va_up, hb]
theorem tg_67 : ∀ w ∈ (vx_atS RX3 67 "java/lang/IllegalStateException" ["java/lang/RuntimeException", "java/lang/Exception"]).filter goodWord, w ∈ TB := by decide +kernel
theorem tn_67 : ∀ w ∈ (vx_atS RX3 67 "java/lang/IllegalStateException" ["java/lang/RuntimeException", "java/lang/Exception"]).filter (fun w => !goodWord w), w ∈ th_nw := by decide +kernel
theorem to_67 : ∀ w ∈ Cond.classLink RX3 63 "java/lang/IllegalStateException" :: Cond.initialized "java/lang/IllegalStateException" :: vx_atS RX3 67 "java/lang/IllegalStateException" ["java/lang/RuntimeException", "java/lang/Exception"], vx_ot w = true := by decide +kernel
theorem tg_54 : ∀ w ∈ (vx_atS RX3 54 "java/lang/IllegalArgumentException" ["java/lang/RuntimeException", "java/lang/Exception"]).filter goodWord, w ∈ TB := by decide +kernel
theorem tn_54 : ∀ w ∈ (vx_atS RX3 54 "java/lang/IllegalArgumentException" ["java/lang/RuntimeException", "java/lang/Exception"]).filter (fun w => !goodWord w), w ∈ th_nw := by decide +kernel
theorem to_54 : ∀ w ∈ Cond.classLink RX3 50 "java/lang/IllegalArgumentException" :: Cond.initialized "java/lang/IllegalArgumentException" :: vx_atS RX3 54 "java/lang/IllegalArgumentException" ["java/lang/RuntimeException", "java/lang/Exception"], vx_ot w = true := by decide +kernel
theorem tg_191 : ∀ w ∈ (vx_atS RX3 191 "java/lang/IndexOutOfBoundsException" ["java/lang/RuntimeException", "java/lang/Exception"]).filter goodWord, w ∈ TB := by decide +kernel
theorem tn_191 : ∀ w ∈ (vx_atS RX3 191 "java/lang/IndexOutOfBoundsException" ["java/lang/RuntimeException", "java/lang/Exception"]).filter (fun w => !goodWord w), w ∈ th_nw := by decide +kernel
theorem to_191 : ∀ w ∈ Cond.classLink RX3 187 "java/lang/IndexOutOfBoundsException" :: Cond.initialized "java/lang/IndexOutOfBoundsException" :: vx_atS RX3 191 "java/lang/IndexOutOfBoundsException" ["java/lang/RuntimeException", "java/lang/Exception"], vx_ot w = true := by decide +kernel
theorem tg_204 : ∀ w ∈ (vx_atS RX3 204 "java/lang/UnsupportedOperationException" ["java/lang/RuntimeException", "java/lang/Exception"]).filter goodWord, w ∈ TB := by decide +kernel
theorem tn_204 : ∀ w ∈ (vx_atS RX3 204 "java/lang/UnsupportedOperationException" ["java/lang/RuntimeException", "java/lang/Exception"]).filter (fun w => !goodWord w), w ∈ th_nw := by decide +kernel
theorem to_204 : ∀ w ∈ Cond.classLink RX3 200 "java/lang/UnsupportedOperationException" :: Cond.initialized "java/lang/UnsupportedOperationException" :: vx_atS RX3 204 "java/lang/UnsupportedOperationException" ["java/lang/RuntimeException", "java/lang/Exception"], vx_ot w = true := by decide +kernel
theorem tg_119 : ∀ w ∈ (vx_atS RX3 119 "java/lang/ArithmeticException" ["java/lang/RuntimeException", "java/lang/Exception"]).filter goodWord, w ∈ TB := by decide +kernel
theorem tn_119 : ∀ w ∈ (vx_atS RX3 119 "java/lang/ArithmeticException" ["java/lang/RuntimeException", "java/lang/Exception"]).filter (fun w => !goodWord w), w ∈ th_nw := by decide +kernel
theorem to_119 : ∀ w ∈ Cond.classLink RX3 115 "java/lang/ArithmeticException" :: Cond.initialized "java/lang/ArithmeticException" :: vx_atS RX3 119 "java/lang/ArithmeticException" ["java/lang/RuntimeException", "java/lang/Exception"], vx_ot w = true := by decide +kernel
theorem tg_166 : ∀ w ∈ (nx_at RX3 166 "java/util/NoSuchElementException" "java/lang/RuntimeException" ["java/lang/Exception"]).filter goodWord, w ∈ TB := by decide +kernel
theorem tn_166 : ∀ w ∈ (nx_at RX3 166 "java/util/NoSuchElementException" "java/lang/RuntimeException" ["java/lang/Exception"]).filter (fun w => !goodWord w), w ∈ th_nw := by decide +kernel
theorem to_166 : ∀ w ∈ Cond.classLink RX3 162 "java/util/NoSuchElementException" :: Cond.initialized "java/util/NoSuchElementException" :: nx_at RX3 166 "java/util/NoSuchElementException" "java/lang/RuntimeException" ["java/lang/Exception"], vx_ot w = true := by decide +kernel

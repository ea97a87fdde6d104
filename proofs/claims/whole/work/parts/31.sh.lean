/-! what a StableHeap is: its cells by kinds -/
def sh_K (x aR aO aH aT : Nat) (rt ta : Nat → Nat) (h : th_S) : Prop :=
  (h.1 x = some (0, 0) ∧ h.2.2 x 0 = some aR ∧ h.2.2 x 1 = some aO ∧ h.2.2 x 2 = some aH ∧ h.2.2 x 3 = some aT) ∧
  (h.1 aR = some (4, 4) ∧ h.1 aO = some (4, 80) ∧ h.1 aH = some (4, 80) ∧ h.1 aT = some (5, 3)) ∧
  (aR ≠ aO ∧ aR ≠ aH ∧ aO ≠ aH) ∧
  (∀ i, i < 4 → h.2.2 aR i = some (rt i) ∧ h.1 (rt i) = some (2, 0)) ∧
  (∀ i, i < 3 → h.2.2 aT i = some (ta i) ∧ h.1 (ta i) = some (1, 0)) ∧
  (∀ i j, i < 3 → j < 3 → ta i = ta j → i = j) ∧
  (∀ a, h.1 a = some (2, 0) → ∃ pa n, h.2.2 a 1 = some pa ∧ h.1 pa = some (6, n) ∧ n ≤ 4) ∧
  (∀ pa n, h.1 pa = some (6, n) → ∀ j, j < n → ∃ q, h.2.2 pa j = some q ∧ h.1 q = some (3, 0)) ∧
  (∀ i, i < 4 → ∃ pa, h.2.2 (rt i) 1 = some pa ∧ h.1 pa = some (6, 1)) ∧
  (∀ q, h.1 q = some (3, 0) → (h.2.1 q 0 = 0 ∨ h.2.1 q 0 = 1) ∧ (h.2.1 q 3 = 0 ∨ h.2.1 q 3 = 1) ∧ (h.2.1 q 4 = 0 ∨ h.2.1 q 4 = 1) ∧ (∀ b, h.2.2 q 2 = some b → h.1 b = some (2, 0)) ∧ (∀ b, h.2.2 q 6 = some b → h.1 b = some (2, 0)))
/-- the n objects that are there -/
def sh_O (x aO n : Nat) (h : th_S) : Prop := n ≤ 80 ∧ h.2.1 x 4 = nI n ∧ ∀ i, i < n → ∃ a, h.2.2 aO i = some a ∧ h.1 a = some (2, 0)
section SHK
variable {x aR aO aH aT : Nat} {rt ta : Nat → Nat} {h : th_S}
theorem sh_K.kx (k : sh_K x aR aO aH aT rt ta h) : h.1 x = some (0, 0) := k.1.1
theorem sh_K.xR (k : sh_K x aR aO aH aT rt ta h) : h.2.2 x 0 = some aR := k.1.2.1
theorem sh_K.xO (k : sh_K x aR aO aH aT rt ta h) : h.2.2 x 1 = some aO := k.1.2.2.1
theorem sh_K.xH (k : sh_K x aR aO aH aT rt ta h) : h.2.2 x 2 = some aH := k.1.2.2.2.1
theorem sh_K.xT (k : sh_K x aR aO aH aT rt ta h) : h.2.2 x 3 = some aT := k.1.2.2.2.2
theorem sh_K.kR (k : sh_K x aR aO aH aT rt ta h) : h.1 aR = some (4, 4) := k.2.1.1
theorem sh_K.kO (k : sh_K x aR aO aH aT rt ta h) : h.1 aO = some (4, 80) := k.2.1.2.1
theorem sh_K.kH (k : sh_K x aR aO aH aT rt ta h) : h.1 aH = some (4, 80) := k.2.1.2.2.1
theorem sh_K.kT (k : sh_K x aR aO aH aT rt ta h) : h.1 aT = some (5, 3) := k.2.1.2.2.2
theorem sh_K.rr (k : sh_K x aR aO aH aT rt ta h) {i : Nat} (hi : i < 4) : h.2.2 aR i = some (rt i) := (k.2.2.2.1 i hi).1
theorem sh_K.krt (k : sh_K x aR aO aH aT rt ta h) {i : Nat} (hi : i < 4) : h.1 (rt i) = some (2, 0) := (k.2.2.2.1 i hi).2
theorem sh_K.rta (k : sh_K x aR aO aH aT rt ta h) {i : Nat} (hi : i < 3) : h.2.2 aT i = some (ta i) := (k.2.2.2.2.1 i hi).1
theorem sh_K.kta (k : sh_K x aR aO aH aT rt ta h) {i : Nat} (hi : i < 3) : h.1 (ta i) = some (1, 0) := (k.2.2.2.2.1 i hi).2
theorem sh_K.lk (k : sh_K x aR aO aH aT rt ta h) {a : Nat} (ha : h.1 a = some (2, 0)) : ∃ pa n, h.2.2 a 1 = some pa ∧ h.1 pa = some (6, n) ∧ n ≤ 4 := k.2.2.2.2.2.2.1 a ha
theorem sh_K.pa (k : sh_K x aR aO aH aT rt ta h) {pa n j : Nat} (ha : h.1 pa = some (6, n)) (hj : j < n) : ∃ q, h.2.2 pa j = some q ∧ h.1 q = some (3, 0) := k.2.2.2.2.2.2.2.1 pa n ha j hj
theorem sh_K.r1 (k : sh_K x aR aO aH aT rt ta h) {i : Nat} (hi : i < 4) : ∃ pa, h.2.2 (rt i) 1 = some pa ∧ h.1 pa = some (6, 1) := k.2.2.2.2.2.2.2.2.1 i hi
theorem sh_K.pl (k : sh_K x aR aO aH aT rt ta h) {q : Nat} (hq : h.1 q = some (3, 0)) : (h.2.1 q 0 = 0 ∨ h.2.1 q 0 = 1) ∧ (h.2.1 q 3 = 0 ∨ h.2.1 q 3 = 1) ∧ (h.2.1 q 4 = 0 ∨ h.2.1 q 4 = 1) ∧ (∀ b, h.2.2 q 2 = some b → h.1 b = some (2, 0)) ∧ (∀ b, h.2.2 q 6 = some b → h.1 b = some (2, 0)) := k.2.2.2.2.2.2.2.2.2 q hq
/-- an int is put -/
theorem sh_K.ui (k : sh_K x aR aO aH aT rt ta h) {a j : Nat} {v : Int32} (hp : h.1 a = some (3, 0) → j = 0 ∨ j = 3 ∨ j = 4 → v = 0 ∨ v = 1) : sh_K x aR aO aH aT rt ta (th_ui h a j v) := by
  refine ⟨k.1, k.2.1, k.2.2.1, k.2.2.2.1, k.2.2.2.2.1, k.2.2.2.2.2.1, k.2.2.2.2.2.2.1, k.2.2.2.2.2.2.2.1, k.2.2.2.2.2.2.2.2.1, fun q hq => ?_⟩
  obtain ⟨h0, h3, h4, h5, h6⟩ := k.pl hq
  have key : ∀ i, i = 0 ∨ i = 3 ∨ i = 4 → (h.2.1 q i = 0 ∨ h.2.1 q i = 1) → ((th_ui h a j v).2.1 q i = 0 ∨ (th_ui h a j v).2.1 q i = 1) := by
    intro i hi hv
    by_cases hqa : q = a
    · subst hqa
      by_cases hij : i = j
      · subst hij
        rw [th_ui_s]
        exact hp hq hi
      · rw [th_ui_k _ _ _ hij]
        exact hv
    · rw [th_ui_n _ _ _ _ hqa]
      exact hv
  exact ⟨key 0 (Or.inl rfl) h0, key 3 (Or.inr (Or.inl rfl)) h3, key 4 (Or.inr (Or.inr rfl)) h4, h5, h6⟩
/-- a reference of a place is put -/
theorem sh_K.urP (k : sh_K x aR aO aH aT rt ta h) {a j : Nat} {v : Option Nat} (ha : h.1 a = some (3, 0)) (hv : ∀ b, v = some b → h.1 b = some (2, 0)) : sh_K x aR aO aH aT rt ta (th_ur h a j v) := by
  have ne : ∀ {b : Nat} {t : Nat × Nat}, h.1 b = some t → t ≠ (3, 0) → ∀ i, (th_ur h a j v).2.2 b i = h.2.2 b i := fun hb ht i => th_ur_n _ _ _ _ (th_kne hb ha ht)
  refine ⟨⟨k.kx, ?_, ?_, ?_, ?_⟩, k.2.1, k.2.2.1, fun i hi => ⟨?_, k.krt hi⟩, fun i hi => ⟨?_, k.kta hi⟩, k.2.2.2.2.2.1, fun b hb => ?_, fun pa n hn i hi => ?_, fun i hi => ?_, fun q hq => ?_⟩
  · rw [ne k.kx (by decide)]; exact k.xR
  · rw [ne k.kx (by decide)]; exact k.xO
  · rw [ne k.kx (by decide)]; exact k.xH
  · rw [ne k.kx (by decide)]; exact k.xT
  · rw [ne k.kR (by decide)]; exact k.rr hi
  · rw [ne k.kT (by decide)]; exact k.rta hi
  · rw [ne hb (by decide)]; exact k.lk hb
  · rw [ne hn (by simp)]; exact k.pa hn hi
  · rw [ne (k.krt hi) (by decide)]; exact k.r1 hi
  · obtain ⟨h0, h3, h4, h5, h6⟩ := k.pl hq
    have key : ∀ i, (∀ b, h.2.2 q i = some b → h.1 b = some (2, 0)) → ∀ b, (th_ur h a j v).2.2 q i = some b → h.1 b = some (2, 0) := by
      intro i hi b hb
      by_cases hqa : q = a
      · subst hqa
        by_cases hij : i = j
        · subst hij
          rw [th_ur_s] at hb
          exact hv b hb
        · rw [th_ur_k _ _ _ hij] at hb
          exact hi b hb
      · rw [th_ur_n _ _ _ _ hqa] at hb
        exact hi b hb
    exact ⟨h0, h3, h4, key 2 h5, key 6 h6⟩
/-- an entry of the rows of objects is put -/
theorem sh_K.urA (k : sh_K x aR aO aH aT rt ta h) {a j : Nat} {v : Option Nat} (ha : a = aO ∨ a = aH) : sh_K x aR aO aH aT rt ta (th_ur h a j v) := by
  have ka : h.1 a = some (4, 80) := ha.elim (fun e => by rw [e]; exact k.kO) (fun e => by rw [e]; exact k.kH)
  have ne : ∀ {b : Nat} {t : Nat × Nat}, h.1 b = some t → t ≠ (4, 80) → ∀ i, (th_ur h a j v).2.2 b i = h.2.2 b i := fun hb ht i => th_ur_n _ _ _ _ (th_kne hb ka ht)
  refine ⟨⟨k.kx, ?_, ?_, ?_, ?_⟩, k.2.1, k.2.2.1, fun i hi => ⟨?_, k.krt hi⟩, fun i hi => ⟨?_, k.kta hi⟩, k.2.2.2.2.2.1, fun b hb => ?_, fun pa n hn i hi => ?_, fun i hi => ?_, fun q hq => ?_⟩
  · rw [ne k.kx (by decide)]; exact k.xR
  · rw [ne k.kx (by decide)]; exact k.xO
  · rw [ne k.kx (by decide)]; exact k.xH
  · rw [ne k.kx (by decide)]; exact k.xT
  · have hRa : aR ≠ a := ha.elim (fun e => by rw [e]; exact k.2.2.1.1) (fun e => by rw [e]; exact k.2.2.1.2.1)
    rw [th_ur_n _ _ _ _ hRa]; exact k.rr hi
  · rw [ne k.kT (by decide)]; exact k.rta hi
  · rw [ne hb (by decide)]; exact k.lk hb
  · rw [ne hn (by simp)]; exact k.pa hn hi
  · rw [ne (k.krt hi) (by decide)]; exact k.r1 hi
  · rw [ne hq (by decide), ne hq (by decide)]; exact k.pl hq
/-- an object has no more than the rows: it isn't of another kind -/
theorem sh_O.at {n i : Nat} (o : sh_O x aO n h) (hi : i < n) : ∃ a, h.2.2 aO i = some a ∧ h.1 a = some (2, 0) := o.2.2 i hi
end SHK
/-! the places of a lockable, read off its rows -/
def vw_pa (h : th_S) (a : Nat) : Nat := (h.2.2 a 1).getD 0
def vw_np (h : th_S) (a : Nat) : Nat := ((h.1 (vw_pa h a)).getD (0, 0)).2
def vw_pp (h : th_S) (a j : Nat) : Nat := (h.2.2 (vw_pa h a) j).getD 0
theorem vw_pa_of {h : th_S} {a pa : Nat} (e : h.2.2 a 1 = some pa) : vw_pa h a = pa := by simp [vw_pa, e]
theorem vw_np_of {h : th_S} {a pa n : Nat} (e : h.2.2 a 1 = some pa) (k : h.1 pa = some (6, n)) : vw_np h a = n := by simp [vw_np, vw_pa_of e, k]
theorem sh_K.vw {x aR aO aH aT : Nat} {rt ta : Nat → Nat} {h : th_S} (k : sh_K x aR aO aH aT rt ta h) {a : Nat} (ha : h.1 a = some (2, 0)) : h.2.2 a 1 = some (vw_pa h a) ∧ h.1 (vw_pa h a) = some (6, vw_np h a) ∧ vw_np h a ≤ 4 ∧ ∀ j, j < vw_np h a → h.2.2 (vw_pa h a) j = some (vw_pp h a j) ∧ h.1 (vw_pp h a j) = some (3, 0) := by
  obtain ⟨pa, n, e, kp, hn⟩ := k.lk ha
  have e1 := vw_pa_of e
  have e2 := vw_np_of e kp
  refine ⟨by rw [e1]; exact e, by rw [e1, e2]; exact kp, by rw [e2]; exact hn, fun j hj => ?_⟩
  rw [e2] at hj
  obtain ⟨q, hq, kq⟩ := k.pa kp hj
  have e3 : vw_pp h a j = q := by simp [vw_pp, e1, hq]
  rw [e1, e3]
  exact ⟨hq, kq⟩

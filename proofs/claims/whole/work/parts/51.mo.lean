/-! the model: its state laid over a heap -/
abbrev th_N : Type := (Nat → Int32) × (Nat → Nat → Int32)
def su (S : th_N) (j : Nat) (v : Int32) : th_N := (va_up S.1 j v, S.2)
def sa (S : th_N) (j r : Nat) (v : Int32) : th_N := (S.1, va_up S.2 j (va_up (S.2 j) r v))
def sw (S : th_N) (j : Nat) (f : Nat → Int32) : th_N := (S.1, va_up S.2 j f)
def mo_js : List Nat := [1, 2, 3, 4, 5, 6, 7, 8, 11, 12, 16, 17, 18, 19]
def mo_len : Nat → Nat × Nat
  | 1 => (7, 80)
  | 2 => (7, 80)
  | 3 => (7, 80)
  | 4 => (8, 320)
  | 5 => (7, 320)
  | 6 => (8, 80)
  | 7 => (7, 4)
  | 8 => (7, 4)
  | 11 => (7, 3)
  | 12 => (7, 3)
  | 16 => (7, 60)
  | 17 => (7, 60)
  | 18 => (8, 60)
  | 19 => (7, 60)
  | _ => (0, 0)
def mo_K (o : Nat) (A : Nat → Nat) (h : th_S) : Prop := h.1 o = some (10, 0) ∧ (∀ j, j ∈ mo_js → h.2.2 o j = some (A j) ∧ h.1 (A j) = some (mo_len j)) ∧ (∀ i j, i ∈ mo_js → j ∈ mo_js → A i = A j → i = j)
def mo_g (o : Nat) (A : Nat → Nat) (I : Nat → Nat → Int32) (S : th_N) : Nat → Nat → Int32 := fun b => if b = o then S.1 else match mo_js.find? (fun j => A j == b) with
  | some j => S.2 j
  | none => I b
def mo_h (o : Nat) (A : Nat → Nat) (h : th_S) (S : th_N) : th_S := (h.1, mo_g o A h.2.1 S, h.2.2)
theorem mo_i {o : Nat} {A : Nat → Nat} {h : th_S} {S : th_N} {j : Nat} : (mo_h o A h S).2.1 o j = S.1 j := by simp [mo_h, mo_g]
theorem mo_K.ne {o : Nat} {A : Nat → Nat} {h : th_S} (hK : mo_K o A h) {j : Nat} (hj : j ∈ mo_js) : A j ≠ o := by
  refine th_kne (hK.2.1 j hj).2 hK.1 ?_
  revert hj
  unfold mo_js
  simp only [List.mem_cons, List.not_mem_nil, or_false]
  rintro (rfl | rfl | rfl | rfl | rfl | rfl | rfl | rfl | rfl | rfl | rfl | rfl | rfl | rfl) <;> decide
theorem mo_K.find {o : Nat} {A : Nat → Nat} {h : th_S} (hK : mo_K o A h) {j : Nat} (hj : j ∈ mo_js) : mo_js.find? (fun i => A i == A j) = some j := by
  have h1 : (mo_js.find? (fun i => A i == A j)).isSome := by
    rw [List.find?_isSome]
    exact ⟨j, hj, by simp⟩
  obtain ⟨i, hi⟩ := Option.isSome_iff_exists.mp h1
  have h2 := List.find?_some hi
  have h3 := List.mem_of_find?_eq_some hi
  rw [hi, hK.2.2 i j h3 hj (by simpa using h2)]
theorem mo_a {o : Nat} {A : Nat → Nat} {h : th_S} {S : th_N} (hK : mo_K o A h) {j : Nat} (hj : j ∈ mo_js) : (mo_h o A h S).2.1 (A j) = S.2 j := by
  show mo_g o A h.2.1 S (A j) = S.2 j
  unfold mo_g
  rw [if_neg (hK.ne hj), hK.find hj]
theorem mo_n {o : Nat} {A : Nat → Nat} {h : th_S} {S : th_N} {b : Nat} (hb : b ≠ o) (hA : ∀ j, j ∈ mo_js → A j ≠ b) : (mo_h o A h S).2.1 b = h.2.1 b := by
  show mo_g o A h.2.1 S b = h.2.1 b
  unfold mo_g
  rw [if_neg hb, List.find?_eq_none.mpr (fun j hj => by simpa using hA j hj)]
theorem mo_um {o : Nat} {A : Nat → Nat} {h : th_S} {S : th_N} {j : Nat} {v : Int32} : th_ui (mo_h o A h S) o j v = mo_h o A h (su S j v) := by
  refine Prod.ext rfl (Prod.ext (funext fun b => ?_) rfl)
  show va_up (mo_g o A h.2.1 S) o (va_up (mo_g o A h.2.1 S o) j v) b = mo_g o A h.2.1 (su S j v) b
  by_cases e : b = o
  · subst e
    rw [va_up_self]
    simp [mo_g, su]
  · rw [va_up_ne _ _ e]
    simp [mo_g, su, e]
theorem mo_u {o : Nat} {A : Nat → Nat} {h : th_S} {S : th_N} (hK : mo_K o A h) {j r : Nat} (hj : j ∈ mo_js) {v : Int32} : th_ui (mo_h o A h S) (A j) r v = mo_h o A h (sa S j r v) := by
  refine Prod.ext rfl (Prod.ext (funext fun b => ?_) rfl)
  show va_up (mo_g o A h.2.1 S) (A j) (va_up (mo_g o A h.2.1 S (A j)) r v) b = mo_g o A h.2.1 (sa S j r v) b
  by_cases e : b = A j
  · subst e
    rw [va_up_self]
    unfold mo_g
    rw [if_neg (hK.ne hj), if_neg (hK.ne hj), hK.find hj]
    show _ = va_up S.2 j (va_up (S.2 j) r v) j
    rw [va_up_self]
  · rw [va_up_ne _ _ e]
    unfold mo_g
    by_cases eo : b = o
    · rw [if_pos eo, if_pos eo]
      rfl
    · rw [if_neg eo, if_neg eo]
      cases hf : mo_js.find? (fun i => A i == b) with
      | none => rfl
      | some i =>
        have h2 := List.find?_some hf
        have hij : i ≠ j := fun q => e (by rw [← q]; exact ((by simpa using h2 : A i = b)).symm)
        show S.2 i = va_up S.2 j (va_up (S.2 j) r v) i
        rw [va_up_ne _ _ hij]
/-- a heap is its own state laid over it -/
theorem mo_self {o : Nat} {A : Nat → Nat} (h : th_S) : mo_h o A h (h.2.1 o, fun j => h.2.1 (A j)) = h := by
  refine Prod.ext rfl (Prod.ext (funext fun b => ?_) rfl)
  show mo_g o A h.2.1 _ b = _
  unfold mo_g
  by_cases e : b = o
  · rw [if_pos e, e]
  · rw [if_neg e]
    cases hf : mo_js.find? (fun i => A i == b) with
    | none => rfl
    | some i =>
      have h2 := List.find?_some hf
      show h.2.1 (A i) = h.2.1 b
      rw [(by simpa using h2 : A i = b)]
theorem mo_K.r1 {o : Nat} {A : Nat → Nat} {h : th_S} (hK : mo_K o A h) : h.2.2 o 1 = some (A 1) := (hK.2.1 1 (by decide)).1
theorem mo_K.k1 {o : Nat} {A : Nat → Nat} {h : th_S} (hK : mo_K o A h) : h.1 (A 1) = some (7, 80) := (hK.2.1 1 (by decide)).2
theorem mo_a1 {o : Nat} {A : Nat → Nat} {h : th_S} {S : th_N} (hK : mo_K o A h) {r : Nat} : (mo_h o A h S).2.1 (A 1) r = S.2 1 r := by rw [mo_a hK (by decide)]
theorem mo_u1 {o : Nat} {A : Nat → Nat} {h : th_S} {S : th_N} (hK : mo_K o A h) {r : Nat} {v : Int32} : th_ui (mo_h o A h S) (A 1) r v = mo_h o A h (sa S 1 r v) := mo_u hK (by decide)
theorem mo_K.r2 {o : Nat} {A : Nat → Nat} {h : th_S} (hK : mo_K o A h) : h.2.2 o 2 = some (A 2) := (hK.2.1 2 (by decide)).1
theorem mo_K.k2 {o : Nat} {A : Nat → Nat} {h : th_S} (hK : mo_K o A h) : h.1 (A 2) = some (7, 80) := (hK.2.1 2 (by decide)).2
theorem mo_a2 {o : Nat} {A : Nat → Nat} {h : th_S} {S : th_N} (hK : mo_K o A h) {r : Nat} : (mo_h o A h S).2.1 (A 2) r = S.2 2 r := by rw [mo_a hK (by decide)]
theorem mo_u2 {o : Nat} {A : Nat → Nat} {h : th_S} {S : th_N} (hK : mo_K o A h) {r : Nat} {v : Int32} : th_ui (mo_h o A h S) (A 2) r v = mo_h o A h (sa S 2 r v) := mo_u hK (by decide)
theorem mo_K.r3 {o : Nat} {A : Nat → Nat} {h : th_S} (hK : mo_K o A h) : h.2.2 o 3 = some (A 3) := (hK.2.1 3 (by decide)).1
theorem mo_K.k3 {o : Nat} {A : Nat → Nat} {h : th_S} (hK : mo_K o A h) : h.1 (A 3) = some (7, 80) := (hK.2.1 3 (by decide)).2
theorem mo_a3 {o : Nat} {A : Nat → Nat} {h : th_S} {S : th_N} (hK : mo_K o A h) {r : Nat} : (mo_h o A h S).2.1 (A 3) r = S.2 3 r := by rw [mo_a hK (by decide)]
theorem mo_u3 {o : Nat} {A : Nat → Nat} {h : th_S} {S : th_N} (hK : mo_K o A h) {r : Nat} {v : Int32} : th_ui (mo_h o A h S) (A 3) r v = mo_h o A h (sa S 3 r v) := mo_u hK (by decide)
theorem mo_K.r4 {o : Nat} {A : Nat → Nat} {h : th_S} (hK : mo_K o A h) : h.2.2 o 4 = some (A 4) := (hK.2.1 4 (by decide)).1
theorem mo_K.k4 {o : Nat} {A : Nat → Nat} {h : th_S} (hK : mo_K o A h) : h.1 (A 4) = some (8, 320) := (hK.2.1 4 (by decide)).2
theorem mo_a4 {o : Nat} {A : Nat → Nat} {h : th_S} {S : th_N} (hK : mo_K o A h) {r : Nat} : (mo_h o A h S).2.1 (A 4) r = S.2 4 r := by rw [mo_a hK (by decide)]
theorem mo_u4 {o : Nat} {A : Nat → Nat} {h : th_S} {S : th_N} (hK : mo_K o A h) {r : Nat} {v : Int32} : th_ui (mo_h o A h S) (A 4) r v = mo_h o A h (sa S 4 r v) := mo_u hK (by decide)
theorem mo_K.r5 {o : Nat} {A : Nat → Nat} {h : th_S} (hK : mo_K o A h) : h.2.2 o 5 = some (A 5) := (hK.2.1 5 (by decide)).1
theorem mo_K.k5 {o : Nat} {A : Nat → Nat} {h : th_S} (hK : mo_K o A h) : h.1 (A 5) = some (7, 320) := (hK.2.1 5 (by decide)).2
theorem mo_a5 {o : Nat} {A : Nat → Nat} {h : th_S} {S : th_N} (hK : mo_K o A h) {r : Nat} : (mo_h o A h S).2.1 (A 5) r = S.2 5 r := by rw [mo_a hK (by decide)]
theorem mo_u5 {o : Nat} {A : Nat → Nat} {h : th_S} {S : th_N} (hK : mo_K o A h) {r : Nat} {v : Int32} : th_ui (mo_h o A h S) (A 5) r v = mo_h o A h (sa S 5 r v) := mo_u hK (by decide)
theorem mo_K.r6 {o : Nat} {A : Nat → Nat} {h : th_S} (hK : mo_K o A h) : h.2.2 o 6 = some (A 6) := (hK.2.1 6 (by decide)).1
theorem mo_K.k6 {o : Nat} {A : Nat → Nat} {h : th_S} (hK : mo_K o A h) : h.1 (A 6) = some (8, 80) := (hK.2.1 6 (by decide)).2
theorem mo_a6 {o : Nat} {A : Nat → Nat} {h : th_S} {S : th_N} (hK : mo_K o A h) {r : Nat} : (mo_h o A h S).2.1 (A 6) r = S.2 6 r := by rw [mo_a hK (by decide)]
theorem mo_u6 {o : Nat} {A : Nat → Nat} {h : th_S} {S : th_N} (hK : mo_K o A h) {r : Nat} {v : Int32} : th_ui (mo_h o A h S) (A 6) r v = mo_h o A h (sa S 6 r v) := mo_u hK (by decide)
theorem mo_K.r7 {o : Nat} {A : Nat → Nat} {h : th_S} (hK : mo_K o A h) : h.2.2 o 7 = some (A 7) := (hK.2.1 7 (by decide)).1
theorem mo_K.k7 {o : Nat} {A : Nat → Nat} {h : th_S} (hK : mo_K o A h) : h.1 (A 7) = some (7, 4) := (hK.2.1 7 (by decide)).2
theorem mo_a7 {o : Nat} {A : Nat → Nat} {h : th_S} {S : th_N} (hK : mo_K o A h) {r : Nat} : (mo_h o A h S).2.1 (A 7) r = S.2 7 r := by rw [mo_a hK (by decide)]
theorem mo_u7 {o : Nat} {A : Nat → Nat} {h : th_S} {S : th_N} (hK : mo_K o A h) {r : Nat} {v : Int32} : th_ui (mo_h o A h S) (A 7) r v = mo_h o A h (sa S 7 r v) := mo_u hK (by decide)
theorem mo_K.r8 {o : Nat} {A : Nat → Nat} {h : th_S} (hK : mo_K o A h) : h.2.2 o 8 = some (A 8) := (hK.2.1 8 (by decide)).1
theorem mo_K.k8 {o : Nat} {A : Nat → Nat} {h : th_S} (hK : mo_K o A h) : h.1 (A 8) = some (7, 4) := (hK.2.1 8 (by decide)).2
theorem mo_a8 {o : Nat} {A : Nat → Nat} {h : th_S} {S : th_N} (hK : mo_K o A h) {r : Nat} : (mo_h o A h S).2.1 (A 8) r = S.2 8 r := by rw [mo_a hK (by decide)]
theorem mo_u8 {o : Nat} {A : Nat → Nat} {h : th_S} {S : th_N} (hK : mo_K o A h) {r : Nat} {v : Int32} : th_ui (mo_h o A h S) (A 8) r v = mo_h o A h (sa S 8 r v) := mo_u hK (by decide)
theorem mo_K.r11 {o : Nat} {A : Nat → Nat} {h : th_S} (hK : mo_K o A h) : h.2.2 o 11 = some (A 11) := (hK.2.1 11 (by decide)).1
theorem mo_K.k11 {o : Nat} {A : Nat → Nat} {h : th_S} (hK : mo_K o A h) : h.1 (A 11) = some (7, 3) := (hK.2.1 11 (by decide)).2
theorem mo_a11 {o : Nat} {A : Nat → Nat} {h : th_S} {S : th_N} (hK : mo_K o A h) {r : Nat} : (mo_h o A h S).2.1 (A 11) r = S.2 11 r := by rw [mo_a hK (by decide)]
theorem mo_u11 {o : Nat} {A : Nat → Nat} {h : th_S} {S : th_N} (hK : mo_K o A h) {r : Nat} {v : Int32} : th_ui (mo_h o A h S) (A 11) r v = mo_h o A h (sa S 11 r v) := mo_u hK (by decide)
theorem mo_K.r12 {o : Nat} {A : Nat → Nat} {h : th_S} (hK : mo_K o A h) : h.2.2 o 12 = some (A 12) := (hK.2.1 12 (by decide)).1
theorem mo_K.k12 {o : Nat} {A : Nat → Nat} {h : th_S} (hK : mo_K o A h) : h.1 (A 12) = some (7, 3) := (hK.2.1 12 (by decide)).2
theorem mo_a12 {o : Nat} {A : Nat → Nat} {h : th_S} {S : th_N} (hK : mo_K o A h) {r : Nat} : (mo_h o A h S).2.1 (A 12) r = S.2 12 r := by rw [mo_a hK (by decide)]
theorem mo_u12 {o : Nat} {A : Nat → Nat} {h : th_S} {S : th_N} (hK : mo_K o A h) {r : Nat} {v : Int32} : th_ui (mo_h o A h S) (A 12) r v = mo_h o A h (sa S 12 r v) := mo_u hK (by decide)
theorem mo_K.r16 {o : Nat} {A : Nat → Nat} {h : th_S} (hK : mo_K o A h) : h.2.2 o 16 = some (A 16) := (hK.2.1 16 (by decide)).1
theorem mo_K.k16 {o : Nat} {A : Nat → Nat} {h : th_S} (hK : mo_K o A h) : h.1 (A 16) = some (7, 60) := (hK.2.1 16 (by decide)).2
theorem mo_a16 {o : Nat} {A : Nat → Nat} {h : th_S} {S : th_N} (hK : mo_K o A h) {r : Nat} : (mo_h o A h S).2.1 (A 16) r = S.2 16 r := by rw [mo_a hK (by decide)]
theorem mo_u16 {o : Nat} {A : Nat → Nat} {h : th_S} {S : th_N} (hK : mo_K o A h) {r : Nat} {v : Int32} : th_ui (mo_h o A h S) (A 16) r v = mo_h o A h (sa S 16 r v) := mo_u hK (by decide)
theorem mo_K.r17 {o : Nat} {A : Nat → Nat} {h : th_S} (hK : mo_K o A h) : h.2.2 o 17 = some (A 17) := (hK.2.1 17 (by decide)).1
theorem mo_K.k17 {o : Nat} {A : Nat → Nat} {h : th_S} (hK : mo_K o A h) : h.1 (A 17) = some (7, 60) := (hK.2.1 17 (by decide)).2
theorem mo_a17 {o : Nat} {A : Nat → Nat} {h : th_S} {S : th_N} (hK : mo_K o A h) {r : Nat} : (mo_h o A h S).2.1 (A 17) r = S.2 17 r := by rw [mo_a hK (by decide)]
theorem mo_u17 {o : Nat} {A : Nat → Nat} {h : th_S} {S : th_N} (hK : mo_K o A h) {r : Nat} {v : Int32} : th_ui (mo_h o A h S) (A 17) r v = mo_h o A h (sa S 17 r v) := mo_u hK (by decide)
theorem mo_K.r18 {o : Nat} {A : Nat → Nat} {h : th_S} (hK : mo_K o A h) : h.2.2 o 18 = some (A 18) := (hK.2.1 18 (by decide)).1
theorem mo_K.k18 {o : Nat} {A : Nat → Nat} {h : th_S} (hK : mo_K o A h) : h.1 (A 18) = some (8, 60) := (hK.2.1 18 (by decide)).2
theorem mo_a18 {o : Nat} {A : Nat → Nat} {h : th_S} {S : th_N} (hK : mo_K o A h) {r : Nat} : (mo_h o A h S).2.1 (A 18) r = S.2 18 r := by rw [mo_a hK (by decide)]
theorem mo_u18 {o : Nat} {A : Nat → Nat} {h : th_S} {S : th_N} (hK : mo_K o A h) {r : Nat} {v : Int32} : th_ui (mo_h o A h S) (A 18) r v = mo_h o A h (sa S 18 r v) := mo_u hK (by decide)
theorem mo_K.r19 {o : Nat} {A : Nat → Nat} {h : th_S} (hK : mo_K o A h) : h.2.2 o 19 = some (A 19) := (hK.2.1 19 (by decide)).1
theorem mo_K.k19 {o : Nat} {A : Nat → Nat} {h : th_S} (hK : mo_K o A h) : h.1 (A 19) = some (7, 60) := (hK.2.1 19 (by decide)).2
theorem mo_a19 {o : Nat} {A : Nat → Nat} {h : th_S} {S : th_N} (hK : mo_K o A h) {r : Nat} : (mo_h o A h S).2.1 (A 19) r = S.2 19 r := by rw [mo_a hK (by decide)]
theorem mo_u19 {o : Nat} {A : Nat → Nat} {h : th_S} {S : th_N} (hK : mo_K o A h) {r : Nat} {v : Int32} : th_ui (mo_h o A h S) (A 19) r v = mo_h o A h (sa S 19 r v) := mo_u hK (by decide)
theorem nI_mul (a b : Nat) : nI a * nI b = nI (a * b) := (Int32.ofNat_mul a b).symm
theorem nI_sub {a b : Nat} (h : b ≤ a) : nI a - nI b = nI (a - b) := by
  have := nI_add (a - b) b
  rw [Nat.sub_add_cancel h] at this
  rw [← this]
  exact Int32.add_sub_cancel _ _
theorem nI_div4 {n : Nat} (h : n < 2 ^ 31) : nI n / 4 = nI (n / 4) := by
  apply Int32.toInt_inj.mp
  rw [Int32.toInt_div, nI_toInt h, nI_toInt (by omega)]
  rw [show Int32.toInt 4 = 4 from by decide, show ((n : Int).tdiv 4) = ((n / 4 : Nat) : Int) from by rw [Int.tdiv_eq_ediv_of_nonneg (by omega)]; omega]
  exact Int.bmod_eq_of_le (by omega) (by omega)
theorem nI_mod4 {n : Nat} (h : n < 2 ^ 31) : nI n - nI n / 4 * 4 = nI (n % 4) := by
  rw [nI_div4 h, show (4 : Int32) = nI 4 from rfl, nI_mul, nI_sub (by omega)]
  congr 1
  omega

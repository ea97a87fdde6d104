/-! calls: values, refusals, what stays -/
section FV
variable {x aR aO aH aT : Nat} {rt ta : Nat → Nat} {h h1 h' : th_S} {S : th_N} {H : th_N → th_S} {N n u : Nat} {ad : Nat → Nat} {v : Option Value} {E : String}
theorem V_begin (p : p3_begin x ta h v h1) : ∃ b, v = some (.int b) := by obtain ⟨i, -, -, -, -, -, e⟩ := p; exact ⟨_, e⟩
theorem V_make {k f : Int32} (p : p3_make x aO ta h n k f v h1) : ∃ b, v = some (.int b) := by obtain ⟨i, nf, q, pa, pp, -, -, -, -, -, -, -, -, e⟩ := p; exact ⟨_, e⟩
theorem V_setInt {k o f w : Int32} (p : p3_setInt x aO ta h n k o f w v h1) : ∃ b, v = some (.int b) := by obtain ⟨i, a, q, -, -, -, -, -, -, e⟩ := p; exact ⟨_, e⟩
theorem V_setReference {k o f w : Int32} (p : p3_setReference x aO ta h n k o f w v h1) : ∃ b, v = some (.int b) := by obtain ⟨i, a, q, r, -, -, -, -, -, -, -, -, e⟩ := p; exact ⟨_, e⟩
theorem V_setRoot {k o w : Int32} (p : p3_setRoot x aO rt ta h n k o w v h1) : ∃ b, v = some (.int b) := by obtain ⟨i, a, q, r, -, -, -, -, -, -, -, -, -, e⟩ := p; exact ⟨_, e⟩
theorem V_getInt {k o f : Int32} (p : p3_getInt aO ta h n k o f v h1) : ∃ b, v = some (.int b) := by obtain ⟨i, a, q, -, -, -, -, -, -, e⟩ := p; exact ⟨_, e⟩
theorem V_getReference {k o f : Int32} (p : p3_getReference aO ta h n k o f v h1) : ∃ b, v = some (.int b) := by obtain ⟨i, a, q, -, -, -, -, -, -, e⟩ := p; exact ⟨_, e⟩
theorem V_getRoot {k o : Int32} (p : p3_getRoot rt ta h k o v h1) : ∃ b, v = some (.int b) := by obtain ⟨i, a, q, -, -, -, -, -, -, e⟩ := p; exact ⟨_, e⟩
theorem V_commit {k : Int32} (p : p3_commit x aO rt ta h n k v h1) : ∃ b, v = some (.int b) := by obtain ⟨i, -, -, e, -⟩ := p; exact ⟨_, e⟩
theorem V_abort {k : Int32} (p : p3_abort aO rt ta h n k v h1) : ∃ b, v = some (.int b) := by obtain ⟨i, -, e, -⟩ := p; exact ⟨_, e⟩
theorem V_fields {k : Int32} (p : p3_fields aO h n k v h1) : ∃ b, v = some (.int b) := by obtain ⟨-, a, pa, np, -, -, -, e⟩ := p; exact ⟨_, e⟩
theorem V_lockedBy {k o : Int32} (p : p3_lockedBy aO rt h n k o v h1) : ∃ b, v = some (.int b) := by
  obtain ⟨-, ⟨-, a, -, e⟩ | ⟨-, j, -, -, e⟩⟩ := p
  · exact ⟨_, e⟩
  · exact ⟨_, e⟩
theorem V_count {k : Int32} (p : sh_cn x aO aH n rt ta h k v h1) : ∃ b, v = some (.int b) := by
  rcases p with ⟨-, ⟨-, e⟩ | ⟨-, e⟩ | ⟨-, e⟩ | ⟨-, e⟩ | ⟨-, e⟩ | ⟨-, e⟩ | ⟨-, e⟩⟩ | ⟨-, -, e⟩ <;> exact ⟨_, e⟩
theorem V_collect {k : Int32} (p : sh_co x aO aH n rt ta h k v h1) : ∃ b, v = some (.int b) := by
  rcases p with ⟨-, -, e, -⟩ | ⟨-, -, e⟩ <;> exact ⟨_, e⟩
/-! the model's values -/
theorem U_begin (p : p4_begin S H v h1) : ∃ b, v = some (.int b) := by
  rcases p with ⟨-, -, e⟩ | ⟨-, ⟨-, -, e⟩ | ⟨-, k, -, -, -, -, e⟩⟩ <;> exact ⟨_, e⟩
theorem U_make {k f : Int32} (p : p4_make S H k f v h1) : ∃ b, v = some (.int b) := by
  rcases p with ⟨-, -, e⟩ | ⟨k', -, ⟨-, -, e⟩ | ⟨-, -, ⟨-, -, e⟩ | ⟨-, ⟨-, -, e⟩ | ⟨-, r, -, -, -, -, e⟩⟩⟩⟩ <;> exact ⟨_, e⟩
theorem U_setInt {k o f w : Int32} (p : p4_setInt S H u k o f w v h1) : ∃ b, v = some (.int b) := by
  obtain ⟨e9, c9, -, ⟨-, e, -⟩ | ⟨-, ⟨-, e, -⟩ | ⟨-, e, -⟩⟩⟩ := p <;> exact ⟨_, e⟩
theorem U_rf {t : Int32} {k d : Nat} {g : Int32} {T : th_N} (p : mo_rf S u t k d g v T) : ∃ b, v = some (.int b) := by
  rcases p.v with e | e <;> exact ⟨_, e⟩
theorem U_setReference {k o f w : Int32} (p : p4_setReference S H u k o f w v h1) : ∃ b, v = some (.int b) := by
  obtain ⟨e9, c9, -, ⟨-, e, -⟩ | ⟨-, k', T, -, e, -⟩⟩ := p
  · exact ⟨_, e⟩
  · exact U_rf e
theorem U_setRoot {k o w : Int32} (p : p4_setRoot S H u k o w v h1) : ∃ b, v = some (.int b) := by
  obtain ⟨e9, c9, -, ⟨-, e, -⟩ | ⟨-, k', T, -, e, -⟩⟩ := p
  · exact ⟨_, e⟩
  · exact U_rf e
theorem U_getInt {k o f : Int32} (p : p4_getInt S H k o f v h1) : ∃ b, v = some (.int b) := by
  obtain ⟨e9, c9, -, ⟨-, e, -⟩ | ⟨-, ⟨-, e, -⟩ | ⟨-, e, -⟩⟩⟩ := p <;> exact ⟨_, e⟩
theorem U_getReference {k o f : Int32} (p : p4_getReference S H k o f v h1) : ∃ b, v = some (.int b) := by
  obtain ⟨e9, c9, -, ⟨-, e, -⟩ | ⟨-, ⟨-, e, -⟩ | ⟨-, e, -⟩⟩⟩ := p <;> exact ⟨_, e⟩
theorem U_getRoot {k o : Int32} (p : p4_getRoot S H k o v h1) : ∃ b, v = some (.int b) := by
  obtain ⟨e9, c9, -, ⟨-, e, -⟩ | ⟨-, e, -⟩⟩ := p <;> exact ⟨_, e⟩
theorem U_commit {k : Int32} (p : p4_commit S H u k v h1) : ∃ b, v = some (.int b) := by
  rcases p with ⟨-, e, -⟩ | ⟨k', -, ⟨-, e, -⟩ | ⟨-, p, r, T, -, e, -⟩⟩ <;> exact ⟨_, e⟩
theorem U_abort {k : Int32} (p : p4_abort S H u k v h1) : ∃ b, v = some (.int b) := by
  rcases p with ⟨-, e, -⟩ | ⟨k', -, p, r, T, -, e, -⟩ <;> exact ⟨_, e⟩
theorem U_fields {k : Int32} (p : p4_fields S H k v h1) : ∃ b, v = some (.int b) := by
  rcases p with ⟨-, e, -⟩ | ⟨r, -, e, -⟩ <;> exact ⟨_, e⟩
theorem U_lockedBy {k o : Int32} (p : p4_lockedBy S H k o v h1) : ∃ b, v = some (.int b) := by
  rcases p with ⟨-, ⟨-, e, -⟩ | ⟨j, -, -, e, -⟩⟩ | ⟨-, ⟨-, e, -⟩ | ⟨r, -, e, -⟩⟩ <;> exact ⟨_, e⟩
theorem U_count {k : Int32} (p : p4_count S H u k v h1) : ∃ b, v = some (.int b) := by
  rcases p with ⟨-, e, -⟩ | ⟨-, ⟨-, e⟩ | ⟨-, e⟩ | ⟨-, e⟩ | ⟨-, e⟩ | ⟨-, e⟩ | ⟨-, e⟩ | ⟨-, e⟩⟩ | ⟨-, g, -, e, -⟩ <;> exact ⟨_, e⟩
theorem U_crash (p : p4_crash S H u v h1) : ∃ b, v = some (.int b) := by
  obtain ⟨p, T, -, e, -⟩ := p; exact ⟨_, e⟩
theorem U_collect {k : Int32} (p : p4_collect S H u k v h1) : ∃ b, v = some (.int b) := by
  obtain ⟨g, -, ⟨-, -, p, T, -, e, -⟩ | ⟨-, e, -⟩⟩ := p <;> exact ⟨_, e⟩
/-! the refusals -/
abbrev xNS : String := "java/util/NoSuchElementException"
abbrev xIA : String := "java/lang/IllegalArgumentException"
abbrev xIS : String := "java/lang/IllegalStateException"
abbrev xUO : String := "java/lang/UnsupportedOperationException"
abbrev xIB : String := "java/lang/IndexOutOfBoundsException"
abbrev xAE : String := "java/lang/ArithmeticException"
theorem X_begin (p : e3_begin x ta h E h1) : E = xIS ∨ E = xUO := by
  obtain ⟨-, ⟨e, -⟩ | ⟨e, -⟩⟩ := p
  · exact Or.inl e
  · exact Or.inr e
theorem X_make {k f : Int32} (p : e3_make x ta h n k f E h1) : E = xNS ∨ E = xIA ∨ E = xIS ∨ E = xUO := by
  obtain ⟨-, ⟨e, -⟩ | ⟨i, -, ⟨e, -⟩ | ⟨-, -, ⟨e, -⟩ | ⟨-, -, e, -⟩⟩⟩⟩ := p
  · exact Or.inl e
  · exact Or.inr (Or.inl e)
  · exact Or.inr (Or.inr (Or.inl e))
  · exact Or.inr (Or.inr (Or.inr e))
theorem X_px {k o f : Int32} {T : Nat → Nat → Nat → Prop} (p : sh_px ta aO n h k o f E T) : E = xNS ∨ E = xIB ∨ ∃ i a q, T i a q := by
  rcases p with ⟨e, -⟩ | ⟨i, -, ⟨e, -⟩ | ⟨a, -, ⟨e, -⟩ | ⟨q, -, e⟩⟩⟩
  · exact Or.inl e
  · exact Or.inl e
  · exact Or.inr (Or.inl e)
  · exact Or.inr (Or.inr ⟨i, a, q, e⟩)
theorem X_setInt {k o f : Int32} (p : e3_setInt x aO ta h n k o f E h1) : E = xNS ∨ E = xIB ∨ E = xIS ∨ E = xUO := by
  rcases X_px p.2 with e | e | ⟨i, a, q, ⟨e, -⟩ | ⟨-, e, -⟩⟩
  · exact Or.inl e
  · exact Or.inr (Or.inl e)
  · exact Or.inr (Or.inr (Or.inl e))
  · exact Or.inr (Or.inr (Or.inr e))
theorem X_setReference {k o f w : Int32} (p : e3_setReference x aO ta h n k o f w E h1) : E = xNS ∨ E = xIB ∨ E = xIS ∨ E = xIA ∨ E = xUO := by
  rcases X_px p.2 with e | e | ⟨i, a, q, ⟨e, -⟩ | ⟨-, ⟨e, -⟩ | ⟨r, -, -, e, -⟩⟩⟩
  · exact Or.inl e
  · exact Or.inr (Or.inl e)
  · exact Or.inr (Or.inr (Or.inl e))
  · exact Or.inr (Or.inr (Or.inr (Or.inl e)))
  · exact Or.inr (Or.inr (Or.inr (Or.inr e)))
theorem X_setRoot {k o w : Int32} (p : e3_setRoot x aO rt ta h n k o w E h1) : E = xNS ∨ E = xIB ∨ E = xIS ∨ E = xIA ∨ E = xUO := by
  obtain ⟨-, ⟨e, -⟩ | ⟨i, -, ⟨e, -⟩ | ⟨j, -, -, ⟨e, -⟩ | ⟨-, ⟨e, -⟩ | ⟨r, -, -, e, -⟩⟩⟩⟩⟩ := p
  · exact Or.inl e
  · exact Or.inr (Or.inl e)
  · exact Or.inr (Or.inr (Or.inl e))
  · exact Or.inr (Or.inr (Or.inr (Or.inl e)))
  · exact Or.inr (Or.inr (Or.inr (Or.inr e)))
theorem X_getInt {k o f : Int32} (p : e3_getInt aO ta h n k o f E h1) : E = xNS ∨ E = xIB ∨ E = xIS ∨ E = xAE := by
  rcases p with ⟨-, p⟩ | ⟨e, -⟩
  · rcases X_px p with e | e | ⟨i, a, q, ⟨e, -⟩ | ⟨-, e⟩⟩
    · exact Or.inl e
    · exact Or.inr (Or.inl e)
    · exact Or.inr (Or.inr (Or.inl e))
    · exact e.elim
  · exact Or.inr (Or.inr (Or.inr e))
theorem X_getReference {k o f : Int32} (p : e3_getReference aO ta h n k o f E h1) : E = xNS ∨ E = xIB ∨ E = xIS ∨ E = xAE := by
  rcases p with ⟨-, p⟩ | ⟨e, -⟩
  · rcases X_px p with e | e | ⟨i, a, q, ⟨e, -⟩ | ⟨-, e⟩⟩
    · exact Or.inl e
    · exact Or.inr (Or.inl e)
    · exact Or.inr (Or.inr (Or.inl e))
    · exact e.elim
  · exact Or.inr (Or.inr (Or.inr e))
theorem X_getRoot {k o : Int32} (p : e3_getRoot rt ta h k o E h1) : E = xNS ∨ E = xIB ∨ E = xIS := by
  obtain ⟨-, ⟨e, -⟩ | ⟨i, -, ⟨e, -⟩ | ⟨j, -, -, ⟨e, -⟩ | ⟨-, e⟩⟩⟩⟩ := p
  · exact Or.inl e
  · exact Or.inr (Or.inl e)
  · exact Or.inr (Or.inr e)
  · exact e.elim
theorem X_commit {k : Int32} (p : e3_commit x ta h k E h1) : E = xNS ∨ E = xUO := by
  obtain ⟨-, ⟨e, -⟩ | ⟨e, -⟩⟩ := p
  · exact Or.inl e
  · exact Or.inr e
/-! what stays -/
theorem F_begin (R : RR x aR aO aH aT rt ta h S N n u ad) {c : Int32} (w : (c = 0 ∧ p3_begin x ta h v h1) ∨ ∃ E, e3_begin x ta h E h1 ∧ cd_begin E c) : fr7 h h1 := by
  have K := R.1.1.1
  rcases w with ⟨-, i, i1, -, -, -, rfl, -⟩ | ⟨E, ⟨rfl, -⟩, -⟩
  · exact (((fr7.refl h).ui (K.kta i1) (by decide)).ui K.kx (by decide)).ui (K.kta i1) (by decide)
  · exact fr7.refl h
theorem F_make (R : RR x aR aO aH aT rt ta h S N n u ad) {k f c : Int32} (w : (c = 0 ∧ p3_make x aO ta h n k f v h1) ∨ ∃ E, e3_make x ta h n k f E h1 ∧ cd_make E c) : fr7 h h1 := by
  have K := R.1.1.1
  rcases w with ⟨-, i, nf, q, pa, pp, w1, -, -, -, -, -, w7, rfl, -⟩ | ⟨E, ⟨rfl, -⟩, -⟩
  · exact mk_fr K (K.kta w1.1) w7
  · exact fr7.refl h
theorem RR.kfd (R : RR x aR aO aH aT rt ta h S N n u ad) {o f : Int32} {a q : Nat} (ho : sh_ob aO n h o a) (hf : sh_fd h a f q) : h.1 a = some (2, 0) ∧ h.1 q = some (3, 0) := by
  obtain ⟨r, rw', ea⟩ := R.1.rw ho
  rw [← ea] at hf ⊢
  obtain ⟨j, hj, -, eq⟩ := R.1.fd rw'.lv hf
  exact ⟨R.1.kA rw'.lv, by rw [eq]; exact R.1.place rw'.lv hj⟩
theorem F_setInt (R : RR x aR aO aH aT rt ta h S N n u ad) {k o f val c : Int32} (w : (c = 0 ∧ p3_setInt x aO ta h n k o f val v h1) ∨ ∃ E, e3_setInt x aO ta h n k o f E h1 ∧ cd_setInt E c) : fr7 h h1 := by
  have K := R.1.1.1
  rcases w with ⟨-, i, a, q, w1, w2, w3, -, -, rfl, -⟩ | ⟨E, ⟨rfl, -⟩, -⟩
  · obtain ⟨ka, kq⟩ := R.kfd w2 w3
    exact pl_num_fr (((fr7.refl h).ui (K.kta w1.1) (by decide)).ui ka (by decide)) kq val
  · exact fr7.refl h
theorem F_setReference (R : RR x aR aO aH aT rt ta h S N n u ad) {k o f val c : Int32} (w : (c = 0 ∧ p3_setReference x aO ta h n k o f val v h1) ∨ ∃ E, e3_setReference x aO ta h n k o f val E h1 ∧ cd_setRef E c) : fr7 h h1 := by
  have K := R.1.1.1
  rcases w with ⟨-, i, a, q, r, w1, w2, w3, -, -, -, -, rfl, -⟩ | ⟨E, ⟨rfl, -⟩, -⟩
  · obtain ⟨ka, kq⟩ := R.kfd w2 w3
    exact pl_ref_fr (((fr7.refl h).ui (K.kta w1.1) (by decide)).ui ka (by decide)) kq r
  · exact fr7.refl h
theorem F_setRoot (R : RR x aR aO aH aT rt ta h S N n u ad) {k o val c : Int32} (w : (c = 0 ∧ p3_setRoot x aO rt ta h n k o val v h1) ∨ ∃ E, e3_setRoot x aO rt ta h n k o val E h1 ∧ cd_setRef E c) : fr7 h h1 := by
  have K := R.1.1.1
  rcases w with ⟨-, i, j, q, r, w1, w2, -, w3, -, -, -, -, rfl, -⟩ | ⟨E, ⟨rfl, -⟩, -⟩
  · exact pl_ref_fr (((fr7.refl h).ui (K.kta w1.1) (by decide)).ui (K.krt w2) (by decide)) w3.choose_spec.2.2.2 r
  · exact fr7.refl h
theorem F_getInt (R : RR x aR aO aH aT rt ta h S N n u ad) {k o f c : Int32} (w : (c = 0 ∧ p3_getInt aO ta h n k o f v h1) ∨ ∃ E, e3_getInt aO ta h n k o f E h1 ∧ cd_get E c) : fr7 h h1 := by
  rcases w with ⟨-, i, a, q, w1, w2, w3, -, rfl, -⟩ | ⟨E, ⟨rfl, -⟩ | ⟨-, i, a, q, w1, w2, w3, -, rfl, -⟩, -⟩
  · exact (fr7.refl h).ui (R.kfd w2 w3).1 (by decide)
  · exact fr7.refl h
  · exact (fr7.refl h).ui (R.kfd w2 w3).1 (by decide)
theorem F_getReference (R : RR x aR aO aH aT rt ta h S N n u ad) {k o f c : Int32} (w : (c = 0 ∧ p3_getReference aO ta h n k o f v h1) ∨ ∃ E, e3_getReference aO ta h n k o f E h1 ∧ cd_get E c) : fr7 h h1 := by
  rcases w with ⟨-, i, a, q, w1, w2, w3, -, rfl, -⟩ | ⟨E, ⟨rfl, -⟩ | ⟨-, i, a, q, w1, w2, w3, -, rfl, -⟩, -⟩
  · exact (fr7.refl h).ui (R.kfd w2 w3).1 (by decide)
  · exact fr7.refl h
  · exact (fr7.refl h).ui (R.kfd w2 w3).1 (by decide)
theorem F_getRoot (R : RR x aR aO aH aT rt ta h S N n u ad) {k o c : Int32} (w : (c = 0 ∧ p3_getRoot rt ta h k o v h1) ∨ ∃ E, e3_getRoot rt ta h k o E h1 ∧ cd_getRoot E c) : fr7 h h1 := by
  rcases w with ⟨-, i, j, q, w1, w2, -, w3, -, rfl, -⟩ | ⟨E, ⟨rfl, -⟩, -⟩
  · exact (fr7.refl h).ui (R.1.1.1.krt w2) (by decide)
  · exact fr7.refl h
theorem F_commit (R : RR x aR aO aH aT rt ta h S N n u ad) {k c : Int32} (w : (c = 0 ∧ p3_commit x aO rt ta h n k v h1) ∨ ∃ E, e3_commit x ta h k E h1 ∧ cd_commit E c) : fr7 h h1 := by
  have K := R.1.1.1
  have O := R.1.1.2
  rcases w with ⟨-, i, w1, -, -, rfl⟩ | ⟨E, ⟨rfl, -⟩, -⟩
  · have kt := K.kta w1.1
    have K1 := (K.uk (j := 1) (v := h.2.1 (ta i) 1 + 1) kt (by decide)).uk (a := x) (j := 8) (v := h.2.1 x 8 + (h.2.1 (ta i) 1 + 1)) K.kx (by decide)
    have O1 : sh_O x aO n (th_ui (th_ui h (ta i) 1 (h.2.1 (ta i) 1 + 1)) x 8 (h.2.1 x 8 + (h.2.1 (ta i) 1 + 1))) := ⟨O.1, by
      rw [ui_at (fun _ => by decide), ui_at (fun e => absurd e (th_kne K.kx kt (by decide)))]
      exact O.2.1, O.2.2⟩
    exact (((fr7.refl h).ui kt (by decide)).ui K.kx (by decide)).trans (sh_eh_fr K1 O1 1 kt)
  · exact fr7.refl h
theorem F_abort (R : RR x aR aO aH aT rt ta h S N n u ad) {k c : Int32} (w : (c = 0 ∧ p3_abort aO rt ta h n k v h1) ∨ ∃ E, e3_abort ta h k E h1 ∧ cd_nse E c) : fr7 h h1 := by
  rcases w with ⟨-, i, w1, -, rfl⟩ | ⟨E, ⟨-, rfl, -⟩, -⟩
  · exact sh_eh_fr R.1.1.1 R.1.1.2 0 (R.1.1.1.kta w1.1)
  · exact fr7.refl h
theorem F_fields (_R : RR x aR aO aH aT rt ta h S N n u ad) {k c : Int32} (w : (c = 0 ∧ p3_fields aO h n k v h1) ∨ ∃ E, e3_fields aO h n k E h1 ∧ cd_nse E c) : fr7 h h1 := by
  rcases w with ⟨-, rfl, -⟩ | ⟨E, ⟨-, rfl, -⟩, -⟩
  · exact fr7.refl h
  · exact fr7.refl h
theorem F_lockedBy (_R : RR x aR aO aH aT rt ta h S N n u ad) {k o c : Int32} (w : (c = 0 ∧ p3_lockedBy aO rt h n k o v h1) ∨ ∃ E, e3_lockedBy aO h n k o E h1 ∧ cd_nse E c) : fr7 h h1 := by
  rcases w with ⟨-, rfl, -⟩ | ⟨E, ⟨-, rfl, -⟩, -⟩
  · exact fr7.refl h
  · exact fr7.refl h
theorem F_count (R : RR x aR aO aH aT rt ta h S N n u ad) {k c : Int32} (w : (c = 0 ∧ sh_cn x aO aH n rt ta h k v h1) ∨ ∃ E, e3_count h k E h1 ∧ cd_count E c) : fr7 h h1 := by
  rcases w with ⟨-, ⟨rfl, -⟩ | ⟨-, rfl, -⟩⟩ | ⟨E, ⟨-, rfl, -⟩, -⟩
  · exact fr7.refl h
  · exact fh_fr R.1
  · exact fr7.refl h
theorem F_crash (R : RR x aR aO aH aT rt ta h S N n u ad) : fr7 h (th_ui (cr_s aO n rt ta h 3).2 x 8 0) := by
  have f := cr_fr R.1.1.1 R.1.1.2 3 (Nat.le_refl 3)
  have K1 := (cr_s_I R.1.1.1 R.1.1.2 3 (Nat.le_refl 3)).1
  generalize cr_s aO n rt ta h 3 = s at *
  exact f.ui K1.kx (by decide)
theorem F_collect (R : RR x aR aO aH aT rt ta h S N n u ad) {k : Int32} (w : sh_co x aO aH n rt ta h k v h1) : fr7 h h1 := by
  have f := fh_fr R.1
  obtain ⟨K1, O1⟩ := fh_KO (ta := ta) R.1.1.1 R.1.1.2
  unfold sh_co at w
  generalize sh_fh x aO aH n rt h = s at *
  rcases w with ⟨-, -, -, rfl⟩ | ⟨-, rfl, -⟩
  · have f2 := cr_fr K1 O1 3 (Nat.le_refl 3)
    have K2 := (cr_s_I K1 O1 3 (Nat.le_refl 3)).1
    generalize cr_s aO n rt ta s.2 3 = s2 at *
    exact (f.trans f2).ui K2.kx (by decide)
  · exact f.trans (fl_fr7 K1)
/-- the law's switch -/
theorem i15 (w : Int32) : w &&& 15 = 0 ∨ w &&& 15 = 1 ∨ w &&& 15 = 2 ∨ w &&& 15 = 3 ∨ w &&& 15 = 4 ∨ w &&& 15 = 5 ∨ w &&& 15 = 6 ∨ w &&& 15 = 7 ∨ w &&& 15 = 8 ∨ w &&& 15 = 9 ∨ w &&& 15 = 10 ∨ w &&& 15 = 11 ∨ w &&& 15 = 12 ∨ w &&& 15 = 13 ∨ w &&& 15 = 14 ∨ w &&& 15 = 15 := by
  have key : ∀ m : Nat, m < 16 → (w.toBitVec &&& 15#32).toNat = m → w &&& 15 = Int32.ofBitVec (BitVec.ofNat 32 m) := fun m hm e => by
    apply Int32.toBitVec_inj.mp
    rw [Int32.toBitVec_and]
    apply BitVec.eq_of_toNat_eq
    refine Eq.trans e ?_
    show m = (BitVec.ofNat 32 m).toNat
    rw [BitVec.toNat_ofNat, Nat.mod_eq_of_lt (by omega)]
  have hb : (w.toBitVec &&& 15#32).toNat < 16 := by
    rw [BitVec.toNat_and]
    exact Nat.lt_of_le_of_lt Nat.and_le_right (by decide)
  generalize em : (w.toBitVec &&& 15#32).toNat = m at hb
  have e := key m hb em
  rcases (show m = 0 ∨ m = 1 ∨ m = 2 ∨ m = 3 ∨ m = 4 ∨ m = 5 ∨ m = 6 ∨ m = 7 ∨ m = 8 ∨ m = 9 ∨ m = 10 ∨ m = 11 ∨ m = 12 ∨ m = 13 ∨ m = 14 ∨ m = 15 by omega) with rfl | rfl | rfl | rfl | rfl | rfl | rfl | rfl | rfl | rfl | rfl | rfl | rfl | rfl | rfl | rfl
  · exact Or.inl e
  · exact Or.inr (Or.inl e)
  · exact Or.inr (Or.inr (Or.inl e))
  · exact Or.inr (Or.inr (Or.inr (Or.inl e)))
  · exact Or.inr (Or.inr (Or.inr (Or.inr (Or.inl e))))
  · exact Or.inr (Or.inr (Or.inr (Or.inr (Or.inr (Or.inl e)))))
  · exact Or.inr (Or.inr (Or.inr (Or.inr (Or.inr (Or.inr (Or.inl e))))))
  · exact Or.inr (Or.inr (Or.inr (Or.inr (Or.inr (Or.inr (Or.inr (Or.inl e)))))))
  · exact Or.inr (Or.inr (Or.inr (Or.inr (Or.inr (Or.inr (Or.inr (Or.inr (Or.inl e))))))))
  · exact Or.inr (Or.inr (Or.inr (Or.inr (Or.inr (Or.inr (Or.inr (Or.inr (Or.inr (Or.inl e)))))))))
  · exact Or.inr (Or.inr (Or.inr (Or.inr (Or.inr (Or.inr (Or.inr (Or.inr (Or.inr (Or.inr (Or.inl e))))))))))
  · exact Or.inr (Or.inr (Or.inr (Or.inr (Or.inr (Or.inr (Or.inr (Or.inr (Or.inr (Or.inr (Or.inr (Or.inl e)))))))))))
  · exact Or.inr (Or.inr (Or.inr (Or.inr (Or.inr (Or.inr (Or.inr (Or.inr (Or.inr (Or.inr (Or.inr (Or.inr (Or.inl e))))))))))))
  · exact Or.inr (Or.inr (Or.inr (Or.inr (Or.inr (Or.inr (Or.inr (Or.inr (Or.inr (Or.inr (Or.inr (Or.inr (Or.inr (Or.inl e)))))))))))))
  · exact Or.inr (Or.inr (Or.inr (Or.inr (Or.inr (Or.inr (Or.inr (Or.inr (Or.inr (Or.inr (Or.inr (Or.inr (Or.inr (Or.inr (Or.inl e))))))))))))))
  · exact Or.inr (Or.inr (Or.inr (Or.inr (Or.inr (Or.inr (Or.inr (Or.inr (Or.inr (Or.inr (Or.inr (Or.inr (Or.inr (Or.inr (Or.inr e))))))))))))))
theorem nI_gt5 {i m : Nat} (hi : i < 2 ^ 31) (hm : m < 2 ^ 31) : nI m - 5 < nI i ↔ m < i + 5 := by
  have e : (nI m - 5).toInt = (m : Int) - 5 := by
    rw [show (5 : Int32) = nI 5 from rfl, Int32.toInt_sub, nI_toInt hm, nI_toInt (by omega)]
    exact Int.bmod_eq_of_le (by omega) (by omega)
  rw [Int32.lt_iff_toInt_lt, e, nI_toInt hi]
  omega
end FV

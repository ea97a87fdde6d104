/-! flip, as a function; what the end of a transaction keeps -/
def fl_s (x aO : Nat) (h : th_S) : Nat → Nat × th_S
  | 0 => (0, th_ui h x 7 0)
  | i + 1 => if (fl_s x aO h i).2.2.1 (vw_ob aO h i) 3 = 0 then fl_s x aO h i else
    ((fl_s x aO h i).1 + 1, th_ui (th_ur (fl_s x aO h i).2 aO (fl_s x aO h i).1 (some (vw_ob aO h i))) x 7 ((fl_s x aO h i).2.2.1 x 7 + (1 + nI (vw_np h (vw_ob aO h i)))))
def sh_fl (x aO n : Nat) (h : th_S) : th_S := th_ui (th_ui (fl_s x aO h n).2 x 4 (nI (fl_s x aO h n).1)) x 10 (h.2.1 x 10 + 1)
section FLS
variable {x aR aO aH aT : Nat} {rt ta : Nat → Nat} {h : th_S}
theorem fl_s_k : ∀ i, (fl_s x aO h i).2.1 = h.1
  | 0 => rfl
  | i + 1 => by
    unfold fl_s
    split
    · exact fl_s_k i
    · exact fl_s_k i
theorem fl_s_le : ∀ i, (fl_s x aO h i).1 ≤ i
  | 0 => Nat.le_refl 0
  | i + 1 => by
    unfold fl_s
    have := fl_s_le i
    split
    · omega
    · show (fl_s x aO h i).1 + 1 ≤ i + 1
      omega
theorem fl_s_r {b : Nat} (hb : b ≠ aO) : ∀ i, (fl_s x aO h i).2.2.2 b = h.2.2 b
  | 0 => rfl
  | i + 1 => by
    unfold fl_s
    split
    · exact fl_s_r hb i
    · show (th_ur (fl_s x aO h i).2 aO (fl_s x aO h i).1 (some (vw_ob aO h i))).2.2 b = _
      rw [show (th_ur (fl_s x aO h i).2 aO (fl_s x aO h i).1 (some (vw_ob aO h i))).2.2 b = (fl_s x aO h i).2.2.2 b from funext fun j => th_ur_n _ _ _ _ hb]
      exact fl_s_r hb i
theorem fl_s_i {b j : Nat} (hb : b = x → j ≠ 7) : ∀ i, (fl_s x aO h i).2.2.1 b j = h.2.1 b j
  | 0 => by
    show (th_ui h x 7 0).2.1 b j = _
    by_cases e : b = x
    · rw [e]; exact th_ui_k _ _ _ (hb e)
    · exact th_ui_n _ _ _ _ e
  | i + 1 => by
    unfold fl_s
    split
    · exact fl_s_i hb i
    · refine Eq.trans ?_ (fl_s_i hb i)
      by_cases e : b = x
      · rw [e]; exact th_ui_k _ _ _ (hb e)
      · exact th_ui_n _ _ _ _ e
/-- the entries that aren't reached yet stay -/
theorem fl_s_hi : ∀ i j, (fl_s x aO h i).1 ≤ j → (fl_s x aO h i).2.2.2 aO j = h.2.2 aO j
  | 0, _, _ => rfl
  | i + 1, j, hj => by
    revert hj
    unfold fl_s
    split
    · exact fl_s_hi i j
    · intro hj
      have hj' : (fl_s x aO h i).1 + 1 ≤ j := hj
      show (th_ur (fl_s x aO h i).2 aO (fl_s x aO h i).1 (some (vw_ob aO h i))).2.2 aO j = _
      rw [th_ur_k _ _ _ (by omega)]
      exact fl_s_hi i j (by omega)
/-- the entries before are objects that were there -/
theorem fl_s_lo : ∀ i j, j < (fl_s x aO h i).1 → ∃ m, m < i ∧ (fl_s x aO h i).2.2.2 aO j = some (vw_ob aO h m)
  | 0, _, hj => absurd hj (Nat.not_lt_zero _)
  | i + 1, j, hj => by
    revert hj
    unfold fl_s
    split
    · intro hj
      obtain ⟨m, hm, e⟩ := fl_s_lo i j hj
      exact ⟨m, by omega, e⟩
    · intro hj
      have hj' : j < (fl_s x aO h i).1 + 1 := hj
      show ∃ m, m < i + 1 ∧ (th_ur (fl_s x aO h i).2 aO (fl_s x aO h i).1 (some (vw_ob aO h i))).2.2 aO j = _
      by_cases e : j = (fl_s x aO h i).1
      · rw [e, th_ur_s]
        exact ⟨i, by omega, rfl⟩
      · rw [th_ur_k _ _ _ e]
        obtain ⟨m, hm, e⟩ := fl_s_lo i j (by omega)
        exact ⟨m, by omega, e⟩
theorem fl_s_K (K : sh_K x aR aO aH aT rt ta h) : ∀ i, sh_K x aR aO aH aT rt ta (fl_s x aO h i).2
  | 0 => K.uk K.kx (by decide)
  | i + 1 => by
    unfold fl_s
    split
    · exact fl_s_K K i
    · exact ((fl_s_K K i).urA (Or.inl rfl)).uk (fl_s_K K i).kx (by decide)
theorem fl_s_O (K : sh_K x aR aO aH aT rt ta h) {n : Nat} (o : sh_O x aO n h) {i : Nat} (hi : i ≤ n) : sh_O x aO n (fl_s x aO h i).2 := by
  refine ⟨o.1, by rw [fl_s_i (fun _ => by decide)]; exact o.2.1, fun j hj => ?_⟩
  rw [fl_s_k]
  rcases Nat.lt_or_ge j (fl_s x aO h i).1 with q | q
  · obtain ⟨m, hm, e⟩ := fl_s_lo i j q
    exact ⟨_, e, (o.ob (by omega)).2⟩
  · rw [fl_s_hi i j q]
    exact o.2.2 j hj
/-- the objects that are left -/
theorem sh_fl_O (K : sh_K x aR aO aH aT rt ta h) {n : Nat} (o : sh_O x aO n h) : sh_K x aR aO aH aT rt ta (sh_fl x aO n h) ∧ sh_O x aO (fl_s x aO h n).1 (sh_fl x aO n h) := by
  have hle := fl_s_le (x := x) (aO := aO) (h := h) n
  have K2 : (fl_s x aO h n).2.1 x = some (0, 0) := (fl_s_K K n).kx
  refine ⟨((fl_s_K K n).uk K2 (by decide)).uk K2 (by decide), ⟨by have := o.1; omega, ?_, fun j hj => ?_⟩⟩
  · exact (th_ui_k _ _ _ (by decide)).trans (th_ui_s _ _ _ _)
  · obtain ⟨m, hm, e⟩ := fl_s_lo n j hj
    exact ⟨_, e, by show (fl_s x aO h n).2.1 _ = _; rw [fl_s_k]; exact (o.ob hm).2⟩
theorem sh_eh_K (K : sh_K x aR aO aH aT rt ta h) {n : Nat} (o : sh_O x aO n h) (z : Int32) {t : Nat} (ht : h.1 t = some (1, 0)) : sh_K x aR aO aH aT rt ta (sh_eh aO n rt z t h) := by
  have kr : ∀ j, j < 4 → h.1 (rt j) = some (2, 0) := fun j hj => K.krt hj
  have k4 : (en_h z (h.2.1 t 0) rt h 4).1 = h.1 := en_h_k z _ rt h 4
  have K4 := en_h_K K z (h.2.1 t 0) rt 4 kr
  have Kn := en_h_K K4 z (h.2.1 t 0) (vw_ob aO h) n (fun j hj => by rw [k4]; exact (o.ob hj).2)
  have kt : (en_h z (h.2.1 t 0) (vw_ob aO h) (en_h z (h.2.1 t 0) rt h 4) n).1 t = some (1, 0) := by rw [en_h_k, k4]; exact ht
  exact (Kn.uk kt (by decide)).uk kt (by decide)
theorem sh_eh_k (n : Nat) (z : Int32) (t : Nat) (h : th_S) : (sh_eh aO n rt z t h).1 = h.1 := (en_h_k z _ _ _ n).trans (en_h_k z _ rt h 4)
theorem sh_eh_n (K : sh_K x aR aO aH aT rt ta h) {n : Nat} (o : sh_O x aO n h) (z : Int32) {t b : Nat} (ht : h.1 t = some (1, 0)) {tt : Nat × Nat} (hb : h.1 b = some tt) (h3 : tt ≠ (3, 0)) : (sh_eh aO n rt z t h).2.2 b = h.2.2 b ∧ (tt ≠ (2, 0) → b ≠ t → (sh_eh aO n rt z t h).2.1 b = h.2.1 b) := by
  have kr : ∀ j, j < 4 → h.1 (rt j) = some (2, 0) := fun j hj => K.krt hj
  have k4 : (en_h z (h.2.1 t 0) rt h 4).1 = h.1 := en_h_k z _ rt h 4
  have K4 := en_h_K K z (h.2.1 t 0) rt 4 kr
  obtain ⟨a1, a2⟩ := en_h_n K z (h.2.1 t 0) rt hb h3 4 kr
  obtain ⟨b1, b2⟩ := en_h_n K4 z (h.2.1 t 0) (vw_ob aO h) (b := b) (t := tt) (by rw [k4]; exact hb) h3 n (fun j hj => by rw [k4]; exact (o.ob hj).2)
  refine ⟨b1.trans a1, fun h2 hne => ?_⟩
  refine Eq.trans (funext fun j => ?_) ((b2 h2).trans (a2 h2))
  exact (th_ui_n _ _ _ _ hne).trans (th_ui_n _ _ _ _ hne)
theorem sh_eh_O (K : sh_K x aR aO aH aT rt ta h) {n : Nat} (o : sh_O x aO n h) (z : Int32) {t : Nat} (ht : h.1 t = some (1, 0)) : sh_O x aO n (sh_eh aO n rt z t h) := by
  have hx := sh_eh_n K o z ht K.kx (by decide)
  have ho := sh_eh_n K o z ht K.kO (by decide)
  refine ⟨o.1, by rw [hx.2 (by decide) (th_kne K.kx ht (by decide))]; exact o.2.1, fun i hi => ?_⟩
  rw [ho.1, sh_eh_k]
  exact o.2.2 i hi
end FLS
/-- a crash: the active transactions end one after the other -/
def cr_s (aO n : Nat) (rt ta : Nat → Nat) (h : th_S) : Nat → Int32 × th_S
  | 0 => (0, h)
  | i + 1 => if (cr_s aO n rt ta h i).2.2.1 (ta i) 0 = 0 then cr_s aO n rt ta h i else ((cr_s aO n rt ta h i).1 + 1, sh_eh aO n rt 0 (ta i) (cr_s aO n rt ta h i).2)
theorem cr_s_I {x aR aO aH aT : Nat} {rt ta : Nat → Nat} {h : th_S} (K : sh_K x aR aO aH aT rt ta h) {n : Nat} (o : sh_O x aO n h) : ∀ i, i ≤ 3 → sh_K x aR aO aH aT rt ta (cr_s aO n rt ta h i).2 ∧ sh_O x aO n (cr_s aO n rt ta h i).2
  | 0, _ => ⟨K, o⟩
  | i + 1, hi => by
    obtain ⟨K1, o1⟩ := cr_s_I K o i (by omega)
    unfold cr_s
    split
    · exact ⟨K1, o1⟩
    · exact ⟨sh_eh_K K1 o1 0 (K1.kta (by omega)), sh_eh_O K1 o1 0 (K1.kta (by omega))⟩

/-! holding: the row of held objects and its length k -/
def ho_h (x aH : Nat) (s : Nat × th_S) (r : Option Nat) : th_S := match r with
  | none => s.2
  | some a => if s.2.2.1 a 3 = 0 ∧ s.1 < 80 then th_ui (th_ur (th_ui s.2 a 3 1) aH s.1 (some a)) x 5 (nI (s.1 + 1)) else s.2
def ho_k (s : Nat × th_S) (r : Option Nat) : Nat := match r with
  | none => s.1
  | some a => if s.2.2.1 a 3 = 0 ∧ s.1 < 80 then s.1 + 1 else s.1
def ho_s (x aH : Nat) (s : Nat × th_S) (r : Option Nat) : Nat × th_S := (ho_k s r, ho_h x aH s r)
/-- the count is in the object, and within the row -/
def ho_C (x : Nat) (s : Nat × th_S) : Prop := s.2.2.1 x 5 = nI s.1 ∧ s.1 ≤ 80
theorem ho_h_k (x aH : Nat) (s : Nat × th_S) (r : Option Nat) : (ho_h x aH s r).1 = s.2.1 := by
  unfold ho_h
  split
  · rfl
  · split <;> rfl
theorem ho_h_r (x aH : Nat) (s : Nat × th_S) (r : Option Nat) {b : Nat} (hb : b ≠ aH) : (ho_h x aH s r).2.2 b = s.2.2.2 b := by
  unfold ho_h
  split
  · rfl
  · split
    · simp [th_ui, th_ur, va_up, hb]
    · rfl
/-- an int changes only at the count and at a mark -/
theorem ho_h_i (x aH : Nat) (s : Nat × th_S) (r : Option Nat) {b j : Nat} (h5 : b = x → j ≠ 5) (h3 : j ≠ 3 ∨ r ≠ some b) : (ho_h x aH s r).2.1 b j = s.2.2.1 b j := by
  unfold ho_h
  split
  · rfl
  · rename_i a
    split
    · show (th_ui (th_ur (th_ui s.2 a 3 1) aH s.1 (some a)) x 5 (nI (s.1 + 1))).2.1 b j = s.2.2.1 b j
      have e1 : (th_ui (th_ur (th_ui s.2 a 3 1) aH s.1 (some a)) x 5 (nI (s.1 + 1))).2.1 b j = (th_ui s.2 a 3 1).2.1 b j := by
        by_cases hx : b = x
        · rw [hx]; exact th_ui_k _ _ _ (h5 hx)
        · exact th_ui_n _ _ _ _ hx
      rw [e1]
      by_cases ha : b = a
      · rw [ha]
        exact th_ui_k _ _ _ (h3.elim id (fun q => absurd (by rw [ha]) q))
      · exact th_ui_n _ _ _ _ ha
    · rfl
section HOK
variable {x aR aO aH aT : Nat} {rt ta : Nat → Nat} {s : Nat × th_S}
theorem ho_s_K (K : sh_K x aR aO aH aT rt ta s.2) {r : Option Nat} (hr : ∀ b, r = some b → s.2.1 b = some (2, 0)) : sh_K x aR aO aH aT rt ta (ho_s x aH s r).2 := by
  show sh_K x aR aO aH aT rt ta (ho_h x aH s r)
  unfold ho_h
  split
  · exact K
  · rename_i a
    split
    · exact ((K.uk (hr a rfl) (by decide)).urA (Or.inr rfl)).uk K.kx (by decide)
    · exact K
theorem ho_s_C (K : sh_K x aR aO aH aT rt ta s.2) (hC : ho_C x s) {r : Option Nat} (hr : ∀ b, r = some b → s.2.1 b = some (2, 0)) : ho_C x (ho_s x aH s r) := by
  unfold ho_C ho_s ho_h ho_k
  split
  · exact hC
  · rename_i a
    by_cases hc : s.2.2.1 a 3 = 0 ∧ s.1 < 80
    · simp only [if_pos hc]
      exact ⟨th_ui_s _ _ _ _, hc.2⟩
    · simp only [if_neg hc]
      exact hC
theorem ho_s_O {n : Nat} (K : sh_K x aR aO aH aT rt ta s.2) (o : sh_O x aO n s.2) (r : Option Nat) : sh_O x aO n (ho_s x aH s r).2 := by
  have e1 : (ho_s x aH s r).2.1 = s.2.1 := ho_h_k x aH s r
  have e2 : (ho_s x aH s r).2.2.2 aO = s.2.2.2 aO := ho_h_r x aH s r K.2.2.1.2.2
  refine ⟨o.1, ?_, fun i hi => ?_⟩
  · rw [show (ho_s x aH s r).2.2.1 x 4 = s.2.2.1 x 4 from ho_h_i x aH s r (fun _ => by decide) (Or.inl (by decide))]
    exact o.2.1
  · rw [e1, e2]
    exact o.2.2 i hi
end HOK
/-- all that the places pp 0, pp 1 .. refer to, and referred to before -/
def ht_s (x aH : Nat) (pp : Nat → Nat) (s : Nat × th_S) : Nat → Nat × th_S
  | 0 => s
  | j + 1 => ho_s x aH (ho_s x aH (ht_s x aH pp s j) (s.2.2.2 (pp j) 2)) (s.2.2.2 (pp j) 6)
section HTK
variable {x aR aO aH aT : Nat} {rt ta : Nat → Nat} {s : Nat × th_S}
theorem ht_s_k (pp : Nat → Nat) : ∀ n, (ht_s x aH pp s n).2.1 = s.2.1
  | 0 => rfl
  | n + 1 => (ho_h_k x aH _ _).trans ((ho_h_k x aH _ _).trans (ht_s_k pp n))
theorem ht_s_r (pp : Nat → Nat) {b : Nat} (hb : b ≠ aH) : ∀ n, (ht_s x aH pp s n).2.2.2 b = s.2.2.2 b
  | 0 => rfl
  | n + 1 => (ho_h_r x aH _ _ hb).trans ((ho_h_r x aH _ _ hb).trans (ht_s_r pp hb n))
theorem ht_s_all (K : sh_K x aR aO aH aT rt ta s.2) (hC : ho_C x s) {n0 : Nat} (o : sh_O x aO n0 s.2) (pp : Nat → Nat) : ∀ n, (∀ j, j < n → s.2.1 (pp j) = some (3, 0)) → sh_K x aR aO aH aT rt ta (ht_s x aH pp s n).2 ∧ ho_C x (ht_s x aH pp s n) ∧ sh_O x aO n0 (ht_s x aH pp s n).2
  | 0, _ => ⟨K, hC, o⟩
  | n + 1, hp => by
    obtain ⟨k1, c1, o1⟩ := ht_s_all K hC o pp n (fun j hj => hp j (Nat.lt_succ_of_lt hj))
    have e0 : (ht_s x aH pp s n).2.1 = s.2.1 := ht_s_k pp n
    have t1 : ∀ b, s.2.2.2 (pp n) 2 = some b → (ht_s x aH pp s n).2.1 b = some (2, 0) := fun b hb => by rw [e0]; exact (K.pl (hp n (Nat.lt_succ_self n))).2.2.2.1 b hb
    have t2 : ∀ b, s.2.2.2 (pp n) 6 = some b → (ho_s x aH (ht_s x aH pp s n) (s.2.2.2 (pp n) 2)).2.1 b = some (2, 0) := fun b hb => by
      rw [show (ho_s x aH (ht_s x aH pp s n) (s.2.2.2 (pp n) 2)).2.1 = (ht_s x aH pp s n).2.1 from ho_h_k x aH _ _, e0]
      exact (K.pl (hp n (Nat.lt_succ_self n))).2.2.2.2 b hb
    have k2 := ho_s_K k1 t1
    have c2 := ho_s_C k1 c1 t1
    have o2 := ho_s_O k1 o1 (s.2.2.2 (pp n) 2)
    exact ⟨ho_s_K k2 t2, ho_s_C k2 c2 t2, ho_s_O k2 o2 _⟩
end HTK

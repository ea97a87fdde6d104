/-! what the model calls held: the least set -/
def mo_cb (S : th_N) (u : Nat) (P : Nat → Prop) : Prop := (∀ r, r < 80 → ¬ S.2 1 r ≤ 0 → ¬ S.2 3 r ≤ 0 → P r) ∧ (∀ k, k < 4 → ∀ r, mo_rw S (S.2 7 k) r → P r) ∧ (∀ k, k < u → ¬ S.2 18 k = 0 → ∀ r, mo_rw S (S.2 19 k) r → P r)
def mo_cc (S : th_N) (P : Nat → Prop) : Prop := ∀ c, c < 320 → P (c / 4) → ¬ S.2 4 c = 0 → ¬ S.2 2 (c / 4) ≤ nI (c % 4) → ∀ r, mo_rw S (S.2 5 c) r → P r
def mo_sd (S : th_N) (u : Nat) (g : Nat → Int32) : Prop := ∀ P : Nat → Prop, mo_cb S u P → mo_cc S P → ∀ r, r < 80 → ¬ g r = 0 → P r
def mo_hd (S : th_N) (u : Nat) (g : Nat → Int32) : Prop := mo_cb S u (fun r => ¬ g r = 0) ∧ mo_cc S (fun r => ¬ g r = 0) ∧ mo_sd S u g
def mo_hc (g : Nat → Int32) (n : Nat) : Nat := ct (fun r => ¬ g r = 0) n
def mo_ho (S : th_N) (b : Int32) (g g' : Nat → Int32) : Prop := (∀ r, ¬ g r = 0 → ¬ g' r = 0) ∧ (∀ r, mo_rw S b r → ¬ g' r = 0) ∧ (∀ r, ¬ g' r = 0 → ¬ g r = 0 ∨ mo_rw S b r)
theorem mo_rw_u {S : th_N} {b : Int32} {r r' : Nat} (h : mo_rw S b r) (h' : mo_rw S b r') : r' = r := by
  obtain ⟨a1, a2, a3, a4⟩ := h
  obtain ⟨b1, b2, b3, b4⟩ := h'
  rcases Nat.lt_trichotomy r r' with q | q | q
  · exact absurd a3 (b4 r q)
  · exact q.symm
  · exact absurd b3 (a4 r' q)
theorem mo_ho.row {S : th_N} {b : Int32} {r : Nat} (h : mo_rw S b r) : mo_ho S b (S.2 6) (va_up (S.2 6) r 1) := by
  refine ⟨fun r' hr => ?_, fun r' hr => ?_, fun r' hr => ?_⟩
  · by_cases e : r' = r
    · rw [e, va_up_self]; decide
    · rw [va_up_ne _ _ e]; exact hr
  · rw [mo_rw_u h hr, va_up_self]; decide
  · by_cases e : r' = r
    · rw [e]; exact Or.inr h
    · rw [va_up_ne _ _ e] at hr; exact Or.inl hr
theorem mo_ho.no {S : th_N} {b : Int32} (h : mo_nr S b) : mo_ho S b (S.2 6) (S.2 6) := ⟨fun _ h => h, fun r hr => absurd ⟨hr.2.1, hr.2.2.1⟩ (h r hr.1), fun _ h => Or.inl h⟩
theorem sw_sw (S : th_N) (j : Nat) (f g : Nat → Int32) : sw (sw S j f) j g = sw S j g := by
  refine Prod.ext rfl (funext fun i => ?_)
  by_cases e : i = j
  · rw [e, sw_e, sw_e]
  · rw [sw_n _ _ e, sw_n _ _ e, sw_n _ _ e]
theorem mo_cb.mono {S : th_N} {u : Nat} {P Q : Nat → Prop} (h : mo_cb S u P) (hq : ∀ r, P r → Q r) : mo_cb S u Q :=
  ⟨fun r a b c => hq r (h.1 r a b c), fun k a r b => hq r (h.2.1 k a r b), fun k a b r c => hq r (h.2.2 k a b r c)⟩
theorem mo_sd.ho {S : th_N} {u : Nat} {g g' : Nat → Int32} {b : Int32} (h : mo_sd S u g) (hh : mo_ho S b g g') (hb : ∀ P, mo_cb S u P → mo_cc S P → ∀ r, mo_rw S b r → P r) : mo_sd S u g' := fun P p1 p2 r hr hg => (hh.2.2 r hg).elim (fun q => h P p1 p2 r hr q) (fun q => hb P p1 p2 r q)
/-- a pass that adds nothing: closed -/
theorem mo_cl_of {S : th_N} {g g' : Nat → Int32} {a : Nat} (ha : a ≤ mo_hc g 80) (hsub : ∀ r, ¬ g r = 0 → ¬ g' r = 0) (hp : ∀ c, c < 320 → ¬ g (c / 4) = 0 → ¬ S.2 4 c = 0 → ¬ S.2 2 (c / 4) ≤ nI (c % 4) → ∀ r, mo_rw S (S.2 5 c) r → ¬ g' r = 0) (he : mo_hc g' 80 = a) : mo_cc S (fun r => ¬ g' r = 0) := by
  have hs := ct_same (p := fun r => ¬ g r = 0) (q := fun r => ¬ g' r = 0) 80 (fun r _ h => hsub r h) (by unfold mo_hc at ha he; omega)
  intro c hc h1 h2 h3 r hr
  exact hp c hc (hs (c / 4) (by omega) h1) h2 h3 r hr
/-! collect of the model -/
def sm (f : Nat → Nat) : Nat → Nat
  | 0 => 0
  | n + 1 => sm f n + f n
def mo_wt (S : th_N) (g : Nat → Int32) (r : Nat) : Nat := if ¬ S.2 1 r ≤ 0 ∧ ¬ g r = 0 then 1 + (S.2 2 r).toNatClampNeg else 0
abbrev mo_dd (S : th_N) (g : Nat → Int32) (r : Nat) : Prop := ¬ S.2 1 r ≤ 0 ∧ g r = 0
def mo_cl (S : th_N) (g : Nat → Int32) (i : Nat) : th_N := su (sw (sw (su S 0 0) 6 g) 1 (cf i (mo_dd S g) (S.2 1))) 10 (nI (sm (mo_wt S g) i))
theorem mo_cl_0 (S : th_N) (g : Nat → Int32) : mo_cl S g 0 = su (sw (su S 0 0) 6 g) 10 0 := by
  unfold mo_cl
  rw [cf_0]
  have e := sw_self (sw (su S 0 0) 6 g) 1
  rw [sw_n _ _ (by decide)] at e
  rw [show sw (sw (su S 0 0) 6 g) 1 (S.2 1) = sw (su S 0 0) 6 g from e]
  rfl
theorem mo_cl_1 (S : th_N) (g : Nat → Int32) (i : Nat) : (mo_cl S g i).2 1 i = S.2 1 i := by
  show (sw (sw (su S 0 0) 6 g) 1 (cf i (mo_dd S g) (S.2 1))).2 1 i = _
  rw [sw_e, cf_i]
theorem mo_cl_6 (S : th_N) (g : Nat → Int32) (i : Nat) : (mo_cl S g i).2 6 i = g i := by
  show (sw (sw (su S 0 0) 6 g) 1 (cf i (mo_dd S g) (S.2 1))).2 6 i = _
  rw [sw_n _ _ (by decide), sw_e]
theorem mo_cl_2 (S : th_N) (g : Nat → Int32) (i : Nat) : (mo_cl S g i).2 2 i = S.2 2 i := by
  show (sw (sw (su S 0 0) 6 g) 1 (cf i (mo_dd S g) (S.2 1))).2 2 i = _
  rw [sw_n _ _ (by decide), sw_n _ _ (by decide)]
  rfl
theorem mo_cl_u (S : th_N) (g : Nat → Int32) (i : Nat) : (mo_cl S g i).1 10 = nI (sm (mo_wt S g) i) := by simp [mo_cl, su, va_up]
theorem mo_cl_a (S : th_N) (g : Nat → Int32) {i : Nat} (h : S.2 1 i ≤ 0) : mo_cl S g i = mo_cl S g (i + 1) := by
  unfold mo_cl
  rw [cf_n (fun q => q.1 h), sm, show mo_wt S g i = 0 from if_neg (fun q => q.1 h)]
  rfl
theorem mo_cl_b (S : th_N) (g : Nat → Int32) {i : Nat} (h1 : ¬ S.2 1 i ≤ 0) (h2 : g i = 0) : sa (mo_cl S g i) 1 i 0 = mo_cl S g (i + 1) := by
  have e : sa (mo_cl S g i) 1 i 0 = su (sa (sw (sw (su S 0 0) 6 g) 1 (cf i (mo_dd S g) (S.2 1))) 1 i 0) 10 (nI (sm (mo_wt S g) i)) := rfl
  rw [e, sw_sa, cf_s (p := mo_dd S g) ⟨h1, h2⟩]
  unfold mo_cl
  rw [sm, show mo_wt S g i = 0 from if_neg (fun q => q.2 h2)]
  rfl
theorem mo_cl_c (S : th_N) (g : Nat → Int32) {i z : Nat} (h1 : ¬ S.2 1 i ≤ 0) (h2 : ¬ g i = 0) (hz : S.2 2 i = nI z) (hz4 : z ≤ 4) : su (mo_cl S g i) 10 (nI (sm (mo_wt S g) i + (1 + z))) = mo_cl S g (i + 1) := by
  have ew : mo_wt S g i = 1 + z := by
    unfold mo_wt
    rw [if_pos ⟨h1, h2⟩, hz, nI_clamp (by omega)]
  have e : ∀ T : th_N, ∀ a b : Int32, su (su T 10 a) 10 b = su T 10 b := fun T a b => by
    refine Prod.ext (funext fun k => ?_) rfl
    by_cases ek : k = 10
    · subst ek; simp [su, va_up]
    · simp [su, va_up, ek]
  unfold mo_cl
  rw [e, cf_n (p := mo_dd S g) (fun q => h2 q.2), sm, ew]
/-! a new model -/
def mo_I (o : Nat) (h : th_S) (L : List Nat) (A : Nat → Nat) (u : th_S) : Prop :=
  u.1 o = some (10, 0) ∧ (∀ j, j ∈ L → u.2.2 o j = some (A j) ∧ u.1 (A j) = some (mo_len j) ∧ (∀ r, u.2.1 (A j) r = 0) ∧ h.1 (A j) = none) ∧ (∀ i j, i ∈ L → j ∈ L → A i = A j → i = j) ∧ (∀ b t, h.1 b = some t → u.1 b = some t ∧ u.2.1 b = h.2.1 b ∧ (b ≠ o → u.2.2 b = h.2.2 b)) ∧ (∀ b t, u.1 b = some t → h.1 b = some t ∨ 7 ≤ t.1)
theorem mo_I.zero {o : Nat} {h : th_S} (ho : h.1 o = some (10, 0)) : mo_I o h [] (fun _ => 0) h := ⟨ho, fun j hj => (by cases hj), fun i j hi => (by cases hi), fun b t hb => ⟨hb, rfl, fun _ => rfl⟩, fun b t hb => Or.inl hb⟩
theorem mo_I.step {o : Nat} {h : th_S} {L : List Nat} {A : Nat → Nat} {u : th_S} (hI : mo_I o h L A u) {q j : Nat} (hq : u.1 q = none) (hj : j ∉ L) (hl : 7 ≤ (mo_len j).1) : mo_I o h (j :: L) (va_up A j q) (th_ur (th_un u q (mo_len j)) o j (some q)) := by
  obtain ⟨h1, h2, h3, h4, h5⟩ := hI
  have hoq : o ≠ q := fun e => by rw [e, hq] at h1; cases h1
  have nq : ∀ {b : Nat} {t : Nat × Nat}, u.1 b = some t → b ≠ q := fun hb e => by rw [e, hq] at hb; cases hb
  have hnone : h.1 q = none := by
    cases e : h.1 q with
    | none => rfl
    | some t => rw [(h4 q t e).1] at hq; cases hq
  have ne : ∀ {i : Nat}, i ∈ L → i ≠ j := fun hi e => hj (by rw [← e]; exact hi)
  refine ⟨th_un_k hq h1, fun i hi => ?_, fun i k hi hk he => ?_, fun b t hb => ?_, fun b t hb => ?_⟩
  · rcases List.mem_cons.mp hi with e | hi
    · subst e
      rw [va_up_self]
      refine ⟨th_ur_s _ _ _ _, th_un_self _ _ _, fun r => by simp [th_ur, th_un, va_up], hnone⟩
    · obtain ⟨a1, a2, a3, a4⟩ := h2 i hi
      rw [va_up_ne _ _ (ne hi)]
      refine ⟨?_, th_un_k hq a2, fun r => ?_, a4⟩
      · rw [th_ur_k _ _ _ (ne hi), th_un_r (t := mo_len j) hoq]; exact a1
      · show (th_un u q (mo_len j)).2.1 (A i) r = 0
        rw [th_un_i (t := mo_len j) (nq a2)]; exact a3 r
  · rcases List.mem_cons.mp hi with e | hi
    · rcases List.mem_cons.mp hk with e' | hk
      · rw [e, e']
      · rw [e, va_up_self, va_up_ne _ _ (ne hk)] at he
        exact absurd he.symm (nq (h2 k hk).2.1)
    · rcases List.mem_cons.mp hk with e' | hk
      · rw [e', va_up_self, va_up_ne _ _ (ne hi)] at he
        exact absurd he (nq (h2 i hi).2.1)
      · rw [va_up_ne _ _ (ne hi), va_up_ne _ _ (ne hk)] at he
        exact h3 i k hi hk he
  · obtain ⟨b1, b2, b3⟩ := h4 b t hb
    refine ⟨th_un_k hq b1, (funext fun r => th_un_i (t := mo_len j) (nq b1)).trans b2, fun hbo => (funext fun r => ?_).trans (b3 hbo)⟩
    exact (th_ur_n _ _ _ _ hbo).trans (th_un_r (t := mo_len j) (nq b1))
  · have hb : (th_un u q (mo_len j)).1 b = some t := hb
    by_cases e : b = q
    · rw [e, th_un_self] at hb
      cases hb
      exact Or.inr hl
    · rw [th_un_ne e] at hb
      exact h5 b t hb

/-! counting, rows in closed form, the undo list -/
def ct (p : Nat → Prop) [DecidablePred p] : Nat → Nat
  | 0 => 0
  | n + 1 => ct p n + if p n then 1 else 0
theorem ct_s {p : Nat → Prop} [DecidablePred p] {n : Nat} (h : p n) : ct p (n + 1) = ct p n + 1 := by rw [ct, if_pos h]
theorem ct_n {p : Nat → Prop} [DecidablePred p] {n : Nat} (h : ¬ p n) : ct p (n + 1) = ct p n := by rw [ct, if_neg h]; rfl
theorem ct_le (p : Nat → Prop) [DecidablePred p] : ∀ n, ct p n ≤ n
  | 0 => Nat.le_refl 0
  | n + 1 => by
    have := ct_le p n
    unfold ct
    split <;> omega
theorem ct_cg {p q : Nat → Prop} [DecidablePred p] [DecidablePred q] : ∀ n, (∀ r, r < n → (p r ↔ q r)) → ct p n = ct q n
  | 0, _ => rfl
  | n + 1, h => by
    unfold ct
    rw [ct_cg n (fun r hr => h r (by omega))]
    by_cases e : p n
    · rw [if_pos e, if_pos ((h n (by omega)).mp e)]
    · rw [if_neg e, if_neg (fun q => e ((h n (by omega)).mpr q))]
theorem ct_mono {p q : Nat → Prop} [DecidablePred p] [DecidablePred q] : ∀ n, (∀ r, r < n → p r → q r) → ct p n ≤ ct q n
  | 0, _ => Nat.le_refl 0
  | n + 1, h => by
    have := ct_mono n (fun r hr => h r (by omega))
    unfold ct
    by_cases e : p n
    · rw [if_pos e, if_pos (h n (by omega) e)]; omega
    · rw [if_neg e]; split <;> omega
/-- a set that is no larger is the same -/
theorem ct_same {p q : Nat → Prop} [DecidablePred p] [DecidablePred q] : ∀ n, (∀ r, r < n → p r → q r) → ct q n ≤ ct p n → ∀ r, r < n → q r → p r
  | 0, _, _, r, hr, _ => absurd hr (Nat.not_lt_zero r)
  | n + 1, h, hc, r, hr, hq => by
    have hm := ct_mono n (fun r hr => h r (by omega))
    unfold ct at hc
    by_cases e : p n
    · rw [if_pos e, if_pos (h n (by omega) e)] at hc
      by_cases er : r = n
      · rw [er]; exact e
      · exact ct_same n (fun r hr => h r (by omega)) (by omega) r (by omega) hq
    · rw [if_neg e] at hc
      by_cases eq : q n
      · rw [if_pos eq] at hc; omega
      · rw [if_neg eq] at hc
        have er : r ≠ n := fun z => eq (by rw [← z]; exact hq)
        exact ct_same n (fun r hr => h r (by omega)) (by omega) r (by omega) hq
/-- a row whose first i entries are done -/
def cf (i : Nat) (p : Nat → Prop) [DecidablePred p] (f : Nat → Int32) : Nat → Int32 := fun r => if r < i ∧ p r then 0 else f r
theorem cf_0 (p : Nat → Prop) [DecidablePred p] (f : Nat → Int32) : cf 0 p f = f := by
  funext r
  unfold cf
  rw [if_neg (fun q => absurd q.1 (Nat.not_lt_zero r))]
theorem cf_i (i : Nat) (p : Nat → Prop) [DecidablePred p] (f : Nat → Int32) : cf i p f i = f i := by
  unfold cf
  rw [if_neg (fun q => absurd q.1 (Nat.lt_irrefl i))]
theorem cf_s {i : Nat} {p : Nat → Prop} [DecidablePred p] {f : Nat → Int32} (h : p i) : va_up (cf i p f) i 0 = cf (i + 1) p f := by
  funext r
  by_cases e : r = i
  · rw [e, va_up_self]
    unfold cf
    rw [if_pos ⟨Nat.lt_succ_self i, h⟩]
  · rw [va_up_ne _ _ e]
    unfold cf
    by_cases c : r < i ∧ p r
    · rw [if_pos c, if_pos ⟨by omega, c.2⟩]
    · rw [if_neg c, if_neg (fun q => c ⟨by omega, q.2⟩)]
theorem cf_n {i : Nat} {p : Nat → Prop} [DecidablePred p] {f : Nat → Int32} (h : ¬ p i) : cf i p f = cf (i + 1) p f := by
  funext r
  unfold cf
  by_cases c : r < i ∧ p r
  · rw [if_pos c, if_pos ⟨by omega, c.2⟩]
  · rw [if_neg c, if_neg (fun q => c ⟨by
      have : r ≠ i := fun z => h (by rw [← z]; exact q.2)
      omega, q.2⟩)]
theorem sw_sa (S : th_N) (j r : Nat) (f : Nat → Int32) (v : Int32) : sa (sw S j f) j r v = sw S j (va_up f r v) := by
  refine Prod.ext rfl (funext fun i => ?_)
  show va_up (va_up S.2 j f) j (va_up (va_up S.2 j f j) r v) i = va_up S.2 j (va_up f r v) i
  by_cases e : i = j
  · rw [e, va_up_self, va_up_self, va_up_self]
  · rw [va_up_ne _ _ e, va_up_ne _ _ e, va_up_ne _ _ e]
theorem sw_g (S : th_N) (j : Nat) (f : Nat → Int32) (r : Nat) : (sw S j f).2 j r = f r := by
  show va_up S.2 j f j r = f r
  rw [va_up_self]
theorem sw_e (S : th_N) (j : Nat) (f : Nat → Int32) : (sw S j f).2 j = f := va_up_self _ _ _
theorem sw_n (S : th_N) {i j : Nat} (f : Nat → Int32) (h : i ≠ j) : (sw S j f).2 i = S.2 i := va_up_ne _ _ h
theorem sa_e (S : th_N) (j r : Nat) (v : Int32) : (sa S j r v).2 j = va_up (S.2 j) r v := va_up_self _ _ _
theorem sa_n (S : th_N) {i j : Nat} (r : Nat) (v : Int32) (h : i ≠ j) : (sa S j r v).2 i = S.2 i := va_up_ne _ _ h
theorem sa_sw (S : th_N) {i j : Nat} (r : Nat) (f : Nat → Int32) (v : Int32) (h : i ≠ j) : sa (sw S j f) i r v = sw (sa S i r v) j f := by
  refine Prod.ext rfl (funext fun k => ?_)
  by_cases e : k = j
  · rw [e, sw_e, sa_n _ _ _ (Ne.symm h), sw_e]
  · rw [sw_n _ _ e]
    by_cases e2 : k = i
    · rw [e2, sa_e, sa_e, sw_n _ _ h]
    · rw [sa_n _ _ _ e2, sa_n _ _ _ e2, sw_n _ _ e]
theorem sw_self (S : th_N) (j : Nat) : sw S j (S.2 j) = S := by
  refine Prod.ext rfl (funext fun i => ?_)
  show va_up S.2 j (S.2 j) i = S.2 i
  by_cases e : i = j
  · rw [e, va_up_self]
  · rw [va_up_ne _ _ e]
/-! unlock -/
abbrev mo_ul1 (S : th_N) (t : Int32) (r : Nat) : Prop := ¬ S.2 1 r = 0 ∧ S.2 3 r = t
abbrev mo_ul2 (S : th_N) (t : Int32) (r : Nat) : Prop := S.2 8 r = t
def mo_un (S : th_N) (t : Int32) (i k : Nat) : th_N := sw (sw S 3 (cf i (mo_ul1 S t) (S.2 3))) 8 (cf k (mo_ul2 S t) (S.2 8))
theorem mo_un_00 (S : th_N) (t : Int32) : mo_un S t 0 0 = S := by
  unfold mo_un
  rw [cf_0, cf_0, sw_self]
  exact sw_self S 8
theorem mo_un_lk (S : th_N) (t : Int32) (i k : Nat) : (mo_un S t i k).2 3 i = S.2 3 i := by
  unfold mo_un
  rw [sw_n _ _ (by decide), sw_e, cf_i]
theorem mo_un_rk (S : th_N) (t : Int32) (i k : Nat) : (mo_un S t i k).2 8 k = S.2 8 k := by
  unfold mo_un
  rw [sw_e, cf_i]
theorem mo_un_s (S : th_N) (t : Int32) {i : Nat} (h : mo_ul1 S t i) : sa (mo_un S t i 0) 3 i 0 = mo_un S t (i + 1) 0 := by
  unfold mo_un
  rw [sa_sw _ _ _ _ (by decide), sw_sa, cf_s h]
theorem mo_un_n (S : th_N) (t : Int32) {i : Nat} (h : ¬ mo_ul1 S t i) : mo_un S t i 0 = mo_un S t (i + 1) 0 := by
  unfold mo_un
  rw [cf_n h]
theorem mo_un_s2 (S : th_N) (t : Int32) {i k : Nat} (h : mo_ul2 S t k) : sa (mo_un S t i k) 8 k 0 = mo_un S t i (k + 1) := by
  unfold mo_un
  rw [sw_sa, cf_s h]
theorem mo_un_n2 (S : th_N) (t : Int32) {i k : Nat} (h : ¬ mo_ul2 S t k) : mo_un S t i k = mo_un S t i (k + 1) := by
  unfold mo_un
  rw [cf_n (p := mo_ul2 S t) h]
def mo_uc (S : th_N) (t : Int32) : Nat := ct (mo_ul1 S t) 80 + ct (mo_ul2 S t) 4
/-! the undo list -/
def mo_e (S : th_N) (k : Nat) : Int32 × Int32 × Int32 × Int32 := (S.2 16 k, S.2 17 k, S.2 18 k, S.2 19 k)
def mo_ul (S : th_N) (u : Nat) : List (Int32 × Int32 × Int32 × Int32) := (List.range u).map (mo_e S)
theorem mo_ul_s (S : th_N) (u : Nat) : mo_ul S (u + 1) = mo_ul S u ++ [mo_e S u] := by simp [mo_ul, List.range_succ]
theorem mo_ul_cg {S U : th_N} {u : Nat} (h : ∀ k, k < u → mo_e U k = mo_e S k) : mo_ul U u = mo_ul S u := by
  unfold mo_ul
  exact List.map_congr_left (fun k hk => h k (List.mem_range.mp hk))
theorem mo_ul_mem {S : th_N} {u : Nat} {e : Int32 × Int32 × Int32 × Int32} : e ∈ mo_ul S u ↔ ∃ k, k < u ∧ mo_e S k = e := by simp [mo_ul]
def mo_back (T : th_N) (e : Int32 × Int32 × Int32 × Int32) : th_N := mo_as T e.2.1.toNatClampNeg e.2.2.1 e.2.2.2
def mo_bk (S : th_N) (b : Int32) (L : List (Int32 × Int32 × Int32 × Int32)) : th_N := if b = 0 then S else L.foldl mo_back S
theorem mo_as_cg {U V : th_N} (h : ∀ j, j < 16 → U.2 j = V.2 j) (c : Nat) (b v : Int32) : ∀ j, j < 16 → (mo_as U c b v).2 j = (mo_as V c b v).2 j := by
  intro j hj
  unfold mo_as
  split
  · by_cases e5 : j = 5
    · rw [e5, sa_e, sa_e, sa_n _ _ _ (by decide), sa_n _ _ _ (by decide), h 5 (by decide)]
    · rw [sa_n _ _ _ e5, sa_n _ _ _ e5]
      by_cases e4 : j = 4
      · rw [e4, sa_e, sa_e, h 4 (by decide)]
      · rw [sa_n _ _ _ e4, sa_n _ _ _ e4]
        exact h j hj
  · by_cases e : j = 7
    · rw [e, sa_e, sa_e, h 7 (by decide)]
    · rw [sa_n _ _ _ e, sa_n _ _ _ e]
      exact h j hj
/-- behind i entries: p are kept -/
def mo_fi (S : th_N) (t b : Int32) (i p : Nat) (U : th_N) : Prop :=
  U.1 = S.1 ∧ p ≤ i ∧ mo_ul U p = (mo_ul S i).filter (fun e => !(e.1 == t)) ∧ (∀ k, p ≤ k → mo_e U k = mo_e S k) ∧ (∀ j, j < 16 → U.2 j = (mo_bk S b ((mo_ul S i).filter (fun e => e.1 == t))).2 j) ∧ (∀ j, 20 ≤ j → U.2 j = S.2 j)
theorem mo_fi.zero (S : th_N) (t b : Int32) : mo_fi S t b 0 0 S := ⟨rfl, Nat.le_refl 0, rfl, fun _ _ => rfl, fun j hj => by unfold mo_bk; split <;> rfl, fun _ _ => rfl⟩
theorem mo_fi.skip {S U : th_N} {t : Int32} {i p : Nat} (h : mo_fi S t 0 i p U) (e : S.2 16 i = t) : mo_fi S t 0 (i + 1) p U := by
  obtain ⟨h1, h2, h3, h4, h5, h6⟩ := h
  refine ⟨h1, by omega, ?_, h4, ?_, h6⟩
  · rw [mo_ul_s, List.filter_append, h3]
    simp [mo_e, e]
  · exact h5
theorem mo_fi.back {S U : th_N} {t b : Int32} {i p c : Nat} (h : mo_fi S t b i p U) (hb : ¬ b = 0) (e : S.2 16 i = t) (hc : S.2 17 i = nI c) (hc3 : c < 324) : mo_fi S t b (i + 1) p (mo_as U c (S.2 18 i) (S.2 19 i)) := by
  obtain ⟨h1, h2, h3, h4, h5, h6⟩ := h
  have hj : ∀ j, 16 ≤ j → (mo_as U c (S.2 18 i) (S.2 19 i)).2 j = U.2 j := fun j hj => mo_as_n _ _ _ _ (by omega) (by omega) (by omega)
  have he : ∀ k, mo_e (mo_as U c (S.2 18 i) (S.2 19 i)) k = mo_e U k := fun k => by unfold mo_e; rw [hj 16 (by decide), hj 17 (by decide), hj 18 (by decide), hj 19 (by decide)]
  refine ⟨(mo_as_1 _ _ _ _).trans h1, by omega, ?_, fun k hk => (he k).trans (h4 k hk), ?_, fun j h20 => (hj j (by omega)).trans (h6 j h20)⟩
  · rw [mo_ul_cg (fun k _ => he k), mo_ul_s, List.filter_append, h3]
    simp [mo_e, e]
  · intro j hj
    rw [mo_ul_s, List.filter_append, show [mo_e S i].filter (fun e => e.1 == t) = [mo_e S i] by simp [mo_e, e]]
    have h5' : ∀ j, j < 16 → U.2 j = (((mo_ul S i).filter (fun e => e.1 == t)).foldl mo_back S).2 j := fun j hj => by
      have := h5 j hj
      unfold mo_bk at this
      rw [if_neg hb] at this
      exact this
    unfold mo_bk
    rw [if_neg hb, List.foldl_append]
    show _ = (mo_back _ (mo_e S i)).2 j
    unfold mo_back mo_e
    show _ = (mo_as _ (S.2 17 i).toNatClampNeg (S.2 18 i) (S.2 19 i)).2 j
    rw [hc, nI_clamp (by omega)]
    exact mo_as_cg h5' c _ _ j hj
theorem mo_fi.keep {S U : th_N} {t b : Int32} {i p : Nat} (h : mo_fi S t b i p U) (e : ¬ S.2 16 i = t) : mo_fi S t b (i + 1) (p + 1) (sa (sa (sa (sa U 16 p (S.2 16 i)) 17 p (S.2 17 i)) 18 p (S.2 18 i)) 19 p (S.2 19 i)) := by
  obtain ⟨h1, h2, h3, h4, h5, h6⟩ := h
  have hne : ∀ k, k ≠ p → mo_e (sa (sa (sa (sa U 16 p (S.2 16 i)) 17 p (S.2 17 i)) 18 p (S.2 18 i)) 19 p (S.2 19 i)) k = mo_e U k := fun k hk => by
    simp [mo_e, sa, va_up, hk]
  have hp : mo_e (sa (sa (sa (sa U 16 p (S.2 16 i)) 17 p (S.2 17 i)) 18 p (S.2 18 i)) 19 p (S.2 19 i)) p = mo_e S i := by
    simp [mo_e, sa, va_up]
  have hj : ∀ j, j < 16 ∨ 20 ≤ j → (sa (sa (sa (sa U 16 p (S.2 16 i)) 17 p (S.2 17 i)) 18 p (S.2 18 i)) 19 p (S.2 19 i)).2 j = U.2 j := fun j hj => by
    rw [sa_n _ _ _ (by omega), sa_n _ _ _ (by omega), sa_n _ _ _ (by omega), sa_n _ _ _ (by omega)]
  refine ⟨h1, by omega, ?_, fun k hk => (hne k (by omega)).trans (h4 k (by omega)), ?_, fun j h20 => (hj j (Or.inr h20)).trans (h6 j h20)⟩
  · rw [mo_ul_s, mo_ul_s, hp, mo_ul_cg (fun k hk => hne k (by omega)), List.filter_append, h3]
    simp [mo_e, e]
  · intro j hj16
    rw [hj j (Or.inl hj16), h5 j hj16, mo_ul_s, List.filter_append, show [mo_e S i].filter (fun e => e.1 == t) = [] by simp [mo_e, e], List.append_nil]
/-- the undo list is well formed -/
def mo_W (S : th_N) (u : Nat) : Prop := S.1 20 = nI u ∧ u ≤ 60 ∧ ∀ k, k < u → (S.2 18 k = 0 ∨ S.2 18 k = 1) ∧ ∃ c, c < 324 ∧ S.2 17 k = nI c
def mo_fg (S : th_N) (u : Nat) (t b : Int32) (p : Nat) (T : th_N) : Prop := ∃ U, mo_fi S t b u p U ∧ T = su U 20 (nI p)
theorem mo_fg.w {S T : th_N} {u p : Nat} {t b : Int32} (h : mo_fg S u t b p T) (w : mo_W S u) : mo_W T p := by
  obtain ⟨U, ⟨h1, h2, h3, h4, h5, h6⟩, rfl⟩ := h
  refine ⟨by simp [su, va_up], by have := w.2.1; omega, fun k hk => ?_⟩
  have hm : mo_e U k ∈ mo_ul U p := mo_ul_mem.mpr ⟨k, hk, rfl⟩
  rw [h3] at hm
  obtain ⟨j, hj, e⟩ := mo_ul_mem.mp (List.mem_filter.mp hm).1
  have e7 : S.2 17 j = U.2 17 k := congrArg (fun z => z.2.1) e
  have e8 : S.2 18 j = U.2 18 k := congrArg (fun z => z.2.2.1) e
  have := w.2.2 j hj
  rw [e7, e8] at this
  exact this
def mo_en (S : th_N) (u k : Nat) (b : Int32) (p : Nat) (v : Int32) (T : th_N) : Prop := ∃ U, mo_fg S u (S.2 11 k) b p U ∧ v = nI (mo_uc (sa (sa U 11 k 0) 12 k 0) (S.2 11 k)) ∧ T = mo_un (sa (sa U 11 k 0) 12 k 0) (S.2 11 k) 80 4
theorem mo_en.w {S T : th_N} {u k p : Nat} {b v : Int32} (h : mo_en S u k b p v T) (w : mo_W S u) : mo_W T p := by
  obtain ⟨U, h1, -, rfl⟩ := h
  exact h1.w w
def mo_cr (S : th_N) (u : Nat) : Nat → Nat → th_N → Prop
  | 0, p, T => p = u ∧ T = S
  | i + 1, p, T => ∃ q U, mo_cr S u i q U ∧ ((U.2 11 i = 0 ∧ p = q ∧ T = U) ∨ (¬ U.2 11 i = 0 ∧ ∃ v, mo_en U q i 1 p v T))
theorem mo_cr.w {S : th_N} {u : Nat} (w : mo_W S u) : ∀ {i p : Nat} {T : th_N}, mo_cr S u i p T → mo_W T p
  | 0, p, T, h => by obtain ⟨rfl, rfl⟩ := h; exact w
  | i + 1, p, T, h => by
    obtain ⟨q, U, h1, ⟨-, rfl, rfl⟩ | ⟨-, v, h2⟩⟩ := h
    · exact mo_cr.w w h1
    · exact h2.w (mo_cr.w w h1)

/-! a new lockable, as a function of the addresses that it gets -/
def lk_b (h : th_S) (a : Nat) (hd : Int32) (pa n : Nat) : th_S := th_ur (th_un (th_ui h a 0 hd) pa (6, n)) a 1 (some pa)
def lk_it (pa : Nat) (pp : Nat → Nat) (h : th_S) : Nat → th_S
  | 0 => h
  | j + 1 => th_ur (th_un (lk_it pa pp h j) (pp j) (3, 0)) pa j (some (pp j))
/-- the addresses are new -/
def lk_F (h : th_S) (a : Nat) (hd : Int32) (n pa : Nat) (pp : Nat → Nat) : Prop := h.1 pa = none ∧ ∀ j, j < n → (lk_it pa pp (lk_b h a hd pa n) j).1 (pp j) = none
theorem lk_it_cg {pa : Nat} {pp pq : Nat → Nat} (h : th_S) : ∀ n, (∀ j, j < n → pp j = pq j) → lk_it pa pp h n = lk_it pa pq h n
  | 0, _ => rfl
  | n + 1, e => by
    show th_ur (th_un (lk_it pa pp h n) (pp n) (3, 0)) pa n (some (pp n)) = th_ur (th_un (lk_it pa pq h n) (pq n) (3, 0)) pa n (some (pq n))
    rw [lk_it_cg h n (fun j hj => e j (Nat.lt_succ_of_lt hj)), e n (Nat.lt_succ_self n)]
theorem lk_it_up (pa : Nat) (pp : Nat → Nat) (h : th_S) (i q : Nat) : lk_it pa (va_up pp i q) h (i + 1) = th_ur (th_un (lk_it pa pp h i) q (3, 0)) pa i (some q) := by
  show th_ur (th_un (lk_it pa (va_up pp i q) h i) (va_up pp i q i) (3, 0)) pa i (some (va_up pp i q i)) = _
  rw [va_up_self, lk_it_cg (pq := pp) h i (fun j hj => va_up_ne _ _ (Nat.ne_of_lt hj))]
theorem lk_it_nx {pa : Nat} {pp : Nat → Nat} {h : th_S} {i q : Nat} (hF : ∀ j, j < i → (lk_it pa pp h j).1 (pp j) = none) (hq : (lk_it pa pp h i).1 q = none) : ∀ j, j < i + 1 → (lk_it pa (va_up pp i q) h j).1 (va_up pp i q j) = none := by
  intro j hj
  rw [lk_it_cg (pq := pp) h j (fun m hm => va_up_ne _ _ (by omega))]
  by_cases e : j = i
  · rw [e, va_up_self]; exact hq
  · rw [va_up_ne _ _ e]; exact hF j (by omega)
/-- what is there stays, but for the row of places -/
theorem lk_it_old {pa : Nat} {pp : Nat → Nat} {h : th_S} {b : Nat} {t : Nat × Nat} (hb : h.1 b = some t) : ∀ n, (∀ j, j < n → (lk_it pa pp h j).1 (pp j) = none) → (lk_it pa pp h n).1 b = some t ∧ (lk_it pa pp h n).2.1 b = h.2.1 b ∧ (b ≠ pa → (lk_it pa pp h n).2.2 b = h.2.2 b)
  | 0, _ => ⟨hb, rfl, fun _ => rfl⟩
  | n + 1, hF => by
    obtain ⟨k, e1, e2⟩ := lk_it_old hb n (fun j hj => hF j (Nat.lt_succ_of_lt hj))
    have hne : b ≠ pp n := fun q => by
      have := hF n (Nat.lt_succ_self n)
      rw [← q, k] at this
      cases this
    refine ⟨th_un_k (hF n (Nat.lt_succ_self n)) k, ?_, fun hp => ?_⟩
    · rw [← e1]
      funext j
      exact th_un_i (t := (3, 0)) hne
    · rw [← e2 hp]
      funext j
      exact (th_ur_n _ _ _ _ hp).trans (th_un_r (t := (3, 0)) hne)
/-- the places that are made -/
theorem lk_it_new {pa : Nat} {pp : Nat → Nat} {h : th_S} {m : Nat} (hp : h.1 pa = some (6, m)) : ∀ n, (∀ j, j < n → (lk_it pa pp h j).1 (pp j) = none) → ∀ j, j < n → (lk_it pa pp h n).2.2 pa j = some (pp j) ∧ (lk_it pa pp h n).1 (pp j) = some (3, 0) ∧ (lk_it pa pp h n).2.1 (pp j) = (fun _ => 0) ∧ (lk_it pa pp h n).2.2 (pp j) = (fun _ => none)
  | 0, _, j, hj => absurd hj (Nat.not_lt_zero j)
  | n + 1, hF, j, hj => by
    have hFn := hF n (Nat.lt_succ_self n)
    have hF' : ∀ j, j < n → (lk_it pa pp h j).1 (pp j) = none := fun j hj => hF j (Nat.lt_succ_of_lt hj)
    obtain ⟨kp, -, -⟩ := lk_it_old (pa := pa) (pp := pp) hp n hF'
    have hpn : pa ≠ pp n := fun q => by rw [← q, kp] at hFn; cases hFn
    show (th_ur (th_un (lk_it pa pp h n) (pp n) (3, 0)) pa n (some (pp n))).2.2 pa j = some (pp j) ∧ (th_un (lk_it pa pp h n) (pp n) (3, 0)).1 (pp j) = some (3, 0) ∧ (th_un (lk_it pa pp h n) (pp n) (3, 0)).2.1 (pp j) = (fun _ => 0) ∧ (th_ur (th_un (lk_it pa pp h n) (pp n) (3, 0)) pa n (some (pp n))).2.2 (pp j) = (fun _ => none)
    by_cases e : j = n
    · subst e
      refine ⟨th_ur_s _ _ _ _, th_un_self _ _ _, by simp [th_un, va_up], ?_⟩
      funext i
      rw [th_ur_n _ _ _ _ (Ne.symm hpn)]
      simp [th_un, va_up]
    · obtain ⟨e1, e2, e3, e4⟩ := lk_it_new hp n hF' j (by omega)
      have hjn : pp j ≠ pp n := fun q => by rw [← q, e2] at hFn; cases hFn
      have hjp : pp j ≠ pa := fun q => by rw [q, kp] at e2; cases e2
      refine ⟨?_, th_un_k hFn e2, ?_, ?_⟩
      · rw [th_ur_k _ _ _ e, th_un_r hpn]; exact e1
      · rw [← e3]; funext i; exact th_un_i (t := (3, 0)) hjn
      · rw [← e4]; funext i; exact (th_ur_n _ _ _ _ hjp).trans (th_un_r (t := (3, 0)) hjn)
/-- of what kind a thing is that is there behind it -/
theorem lk_it_inv {pa : Nat} {pp : Nat → Nat} {h : th_S} {b : Nat} {t : Nat × Nat} : ∀ n, (lk_it pa pp h n).1 b = some t → h.1 b = some t ∨ (t = (3, 0) ∧ ∃ j, j < n ∧ b = pp j)
  | 0, hb => Or.inl hb
  | n + 1, hb => by
    have hb' : (th_un (lk_it pa pp h n) (pp n) (3, 0)).1 b = some t := hb
    by_cases e : b = pp n
    · rw [e, th_un_self] at hb'
      exact Or.inr ⟨(Option.some.inj hb').symm, n, Nat.lt_succ_self n, e⟩
    · rw [th_un_ne e] at hb'
      rcases lk_it_inv n hb' with q | ⟨q, j, hj, e⟩
      · exact Or.inl q
      · exact Or.inr ⟨q, j, Nat.lt_succ_of_lt hj, e⟩
/-- what was there behind the making of a lockable -/
theorem lk_old {h : th_S} {a : Nat} {hd : Int32} {n pa : Nat} {pp : Nat → Nat} (hF : lk_F h a hd n pa pp) {b : Nat} {t : Nat × Nat} (hb : h.1 b = some t) (hba : b ≠ a) : (lk_it pa pp (lk_b h a hd pa n) n).1 b = some t ∧ (lk_it pa pp (lk_b h a hd pa n) n).2.1 b = h.2.1 b ∧ (lk_it pa pp (lk_b h a hd pa n) n).2.2 b = h.2.2 b := by
  have hbp : b ≠ pa := fun q => by rw [q, hF.1] at hb; cases hb
  have k0 : (lk_b h a hd pa n).1 b = some t := th_un_k (h := th_ui h a 0 hd) hF.1 hb
  obtain ⟨k, e1, e2⟩ := lk_it_old (pa := pa) (pp := pp) k0 n hF.2
  refine ⟨k, e1.trans (funext fun j => ?_), (e2 hbp).trans (funext fun j => ?_)⟩
  · exact (th_un_i (t := (6, n)) (h := th_ui h a 0 hd) hbp).trans (th_ui_n _ _ _ _ hba)
  · exact (th_ur_n _ _ _ _ hba).trans (th_un_r (t := (6, n)) (h := th_ui h a 0 hd) hbp)
/-- .. and the lockable itself -/
theorem lk_self {h : th_S} {a : Nat} {hd : Int32} {n pa : Nat} {pp : Nat → Nat} (hF : lk_F h a hd n pa pp) {t : Nat × Nat} (ha : h.1 a = some t) : (lk_it pa pp (lk_b h a hd pa n) n).1 a = some t ∧ (lk_it pa pp (lk_b h a hd pa n) n).2.1 a = va_up (h.2.1 a) 0 hd ∧ (lk_it pa pp (lk_b h a hd pa n) n).2.2 a = va_up (h.2.2 a) 1 (some pa) ∧ (lk_it pa pp (lk_b h a hd pa n) n).1 pa = some (6, n) ∧ a ≠ pa := by
  have hap : a ≠ pa := fun q => by rw [q, hF.1] at ha; cases ha
  have k0 : (lk_b h a hd pa n).1 a = some t := th_un_k (h := th_ui h a 0 hd) hF.1 ha
  have kp : (lk_b h a hd pa n).1 pa = some (6, n) := th_un_self _ _ _
  obtain ⟨k, e1, e2⟩ := lk_it_old (pa := pa) (pp := pp) k0 n hF.2
  obtain ⟨k2, -, -⟩ := lk_it_old (pa := pa) (pp := pp) kp n hF.2
  refine ⟨k, e1.trans (funext fun j => ?_), (e2 hap).trans (funext fun j => ?_), k2, hap⟩
  · refine (th_un_i (t := (6, n)) (h := th_ui h a 0 hd) hap).trans ?_
    show va_up h.2.1 a (va_up (h.2.1 a) 0 hd) a j = _
    rw [va_up_self]
  · show va_up (th_un (th_ui h a 0 hd) pa (6, n)).2.2 a (va_up ((th_un (th_ui h a 0 hd) pa (6, n)).2.2 a) 1 (some pa)) a j = _
    rw [va_up_self, show (th_un (th_ui h a 0 hd) pa (6, n)).2.2 a = h.2.2 a from funext fun j => th_un_r (h := th_ui h a 0 hd) hap]

/-! a new StableHeap -/
def ct_L (u : th_S) (a p q : Nat) : Prop := u.1 a = some (2, 0) ∧ (∀ k, u.2.1 a k = 0) ∧ u.2.2 a 1 = some p ∧ u.1 p = some (6, 1) ∧ u.2.2 p 0 = some q ∧ u.1 q = some (3, 0) ∧ (∀ k, u.2.1 q k = 0) ∧ (∀ k, u.2.2 q k = none)
def ct_R (h : th_S) (x aR i : Nat) (u : th_S) : Prop :=
  (u.1 x = some (0, 0) ∧ (∀ k, u.2.1 x k = 0) ∧ u.2.2 x 0 = some aR ∧ u.1 aR = some (4, 4) ∧ h.1 aR = none) ∧
  (∀ b t, h.1 b = some t → b ≠ x → u.1 b = some t ∧ u.2.1 b = h.2.1 b ∧ u.2.2 b = h.2.2 b) ∧
  ∃ rt rp rq : Nat → Nat, (∀ j, j < i → u.2.2 aR j = some (rt j) ∧ ct_L u (rt j) (rp j) (rq j)) ∧
    (∀ j k, j < i → k < i → rt j = rt k → j = k) ∧ (∀ j k, j < i → k < i → rq j = rq k → j = k) ∧
    (∀ b t, u.1 b = some t → h.1 b = some t ∨ (b = aR ∧ t = (4, 4)) ∨ ∃ j, j < i ∧ ((b = rt j ∧ t = (2, 0)) ∨ (b = rp j ∧ t = (6, 1)) ∨ (b = rq j ∧ t = (3, 0))))
/-- what is there stays: an extension -/
def ct_X (u v : th_S) (e : Nat) : Prop := ∀ b t, u.1 b = some t → v.1 b = some t ∧ v.2.1 b = u.2.1 b ∧ (b ≠ e → v.2.2 b = u.2.2 b)
theorem ct_L.ext {u v : th_S} {e a p q : Nat} (hL : ct_L u a p q) (hX : ct_X u v e) (he : u.1 e ≠ some (2, 0)) (he2 : u.1 e ≠ some (6, 1)) (he3 : u.1 e ≠ some (3, 0)) : ct_L v a p q := by
  obtain ⟨k1, k2, k3, k4, k5, k6, k7, k8⟩ := hL
  obtain ⟨a1, a2, a3⟩ := hX _ _ k1
  obtain ⟨b1, b2, b3⟩ := hX _ _ k4
  obtain ⟨c1, c2, c3⟩ := hX _ _ k6
  refine ⟨a1, fun k => by rw [a2]; exact k2 k, ?_, b1, ?_, c1, fun k => by rw [c2]; exact k7 k, fun k => ?_⟩
  · rw [a3 (fun q => he (by rw [← q]; exact k1))]; exact k3
  · rw [b3 (fun q => he2 (by rw [← q]; exact k4))]; exact k5
  · rw [c3 (fun q => he3 (by rw [← q]; exact k6))]; exact k8 k
/-- a new cell that is put into e's entry i -/
theorem ct_X.new {u : th_S} {q e i : Nat} {t : Nat × Nat} (hq : u.1 q = none) {v : Option Nat} : ct_X u (th_ur (th_un u q t) e i v) e := by
  intro b t' hb
  have hne : b ≠ q := fun e9 => by rw [e9, hq] at hb; cases hb
  refine ⟨th_un_k hq hb, funext fun j => th_un_i (t := t) hne, fun he => funext fun j => ?_⟩
  exact (th_ur_n _ _ _ _ he).trans (th_un_r (t := t) hne)
theorem ct_R.next {h u : th_S} {x aR i : Nat} (hR : ct_R h x aR i u) (hx : h.1 x = some (0, 0)) {q pa : Nat} {pp : Nat → Nat} (hq : u.1 q = none) (hF : lk_F (th_un u q (2, 0)) q 0 1 pa pp) :
    ct_R h x aR (i + 1) (th_ur (lk_it pa pp (lk_b (th_un u q (2, 0)) q 0 pa 1) 1) aR i (some q)) := by
  obtain ⟨⟨kx, zx, rx, kR, nR⟩, ho, rt, rp, rq, hL, i1, i2, hinv⟩ := hR
  have kq : (th_un u q (2, 0)).1 q = some (2, 0) := th_un_self _ _ _
  obtain ⟨s1, s2, s3, s4, s5⟩ := lk_self hF kq
  have old : ∀ {b : Nat} {t : Nat × Nat}, u.1 b = some t → (lk_it pa pp (lk_b (th_un u q (2, 0)) q 0 pa 1) 1).1 b = some t ∧ (lk_it pa pp (lk_b (th_un u q (2, 0)) q 0 pa 1) 1).2.1 b = u.2.1 b ∧ (lk_it pa pp (lk_b (th_un u q (2, 0)) q 0 pa 1) 1).2.2 b = u.2.2 b := by
    intro b t hb
    have hne : b ≠ q := fun e9 => by rw [e9, hq] at hb; cases hb
    obtain ⟨o1, o2, o3⟩ := lk_old hF (th_un_k (t := (2, 0)) hq hb) hne
    exact ⟨o1, o2.trans (funext fun j => th_un_i (t := (2, 0)) hne), o3.trans (funext fun j => th_un_r (t := (2, 0)) hne)⟩
  obtain ⟨n1, n2, n3, n4⟩ := lk_it_new (pa := pa) (pp := pp) (show (lk_b (th_un u q (2, 0)) q 0 pa 1).1 pa = some (6, 1) from th_un_self _ _ _) 1 hF.2 0 (by decide)
  generalize hv : lk_it pa pp (lk_b (th_un u q (2, 0)) q 0 pa 1) 1 = v at *
  have hX : ct_X u (th_ur v aR i (some q)) aR := by
    intro b t hb
    obtain ⟨o1, o2, o3⟩ := old hb
    exact ⟨o1, o2, fun he => (funext fun j => th_ur_n _ _ _ _ he).trans o3⟩
  have fresh : ∀ {b : Nat} {t : Nat × Nat}, u.1 b = some t → b ≠ q ∧ b ≠ pa ∧ b ≠ pp 0 := by
    intro b t hb
    have hbq : b ≠ q := fun e9 => by rw [e9, hq] at hb; cases hb
    have h1 : (th_un u q (2, 0)).1 b = some t := th_un_k (t := (2, 0)) hq hb
    have hbp : b ≠ pa := fun e9 => by rw [e9, hF.1] at h1; cases h1
    refine ⟨hbq, hbp, fun e9 => ?_⟩
    have h2 := hF.2 0 (by decide)
    rw [← e9] at h2
    rw [show (lk_it pa pp (lk_b (th_un u q (2, 0)) q 0 pa 1) 0).1 b = some t from th_un_k (h := th_ui (th_un u q (2, 0)) q 0 0) hF.1 h1] at h2
    cases h2
  have nRq : q ≠ aR := Ne.symm (fresh kR).1
  have nRp : pa ≠ aR := Ne.symm (fresh kR).2.1
  have nRz : pp 0 ≠ aR := Ne.symm (fresh kR).2.2
  have nxR : x ≠ aR := th_kne kx kR (by decide)
  refine ⟨⟨(hX _ _ kx).1, fun k => by rw [(hX _ _ kx).2.1]; exact zx k, by rw [(hX _ _ kx).2.2 nxR]; exact rx, (hX _ _ kR).1, nR⟩, ?_, va_up rt i q, va_up rp i pa, va_up rq i (pp 0), ?_, ?_, ?_, ?_⟩
  · intro b t hb hbx
    obtain ⟨o1, o2, o3⟩ := ho b t hb hbx
    obtain ⟨x1, x2, x3⟩ := hX _ _ o1
    have hbR : b ≠ aR := fun e9 => by rw [e9, nR] at hb; cases hb
    exact ⟨x1, x2.trans o2, (x3 hbR).trans o3⟩
  · intro j hj
    by_cases e : j = i
    · subst e
      rw [va_up_self, va_up_self, va_up_self]
      refine ⟨th_ur_s _ _ _ _, s1, fun k => ?_, ?_, s4, ?_, n2, fun k => ?_, fun k => ?_⟩
      · show v.2.1 q k = 0
        rw [s2]
        by_cases ek : k = 0
        · rw [ek, va_up_self]
        · rw [va_up_ne _ _ ek]
          simp [th_un, va_up]
      · rw [th_ur_n _ _ _ _ nRq, s3]; exact va_up_self _ _ _
      · rw [th_ur_n _ _ _ _ nRp]; exact n1
      · show v.2.1 (pp 0) k = 0
        rw [n3]
      · rw [th_ur_n _ _ _ _ nRz, n4]
    · rw [va_up_ne _ _ e, va_up_ne _ _ e, va_up_ne _ _ e]
      obtain ⟨e1, e2⟩ := hL j (by omega)
      refine ⟨?_, e2.ext hX (by rw [kR]; decide) (by rw [kR]; decide) (by rw [kR]; decide)⟩
      rw [th_ur_k _ _ _ e, (old kR).2.2]
      exact e1
  · intro j k hj hk he
    by_cases ej : j = i
    · by_cases ek : k = i
      · omega
      · rw [ej, va_up_self, va_up_ne _ _ ek] at he
        exact absurd he.symm (fresh (hL k (by omega)).2.1).1
    · by_cases ek : k = i
      · rw [ek, va_up_self, va_up_ne _ _ ej] at he
        exact absurd he (fresh (hL j (by omega)).2.1).1
      · rw [va_up_ne _ _ ej, va_up_ne _ _ ek] at he
        exact i1 j k (by omega) (by omega) he
  · intro j k hj hk he
    by_cases ej : j = i
    · by_cases ek : k = i
      · omega
      · rw [ej, va_up_self, va_up_ne _ _ ek] at he
        exact absurd he.symm (fresh (hL k (by omega)).2.2.2.2.2.2.1).2.2
    · by_cases ek : k = i
      · rw [ek, va_up_self, va_up_ne _ _ ej] at he
        exact absurd he (fresh (hL j (by omega)).2.2.2.2.2.2.1).2.2
      · rw [va_up_ne _ _ ej, va_up_ne _ _ ek] at he
        exact i2 j k (by omega) (by omega) he
  · intro b t hb
    have hb' : v.1 b = some t := hb
    rw [← hv] at hb'
    rcases lk_it_inv 1 hb' with q9 | ⟨q9, j, hj, e9⟩
    · by_cases e1 : b = pa
      · subst e1
        have : t = (6, 1) := (Option.some.inj ((show (lk_b (th_un u q (2, 0)) q 0 b 1).1 b = some (6, 1) from th_un_self _ _ _).symm.trans q9)).symm
        exact Or.inr (Or.inr ⟨i, by omega, Or.inr (Or.inl ⟨(va_up_self _ _ _).symm, this⟩)⟩)
      · have q8 : (th_un u q (2, 0)).1 b = some t := by
          rw [← q9]
          exact (th_un_ne (h := th_ui (th_un u q (2, 0)) q 0 0) e1).symm
        by_cases e2 : b = q
        · rw [e2, th_un_self] at q8
          exact Or.inr (Or.inr ⟨i, by omega, Or.inl ⟨by rw [e2, va_up_self], (Option.some.inj q8).symm⟩⟩)
        · rw [th_un_ne e2] at q8
          rcases hinv b t q8 with z | z | ⟨j, hj, z⟩
          · exact Or.inl z
          · exact Or.inr (Or.inl z)
          · refine Or.inr (Or.inr ⟨j, by omega, ?_⟩)
            rw [va_up_ne _ _ (Nat.ne_of_lt hj), va_up_ne _ _ (Nat.ne_of_lt hj), va_up_ne _ _ (Nat.ne_of_lt hj)]
            exact z
    · refine Or.inr (Or.inr ⟨i, by omega, Or.inr (Or.inr ⟨?_, q9⟩)⟩)
      rw [va_up_self, e9, show j = 0 by omega]
def ct_T (u0 : th_S) (aT i : Nat) (u : th_S) : Prop := ct_X u0 u aT ∧ ∃ ta : Nat → Nat, (∀ j, j < i → u.2.2 aT j = some (ta j) ∧ u.1 (ta j) = some (1, 0) ∧ ∀ k, u.2.1 (ta j) k = 0) ∧ (∀ j k, j < i → k < i → ta j = ta k → j = k) ∧ (∀ b t, u.1 b = some t → u0.1 b = some t ∨ ∃ j, j < i ∧ b = ta j ∧ t = (1, 0))
theorem ct_X.refl (u : th_S) (e : Nat) : ct_X u u e := fun _ _ hb => ⟨hb, rfl, fun _ => rfl⟩
theorem ct_X.trans {u v w : th_S} {e : Nat} (a : ct_X u v e) (b : ct_X v w e) : ct_X u w e := fun c t hc => by
  obtain ⟨a1, a2, a3⟩ := a c t hc
  obtain ⟨b1, b2, b3⟩ := b c t a1
  exact ⟨b1, b2.trans a2, fun he => (b3 he).trans (a3 he)⟩
theorem ct_T.zero (u : th_S) (aT : Nat) : ct_T u aT 0 u := ⟨ct_X.refl u aT, fun _ => 0, fun j hj => absurd hj (Nat.not_lt_zero j), fun j _ hj => absurd hj (Nat.not_lt_zero j), fun _ _ hb => Or.inl hb⟩
theorem ct_T.next {u0 u : th_S} {aT i q n : Nat} (hT : ct_T u0 aT i u) (kT : u0.1 aT = some (5, n)) (hq : u.1 q = none) : ct_T u0 aT (i + 1) (th_ur (th_un u q (1, 0)) aT i (some q)) := by
  obtain ⟨hX, ta, hL, inj, hinv⟩ := hT
  have hX2 : ct_X u (th_ur (th_un u q (1, 0)) aT i (some q)) aT := ct_X.new hq
  have nq : ∀ {b : Nat} {t : Nat × Nat}, u.1 b = some t → b ≠ q := fun hb e9 => by rw [e9, hq] at hb; cases hb
  refine ⟨hX.trans hX2, va_up ta i q, fun j hj => ?_, fun j k hj hk he => ?_, fun b t hb => ?_⟩
  · by_cases e : j = i
    · subst e
      rw [va_up_self]
      exact ⟨th_ur_s _ _ _ _, th_un_self _ _ _, fun k => by simp [th_ur, th_un, va_up]⟩
    · rw [va_up_ne _ _ e]
      obtain ⟨e1, e2, e3⟩ := hL j (by omega)
      obtain ⟨x1, x2, x3⟩ := hX2 _ _ e2
      refine ⟨?_, x1, fun k => by rw [x2]; exact e3 k⟩
      rw [th_ur_k _ _ _ e, th_un_r (t := (1, 0)) (nq (hX _ _ kT).1)]
      exact e1
  · by_cases ej : j = i
    · by_cases ek : k = i
      · omega
      · rw [ej, va_up_self, va_up_ne _ _ ek] at he
        exact absurd he.symm (nq (hL k (by omega)).2.1)
    · by_cases ek : k = i
      · rw [ek, va_up_self, va_up_ne _ _ ej] at he
        exact absurd he (nq (hL j (by omega)).2.1)
      · rw [va_up_ne _ _ ej, va_up_ne _ _ ek] at he
        exact inj j k (by omega) (by omega) he
  · have hb' : (th_un u q (1, 0)).1 b = some t := hb
    by_cases e : b = q
    · rw [e, th_un_self] at hb'
      exact Or.inr ⟨i, by omega, by rw [e, va_up_self], (Option.some.inj hb').symm⟩
    · rw [th_un_ne e] at hb'
      rcases hinv b t hb' with z | ⟨j, hj, z⟩
      · exact Or.inl z
      · exact Or.inr ⟨j, by omega, by rw [va_up_ne _ _ (Nat.ne_of_lt hj)]; exact z⟩
def ct_E (h : th_S) (x : Nat) (w : th_S) : Prop := ∃ (aR aO aH aT : Nat) (rt ta rp rq : Nat → Nat), sh_K x aR aO aH aT rt ta w ∧ sh_O x aO 0 w ∧ (∀ k, w.2.1 x k = 0) ∧ (∀ i, i < 3 → ∀ k, w.2.1 (ta i) k = 0) ∧ (∀ i, i < 4 → ct_L w (rt i) (rp i) (rq i)) ∧ (∀ j k, j < 4 → k < 4 → rt j = rt k → j = k) ∧ (∀ j k, j < 4 → k < 4 → rq j = rq k → j = k) ∧ (∀ b t, h.1 b = some t → b ≠ x → w.1 b = some t ∧ w.2.1 b = h.2.1 b ∧ w.2.2 b = h.2.2 b)
/-- the four rows are laid -/
def ct_3 (u : th_S) (x aO aH aT : Nat) : th_S := th_ur (th_un (th_ur (th_un (th_ur (th_un u aO (4, 80)) x 1 (some aO)) aH (4, 80)) x 2 (some aH)) aT (5, 3)) x 3 (some aT)
theorem ct_fin {h u w : th_S} {x aR aO aH aT : Nat} (hx : h.1 x = some (0, 0)) (ho : ∀ b t, h.1 b = some t → b ≠ x → 7 ≤ t.1) (hR : ct_R h x aR 4 u) (h1 : u.1 aO = none) (h2 : (th_ur (th_un u aO (4, 80)) x 1 (some aO)).1 aH = none) (h3 : (th_ur (th_un (th_ur (th_un u aO (4, 80)) x 1 (some aO)) aH (4, 80)) x 2 (some aH)).1 aT = none) (hT : ct_T (ct_3 u x aO aH aT) aT 3 w) : ct_E h x w := by
  obtain ⟨⟨kx, zx, rx, kR, nR⟩, old, rt, rp, rq, hL, i1, i2, hinv⟩ := hR
  have X3 : ct_X u (ct_3 u x aO aH aT) x := ((ct_X.new (e := x) h1).trans (ct_X.new (e := x) h2)).trans (ct_X.new (e := x) h3)
  have nOx : aO ≠ x := fun e9 => by rw [e9, kx] at h1; cases h1
  have k1x : (th_ur (th_un u aO (4, 80)) x 1 (some aO)).1 x = some (0, 0) := th_un_k h1 kx
  have nHx : aH ≠ x := fun e9 => by rw [e9, k1x] at h2; cases h2
  have k2x : (th_ur (th_un (th_ur (th_un u aO (4, 80)) x 1 (some aO)) aH (4, 80)) x 2 (some aH)).1 x = some (0, 0) := th_un_k h2 k1x
  have nTx : aT ≠ x := fun e9 => by rw [e9, k2x] at h3; cases h3
  have k1O : (th_ur (th_un u aO (4, 80)) x 1 (some aO)).1 aO = some (4, 80) := th_un_self _ _ _
  have k2O : (th_ur (th_un (th_ur (th_un u aO (4, 80)) x 1 (some aO)) aH (4, 80)) x 2 (some aH)).1 aO = some (4, 80) := th_un_k h2 k1O
  have k2H : (th_ur (th_un (th_ur (th_un u aO (4, 80)) x 1 (some aO)) aH (4, 80)) x 2 (some aH)).1 aH = some (4, 80) := th_un_self _ _ _
  have k3O : (ct_3 u x aO aH aT).1 aO = some (4, 80) := th_un_k h3 k2O
  have k3H : (ct_3 u x aO aH aT).1 aH = some (4, 80) := th_un_k h3 k2H
  have k3T : (ct_3 u x aO aH aT).1 aT = some (5, 3) := th_un_self _ _ _
  have nOH : aO ≠ aH := fun e9 => by rw [← e9, k1O] at h2; cases h2
  have nRO : aR ≠ aO := fun e9 => by rw [← e9, kR] at h1; cases h1
  have nRH : aR ≠ aH := fun e9 => by
    have : (th_ur (th_un u aO (4, 80)) x 1 (some aO)).1 aR = some (4, 4) := th_un_k h1 kR
    rw [e9, h2] at this; cases this
  have r3 : (ct_3 u x aO aH aT).2.2 x 0 = some aR ∧ (ct_3 u x aO aH aT).2.2 x 1 = some aO ∧ (ct_3 u x aO aH aT).2.2 x 2 = some aH ∧ (ct_3 u x aO aH aT).2.2 x 3 = some aT := by
    simp [ct_3, th_ur, th_un, va_up, Ne.symm nOx, Ne.symm nHx, Ne.symm nTx, rx]
  have rO : ∀ j, (ct_3 u x aO aH aT).2.2 aO j = none ∨ True := fun _ => Or.inr trivial
  obtain ⟨XT, ta, hT1, inj, hTi⟩ := hT
  have Tx := XT _ _ (X3 _ _ kx).1
  have TR := XT _ _ (X3 _ _ kR).1
  have nxT : x ≠ aT := Ne.symm nTx
  have nRT : aR ≠ aT := th_kne (X3 _ _ kR).1 k3T (by decide)
  have nRx : aR ≠ x := th_kne kR kx (by decide)
  have Lw : ∀ j, j < 4 → ct_L w (rt j) (rp j) (rq j) := fun j hj =>
    ((hL j hj).2.ext X3 (by rw [kx]; decide) (by rw [kx]; decide) (by rw [kx]; decide)).ext XT (by rw [k3T]; decide) (by rw [k3T]; decide) (by rw [k3T]; decide)
  have inv3 : ∀ b t, (ct_3 u x aO aH aT).1 b = some t → u.1 b = some t ∨ 4 ≤ t.1 ∧ t.1 ≤ 5 := by
    intro b t hb
    have hb : (th_un (th_ur (th_un (th_ur (th_un u aO (4, 80)) x 1 (some aO)) aH (4, 80)) x 2 (some aH)) aT (5, 3)).1 b = some t := hb
    by_cases e1 : b = aT
    · rw [e1, th_un_self] at hb; cases hb; exact Or.inr (by decide)
    · rw [th_un_ne e1] at hb
      have hb : (th_un (th_ur (th_un u aO (4, 80)) x 1 (some aO)) aH (4, 80)).1 b = some t := hb
      by_cases e2 : b = aH
      · rw [e2, th_un_self] at hb; cases hb; exact Or.inr (by decide)
      · rw [th_un_ne e2] at hb
        have hb : (th_un u aO (4, 80)).1 b = some t := hb
        by_cases e3 : b = aO
        · rw [e3, th_un_self] at hb; cases hb; exact Or.inr (by decide)
        · rw [th_un_ne e3] at hb
          exact Or.inl hb
  -- what is of the kinds 2, 3, 6 is a root's
  have invw : ∀ b t, w.1 b = some t → (t.1 = 2 ∨ t.1 = 3 ∨ t.1 = 6) → ∃ j, j < 4 ∧ ((b = rt j ∧ t = (2, 0)) ∨ (b = rp j ∧ t = (6, 1)) ∨ (b = rq j ∧ t = (3, 0))) := by
    intro b t hb ht
    rcases hTi b t hb with z | ⟨j, hj, -, z⟩
    · rcases inv3 b t z with z | z
      · rcases hinv b t z with z | ⟨-, z⟩ | z
        · by_cases ex : b = x
          · rw [ex, hx] at z
            cases z
            simp at ht
          · have := ho b t z ex
            omega
        · rw [z] at ht; simp at ht
        · exact z
      · omega
    · rw [z] at ht; simp at ht
  refine ⟨aR, aO, aH, aT, rt, ta, rp, rq, ⟨⟨Tx.1, ?_, ?_, ?_, ?_⟩, ⟨TR.1, (XT _ _ k3O).1, (XT _ _ k3H).1, (XT _ _ k3T).1⟩, ⟨nRO, nRH, nOH⟩, fun i hi => ⟨?_, (Lw i hi).1⟩, fun i hi => ⟨(hT1 i hi).1, (hT1 i hi).2.1⟩, inj, fun a ha => ?_, fun pa n hn j hj => ?_, fun i hi => ?_, fun q hq => ?_⟩, ⟨Nat.zero_le _, ?_, fun i hi => absurd hi (Nat.not_lt_zero i)⟩, fun k => ?_, fun i hi => (hT1 i hi).2.2, Lw, i1, i2, fun b t hb hbx => ?_⟩
  · rw [Tx.2.2 nxT]; exact r3.1
  · rw [Tx.2.2 nxT]; exact r3.2.1
  · rw [Tx.2.2 nxT]; exact r3.2.2.1
  · rw [Tx.2.2 nxT]; exact r3.2.2.2
  · rw [TR.2.2 nRT, (X3 _ _ kR).2.2 nRx]; exact (hL i hi).1
  · obtain ⟨j, hj, ⟨e, -⟩ | ⟨-, z⟩ | ⟨-, z⟩⟩ := invw a _ ha (Or.inl rfl)
    · rw [e]; exact ⟨rp j, 1, (Lw j hj).2.2.1, (Lw j hj).2.2.2.1, by decide⟩
    · cases z
    · cases z
  · obtain ⟨m, hm, ⟨-, z⟩ | ⟨e, z⟩ | ⟨-, z⟩⟩ := invw pa _ hn (Or.inr (Or.inr rfl))
    · cases z
    · cases z
      rw [e, show j = 0 by omega]
      exact ⟨rq m, (Lw m hm).2.2.2.2.1, (Lw m hm).2.2.2.2.2.1⟩
    · cases z
  · exact ⟨rp i, (Lw i hi).2.2.1, (Lw i hi).2.2.2.1⟩
  · obtain ⟨m, hm, ⟨-, z⟩ | ⟨-, z⟩ | ⟨e, -⟩⟩ := invw q _ hq (Or.inr (Or.inl rfl))
    · cases z
    · cases z
    · have zi := (Lw m hm).2.2.2.2.2.2.1
      have zr := (Lw m hm).2.2.2.2.2.2.2
      rw [e]
      exact ⟨Or.inl (zi 0), Or.inl (zi 3), Or.inl (zi 4), fun b hb => (by rw [zr 2] at hb; cases hb), fun b hb => (by rw [zr 6] at hb; cases hb)⟩
  · rw [Tx.2.1, (X3 _ _ kx).2.1]; exact zx 4
  · rw [Tx.2.1, (X3 _ _ kx).2.1]; exact zx k
  · obtain ⟨o1, o2, o3⟩ := old b t hb hbx
    obtain ⟨p1, p2, p3⟩ := X3 _ _ o1
    obtain ⟨q1, q2, q3⟩ := XT _ _ p1
    refine ⟨q1, q2.trans (p2.trans o2), (q3 (fun e9 => ?_)).trans ((p3 hbx).trans o3)⟩
    rw [e9, k3T] at p1
    have := ho b t hb hbx
    cases p1
    omega
theorem ct_R.zero {h : th_S} {x aR : Nat} (hx : h.1 x = some (0, 0)) (hz : ∀ k, h.2.1 x k = 0) (hR : h.1 aR = none) : ct_R h x aR 0 (th_ur (th_un h aR (4, 4)) x 0 (some aR)) := by
  have nxR : x ≠ aR := fun e9 => by rw [e9, hR] at hx; cases hx
  refine ⟨⟨th_un_k hR hx, fun k => ?_, th_ur_s _ _ _ _, th_un_self _ _ _, hR⟩, fun b t hb hbx => ?_, fun _ => 0, fun _ => 0, fun _ => 0, fun j hj => absurd hj (Nat.not_lt_zero j), fun j _ hj => absurd hj (Nat.not_lt_zero j), fun j _ hj => absurd hj (Nat.not_lt_zero j), fun b t hb => ?_⟩
  · exact (th_un_i (t := (4, 4)) nxR).trans (hz k)
  · have hbR : b ≠ aR := fun e9 => by rw [e9, hR] at hb; cases hb
    exact ⟨th_un_k hR hb, funext fun j => th_un_i (t := (4, 4)) hbR, funext fun j => (th_ur_n _ _ _ _ hbx).trans (th_un_r (t := (4, 4)) hbR)⟩
  · have hb : (th_un h aR (4, 4)).1 b = some t := hb
    by_cases e : b = aR
    · rw [e, th_un_self] at hb
      exact Or.inr (Or.inl ⟨e, (Option.some.inj hb).symm⟩)
    · rw [th_un_ne e] at hb
      exact Or.inl hb

/-! make agrees -/
theorem mo_zs_c (S : th_N) (r : Nat) : ∀ k c, (mo_zs S r k).2 4 c = (if 4 * r ≤ c ∧ c < 4 * r + k then 0 else S.2 4 c) ∧ (mo_zs S r k).2 5 c = (if 4 * r ≤ c ∧ c < 4 * r + k then 0 else S.2 5 c)
  | 0, c => by rw [if_neg (by omega), if_neg (by omega)]; exact ⟨rfl, rfl⟩
  | k + 1, c => by
    have ih := mo_zs_c S r k c
    show (sa (sa (mo_zs S r k) 4 (4 * r + k) 0) 5 (4 * r + k) 0).2 4 c = _ ∧ (sa (sa (mo_zs S r k) 4 (4 * r + k) 0) 5 (4 * r + k) 0).2 5 c = _
    rw [sa_n (i := 4) _ _ _ (by decide), sa_e, sa_e, sa_n (i := 5) _ _ _ (by decide)]
    by_cases e : c = 4 * r + k
    · rw [e, va_up_self, va_up_self, if_pos (by omega), if_pos (by omega)]
      exact ⟨rfl, rfl⟩
    · rw [va_up_ne _ _ e, va_up_ne _ _ e, ih.1, ih.2]
      by_cases q : 4 * r ≤ c ∧ c < 4 * r + k
      · rw [if_pos q, if_pos q, if_pos (by omega), if_pos (by omega)]; exact ⟨rfl, rfl⟩
      · rw [if_neg q, if_neg q, if_neg (by omega), if_neg (by omega)]; exact ⟨rfl, rfl⟩
/-- what a made object is, in the heap -/
def mk_F (x aO n : Nat) (h h' : th_S) (g k us : Int32) (q nf pa : Nat) (pp : Nat → Nat) : Prop :=
  (∀ b t, h.1 b = some t → h'.1 b = some t ∧ (∀ j, ¬ (b = x ∧ (j = 4 ∨ j = 6 ∨ j = 7)) → h'.2.1 b j = h.2.1 b j) ∧ (∀ j, ¬ (b = aO ∧ j = n) → h'.2.2 b j = h.2.2 b j)) ∧
  (h'.2.1 x 6 = g ∧ h'.2.1 x 4 = nI (n + 1) ∧ h'.2.1 x 7 = us ∧ h'.2.2 aO n = some q) ∧
  (h'.1 q = some (2, 0) ∧ h'.2.1 q 0 = g ∧ h'.2.1 q 2 = k ∧ h'.2.2 q 1 = some pa ∧ h'.1 pa = some (6, nf)) ∧
  (∀ j, j < nf → h'.2.2 pa j = some (pp j) ∧ h'.1 (pp j) = some (3, 0) ∧ (∀ i, h'.2.1 (pp j) i = 0) ∧ (∀ i, h'.2.2 (pp j) i = none) ∧ h.1 (pp j) = none) ∧
  (∀ i j, i < nf → j < nf → pp i = pp j → i = j) ∧
  (∀ b t, h'.1 b = some t → h.1 b = some t ∨ (b = q ∧ t = (2, 0)) ∨ (b = pa ∧ t = (6, nf)) ∨ ∃ j, j < nf ∧ b = pp j ∧ t = (3, 0)) ∧ h.1 q = none ∧ h.1 pa = none
theorem lk_it_ppinj {pa : Nat} {pp : Nat → Nat} {h : th_S} {m : Nat} (hp : h.1 pa = some (6, m)) {n : Nat} (hF : ∀ j, j < n → (lk_it pa pp h j).1 (pp j) = none) : ∀ i j, i < n → j < n → pp i = pp j → i = j := by
  have key : ∀ i j, i < j → j < n → pp i ≠ pp j := fun i j hij hj e => by
    have h1 := (lk_it_new (pp := pp) hp j (fun k hk => hF k (by omega)) i hij).2.1
    rw [e, hF j hj] at h1
    cases h1
  intro i j hi hj e
  rcases Nat.lt_trichotomy i j with q | q | q
  · exact absurd e (key i j q hj)
  · exact q
  · exact absurd e.symm (key j i q hi)
section MKQ
variable {x aR aO aH aT : Nat} {rt ta : Nat → Nat} {h h' : th_S} {S S' : th_N} {N N' n u : Nat} {ad : Nat → Nat}
theorem mk_of (K : sh_K x aR aO aH aT rt ta h) {t : Nat} (ht : h.1 t = some (1, 0)) {k : Int32} {q nf pa : Nat} {pp : Nat → Nat} (hF : sh_mF x h t q nf pa pp) :
    mk_F x aO n (th_ui h t 1 (h.2.1 t 1 + 2)) (sh_mh x aO n h t k q nf pa pp) (h.2.1 x 6 + 1) k (h.2.1 x 7 + (1 + nI nf)) q nf pa pp := by
  obtain ⟨hq, hF⟩ := hF
  have ntx : x ≠ t := th_kne K.kx ht (by decide)
  have nxO : x ≠ aO := th_kne K.kx K.kO (by decide)
  unfold sh_mh
  generalize hg : h.2.1 x 6 + 1 = g at *
  generalize hus : h.2.1 x 7 + (1 + nI nf) = us
  have kx : (th_ui h t 1 (h.2.1 t 1 + 2)).1 x = some (0, 0) := K.kx
  have kO : (th_ui h t 1 (h.2.1 t 1 + 2)).1 aO = some (4, 80) := K.kO
  have hq0 : (th_ui h t 1 (h.2.1 t 1 + 2)).1 q = none := hq
  generalize th_ui h t 1 (h.2.1 t 1 + 2) = h0 at *
  have kq2 : (th_un (th_ui h0 x 6 g) q (2, 0)).1 q = some (2, 0) := th_un_self _ _ _
  obtain ⟨s1, s2, s3, s4, s5⟩ := lk_self hF kq2
  have new := lk_it_new (pa := pa) (pp := pp) (show (lk_b (th_un (th_ui h0 x 6 g) q (2, 0)) q g pa nf).1 pa = some (6, nf) from th_un_self _ _ _) nf hF.2
  have inj := lk_it_ppinj (pp := pp) (show (lk_b (th_un (th_ui h0 x 6 g) q (2, 0)) q g pa nf).1 pa = some (6, nf) from th_un_self _ _ _) hF.2
  have nq : ∀ {b : Nat} {tb : Nat × Nat}, h0.1 b = some tb → b ≠ q := fun hb e => by rw [e, hq0] at hb; cases hb
  have old : ∀ b tb, h0.1 b = some tb → (lk_it pa pp (lk_b (th_un (th_ui h0 x 6 g) q (2, 0)) q g pa nf) nf).1 b = some tb ∧ (lk_it pa pp (lk_b (th_un (th_ui h0 x 6 g) q (2, 0)) q g pa nf) nf).2.1 b = (th_ui h0 x 6 g).2.1 b ∧ (lk_it pa pp (lk_b (th_un (th_ui h0 x 6 g) q (2, 0)) q g pa nf) nf).2.2 b = h0.2.2 b := fun b tb hb => by
    obtain ⟨o1, o2, o3⟩ := lk_old hF (th_un_k (h := th_ui h0 x 6 g) (t := (2, 0)) hq0 hb) (nq hb)
    exact ⟨o1, o2.trans (funext fun j => th_un_i (t := (2, 0)) (nq hb)), o3.trans (funext fun j => th_un_r (h := th_ui h0 x 6 g) (t := (2, 0)) (nq hb))⟩
  have npa : h0.1 pa = none := by
    have := hF.1
    by_cases e : pa = q
    · rw [e]; exact hq0
    · rw [th_un_ne e] at this; exact this
  have fresh : ∀ j, j < nf → h0.1 (pp j) = none := fun j hj => by
    cases e : h0.1 (pp j) with
    | none => rfl
    | some tb =>
      have e1 := (lk_it_old (pa := pa) (pp := pp) (show (lk_b (th_un (th_ui h0 x 6 g) q (2, 0)) q g pa nf).1 (pp j) = some tb from th_un_k (h := th_ui (th_un (th_ui h0 x 6 g) q (2, 0)) q 0 g) hF.1 (th_un_k (h := th_ui h0 x 6 g) (t := (2, 0)) hq0 e)) j (fun i hi => hF.2 i (by omega))).1
      rw [hF.2 j hj] at e1
      cases e1
  have inv : ∀ b tb, (lk_it pa pp (lk_b (th_un (th_ui h0 x 6 g) q (2, 0)) q g pa nf) nf).1 b = some tb → h0.1 b = some tb ∨ (b = q ∧ tb = (2, 0)) ∨ (b = pa ∧ tb = (6, nf)) ∨ ∃ j, j < nf ∧ b = pp j ∧ tb = (3, 0) := fun b tb hb => by
    rcases lk_it_inv nf hb with q9 | ⟨q9, j, hj, e9⟩
    · by_cases e1 : b = pa
      · have : (lk_b (th_un (th_ui h0 x 6 g) q (2, 0)) q g pa nf).1 pa = some (6, nf) := th_un_self _ _ _
        rw [e1, this] at q9
        exact Or.inr (Or.inr (Or.inl ⟨e1, (Option.some.inj q9).symm⟩))
      · have q8 : (th_un (th_ui h0 x 6 g) q (2, 0)).1 b = some tb := by
          rw [← q9]
          exact (th_un_ne (h := th_ui (th_un (th_ui h0 x 6 g) q (2, 0)) q 0 g) e1).symm
        by_cases e2 : b = q
        · rw [e2, th_un_self] at q8
          exact Or.inr (Or.inl ⟨e2, (Option.some.inj q8).symm⟩)
        · rw [th_un_ne e2] at q8
          exact Or.inl q8
    · exact Or.inr (Or.inr (Or.inr ⟨j, hj, e9, q9⟩))
  have kxo := old x _ kx
  have kOo := old aO _ kO
  generalize lk_it pa pp (lk_b (th_un (th_ui h0 x 6 g) q (2, 0)) q g pa nf) nf = h3 at *
  have nqx : q ≠ x := Ne.symm (nq kx)
  have nqO : q ≠ aO := Ne.symm (nq kO)
  have npx : pa ≠ x := fun e => by rw [e, kx] at npa; cases npa
  have npO : pa ≠ aO := fun e => by rw [e, kO] at npa; cases npa
  have nppx : ∀ j, j < nf → pp j ≠ x := fun j hj e => by have := fresh j hj; rw [e, kx] at this; cases this
  have nppO : ∀ j, j < nf → pp j ≠ aO := fun j hj e => by have := fresh j hj; rw [e, kO] at this; cases this
  have nppq : ∀ j, j < nf → pp j ≠ q := fun j hj e => by have := (new j hj).2.1; rw [e, s1] at this; cases this
  refine ⟨fun b tb hb => ?_, ⟨?_, ?_, ?_, ?_⟩, ⟨s1, ?_, ?_, ?_, s4⟩, fun j hj => ?_, inj, inv, hq0, npa⟩
  · obtain ⟨o1, o2, o3⟩ := old b tb hb
    refine ⟨o1, fun j hj => ?_, fun j hj => ?_⟩
    · rw [ui_at (fun e z => hj ⟨e, by omega⟩), ui_at (fun e z => hj ⟨e, by omega⟩)]
      show (th_ui h3 q 2 k).2.1 b j = _
      rw [th_ui_n _ _ _ _ (nq hb), o2]
      exact ui_at (fun e z => hj ⟨e, by omega⟩)
    · show (th_ur (th_ui h3 q 2 k) aO n (some q)).2.2 b j = _
      by_cases e : b = aO
      · rw [e, th_ur_k _ _ _ (fun z => hj ⟨e, z⟩)]
        show h3.2.2 aO j = _
        rw [← e, o3]
      · rw [th_ur_n _ _ _ _ e]
        show h3.2.2 b j = _
        rw [o3]
  · rw [th_ui_k _ _ _ (by decide), th_ui_k _ _ _ (by decide)]
    show (th_ui h3 q 2 k).2.1 x 6 = _
    rw [th_ui_n _ _ _ _ (Ne.symm nqx), kxo.2.1]
    exact th_ui_s _ _ _ _
  · rw [th_ui_k _ _ _ (by decide)]
    exact th_ui_s _ _ _ _
  · exact th_ui_s _ _ _ _
  · exact th_ur_s _ _ _ _
  · rw [th_ui_n _ _ _ _ nqx, th_ui_n _ _ _ _ nqx]
    show (th_ui h3 q 2 k).2.1 q 0 = _
    rw [th_ui_k _ _ _ (by decide), s2]
    exact va_up_self _ _ _
  · rw [th_ui_n _ _ _ _ nqx, th_ui_n _ _ _ _ nqx]
    exact th_ui_s _ _ _ _
  · show (th_ur (th_ui h3 q 2 k) aO n (some q)).2.2 q 1 = _
    rw [th_ur_n _ _ _ _ nqO]
    show h3.2.2 q 1 = _
    rw [s3]
    exact va_up_self _ _ _
  · obtain ⟨n1, n2, n3, n4⟩ := new j hj
    refine ⟨?_, n2, fun i => ?_, fun i => ?_, fresh j hj⟩
    · show (th_ur (th_ui h3 q 2 k) aO n (some q)).2.2 pa j = _
      rw [th_ur_n _ _ _ _ npO]
      exact n1
    · rw [th_ui_n _ _ _ _ (nppx j hj), th_ui_n _ _ _ _ (nppx j hj)]
      show (th_ui h3 q 2 k).2.1 (pp j) i = _
      rw [th_ui_n _ _ _ _ (nppq j hj), n3]
    · show (th_ur (th_ui h3 q 2 k) aO n (some q)).2.2 (pp j) i = _
      rw [th_ur_n _ _ _ _ (nppO j hj)]
      show h3.2.2 (pp j) i = _
      rw [n4]
end MKQ

/-! one heap for both: what stays -/
section LF
variable {x aR aO aH aT o : Nat} {rt ta A : Nat → Nat} {h h1 h' : th_S} {S S' : th_N} {N N' n u : Nat} {ad : Nat → Nat}
theorem mo_id (h : th_S) (S : th_N) : mo_h o A (mo_h o A h S) S = mo_h o A h S := by
  refine Prod.ext rfl (Prod.ext (funext fun b => ?_) rfl)
  show mo_g o A (mo_g o A h.2.1 S) S b = mo_g o A h.2.1 S b
  unfold mo_g
  by_cases e : b = o
  · rw [if_pos e, if_pos e]
  · rw [if_neg e, if_neg e]
    cases mo_js.find? (fun j => A j == b) with
    | some j => rfl
    | none => rfl
theorem mo_js7 : ∀ j, j ∈ mo_js → 7 ≤ (mo_len j).1 ∧ (mo_len j).1 ≤ 8 := by decide
/-- what isn't the model's may change -/
theorem mo_K.tr (hK : mo_K o A h) (f : ∀ b t, h.1 b = some t → (t = (10, 0) ∨ t.1 = 7 ∨ t.1 = 8) → h'.1 b = some t ∧ h'.2.2 b = h.2.2 b) : mo_K o A h' := by
  obtain ⟨k1, k2, k3⟩ := hK
  refine ⟨(f o _ k1 (Or.inl rfl)).1, fun j hj => ?_, k3⟩
  obtain ⟨a1, a2⟩ := k2 j hj
  have := mo_js7 j hj
  exact ⟨by rw [(f o _ k1 (Or.inl rfl)).2]; exact a1, (f (A j) _ a2 (Or.inr (by omega))).1⟩
theorem mo_h_tr (hK : mo_K o A h) (e : mo_h o A h S = h) (f : ∀ b t, h.1 b = some t → (t = (10, 0) ∨ t.1 = 7 ∨ t.1 = 8) → h'.2.1 b = h.2.1 b) : mo_h o A h' S = h' := by
  refine Prod.ext rfl (Prod.ext (funext fun b => ?_) rfl)
  show mo_g o A h'.2.1 S b = h'.2.1 b
  unfold mo_g
  by_cases eo : b = o
  · rw [if_pos eo, eo, f o _ hK.1 (Or.inl rfl)]
    have : (mo_h o A h S).2.1 o = h.2.1 o := by rw [e]
    exact Eq.trans (funext fun j => (mo_i (h := h) (A := A)).symm) this
  · rw [if_neg eo]
    cases ef : mo_js.find? (fun j => A j == b) with
    | none => rfl
    | some j =>
      have hj : j ∈ mo_js := List.mem_of_find?_eq_some ef
      have eb : A j = b := by
        have := List.find?_some ef
        simpa using this
      show S.2 j = h'.2.1 b
      have ka := (hK.2.1 j hj).2
      have := mo_js7 j hj
      rw [← eb, f (A j) _ ka (Or.inr (by omega)), ← mo_a hK hj (S := S), e]
theorem fr7.mo (f : fr7 h h') (hK : mo_K o A h) (e : mo_h o A h S = h) : mo_K o A h' ∧ mo_h o A h' S = h' := by
  have k : ∀ b t, h.1 b = some t → (t = (10, 0) ∨ t.1 = 7 ∨ t.1 = 8) → h'.1 b = some t ∧ h'.2.1 b = h.2.1 b ∧ h'.2.2 b = h.2.2 b := fun b t hb ht => f b t hb (by
    rcases ht with rfl | q | q
    · show 7 ≤ 10; omega
    · omega
    · omega)
  exact ⟨hK.tr (fun b t hb ht => ⟨(k b t hb ht).1, (k b t hb ht).2.2⟩), mo_h_tr hK e (fun b t hb ht => (k b t hb ht).2.1)⟩
theorem mo_low (hK : mo_K o A h) {b : Nat} {t : Nat × Nat} (hb : h.1 b = some t) (ht : t.1 < 7) (S : th_N) : (mo_h o A h S).2.1 b = h.2.1 b := by
  refine mo_n (fun e => ?_) (fun j hj e => ?_)
  · rw [e, hK.1] at hb
    rw [← Option.some.inj hb] at ht
    exact absurd ht (by decide)
  · have := (hK.2.1 j hj).2
    rw [e, hb] at this
    have := mo_js7 j hj
    have e2 := Option.some.inj ‹some t = some (mo_len j)›
    rw [e2] at ht
    omega
theorem sh_K.cg (K : sh_K x aR aO aH aT rt ta h) (e1 : h'.1 = h.1) (e2 : h'.2.2 = h.2.2) (e3 : ∀ b t, h.1 b = some t → t.1 < 7 → h'.2.1 b = h.2.1 b) : sh_K x aR aO aH aT rt ta h' := by
  obtain ⟨k1, k2, k3, k4, k5, k6, k7, k8, k9, k10⟩ := K
  refine ⟨?_, ?_, k3, ?_, ?_, k6, ?_, ?_, ?_, fun q hq => ?_⟩
  · rw [e1, e2]; exact k1
  · rw [e1]; exact k2
  · rw [e1, e2]; exact k4
  · rw [e1, e2]; exact k5
  · rw [e1, e2]; exact k7
  · rw [e1, e2]; exact k8
  · rw [e1, e2]; exact k9
  · rw [e1] at hq
    rw [e1, e2, e3 q _ hq (by decide)]
    exact k10 q hq
/-- the relation looks at the class's cells alone -/
theorem RR.cg (R : RR x aR aO aH aT rt ta h S N n u ad) (e1 : h'.1 = h.1) (e2 : h'.2.2 = h.2.2) (e3 : ∀ b t, h.1 b = some t → t.1 < 7 → h'.2.1 b = h.2.1 b) : RR x aR aO aH aT rt ta h' S N n u ad := by
  obtain ⟨Q, D, W⟩ := R
  have K := Q.1.1
  have O := Q.1.2
  have ex := e3 x _ K.kx (by decide)
  have et : ∀ i, i < 3 → h'.2.1 (ta i) = h.2.1 (ta i) := fun i hi => e3 _ _ (K.kta hi) (by decide)
  refine ⟨Q.fr ⟨fun b t q => by rw [e1]; exact q, fun b hb => ⟨by rw [e3 b _ hb (by decide)], by rw [e2]⟩, fun b m hb => by rw [e2]⟩ (K.cg e1 e2 e3) ⟨O.1, by rw [ex]; exact O.2.1, fun i hi => by rw [e1, e2]; exact O.2.2 i hi⟩ (fun b hb => by rw [e3 b _ hb (by decide)]) (fun b hb => ⟨e3 b _ hb (by decide), by rw [e2]⟩) (by rw [e2]) (Q.2.1.fr (fun j => by rw [ex]) (fun i hi => by rw [et i hi])), ⟨by rw [ex]; exact D.1, fun i hi => by rw [et i hi]; exact D.2 i hi⟩, W⟩
/-! what the class's calls leave alone -/
theorem pl_rem_fr {q : Nat} (f : fr7 h h1) (kq : h1.1 q = some (3, 0)) : fr7 h (pl_rem h1 q) ∧ (pl_rem h1 q).1 q = some (3, 0) := by
  unfold pl_rem
  split
  · exact ⟨(((f.ui kq (by decide)).ui kq (by decide)).ui kq (by decide)).ur kq (by decide), kq⟩
  · exact ⟨f, kq⟩
theorem pl_num_fr {q : Nat} (f : fr7 h h1) (kq : h1.1 q = some (3, 0)) (v : Int32) : fr7 h (pl_num h1 q v) := by
  obtain ⟨a, b⟩ := pl_rem_fr f kq
  exact ((a.ui b (by decide)).ui b (by decide)).ur b (by decide)
theorem pl_ref_fr {q : Nat} (f : fr7 h h1) (kq : h1.1 q = some (3, 0)) (v : Option Nat) : fr7 h (pl_ref h1 q v) := by
  obtain ⟨a, b⟩ := pl_rem_fr f kq
  exact ((a.ui b (by decide)).ui b (by decide)).ur b (by decide)
theorem sh_eh_fr (K : sh_K x aR aO aH aT rt ta h) (O : sh_O x aO n h) (z : Int32) {t : Nat} (ht : h.1 t = some (1, 0)) : fr7 h (sh_eh aO n rt z t h) := fun b tt hb hl => by
  have n3 : tt ≠ (3, 0) := fun e => by rw [e] at hl; exact absurd hl (by decide)
  have n2 : tt ≠ (2, 0) := fun e => by rw [e] at hl; exact absurd hl (by decide)
  have n1 : tt ≠ (1, 0) := fun e => by rw [e] at hl; exact absurd hl (by decide)
  obtain ⟨a, c⟩ := sh_eh_n K O z ht hb n3
  exact ⟨by rw [sh_eh_k]; exact hb, c n2 (th_kne hb ht n1), a⟩
theorem cr_fr (K : sh_K x aR aO aH aT rt ta h) (O : sh_O x aO n h) : ∀ i, i ≤ 3 → fr7 h (cr_s aO n rt ta h i).2
  | 0, _ => fr7.refl h
  | i + 1, hi => by
    have f := cr_fr K O i (by omega)
    obtain ⟨K1, O1⟩ := cr_s_I K O i (by omega)
    unfold cr_s
    split
    · exact f
    · exact f.trans (sh_eh_fr K1 O1 0 (K1.kta (by omega)))
theorem fh_fr (Q : RQ x aR aO aH aT rt ta h S N n u ad) : fr7 h (sh_fh x aO aH n rt h).2 := fun b t hb hl => by
  obtain ⟨f1, f2, f3⟩ := Q.hlf.1.1
  have K := Q.1.1
  have nk : ∀ c s, h.1 c = some s → s.1 < 7 → b ≠ c := fun c s hc hs => th_kne hb hc (fun e => by rw [e] at hl; omega)
  refine ⟨by rw [f1]; exact hb, funext fun j => ?_, f2 b (nk aH _ K.kH (by show 4 < 7; omega))⟩
  rcases f3 b j with ⟨q, -⟩ | ⟨-, q⟩ | q
  · exact absurd q (nk x _ K.kx (by show 0 < 7; omega))
  · exact absurd rfl (nk b _ q (by show 2 < 7; omega))
  · exact q
theorem fl_fr7 (K : sh_K x aR aO aH aT rt ta h) : fr7 h (th_ui (sh_fl x aO n h) x 8 0) := fun b t hb hl => by
  obtain ⟨f1, f2, f3, -⟩ := fl_fr (n := n) K
  have nk : ∀ c s, h.1 c = some s → s.1 < 7 → b ≠ c := fun c s hc hs => th_kne hb hc (fun e => by rw [e] at hl; omega)
  exact ⟨by rw [f1]; exact hb, funext fun j => f3 b j (fun e => absurd e (nk x _ K.kx (by show 0 < 7; omega))), f2 b (nk aO _ K.kO (by show 4 < 7; omega))⟩
theorem mk_fr (K : sh_K x aR aO aH aT rt ta h) {t : Nat} (ht : h.1 t = some (1, 0)) {k : Int32} {q nf pa : Nat} {pp : Nat → Nat} (hF : sh_mF x h t q nf pa pp) : fr7 h (sh_mh x aO n h t k q nf pa pp) := fun b tt hb hl => by
  have F := (mk_of (aO := aO) (n := n) (k := k) K ht hF).1 b tt hb
  have nk : ∀ c s, h.1 c = some s → s.1 < 7 → b ≠ c := fun c s hc hs => th_kne hb hc (fun e => by rw [e] at hl; omega)
  obtain ⟨F1, F2, F3⟩ := F
  refine ⟨F1, funext fun j => ?_, funext fun j => F3 j (fun e => nk aO _ K.kO (by show 4 < 7; omega) e.1)⟩
  rw [F2 j (fun e => nk x _ K.kx (by show 0 < 7; omega) e.1)]
  exact th_ui_n _ _ _ _ (nk t _ ht (by show 1 < 7; omega))
end LF
/-! both in one heap -/
def LI (x aR aO aH aT o ao : Nat) (rt ta A : Nat → Nat) (h : th_S) (N : Nat) : Prop :=
  mo_K o A h ∧ h.1 ao = some (9, 1) ∧ ∃ S n u ad, mo_h o A h S = h ∧ RR x aR aO aH aT rt ta h S N n u ad
section LI
variable {x aR aO aH aT o ao : Nat} {rt ta A : Nat → Nat} {h h1 h' hh : th_S} {S S' T : th_N} {N N' n u : Nat} {ad : Nat → Nat}
/-- a call of the class, and what the law keeps of it -/
theorem LI.cls (hK : mo_K o A h) (e : mo_h o A h S = h) (hao : h.1 ao = some (9, 1)) (f : fr7 h h1) (hh9 : hh = h1 ∨ ∃ b, hh = th_ui h1 ao 0 b) : mo_K o A hh ∧ mo_h o A hh S = hh ∧ hh.1 = h1.1 ∧ hh.2.2 = h1.2.2 ∧ ∀ b, b ≠ ao → hh.2.1 b = h1.2.1 b := by
  obtain ⟨k1, k2⟩ := f.mo hK e
  rcases hh9 with rfl | ⟨b, rfl⟩
  · exact ⟨k1, k2, rfl, rfl, fun _ _ => rfl⟩
  · have ka := (f ao _ hao (by show 7 ≤ 9; omega)).1
    have nk : ∀ b t, h1.1 b = some t → (t = (10, 0) ∨ t.1 = 7 ∨ t.1 = 8) → b ≠ ao := fun b t hb ht => th_kne hb ka (fun e => by
      rw [e] at ht
      rcases ht with q | q | q
      · cases q
      · cases q
      · cases q)
    exact ⟨k1.tr (fun b t hb ht => ⟨hb, rfl⟩), mo_h_tr k1 k2 (fun b t hb ht => ui_row (nk b t hb ht)), rfl, rfl, fun b hb => ui_row hb⟩
/-- and then a call of the model -/
theorem LI.step (hK : mo_K o A h) (ha : h.1 ao = some (9, 1)) (e : mo_h o A h S = h) (f : fr7 h h1) (hh9 : hh = h1 ∨ ∃ b, hh = th_ui h1 ao 0 b) (R : RR x aR aO aH aT rt ta h1 T N n u ad) : LI x aR aO aH aT o ao rt ta A (mo_h o A hh T) N := by
  obtain ⟨k1, k2, k3, k4, k5⟩ := LI.cls hK e ha f hh9
  obtain ⟨a1, a2, a3⟩ := f ao _ ha (by show 7 ≤ 9; omega)
  refine ⟨k1.tr (fun b t hb ht => ⟨hb, rfl⟩), ?_, T, n, u, ad, mo_id _ _, R.cg ?_ ?_ (fun b t hb ht => ?_)⟩
  · show hh.1 ao = _; rw [k3]; exact a1
  · exact k3
  · exact k4
  · have hb' : hh.1 b = some t := by rw [k3]; exact hb
    rw [mo_low k1 hb' ht, k5 b (fun q => ?_)]
    rw [q, a1] at hb
    rw [← Option.some.inj hb] at ht
    exact absurd ht (by decide)
/-- the number the law keeps -/
theorem LI.out (hK : mo_K o A hh) (ha : hh.1 ao = some (9, 1)) (T : th_N) : (mo_h o A hh T).2.1 ao = hh.2.1 ao := by
  refine mo_n (fun e => ?_) (fun j hj e => ?_)
  · rw [e, hK.1] at ha; cases ha
  · have := (hK.2.1 j hj).2
    rw [e, ha] at this
    have h8 := mo_js7 j hj
    rw [← Option.some.inj this] at h8
    exact absurd h8.2 (by decide)
end LI

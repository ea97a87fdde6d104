/-! the start -/
section ST
variable {x aR aO aH aT o ao : Nat} {rt ta A : Nat → Nat} {h h0 h' w : th_S} {S : th_N} {N n u : Nat} {ad : Nat → Nat}
def th_Z : th_N := (fun _ => 0, fun _ _ => 0)
theorem sh_K.cx (K : sh_K x aR aO aH aT rt ta h) (e1 : ∀ b t, h.1 b = some t → t.1 < 7 → h'.1 b = some t ∧ h'.2.1 b = h.2.1 b ∧ h'.2.2 b = h.2.2 b) (e2 : ∀ b t, h'.1 b = some t → t.1 < 7 → h.1 b = some t) : sh_K x aR aO aH aT rt ta h' := by
  have K0 := K
  obtain ⟨k1, k2, k3, k4, k5, k6, k7, k8, k9, k10⟩ := K
  have ex := e1 x _ k1.1 (by decide)
  have eR := e1 aR _ k2.1 (by show 4 < 7; omega)
  have eO := e1 aO _ k2.2.1 (by show 4 < 7; omega)
  have eH := e1 aH _ k2.2.2.1 (by show 4 < 7; omega)
  have eT := e1 aT _ k2.2.2.2 (by show 5 < 7; omega)
  refine ⟨?_, ⟨eR.1, eO.1, eH.1, eT.1⟩, k3, fun i hi => ?_, fun i hi => ?_, k6, fun a ha => ?_, fun pa n hp j hj => ?_, fun i hi => ?_, fun q hq => ?_⟩
  · rw [ex.2.2]; exact ⟨ex.1, k1.2⟩
  · rw [eR.2.2]; exact ⟨(k4 i hi).1, (e1 _ _ (k4 i hi).2 (by decide)).1⟩
  · rw [eT.2.2]; exact ⟨(k5 i hi).1, (e1 _ _ (k5 i hi).2 (by decide)).1⟩
  · have ha0 := e2 a _ ha (by decide)
    obtain ⟨pa, n, p1, p2, p3⟩ := k7 a ha0
    exact ⟨pa, n, by rw [(e1 a _ ha0 (by decide)).2.2]; exact p1, (e1 _ _ p2 (by show 6 < 7; omega)).1, p3⟩
  · have hp0 := e2 pa _ hp (by show 6 < 7; omega)
    obtain ⟨q, q1, q2⟩ := k8 pa n hp0 j hj
    exact ⟨q, by rw [(e1 pa _ hp0 (by show 6 < 7; omega)).2.2]; exact q1, (e1 _ _ q2 (by decide)).1⟩
  · obtain ⟨pa, p1, p2⟩ := k9 i hi
    exact ⟨pa, by rw [(e1 _ _ (k4 i hi).2 (by decide)).2.2]; exact p1, (e1 _ _ p2 (by show 6 < 7; omega)).1⟩
  · have hq0 := e2 q _ hq (by decide)
    obtain ⟨-, i, r⟩ := e1 q _ hq0 (by decide)
    rw [i, r]
    obtain ⟨a1, a2, a3, a4, a5⟩ := k10 q hq0
    exact ⟨a1, a2, a3, fun b hb => (e1 _ _ (a4 b hb) (by decide)).1, fun b hb => (e1 _ _ (a5 b hb) (by decide)).1⟩
theorem RR.cx (R : RR x aR aO aH aT rt ta h S N n u ad) (e1 : ∀ b t, h.1 b = some t → t.1 < 7 → h'.1 b = some t ∧ h'.2.1 b = h.2.1 b ∧ h'.2.2 b = h.2.2 b) (e2 : ∀ b t, h'.1 b = some t → t.1 < 7 → h.1 b = some t) : RR x aR aO aH aT rt ta h' S N n u ad := by
  obtain ⟨Q, D, W⟩ := R
  have K := Q.1.1
  have O := Q.1.2
  have ex := (e1 x _ K.kx (by decide)).2.1
  have eO := (e1 aO _ K.kO (by show 4 < 7; omega)).2.2
  have et : ∀ i, i < 3 → h'.2.1 (ta i) = h.2.1 (ta i) := fun i hi => (e1 _ _ (K.kta hi) (by decide)).2.1
  have K' := K.cx e1 e2
  have O' : sh_O x aO n h' := ⟨O.1, by rw [ex]; exact O.2.1, fun i hi => by
    obtain ⟨a, a1, a2⟩ := O.2.2 i hi
    exact ⟨a, by rw [eO]; exact a1, (e1 a _ a2 (by decide)).1⟩⟩
  have X' : rl_X x ta h' S N := Q.2.1.fr (fun j => by rw [ex]) (fun i hi => by rw [et i hi])
  have kA := fun r hr => Q.kA (r := r) hr
  have vw : ∀ a, h.1 a = some (2, 0) → vw_np h' a = vw_np h a ∧ ∀ j, j < vw_np h a → vw_pp h' a j = vw_pp h a j := fun a ha => by
    obtain ⟨v1, v2, -, -⟩ := K.vw ha
    obtain ⟨-, -, r1⟩ := e1 a _ ha (by decide)
    obtain ⟨k2, -, r2⟩ := e1 _ _ v2 (by show 6 < 7; omega)
    have p : vw_pa h' a = vw_pa h a := vw_pa_of (by rw [r1]; exact v1)
    refine ⟨?_, fun j _ => ?_⟩
    · unfold vw_np
      rw [p, k2, v2]
    · unfold vw_pp
      rw [p, r2]
  obtain ⟨-, X, B, U, A, P, E, V⟩ := Q
  have Q : RQ x aR aO aH aT rt ta h S N n u ad := ⟨⟨K, O⟩, X, B, U, A, P, E, V⟩
  refine ⟨⟨⟨K', O'⟩, X', ?_, U, fun r hr => ?_, fun r r' j j' l l' hj hj' e => ?_, ⟨fun e he => ?_, E.2⟩, V⟩, ⟨by rw [ex]; exact D.1, fun i hi => by rw [et i hi]; exact D.2 i hi⟩, W⟩
  · unfold rl_B
    unfold vw_ob
    rw [eO]
    exact B
  · obtain ⟨a1, a2, a3, a4, a5⟩ := A r hr
    obtain ⟨v1, v2⟩ := vw _ a1
    obtain ⟨b1, b2, b3⟩ := e1 _ _ a1 (by decide)
    refine ⟨b1, by rw [b2]; exact a2, by rw [b2]; exact a3, by rw [v1]; exact a4, fun j hj => ?_⟩
    rw [v1] at hj
    rw [v2 j hj]
    obtain ⟨-, c2, c3⟩ := e1 _ _ (Q.place hr hj) (by decide)
    exact rl_C.fr c2 c3 (a5 j hj)
  · obtain ⟨v1, v2⟩ := vw _ (kA r l)
    obtain ⟨w1, w2⟩ := vw _ (kA r' l')
    rw [v1] at hj
    rw [w1] at hj'
    rw [v2 j hj, w2 j' hj'] at e
    exact P r r' j j' l l' hj hj' e
  · obtain ⟨r, j, l, hj, ec⟩ := E.1 e he
    exact ⟨r, j, l, by rw [(vw _ (kA r l)).1]; exact hj, ec⟩
theorem RR.zero {rp rq : Nat → Nat} (K : sh_K x aR aO aH aT rt ta w) (O : sh_O x aO 0 w) (zx : ∀ k, w.2.1 x k = 0) (zt : ∀ i, i < 3 → ∀ k, w.2.1 (ta i) k = 0) (L : ∀ i, i < 4 → ct_L w (rt i) (rp i) (rq i)) (i1 : ∀ j k, j < 4 → k < 4 → rt j = rt k → j = k) (i2 : ∀ j k, j < 4 → k < 4 → rq j = rq k → j = k) :
    RR x aR aO aH aT rt ta w th_Z 0 0 0 (fun r => rt (r - 80)) := by
  have lv : ∀ r, rl_lv (th_Z.2 1) r → ∃ k, k < 4 ∧ r = 80 + k := fun r hr => by
    by_cases c : r < 80
    · exact absurd (show (0 : Int32) ≤ 0 by decide) (hr.2 c)
    · have := hr.1
      exact ⟨r - 80, by omega, by omega⟩
  have np : ∀ k, k < 4 → vw_np w (rt k) = 1 ∧ vw_pp w (rt k) 0 = rq k := fun k hk => by
    obtain ⟨l1, l2, l3, l4, l5, l6, l7, l8⟩ := L k hk
    exact ⟨vw_np_of l3 l4, by simp [vw_pp, vw_pa_of l3, l5]⟩
  have no : ∀ r : Nat, ¬ (¬ th_Z.2 1 r ≤ 0) := fun r q => q (by show (0 : Int32) ≤ 0; decide)
  refine ⟨⟨⟨K, O⟩, ⟨0, 0, ⟨rfl, Nat.le_refl 0, rfl, Nat.le_refl 0⟩, ⟨zx 6, zx 7, zx 9, zx 10⟩, fun i hi => ⟨zt i hi 0, 0, Nat.le_refl 0, rfl⟩, fun i j _ _ _ q => absurd rfl q, fun r _ => ⟨0, Nat.le_refl 0, rfl⟩, fun r _ => ⟨0, Nat.zero_le 4, rfl⟩⟩,
    ⟨fun i hi => absurd hi (Nat.not_lt_zero i), fun r _ q => absurd q (no r), fun r r' h1 h2 e => ?_, fun k hk => ?_, fun i j hi => absurd hi (Nat.not_lt_zero i), fun r r' _ _ q => absurd q (no r)⟩, ⟨?_, ?_⟩, fun r hr => ?_, fun r r' j j' h1 h2 hj hj' e => ?_, ⟨fun e he => ?_, ?_⟩, fun r hr => Or.inl ?_⟩, ⟨zx 8, fun i hi => zt i hi 1⟩, ?_⟩
  · obtain ⟨k, hk, rfl⟩ := lv r h1
    obtain ⟨k', hk', rfl⟩ := lv r' h2
    have := i1 (80 + k - 80) (80 + k' - 80) (by omega) (by omega) e
    omega
  · show rt (80 + k - 80) = rt k
    rw [Nat.add_sub_cancel_left]
  · show (0 : Int32) = _
    rw [sm_0 (rl_wt (th_Z.2 1) (th_Z.2 2)) 80 (fun i _ => if_pos (show (0 : Int32) ≤ 0 by decide))]
    rfl
  · rw [sm_0 (rl_wt (th_Z.2 1) (th_Z.2 2)) 80 (fun i _ => if_pos (show (0 : Int32) ≤ 0 by decide))]
    exact Nat.zero_le 80
  · obtain ⟨k, hk, rfl⟩ := lv r hr
    obtain ⟨l1, l2, l3, l4, l5, l6, l7, l8⟩ := L k hk
    obtain ⟨n1, n2⟩ := np k hk
    have ea : (fun r => rt (r - 80)) (80 + k) = rt k := by show rt (80 + k - 80) = rt k; rw [Nat.add_sub_cancel_left]
    unfold rl_A
    rw [ea]
    refine ⟨l1, ?_, ?_, ?_, fun j hj => ?_⟩
    · rw [l2]; unfold rl_hd; rw [if_neg (by omega)]
    · rw [l2]; unfold rl_lk; rw [if_neg (by omega)]; rfl
    · unfold rl_sz; rw [if_neg (by omega), n1]; rfl
    · have ej : j = 0 := by omega
      subst ej
      rw [n2, rl_mvR _ _ hk, rl_mrR _ hk]
      refine ⟨⟨fun q => absurd q (by omega), Or.inr rfl, fun _ => rfl, Or.inr ⟨rfl, Or.inl ⟨l8 2, rfl⟩⟩⟩, Or.inl ⟨l7 3, l8 6, fun e he => ?_⟩⟩
      cases he
  · obtain ⟨k, hk, rfl⟩ := lv r h1
    obtain ⟨k', hk', rfl⟩ := lv r' h2
    rw [show (fun r => rt (r - 80)) (80 + k) = rt k by show rt (80 + k - 80) = rt k; rw [Nat.add_sub_cancel_left]] at hj e
    rw [show (fun r => rt (r - 80)) (80 + k') = rt k' by show rt (80 + k' - 80) = rt k'; rw [Nat.add_sub_cancel_left]] at hj' e
    rw [(np k hk).1] at hj
    rw [(np k' hk').1] at hj'
    have ej : j = 0 := by omega
    have ej' : j' = 0 := by omega
    subst ej
    subst ej'
    rw [(np k hk).2, (np k' hk').2] at e
    have := i2 k k' hk hk' e
    omega
  · cases he
  · exact List.Pairwise.nil
  · unfold rl_lk; split <;> rfl
  · refine ⟨0, fun _ => 0, rfl, fun _ _ => rfl, Nat.zero_le 150, fun _ _ _ => rfl, fun i _ q => absurd rfl q, rfl, rfl, fun e he => ?_⟩
    cases he
theorem LI.zero (hx : h0.1 x = none) (E : ct_E (th_un h0 x (0, 0)) x w) (ho : w.1 o = none) {U : th_S} (I : mo_I o (th_un w o (10, 0)) [19, 18, 17, 16, 12, 11, 8, 7, 6, 5, 4, 3, 2, 1] A U) (ha : U.1 ao = none) :
    ∃ aR aO aH aT rt ta, LI x aR aO aH aT o ao rt ta A (th_un U ao (9, 1)) 0 := by
  obtain ⟨aR, aO, aH, aT, rt, ta, rp, rq, K, O, zx, zt, L, i1, i2, old⟩ := E
  refine ⟨aR, aO, aH, aT, rt, ta, ?_⟩
  obtain ⟨I1, I2, I3, I4, I5⟩ := I
  have nwo : ∀ b t, w.1 b = some t → b ≠ o := fun b t hb e => by rw [e, ho] at hb; cases hb
  have nUa : ∀ b t, U.1 b = some t → b ≠ ao := fun b t hb e => by rw [e, ha] at hb; cases hb
  have step : ∀ b t, w.1 b = some t → (th_un U ao (9, 1)).1 b = some t ∧ (th_un U ao (9, 1)).2.1 b = w.2.1 b ∧ (th_un U ao (9, 1)).2.2 b = w.2.2 b := fun b t hb => by
    have n1 := nwo b t hb
    obtain ⟨c1, c2, c3⟩ := I4 b t (th_un_k (t := (10, 0)) ho hb)
    have n2 := nUa b t c1
    refine ⟨th_un_k ha c1, (funext fun i => th_un_i (t := (9, 1)) n2).trans (c2.trans (funext fun i => th_un_i (t := (10, 0)) n1)), (funext fun i => th_un_r (t := (9, 1)) n2).trans ((c3 n1).trans (funext fun i => th_un_r (t := (10, 0)) n1))⟩
  have inv : ∀ b t, (th_un U ao (9, 1)).1 b = some t → t.1 < 7 → w.1 b = some t := fun b t hb ht => by
    by_cases e : b = ao
    · rw [e, th_un_self] at hb
      rw [← Option.some.inj hb] at ht
      exact absurd ht (by decide)
    · rw [th_un_ne e] at hb
      rcases I5 b t hb with q | q
      · by_cases e2 : b = o
        · rw [e2, th_un_self] at q
          rw [← Option.some.inj q] at ht
          exact absurd ht (by decide)
        · rw [th_un_ne e2] at q
          exact q
      · omega
  have R0 := RR.zero K O zx zt L i1 i2
  have mem : ∀ j, j ∈ mo_js → j ∈ [19, 18, 17, 16, 12, 11, 8, 7, 6, 5, 4, 3, 2, 1] := by decide
  have no := nUa o _ I1
  have ro : (th_un U ao (9, 1)).2.2 o = U.2.2 o := funext fun i => th_un_r (t := (9, 1)) no
  have io : (th_un U ao (9, 1)).2.1 o = fun _ => 0 := by
    refine (funext fun i => th_un_i (t := (9, 1)) no).trans ?_
    rw [(I4 o _ (th_un_self w o (10, 0))).2.1]
    funext i
    simp [th_un, va_up]
  have mK : mo_K o A (th_un U ao (9, 1)) := ⟨th_un_k ha I1, fun j hj => ⟨by rw [ro]; exact (I2 j (mem j hj)).1, th_un_k ha (I2 j (mem j hj)).2.1⟩, fun i j hi hj e => I3 i j (mem i hi) (mem j hj) e⟩
  refine ⟨mK, th_un_self _ _ _, th_Z, 0, 0, _, ?_, R0.cx (fun b t hb _ => step b t hb) inv⟩
  · refine Prod.ext rfl (Prod.ext (funext fun b => ?_) rfl)
    show mo_g o A (th_un U ao (9, 1)).2.1 th_Z b = _
    unfold mo_g
    by_cases eo : b = o
    · rw [if_pos eo, eo, io]; rfl
    · rw [if_neg eo]
      cases ef : mo_js.find? (fun j => A j == b) with
      | none => rfl
      | some j =>
        have hj : j ∈ mo_js := List.mem_of_find?_eq_some ef
        have eb : A j = b := by
          have := List.find?_some ef
          simpa using this
        obtain ⟨a1, a2, a3, a4⟩ := I2 j (mem j hj)
        show (fun _ => 0) = _
        rw [← eb]
        refine Eq.symm ((funext fun i => th_un_i (t := (9, 1)) (nUa _ _ a2)).trans (funext a3))
end ST

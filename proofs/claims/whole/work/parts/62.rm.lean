/-! moving the relation -/
section RMV
variable {x aR aO aH aT : Nat} {rt ta : Nat → Nat} {h h' : th_S} {S S' : th_N} {N n u : Nat} {ad ad' : Nat → Nat}
theorem rl_A.mv (K : sh_K x aR aO aH aT rt ta h) (g : gs h h') {hd sz lk rk rf vl ro hd' sz' lk' rk' rf' vl' ro' : Nat → Int32} {L L' : List UE} {r : Nat} (hA : rl_A h hd sz lk rk rf vl ro L ad r)
    (ea : ad' r = ad r) (eh : rl_hd hd' r = rl_hd hd r) (ez : rl_sz sz' r = rl_sz sz r) (eo : h'.2.1 (ad r) 2 = rl_lk lk' rk' r)
    (ec : ∀ j, j < vw_np h (ad r) → rl_C h hd (rl_lk lk rk r) (rl_mr rf (rl_cl r j)) (rl_mv vl ro (rl_cl r j)) L ad r (rl_cl r j) (vw_pp h (ad r) j) → rl_C h' hd' (rl_lk lk' rk' r) (rl_mr rf' (rl_cl r j)) (rl_mv vl' ro' (rl_cl r j)) L' ad' r (rl_cl r j) (vw_pp h (ad r) j)) :
    rl_A h' hd' sz' lk' rk' rf' vl' ro' L' ad' r := by
  obtain ⟨a1, a2, a3, a4, a5⟩ := hA
  obtain ⟨v1, v2⟩ := g.vw K a1
  refine ⟨by rw [ea]; exact g.1 _ _ a1, by rw [ea, eh, (g.2.1 _ a1).1]; exact a2, by rw [ea]; exact eo, by rw [ea, ez, v1]; exact a4, fun j hj => ?_⟩
  rw [ea, v1] at hj
  rw [ea, v2]
  exact ec j hj (a5 j hj)
theorem rl_P.mv (K : sh_K x aR aO aH aT rt ta h) (g : gs h h') {hd hd' : Nat → Int32} (A : ∀ r, rl_lv hd r → h.1 (ad r) = some (2, 0)) (P : rl_P h hd ad) (hl : ∀ r, rl_lv hd' r → rl_lv hd r ∧ ad' r = ad r) : rl_P h' hd' ad' := by
  intro r r' j j' h1 h2 hj hj' e
  obtain ⟨l1, e1⟩ := hl r h1
  obtain ⟨l2, e2⟩ := hl r' h2
  obtain ⟨v1, w1⟩ := g.vw K (A r l1)
  obtain ⟨v2, w2⟩ := g.vw K (A r' l2)
  rw [e1, v1] at hj
  rw [e2, v2] at hj'
  rw [e1, e2, w1, w2] at e
  exact P r r' j j' l1 l2 hj hj' e
theorem rl_E.mv (K : sh_K x aR aO aH aT rt ta h) (g : gs h h') {hd hd' : Nat → Int32} {L L' : List UE} (A : ∀ r, rl_lv hd r → h.1 (ad r) = some (2, 0)) (E : rl_E h hd L ad) (hl : ∀ r, rl_lv hd r → (∃ e, e ∈ L' ∧ ∃ j, j < vw_np h (ad r) ∧ e.2.1 = nI (rl_cl r j)) → rl_lv hd' r ∧ ad' r = ad r) (hL : ∀ e, e ∈ L' → e ∈ L) (hp : L'.Pairwise (fun a b => ¬ a.2.1 = b.2.1)) : rl_E h' hd' L' ad' := by
  refine ⟨fun e he => ?_, hp⟩
  obtain ⟨r, j, h1, h2, h3⟩ := E.1 e (hL e he)
  obtain ⟨l1, e1⟩ := hl r h1 ⟨e, he, j, h2, h3⟩
  obtain ⟨v1, w1⟩ := g.vw K (A r h1)
  exact ⟨r, j, l1, by rw [e1, v1]; exact h2, h3⟩
theorem RQ.kA (R : RQ x aR aO aH aT rt ta h S N n u ad) {r : Nat} (hr : rl_lv (S.2 1) r) : h.1 (ad r) = some (2, 0) := (R.2.2.2.2.1 r hr).1
/-- a place's cell, where the place stays -/
theorem rl_C.fr {hd : Nat → Int32} {lk mr mv : Int32} {L : List UE} {r c q : Nat} (e1 : h'.2.1 q = h.2.1 q) (e2 : h'.2.2 q = h.2.2 q) (C : rl_C h hd lk mr mv L ad r c q) : rl_C h' hd lk mr mv L ad r c q := by
  unfold rl_C
  rw [e1, e2]
  exact C
/-- the heap changes where the relation doesn't look -/
theorem RQ.fr (R : RQ x aR aO aH aT rt ta h S N n u ad) (g : gs h h') (K' : sh_K x aR aO aH aT rt ta h') (O' : sh_O x aO n h') (ho : ∀ b, h.1 b = some (2, 0) → h'.2.1 b 2 = h.2.1 b 2) (hp : ∀ b, h.1 b = some (3, 0) → h'.2.1 b = h.2.1 b ∧ h'.2.2 b = h.2.2 b) (hob : h'.2.2 aO = h.2.2 aO)
    (X' : rl_X x ta h' S N) : RQ x aR aO aH aT rt ta h' S N n u ad := by
  have kA := fun r hr => R.kA (r := r) hr
  obtain ⟨⟨K, O⟩, X, B, U, A, P, E, V⟩ := R
  refine ⟨⟨K', O'⟩, X', ?_, U, fun r hr => ?_, P.mv K g kA (fun r hr => ⟨hr, rfl⟩), E.mv K g kA (fun r hr _ => ⟨hr, rfl⟩) (fun _ q => q) E.2, V⟩
  · unfold rl_B
    unfold vw_ob
    rw [hob]
    exact B
  · refine (A r hr).mv K g rfl rfl rfl (by rw [ho _ (kA r hr)]; exact (A r hr).2.2.1) (fun j hj C => ?_)
    obtain ⟨e1, e2⟩ := hp _ ((K.vw (kA r hr)).2.2.2 j hj).2
    exact C.fr e1 e2
theorem gs.ui {a j : Nat} {v : Int32} {t : Nat × Nat} (ha : h.1 a = some t) (hj : t = (2, 0) → j ≠ 0) : gs h (th_ui h a j v) := by
  refine ⟨fun _ _ q => q, fun b hb => ⟨?_, rfl⟩, fun _ _ _ => rfl⟩
  by_cases e : b = a
  · subst e
    rw [hb] at ha
    exact th_ui_k _ _ _ (Ne.symm (hj (Option.some.inj ha).symm))
  · exact th_ui_n _ _ _ _ e
theorem gs.ur {a j : Nat} {v : Option Nat} {t : Nat × Nat} (ha : h.1 a = some t) (h2 : t = (2, 0) → j ≠ 1) (h6 : t.1 ≠ 6) : gs h (th_ur h a j v) := by
  refine ⟨fun _ _ q => q, fun b hb => ⟨rfl, ?_⟩, fun b m hb => ?_⟩
  · by_cases e : b = a
    · subst e
      rw [hb] at ha
      exact th_ur_k _ _ _ (Ne.symm (h2 (Option.some.inj ha).symm))
    · exact th_ur_n _ _ _ _ e
  · have e : b ≠ a := fun e => by
      subst e
      rw [hb] at ha
      exact h6 (by rw [← Option.some.inj ha])
    funext i
    exact th_ur_n _ _ _ _ e
theorem ui_at {a j b i : Nat} {v : Int32} (e : b = a → i ≠ j) : (th_ui h a j v).2.1 b i = h.2.1 b i := by
  by_cases q : b = a
  · rw [q]; exact th_ui_k _ _ _ (e q)
  · exact th_ui_n _ _ _ _ q
theorem ui_row {a j b : Nat} {v : Int32} (e : b ≠ a) : (th_ui h a j v).2.1 b = h.2.1 b := funext fun i => th_ui_n _ _ _ _ e
/-- words and the like: a number of the object or of a transaction -/
theorem RQ.num (R : RQ x aR aO aH aT rt ta h S N n u ad) {a j : Nat} {v : Int32} (ha : (a = x ∧ j ≠ 4) ∨ h.1 a = some (1, 0)) (X' : rl_X x ta (th_ui h a j v) S N) : RQ x aR aO aH aT rt ta (th_ui h a j v) S N n u ad := by
  have K := R.1.1
  have O := R.1.2
  have ka : ∃ t, h.1 a = some t ∧ t ≠ (2, 0) ∧ t ≠ (3, 0) := by
    rcases ha with ⟨e, -⟩ | e
    · rw [e]; exact ⟨_, K.kx, by decide, by decide⟩
    · exact ⟨_, e, by decide, by decide⟩
  obtain ⟨t, kt, n2, n3⟩ := ka
  refine R.fr (gs.ui kt (fun q => absurd q n2)) (K.uk kt n3) ⟨O.1, ?_, O.2.2⟩ (fun b hb => th_ui_n _ _ _ _ (th_kne hb kt (Ne.symm n2))) (fun b hb => ⟨ui_row (th_kne hb kt (Ne.symm n3)), rfl⟩) rfl X'
  rw [ui_at (fun e => ?_)]
  · exact O.2.1
  · rcases ha with ⟨-, q⟩ | q
    · exact Ne.symm q
    · rw [← e, K.kx] at q; cases q
end RMV

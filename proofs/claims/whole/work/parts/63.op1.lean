/-! numbers that change: begin, checkpoint -/
def nf (x : Nat) (h h' : th_S) : Prop := h'.1 = h.1 ∧ h'.2.2 = h.2.2 ∧ ∀ b j, ((b = x ∧ j ≠ 4) ∨ h.1 b = some (1, 0)) ∨ h'.2.1 b j = h.2.1 b j
theorem nf.refl (x : Nat) (h : th_S) : nf x h h := ⟨rfl, rfl, fun _ _ => Or.inr rfl⟩
theorem nf.ui {x : Nat} {h h' : th_S} (f : nf x h h') {a j : Nat} {v : Int32} (ha : (a = x ∧ j ≠ 4) ∨ h.1 a = some (1, 0)) : nf x h (th_ui h' a j v) := by
  refine ⟨f.1, f.2.1, fun b i => ?_⟩
  by_cases e : b = a ∧ i = j
  · obtain ⟨rfl, rfl⟩ := e
    exact Or.inl ha
  · rw [ui_at (fun q => fun z => e ⟨q, z⟩)]
    exact f.2.2 b i
/-- what isn't the class's stays -/
def fr7 (h h' : th_S) : Prop := ∀ b t, h.1 b = some t → 7 ≤ t.1 → h'.1 b = some t ∧ h'.2.1 b = h.2.1 b ∧ h'.2.2 b = h.2.2 b
theorem fr7.refl (h : th_S) : fr7 h h := fun _ _ hb _ => ⟨hb, rfl, rfl⟩
theorem fr7.trans {h h' h'' : th_S} (a : fr7 h h') (b : fr7 h' h'') : fr7 h h'' := fun c t hc ht => by
  obtain ⟨a1, a2, a3⟩ := a c t hc ht
  obtain ⟨b1, b2, b3⟩ := b c t a1 ht
  exact ⟨b1, b2.trans a2, b3.trans a3⟩
theorem fr7.ui {h h' : th_S} (f : fr7 h h') {a j : Nat} {v : Int32} {t : Nat × Nat} (ha : h'.1 a = some t) (ht : t.1 < 7) : fr7 h (th_ui h' a j v) := fun b t' hb hl => by
  obtain ⟨a1, a2, a3⟩ := f b t' hb hl
  have hne : b ≠ a := fun e => by rw [e, ha] at a1; cases a1; omega
  exact ⟨a1, (ui_row hne).trans a2, a3⟩
theorem fr7.ur {h h' : th_S} (f : fr7 h h') {a j : Nat} {v : Option Nat} {t : Nat × Nat} (ha : h'.1 a = some t) (ht : t.1 < 7) : fr7 h (th_ur h' a j v) := fun b t' hb hl => by
  obtain ⟨a1, a2, a3⟩ := f b t' hb hl
  have hne : b ≠ a := fun e => by rw [e, ha] at a1; cases a1; omega
  exact ⟨a1, a2, (funext fun i => th_ur_n _ _ _ _ hne).trans a3⟩
section OP1
variable {x aR aO aH aT : Nat} {rt ta : Nat → Nat} {h h' : th_S} {S S' : th_N} {N N' n u : Nat} {ad : Nat → Nat}
/-- the model changes where the core doesn't look -/
theorem RQ.sS (R : RQ x aR aO aH aT rt ta h S N n u ad) (e1 : S'.2 1 = S.2 1) (e2 : S'.2 2 = S.2 2) (e3 : S'.2 3 = S.2 3) (e4 : S'.2 4 = S.2 4) (e5 : S'.2 5 = S.2 5) (e7 : S'.2 7 = S.2 7) (e8 : S'.2 8 = S.2 8) (eu : mo_ul S' u = mo_ul S u) (e10 : S'.1 10 = S.1 10) (X' : rl_X x ta h S' N') (V' : rl_V (S.2 1) (S.2 3) (S.2 8) (S'.2 11)) : RQ x aR aO aH aT rt ta h S' N' n u ad := by
  obtain ⟨KO, X, B, U, A, P, E, V⟩ := R
  unfold RQ
  rw [e1, e2, e3, e4, e5, e7, e8, eu, e10]
  exact ⟨KO, X', B, U, A, P, E, V'⟩
theorem RQ.nfH (R : RQ x aR aO aH aT rt ta h S N n u ad) (f : nf x h h') (X' : rl_X x ta h' S N) : RQ x aR aO aH aT rt ta h' S N n u ad := by
  have K := R.1.1
  have O := R.1.2
  obtain ⟨f1, f2, f3⟩ := f
  have e : ∀ b t, h.1 b = some t → t ≠ (1, 0) → t ≠ (0, 0) → h'.2.1 b = h.2.1 b := fun b t hb h1 h0 => funext fun j => by
    rcases f3 b j with (⟨q, -⟩ | q) | q
    · rw [q, K.kx] at hb; cases hb; exact absurd rfl h0
    · rw [q] at hb; cases hb; exact absurd rfl h1
    · exact q
  refine R.fr ⟨fun b t q => by rw [f1]; exact q, fun b hb => ⟨by rw [e b _ hb (by decide) (by decide)], by rw [f2]⟩, fun b m hb => by rw [f2]⟩ ?_ ⟨O.1, ?_, fun i hi => by rw [f1, f2]; exact O.2.2 i hi⟩ (fun b hb => by rw [e b _ hb (by decide) (by decide)]) (fun b hb => ⟨e b _ hb (by decide) (by decide), by rw [f2]⟩) (by rw [f2]) X'
  · unfold sh_K
    rw [f1, f2]
    refine ⟨K.1, K.2.1, K.2.2.1, K.2.2.2.1, K.2.2.2.2.1, K.2.2.2.2.2.1, K.2.2.2.2.2.2.1, K.2.2.2.2.2.2.2.1, K.2.2.2.2.2.2.2.2.1, fun q hq => ?_⟩
    rw [e q _ hq (by decide) (by decide)]
    exact K.pl hq
  · rcases f3 x 4 with (⟨-, q⟩ | q) | q
    · exact absurd rfl q
    · rw [K.kx] at q; cases q
    · rw [q]; exact O.2.1
/-- both change -/
theorem RQ.nfS (R : RQ x aR aO aH aT rt ta h S N n u ad) (f : nf x h h') (e1 : S'.2 1 = S.2 1) (e2 : S'.2 2 = S.2 2) (e3 : S'.2 3 = S.2 3) (e4 : S'.2 4 = S.2 4) (e5 : S'.2 5 = S.2 5) (e7 : S'.2 7 = S.2 7) (e8 : S'.2 8 = S.2 8) (eu : mo_ul S' u = mo_ul S u) (e10 : S'.1 10 = S.1 10) (X' : rl_X x ta h' S' N') (V' : rl_V (S.2 1) (S.2 3) (S.2 8) (S'.2 11)) : RQ x aR aO aH aT rt ta h' S' N' n u ad := by
  obtain ⟨⟨K, O⟩, X, B, U, A, P, E, V⟩ := R
  obtain ⟨f1, f2, f3⟩ := f
  have kA : ∀ r, rl_lv (S.2 1) r → h.1 (ad r) = some (2, 0) := fun r hr => (A r hr).1
  have e : ∀ b t, h.1 b = some t → t ≠ (1, 0) → t ≠ (0, 0) → h'.2.1 b = h.2.1 b := fun b t hb h1 h0 => funext fun j => by
    rcases f3 b j with (⟨q, -⟩ | q) | q
    · rw [q, K.kx] at hb; cases hb; exact absurd rfl h0
    · rw [q] at hb; cases hb; exact absurd rfl h1
    · exact q
  have g : gs h h' := ⟨fun b t q => by rw [f1]; exact q, fun b hb => ⟨by rw [e b _ hb (by decide) (by decide)], by rw [f2]⟩, fun b m hb => by rw [f2]⟩
  unfold RQ
  rw [e1, e2, e3, e4, e5, e7, e8, eu, e10]
  refine ⟨⟨?_, O.1, ?_, fun i hi => by rw [f1, f2]; exact O.2.2 i hi⟩, X', ?_, U, fun r hr => ?_, P.mv K g kA (fun r hr => ⟨hr, rfl⟩), E.mv K g kA (fun r hr _ => ⟨hr, rfl⟩) (fun _ q => q) E.2, V'⟩
  · unfold sh_K
    rw [f1, f2]
    refine ⟨K.1, K.2.1, K.2.2.1, K.2.2.2.1, K.2.2.2.2.1, K.2.2.2.2.2.1, K.2.2.2.2.2.2.1, K.2.2.2.2.2.2.2.1, K.2.2.2.2.2.2.2.2.1, fun q hq => ?_⟩
    rw [e q _ hq (by decide) (by decide)]
    exact K.pl hq
  · rcases f3 x 4 with (⟨-, q⟩ | q) | q
    · exact absurd rfl q
    · rw [K.kx] at q; cases q
    · rw [q]; exact O.2.1
  · unfold rl_B
    unfold vw_ob
    rw [f2]
    exact B
  · refine (A r hr).mv K g rfl rfl rfl (by rw [e _ _ (kA r hr) (by decide) (by decide)]; exact (A r hr).2.2.1) (fun j hj C => ?_)
    have kq := ((K.vw (kA r hr)).2.2.2 j hj).2
    exact C.fr (e _ _ kq (by decide) (by decide)) (by rw [f2])
theorem nf.fr7 (f : nf x h h') (kx : h.1 x = some (0, 0)) : fr7 h h' := fun b t hb hl => by
  refine ⟨by rw [f.1]; exact hb, funext fun j => ?_, by rw [f.2.1]⟩
  rcases f.2.2 b j with (⟨q, -⟩ | q) | q
  · rw [q, kx] at hb; cases hb; omega
  · rw [q] at hb; cases hb; omega
  · exact q
theorem rl_X.N1 (X : rl_X x ta h S N) (hN : N ≤ N') : rl_X x ta h S N' := by
  obtain ⟨gv, bg, ⟨a, b, c, d⟩, r⟩ := X
  exact ⟨gv, bg, ⟨a, by omega, c, by omega⟩, r⟩
theorem RQ.N1 (R : RQ x aR aO aH aT rt ta h S N n u ad) (hN : N ≤ N') : RQ x aR aO aH aT rt ta h S N' n u ad := ⟨R.1, R.2.1.N1 hN, R.2.2⟩
/-- a refusal: the code alone -/
theorem RR.s0 (R : RR x aR aO aH aT rt ta h S N n u ad) (hN : N ≤ N') (v : Int32) : RR x aR aO aH aT rt ta h (su S 0 v) N' n u ad :=
  ⟨(R.1.N1 hN).sS rfl rfl rfl rfl rfl rfl rfl rfl rfl (R.2.1.elim fun _ _ => (R.1.N1 hN).2.1) R.1.2.2.2.2.2.2.2, R.2.1, R.2.2⟩
theorem su0_0 (S : th_N) (v : Int32) : (su S 0 v).1 0 = v := by simp [su, va_up]
/-- the log's words -/
theorem rl_W.lg {wl : Int32} {L : List UE} (W : rl_W (S.1 14) (S.2 12) (S.2 11) wl L u) : ∃ T, T ≤ 150 ∧ mo_lg S = nI T ∧ ∀ m : Nat, m ≤ 100 → (mo_lg S + nI m ≤ 150 ↔ T + m ≤ 150) := by
  obtain ⟨s, w, h1, h2, h3, -⟩ := W
  have e : mo_lg S = nI (s + w 0 + w 1 + w 2) := by
    unfold mo_lg
    rw [h1, h2 0 (by decide), h2 1 (by decide), h2 2 (by decide), nI_add, nI_add, nI_add]
  refine ⟨s + w 0 + w 1 + w 2, h3, e, fun m hm => ?_⟩
  rw [e, nI_add]
  exact nI_leI (a := s + w 0 + w 1 + w 2 + m) (b := 150) (by omega) (by decide)
theorem RR.wl (R : RR x aR aO aH aT rt ta h S N n u ad) : sh_wl x ta h = mo_lg S := by
  obtain ⟨-, ⟨d1, d2⟩, -⟩ := R
  unfold sh_wl mo_lg
  rw [d1, d2 0 (by decide), d2 1 (by decide), d2 2 (by decide)]
theorem RR.checkpoint (R : RR x aR aO aH aT rt ta h S N n u ad) (hN : N ≤ N') : RR x aR aO aH aT rt ta (th_ui h x 8 0) (su (su S 0 0) 14 0) N' n u ad ∧ sh_wl x ta (th_ui h x 8 0) = mo_lg (su (su S 0 0) 14 0) := by
  have K := R.1.1.1
  have nx : ∀ i, i < 3 → ta i ≠ x := fun i hi => th_kne (K.kta hi) K.kx (by decide)
  have R' : RR x aR aO aH aT rt ta (th_ui h x 8 0) (su (su S 0 0) 14 0) N' n u ad := by
    obtain ⟨Q, ⟨d1, d2⟩, W⟩ := R
    refine ⟨?_, ⟨th_ui_s _ _ _ _, fun i hi => ?_⟩, ?_⟩
    · have X' : rl_X x ta (th_ui h x 8 0) S N' := by
        obtain ⟨gv, bg, a, ⟨b1, b2, b3, b4⟩, c, d⟩ := (Q.N1 hN).2.1
        exact ⟨gv, bg, a, ⟨(th_ui_k _ _ _ (by decide)).trans b1, (th_ui_k _ _ _ (by decide)).trans b2, (th_ui_k _ _ _ (by decide)).trans b3, (th_ui_k _ _ _ (by decide)).trans b4⟩, fun i hi => ⟨(th_ui_n _ _ _ _ (nx i hi)).trans (c i hi).1, (c i hi).2⟩, d⟩
      exact ((Q.N1 hN).nfH ((nf.refl x h).ui (Or.inl ⟨rfl, by decide⟩)) X').sS rfl rfl rfl rfl rfl rfl rfl rfl rfl X' Q.2.2.2.2.2.2.2
    · exact (th_ui_n _ _ _ _ (nx i hi)).trans (d2 i hi)
    · obtain ⟨s, w, h1, h2, h3, h4⟩ := W
      exact ⟨0, w, rfl, h2, by omega, h4⟩
  exact ⟨R', R'.wl⟩
theorem RR.begin (R : RR x aR aO aH aT rt ta h S N n u ad) (hN : N + 1 < 2 ^ 31) {i : Nat} (hi : i < 3) (h0 : h.2.1 (ta i) 0 = 0) (hw : sh_wl x ta h + 1 ≤ 150) :
    RR x aR aO aH aT rt ta (th_ui (th_ui (th_ui h (ta i) 1 (h.2.1 (ta i) 1 + 1)) x 9 (h.2.1 x 9 + 1)) (ta i) 0 (h.2.1 x 9 + 1)) (mo_bg S i) (N + 1) n u ad := by
  have K := R.1.1.1
  have nx : ∀ j, j < 3 → ta j ≠ x := fun j hj => th_kne (K.kta hj) K.kx (by decide)
  have tne : ∀ j, j < 3 → j ≠ i → ta j ≠ ta i := fun j hj e q => e (K.2.2.2.2.2.1 j i hj hi q)
  rw [R.wl] at hw
  obtain ⟨Q, ⟨d1, d2⟩, W⟩ := R
  obtain ⟨T, hT, eT, hT2⟩ := W.lg
  obtain ⟨gv, bg, ⟨a1, a2, a3, a4⟩, ⟨b1, b2, b3, b4⟩, c, d, f1, f2⟩ := Q.2.1
  have ai0 : S.2 11 i = 0 := by rw [← (c i hi).1]; exact h0
  have eb : S.1 13 + 1 = nI (bg + 1) := by rw [a3]; exact nI_1 bg
  have nb : ∀ a, a ≤ bg → ¬ nI a = nI (bg + 1) := fun a ha q => by have := (nI_eq (by omega) (by omega)).mp q; omega
  have e11 : ∀ j, (mo_bg S i).2 11 j = if j = i then nI (bg + 1) else S.2 11 j := fun j => by
    show va_up (S.2 11) i (S.1 13 + 1) j = _
    rw [eb]
    rfl
  have e12 : ∀ j, (mo_bg S i).2 12 j = if j = i then 1 else S.2 12 j := fun j => rfl
  have e13 : (mo_bg S i).1 13 = nI (bg + 1) := eb
  have X' : rl_X x ta (th_ui (th_ui (th_ui h (ta i) 1 (h.2.1 (ta i) 1 + 1)) x 9 (h.2.1 x 9 + 1)) (ta i) 0 (h.2.1 x 9 + 1)) (mo_bg S i) (N + 1) := by
    have xn : ∀ j, j ≠ 9 → (th_ui (th_ui (th_ui h (ta i) 1 (h.2.1 (ta i) 1 + 1)) x 9 (h.2.1 x 9 + 1)) (ta i) 0 (h.2.1 x 9 + 1)).2.1 x j = h.2.1 x j := fun j hj => by
      rw [th_ui_n _ _ _ _ (Ne.symm (nx i hi)), th_ui_k _ _ _ hj, th_ui_n _ _ _ _ (Ne.symm (nx i hi))]
    refine ⟨gv, bg + 1, ⟨a1, by omega, e13, by omega⟩, ⟨(xn 6 (by decide)).trans b1, (xn 7 (by decide)).trans b2, ?_, (xn 10 (by decide)).trans b4⟩, fun j hj => ?_, fun j k hj hk q => ?_, f1, f2⟩
    · rw [th_ui_n _ _ _ _ (Ne.symm (nx i hi)), th_ui_s, e13, b3, eb]
    · by_cases e : j = i
      · subst e
        rw [e11, if_pos rfl, th_ui_s, b3, eb]
        exact ⟨rfl, bg + 1, Nat.le_refl _, rfl⟩
      · rw [e11, if_neg e, th_ui_n _ _ _ _ (tne j hj e), th_ui_n _ _ _ _ (nx j hj), th_ui_n _ _ _ _ (tne j hj e)]
        obtain ⟨c1, a, ha, ea⟩ := c j hj
        exact ⟨c1, a, by omega, ea⟩
    · rw [e11, e11] at q
      rw [e11]
      by_cases ej : j = i
      · by_cases ek : k = i
        · intro _; omega
        · rw [if_pos ej, if_neg ek] at q
          obtain ⟨-, a, ha, ea⟩ := c k hk
          exact absurd (by rw [← ea, q]) (nb a ha)
      · by_cases ek : k = i
        · rw [if_neg ej, if_pos ek] at q
          obtain ⟨-, a, ha, ea⟩ := c j hj
          exact absurd (by rw [← ea, q]) (nb a ha)
        · rw [if_neg ej, if_neg ek] at q
          rw [if_neg ej]
          exact d j k hj hk q
  have F : nf x h (th_ui (th_ui (th_ui h (ta i) 1 (h.2.1 (ta i) 1 + 1)) x 9 (h.2.1 x 9 + 1)) (ta i) 0 (h.2.1 x 9 + 1)) := (((nf.refl x h).ui (Or.inr (K.kta hi))).ui (Or.inl ⟨rfl, by decide⟩)).ui (Or.inr (K.kta hi))
  refine ⟨?_, ⟨?_, fun j hj => ?_⟩, ?_⟩
  · obtain ⟨KO, X, B, U, A, P, E, V⟩ := Q
    have V' : rl_V (S.2 1) (S.2 3) (S.2 8) ((mo_bg S i).2 11) := fun r hr => by
      by_cases z : rl_lk (S.2 3) (S.2 8) r = 0
      · exact Or.inl z
      · obtain ⟨j, hj, ej⟩ := (V r hr).resolve_left z
        refine Or.inr ⟨j, hj, ?_⟩
        rw [e11, if_neg (fun q => z (by rw [← ej, q, ai0]))]
        exact ej
    -- the frame of the heap, under any numbers
    have key := RQ.nfS (S' := mo_bg S i) (N' := N + 1) (show RQ x aR aO aH aT rt ta h S N n u ad from ⟨KO, X, B, U, A, P, E, V⟩) F rfl rfl rfl rfl rfl rfl rfl rfl rfl X' V'
    exact key
  · rw [th_ui_n _ _ _ _ (Ne.symm (nx i hi)), th_ui_k _ _ _ (by decide), th_ui_n _ _ _ _ (Ne.symm (nx i hi))]
    exact d1
  · rw [e12]
    by_cases e : j = i
    · subst e
      obtain ⟨s, w, h1, h2, h3, h4, -⟩ := W
      rw [if_pos rfl, th_ui_k _ _ _ (by decide), th_ui_n _ _ _ _ (nx j hj), th_ui_s, d2 j hj, h2 j hj, h4 j hj ai0]
      rfl
    · rw [if_neg e, th_ui_n _ _ _ _ (tne j hj e), th_ui_n _ _ _ _ (nx j hj), th_ui_n _ _ _ _ (tne j hj e)]
      exact d2 j hj
  · have hw2 := (hT2 1 (by decide)).mp hw
    obtain ⟨s, w, h1, h2, h3, h4, h5, h6, h7, h8⟩ := W
    have eT2 : T = s + w 0 + w 1 + w 2 := by
      have : mo_lg S = nI (s + w 0 + w 1 + w 2) := by
        unfold mo_lg
        rw [h1, h2 0 (by decide), h2 1 (by decide), h2 2 (by decide), nI_add, nI_add, nI_add]
      rw [eT] at this
      exact (nI_eq (by omega) (by omega)).mp this
    have wi : w i = 0 := h4 i hi ai0
    refine ⟨s, va_up w i 1, h1, fun j hj => ?_, ?_, fun j hj z => ?_, fun j hj z => ?_, h6, h7, fun e he => ?_⟩
    · rw [e12]
      by_cases e : j = i
      · rw [if_pos e, e, va_up_self]; rfl
      · rw [if_neg e, va_up_ne _ _ e]; exact h2 j hj
    · rcases (show i = 0 ∨ i = 1 ∨ i = 2 by omega) with rfl | rfl | rfl
      · rw [va_up_self, va_up_ne _ _ (by decide), va_up_ne _ _ (by decide)]; omega
      · rw [va_up_self, va_up_ne _ _ (by decide), va_up_ne _ _ (by decide)]; omega
      · rw [va_up_self, va_up_ne _ _ (by decide), va_up_ne _ _ (by decide)]; omega
    · rw [e11] at z
      by_cases e : j = i
      · rw [if_pos e] at z
        exact absurd z (nI_ne0 (by omega) (by omega))
      · rw [if_neg e] at z
        rw [va_up_ne _ _ e]
        exact h4 j hj z
    · by_cases e : j = i
      · rw [e11, if_pos e, List.countP_eq_zero.mpr (fun a ha q => ?_)]
        · exact Nat.zero_le _
        · obtain ⟨-, k, hk, ek⟩ := h8 a ha
          obtain ⟨-, b, hb, eb2⟩ := c k hk
          have q : a.1 = nI (bg + 1) := by simpa using q
          exact nb b hb (by rw [← eb2, ek, q])
      · rw [e11, if_neg e] at z ⊢
        rw [va_up_ne _ _ e]
        exact h5 j hj z
    · obtain ⟨z, k, hk, ek⟩ := h8 e he
      refine ⟨z, k, hk, ?_⟩
      rw [e11, if_neg (fun q => z (by rw [← ek, q, ai0]))]
      exact ek
end OP1

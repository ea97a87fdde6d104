/-! locks, words, what is remembered, what is set -/
def lS (S : th_N) (r : Nat) (t : Int32) : th_N := if r < 80 then sa S 3 r t else sa S 8 (r - 80) t
theorem lS_n (S : th_N) (r : Nat) (t : Int32) {j : Nat} (h3 : j ≠ 3) (h8 : j ≠ 8) : (lS S r t).2 j = S.2 j := by
  unfold lS
  split
  · exact sa_n _ _ _ h3
  · exact sa_n _ _ _ h8
theorem lS_1 (S : th_N) (r : Nat) (t : Int32) : (lS S r t).1 = S.1 := by unfold lS; split <;> rfl
theorem lS_lk (S : th_N) {r r' : Nat} (t : Int32) (hr : r < 84) (hr' : r' < 84) : rl_lk ((lS S r t).2 3) ((lS S r t).2 8) r' = if r' = r then t else rl_lk (S.2 3) (S.2 8) r' := by
  unfold lS rl_lk
  by_cases e : r' = r
  · subst e
    by_cases h8 : r' < 80
    · rw [if_pos h8, if_pos rfl, if_pos h8, sa_e, va_up_self]
    · rw [if_neg h8, if_pos rfl, if_neg h8, sa_e, va_up_self]
  · rw [if_neg e]
    by_cases h8 : r < 80
    · rw [if_pos h8, sa_e, sa_n _ _ _ (by decide), va_up_ne _ _ e]
    · rw [if_neg h8, sa_e, sa_n _ _ _ (by decide)]
      by_cases h9 : r' < 80
      · rw [if_pos h9, if_pos h9]
      · rw [if_neg h9, if_neg h9, va_up_ne _ _ (by omega)]
theorem mo_lc_lS (S : th_N) {r j : Nat} (t : Int32) (hj : r < 80 → j < 4) : mo_lc S (rl_cl r j) t = lS S r t := by
  unfold mo_lc lS rl_cl
  by_cases h8 : r < 80
  · have := hj h8
    rw [if_pos h8, if_pos h8, if_pos (by omega), show (4 * r + j) / 4 = r by omega]
  · rw [if_neg h8, if_neg h8, if_neg (by omega), show 240 + r - 320 = r - 80 by omega]
theorem mo_ul_row {S S' : th_N} {u : Nat} (h : ∀ j, 16 ≤ j → j < 20 → S'.2 j = S.2 j) : mo_ul S' u = mo_ul S u := mo_ul_cg (fun k _ => by unfold mo_e; rw [h 16 (by decide) (by decide), h 17 (by decide) (by decide), h 18 (by decide) (by decide), h 19 (by decide) (by decide)])
section OP2
variable {x aR aO aH aT : Nat} {rt ta : Nat → Nat} {h h' : th_S} {S S' : th_N} {N N' n u : Nat} {ad : Nat → Nat}
theorem RQ.np (R : RQ x aR aO aH aT rt ta h S N n u ad) {r : Nat} (hr : rl_lv (S.2 1) r) : vw_np h (ad r) ≤ 4 ∧ (80 ≤ r → vw_np h (ad r) = 1) := by
  have k := R.kA hr
  have h4 := (R.1.1.vw k).2.2.1
  refine ⟨h4, fun q => ?_⟩
  have := (R.2.2.2.2.1 r hr).2.2.2.1
  unfold rl_sz at this
  rw [if_neg (by omega)] at this
  exact ((nI_eq (a := 1) (by decide) (by omega)).mp this).symm
theorem rl_cl_lt {r j : Nat} (hr : r < 84) (hj : r < 80 → j < 4) : rl_cl r j < 324 ∧ (rl_cl r j < 320 ↔ r < 80) := by
  unfold rl_cl
  by_cases h8 : r < 80
  · have := hj h8
    rw [if_pos h8]; omega
  · rw [if_neg h8]; omega
theorem RQ.cl (R : RQ x aR aO aH aT rt ta h S N n u ad) {r j : Nat} (hr : rl_lv (S.2 1) r) (hj : j < vw_np h (ad r)) : (r < 80 → j < 4) ∧ rl_cl r j < 324 ∧ (rl_cl r j < 320 ↔ r < 80) := by
  have := (R.np hr).1
  exact ⟨fun _ => by omega, rl_cl_lt hr.1 (fun _ => by omega)⟩
theorem RQ.inj (R : RQ x aR aO aH aT rt ta h S N n u ad) {r j r' j' : Nat} (hr : rl_lv (S.2 1) r) (hj : j < vw_np h (ad r)) (hr' : rl_lv (S.2 1) r') (hj' : j' < vw_np h (ad r')) (e : nI (rl_cl r j) = nI (rl_cl r' j')) : r = r' ∧ j = j' := by
  have c1 := R.cl hr hj
  have c2 := R.cl hr' hj'
  have e := (nI_eq (by omega) (by omega)).mp e
  have n1 := R.np hr
  have n2 := R.np hr'
  unfold rl_cl at e
  by_cases h8 : r < 80
  · by_cases h9 : r' < 80
    · rw [if_pos h8, if_pos h9] at e; omega
    · rw [if_pos h8, if_neg h9] at e; omega
  · by_cases h9 : r' < 80
    · rw [if_neg h8, if_pos h9] at e; omega
    · rw [if_neg h8, if_neg h9] at e
      have := n1.2 (by omega)
      have := n2.2 (by omega)
      omega
theorem RQ.place (R : RQ x aR aO aH aT rt ta h S N n u ad) {r j : Nat} (hr : rl_lv (S.2 1) r) (hj : j < vw_np h (ad r)) : h.1 (vw_pp h (ad r) j) = some (3, 0) := ((R.1.1.vw (R.kA hr)).2.2.2 j hj).2
/-- X under a change of what isn't a number of x or of a transaction -/
theorem rl_X.fr (X : rl_X x ta h S N) (e1 : ∀ j, h'.2.1 x j = h.2.1 x j) (e2 : ∀ i, i < 3 → h'.2.1 (ta i) 0 = h.2.1 (ta i) 0) : rl_X x ta h' S N := by
  obtain ⟨gv, bg, a, ⟨b1, b2, b3, b4⟩, c, d⟩ := X
  exact ⟨gv, bg, a, ⟨by rw [e1]; exact b1, by rw [e1]; exact b2, by rw [e1]; exact b3, by rw [e1]; exact b4⟩, fun i hi => ⟨by rw [e2 i hi]; exact (c i hi).1, (c i hi).2⟩, d⟩
theorem RR.lock (R : RR x aR aO aH aT rt ta h S N n u ad) {r : Nat} (hr : rl_lv (S.2 1) r) {t : Int32} (ht : rl_lk (S.2 3) (S.2 8) r = 0 ∨ rl_lk (S.2 3) (S.2 8) r = t) (hac : ∃ i, i < 3 ∧ S.2 11 i = t) : RR x aR aO aH aT rt ta (th_ui h (ad r) 2 t) (lS S r t) N n u ad := by
  have ka := R.1.kA hr
  have kA := fun r hr => R.1.kA (r := r) hr
  obtain ⟨⟨⟨K, O⟩, X, B, U, A, P, E, V⟩, ⟨d1, d2⟩, W⟩ := R
  have g : gs h (th_ui h (ad r) 2 t) := gs.ui ka (fun _ => by decide)
  have nx : x ≠ ad r := th_kne K.kx ka (by decide)
  have nt : ∀ i, i < 3 → ta i ≠ ad r := fun i hi => th_kne (K.kta hi) ka (by decide)
  have eu : mo_ul (lS S r t) u = mo_ul S u := mo_ul_row (fun j a b => lS_n _ _ _ (by omega) (by omega))
  have hW8 : ∀ e, e ∈ mo_ul S u → ¬ e.1 = 0 := fun e he => by
    obtain ⟨s, w, h1, h2, h3, h4, h5, h6, h7, h8⟩ := W
    exact (h8 e he).1
  unfold RR RQ
  rw [eu, lS_n _ _ _ (by decide) (by decide), lS_n (j := 2) _ _ _ (by decide) (by decide), lS_n (j := 4) _ _ _ (by decide) (by decide), lS_n (j := 5) _ _ _ (by decide) (by decide), lS_n (j := 7) _ _ _ (by decide) (by decide), lS_n (j := 11) _ _ _ (by decide) (by decide), lS_n (j := 12) _ _ _ (by decide) (by decide), lS_1]
  refine ⟨⟨⟨K.uk ka (by decide), O.1, (th_ui_n _ _ _ _ nx).trans O.2.1, O.2.2⟩, ?_, B, U, fun r' hr' => ?_, P.mv K g kA (fun r hr => ⟨hr, rfl⟩), E.mv K g kA (fun r hr _ => ⟨hr, rfl⟩) (fun _ q => q) E.2, fun r' hr' => ?_⟩, ⟨?_, fun i hi => ?_⟩, W⟩
  · have X2 := X.fr (h' := th_ui h (ad r) 2 t) (fun j => th_ui_n _ _ _ _ nx) (fun i hi => th_ui_n _ _ _ _ (nt i hi))
    unfold rl_X
    rw [lS_n (j := 11) _ _ _ (by decide) (by decide), lS_n (j := 1) _ _ _ (by decide) (by decide), lS_n (j := 2) _ _ _ (by decide) (by decide), lS_1]
    exact X2
  · refine (A r' hr').mv K g rfl rfl rfl ?_ (fun j hj C => ?_)
    · rw [lS_lk _ _ hr.1 hr'.1]
      by_cases e : r' = r
      · rw [if_pos e, e]; exact th_ui_s _ _ _ _
      · rw [if_neg e, th_ui_n _ _ _ _ (fun q => e (B.2.2.1 r' r hr' hr q))]
        exact (A r' hr').2.2.1
    · have kq := ((K.vw (kA r' hr')).2.2.2 j hj).2
      have C2 := C.fr (h' := th_ui h (ad r) 2 t) (ui_row (th_kne kq ka (by decide))) rfl
      rw [lS_lk _ _ hr.1 hr'.1]
      by_cases e : r' = r
      · rw [if_pos e]
        refine ⟨C2.1, C2.2.elim Or.inl (fun ⟨s1, e0, m1, m2, m3, m4⟩ => Or.inr ⟨s1, e0, m1, m2, ?_, m4⟩)⟩
        rw [m3, e]
        rcases ht with z | z
        · exact absurd (by rw [m3, e, z]) (hW8 e0 m1)
        · exact z
      · rw [if_neg e]; exact C2
  · rw [lS_lk _ _ hr.1 hr'.1]
    by_cases e : r' = r
    · rw [if_pos e]; exact Or.inr hac
    · rw [if_neg e]; exact V r' hr'
  · exact (th_ui_n _ _ _ _ nx).trans (by rw [lS_1]; exact d1)
  · exact (th_ui_n _ _ _ _ (nt i hi)).trans (by rw [lS_n _ _ _ (by decide) (by decide)]; exact d2 i hi)
theorem sum3 {w : Nat → Nat} {i m : Nat} (hi : i < 3) : va_up w i (w i + m) 0 + va_up w i (w i + m) 1 + va_up w i (w i + m) 2 = w 0 + w 1 + w 2 + m := by
  rcases (show i = 0 ∨ i = 1 ∨ i = 2 by omega) with rfl | rfl | rfl
  · rw [va_up_self, va_up_ne _ _ (by decide), va_up_ne _ _ (by decide)]; omega
  · rw [va_up_self, va_up_ne _ _ (by decide), va_up_ne _ _ (by decide)]; omega
  · rw [va_up_self, va_up_ne _ _ (by decide), va_up_ne _ _ (by decide)]; omega
/-- words are written -/
theorem RR.words (R : RR x aR aO aH aT rt ta h S N n u ad) {i m : Nat} (hi : i < 3) (ha : ¬ S.2 11 i = 0) (hm : m ≤ 100) (hg : mo_lg S + nI m ≤ 150) :
    RR x aR aO aH aT rt ta (th_ui h (ta i) 1 (h.2.1 (ta i) 1 + nI m)) (sa S 12 i (S.2 12 i + nI m)) N n u ad ∧ ∃ w, (sa S 12 i (S.2 12 i + nI m)).2 12 i = nI w ∧ w ≤ 150 ∧ 3 * (mo_ul S u).countP (fun e => e.1 == S.2 11 i) + m ≤ w := by
  obtain ⟨Q, ⟨d1, d2⟩, W⟩ := R
  have K := Q.1.1
  obtain ⟨T, hT, eT, hT2⟩ := W.lg
  have hg2 := (hT2 m hm).mp hg
  obtain ⟨s, w, h1, h2, h3, h4, h5, h6, h7, h8⟩ := W
  have eT2 : T = s + w 0 + w 1 + w 2 := by
    have : mo_lg S = nI (s + w 0 + w 1 + w 2) := by
      unfold mo_lg
      rw [h1, h2 0 (by decide), h2 1 (by decide), h2 2 (by decide), nI_add, nI_add, nI_add]
    rw [eT] at this
    exact (nI_eq (by omega) (by omega)).mp this
  have e12 : (sa S 12 i (S.2 12 i + nI m)).2 12 = va_up (S.2 12) i (nI (w i + m)) := by rw [sa_e, h2 i hi, nI_add]
  have nx : x ≠ ta i := th_kne K.kx (K.kta hi) (by decide)
  have tne : ∀ j, j < 3 → j ≠ i → ta j ≠ ta i := fun j hj e q => e (K.2.2.2.2.2.1 j i hj hi q)
  have wle : w i ≤ w 0 + w 1 + w 2 := by
    rcases (show i = 0 ∨ i = 1 ∨ i = 2 by omega) with rfl | rfl | rfl <;> omega
  refine ⟨⟨?_, ⟨(th_ui_n _ _ _ _ nx).trans d1, fun j hj => ?_⟩, s, va_up w i (w i + m), h1, fun j hj => ?_, ?_, fun j hj z => ?_, fun j hj z => ?_, h6, h7, h8⟩, w i + m, ?_, by omega, ?_⟩
  · have X' : rl_X x ta (th_ui h (ta i) 1 (h.2.1 (ta i) 1 + nI m)) S N := Q.2.1.fr (fun j => th_ui_n _ _ _ _ nx) (fun j hj => ui_at (fun _ => by decide))
    exact Q.nfS (S' := sa S 12 i (S.2 12 i + nI m)) ((nf.refl x h).ui (Or.inr (K.kta hi))) rfl rfl rfl rfl rfl rfl rfl rfl rfl X' Q.2.2.2.2.2.2.2
  · by_cases e : j = i
    · rw [e, e12, va_up_self, th_ui_s, d2 i hi, h2 i hi, nI_add]
    · rw [th_ui_n _ _ _ _ (tne j hj e), e12, va_up_ne _ _ e]; exact d2 j hj
  · by_cases e : j = i
    · rw [e, e12, va_up_self, va_up_self]
    · rw [e12, va_up_ne _ _ e, va_up_ne _ _ e]; exact h2 j hj
  · have := sum3 (w := w) (m := m) hi
    omega
  · by_cases e : j = i
    · rw [e] at z; exact absurd z ha
    · rw [va_up_ne _ _ e]; exact h4 j hj z
  · by_cases e : j = i
    · rw [e, va_up_self]
      exact Nat.le_trans (h5 i hi ha) (Nat.le_add_right _ _)
    · rw [va_up_ne _ _ e]; exact h5 j hj z
  · rw [e12, va_up_self]
  · exact Nat.add_le_add_right (h5 i hi ha) m
end OP2

/-! a cell is set -/
theorem mo_as_mr (S : th_N) (c : Nat) (b v : Int32) (c' : Nat) : rl_mr ((mo_as S c b v).2 4) c' = if c' = c then (if c < 320 then b else 1) else rl_mr (S.2 4) c' := by
  unfold mo_as rl_mr
  by_cases hc : c < 320
  · rw [if_pos hc, if_pos hc, sa_n _ _ _ (by decide), sa_e]
    by_cases e : c' = c
    · rw [if_pos e, e, if_pos hc, va_up_self]
    · rw [if_neg e, va_up_ne _ _ e]
  · rw [if_neg hc, if_neg hc, sa_n _ _ _ (by decide)]
    by_cases e : c' = c
    · rw [if_pos e, e, if_neg hc]
    · rw [if_neg e]
theorem mo_as_mv (S : th_N) (c : Nat) (b v : Int32) (c' : Nat) : rl_mv ((mo_as S c b v).2 5) ((mo_as S c b v).2 7) c' = if c' = c then v else rl_mv (S.2 5) (S.2 7) c' := by
  unfold mo_as rl_mv
  by_cases hc : c < 320
  · rw [if_pos hc, sa_e, sa_n _ _ _ (by decide), sa_n _ _ _ (by decide), sa_n _ _ _ (by decide)]
    by_cases e : c' = c
    · rw [if_pos e, e, if_pos hc, va_up_self]
    · rw [if_neg e, va_up_ne _ _ e]
  · rw [if_neg hc, sa_e, sa_n _ _ _ (by decide)]
    by_cases e : c' = c
    · rw [if_pos e, e, if_neg hc, va_up_self]
    · rw [if_neg e]
      by_cases h3 : c' < 320
      · rw [if_pos h3, if_pos h3]
      · rw [if_neg h3, if_neg h3, va_up_ne _ _ (by omega)]
theorem sa_comm (S : th_N) {i j : Nat} (r r' : Nat) (v v' : Int32) (h : i ≠ j) : sa (sa S i r v) j r' v' = sa (sa S j r' v') i r v := by
  refine Prod.ext rfl (funext fun k => ?_)
  by_cases e : k = j
  · subst e
    rw [sa_e, sa_n _ _ _ (Ne.symm h), sa_n _ _ _ (Ne.symm h), sa_e]
  · rw [sa_n _ _ _ e]
    by_cases e2 : k = i
    · subst e2
      rw [sa_e, sa_e, sa_n _ _ _ h]
    · rw [sa_n _ _ _ e2, sa_n _ _ _ e2, sa_n _ _ _ e]
theorem lS_sa (S : th_N) (r : Nat) (t : Int32) {j : Nat} (k : Nat) (v : Int32) (h3 : j ≠ 3) (h8 : j ≠ 8) : sa (lS S r t) j k v = lS (sa S j k v) r t := by
  unfold lS
  split
  · exact sa_comm _ _ _ _ _ (Ne.symm h3)
  · exact sa_comm _ _ _ _ _ (Ne.symm h8)
theorem lS_su (S : th_N) (r : Nat) (t : Int32) (k : Nat) (v : Int32) : su (lS S r t) k v = lS (su S k v) r t := by
  unfold lS
  split <;> rfl
theorem lS_pu (S : th_N) (r : Nat) (t : Int32) (u : Nat) (t' : Int32) (c : Nat) : mo_pu (lS S r t) u t' c = lS (mo_pu S u t' c) r t := by
  unfold mo_pu
  rw [lS_n (j := 4) _ _ _ (by decide) (by decide), lS_n (j := 5) _ _ _ (by decide) (by decide), lS_n (j := 7) _ _ _ (by decide) (by decide), lS_sa _ _ _ _ _ (by decide) (by decide), lS_sa _ _ _ _ _ (by decide) (by decide), lS_sa _ _ _ _ _ (by decide) (by decide), lS_sa _ _ _ _ _ (by decide) (by decide), lS_su]
theorem sa12_pu (S : th_N) (k : Nat) (v : Int32) (u : Nat) (t : Int32) (c : Nat) : mo_pu (sa S 12 k v) u t c = sa (mo_pu S u t c) 12 k v := by
  have e : ∀ j a w, j ≠ 12 → sa (sa S 12 k v) j a w = sa (sa S j a w) 12 k v := fun j a w h => sa_comm _ _ _ _ _ (Ne.symm h)
  unfold mo_pu
  rw [sa_n (i := 4) _ _ _ (by decide), sa_n (i := 5) _ _ _ (by decide), sa_n (i := 7) _ _ _ (by decide), sa_comm S k u v t (show (12 : Nat) ≠ 16 by decide), sa_comm _ k u v _ (show (12 : Nat) ≠ 17 by decide), sa_comm _ k u v _ (show (12 : Nat) ≠ 18 by decide), sa_comm _ k u v _ (show (12 : Nat) ≠ 19 by decide)]
  rfl
section OP4
variable {x aR aO aH aT : Nat} {rt ta : Nat → Nat} {h h' : th_S} {S S' : th_N} {N N' n u : Nat} {ad : Nat → Nat}
theorem rl_cv.tg {hd : Nat → Int32} {r : Nat} {ref num : Int32} {t : Option Nat} {rf v : Int32} (c : rl_cv hd ad r ref num t rf v) {b : Nat} (hb : t = some b) : ∃ s, s < 80 ∧ ¬ hd s ≤ 0 ∧ b = ad s := by
  rcases c.2.2.2 with ⟨-, -, e⟩ | ⟨-, ⟨e, -⟩ | ⟨s, h1, h2, -, e⟩⟩
  · rw [e] at hb; cases hb
  · rw [e] at hb; cases hb
  · rw [e] at hb; cases hb; exact ⟨s, h1, h2, rfl⟩
theorem RR.asg (R : RR x aR aO aH aT rt ta h S N n u ad) {r j : Nat} (hr : rl_lv (S.2 1) r) (hj : j < vw_np h (ad r)) {b num v : Int32} {tg : Option Nat} (hb : b = 0 ∨ b = 1) (hcv : rl_cv (S.2 1) ad r b num tg (if r < 80 then b else 1) v) :
    RR x aR aO aH aT rt ta (th_ur (th_ui (th_ui h (vw_pp h (ad r) j) 0 b) (vw_pp h (ad r) j) 1 num) (vw_pp h (ad r) j) 2 tg) (mo_as S (rl_cl r j) b v) N n u ad := by
  have Q := R.1
  have kA := fun r hr => R.1.kA (r := r) hr
  have kq := Q.place hr hj
  have hc := Q.cl hr hj
  obtain ⟨⟨⟨K, O⟩, X, B, U, A, P, E, V⟩, ⟨d1, d2⟩, W⟩ := R
  generalize hq : vw_pp h (ad r) j = q at *
  have gq : gs h (th_ur (th_ui (th_ui h q 0 b) q 1 num) q 2 tg) := ((gs.ui kq (fun z => by cases z)).trans (gs.ui (h := th_ui h q 0 b) kq (fun z => by cases z))).trans (gs.ur (h := th_ui (th_ui h q 0 b) q 1 num) kq (fun z => by cases z) (by decide))
  have fn : ∀ {b' : Nat}, b' ≠ q → (th_ur (th_ui (th_ui h q 0 b) q 1 num) q 2 tg).2.1 b' = h.2.1 b' ∧ (th_ur (th_ui (th_ui h q 0 b) q 1 num) q 2 tg).2.2 b' = h.2.2 b' := fun hb' => ⟨by simp [th_ur, th_ui, va_up, hb'], by simp [th_ur, th_ui, va_up, hb']⟩
  have K' : sh_K x aR aO aH aT rt ta (th_ur (th_ui (th_ui h q 0 b) q 1 num) q 2 tg) := ((K.ui (fun _ _ => hb)).ui (fun _ z => absurd z (by decide))).urP kq (fun b' hb' => by
    obtain ⟨s, h1, h2, e⟩ := hcv.tg hb'
    rw [e]
    exact kA s ⟨by omega, fun _ => h2⟩)
  have nx : x ≠ q := th_kne K.kx kq (by decide)
  have nt : ∀ i, i < 3 → ta i ≠ q := fun i hi => th_kne (K.kta hi) kq (by decide)
  have nO : aO ≠ q := th_kne K.kO kq (by decide)
  have pn : ∀ {a : Nat}, a ≠ 4 → a ≠ 5 → a ≠ 7 → (mo_as S (rl_cl r j) b v).2 a = S.2 a := fun h4 h5 h7 => mo_as_n _ _ _ _ h4 h5 h7
  have e1 := mo_as_1 S (rl_cl r j) b v
  have eu : mo_ul (mo_as S (rl_cl r j) b v) u = mo_ul S u := mo_ul_row (fun a _ _ => pn (by omega) (by omega) (by omega))
  unfold RR RQ
  rw [eu, pn (by decide) (by decide) (by decide), pn (a := 2) (by decide) (by decide) (by decide), pn (a := 3) (by decide) (by decide) (by decide), pn (a := 8) (by decide) (by decide) (by decide), pn (a := 11) (by decide) (by decide) (by decide), pn (a := 12) (by decide) (by decide) (by decide), e1]
  refine ⟨⟨⟨K', O.1, by rw [(fn nx).1]; exact O.2.1, by rw [(fn nO).2]; exact O.2.2⟩, ?_, ?_, U, fun r' hr' => ?_, P.mv K gq kA (fun r hr => ⟨hr, rfl⟩), E.mv K gq kA (fun r hr _ => ⟨hr, rfl⟩) (fun _ q => q) E.2, V⟩, ⟨?_, fun k hk => ?_⟩, W⟩
  · have X2 := X.fr (h' := th_ur (th_ui (th_ui h q 0 b) q 1 num) q 2 tg) (fun j => by rw [(fn nx).1]) (fun k hk => by rw [(fn (nt k hk)).1])
    unfold rl_X
    rw [pn (a := 11) (by decide) (by decide) (by decide), pn (a := 1) (by decide) (by decide) (by decide), pn (a := 2) (by decide) (by decide) (by decide), e1]
    exact X2
  · unfold rl_B
    unfold vw_ob
    rw [(fn nO).2]
    exact B
  · refine (A r' hr').mv K gq rfl rfl rfl (by rw [(fn (th_kne (kA r' hr') kq (by decide))).1]; exact (A r' hr').2.2.1) (fun j' hj' C => ?_)
    rw [mo_as_mr, mo_as_mv]
    by_cases e : r' = r ∧ j' = j
    · obtain ⟨rfl, rfl⟩ := e
      rw [hq] at C ⊢
      rw [if_pos rfl, if_pos rfl]
      obtain ⟨-, C2⟩ := C
      refine ⟨?_, ?_⟩
      · rw [show (th_ur (th_ui (th_ui h q 0 b) q 1 num) q 2 tg).2.1 q 0 = b from by simp [th_ur, th_ui, va_up], show (th_ur (th_ui (th_ui h q 0 b) q 1 num) q 2 tg).2.1 q 1 = num from by simp [th_ur, th_ui, va_up], show (th_ur (th_ui (th_ui h q 0 b) q 1 num) q 2 tg).2.2 q 2 = tg from by simp [th_ur, th_ui, va_up]]
        by_cases h8 : r' < 80
        · rw [if_pos (hc.2.2.mpr h8)]
          rw [if_pos h8] at hcv
          exact hcv
        · rw [if_neg (fun z => h8 (hc.2.2.mp z))]
          rw [if_neg h8] at hcv
          exact hcv
      · rw [show (th_ur (th_ui (th_ui h q 0 b) q 1 num) q 2 tg).2.1 q 3 = h.2.1 q 3 from by simp [th_ur, th_ui, va_up], show (th_ur (th_ui (th_ui h q 0 b) q 1 num) q 2 tg).2.1 q 4 = h.2.1 q 4 from by simp [th_ur, th_ui, va_up], show (th_ur (th_ui (th_ui h q 0 b) q 1 num) q 2 tg).2.1 q 5 = h.2.1 q 5 from by simp [th_ur, th_ui, va_up], show (th_ur (th_ui (th_ui h q 0 b) q 1 num) q 2 tg).2.2 q 6 = h.2.2 q 6 from by simp [th_ur, th_ui, va_up]]
        exact C2
    · have hpq : vw_pp h (ad r') j' ≠ q := by rw [← hq]; exact Q.pne hr hj hr' hj' e
      have ne : ¬ rl_cl r' j' = rl_cl r j := fun z => e (Q.inj hr' hj' hr hj (by rw [z]))
      rw [if_neg ne, if_neg ne]
      exact C.fr (fn hpq).1 (fn hpq).2
  · rw [(fn nx).1]; exact d1.trans (by rw [e1])
  · rw [(fn (nt k hk)).1, pn (by decide) (by decide) (by decide)]; exact d2 k hk
/-- a set: its words, its lock, what it remembers, what it puts -/
theorem RR.set (R : RR x aR aO aH aT rt ta h S N n u ad) {r j i : Nat} (hr : rl_lv (S.2 1) r) (hj : j < vw_np h (ad r)) (hi : i < 3) {t : Int32} (hi2 : S.2 11 i = t) (ht : ¬ t = 0) (hlk : rl_lk (S.2 3) (S.2 8) r = 0 ∨ rl_lk (S.2 3) (S.2 8) r = t) (hg : mo_lg S + 3 ≤ 150) {b num v : Int32} {tg : Option Nat} (hb : b = 0 ∨ b = 1) (hcv : rl_cv (S.2 1) ad r b num tg (if r < 80 then b else 1) v) {T : th_N} (hst : mo_st S u t i (rl_cl r j) b v T) :
    ∃ u', RR x aR aO aH aT rt ta (th_ur (th_ui (th_ui (pl_rem (th_ui (th_ui h (ta i) 1 (h.2.1 (ta i) 1 + 3)) (ad r) 2 t) (vw_pp h (ad r) j)) (vw_pp h (ad r) j) 0 b) (vw_pp h (ad r) j) 1 num) (vw_pp h (ad r) j) 2 tg) T N n u' ad := by
  have hc := R.1.cl hr hj
  have K := R.1.1.1
  have u50 := R.2.2.u50
  have ka := R.1.kA hr
  obtain ⟨R1, w, w1, w2, w3⟩ := R.words (m := 3) hi (by rw [hi2]; exact ht) (by decide) hg
  have R2 := R1.lock (r := r) (t := t) hr hlk ⟨i, hi, hi2⟩
  have g1 : gs h (th_ui (th_ui h (ta i) 1 (h.2.1 (ta i) 1 + 3)) (ad r) 2 t) := (gs.ui (K.kta hi) (fun z => by cases z)).trans (gs.ui (h := th_ui h (ta i) 1 (h.2.1 (ta i) 1 + 3)) ka (fun _ => by decide))
  have vw1 := g1.vw K ka
  have lr1 : ∀ j, j ≠ 3 → j ≠ 8 → (lS (sa S 12 i (S.2 12 i + nI 3)) r t).2 j = (sa S 12 i (S.2 12 i + nI 3)).2 j := fun j h3 h8 => lS_n _ _ _ h3 h8
  have hr2 : rl_lv ((lS (sa S 12 i (S.2 12 i + nI 3)) r t).2 1) r := by rw [lr1 1 (by decide) (by decide)]; exact hr
  have hj2 : j < vw_np (th_ui (th_ui h (ta i) 1 (h.2.1 (ta i) 1 + nI 3)) (ad r) 2 t) (ad r) := by rw [show vw_np (th_ui (th_ui h (ta i) 1 (h.2.1 (ta i) 1 + nI 3)) (ad r) 2 t) (ad r) = vw_np h (ad r) from vw1.1]; exact hj
  have eu1 : mo_ul (lS (sa S 12 i (S.2 12 i + nI 3)) r t) u = mo_ul S u := mo_ul_row (fun j a b => (lr1 j (by omega) (by omega)).trans (sa_n _ _ _ (by omega)))
  have hrem := R2.rem (r := r) (j := j) (i := i) (w := w) hr2 hj2 (t := t) (by rw [lS_lk _ _ hr.1 hr.1, if_pos rfl]) hi (by rw [lr1 11 (by decide) (by decide)]; exact hi2) ht (by rw [lr1 12 (by decide) (by decide)]; exact w1) w2 (by
    rw [eu1, lr1 11 (by decide) (by decide)]
    exact w3) (by omega)
  have epp : vw_pp (th_ui (th_ui h (ta i) 1 (h.2.1 (ta i) 1 + nI 3)) (ad r) 2 t) (ad r) j = vw_pp h (ad r) j := vw1.2 j
  rw [epp] at hrem
  have hrp : mo_rp (lS (sa S 12 i (S.2 12 i + nI 3)) r t) u t (rl_cl r j) ↔ mo_rp S u t (rl_cl r j) := by
    unfold mo_rp
    rw [lr1 16 (by decide) (by decide), lr1 17 (by decide) (by decide), sa_n _ _ _ (by decide), sa_n _ _ _ (by decide)]
  have gr : gs (th_ui (th_ui h (ta i) 1 (h.2.1 (ta i) 1 + nI 3)) (ad r) 2 t) (pl_rem (th_ui (th_ui h (ta i) 1 (h.2.1 (ta i) 1 + nI 3)) (ad r) 2 t) (vw_pp h (ad r) j)) := by
    have kq : (th_ui (th_ui h (ta i) 1 (h.2.1 (ta i) 1 + nI 3)) (ad r) 2 t).1 (vw_pp h (ad r) j) = some (3, 0) := R.1.place hr hj
    refine ⟨fun b' t' q => by rw [pl_rem_k]; exact q, fun b' hb' => ?_, fun b' m hb' => ?_⟩
    · obtain ⟨z1, z2⟩ := rem_n (th_ui (th_ui h (ta i) 1 (h.2.1 (ta i) 1 + nI 3)) (ad r) 2 t) (vw_pp h (ad r) j) (th_kne hb' kq (by decide))
      rw [z1, z2]
      exact ⟨rfl, rfl⟩
    · rw [(rem_n (th_ui (th_ui h (ta i) 1 (h.2.1 (ta i) 1 + nI 3)) (ad r) 2 t) (vw_pp h (ad r) j) (th_kne hb' kq (by simp))).2]
  have vw2 := (gr.vw R2.1.1.1 (a := ad r) ka)
  have hj3 : j < vw_np (pl_rem (th_ui (th_ui h (ta i) 1 (h.2.1 (ta i) 1 + nI 3)) (ad r) 2 t) (vw_pp h (ad r) j)) (ad r) := by rw [vw2.1]; exact hj2
  have epp2 : vw_pp (pl_rem (th_ui (th_ui h (ta i) 1 (h.2.1 (ta i) 1 + nI 3)) (ad r) 2 t) (vw_pp h (ad r) j)) (ad r) j = vw_pp h (ad r) j := (vw2.2 j).trans epp
  rcases hst with ⟨hp, rfl⟩ | ⟨hp, rfl⟩
  · rcases hrem with ⟨-, R3⟩ | ⟨q, -⟩
    · have R4 := R3.asg (r := r) (j := j) hr2 hj3 (b := b) (num := num) (v := v) (tg := tg) hb (by rw [lr1 1 (by decide) (by decide)]; exact hcv)
      rw [epp2] at R4
      refine ⟨u, ?_⟩
      unfold mo_sf
      rw [mo_lc_lS _ _ hc.1, lS_sa _ _ _ _ _ (by decide) (by decide)]
      exact R4
    · exact absurd (hrp.mpr hp) q
  · rcases hrem with ⟨q, -⟩ | ⟨-, R3⟩
    · exact absurd (hrp.mp q) hp
    · have lr3 : (mo_pu (lS (sa S 12 i (S.2 12 i + nI 3)) r t) u t (rl_cl r j)).2 1 = S.2 1 := (mo_pu_n _ _ _ _ (by decide)).trans (lr1 1 (by decide) (by decide))
      have R4 := R3.asg (r := r) (j := j) (by rw [lr3]; exact hr) hj3 (b := b) (num := num) (v := v) (tg := tg) hb (by rw [lr3]; exact hcv)
      rw [epp2] at R4
      refine ⟨u + 1, ?_⟩
      unfold mo_sf
      rw [mo_lc_lS _ _ hc.1, lS_sa _ _ _ _ _ (by decide) (by decide), mo_pu_n (j := 12) _ _ _ _ (by decide), ← sa12_pu, ← lS_pu]
      exact R4
end OP4

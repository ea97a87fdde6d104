/-! what is remembered and what is set -/
section OP3
variable {x aR aO aH aT : Nat} {rt ta : Nat → Nat} {h h' : th_S} {S S' : th_N} {N N' n u : Nat} {ad : Nat → Nat}
/-- a place other than q -/
theorem RQ.pne (R : RQ x aR aO aH aT rt ta h S N n u ad) {r j r' j' : Nat} (hr : rl_lv (S.2 1) r) (hj : j < vw_np h (ad r)) (hr' : rl_lv (S.2 1) r') (hj' : j' < vw_np h (ad r')) (e : ¬ (r' = r ∧ j' = j)) : vw_pp h (ad r') j' ≠ vw_pp h (ad r) j := fun q => e (R.2.2.2.2.2.1 r' r j' j hr' hr hj' hj q)
theorem rem_row (h : th_S) (q : Nat) (hq : h.2.1 q 3 = 0) : pl_rem h q = th_ur (th_ui (th_ui (th_ui h q 3 1) q 4 (h.2.1 q 0)) q 5 (h.2.1 q 1)) q 6 (h.2.2 q 2) := by unfold pl_rem; rw [if_pos hq]
theorem rem_n (h : th_S) (q : Nat) {b : Nat} (hb : b ≠ q) : (pl_rem h q).2.1 b = h.2.1 b ∧ (pl_rem h q).2.2 b = h.2.2 b := by
  unfold pl_rem
  split
  · exact ⟨by simp [th_ur, th_ui, va_up, hb], by simp [th_ur, th_ui, va_up, hb]⟩
  · exact ⟨rfl, rfl⟩
theorem RR.rem (R : RR x aR aO aH aT rt ta h S N n u ad) {r j i w : Nat} (hr : rl_lv (S.2 1) r) (hj : j < vw_np h (ad r)) {t : Int32} (hlk : rl_lk (S.2 3) (S.2 8) r = t) (hi : i < 3) (hi2 : S.2 11 i = t) (ht : ¬ t = 0) (hw1 : S.2 12 i = nI w) (hw2 : w ≤ 150) (hw3 : 3 * (mo_ul S u).countP (fun e => e.1 == S.2 11 i) + 3 ≤ w) (hu : u < 60) :
    (mo_rp S u t (rl_cl r j) ∧ RR x aR aO aH aT rt ta (pl_rem h (vw_pp h (ad r) j)) S N n u ad) ∨ (¬ mo_rp S u t (rl_cl r j) ∧ RR x aR aO aH aT rt ta (pl_rem h (vw_pp h (ad r) j)) (mo_pu S u t (rl_cl r j)) N n (u + 1) ad) := by
  have Q := R.1
  have kA := fun r hr => R.1.kA (r := r) hr
  have kq := Q.place hr hj
  have hc := Q.cl hr hj
  obtain ⟨⟨⟨K, O⟩, X, B, U, A, P, E, V⟩, ⟨d1, d2⟩, W⟩ := R
  obtain ⟨cv, hset⟩ := (A r hr).2.2.2.2 j hj
  rcases hset with ⟨s0, s6, sn⟩ | ⟨s1, e, m1, m2, m3, m4⟩
  · refine Or.inr ⟨?_, ?_⟩
    · rintro ⟨k, hk, -, z⟩
      exact sn (mo_e S k) (mo_ul_mem.mpr ⟨k, hk, rfl⟩) z
    · -- the new entry
      have eu : mo_ul (mo_pu S u t (rl_cl r j)) (u + 1) = mo_ul S u ++ [(t, nI (rl_cl r j), rl_mr (S.2 4) (rl_cl r j), rl_mv (S.2 5) (S.2 7) (rl_cl r j))] := by
        rw [mo_ul_s]
        have e1 : mo_ul (mo_pu S u t (rl_cl r j)) u = mo_ul S u := mo_ul_cg (fun k hk => by
          have : k ≠ u := by omega
          simp [mo_e, mo_pu, su, sa, va_up, this])
        rw [e1]
        congr 1
        have e2 : (if rl_cl r j < 320 then (if S.2 4 (rl_cl r j) = 0 then (0 : Int32) else 1) else 1) = rl_mr (S.2 4) (rl_cl r j) := by
          unfold rl_mr
          by_cases z : rl_cl r j < 320
          · rw [if_pos z, if_pos z]
            have := cv.2.1
            unfold rl_mr at this
            rw [if_pos z] at this
            rcases this with q | q
            · rw [if_pos q, q]
            · rw [q, if_neg (by decide)]
          · rw [if_neg z, if_neg z]
        rw [← e2]
        simp [mo_e, mo_pu, su, sa, va_up, rl_mv]
      have pn : ∀ {a : Nat}, a < 16 → (mo_pu S u t (rl_cl r j)).2 a = S.2 a := fun ha => mo_pu_n S u t _ ha
      have e1 : ∀ a, a ≠ 20 → (mo_pu S u t (rl_cl r j)).1 a = S.1 a := fun a ha => by simp [mo_pu, su, sa, va_up, ha]
      rw [rem_row _ _ s0]
      generalize hq : vw_pp h (ad r) j = q at *
      have gq : gs h (th_ur (th_ui (th_ui (th_ui h q 3 1) q 4 (h.2.1 q 0)) q 5 (h.2.1 q 1)) q 6 (h.2.2 q 2)) := (((gs.ui kq (fun z => by cases z)).trans (gs.ui (h := th_ui h q 3 1) kq (fun z => by cases z))).trans (gs.ui (h := th_ui (th_ui h q 3 1) q 4 (h.2.1 q 0)) kq (fun z => by cases z))).trans (gs.ur (h := th_ui (th_ui (th_ui h q 3 1) q 4 (h.2.1 q 0)) q 5 (h.2.1 q 1)) kq (fun z => by cases z) (by decide))
      have fn : ∀ {b : Nat}, b ≠ q → (th_ur (th_ui (th_ui (th_ui h q 3 1) q 4 (h.2.1 q 0)) q 5 (h.2.1 q 1)) q 6 (h.2.2 q 2)).2.1 b = h.2.1 b ∧ (th_ur (th_ui (th_ui (th_ui h q 3 1) q 4 (h.2.1 q 0)) q 5 (h.2.1 q 1)) q 6 (h.2.2 q 2)).2.2 b = h.2.2 b := fun hb => ⟨by simp [th_ur, th_ui, va_up, hb], by simp [th_ur, th_ui, va_up, hb]⟩
      have K' : sh_K x aR aO aH aT rt ta (th_ur (th_ui (th_ui (th_ui h q 3 1) q 4 (h.2.1 q 0)) q 5 (h.2.1 q 1)) q 6 (h.2.2 q 2)) := by
        have := pl_rem_K K kq
        rw [rem_row _ _ s0] at this
        exact this
      have nx : x ≠ q := th_kne K.kx kq (by decide)
      have nt : ∀ i, i < 3 → ta i ≠ q := fun i hi => th_kne (K.kta hi) kq (by decide)
      have nO : aO ≠ q := th_kne K.kO kq (by decide)
      obtain ⟨s, w', h1, h2, h3, h4, h5, h6, h7, h8⟩ := W
      have hne : ∀ e', e' ∈ mo_ul S u → ¬ e'.2.1 = nI (rl_cl r j) := sn
      unfold RR RQ
      rw [eu, pn (by decide), pn (a := 2) (by decide), pn (a := 3) (by decide), pn (a := 4) (by decide), pn (a := 5) (by decide), pn (a := 7) (by decide), pn (a := 8) (by decide), pn (a := 11) (by decide), pn (a := 12) (by decide), e1 10 (by decide), e1 14 (by decide)]
      refine ⟨⟨⟨K', O.1, by rw [(fn nx).1]; exact O.2.1, by rw [(fn nO).2]; exact O.2.2⟩, ?_, ?_, U, fun r' hr' => ?_, P.mv K gq kA (fun r hr => ⟨hr, rfl⟩), ⟨fun e' he' => ?_, ?_⟩, V⟩, ⟨?_, fun k hk => ?_⟩, s, w', h1, h2, h3, h4, fun k hk z => ?_, ?_, by rw [List.length_append, h7]; rfl, fun e' he' => ?_⟩
      · have X2 := X.fr (h' := th_ur (th_ui (th_ui (th_ui h q 3 1) q 4 (h.2.1 q 0)) q 5 (h.2.1 q 1)) q 6 (h.2.2 q 2)) (fun j => by rw [(fn nx).1]) (fun k hk => by rw [(fn (nt k hk)).1])
        unfold rl_X
        rw [pn (by decide), pn (a := 1) (by decide), pn (a := 2) (by decide), e1 9 (by decide), e1 13 (by decide), e1 10 (by decide), e1 15 (by decide)]
        exact X2
      · unfold rl_B
        unfold vw_ob
        rw [(fn nO).2]
        exact B
      · refine (A r' hr').mv K gq rfl rfl rfl (by rw [(fn (th_kne (kA r' hr') kq (by decide))).1]; exact (A r' hr').2.2.1) (fun j' hj' C => ?_)
        by_cases e : r' = r ∧ j' = j
        · obtain ⟨rfl, rfl⟩ := e
          rw [hq]
          have k0 : ∀ a, a < 3 → (th_ur (th_ui (th_ui (th_ui h q 3 1) q 4 (h.2.1 q 0)) q 5 (h.2.1 q 1)) q 6 (h.2.2 q 2)).2.1 q a = h.2.1 q a := fun a ha => by
            have a3 : a ≠ 3 := by omega
            have a4 : a ≠ 4 := by omega
            have a5 : a ≠ 5 := by omega
            simp [th_ur, th_ui, va_up, a3, a4, a5]
          refine ⟨?_, Or.inr ⟨by simp [th_ur, th_ui, va_up], _, List.mem_append_right _ (List.mem_singleton.mpr rfl), rfl, hlk.symm, ?_⟩⟩
          · rw [k0 0 (by decide), k0 1 (by decide), show (th_ur (th_ui (th_ui (th_ui h q 3 1) q 4 (h.2.1 q 0)) q 5 (h.2.1 q 1)) q 6 (h.2.2 q 2)).2.2 q 2 = h.2.2 q 2 from by simp [th_ur, th_ui, va_up]]
            exact cv
          · rw [show (th_ur (th_ui (th_ui (th_ui h q 3 1) q 4 (h.2.1 q 0)) q 5 (h.2.1 q 1)) q 6 (h.2.2 q 2)).2.1 q 4 = h.2.1 q 0 from by simp [th_ur, th_ui, va_up], show (th_ur (th_ui (th_ui (th_ui h q 3 1) q 4 (h.2.1 q 0)) q 5 (h.2.1 q 1)) q 6 (h.2.2 q 2)).2.1 q 5 = h.2.1 q 1 from by simp [th_ur, th_ui, va_up], show (th_ur (th_ui (th_ui (th_ui h q 3 1) q 4 (h.2.1 q 0)) q 5 (h.2.1 q 1)) q 6 (h.2.2 q 2)).2.2 q 6 = h.2.2 q 2 from by simp [th_ur, th_ui, va_up]]
            exact cv
        · have hpq : vw_pp h (ad r') j' ≠ q := by rw [← hq]; exact Q.pne hr hj hr' hj' e
          have C2 := C.fr (fn hpq).1 (fn hpq).2
          refine ⟨C2.1, C2.2.elim (fun ⟨a1, a2, a3⟩ => Or.inl ⟨a1, a2, fun e' he' => ?_⟩) (fun ⟨a1, e0, m1, m2⟩ => Or.inr ⟨a1, e0, List.mem_append_left _ m1, m2⟩)⟩
          rcases List.mem_append.mp he' with z | z
          · exact a3 e' z
          · rw [List.mem_singleton.mp z]
            exact fun y => e (by have := Q.inj hr hj hr' hj' y; exact ⟨this.1.symm, this.2.symm⟩)
      · rcases List.mem_append.mp he' with z | z
        · obtain ⟨r2, j2, y1, y2, y3⟩ := E.1 e' z
          exact ⟨r2, j2, y1, by rw [(gq.vw K (kA r2 y1)).1]; exact y2, y3⟩
        · rw [List.mem_singleton.mp z]
          exact ⟨r, j, hr, by rw [(gq.vw K (kA r hr)).1]; exact hj, rfl⟩
      · rw [List.pairwise_append]
        refine ⟨E.2, List.pairwise_singleton _ _, fun a ha b hb => ?_⟩
        rw [List.mem_singleton.mp hb]
        exact hne a ha
      · rw [(fn nx).1]; exact d1.trans (by rw [e1 14 (by decide)])
      · rw [(fn (nt k hk)).1, pn (by decide)]; exact d2 k hk
      · rw [List.countP_append]
        by_cases e : k = i
        · subst e
          have ew : w = w' k := (nI_eq (by omega) (by
            have := h3
            rcases (show k = 0 ∨ k = 1 ∨ k = 2 by omega) with rfl | rfl | rfl <;> omega)).mp (by rw [← hw1, h2 k hk])
          rw [← ew]
          refine Nat.le_trans (Nat.mul_le_mul_left 3 (Nat.add_le_add_left (show _ ≤ 1 from List.countP_le_length) _)) ?_
          rw [Nat.mul_add]
          exact hw3
        · have : List.countP (fun e => e.1 == S.2 11 k) [((t, nI (rl_cl r j), rl_mr (S.2 4) (rl_cl r j), rl_mv (S.2 5) (S.2 7) (rl_cl r j)) : UE)] = 0 := by
            rw [List.countP_eq_zero]
            intro a ha q9
            rw [List.mem_singleton.mp ha] at q9
            have q8 : t = S.2 11 k := by simpa using q9
            obtain ⟨gv, bg, -, -, -, x4, -⟩ := X
            exact e (x4 k i hk hi (by rw [← q8, hi2]) z)
          rw [this]
          exact h5 k hk z
      · simp [mo_pu, su, va_up]
      · rcases List.mem_append.mp he' with z | z
        · exact h8 e' z
        · rw [List.mem_singleton.mp z]
          exact ⟨ht, i, hi, hi2⟩
  · refine Or.inl ⟨?_, ?_⟩
    · obtain ⟨k, hk, ek⟩ := mo_ul_mem.mp m1
      refine ⟨k, hk, ?_, ?_⟩
      · rw [← hlk, ← m3, ← ek]; rfl
      · rw [← m2, ← ek]; rfl
    · have : pl_rem h (vw_pp h (ad r) j) = h := by
        unfold pl_rem
        rw [if_neg (by rw [s1]; decide)]
      rw [this]
      exact ⟨Q, ⟨d1, d2⟩, W⟩
end OP3

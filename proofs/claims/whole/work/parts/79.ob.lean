/-! calls agree: the places -/
section G3
variable {x aR aO aH aT : Nat} {rt ta : Nat → Nat} {h h1 h' : th_S} {S : th_N} {H : th_N → th_S} {N n u : Nat} {ad : Nat → Nat} {c : Int32} {b v : Option Value}
theorem mo_tx.n0 {k : Int32} {i : Nat} (tx : mo_tx S k i) : ¬ k = 0 := fun z => by
  have := tx.2.1
  rw [z] at this
  exact absurd this (by decide)
/-- refusals of the search -/
theorem RR.pxr (R : RR x aR aO aH aT rt ta h S N n u ad) (hN : N < 2 ^ 31) {k o f e : Int32} {d : Nat} (hc : mo_ce S k o f e d) {E : String} {T : Nat → Nat → Nat → Prop} (px : sh_px ta aO n h k o f E T) : (E = "java/util/NoSuchElementException" ∧ e = 1) ∨ (E = "java/lang/IndexOutOfBoundsException" ∧ e = 2) ∨ ∃ i a q, sh_tx ta h k i ∧ sh_ob aO n h o a ∧ sh_fd h a f q ∧ T i a q := by
  obtain ⟨f1, f2, f3⟩ := R.1.nfd hN hc
  rcases px with ⟨rfl, q⟩ | ⟨i, q1, ⟨rfl, q⟩ | ⟨a, q2, ⟨rfl, q⟩ | ⟨q, q3, q4⟩⟩⟩
  · exact Or.inl ⟨rfl, f1 q⟩
  · exact Or.inl ⟨rfl, f2 q⟩
  · exact Or.inr (Or.inl ⟨rfl, f3 i a q1 q2 q⟩)
  · exact Or.inr (Or.inr ⟨i, a, q, q1, q2, q3, q4⟩)
theorem G_setInt (R : RR x aR aO aH aT rt ta h S N n u ad) (hN : N + 1 < 2 ^ 31) {k o f val : Int32} (w : (c = 0 ∧ p3_setInt x aO ta h n k o f val b h1) ∨ ∃ E, e3_setInt x aO ta h n k o f E h1 ∧ cd_setInt E c) (p : p4_setInt S H u k o f val v h') : GA x aR aO aH aT rt ta H (N + 1) h h1 c b v h' := by
  have wl := R.wl
  have K := R.1.1.1
  have hN' : N < 2 ^ 31 := by omega
  have R0 := R.s0 (Nat.le_succ N) 0
  obtain ⟨e, d, hc, p⟩ := p
  rcases w with ⟨rfl, i, a, q, w1, w2, w3, w4, w5, rfl, rfl⟩ | ⟨E, ⟨rfl, w⟩, cd⟩
  · obtain ⟨r, j, tx, rw', ea, hj, eq, own, al⟩ := R.1.fnd hN' w1 w2 w3 hc
    rw [wl] at w5
    rcases al with ⟨-, z1, z2⟩ | ⟨e0, lk, ec⟩
    · exact (w4.elim z1 z2).elim
    · rcases p with ⟨z, -⟩ | ⟨-, ⟨z, -⟩ | ⟨-, rfl, k', T, tx', st, rfl⟩⟩
      · exact absurd e0 z
      · exact absurd w5 z
      · have ek := mo_tx_v tx' tx
        subst ek
        subst ea
        rw [ec] at st
        have lk' : rl_lk (S.2 3) (S.2 8) r = 0 ∨ rl_lk (S.2 3) (S.2 8) r = k := by
          unfold rl_lk
          rw [if_pos rw'.1, ← own]
          exact lk
        obtain ⟨u', R'⟩ := R0.set (r := r) (j := j) (i := k') (b := 0) (num := val) (v := val) (tg := none) rw'.lv hj tx.1 tx.2.2.1 tx.n0 lk' w5 (Or.inl rfl) (by rw [if_pos rw'.1]; exact ⟨fun _ => rfl, Or.inl rfl, fun z => absurd rw'.1 (by omega), Or.inl ⟨rfl, rfl, rfl⟩⟩) st
        have kp := R.1.place rw'.lv hj
        refine ⟨?_, T, n, u', ad, rfl, st.c0, fun _ => rfl, ?_⟩
        · rw [eq]
          exact pl_num_fr (((fr7.refl h).ui (K.kta tx.1) (by decide)).ui (R.1.kA rw'.lv) (by decide)) kp val
        · rw [eq]
          exact R'
  · rcases R.pxr hN' hc w with ⟨rfl, e1⟩ | ⟨rfl, e1⟩ | ⟨i, a, q, w1, w2, w3, w4⟩
    · have ec := cd_setInt.of.1 cd
      subst ec
      rcases p with ⟨-, -, p⟩ | ⟨z, -⟩
      · rw [e1] at p; exact R.rfs 1 (by decide) p b v
      · rw [e1] at z; exact absurd z (by decide)
    · have ec := cd_setInt.of.2.1 cd
      subst ec
      rcases p with ⟨-, -, p⟩ | ⟨z, -⟩
      · rw [e1] at p; exact R.rfs 2 (by decide) p b v
      · rw [e1] at z; exact absurd z (by decide)
    · obtain ⟨r, j, tx, rw', ea, hj, eq, own, al⟩ := R.1.fnd hN' w1 w2 w3 hc
      rcases w4 with ⟨rfl, z1, z2⟩ | ⟨z, rfl, w5⟩
      · have ec := cd_setInt.of.2.2.1 cd
        subst ec
        rcases al with ⟨e1, -⟩ | ⟨-, lk, -⟩
        · rcases p with ⟨-, -, p⟩ | ⟨z, -⟩
          · rw [e1] at p; exact R.rfs 3 (by decide) p b v
          · rw [e1] at z; exact absurd z (by decide)
        · exact (lk.elim z1 z2).elim
      · have ec := cd_setInt.of.2.2.2 cd
        subst ec
        rw [wl] at w5
        rcases al with ⟨-, z1, z2⟩ | ⟨e0, lk, -⟩
        · exact (z.elim z1 z2).elim
        · rcases p with ⟨z, -⟩ | ⟨-, ⟨-, -, p⟩ | ⟨z, -⟩⟩
          · exact absurd e0 z
          · exact R.rfs 4 (by decide) p b v
          · exact absurd z w5
/-- a reference that is set, both ways -/
theorem RR.srf (R : RR x aR aO aH aT rt ta h S N n u ad) {r j i d : Nat} {k val : Int32} (lv : rl_lv (S.2 1) r) (hj : j < vw_np h (ad r)) (tx : mo_tx S k i) (lk : rl_lk (S.2 3) (S.2 8) r = 0 ∨ rl_lk (S.2 3) (S.2 8) r = k) (ed : d = rl_cl r j) {T : th_N} (p : mo_rf (su S 0 0) u k i d val v T) (tk : h.2.1 (ta i) 0 = k) :
    (∀ tg, sh_fo aO n h val tg → (val = 0 ∨ tg ≠ none) → sh_wl x ta h + 3 ≤ 150 → fr7 h (pl_ref (th_ui (th_ui h (ta i) 1 (h.2.1 (ta i) 1 + 3)) (ad r) 2 (h.2.1 (ta i) 0)) (vw_pp h (ad r) j) tg) ∧ v = some (.int 1) ∧ T.1 0 = 0 ∧ ∃ u', RR x aR aO aH aT rt ta (pl_ref (th_ui (th_ui h (ta i) 1 (h.2.1 (ta i) 1 + 3)) (ad r) 2 (h.2.1 (ta i) 0)) (vw_pp h (ad r) j) tg) T (N + 1) n u' ad) ∧
    (¬ val = 0 → sh_no aO n h val → T = su (su S 0 0) 0 4) ∧ (∀ tg, sh_fo aO n h val tg → (val = 0 ∨ tg ≠ none) → ¬ sh_wl x ta h + 3 ≤ 150 → T = su (su S 0 0) 0 5) := by
  have wl := R.wl
  have K := R.1.1.1
  have R0 := R.s0 (Nat.le_succ N) 0
  have nr : ∀ z, mo_nr (su S 0 0) z ↔ mo_nr S z := fun z => Iff.rfl
  refine ⟨fun tg fo fz w5 => ?_, fun z1 z2 => ?_, fun tg fo fz w5 => ?_⟩
  · rw [wl] at w5
    obtain ⟨tv, ex⟩ := R.1.fo fo fz
    rcases p with ⟨z1, z2, -⟩ | ⟨-, ⟨z, -⟩ | ⟨-, rfl, st⟩⟩
    · rcases ex with ex | ⟨s, ex⟩
      · exact absurd ex z1
      · exact (ex.no z2).elim
    · exact absurd w5 z
    · rw [ed] at st
      rw [tk]
      obtain ⟨u', R'⟩ := R0.set (r := r) (j := j) (i := i) (b := 1) (num := 0) (v := val) (tg := tg) lv hj tx.1 tx.2.2.1 tx.n0 lk w5 (Or.inr rfl) (by
        rw [show (if r < 80 then (1 : Int32) else 1) = 1 by split <;> rfl]
        exact ⟨fun _ => rfl, Or.inr rfl, fun _ => rfl, Or.inr ⟨rfl, tv⟩⟩) st
      exact ⟨pl_ref_fr (((fr7.refl h).ui (K.kta tx.1) (by decide)).ui (R.1.kA lv) (by decide)) (R.1.place lv hj) tg, rfl, st.c0, u', R'⟩
  · rcases p with ⟨-, -, -, e⟩ | ⟨ex, -⟩
    · exact e
    · rcases ex with ex | ⟨s, ex⟩
      · exact absurd ex z1
      · have ex : mo_rw S val s := ex
        exact (ex.no (R.1.nr z2)).elim
  · rw [wl] at w5
    obtain ⟨tv, ex⟩ := R.1.fo fo fz
    rcases p with ⟨z1, z2, -⟩ | ⟨-, ⟨-, -, e⟩ | ⟨z, -⟩⟩
    · rcases ex with ex | ⟨s, ex⟩
      · exact absurd ex z1
      · exact (ex.no z2).elim
    · exact e
    · exact absurd z w5
theorem G_setReference (R : RR x aR aO aH aT rt ta h S N n u ad) (hN : N + 1 < 2 ^ 31) {k o f val : Int32} (w : (c = 0 ∧ p3_setReference x aO ta h n k o f val b h1) ∨ ∃ E, e3_setReference x aO ta h n k o f val E h1 ∧ cd_setRef E c) (p : p4_setReference S H u k o f val v h') : GA x aR aO aH aT rt ta H (N + 1) h h1 c b v h' := by
  have K := R.1.1.1
  have hN' : N < 2 ^ 31 := by omega
  obtain ⟨e, d, hc, p⟩ := p
  rcases w with ⟨rfl, i, a, q, tg, w1, w2, w3, w4, w6, w7, w5, rfl, rfl⟩ | ⟨E, ⟨rfl, w⟩, cd⟩
  · obtain ⟨r, j, tx, rw', ea, hj, eq, own, al⟩ := R.1.fnd hN' w1 w2 w3 hc
    rcases al with ⟨-, z1, z2⟩ | ⟨e0, lk, ec⟩
    · exact (w4.elim z1 z2).elim
    · rcases p with ⟨z, -⟩ | ⟨-, k', T, tx', rf, rfl⟩
      · exact absurd e0 z
      · have ek := mo_tx_v tx' tx
        subst ek
        subst ea
        have lk' : rl_lk (S.2 3) (S.2 8) r = 0 ∨ rl_lk (S.2 3) (S.2 8) r = k := by
          unfold rl_lk
          rw [if_pos rw'.1, ← own]
          exact lk
        obtain ⟨fr, ev, e0, u', R'⟩ := (R.srf rw'.lv hj tx lk' ec rf w1.2.2).1 tg w6 w7 w5
        rw [eq]
        exact ⟨fr, T, n, u', ad, rfl, e0, fun _ => ev, R'⟩
  · rcases R.pxr hN' hc w with ⟨rfl, e1⟩ | ⟨rfl, e1⟩ | ⟨i, a, q, w1, w2, w3, w4⟩
    · have ec := cd_setRef.of.1 cd
      subst ec
      rcases p with ⟨-, -, p⟩ | ⟨z, -⟩
      · rw [e1] at p; exact R.rfs 1 (by decide) p b v
      · rw [e1] at z; exact absurd z (by decide)
    · have ec := cd_setRef.of.2.1 cd
      subst ec
      rcases p with ⟨-, -, p⟩ | ⟨z, -⟩
      · rw [e1] at p; exact R.rfs 2 (by decide) p b v
      · rw [e1] at z; exact absurd z (by decide)
    · obtain ⟨r, j, tx, rw', ea, hj, eq, own, al⟩ := R.1.fnd hN' w1 w2 w3 hc
      rcases w4 with ⟨rfl, z1, z2⟩ | ⟨z, w4⟩
      · have ec := cd_setRef.of.2.2.1 cd
        subst ec
        rcases al with ⟨e1, -⟩ | ⟨-, lk, -⟩
        · rcases p with ⟨-, -, p⟩ | ⟨z, -⟩
          · rw [e1] at p; exact R.rfs 3 (by decide) p b v
          · rw [e1] at z; exact absurd z (by decide)
        · exact (lk.elim z1 z2).elim
      · rcases al with ⟨-, z1, z2⟩ | ⟨e0, lk, ecl⟩
        · exact (z.elim z1 z2).elim
        · rcases p with ⟨z, -⟩ | ⟨-, k', T, tx', rf, p⟩
          · exact absurd e0 z
          · have ek := mo_tx_v tx' tx
            subst ek
            subst ea
            have lk' : rl_lk (S.2 3) (S.2 8) r = 0 ∨ rl_lk (S.2 3) (S.2 8) r = k := by
              unfold rl_lk
              rw [if_pos rw'.1, ← own]
              exact lk
            obtain ⟨-, s1, s2⟩ := R.srf rw'.lv hj tx lk' ecl rf w1.2.2
            rcases w4 with ⟨rfl, z1, z2⟩ | ⟨tg, w5, w6, rfl, w7⟩
            · have ec := cd_setRef.of.2.2.2.1 cd
              subst ec
              rw [s1 z1 z2] at p
              exact R.rfs 4 (by decide) p b v
            · have ec := cd_setRef.of.2.2.2.2 cd
              subst ec
              rw [s2 tg w5 w6 w7] at p
              exact R.rfs 5 (by decide) p b v
theorem RQ.rpp (Q : RQ x aR aO aH aT rt ta h S N n u ad) {j q : Nat} (hj : j < 4) (hq : sh_rp h (rt j) q) : 0 < vw_np h (ad (80 + j)) ∧ q = vw_pp h (ad (80 + j)) 0 := by
  obtain ⟨pa, e1, e2, e3, -⟩ := hq
  rw [Q.rto hj]
  refine ⟨by rw [vw_np_of e1 e2]; exact Nat.one_pos, ?_⟩
  simp [vw_pp, vw_pa_of e1, e3]
theorem G_setRoot (R : RR x aR aO aH aT rt ta h S N n u ad) (hN : N + 1 < 2 ^ 31) {k o val : Int32} (w : (c = 0 ∧ p3_setRoot x aO rt ta h n k o val b h1) ∨ ∃ E, e3_setRoot x aO rt ta h n k o val E h1 ∧ cd_setRef E c) (p : p4_setRoot S H u k o val v h') : GA x aR aO aH aT rt ta H (N + 1) h h1 c b v h' := by
  have K := R.1.1.1
  have hN' : N < 2 ^ 31 := by omega
  obtain ⟨e, d, hc, p⟩ := p
  have lkR : ∀ j, j < 4 → h.2.1 (rt j) 2 = S.2 8 j → rl_lk (S.2 3) (S.2 8) (80 + j) = h.2.1 (rt j) 2 := fun j hj own => by
    unfold rl_lk
    rw [if_neg (by omega), Nat.add_sub_cancel_left, own]
  rcases w with ⟨rfl, i, j, q, tg, w1, w2, w3, wq, w4, w6, w7, w5, rfl, rfl⟩ | ⟨E, ⟨rfl, w⟩, cd⟩
  · obtain ⟨tx, lv, ea, own, al⟩ := R.1.fnr hN' w1 w2 w3 hc
    obtain ⟨hj, eq⟩ := R.1.rpp w2 wq
    rcases al with ⟨-, z1, z2⟩ | ⟨e0, lk, ec, -⟩
    · exact (w4.elim z1 z2).elim
    · rcases p with ⟨z, -⟩ | ⟨-, k', T, tx', rf, rfl⟩
      · exact absurd e0 z
      · have ek := mo_tx_v tx' tx
        subst ek
        obtain ⟨fr, ev, e0, u', R'⟩ := (R.srf lv hj tx (by rw [lkR j w2 own]; exact lk) ec rf w1.2.2).1 tg w6 w7 w5
        rw [eq, ← ea]
        exact ⟨fr, T, n, u', ad, rfl, e0, fun _ => ev, R'⟩
  · obtain ⟨f1, f2⟩ := R.1.nfr hN' hc
    rcases w with ⟨rfl, w⟩ | ⟨i, w1, ⟨rfl, w⟩ | ⟨j, w2, w3, w4⟩⟩
    · have ec := cd_setRef.of.1 cd
      subst ec
      have e1 := f1 w
      rcases p with ⟨-, -, p⟩ | ⟨z, -⟩
      · rw [e1] at p; exact R.rfs 1 (by decide) p b v
      · rw [e1] at z; exact absurd z (by decide)
    · have ec := cd_setRef.of.2.1 cd
      subst ec
      have e1 := f2 i w1 w
      rcases p with ⟨-, -, p⟩ | ⟨z, -⟩
      · rw [e1] at p; exact R.rfs 2 (by decide) p b v
      · rw [e1] at z; exact absurd z (by decide)
    · obtain ⟨tx, lv, ea, own, al⟩ := R.1.fnr hN' w1 w2 w3 hc
      have hj : 0 < vw_np h (ad (80 + j)) := by rw [(R.1.np lv).2 (by omega)]; exact Nat.one_pos
      rcases w4 with ⟨rfl, z1, z2⟩ | ⟨z, w4⟩
      · have ec := cd_setRef.of.2.2.1 cd
        subst ec
        rcases al with ⟨e1, -⟩ | ⟨-, lk, -⟩
        · rcases p with ⟨-, -, p⟩ | ⟨z, -⟩
          · rw [e1] at p; exact R.rfs 3 (by decide) p b v
          · rw [e1] at z; exact absurd z (by decide)
        · exact (lk.elim z1 z2).elim
      · rcases al with ⟨-, z1, z2⟩ | ⟨e0, lk, ecl, -⟩
        · exact (z.elim z1 z2).elim
        · rcases p with ⟨z, -⟩ | ⟨-, k', T, tx', rf, p⟩
          · exact absurd e0 z
          · have ek := mo_tx_v tx' tx
            subst ek
            obtain ⟨-, s1, s2⟩ := R.srf lv hj tx (by rw [lkR j w2 own]; exact lk) ecl rf w1.2.2
            rcases w4 with ⟨rfl, z1, z2⟩ | ⟨tg, w5, w6, rfl, w7⟩
            · have ec := cd_setRef.of.2.2.2.1 cd
              subst ec
              rw [s1 z1 z2] at p
              exact R.rfs 4 (by decide) p b v
            · have ec := cd_setRef.of.2.2.2.2 cd
              subst ec
              rw [s2 tg w5 w6 w7] at p
              exact R.rfs 5 (by decide) p b v
/-- a lock that is taken to read -/
theorem RR.lkr (R : RR x aR aO aH aT rt ta h S N n u ad) {r j i d : Nat} {k : Int32} (lv : rl_lv (S.2 1) r) (hj : j < vw_np h (ad r)) (tx : mo_tx S k i) (lk : rl_lk (S.2 3) (S.2 8) r = 0 ∨ rl_lk (S.2 3) (S.2 8) r = k) (ed : d = rl_cl r j) : fr7 h (th_ui h (ad r) 2 k) ∧ RR x aR aO aH aT rt ta (th_ui h (ad r) 2 k) (mo_lc (su S 0 0) d k) (N + 1) n u ad ∧ (mo_lc (su S 0 0) d k).1 0 = 0 := by
  have R0 := R.s0 (Nat.le_succ N) 0
  rw [ed, mo_lc_lS _ _ (R.1.cl lv hj).1]
  refine ⟨(fr7.refl h).ui (R.1.kA lv) (by decide), R0.lock lv lk ⟨i, tx.1, tx.2.2.1⟩, ?_⟩
  rw [lS_1]
  rfl
theorem G_getInt (R : RR x aR aO aH aT rt ta h S N n u ad) (hN : N + 1 < 2 ^ 31) {k o f : Int32} (w : (c = 0 ∧ p3_getInt aO ta h n k o f b h1) ∨ ∃ E, e3_getInt aO ta h n k o f E h1 ∧ cd_get E c) (p : p4_getInt S H k o f v h') : GA x aR aO aH aT rt ta H (N + 1) h h1 c b v h' := by
  have hN' : N < 2 ^ 31 := by omega
  obtain ⟨e, d, hc, p⟩ := p
  have cell : ∀ i a q, sh_tx ta h k i → sh_ob aO n h o a → sh_fd h a f q → (h.2.1 a 2 = 0 ∨ h.2.1 a 2 = k) → e = 0 ∧ h.2.1 q 0 = S.2 4 d ∧ (S.2 4 d = 0 → h.2.1 q 1 = S.2 5 d) ∧ fr7 h (th_ui h a 2 k) ∧ RR x aR aO aH aT rt ta (th_ui h a 2 k) (mo_lc (su S 0 0) d k) (N + 1) n u ad ∧ (mo_lc (su S 0 0) d k).1 0 = 0 := fun i a q w1 w2 w3 w4 => by
    obtain ⟨r, j, tx, rw', ea, hj, eq, own, al⟩ := R.1.fnd hN' w1 w2 w3 hc
    rcases al with ⟨-, z1, z2⟩ | ⟨e0, lk, ec⟩
    · exact (w4.elim z1 z2).elim
    · subst ea
      obtain ⟨C1, -⟩ := (R.1.2.2.2.2.1 r rw'.lv).2.2.2.2 j hj
      have h4 := (R.1.np rw'.lv).1
      obtain ⟨m1, m2⟩ := rl_cl4 rw'.1 (j := j) (by omega) (S.2 4) (S.2 5) (S.2 7)
      have ed : d = 4 * r + j := by rw [ec]; unfold rl_cl; rw [if_pos rw'.1]
      rw [m1, m2, ← ed, ← eq] at C1
      refine ⟨e0, C1.1 rw'.1, fun z => ?_, R.lkr rw'.lv hj tx (by unfold rl_lk; rw [if_pos rw'.1, ← own]; exact lk) ec⟩
      rcases C1.2.2.2 with ⟨-, y, -⟩ | ⟨y, -⟩
      · exact y
      · rw [z] at y; exact absurd y (by decide)
  rcases w with ⟨rfl, i, a, q, w1, w2, w3, w4, rfl, w5, rfl⟩ | ⟨E, ⟨rfl, w⟩ | ⟨rfl, i, a, q, w1, w2, w3, w4, rfl, w5⟩, cd⟩
  · obtain ⟨e0, c1, c2, fr, R', k0⟩ := cell i a q w1 w2 w3 w4
    rw [c1] at w5
    rcases p with ⟨z, -⟩ | ⟨-, ⟨z, rfl, rfl⟩ | ⟨z, -⟩⟩
    · exact absurd e0 z
    · exact ⟨fr, _, n, u, ad, rfl, k0, fun _ => by rw [c2 w5], R'⟩
    · exact absurd w5 z
  · rcases R.pxr hN' hc w with ⟨rfl, e1⟩ | ⟨rfl, e1⟩ | ⟨i, a, q, w1, w2, w3, w4⟩
    · have ec := cd_get.of.1 cd
      subst ec
      rcases p with ⟨-, -, p⟩ | ⟨z, -⟩
      · rw [e1] at p; exact R.rfs 1 (by decide) p b v
      · rw [e1] at z; exact absurd z (by decide)
    · have ec := cd_get.of.2.1 cd
      subst ec
      rcases p with ⟨-, -, p⟩ | ⟨z, -⟩
      · rw [e1] at p; exact R.rfs 2 (by decide) p b v
      · rw [e1] at z; exact absurd z (by decide)
    · rcases w4 with ⟨rfl, z1, z2⟩ | ⟨-, w4⟩
      · obtain ⟨r, j, tx, rw', ea, hj, eq, own, al⟩ := R.1.fnd hN' w1 w2 w3 hc
        have ec := cd_get.of.2.2.1 cd
        subst ec
        rcases al with ⟨e1, -⟩ | ⟨-, lk, -⟩
        · rcases p with ⟨-, -, p⟩ | ⟨z, -⟩
          · rw [e1] at p; exact R.rfs 3 (by decide) p b v
          · rw [e1] at z; exact absurd z (by decide)
        · exact (lk.elim z1 z2).elim
      · exact w4.elim
  · obtain ⟨e0, c1, c2, fr, R', k0⟩ := cell i a q w1 w2 w3 w4
    have ec := cd_get.of.2.2.2 cd
    subst ec
    rw [c1] at w5
    rcases p with ⟨z, -⟩ | ⟨-, ⟨z, -⟩ | ⟨-, -, p⟩⟩
    · exact absurd e0 z
    · exact absurd z w5
    · exact ⟨fr, _, n, u, ad, p, su0_0 _ _, fun q => absurd q (by decide), R'.s0 (Nat.le_refl _) 4⟩
theorem RQ.thd (Q : RQ x aR aO aH aT rt ta h S N n u ad) {t : Option Nat} {w : Int32} (tv : rl_tv (S.2 1) ad t w) : sh_hd h t = w := by
  rcases tv with ⟨rfl, rfl⟩ | ⟨s, s1, s2, s3, rfl⟩
  · rfl
  · show h.2.1 (ad s) 0 = w
    rw [(Q.2.2.2.2.1 s ⟨by omega, fun _ => s2⟩).2.1]
    unfold rl_hd
    rw [if_pos s1, s3]
theorem G_getReference (R : RR x aR aO aH aT rt ta h S N n u ad) (hN : N + 1 < 2 ^ 31) {k o f : Int32} (w : (c = 0 ∧ p3_getReference aO ta h n k o f b h1) ∨ ∃ E, e3_getReference aO ta h n k o f E h1 ∧ cd_get E c) (p : p4_getReference S H k o f v h') : GA x aR aO aH aT rt ta H (N + 1) h h1 c b v h' := by
  have hN' : N < 2 ^ 31 := by omega
  obtain ⟨e, d, hc, p⟩ := p
  have cell : ∀ i a q, sh_tx ta h k i → sh_ob aO n h o a → sh_fd h a f q → (h.2.1 a 2 = 0 ∨ h.2.1 a 2 = k) → e = 0 ∧ (h.2.1 q 0 = 0 ↔ ¬ S.2 4 d = 1) ∧ (S.2 4 d = 1 → sh_hd h (h.2.2 q 2) = S.2 5 d) ∧ fr7 h (th_ui h a 2 k) ∧ RR x aR aO aH aT rt ta (th_ui h a 2 k) (mo_lc (su S 0 0) d k) (N + 1) n u ad ∧ (mo_lc (su S 0 0) d k).1 0 = 0 := fun i a q w1 w2 w3 w4 => by
    obtain ⟨r, j, tx, rw', ea, hj, eq, own, al⟩ := R.1.fnd hN' w1 w2 w3 hc
    rcases al with ⟨-, z1, z2⟩ | ⟨e0, lk, ec⟩
    · exact (w4.elim z1 z2).elim
    · subst ea
      obtain ⟨C1, -⟩ := (R.1.2.2.2.2.1 r rw'.lv).2.2.2.2 j hj
      have h4 := (R.1.np rw'.lv).1
      obtain ⟨m1, m2⟩ := rl_cl4 rw'.1 (j := j) (by omega) (S.2 4) (S.2 5) (S.2 7)
      have ed : d = 4 * r + j := by rw [ec]; unfold rl_cl; rw [if_pos rw'.1]
      rw [m1, m2, ← ed, ← eq] at C1
      refine ⟨e0, ?_, fun z => ?_, R.lkr rw'.lv hj tx (by unfold rl_lk; rw [if_pos rw'.1, ← own]; exact lk) ec⟩
      · rw [C1.1 rw'.1]
        rcases C1.2.1 with z | z
        · rw [z]; decide
        · rw [z]; decide
      · rcases C1.2.2.2 with ⟨y, -⟩ | ⟨-, y⟩
        · rw [z] at y; exact absurd y (by decide)
        · exact R.1.thd y
  rcases w with ⟨rfl, i, a, q, w1, w2, w3, w4, rfl, w5, rfl⟩ | ⟨E, ⟨rfl, w⟩ | ⟨rfl, i, a, q, w1, w2, w3, w4, rfl, w5⟩, cd⟩
  · obtain ⟨e0, c1, c2, fr, R', k0⟩ := cell i a q w1 w2 w3 w4
    have w6 : S.2 4 d = 1 := Classical.byContradiction fun z => w5 (c1.mpr z)
    rcases p with ⟨z, -⟩ | ⟨-, ⟨z, rfl, rfl⟩ | ⟨z, -⟩⟩
    · exact absurd e0 z
    · exact ⟨fr, _, n, u, ad, rfl, k0, fun _ => by rw [c2 w6], R'⟩
    · exact absurd w6 z
  · rcases R.pxr hN' hc w with ⟨rfl, e1⟩ | ⟨rfl, e1⟩ | ⟨i, a, q, w1, w2, w3, w4⟩
    · have ec := cd_get.of.1 cd
      subst ec
      rcases p with ⟨-, -, p⟩ | ⟨z, -⟩
      · rw [e1] at p; exact R.rfs 1 (by decide) p b v
      · rw [e1] at z; exact absurd z (by decide)
    · have ec := cd_get.of.2.1 cd
      subst ec
      rcases p with ⟨-, -, p⟩ | ⟨z, -⟩
      · rw [e1] at p; exact R.rfs 2 (by decide) p b v
      · rw [e1] at z; exact absurd z (by decide)
    · rcases w4 with ⟨rfl, z1, z2⟩ | ⟨-, w4⟩
      · obtain ⟨r, j, tx, rw', ea, hj, eq, own, al⟩ := R.1.fnd hN' w1 w2 w3 hc
        have ec := cd_get.of.2.2.1 cd
        subst ec
        rcases al with ⟨e1, -⟩ | ⟨-, lk, -⟩
        · rcases p with ⟨-, -, p⟩ | ⟨z, -⟩
          · rw [e1] at p; exact R.rfs 3 (by decide) p b v
          · rw [e1] at z; exact absurd z (by decide)
        · exact (lk.elim z1 z2).elim
      · exact w4.elim
  · obtain ⟨e0, c1, c2, fr, R', k0⟩ := cell i a q w1 w2 w3 w4
    have ec := cd_get.of.2.2.2 cd
    subst ec
    have w6 := c1.mp w5
    rcases p with ⟨z, -⟩ | ⟨-, ⟨z, -⟩ | ⟨-, -, p⟩⟩
    · exact absurd e0 z
    · exact absurd z w6
    · exact ⟨fr, _, n, u, ad, p, su0_0 _ _, fun q => absurd q (by decide), R'.s0 (Nat.le_refl _) 4⟩
theorem G_getRoot (R : RR x aR aO aH aT rt ta h S N n u ad) (hN : N + 1 < 2 ^ 31) {k o : Int32} (w : (c = 0 ∧ p3_getRoot rt ta h k o b h1) ∨ ∃ E, e3_getRoot rt ta h k o E h1 ∧ cd_getRoot E c) (p : p4_getRoot S H k o v h') : GA x aR aO aH aT rt ta H (N + 1) h h1 c b v h' := by
  have hN' : N < 2 ^ 31 := by omega
  obtain ⟨e, d, hc, p⟩ := p
  rcases w with ⟨rfl, i, j, q, w1, w2, w3, wq, w4, rfl, rfl⟩ | ⟨E, ⟨rfl, w⟩, cd⟩
  · obtain ⟨tx, lv, ea, own, al⟩ := R.1.fnr hN' w1 w2 w3 hc
    obtain ⟨hj, eq⟩ := R.1.rpp w2 wq
    rcases al with ⟨-, z1, z2⟩ | ⟨e0, lk, ec, ed⟩
    · exact (w4.elim z1 z2).elim
    · rcases p with ⟨z, -⟩ | ⟨-, rfl, rfl⟩
      · exact absurd e0 z
      · obtain ⟨C1, -⟩ := (R.1.2.2.2.2.1 _ lv).2.2.2.2 0 hj
        rw [rl_mvR _ _ w2, rl_mrR _ w2, ← eq] at C1
        have hv : sh_hd h (h.2.2 q 2) = S.2 7 j := by
          rcases C1.2.2.2 with ⟨y, -⟩ | ⟨-, y⟩
          · exact absurd y (by decide)
          · exact R.1.thd y
        obtain ⟨fr, R', k0⟩ := R.lkr lv hj tx (by unfold rl_lk; rw [if_neg (by omega), Nat.add_sub_cancel_left, ← own]; exact lk) ec
        rw [ea] at fr R'
        refine ⟨fr, _, n, u, ad, rfl, k0, fun _ => ?_, R'⟩
        rw [hv, ed, Nat.add_sub_cancel_left]
  · obtain ⟨f1, f2⟩ := R.1.nfr hN' hc
    rcases w with ⟨rfl, w⟩ | ⟨i, w1, ⟨rfl, w⟩ | ⟨j, w2, w3, ⟨rfl, z1, z2⟩ | ⟨-, w4⟩⟩⟩
    · have ec := cd_getRoot.of.1 cd
      subst ec
      have e1 := f1 w
      rcases p with ⟨-, -, p⟩ | ⟨z, -⟩
      · rw [e1] at p; exact R.rfs 1 (by decide) p b v
      · rw [e1] at z; exact absurd z (by decide)
    · have ec := cd_getRoot.of.2.1 cd
      subst ec
      have e1 := f2 i w1 w
      rcases p with ⟨-, -, p⟩ | ⟨z, -⟩
      · rw [e1] at p; exact R.rfs 2 (by decide) p b v
      · rw [e1] at z; exact absurd z (by decide)
    · have ec := cd_getRoot.of.2.2 cd
      subst ec
      obtain ⟨tx, lv, ea, own, al⟩ := R.1.fnr hN' w1 w2 w3 hc
      rcases al with ⟨e1, -⟩ | ⟨-, lk, -⟩
      · rcases p with ⟨-, -, p⟩ | ⟨z, -⟩
        · rw [e1] at p; exact R.rfs 3 (by decide) p b v
        · rw [e1] at z; exact absurd z (by decide)
      · exact (lk.elim z1 z2).elim
    · exact w4.elim
end G3

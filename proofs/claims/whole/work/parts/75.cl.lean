/-! collect agrees -/
theorem sm_le {w v : Nat → Nat} : ∀ n, (∀ i, i < n → w i ≤ v i) → sm w n ≤ sm v n
  | 0, _ => Nat.le_refl 0
  | n + 1, h => Nat.add_le_add (sm_le n (fun i hi => h i (by omega))) (h n (by omega))
theorem ct_inv {p : Nat → Prop} [DecidablePred p] : ∀ i j, j < ct p i → ∃ m, m < i ∧ p m ∧ j = ct p m
  | 0, j, hj => absurd hj (Nat.not_lt_zero j)
  | i + 1, j, hj => by
    by_cases c : p i
    · rw [ct_s c] at hj
      by_cases e : j = ct p i
      · exact ⟨i, by omega, c, e⟩
      · obtain ⟨m, h1, h2, h3⟩ := ct_inv (p := p) i j (by omega)
        exact ⟨m, by omega, h2, h3⟩
    · rw [ct_n c] at hj
      obtain ⟨m, h1, h2, h3⟩ := ct_inv (p := p) i j hj
      exact ⟨m, by omega, h2, h3⟩
theorem ct_up {p : Nat → Prop} [DecidablePred p] {m : Nat} : ∀ i, m < i → p m → ct p m < ct p i
  | 0, h, _ => absurd h (Nat.not_lt_zero m)
  | i + 1, h, hp => by
    by_cases e : m = i
    · subst e; rw [ct_s hp]; omega
    · have := ct_up (p := p) i (by omega) hp
      by_cases c : p i
      · rw [ct_s c]; omega
      · rw [ct_n c]; exact this
section CL
variable {x aR aO aH aT : Nat} {rt ta : Nat → Nat} {h h' : th_S} {S S' : th_N} {N N' n u : Nat} {ad : Nat → Nat} {g : Nat → Int32}
abbrev fl_p (aO : Nat) (h : th_S) (m : Nat) : Prop := ¬ h.2.1 (vw_ob aO h m) 3 = 0
def fl_w (aO : Nat) (h : th_S) (m : Nat) : Nat := if fl_p aO h m then 1 + vw_np h (vw_ob aO h m) else 0
theorem fl_c : ∀ i, (fl_s x aO h i).1 = ct (fl_p aO h) i ∧ (∀ m, m < i → fl_p aO h m → (fl_s x aO h i).2.2.2 aO (ct (fl_p aO h) m) = some (vw_ob aO h m)) ∧ (fl_s x aO h i).2.2.1 x 7 = nI (sm (fl_w aO h) i)
  | 0 => ⟨rfl, fun m hm => absurd hm (Nat.not_lt_zero m), th_ui_s _ _ _ _⟩
  | i + 1 => by
    obtain ⟨a1, a2, a3⟩ := fl_c i
    unfold fl_s
    rw [fl_s_i (fun _ => by decide)]
    by_cases c : h.2.1 (vw_ob aO h i) 3 = 0
    · rw [if_pos c, ct_n (fun q => q c)]
      refine ⟨a1, fun m hm hp => ?_, ?_⟩
      · have : m ≠ i := fun e => hp (by rw [e]; exact c)
        exact a2 m (by omega) hp
      · rw [a3]
        show _ = nI (sm (fl_w aO h) i + fl_w aO h i)
        rw [show fl_w aO h i = 0 from if_neg (fun q => q c)]
        rfl
    · rw [if_neg c, ct_s c]
      refine ⟨congrArg (· + 1) a1, fun m hm hp => ?_, ?_⟩
      · show (th_ur (fl_s x aO h i).2 aO (fl_s x aO h i).1 (some (vw_ob aO h i))).2.2 aO _ = _
        by_cases e : m = i
        · rw [e, a1]; exact th_ur_s _ _ _ _
        · have hm' : m < i := by omega
          have := ct_up i hm' hp
          rw [th_ur_k _ _ _ (by omega)]
          exact a2 m hm' hp
      · refine (th_ui_s _ _ _ _).trans ?_
        rw [a3]
        show _ = nI (sm (fl_w aO h) i + fl_w aO h i)
        rw [show fl_w aO h i = 1 + vw_np h (vw_ob aO h i) from if_pos c, show (1 : Int32) = nI 1 from rfl, nI_add, nI_add]
/-- the state after a flip -/
def cl_T (S : th_N) (g : Nat → Int32) : th_N := su (su (su (sw S 1 (cf 80 (mo_dd S g) (S.2 1))) 10 (nI (sm (mo_wt S g) 80))) 14 0) 15 (S.1 15 + 1)
theorem cl_T_n (S : th_N) (g : Nat → Int32) {j : Nat} (hj : j ≠ 1) : (cl_T S g).2 j = S.2 j := sw_n S (cf 80 (mo_dd S g) (S.2 1)) hj
theorem cl_T_1 (S : th_N) (g : Nat → Int32) : (cl_T S g).2 1 = cf 80 (mo_dd S g) (S.2 1) := sw_e S 1 _
theorem cl_hd (S : th_N) (g : Nat → Int32) {r : Nat} (hr : r < 80) : (¬ (cl_T S g).2 1 r ≤ 0 → ¬ S.2 1 r ≤ 0 ∧ ¬ g r = 0 ∧ (cl_T S g).2 1 r = S.2 1 r) ∧ (¬ S.2 1 r ≤ 0 → ¬ g r = 0 → (cl_T S g).2 1 r = S.2 1 r) := by
  rw [cl_T_1]
  unfold cf
  by_cases c : r < 80 ∧ mo_dd S g r
  · rw [if_pos c]
    exact ⟨fun q => absurd (by decide) q, fun _ q => absurd c.2.2 q⟩
  · rw [if_neg c]
    refine ⟨fun q => ⟨q, fun z => c ⟨hr, q, z⟩, rfl⟩, fun _ _ => rfl⟩
theorem fl_fr (K : sh_K x aR aO aH aT rt ta h) : (th_ui (sh_fl x aO n h) x 8 0).1 = h.1 ∧ (∀ b, b ≠ aO → (th_ui (sh_fl x aO n h) x 8 0).2.2 b = h.2.2 b) ∧ (∀ b j, (b = x → j ≠ 7 ∧ j ≠ 4 ∧ j ≠ 10 ∧ j ≠ 8) → (th_ui (sh_fl x aO n h) x 8 0).2.1 b j = h.2.1 b j) ∧ (th_ui (sh_fl x aO n h) x 8 0).2.1 x 8 = 0 ∧ (th_ui (sh_fl x aO n h) x 8 0).2.1 x 7 = nI (sm (fl_w aO h) n) ∧ (th_ui (sh_fl x aO n h) x 8 0).2.1 x 10 = h.2.1 x 10 + 1 := by
  refine ⟨fl_s_k n, fun b hb => fl_s_r hb n, fun b j hb => ?_, th_ui_s _ _ _ _, ?_, ?_⟩
  · refine (ui_at (fun e => (hb e).2.2.2)).trans ?_
    unfold sh_fl
    rw [ui_at (fun e => (hb e).2.2.1), ui_at (fun e => (hb e).2.1)]
    exact fl_s_i (fun e => (hb e).1) n
  · refine (ui_at (fun _ => by decide)).trans ?_
    unfold sh_fl
    rw [ui_at (fun _ => by decide), ui_at (fun _ => by decide)]
    exact (fl_c n).2.2
  · refine (ui_at (fun _ => by decide)).trans ?_
    unfold sh_fl
    exact th_ui_s _ _ _ _
/-- what is kept points to what is kept -/
theorem RQ.clo (Q : RQ x aR aO aH aT rt ta h S N n u ad) (cb : mo_cb S u (fun r => ¬ g r = 0)) (cc : mo_cc S (fun r => ¬ g r = 0)) {r s : Nat} (hr : rl_lv (S.2 1) r) (hk : r < 80 → ¬ g r = 0) (hs : s < 80) (hl : ¬ S.2 1 s ≤ 0) (hp : pt h (ad r) (ad s)) : ¬ g s = 0 := by
  obtain ⟨s', s1, s2, s3, q⟩ := Q.ptl hr hp
  have e := Q.2.2.1.2.2.1 s s' ⟨by omega, fun _ => hl⟩ ⟨by omega, fun _ => s2⟩ s3
  subst e
  have rw' := Q.rwl hs hl
  obtain ⟨b1, b2, b3⟩ := cb
  rcases q with ⟨j, hj, e1, e⟩ | ⟨i, hi, e1, e2⟩
  · by_cases c : r < 80
    · have h4 := (Q.np hr).1
      obtain ⟨c1, c2⟩ := rl_cl4 c (j := j) (by omega) (S.2 4) (S.2 5) (S.2 7)
      rw [c1] at e1
      rw [c2] at e
      have d1 : (4 * r + j) / 4 = r := by omega
      have d2 : (4 * r + j) % 4 = j := by omega
      have sz := (Q.2.2.2.2.1 r hr).2.2.2.1
      unfold rl_sz at sz
      rw [if_pos c] at sz
      refine cc (4 * r + j) (by omega) (by show ¬ g _ = 0; rw [d1]; exact hk c) (by rw [e1]; decide) ?_ s (by rw [← e]; exact rw')
      rw [d1, d2, sz]
      exact nI_ge hj (by omega)
    · obtain ⟨k, rfl⟩ : ∃ k, r = 80 + k := ⟨r - 80, by omega⟩
      have hk4 : k < 4 := by have := hr.1; omega
      have : j = 0 := by
        have := (Q.np hr).2 (by omega)
        omega
      rw [this, rl_mvR _ _ hk4] at e
      exact b2 k hk4 s (by rw [← e]; exact rw')
  · exact b3 i hi (by rw [e1]; decide) s (by rw [← e2]; exact rw')
theorem RR.keep (R : RR x aR aO aH aT rt ta h S N n u ad) (hN : N < 2 ^ 31) (cb : mo_cb S u (fun r => ¬ g r = 0)) (cc : mo_cc S (fun r => ¬ g r = 0)) (M : ∀ r, r < 80 → ¬ S.2 1 r ≤ 0 → (¬ h.2.1 (ad r) 3 = 0 ↔ ¬ g r = 0)) :
    RR x aR aO aH aT rt ta (th_ui (sh_fl x aO n h) x 8 0) (cl_T S g) N (fl_s x aO h n).1 u ad := by
  obtain ⟨Q, D, W⟩ := R
  have K := Q.1.1
  have O := Q.1.2
  obtain ⟨K1, O1⟩ := sh_fl_O K O
  obtain ⟨f1, f2, f3, f4, f5, f6⟩ := fl_fr (n := n) K
  obtain ⟨c1, c2, -⟩ := fl_c (x := x) (aO := aO) (h := h) n
  have fO : ∀ j a, (fl_s x aO h n).2.2.2 aO j = some a → vw_ob aO (th_ui (sh_fl x aO n h) x 8 0) j = a := fun j a q => by
    show ((fl_s x aO h n).2.2.2 aO j).getD 0 = a
    rw [q]
    rfl
  have K' : sh_K x aR aO aH aT rt ta (th_ui (sh_fl x aO n h) x 8 0) := K1.uk K1.kx (by decide)
  have O' : sh_O x aO (fl_s x aO h n).1 (th_ui (sh_fl x aO n h) x 8 0) := ⟨O1.1, by rw [ui_at (fun _ => by decide)]; exact O1.2.1, O1.2.2⟩
  have hd := fun r (hr : r < 80) => cl_hd S g hr
  have wt : sm (fl_w aO h) n = sm (mo_wt S g) 80 := by
    refine Q.smO _ _ (fun i r hi hr hl e => ?_) (fun r hr hl => if_neg (fun q => q.1 hl))
    unfold fl_w mo_wt fl_p
    rw [← e]
    have m := M r hr hl
    have sz := (Q.2.2.2.2.1 r ⟨by omega, fun _ => hl⟩).2.2.2.1
    unfold rl_sz at sz
    rw [if_pos hr] at sz
    have h4 := (Q.np (r := r) ⟨by omega, fun _ => hl⟩).1
    by_cases c : h.2.1 (ad r) 3 = 0
    · rw [if_neg (fun q => q c), if_neg (fun q => (m.mpr q.2) c)]
    · rw [if_pos c, if_pos ⟨hl, m.mp c⟩, sz, nI_clamp (by omega)]
  have lv : ∀ r, rl_lv ((cl_T S g).2 1) r → rl_lv (S.2 1) r ∧ (r < 80 → ¬ g r = 0) := fun r hr => ⟨⟨hr.1, fun z => ((hd r z).1 (hr.2 z)).1⟩, fun z => ((hd r z).1 (hr.2 z)).2.1⟩
  have eu : mo_ul (cl_T S g) u = mo_ul S u := mo_ul_row (fun j h1 _ => cl_T_n S g (by omega))
  have G : gs h (th_ui (sh_fl x aO n h) x 8 0) := ⟨fun b t q => by rw [f1]; exact q, fun b hb => ⟨f3 b 0 (fun e => absurd e (th_kne hb K.kx (by decide))), by rw [f2 b (th_kne hb K.kO (by decide))]⟩, fun b m hb => f2 b (th_kne hb K.kO (by simp))⟩
  have kA := fun r hr => Q.kA (r := r) hr
  have kt : ∀ i j, i < 3 → (th_ui (sh_fl x aO n h) x 8 0).2.1 (ta i) j = h.2.1 (ta i) j := fun i j hi => f3 _ j (fun e => absurd e (th_kne (K.kta hi) K.kx (by decide)))
  have X' : rl_X x ta (th_ui (sh_fl x aO n h) x 8 0) (cl_T S g) N := by
    obtain ⟨gv, bg, h1, h2, h3, h4, h5, h6⟩ := Q.2.1
    refine ⟨gv, bg, h1, ⟨?_, ?_, ?_, ?_⟩, fun i hi => ?_, ?_, fun r hr => ?_, fun r hr => ?_⟩
    · rw [f3 x 6 (fun _ => ⟨by decide, by decide, by decide, by decide⟩)]; exact h2.1
    · rw [f5, wt]; rfl
    · rw [f3 x 9 (fun _ => ⟨by decide, by decide, by decide, by decide⟩)]; exact h2.2.2.1
    · rw [f6, h2.2.2.2]; rfl
    · rw [cl_T_n S g (by decide), kt i 0 hi]; exact h3 i hi
    · rw [cl_T_n S g (by decide)]; exact h4
    · rw [cl_T_1]
      unfold cf
      split
      · exact ⟨0, Nat.zero_le _, rfl⟩
      · exact h5 r hr
    · rw [cl_T_n S g (by decide)]; exact h6 r hr
  obtain ⟨-, X, B, U, A, P, E, V⟩ := Q
  have Q : RQ x aR aO aH aT rt ta h S N n u ad := ⟨⟨K, O⟩, X, B, U, A, P, E, V⟩
  refine ⟨⟨⟨K', O'⟩, X', ⟨fun i hi => ?_, fun r hr hl => ?_, fun r r' h1 h2 e => ?_, B.2.2.2.1, fun i j hi hj e => ?_, fun r r' hr hr' hl e => ?_⟩, ⟨?_, ?_⟩, fun r hr => ?_, ?_, ?_, fun r hr => ?_⟩, ⟨?_, fun i hi => ?_⟩, ?_⟩
  · rw [c1] at hi
    obtain ⟨m, m1, m2, m3⟩ := ct_inv n i hi
    obtain ⟨r, r1, r2, r3⟩ := B.1 m m1
    have m4 : ¬ h.2.1 (vw_ob aO h m) 3 = 0 := m2
    rw [← r3] at m4
    refine ⟨r, r1, by rw [(hd r r1).2 r2 ((M r r1 r2).mp m4)]; exact r2, ?_⟩
    rw [m3, fO _ _ (c2 m m1 m2)]
    exact r3
  · obtain ⟨l1, l2, l3⟩ := (hd r hr).1 hl
    obtain ⟨m, m1, m2⟩ := B.2.1 r hr l1
    have mp : fl_p aO h m := by show ¬ h.2.1 (vw_ob aO h m) 3 = 0; rw [m2]; exact (M r hr l1).mpr l2
    refine ⟨ct (fl_p aO h) m, by rw [c1]; exact ct_up n m1 mp, ?_⟩
    rw [fO _ _ (c2 m m1 mp)]
    exact m2
  · exact B.2.2.1 r r' (lv r h1).1 (lv r' h2).1 e
  · rw [c1] at hi hj
    obtain ⟨m, m1, m2, m3⟩ := ct_inv n i hi
    obtain ⟨m', m1', m2', m3'⟩ := ct_inv n j hj
    have e2 : vw_ob aO h m = vw_ob aO h m' := by
      rw [m3, m3', fO _ _ (c2 m m1 m2), fO _ _ (c2 m' m1' m2')] at e
      exact e
    have := B.2.2.2.2.1 m m' m1 m1' e2
    rw [m3, m3', this]
  · obtain ⟨l1, l2, l3⟩ := (hd r hr).1 hl
    have hl' : ¬ (cl_T S g).2 1 r' ≤ 0 := by rw [← e]; exact hl
    obtain ⟨l1', l2', l3'⟩ := (hd r' hr').1 hl'
    exact B.2.2.2.2.2 r r' hr hr' l1 (by rw [← l3, ← l3', e])
  · show nI (sm (mo_wt S g) 80) = _
    refine congrArg nI (sm_cg 80 (fun r hr => ?_))
    rw [cl_T_n S g (j := 2) (by decide)]
    unfold mo_wt rl_wt
    by_cases c : (cl_T S g).2 1 r ≤ 0
    · rw [if_pos c, if_neg (fun q => by rw [(hd r hr).2 q.1 q.2] at c; exact q.1 c)]
    · rw [if_neg c, if_pos ⟨((hd r hr).1 c).1, ((hd r hr).1 c).2.1⟩]
  · rw [cl_T_n S g (j := 2) (by decide)]
    refine Nat.le_trans (sm_le 80 (fun r hr => ?_)) U.2
    unfold rl_wt
    by_cases c : (cl_T S g).2 1 r ≤ 0
    · rw [if_pos c]; exact Nat.zero_le _
    · rw [if_neg c, if_neg ((hd r hr).1 c).1]; exact Nat.le_refl _
  · obtain ⟨l1, l2⟩ := lv r hr
    rw [cl_T_n S g (j := 2) (by decide), cl_T_n S g (j := 3) (by decide), cl_T_n S g (j := 4) (by decide), cl_T_n S g (j := 5) (by decide), cl_T_n S g (j := 7) (by decide), cl_T_n S g (j := 8) (by decide), eu]
    refine (A r l1).mv K G rfl ?_ rfl ?_ (fun j hj C => ?_)
    · unfold rl_hd
      by_cases c : r < 80
      · rw [if_pos c, if_pos c]; exact ((hd r c).1 (hr.2 c)).2.2
      · rw [if_neg c, if_neg c]
    · rw [f3 _ 2 (fun e => absurd e (th_kne (kA r l1) K.kx (by decide)))]; exact (A r l1).2.2.1
    · have kp := Q.place l1 hj
      have e1 : (th_ui (sh_fl x aO n h) x 8 0).2.1 (vw_pp h (ad r) j) = h.2.1 (vw_pp h (ad r) j) := funext fun i => f3 _ i (fun e => absurd e (th_kne kp K.kx (by decide)))
      have e2 : (th_ui (sh_fl x aO n h) x 8 0).2.2 (vw_pp h (ad r) j) = h.2.2 (vw_pp h (ad r) j) := f2 _ (th_kne kp K.kO (by decide))
      have tv : ∀ t v, (h.2.2 (vw_pp h (ad r) j) 2 = t ∨ h.2.2 (vw_pp h (ad r) j) 6 = t) → rl_tv (S.2 1) ad t v → rl_tv ((cl_T S g).2 1) ad t v := fun t v ht tv => by
        rcases tv with q | ⟨s, s1, s2, s3, s4⟩
        · exact Or.inl q
        · rw [s4] at ht
          have gs := Q.clo cb cc l1 l2 s1 s2 ⟨j, hj, ht⟩
          have := (hd s s1).2 s2 gs
          exact Or.inr ⟨s, s1, by rw [this]; exact s2, by rw [this]; exact s3, s4⟩
      refine rl_C.fr e1 e2 ?_
      obtain ⟨C1, C2⟩ := C
      refine ⟨C1.tv (fun _ q => tv _ _ (Or.inl rfl) q), C2.elim Or.inl (fun ⟨a, e, b1, b2, b3, b4⟩ => Or.inr ⟨a, e, b1, b2, b3, b4.tv (fun _ q => tv _ _ (Or.inr rfl) q)⟩)⟩
  · exact P.mv K G kA (fun r hr => ⟨(lv r hr).1, rfl⟩)
  · rw [eu]
    refine E.mv K G kA (fun r hr ⟨e, he, j, hj, ec⟩ => ⟨⟨hr.1, fun c => ?_⟩, rfl⟩) (fun _ q => q) E.2
    obtain ⟨-, C2⟩ := (A r hr).2.2.2.2 j hj
    rcases C2 with ⟨-, -, z⟩ | ⟨-, e', he', ec', el', -⟩
    · exact absurd ec (z e he)
    · obtain ⟨s, w, -, -, -, -, -, -, -, h8⟩ := W
      have n0 := (h8 _ he').1
      have hl := hr.2 c
      have lk := Q.lkn hN hr
      rw [el'] at n0
      have lk2 : ¬ S.2 3 r ≤ 0 := fun z => n0 (lk.mp (by unfold rl_lk; rw [if_pos c]; exact z))
      rw [(hd r c).2 hl (cb.1 r c hl lk2)]
      exact hl
  · rw [cl_T_n S g (j := 3) (by decide), cl_T_n S g (j := 8) (by decide), cl_T_n S g (j := 11) (by decide)]
    exact V r (lv r hr).1
  · rw [f4]; rfl
  · rw [cl_T_n S g (by decide), kt i 1 hi]; exact D.2 i hi
  · rw [eu, cl_T_n S g (j := 12) (by decide), cl_T_n S g (j := 11) (by decide)]
    obtain ⟨s, w, h1, h2, h3, h4⟩ := W
    exact ⟨0, w, rfl, h2, by omega, h4⟩
theorem mo_ac_cg {S S' : th_N} (h : S'.2 11 = S.2 11) : ∀ i, mo_ac S' i = mo_ac S i
  | 0 => rfl
  | i + 1 => by unfold mo_ac; rw [mo_ac_cg h i, h]
/-- collect: what the class answers and what the model does -/
theorem RR.coll (R : RR x aR aO aH aT rt ta h S N n u ad) (hN : N < 2 ^ 31) (hN' : N ≤ N') (hN2 : N' < 2 ^ 31) {g : Nat → Int32} (hg : mo_hd S u g) : (sh_fh x aO aH n rt h).1 = mo_hc g 80 ∧
    (∀ p T, mo_cr (su (sw (su S 0 0) 6 g) 0 0) u 3 p T → RR x aR aO aH aT rt ta (th_ui (cr_s aO n rt ta (sh_fh x aO aH n rt h).2 3).2 x 8 0) (su T 14 0) N' n p ad ∧ (cr_s aO n rt ta (sh_fh x aO aH n rt h).2 3).1 = nI (mo_ac S 3)) ∧
    (∃ n', RR x aR aO aH aT rt ta (th_ui (sh_fl x aO n (sh_fh x aO aH n rt h).2) x 8 0) (su (su (mo_cl S g 80) 14 0) 15 (S.1 15 + 1)) N' n' u ad) ∧ (sh_fh x aO aH n rt h).2.2.1 x 7 = S.1 10 ∧ (th_ui (sh_fl x aO n (sh_fh x aO aH n rt h).2) x 8 0).2.1 x 7 = nI (sm (mo_wt S g) 80) := by
  obtain ⟨m1, m2, m3⟩ := R.hld hN hg
  have R' := R.fhd hN' 0 g
  refine ⟨m3, fun p T hcr => ?_, ?_⟩
  · have := R'.crash hN2 (S' := su (sw (su S 0 0) 6 g) 0 0) rfl (fun j hj => by simp [su, sw, va_up, hj]) hcr
    rw [mo_ac_cg (S := S) (S' := sw (su S 0 0) 6 g) rfl] at this
    exact this
  · have := R'.keep (g := g) hN2 hg.1 hg.2.1 m1
    have x7 : (sh_fh x aO aH n rt h).2.2.1 x 7 = S.1 10 := by
      obtain ⟨gv, bg, h1, h2, -⟩ := R'.1.2.1
      exact h2.2.1
    refine ⟨⟨_, this⟩, x7, ?_⟩
    obtain ⟨gv, bg, h1, h2, -⟩ := this.1.2.1
    exact h2.2.1
end CL

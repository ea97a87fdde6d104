/-! the held sets match -/
section HM
variable {x aR aO aH aT : Nat} {rt ta : Nat → Nat} {h h' : th_S} {S S' : th_N} {N N' n u : Nat} {ad : Nat → Nat} {g : Nat → Int32}
theorem RQ.rwl (Q : RQ x aR aO aH aT rt ta h S N n u ad) {s : Nat} (hs : s < 80) (hl : ¬ S.2 1 s ≤ 0) : mo_rw S (S.2 1 s) s := by
  refine ⟨hs, i32_nle hl, rfl, fun j hj q => ?_⟩
  have := Q.2.2.1.2.2.2.2.2 s j hs (by omega) hl q.symm
  omega
/-- a target, and its value -/
theorem rl_cv.som {hd : Nat → Int32} {r : Nat} {ref num : Int32} {t : Option Nat} {rf v : Int32} (c : rl_cv hd ad r ref num t rf v) {b : Nat} (hb : t = some b) : rf = 1 ∧ ∃ s, s < 80 ∧ ¬ hd s ≤ 0 ∧ hd s = v ∧ b = ad s := by
  obtain ⟨-, -, -, d⟩ := c
  rcases d with ⟨-, -, q⟩ | ⟨q, ⟨q2, -⟩ | ⟨s, s1, s2, s3, s4⟩⟩
  · rw [hb] at q; cases q
  · rw [hb] at q2; cases q2
  · rw [hb] at s4; exact ⟨q, s, s1, s2, s3, Option.some.inj s4⟩
theorem rl_cv.val (Q : RQ x aR aO aH aT rt ta h S N n u ad) {r : Nat} {ref num : Int32} {t : Option Nat} {rf v : Int32} (c : rl_cv (S.2 1) ad r ref num t rf v) (h0 : ¬ rf = 0) {s : Nat} (hs : mo_rw S v s) : t = some (ad s) := by
  obtain ⟨-, -, -, d⟩ := c
  rcases d with ⟨q, -⟩ | ⟨-, ⟨-, q⟩ | ⟨s', s1, s2, s3, s4⟩⟩
  · exact absurd q h0
  · have := hs.2.1
    rw [q] at this
    exact absurd this (by decide)
  · have e := Q.2.2.1.2.2.2.2.2 s' s s1 hs.1 s2 (by rw [s3, hs.2.2.1])
    rw [s4, e]
theorem RQ.lkn (Q : RQ x aR aO aH aT rt ta h S N n u ad) (hN : N < 2 ^ 31) {r : Nat} (hr : rl_lv (S.2 1) r) : rl_lk (S.2 3) (S.2 8) r ≤ 0 ↔ rl_lk (S.2 3) (S.2 8) r = 0 := by
  rcases Q.2.2.2.2.2.2.2 r hr with q | ⟨i, hi, q⟩
  · rw [q]; decide
  · rw [← q]; exact Q.2.1.ac hN hi
theorem RQ.ptl (Q : RQ x aR aO aH aT rt ta h S N n u ad) {r b : Nat} (hr : rl_lv (S.2 1) r) (hp : pt h (ad r) b) : ∃ s, s < 80 ∧ ¬ S.2 1 s ≤ 0 ∧ b = ad s ∧ ((∃ j, j < vw_np h (ad r) ∧ rl_mr (S.2 4) (rl_cl r j) = 1 ∧ S.2 1 s = rl_mv (S.2 5) (S.2 7) (rl_cl r j)) ∨ ∃ k, k < u ∧ S.2 18 k = 1 ∧ S.2 1 s = S.2 19 k) := by
  obtain ⟨j, hj, q⟩ := hp
  obtain ⟨C1, C2⟩ := (Q.2.2.2.2.1 r hr).2.2.2.2 j hj
  rcases q with q | q
  · obtain ⟨e1, s, s1, s2, s3, s4⟩ := C1.som q
    exact ⟨s, s1, s2, s4, Or.inl ⟨j, hj, e1, s3⟩⟩
  · rcases C2 with ⟨-, z, -⟩ | ⟨-, e, he, -, -, c⟩
    · rw [z] at q; cases q
    · obtain ⟨e1, s, s1, s2, s3, s4⟩ := c.som q
      obtain ⟨k, hk, rfl⟩ := mo_ul_mem.mp he
      exact ⟨s, s1, s2, s4, Or.inr ⟨k, hk, e1, s3⟩⟩
theorem RQ.ptO (Q : RQ x aR aO aH aT rt ta h S N n u ad) {r b : Nat} (hr : rl_lv (S.2 1) r) (hp : pt h (ad r) b) : ∃ m, m < n ∧ b = vw_ob aO h m := by
  obtain ⟨s, s1, s2, s3, -⟩ := Q.ptl hr hp
  obtain ⟨i, hi, e⟩ := Q.2.2.1.2.1 s s1 s2
  exact ⟨i, hi, by rw [s3, e]⟩
theorem RQ.rto (Q : RQ x aR aO aH aT rt ta h S N n u ad) {k : Nat} (hk : k < 4) : ad (80 + k) = rt k := Q.2.2.1.2.2.2.1 k hk
theorem RQ.hlf (Q : RQ x aR aO aH aT rt ta h S N n u ad) : hl_I x aO aH n rt h (sh_fh x aO aH n rt h) ∧ (∀ k, k < 4 → ∀ m, m < n → pt h (rt k) (vw_ob aO h m) → hl_m aO h (sh_fh x aO aH n rt h) m) ∧ (∀ m, m < n → ¬ h.2.1 (vw_ob aO h m) 2 = 0 → hl_m aO h (sh_fh x aO aH n rt h) m) ∧ (∀ m, m < n → hl_m aO h (sh_fh x aO aH n rt h) m → ∀ k, k < n → pt h (vw_ob aO h m) (vw_ob aO h k) → hl_m aO h (sh_fh x aO aH n rt h) k) := by
  refine hl_fh Q.1.1 Q.1.2 Q.2.2.1.2.2.2.2.1 (fun m hm b hb => ?_) (fun k hk b hb => ?_)
  · obtain ⟨r, r1, r2, r3⟩ := Q.2.2.1.1 m hm
    rw [← r3] at hb
    exact Q.ptO ⟨by omega, fun _ => r2⟩ hb
  · rw [← Q.rto hk] at hb
    exact Q.ptO (rl_lvR hk) hb
theorem rl_clR {k : Nat} (hk : k < 4) : rl_cl (80 + k) 0 = 320 + k := by
  unfold rl_cl
  rw [if_neg (by omega)]
  omega
theorem rl_mvR (vl ro : Nat → Int32) {k : Nat} (hk : k < 4) : rl_mv vl ro (rl_cl (80 + k) 0) = ro k := by
  rw [rl_clR hk]
  unfold rl_mv
  rw [if_neg (by omega), Nat.add_sub_cancel_left]
theorem rl_mrR (rf : Nat → Int32) {k : Nat} (hk : k < 4) : rl_mr rf (rl_cl (80 + k) 0) = 1 := by
  rw [rl_clR hk]
  unfold rl_mr
  rw [if_neg (by omega)]
theorem rl_cl4 {s j : Nat} (hs : s < 80) (hj : j < 4) (rf vl ro : Nat → Int32) : rl_mr rf (rl_cl s j) = rf (4 * s + j) ∧ rl_mv vl ro (rl_cl s j) = vl (4 * s + j) := by
  unfold rl_mr rl_mv rl_cl
  rw [if_pos hs, if_pos (by omega), if_pos (by omega)]
  exact ⟨rfl, rfl⟩
/-- what the class marks, the model holds -/
theorem RQ.mkg (Q : RQ x aR aO aH aT rt ta h S N n u ad) (hN : N < 2 ^ 31) (hg : mo_hd S u g) {b : Nat} (hL : hl_L aO n rt h b) : ∃ s, s < 80 ∧ ¬ S.2 1 s ≤ 0 ∧ b = ad s ∧ ¬ g s = 0 := by
  obtain ⟨⟨b1, b2, b3⟩, cc, -⟩ := hg
  refine hL (fun b => ∃ s, s < 80 ∧ ¬ S.2 1 s ≤ 0 ∧ b = ad s ∧ ¬ g s = 0) ⟨fun k hk b hb => ?_, fun m hm q => ?_⟩ (fun m hm hP b hb => ?_)
  · rw [← Q.rto hk] at hb
    obtain ⟨s, s1, s2, s3, q⟩ := Q.ptl (rl_lvR hk) hb
    refine ⟨s, s1, s2, s3, ?_⟩
    have rw' := Q.rwl s1 s2
    rcases q with ⟨j, hj, -, e⟩ | ⟨i, hi, e1, e2⟩
    · have : j = 0 := by
        have := (Q.np (rl_lvR hk)).2 (by omega)
        omega
      rw [this, rl_mvR _ _ hk] at e
      exact b2 k hk s (by rw [← e]; exact rw')
    · exact b3 i hi (by rw [e1]; decide) s (by rw [← e2]; exact rw')
  · obtain ⟨r, r1, r2, r3⟩ := Q.2.2.1.1 m hm
    have hr : rl_lv (S.2 1) r := ⟨by omega, fun _ => r2⟩
    have hA := (Q.2.2.2.2.1 r hr).2.2.1
    have lk := Q.lkn hN hr
    rw [← r3, hA] at q
    refine ⟨r, r1, r2, r3.symm, b1 r r1 r2 (fun z => q (lk.mp ?_))⟩
    unfold rl_lk
    rw [if_pos r1]
    exact z
  · obtain ⟨r, r1, r2, r3, r4⟩ := hP
    have hr : rl_lv (S.2 1) r := ⟨by omega, fun _ => r2⟩
    rw [r3] at hb
    obtain ⟨s, s1, s2, s3, q⟩ := Q.ptl hr hb
    refine ⟨s, s1, s2, s3, ?_⟩
    have rw' := Q.rwl s1 s2
    rcases q with ⟨j, hj, e1, e⟩ | ⟨i, hi, e1, e2⟩
    · have h4 := (Q.np hr).1
      obtain ⟨c1, c2⟩ := rl_cl4 r1 (j := j) (by omega) (S.2 4) (S.2 5) (S.2 7)
      rw [c1] at e1
      rw [c2] at e
      have d1 : (4 * r + j) / 4 = r := by omega
      have d2 : (4 * r + j) % 4 = j := by omega
      have sz := (Q.2.2.2.2.1 r hr).2.2.2.1
      unfold rl_sz at sz
      rw [if_pos r1] at sz
      refine cc (4 * r + j) (by omega) (by rw [d1]; exact r4) (by rw [e1]; decide) ?_ s (by rw [← e]; exact rw')
      rw [d1, d2, sz]
      exact nI_ge hj (by omega)
    · exact b3 i hi (by rw [e1]; decide) s (by rw [← e2]; exact rw')
/-- what the model holds, the class marks -/
theorem RR.gmk (R : RR x aR aO aH aT rt ta h S N n u ad) (hg : mo_hd S u g) {r : Nat} (hr : r < 80) (hgr : ¬ g r = 0) : ¬ S.2 1 r ≤ 0 ∧ ¬ (sh_fh x aO aH n rt h).2.2.1 (ad r) 3 = 0 := by
  have Q := R.1
  obtain ⟨I, c1, c2, c3⟩ := Q.hlf
  have mk : ∀ r, r < 80 → ¬ S.2 1 r ≤ 0 → ∃ m, m < n ∧ vw_ob aO h m = ad r := fun r h1 h2 => Q.2.2.1.2.1 r h1 h2
  have own : ∀ r, r < 80 → ¬ S.2 1 r ≤ 0 → ¬ S.2 3 r = 0 → ¬ (sh_fh x aO aH n rt h).2.2.1 (ad r) 3 = 0 := fun r h1 h2 h3 => by
    obtain ⟨m, hm, e⟩ := mk r h1 h2
    have hA := (Q.2.2.2.2.1 r ⟨by omega, fun _ => h2⟩).2.2.1
    have := c2 m hm (by rw [e, hA]; unfold rl_lk; rw [if_pos h1]; exact h3)
    rw [← e]
    exact this
  have pr : ∀ k r, k < 4 → r < 80 → ¬ S.2 1 r ≤ 0 → pt h (ad (80 + k)) (ad r) → ¬ (sh_fh x aO aH n rt h).2.2.1 (ad r) 3 = 0 := fun k r hk h1 h2 hp => by
    obtain ⟨m, hm, e⟩ := mk r h1 h2
    rw [Q.rto hk, ← e] at hp
    rw [← e]
    exact c1 k hk m hm hp
  have po : ∀ s r, s < 80 → ¬ S.2 1 s ≤ 0 → ¬ (sh_fh x aO aH n rt h).2.2.1 (ad s) 3 = 0 → r < 80 → ¬ S.2 1 r ≤ 0 → pt h (ad s) (ad r) → ¬ (sh_fh x aO aH n rt h).2.2.1 (ad r) 3 = 0 := fun s r s1 s2 s3 h1 h2 hp => by
    obtain ⟨m, hm, e⟩ := mk r h1 h2
    obtain ⟨m', hm', e'⟩ := mk s s1 s2
    rw [← e', ← e] at hp
    rw [← e]
    rw [← e'] at s3
    exact c3 m' hm' s3 m hm hp
  refine hg.2.2 (fun r => ¬ S.2 1 r ≤ 0 ∧ ¬ (sh_fh x aO aH n rt h).2.2.1 (ad r) 3 = 0) ⟨fun r h1 h2 h3 => ⟨h2, own r h1 h2 (fun z => h3 (by rw [z]; decide))⟩, fun k hk r hw => ?_, fun k hk h18 r hw => ?_⟩ (fun c hc hP h4 h5 r hw => ?_) r hr hgr
  · have hl := hw.lv.2 hw.1
    refine ⟨hl, pr k r hk hw.1 hl ⟨0, by rw [(Q.np (rl_lvR hk)).2 (by omega)]; exact Nat.one_pos, Or.inl ?_⟩⟩
    obtain ⟨C1, -⟩ := (Q.2.2.2.2.1 (80 + k) (rl_lvR hk)).2.2.2.2 0 (by rw [(Q.np (rl_lvR hk)).2 (by omega)]; exact Nat.one_pos)
    rw [rl_mvR _ _ hk, rl_mrR _ hk] at C1
    exact C1.val Q (by decide) hw
  · have hl := hw.lv.2 hw.1
    refine ⟨hl, ?_⟩
    have he : mo_e S k ∈ mo_ul S u := mo_ul_mem.mpr ⟨k, hk, rfl⟩
    obtain ⟨E1, E2⟩ := Q.2.2.2.2.2.2.1
    obtain ⟨r', j, l', hj, ec⟩ := E1 _ he
    obtain ⟨-, C2⟩ := (Q.2.2.2.2.1 r' l').2.2.2.2 j hj
    rcases C2 with ⟨-, -, z⟩ | ⟨-, e', he', ec', el', cv⟩
    · exact absurd ec (z _ he)
    · have ee : e' = mo_e S k := pw_uniq E2 he' he (ec'.trans ec.symm)
      rw [ee] at cv el'
      have tg := cv.val Q h18 hw
      have hp : pt h (ad r') (ad r) := ⟨j, hj, Or.inr tg⟩
      by_cases c : r' < 80
      · obtain ⟨s, w, -, -, -, -, -, -, -, h8⟩ := R.2.2
        have n0 := (h8 _ he).1
        rw [el'] at n0
        unfold rl_lk at n0
        rw [if_pos c] at n0
        exact po r' r c (l'.2 c) (own r' c (l'.2 c) n0) hw.1 hl hp
      · obtain ⟨k', rfl⟩ : ∃ k', r' = 80 + k' := ⟨r' - 80, by omega⟩
        have := l'.1
        exact pr k' r (by omega) hw.1 hl hp
  · have hl := hw.lv.2 hw.1
    obtain ⟨p1, p2⟩ := hP
    refine ⟨hl, po (c / 4) r (by omega) p1 p2 hw.1 hl ?_⟩
    have ls : rl_lv (S.2 1) (c / 4) := ⟨by omega, fun _ => p1⟩
    have sz := (Q.2.2.2.2.1 (c / 4) ls).2.2.2.1
    unfold rl_sz at sz
    rw [if_pos (by omega)] at sz
    have hj : c % 4 < vw_np h (ad (c / 4)) := by
      rcases Nat.lt_or_ge (c % 4) (vw_np h (ad (c / 4))) with z | z
      · exact z
      · exact absurd (by rw [sz]; exact nI_le z (by omega)) h5
    refine ⟨c % 4, hj, Or.inl ?_⟩
    obtain ⟨C1, -⟩ := (Q.2.2.2.2.1 (c / 4) ls).2.2.2.2 (c % 4) hj
    obtain ⟨d1, d2⟩ := rl_cl4 (s := c / 4) (by omega) (j := c % 4) (by omega) (S.2 4) (S.2 5) (S.2 7)
    rw [d1, d2, show 4 * (c / 4) + c % 4 = c by omega] at C1
    exact C1.val Q h4 hw
/-- the two sets are the same -/
theorem RR.hld (R : RR x aR aO aH aT rt ta h S N n u ad) (hN : N < 2 ^ 31) (hg : mo_hd S u g) : (∀ r, r < 80 → ¬ S.2 1 r ≤ 0 → (¬ (sh_fh x aO aH n rt h).2.2.1 (ad r) 3 = 0 ↔ ¬ g r = 0)) ∧ (∀ r, r < 80 → ¬ g r = 0 → ¬ S.2 1 r ≤ 0) ∧ (sh_fh x aO aH n rt h).1 = mo_hc g 80 := by
  have Q := R.1
  obtain ⟨I, -, -, -⟩ := Q.hlf
  have key : ∀ r, r < 80 → ¬ S.2 1 r ≤ 0 → (¬ (sh_fh x aO aH n rt h).2.2.1 (ad r) 3 = 0 ↔ ¬ g r = 0) := fun r h1 h2 => by
    refine ⟨fun q => ?_, fun q => (R.gmk hg h1 q).2⟩
    obtain ⟨m, hm, e⟩ := Q.2.2.1.2.1 r h1 h2
    obtain ⟨s, s1, s2, s3, s4⟩ := Q.mkg hN hg (I.2.2.2.2 m hm (by show ¬ (sh_fh x aO aH n rt h).2.2.1 (vw_ob aO h m) 3 = 0; rw [e]; exact q))
    have : r = s := Q.2.2.1.2.2.1 r s ⟨by omega, fun _ => h2⟩ ⟨by omega, fun _ => s2⟩ (by rw [← e, s3])
    rw [this]
    exact s4
  refine ⟨key, fun r h1 h2 => (R.gmk hg h1 h2).1, ?_⟩
  rw [I.2.2.2.1]
  refine Q.ctO _ (fun r => ¬ g r = 0) (fun i r hi hr hl e => ?_) (fun r hr hl q => (R.gmk hg hr q).1 hl)
  show ¬ (sh_fh x aO aH n rt h).2.2.1 (vw_ob aO h i) 3 = 0 ↔ _
  rw [← e]
  exact key r hr hl
theorem fh_KO (K : sh_K x aR aO aH aT rt ta h) (O : sh_O x aO n h) : sh_K x aR aO aH aT rt ta (sh_fh x aO aH n rt h).2 ∧ sh_O x aO n (sh_fh x aO aH n rt h).2 := by
  have := fh_I.fw 80 0 (fh_3_I (aR := aR) (aH := aH) (aT := aT) (ta := ta) K O (Nat.le_refl n))
  exact ⟨this.1, this.2.2.1⟩
/-- finding the held ones changes nothing of the relation -/
theorem RR.fhd (R : RR x aR aO aH aT rt ta h S N n u ad) (hN : N ≤ N') (v : Int32) (g : Nat → Int32) : RR x aR aO aH aT rt ta (sh_fh x aO aH n rt h).2 (sw (su S 0 v) 6 g) N' n u ad := by
  obtain ⟨Q, D, W⟩ := R.s0 hN v
  have I := Q.hlf.1
  obtain ⟨K', O'⟩ := fh_KO (ta := ta) Q.1.1 Q.1.2
  have K := Q.1.1
  generalize sh_fh x aO aH n rt h = s at *
  obtain ⟨f1, f2, f3⟩ := I.1
  have fi : ∀ b j, ¬ (b = x ∧ j = 5) → ¬ (j = 3 ∧ h.1 b = some (2, 0)) → s.2.2.1 b j = h.2.1 b j := fun b j h1 h2 => ((f3 b j).resolve_left h1).resolve_left h2
  have fx : ∀ j, j ≠ 5 → s.2.2.1 x j = h.2.1 x j := fun j hj => fi x j (fun q => hj q.2) (fun q => by rw [K.kx] at q; cases q.2)
  have ft : ∀ i j, i < 3 → s.2.2.1 (ta i) j = h.2.1 (ta i) j := fun i j hi => fi _ j (fun q => th_kne (K.kta hi) K.kx (by decide) q.1) (fun q => by rw [K.kta hi] at q; cases q.2)
  have X : rl_X x ta s.2 (su S 0 v) N' := by
    obtain ⟨gv, bg, h1, h2, h3, h4⟩ := Q.2.1
    refine ⟨gv, bg, h1, ?_, fun i hi => ?_, h4⟩
    · rw [fx 6 (by decide), fx 7 (by decide), fx 9 (by decide), fx 10 (by decide)]; exact h2
    · rw [ft i 0 hi]; exact h3 i hi
  have Q1 : RQ x aR aO aH aT rt ta s.2 (su S 0 v) N' n u ad := Q.fr (hl_gs K I) K' O' (fun b hb => fi b 2 (fun q => by cases q.2) (fun q => by cases q.1))
    (fun b hb => ⟨funext fun j => fi b j (fun q => th_kne hb K.kx (by decide) q.1) (fun q => by rw [hb] at q; cases q.2), f2 b (th_kne hb K.kH (by decide))⟩) (f2 aO K.2.2.1.2.2) X
  refine ⟨Q1.sS (S' := sw (su S 0 v) 6 g) (sw_n _ _ (by decide)) (sw_n _ _ (by decide)) (sw_n _ _ (by decide)) (sw_n _ _ (by decide)) (sw_n _ _ (by decide)) (sw_n _ _ (by decide)) (sw_n _ _ (by decide)) (mo_ul_row (fun j h1 h2 => sw_n _ _ (by omega))) rfl X (by rw [sw_n _ _ (by decide)]; exact Q1.2.2.2.2.2.2.2), ⟨?_, fun i hi => ?_⟩, W⟩
  · rw [fx 8 (by decide)]; exact D.1
  · rw [ft i 1 hi]; exact D.2 i hi
end HM

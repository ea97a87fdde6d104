/-! calls agree: what they share -/
section OS
variable {x aR aO aH aT : Nat} {rt ta : Nat → Nat} {h h1 : th_S} {S T : th_N} {N n u : Nat} {ad : Nat → Nat}
theorem nI_3 {m : Nat} (h : m ≤ 3) : nI m = 3 ↔ m = 3 := by
  rcases (show m = 0 ∨ m = 1 ∨ m = 2 ∨ m = 3 by omega) with rfl | rfl | rfl | rfl <;> decide
theorem mo_ac3 (S : th_N) : mo_ac S 3 = 3 ↔ ∀ i, i < 3 → ¬ S.2 11 i ≤ 0 := by
  have e : mo_ac S 3 = 0 + (if S.2 11 0 ≤ 0 then 0 else 1) + (if S.2 11 1 ≤ 0 then 0 else 1) + (if S.2 11 2 ≤ 0 then 0 else 1) := rfl
  rw [e]
  constructor
  · intro q i hi z
    rcases (show i = 0 ∨ i = 1 ∨ i = 2 by omega) with rfl | rfl | rfl
    · rw [if_pos z] at q
      revert q
      split <;> split <;> omega
    · rw [if_pos z] at q
      revert q
      split <;> split <;> omega
    · rw [if_pos z] at q
      revert q
      split <;> split <;> omega
  · intro q
    rw [if_neg (q 0 (by omega)), if_neg (q 1 (by omega)), if_neg (q 2 (by omega))]
theorem RR.acn (R : RR x aR aO aH aT rt ta h S N n u ad) (hN : N < 2 ^ 31) : sh_ac ta h = nI (mo_ac S 3) := by
  have e : mo_ac S 3 = 0 + (if S.2 11 0 ≤ 0 then 0 else 1) + (if S.2 11 1 ≤ 0 then 0 else 1) + (if S.2 11 2 ≤ 0 then 0 else 1) := rfl
  have X := R.1.2.1
  have k : ∀ i, i < 3 → (h.2.1 (ta i) 0 = 0 ↔ S.2 11 i ≤ 0) := fun i hi => by
    have := X.ac hN hi
    obtain ⟨gv, bg, h1, h2, h3, -⟩ := X
    rw [(h3 i hi).1]
    exact this.symm
  unfold sh_ac
  rw [e]
  have k0 := k 0 (by omega)
  have k1 := k 1 (by omega)
  have k2 := k 2 (by omega)
  by_cases c0 : S.2 11 0 ≤ 0 <;> by_cases c1 : S.2 11 1 ≤ 0 <;> by_cases c2 : S.2 11 2 ≤ 0 <;> simp only [k0, k1, k2, c0, c1, c2, if_true, if_false] <;> rfl
theorem mo_tx_v {t : Int32} {i k : Nat} (a : mo_tx S t i) (b : mo_tx S t k) : i = k := by
  rcases Nat.lt_trichotomy i k with q | q | q
  · exact absurd a.2.2.1 (b.2.2.2 i q)
  · exact q
  · exact absurd b.2.2.1 (a.2.2.2 k q)
theorem RR.z9 (R : RR x aR aO aH aT rt ta h S N n u ad) : ∀ r, r < 80 → ∃ k, k ≤ 4 ∧ S.2 2 r = nI k := by
  obtain ⟨gv, bg, -, -, -, -, -, h6⟩ := R.1.2.1
  exact h6
theorem RR.u6 (R : RR x aR aO aH aT rt ta h S N n u ad) : S.1 20 = nI u ∧ u < 60 := by
  have := R.2.2.u50
  obtain ⟨s, w, -, -, -, -, -, h6, -⟩ := R.2.2
  exact ⟨h6, by omega⟩
theorem RR.mW (R : RR x aR aO aH aT rt ta h S N n u ad) : mo_W S u := by
  obtain ⟨e, hu⟩ := R.u6
  refine ⟨e, by omega, fun k hk => ?_⟩
  have Q := R.1
  have he : mo_e S k ∈ mo_ul S u := mo_ul_mem.mpr ⟨k, hk, rfl⟩
  obtain ⟨E1, E2⟩ := Q.2.2.2.2.2.2.1
  obtain ⟨r', j, l', hj, ec⟩ := E1 _ he
  refine ⟨?_, rl_cl r' j, (Q.cl l' hj).2.1, ec⟩
  obtain ⟨-, C2⟩ := (Q.2.2.2.2.1 r' l').2.2.2.2 j hj
  rcases C2 with ⟨-, -, z⟩ | ⟨-, e', he', ec', el', cv⟩
  · exact absurd ec (z _ he)
  · have ee : e' = mo_e S k := pw_uniq E2 he' he (ec'.trans ec.symm)
    rw [ee] at cv
    exact cv.2.1
/-- objects and words -/
theorem ct_all : ∀ n, ct (fun _ => True) n = n
  | 0 => rfl
  | n + 1 => by rw [ct_s trivial, ct_all n]
theorem RQ.nle (Q : RQ x aR aO aH aT rt ta h S N n u ad) : n = ct (fun r => ¬ S.2 1 r ≤ 0) 80 ∧ ∃ t, n ≤ t ∧ t ≤ 80 ∧ S.1 10 = nI t := by
  have e : n = ct (fun r => ¬ S.2 1 r ≤ 0) 80 := by
    rw [← Q.ctO (fun _ => True) (fun r => ¬ S.2 1 r ≤ 0) (fun i r hi hr hl _ => ⟨fun _ => hl, fun _ => trivial⟩) (fun r hr hl q => q hl)]
    exact (ct_all n).symm
  refine ⟨e, sm (rl_wt (S.2 1) (S.2 2)) 80, ?_, Q.2.2.2.1.2, Q.2.2.2.1.1⟩
  refine Nat.le_trans (Nat.le_of_eq e) ?_
  rw [ct_sm]
  refine sm_le 80 (fun r hr => ?_)
  unfold rl_wt
  by_cases c : S.2 1 r ≤ 0
  · rw [if_neg (fun q => q c)]; exact Nat.zero_le _
  · rw [if_pos c, if_neg c]; omega
theorem small_f {f : Int32} (h0 : ¬ f < 0) (h4 : f ≤ 4) : ∃ m, m ≤ 4 ∧ f = nI m := by
  have a := Int32.le_iff_toInt_le.mp (Int32.not_lt.mp h0)
  have b := Int32.le_iff_toInt_le.mp h4
  have a' : (0 : Int) ≤ f.toInt := a
  have b' : f.toInt ≤ 4 := b
  refine ⟨f.toInt.toNat, by omega, Int32.toInt_inj.mp ?_⟩
  rw [nI_toInt (by omega)]
  omega
theorem RR.fre (R : RR x aR aO aH aT rt ta h S N n u ad) {f : Int32} (h8 : S.1 10 + 1 + f ≤ 80) (h0 : ¬ f < 0) (h4 : f ≤ 4) : n < 80 ∧ ∃ r, r < 80 ∧ S.2 1 r ≤ 0 := by
  obtain ⟨en, t, t1, t2, t3⟩ := R.1.nle
  obtain ⟨m, m4, rfl⟩ := small_f h0 h4
  have hn : n < 80 := by
    rcases Nat.lt_or_ge n 80 with q | q
    · exact q
    · have : t = 80 := by omega
      rw [t3, this, show (1 : Int32) = nI 1 from rfl, nI_add, nI_add] at h8
      exact absurd h8 (nI_ge (a := 80) (by omega) (by omega))
  refine ⟨hn, Classical.byContradiction fun q => ?_⟩
  have : ct (fun r => ¬ S.2 1 r ≤ 0) 80 = ct (fun _ => True) 80 := ct_cg 80 (fun r hr => ⟨fun _ => trivial, fun _ z => q ⟨r, hr, z⟩⟩)
  rw [ct_all] at this
  omega
/-- no more than the words there are -/
theorem RR.full (R : RR x aR aO aH aT rt ta h S N n u ad) {f : Int32} (h0 : ¬ f < 0) (h4 : f ≤ 4) : (80 < h.2.1 x 7 + 1 + f ∨ 80 ≤ n) ↔ ¬ S.1 10 + 1 + f ≤ 80 := by
  have e : h.2.1 x 7 = S.1 10 := by
    obtain ⟨gv, bg, -, h2, -⟩ := R.1.2.1
    exact h2.2.1
  rw [e]
  refine ⟨fun q => ?_, fun q => Or.inl (Int32.not_le.mp q)⟩
  rcases q with q | q
  · exact Int32.not_le.mpr q
  · intro z
    have := (R.fre z h0 h4).1
    omega
/-! codes -/
theorem mo_st.c0 {t : Int32} {k c : Nat} {b v : Int32} (hs : mo_st S u t k c b v T) : T.1 0 = S.1 0 := by
  have sf : ∀ S' : th_N, (mo_sf S' t k c b v).1 = S'.1 := fun S' => by
    unfold mo_sf mo_as
    have lc : (mo_lc S' c t).1 = S'.1 := by unfold mo_lc; split <;> rfl
    split <;> exact lc
  rcases hs with ⟨-, rfl⟩ | ⟨-, rfl⟩
  · rw [sf]
  · rw [sf]; rfl
theorem mo_en.c0 {k p : Nat} {b v : Int32} (hs : mo_en S u k b p v T) : T.1 0 = S.1 0 := by
  obtain ⟨U, ⟨U0, hf, rfl⟩, -, rfl⟩ := hs
  show (su U0 20 (nI p)).1 0 = _
  show U0.1 0 = _
  rw [hf.1]
/-- the same place -/
theorem RQ.fnd (Q : RQ x aR aO aH aT rt ta h S N n u ad) (hN : N < 2 ^ 31) {k b f : Int32} {i a q : Nat} (ht : sh_tx ta h k i) (ho : sh_ob aO n h b a) (hf : sh_fd h a f q) {e : Int32} {c : Nat} (hc : mo_ce S k b f e c) :
    ∃ r j, mo_tx S k i ∧ mo_rw S b r ∧ ad r = a ∧ j < vw_np h (ad r) ∧ q = vw_pp h (ad r) j ∧ h.2.1 a 2 = S.2 3 r ∧ ((e = 3 ∧ ¬ h.2.1 a 2 = 0 ∧ ¬ h.2.1 a 2 = k) ∨ (e = 0 ∧ (h.2.1 a 2 = 0 ∨ h.2.1 a 2 = k) ∧ c = rl_cl r j)) := by
  have tx := Q.2.1.tx hN ht
  obtain ⟨r, rw', ea⟩ := Q.rw ho
  have lv := rw'.lv
  rw [← ea] at hf
  obtain ⟨j, hj, ef, eq⟩ := Q.fd lv hf
  have hA := Q.2.2.2.2.1 r lv
  have own : h.2.1 a 2 = S.2 3 r := by
    rw [← ea, hA.2.2.1]
    unfold rl_lk
    rw [if_pos rw'.1]
  have lk : S.2 3 r ≤ 0 ↔ S.2 3 r = 0 := by
    have := Q.lkn hN lv
    unfold rl_lk at this
    rw [if_pos rw'.1] at this
    exact this
  have np := (Q.np lv).1
  have sz : S.2 2 r = nI (vw_np h (ad r)) := by
    have := hA.2.2.2.1
    unfold rl_sz at this
    rw [if_pos rw'.1] at this
    exact this
  refine ⟨r, j, tx, rw', ea, hj, eq, own, ?_⟩
  rw [own]
  rcases hc with ⟨-, q | q⟩ | ⟨k', r', tx', rw2, q⟩
  · exact (tx.no q).elim
  · exact (rw'.no q).elim
  · have er : r' = r := mo_rw_u rw' rw2
    subst er
    rcases q with ⟨-, q⟩ | ⟨j', z, z1, z2, z3, z4, q⟩
    · exfalso
      rw [ef, sz] at q
      rcases q with q | q
      · exact nI_pos (by omega) q
      · refine q ?_
        rw [show (1 : Int32) = nI 1 from rfl, nI_sub (by omega)]
        exact nI_le (by omega) (by omega)
    · have zz : z = vw_np h (ad r') := (nI_eq (by omega) (by omega)).mp (by rw [← z1, sz])
      have ejj : j' = j := (nI_eq (by omega) (by omega)).mp (by rw [← z4, ef])
      rcases q with ⟨q1, q2, q3⟩ | ⟨q1, q2, q3⟩
      · exact Or.inl ⟨q1, fun w => q2 (lk.mpr w), q3⟩
      · refine Or.inr ⟨q1, q2.imp lk.mp id, ?_⟩
        rw [q3, ejj]
        unfold rl_cl
        rw [if_pos rw'.1]
/-- what isn't found -/
theorem RQ.nfd (Q : RQ x aR aO aH aT rt ta h S N n u ad) (hN : N < 2 ^ 31) {k b f : Int32} {e : Int32} {c : Nat} (hc : mo_ce S k b f e c) : (sh_nt ta h k → e = 1) ∧ (sh_no aO n h b → e = 1) ∧ (∀ i a, sh_tx ta h k i → sh_ob aO n h b a → sh_nf h a f → e = 2) := by
  refine ⟨fun q => ?_, fun q => ?_, fun i a ht ho hf => ?_⟩
  · rcases hc with ⟨e1, -⟩ | ⟨k', r', tx', -⟩
    · exact e1
    · exact (tx'.no (Q.2.1.nt q)).elim
  · rcases hc with ⟨e1, -⟩ | ⟨k', r', -, rw2, -⟩
    · exact e1
    · exact (rw2.no (Q.nr q)).elim
  · have tx := Q.2.1.tx hN ht
    obtain ⟨r, rw', ea⟩ := Q.rw ho
    have lv := rw'.lv
    rcases hc with ⟨-, q | q⟩ | ⟨k', r', tx', rw2, q⟩
    · exact (tx.no q).elim
    · exact (rw'.no q).elim
    · have er : r' = r := mo_rw_u rw' rw2
      subst er
      rcases q with ⟨q, -⟩ | ⟨j', z, z1, z2, z3, z4, q⟩
      · exact q
      · exfalso
        have hA := Q.2.2.2.2.1 r' lv
        have sz : S.2 2 r' = nI (vw_np h (ad r')) := by
          have := hA.2.2.2.1
          unfold rl_sz at this
          rw [if_pos rw'.1] at this
          exact this
        have np := (Q.np lv).1
        have zz : z = vw_np h (ad r') := (nI_eq (by omega) (by omega)).mp (by rw [← z1, sz])
        obtain ⟨pa, m, f1, f2, f3⟩ := hf
        have em : vw_np h (ad r') = m := by rw [ea]; exact vw_np_of f1 f2
        rw [z4] at f3
        rcases f3 with f3 | f3
        · exact nI_pos (by omega) f3
        · exact nI_ge (a := j') (b := m) (by omega) (by omega) f3
theorem rt_ix {b : Int32} : (b < 0 ∨ ¬ b ≤ 3) ↔ (b < 0 ∨ 4 ≤ b) := by
  have : ¬ b ≤ 3 ↔ 4 ≤ b := by
    rw [Int32.le_iff_toInt_le, Int32.le_iff_toInt_le]
    show ¬ b.toInt ≤ 3 ↔ 4 ≤ b.toInt
    omega
  rw [this]
theorem rt_no {b : Int32} {j : Nat} (hj : j < 4) (e : b = nI j) (q : b < 0 ∨ 4 ≤ b) : False := by
  rw [e] at q
  rcases q with q | q
  · exact nI_pos (by omega) q
  · exact nI_ge (a := j) (b := 4) hj (by omega) q
/-- the same root -/
theorem RQ.fnr (Q : RQ x aR aO aH aT rt ta h S N n u ad) (hN : N < 2 ^ 31) {k b : Int32} {i j : Nat} (ht : sh_tx ta h k i) (hj : j < 4) (hb : b = nI j) {e : Int32} {c : Nat} (hc : mo_rc S k b e c) :
    mo_tx S k i ∧ rl_lv (S.2 1) (80 + j) ∧ ad (80 + j) = rt j ∧ h.2.1 (rt j) 2 = S.2 8 j ∧ ((e = 3 ∧ ¬ h.2.1 (rt j) 2 = 0 ∧ ¬ h.2.1 (rt j) 2 = k) ∨ (e = 0 ∧ (h.2.1 (rt j) 2 = 0 ∨ h.2.1 (rt j) 2 = k) ∧ c = rl_cl (80 + j) 0 ∧ c = 320 + j)) := by
  have tx := Q.2.1.tx hN ht
  have lv := rl_lvR (hd := S.2 1) hj
  have ea := Q.rto hj
  have hA := Q.2.2.2.2.1 _ lv
  have own : h.2.1 (rt j) 2 = S.2 8 j := by
    rw [← ea, hA.2.2.1]
    unfold rl_lk
    rw [if_neg (by omega), Nat.add_sub_cancel_left]
  have lk : S.2 8 j ≤ 0 ↔ S.2 8 j = 0 := by
    have := Q.lkn hN lv
    unfold rl_lk at this
    rw [if_neg (by omega), Nat.add_sub_cancel_left] at this
    exact this
  refine ⟨tx, lv, ea, own, ?_⟩
  rw [own]
  rcases hc with ⟨-, q⟩ | ⟨k', tx', q⟩
  · exact (tx.no q).elim
  · rcases q with ⟨-, q⟩ | ⟨j', j1, j2, q⟩
    · exact (rt_no hj hb (rt_ix.mp q)).elim
    · have ejj : j' = j := (nI_eq (by omega) (by omega)).mp (by rw [← j2, hb])
      subst ejj
      rcases q with ⟨q1, q2, q3⟩ | ⟨q1, q2, q3⟩
      · exact Or.inl ⟨q1, fun w => q2 (lk.mpr w), q3⟩
      · exact Or.inr ⟨q1, q2.imp lk.mp id, by rw [rl_clR hj]; exact q3, q3⟩
theorem RQ.nfr (Q : RQ x aR aO aH aT rt ta h S N n u ad) (hN : N < 2 ^ 31) {k b e : Int32} {c : Nat} (hc : mo_rc S k b e c) : (sh_nt ta h k → e = 1) ∧ (∀ i, sh_tx ta h k i → (b < 0 ∨ 4 ≤ b) → e = 2) := by
  refine ⟨fun q => ?_, fun i ht q => ?_⟩
  · rcases hc with ⟨e1, -⟩ | ⟨k', tx', -⟩
    · exact e1
    · exact (tx'.no (Q.2.1.nt q)).elim
  · have tx := Q.2.1.tx hN ht
    rcases hc with ⟨-, z⟩ | ⟨k', tx', z⟩
    · exact (tx.no z).elim
    · rcases z with ⟨z, -⟩ | ⟨j', j1, j2, -⟩
      · exact z
      · exact (rt_no j1 j2 q).elim
end OS

/-! make: the relation -/
theorem nI_80 {T nf : Nat} {us f : Int32} (hu : us = nI T) (hT : T ≤ 80) (hf : f = nI nf) (hn : nf ≤ 4) : us + 1 + f = nI (T + 1 + nf) := by
  rw [hu, hf, show nI T + 1 = nI (T + 1) from nI_1 T, nI_add]
section MMQ
variable {x aR aO aH aT : Nat} {rt ta : Nat → Nat} {h h' : th_S} {S S' : th_N} {N N' n u : Nat} {ad : Nat → Nat}
theorem mk_K (K : sh_K x aR aO aH aT rt ta h) {g k us : Int32} {q nf pa : Nat} {pp : Nat → Nat} (hnf : nf ≤ 4) (F : mk_F x aO n h h' g k us q nf pa pp) : sh_K x aR aO aH aT rt ta h' := by
  obtain ⟨old, ⟨x6, x4, x7, oq⟩, ⟨kq, q0, q2, q1, kp⟩, pl, inj, inv, nq, np⟩ := F
  have nx : x ≠ aO := th_kne K.kx K.kO (by decide)
  have ref : ∀ {b t}, h.1 b = some t → b ≠ aO → ∀ j, h'.2.2 b j = h.2.2 b j := fun hb e j => (old _ _ hb).2.2 j (fun z => e z.1)
  refine ⟨⟨(old _ _ K.kx).1, ?_, ?_, ?_, ?_⟩, ⟨(old _ _ K.kR).1, (old _ _ K.kO).1, (old _ _ K.kH).1, (old _ _ K.kT).1⟩, K.2.2.1, fun i hi => ⟨?_, (old _ _ (K.krt hi)).1⟩, fun i hi => ⟨?_, (old _ _ (K.kta hi)).1⟩, K.2.2.2.2.2.1, fun a ha => ?_, fun b m hb j hj => ?_, fun i hi => ?_, fun b hb => ?_⟩
  · rw [ref K.kx nx]; exact K.xR
  · rw [ref K.kx nx]; exact K.xO
  · rw [ref K.kx nx]; exact K.xH
  · rw [ref K.kx nx]; exact K.xT
  · rw [ref K.kR K.2.2.1.1]; exact K.rr hi
  · rw [ref K.kT (th_kne K.kT K.kO (by decide))]; exact K.rta hi
  · rcases inv a _ ha with z | ⟨rfl, -⟩ | ⟨-, z⟩ | ⟨j, -, -, z⟩
    · obtain ⟨p, m, e1, e2, e3⟩ := K.lk z
      exact ⟨p, m, by rw [ref z (th_kne z K.kO (by decide))]; exact e1, (old _ _ e2).1, e3⟩
    · exact ⟨pa, nf, q1, kp, hnf⟩
    · cases z
    · cases z
  · rcases inv b _ hb with z | ⟨-, z⟩ | ⟨rfl, z⟩ | ⟨j, -, -, z⟩
    · obtain ⟨p, e1, e2⟩ := K.pa z hj
      exact ⟨p, by rw [ref z (th_kne z K.kO (by simp))]; exact e1, (old _ _ e2).1⟩
    · cases z
    · cases z
      exact ⟨pp j, (pl j hj).1, (pl j hj).2.1⟩
    · cases z
  · obtain ⟨p, e1, e2⟩ := K.r1 hi
    exact ⟨p, by rw [ref (K.krt hi) (th_kne (K.krt hi) K.kO (by decide))]; exact e1, (old _ _ e2).1⟩
  · rcases inv b _ hb with z | ⟨-, z⟩ | ⟨-, z⟩ | ⟨j, hj, rfl, -⟩
    · obtain ⟨a1, a2, a3, a4, a5⟩ := K.pl z
      have nb : b ≠ x := th_kne z K.kx (by decide)
      have nO : b ≠ aO := th_kne z K.kO (by decide)
      have ei : ∀ j, h'.2.1 b j = h.2.1 b j := fun j => (old _ _ z).2.1 j (fun w => nb w.1)
      rw [ei, ei, ei, ref z nO, ref z nO]
      exact ⟨a1, a2, a3, fun c hc => (old _ _ (a4 c hc)).1, fun c hc => (old _ _ (a5 c hc)).1⟩
    · cases z
    · cases z
    · obtain ⟨-, -, e1, e2, -⟩ := pl j hj
      rw [e1, e1, e1, e2, e2]
      exact ⟨Or.inl rfl, Or.inl rfl, Or.inl rfl, fun c hc => (by cases hc), fun c hc => (by cases hc)⟩
theorem mk_gs (K : sh_K x aR aO aH aT rt ta h) {g k us : Int32} {q nf pa : Nat} {pp : Nat → Nat} (F : mk_F x aO n h h' g k us q nf pa pp) : gs h h' := by
  have old := F.1
  exact ⟨fun b t hb => (old b t hb).1, fun b hb => ⟨(old b _ hb).2.1 0 (fun w => by omega), (old b _ hb).2.2 1 (fun w => th_kne hb K.kO (by decide) w.1)⟩, fun b m hb => funext fun j => (old b _ hb).2.2 j (fun w => th_kne hb K.kO (by simp) w.1)⟩
/-- the new row and the new object -/
theorem RQ.make (Q : RQ x aR aO aH aT rt ta h S N n u ad) (hN : N + 1 < 2 ^ 31) {i r nf q pa : Nat} {pp : Nat → Nat} {t us : Int32} (hi : i < 3) (hi2 : S.2 11 i = t) (hr : r < 80) (hr0 : S.2 1 r ≤ 0) (hnf : nf ≤ 4) (hn : n < 80) (hus : us = S.1 10 + (1 + nI nf)) (h80 : ¬ 80 < S.1 10 + 1 + nI nf) (F : mk_F x aO n h h' (S.1 9 + 1) t us q nf pa pp)
    (e1 : S'.2 1 = va_up (S.2 1) r (S.1 9 + 1)) (e2 : S'.2 2 = va_up (S.2 2) r (nI nf)) (e3 : S'.2 3 = va_up (S.2 3) r t) (e8 : S'.2 8 = S.2 8) (e7 : S'.2 7 = S.2 7) (e11 : S'.2 11 = S.2 11)
    (e4 : ∀ c, S'.2 4 c = if 4 * r ≤ c ∧ c < 4 * r + 4 then 0 else S.2 4 c) (e5 : ∀ c, S'.2 5 c = if 4 * r ≤ c ∧ c < 4 * r + 4 then 0 else S.2 5 c) (eu : mo_ul S' u = mo_ul S u) (s9 : S'.1 9 = S.1 9 + 1) (s10 : S'.1 10 = us) (s13 : S'.1 13 = S.1 13) (s15 : S'.1 15 = S.1 15) :
    RQ x aR aO aH aT rt ta h' S' (N + 1) (n + 1) u (va_up ad r q) := by
  have kA := fun r hr => Q.kA (r := r) hr
  have np4 := fun r hr => Q.np (r := r) hr
  obtain ⟨⟨K, O⟩, X, ⟨B1, B2, B3, B4, B5, B6⟩, U, A, P, E, V⟩ := Q
  have K' := mk_K K hnf F
  have g' := mk_gs K F
  obtain ⟨old, ⟨x6, x4, x7, oq⟩, ⟨kq, q0, q2, q1, kp⟩, pl, inj, inv, nq, np⟩ := F
  have hrX : S.2 1 r = 0 := (X.hd (by omega) hr).mp hr0
  obtain ⟨gv, bg, ⟨a1, a2, a3, a4⟩, ⟨b1, b2, b3, b4⟩, c, d, f1, f2⟩ := X
  have eg : S.1 9 + 1 = nI (gv + 1) := by rw [a1]; exact nI_1 gv
  have gpos : ¬ (S.1 9 + 1) ≤ 0 := by rw [eg]; exact nI_nle (by omega) (by omega)
  have xi : ∀ j, j ≠ 4 → j ≠ 6 → j ≠ 7 → h'.2.1 x j = h.2.1 x j := fun j z4 z6 z7 => (old _ _ K.kx).2.1 j (fun w => by omega)
  have ti : ∀ i, i < 3 → ∀ j, h'.2.1 (ta i) j = h.2.1 (ta i) j := fun i hi j => (old _ _ (K.kta hi)).2.1 j (fun w => th_kne (K.kta hi) K.kx (by decide) w.1)
  have obo : ∀ i, i < n → vw_ob aO h' i = vw_ob aO h i := fun i hi => by
    unfold vw_ob
    rw [(old _ _ K.kO).2.2 i (fun w => by omega)]
  have obn : vw_ob aO h' n = q := by
    unfold vw_ob
    rw [oq]
    rfl
  -- live rows
  have lvo : ∀ r', rl_lv (S'.2 1) r' → r' ≠ r → rl_lv (S.2 1) r' := fun r' h1 h2 => ⟨h1.1, fun h8 => by have := h1.2 h8; rw [e1, va_up_ne _ _ h2] at this; exact this⟩
  have lvn : ∀ r', rl_lv (S.2 1) r' → r' ≠ r ∧ rl_lv (S'.2 1) r' := fun r' h1 => by
    have hne : r' ≠ r := fun z => h1.2 (by omega) (by rw [z]; exact hr0)
    exact ⟨hne, h1.1, fun h8 => by rw [e1, va_up_ne _ _ hne]; exact h1.2 h8⟩
  have ado : ∀ r', r' ≠ r → va_up ad r q r' = ad r' := fun r' z => va_up_ne _ _ z
  have adn : va_up ad r q r = q := va_up_self _ _ _
  have tvm : ∀ t v, rl_tv (S.2 1) ad t v → rl_tv (S'.2 1) (va_up ad r q) t v := fun t v w => by
    rcases w with w | ⟨s, s1, s2, s3, s4⟩
    · exact Or.inl w
    · have hs : s ≠ r := fun z => s2 (by rw [z]; exact hr0)
      exact Or.inr ⟨s, s1, by rw [e1, va_up_ne _ _ hs]; exact s2, by rw [e1, va_up_ne _ _ hs]; exact s3, by rw [ado s hs]; exact s4⟩
  have vwq : vw_np h' q = nf ∧ ∀ j, j < nf → vw_pp h' q j = pp j := ⟨vw_np_of q1 kp, fun j hj => by simp [vw_pp, vw_pa_of q1, (pl j hj).1]⟩
  have mcl : ∀ r' j, rl_lv (S.2 1) r' → j < vw_np h (ad r') → ¬ (4 * r ≤ rl_cl r' j ∧ rl_cl r' j < 4 * r + 4) := fun r' j h1 h2 w => by
    have hne := (lvn r' h1).1
    have := (np4 r' h1).1
    unfold rl_cl at w
    by_cases h8 : r' < 80
    · rw [if_pos h8] at w; omega
    · rw [if_neg h8] at w; omega
  have ent : ∀ e, e ∈ mo_ul S u → ∀ j, j < 4 → ¬ e.2.1 = nI (rl_cl r j) := fun e he j hj w => by
    obtain ⟨r', j', h1, h2, h3⟩ := E.1 e he
    have hlt : rl_cl r' j' < 2 ^ 31 := by
      have := h1.1
      have := (np4 r' h1).1
      unfold rl_cl
      split <;> omega
    have hlt2 : rl_cl r j < 2 ^ 31 := by unfold rl_cl; split <;> omega
    have ec := (nI_eq hlt hlt2).mp (by rw [← h3, w])
    refine mcl r' j' h1 h2 ?_
    rw [ec]
    unfold rl_cl
    rw [if_pos hr]
    omega
  unfold RQ
  rw [eu, e8, e7, e11, s10]
  refine ⟨⟨K', by omega, x4, fun i hi => ?_⟩, ?_, ⟨fun i hi => ?_, fun r' h1 h2 => ?_, fun r1 r2 h1 h2 e => ?_, fun k hk => ?_, fun i j hi hj e => ?_, fun r1 r2 h1 h2 h3 e => ?_⟩, ?_, fun r' h1 => ?_, fun r1 r2 j1 j2 h1 h2 hj1 hj2 e => ?_, ⟨fun e he => ?_, E.2⟩, fun r' h1 => ?_⟩
  · by_cases e : i = n
    · rw [e]; exact ⟨q, oq, kq⟩
    · obtain ⟨a, z1, z2⟩ := O.2.2 i (by omega)
      exact ⟨a, by rw [(old _ _ K.kO).2.2 i (fun w => e w.2)]; exact z1, (old _ _ z2).1⟩
  · refine ⟨gv + 1, bg, ⟨by rw [s9, eg], by omega, by rw [s13]; exact a3, by omega⟩, ⟨by rw [x6, s9], by rw [x7, s10], by rw [xi 9 (by decide) (by decide) (by decide), s13]; exact b3, by rw [xi 10 (by decide) (by decide) (by decide), s15]; exact b4⟩, fun j hj => by rw [ti j hj, e11]; exact c j hj, by rw [e11]; exact d, fun r' h1 => ?_, fun r' h1 => ?_⟩
    · rw [e1]
      by_cases z : r' = r
      · rw [z, va_up_self, eg]; exact ⟨gv + 1, Nat.le_refl _, rfl⟩
      · rw [va_up_ne _ _ z]
        obtain ⟨a, z1, z2⟩ := f1 r' h1
        exact ⟨a, by omega, z2⟩
    · rw [e2]
      by_cases z : r' = r
      · rw [z, va_up_self]; exact ⟨nf, hnf, rfl⟩
      · rw [va_up_ne _ _ z]; exact f2 r' h1
  · by_cases z : i = n
    · rw [z, obn]
      exact ⟨r, hr, by rw [e1, va_up_self]; exact gpos, adn⟩
    · obtain ⟨r', z1, z2, z3⟩ := B1 i (by omega)
      have hne : r' ≠ r := fun w => z2 (by rw [w]; exact hr0)
      exact ⟨r', z1, by rw [e1, va_up_ne _ _ hne]; exact z2, by rw [ado r' hne, obo i (by omega)]; exact z3⟩
  · by_cases z : r' = r
    · exact ⟨n, by omega, by rw [obn, z, adn]⟩
    · rw [e1, va_up_ne _ _ z] at h2
      obtain ⟨i, z1, z2⟩ := B2 r' h1 h2
      exact ⟨i, by omega, by rw [obo i z1, ado r' z]; exact z2⟩
  · by_cases z1 : r1 = r
    · by_cases z2 : r2 = r
      · rw [z1, z2]
      · rw [z1, adn, ado r2 z2] at e
        have := kA r2 (lvo r2 h2 z2)
        rw [← e, nq] at this
        cases this
    · by_cases z2 : r2 = r
      · rw [z2, adn, ado r1 z1] at e
        have := kA r1 (lvo r1 h1 z1)
        rw [e, nq] at this
        cases this
      · rw [ado r1 z1, ado r2 z2] at e
        exact B3 r1 r2 (lvo r1 h1 z1) (lvo r2 h2 z2) e
  · rw [ado _ (by omega)]; exact B4 k hk
  · by_cases z1 : i = n
    · by_cases z2 : j = n
      · rw [z1, z2]
      · rw [z1, obn, obo j (by omega)] at e
        have := (O.ob (show j < n by omega)).2
        rw [← e, nq] at this
        cases this
    · by_cases z2 : j = n
      · rw [z2, obn, obo i (by omega)] at e
        have := (O.ob (show i < n by omega)).2
        rw [e, nq] at this
        cases this
      · rw [obo i (by omega), obo j (by omega)] at e
        exact B5 i j (by omega) (by omega) e
  · rw [e1] at h3 e
    by_cases z1 : r1 = r
    · by_cases z2 : r2 = r
      · rw [z1, z2]
      · rw [z1, va_up_self, va_up_ne _ _ z2, eg] at e
        obtain ⟨a, y1, y2⟩ := f1 r2 h2
        rw [y2] at e
        have := (nI_eq (by omega) (by omega)).mp e
        omega
    · by_cases z2 : r2 = r
      · rw [z2, va_up_self, va_up_ne _ _ z1, eg] at e
        obtain ⟨a, y1, y2⟩ := f1 r1 h1
        rw [y2] at e
        have := (nI_eq (by omega) (by omega)).mp e
        omega
      · rw [va_up_ne _ _ z1] at h3 e
        rw [va_up_ne _ _ z2] at e
        exact B6 r1 r2 h1 h2 h3 e
  · obtain ⟨u1, u2⟩ := U
    have ew : ∀ r', r' < 80 → rl_wt (S'.2 1) (S'.2 2) r' = va_up (rl_wt (S.2 1) (S.2 2)) r (1 + nf) r' := fun r' h1 => by
      by_cases z : r' = r
      · rw [z, va_up_self]
        unfold rl_wt
        rw [e1, e2, va_up_self, va_up_self, if_neg gpos, nI_clamp (by omega)]
      · rw [va_up_ne _ _ z]
        unfold rl_wt
        rw [e1, e2, va_up_ne _ _ z, va_up_ne _ _ z]
    have e0 : rl_wt (S.2 1) (S.2 2) r = 0 := by unfold rl_wt; rw [if_pos hr0]
    have es : sm (rl_wt (S'.2 1) (S'.2 2)) 80 = sm (rl_wt (S.2 1) (S.2 2)) 80 + (1 + nf) := by
      rw [sm_cg 80 ew, sm_out _ r 80 hr, va_up_self, sm_out (rl_wt (S.2 1) (S.2 2)) r 80 hr, e0]
      have : va_up (va_up (rl_wt (S.2 1) (S.2 2)) r (1 + nf)) r 0 = va_up (rl_wt (S.2 1) (S.2 2)) r 0 := funext fun j => by
        by_cases z : j = r
        · rw [z, va_up_self, va_up_self]
        · rw [va_up_ne _ _ z, va_up_ne _ _ z, va_up_ne _ _ z]
      rw [this]
      omega
    have h8' : sm (rl_wt (S.2 1) (S.2 2)) 80 + 1 + nf ≤ 80 := by
      rw [nI_80 u1 u2 rfl hnf] at h80
      rcases Nat.lt_or_ge 80 (sm (rl_wt (S.2 1) (S.2 2)) 80 + 1 + nf) with z | z
      · exact absurd (nI_lt (a := 80) z (by omega)) h80
      · exact z
    refine ⟨?_, by omega⟩
    rw [es, hus, u1, show (1 : Int32) + nI nf = nI (1 + nf) from nI_add 1 nf, nI_add]
  · by_cases z : r' = r
    · subst z
      refine ⟨by rw [adn]; exact kq, ?_, ?_, ?_, fun j hj => ?_⟩
      · rw [adn, q0]; unfold rl_hd; rw [if_pos hr, e1, va_up_self]
      · rw [adn, q2]; unfold rl_lk; rw [if_pos hr, e3, va_up_self]
      · rw [adn, vwq.1]; unfold rl_sz; rw [if_pos hr, e2, va_up_self]
      · rw [adn, vwq.1] at hj
        rw [adn, vwq.2 j hj]
        obtain ⟨-, -, z1, z2, -⟩ := pl j hj
        have hcl : rl_cl r' j = 4 * r' + j := by unfold rl_cl; rw [if_pos hr]
        have m4 : rl_mr (S'.2 4) (rl_cl r' j) = 0 := by
          unfold rl_mr
          rw [hcl, if_pos (by omega), e4, if_pos (by omega)]
        have m5 : rl_mv (S'.2 5) (S.2 7) (rl_cl r' j) = 0 := by
          unfold rl_mv
          rw [hcl, if_pos (by omega), e5, if_pos (by omega)]
        rw [m4, m5]
        refine ⟨⟨fun _ => z1 0, Or.inl rfl, fun w => absurd w (by omega), Or.inl ⟨rfl, z1 1, z2 2⟩⟩, Or.inl ⟨z1 3, z2 6, fun e he => ent e he j (by omega)⟩⟩
    · have hl := lvo r' h1 z
      refine (A r' hl).mv K g' (ado r' z) ?_ ?_ ?_ (fun j hj C => ?_)
      · unfold rl_hd; split
        · rw [e1, va_up_ne _ _ z]
        · rfl
      · unfold rl_sz; split
        · rw [e2, va_up_ne _ _ z]
        · rfl
      · have eo : h'.2.1 (ad r') 2 = h.2.1 (ad r') 2 := (old _ _ (kA r' hl)).2.1 2 (fun w => by omega)
        rw [eo, (A r' hl).2.2.1]
        unfold rl_lk
        split
        · rw [e3, va_up_ne _ _ z]
        · rfl
      · have elk : rl_lk (S'.2 3) (S.2 8) r' = rl_lk (S.2 3) (S.2 8) r' := by
          unfold rl_lk
          split
          · rw [e3, va_up_ne _ _ z]
          · rfl
        have em := mcl r' j hl hj
        have m4 : rl_mr (S'.2 4) (rl_cl r' j) = rl_mr (S.2 4) (rl_cl r' j) := by unfold rl_mr; rw [e4, if_neg em]
        have m5 : rl_mv (S'.2 5) (S.2 7) (rl_cl r' j) = rl_mv (S.2 5) (S.2 7) (rl_cl r' j) := by unfold rl_mv; rw [e5, if_neg em]
        rw [elk, m4, m5]
        have kpl := ((K.vw (kA r' hl)).2.2.2 j hj).2
        have p1 : h'.2.1 (vw_pp h (ad r') j) = h.2.1 (vw_pp h (ad r') j) := funext fun i => (old _ _ kpl).2.1 i (fun w => th_kne kpl K.kx (by decide) w.1)
        have p2 : h'.2.2 (vw_pp h (ad r') j) = h.2.2 (vw_pp h (ad r') j) := funext fun i => (old _ _ kpl).2.2 i (fun w => th_kne kpl K.kO (by decide) w.1)
        have C2 := C.fr p1 p2
        exact ⟨C2.1.tv (fun _ => tvm _ _), C2.2.elim Or.inl (fun ⟨y1, y2, y3, y4, y5, y6⟩ => Or.inr ⟨y1, y2, y3, y4, y5, y6.tv (fun _ => tvm _ _)⟩)⟩
  · by_cases z1 : r1 = r
    · rw [z1, adn, vwq.1] at hj1
      rw [z1, adn, vwq.2 j1 hj1] at e
      by_cases z2 : r2 = r
      · rw [z2, adn, vwq.1] at hj2
        rw [z2, adn, vwq.2 j2 hj2] at e
        exact ⟨by rw [z1, z2], inj j1 j2 hj1 hj2 e⟩
      · rw [ado r2 z2] at hj2 e
        have hl := lvo r2 h2 z2
        have vw2 := g'.vw K (kA r2 hl)
        rw [vw2.1] at hj2
        rw [vw2.2] at e
        have := ((K.vw (kA r2 hl)).2.2.2 j2 hj2).2
        rw [← e, (pl j1 hj1).2.2.2.2] at this
        cases this
    · rw [ado r1 z1] at hj1 e
      have hl1 := lvo r1 h1 z1
      have vw1 := g'.vw K (kA r1 hl1)
      rw [vw1.1] at hj1
      rw [vw1.2] at e
      by_cases z2 : r2 = r
      · rw [z2, adn, vwq.1] at hj2
        rw [z2, adn, vwq.2 j2 hj2] at e
        have := ((K.vw (kA r1 hl1)).2.2.2 j1 hj1).2
        rw [e, (pl j2 hj2).2.2.2.2] at this
        cases this
      · rw [ado r2 z2] at hj2 e
        have hl2 := lvo r2 h2 z2
        have vw2 := g'.vw K (kA r2 hl2)
        rw [vw2.1] at hj2
        rw [vw2.2] at e
        exact P r1 r2 j1 j2 hl1 hl2 hj1 hj2 e
  · obtain ⟨r', j, z1, z2, z3⟩ := E.1 e he
    obtain ⟨y1, y2⟩ := lvn r' z1
    exact ⟨r', j, y2, by rw [ado r' y1, (g'.vw K (kA r' z1)).1]; exact z2, z3⟩
  · by_cases z : r' = r
    · refine Or.inr ⟨i, hi, ?_⟩
      unfold rl_lk
      rw [z, if_pos hr, e3, va_up_self]
      exact hi2
    · have := V r' (lvo r' h1 z)
      have elk : rl_lk (S'.2 3) (S.2 8) r' = rl_lk (S.2 3) (S.2 8) r' := by
        unfold rl_lk
        split
        · rw [e3, va_up_ne _ _ z]
        · rfl
      rw [elk]
      exact this
theorem RR.make (R : RR x aR aO aH aT rt ta h S N n u ad) (hN : N + 1 < 2 ^ 31) {i r nf q pa : Nat} {pp : Nat → Nat} {t : Int32} (hi : i < 3) (hi2 : S.2 11 i = t) (ht : ¬ t = 0) (hr : r < 80) (hr0 : S.2 1 r ≤ 0) (hnf : nf ≤ 4) (hn : n < 80) (h80 : ¬ 80 < S.1 10 + 1 + nI nf) (hg : mo_lg S + 2 ≤ 150) (hF : sh_mF x h (ta i) q nf pa pp) :
    RR x aR aO aH aT rt ta (sh_mh x aO n h (ta i) t q nf pa pp) (mo_mk S t (nI nf) i r) (N + 1) (n + 1) u (va_up ad r q) := by
  have K := R.1.1.1
  have X := R.1.2.1
  have ex6 : h.2.1 x 6 = S.1 9 := by obtain ⟨gv, bg, -, b, -⟩ := X; exact b.1
  have ex7 : h.2.1 x 7 = S.1 10 := by obtain ⟨gv, bg, -, b, -⟩ := X; exact b.2.1
  obtain ⟨R1, -⟩ := R.words (m := 2) hi (by rw [hi2]; exact ht) (by decide) hg
  have F := mk_of (n := n) (k := t) K (K.kta hi) hF
  rw [ex6, ex7] at F
  have F' : mk_F x aO n (th_ui h (ta i) 1 (h.2.1 (ta i) 1 + nI 2)) (sh_mh x aO n h (ta i) t q nf pa pp) ((sa S 12 i (S.2 12 i + nI 2)).1 9 + 1) t (S.1 10 + (1 + nI nf)) q nf pa pp := F
  have z4 : ∀ c, (mo_mk S t (nI nf) i r).2 4 c = if 4 * r ≤ c ∧ c < 4 * r + 4 then 0 else S.2 4 c := fun c => by
    unfold mo_mk
    rw [sa_n _ _ _ (by decide)]
    exact (mo_zs_c (mo_m1 S t (nI nf) r) r 4 c).1
  have z5 : ∀ c, (mo_mk S t (nI nf) i r).2 5 c = if 4 * r ≤ c ∧ c < 4 * r + 4 then 0 else S.2 5 c := fun c => by
    unfold mo_mk
    rw [sa_n _ _ _ (by decide)]
    exact (mo_zs_c (mo_m1 S t (nI nf) r) r 4 c).2
  have zr : ∀ j, j ≠ 4 → j ≠ 5 → j ≠ 12 → (mo_mk S t (nI nf) i r).2 j = (mo_m1 S t (nI nf) r).2 j := fun j h4 h5 h12 => by
    unfold mo_mk
    rw [sa_n _ _ _ h12]
    exact mo_zs_n _ _ h4 h5 4
  have z12 : (mo_mk S t (nI nf) i r).2 12 = (sa S 12 i (S.2 12 i + nI 2)).2 12 := by
    unfold mo_mk
    rw [sa_e, sa_e, show (su (mo_zs (mo_m1 S t (nI nf) r) r 4) 10 (S.1 10 + (1 + nI nf))).2 12 = S.2 12 from (mo_zs_n (j := 12) (mo_m1 S t (nI nf) r) r (by decide) (by decide) 4).trans rfl]
    rfl
  have zs : ∀ j, j ≠ 10 → (mo_mk S t (nI nf) i r).1 j = (mo_m1 S t (nI nf) r).1 j := fun j hj => by
    show va_up (mo_zs (mo_m1 S t (nI nf) r) r 4).1 10 _ j = _
    rw [va_up_ne _ _ hj, mo_zs_1]
  have zs10 : (mo_mk S t (nI nf) i r).1 10 = S.1 10 + (1 + nI nf) := rfl
  have zu : mo_ul (mo_mk S t (nI nf) i r) u = mo_ul S u := mo_ul_row (fun j a b => (zr j (by omega) (by omega) (by omega)).trans (by
    show (sa (sa (sa (su (su S 0 0) 9 (S.1 9 + 1)) 1 r (S.1 9 + 1)) 2 r (nI nf)) 3 r t).2 j = S.2 j
    rw [sa_n _ _ _ (by omega), sa_n _ _ _ (by omega), sa_n _ _ _ (by omega)]
    rfl))
  have y11 : (mo_mk S t (nI nf) i r).2 11 = S.2 11 := (zr 11 (by decide) (by decide) (by decide)).trans rfl
  obtain ⟨Q1, ⟨d1, d2⟩, W1⟩ := R1
  refine ⟨?_, ⟨?_, fun j hj => ?_⟩, ?_⟩
  · exact Q1.make (S' := mo_mk S t (nI nf) i r) hN hi hi2 hr hr0 hnf hn rfl h80 F' ((zr 1 (by decide) (by decide) (by decide)).trans rfl) ((zr 2 (by decide) (by decide) (by decide)).trans rfl) ((zr 3 (by decide) (by decide) (by decide)).trans rfl) ((zr 8 (by decide) (by decide) (by decide)).trans rfl) ((zr 7 (by decide) (by decide) (by decide)).trans rfl) y11 z4 z5 zu ((zs 9 (by decide)).trans rfl) zs10 ((zs 13 (by decide)).trans rfl) ((zs 15 (by decide)).trans rfl)
  · rw [(F'.1 _ _ Q1.1.1.kx).2.1 8 (fun w => by omega)]
    exact d1.trans ((zs 14 (by decide)).trans rfl).symm
  · rw [(F'.1 _ _ (Q1.1.1.kta hj)).2.1 1 (fun w => th_kne (Q1.1.1.kta hj) Q1.1.1.kx (by decide) w.1), z12]
    exact d2 j hj
  · rw [z12, y11, zu, (zs 14 (by decide)).trans rfl, (zs 20 (by decide)).trans rfl]
    exact W1
end MMQ

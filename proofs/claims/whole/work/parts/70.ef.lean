/-! abort, commit, crash agree -/
section EFQ
variable {x aR aO aH aT : Nat} {rt ta : Nat → Nat} {h h' hc : th_S} {S S' Sc : th_N} {N N' n u : Nat} {ad : Nat → Nat}
theorem RR.fin (R : RR x aR aO aH aT rt ta h S N n u ad) (hN : N < 2 ^ 31) {i : Nat} (hi : i < 3) (ht : ¬ S.2 11 i = 0) {z b : Int32} (zb : (z = 0 ∧ b = 1) ∨ (z = 1 ∧ b = 0))
    (f : nf x h hc) (ex : ∀ j, j ≠ 8 → hc.2.1 x j = h.2.1 x j) (e8 : hc.2.1 x 8 = Sc.1 14) (e0 : ∀ j, j < 3 → hc.2.1 (ta j) 0 = h.2.1 (ta j) 0) (e1 : ∀ j, j < 3 → j ≠ i → hc.2.1 (ta j) 1 = h.2.1 (ta j) 1)
    (s2 : Sc.2 = S.2) (s1 : ∀ j, j ≠ 0 → j ≠ 14 → Sc.1 j = S.1 j) (hs : ∀ s w, S.1 14 = nI s → (∀ j, j < 3 → S.2 12 j = nI (w j)) → s + w 0 + w 1 + w 2 ≤ 150 → ∃ s', Sc.1 14 = nI s' ∧ s' + va_up w i 0 0 + va_up w i 0 1 + va_up w i 0 2 ≤ 150)
    {p : Nat} {v : Int32} {T : th_N} (hen : mo_en Sc u i b p v T) : RR x aR aO aH aT rt ta (sh_eh aO n rt z (ta i) hc) T N n p ad ∧ sh_ec aO n rt z (ta i) hc = v := by
  obtain ⟨Q, ⟨d1, d2⟩, W⟩ := R
  have eu : mo_ul Sc u = mo_ul S u := mo_ul_row (fun j _ _ => by rw [s2])
  have X2 : rl_X x ta hc Sc N := by
    obtain ⟨gv, bg, a, ⟨b1, b2, b3, b4⟩, c, d⟩ := Q.2.1
    rw [← s1 9 (by decide) (by decide), ← s1 13 (by decide) (by decide)] at a
    unfold rl_X
    rw [s2]
    refine ⟨gv, bg, a, ⟨by rw [ex 6 (by decide), s1 9 (by decide) (by decide)]; exact b1, by rw [ex 7 (by decide), s1 10 (by decide) (by decide)]; exact b2, by rw [ex 9 (by decide), s1 13 (by decide) (by decide)]; exact b3, by rw [ex 10 (by decide), s1 15 (by decide) (by decide)]; exact b4⟩, fun j hj => ⟨by rw [e0 j hj]; exact (c j hj).1, (c j hj).2⟩, d⟩
  have Qc : RQ x aR aO aH aT rt ta hc Sc N n u ad := Q.nfS f (by rw [s2]) (by rw [s2]) (by rw [s2]) (by rw [s2]) (by rw [s2]) (by rw [s2]) (by rw [s2]) eu (s1 10 (by decide) (by decide)) X2 (by rw [s2]; exact Q.2.2.2.2.2.2.2)
  have K := Qc.1.1
  have O := Qc.1.2
  have ht2 : ¬ Sc.2 11 i = 0 := by rw [s2]; exact ht
  obtain ⟨A1, g1, c1⟩ := Qc.enA z hi
  have K' := sh_eh_K K O z (K.kta hi)
  have O' := sh_eh_O K O z (K.kta hi)
  have nx : x ≠ ta i := th_kne K.kx (K.kta hi) (by decide)
  have fx : ∀ j, (sh_eh aO n rt z (ta i) hc).2.1 x j = hc.2.1 x j := fun j => by rw [(sh_eh_n K O z (K.kta hi) K.kx (by decide)).2 (by decide) nx]
  have ft : ∀ j, j < 3 → j ≠ i → (sh_eh aO n rt z (ta i) hc).2.1 (ta j) = hc.2.1 (ta j) := fun j hj e => (sh_eh_n K O z (K.kta hi) (K.kta hj) (by decide)).2 (by decide) (fun q => e (K.2.2.2.2.2.1 j i hj hi q))
  have fi0 : (sh_eh aO n rt z (ta i) hc).2.1 (ta i) 0 = 0 := by
    unfold sh_eh
    rw [th_ui_k _ _ _ (by decide)]
    exact th_ui_s _ _ _ _
  have fi1 : (sh_eh aO n rt z (ta i) hc).2.1 (ta i) 1 = 0 := by
    unfold sh_eh
    exact th_ui_s _ _ _ _
  have fo : (sh_eh aO n rt z (ta i) hc).2.2 aO = hc.2.2 aO := (sh_eh_n K O z (K.kta hi) K.kO (by decide)).1
  obtain ⟨U, ⟨U0, hfi, rfl⟩, rfl, rfl⟩ := hen
  have Q' := Qc.endq hi ht2 zb hfi A1 g1 K' O' fx (fun j hj e => by rw [ft j hj e]) fi0 fo
  obtain ⟨f1, f2, f3, f4, f5, f6⟩ := hfi
  have bn : ∀ j, j ≠ 4 → j ≠ 5 → j ≠ 7 → (mo_bk Sc b ((mo_ul Sc u).filter (fun e => e.1 == Sc.2 11 i))).2 j = Sc.2 j := fun j h4 h5 h7 => by
    unfold mo_bk
    split
    · rfl
    · exact mo_bk_n Sc _ h4 h5 h7
  have ur : ∀ j, j < 16 → j ≠ 4 → j ≠ 5 → j ≠ 7 → U0.2 j = S.2 j := fun j h16 h4 h5 h7 => ((f5 j h16).trans (bn j h4 h5 h7)).trans (by rw [s2])
  have t12 : (mo_un (sa (sa (su U0 20 (nI p)) 11 i 0) 12 i 0) (Sc.2 11 i) 80 4).2 12 = va_up (S.2 12) i 0 := by
    rw [mo_un_o _ _ _ _ (by decide) (by decide), sa_e, sa_n _ _ _ (by decide)]
    rw [show (su U0 20 (nI p)).2 12 = S.2 12 from ur 12 (by decide) (by decide) (by decide) (by decide)]
  have t11 : (mo_un (sa (sa (su U0 20 (nI p)) 11 i 0) 12 i 0) (Sc.2 11 i) 80 4).2 11 = va_up (S.2 11) i 0 := by
    rw [mo_un_o _ _ _ _ (by decide) (by decide), sa_n _ _ _ (by decide), sa_e]
    rw [show (su U0 20 (nI p)).2 11 = S.2 11 from ur 11 (by decide) (by decide) (by decide) (by decide)]
  have t14 : (mo_un (sa (sa (su U0 20 (nI p)) 11 i 0) 12 i 0) (Sc.2 11 i) 80 4).1 14 = Sc.1 14 := by
    show va_up U0.1 20 (nI p) 14 = _
    rw [va_up_ne _ _ (by decide), f1]
  have t20 : (mo_un (sa (sa (su U0 20 (nI p)) 11 i 0) 12 i 0) (Sc.2 11 i) 80 4).1 20 = nI p := by
    show va_up U0.1 20 (nI p) 20 = _
    rw [va_up_self]
  have tu : mo_ul (mo_un (sa (sa (su U0 20 (nI p)) 11 i 0) 12 i 0) (Sc.2 11 i) 80 4) p = (mo_ul S u).filter (fun e => !(e.1 == S.2 11 i)) := by
    have e9 := f3
    rw [eu, s2] at e9
    rw [← e9]
    exact mo_ul_row (fun j a c => by rw [mo_un_o _ _ _ _ (by omega) (by omega), sa_n _ _ _ (by omega), sa_n _ _ _ (by omega)]; rfl)
  refine ⟨⟨Q', ⟨by rw [fx, e8, t14], fun j hj => ?_⟩, ?_⟩, ?_⟩
  · rw [t12]
    by_cases e : j = i
    · rw [e, va_up_self, fi1]
    · rw [va_up_ne _ _ e, ft j hj e, e1 j hj e]; exact d2 j hj
  · rw [t12, t11, t14, t20, tu]
    obtain ⟨s, w, h1, h2, h3, h4, h5, h6, h7, h8⟩ := W
    obtain ⟨s', q1, q2⟩ := hs s w h1 h2 h3
    have hd : ∀ j k, j < 3 → k < 3 → S.2 11 j = S.2 11 k → ¬ S.2 11 j = 0 → j = k := by
      obtain ⟨gv, bg, -, -, -, d, -⟩ := Q.2.1
      exact d
    refine ⟨s', va_up w i 0, q1, fun j hj => ?_, q2, fun j hj e => ?_, fun j hj e => ?_, rfl, by rw [← tu]; exact mo_ul_len _ _, fun e he => ?_⟩
    · by_cases e : j = i
      · rw [e, va_up_self, va_up_self]; rfl
      · rw [va_up_ne _ _ e, va_up_ne _ _ e]; exact h2 j hj
    · by_cases ej : j = i
      · rw [ej, va_up_self]
      · rw [va_up_ne _ _ ej] at e
        rw [va_up_ne _ _ ej]
        exact h4 j hj e
    · by_cases ej : j = i
      · rw [ej, va_up_self] at e; exact absurd rfl e
      · rw [va_up_ne _ _ ej] at e
        rw [va_up_ne _ _ ej, va_up_ne _ _ ej]
        exact Nat.le_trans (Nat.mul_le_mul_left 3 (List.filter_sublist.countP_le)) (h5 j hj e)
    · obtain ⟨he1, he2⟩ := List.mem_filter.mp he
      obtain ⟨z1, k, hk, ek⟩ := h8 e he1
      refine ⟨z1, k, hk, ?_⟩
      have : k ≠ i := fun q => by
        rw [q] at ek
        rw [ek] at he2
        simp at he2
      rw [va_up_ne _ _ this]
      exact ek
  · rw [c1]
    have v1 : (sa (sa (su U0 20 (nI p)) 11 i 0) 12 i 0).2 1 = S.2 1 := by
      rw [sa_n _ _ _ (by decide), sa_n _ _ _ (by decide)]
      exact ur 1 (by decide) (by decide) (by decide) (by decide)
    have v3 : (sa (sa (su U0 20 (nI p)) 11 i 0) 12 i 0).2 3 = S.2 3 := by
      rw [sa_n _ _ _ (by decide), sa_n _ _ _ (by decide)]
      exact ur 3 (by decide) (by decide) (by decide) (by decide)
    have v8 : (sa (sa (su U0 20 (nI p)) 11 i 0) 12 i 0).2 8 = S.2 8 := by
      rw [sa_n _ _ _ (by decide), sa_n _ _ _ (by decide)]
      exact ur 8 (by decide) (by decide) (by decide) (by decide)
    generalize sa (sa (su U0 20 (nI p)) 11 i 0) 12 i 0 = V at *
    unfold mo_uc
    rw [Nat.add_comm]
    congr 2
    · refine Qc.ctO _ _ (fun k r hk hr hl e => ?_) (fun r hr hl q => ?_)
      · rw [s2] at hl
        have hA := Qc.2.2.2.2.1 r ⟨by omega, fun _ => by rw [s2]; exact hl⟩
        have eo := hA.2.2.1
        unfold rl_lk at eo
        rw [if_pos hr, e] at eo
        show _ ↔ (¬ V.2 1 r = 0 ∧ V.2 3 r = Sc.2 11 i)
        rw [eo, v1, v3, s2]
        exact ⟨fun q => ⟨fun q0 => hl (by rw [q0]; decide), q⟩, fun q => q.2⟩
      · rw [s2] at hl
        have hz := (Q.2.1.hd hN hr).mp hl
        exact q.1 (by rw [v1]; exact hz)
    · refine ct_cg 4 (fun k hk => ?_)
      have hA := Qc.2.2.2.2.1 (80 + k) (rl_lvR hk)
      have eo := hA.2.2.1
      unfold rl_lk at eo
      rw [if_neg (by omega), Qc.2.2.1.2.2.2.1 k hk, show 80 + k - 80 = k by omega] at eo
      show _ ↔ V.2 8 k = Sc.2 11 i
      rw [eo, v8, s2]
theorem RR.abort (R : RR x aR aO aH aT rt ta h S N n u ad) (hN : N < 2 ^ 31) {i : Nat} (hi : i < 3) (ht : ¬ S.2 11 i = 0) {p : Nat} {v : Int32} {T : th_N} (hs2 : S'.2 = S.2) (hs1 : ∀ j, j ≠ 0 → S'.1 j = S.1 j) (hen : mo_en S' u i 1 p v T) : RR x aR aO aH aT rt ta (sh_eh aO n rt 0 (ta i) h) T N n p ad ∧ sh_ec aO n rt 0 (ta i) h = v := by
  refine R.fin hN hi ht (Or.inl ⟨rfl, rfl⟩) (nf.refl x h) (fun _ _ => rfl) ?_ (fun _ _ => rfl) (fun _ _ _ => rfl) hs2 (fun j h0 _ => hs1 j h0) (fun s w e1 e2 e3 => ⟨s, by rw [hs1 14 (by decide)]; exact e1, ?_⟩) hen
  · rw [hs1 14 (by decide)]; exact R.2.1.1
  · rcases (show i = 0 ∨ i = 1 ∨ i = 2 by omega) with rfl | rfl | rfl
    · rw [va_up_self, va_up_ne _ _ (by decide), va_up_ne _ _ (by decide)]; omega
    · rw [va_up_self, va_up_ne _ _ (by decide), va_up_ne _ _ (by decide)]; omega
    · rw [va_up_self, va_up_ne _ _ (by decide), va_up_ne _ _ (by decide)]; omega
theorem RR.commit (R : RR x aR aO aH aT rt ta h S N n u ad) (hN : N < 2 ^ 31) {i : Nat} (hi : i < 3) (ht : ¬ S.2 11 i = 0) (hg : mo_lg S + 1 ≤ 150) {p : Nat} {v : Int32} {T : th_N} (hen : mo_en (su (su S 0 0) 14 (S.1 14 + (S.2 12 i + 1))) u i 0 p v T) :
    RR x aR aO aH aT rt ta (sh_eh aO n rt 1 (ta i) (th_ui (th_ui h (ta i) 1 (h.2.1 (ta i) 1 + 1)) x 8 (h.2.1 x 8 + (h.2.1 (ta i) 1 + 1)))) T N n p ad ∧ sh_ec aO n rt 1 (ta i) (th_ui (th_ui h (ta i) 1 (h.2.1 (ta i) 1 + 1)) x 8 (h.2.1 x 8 + (h.2.1 (ta i) 1 + 1))) = v := by
  have K := R.1.1.1
  have nx : ∀ j, j < 3 → ta j ≠ x := fun j hj => th_kne (K.kta hj) K.kx (by decide)
  refine R.fin (Sc := su (su S 0 0) 14 (S.1 14 + (S.2 12 i + 1))) hN hi ht (Or.inr ⟨rfl, rfl⟩) (((nf.refl x h).ui (Or.inr (K.kta hi))).ui (Or.inl ⟨rfl, by decide⟩)) (fun j hj => ?_) ?_ (fun j hj => ?_) (fun j hj e => ?_) rfl (fun j h0 h14 => ?_) (fun s w e1 e2 e3 => ?_) hen
  · rw [th_ui_k _ _ _ hj, th_ui_n _ _ _ _ (Ne.symm (nx i hi))]
  · rw [th_ui_s, R.2.1.1, R.2.1.2 i hi]
    rfl
  · rw [th_ui_n _ _ _ _ (nx j hj)]
    exact ui_at (fun _ => by decide)
  · rw [th_ui_n _ _ _ _ (nx j hj), th_ui_n _ _ _ _ (fun q => e (K.2.2.2.2.2.1 j i hj hi q))]
  · show va_up (va_up S.1 0 0) 14 _ j = _
    rw [va_up_ne _ _ h14, va_up_ne _ _ h0]
  · refine ⟨s + (w i + 1), ?_, ?_⟩
    · show S.1 14 + (S.2 12 i + 1) = _
      rw [e1, e2 i hi, nI_1, nI_add]
    · obtain ⟨T9, hT, eT, hT2⟩ := R.2.2.lg
      have h1 := (hT2 1 (by decide)).mp hg
      have eT2 : T9 = s + w 0 + w 1 + w 2 := by
        have : mo_lg S = nI (s + w 0 + w 1 + w 2) := by
          unfold mo_lg
          rw [e1, e2 0 (by decide), e2 1 (by decide), e2 2 (by decide), nI_add, nI_add, nI_add]
        rw [eT] at this
        exact (nI_eq (by omega) (by omega)).mp this
      rcases (show i = 0 ∨ i = 1 ∨ i = 2 by omega) with rfl | rfl | rfl
      · rw [va_up_self, va_up_ne _ _ (by decide), va_up_ne _ _ (by decide)]; omega
      · rw [va_up_self, va_up_ne _ _ (by decide), va_up_ne _ _ (by decide)]; omega
      · rw [va_up_self, va_up_ne _ _ (by decide), va_up_ne _ _ (by decide)]; omega
theorem mo_en.ac {k p : Nat} {b v : Int32} {T : th_N} (hen : mo_en S u k b p v T) : ∀ j, j ≠ k → T.2 11 j = S.2 11 j := by
  obtain ⟨U, ⟨U0, ⟨f1, f2, f3, f4, f5, f6⟩, rfl⟩, rfl, rfl⟩ := hen
  intro j hj
  rw [mo_un_o _ _ _ _ (by decide) (by decide), sa_n _ _ _ (by decide), sa_e, va_up_ne _ _ hj]
  show U0.2 11 j = _
  rw [f5 11 (by decide)]
  unfold mo_bk
  split
  · rfl
  · rw [mo_bk_n S _ (by decide) (by decide) (by decide)]
theorem RR.cr (R : RR x aR aO aH aT rt ta h S N n u ad) (hN : N < 2 ^ 31) (hs2 : S'.2 = S.2) (hs1 : ∀ j, j ≠ 0 → S'.1 j = S.1 j) : ∀ i, i ≤ 3 → ∀ p T, mo_cr S' u i p T → RR x aR aO aH aT rt ta (cr_s aO n rt ta h i).2 T N n p ad ∧ (cr_s aO n rt ta h i).1 = nI (mo_ac S i) ∧ ∀ j, i ≤ j → T.2 11 j = S.2 11 j
  | 0, _, p, T, hcr => by
    obtain ⟨rfl, rfl⟩ := hcr
    refine ⟨?_, rfl, fun j _ => by rw [hs2]⟩
    obtain ⟨Q, D, W⟩ := R
    have eu : mo_ul T p = mo_ul S p := mo_ul_row (fun j _ _ => by rw [hs2])
    refine ⟨Q.sS (by rw [hs2]) (by rw [hs2]) (by rw [hs2]) (by rw [hs2]) (by rw [hs2]) (by rw [hs2]) (by rw [hs2]) eu (hs1 10 (by decide)) ?_ (by rw [hs2]; exact Q.2.2.2.2.2.2.2), ?_, ?_⟩
    · have X := Q.2.1
      unfold rl_X at X ⊢
      rw [hs2, hs1 9 (by decide), hs1 13 (by decide), hs1 10 (by decide), hs1 15 (by decide)]
      exact X
    · unfold rl_D at D ⊢
      rw [hs2, hs1 14 (by decide)]
      exact D
    · rw [hs1 14 (by decide), hs2, hs1 20 (by decide), eu]
      exact W
  | i + 1, hi, p, T, hcr => by
    obtain ⟨q, U, hU, hcase⟩ := hcr
    obtain ⟨R1, c1, a1⟩ := R.cr hN hs2 hs1 i (by omega) q U hU
    have e0 : (cr_s aO n rt ta h i).2.2.1 (ta i) 0 = U.2 11 i := by
      obtain ⟨gv, bg, -, -, c, -⟩ := R1.1.2.1
      exact (c i (by omega)).1
    have eS := a1 i (Nat.le_refl i)
    have hle := R.1.2.1.ac hN (show i < 3 by omega)
    unfold cr_s
    rw [e0]
    rcases hcase with ⟨z, rfl, rfl⟩ | ⟨z, v, hen⟩
    · rw [if_pos z]
      refine ⟨R1, ?_, fun j hj => a1 j (by omega)⟩
      rw [c1, mo_ac, if_pos (hle.mpr (by rw [← eS]; exact z))]
      rfl
    · rw [if_neg z]
      have := R1.abort hN (show i < 3 by omega) z (S' := U) rfl (fun _ _ => rfl) hen
      refine ⟨this.1, ?_, fun j hj => (hen.ac j (by omega)).trans (a1 j (by omega))⟩
      show (cr_s aO n rt ta h i).1 + 1 = _
      rw [c1, mo_ac, if_neg (fun q => z (by rw [eS]; exact hle.mp q))]
      exact nI_1 _
theorem RR.crash (R : RR x aR aO aH aT rt ta h S N n u ad) (hN : N < 2 ^ 31) (hs2 : S'.2 = S.2) (hs1 : ∀ j, j ≠ 0 → S'.1 j = S.1 j) {p : Nat} {T : th_N} (hcr : mo_cr S' u 3 p T) : RR x aR aO aH aT rt ta (th_ui (cr_s aO n rt ta h 3).2 x 8 0) (su T 14 0) N n p ad ∧ (cr_s aO n rt ta h 3).1 = nI (mo_ac S 3) := by
  have key := R.cr hN hs2 hs1 3 (Nat.le_refl 3) p T hcr
  generalize cr_s aO n rt ta h 3 = c at *
  obtain ⟨R1, c1, -⟩ := key
  have := (R1.checkpoint (Nat.le_refl N)).1
  exact ⟨this, c1⟩
end EFQ

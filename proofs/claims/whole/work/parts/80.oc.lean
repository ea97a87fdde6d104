/-! calls agree: the rest -/
section G4
variable {x aR aO aH aT : Nat} {rt ta : Nat → Nat} {h h1 h' : th_S} {S : th_N} {H : th_N → th_S} {N n u : Nat} {ad : Nat → Nat} {c : Int32} {b v : Option Value}
theorem RQ.tx0 (_Q : RQ x aR aO aH aT rt ta h S N n u ad) {k : Int32} {i : Nat} (tx : mo_tx S k i) : ¬ S.2 11 i = 0 := by
  rw [tx.2.2.1]
  exact tx.n0
theorem RR.N1 {N' : Nat} (R : RR x aR aO aH aT rt ta h S N n u ad) (hN : N ≤ N') : RR x aR aO aH aT rt ta h S N' n u ad := ⟨R.1.N1 hN, R.2⟩
theorem G_commit (R : RR x aR aO aH aT rt ta h S N n u ad) (hN : N + 1 < 2 ^ 31) {k : Int32} (w : (c = 0 ∧ p3_commit x aO rt ta h n k b h1) ∨ ∃ E, e3_commit x ta h k E h1 ∧ cd_commit E c) (p : p4_commit S H u k v h') : GA x aR aO aH aT rt ta H (N + 1) h h1 c b v h' := by
  have wl := R.wl
  have X := R.1.2.1
  have K := R.1.1.1
  have O := R.1.1.2
  have hN' : N < 2 ^ 31 := by omega
  rcases w with ⟨rfl, i, w1, w2, rfl, rfl⟩ | ⟨E, ⟨rfl, w⟩, cd⟩
  · have tx := X.tx hN' w1
    rw [wl] at w2
    rcases p with ⟨z, -⟩ | ⟨k', tx', ⟨z, -⟩ | ⟨-, p, r, T, en, rfl, rfl⟩⟩
    · exact (tx.no z).elim
    · exact absurd w2 z
    · have ek := mo_tx_v tx' tx
      subst ek
      obtain ⟨R', ev⟩ := R.commit hN' tx.1 (R.1.tx0 tx) w2 en
      refine ⟨?_, T, n, p, ad, rfl, en.c0, fun _ => by rw [ev], R'.N1 (Nat.le_succ N)⟩
      have kt := K.kta tx.1
      have K1 := (K.uk (j := 1) (v := h.2.1 (ta k') 1 + 1) kt (by decide)).uk (a := x) (j := 8) (v := h.2.1 x 8 + (h.2.1 (ta k') 1 + 1)) K.kx (by decide)
      have O1 : sh_O x aO n (th_ui (th_ui h (ta k') 1 (h.2.1 (ta k') 1 + 1)) x 8 (h.2.1 x 8 + (h.2.1 (ta k') 1 + 1))) := ⟨O.1, by
        rw [ui_at (fun _ => by decide), ui_at (fun e => absurd e (th_kne K.kx kt (by decide)))]
        exact O.2.1, O.2.2⟩
      exact (((fr7.refl h).ui kt (by decide)).ui K.kx (by decide)).trans (sh_eh_fr K1 O1 1 kt)
  · rcases w with ⟨rfl, w⟩ | ⟨rfl, ⟨i, w1⟩, w⟩
    · have ec := cd_commit.of.1 cd
      subst ec
      rcases p with ⟨-, -, e⟩ | ⟨k', tx', -⟩
      · exact R.rfs 1 (by decide) e b v
      · exact (tx'.no (X.nt w)).elim
    · have ec := cd_commit.of.2 cd
      subst ec
      have tx := X.tx hN' w1
      rw [wl] at w
      rcases p with ⟨z, -⟩ | ⟨k', tx', ⟨-, -, e⟩ | ⟨z, -⟩⟩
      · exact (tx.no z).elim
      · exact R.rfs 2 (by decide) e b v
      · exact absurd z w
theorem G_abort (R : RR x aR aO aH aT rt ta h S N n u ad) (hN : N + 1 < 2 ^ 31) {k : Int32} (w : (c = 0 ∧ p3_abort aO rt ta h n k b h1) ∨ ∃ E, e3_abort ta h k E h1 ∧ cd_nse E c) (p : p4_abort S H u k v h') : GA x aR aO aH aT rt ta H (N + 1) h h1 c b v h' := by
  have X := R.1.2.1
  have K := R.1.1.1
  have O := R.1.1.2
  have hN' : N < 2 ^ 31 := by omega
  rcases w with ⟨rfl, i, w1, rfl, rfl⟩ | ⟨E, ⟨rfl, rfl, w⟩, -, rfl⟩
  · have tx := X.tx hN' w1
    rcases p with ⟨z, -⟩ | ⟨k', tx', p, r, T, en, rfl, rfl⟩
    · exact (tx.no z).elim
    · have ek := mo_tx_v tx' tx
      subst ek
      obtain ⟨R', ev⟩ := R.abort hN' tx.1 (R.1.tx0 tx) (S' := su S 0 0) rfl (fun j hj => by simp [su, va_up, hj]) en
      exact ⟨sh_eh_fr K O 0 (K.kta tx.1), T, n, p, ad, rfl, en.c0, fun _ => by rw [ev], R'.N1 (Nat.le_succ N)⟩
  · rcases p with ⟨-, -, e⟩ | ⟨k', tx', -⟩
    · exact R.rfs 1 (by decide) e b v
    · exact (tx'.no (X.nt w)).elim
/-- a call whose code isn't looked at -/
def GB (x aR aO aH aT : Nat) (rt ta : Nat → Nat) (H : th_N → th_S) (N : Nat) (h h1 : th_S) (b v : Option Value) (h' : th_S) : Prop :=
  fr7 h h1 ∧ v = b ∧ ∃ T n u ad, h' = H T ∧ RR x aR aO aH aT rt ta h1 T N n u ad
theorem G_checkpoint (R : RR x aR aO aH aT rt ta h S N n u ad) (w : h1 = th_ui h x 8 0 ∧ b = some (.int (sh_wl x ta (th_ui h x 8 0)))) (p : v = some (.int (mo_lg (su (su S 0 0) 14 0))) ∧ h' = H (su (su S 0 0) 14 0)) : GB x aR aO aH aT rt ta H (N + 1) h h1 b v h' := by
  obtain ⟨rfl, rfl⟩ := w
  obtain ⟨rfl, rfl⟩ := p
  obtain ⟨R', e⟩ := R.checkpoint (Nat.le_succ N)
  exact ⟨(fr7.refl h).ui R.1.1.1.kx (by decide), by rw [e], _, n, u, ad, rfl, R'⟩
theorem G_crash (R : RR x aR aO aH aT rt ta h S N n u ad) (hN : N + 1 < 2 ^ 31) (w : b = some (.int (cr_s aO n rt ta h 3).1) ∧ h1 = th_ui (cr_s aO n rt ta h 3).2 x 8 0) (p : p4_crash S H u v h') : GB x aR aO aH aT rt ta H (N + 1) h h1 b v h' := by
  obtain ⟨rfl, rfl⟩ := w
  obtain ⟨p, T, cr, rfl, rfl⟩ := p
  obtain ⟨R', e⟩ := R.crash (by omega) (S' := su S 0 0) rfl (fun j hj => by simp [su, va_up, hj]) cr
  have f := cr_fr R.1.1.1 R.1.1.2 3 (Nat.le_refl 3)
  have K1 := (cr_s_I R.1.1.1 R.1.1.2 3 (Nat.le_refl 3)).1
  generalize cr_s aO n rt ta h 3 = s at *
  exact ⟨f.ui K1.kx (by decide), by rw [e], _, n, p, ad, rfl, R'.N1 (Nat.le_succ N)⟩
theorem G_collect (R : RR x aR aO aH aT rt ta h S N n u ad) (hN : N + 1 < 2 ^ 31) {k : Int32} (w : sh_co x aO aH n rt ta h k b h1) (p : p4_collect S H u k v h') : GB x aR aO aH aT rt ta H (N + 1) h h1 b v h' := by
  obtain ⟨g, hg, p⟩ := p
  obtain ⟨e1, cr, ⟨n', R2⟩, e7, e8⟩ := R.coll (N' := N + 1) (by omega) (Nat.le_succ N) hN hg
  have f := fh_fr R.1
  obtain ⟨K1, O1⟩ := fh_KO (ta := ta) R.1.1.1 R.1.1.2
  unfold sh_co at w
  generalize sh_fh x aO aH n rt h = s at *
  rw [e1] at w
  rcases w with ⟨w1, w2, rfl, rfl⟩ | ⟨w1, rfl, rfl⟩
  · rcases p with ⟨-, -, p, T, c1, rfl, rfl⟩ | ⟨z, -⟩
    · obtain ⟨R', ec⟩ := cr p T c1
      have f2 := cr_fr K1 O1 3 (Nat.le_refl 3)
      have K2 := (cr_s_I K1 O1 3 (Nat.le_refl 3)).1
      generalize cr_s aO n rt ta s.2 3 = s2 at *
      exact ⟨(f.trans f2).ui K2.kx (by decide), by rw [ec], _, n, p, ad, rfl, R'⟩
    · exact (z.elim w1 w2).elim
  · rcases p with ⟨z1, z2, -⟩ | ⟨-, rfl, rfl⟩
    · exact (w1.elim z1 z2).elim
    · exact ⟨f.trans (fl_fr7 K1), by rw [e7, e8], _, n', u, ad, rfl, R2⟩
theorem G_fields (R : RR x aR aO aH aT rt ta h S N n u ad) {k : Int32} (w : (c = 0 ∧ p3_fields aO h n k b h1) ∨ ∃ E, e3_fields aO h n k E h1 ∧ cd_nse E c) (p : p4_fields S H k v h') : GA x aR aO aH aT rt ta H (N + 1) h h1 c b v h' := by
  have R0 := R.s0 (Nat.le_succ N) 0
  rcases w with ⟨rfl, rfl, a, pa, np, w1, w2, w3, rfl⟩ | ⟨E, ⟨rfl, rfl, w⟩, -, rfl⟩
  · obtain ⟨r, rw', ea⟩ := R.1.rw w1
    rcases p with ⟨z, -⟩ | ⟨r', rw2, rfl, rfl⟩
    · exact (rw'.no z).elim
    · have er : r' = r := mo_rw_u rw' rw2
      subst er
      refine ⟨fr7.refl h, _, n, u, ad, rfl, rfl, fun _ => ?_, R0⟩
      have sz := (R.1.2.2.2.2.1 r' rw'.lv).2.2.2.1
      unfold rl_sz at sz
      rw [if_pos rw'.1, ea, vw_np_of w2 w3] at sz
      rw [sz]
  · rcases p with ⟨-, -, e⟩ | ⟨r', rw2, -⟩
    · exact R.rfs 1 (by decide) e b v
    · exact (rw2.no (R.1.nr w)).elim
theorem G_lockedBy (R : RR x aR aO aH aT rt ta h S N n u ad) {k o : Int32} (w : (c = 0 ∧ p3_lockedBy aO rt h n k o b h1) ∨ ∃ E, e3_lockedBy aO h n k o E h1 ∧ cd_nse E c) (p : p4_lockedBy S H k o v h') : GA x aR aO aH aT rt ta H (N + 1) h h1 c b v h' := by
  have R0 := R.s0 (Nat.le_succ N) 0
  rcases w with ⟨rfl, rfl, ⟨w0, a, w1, rfl⟩ | ⟨w0, j, w1, w2, rfl⟩⟩ | ⟨E, ⟨rfl, rfl, ⟨w0, w⟩ | ⟨w0, w⟩⟩, -, rfl⟩
  · obtain ⟨r, rw', ea⟩ := R.1.rw w1
    rcases p with ⟨z, -⟩ | ⟨-, ⟨z, -⟩ | ⟨r', rw2, rfl, rfl⟩⟩
    · exact absurd z w0
    · exact (rw'.no z).elim
    · have er : r' = r := mo_rw_u rw' rw2
      subst er
      refine ⟨fr7.refl h, _, n, u, ad, rfl, rfl, fun _ => ?_, R0⟩
      have lk := (R.1.2.2.2.2.1 r' rw'.lv).2.2.1
      unfold rl_lk at lk
      rw [if_pos rw'.1, ea] at lk
      rw [lk]
  · rcases p with ⟨-, ⟨z, -⟩ | ⟨j', j1, j2, rfl, rfl⟩⟩ | ⟨z, -⟩
    · exact (rt_no w1 w2 (rt_ix.mp z)).elim
    · have ejj : j' = j := (nI_eq (by omega) (by omega)).mp (by rw [← j2, w2])
      subst ejj
      refine ⟨fr7.refl h, _, n, u, ad, rfl, rfl, fun _ => ?_, R0⟩
      have lk := (R.1.2.2.2.2.1 _ (rl_lvR w1)).2.2.1
      unfold rl_lk at lk
      rw [if_neg (by omega), Nat.add_sub_cancel_left, R.1.rto w1] at lk
      rw [lk]
    · exact absurd w0 z
  · rcases p with ⟨z, -⟩ | ⟨-, ⟨-, -, e⟩ | ⟨r', rw2, -⟩⟩
    · exact absurd z w0
    · exact R.rfs 1 (by decide) e b v
    · exact (rw2.no (R.1.nr w)).elim
  · rcases p with ⟨-, ⟨-, -, e⟩ | ⟨j', j1, j2, -⟩⟩ | ⟨z, -⟩
    · exact R.rfs 1 (by decide) e b v
    · exact (rt_no j1 j2 w).elim
    · exact absurd w0 z
theorem k07 {k : Int32} : (k < 0 ∨ ¬ k ≤ 7) ↔ (k.toInt < 0 ∨ 7 < k.toInt) := by
  rw [Int32.lt_iff_toInt_lt, Int32.le_iff_toInt_le]
  show (k.toInt < 0 ∨ ¬ k.toInt ≤ 7) ↔ _
  omega
theorem G_count (R : RR x aR aO aH aT rt ta h S N n u ad) (hN : N + 1 < 2 ^ 31) {k : Int32} (w : (c = 0 ∧ sh_cn x aO aH n rt ta h k b h1) ∨ ∃ E, e3_count h k E h1 ∧ cd_count E c) (p : p4_count S H u k v h') : GA x aR aO aH aT rt ta H (N + 1) h h1 c b v h' := by
  have R0 := R.s0 (Nat.le_succ N) 0
  have hN' : N < 2 ^ 31 := by omega
  rcases w with ⟨rfl, w⟩ | ⟨E, ⟨rfl, rfl, w⟩, -, rfl⟩
  · have kk : k = 0 ∨ k = 1 ∨ k = 2 ∨ k = 3 ∨ k = 4 ∨ k = 5 ∨ k = 6 ∨ k = 7 := by
      rcases w with ⟨-, ⟨q, -⟩ | ⟨q, -⟩ | ⟨q, -⟩ | ⟨q, -⟩ | ⟨q, -⟩ | ⟨q, -⟩ | ⟨q, -⟩⟩ | ⟨q, -⟩
      · exact Or.inl q
      · exact Or.inr (Or.inl q)
      · exact Or.inr (Or.inr (Or.inl q))
      · exact Or.inr (Or.inr (Or.inr (Or.inl q)))
      · exact Or.inr (Or.inr (Or.inr (Or.inr (Or.inl q))))
      · exact Or.inr (Or.inr (Or.inr (Or.inr (Or.inr (Or.inl q)))))
      · exact Or.inr (Or.inr (Or.inr (Or.inr (Or.inr (Or.inr (Or.inl q))))))
      · exact Or.inr (Or.inr (Or.inr (Or.inr (Or.inr (Or.inr (Or.inr q))))))
    have nr : ¬ (k < 0 ∨ ¬ k ≤ 7) := by
      rcases kk with rfl | rfl | rfl | rfl | rfl | rfl | rfl | rfl <;> decide
    have pp := p.resolve_left (fun z => nr z.1)
    clear p
    obtain ⟨gv, bg, g1, g2, -⟩ := R.1.2.1
    have c0 : h.2.1 x 4 = nI (ct (fun r => ¬ S.2 1 r ≤ 0) 80) := by rw [R.1.1.2.2.1, ← R.1.nle.1]
    rcases w with ⟨rfl, w⟩ | ⟨rfl, rfl, rfl⟩
    · rcases pp with ⟨rfl, p⟩ | ⟨rfl, -⟩
      · refine ⟨fr7.refl h, _, n, u, ad, rfl, rfl, fun _ => ?_, R0⟩
        rcases w with ⟨rfl, rfl⟩ | ⟨rfl, rfl⟩ | ⟨rfl, rfl⟩ | ⟨rfl, rfl⟩ | ⟨rfl, rfl⟩ | ⟨rfl, rfl⟩ | ⟨rfl, rfl⟩ <;>
          rcases p with ⟨q, e⟩ | ⟨q, e⟩ | ⟨q, e⟩ | ⟨q, e⟩ | ⟨q, e⟩ | ⟨q, e⟩ | ⟨q, e⟩ <;>
          first
          | exact absurd q (by decide)
          | rw [e, c0]
          | rw [e, g2.1]
          | rw [e, g2.2.1]
          | rw [e, R.wl]
          | rw [e, R.acn hN']
          | rw [e, g2.2.2.1]
          | rw [e, g2.2.2.2]
      · exfalso
        rcases w with ⟨q, -⟩ | ⟨q, -⟩ | ⟨q, -⟩ | ⟨q, -⟩ | ⟨q, -⟩ | ⟨q, -⟩ | ⟨q, -⟩ <;> exact absurd q (by decide)
    · rcases pp with ⟨-, p⟩ | ⟨-, g, hg, rfl, rfl⟩
      · exfalso
        rcases p with ⟨q, -⟩ | ⟨q, -⟩ | ⟨q, -⟩ | ⟨q, -⟩ | ⟨q, -⟩ | ⟨q, -⟩ | ⟨q, -⟩ <;> exact absurd q (by decide)
      · exact ⟨fh_fr R.1, _, n, u, ad, rfl, rfl, fun _ => by rw [(R.hld hN' hg).2.2], R.fhd (Nat.le_succ N) 0 g⟩
  · have w2 := k07.mpr w
    rcases p with ⟨-, -, e⟩ | ⟨-, p⟩ | ⟨rfl, -⟩
    · exact R.rfs 1 (by decide) e b v
    · exfalso
      rcases p with ⟨rfl, -⟩ | ⟨rfl, -⟩ | ⟨rfl, -⟩ | ⟨rfl, -⟩ | ⟨rfl, -⟩ | ⟨rfl, -⟩ | ⟨rfl, -⟩ <;> exact absurd w2 (by decide)
    · exact absurd w2 (by decide)
end G4

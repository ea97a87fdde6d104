/-! cells of the model -/
theorem mo_fj {f : Int32} {z : Nat} (hz : z ≤ 4) (h0 : ¬ f < 0) (h1 : f ≤ nI z - 1) : ∃ j, j < z ∧ f = nI j := by
  rcases Nat.eq_zero_or_pos z with rfl | hp
  · exact absurd (Int32.lt_of_le_of_lt h1 (by decide)) h0
  · obtain ⟨y, rfl⟩ : ∃ y, z = y + 1 := ⟨z - 1, by omega⟩
    rw [nI_pred] at h1
    obtain ⟨j, hj, e⟩ := nI_of2 (M := nI y) (n := y) (nI_toInt (by omega)) h0 h1
    exact ⟨j, by omega, e⟩
def mo_ce (S : th_N) (t b f e : Int32) (c : Nat) : Prop :=
  (e = 1 ∧ (mo_nt S t ∨ mo_nr S b)) ∨ ∃ k r, mo_tx S t k ∧ mo_rw S b r ∧ ((e = 2 ∧ (f < 0 ∨ ¬ f ≤ S.2 2 r - 1)) ∨ ∃ j z, S.2 2 r = nI z ∧ z ≤ 4 ∧ j < z ∧ f = nI j ∧ ((e = 3 ∧ ¬ S.2 3 r ≤ 0 ∧ ¬ S.2 3 r = t) ∨ (e = 0 ∧ (S.2 3 r ≤ 0 ∨ S.2 3 r = t) ∧ c = 4 * r + j)))
def mo_rc (S : th_N) (t b e : Int32) (c : Nat) : Prop :=
  (e = 1 ∧ mo_nt S t) ∨ ∃ k, mo_tx S t k ∧ ((e = 2 ∧ (b < 0 ∨ ¬ b ≤ 3)) ∨ ∃ j, j < 4 ∧ b = nI j ∧ ((e = 3 ∧ ¬ S.2 8 j ≤ 0 ∧ ¬ S.2 8 j = t) ∨ (e = 0 ∧ (S.2 8 j ≤ 0 ∨ S.2 8 j = t) ∧ c = 320 + j)))
theorem mo_ce.c {S : th_N} {t b f : Int32} {c : Nat} (h : mo_ce S t b f 0 c) : c < 320 ∧ ∃ k, mo_tx S t k := by
  rcases h with ⟨e, -⟩ | ⟨k, r, hk, hr, ⟨e, -⟩ | ⟨j, z, -, hz, hj, -, ⟨e, -⟩ | ⟨-, -, e⟩⟩⟩
  · exact absurd e (by decide)
  · exact absurd e (by decide)
  · exact absurd e (by decide)
  · have := hr.1
    exact ⟨by omega, k, hk⟩
theorem mo_rc.c {S : th_N} {t b : Int32} {c : Nat} (h : mo_rc S t b 0 c) : c < 324 ∧ ∃ k, mo_tx S t k := by
  rcases h with ⟨e, -⟩ | ⟨k, hk, ⟨e, -⟩ | ⟨j, hj, -, ⟨e, -⟩ | ⟨-, -, e⟩⟩⟩
  · exact absurd e (by decide)
  · exact absurd e (by decide)
  · exact absurd e (by decide)
  · exact ⟨by omega, k, hk⟩
def mo_lc (S : th_N) (c : Nat) (t : Int32) : th_N := if c < 320 then sa S 3 (c / 4) t else sa S 8 (c - 320) t
def mo_as (S : th_N) (c : Nat) (b v : Int32) : th_N := if c < 320 then sa (sa S 4 c b) 5 c v else sa S 7 (c - 320) v
def mo_rp (S : th_N) (u : Nat) (t : Int32) (c : Nat) : Prop := ∃ k, k < u ∧ S.2 16 k = t ∧ S.2 17 k = nI c
def mo_pu (S : th_N) (u : Nat) (t : Int32) (c : Nat) : th_N := su (sa (sa (sa (sa S 16 u t) 17 u (nI c)) 18 u (if c < 320 then (if S.2 4 c = 0 then 0 else 1) else 1)) 19 u (if c < 320 then S.2 5 c else S.2 7 (c - 320))) 20 (nI (u + 1))
theorem mo_lc_n (S : th_N) (c : Nat) (t : Int32) {j : Nat} (h3 : j ≠ 3) (h8 : j ≠ 8) : (mo_lc S c t).2 j = S.2 j := by
  unfold mo_lc
  split
  · exact va_up_ne _ _ h3
  · exact va_up_ne _ _ h8
theorem mo_lc_1 (S : th_N) (c : Nat) (t : Int32) : (mo_lc S c t).1 = S.1 := by unfold mo_lc; split <;> rfl
theorem mo_as_1 (S : th_N) (c : Nat) (b v : Int32) : (mo_as S c b v).1 = S.1 := by unfold mo_as; split <;> rfl
theorem mo_as_n (S : th_N) (c : Nat) (b v : Int32) {j : Nat} (h4 : j ≠ 4) (h5 : j ≠ 5) (h7 : j ≠ 7) : (mo_as S c b v).2 j = S.2 j := by
  unfold mo_as
  split
  · exact (va_up_ne _ _ h5).trans (va_up_ne _ _ h4)
  · exact va_up_ne _ _ h7
theorem mo_pu_n (S : th_N) (u : Nat) (t : Int32) (c : Nat) {j : Nat} (h : j < 16) : (mo_pu S u t c).2 j = S.2 j := by
  show va_up (va_up (va_up (va_up S.2 16 _) 17 _) 18 _) 19 _ j = _
  rw [va_up_ne _ _ (by omega), va_up_ne _ _ (by omega), va_up_ne _ _ (by omega), va_up_ne _ _ (by omega)]
theorem mo_tx_u {S U : th_N} {t : Int32} {k k' : Nat} (e : U.2 11 = S.2 11) (h : mo_tx S t k) (h' : mo_tx U t k') : k' = k := by
  obtain ⟨a1, a2, a3, a4⟩ := h
  obtain ⟨b1, b2, b3, b4⟩ := h'
  rw [e] at b3 b4
  rcases Nat.lt_trichotomy k k' with q | q | q
  · exact absurd a3 (b4 k q)
  · exact q.symm
  · exact absurd b3 (a4 k' q)
theorem mo_tx_n {S U : th_N} {t : Int32} {k : Nat} (e : U.2 11 = S.2 11) (h : mo_tx S t k) (h' : mo_nt U t) : False := by
  have := h' k h.1
  rw [e] at this
  exact this ⟨h.2.1, h.2.2.1⟩
/-- a cell set by a transaction: where its words are k's -/
def mo_sf (S : th_N) (t : Int32) (k c : Nat) (b v : Int32) : th_N := mo_as (sa (mo_lc S c t) 12 k (S.2 12 k + 3)) c b v
def mo_st (S : th_N) (u : Nat) (t : Int32) (k c : Nat) (b v : Int32) (T : th_N) : Prop := (mo_rp S u t c ∧ T = mo_sf S t k c b v) ∨ (¬ mo_rp S u t c ∧ T = mo_sf (mo_pu S u t c) t k c b v)

-- StableHeapModel.cell
set_option maxHeartbeats 4000000 in
set_option maxRecDepth 100000 in
theorem c_X4_cell (l : Launch) (hl0 : l.stackTraces = false) (D : va_G) (cs : Nat → ClassId) (h : th_S) (sz : Nat) (o : Nat) (A : Nat → Nat) (hK : mo_K o A h) (S : th_N) (t b f : Int32) (hz9 : ∀ r, r < 80 → ∃ k, k ≤ 4 ∧ S.2 2 r = nI k) : th_M l yX4_cell wsX4_cell { frames := 1, cells := 0, slots := 0, locals := 22 } D cs (mo_h o A h S) sz [.ref o, .int t, .int b, .int f] (fun v h' => ∃ e c, mo_ce S t b f e c ∧ ((¬ e = 0 ∧ v = some (.int (-1)) ∧ h' = mo_h o A h (su (su S 0 0) 0 e)) ∨ (e = 0 ∧ v = some (.int (nI c)) ∧ h' = mo_h o A h (su S 0 0)))) (fun E h' => False) := by
  refine mw_ofW (cc := cX4_cell) (maxL := 5) (ret := (some .int)) (by decide) rfl (fun w h => List.mem_cons_of_mem _ h) th_cd (Nat.le_of_ble_eq_true rfl) ?_
  intro p e s m below meth c hsz hC hr hlk hnm htab hM ls hl
  have hC : th_C D cs (mo_h o A h S) p m c cX4_cell 5 s [.ref o, .int t, .int b, .int f] RX4 := hC
  have hx := hC.1.1
  have hb := hC.1.2.1
  have hl : lv_has ls 5 [(0, .ref o), (1, .int t), (2, .int b), (3, .int f)] := hl
  refine lv_aload_n hx hb dX4_cell_0 rfl (lv_at hl 0 rfl) ?_
  refine lv_iconst (v := 0) hx hb dX4_cell_1 (by decide) ?_
  refine pu_10_0 (index := 53) (v := 0) hC hM hK.1 mb_490 dX4_cell_2 (fun H locs hM => ?_)
  rw [mo_um] at hM
  refine lv_aload_n hx hb dX4_cell_5 rfl (lv_at hl 0 rfl) ?_
  refine lv_iload_n hx hb dX4_cell_6 rfl (lv_at hl 2 rfl) ?_
  refine mw_callV (As := [.int b]) (rest := []) (n := 1) (C := RX4) (T := TX4) (N := 21) (ci := 4) hC hM (c_X4_row l hl0 D cs h H.size o A hK (su S 0 0) b) (cwV 1 hC.1.2.2.2.2 (tb_V mb_590 mb_591 mb_22 mb_40 mb_592) rfl rfl rfl (by decide +kernel) ⟨Nat.le_of_ble_eq_true rfl, Nat.le_of_ble_eq_true rfl⟩) (th_at (h := mo_h o A h (su S 0 0)) hK.1) rfl rfl rfl hl.1 (Nat.le_of_ble_eq_true rfl) dX4_cell_7 ⟨Nat.le_of_ble_eq_true rfl, Nat.le_of_ble_eq_true rfl⟩ (fun E ce q9 g9 H locs hp9 hM hce hcv hcl => ?_) (fun v9 g9 H locs hp9 hM => ?_)
  · exact (hp9.elim fun _ h9 => h9.2.elim)
  obtain ⟨h7, rfl, hp9⟩ := hp9
  obtain ⟨rfl, hp9⟩ := hp9
  rcases hp9 with ⟨r, hr9, rfl⟩ | ⟨hr9, rfl⟩
  · have r_lt : r < 80 := hr9.1
    refine W.eq (g2 := F0 m 10 ls [.int (nI r)]) rfl ?_
    refine lv_istore (lv' := [(4, .int (nI r)), (0, .ref o), (1, .int t), (2, .int b), (3, .int f)]) hx hb dX4_cell_10 hl (by decide) rfl (fun ls hl => ?_)
    refine lv_aload_n hx hb dX4_cell_12 rfl (lv_at hl 1 rfl) ?_
    refine lv_iload_n hx hb dX4_cell_13 rfl (lv_at hl 2 rfl) ?_
    refine mw_callV (As := [.int t]) (rest := []) (n := 1) (C := RX4) (T := TX4) (N := 21) (ci := 4) hC hM (c_X4_place l hl0 D cs h H.size o A hK (su S 0 0) t) (cwV 1 hC.1.2.2.2.2 (tb_V mb_577 mb_578 mb_20 mb_40 mb_579) rfl rfl rfl (by decide +kernel) ⟨Nat.le_of_ble_eq_true rfl, Nat.le_of_ble_eq_true rfl⟩) (th_at (h := mo_h o A h (su S 0 0)) hK.1) rfl rfl rfl hl.1 (Nat.le_of_ble_eq_true rfl) dX4_cell_14 ⟨Nat.le_of_ble_eq_true rfl, Nat.le_of_ble_eq_true rfl⟩ (fun E ce q9 g9 H locs hp9 hM hce hcv hcl => ?_) (fun v9 g9 H locs hp9 hM => ?_)
    · exact (hp9.elim fun _ h9 => h9.2.elim)
    obtain ⟨h14, rfl, hp9⟩ := hp9
    obtain ⟨rfl, hp9⟩ := hp9
    rcases hp9 with ⟨k, hk, rfl⟩ | ⟨hk, rfl⟩
    · have k_lt : k < 3 := hk.1
      refine W.eq (g2 := F0 m 17 ls [.int (nI k)]) rfl ?_
      refine lv_if_lt (tgt := 25) hx hb dX4_cell_17 (by decide) (fun c17 => ?_) (fun c17 => ?_)
      · exact absurd c17 (nI_pos (by omega))
      · refine lv_iload hx hb dX4_cell_20 (lv_at hl 0 rfl) ?_
        refine lv_if_ge (tgt := 33) hx hb dX4_cell_22 (by decide) (fun c22 => ?_) (fun c22 => ?_)
        · refine lv_iload_n hx hb dX4_cell_33 rfl (lv_at hl 4 rfl) ?_
          refine lv_aload_n hx hb dX4_cell_34 rfl (lv_at hl 1 rfl) ?_
          refine gr_10_2 (index := 13) hC hM hK.1 mb_492 dX4_cell_35 (hK.r2) ?_
          refine lv_iload hx hb dX4_cell_38 (lv_at hl 0 rfl) ?_
          refine al_7 (i := r) (n := 80) hC hM hK.k2 (by first | rfl | decide) (by omega) (by decide) dX4_cell_40 ?_
          rw [mo_a2 hK]
          rw [show (su S 0 0).2 2 r = S.2 2 r from by first | rfl | simp [su, sa, va_up]]
          refine lv_iconst (v := 1) hx hb dX4_cell_41 (by decide) ?_
          refine lv_isub hx hb dX4_cell_42 ?_
          refine mw_callS (As := [.int f, .int ((S.2 2 r) - 1)]) (rest := []) (n := 2) hC hM (c_X4_out l hl0 D cs (mo_h o A h (su S 0 0)) H.size f (S.2 2 r - 1)) (va_cwS 2 hC.1.2.2.2.2 (tb_S mb_580 mb_581 mb_40 mb_582) rfl rfl rfl (by decide +kernel) ⟨Nat.le_of_ble_eq_true rfl, Nat.le_of_ble_eq_true rfl⟩) rfl rfl hl.1 (Nat.le_of_ble_eq_true rfl) dX4_cell_43 ⟨Nat.le_of_ble_eq_true rfl, Nat.le_of_ble_eq_true rfl⟩ (fun E ce q9 g9 H locs hp9 hM hce hcv hcl => ?_) (fun v9 g9 H locs hp9 hM => ?_)
          · exact (hp9.elim fun _ h9 => h9.2.elim)
          obtain ⟨h43, rfl, hp9⟩ := hp9
          obtain ⟨rfl, hp9⟩ := hp9
          rcases hp9 with ⟨rfl, ho9⟩ | ⟨rfl, ho9, ho8⟩
          · refine W.eq (g2 := F0 m 46 ls [.int 1]) rfl ?_
            refine lv_if_eq (tgt := 57) hx hb dX4_cell_46 (by decide) (fun c46 => ?_) (fun c46 => ?_)
            · exact absurd c46 (by decide)
            · refine lv_aload_n hx hb dX4_cell_49 rfl (lv_at hl 1 rfl) ?_
              refine lv_iconst (v := 2) hx hb dX4_cell_50 (by decide) ?_
              refine pu_10_0 (index := 53) (v := 2) hC hM hK.1 mb_490 dX4_cell_51 (fun H locs hM => ?_)
              rw [mo_um] at hM
              refine lv_goto (tgt := 83) hx hb dX4_cell_54 (by decide) ?_
              refine lv_aload_n hx hb dX4_cell_83 rfl (lv_at hl 1 rfl) ?_
              refine gi_10_0 (index := 53) hC hM hK.1 mb_490 dX4_cell_84 ?_
              rw [mo_i]
              rw [show (su (su S 0 0) 0 2).1 0 = 2 from by first | rfl | simp [su, sa, va_up]]
              refine lv_if_ne (tgt := 99) hx hb dX4_cell_87 (by decide) (fun c87 => ?_) (fun c87 => ?_)
              · refine lv_iconst (v := (-1)) hx hb dX4_cell_99 (by decide) ?_
                refine mw_iret hC hM hr hlk dX4_cell_100 (Nat.le_of_ble_eq_true rfl) (Nat.le_of_ble_eq_true rfl) ⟨_, rfl, ?_⟩
                exact ⟨2, 0, Or.inr ⟨k, r, hk, hr9, Or.inl ⟨rfl, ho9⟩⟩, Or.inl ⟨by decide, rfl, rfl⟩⟩
              · exact absurd c87 (by decide)
          · refine W.eq (g2 := F0 m 46 ls [.int 0]) rfl ?_
            refine lv_if_eq (tgt := 57) hx hb dX4_cell_46 (by decide) (fun c46 => ?_) (fun c46 => ?_)
            · obtain ⟨z, hz, ez⟩ := hz9 r hr9.1
              rw [show S.2 2 r = nI z from ez] at ho8
              obtain ⟨j, hj, rfl⟩ := mo_fj hz ho9 ho8
              refine lv_aload_n hx hb dX4_cell_57 rfl (lv_at hl 1 rfl) ?_
              refine gr_10_3 (index := 16) hC hM hK.1 mb_493 dX4_cell_58 (hK.r3) ?_
              refine lv_iload hx hb dX4_cell_61 (lv_at hl 0 rfl) ?_
              refine al_7 (i := r) (n := 80) hC hM hK.k3 (by first | rfl | decide) (by omega) (by decide) dX4_cell_63 ?_
              rw [mo_a3 hK]
              rw [show (su S 0 0).2 3 r = S.2 3 r from by first | rfl | simp [su, sa, va_up]]
              refine lv_if_le (tgt := 83) hx hb dX4_cell_64 (by decide) (fun c64 => ?_) (fun c64 => ?_)
              · refine lv_aload_n hx hb dX4_cell_83 rfl (lv_at hl 1 rfl) ?_
                refine gi_10_0 (index := 53) hC hM hK.1 mb_490 dX4_cell_84 ?_
                rw [mo_i]
                rw [show (su S 0 0).1 0 = 0 from by first | rfl | simp [su, sa, va_up]]
                refine lv_if_ne (tgt := 99) hx hb dX4_cell_87 (by decide) (fun c87 => ?_) (fun c87 => ?_)
                · exact absurd c87 (by decide)
                · refine lv_iconst (v := 4) hx hb dX4_cell_90 (by decide) ?_
                  refine lv_iload hx hb dX4_cell_91 (lv_at hl 0 rfl) ?_
                  refine lv_imul hx hb dX4_cell_93 ?_
                  rw [show 4 * (nI r) = nI (4 * r) from nI_mul 4 r]
                  refine lv_iload_n hx hb dX4_cell_94 rfl (lv_at hl 4 rfl) ?_
                  refine lv_iadd hx hb dX4_cell_95 ?_
                  rw [show (nI (4 * r)) + (nI j) = nI (4 * r + j) from nI_add (4 * r) j]
                  refine lv_goto (tgt := 100) hx hb dX4_cell_96 (by decide) ?_
                  refine mw_iret hC hM hr hlk dX4_cell_100 (Nat.le_of_ble_eq_true rfl) (Nat.le_of_ble_eq_true rfl) ⟨_, rfl, ?_⟩
                  exact ⟨0, 4 * r + j, Or.inr ⟨k, r, hk, hr9, Or.inr ⟨j, z, ez, hz, hj, rfl, Or.inr ⟨rfl, Or.inl c64, rfl⟩⟩⟩, Or.inr ⟨rfl, rfl, rfl⟩⟩
              · refine lv_aload_n hx hb dX4_cell_67 rfl (lv_at hl 1 rfl) ?_
                refine gr_10_3 (index := 16) hC hM hK.1 mb_493 dX4_cell_68 (hK.r3) ?_
                refine lv_iload hx hb dX4_cell_71 (lv_at hl 0 rfl) ?_
                refine al_7 (i := r) (n := 80) hC hM hK.k3 (by first | rfl | decide) (by omega) (by decide) dX4_cell_73 ?_
                rw [mo_a3 hK]
                rw [show (su S 0 0).2 3 r = S.2 3 r from by first | rfl | simp [su, sa, va_up]]
                refine lv_iload_n hx hb dX4_cell_74 rfl (lv_at hl 2 rfl) ?_
                refine lv_icmp_eq (tgt := 83) hx hb dX4_cell_75 (by decide) (fun c75 => ?_) (fun c75 => ?_)
                · refine lv_aload_n hx hb dX4_cell_83 rfl (lv_at hl 1 rfl) ?_
                  refine gi_10_0 (index := 53) hC hM hK.1 mb_490 dX4_cell_84 ?_
                  rw [mo_i]
                  rw [show (su S 0 0).1 0 = 0 from by first | rfl | simp [su, sa, va_up]]
                  refine lv_if_ne (tgt := 99) hx hb dX4_cell_87 (by decide) (fun c87 => ?_) (fun c87 => ?_)
                  · exact absurd c87 (by decide)
                  · refine lv_iconst (v := 4) hx hb dX4_cell_90 (by decide) ?_
                    refine lv_iload hx hb dX4_cell_91 (lv_at hl 0 rfl) ?_
                    refine lv_imul hx hb dX4_cell_93 ?_
                    rw [show 4 * (nI r) = nI (4 * r) from nI_mul 4 r]
                    refine lv_iload_n hx hb dX4_cell_94 rfl (lv_at hl 4 rfl) ?_
                    refine lv_iadd hx hb dX4_cell_95 ?_
                    rw [show (nI (4 * r)) + (nI j) = nI (4 * r + j) from nI_add (4 * r) j]
                    refine lv_goto (tgt := 100) hx hb dX4_cell_96 (by decide) ?_
                    refine mw_iret hC hM hr hlk dX4_cell_100 (Nat.le_of_ble_eq_true rfl) (Nat.le_of_ble_eq_true rfl) ⟨_, rfl, ?_⟩
                    exact ⟨0, 4 * r + j, Or.inr ⟨k, r, hk, hr9, Or.inr ⟨j, z, ez, hz, hj, rfl, Or.inr ⟨rfl, Or.inr c75, rfl⟩⟩⟩, Or.inr ⟨rfl, rfl, rfl⟩⟩
                · refine lv_aload_n hx hb dX4_cell_78 rfl (lv_at hl 1 rfl) ?_
                  refine lv_iconst (v := 3) hx hb dX4_cell_79 (by decide) ?_
                  refine pu_10_0 (index := 53) (v := 3) hC hM hK.1 mb_490 dX4_cell_80 (fun H locs hM => ?_)
                  rw [mo_um] at hM
                  refine lv_aload_n hx hb dX4_cell_83 rfl (lv_at hl 1 rfl) ?_
                  refine gi_10_0 (index := 53) hC hM hK.1 mb_490 dX4_cell_84 ?_
                  rw [mo_i]
                  rw [show (su (su S 0 0) 0 3).1 0 = 3 from by first | rfl | simp [su, sa, va_up]]
                  refine lv_if_ne (tgt := 99) hx hb dX4_cell_87 (by decide) (fun c87 => ?_) (fun c87 => ?_)
                  · refine lv_iconst (v := (-1)) hx hb dX4_cell_99 (by decide) ?_
                    refine mw_iret hC hM hr hlk dX4_cell_100 (Nat.le_of_ble_eq_true rfl) (Nat.le_of_ble_eq_true rfl) ⟨_, rfl, ?_⟩
                    exact ⟨3, 0, Or.inr ⟨k, r, hk, hr9, Or.inr ⟨j, z, ez, hz, hj, rfl, Or.inl ⟨rfl, c64, c75⟩⟩⟩, Or.inl ⟨by decide, rfl, rfl⟩⟩
                  · exact absurd c87 (by decide)
            · exact absurd c46 (by decide)
        · exact absurd (nI_pos' (by omega)) c22
    · refine W.eq (g2 := F0 m 17 ls [.int (-1)]) rfl ?_
      refine lv_if_lt (tgt := 25) hx hb dX4_cell_17 (by decide) (fun c17 => ?_) (fun c17 => ?_)
      · refine lv_aload_n hx hb dX4_cell_25 rfl (lv_at hl 1 rfl) ?_
        refine lv_iconst (v := 1) hx hb dX4_cell_26 (by decide) ?_
        refine pu_10_0 (index := 53) (v := 1) hC hM hK.1 mb_490 dX4_cell_27 (fun H locs hM => ?_)
        rw [mo_um] at hM
        refine lv_goto (tgt := 83) hx hb dX4_cell_30 (by decide) ?_
        refine lv_aload_n hx hb dX4_cell_83 rfl (lv_at hl 1 rfl) ?_
        refine gi_10_0 (index := 53) hC hM hK.1 mb_490 dX4_cell_84 ?_
        rw [mo_i]
        rw [show (su (su S 0 0) 0 1).1 0 = 1 from by first | rfl | simp [su, sa, va_up]]
        refine lv_if_ne (tgt := 99) hx hb dX4_cell_87 (by decide) (fun c87 => ?_) (fun c87 => ?_)
        · refine lv_iconst (v := (-1)) hx hb dX4_cell_99 (by decide) ?_
          refine mw_iret hC hM hr hlk dX4_cell_100 (Nat.le_of_ble_eq_true rfl) (Nat.le_of_ble_eq_true rfl) ⟨_, rfl, ?_⟩
          exact ⟨1, 0, Or.inl ⟨rfl, Or.inl hk⟩, Or.inl ⟨by decide, rfl, rfl⟩⟩
        · exact absurd c87 (by decide)
      · exact absurd c17 (by decide)
  · refine W.eq (g2 := F0 m 10 ls [.int (-1)]) rfl ?_
    refine lv_istore (lv' := [(4, .int (-1)), (0, .ref o), (1, .int t), (2, .int b), (3, .int f)]) hx hb dX4_cell_10 hl (by decide) rfl (fun ls hl => ?_)
    refine lv_aload_n hx hb dX4_cell_12 rfl (lv_at hl 1 rfl) ?_
    refine lv_iload_n hx hb dX4_cell_13 rfl (lv_at hl 2 rfl) ?_
    refine mw_callV (As := [.int t]) (rest := []) (n := 1) (C := RX4) (T := TX4) (N := 21) (ci := 4) hC hM (c_X4_place l hl0 D cs h H.size o A hK (su S 0 0) t) (cwV 1 hC.1.2.2.2.2 (tb_V mb_577 mb_578 mb_20 mb_40 mb_579) rfl rfl rfl (by decide +kernel) ⟨Nat.le_of_ble_eq_true rfl, Nat.le_of_ble_eq_true rfl⟩) (th_at (h := mo_h o A h (su S 0 0)) hK.1) rfl rfl rfl hl.1 (Nat.le_of_ble_eq_true rfl) dX4_cell_14 ⟨Nat.le_of_ble_eq_true rfl, Nat.le_of_ble_eq_true rfl⟩ (fun E ce q9 g9 H locs hp9 hM hce hcv hcl => ?_) (fun v9 g9 H locs hp9 hM => ?_)
    · exact (hp9.elim fun _ h9 => h9.2.elim)
    obtain ⟨h14, rfl, hp9⟩ := hp9
    obtain ⟨rfl, hp9⟩ := hp9
    rcases hp9 with ⟨k, hk, rfl⟩ | ⟨hk, rfl⟩
    · have k_lt : k < 3 := hk.1
      refine W.eq (g2 := F0 m 17 ls [.int (nI k)]) rfl ?_
      refine lv_if_lt (tgt := 25) hx hb dX4_cell_17 (by decide) (fun c17 => ?_) (fun c17 => ?_)
      · exact absurd c17 (nI_pos (by omega))
      · refine lv_iload hx hb dX4_cell_20 (lv_at hl 0 rfl) ?_
        refine lv_if_ge (tgt := 33) hx hb dX4_cell_22 (by decide) (fun c22 => ?_) (fun c22 => ?_)
        · exact absurd c22 (by decide)
        · refine lv_aload_n hx hb dX4_cell_25 rfl (lv_at hl 1 rfl) ?_
          refine lv_iconst (v := 1) hx hb dX4_cell_26 (by decide) ?_
          refine pu_10_0 (index := 53) (v := 1) hC hM hK.1 mb_490 dX4_cell_27 (fun H locs hM => ?_)
          rw [mo_um] at hM
          refine lv_goto (tgt := 83) hx hb dX4_cell_30 (by decide) ?_
          refine lv_aload_n hx hb dX4_cell_83 rfl (lv_at hl 1 rfl) ?_
          refine gi_10_0 (index := 53) hC hM hK.1 mb_490 dX4_cell_84 ?_
          rw [mo_i]
          rw [show (su (su S 0 0) 0 1).1 0 = 1 from by first | rfl | simp [su, sa, va_up]]
          refine lv_if_ne (tgt := 99) hx hb dX4_cell_87 (by decide) (fun c87 => ?_) (fun c87 => ?_)
          · refine lv_iconst (v := (-1)) hx hb dX4_cell_99 (by decide) ?_
            refine mw_iret hC hM hr hlk dX4_cell_100 (Nat.le_of_ble_eq_true rfl) (Nat.le_of_ble_eq_true rfl) ⟨_, rfl, ?_⟩
            exact ⟨1, 0, Or.inl ⟨rfl, Or.inr hr9⟩, Or.inl ⟨by decide, rfl, rfl⟩⟩
          · exact absurd c87 (by decide)
    · refine W.eq (g2 := F0 m 17 ls [.int (-1)]) rfl ?_
      refine lv_if_lt (tgt := 25) hx hb dX4_cell_17 (by decide) (fun c17 => ?_) (fun c17 => ?_)
      · refine lv_aload_n hx hb dX4_cell_25 rfl (lv_at hl 1 rfl) ?_
        refine lv_iconst (v := 1) hx hb dX4_cell_26 (by decide) ?_
        refine pu_10_0 (index := 53) (v := 1) hC hM hK.1 mb_490 dX4_cell_27 (fun H locs hM => ?_)
        rw [mo_um] at hM
        refine lv_goto (tgt := 83) hx hb dX4_cell_30 (by decide) ?_
        refine lv_aload_n hx hb dX4_cell_83 rfl (lv_at hl 1 rfl) ?_
        refine gi_10_0 (index := 53) hC hM hK.1 mb_490 dX4_cell_84 ?_
        rw [mo_i]
        rw [show (su (su S 0 0) 0 1).1 0 = 1 from by first | rfl | simp [su, sa, va_up]]
        refine lv_if_ne (tgt := 99) hx hb dX4_cell_87 (by decide) (fun c87 => ?_) (fun c87 => ?_)
        · refine lv_iconst (v := (-1)) hx hb dX4_cell_99 (by decide) ?_
          refine mw_iret hC hM hr hlk dX4_cell_100 (Nat.le_of_ble_eq_true rfl) (Nat.le_of_ble_eq_true rfl) ⟨_, rfl, ?_⟩
          exact ⟨1, 0, Or.inl ⟨rfl, Or.inl hk⟩, Or.inl ⟨by decide, rfl, rfl⟩⟩
        · exact absurd c87 (by decide)
      · exact absurd c17 (by decide)

-- StableHeapModel.rootCell
set_option maxHeartbeats 4000000 in
set_option maxRecDepth 100000 in
theorem c_X4_rootCell (l : Launch) (hl0 : l.stackTraces = false) (D : va_G) (cs : Nat → ClassId) (h : th_S) (sz : Nat) (o : Nat) (A : Nat → Nat) (hK : mo_K o A h) (S : th_N) (t b : Int32) : th_M l yX4_rootCell wsX4_rootCell { frames := 1, cells := 0, slots := 0, locals := 22 } D cs (mo_h o A h S) sz [.ref o, .int t, .int b] (fun v h' => ∃ e c, mo_rc S t b e c ∧ ((¬ e = 0 ∧ v = some (.int (-1)) ∧ h' = mo_h o A h (su (su S 0 0) 0 e)) ∨ (e = 0 ∧ v = some (.int (nI c)) ∧ h' = mo_h o A h (su S 0 0)))) (fun E h' => False) := by
  refine mw_ofW (cc := cX4_rootCell) (maxL := 3) (ret := (some .int)) (by decide) rfl (fun w h => List.mem_cons_of_mem _ h) th_cd (Nat.le_of_ble_eq_true rfl) ?_
  intro p e s m below meth c hsz hC hr hlk hnm htab hM ls hl
  have hC : th_C D cs (mo_h o A h S) p m c cX4_rootCell 3 s [.ref o, .int t, .int b] RX4 := hC
  have hx := hC.1.1
  have hb := hC.1.2.1
  have hl : lv_has ls 3 [(0, .ref o), (1, .int t), (2, .int b)] := hl
  refine lv_aload_n hx hb dX4_rootCell_0 rfl (lv_at hl 0 rfl) ?_
  refine lv_iconst (v := 0) hx hb dX4_rootCell_1 (by decide) ?_
  refine pu_10_0 (index := 53) (v := 0) hC hM hK.1 mb_490 dX4_rootCell_2 (fun H locs hM => ?_)
  rw [mo_um] at hM
  refine lv_aload_n hx hb dX4_rootCell_5 rfl (lv_at hl 0 rfl) ?_
  refine lv_iload_n hx hb dX4_rootCell_6 rfl (lv_at hl 1 rfl) ?_
  refine mw_callV (As := [.int t]) (rest := []) (n := 1) (C := RX4) (T := TX4) (N := 21) (ci := 4) hC hM (c_X4_place l hl0 D cs h H.size o A hK (su S 0 0) t) (cwV 1 hC.1.2.2.2.2 (tb_V mb_577 mb_578 mb_20 mb_40 mb_579) rfl rfl rfl (by decide +kernel) ⟨Nat.le_of_ble_eq_true rfl, Nat.le_of_ble_eq_true rfl⟩) (th_at (h := mo_h o A h (su S 0 0)) hK.1) rfl rfl rfl hl.1 (Nat.le_of_ble_eq_true rfl) dX4_rootCell_7 ⟨Nat.le_of_ble_eq_true rfl, Nat.le_of_ble_eq_true rfl⟩ (fun E ce q9 g9 H locs hp9 hM hce hcv hcl => ?_) (fun v9 g9 H locs hp9 hM => ?_)
  · exact (hp9.elim fun _ h9 => h9.2.elim)
  obtain ⟨h7, rfl, hp9⟩ := hp9
  obtain ⟨rfl, hp9⟩ := hp9
  rcases hp9 with ⟨k, hk, rfl⟩ | ⟨hk, rfl⟩
  · have k_lt : k < 3 := hk.1
    refine W.eq (g2 := F0 m 10 ls [.int (nI k)]) rfl ?_
    refine lv_if_ge (tgt := 21) hx hb dX4_rootCell_10 (by decide) (fun c10 => ?_) (fun c10 => ?_)
    · refine lv_iload_n hx hb dX4_rootCell_21 rfl (lv_at hl 2 rfl) ?_
      refine lv_iconst (v := 3) hx hb dX4_rootCell_22 (by decide) ?_
      refine mw_callS (As := [.int b, .int 3]) (rest := []) (n := 2) hC hM (c_X4_out l hl0 D cs (mo_h o A h (su S 0 0)) H.size b 3) (va_cwS 2 hC.1.2.2.2.2 (tb_S mb_580 mb_581 mb_40 mb_582) rfl rfl rfl (by decide +kernel) ⟨Nat.le_of_ble_eq_true rfl, Nat.le_of_ble_eq_true rfl⟩) rfl rfl hl.1 (Nat.le_of_ble_eq_true rfl) dX4_rootCell_23 ⟨Nat.le_of_ble_eq_true rfl, Nat.le_of_ble_eq_true rfl⟩ (fun E ce q9 g9 H locs hp9 hM hce hcv hcl => ?_) (fun v9 g9 H locs hp9 hM => ?_)
      · exact (hp9.elim fun _ h9 => h9.2.elim)
      obtain ⟨h23, rfl, hp9⟩ := hp9
      obtain ⟨rfl, hp9⟩ := hp9
      rcases hp9 with ⟨rfl, ho9⟩ | ⟨rfl, ho9, ho8⟩
      · refine W.eq (g2 := F0 m 26 ls [.int 1]) rfl ?_
        refine lv_if_eq (tgt := 37) hx hb dX4_rootCell_26 (by decide) (fun c26 => ?_) (fun c26 => ?_)
        · exact absurd c26 (by decide)
        · refine lv_aload_n hx hb dX4_rootCell_29 rfl (lv_at hl 0 rfl) ?_
          refine lv_iconst (v := 2) hx hb dX4_rootCell_30 (by decide) ?_
          refine pu_10_0 (index := 53) (v := 2) hC hM hK.1 mb_490 dX4_rootCell_31 (fun H locs hM => ?_)
          rw [mo_um] at hM
          refine lv_goto (tgt := 61) hx hb dX4_rootCell_34 (by decide) ?_
          refine lv_aload_n hx hb dX4_rootCell_61 rfl (lv_at hl 0 rfl) ?_
          refine gi_10_0 (index := 53) hC hM hK.1 mb_490 dX4_rootCell_62 ?_
          rw [mo_i]
          rw [show (su (su S 0 0) 0 2).1 0 = 2 from by first | rfl | simp [su, sa, va_up]]
          refine lv_if_ne (tgt := 76) hx hb dX4_rootCell_65 (by decide) (fun c65 => ?_) (fun c65 => ?_)
          · refine lv_iconst (v := (-1)) hx hb dX4_rootCell_76 (by decide) ?_
            refine mw_iret hC hM hr hlk dX4_rootCell_77 (Nat.le_of_ble_eq_true rfl) (Nat.le_of_ble_eq_true rfl) ⟨_, rfl, ?_⟩
            exact ⟨2, 0, Or.inr ⟨k, hk, Or.inl ⟨rfl, ho9⟩⟩, Or.inl ⟨by decide, rfl, rfl⟩⟩
          · exact absurd c65 (by decide)
      · refine W.eq (g2 := F0 m 26 ls [.int 0]) rfl ?_
        refine lv_if_eq (tgt := 37) hx hb dX4_rootCell_26 (by decide) (fun c26 => ?_) (fun c26 => ?_)
        · obtain ⟨j, hj, rfl⟩ := nI_of2 (M := 3) (n := 3) (by decide) ho9 ho8
          have hj : j < 4 := by omega
          refine lv_aload_n hx hb dX4_rootCell_37 rfl (lv_at hl 0 rfl) ?_
          refine gr_10_8 (index := 32) hC hM hK.1 mb_498 dX4_rootCell_38 (hK.r8) ?_
          refine lv_iload_n hx hb dX4_rootCell_41 rfl (lv_at hl 2 rfl) ?_
          refine al_7 (i := j) (n := 4) hC hM hK.k8 (by first | rfl | decide) (by omega) (by decide) dX4_rootCell_42 ?_
          rw [mo_a8 hK]
          rw [show (su S 0 0).2 8 j = S.2 8 j from by first | rfl | simp [su, sa, va_up]]
          refine lv_if_le (tgt := 61) hx hb dX4_rootCell_43 (by decide) (fun c43 => ?_) (fun c43 => ?_)
          · refine lv_aload_n hx hb dX4_rootCell_61 rfl (lv_at hl 0 rfl) ?_
            refine gi_10_0 (index := 53) hC hM hK.1 mb_490 dX4_rootCell_62 ?_
            rw [mo_i]
            rw [show (su S 0 0).1 0 = 0 from by first | rfl | simp [su, sa, va_up]]
            refine lv_if_ne (tgt := 76) hx hb dX4_rootCell_65 (by decide) (fun c65 => ?_) (fun c65 => ?_)
            · exact absurd c65 (by decide)
            · refine lv_sipush (v := 320) hx hb dX4_rootCell_68 (by decide) ?_
              refine lv_iload_n hx hb dX4_rootCell_71 rfl (lv_at hl 2 rfl) ?_
              refine lv_iadd hx hb dX4_rootCell_72 ?_
              rw [show 320 + (nI j) = nI (320 + j) from nI_add 320 j]
              refine lv_goto (tgt := 77) hx hb dX4_rootCell_73 (by decide) ?_
              refine mw_iret hC hM hr hlk dX4_rootCell_77 (Nat.le_of_ble_eq_true rfl) (Nat.le_of_ble_eq_true rfl) ⟨_, rfl, ?_⟩
              exact ⟨0, 320 + j, Or.inr ⟨k, hk, Or.inr ⟨j, hj, rfl, Or.inr ⟨rfl, Or.inl c43, rfl⟩⟩⟩, Or.inr ⟨rfl, rfl, rfl⟩⟩
          · refine lv_aload_n hx hb dX4_rootCell_46 rfl (lv_at hl 0 rfl) ?_
            refine gr_10_8 (index := 32) hC hM hK.1 mb_498 dX4_rootCell_47 (hK.r8) ?_
            refine lv_iload_n hx hb dX4_rootCell_50 rfl (lv_at hl 2 rfl) ?_
            refine al_7 (i := j) (n := 4) hC hM hK.k8 (by first | rfl | decide) (by omega) (by decide) dX4_rootCell_51 ?_
            rw [mo_a8 hK]
            rw [show (su S 0 0).2 8 j = S.2 8 j from by first | rfl | simp [su, sa, va_up]]
            refine lv_iload_n hx hb dX4_rootCell_52 rfl (lv_at hl 1 rfl) ?_
            refine lv_icmp_eq (tgt := 61) hx hb dX4_rootCell_53 (by decide) (fun c53 => ?_) (fun c53 => ?_)
            · refine lv_aload_n hx hb dX4_rootCell_61 rfl (lv_at hl 0 rfl) ?_
              refine gi_10_0 (index := 53) hC hM hK.1 mb_490 dX4_rootCell_62 ?_
              rw [mo_i]
              rw [show (su S 0 0).1 0 = 0 from by first | rfl | simp [su, sa, va_up]]
              refine lv_if_ne (tgt := 76) hx hb dX4_rootCell_65 (by decide) (fun c65 => ?_) (fun c65 => ?_)
              · exact absurd c65 (by decide)
              · refine lv_sipush (v := 320) hx hb dX4_rootCell_68 (by decide) ?_
                refine lv_iload_n hx hb dX4_rootCell_71 rfl (lv_at hl 2 rfl) ?_
                refine lv_iadd hx hb dX4_rootCell_72 ?_
                rw [show 320 + (nI j) = nI (320 + j) from nI_add 320 j]
                refine lv_goto (tgt := 77) hx hb dX4_rootCell_73 (by decide) ?_
                refine mw_iret hC hM hr hlk dX4_rootCell_77 (Nat.le_of_ble_eq_true rfl) (Nat.le_of_ble_eq_true rfl) ⟨_, rfl, ?_⟩
                exact ⟨0, 320 + j, Or.inr ⟨k, hk, Or.inr ⟨j, hj, rfl, Or.inr ⟨rfl, Or.inr c53, rfl⟩⟩⟩, Or.inr ⟨rfl, rfl, rfl⟩⟩
            · refine lv_aload_n hx hb dX4_rootCell_56 rfl (lv_at hl 0 rfl) ?_
              refine lv_iconst (v := 3) hx hb dX4_rootCell_57 (by decide) ?_
              refine pu_10_0 (index := 53) (v := 3) hC hM hK.1 mb_490 dX4_rootCell_58 (fun H locs hM => ?_)
              rw [mo_um] at hM
              refine lv_aload_n hx hb dX4_rootCell_61 rfl (lv_at hl 0 rfl) ?_
              refine gi_10_0 (index := 53) hC hM hK.1 mb_490 dX4_rootCell_62 ?_
              rw [mo_i]
              rw [show (su (su S 0 0) 0 3).1 0 = 3 from by first | rfl | simp [su, sa, va_up]]
              refine lv_if_ne (tgt := 76) hx hb dX4_rootCell_65 (by decide) (fun c65 => ?_) (fun c65 => ?_)
              · refine lv_iconst (v := (-1)) hx hb dX4_rootCell_76 (by decide) ?_
                refine mw_iret hC hM hr hlk dX4_rootCell_77 (Nat.le_of_ble_eq_true rfl) (Nat.le_of_ble_eq_true rfl) ⟨_, rfl, ?_⟩
                exact ⟨3, 0, Or.inr ⟨k, hk, Or.inr ⟨j, hj, rfl, Or.inl ⟨rfl, c43, c53⟩⟩⟩, Or.inl ⟨by decide, rfl, rfl⟩⟩
              · exact absurd c65 (by decide)
        · exact absurd c26 (by decide)
    · exact absurd (nI_pos' (by omega)) c10
  · refine W.eq (g2 := F0 m 10 ls [.int (-1)]) rfl ?_
    refine lv_if_ge (tgt := 21) hx hb dX4_rootCell_10 (by decide) (fun c10 => ?_) (fun c10 => ?_)
    · exact absurd c10 (by decide)
    · refine lv_aload_n hx hb dX4_rootCell_13 rfl (lv_at hl 0 rfl) ?_
      refine lv_iconst (v := 1) hx hb dX4_rootCell_14 (by decide) ?_
      refine pu_10_0 (index := 53) (v := 1) hC hM hK.1 mb_490 dX4_rootCell_15 (fun H locs hM => ?_)
      rw [mo_um] at hM
      refine lv_goto (tgt := 61) hx hb dX4_rootCell_18 (by decide) ?_
      refine lv_aload_n hx hb dX4_rootCell_61 rfl (lv_at hl 0 rfl) ?_
      refine gi_10_0 (index := 53) hC hM hK.1 mb_490 dX4_rootCell_62 ?_
      rw [mo_i]
      rw [show (su (su S 0 0) 0 1).1 0 = 1 from by first | rfl | simp [su, sa, va_up]]
      refine lv_if_ne (tgt := 76) hx hb dX4_rootCell_65 (by decide) (fun c65 => ?_) (fun c65 => ?_)
      · refine lv_iconst (v := (-1)) hx hb dX4_rootCell_76 (by decide) ?_
        refine mw_iret hC hM hr hlk dX4_rootCell_77 (Nat.le_of_ble_eq_true rfl) (Nat.le_of_ble_eq_true rfl) ⟨_, rfl, ?_⟩
        exact ⟨1, 0, Or.inl ⟨rfl, hk⟩, Or.inl ⟨by decide, rfl, rfl⟩⟩
      · exact absurd c65 (by decide)

-- StableHeapModel.lockCell
set_option maxHeartbeats 4000000 in
set_option maxRecDepth 100000 in
theorem c_X4_lockCell (l : Launch) (hl0 : l.stackTraces = false) (D : va_G) (cs : Nat → ClassId) (h : th_S) (sz : Nat) (o : Nat) (A : Nat → Nat) (hK : mo_K o A h) (S : th_N) (d : Nat) (hd9 : d < 324) (t : Int32) : th_M l yX4_lockCell wsX4_lockCell { frames := 0, cells := 0, slots := 0, locals := 0 } D cs (mo_h o A h S) sz [.ref o, .int (nI d), .int t] (fun v h' => v = none ∧ h' = mo_h o A h (mo_lc S d t)) (fun E h' => False) := by
  rcases Nat.lt_or_ge d 320 with hc3 | hc3
  · skip
    refine mw_ofW (cc := cX4_lockCell) (maxL := 3) (ret := none) (by decide) rfl (fun w h => List.mem_cons_of_mem _ h) th_cd (Nat.le_of_ble_eq_true rfl) ?_
    intro p e s m below meth c hsz hC hr hlk hnm htab hM ls hl
    have hC : th_C D cs (mo_h o A h S) p m c cX4_lockCell 3 s [.ref o, .int (nI d), .int t] RX4 := hC
    have hx := hC.1.1
    have hb := hC.1.2.1
    have hl : lv_has ls 3 [(0, .ref o), (1, .int (nI d)), (2, .int t)] := hl
    refine lv_iload_n hx hb dX4_lockCell_0 rfl (lv_at hl 1 rfl) ?_
    refine lv_sipush (v := 320) hx hb dX4_lockCell_1 (by decide) ?_
    refine lv_icmp_lt (tgt := 21) hx hb dX4_lockCell_4 (by decide) (fun c4 => ?_) (fun c4 => ?_)
    · refine lv_aload_n hx hb dX4_lockCell_21 rfl (lv_at hl 0 rfl) ?_
      refine gr_10_3 (index := 16) hC hM hK.1 mb_493 dX4_lockCell_22 (hK.r3) ?_
      refine lv_iload_n hx hb dX4_lockCell_25 rfl (lv_at hl 1 rfl) ?_
      refine lv_iconst (v := 4) hx hb dX4_lockCell_26 (by decide) ?_
      refine lv_idiv hx hb dX4_lockCell_27 (by decide) ?_
      rw [show (nI d) / 4 = nI (d / 4) from nI_div4 (by omega)]
      refine lv_iload_n hx hb dX4_lockCell_28 rfl (lv_at hl 2 rfl) ?_
      refine as_7 (i := d / 4) (v := t) (n := 80) hC hM hK.k3 (by first | rfl | decide) (by omega) (by decide) dX4_lockCell_29 (fun H locs hM => ?_)
      rw [mo_u3 hK] at hM
      refine mw_vret hC hM hr hlk dX4_lockCell_30 (Nat.le_of_ble_eq_true rfl) (Nat.le_of_ble_eq_true rfl) ⟨_, rfl, ?_⟩
      exact ⟨rfl, by rw [mo_lc]; first | rw [if_pos hc3] | rw [if_neg (Nat.not_lt.mpr hc3)]⟩
    · exact absurd (nI_lt hc3 (by decide)) c4
  · skip
    refine mw_ofW (cc := cX4_lockCell) (maxL := 3) (ret := none) (by decide) rfl (fun w h => List.mem_cons_of_mem _ h) th_cd (Nat.le_of_ble_eq_true rfl) ?_
    intro p e s m below meth c hsz hC hr hlk hnm htab hM ls hl
    have hC : th_C D cs (mo_h o A h S) p m c cX4_lockCell 3 s [.ref o, .int (nI d), .int t] RX4 := hC
    have hx := hC.1.1
    have hb := hC.1.2.1
    have hl : lv_has ls 3 [(0, .ref o), (1, .int (nI d)), (2, .int t)] := hl
    refine lv_iload_n hx hb dX4_lockCell_0 rfl (lv_at hl 1 rfl) ?_
    refine lv_sipush (v := 320) hx hb dX4_lockCell_1 (by decide) ?_
    refine lv_icmp_lt (tgt := 21) hx hb dX4_lockCell_4 (by decide) (fun c4 => ?_) (fun c4 => ?_)
    · exact absurd c4 (nI_nlt hc3 (by omega))
    · refine lv_aload_n hx hb dX4_lockCell_7 rfl (lv_at hl 0 rfl) ?_
      refine gr_10_8 (index := 32) hC hM hK.1 mb_498 dX4_lockCell_8 (hK.r8) ?_
      refine lv_iload_n hx hb dX4_lockCell_11 rfl (lv_at hl 1 rfl) ?_
      refine lv_sipush (v := 320) hx hb dX4_lockCell_12 (by decide) ?_
      refine lv_isub hx hb dX4_lockCell_15 ?_
      rw [show (nI d) - 320 = nI (d - 320) from nI_sub hc3]
      refine lv_iload_n hx hb dX4_lockCell_16 rfl (lv_at hl 2 rfl) ?_
      refine as_7 (i := d - 320) (v := t) (n := 4) hC hM hK.k8 (by first | rfl | decide) (by omega) (by decide) dX4_lockCell_17 (fun H locs hM => ?_)
      rw [mo_u8 hK] at hM
      refine lv_goto (tgt := 30) hx hb dX4_lockCell_18 (by decide) ?_
      refine mw_vret hC hM hr hlk dX4_lockCell_30 (Nat.le_of_ble_eq_true rfl) (Nat.le_of_ble_eq_true rfl) ⟨_, rfl, ?_⟩
      exact ⟨rfl, by rw [mo_lc]; first | rw [if_pos hc3] | rw [if_neg (Nat.not_lt.mpr hc3)]⟩

-- StableHeapModel.assign
set_option maxHeartbeats 4000000 in
set_option maxRecDepth 100000 in
theorem c_X4_assign (l : Launch) (hl0 : l.stackTraces = false) (D : va_G) (cs : Nat → ClassId) (h : th_S) (sz : Nat) (o : Nat) (A : Nat → Nat) (hK : mo_K o A h) (S : th_N) (d : Nat) (hd9 : d < 324) (b k : Int32) (hb9 : b = 0 ∨ b = 1) : th_M l yX4_assign wsX4_assign { frames := 0, cells := 0, slots := 0, locals := 0 } D cs (mo_h o A h S) sz [.ref o, .int (nI d), .int b, .int k] (fun v h' => v = none ∧ h' = mo_h o A h (mo_as S d b k)) (fun E h' => False) := by
  rcases Nat.lt_or_ge d 320 with hc3 | hc3
  · skip
    refine mw_ofW (cc := cX4_assign) (maxL := 4) (ret := none) (by decide) rfl (fun w h => List.mem_cons_of_mem _ h) th_cd (Nat.le_of_ble_eq_true rfl) ?_
    intro p e s m below meth c hsz hC hr hlk hnm htab hM ls hl
    have hC : th_C D cs (mo_h o A h S) p m c cX4_assign 4 s [.ref o, .int (nI d), .int b, .int k] RX4 := hC
    have hx := hC.1.1
    have hb := hC.1.2.1
    have hl : lv_has ls 4 [(0, .ref o), (1, .int (nI d)), (2, .int b), (3, .int k)] := hl
    refine lv_iload_n hx hb dX4_assign_0 rfl (lv_at hl 1 rfl) ?_
    refine lv_sipush (v := 320) hx hb dX4_assign_1 (by decide) ?_
    refine lv_icmp_lt (tgt := 21) hx hb dX4_assign_4 (by decide) (fun c4 => ?_) (fun c4 => ?_)
    · refine lv_aload_n hx hb dX4_assign_21 rfl (lv_at hl 0 rfl) ?_
      refine gr_10_4 (index := 19) hC hM hK.1 mb_494 dX4_assign_22 (hK.r4) ?_
      refine lv_iload_n hx hb dX4_assign_25 rfl (lv_at hl 1 rfl) ?_
      refine lv_iload_n hx hb dX4_assign_26 rfl (lv_at hl 2 rfl) ?_
      refine as_8 (i := d) (v := b) (n := 320) hC hM hK.k4 (by first | rfl | decide) (by omega) (by decide) (hb9) dX4_assign_27 (fun H locs hM => ?_)
      rw [mo_u4 hK] at hM
      refine lv_aload_n hx hb dX4_assign_28 rfl (lv_at hl 0 rfl) ?_
      refine gr_10_5 (index := 23) hC hM hK.1 mb_495 dX4_assign_29 (hK.r5) ?_
      refine lv_iload_n hx hb dX4_assign_32 rfl (lv_at hl 1 rfl) ?_
      refine lv_iload_n hx hb dX4_assign_33 rfl (lv_at hl 3 rfl) ?_
      refine as_7 (i := d) (v := k) (n := 320) hC hM hK.k5 (by first | rfl | decide) (by omega) (by decide) dX4_assign_34 (fun H locs hM => ?_)
      rw [mo_u5 hK] at hM
      refine mw_vret hC hM hr hlk dX4_assign_35 (Nat.le_of_ble_eq_true rfl) (Nat.le_of_ble_eq_true rfl) ⟨_, rfl, ?_⟩
      exact ⟨rfl, by rw [mo_as]; first | rw [if_pos hc3] | rw [if_neg (Nat.not_lt.mpr hc3)]⟩
    · exact absurd (nI_lt hc3 (by decide)) c4
  · skip
    refine mw_ofW (cc := cX4_assign) (maxL := 4) (ret := none) (by decide) rfl (fun w h => List.mem_cons_of_mem _ h) th_cd (Nat.le_of_ble_eq_true rfl) ?_
    intro p e s m below meth c hsz hC hr hlk hnm htab hM ls hl
    have hC : th_C D cs (mo_h o A h S) p m c cX4_assign 4 s [.ref o, .int (nI d), .int b, .int k] RX4 := hC
    have hx := hC.1.1
    have hb := hC.1.2.1
    have hl : lv_has ls 4 [(0, .ref o), (1, .int (nI d)), (2, .int b), (3, .int k)] := hl
    refine lv_iload_n hx hb dX4_assign_0 rfl (lv_at hl 1 rfl) ?_
    refine lv_sipush (v := 320) hx hb dX4_assign_1 (by decide) ?_
    refine lv_icmp_lt (tgt := 21) hx hb dX4_assign_4 (by decide) (fun c4 => ?_) (fun c4 => ?_)
    · exact absurd c4 (nI_nlt hc3 (by omega))
    · refine lv_aload_n hx hb dX4_assign_7 rfl (lv_at hl 0 rfl) ?_
      refine gr_10_7 (index := 29) hC hM hK.1 mb_497 dX4_assign_8 (hK.r7) ?_
      refine lv_iload_n hx hb dX4_assign_11 rfl (lv_at hl 1 rfl) ?_
      refine lv_sipush (v := 320) hx hb dX4_assign_12 (by decide) ?_
      refine lv_isub hx hb dX4_assign_15 ?_
      rw [show (nI d) - 320 = nI (d - 320) from nI_sub hc3]
      refine lv_iload_n hx hb dX4_assign_16 rfl (lv_at hl 3 rfl) ?_
      refine as_7 (i := d - 320) (v := k) (n := 4) hC hM hK.k7 (by first | rfl | decide) (by omega) (by decide) dX4_assign_17 (fun H locs hM => ?_)
      rw [mo_u7 hK] at hM
      refine lv_goto (tgt := 35) hx hb dX4_assign_18 (by decide) ?_
      refine mw_vret hC hM hr hlk dX4_assign_35 (Nat.le_of_ble_eq_true rfl) (Nat.le_of_ble_eq_true rfl) ⟨_, rfl, ?_⟩
      exact ⟨rfl, by rw [mo_as]; first | rw [if_pos hc3] | rw [if_neg (Nat.not_lt.mpr hc3)]⟩

-- the loop at 2 of StableHeapModel.replaced
set_option maxHeartbeats 4000000 in
set_option maxRecDepth 100000 in
theorem lo_X4_replaced_2 {l : Launch} (hl0 : l.stackTraces = false) {D : va_G} {cs : Nat → ClassId} {h : th_S} (o : Nat) (A : Nat → Nat) (hK : mo_K o A h) (S : th_N) (t : Int32) (d : Nat) (u : Nat) (hu : S.1 20 = nI u) (hu6 : u ≤ 60) {p : Program} {e : Env} {s : State} {m : MethodId} {below : List Frame} {meth : Method} {c : Code} (hC : th_C D cs (mo_h o A h S) p m c cX4_replaced 4 s [.ref o, .int t, .int (nI d)] RX4) (hr : meth.sig.returnType = some .boolean) (hlk : meth.locks = false) (htab : ∀ x ∈ c.exceptionTable.toList, False) : ∀ (q : Nat) (i : Nat) (H : Heap) (locs : List Loc) (ls : Array Slot), (i + q = u) → (∀ k, k < i → ¬ (S.2 16 k = t ∧ S.2 17 k = nI d)) → th_H D cs (mo_h o A h S) s (mo_h o A h S) H locs → lv_has ls 4 [(0, .ref o), (1, .int t), (2, .int (nI d)), (3, .int (nI i))] → W p l e { frames := 0, cells := 0, slots := 0, locals := 0 } s m [.ref o, .int t, .int (nI d)].toArray below meth c H locs 0 0 (th_Q below D cs (mo_h o A h S) s [.ref o, .int t, .int (nI d)] (fun v h' => h' = mo_h o A h S ∧ ((mo_rp S u t d ∧ v = some (.int 1)) ∨ (¬ mo_rp S u t d ∧ v = some (.int 0)))) (fun E h' => False) 0 0) (F0 m 2 ls []) := by
  have hx := hC.1.1
  have hb := hC.1.2.1
  intro q
  induction q with
  | zero =>
    intro i H locs ls hin hn hM hl
    refine lv_iload_n hx hb dX4_replaced_2 rfl (lv_at hl 3 rfl) ?_
    refine lv_aload_n hx hb dX4_replaced_3 rfl (lv_at hl 0 rfl) ?_
    refine gi_10_20 (index := 90) hC hM hK.1 mb_510 dX4_replaced_4 ?_
    rw [mo_i]
    rw [show S.1 20 = nI u from hu]
    refine lv_icmp_ge (tgt := 38) hx hb dX4_replaced_7 (by decide) (fun c7 => ?_) (fun c7 => ?_)
    · refine lv_iconst (v := 0) hx hb dX4_replaced_38 (by decide) ?_
      refine mw_zret hC hM hr hlk (rfl) dX4_replaced_39 (Nat.le_of_ble_eq_true rfl) (Nat.le_of_ble_eq_true rfl) ⟨_, rfl, ?_⟩
      exact ⟨rfl, Or.inr ⟨fun ⟨k, hk, z1, z2⟩ => hn k (by omega) ⟨z1, z2⟩, rfl⟩⟩
    · exact absurd (nI_le (show u ≤ i by omega) (by omega)) c7
  | succ q ih =>
    intro i H locs ls hin hn hM hl
    refine lv_iload_n hx hb dX4_replaced_2 rfl (lv_at hl 3 rfl) ?_
    refine lv_aload_n hx hb dX4_replaced_3 rfl (lv_at hl 0 rfl) ?_
    refine gi_10_20 (index := 90) hC hM hK.1 mb_510 dX4_replaced_4 ?_
    rw [mo_i]
    rw [show S.1 20 = nI u from hu]
    refine lv_icmp_ge (tgt := 38) hx hb dX4_replaced_7 (by decide) (fun c7 => ?_) (fun c7 => ?_)
    · exact absurd c7 (nI_ge (by omega) (by omega))
    · refine lv_aload_n hx hb dX4_replaced_10 rfl (lv_at hl 0 rfl) ?_
      refine gr_10_16 (index := 41) hC hM hK.1 mb_506 dX4_replaced_11 (hK.r16) ?_
      refine lv_iload_n hx hb dX4_replaced_14 rfl (lv_at hl 3 rfl) ?_
      refine al_7 (i := i) (n := 60) hC hM hK.k16 (by first | rfl | decide) (by omega) (by decide) dX4_replaced_15 ?_
      rw [mo_a16 hK]
      refine lv_iload_n hx hb dX4_replaced_16 rfl (lv_at hl 1 rfl) ?_
      refine lv_icmp_ne (tgt := 32) hx hb dX4_replaced_17 (by decide) (fun c17 => ?_) (fun c17 => ?_)
      · refine lv_iinc (v := nI (i + 1)) (lv' := [(3, .int (nI (i + 1))), (0, .ref o), (1, .int t), (2, .int (nI d))]) hx hb dX4_replaced_32 hl (k := 3) rfl (by exact nI_1 i) (by first | decide | omega) rfl (fun ls hl => ?_)
        refine lv_goto (tgt := 2) hx hb dX4_replaced_35 (by decide) ?_
        exact ih (i + 1) H locs ls (by omega) (fun k hk => by
          rcases Nat.lt_or_ge k i with z | z
          · exact hn k z
          · rw [show k = i by omega]; exact fun z9 => c17 z9.1) hM (lv_sub hl [1, 2, 3, 0] rfl)
      · refine lv_aload_n hx hb dX4_replaced_20 rfl (lv_at hl 0 rfl) ?_
        refine gr_10_17 (index := 44) hC hM hK.1 mb_507 dX4_replaced_21 (hK.r17) ?_
        refine lv_iload_n hx hb dX4_replaced_24 rfl (lv_at hl 3 rfl) ?_
        refine al_7 (i := i) (n := 60) hC hM hK.k17 (by first | rfl | decide) (by omega) (by decide) dX4_replaced_25 ?_
        rw [mo_a17 hK]
        refine lv_iload_n hx hb dX4_replaced_26 rfl (lv_at hl 2 rfl) ?_
        refine lv_icmp_ne (tgt := 32) hx hb dX4_replaced_27 (by decide) (fun c27 => ?_) (fun c27 => ?_)
        · refine lv_iinc (v := nI (i + 1)) (lv' := [(3, .int (nI (i + 1))), (0, .ref o), (1, .int t), (2, .int (nI d))]) hx hb dX4_replaced_32 hl (k := 3) rfl (by exact nI_1 i) (by first | decide | omega) rfl (fun ls hl => ?_)
          refine lv_goto (tgt := 2) hx hb dX4_replaced_35 (by decide) ?_
          exact ih (i + 1) H locs ls (by omega) (fun k hk => by
            rcases Nat.lt_or_ge k i with z | z
            · exact hn k z
            · rw [show k = i by omega]; exact fun z9 => c27 z9.2) hM (lv_sub hl [1, 2, 3, 0] rfl)
        · refine lv_iconst (v := 1) hx hb dX4_replaced_30 (by decide) ?_
          refine mw_zret hC hM hr hlk (rfl) dX4_replaced_31 (Nat.le_of_ble_eq_true rfl) (Nat.le_of_ble_eq_true rfl) ⟨_, rfl, ?_⟩
          exact ⟨rfl, Or.inl ⟨⟨i, by omega, c17, c27⟩, rfl⟩⟩

-- StableHeapModel.replaced
set_option maxHeartbeats 4000000 in
set_option maxRecDepth 100000 in
theorem c_X4_replaced (l : Launch) (hl0 : l.stackTraces = false) (D : va_G) (cs : Nat → ClassId) (h : th_S) (sz : Nat) (o : Nat) (A : Nat → Nat) (hK : mo_K o A h) (S : th_N) (t : Int32) (d : Nat) (u : Nat) (hu : S.1 20 = nI u) (hu6 : u ≤ 60) : th_M l yX4_replaced wsX4_replaced { frames := 0, cells := 0, slots := 0, locals := 0 } D cs (mo_h o A h S) sz [.ref o, .int t, .int (nI d)] (fun v h' => h' = mo_h o A h S ∧ ((mo_rp S u t d ∧ v = some (.int 1)) ∨ (¬ mo_rp S u t d ∧ v = some (.int 0)))) (fun E h' => False) := by
  refine mw_ofW (cc := cX4_replaced) (maxL := 4) (ret := (some .boolean)) (by decide) rfl (fun w h => List.mem_cons_of_mem _ h) th_cd (Nat.le_of_ble_eq_true rfl) ?_
  intro p e s m below meth c hsz hC hr hlk hnm htab hM ls hl
  have hC : th_C D cs (mo_h o A h S) p m c cX4_replaced 4 s [.ref o, .int t, .int (nI d)] RX4 := hC
  have hx := hC.1.1
  have hb := hC.1.2.1
  have hl : lv_has ls 4 [(0, .ref o), (1, .int t), (2, .int (nI d))] := hl
  refine lv_iconst (v := 0) hx hb dX4_replaced_0 (by decide) ?_
  refine lv_istore_n (lv' := [(3, .int 0), (0, .ref o), (1, .int t), (2, .int (nI d))]) hx hb dX4_replaced_1 rfl hl (by decide) rfl (fun ls hl => ?_)
  exact lo_X4_replaced_2 hl0 o A hK S t d u hu hu6 hC hr hlk htab u 0 _ _ ls (by omega) (fun k hk => absurd hk (Nat.not_lt_zero k)) hM (lv_sub hl [1, 2, 3, 0] rfl)

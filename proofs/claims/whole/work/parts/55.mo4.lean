def mo_rf (S : th_N) (u : Nat) (t : Int32) (k d : Nat) (g : Int32) (v : Option Value) (T : th_N) : Prop :=
  (¬ g = 0 ∧ mo_nr S g ∧ v = some (.int 0) ∧ T = su S 0 4) ∨ ((g = 0 ∨ ∃ r, mo_rw S g r) ∧ ((¬ mo_lg S + 3 ≤ 150 ∧ v = some (.int 0) ∧ T = su S 0 5) ∨ (mo_lg S + 3 ≤ 150 ∧ v = some (.int 1) ∧ mo_st S u t k d 1 g T)))

theorem mo_rf.v {S : th_N} {u : Nat} {t : Int32} {k d : Nat} {g : Int32} {v : Option Value} {T : th_N} (h : mo_rf S u t k d g v T) : v = some (.int 0) ∨ v = some (.int 1) := by
  rcases h with ⟨-, -, e, -⟩ | ⟨-, ⟨-, e, -⟩ | ⟨-, e, -⟩⟩
  · exact Or.inl e
  · exact Or.inl e
  · exact Or.inr e

theorem mo_rc.j {S : th_N} {t b : Int32} {c : Nat} (h : mo_rc S t b 0 c) : ∃ j, j < 4 ∧ b = nI j ∧ c = 320 + j := by
  rcases h with ⟨e, -⟩ | ⟨k, hk, ⟨e, -⟩ | ⟨j, hj, eb, ⟨e, -⟩ | ⟨-, -, e⟩⟩⟩
  · exact absurd e (by decide)
  · exact absurd e (by decide)
  · exact absurd e (by decide)
  · exact ⟨j, hj, eb, e⟩

-- StableHeapModel.set
set_option maxHeartbeats 4000000 in
set_option maxRecDepth 100000 in
theorem c_X4_set (l : Launch) (hl0 : l.stackTraces = false) (D : va_G) (cs : Nat → ClassId) (h : th_S) (sz : Nat) (o : Nat) (A : Nat → Nat) (hK : mo_K o A h) (S : th_N) (t : Int32) (d : Nat) (hd9 : d < 324) (b w : Int32) (hb9 : b = 0 ∨ b = 1) (u : Nat) (hu : S.1 20 = nI u) (hu6 : u < 60) (k : Nat) (hk : mo_tx S t k) : th_M l yX4_set wsX4_set { frames := 1, cells := 0, slots := 0, locals := 23 } D cs (mo_h o A h S) sz [.ref o, .int t, .int (nI d), .int b, .int w] (fun v h' => v = some (.int 1) ∧ ∃ T, mo_st S u t k d b w T ∧ h' = mo_h o A h T) (fun E h' => False) := by
  rcases Nat.lt_or_ge d 320 with hc3 | hc3
  · skip
    refine mw_ofW (cc := cX4_set) (maxL := 5) (ret := (some .int)) (by decide) rfl (fun w h => List.mem_cons_of_mem _ h) th_cd (Nat.le_of_ble_eq_true rfl) ?_
    intro p e s m below meth c hsz hC hr hlk hnm htab hM ls hl
    have hC : th_C D cs (mo_h o A h S) p m c cX4_set 5 s [.ref o, .int t, .int (nI d), .int b, .int w] RX4 := hC
    have hx := hC.1.1
    have hb := hC.1.2.1
    have hl : lv_has ls 5 [(0, .ref o), (1, .int t), (2, .int (nI d)), (3, .int b), (4, .int w)] := hl
    have hk3 : k < 3 := hk.1
    refine lv_aload_n hx hb dX4_set_0 rfl (lv_at hl 0 rfl) ?_
    refine lv_iload_n hx hb dX4_set_1 rfl (lv_at hl 1 rfl) ?_
    refine lv_iload_n hx hb dX4_set_2 rfl (lv_at hl 2 rfl) ?_
    refine mw_callV (As := [.int t, .int (nI d)]) (rest := []) (n := 2) (C := RX4) (T := TX4) (N := 21) (ci := 4) hC hM (c_X4_replaced l hl0 D cs h s.heap.size o A hK S t d u hu (by omega)) (cwV 2 hC.1.2.2.2.2 (tb_V mb_596 mb_597 mb_24 mb_40 mb_598) rfl rfl rfl (by decide +kernel) ⟨Nat.le_of_ble_eq_true rfl, Nat.le_of_ble_eq_true rfl⟩) (th_at (h := mo_h o A h S) hK.1) rfl rfl rfl hl.1 (Nat.le_of_ble_eq_true rfl) dX4_set_3 ⟨Nat.le_of_ble_eq_true rfl, Nat.le_of_ble_eq_true rfl⟩ (fun E ce q9 g9 H locs hp9 hM hce hcv hcl => ?_) (fun v9 g9 H locs hp9 hM => ?_)
    · exact (hp9.elim fun _ h9 => h9.2.elim)
    obtain ⟨h3, rfl, hp9⟩ := hp9
    obtain ⟨rfl, hp9⟩ := hp9
    rcases hp9 with ⟨hrp, rfl⟩ | ⟨hrp, rfl⟩
    · refine W.eq (g2 := F0 m 6 ls [.int 1]) rfl ?_
      refine lv_if_ne (tgt := 104) hx hb dX4_set_6 (by decide) (fun c6 => ?_) (fun c6 => ?_)
      · refine lv_aload_n hx hb dX4_set_104 rfl (lv_at hl 0 rfl) ?_
        refine lv_iload_n hx hb dX4_set_105 rfl (lv_at hl 2 rfl) ?_
        refine lv_iload_n hx hb dX4_set_106 rfl (lv_at hl 1 rfl) ?_
        refine mw_callV (As := [.int (nI d), .int t]) (rest := []) (n := 2) (C := RX4) (T := TX4) (N := 21) (ci := 4) hC hM (c_X4_lockCell l hl0 D cs h H.size o A hK S d hd9 t) (cwV 2 hC.1.2.2.2.2 (tb_V mb_599 mb_600 mb_25 mb_40 mb_601) rfl rfl rfl (by decide +kernel) ⟨Nat.le_of_ble_eq_true rfl, Nat.le_of_ble_eq_true rfl⟩) (th_at (h := mo_h o A h S) hK.1) rfl rfl rfl hl.1 (Nat.le_of_ble_eq_true rfl) dX4_set_107 ⟨Nat.le_of_ble_eq_true rfl, Nat.le_of_ble_eq_true rfl⟩ (fun E ce q9 g9 H locs hp9 hM hce hcv hcl => ?_) (fun v9 g9 H locs hp9 hM => ?_)
        · exact (hp9.elim fun _ h9 => h9.2.elim)
        obtain ⟨h107, rfl, hp9⟩ := hp9
        obtain ⟨rfl, rfl⟩ := hp9
        refine W.eq (g2 := F0 m 110 ls []) rfl ?_
        refine lv_aload_n hx hb dX4_set_110 rfl (lv_at hl 0 rfl) ?_
        refine gr_10_12 (index := 38) hC hM hK.1 mb_502 dX4_set_111 (hK.r12) ?_
        refine lv_aload_n hx hb dX4_set_114 rfl (lv_at hl 0 rfl) ?_
        refine lv_iload_n hx hb dX4_set_115 rfl (lv_at hl 1 rfl) ?_
        refine mw_callV (As := [.int t]) (rest := [.ref (A 12)]) (n := 1) (C := RX4) (T := TX4) (N := 21) (ci := 4) hC hM (c_X4_place l hl0 D cs h H.size o A hK (mo_lc S d t) t) (cwV 1 hC.1.2.2.2.2 (tb_V mb_577 mb_578 mb_20 mb_40 mb_579) rfl rfl rfl (by decide +kernel) ⟨Nat.le_of_ble_eq_true rfl, Nat.le_of_ble_eq_true rfl⟩) (th_at (h := mo_h o A h (mo_lc S d t)) hK.1) rfl rfl rfl hl.1 (Nat.le_of_ble_eq_true rfl) dX4_set_116 ⟨Nat.le_of_ble_eq_true rfl, Nat.le_of_ble_eq_true rfl⟩ (fun E ce q9 g9 H locs hp9 hM hce hcv hcl => ?_) (fun v9 g9 H locs hp9 hM => ?_)
        · exact (hp9.elim fun _ h9 => h9.2.elim)
        obtain ⟨h116, rfl, hp9⟩ := hp9
        obtain ⟨rfl, hp9⟩ := hp9
        rcases hp9 with ⟨k2, hk2, rfl⟩ | ⟨hk2, rfl⟩
        · rw [mo_tx_u (mo_lc_n _ _ _ (by decide) (by decide)) hk hk2]
          refine W.eq (g2 := F0 m 119 ls [.int (nI k), .ref (A 12)]) rfl ?_
          refine lv_dup2_11 hx hb dX4_set_119 rfl rfl ?_
          refine al_7 (i := k) (n := 3) hC hM hK.k12 (by first | rfl | decide) (by omega) (by decide) dX4_set_120 ?_
          rw [mo_a12 hK]
          rw [show (mo_lc S d t).2 12 k = S.2 12 k from by rw [mo_lc_n _ _ _ (by decide) (by decide)]]
          refine lv_iconst (v := 3) hx hb dX4_set_121 (by decide) ?_
          refine lv_iadd hx hb dX4_set_122 ?_
          refine as_7 (i := k) (v := (S.2 12 k) + 3) (n := 3) hC hM hK.k12 (by first | rfl | decide) (by omega) (by decide) dX4_set_123 (fun H locs hM => ?_)
          rw [mo_u12 hK] at hM
          refine lv_aload_n hx hb dX4_set_124 rfl (lv_at hl 0 rfl) ?_
          refine lv_iload_n hx hb dX4_set_125 rfl (lv_at hl 2 rfl) ?_
          refine lv_iload_n hx hb dX4_set_126 rfl (lv_at hl 3 rfl) ?_
          refine lv_iload hx hb dX4_set_127 (lv_at hl 4 rfl) ?_
          refine mw_callV (As := [.int (nI d), .int b, .int w]) (rest := []) (n := 3) (C := RX4) (T := TX4) (N := 21) (ci := 4) hC hM (c_X4_assign l hl0 D cs h H.size o A hK (sa (mo_lc S d t) 12 k ((S.2 12 k) + 3)) d hd9 b w hb9) (cwV 3 hC.1.2.2.2.2 (tb_V mb_602 mb_603 mb_26 mb_40 mb_604) rfl rfl rfl (by decide +kernel) ⟨Nat.le_of_ble_eq_true rfl, Nat.le_of_ble_eq_true rfl⟩) (th_at (h := mo_h o A h (sa (mo_lc S d t) 12 k ((S.2 12 k) + 3))) hK.1) rfl rfl rfl hl.1 (Nat.le_of_ble_eq_true rfl) dX4_set_129 ⟨Nat.le_of_ble_eq_true rfl, Nat.le_of_ble_eq_true rfl⟩ (fun E ce q9 g9 H locs hp9 hM hce hcv hcl => ?_) (fun v9 g9 H locs hp9 hM => ?_)
          · exact (hp9.elim fun _ h9 => h9.2.elim)
          obtain ⟨h129, rfl, hp9⟩ := hp9
          obtain ⟨rfl, rfl⟩ := hp9
          refine W.eq (g2 := F0 m 132 ls []) rfl ?_
          refine lv_iconst (v := 1) hx hb dX4_set_132 (by decide) ?_
          refine mw_iret hC hM hr hlk dX4_set_133 (Nat.le_of_ble_eq_true rfl) (Nat.le_of_ble_eq_true rfl) ⟨_, rfl, ?_⟩
          exact ⟨rfl, _, Or.inl ⟨hrp, rfl⟩, rfl⟩
        · exact (mo_tx_n (mo_lc_n _ _ _ (by decide) (by decide)) hk hk2).elim
      · exact absurd c6 (by decide)
    · refine W.eq (g2 := F0 m 6 ls [.int 0]) rfl ?_
      refine lv_if_ne (tgt := 104) hx hb dX4_set_6 (by decide) (fun c6 => ?_) (fun c6 => ?_)
      · exact absurd c6 (by decide)
      · refine lv_aload_n hx hb dX4_set_9 rfl (lv_at hl 0 rfl) ?_
        refine gr_10_16 (index := 41) hC hM hK.1 mb_506 dX4_set_10 (hK.r16) ?_
        refine lv_aload_n hx hb dX4_set_13 rfl (lv_at hl 0 rfl) ?_
        refine gi_10_20 (index := 90) hC hM hK.1 mb_510 dX4_set_14 ?_
        rw [mo_i]
        rw [show S.1 20 = nI u from hu]
        refine lv_iload_n hx hb dX4_set_17 rfl (lv_at hl 1 rfl) ?_
        refine as_7 (i := u) (v := t) (n := 60) hC hM hK.k16 (by first | rfl | decide) (by omega) (by decide) dX4_set_18 (fun H locs hM => ?_)
        rw [mo_u16 hK] at hM
        refine lv_aload_n hx hb dX4_set_19 rfl (lv_at hl 0 rfl) ?_
        refine gr_10_17 (index := 44) hC hM hK.1 mb_507 dX4_set_20 (hK.r17) ?_
        refine lv_aload_n hx hb dX4_set_23 rfl (lv_at hl 0 rfl) ?_
        refine gi_10_20 (index := 90) hC hM hK.1 mb_510 dX4_set_24 ?_
        rw [mo_i]
        rw [show (sa S 16 u t).1 20 = S.1 20 from by first | rfl | simp [su, sa, va_up]]
        rw [show S.1 20 = nI u from hu]
        refine lv_iload_n hx hb dX4_set_27 rfl (lv_at hl 2 rfl) ?_
        refine as_7 (i := u) (v := nI d) (n := 60) hC hM hK.k17 (by first | rfl | decide) (by omega) (by decide) dX4_set_28 (fun H locs hM => ?_)
        rw [mo_u17 hK] at hM
        refine lv_aload_n hx hb dX4_set_29 rfl (lv_at hl 0 rfl) ?_
        refine gr_10_18 (index := 47) hC hM hK.1 mb_508 dX4_set_30 (hK.r18) ?_
        refine lv_aload_n hx hb dX4_set_33 rfl (lv_at hl 0 rfl) ?_
        refine gi_10_20 (index := 90) hC hM hK.1 mb_510 dX4_set_34 ?_
        rw [mo_i]
        rw [show (sa (sa S 16 u t) 17 u (nI d)).1 20 = S.1 20 from by first | rfl | simp [su, sa, va_up]]
        rw [show S.1 20 = nI u from hu]
        refine lv_iload_n hx hb dX4_set_37 rfl (lv_at hl 2 rfl) ?_
        refine lv_sipush (v := 320) hx hb dX4_set_38 (by decide) ?_
        refine lv_icmp_ge (tgt := 53) hx hb dX4_set_41 (by decide) (fun c41 => ?_) (fun c41 => ?_)
        · exact absurd c41 (nI_ge hc3 (by decide))
        · refine lv_aload_n hx hb dX4_set_44 rfl (lv_at hl 0 rfl) ?_
          refine gr_10_4 (index := 19) hC hM hK.1 mb_494 dX4_set_45 (hK.r4) ?_
          refine lv_iload_n hx hb dX4_set_48 rfl (lv_at hl 2 rfl) ?_
          refine al_8 (i := d) (n := 320) hC hM hK.k4 (by first | rfl | decide) (by omega) (by decide) dX4_set_49 ?_
          rw [mo_a4 hK]
          rw [show (sa (sa S 16 u t) 17 u (nI d)).2 4 d = S.2 4 d from by first | rfl | simp [su, sa, va_up]]
          refine lv_if_eq (tgt := 57) hx hb dX4_set_50 (by decide) (fun c50 => ?_) (fun c50 => ?_)
          · refine lv_iconst (v := 0) hx hb dX4_set_57 (by decide) ?_
            refine as_8 (i := u) (v := 0) (n := 60) hC hM hK.k18 (by first | rfl | decide) (by omega) (by decide) (by first | exact Or.inl rfl | exact Or.inr rfl) dX4_set_58 (fun H locs hM => ?_)
            rw [mo_u18 hK] at hM
            refine lv_aload_n hx hb dX4_set_59 rfl (lv_at hl 0 rfl) ?_
            refine gr_10_19 (index := 50) hC hM hK.1 mb_509 dX4_set_60 (hK.r19) ?_
            refine lv_aload_n hx hb dX4_set_63 rfl (lv_at hl 0 rfl) ?_
            refine gi_10_20 (index := 90) hC hM hK.1 mb_510 dX4_set_64 ?_
            rw [mo_i]
            rw [show (sa (sa (sa S 16 u t) 17 u (nI d)) 18 u 0).1 20 = S.1 20 from by first | rfl | simp [su, sa, va_up]]
            rw [show S.1 20 = nI u from hu]
            refine lv_iload_n hx hb dX4_set_67 rfl (lv_at hl 2 rfl) ?_
            refine lv_sipush (v := 320) hx hb dX4_set_68 (by decide) ?_
            refine lv_icmp_lt (tgt := 87) hx hb dX4_set_71 (by decide) (fun c71 => ?_) (fun c71 => ?_)
            · refine lv_aload_n hx hb dX4_set_87 rfl (lv_at hl 0 rfl) ?_
              refine gr_10_5 (index := 23) hC hM hK.1 mb_495 dX4_set_88 (hK.r5) ?_
              refine lv_iload_n hx hb dX4_set_91 rfl (lv_at hl 2 rfl) ?_
              refine al_7 (i := d) (n := 320) hC hM hK.k5 (by first | rfl | decide) (by omega) (by decide) dX4_set_92 ?_
              rw [mo_a5 hK]
              rw [show (sa (sa (sa S 16 u t) 17 u (nI d)) 18 u 0).2 5 d = S.2 5 d from by first | rfl | simp [su, sa, va_up]]
              refine as_7 (i := u) (v := S.2 5 d) (n := 60) hC hM hK.k19 (by first | rfl | decide) (by omega) (by decide) dX4_set_93 (fun H locs hM => ?_)
              rw [mo_u19 hK] at hM
              refine lv_aload_n hx hb dX4_set_94 rfl (lv_at hl 0 rfl) ?_
              refine lv_dup hx hb dX4_set_95 rfl ?_
              refine gi_10_20 (index := 90) hC hM hK.1 mb_510 dX4_set_96 ?_
              rw [mo_i]
              rw [show (sa (sa (sa (sa S 16 u t) 17 u (nI d)) 18 u 0) 19 u (S.2 5 d)).1 20 = S.1 20 from by first | rfl | simp [su, sa, va_up]]
              rw [show S.1 20 = nI u from hu]
              refine lv_iconst (v := 1) hx hb dX4_set_99 (by decide) ?_
              refine lv_iadd hx hb dX4_set_100 ?_
              rw [show (nI u) + 1 = nI (u + 1) from nI_1 u]
              refine pu_10_20 (index := 90) (v := nI (u + 1)) hC hM hK.1 mb_510 dX4_set_101 (fun H locs hM => ?_)
              rw [mo_um] at hM
              rw [show su (sa (sa (sa (sa S 16 u t) 17 u (nI d)) 18 u 0) 19 u (S.2 5 d)) 20 (nI (u + 1)) = mo_pu S u t d from by simp [mo_pu, hc3, c50]] at hM
              refine lv_aload_n hx hb dX4_set_104 rfl (lv_at hl 0 rfl) ?_
              refine lv_iload_n hx hb dX4_set_105 rfl (lv_at hl 2 rfl) ?_
              refine lv_iload_n hx hb dX4_set_106 rfl (lv_at hl 1 rfl) ?_
              refine mw_callV (As := [.int (nI d), .int t]) (rest := []) (n := 2) (C := RX4) (T := TX4) (N := 21) (ci := 4) hC hM (c_X4_lockCell l hl0 D cs h H.size o A hK (mo_pu S u t d) d hd9 t) (cwV 2 hC.1.2.2.2.2 (tb_V mb_599 mb_600 mb_25 mb_40 mb_601) rfl rfl rfl (by decide +kernel) ⟨Nat.le_of_ble_eq_true rfl, Nat.le_of_ble_eq_true rfl⟩) (th_at (h := mo_h o A h (mo_pu S u t d)) hK.1) rfl rfl rfl hl.1 (Nat.le_of_ble_eq_true rfl) dX4_set_107 ⟨Nat.le_of_ble_eq_true rfl, Nat.le_of_ble_eq_true rfl⟩ (fun E ce q9 g9 H locs hp9 hM hce hcv hcl => ?_) (fun v9 g9 H locs hp9 hM => ?_)
              · exact (hp9.elim fun _ h9 => h9.2.elim)
              obtain ⟨h107, rfl, hp9⟩ := hp9
              obtain ⟨rfl, rfl⟩ := hp9
              refine W.eq (g2 := F0 m 110 ls []) rfl ?_
              refine lv_aload_n hx hb dX4_set_110 rfl (lv_at hl 0 rfl) ?_
              refine gr_10_12 (index := 38) hC hM hK.1 mb_502 dX4_set_111 (hK.r12) ?_
              refine lv_aload_n hx hb dX4_set_114 rfl (lv_at hl 0 rfl) ?_
              refine lv_iload_n hx hb dX4_set_115 rfl (lv_at hl 1 rfl) ?_
              refine mw_callV (As := [.int t]) (rest := [.ref (A 12)]) (n := 1) (C := RX4) (T := TX4) (N := 21) (ci := 4) hC hM (c_X4_place l hl0 D cs h H.size o A hK (mo_lc (mo_pu S u t d) d t) t) (cwV 1 hC.1.2.2.2.2 (tb_V mb_577 mb_578 mb_20 mb_40 mb_579) rfl rfl rfl (by decide +kernel) ⟨Nat.le_of_ble_eq_true rfl, Nat.le_of_ble_eq_true rfl⟩) (th_at (h := mo_h o A h (mo_lc (mo_pu S u t d) d t)) hK.1) rfl rfl rfl hl.1 (Nat.le_of_ble_eq_true rfl) dX4_set_116 ⟨Nat.le_of_ble_eq_true rfl, Nat.le_of_ble_eq_true rfl⟩ (fun E ce q9 g9 H locs hp9 hM hce hcv hcl => ?_) (fun v9 g9 H locs hp9 hM => ?_)
              · exact (hp9.elim fun _ h9 => h9.2.elim)
              obtain ⟨h116, rfl, hp9⟩ := hp9
              obtain ⟨rfl, hp9⟩ := hp9
              rcases hp9 with ⟨k2, hk2, rfl⟩ | ⟨hk2, rfl⟩
              · rw [mo_tx_u ((mo_lc_n _ _ _ (by decide) (by decide)).trans (mo_pu_n _ _ _ _ (by decide))) hk hk2]
                refine W.eq (g2 := F0 m 119 ls [.int (nI k), .ref (A 12)]) rfl ?_
                refine lv_dup2_11 hx hb dX4_set_119 rfl rfl ?_
                refine al_7 (i := k) (n := 3) hC hM hK.k12 (by first | rfl | decide) (by omega) (by decide) dX4_set_120 ?_
                rw [mo_a12 hK]
                rw [show (mo_lc (mo_pu S u t d) d t).2 12 k = S.2 12 k from by rw [mo_lc_n _ _ _ (by decide) (by decide)]; exact congrFun (mo_pu_n _ _ _ _ (by decide)) k]
                refine lv_iconst (v := 3) hx hb dX4_set_121 (by decide) ?_
                refine lv_iadd hx hb dX4_set_122 ?_
                refine as_7 (i := k) (v := (S.2 12 k) + 3) (n := 3) hC hM hK.k12 (by first | rfl | decide) (by omega) (by decide) dX4_set_123 (fun H locs hM => ?_)
                rw [mo_u12 hK] at hM
                refine lv_aload_n hx hb dX4_set_124 rfl (lv_at hl 0 rfl) ?_
                refine lv_iload_n hx hb dX4_set_125 rfl (lv_at hl 2 rfl) ?_
                refine lv_iload_n hx hb dX4_set_126 rfl (lv_at hl 3 rfl) ?_
                refine lv_iload hx hb dX4_set_127 (lv_at hl 4 rfl) ?_
                refine mw_callV (As := [.int (nI d), .int b, .int w]) (rest := []) (n := 3) (C := RX4) (T := TX4) (N := 21) (ci := 4) hC hM (c_X4_assign l hl0 D cs h H.size o A hK (sa (mo_lc (mo_pu S u t d) d t) 12 k ((S.2 12 k) + 3)) d hd9 b w hb9) (cwV 3 hC.1.2.2.2.2 (tb_V mb_602 mb_603 mb_26 mb_40 mb_604) rfl rfl rfl (by decide +kernel) ⟨Nat.le_of_ble_eq_true rfl, Nat.le_of_ble_eq_true rfl⟩) (th_at (h := mo_h o A h (sa (mo_lc (mo_pu S u t d) d t) 12 k ((S.2 12 k) + 3))) hK.1) rfl rfl rfl hl.1 (Nat.le_of_ble_eq_true rfl) dX4_set_129 ⟨Nat.le_of_ble_eq_true rfl, Nat.le_of_ble_eq_true rfl⟩ (fun E ce q9 g9 H locs hp9 hM hce hcv hcl => ?_) (fun v9 g9 H locs hp9 hM => ?_)
                · exact (hp9.elim fun _ h9 => h9.2.elim)
                obtain ⟨h129, rfl, hp9⟩ := hp9
                obtain ⟨rfl, rfl⟩ := hp9
                refine W.eq (g2 := F0 m 132 ls []) rfl ?_
                refine lv_iconst (v := 1) hx hb dX4_set_132 (by decide) ?_
                refine mw_iret hC hM hr hlk dX4_set_133 (Nat.le_of_ble_eq_true rfl) (Nat.le_of_ble_eq_true rfl) ⟨_, rfl, ?_⟩
                exact ⟨rfl, _, Or.inr ⟨hrp, rfl⟩, rfl⟩
              · exact (mo_tx_n ((mo_lc_n _ _ _ (by decide) (by decide)).trans (mo_pu_n _ _ _ _ (by decide))) hk hk2).elim
            · exact absurd (nI_lt hc3 (by decide)) c71
          · refine lv_iconst (v := 1) hx hb dX4_set_53 (by decide) ?_
            refine lv_goto (tgt := 58) hx hb dX4_set_54 (by decide) ?_
            refine as_8 (i := u) (v := 1) (n := 60) hC hM hK.k18 (by first | rfl | decide) (by omega) (by decide) (by first | exact Or.inl rfl | exact Or.inr rfl) dX4_set_58 (fun H locs hM => ?_)
            rw [mo_u18 hK] at hM
            refine lv_aload_n hx hb dX4_set_59 rfl (lv_at hl 0 rfl) ?_
            refine gr_10_19 (index := 50) hC hM hK.1 mb_509 dX4_set_60 (hK.r19) ?_
            refine lv_aload_n hx hb dX4_set_63 rfl (lv_at hl 0 rfl) ?_
            refine gi_10_20 (index := 90) hC hM hK.1 mb_510 dX4_set_64 ?_
            rw [mo_i]
            rw [show (sa (sa (sa S 16 u t) 17 u (nI d)) 18 u 1).1 20 = S.1 20 from by first | rfl | simp [su, sa, va_up]]
            rw [show S.1 20 = nI u from hu]
            refine lv_iload_n hx hb dX4_set_67 rfl (lv_at hl 2 rfl) ?_
            refine lv_sipush (v := 320) hx hb dX4_set_68 (by decide) ?_
            refine lv_icmp_lt (tgt := 87) hx hb dX4_set_71 (by decide) (fun c71 => ?_) (fun c71 => ?_)
            · refine lv_aload_n hx hb dX4_set_87 rfl (lv_at hl 0 rfl) ?_
              refine gr_10_5 (index := 23) hC hM hK.1 mb_495 dX4_set_88 (hK.r5) ?_
              refine lv_iload_n hx hb dX4_set_91 rfl (lv_at hl 2 rfl) ?_
              refine al_7 (i := d) (n := 320) hC hM hK.k5 (by first | rfl | decide) (by omega) (by decide) dX4_set_92 ?_
              rw [mo_a5 hK]
              rw [show (sa (sa (sa S 16 u t) 17 u (nI d)) 18 u 1).2 5 d = S.2 5 d from by first | rfl | simp [su, sa, va_up]]
              refine as_7 (i := u) (v := S.2 5 d) (n := 60) hC hM hK.k19 (by first | rfl | decide) (by omega) (by decide) dX4_set_93 (fun H locs hM => ?_)
              rw [mo_u19 hK] at hM
              refine lv_aload_n hx hb dX4_set_94 rfl (lv_at hl 0 rfl) ?_
              refine lv_dup hx hb dX4_set_95 rfl ?_
              refine gi_10_20 (index := 90) hC hM hK.1 mb_510 dX4_set_96 ?_
              rw [mo_i]
              rw [show (sa (sa (sa (sa S 16 u t) 17 u (nI d)) 18 u 1) 19 u (S.2 5 d)).1 20 = S.1 20 from by first | rfl | simp [su, sa, va_up]]
              rw [show S.1 20 = nI u from hu]
              refine lv_iconst (v := 1) hx hb dX4_set_99 (by decide) ?_
              refine lv_iadd hx hb dX4_set_100 ?_
              rw [show (nI u) + 1 = nI (u + 1) from nI_1 u]
              refine pu_10_20 (index := 90) (v := nI (u + 1)) hC hM hK.1 mb_510 dX4_set_101 (fun H locs hM => ?_)
              rw [mo_um] at hM
              rw [show su (sa (sa (sa (sa S 16 u t) 17 u (nI d)) 18 u 1) 19 u (S.2 5 d)) 20 (nI (u + 1)) = mo_pu S u t d from by simp [mo_pu, hc3, c50]] at hM
              refine lv_aload_n hx hb dX4_set_104 rfl (lv_at hl 0 rfl) ?_
              refine lv_iload_n hx hb dX4_set_105 rfl (lv_at hl 2 rfl) ?_
              refine lv_iload_n hx hb dX4_set_106 rfl (lv_at hl 1 rfl) ?_
              refine mw_callV (As := [.int (nI d), .int t]) (rest := []) (n := 2) (C := RX4) (T := TX4) (N := 21) (ci := 4) hC hM (c_X4_lockCell l hl0 D cs h H.size o A hK (mo_pu S u t d) d hd9 t) (cwV 2 hC.1.2.2.2.2 (tb_V mb_599 mb_600 mb_25 mb_40 mb_601) rfl rfl rfl (by decide +kernel) ⟨Nat.le_of_ble_eq_true rfl, Nat.le_of_ble_eq_true rfl⟩) (th_at (h := mo_h o A h (mo_pu S u t d)) hK.1) rfl rfl rfl hl.1 (Nat.le_of_ble_eq_true rfl) dX4_set_107 ⟨Nat.le_of_ble_eq_true rfl, Nat.le_of_ble_eq_true rfl⟩ (fun E ce q9 g9 H locs hp9 hM hce hcv hcl => ?_) (fun v9 g9 H locs hp9 hM => ?_)
              · exact (hp9.elim fun _ h9 => h9.2.elim)
              obtain ⟨h107, rfl, hp9⟩ := hp9
              obtain ⟨rfl, rfl⟩ := hp9
              refine W.eq (g2 := F0 m 110 ls []) rfl ?_
              refine lv_aload_n hx hb dX4_set_110 rfl (lv_at hl 0 rfl) ?_
              refine gr_10_12 (index := 38) hC hM hK.1 mb_502 dX4_set_111 (hK.r12) ?_
              refine lv_aload_n hx hb dX4_set_114 rfl (lv_at hl 0 rfl) ?_
              refine lv_iload_n hx hb dX4_set_115 rfl (lv_at hl 1 rfl) ?_
              refine mw_callV (As := [.int t]) (rest := [.ref (A 12)]) (n := 1) (C := RX4) (T := TX4) (N := 21) (ci := 4) hC hM (c_X4_place l hl0 D cs h H.size o A hK (mo_lc (mo_pu S u t d) d t) t) (cwV 1 hC.1.2.2.2.2 (tb_V mb_577 mb_578 mb_20 mb_40 mb_579) rfl rfl rfl (by decide +kernel) ⟨Nat.le_of_ble_eq_true rfl, Nat.le_of_ble_eq_true rfl⟩) (th_at (h := mo_h o A h (mo_lc (mo_pu S u t d) d t)) hK.1) rfl rfl rfl hl.1 (Nat.le_of_ble_eq_true rfl) dX4_set_116 ⟨Nat.le_of_ble_eq_true rfl, Nat.le_of_ble_eq_true rfl⟩ (fun E ce q9 g9 H locs hp9 hM hce hcv hcl => ?_) (fun v9 g9 H locs hp9 hM => ?_)
              · exact (hp9.elim fun _ h9 => h9.2.elim)
              obtain ⟨h116, rfl, hp9⟩ := hp9
              obtain ⟨rfl, hp9⟩ := hp9
              rcases hp9 with ⟨k2, hk2, rfl⟩ | ⟨hk2, rfl⟩
              · rw [mo_tx_u ((mo_lc_n _ _ _ (by decide) (by decide)).trans (mo_pu_n _ _ _ _ (by decide))) hk hk2]
                refine W.eq (g2 := F0 m 119 ls [.int (nI k), .ref (A 12)]) rfl ?_
                refine lv_dup2_11 hx hb dX4_set_119 rfl rfl ?_
                refine al_7 (i := k) (n := 3) hC hM hK.k12 (by first | rfl | decide) (by omega) (by decide) dX4_set_120 ?_
                rw [mo_a12 hK]
                rw [show (mo_lc (mo_pu S u t d) d t).2 12 k = S.2 12 k from by rw [mo_lc_n _ _ _ (by decide) (by decide)]; exact congrFun (mo_pu_n _ _ _ _ (by decide)) k]
                refine lv_iconst (v := 3) hx hb dX4_set_121 (by decide) ?_
                refine lv_iadd hx hb dX4_set_122 ?_
                refine as_7 (i := k) (v := (S.2 12 k) + 3) (n := 3) hC hM hK.k12 (by first | rfl | decide) (by omega) (by decide) dX4_set_123 (fun H locs hM => ?_)
                rw [mo_u12 hK] at hM
                refine lv_aload_n hx hb dX4_set_124 rfl (lv_at hl 0 rfl) ?_
                refine lv_iload_n hx hb dX4_set_125 rfl (lv_at hl 2 rfl) ?_
                refine lv_iload_n hx hb dX4_set_126 rfl (lv_at hl 3 rfl) ?_
                refine lv_iload hx hb dX4_set_127 (lv_at hl 4 rfl) ?_
                refine mw_callV (As := [.int (nI d), .int b, .int w]) (rest := []) (n := 3) (C := RX4) (T := TX4) (N := 21) (ci := 4) hC hM (c_X4_assign l hl0 D cs h H.size o A hK (sa (mo_lc (mo_pu S u t d) d t) 12 k ((S.2 12 k) + 3)) d hd9 b w hb9) (cwV 3 hC.1.2.2.2.2 (tb_V mb_602 mb_603 mb_26 mb_40 mb_604) rfl rfl rfl (by decide +kernel) ⟨Nat.le_of_ble_eq_true rfl, Nat.le_of_ble_eq_true rfl⟩) (th_at (h := mo_h o A h (sa (mo_lc (mo_pu S u t d) d t) 12 k ((S.2 12 k) + 3))) hK.1) rfl rfl rfl hl.1 (Nat.le_of_ble_eq_true rfl) dX4_set_129 ⟨Nat.le_of_ble_eq_true rfl, Nat.le_of_ble_eq_true rfl⟩ (fun E ce q9 g9 H locs hp9 hM hce hcv hcl => ?_) (fun v9 g9 H locs hp9 hM => ?_)
                · exact (hp9.elim fun _ h9 => h9.2.elim)
                obtain ⟨h129, rfl, hp9⟩ := hp9
                obtain ⟨rfl, rfl⟩ := hp9
                refine W.eq (g2 := F0 m 132 ls []) rfl ?_
                refine lv_iconst (v := 1) hx hb dX4_set_132 (by decide) ?_
                refine mw_iret hC hM hr hlk dX4_set_133 (Nat.le_of_ble_eq_true rfl) (Nat.le_of_ble_eq_true rfl) ⟨_, rfl, ?_⟩
                exact ⟨rfl, _, Or.inr ⟨hrp, rfl⟩, rfl⟩
              · exact (mo_tx_n ((mo_lc_n _ _ _ (by decide) (by decide)).trans (mo_pu_n _ _ _ _ (by decide))) hk hk2).elim
            · exact absurd (nI_lt hc3 (by decide)) c71
  · skip
    refine mw_ofW (cc := cX4_set) (maxL := 5) (ret := (some .int)) (by decide) rfl (fun w h => List.mem_cons_of_mem _ h) th_cd (Nat.le_of_ble_eq_true rfl) ?_
    intro p e s m below meth c hsz hC hr hlk hnm htab hM ls hl
    have hC : th_C D cs (mo_h o A h S) p m c cX4_set 5 s [.ref o, .int t, .int (nI d), .int b, .int w] RX4 := hC
    have hx := hC.1.1
    have hb := hC.1.2.1
    have hl : lv_has ls 5 [(0, .ref o), (1, .int t), (2, .int (nI d)), (3, .int b), (4, .int w)] := hl
    have hk3 : k < 3 := hk.1
    refine lv_aload_n hx hb dX4_set_0 rfl (lv_at hl 0 rfl) ?_
    refine lv_iload_n hx hb dX4_set_1 rfl (lv_at hl 1 rfl) ?_
    refine lv_iload_n hx hb dX4_set_2 rfl (lv_at hl 2 rfl) ?_
    refine mw_callV (As := [.int t, .int (nI d)]) (rest := []) (n := 2) (C := RX4) (T := TX4) (N := 21) (ci := 4) hC hM (c_X4_replaced l hl0 D cs h s.heap.size o A hK S t d u hu (by omega)) (cwV 2 hC.1.2.2.2.2 (tb_V mb_596 mb_597 mb_24 mb_40 mb_598) rfl rfl rfl (by decide +kernel) ⟨Nat.le_of_ble_eq_true rfl, Nat.le_of_ble_eq_true rfl⟩) (th_at (h := mo_h o A h S) hK.1) rfl rfl rfl hl.1 (Nat.le_of_ble_eq_true rfl) dX4_set_3 ⟨Nat.le_of_ble_eq_true rfl, Nat.le_of_ble_eq_true rfl⟩ (fun E ce q9 g9 H locs hp9 hM hce hcv hcl => ?_) (fun v9 g9 H locs hp9 hM => ?_)
    · exact (hp9.elim fun _ h9 => h9.2.elim)
    obtain ⟨h3, rfl, hp9⟩ := hp9
    obtain ⟨rfl, hp9⟩ := hp9
    rcases hp9 with ⟨hrp, rfl⟩ | ⟨hrp, rfl⟩
    · refine W.eq (g2 := F0 m 6 ls [.int 1]) rfl ?_
      refine lv_if_ne (tgt := 104) hx hb dX4_set_6 (by decide) (fun c6 => ?_) (fun c6 => ?_)
      · refine lv_aload_n hx hb dX4_set_104 rfl (lv_at hl 0 rfl) ?_
        refine lv_iload_n hx hb dX4_set_105 rfl (lv_at hl 2 rfl) ?_
        refine lv_iload_n hx hb dX4_set_106 rfl (lv_at hl 1 rfl) ?_
        refine mw_callV (As := [.int (nI d), .int t]) (rest := []) (n := 2) (C := RX4) (T := TX4) (N := 21) (ci := 4) hC hM (c_X4_lockCell l hl0 D cs h H.size o A hK S d hd9 t) (cwV 2 hC.1.2.2.2.2 (tb_V mb_599 mb_600 mb_25 mb_40 mb_601) rfl rfl rfl (by decide +kernel) ⟨Nat.le_of_ble_eq_true rfl, Nat.le_of_ble_eq_true rfl⟩) (th_at (h := mo_h o A h S) hK.1) rfl rfl rfl hl.1 (Nat.le_of_ble_eq_true rfl) dX4_set_107 ⟨Nat.le_of_ble_eq_true rfl, Nat.le_of_ble_eq_true rfl⟩ (fun E ce q9 g9 H locs hp9 hM hce hcv hcl => ?_) (fun v9 g9 H locs hp9 hM => ?_)
        · exact (hp9.elim fun _ h9 => h9.2.elim)
        obtain ⟨h107, rfl, hp9⟩ := hp9
        obtain ⟨rfl, rfl⟩ := hp9
        refine W.eq (g2 := F0 m 110 ls []) rfl ?_
        refine lv_aload_n hx hb dX4_set_110 rfl (lv_at hl 0 rfl) ?_
        refine gr_10_12 (index := 38) hC hM hK.1 mb_502 dX4_set_111 (hK.r12) ?_
        refine lv_aload_n hx hb dX4_set_114 rfl (lv_at hl 0 rfl) ?_
        refine lv_iload_n hx hb dX4_set_115 rfl (lv_at hl 1 rfl) ?_
        refine mw_callV (As := [.int t]) (rest := [.ref (A 12)]) (n := 1) (C := RX4) (T := TX4) (N := 21) (ci := 4) hC hM (c_X4_place l hl0 D cs h H.size o A hK (mo_lc S d t) t) (cwV 1 hC.1.2.2.2.2 (tb_V mb_577 mb_578 mb_20 mb_40 mb_579) rfl rfl rfl (by decide +kernel) ⟨Nat.le_of_ble_eq_true rfl, Nat.le_of_ble_eq_true rfl⟩) (th_at (h := mo_h o A h (mo_lc S d t)) hK.1) rfl rfl rfl hl.1 (Nat.le_of_ble_eq_true rfl) dX4_set_116 ⟨Nat.le_of_ble_eq_true rfl, Nat.le_of_ble_eq_true rfl⟩ (fun E ce q9 g9 H locs hp9 hM hce hcv hcl => ?_) (fun v9 g9 H locs hp9 hM => ?_)
        · exact (hp9.elim fun _ h9 => h9.2.elim)
        obtain ⟨h116, rfl, hp9⟩ := hp9
        obtain ⟨rfl, hp9⟩ := hp9
        rcases hp9 with ⟨k2, hk2, rfl⟩ | ⟨hk2, rfl⟩
        · rw [mo_tx_u (mo_lc_n _ _ _ (by decide) (by decide)) hk hk2]
          refine W.eq (g2 := F0 m 119 ls [.int (nI k), .ref (A 12)]) rfl ?_
          refine lv_dup2_11 hx hb dX4_set_119 rfl rfl ?_
          refine al_7 (i := k) (n := 3) hC hM hK.k12 (by first | rfl | decide) (by omega) (by decide) dX4_set_120 ?_
          rw [mo_a12 hK]
          rw [show (mo_lc S d t).2 12 k = S.2 12 k from by rw [mo_lc_n _ _ _ (by decide) (by decide)]]
          refine lv_iconst (v := 3) hx hb dX4_set_121 (by decide) ?_
          refine lv_iadd hx hb dX4_set_122 ?_
          refine as_7 (i := k) (v := (S.2 12 k) + 3) (n := 3) hC hM hK.k12 (by first | rfl | decide) (by omega) (by decide) dX4_set_123 (fun H locs hM => ?_)
          rw [mo_u12 hK] at hM
          refine lv_aload_n hx hb dX4_set_124 rfl (lv_at hl 0 rfl) ?_
          refine lv_iload_n hx hb dX4_set_125 rfl (lv_at hl 2 rfl) ?_
          refine lv_iload_n hx hb dX4_set_126 rfl (lv_at hl 3 rfl) ?_
          refine lv_iload hx hb dX4_set_127 (lv_at hl 4 rfl) ?_
          refine mw_callV (As := [.int (nI d), .int b, .int w]) (rest := []) (n := 3) (C := RX4) (T := TX4) (N := 21) (ci := 4) hC hM (c_X4_assign l hl0 D cs h H.size o A hK (sa (mo_lc S d t) 12 k ((S.2 12 k) + 3)) d hd9 b w hb9) (cwV 3 hC.1.2.2.2.2 (tb_V mb_602 mb_603 mb_26 mb_40 mb_604) rfl rfl rfl (by decide +kernel) ⟨Nat.le_of_ble_eq_true rfl, Nat.le_of_ble_eq_true rfl⟩) (th_at (h := mo_h o A h (sa (mo_lc S d t) 12 k ((S.2 12 k) + 3))) hK.1) rfl rfl rfl hl.1 (Nat.le_of_ble_eq_true rfl) dX4_set_129 ⟨Nat.le_of_ble_eq_true rfl, Nat.le_of_ble_eq_true rfl⟩ (fun E ce q9 g9 H locs hp9 hM hce hcv hcl => ?_) (fun v9 g9 H locs hp9 hM => ?_)
          · exact (hp9.elim fun _ h9 => h9.2.elim)
          obtain ⟨h129, rfl, hp9⟩ := hp9
          obtain ⟨rfl, rfl⟩ := hp9
          refine W.eq (g2 := F0 m 132 ls []) rfl ?_
          refine lv_iconst (v := 1) hx hb dX4_set_132 (by decide) ?_
          refine mw_iret hC hM hr hlk dX4_set_133 (Nat.le_of_ble_eq_true rfl) (Nat.le_of_ble_eq_true rfl) ⟨_, rfl, ?_⟩
          exact ⟨rfl, _, Or.inl ⟨hrp, rfl⟩, rfl⟩
        · exact (mo_tx_n (mo_lc_n _ _ _ (by decide) (by decide)) hk hk2).elim
      · exact absurd c6 (by decide)
    · refine W.eq (g2 := F0 m 6 ls [.int 0]) rfl ?_
      refine lv_if_ne (tgt := 104) hx hb dX4_set_6 (by decide) (fun c6 => ?_) (fun c6 => ?_)
      · exact absurd c6 (by decide)
      · refine lv_aload_n hx hb dX4_set_9 rfl (lv_at hl 0 rfl) ?_
        refine gr_10_16 (index := 41) hC hM hK.1 mb_506 dX4_set_10 (hK.r16) ?_
        refine lv_aload_n hx hb dX4_set_13 rfl (lv_at hl 0 rfl) ?_
        refine gi_10_20 (index := 90) hC hM hK.1 mb_510 dX4_set_14 ?_
        rw [mo_i]
        rw [show S.1 20 = nI u from hu]
        refine lv_iload_n hx hb dX4_set_17 rfl (lv_at hl 1 rfl) ?_
        refine as_7 (i := u) (v := t) (n := 60) hC hM hK.k16 (by first | rfl | decide) (by omega) (by decide) dX4_set_18 (fun H locs hM => ?_)
        rw [mo_u16 hK] at hM
        refine lv_aload_n hx hb dX4_set_19 rfl (lv_at hl 0 rfl) ?_
        refine gr_10_17 (index := 44) hC hM hK.1 mb_507 dX4_set_20 (hK.r17) ?_
        refine lv_aload_n hx hb dX4_set_23 rfl (lv_at hl 0 rfl) ?_
        refine gi_10_20 (index := 90) hC hM hK.1 mb_510 dX4_set_24 ?_
        rw [mo_i]
        rw [show (sa S 16 u t).1 20 = S.1 20 from by first | rfl | simp [su, sa, va_up]]
        rw [show S.1 20 = nI u from hu]
        refine lv_iload_n hx hb dX4_set_27 rfl (lv_at hl 2 rfl) ?_
        refine as_7 (i := u) (v := nI d) (n := 60) hC hM hK.k17 (by first | rfl | decide) (by omega) (by decide) dX4_set_28 (fun H locs hM => ?_)
        rw [mo_u17 hK] at hM
        refine lv_aload_n hx hb dX4_set_29 rfl (lv_at hl 0 rfl) ?_
        refine gr_10_18 (index := 47) hC hM hK.1 mb_508 dX4_set_30 (hK.r18) ?_
        refine lv_aload_n hx hb dX4_set_33 rfl (lv_at hl 0 rfl) ?_
        refine gi_10_20 (index := 90) hC hM hK.1 mb_510 dX4_set_34 ?_
        rw [mo_i]
        rw [show (sa (sa S 16 u t) 17 u (nI d)).1 20 = S.1 20 from by first | rfl | simp [su, sa, va_up]]
        rw [show S.1 20 = nI u from hu]
        refine lv_iload_n hx hb dX4_set_37 rfl (lv_at hl 2 rfl) ?_
        refine lv_sipush (v := 320) hx hb dX4_set_38 (by decide) ?_
        refine lv_icmp_ge (tgt := 53) hx hb dX4_set_41 (by decide) (fun c41 => ?_) (fun c41 => ?_)
        · refine lv_iconst (v := 1) hx hb dX4_set_53 (by decide) ?_
          refine lv_goto (tgt := 58) hx hb dX4_set_54 (by decide) ?_
          refine as_8 (i := u) (v := 1) (n := 60) hC hM hK.k18 (by first | rfl | decide) (by omega) (by decide) (by first | exact Or.inl rfl | exact Or.inr rfl) dX4_set_58 (fun H locs hM => ?_)
          rw [mo_u18 hK] at hM
          refine lv_aload_n hx hb dX4_set_59 rfl (lv_at hl 0 rfl) ?_
          refine gr_10_19 (index := 50) hC hM hK.1 mb_509 dX4_set_60 (hK.r19) ?_
          refine lv_aload_n hx hb dX4_set_63 rfl (lv_at hl 0 rfl) ?_
          refine gi_10_20 (index := 90) hC hM hK.1 mb_510 dX4_set_64 ?_
          rw [mo_i]
          rw [show (sa (sa (sa S 16 u t) 17 u (nI d)) 18 u 1).1 20 = S.1 20 from by first | rfl | simp [su, sa, va_up]]
          rw [show S.1 20 = nI u from hu]
          refine lv_iload_n hx hb dX4_set_67 rfl (lv_at hl 2 rfl) ?_
          refine lv_sipush (v := 320) hx hb dX4_set_68 (by decide) ?_
          refine lv_icmp_lt (tgt := 87) hx hb dX4_set_71 (by decide) (fun c71 => ?_) (fun c71 => ?_)
          · exact absurd c71 (nI_nlt hc3 (by omega))
          · refine lv_aload_n hx hb dX4_set_74 rfl (lv_at hl 0 rfl) ?_
            refine gr_10_7 (index := 29) hC hM hK.1 mb_497 dX4_set_75 (hK.r7) ?_
            refine lv_iload_n hx hb dX4_set_78 rfl (lv_at hl 2 rfl) ?_
            refine lv_sipush (v := 320) hx hb dX4_set_79 (by decide) ?_
            refine lv_isub hx hb dX4_set_82 ?_
            rw [show (nI d) - 320 = nI (d - 320) from nI_sub hc3]
            refine al_7 (i := d - 320) (n := 4) hC hM hK.k7 (by first | rfl | decide) (by omega) (by decide) dX4_set_83 ?_
            rw [mo_a7 hK]
            rw [show (sa (sa (sa S 16 u t) 17 u (nI d)) 18 u 1).2 7 (d - 320) = S.2 7 (d - 320) from by first | rfl | simp [su, sa, va_up]]
            refine lv_goto (tgt := 93) hx hb dX4_set_84 (by decide) ?_
            refine as_7 (i := u) (v := S.2 7 (d - 320)) (n := 60) hC hM hK.k19 (by first | rfl | decide) (by omega) (by decide) dX4_set_93 (fun H locs hM => ?_)
            rw [mo_u19 hK] at hM
            refine lv_aload_n hx hb dX4_set_94 rfl (lv_at hl 0 rfl) ?_
            refine lv_dup hx hb dX4_set_95 rfl ?_
            refine gi_10_20 (index := 90) hC hM hK.1 mb_510 dX4_set_96 ?_
            rw [mo_i]
            rw [show (sa (sa (sa (sa S 16 u t) 17 u (nI d)) 18 u 1) 19 u (S.2 7 (d - 320))).1 20 = S.1 20 from by first | rfl | simp [su, sa, va_up]]
            rw [show S.1 20 = nI u from hu]
            refine lv_iconst (v := 1) hx hb dX4_set_99 (by decide) ?_
            refine lv_iadd hx hb dX4_set_100 ?_
            rw [show (nI u) + 1 = nI (u + 1) from nI_1 u]
            refine pu_10_20 (index := 90) (v := nI (u + 1)) hC hM hK.1 mb_510 dX4_set_101 (fun H locs hM => ?_)
            rw [mo_um] at hM
            rw [show su (sa (sa (sa (sa S 16 u t) 17 u (nI d)) 18 u 1) 19 u (S.2 7 (d - 320))) 20 (nI (u + 1)) = mo_pu S u t d from by simp [mo_pu, Nat.not_lt.mpr hc3]] at hM
            refine lv_aload_n hx hb dX4_set_104 rfl (lv_at hl 0 rfl) ?_
            refine lv_iload_n hx hb dX4_set_105 rfl (lv_at hl 2 rfl) ?_
            refine lv_iload_n hx hb dX4_set_106 rfl (lv_at hl 1 rfl) ?_
            refine mw_callV (As := [.int (nI d), .int t]) (rest := []) (n := 2) (C := RX4) (T := TX4) (N := 21) (ci := 4) hC hM (c_X4_lockCell l hl0 D cs h H.size o A hK (mo_pu S u t d) d hd9 t) (cwV 2 hC.1.2.2.2.2 (tb_V mb_599 mb_600 mb_25 mb_40 mb_601) rfl rfl rfl (by decide +kernel) ⟨Nat.le_of_ble_eq_true rfl, Nat.le_of_ble_eq_true rfl⟩) (th_at (h := mo_h o A h (mo_pu S u t d)) hK.1) rfl rfl rfl hl.1 (Nat.le_of_ble_eq_true rfl) dX4_set_107 ⟨Nat.le_of_ble_eq_true rfl, Nat.le_of_ble_eq_true rfl⟩ (fun E ce q9 g9 H locs hp9 hM hce hcv hcl => ?_) (fun v9 g9 H locs hp9 hM => ?_)
            · exact (hp9.elim fun _ h9 => h9.2.elim)
            obtain ⟨h107, rfl, hp9⟩ := hp9
            obtain ⟨rfl, rfl⟩ := hp9
            refine W.eq (g2 := F0 m 110 ls []) rfl ?_
            refine lv_aload_n hx hb dX4_set_110 rfl (lv_at hl 0 rfl) ?_
            refine gr_10_12 (index := 38) hC hM hK.1 mb_502 dX4_set_111 (hK.r12) ?_
            refine lv_aload_n hx hb dX4_set_114 rfl (lv_at hl 0 rfl) ?_
            refine lv_iload_n hx hb dX4_set_115 rfl (lv_at hl 1 rfl) ?_
            refine mw_callV (As := [.int t]) (rest := [.ref (A 12)]) (n := 1) (C := RX4) (T := TX4) (N := 21) (ci := 4) hC hM (c_X4_place l hl0 D cs h H.size o A hK (mo_lc (mo_pu S u t d) d t) t) (cwV 1 hC.1.2.2.2.2 (tb_V mb_577 mb_578 mb_20 mb_40 mb_579) rfl rfl rfl (by decide +kernel) ⟨Nat.le_of_ble_eq_true rfl, Nat.le_of_ble_eq_true rfl⟩) (th_at (h := mo_h o A h (mo_lc (mo_pu S u t d) d t)) hK.1) rfl rfl rfl hl.1 (Nat.le_of_ble_eq_true rfl) dX4_set_116 ⟨Nat.le_of_ble_eq_true rfl, Nat.le_of_ble_eq_true rfl⟩ (fun E ce q9 g9 H locs hp9 hM hce hcv hcl => ?_) (fun v9 g9 H locs hp9 hM => ?_)
            · exact (hp9.elim fun _ h9 => h9.2.elim)
            obtain ⟨h116, rfl, hp9⟩ := hp9
            obtain ⟨rfl, hp9⟩ := hp9
            rcases hp9 with ⟨k2, hk2, rfl⟩ | ⟨hk2, rfl⟩
            · rw [mo_tx_u ((mo_lc_n _ _ _ (by decide) (by decide)).trans (mo_pu_n _ _ _ _ (by decide))) hk hk2]
              refine W.eq (g2 := F0 m 119 ls [.int (nI k), .ref (A 12)]) rfl ?_
              refine lv_dup2_11 hx hb dX4_set_119 rfl rfl ?_
              refine al_7 (i := k) (n := 3) hC hM hK.k12 (by first | rfl | decide) (by omega) (by decide) dX4_set_120 ?_
              rw [mo_a12 hK]
              rw [show (mo_lc (mo_pu S u t d) d t).2 12 k = S.2 12 k from by rw [mo_lc_n _ _ _ (by decide) (by decide)]; exact congrFun (mo_pu_n _ _ _ _ (by decide)) k]
              refine lv_iconst (v := 3) hx hb dX4_set_121 (by decide) ?_
              refine lv_iadd hx hb dX4_set_122 ?_
              refine as_7 (i := k) (v := (S.2 12 k) + 3) (n := 3) hC hM hK.k12 (by first | rfl | decide) (by omega) (by decide) dX4_set_123 (fun H locs hM => ?_)
              rw [mo_u12 hK] at hM
              refine lv_aload_n hx hb dX4_set_124 rfl (lv_at hl 0 rfl) ?_
              refine lv_iload_n hx hb dX4_set_125 rfl (lv_at hl 2 rfl) ?_
              refine lv_iload_n hx hb dX4_set_126 rfl (lv_at hl 3 rfl) ?_
              refine lv_iload hx hb dX4_set_127 (lv_at hl 4 rfl) ?_
              refine mw_callV (As := [.int (nI d), .int b, .int w]) (rest := []) (n := 3) (C := RX4) (T := TX4) (N := 21) (ci := 4) hC hM (c_X4_assign l hl0 D cs h H.size o A hK (sa (mo_lc (mo_pu S u t d) d t) 12 k ((S.2 12 k) + 3)) d hd9 b w hb9) (cwV 3 hC.1.2.2.2.2 (tb_V mb_602 mb_603 mb_26 mb_40 mb_604) rfl rfl rfl (by decide +kernel) ⟨Nat.le_of_ble_eq_true rfl, Nat.le_of_ble_eq_true rfl⟩) (th_at (h := mo_h o A h (sa (mo_lc (mo_pu S u t d) d t) 12 k ((S.2 12 k) + 3))) hK.1) rfl rfl rfl hl.1 (Nat.le_of_ble_eq_true rfl) dX4_set_129 ⟨Nat.le_of_ble_eq_true rfl, Nat.le_of_ble_eq_true rfl⟩ (fun E ce q9 g9 H locs hp9 hM hce hcv hcl => ?_) (fun v9 g9 H locs hp9 hM => ?_)
              · exact (hp9.elim fun _ h9 => h9.2.elim)
              obtain ⟨h129, rfl, hp9⟩ := hp9
              obtain ⟨rfl, rfl⟩ := hp9
              refine W.eq (g2 := F0 m 132 ls []) rfl ?_
              refine lv_iconst (v := 1) hx hb dX4_set_132 (by decide) ?_
              refine mw_iret hC hM hr hlk dX4_set_133 (Nat.le_of_ble_eq_true rfl) (Nat.le_of_ble_eq_true rfl) ⟨_, rfl, ?_⟩
              exact ⟨rfl, _, Or.inr ⟨hrp, rfl⟩, rfl⟩
            · exact (mo_tx_n ((mo_lc_n _ _ _ (by decide) (by decide)).trans (mo_pu_n _ _ _ _ (by decide))) hk hk2).elim
        · exact absurd (nI_le hc3 (by omega)) c41

-- StableHeapModel.setInt
set_option maxHeartbeats 4000000 in
set_option maxRecDepth 100000 in
theorem c_X4_setInt (l : Launch) (hl0 : l.stackTraces = false) (D : va_G) (cs : Nat → ClassId) (h : th_S) (sz : Nat) (o : Nat) (A : Nat → Nat) (hK : mo_K o A h) (S : th_N) (t b f w : Int32) (hz9 : ∀ r, r < 80 → ∃ k, k ≤ 4 ∧ S.2 2 r = nI k) (u : Nat) (hu : S.1 20 = nI u) (hu6 : mo_lg S + 3 ≤ 150 → u < 60) : th_M l yX4_setInt wsX4_setInt { frames := 2, cells := 0, slots := 0, locals := 47 } D cs (mo_h o A h S) sz [.ref o, .int t, .int b, .int f, .int w] (fun v h' => ∃ e c, mo_ce S t b f e c ∧ ((¬ e = 0 ∧ v = some (.int 0) ∧ h' = mo_h o A h (su (su S 0 0) 0 e)) ∨ (e = 0 ∧ ((¬ mo_lg S + 3 ≤ 150 ∧ v = some (.int 0) ∧ h' = mo_h o A h (su (su S 0 0) 0 4)) ∨ (mo_lg S + 3 ≤ 150 ∧ v = some (.int 1) ∧ ∃ k T, mo_tx S t k ∧ mo_st (su S 0 0) u t k c 0 w T ∧ h' = mo_h o A h T))))) (fun E h' => False) := by
  refine mw_ofW (cc := cX4_setInt) (maxL := 6) (ret := (some .int)) (by decide) rfl (fun w h => List.mem_cons_of_mem _ h) th_cd (Nat.le_of_ble_eq_true rfl) ?_
  intro p e s m below meth c hsz hC hr hlk hnm htab hM ls hl
  have hC : th_C D cs (mo_h o A h S) p m c cX4_setInt 6 s [.ref o, .int t, .int b, .int f, .int w] RX4 := hC
  have hx := hC.1.1
  have hb := hC.1.2.1
  have hl : lv_has ls 6 [(0, .ref o), (1, .int t), (2, .int b), (3, .int f), (4, .int w)] := hl
  refine lv_aload_n hx hb dX4_setInt_0 rfl (lv_at hl 0 rfl) ?_
  refine lv_iload_n hx hb dX4_setInt_1 rfl (lv_at hl 1 rfl) ?_
  refine lv_iload_n hx hb dX4_setInt_2 rfl (lv_at hl 2 rfl) ?_
  refine lv_iload_n hx hb dX4_setInt_3 rfl (lv_at hl 3 rfl) ?_
  refine mw_callV (As := [.int t, .int b, .int f]) (rest := []) (n := 3) (C := RX4) (T := TX4) (N := 21) (ci := 4) hC hM (c_X4_cell l hl0 D cs h s.heap.size o A hK S t b f hz9) (cwV 3 hC.1.2.2.2.2 (tb_V mb_587 mb_588 mb_21 mb_40 mb_589) rfl rfl rfl (by decide +kernel) ⟨Nat.le_of_ble_eq_true rfl, Nat.le_of_ble_eq_true rfl⟩) (th_at (h := mo_h o A h S) hK.1) rfl rfl rfl hl.1 (Nat.le_of_ble_eq_true rfl) dX4_setInt_4 ⟨Nat.le_of_ble_eq_true rfl, Nat.le_of_ble_eq_true rfl⟩ (fun E ce q9 g9 H locs hp9 hM hce hcv hcl => ?_) (fun v9 g9 H locs hp9 hM => ?_)
  · exact (hp9.elim fun _ h9 => h9.2.elim)
  obtain ⟨h4, rfl, hp9⟩ := hp9
  obtain ⟨e9, d, hce, hp9⟩ := hp9
  rcases hp9 with ⟨he9, rfl, rfl⟩ | ⟨rfl, rfl, rfl⟩
  · refine W.eq (g2 := F0 m 7 ls [.int (-1)]) rfl ?_
    refine lv_istore (lv' := [(5, .int (-1)), (0, .ref o), (1, .int t), (2, .int b), (3, .int f), (4, .int w)]) hx hb dX4_setInt_7 hl (by decide) rfl (fun ls hl => ?_)
    refine lv_iload hx hb dX4_setInt_9 (lv_at hl 0 rfl) ?_
    refine lv_if_ge (tgt := 16) hx hb dX4_setInt_11 (by decide) (fun c11 => ?_) (fun c11 => ?_)
    · exact absurd c11 (by decide)
    · refine lv_iconst (v := 0) hx hb dX4_setInt_14 (by decide) ?_
      refine mw_iret hC hM hr hlk dX4_setInt_15 (Nat.le_of_ble_eq_true rfl) (Nat.le_of_ble_eq_true rfl) ⟨_, rfl, ?_⟩
      exact ⟨e9, d, hce, Or.inl ⟨he9, rfl, rfl⟩⟩
  · obtain ⟨hd3, k, hk⟩ := hce.c
    refine W.eq (g2 := F0 m 7 ls [.int (nI d)]) rfl ?_
    refine lv_istore (lv' := [(5, .int (nI d)), (0, .ref o), (1, .int t), (2, .int b), (3, .int f), (4, .int w)]) hx hb dX4_setInt_7 hl (by decide) rfl (fun ls hl => ?_)
    refine lv_iload hx hb dX4_setInt_9 (lv_at hl 0 rfl) ?_
    refine lv_if_ge (tgt := 16) hx hb dX4_setInt_11 (by decide) (fun c11 => ?_) (fun c11 => ?_)
    · refine lv_aload_n hx hb dX4_setInt_16 rfl (lv_at hl 1 rfl) ?_
      refine mw_callV (As := []) (rest := []) (n := 0) (C := RX4) (T := TX4) (N := 21) (ci := 4) hC hM (c_X4_log l hl0 D cs h H.size o A hK (su S 0 0) ) (cwV 0 hC.1.2.2.2.2 (tb_V mb_570 mb_571 mb_19 mb_40 mb_572) rfl rfl rfl (by decide +kernel) ⟨Nat.le_of_ble_eq_true rfl, Nat.le_of_ble_eq_true rfl⟩) (th_at (h := mo_h o A h (su S 0 0)) hK.1) rfl rfl rfl hl.1 (Nat.le_of_ble_eq_true rfl) dX4_setInt_17 ⟨Nat.le_of_ble_eq_true rfl, Nat.le_of_ble_eq_true rfl⟩ (fun E ce q9 g9 H locs hp9 hM hce hcv hcl => ?_) (fun v9 g9 H locs hp9 hM => ?_)
      · exact (hp9.elim fun _ h9 => h9.2.elim)
      obtain ⟨h17, rfl, hp9⟩ := hp9
      obtain ⟨rfl, rfl⟩ := hp9
      refine W.eq (g2 := F0 m 20 ls [.int (mo_lg S)]) rfl ?_
      refine lv_iconst (v := 3) hx hb dX4_setInt_20 (by decide) ?_
      refine lv_iadd hx hb dX4_setInt_21 ?_
      refine lv_sipush (v := 150) hx hb dX4_setInt_22 (by decide) ?_
      refine lv_icmp_le (tgt := 36) hx hb dX4_setInt_25 (by decide) (fun c25 => ?_) (fun c25 => ?_)
      · refine lv_aload_n hx hb dX4_setInt_36 rfl (lv_at hl 1 rfl) ?_
        refine lv_iload_n hx hb dX4_setInt_37 rfl (lv_at hl 2 rfl) ?_
        refine lv_iload hx hb dX4_setInt_38 (lv_at hl 0 rfl) ?_
        refine lv_iconst (v := 0) hx hb dX4_setInt_40 (by decide) ?_
        refine lv_iload hx hb dX4_setInt_41 (lv_at hl 5 rfl) ?_
        refine mw_callV (As := [.int t, .int (nI d), .int 0, .int w]) (rest := []) (n := 4) (C := RX4) (T := TX4) (N := 21) (ci := 4) hC hM (c_X4_set l hl0 D cs h H.size o A hK (su S 0 0) t d (by omega) 0 w (Or.inl rfl) u hu (hu6 c25) k hk) (cwV 4 hC.1.2.2.2.2 (tb_V mb_593 mb_594 mb_23 mb_40 mb_595) rfl rfl rfl (by decide +kernel) ⟨Nat.le_of_ble_eq_true rfl, Nat.le_of_ble_eq_true rfl⟩) (th_at (h := mo_h o A h (su S 0 0)) hK.1) rfl rfl rfl hl.1 (Nat.le_of_ble_eq_true rfl) dX4_setInt_43 ⟨Nat.le_of_ble_eq_true rfl, Nat.le_of_ble_eq_true rfl⟩ (fun E ce q9 g9 H locs hp9 hM hce hcv hcl => ?_) (fun v9 g9 H locs hp9 hM => ?_)
        · exact (hp9.elim fun _ h9 => h9.2.elim)
        obtain ⟨h43, rfl, hp9⟩ := hp9
        obtain ⟨rfl, T, hst, rfl⟩ := hp9
        refine W.eq (g2 := F0 m 46 ls [.int 1]) rfl ?_
        refine mw_iret hC hM hr hlk dX4_setInt_46 (Nat.le_of_ble_eq_true rfl) (Nat.le_of_ble_eq_true rfl) ⟨_, rfl, ?_⟩
        exact ⟨0, d, hce, Or.inr ⟨rfl, Or.inr ⟨c25, rfl, k, T, hk, hst, rfl⟩⟩⟩
      · refine lv_aload_n hx hb dX4_setInt_28 rfl (lv_at hl 1 rfl) ?_
        refine lv_iconst (v := 4) hx hb dX4_setInt_29 (by decide) ?_
        refine mw_callV (As := [.int 4]) (rest := []) (n := 1) (C := RX4) (T := TX4) (N := 21) (ci := 4) hC hM (c_X4_raise l hl0 D cs h H.size o A hK (su S 0 0) 4) (cwV 1 hC.1.2.2.2.2 (tb_V mb_567 mb_568 mb_18 mb_40 mb_569) rfl rfl rfl (by decide +kernel) ⟨Nat.le_of_ble_eq_true rfl, Nat.le_of_ble_eq_true rfl⟩) (th_at (h := mo_h o A h (su S 0 0)) hK.1) rfl rfl rfl hl.1 (Nat.le_of_ble_eq_true rfl) dX4_setInt_30 ⟨Nat.le_of_ble_eq_true rfl, Nat.le_of_ble_eq_true rfl⟩ (fun E ce q9 g9 H locs hp9 hM hce hcv hcl => ?_) (fun v9 g9 H locs hp9 hM => ?_)
        · exact (hp9.elim fun _ h9 => h9.2.elim)
        obtain ⟨h30, rfl, hp9⟩ := hp9
        obtain ⟨rfl, rfl⟩ := hp9
        refine W.eq (g2 := F0 m 33 ls [.int 0]) rfl ?_
        refine lv_goto (tgt := 46) hx hb dX4_setInt_33 (by decide) ?_
        refine mw_iret hC hM hr hlk dX4_setInt_46 (Nat.le_of_ble_eq_true rfl) (Nat.le_of_ble_eq_true rfl) ⟨_, rfl, ?_⟩
        exact ⟨0, d, hce, Or.inr ⟨rfl, Or.inl ⟨c25, rfl, rfl⟩⟩⟩
    · exact absurd (nI_pos' (by omega)) c11

-- StableHeapModel.refer
set_option maxHeartbeats 4000000 in
set_option maxRecDepth 100000 in
theorem c_X4_refer (l : Launch) (hl0 : l.stackTraces = false) (D : va_G) (cs : Nat → ClassId) (h : th_S) (sz : Nat) (o : Nat) (A : Nat → Nat) (hK : mo_K o A h) (S : th_N) (t : Int32) (d : Nat) (hd9 : d < 324) (g : Int32) (u : Nat) (hu : S.1 20 = nI u) (hu6 : mo_lg S + 3 ≤ 150 → u < 60) (k : Nat) (hk : mo_tx S t k) : th_M l yX4_refer wsX4_refer { frames := 2, cells := 0, slots := 0, locals := 47 } D cs (mo_h o A h S) sz [.ref o, .int t, .int (nI d), .int g] (fun v h' => ∃ T, mo_rf S u t k d g v T ∧ h' = mo_h o A h T) (fun E h' => False) := by
  refine mw_ofW (cc := cX4_refer) (maxL := 4) (ret := (some .int)) (by decide) rfl (fun w h => List.mem_cons_of_mem _ h) th_cd (Nat.le_of_ble_eq_true rfl) ?_
  intro p e s m below meth c hsz hC hr hlk hnm htab hM ls hl
  have hC : th_C D cs (mo_h o A h S) p m c cX4_refer 4 s [.ref o, .int t, .int (nI d), .int g] RX4 := hC
  have hx := hC.1.1
  have hb := hC.1.2.1
  have hl : lv_has ls 4 [(0, .ref o), (1, .int t), (2, .int (nI d)), (3, .int g)] := hl
  refine lv_iload_n hx hb dX4_refer_0 rfl (lv_at hl 2 rfl) ?_
  refine lv_if_ge (tgt := 6) hx hb dX4_refer_1 (by decide) (fun c1 => ?_) (fun c1 => ?_)
  · refine lv_iload_n hx hb dX4_refer_6 rfl (lv_at hl 3 rfl) ?_
    refine lv_if_eq (tgt := 24) hx hb dX4_refer_7 (by decide) (fun c7 => ?_) (fun c7 => ?_)
    · refine lv_aload_n hx hb dX4_refer_24 rfl (lv_at hl 0 rfl) ?_
      refine mw_callV (As := []) (rest := []) (n := 0) (C := RX4) (T := TX4) (N := 21) (ci := 4) hC hM (c_X4_log l hl0 D cs h s.heap.size o A hK S ) (cwV 0 hC.1.2.2.2.2 (tb_V mb_570 mb_571 mb_19 mb_40 mb_572) rfl rfl rfl (by decide +kernel) ⟨Nat.le_of_ble_eq_true rfl, Nat.le_of_ble_eq_true rfl⟩) (th_at (h := mo_h o A h S) hK.1) rfl rfl rfl hl.1 (Nat.le_of_ble_eq_true rfl) dX4_refer_25 ⟨Nat.le_of_ble_eq_true rfl, Nat.le_of_ble_eq_true rfl⟩ (fun E ce q9 g9 H locs hp9 hM hce hcv hcl => ?_) (fun v9 g9 H locs hp9 hM => ?_)
      · exact (hp9.elim fun _ h9 => h9.2.elim)
      obtain ⟨h25, rfl, hp9⟩ := hp9
      obtain ⟨rfl, rfl⟩ := hp9
      refine W.eq (g2 := F0 m 28 ls [.int (mo_lg S)]) rfl ?_
      refine lv_iconst (v := 3) hx hb dX4_refer_28 (by decide) ?_
      refine lv_iadd hx hb dX4_refer_29 ?_
      refine lv_sipush (v := 150) hx hb dX4_refer_30 (by decide) ?_
      refine lv_icmp_le (tgt := 44) hx hb dX4_refer_33 (by decide) (fun c33 => ?_) (fun c33 => ?_)
      · refine lv_aload_n hx hb dX4_refer_44 rfl (lv_at hl 0 rfl) ?_
        refine lv_iload_n hx hb dX4_refer_45 rfl (lv_at hl 1 rfl) ?_
        refine lv_iload_n hx hb dX4_refer_46 rfl (lv_at hl 2 rfl) ?_
        refine lv_iconst (v := 1) hx hb dX4_refer_47 (by decide) ?_
        refine lv_iload_n hx hb dX4_refer_48 rfl (lv_at hl 3 rfl) ?_
        refine mw_callV (As := [.int t, .int (nI d), .int 1, .int g]) (rest := []) (n := 4) (C := RX4) (T := TX4) (N := 21) (ci := 4) hC hM (c_X4_set l hl0 D cs h H.size o A hK S t d hd9 1 g (Or.inr rfl) u hu (hu6 c33) k hk) (cwV 4 hC.1.2.2.2.2 (tb_V mb_593 mb_594 mb_23 mb_40 mb_595) rfl rfl rfl (by decide +kernel) ⟨Nat.le_of_ble_eq_true rfl, Nat.le_of_ble_eq_true rfl⟩) (th_at (h := mo_h o A h S) hK.1) rfl rfl rfl hl.1 (Nat.le_of_ble_eq_true rfl) dX4_refer_49 ⟨Nat.le_of_ble_eq_true rfl, Nat.le_of_ble_eq_true rfl⟩ (fun E ce q9 g9 H locs hp9 hM hce hcv hcl => ?_) (fun v9 g9 H locs hp9 hM => ?_)
        · exact (hp9.elim fun _ h9 => h9.2.elim)
        obtain ⟨h49, rfl, hp9⟩ := hp9
        obtain ⟨rfl, T, hst, rfl⟩ := hp9
        refine W.eq (g2 := F0 m 52 ls [.int 1]) rfl ?_
        refine mw_iret hC hM hr hlk dX4_refer_52 (Nat.le_of_ble_eq_true rfl) (Nat.le_of_ble_eq_true rfl) ⟨_, rfl, ?_⟩
        exact ⟨T, Or.inr ⟨Or.inl c7, Or.inr ⟨c33, rfl, hst⟩⟩, rfl⟩
      · refine lv_aload_n hx hb dX4_refer_36 rfl (lv_at hl 0 rfl) ?_
        refine lv_iconst (v := 5) hx hb dX4_refer_37 (by decide) ?_
        refine mw_callV (As := [.int 5]) (rest := []) (n := 1) (C := RX4) (T := TX4) (N := 21) (ci := 4) hC hM (c_X4_raise l hl0 D cs h H.size o A hK S 5) (cwV 1 hC.1.2.2.2.2 (tb_V mb_567 mb_568 mb_18 mb_40 mb_569) rfl rfl rfl (by decide +kernel) ⟨Nat.le_of_ble_eq_true rfl, Nat.le_of_ble_eq_true rfl⟩) (th_at (h := mo_h o A h S) hK.1) rfl rfl rfl hl.1 (Nat.le_of_ble_eq_true rfl) dX4_refer_38 ⟨Nat.le_of_ble_eq_true rfl, Nat.le_of_ble_eq_true rfl⟩ (fun E ce q9 g9 H locs hp9 hM hce hcv hcl => ?_) (fun v9 g9 H locs hp9 hM => ?_)
        · exact (hp9.elim fun _ h9 => h9.2.elim)
        obtain ⟨h38, rfl, hp9⟩ := hp9
        obtain ⟨rfl, rfl⟩ := hp9
        refine W.eq (g2 := F0 m 41 ls [.int 0]) rfl ?_
        refine lv_goto (tgt := 52) hx hb dX4_refer_41 (by decide) ?_
        refine mw_iret hC hM hr hlk dX4_refer_52 (Nat.le_of_ble_eq_true rfl) (Nat.le_of_ble_eq_true rfl) ⟨_, rfl, ?_⟩
        exact ⟨_, Or.inr ⟨Or.inl c7, Or.inl ⟨c33, rfl, rfl⟩⟩, rfl⟩
    · refine lv_aload_n hx hb dX4_refer_10 rfl (lv_at hl 0 rfl) ?_
      refine lv_iload_n hx hb dX4_refer_11 rfl (lv_at hl 3 rfl) ?_
      refine mw_callV (As := [.int g]) (rest := []) (n := 1) (C := RX4) (T := TX4) (N := 21) (ci := 4) hC hM (c_X4_row l hl0 D cs h s.heap.size o A hK S g) (cwV 1 hC.1.2.2.2.2 (tb_V mb_590 mb_591 mb_22 mb_40 mb_592) rfl rfl rfl (by decide +kernel) ⟨Nat.le_of_ble_eq_true rfl, Nat.le_of_ble_eq_true rfl⟩) (th_at (h := mo_h o A h S) hK.1) rfl rfl rfl hl.1 (Nat.le_of_ble_eq_true rfl) dX4_refer_12 ⟨Nat.le_of_ble_eq_true rfl, Nat.le_of_ble_eq_true rfl⟩ (fun E ce q9 g9 H locs hp9 hM hce hcv hcl => ?_) (fun v9 g9 H locs hp9 hM => ?_)
      · exact (hp9.elim fun _ h9 => h9.2.elim)
      obtain ⟨h12, rfl, hp9⟩ := hp9
      obtain ⟨rfl, hp9⟩ := hp9
      rcases hp9 with ⟨r, hr9, rfl⟩ | ⟨hr9, rfl⟩
      · have r_lt : r < 80 := hr9.1
        refine W.eq (g2 := F0 m 15 ls [.int (nI r)]) rfl ?_
        refine lv_if_ge (tgt := 24) hx hb dX4_refer_15 (by decide) (fun c15 => ?_) (fun c15 => ?_)
        · refine lv_aload_n hx hb dX4_refer_24 rfl (lv_at hl 0 rfl) ?_
          refine mw_callV (As := []) (rest := []) (n := 0) (C := RX4) (T := TX4) (N := 21) (ci := 4) hC hM (c_X4_log l hl0 D cs h H.size o A hK S ) (cwV 0 hC.1.2.2.2.2 (tb_V mb_570 mb_571 mb_19 mb_40 mb_572) rfl rfl rfl (by decide +kernel) ⟨Nat.le_of_ble_eq_true rfl, Nat.le_of_ble_eq_true rfl⟩) (th_at (h := mo_h o A h S) hK.1) rfl rfl rfl hl.1 (Nat.le_of_ble_eq_true rfl) dX4_refer_25 ⟨Nat.le_of_ble_eq_true rfl, Nat.le_of_ble_eq_true rfl⟩ (fun E ce q9 g9 H locs hp9 hM hce hcv hcl => ?_) (fun v9 g9 H locs hp9 hM => ?_)
          · exact (hp9.elim fun _ h9 => h9.2.elim)
          obtain ⟨h25, rfl, hp9⟩ := hp9
          obtain ⟨rfl, rfl⟩ := hp9
          refine W.eq (g2 := F0 m 28 ls [.int (mo_lg S)]) rfl ?_
          refine lv_iconst (v := 3) hx hb dX4_refer_28 (by decide) ?_
          refine lv_iadd hx hb dX4_refer_29 ?_
          refine lv_sipush (v := 150) hx hb dX4_refer_30 (by decide) ?_
          refine lv_icmp_le (tgt := 44) hx hb dX4_refer_33 (by decide) (fun c33 => ?_) (fun c33 => ?_)
          · refine lv_aload_n hx hb dX4_refer_44 rfl (lv_at hl 0 rfl) ?_
            refine lv_iload_n hx hb dX4_refer_45 rfl (lv_at hl 1 rfl) ?_
            refine lv_iload_n hx hb dX4_refer_46 rfl (lv_at hl 2 rfl) ?_
            refine lv_iconst (v := 1) hx hb dX4_refer_47 (by decide) ?_
            refine lv_iload_n hx hb dX4_refer_48 rfl (lv_at hl 3 rfl) ?_
            refine mw_callV (As := [.int t, .int (nI d), .int 1, .int g]) (rest := []) (n := 4) (C := RX4) (T := TX4) (N := 21) (ci := 4) hC hM (c_X4_set l hl0 D cs h H.size o A hK S t d hd9 1 g (Or.inr rfl) u hu (hu6 c33) k hk) (cwV 4 hC.1.2.2.2.2 (tb_V mb_593 mb_594 mb_23 mb_40 mb_595) rfl rfl rfl (by decide +kernel) ⟨Nat.le_of_ble_eq_true rfl, Nat.le_of_ble_eq_true rfl⟩) (th_at (h := mo_h o A h S) hK.1) rfl rfl rfl hl.1 (Nat.le_of_ble_eq_true rfl) dX4_refer_49 ⟨Nat.le_of_ble_eq_true rfl, Nat.le_of_ble_eq_true rfl⟩ (fun E ce q9 g9 H locs hp9 hM hce hcv hcl => ?_) (fun v9 g9 H locs hp9 hM => ?_)
            · exact (hp9.elim fun _ h9 => h9.2.elim)
            obtain ⟨h49, rfl, hp9⟩ := hp9
            obtain ⟨rfl, T, hst, rfl⟩ := hp9
            refine W.eq (g2 := F0 m 52 ls [.int 1]) rfl ?_
            refine mw_iret hC hM hr hlk dX4_refer_52 (Nat.le_of_ble_eq_true rfl) (Nat.le_of_ble_eq_true rfl) ⟨_, rfl, ?_⟩
            exact ⟨T, Or.inr ⟨Or.inr ⟨r, hr9⟩, Or.inr ⟨c33, rfl, hst⟩⟩, rfl⟩
          · refine lv_aload_n hx hb dX4_refer_36 rfl (lv_at hl 0 rfl) ?_
            refine lv_iconst (v := 5) hx hb dX4_refer_37 (by decide) ?_
            refine mw_callV (As := [.int 5]) (rest := []) (n := 1) (C := RX4) (T := TX4) (N := 21) (ci := 4) hC hM (c_X4_raise l hl0 D cs h H.size o A hK S 5) (cwV 1 hC.1.2.2.2.2 (tb_V mb_567 mb_568 mb_18 mb_40 mb_569) rfl rfl rfl (by decide +kernel) ⟨Nat.le_of_ble_eq_true rfl, Nat.le_of_ble_eq_true rfl⟩) (th_at (h := mo_h o A h S) hK.1) rfl rfl rfl hl.1 (Nat.le_of_ble_eq_true rfl) dX4_refer_38 ⟨Nat.le_of_ble_eq_true rfl, Nat.le_of_ble_eq_true rfl⟩ (fun E ce q9 g9 H locs hp9 hM hce hcv hcl => ?_) (fun v9 g9 H locs hp9 hM => ?_)
            · exact (hp9.elim fun _ h9 => h9.2.elim)
            obtain ⟨h38, rfl, hp9⟩ := hp9
            obtain ⟨rfl, rfl⟩ := hp9
            refine W.eq (g2 := F0 m 41 ls [.int 0]) rfl ?_
            refine lv_goto (tgt := 52) hx hb dX4_refer_41 (by decide) ?_
            refine mw_iret hC hM hr hlk dX4_refer_52 (Nat.le_of_ble_eq_true rfl) (Nat.le_of_ble_eq_true rfl) ⟨_, rfl, ?_⟩
            exact ⟨_, Or.inr ⟨Or.inr ⟨r, hr9⟩, Or.inl ⟨c33, rfl, rfl⟩⟩, rfl⟩
        · exact absurd (nI_pos' (by omega)) c15
      · refine W.eq (g2 := F0 m 15 ls [.int (-1)]) rfl ?_
        refine lv_if_ge (tgt := 24) hx hb dX4_refer_15 (by decide) (fun c15 => ?_) (fun c15 => ?_)
        · exact absurd c15 (by decide)
        · refine lv_aload_n hx hb dX4_refer_18 rfl (lv_at hl 0 rfl) ?_
          refine lv_iconst (v := 4) hx hb dX4_refer_19 (by decide) ?_
          refine mw_callV (As := [.int 4]) (rest := []) (n := 1) (C := RX4) (T := TX4) (N := 21) (ci := 4) hC hM (c_X4_raise l hl0 D cs h H.size o A hK S 4) (cwV 1 hC.1.2.2.2.2 (tb_V mb_567 mb_568 mb_18 mb_40 mb_569) rfl rfl rfl (by decide +kernel) ⟨Nat.le_of_ble_eq_true rfl, Nat.le_of_ble_eq_true rfl⟩) (th_at (h := mo_h o A h S) hK.1) rfl rfl rfl hl.1 (Nat.le_of_ble_eq_true rfl) dX4_refer_20 ⟨Nat.le_of_ble_eq_true rfl, Nat.le_of_ble_eq_true rfl⟩ (fun E ce q9 g9 H locs hp9 hM hce hcv hcl => ?_) (fun v9 g9 H locs hp9 hM => ?_)
          · exact (hp9.elim fun _ h9 => h9.2.elim)
          obtain ⟨h20, rfl, hp9⟩ := hp9
          obtain ⟨rfl, rfl⟩ := hp9
          refine W.eq (g2 := F0 m 23 ls [.int 0]) rfl ?_
          refine mw_iret hC hM hr hlk dX4_refer_23 (Nat.le_of_ble_eq_true rfl) (Nat.le_of_ble_eq_true rfl) ⟨_, rfl, ?_⟩
          exact ⟨_, Or.inl ⟨c7, hr9, rfl, rfl⟩, rfl⟩
  · exact absurd (nI_pos' (by omega)) c1

-- StableHeapModel.refer
set_option maxHeartbeats 4000000 in
set_option maxRecDepth 100000 in
theorem c_X4_refer_n (l : Launch) (hl0 : l.stackTraces = false) (D : va_G) (cs : Nat → ClassId) (h : th_S) (sz : Nat) (o : Nat) (A : Nat → Nat) (hK : mo_K o A h) (S : th_N) (t g : Int32) : th_M l yX4_refer wsX4_refer { frames := 2, cells := 0, slots := 0, locals := 47 } D cs (mo_h o A h S) sz [.ref o, .int t, .int (-1), .int g] (fun v h' => h' = mo_h o A h S ∧ v = some (.int 0)) (fun E h' => False) := by
  refine mw_ofW (cc := cX4_refer) (maxL := 4) (ret := (some .int)) (by decide) rfl (fun w h => List.mem_cons_of_mem _ h) th_cd (Nat.le_of_ble_eq_true rfl) ?_
  intro p e s m below meth c hsz hC hr hlk hnm htab hM ls hl
  have hC : th_C D cs (mo_h o A h S) p m c cX4_refer 4 s [.ref o, .int t, .int (-1), .int g] RX4 := hC
  have hx := hC.1.1
  have hb := hC.1.2.1
  have hl : lv_has ls 4 [(0, .ref o), (1, .int t), (2, .int (-1)), (3, .int g)] := hl
  refine lv_iload_n hx hb dX4_refer_0 rfl (lv_at hl 2 rfl) ?_
  refine lv_if_ge (tgt := 6) hx hb dX4_refer_1 (by decide) (fun c1 => ?_) (fun c1 => ?_)
  · exact absurd c1 (by decide)
  · refine lv_iconst (v := 0) hx hb dX4_refer_4 (by decide) ?_
    refine mw_iret hC hM hr hlk dX4_refer_5 (Nat.le_of_ble_eq_true rfl) (Nat.le_of_ble_eq_true rfl) ⟨_, rfl, ?_⟩
    exact ⟨rfl, rfl⟩

-- StableHeapModel.setReference
set_option maxHeartbeats 4000000 in
set_option maxRecDepth 100000 in
theorem c_X4_setReference (l : Launch) (hl0 : l.stackTraces = false) (D : va_G) (cs : Nat → ClassId) (h : th_S) (sz : Nat) (o : Nat) (A : Nat → Nat) (hK : mo_K o A h) (S : th_N) (t b f g : Int32) (hz9 : ∀ r, r < 80 → ∃ k, k ≤ 4 ∧ S.2 2 r = nI k) (u : Nat) (hu : S.1 20 = nI u) (hu6 : mo_lg S + 3 ≤ 150 → u < 60) : th_M l yX4_setReference wsX4_setReference { frames := 3, cells := 0, slots := 0, locals := 70 } D cs (mo_h o A h S) sz [.ref o, .int t, .int b, .int f, .int g] (fun v h' => ∃ e c, mo_ce S t b f e c ∧ ((¬ e = 0 ∧ v = some (.int 0) ∧ h' = mo_h o A h (su (su S 0 0) 0 e)) ∨ (e = 0 ∧ ∃ k T, mo_tx S t k ∧ mo_rf (su S 0 0) u t k c g v T ∧ h' = mo_h o A h T))) (fun E h' => False) := by
  refine mw_ofW (cc := cX4_setReference) (maxL := 5) (ret := (some .int)) (by decide) rfl (fun w h => List.mem_cons_of_mem _ h) th_cd (Nat.le_of_ble_eq_true rfl) ?_
  intro p e s m below meth c hsz hC hr hlk hnm htab hM ls hl
  have hC : th_C D cs (mo_h o A h S) p m c cX4_setReference 5 s [.ref o, .int t, .int b, .int f, .int g] RX4 := hC
  have hx := hC.1.1
  have hb := hC.1.2.1
  have hl : lv_has ls 5 [(0, .ref o), (1, .int t), (2, .int b), (3, .int f), (4, .int g)] := hl
  refine lv_aload_n hx hb dX4_setReference_0 rfl (lv_at hl 0 rfl) ?_
  refine lv_iload_n hx hb dX4_setReference_1 rfl (lv_at hl 1 rfl) ?_
  refine lv_aload_n hx hb dX4_setReference_2 rfl (lv_at hl 0 rfl) ?_
  refine lv_iload_n hx hb dX4_setReference_3 rfl (lv_at hl 1 rfl) ?_
  refine lv_iload_n hx hb dX4_setReference_4 rfl (lv_at hl 2 rfl) ?_
  refine lv_iload_n hx hb dX4_setReference_5 rfl (lv_at hl 3 rfl) ?_
  refine mw_callV (As := [.int t, .int b, .int f]) (rest := [.int t, .ref o]) (n := 3) (C := RX4) (T := TX4) (N := 21) (ci := 4) hC hM (c_X4_cell l hl0 D cs h s.heap.size o A hK S t b f hz9) (cwV 3 hC.1.2.2.2.2 (tb_V mb_587 mb_588 mb_21 mb_40 mb_589) rfl rfl rfl (by decide +kernel) ⟨Nat.le_of_ble_eq_true rfl, Nat.le_of_ble_eq_true rfl⟩) (th_at (h := mo_h o A h S) hK.1) rfl rfl rfl hl.1 (Nat.le_of_ble_eq_true rfl) dX4_setReference_6 ⟨Nat.le_of_ble_eq_true rfl, Nat.le_of_ble_eq_true rfl⟩ (fun E ce q9 g9 H locs hp9 hM hce hcv hcl => ?_) (fun v9 g9 H locs hp9 hM => ?_)
  · exact (hp9.elim fun _ h9 => h9.2.elim)
  obtain ⟨h6, rfl, hp9⟩ := hp9
  obtain ⟨e9, d, hce, hp9⟩ := hp9
  rcases hp9 with ⟨he9, rfl, rfl⟩ | ⟨rfl, rfl, rfl⟩
  · refine W.eq (g2 := F0 m 9 ls [.int (-1), .int t, .ref o]) rfl ?_
    refine lv_iload hx hb dX4_setReference_9 (lv_at hl 4 rfl) ?_
    refine mw_callV (As := [.int t, .int (-1), .int g]) (rest := []) (n := 3) (C := RX4) (T := TX4) (N := 21) (ci := 4) hC hM (c_X4_refer_n l hl0 D cs h H.size o A hK (su (su S 0 0) 0 e9) t g) (cwV 3 hC.1.2.2.2.2 (tb_V mb_609 mb_610 mb_27 mb_40 mb_611) rfl rfl rfl (by decide +kernel) ⟨Nat.le_of_ble_eq_true rfl, Nat.le_of_ble_eq_true rfl⟩) (th_at (h := mo_h o A h (su (su S 0 0) 0 e9)) hK.1) rfl rfl rfl hl.1 (Nat.le_of_ble_eq_true rfl) dX4_setReference_11 ⟨Nat.le_of_ble_eq_true rfl, Nat.le_of_ble_eq_true rfl⟩ (fun E ce q9 g9 H locs hp9 hM hce hcv hcl => ?_) (fun v9 g9 H locs hp9 hM => ?_)
    · exact (hp9.elim fun _ h9 => h9.2.elim)
    obtain ⟨h11, rfl, hp9⟩ := hp9
    obtain ⟨rfl, rfl⟩ := hp9
    refine W.eq (g2 := F0 m 14 ls [.int 0]) rfl ?_
    refine mw_iret hC hM hr hlk dX4_setReference_14 (Nat.le_of_ble_eq_true rfl) (Nat.le_of_ble_eq_true rfl) ⟨_, rfl, ?_⟩
    exact ⟨e9, d, hce, Or.inl ⟨he9, rfl, rfl⟩⟩
  · obtain ⟨hd3, k, hk⟩ := hce.c
    refine W.eq (g2 := F0 m 9 ls [.int (nI d), .int t, .ref o]) rfl ?_
    refine lv_iload hx hb dX4_setReference_9 (lv_at hl 4 rfl) ?_
    refine mw_callV (As := [.int t, .int (nI d), .int g]) (rest := []) (n := 3) (C := RX4) (T := TX4) (N := 21) (ci := 4) hC hM (c_X4_refer l hl0 D cs h H.size o A hK (su S 0 0) t d (by omega) g u hu hu6 k hk) (cwV 3 hC.1.2.2.2.2 (tb_V mb_609 mb_610 mb_27 mb_40 mb_611) rfl rfl rfl (by decide +kernel) ⟨Nat.le_of_ble_eq_true rfl, Nat.le_of_ble_eq_true rfl⟩) (th_at (h := mo_h o A h (su S 0 0)) hK.1) rfl rfl rfl hl.1 (Nat.le_of_ble_eq_true rfl) dX4_setReference_11 ⟨Nat.le_of_ble_eq_true rfl, Nat.le_of_ble_eq_true rfl⟩ (fun E ce q9 g9 H locs hp9 hM hce hcv hcl => ?_) (fun v9 g9 H locs hp9 hM => ?_)
    · exact (hp9.elim fun _ h9 => h9.2.elim)
    obtain ⟨h11, rfl, hp9⟩ := hp9
    obtain ⟨T, hrf, rfl⟩ := hp9
    rcases hrf.v with rfl | rfl
    · refine W.eq (g2 := F0 m 14 ls [.int 0]) rfl ?_
      refine mw_iret hC hM hr hlk dX4_setReference_14 (Nat.le_of_ble_eq_true rfl) (Nat.le_of_ble_eq_true rfl) ⟨_, rfl, ?_⟩
      exact ⟨0, d, hce, Or.inr ⟨rfl, k, T, hk, hrf, rfl⟩⟩
    · refine W.eq (g2 := F0 m 14 ls [.int 1]) rfl ?_
      refine mw_iret hC hM hr hlk dX4_setReference_14 (Nat.le_of_ble_eq_true rfl) (Nat.le_of_ble_eq_true rfl) ⟨_, rfl, ?_⟩
      exact ⟨0, d, hce, Or.inr ⟨rfl, k, T, hk, hrf, rfl⟩⟩

-- StableHeapModel.setRoot
set_option maxHeartbeats 4000000 in
set_option maxRecDepth 100000 in
theorem c_X4_setRoot (l : Launch) (hl0 : l.stackTraces = false) (D : va_G) (cs : Nat → ClassId) (h : th_S) (sz : Nat) (o : Nat) (A : Nat → Nat) (hK : mo_K o A h) (S : th_N) (t b g : Int32) (u : Nat) (hu : S.1 20 = nI u) (hu6 : mo_lg S + 3 ≤ 150 → u < 60) : th_M l yX4_setRoot wsX4_setRoot { frames := 3, cells := 0, slots := 0, locals := 70 } D cs (mo_h o A h S) sz [.ref o, .int t, .int b, .int g] (fun v h' => ∃ e c, mo_rc S t b e c ∧ ((¬ e = 0 ∧ v = some (.int 0) ∧ h' = mo_h o A h (su (su S 0 0) 0 e)) ∨ (e = 0 ∧ ∃ k T, mo_tx S t k ∧ mo_rf (su S 0 0) u t k c g v T ∧ h' = mo_h o A h T))) (fun E h' => False) := by
  refine mw_ofW (cc := cX4_setRoot) (maxL := 4) (ret := (some .int)) (by decide) rfl (fun w h => List.mem_cons_of_mem _ h) th_cd (Nat.le_of_ble_eq_true rfl) ?_
  intro p e s m below meth c hsz hC hr hlk hnm htab hM ls hl
  have hC : th_C D cs (mo_h o A h S) p m c cX4_setRoot 4 s [.ref o, .int t, .int b, .int g] RX4 := hC
  have hx := hC.1.1
  have hb := hC.1.2.1
  have hl : lv_has ls 4 [(0, .ref o), (1, .int t), (2, .int b), (3, .int g)] := hl
  refine lv_aload_n hx hb dX4_setRoot_0 rfl (lv_at hl 0 rfl) ?_
  refine lv_iload_n hx hb dX4_setRoot_1 rfl (lv_at hl 1 rfl) ?_
  refine lv_aload_n hx hb dX4_setRoot_2 rfl (lv_at hl 0 rfl) ?_
  refine lv_iload_n hx hb dX4_setRoot_3 rfl (lv_at hl 1 rfl) ?_
  refine lv_iload_n hx hb dX4_setRoot_4 rfl (lv_at hl 2 rfl) ?_
  refine mw_callV (As := [.int t, .int b]) (rest := [.int t, .ref o]) (n := 2) (C := RX4) (T := TX4) (N := 21) (ci := 4) hC hM (c_X4_rootCell l hl0 D cs h s.heap.size o A hK S t b) (cwV 2 hC.1.2.2.2.2 (tb_V mb_616 mb_617 mb_28 mb_40 mb_618) rfl rfl rfl (by decide +kernel) ⟨Nat.le_of_ble_eq_true rfl, Nat.le_of_ble_eq_true rfl⟩) (th_at (h := mo_h o A h S) hK.1) rfl rfl rfl hl.1 (Nat.le_of_ble_eq_true rfl) dX4_setRoot_5 ⟨Nat.le_of_ble_eq_true rfl, Nat.le_of_ble_eq_true rfl⟩ (fun E ce q9 g9 H locs hp9 hM hce hcv hcl => ?_) (fun v9 g9 H locs hp9 hM => ?_)
  · exact (hp9.elim fun _ h9 => h9.2.elim)
  obtain ⟨h5, rfl, hp9⟩ := hp9
  obtain ⟨e9, d, hce, hp9⟩ := hp9
  rcases hp9 with ⟨he9, rfl, rfl⟩ | ⟨rfl, rfl, rfl⟩
  · refine W.eq (g2 := F0 m 8 ls [.int (-1), .int t, .ref o]) rfl ?_
    refine lv_iload_n hx hb dX4_setRoot_8 rfl (lv_at hl 3 rfl) ?_
    refine mw_callV (As := [.int t, .int (-1), .int g]) (rest := []) (n := 3) (C := RX4) (T := TX4) (N := 21) (ci := 4) hC hM (c_X4_refer_n l hl0 D cs h H.size o A hK (su (su S 0 0) 0 e9) t g) (cwV 3 hC.1.2.2.2.2 (tb_V mb_609 mb_610 mb_27 mb_40 mb_611) rfl rfl rfl (by decide +kernel) ⟨Nat.le_of_ble_eq_true rfl, Nat.le_of_ble_eq_true rfl⟩) (th_at (h := mo_h o A h (su (su S 0 0) 0 e9)) hK.1) rfl rfl rfl hl.1 (Nat.le_of_ble_eq_true rfl) dX4_setRoot_9 ⟨Nat.le_of_ble_eq_true rfl, Nat.le_of_ble_eq_true rfl⟩ (fun E ce q9 g9 H locs hp9 hM hce hcv hcl => ?_) (fun v9 g9 H locs hp9 hM => ?_)
    · exact (hp9.elim fun _ h9 => h9.2.elim)
    obtain ⟨h9, rfl, hp9⟩ := hp9
    obtain ⟨rfl, rfl⟩ := hp9
    refine W.eq (g2 := F0 m 12 ls [.int 0]) rfl ?_
    refine mw_iret hC hM hr hlk dX4_setRoot_12 (Nat.le_of_ble_eq_true rfl) (Nat.le_of_ble_eq_true rfl) ⟨_, rfl, ?_⟩
    exact ⟨e9, d, hce, Or.inl ⟨he9, rfl, rfl⟩⟩
  · obtain ⟨hd3, k, hk⟩ := hce.c
    refine W.eq (g2 := F0 m 8 ls [.int (nI d), .int t, .ref o]) rfl ?_
    refine lv_iload_n hx hb dX4_setRoot_8 rfl (lv_at hl 3 rfl) ?_
    refine mw_callV (As := [.int t, .int (nI d), .int g]) (rest := []) (n := 3) (C := RX4) (T := TX4) (N := 21) (ci := 4) hC hM (c_X4_refer l hl0 D cs h H.size o A hK (su S 0 0) t d (by omega) g u hu hu6 k hk) (cwV 3 hC.1.2.2.2.2 (tb_V mb_609 mb_610 mb_27 mb_40 mb_611) rfl rfl rfl (by decide +kernel) ⟨Nat.le_of_ble_eq_true rfl, Nat.le_of_ble_eq_true rfl⟩) (th_at (h := mo_h o A h (su S 0 0)) hK.1) rfl rfl rfl hl.1 (Nat.le_of_ble_eq_true rfl) dX4_setRoot_9 ⟨Nat.le_of_ble_eq_true rfl, Nat.le_of_ble_eq_true rfl⟩ (fun E ce q9 g9 H locs hp9 hM hce hcv hcl => ?_) (fun v9 g9 H locs hp9 hM => ?_)
    · exact (hp9.elim fun _ h9 => h9.2.elim)
    obtain ⟨h9, rfl, hp9⟩ := hp9
    obtain ⟨T, hrf, rfl⟩ := hp9
    rcases hrf.v with rfl | rfl
    · refine W.eq (g2 := F0 m 12 ls [.int 0]) rfl ?_
      refine mw_iret hC hM hr hlk dX4_setRoot_12 (Nat.le_of_ble_eq_true rfl) (Nat.le_of_ble_eq_true rfl) ⟨_, rfl, ?_⟩
      exact ⟨0, d, hce, Or.inr ⟨rfl, k, T, hk, hrf, rfl⟩⟩
    · refine W.eq (g2 := F0 m 12 ls [.int 1]) rfl ?_
      refine mw_iret hC hM hr hlk dX4_setRoot_12 (Nat.le_of_ble_eq_true rfl) (Nat.le_of_ble_eq_true rfl) ⟨_, rfl, ?_⟩
      exact ⟨0, d, hce, Or.inr ⟨rfl, k, T, hk, hrf, rfl⟩⟩

-- StableHeapModel.get
set_option maxHeartbeats 4000000 in
set_option maxRecDepth 100000 in
theorem c_X4_get (l : Launch) (hl0 : l.stackTraces = false) (D : va_G) (cs : Nat → ClassId) (h : th_S) (sz : Nat) (o : Nat) (A : Nat → Nat) (hK : mo_K o A h) (S : th_N) (t b f a : Int32) (hz9 : ∀ r, r < 80 → ∃ k, k ≤ 4 ∧ S.2 2 r = nI k) : th_M l yX4_get wsX4_get { frames := 2, cells := 0, slots := 0, locals := 46 } D cs (mo_h o A h S) sz [.ref o, .int t, .int b, .int f, .int a] (fun v h' => ∃ e c, mo_ce S t b f e c ∧ ((¬ e = 0 ∧ v = some (.int 0) ∧ h' = mo_h o A h (su (su S 0 0) 0 e)) ∨ (e = 0 ∧ ((S.2 4 c = a ∧ v = some (.int (S.2 5 c)) ∧ h' = mo_h o A h (mo_lc (su S 0 0) c t)) ∨ (¬ S.2 4 c = a ∧ v = some (.int 0) ∧ h' = mo_h o A h (su (mo_lc (su S 0 0) c t) 0 4)))))) (fun E h' => False) := by
  refine mw_ofW (cc := cX4_get) (maxL := 6) (ret := (some .int)) (by decide) rfl (fun w h => List.mem_cons_of_mem _ h) th_cd (Nat.le_of_ble_eq_true rfl) ?_
  intro p e s m below meth c hsz hC hr hlk hnm htab hM ls hl
  have hC : th_C D cs (mo_h o A h S) p m c cX4_get 6 s [.ref o, .int t, .int b, .int f, .int a] RX4 := hC
  have hx := hC.1.1
  have hb := hC.1.2.1
  have hl : lv_has ls 6 [(0, .ref o), (1, .int t), (2, .int b), (3, .int f), (4, .int a)] := hl
  refine lv_aload_n hx hb dX4_get_0 rfl (lv_at hl 0 rfl) ?_
  refine lv_iload_n hx hb dX4_get_1 rfl (lv_at hl 1 rfl) ?_
  refine lv_iload_n hx hb dX4_get_2 rfl (lv_at hl 2 rfl) ?_
  refine lv_iload_n hx hb dX4_get_3 rfl (lv_at hl 3 rfl) ?_
  refine mw_callV (As := [.int t, .int b, .int f]) (rest := []) (n := 3) (C := RX4) (T := TX4) (N := 21) (ci := 4) hC hM (c_X4_cell l hl0 D cs h s.heap.size o A hK S t b f hz9) (cwV 3 hC.1.2.2.2.2 (tb_V mb_587 mb_588 mb_21 mb_40 mb_589) rfl rfl rfl (by decide +kernel) ⟨Nat.le_of_ble_eq_true rfl, Nat.le_of_ble_eq_true rfl⟩) (th_at (h := mo_h o A h S) hK.1) rfl rfl rfl hl.1 (Nat.le_of_ble_eq_true rfl) dX4_get_4 ⟨Nat.le_of_ble_eq_true rfl, Nat.le_of_ble_eq_true rfl⟩ (fun E ce q9 g9 H locs hp9 hM hce hcv hcl => ?_) (fun v9 g9 H locs hp9 hM => ?_)
  · exact (hp9.elim fun _ h9 => h9.2.elim)
  obtain ⟨h4, rfl, hp9⟩ := hp9
  obtain ⟨e9, d, hce, hp9⟩ := hp9
  rcases hp9 with ⟨he9, rfl, rfl⟩ | ⟨rfl, rfl, rfl⟩
  · refine W.eq (g2 := F0 m 7 ls [.int (-1)]) rfl ?_
    refine lv_istore (lv' := [(5, .int (-1)), (0, .ref o), (1, .int t), (2, .int b), (3, .int f), (4, .int a)]) hx hb dX4_get_7 hl (by decide) rfl (fun ls hl => ?_)
    refine lv_iload hx hb dX4_get_9 (lv_at hl 0 rfl) ?_
    refine lv_if_ge (tgt := 16) hx hb dX4_get_11 (by decide) (fun c11 => ?_) (fun c11 => ?_)
    · exact absurd c11 (by decide)
    · refine lv_iconst (v := 0) hx hb dX4_get_14 (by decide) ?_
      refine mw_iret hC hM hr hlk dX4_get_15 (Nat.le_of_ble_eq_true rfl) (Nat.le_of_ble_eq_true rfl) ⟨_, rfl, ?_⟩
      exact ⟨e9, d, hce, Or.inl ⟨he9, rfl, rfl⟩⟩
  · obtain ⟨hd3, k, hk⟩ := hce.c
    refine W.eq (g2 := F0 m 7 ls [.int (nI d)]) rfl ?_
    refine lv_istore (lv' := [(5, .int (nI d)), (0, .ref o), (1, .int t), (2, .int b), (3, .int f), (4, .int a)]) hx hb dX4_get_7 hl (by decide) rfl (fun ls hl => ?_)
    refine lv_iload hx hb dX4_get_9 (lv_at hl 0 rfl) ?_
    refine lv_if_ge (tgt := 16) hx hb dX4_get_11 (by decide) (fun c11 => ?_) (fun c11 => ?_)
    · refine lv_aload_n hx hb dX4_get_16 rfl (lv_at hl 1 rfl) ?_
      refine lv_iload hx hb dX4_get_17 (lv_at hl 0 rfl) ?_
      refine lv_iload_n hx hb dX4_get_19 rfl (lv_at hl 2 rfl) ?_
      refine mw_callV (As := [.int (nI d), .int t]) (rest := []) (n := 2) (C := RX4) (T := TX4) (N := 21) (ci := 4) hC hM (c_X4_lockCell l hl0 D cs h H.size o A hK (su S 0 0) d (by omega) t) (cwV 2 hC.1.2.2.2.2 (tb_V mb_599 mb_600 mb_25 mb_40 mb_601) rfl rfl rfl (by decide +kernel) ⟨Nat.le_of_ble_eq_true rfl, Nat.le_of_ble_eq_true rfl⟩) (th_at (h := mo_h o A h (su S 0 0)) hK.1) rfl rfl rfl hl.1 (Nat.le_of_ble_eq_true rfl) dX4_get_20 ⟨Nat.le_of_ble_eq_true rfl, Nat.le_of_ble_eq_true rfl⟩ (fun E ce q9 g9 H locs hp9 hM hce hcv hcl => ?_) (fun v9 g9 H locs hp9 hM => ?_)
      · exact (hp9.elim fun _ h9 => h9.2.elim)
      obtain ⟨h20, rfl, hp9⟩ := hp9
      obtain ⟨rfl, rfl⟩ := hp9
      refine W.eq (g2 := F0 m 23 ls []) rfl ?_
      refine lv_aload_n hx hb dX4_get_23 rfl (lv_at hl 1 rfl) ?_
      refine gr_10_4 (index := 19) hC hM hK.1 mb_494 dX4_get_24 (hK.r4) ?_
      refine lv_iload hx hb dX4_get_27 (lv_at hl 0 rfl) ?_
      refine al_8 (i := d) (n := 320) hC hM hK.k4 (by first | rfl | decide) (by omega) (by decide) dX4_get_29 ?_
      rw [mo_a4 hK]
      rw [show (mo_lc (su S 0 0) d t).2 4 d = S.2 4 d from by rw [mo_lc_n _ _ _ (by decide) (by decide)]; rfl]
      refine lv_iload hx hb dX4_get_30 (lv_at hl 5 rfl) ?_
      refine lv_icmp_ne (tgt := 45) hx hb dX4_get_32 (by decide) (fun c32 => ?_) (fun c32 => ?_)
      · refine lv_aload_n hx hb dX4_get_45 rfl (lv_at hl 1 rfl) ?_
        refine lv_iconst (v := 4) hx hb dX4_get_46 (by decide) ?_
        refine mw_callV (As := [.int 4]) (rest := []) (n := 1) (C := RX4) (T := TX4) (N := 21) (ci := 4) hC hM (c_X4_raise l hl0 D cs h H.size o A hK (mo_lc (su S 0 0) d t) 4) (cwV 1 hC.1.2.2.2.2 (tb_V mb_567 mb_568 mb_18 mb_40 mb_569) rfl rfl rfl (by decide +kernel) ⟨Nat.le_of_ble_eq_true rfl, Nat.le_of_ble_eq_true rfl⟩) (th_at (h := mo_h o A h (mo_lc (su S 0 0) d t)) hK.1) rfl rfl rfl hl.1 (Nat.le_of_ble_eq_true rfl) dX4_get_47 ⟨Nat.le_of_ble_eq_true rfl, Nat.le_of_ble_eq_true rfl⟩ (fun E ce q9 g9 H locs hp9 hM hce hcv hcl => ?_) (fun v9 g9 H locs hp9 hM => ?_)
        · exact (hp9.elim fun _ h9 => h9.2.elim)
        obtain ⟨h47, rfl, hp9⟩ := hp9
        obtain ⟨rfl, rfl⟩ := hp9
        refine W.eq (g2 := F0 m 50 ls [.int 0]) rfl ?_
        refine mw_iret hC hM hr hlk dX4_get_50 (Nat.le_of_ble_eq_true rfl) (Nat.le_of_ble_eq_true rfl) ⟨_, rfl, ?_⟩
        exact ⟨0, d, hce, Or.inr ⟨rfl, Or.inr ⟨c32, rfl, rfl⟩⟩⟩
      · refine lv_aload_n hx hb dX4_get_35 rfl (lv_at hl 1 rfl) ?_
        refine gr_10_5 (index := 23) hC hM hK.1 mb_495 dX4_get_36 (hK.r5) ?_
        refine lv_iload hx hb dX4_get_39 (lv_at hl 0 rfl) ?_
        refine al_7 (i := d) (n := 320) hC hM hK.k5 (by first | rfl | decide) (by omega) (by decide) dX4_get_41 ?_
        rw [mo_a5 hK]
        rw [show (mo_lc (su S 0 0) d t).2 5 d = S.2 5 d from by rw [mo_lc_n _ _ _ (by decide) (by decide)]; rfl]
        refine lv_goto (tgt := 50) hx hb dX4_get_42 (by decide) ?_
        refine mw_iret hC hM hr hlk dX4_get_50 (Nat.le_of_ble_eq_true rfl) (Nat.le_of_ble_eq_true rfl) ⟨_, rfl, ?_⟩
        exact ⟨0, d, hce, Or.inr ⟨rfl, Or.inl ⟨c32, rfl, rfl⟩⟩⟩
    · exact absurd (nI_pos' (by omega)) c11

-- StableHeapModel.getInt
set_option maxHeartbeats 4000000 in
set_option maxRecDepth 100000 in
theorem c_X4_getInt (l : Launch) (hl0 : l.stackTraces = false) (D : va_G) (cs : Nat → ClassId) (h : th_S) (sz : Nat) (o : Nat) (A : Nat → Nat) (hK : mo_K o A h) (S : th_N) (t b f : Int32) (hz9 : ∀ r, r < 80 → ∃ k, k ≤ 4 ∧ S.2 2 r = nI k) : th_M l yX4_getInt wsX4_getInt { frames := 3, cells := 0, slots := 0, locals := 71 } D cs (mo_h o A h S) sz [.ref o, .int t, .int b, .int f] (fun v h' => ∃ e c, mo_ce S t b f e c ∧ ((¬ e = 0 ∧ v = some (.int 0) ∧ h' = mo_h o A h (su (su S 0 0) 0 e)) ∨ (e = 0 ∧ ((S.2 4 c = 0 ∧ v = some (.int (S.2 5 c)) ∧ h' = mo_h o A h (mo_lc (su S 0 0) c t)) ∨ (¬ S.2 4 c = 0 ∧ v = some (.int 0) ∧ h' = mo_h o A h (su (mo_lc (su S 0 0) c t) 0 4)))))) (fun E h' => False) := by
  refine mw_ofW (cc := cX4_getInt) (maxL := 4) (ret := (some .int)) (by decide) rfl (fun w h => List.mem_cons_of_mem _ h) th_cd (Nat.le_of_ble_eq_true rfl) ?_
  intro p e s m below meth c hsz hC hr hlk hnm htab hM ls hl
  have hC : th_C D cs (mo_h o A h S) p m c cX4_getInt 4 s [.ref o, .int t, .int b, .int f] RX4 := hC
  have hx := hC.1.1
  have hb := hC.1.2.1
  have hl : lv_has ls 4 [(0, .ref o), (1, .int t), (2, .int b), (3, .int f)] := hl
  refine lv_aload_n hx hb dX4_getInt_0 rfl (lv_at hl 0 rfl) ?_
  refine lv_iload_n hx hb dX4_getInt_1 rfl (lv_at hl 1 rfl) ?_
  refine lv_iload_n hx hb dX4_getInt_2 rfl (lv_at hl 2 rfl) ?_
  refine lv_iload_n hx hb dX4_getInt_3 rfl (lv_at hl 3 rfl) ?_
  refine lv_iconst (v := 0) hx hb dX4_getInt_4 (by decide) ?_
  refine mw_callV (As := [.int t, .int b, .int f, .int 0]) (rest := []) (n := 4) (C := RX4) (T := TX4) (N := 21) (ci := 4) hC hM (c_X4_get l hl0 D cs h s.heap.size o A hK S t b f 0 hz9) (cwV 4 hC.1.2.2.2.2 (tb_V mb_623 mb_624 mb_29 mb_40 mb_625) rfl rfl rfl (by decide +kernel) ⟨Nat.le_of_ble_eq_true rfl, Nat.le_of_ble_eq_true rfl⟩) (th_at (h := mo_h o A h S) hK.1) rfl rfl rfl hl.1 (Nat.le_of_ble_eq_true rfl) dX4_getInt_5 ⟨Nat.le_of_ble_eq_true rfl, Nat.le_of_ble_eq_true rfl⟩ (fun E ce q9 g9 H locs hp9 hM hce hcv hcl => ?_) (fun v9 g9 H locs hp9 hM => ?_)
  · exact (hp9.elim fun _ h9 => h9.2.elim)
  obtain ⟨h5, rfl, hp9⟩ := hp9
  obtain ⟨e9, d, hce, hp9⟩ := hp9
  rcases hp9 with ⟨he9, rfl, rfl⟩ | ⟨rfl, ⟨ha9, rfl, rfl⟩ | ⟨ha9, rfl, rfl⟩⟩
  · refine W.eq (g2 := F0 m 8 ls [.int 0]) rfl ?_
    refine mw_iret hC hM hr hlk dX4_getInt_8 (Nat.le_of_ble_eq_true rfl) (Nat.le_of_ble_eq_true rfl) ⟨_, rfl, ?_⟩
    exact ⟨e9, d, hce, Or.inl ⟨he9, rfl, rfl⟩⟩
  · refine W.eq (g2 := F0 m 8 ls [.int (S.2 5 d)]) rfl ?_
    refine mw_iret hC hM hr hlk dX4_getInt_8 (Nat.le_of_ble_eq_true rfl) (Nat.le_of_ble_eq_true rfl) ⟨_, rfl, ?_⟩
    exact ⟨0, d, hce, Or.inr ⟨rfl, Or.inl ⟨ha9, rfl, rfl⟩⟩⟩
  · refine W.eq (g2 := F0 m 8 ls [.int 0]) rfl ?_
    refine mw_iret hC hM hr hlk dX4_getInt_8 (Nat.le_of_ble_eq_true rfl) (Nat.le_of_ble_eq_true rfl) ⟨_, rfl, ?_⟩
    exact ⟨0, d, hce, Or.inr ⟨rfl, Or.inr ⟨ha9, rfl, rfl⟩⟩⟩

-- StableHeapModel.getReference
set_option maxHeartbeats 4000000 in
set_option maxRecDepth 100000 in
theorem c_X4_getReference (l : Launch) (hl0 : l.stackTraces = false) (D : va_G) (cs : Nat → ClassId) (h : th_S) (sz : Nat) (o : Nat) (A : Nat → Nat) (hK : mo_K o A h) (S : th_N) (t b f : Int32) (hz9 : ∀ r, r < 80 → ∃ k, k ≤ 4 ∧ S.2 2 r = nI k) : th_M l yX4_getReference wsX4_getReference { frames := 3, cells := 0, slots := 0, locals := 71 } D cs (mo_h o A h S) sz [.ref o, .int t, .int b, .int f] (fun v h' => ∃ e c, mo_ce S t b f e c ∧ ((¬ e = 0 ∧ v = some (.int 0) ∧ h' = mo_h o A h (su (su S 0 0) 0 e)) ∨ (e = 0 ∧ ((S.2 4 c = 1 ∧ v = some (.int (S.2 5 c)) ∧ h' = mo_h o A h (mo_lc (su S 0 0) c t)) ∨ (¬ S.2 4 c = 1 ∧ v = some (.int 0) ∧ h' = mo_h o A h (su (mo_lc (su S 0 0) c t) 0 4)))))) (fun E h' => False) := by
  refine mw_ofW (cc := cX4_getReference) (maxL := 4) (ret := (some .int)) (by decide) rfl (fun w h => List.mem_cons_of_mem _ h) th_cd (Nat.le_of_ble_eq_true rfl) ?_
  intro p e s m below meth c hsz hC hr hlk hnm htab hM ls hl
  have hC : th_C D cs (mo_h o A h S) p m c cX4_getReference 4 s [.ref o, .int t, .int b, .int f] RX4 := hC
  have hx := hC.1.1
  have hb := hC.1.2.1
  have hl : lv_has ls 4 [(0, .ref o), (1, .int t), (2, .int b), (3, .int f)] := hl
  refine lv_aload_n hx hb dX4_getReference_0 rfl (lv_at hl 0 rfl) ?_
  refine lv_iload_n hx hb dX4_getReference_1 rfl (lv_at hl 1 rfl) ?_
  refine lv_iload_n hx hb dX4_getReference_2 rfl (lv_at hl 2 rfl) ?_
  refine lv_iload_n hx hb dX4_getReference_3 rfl (lv_at hl 3 rfl) ?_
  refine lv_iconst (v := 1) hx hb dX4_getReference_4 (by decide) ?_
  refine mw_callV (As := [.int t, .int b, .int f, .int 1]) (rest := []) (n := 4) (C := RX4) (T := TX4) (N := 21) (ci := 4) hC hM (c_X4_get l hl0 D cs h s.heap.size o A hK S t b f 1 hz9) (cwV 4 hC.1.2.2.2.2 (tb_V mb_623 mb_624 mb_29 mb_40 mb_625) rfl rfl rfl (by decide +kernel) ⟨Nat.le_of_ble_eq_true rfl, Nat.le_of_ble_eq_true rfl⟩) (th_at (h := mo_h o A h S) hK.1) rfl rfl rfl hl.1 (Nat.le_of_ble_eq_true rfl) dX4_getReference_5 ⟨Nat.le_of_ble_eq_true rfl, Nat.le_of_ble_eq_true rfl⟩ (fun E ce q9 g9 H locs hp9 hM hce hcv hcl => ?_) (fun v9 g9 H locs hp9 hM => ?_)
  · exact (hp9.elim fun _ h9 => h9.2.elim)
  obtain ⟨h5, rfl, hp9⟩ := hp9
  obtain ⟨e9, d, hce, hp9⟩ := hp9
  rcases hp9 with ⟨he9, rfl, rfl⟩ | ⟨rfl, ⟨ha9, rfl, rfl⟩ | ⟨ha9, rfl, rfl⟩⟩
  · refine W.eq (g2 := F0 m 8 ls [.int 0]) rfl ?_
    refine mw_iret hC hM hr hlk dX4_getReference_8 (Nat.le_of_ble_eq_true rfl) (Nat.le_of_ble_eq_true rfl) ⟨_, rfl, ?_⟩
    exact ⟨e9, d, hce, Or.inl ⟨he9, rfl, rfl⟩⟩
  · refine W.eq (g2 := F0 m 8 ls [.int (S.2 5 d)]) rfl ?_
    refine mw_iret hC hM hr hlk dX4_getReference_8 (Nat.le_of_ble_eq_true rfl) (Nat.le_of_ble_eq_true rfl) ⟨_, rfl, ?_⟩
    exact ⟨0, d, hce, Or.inr ⟨rfl, Or.inl ⟨ha9, rfl, rfl⟩⟩⟩
  · refine W.eq (g2 := F0 m 8 ls [.int 0]) rfl ?_
    refine mw_iret hC hM hr hlk dX4_getReference_8 (Nat.le_of_ble_eq_true rfl) (Nat.le_of_ble_eq_true rfl) ⟨_, rfl, ?_⟩
    exact ⟨0, d, hce, Or.inr ⟨rfl, Or.inr ⟨ha9, rfl, rfl⟩⟩⟩

-- StableHeapModel.getRoot
set_option maxHeartbeats 4000000 in
set_option maxRecDepth 100000 in
theorem c_X4_getRoot (l : Launch) (hl0 : l.stackTraces = false) (D : va_G) (cs : Nat → ClassId) (h : th_S) (sz : Nat) (o : Nat) (A : Nat → Nat) (hK : mo_K o A h) (S : th_N) (t b : Int32) : th_M l yX4_getRoot wsX4_getRoot { frames := 2, cells := 0, slots := 0, locals := 44 } D cs (mo_h o A h S) sz [.ref o, .int t, .int b] (fun v h' => ∃ e c, mo_rc S t b e c ∧ ((¬ e = 0 ∧ v = some (.int 0) ∧ h' = mo_h o A h (su (su S 0 0) 0 e)) ∨ (e = 0 ∧ v = some (.int (S.2 7 (c - 320))) ∧ h' = mo_h o A h (mo_lc (su S 0 0) c t)))) (fun E h' => False) := by
  refine mw_ofW (cc := cX4_getRoot) (maxL := 4) (ret := (some .int)) (by decide) rfl (fun w h => List.mem_cons_of_mem _ h) th_cd (Nat.le_of_ble_eq_true rfl) ?_
  intro p e s m below meth c hsz hC hr hlk hnm htab hM ls hl
  have hC : th_C D cs (mo_h o A h S) p m c cX4_getRoot 4 s [.ref o, .int t, .int b] RX4 := hC
  have hx := hC.1.1
  have hb := hC.1.2.1
  have hl : lv_has ls 4 [(0, .ref o), (1, .int t), (2, .int b)] := hl
  refine lv_aload_n hx hb dX4_getRoot_0 rfl (lv_at hl 0 rfl) ?_
  refine lv_iload_n hx hb dX4_getRoot_1 rfl (lv_at hl 1 rfl) ?_
  refine lv_iload_n hx hb dX4_getRoot_2 rfl (lv_at hl 2 rfl) ?_
  refine mw_callV (As := [.int t, .int b]) (rest := []) (n := 2) (C := RX4) (T := TX4) (N := 21) (ci := 4) hC hM (c_X4_rootCell l hl0 D cs h s.heap.size o A hK S t b) (cwV 2 hC.1.2.2.2.2 (tb_V mb_616 mb_617 mb_28 mb_40 mb_618) rfl rfl rfl (by decide +kernel) ⟨Nat.le_of_ble_eq_true rfl, Nat.le_of_ble_eq_true rfl⟩) (th_at (h := mo_h o A h S) hK.1) rfl rfl rfl hl.1 (Nat.le_of_ble_eq_true rfl) dX4_getRoot_3 ⟨Nat.le_of_ble_eq_true rfl, Nat.le_of_ble_eq_true rfl⟩ (fun E ce q9 g9 H locs hp9 hM hce hcv hcl => ?_) (fun v9 g9 H locs hp9 hM => ?_)
  · exact (hp9.elim fun _ h9 => h9.2.elim)
  obtain ⟨h3, rfl, hp9⟩ := hp9
  obtain ⟨e9, d, hce, hp9⟩ := hp9
  rcases hp9 with ⟨he9, rfl, rfl⟩ | ⟨rfl, rfl, rfl⟩
  · refine W.eq (g2 := F0 m 6 ls [.int (-1)]) rfl ?_
    refine lv_istore_n (lv' := [(3, .int (-1)), (0, .ref o), (1, .int t), (2, .int b)]) hx hb dX4_getRoot_6 rfl hl (by decide) rfl (fun ls hl => ?_)
    refine lv_iload_n hx hb dX4_getRoot_7 rfl (lv_at hl 0 rfl) ?_
    refine lv_if_ge (tgt := 13) hx hb dX4_getRoot_8 (by decide) (fun c8 => ?_) (fun c8 => ?_)
    · exact absurd c8 (by decide)
    · refine lv_iconst (v := 0) hx hb dX4_getRoot_11 (by decide) ?_
      refine mw_iret hC hM hr hlk dX4_getRoot_12 (Nat.le_of_ble_eq_true rfl) (Nat.le_of_ble_eq_true rfl) ⟨_, rfl, ?_⟩
      exact ⟨e9, d, hce, Or.inl ⟨he9, rfl, rfl⟩⟩
  · obtain ⟨hd3, k, hk⟩ := hce.c
    refine W.eq (g2 := F0 m 6 ls [.int (nI d)]) rfl ?_
    refine lv_istore_n (lv' := [(3, .int (nI d)), (0, .ref o), (1, .int t), (2, .int b)]) hx hb dX4_getRoot_6 rfl hl (by decide) rfl (fun ls hl => ?_)
    refine lv_iload_n hx hb dX4_getRoot_7 rfl (lv_at hl 0 rfl) ?_
    refine lv_if_ge (tgt := 13) hx hb dX4_getRoot_8 (by decide) (fun c8 => ?_) (fun c8 => ?_)
    · obtain ⟨j, hj, rfl, rfl⟩ := hce.j
      refine lv_aload_n hx hb dX4_getRoot_13 rfl (lv_at hl 1 rfl) ?_
      refine lv_iload_n hx hb dX4_getRoot_14 rfl (lv_at hl 0 rfl) ?_
      refine lv_iload_n hx hb dX4_getRoot_15 rfl (lv_at hl 2 rfl) ?_
      refine mw_callV (As := [.int (nI (320 + j)), .int t]) (rest := []) (n := 2) (C := RX4) (T := TX4) (N := 21) (ci := 4) hC hM (c_X4_lockCell l hl0 D cs h H.size o A hK (su S 0 0) (320 + j) (by omega) t) (cwV 2 hC.1.2.2.2.2 (tb_V mb_599 mb_600 mb_25 mb_40 mb_601) rfl rfl rfl (by decide +kernel) ⟨Nat.le_of_ble_eq_true rfl, Nat.le_of_ble_eq_true rfl⟩) (th_at (h := mo_h o A h (su S 0 0)) hK.1) rfl rfl rfl hl.1 (Nat.le_of_ble_eq_true rfl) dX4_getRoot_16 ⟨Nat.le_of_ble_eq_true rfl, Nat.le_of_ble_eq_true rfl⟩ (fun E ce q9 g9 H locs hp9 hM hce hcv hcl => ?_) (fun v9 g9 H locs hp9 hM => ?_)
      · exact (hp9.elim fun _ h9 => h9.2.elim)
      obtain ⟨h16, rfl, hp9⟩ := hp9
      obtain ⟨rfl, rfl⟩ := hp9
      refine W.eq (g2 := F0 m 19 ls []) rfl ?_
      refine lv_aload_n hx hb dX4_getRoot_19 rfl (lv_at hl 1 rfl) ?_
      refine gr_10_7 (index := 29) hC hM hK.1 mb_497 dX4_getRoot_20 (hK.r7) ?_
      refine lv_iload_n hx hb dX4_getRoot_23 rfl (lv_at hl 3 rfl) ?_
      refine al_7 (i := j) (n := 4) hC hM hK.k7 (by first | rfl | decide) (by omega) (by decide) dX4_getRoot_24 ?_
      rw [mo_a7 hK]
      rw [show (mo_lc (su S 0 0) (320 + j) t).2 7 j = S.2 7 j from by rw [mo_lc_n _ _ _ (by decide) (by decide)]; rfl]
      refine mw_iret hC hM hr hlk dX4_getRoot_25 (Nat.le_of_ble_eq_true rfl) (Nat.le_of_ble_eq_true rfl) ⟨_, rfl, ?_⟩
      exact ⟨0, 320 + j, hce, Or.inr ⟨rfl, by rw [show 320 + j - 320 = j by omega], rfl⟩⟩
    · exact absurd (nI_pos' (by omega)) c8

-- StableHeapModel.fields
set_option maxHeartbeats 4000000 in
set_option maxRecDepth 100000 in
theorem c_X4_fields (l : Launch) (hl0 : l.stackTraces = false) (D : va_G) (cs : Nat → ClassId) (h : th_S) (sz : Nat) (o : Nat) (A : Nat → Nat) (hK : mo_K o A h) (S : th_N) (b : Int32) : th_M l yX4_fields wsX4_fields { frames := 1, cells := 0, slots := 0, locals := 22 } D cs (mo_h o A h S) sz [.ref o, .int b] (fun v h' => (mo_nr S b ∧ v = some (.int 0) ∧ h' = mo_h o A h (su (su S 0 0) 0 1)) ∨ ∃ r, mo_rw S b r ∧ v = some (.int (S.2 2 r)) ∧ h' = mo_h o A h (su S 0 0)) (fun E h' => False) := by
  refine mw_ofW (cc := cX4_fields) (maxL := 3) (ret := (some .int)) (by decide) rfl (fun w h => List.mem_cons_of_mem _ h) th_cd (Nat.le_of_ble_eq_true rfl) ?_
  intro p e s m below meth c hsz hC hr hlk hnm htab hM ls hl
  have hC : th_C D cs (mo_h o A h S) p m c cX4_fields 3 s [.ref o, .int b] RX4 := hC
  have hx := hC.1.1
  have hb := hC.1.2.1
  have hl : lv_has ls 3 [(0, .ref o), (1, .int b)] := hl
  refine lv_aload_n hx hb dX4_fields_0 rfl (lv_at hl 0 rfl) ?_
  refine lv_iconst (v := 0) hx hb dX4_fields_1 (by decide) ?_
  refine pu_10_0 (index := 53) (v := 0) hC hM hK.1 mb_490 dX4_fields_2 (fun H locs hM => ?_)
  rw [mo_um] at hM
  refine lv_aload_n hx hb dX4_fields_5 rfl (lv_at hl 0 rfl) ?_
  refine lv_iload_n hx hb dX4_fields_6 rfl (lv_at hl 1 rfl) ?_
  refine mw_callV (As := [.int b]) (rest := []) (n := 1) (C := RX4) (T := TX4) (N := 21) (ci := 4) hC hM (c_X4_row l hl0 D cs h H.size o A hK (su S 0 0) b) (cwV 1 hC.1.2.2.2.2 (tb_V mb_590 mb_591 mb_22 mb_40 mb_592) rfl rfl rfl (by decide +kernel) ⟨Nat.le_of_ble_eq_true rfl, Nat.le_of_ble_eq_true rfl⟩) (th_at (h := mo_h o A h (su S 0 0)) hK.1) rfl rfl rfl hl.1 (Nat.le_of_ble_eq_true rfl) dX4_fields_7 ⟨Nat.le_of_ble_eq_true rfl, Nat.le_of_ble_eq_true rfl⟩ (fun E ce q9 g9 H locs hp9 hM hce hcv hcl => ?_) (fun v9 g9 H locs hp9 hM => ?_)
  · exact (hp9.elim fun _ h9 => h9.2.elim)
  obtain ⟨h7, rfl, hp9⟩ := hp9
  obtain ⟨rfl, hp9⟩ := hp9
  rcases hp9 with ⟨r, hr9, rfl⟩ | ⟨hr9, rfl⟩
  · have r_lt : r < 80 := hr9.1
    refine W.eq (g2 := F0 m 10 ls [.int (nI r)]) rfl ?_
    refine lv_istore_n (lv' := [(2, .int (nI r)), (0, .ref o), (1, .int b)]) hx hb dX4_fields_10 rfl hl (by decide) rfl (fun ls hl => ?_)
    refine lv_iload_n hx hb dX4_fields_11 rfl (lv_at hl 0 rfl) ?_
    refine lv_if_ge (tgt := 23) hx hb dX4_fields_12 (by decide) (fun c12 => ?_) (fun c12 => ?_)
    · refine lv_aload_n hx hb dX4_fields_23 rfl (lv_at hl 1 rfl) ?_
      refine gr_10_2 (index := 13) hC hM hK.1 mb_492 dX4_fields_24 (hK.r2) ?_
      refine lv_iload_n hx hb dX4_fields_27 rfl (lv_at hl 0 rfl) ?_
      refine al_7 (i := r) (n := 80) hC hM hK.k2 (by first | rfl | decide) (by omega) (by decide) dX4_fields_28 ?_
      rw [mo_a2 hK]
      rw [show (su S 0 0).2 2 r = S.2 2 r from by first | rfl | simp [su, sa, va_up]]
      refine mw_iret hC hM hr hlk dX4_fields_29 (Nat.le_of_ble_eq_true rfl) (Nat.le_of_ble_eq_true rfl) ⟨_, rfl, ?_⟩
      exact Or.inr ⟨r, hr9, rfl, rfl⟩
    · exact absurd (nI_pos' (by omega)) c12
  · refine W.eq (g2 := F0 m 10 ls [.int (-1)]) rfl ?_
    refine lv_istore_n (lv' := [(2, .int (-1)), (0, .ref o), (1, .int b)]) hx hb dX4_fields_10 rfl hl (by decide) rfl (fun ls hl => ?_)
    refine lv_iload_n hx hb dX4_fields_11 rfl (lv_at hl 0 rfl) ?_
    refine lv_if_ge (tgt := 23) hx hb dX4_fields_12 (by decide) (fun c12 => ?_) (fun c12 => ?_)
    · exact absurd c12 (by decide)
    · refine lv_aload_n hx hb dX4_fields_15 rfl (lv_at hl 1 rfl) ?_
      refine lv_iconst (v := 1) hx hb dX4_fields_16 (by decide) ?_
      refine mw_callV (As := [.int 1]) (rest := []) (n := 1) (C := RX4) (T := TX4) (N := 21) (ci := 4) hC hM (c_X4_raise l hl0 D cs h H.size o A hK (su S 0 0) 1) (cwV 1 hC.1.2.2.2.2 (tb_V mb_567 mb_568 mb_18 mb_40 mb_569) rfl rfl rfl (by decide +kernel) ⟨Nat.le_of_ble_eq_true rfl, Nat.le_of_ble_eq_true rfl⟩) (th_at (h := mo_h o A h (su S 0 0)) hK.1) rfl rfl rfl hl.1 (Nat.le_of_ble_eq_true rfl) dX4_fields_17 ⟨Nat.le_of_ble_eq_true rfl, Nat.le_of_ble_eq_true rfl⟩ (fun E ce q9 g9 H locs hp9 hM hce hcv hcl => ?_) (fun v9 g9 H locs hp9 hM => ?_)
      · exact (hp9.elim fun _ h9 => h9.2.elim)
      obtain ⟨h17, rfl, hp9⟩ := hp9
      obtain ⟨rfl, rfl⟩ := hp9
      refine W.eq (g2 := F0 m 20 ls [.int 0]) rfl ?_
      refine lv_goto (tgt := 29) hx hb dX4_fields_20 (by decide) ?_
      refine mw_iret hC hM hr hlk dX4_fields_29 (Nat.le_of_ble_eq_true rfl) (Nat.le_of_ble_eq_true rfl) ⟨_, rfl, ?_⟩
      exact Or.inl ⟨hr9, rfl, rfl⟩

-- StableHeapModel.lockedBy
set_option maxHeartbeats 4000000 in
set_option maxRecDepth 100000 in
theorem c_X4_lockedBy (l : Launch) (hl0 : l.stackTraces = false) (D : va_G) (cs : Nat → ClassId) (h : th_S) (sz : Nat) (o : Nat) (A : Nat → Nat) (hK : mo_K o A h) (S : th_N) (b a : Int32) : th_M l yX4_lockedBy wsX4_lockedBy { frames := 1, cells := 0, slots := 0, locals := 22 } D cs (mo_h o A h S) sz [.ref o, .int b, .int a] (fun v h' => (b = 0 ∧ (((a < 0 ∨ ¬ a ≤ 3) ∧ v = some (.int 0) ∧ h' = mo_h o A h (su (su S 0 0) 0 1)) ∨ ∃ j, j < 4 ∧ a = nI j ∧ v = some (.int (S.2 8 j)) ∧ h' = mo_h o A h (su S 0 0))) ∨ (¬ b = 0 ∧ ((mo_nr S b ∧ v = some (.int 0) ∧ h' = mo_h o A h (su (su S 0 0) 0 1)) ∨ ∃ r, mo_rw S b r ∧ v = some (.int (S.2 3 r)) ∧ h' = mo_h o A h (su S 0 0)))) (fun E h' => False) := by
  refine mw_ofW (cc := cX4_lockedBy) (maxL := 4) (ret := (some .int)) (by decide) rfl (fun w h => List.mem_cons_of_mem _ h) th_cd (Nat.le_of_ble_eq_true rfl) ?_
  intro p e s m below meth c hsz hC hr hlk hnm htab hM ls hl
  have hC : th_C D cs (mo_h o A h S) p m c cX4_lockedBy 4 s [.ref o, .int b, .int a] RX4 := hC
  have hx := hC.1.1
  have hb := hC.1.2.1
  have hl : lv_has ls 4 [(0, .ref o), (1, .int b), (2, .int a)] := hl
  refine lv_aload_n hx hb dX4_lockedBy_0 rfl (lv_at hl 0 rfl) ?_
  refine lv_iconst (v := 0) hx hb dX4_lockedBy_1 (by decide) ?_
  refine pu_10_0 (index := 53) (v := 0) hC hM hK.1 mb_490 dX4_lockedBy_2 (fun H locs hM => ?_)
  rw [mo_um] at hM
  refine lv_iload_n hx hb dX4_lockedBy_5 rfl (lv_at hl 1 rfl) ?_
  refine lv_if_ne (tgt := 32) hx hb dX4_lockedBy_6 (by decide) (fun c6 => ?_) (fun c6 => ?_)
  · refine lv_aload_n hx hb dX4_lockedBy_32 rfl (lv_at hl 0 rfl) ?_
    refine lv_iload_n hx hb dX4_lockedBy_33 rfl (lv_at hl 1 rfl) ?_
    refine mw_callV (As := [.int b]) (rest := []) (n := 1) (C := RX4) (T := TX4) (N := 21) (ci := 4) hC hM (c_X4_row l hl0 D cs h H.size o A hK (su S 0 0) b) (cwV 1 hC.1.2.2.2.2 (tb_V mb_590 mb_591 mb_22 mb_40 mb_592) rfl rfl rfl (by decide +kernel) ⟨Nat.le_of_ble_eq_true rfl, Nat.le_of_ble_eq_true rfl⟩) (th_at (h := mo_h o A h (su S 0 0)) hK.1) rfl rfl rfl hl.1 (Nat.le_of_ble_eq_true rfl) dX4_lockedBy_34 ⟨Nat.le_of_ble_eq_true rfl, Nat.le_of_ble_eq_true rfl⟩ (fun E ce q9 g9 H locs hp9 hM hce hcv hcl => ?_) (fun v9 g9 H locs hp9 hM => ?_)
    · exact (hp9.elim fun _ h9 => h9.2.elim)
    obtain ⟨h34, rfl, hp9⟩ := hp9
    obtain ⟨rfl, hp9⟩ := hp9
    rcases hp9 with ⟨r, hr9, rfl⟩ | ⟨hr9, rfl⟩
    · have r_lt : r < 80 := hr9.1
      refine W.eq (g2 := F0 m 37 ls [.int (nI r)]) rfl ?_
      refine lv_istore_n (lv' := [(3, .int (nI r)), (0, .ref o), (1, .int b), (2, .int a)]) hx hb dX4_lockedBy_37 rfl hl (by decide) rfl (fun ls hl => ?_)
      refine lv_iload_n hx hb dX4_lockedBy_38 rfl (lv_at hl 0 rfl) ?_
      refine lv_if_ge (tgt := 50) hx hb dX4_lockedBy_39 (by decide) (fun c39 => ?_) (fun c39 => ?_)
      · refine lv_aload_n hx hb dX4_lockedBy_50 rfl (lv_at hl 1 rfl) ?_
        refine gr_10_3 (index := 16) hC hM hK.1 mb_493 dX4_lockedBy_51 (hK.r3) ?_
        refine lv_iload_n hx hb dX4_lockedBy_54 rfl (lv_at hl 0 rfl) ?_
        refine al_7 (i := r) (n := 80) hC hM hK.k3 (by first | rfl | decide) (by omega) (by decide) dX4_lockedBy_55 ?_
        rw [mo_a3 hK]
        rw [show (su S 0 0).2 3 r = S.2 3 r from by first | rfl | simp [su, sa, va_up]]
        refine mw_iret hC hM hr hlk dX4_lockedBy_56 (Nat.le_of_ble_eq_true rfl) (Nat.le_of_ble_eq_true rfl) ⟨_, rfl, ?_⟩
        exact Or.inr ⟨c6, Or.inr ⟨r, hr9, rfl, rfl⟩⟩
      · exact absurd (nI_pos' (by omega)) c39
    · refine W.eq (g2 := F0 m 37 ls [.int (-1)]) rfl ?_
      refine lv_istore_n (lv' := [(3, .int (-1)), (0, .ref o), (1, .int b), (2, .int a)]) hx hb dX4_lockedBy_37 rfl hl (by decide) rfl (fun ls hl => ?_)
      refine lv_iload_n hx hb dX4_lockedBy_38 rfl (lv_at hl 0 rfl) ?_
      refine lv_if_ge (tgt := 50) hx hb dX4_lockedBy_39 (by decide) (fun c39 => ?_) (fun c39 => ?_)
      · exact absurd c39 (by decide)
      · refine lv_aload_n hx hb dX4_lockedBy_42 rfl (lv_at hl 1 rfl) ?_
        refine lv_iconst (v := 1) hx hb dX4_lockedBy_43 (by decide) ?_
        refine mw_callV (As := [.int 1]) (rest := []) (n := 1) (C := RX4) (T := TX4) (N := 21) (ci := 4) hC hM (c_X4_raise l hl0 D cs h H.size o A hK (su S 0 0) 1) (cwV 1 hC.1.2.2.2.2 (tb_V mb_567 mb_568 mb_18 mb_40 mb_569) rfl rfl rfl (by decide +kernel) ⟨Nat.le_of_ble_eq_true rfl, Nat.le_of_ble_eq_true rfl⟩) (th_at (h := mo_h o A h (su S 0 0)) hK.1) rfl rfl rfl hl.1 (Nat.le_of_ble_eq_true rfl) dX4_lockedBy_44 ⟨Nat.le_of_ble_eq_true rfl, Nat.le_of_ble_eq_true rfl⟩ (fun E ce q9 g9 H locs hp9 hM hce hcv hcl => ?_) (fun v9 g9 H locs hp9 hM => ?_)
        · exact (hp9.elim fun _ h9 => h9.2.elim)
        obtain ⟨h44, rfl, hp9⟩ := hp9
        obtain ⟨rfl, rfl⟩ := hp9
        refine W.eq (g2 := F0 m 47 ls [.int 0]) rfl ?_
        refine lv_goto (tgt := 56) hx hb dX4_lockedBy_47 (by decide) ?_
        refine mw_iret hC hM hr hlk dX4_lockedBy_56 (Nat.le_of_ble_eq_true rfl) (Nat.le_of_ble_eq_true rfl) ⟨_, rfl, ?_⟩
        exact Or.inr ⟨c6, Or.inl ⟨hr9, rfl, rfl⟩⟩
  · refine lv_iload_n hx hb dX4_lockedBy_9 rfl (lv_at hl 2 rfl) ?_
    refine lv_iconst (v := 3) hx hb dX4_lockedBy_10 (by decide) ?_
    refine mw_callS (As := [.int a, .int 3]) (rest := []) (n := 2) hC hM (c_X4_out l hl0 D cs (mo_h o A h (su S 0 0)) H.size a 3) (va_cwS 2 hC.1.2.2.2.2 (tb_S mb_580 mb_581 mb_40 mb_582) rfl rfl rfl (by decide +kernel) ⟨Nat.le_of_ble_eq_true rfl, Nat.le_of_ble_eq_true rfl⟩) rfl rfl hl.1 (Nat.le_of_ble_eq_true rfl) dX4_lockedBy_11 ⟨Nat.le_of_ble_eq_true rfl, Nat.le_of_ble_eq_true rfl⟩ (fun E ce q9 g9 H locs hp9 hM hce hcv hcl => ?_) (fun v9 g9 H locs hp9 hM => ?_)
    · exact (hp9.elim fun _ h9 => h9.2.elim)
    obtain ⟨h11, rfl, hp9⟩ := hp9
    obtain ⟨rfl, hp9⟩ := hp9
    rcases hp9 with ⟨rfl, ho9⟩ | ⟨rfl, ho9, ho8⟩
    · refine W.eq (g2 := F0 m 14 ls [.int 1]) rfl ?_
      refine lv_if_eq (tgt := 25) hx hb dX4_lockedBy_14 (by decide) (fun c14 => ?_) (fun c14 => ?_)
      · exact absurd c14 (by decide)
      · refine lv_aload_n hx hb dX4_lockedBy_17 rfl (lv_at hl 0 rfl) ?_
        refine lv_iconst (v := 1) hx hb dX4_lockedBy_18 (by decide) ?_
        refine mw_callV (As := [.int 1]) (rest := []) (n := 1) (C := RX4) (T := TX4) (N := 21) (ci := 4) hC hM (c_X4_raise l hl0 D cs h H.size o A hK (su S 0 0) 1) (cwV 1 hC.1.2.2.2.2 (tb_V mb_567 mb_568 mb_18 mb_40 mb_569) rfl rfl rfl (by decide +kernel) ⟨Nat.le_of_ble_eq_true rfl, Nat.le_of_ble_eq_true rfl⟩) (th_at (h := mo_h o A h (su S 0 0)) hK.1) rfl rfl rfl hl.1 (Nat.le_of_ble_eq_true rfl) dX4_lockedBy_19 ⟨Nat.le_of_ble_eq_true rfl, Nat.le_of_ble_eq_true rfl⟩ (fun E ce q9 g9 H locs hp9 hM hce hcv hcl => ?_) (fun v9 g9 H locs hp9 hM => ?_)
        · exact (hp9.elim fun _ h9 => h9.2.elim)
        obtain ⟨h19, rfl, hp9⟩ := hp9
        obtain ⟨rfl, rfl⟩ := hp9
        refine W.eq (g2 := F0 m 22 ls [.int 0]) rfl ?_
        refine lv_goto (tgt := 31) hx hb dX4_lockedBy_22 (by decide) ?_
        refine mw_iret hC hM hr hlk dX4_lockedBy_31 (Nat.le_of_ble_eq_true rfl) (Nat.le_of_ble_eq_true rfl) ⟨_, rfl, ?_⟩
        exact Or.inl ⟨c6, Or.inl ⟨ho9, rfl, rfl⟩⟩
    · refine W.eq (g2 := F0 m 14 ls [.int 0]) rfl ?_
      refine lv_if_eq (tgt := 25) hx hb dX4_lockedBy_14 (by decide) (fun c14 => ?_) (fun c14 => ?_)
      · obtain ⟨j, hj, rfl⟩ := nI_of2 (M := 3) (n := 3) (by decide) ho9 ho8
        have hj : j < 4 := by omega
        refine lv_aload_n hx hb dX4_lockedBy_25 rfl (lv_at hl 0 rfl) ?_
        refine gr_10_8 (index := 32) hC hM hK.1 mb_498 dX4_lockedBy_26 (hK.r8) ?_
        refine lv_iload_n hx hb dX4_lockedBy_29 rfl (lv_at hl 2 rfl) ?_
        refine al_7 (i := j) (n := 4) hC hM hK.k8 (by first | rfl | decide) (by omega) (by decide) dX4_lockedBy_30 ?_
        rw [mo_a8 hK]
        rw [show (su S 0 0).2 8 j = S.2 8 j from by first | rfl | simp [su, sa, va_up]]
        refine mw_iret hC hM hr hlk dX4_lockedBy_31 (Nat.le_of_ble_eq_true rfl) (Nat.le_of_ble_eq_true rfl) ⟨_, rfl, ?_⟩
        exact Or.inl ⟨c6, Or.inr ⟨j, hj, rfl, rfl, rfl⟩⟩
      · exact absurd c14 (by decide)

-- StableHeapModel.checkpoint
set_option maxHeartbeats 4000000 in
set_option maxRecDepth 100000 in
theorem c_X4_checkpoint (l : Launch) (hl0 : l.stackTraces = false) (D : va_G) (cs : Nat → ClassId) (h : th_S) (sz : Nat) (o : Nat) (A : Nat → Nat) (hK : mo_K o A h) (S : th_N) : th_M l yX4_checkpoint wsX4_checkpoint { frames := 1, cells := 0, slots := 0, locals := 20 } D cs (mo_h o A h S) sz [.ref o] (fun v h' => v = some (.int (mo_lg (su (su S 0 0) 14 0))) ∧ h' = mo_h o A h (su (su S 0 0) 14 0)) (fun E h' => False) := by
  refine mw_ofW (cc := cX4_checkpoint) (maxL := 1) (ret := (some .int)) (by decide) rfl (fun w h => List.mem_cons_of_mem _ h) th_cd (Nat.le_of_ble_eq_true rfl) ?_
  intro p e s m below meth c hsz hC hr hlk hnm htab hM ls hl
  have hC : th_C D cs (mo_h o A h S) p m c cX4_checkpoint 1 s [.ref o] RX4 := hC
  have hx := hC.1.1
  have hb := hC.1.2.1
  have hl : lv_has ls 1 [(0, .ref o)] := hl
  refine lv_aload_n hx hb dX4_checkpoint_0 rfl (lv_at hl 0 rfl) ?_
  refine lv_iconst (v := 0) hx hb dX4_checkpoint_1 (by decide) ?_
  refine pu_10_0 (index := 53) (v := 0) hC hM hK.1 mb_490 dX4_checkpoint_2 (fun H locs hM => ?_)
  rw [mo_um] at hM
  refine lv_aload_n hx hb dX4_checkpoint_5 rfl (lv_at hl 0 rfl) ?_
  refine lv_iconst (v := 0) hx hb dX4_checkpoint_6 (by decide) ?_
  refine pu_10_14 (index := 57) (v := 0) hC hM hK.1 mb_504 dX4_checkpoint_7 (fun H locs hM => ?_)
  rw [mo_um] at hM
  refine lv_aload_n hx hb dX4_checkpoint_10 rfl (lv_at hl 0 rfl) ?_
  refine mw_callV (As := []) (rest := []) (n := 0) (C := RX4) (T := TX4) (N := 21) (ci := 4) hC hM (c_X4_log l hl0 D cs h H.size o A hK (su (su S 0 0) 14 0) ) (cwV 0 hC.1.2.2.2.2 (tb_V mb_570 mb_571 mb_19 mb_40 mb_572) rfl rfl rfl (by decide +kernel) ⟨Nat.le_of_ble_eq_true rfl, Nat.le_of_ble_eq_true rfl⟩) (th_at (h := mo_h o A h (su (su S 0 0) 14 0)) hK.1) rfl rfl rfl hl.1 (Nat.le_of_ble_eq_true rfl) dX4_checkpoint_11 ⟨Nat.le_of_ble_eq_true rfl, Nat.le_of_ble_eq_true rfl⟩ (fun E ce q9 g9 H locs hp9 hM hce hcv hcl => ?_) (fun v9 g9 H locs hp9 hM => ?_)
  · exact (hp9.elim fun _ h9 => h9.2.elim)
  obtain ⟨h11, rfl, hp9⟩ := hp9
  obtain ⟨rfl, rfl⟩ := hp9
  refine W.eq (g2 := F0 m 14 ls [.int (mo_lg (su (su S 0 0) 14 0))]) rfl ?_
  refine mw_iret hC hM hr hlk dX4_checkpoint_14 (Nat.le_of_ble_eq_true rfl) (Nat.le_of_ble_eq_true rfl) ⟨_, rfl, ?_⟩
  exact ⟨rfl, rfl⟩

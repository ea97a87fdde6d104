-- case 6: getReference
set_option maxHeartbeats 4000000 in
set_option maxRecDepth 100000 in
theorem lc_getReference {l : Launch} (hl0 : l.stackTraces = false) {D : va_G} {cs : Nat → ClassId} {h0 : th_S} {p : Program} {e : Env} {s : State} {m : MethodId} {below : List Frame} {meth : Method} {c : Code} {b L : Nat} {xs : Nat → Int32} (hC : th_C D cs h0 p m c code 7 s [.ref b] RL) (hX : va_X b L xs s s.heap) (hbl : b < s.heap.size) (hbA : ¬ mw_A (th_g cs h0) s.heap.size b) {Q : State → Prop} {x aR aO aH aT o ao : Nat} {rt ta A : Nat → Nat} {N : Nat} (hlt : 5 * N + 5 ≤ L) (hL : L ≤ 2560) {h : th_S} (hI : LI x aR aO aH aT o ao rt ta A h N) {H : Heap} {locs : List Loc} {ls : Array Slot} (hM : th_H D cs h0 s h H locs) (hl : lv_has ls 7 [(0, .ref b), (1, .ref x), (2, .ref o), (3, .ref ao), (4, .int (nI (5 * N)))]) (ih : ∀ (h : th_S) (H : Heap) (locs : List Loc) (ls : Array Slot), LI x aR aO aH aT o ao rt ta A h (N + 1) → th_H D cs h0 s h H locs → lv_has ls 7 [(0, .ref b), (1, .ref x), (2, .ref o), (3, .ref ao), (4, .int (nI (5 * (N + 1))))] → W p l e room_1 s m #[Value.ref b] below meth c H locs (100 + 8 * (N + 1)) (5000 + 60 * (N + 1)) Q (F0 m 23 ls [])) : W p l e room_1 s m #[Value.ref b] below meth c H locs (100 + 8 * N) (5000 + 60 * N) Q (F0 m 572 ls []) := by
  have hx := hC.1.1
  have hb := hC.1.2.1
  obtain ⟨hK, ha, S, n, u, ad, e1, R⟩ := hI
  have hN : N + 1 < 2 ^ 31 := by omega
  have kx0 : h.1 x = some (0, 0) := R.1.1.1.kx
  refine lv_aload_n hx hb dL_law_572 rfl (lv_at hl 1 rfl) ?_
  refine lv_aload_n hx hb dL_law_573 rfl (lv_at hl 0 rfl) ?_
  refine lv_iload hx hb dL_law_574 (lv_at hl 4 rfl) ?_
  refine lv_iconst (v := 1) hx hb dL_law_576 (by decide) ?_
  refine lv_iadd hx hb dL_law_577 ?_
  rw [show nI (5 * N) + 1 = nI (5 * N + 1) from nI_add (5 * N) 1]
  refine va_sld hx hb hX hbl hbA hM.2.2.1 (vp_in_nI (show 5 * N + 1 < L by omega) (by omega)) dL_law_578 ?_
  rw [nI_clamp (show 5 * N + 1 < 2 ^ 31 by omega)]
  refine lv_aload_n hx hb dL_law_579 rfl (lv_at hl 0 rfl) ?_
  refine lv_iload hx hb dL_law_580 (lv_at hl 4 rfl) ?_
  refine lv_iconst (v := 2) hx hb dL_law_582 (by decide) ?_
  refine lv_iadd hx hb dL_law_583 ?_
  rw [show nI (5 * N) + 2 = nI (5 * N + 2) from nI_add (5 * N) 2]
  refine va_sld hx hb hX hbl hbA hM.2.2.1 (vp_in_nI (show 5 * N + 2 < L by omega) (by omega)) dL_law_584 ?_
  rw [nI_clamp (show 5 * N + 2 < 2 ^ 31 by omega)]
  refine lv_aload_n hx hb dL_law_585 rfl (lv_at hl 0 rfl) ?_
  refine lv_iload hx hb dL_law_586 (lv_at hl 4 rfl) ?_
  refine lv_iconst (v := 3) hx hb dL_law_588 (by decide) ?_
  refine lv_iadd hx hb dL_law_589 ?_
  rw [show nI (5 * N) + 3 = nI (5 * N + 3) from nI_add (5 * N) 3]
  refine va_sld hx hb hX hbl hbA hM.2.2.1 (vp_in_nI (show 5 * N + 3 < L by omega) (by omega)) dL_law_590 ?_
  rw [nI_clamp (show 5 * N + 3 < 2 ^ 31 by omega)]
  refine lv_aload_n hx hb dL_law_591 rfl (lv_at hl 3 rfl) ?_
  refine mw_callSW (As := [.ref x, .int (xs (5 * N + 1)), .int (xs (5 * N + 2)), .int (xs (5 * N + 3)), .ref ao]) (rest := []) (n := 5) hC hM (c_L_getReference l hl0 D cs h H.size x aR aO aH aT rt ta S N n u ad R ao ha (xs (5 * N + 1)) (xs (5 * N + 2)) (xs (5 * N + 3))) (vx_cwSW 5 hC.1.2.2.2.2 (tb_SW mb_429 mb_430 mb_35 mb_431) rfl rfl rfl (by decide +kernel) ⟨Nat.le_of_ble_eq_true rfl, Nat.le_of_ble_eq_true rfl⟩) rfl rfl hl.1 (Nat.le_of_ble_eq_true rfl) dL_law_592 ⟨Nat.le_trans (show 100 + 8 * N + 5 ≤ 10000 by omega) (Nat.le_of_ble_eq_true rfl), Nat.le_trans (show 5000 + 60 * N + 30 ≤ 50000 by omega) (Nat.le_of_ble_eq_true rfl)⟩ (fun E ce q9 g9 H locs hp9 hM hce hcv hcl => ?_) (fun v9 g9 H locs hp9 hM => ?_)
  · exact (hp9.elim fun _ h9 => h9.2.elim)
  obtain ⟨hh, rfl, hp9⟩ := hp9
  obtain ⟨k, b9, h1, rfl, w9⟩ := hp9
  have w : (k = 0 ∧ p3_getReference aO ta h n (xs (5 * N + 1)) (xs (5 * N + 2)) (xs (5 * N + 3)) (some (.int b9)) h1) ∨ ∃ E, e3_getReference aO ta h n (xs (5 * N + 1)) (xs (5 * N + 2)) (xs (5 * N + 3)) E h1 ∧ cd_get E k := w9.imp (fun z => ⟨z.1, z.2.1⟩) (fun z => z.1)
  have hh9 : hh = h1 ∨ ∃ b, hh = th_ui h1 ao 0 b := w9.elim (fun z => Or.inr ⟨_, z.2.2⟩) (fun z => Or.inl z.2)
  have f : fr7 h h1 := F_getReference R w
  obtain ⟨k1, k2, k3, k4, k5⟩ := LI.cls hK e1 ha f hh9
  have ka : hh.1 ao = some (9, 1) := by rw [k3]; exact (f ao _ ha (by show 7 ≤ 9; omega)).1
  have hM : th_H D cs h0 s (mo_h o A hh S) H locs := by rw [k2]; exact hM
  refine W.widen (k := 100 + 8 * N + 5) (n := 5000 + 60 * N + 30) (Nat.le_refl _) (Nat.le_refl _) ?_
  refine W.eq (g2 := F0 m 595 ls [.int k]) rfl ?_
  refine lv_istore (lv' := [(5, .int k), (0, .ref b), (1, .ref x), (2, .ref o), (3, .ref ao), (4, .int (nI (5 * N)))]) hx hb dL_law_595 hl (by decide) rfl (fun ls hl => ?_)
  refine lv_aload_n hx hb dL_law_597 rfl (lv_at hl 3 rfl) ?_
  refine lv_aload_n hx hb dL_law_598 rfl (lv_at hl 1 rfl) ?_
  refine lv_iload hx hb dL_law_599 (lv_at hl 5 rfl) ?_
  refine lv_iconst (v := 1) hx hb dL_law_601 (by decide) ?_
  refine lv_iadd hx hb dL_law_602 ?_
  rw [show nI (5 * N) + 1 = nI (5 * N + 1) from nI_add (5 * N) 1]
  refine va_sld hx hb hX hbl hbA hM.2.2.1 (vp_in_nI (show 5 * N + 1 < L by omega) (by omega)) dL_law_603 ?_
  rw [nI_clamp (show 5 * N + 1 < 2 ^ 31 by omega)]
  refine lv_aload_n hx hb dL_law_604 rfl (lv_at hl 1 rfl) ?_
  refine lv_iload hx hb dL_law_605 (lv_at hl 5 rfl) ?_
  refine lv_iconst (v := 2) hx hb dL_law_607 (by decide) ?_
  refine lv_iadd hx hb dL_law_608 ?_
  rw [show nI (5 * N) + 2 = nI (5 * N + 2) from nI_add (5 * N) 2]
  refine va_sld hx hb hX hbl hbA hM.2.2.1 (vp_in_nI (show 5 * N + 2 < L by omega) (by omega)) dL_law_609 ?_
  rw [nI_clamp (show 5 * N + 2 < 2 ^ 31 by omega)]
  refine lv_aload_n hx hb dL_law_610 rfl (lv_at hl 1 rfl) ?_
  refine lv_iload hx hb dL_law_611 (lv_at hl 5 rfl) ?_
  refine lv_iconst (v := 3) hx hb dL_law_613 (by decide) ?_
  refine lv_iadd hx hb dL_law_614 ?_
  rw [show nI (5 * N) + 3 = nI (5 * N + 3) from nI_add (5 * N) 3]
  refine va_sld hx hb hX hbl hbA hM.2.2.1 (vp_in_nI (show 5 * N + 3 < L by omega) (by omega)) dL_law_615 ?_
  rw [nI_clamp (show 5 * N + 3 < 2 ^ 31 by omega)]
  refine mw_callV (As := [.int (xs (5 * N + 1)), .int (xs (5 * N + 2)), .int (xs (5 * N + 3))]) (rest := []) (n := 3) (C := RX4) (T := TX4) (N := 21) (ci := 4) hC hM (c_X4_getReference l hl0 D cs hh H.size o A k1 S (xs (5 * N + 1)) (xs (5 * N + 2)) (xs (5 * N + 3)) R.z9) (cwV 3 hC.1.2.2.2.2 (tb_V mb_626 mb_627 mb_628 mb_40 mb_629) rfl rfl rfl (by decide +kernel) ⟨Nat.le_of_ble_eq_true rfl, Nat.le_of_ble_eq_true rfl⟩) (th_at (h := mo_h o A hh S) k1.1) rfl rfl rfl hl.1 (Nat.le_of_ble_eq_true rfl) dL_law_616 ⟨Nat.le_trans (show 100 + 8 * N + 5 + 0 ≤ 10000 by omega) (Nat.le_of_ble_eq_true rfl), Nat.le_trans (show 5000 + 60 * N + 30 + 0 ≤ 50000 by omega) (Nat.le_of_ble_eq_true rfl)⟩ (fun E ce q9 g9 H locs hp9 hM hce hcv hcl => ?_) (fun v9 g9 H locs hp9 hM => ?_)
  · exact (hp9.elim fun _ h9 => h9.2.elim)
  obtain ⟨h2, rfl, hp9⟩ := hp9
  have hp9 : p4_getReference S (mo_h o A hh) (xs (5 * N + 1)) (xs (5 * N + 2)) (xs (5 * N + 3)) v9 h2 := hp9
  obtain ⟨c9, rfl⟩ := U_getReference hp9
  obtain ⟨-, T, n2, u2, ad2, rfl, g0, gv, R2⟩ := G_getReference R hN w hp9
  refine W.widen (k := 100 + 8 * N + 5) (n := 5000 + 60 * N + 30) (Nat.le_refl _) (Nat.le_refl _) ?_
  refine W.eq (g2 := F0 m 619 ls [.int c9]) rfl ?_
  refine lv_istore (lv' := [(6, .int c9), (5, .int k), (0, .ref b), (1, .ref x), (2, .ref o), (3, .ref ao), (4, .int (nI (5 * N)))]) hx hb dL_law_619 hl (by decide) rfl (fun ls hl => ?_)
  refine lv_aload_n hx hb dL_law_621 rfl (lv_at hl 4 rfl) ?_
  refine mw_callV (As := []) (rest := []) (n := 0) (C := RX4) (T := TX4) (N := 21) (ci := 4) hC hM (c_X4_thrown l hl0 D cs hh H.size o A k1 T) (cwV 0 hC.1.2.2.2.2 (tb_V mb_556 mb_557 mb_558 mb_40 mb_559) rfl rfl rfl (by decide +kernel) ⟨Nat.le_of_ble_eq_true rfl, Nat.le_of_ble_eq_true rfl⟩) (th_at (h := mo_h o A hh T) k1.1) rfl rfl rfl hl.1 (Nat.le_of_ble_eq_true rfl) dL_law_622 ⟨Nat.le_trans (show 100 + 8 * N + 5 + 0 ≤ 10000 by omega) (Nat.le_of_ble_eq_true rfl), Nat.le_trans (show 5000 + 60 * N + 30 + 0 ≤ 50000 by omega) (Nat.le_of_ble_eq_true rfl)⟩ (fun E ce q9 g9 H locs hp9 hM hce hcv hcl => ?_) (fun v9 g9 H locs hp9 hM => ?_)
  · exact (hp9.elim fun _ h9 => h9.2.elim)
  obtain ⟨h2, rfl, hp9⟩ := hp9
  obtain ⟨rfl, rfl⟩ := hp9
  rw [g0]
  refine W.widen (k := 100 + 8 * N + 5) (n := 5000 + 60 * N + 30) (Nat.le_refl _) (Nat.le_refl _) ?_
  refine W.eq (g2 := F0 m 625 ls [.int k]) rfl ?_
  refine lv_iload hx hb dL_law_625 (lv_at hl 1 rfl) ?_
  refine lv_icmp_eq (tgt := 632) hx hb dL_law_627 (by decide) (fun c627 => ?_) (fun c627 => ?_)
  · refine lv_iload hx hb dL_law_632 (lv_at hl 1 rfl) ?_
    refine lv_if_ne (tgt := 649) hx hb dL_law_634 (by decide) (fun c634 => ?_) (fun c634 => ?_)
    · refine lv_goto (tgt := 1063) hx hb dL_law_649 (by decide) ?_
      refine lv_iinc (v := nI (5 * (N + 1))) (lv' := [(4, .int (nI (5 * (N + 1)))), (6, .int c9), (5, .int k), (0, .ref b), (1, .ref x), (2, .ref o), (3, .ref ao)]) hx hb dL_law_1063 hl (k := 6) rfl (nI_add (5 * N) 5) (by first | decide | omega) rfl (fun ls hl => ?_)
      refine lv_goto (tgt := 23) hx hb dL_law_1066 (by decide) ?_
      refine W.widen (k := 100 + 8 * (N + 1)) (n := 5000 + 60 * (N + 1)) (by omega) (by omega) ?_
      exact ih _ H locs ls (LI.step hK ha e1 f hh9 R2) hM (lv_sub hl [3, 4, 5, 6, 0] rfl)
    · have ec : c9 = b9 := Value.int.inj (Option.some.inj (gv c634))
      have ob : (mo_h o A hh T).2.1 ao 0 = b9 := by
        rw [LI.out k1 ka T]
        rcases w9 with z | z
        · rw [z.2.2]; exact th_ui_s _ _ _ _
        · exact absurd c634 (N_get z.1.choose_spec.2)
      refine lv_aload_n hx hb dL_law_637 rfl (lv_at hl 5 rfl) ?_
      refine lv_iconst (v := 0) hx hb dL_law_638 (by decide) ?_
      refine al_9 (i := 0) hC hM ka (by decide) (by decide) (by first | decide | omega) dL_law_639 ?_
      rw [show (mo_h o A hh T).2.1 ao 0 = b9 from ob]
      refine lv_iload hx hb dL_law_640 (lv_at hl 0 rfl) ?_
      refine lv_i2l hx hb dL_law_642 rfl ?_
      refine W.lcmp hx hb dL_law_643 ?_
      rw [show lg_cmp b9.toInt64 c9.toInt64 = 0 from by rw [ec]; exact lg_cmp_s _]
      refine lv_if_eq (tgt := 649) hx hb dL_law_644 (by decide) (fun c644 => ?_) (fun c644 => ?_)
      · refine lv_goto (tgt := 1063) hx hb dL_law_649 (by decide) ?_
        refine lv_iinc (v := nI (5 * (N + 1))) (lv' := [(4, .int (nI (5 * (N + 1)))), (6, .int c9), (5, .int k), (0, .ref b), (1, .ref x), (2, .ref o), (3, .ref ao)]) hx hb dL_law_1063 hl (k := 6) rfl (nI_add (5 * N) 5) (by first | decide | omega) rfl (fun ls hl => ?_)
        refine lv_goto (tgt := 23) hx hb dL_law_1066 (by decide) ?_
        refine W.widen (k := 100 + 8 * (N + 1)) (n := 5000 + 60 * (N + 1)) (by omega) (by omega) ?_
        exact ih _ H locs ls (LI.step hK ha e1 f hh9 R2) hM (lv_sub hl [3, 4, 5, 6, 0] rfl)
      · exact absurd c644 (by decide)
  · exact absurd rfl c627

-- case 7: getRoot
set_option maxHeartbeats 4000000 in
set_option maxRecDepth 100000 in
theorem lc_getRoot {l : Launch} (hl0 : l.stackTraces = false) {D : va_G} {cs : Nat → ClassId} {h0 : th_S} {p : Program} {e : Env} {s : State} {m : MethodId} {below : List Frame} {meth : Method} {c : Code} {b L : Nat} {xs : Nat → Int32} (hC : th_C D cs h0 p m c code 7 s [.ref b] RL) (hX : va_X b L xs s s.heap) (hbl : b < s.heap.size) (hbA : ¬ mw_A (th_g cs h0) s.heap.size b) {Q : State → Prop} {x aR aO aH aT o ao : Nat} {rt ta A : Nat → Nat} {N : Nat} (hlt : 5 * N + 5 ≤ L) (hL : L ≤ 2560) {h : th_S} (hI : LI x aR aO aH aT o ao rt ta A h N) {H : Heap} {locs : List Loc} {ls : Array Slot} (hM : th_H D cs h0 s h H locs) (hl : lv_has ls 7 [(0, .ref b), (1, .ref x), (2, .ref o), (3, .ref ao), (4, .int (nI (5 * N)))]) (ih : ∀ (h : th_S) (H : Heap) (locs : List Loc) (ls : Array Slot), LI x aR aO aH aT o ao rt ta A h (N + 1) → th_H D cs h0 s h H locs → lv_has ls 7 [(0, .ref b), (1, .ref x), (2, .ref o), (3, .ref ao), (4, .int (nI (5 * (N + 1))))] → W p l e room_1 s m #[Value.ref b] below meth c H locs (100 + 8 * (N + 1)) (5000 + 60 * (N + 1)) Q (F0 m 23 ls [])) : W p l e room_1 s m #[Value.ref b] below meth c H locs (100 + 8 * N) (5000 + 60 * N) Q (F0 m 652 ls []) := by
  have hx := hC.1.1
  have hb := hC.1.2.1
  obtain ⟨hK, ha, S, n, u, ad, e1, R⟩ := hI
  have hN : N + 1 < 2 ^ 31 := by omega
  have kx0 : h.1 x = some (0, 0) := R.1.1.1.kx
  refine lv_aload_n hx hb dL_law_652 rfl (lv_at hl 1 rfl) ?_
  refine lv_aload_n hx hb dL_law_653 rfl (lv_at hl 0 rfl) ?_
  refine lv_iload hx hb dL_law_654 (lv_at hl 4 rfl) ?_
  refine lv_iconst (v := 1) hx hb dL_law_656 (by decide) ?_
  refine lv_iadd hx hb dL_law_657 ?_
  rw [show nI (5 * N) + 1 = nI (5 * N + 1) from nI_add (5 * N) 1]
  refine va_sld hx hb hX hbl hbA hM.2.2.1 (vp_in_nI (show 5 * N + 1 < L by omega) (by omega)) dL_law_658 ?_
  rw [nI_clamp (show 5 * N + 1 < 2 ^ 31 by omega)]
  refine lv_aload_n hx hb dL_law_659 rfl (lv_at hl 0 rfl) ?_
  refine lv_iload hx hb dL_law_660 (lv_at hl 4 rfl) ?_
  refine lv_iconst (v := 2) hx hb dL_law_662 (by decide) ?_
  refine lv_iadd hx hb dL_law_663 ?_
  rw [show nI (5 * N) + 2 = nI (5 * N + 2) from nI_add (5 * N) 2]
  refine va_sld hx hb hX hbl hbA hM.2.2.1 (vp_in_nI (show 5 * N + 2 < L by omega) (by omega)) dL_law_664 ?_
  rw [nI_clamp (show 5 * N + 2 < 2 ^ 31 by omega)]
  refine lv_aload_n hx hb dL_law_665 rfl (lv_at hl 3 rfl) ?_
  refine mw_callSW (As := [.ref x, .int (xs (5 * N + 1)), .int (xs (5 * N + 2)), .ref ao]) (rest := []) (n := 4) hC hM (c_L_getRoot l hl0 D cs h H.size x aR aO aH aT rt ta S N n u ad R ao ha (xs (5 * N + 1)) (xs (5 * N + 2))) (vx_cwSW 4 hC.1.2.2.2.2 (tb_SW mb_439 mb_440 mb_35 mb_441) rfl rfl rfl (by decide +kernel) ⟨Nat.le_of_ble_eq_true rfl, Nat.le_of_ble_eq_true rfl⟩) rfl rfl hl.1 (Nat.le_of_ble_eq_true rfl) dL_law_666 ⟨Nat.le_trans (show 100 + 8 * N + 3 ≤ 10000 by omega) (Nat.le_of_ble_eq_true rfl), Nat.le_trans (show 5000 + 60 * N + 18 ≤ 50000 by omega) (Nat.le_of_ble_eq_true rfl)⟩ (fun E ce q9 g9 H locs hp9 hM hce hcv hcl => ?_) (fun v9 g9 H locs hp9 hM => ?_)
  · exact (hp9.elim fun _ h9 => h9.2.elim)
  obtain ⟨hh, rfl, hp9⟩ := hp9
  obtain ⟨k, b9, h1, rfl, w9⟩ := hp9
  have w : (k = 0 ∧ p3_getRoot rt ta h (xs (5 * N + 1)) (xs (5 * N + 2)) (some (.int b9)) h1) ∨ ∃ E, e3_getRoot rt ta h (xs (5 * N + 1)) (xs (5 * N + 2)) E h1 ∧ cd_getRoot E k := w9.imp (fun z => ⟨z.1, z.2.1⟩) (fun z => z.1)
  have hh9 : hh = h1 ∨ ∃ b, hh = th_ui h1 ao 0 b := w9.elim (fun z => Or.inr ⟨_, z.2.2⟩) (fun z => Or.inl z.2)
  have f : fr7 h h1 := F_getRoot R w
  obtain ⟨k1, k2, k3, k4, k5⟩ := LI.cls hK e1 ha f hh9
  have ka : hh.1 ao = some (9, 1) := by rw [k3]; exact (f ao _ ha (by show 7 ≤ 9; omega)).1
  have hM : th_H D cs h0 s (mo_h o A hh S) H locs := by rw [k2]; exact hM
  refine W.widen (k := 100 + 8 * N + 3) (n := 5000 + 60 * N + 18) (Nat.le_refl _) (Nat.le_refl _) ?_
  refine W.eq (g2 := F0 m 669 ls [.int k]) rfl ?_
  refine lv_istore (lv' := [(5, .int k), (0, .ref b), (1, .ref x), (2, .ref o), (3, .ref ao), (4, .int (nI (5 * N)))]) hx hb dL_law_669 hl (by decide) rfl (fun ls hl => ?_)
  refine lv_aload_n hx hb dL_law_671 rfl (lv_at hl 3 rfl) ?_
  refine lv_aload_n hx hb dL_law_672 rfl (lv_at hl 1 rfl) ?_
  refine lv_iload hx hb dL_law_673 (lv_at hl 5 rfl) ?_
  refine lv_iconst (v := 1) hx hb dL_law_675 (by decide) ?_
  refine lv_iadd hx hb dL_law_676 ?_
  rw [show nI (5 * N) + 1 = nI (5 * N + 1) from nI_add (5 * N) 1]
  refine va_sld hx hb hX hbl hbA hM.2.2.1 (vp_in_nI (show 5 * N + 1 < L by omega) (by omega)) dL_law_677 ?_
  rw [nI_clamp (show 5 * N + 1 < 2 ^ 31 by omega)]
  refine lv_aload_n hx hb dL_law_678 rfl (lv_at hl 1 rfl) ?_
  refine lv_iload hx hb dL_law_679 (lv_at hl 5 rfl) ?_
  refine lv_iconst (v := 2) hx hb dL_law_681 (by decide) ?_
  refine lv_iadd hx hb dL_law_682 ?_
  rw [show nI (5 * N) + 2 = nI (5 * N + 2) from nI_add (5 * N) 2]
  refine va_sld hx hb hX hbl hbA hM.2.2.1 (vp_in_nI (show 5 * N + 2 < L by omega) (by omega)) dL_law_683 ?_
  rw [nI_clamp (show 5 * N + 2 < 2 ^ 31 by omega)]
  refine mw_callV (As := [.int (xs (5 * N + 1)), .int (xs (5 * N + 2))]) (rest := []) (n := 2) (C := RX4) (T := TX4) (N := 21) (ci := 4) hC hM (c_X4_getRoot l hl0 D cs hh H.size o A k1 S (xs (5 * N + 1)) (xs (5 * N + 2))) (cwV 2 hC.1.2.2.2.2 (tb_V mb_630 mb_631 mb_632 mb_40 mb_633) rfl rfl rfl (by decide +kernel) ⟨Nat.le_of_ble_eq_true rfl, Nat.le_of_ble_eq_true rfl⟩) (th_at (h := mo_h o A hh S) k1.1) rfl rfl rfl hl.1 (Nat.le_of_ble_eq_true rfl) dL_law_684 ⟨Nat.le_trans (show 100 + 8 * N + 3 + 0 ≤ 10000 by omega) (Nat.le_of_ble_eq_true rfl), Nat.le_trans (show 5000 + 60 * N + 18 + 0 ≤ 50000 by omega) (Nat.le_of_ble_eq_true rfl)⟩ (fun E ce q9 g9 H locs hp9 hM hce hcv hcl => ?_) (fun v9 g9 H locs hp9 hM => ?_)
  · exact (hp9.elim fun _ h9 => h9.2.elim)
  obtain ⟨h2, rfl, hp9⟩ := hp9
  have hp9 : p4_getRoot S (mo_h o A hh) (xs (5 * N + 1)) (xs (5 * N + 2)) v9 h2 := hp9
  obtain ⟨c9, rfl⟩ := U_getRoot hp9
  obtain ⟨-, T, n2, u2, ad2, rfl, g0, gv, R2⟩ := G_getRoot R hN w hp9
  refine W.widen (k := 100 + 8 * N + 3) (n := 5000 + 60 * N + 18) (Nat.le_refl _) (Nat.le_refl _) ?_
  refine W.eq (g2 := F0 m 687 ls [.int c9]) rfl ?_
  refine lv_istore (lv' := [(6, .int c9), (5, .int k), (0, .ref b), (1, .ref x), (2, .ref o), (3, .ref ao), (4, .int (nI (5 * N)))]) hx hb dL_law_687 hl (by decide) rfl (fun ls hl => ?_)
  refine lv_aload_n hx hb dL_law_689 rfl (lv_at hl 4 rfl) ?_
  refine mw_callV (As := []) (rest := []) (n := 0) (C := RX4) (T := TX4) (N := 21) (ci := 4) hC hM (c_X4_thrown l hl0 D cs hh H.size o A k1 T) (cwV 0 hC.1.2.2.2.2 (tb_V mb_556 mb_557 mb_558 mb_40 mb_559) rfl rfl rfl (by decide +kernel) ⟨Nat.le_of_ble_eq_true rfl, Nat.le_of_ble_eq_true rfl⟩) (th_at (h := mo_h o A hh T) k1.1) rfl rfl rfl hl.1 (Nat.le_of_ble_eq_true rfl) dL_law_690 ⟨Nat.le_trans (show 100 + 8 * N + 3 + 0 ≤ 10000 by omega) (Nat.le_of_ble_eq_true rfl), Nat.le_trans (show 5000 + 60 * N + 18 + 0 ≤ 50000 by omega) (Nat.le_of_ble_eq_true rfl)⟩ (fun E ce q9 g9 H locs hp9 hM hce hcv hcl => ?_) (fun v9 g9 H locs hp9 hM => ?_)
  · exact (hp9.elim fun _ h9 => h9.2.elim)
  obtain ⟨h2, rfl, hp9⟩ := hp9
  obtain ⟨rfl, rfl⟩ := hp9
  rw [g0]
  refine W.widen (k := 100 + 8 * N + 3) (n := 5000 + 60 * N + 18) (Nat.le_refl _) (Nat.le_refl _) ?_
  refine W.eq (g2 := F0 m 693 ls [.int k]) rfl ?_
  refine lv_iload hx hb dL_law_693 (lv_at hl 1 rfl) ?_
  refine lv_icmp_eq (tgt := 700) hx hb dL_law_695 (by decide) (fun c695 => ?_) (fun c695 => ?_)
  · refine lv_iload hx hb dL_law_700 (lv_at hl 1 rfl) ?_
    refine lv_if_ne (tgt := 717) hx hb dL_law_702 (by decide) (fun c702 => ?_) (fun c702 => ?_)
    · refine lv_goto (tgt := 1063) hx hb dL_law_717 (by decide) ?_
      refine lv_iinc (v := nI (5 * (N + 1))) (lv' := [(4, .int (nI (5 * (N + 1)))), (6, .int c9), (5, .int k), (0, .ref b), (1, .ref x), (2, .ref o), (3, .ref ao)]) hx hb dL_law_1063 hl (k := 6) rfl (nI_add (5 * N) 5) (by first | decide | omega) rfl (fun ls hl => ?_)
      refine lv_goto (tgt := 23) hx hb dL_law_1066 (by decide) ?_
      refine W.widen (k := 100 + 8 * (N + 1)) (n := 5000 + 60 * (N + 1)) (by omega) (by omega) ?_
      exact ih _ H locs ls (LI.step hK ha e1 f hh9 R2) hM (lv_sub hl [3, 4, 5, 6, 0] rfl)
    · have ec : c9 = b9 := Value.int.inj (Option.some.inj (gv c702))
      have ob : (mo_h o A hh T).2.1 ao 0 = b9 := by
        rw [LI.out k1 ka T]
        rcases w9 with z | z
        · rw [z.2.2]; exact th_ui_s _ _ _ _
        · exact absurd c702 (N_getRoot z.1.choose_spec.2)
      refine lv_aload_n hx hb dL_law_705 rfl (lv_at hl 5 rfl) ?_
      refine lv_iconst (v := 0) hx hb dL_law_706 (by decide) ?_
      refine al_9 (i := 0) hC hM ka (by decide) (by decide) (by first | decide | omega) dL_law_707 ?_
      rw [show (mo_h o A hh T).2.1 ao 0 = b9 from ob]
      refine lv_iload hx hb dL_law_708 (lv_at hl 0 rfl) ?_
      refine lv_i2l hx hb dL_law_710 rfl ?_
      refine W.lcmp hx hb dL_law_711 ?_
      rw [show lg_cmp b9.toInt64 c9.toInt64 = 0 from by rw [ec]; exact lg_cmp_s _]
      refine lv_if_eq (tgt := 717) hx hb dL_law_712 (by decide) (fun c712 => ?_) (fun c712 => ?_)
      · refine lv_goto (tgt := 1063) hx hb dL_law_717 (by decide) ?_
        refine lv_iinc (v := nI (5 * (N + 1))) (lv' := [(4, .int (nI (5 * (N + 1)))), (6, .int c9), (5, .int k), (0, .ref b), (1, .ref x), (2, .ref o), (3, .ref ao)]) hx hb dL_law_1063 hl (k := 6) rfl (nI_add (5 * N) 5) (by first | decide | omega) rfl (fun ls hl => ?_)
        refine lv_goto (tgt := 23) hx hb dL_law_1066 (by decide) ?_
        refine W.widen (k := 100 + 8 * (N + 1)) (n := 5000 + 60 * (N + 1)) (by omega) (by omega) ?_
        exact ih _ H locs ls (LI.step hK ha e1 f hh9 R2) hM (lv_sub hl [3, 4, 5, 6, 0] rfl)
      · exact absurd c712 (by decide)
  · exact absurd rfl c695

-- case 8: commit
set_option maxHeartbeats 4000000 in
set_option maxRecDepth 100000 in
theorem lc_commit {l : Launch} (hl0 : l.stackTraces = false) {D : va_G} {cs : Nat → ClassId} {h0 : th_S} {p : Program} {e : Env} {s : State} {m : MethodId} {below : List Frame} {meth : Method} {c : Code} {b L : Nat} {xs : Nat → Int32} (hC : th_C D cs h0 p m c code 7 s [.ref b] RL) (hX : va_X b L xs s s.heap) (hbl : b < s.heap.size) (hbA : ¬ mw_A (th_g cs h0) s.heap.size b) {Q : State → Prop} {x aR aO aH aT o ao : Nat} {rt ta A : Nat → Nat} {N : Nat} (hlt : 5 * N + 5 ≤ L) (hL : L ≤ 2560) {h : th_S} (hI : LI x aR aO aH aT o ao rt ta A h N) {H : Heap} {locs : List Loc} {ls : Array Slot} (hM : th_H D cs h0 s h H locs) (hl : lv_has ls 7 [(0, .ref b), (1, .ref x), (2, .ref o), (3, .ref ao), (4, .int (nI (5 * N)))]) (ih : ∀ (h : th_S) (H : Heap) (locs : List Loc) (ls : Array Slot), LI x aR aO aH aT o ao rt ta A h (N + 1) → th_H D cs h0 s h H locs → lv_has ls 7 [(0, .ref b), (1, .ref x), (2, .ref o), (3, .ref ao), (4, .int (nI (5 * (N + 1))))] → W p l e room_1 s m #[Value.ref b] below meth c H locs (100 + 8 * (N + 1)) (5000 + 60 * (N + 1)) Q (F0 m 23 ls [])) : W p l e room_1 s m #[Value.ref b] below meth c H locs (100 + 8 * N) (5000 + 60 * N) Q (F0 m 720 ls []) := by
  have hx := hC.1.1
  have hb := hC.1.2.1
  obtain ⟨hK, ha, S, n, u, ad, e1, R⟩ := hI
  have hN : N + 1 < 2 ^ 31 := by omega
  have kx0 : h.1 x = some (0, 0) := R.1.1.1.kx
  refine lv_aload_n hx hb dL_law_720 rfl (lv_at hl 1 rfl) ?_
  refine lv_aload_n hx hb dL_law_721 rfl (lv_at hl 0 rfl) ?_
  refine lv_iload hx hb dL_law_722 (lv_at hl 4 rfl) ?_
  refine lv_iconst (v := 1) hx hb dL_law_724 (by decide) ?_
  refine lv_iadd hx hb dL_law_725 ?_
  rw [show nI (5 * N) + 1 = nI (5 * N + 1) from nI_add (5 * N) 1]
  refine va_sld hx hb hX hbl hbA hM.2.2.1 (vp_in_nI (show 5 * N + 1 < L by omega) (by omega)) dL_law_726 ?_
  rw [nI_clamp (show 5 * N + 1 < 2 ^ 31 by omega)]
  refine lv_aload_n hx hb dL_law_727 rfl (lv_at hl 3 rfl) ?_
  refine mw_callSW (As := [.ref x, .int (xs (5 * N + 1)), .ref ao]) (rest := []) (n := 3) hC hM (c_L_commit l hl0 D cs h H.size x aR aO aH aT rt ta S N n u ad R ao ha (xs (5 * N + 1))) (vx_cwSW 3 hC.1.2.2.2.2 (tb_SW mb_446 mb_447 mb_35 mb_448) rfl rfl rfl (by decide +kernel) ⟨Nat.le_of_ble_eq_true rfl, Nat.le_of_ble_eq_true rfl⟩) rfl rfl hl.1 (Nat.le_of_ble_eq_true rfl) dL_law_728 ⟨Nat.le_trans (show 100 + 8 * N + 2 ≤ 10000 by omega) (Nat.le_of_ble_eq_true rfl), Nat.le_trans (show 5000 + 60 * N + 12 ≤ 50000 by omega) (Nat.le_of_ble_eq_true rfl)⟩ (fun E ce q9 g9 H locs hp9 hM hce hcv hcl => ?_) (fun v9 g9 H locs hp9 hM => ?_)
  · exact (hp9.elim fun _ h9 => h9.2.elim)
  obtain ⟨hh, rfl, hp9⟩ := hp9
  obtain ⟨k, b9, h1, rfl, w9⟩ := hp9
  have w : (k = 0 ∧ p3_commit x aO rt ta h n (xs (5 * N + 1)) (some (.int b9)) h1) ∨ ∃ E, e3_commit x ta h (xs (5 * N + 1)) E h1 ∧ cd_commit E k := w9.imp (fun z => ⟨z.1, z.2.1⟩) (fun z => z.1)
  have hh9 : hh = h1 ∨ ∃ b, hh = th_ui h1 ao 0 b := w9.elim (fun z => Or.inr ⟨_, z.2.2⟩) (fun z => Or.inl z.2)
  have f : fr7 h h1 := F_commit R w
  obtain ⟨k1, k2, k3, k4, k5⟩ := LI.cls hK e1 ha f hh9
  have ka : hh.1 ao = some (9, 1) := by rw [k3]; exact (f ao _ ha (by show 7 ≤ 9; omega)).1
  have hM : th_H D cs h0 s (mo_h o A hh S) H locs := by rw [k2]; exact hM
  refine W.widen (k := 100 + 8 * N + 2) (n := 5000 + 60 * N + 12) (Nat.le_refl _) (Nat.le_refl _) ?_
  refine W.eq (g2 := F0 m 731 ls [.int k]) rfl ?_
  refine lv_istore (lv' := [(5, .int k), (0, .ref b), (1, .ref x), (2, .ref o), (3, .ref ao), (4, .int (nI (5 * N)))]) hx hb dL_law_731 hl (by decide) rfl (fun ls hl => ?_)
  refine lv_aload_n hx hb dL_law_733 rfl (lv_at hl 3 rfl) ?_
  refine lv_aload_n hx hb dL_law_734 rfl (lv_at hl 1 rfl) ?_
  refine lv_iload hx hb dL_law_735 (lv_at hl 5 rfl) ?_
  refine lv_iconst (v := 1) hx hb dL_law_737 (by decide) ?_
  refine lv_iadd hx hb dL_law_738 ?_
  rw [show nI (5 * N) + 1 = nI (5 * N + 1) from nI_add (5 * N) 1]
  refine va_sld hx hb hX hbl hbA hM.2.2.1 (vp_in_nI (show 5 * N + 1 < L by omega) (by omega)) dL_law_739 ?_
  rw [nI_clamp (show 5 * N + 1 < 2 ^ 31 by omega)]
  refine mw_callV (As := [.int (xs (5 * N + 1))]) (rest := []) (n := 1) (C := RX4) (T := TX4) (N := 21) (ci := 4) hC hM (c_X4_commit l hl0 D cs hh H.size o A k1 S (xs (5 * N + 1)) u R.mW) (cwV 1 hC.1.2.2.2.2 (tb_V mb_634 mb_635 mb_636 mb_40 mb_637) rfl rfl rfl (by decide +kernel) ⟨Nat.le_of_ble_eq_true rfl, Nat.le_of_ble_eq_true rfl⟩) (th_at (h := mo_h o A hh S) k1.1) rfl rfl rfl hl.1 (Nat.le_of_ble_eq_true rfl) dL_law_740 ⟨Nat.le_trans (show 100 + 8 * N + 2 + 0 ≤ 10000 by omega) (Nat.le_of_ble_eq_true rfl), Nat.le_trans (show 5000 + 60 * N + 12 + 0 ≤ 50000 by omega) (Nat.le_of_ble_eq_true rfl)⟩ (fun E ce q9 g9 H locs hp9 hM hce hcv hcl => ?_) (fun v9 g9 H locs hp9 hM => ?_)
  · exact (hp9.elim fun _ h9 => h9.2.elim)
  obtain ⟨h2, rfl, hp9⟩ := hp9
  have hp9 : p4_commit S (mo_h o A hh) u (xs (5 * N + 1)) v9 h2 := hp9
  obtain ⟨c9, rfl⟩ := U_commit hp9
  obtain ⟨-, T, n2, u2, ad2, rfl, g0, gv, R2⟩ := G_commit R hN w hp9
  refine W.widen (k := 100 + 8 * N + 2) (n := 5000 + 60 * N + 12) (Nat.le_refl _) (Nat.le_refl _) ?_
  refine W.eq (g2 := F0 m 743 ls [.int c9]) rfl ?_
  refine lv_istore (lv' := [(6, .int c9), (5, .int k), (0, .ref b), (1, .ref x), (2, .ref o), (3, .ref ao), (4, .int (nI (5 * N)))]) hx hb dL_law_743 hl (by decide) rfl (fun ls hl => ?_)
  refine lv_aload_n hx hb dL_law_745 rfl (lv_at hl 4 rfl) ?_
  refine mw_callV (As := []) (rest := []) (n := 0) (C := RX4) (T := TX4) (N := 21) (ci := 4) hC hM (c_X4_thrown l hl0 D cs hh H.size o A k1 T) (cwV 0 hC.1.2.2.2.2 (tb_V mb_556 mb_557 mb_558 mb_40 mb_559) rfl rfl rfl (by decide +kernel) ⟨Nat.le_of_ble_eq_true rfl, Nat.le_of_ble_eq_true rfl⟩) (th_at (h := mo_h o A hh T) k1.1) rfl rfl rfl hl.1 (Nat.le_of_ble_eq_true rfl) dL_law_746 ⟨Nat.le_trans (show 100 + 8 * N + 2 + 0 ≤ 10000 by omega) (Nat.le_of_ble_eq_true rfl), Nat.le_trans (show 5000 + 60 * N + 12 + 0 ≤ 50000 by omega) (Nat.le_of_ble_eq_true rfl)⟩ (fun E ce q9 g9 H locs hp9 hM hce hcv hcl => ?_) (fun v9 g9 H locs hp9 hM => ?_)
  · exact (hp9.elim fun _ h9 => h9.2.elim)
  obtain ⟨h2, rfl, hp9⟩ := hp9
  obtain ⟨rfl, rfl⟩ := hp9
  rw [g0]
  refine W.widen (k := 100 + 8 * N + 2) (n := 5000 + 60 * N + 12) (Nat.le_refl _) (Nat.le_refl _) ?_
  refine W.eq (g2 := F0 m 749 ls [.int k]) rfl ?_
  refine lv_iload hx hb dL_law_749 (lv_at hl 1 rfl) ?_
  refine lv_icmp_eq (tgt := 756) hx hb dL_law_751 (by decide) (fun c751 => ?_) (fun c751 => ?_)
  · refine lv_iload hx hb dL_law_756 (lv_at hl 1 rfl) ?_
    refine lv_if_ne (tgt := 773) hx hb dL_law_758 (by decide) (fun c758 => ?_) (fun c758 => ?_)
    · refine lv_goto (tgt := 1063) hx hb dL_law_773 (by decide) ?_
      refine lv_iinc (v := nI (5 * (N + 1))) (lv' := [(4, .int (nI (5 * (N + 1)))), (6, .int c9), (5, .int k), (0, .ref b), (1, .ref x), (2, .ref o), (3, .ref ao)]) hx hb dL_law_1063 hl (k := 6) rfl (nI_add (5 * N) 5) (by first | decide | omega) rfl (fun ls hl => ?_)
      refine lv_goto (tgt := 23) hx hb dL_law_1066 (by decide) ?_
      refine W.widen (k := 100 + 8 * (N + 1)) (n := 5000 + 60 * (N + 1)) (by omega) (by omega) ?_
      exact ih _ H locs ls (LI.step hK ha e1 f hh9 R2) hM (lv_sub hl [3, 4, 5, 6, 0] rfl)
    · have ec : c9 = b9 := Value.int.inj (Option.some.inj (gv c758))
      have ob : (mo_h o A hh T).2.1 ao 0 = b9 := by
        rw [LI.out k1 ka T]
        rcases w9 with z | z
        · rw [z.2.2]; exact th_ui_s _ _ _ _
        · exact absurd c758 (N_commit z.1.choose_spec.2)
      refine lv_aload_n hx hb dL_law_761 rfl (lv_at hl 5 rfl) ?_
      refine lv_iconst (v := 0) hx hb dL_law_762 (by decide) ?_
      refine al_9 (i := 0) hC hM ka (by decide) (by decide) (by first | decide | omega) dL_law_763 ?_
      rw [show (mo_h o A hh T).2.1 ao 0 = b9 from ob]
      refine lv_iload hx hb dL_law_764 (lv_at hl 0 rfl) ?_
      refine lv_i2l hx hb dL_law_766 rfl ?_
      refine W.lcmp hx hb dL_law_767 ?_
      rw [show lg_cmp b9.toInt64 c9.toInt64 = 0 from by rw [ec]; exact lg_cmp_s _]
      refine lv_if_eq (tgt := 773) hx hb dL_law_768 (by decide) (fun c768 => ?_) (fun c768 => ?_)
      · refine lv_goto (tgt := 1063) hx hb dL_law_773 (by decide) ?_
        refine lv_iinc (v := nI (5 * (N + 1))) (lv' := [(4, .int (nI (5 * (N + 1)))), (6, .int c9), (5, .int k), (0, .ref b), (1, .ref x), (2, .ref o), (3, .ref ao)]) hx hb dL_law_1063 hl (k := 6) rfl (nI_add (5 * N) 5) (by first | decide | omega) rfl (fun ls hl => ?_)
        refine lv_goto (tgt := 23) hx hb dL_law_1066 (by decide) ?_
        refine W.widen (k := 100 + 8 * (N + 1)) (n := 5000 + 60 * (N + 1)) (by omega) (by omega) ?_
        exact ih _ H locs ls (LI.step hK ha e1 f hh9 R2) hM (lv_sub hl [3, 4, 5, 6, 0] rfl)
      · exact absurd c768 (by decide)
  · exact absurd rfl c751

-- case 9: abort
set_option maxHeartbeats 4000000 in
set_option maxRecDepth 100000 in
theorem lc_abort {l : Launch} (hl0 : l.stackTraces = false) {D : va_G} {cs : Nat → ClassId} {h0 : th_S} {p : Program} {e : Env} {s : State} {m : MethodId} {below : List Frame} {meth : Method} {c : Code} {b L : Nat} {xs : Nat → Int32} (hC : th_C D cs h0 p m c code 7 s [.ref b] RL) (hX : va_X b L xs s s.heap) (hbl : b < s.heap.size) (hbA : ¬ mw_A (th_g cs h0) s.heap.size b) {Q : State → Prop} {x aR aO aH aT o ao : Nat} {rt ta A : Nat → Nat} {N : Nat} (hlt : 5 * N + 5 ≤ L) (hL : L ≤ 2560) {h : th_S} (hI : LI x aR aO aH aT o ao rt ta A h N) {H : Heap} {locs : List Loc} {ls : Array Slot} (hM : th_H D cs h0 s h H locs) (hl : lv_has ls 7 [(0, .ref b), (1, .ref x), (2, .ref o), (3, .ref ao), (4, .int (nI (5 * N)))]) (ih : ∀ (h : th_S) (H : Heap) (locs : List Loc) (ls : Array Slot), LI x aR aO aH aT o ao rt ta A h (N + 1) → th_H D cs h0 s h H locs → lv_has ls 7 [(0, .ref b), (1, .ref x), (2, .ref o), (3, .ref ao), (4, .int (nI (5 * (N + 1))))] → W p l e room_1 s m #[Value.ref b] below meth c H locs (100 + 8 * (N + 1)) (5000 + 60 * (N + 1)) Q (F0 m 23 ls [])) : W p l e room_1 s m #[Value.ref b] below meth c H locs (100 + 8 * N) (5000 + 60 * N) Q (F0 m 776 ls []) := by
  have hx := hC.1.1
  have hb := hC.1.2.1
  obtain ⟨hK, ha, S, n, u, ad, e1, R⟩ := hI
  have hN : N + 1 < 2 ^ 31 := by omega
  have kx0 : h.1 x = some (0, 0) := R.1.1.1.kx
  refine lv_aload_n hx hb dL_law_776 rfl (lv_at hl 1 rfl) ?_
  refine lv_aload_n hx hb dL_law_777 rfl (lv_at hl 0 rfl) ?_
  refine lv_iload hx hb dL_law_778 (lv_at hl 4 rfl) ?_
  refine lv_iconst (v := 1) hx hb dL_law_780 (by decide) ?_
  refine lv_iadd hx hb dL_law_781 ?_
  rw [show nI (5 * N) + 1 = nI (5 * N + 1) from nI_add (5 * N) 1]
  refine va_sld hx hb hX hbl hbA hM.2.2.1 (vp_in_nI (show 5 * N + 1 < L by omega) (by omega)) dL_law_782 ?_
  rw [nI_clamp (show 5 * N + 1 < 2 ^ 31 by omega)]
  refine lv_aload_n hx hb dL_law_783 rfl (lv_at hl 3 rfl) ?_
  refine mw_callSW (As := [.ref x, .int (xs (5 * N + 1)), .ref ao]) (rest := []) (n := 3) hC hM (c_L_abort l hl0 D cs h H.size x aR aO aH aT rt ta S N n u ad R ao ha (xs (5 * N + 1))) (vx_cwSW 3 hC.1.2.2.2.2 (tb_SW mb_453 mb_454 mb_35 mb_455) rfl rfl rfl (by decide +kernel) ⟨Nat.le_of_ble_eq_true rfl, Nat.le_of_ble_eq_true rfl⟩) rfl rfl hl.1 (Nat.le_of_ble_eq_true rfl) dL_law_784 ⟨Nat.le_trans (show 100 + 8 * N + 1 ≤ 10000 by omega) (Nat.le_of_ble_eq_true rfl), Nat.le_trans (show 5000 + 60 * N + 6 ≤ 50000 by omega) (Nat.le_of_ble_eq_true rfl)⟩ (fun E ce q9 g9 H locs hp9 hM hce hcv hcl => ?_) (fun v9 g9 H locs hp9 hM => ?_)
  · exact (hp9.elim fun _ h9 => h9.2.elim)
  obtain ⟨hh, rfl, hp9⟩ := hp9
  obtain ⟨k, b9, h1, rfl, w9⟩ := hp9
  have w : (k = 0 ∧ p3_abort aO rt ta h n (xs (5 * N + 1)) (some (.int b9)) h1) ∨ ∃ E, e3_abort ta h (xs (5 * N + 1)) E h1 ∧ cd_nse E k := w9.imp (fun z => ⟨z.1, z.2.1⟩) (fun z => z.1)
  have hh9 : hh = h1 ∨ ∃ b, hh = th_ui h1 ao 0 b := w9.elim (fun z => Or.inr ⟨_, z.2.2⟩) (fun z => Or.inl z.2)
  have f : fr7 h h1 := F_abort R w
  obtain ⟨k1, k2, k3, k4, k5⟩ := LI.cls hK e1 ha f hh9
  have ka : hh.1 ao = some (9, 1) := by rw [k3]; exact (f ao _ ha (by show 7 ≤ 9; omega)).1
  have hM : th_H D cs h0 s (mo_h o A hh S) H locs := by rw [k2]; exact hM
  refine W.widen (k := 100 + 8 * N + 1) (n := 5000 + 60 * N + 6) (Nat.le_refl _) (Nat.le_refl _) ?_
  refine W.eq (g2 := F0 m 787 ls [.int k]) rfl ?_
  refine lv_istore (lv' := [(5, .int k), (0, .ref b), (1, .ref x), (2, .ref o), (3, .ref ao), (4, .int (nI (5 * N)))]) hx hb dL_law_787 hl (by decide) rfl (fun ls hl => ?_)
  refine lv_aload_n hx hb dL_law_789 rfl (lv_at hl 3 rfl) ?_
  refine lv_aload_n hx hb dL_law_790 rfl (lv_at hl 1 rfl) ?_
  refine lv_iload hx hb dL_law_791 (lv_at hl 5 rfl) ?_
  refine lv_iconst (v := 1) hx hb dL_law_793 (by decide) ?_
  refine lv_iadd hx hb dL_law_794 ?_
  rw [show nI (5 * N) + 1 = nI (5 * N + 1) from nI_add (5 * N) 1]
  refine va_sld hx hb hX hbl hbA hM.2.2.1 (vp_in_nI (show 5 * N + 1 < L by omega) (by omega)) dL_law_795 ?_
  rw [nI_clamp (show 5 * N + 1 < 2 ^ 31 by omega)]
  refine mw_callV (As := [.int (xs (5 * N + 1))]) (rest := []) (n := 1) (C := RX4) (T := TX4) (N := 21) (ci := 4) hC hM (c_X4_abort l hl0 D cs hh H.size o A k1 S (xs (5 * N + 1)) u R.mW) (cwV 1 hC.1.2.2.2.2 (tb_V mb_647 mb_648 mb_649 mb_40 mb_650) rfl rfl rfl (by decide +kernel) ⟨Nat.le_of_ble_eq_true rfl, Nat.le_of_ble_eq_true rfl⟩) (th_at (h := mo_h o A hh S) k1.1) rfl rfl rfl hl.1 (Nat.le_of_ble_eq_true rfl) dL_law_796 ⟨Nat.le_trans (show 100 + 8 * N + 1 + 0 ≤ 10000 by omega) (Nat.le_of_ble_eq_true rfl), Nat.le_trans (show 5000 + 60 * N + 6 + 0 ≤ 50000 by omega) (Nat.le_of_ble_eq_true rfl)⟩ (fun E ce q9 g9 H locs hp9 hM hce hcv hcl => ?_) (fun v9 g9 H locs hp9 hM => ?_)
  · exact (hp9.elim fun _ h9 => h9.2.elim)
  obtain ⟨h2, rfl, hp9⟩ := hp9
  have hp9 : p4_abort S (mo_h o A hh) u (xs (5 * N + 1)) v9 h2 := hp9
  obtain ⟨c9, rfl⟩ := U_abort hp9
  obtain ⟨-, T, n2, u2, ad2, rfl, g0, gv, R2⟩ := G_abort R hN w hp9
  refine W.widen (k := 100 + 8 * N + 1) (n := 5000 + 60 * N + 6) (Nat.le_refl _) (Nat.le_refl _) ?_
  refine W.eq (g2 := F0 m 799 ls [.int c9]) rfl ?_
  refine lv_istore (lv' := [(6, .int c9), (5, .int k), (0, .ref b), (1, .ref x), (2, .ref o), (3, .ref ao), (4, .int (nI (5 * N)))]) hx hb dL_law_799 hl (by decide) rfl (fun ls hl => ?_)
  refine lv_aload_n hx hb dL_law_801 rfl (lv_at hl 4 rfl) ?_
  refine mw_callV (As := []) (rest := []) (n := 0) (C := RX4) (T := TX4) (N := 21) (ci := 4) hC hM (c_X4_thrown l hl0 D cs hh H.size o A k1 T) (cwV 0 hC.1.2.2.2.2 (tb_V mb_556 mb_557 mb_558 mb_40 mb_559) rfl rfl rfl (by decide +kernel) ⟨Nat.le_of_ble_eq_true rfl, Nat.le_of_ble_eq_true rfl⟩) (th_at (h := mo_h o A hh T) k1.1) rfl rfl rfl hl.1 (Nat.le_of_ble_eq_true rfl) dL_law_802 ⟨Nat.le_trans (show 100 + 8 * N + 1 + 0 ≤ 10000 by omega) (Nat.le_of_ble_eq_true rfl), Nat.le_trans (show 5000 + 60 * N + 6 + 0 ≤ 50000 by omega) (Nat.le_of_ble_eq_true rfl)⟩ (fun E ce q9 g9 H locs hp9 hM hce hcv hcl => ?_) (fun v9 g9 H locs hp9 hM => ?_)
  · exact (hp9.elim fun _ h9 => h9.2.elim)
  obtain ⟨h2, rfl, hp9⟩ := hp9
  obtain ⟨rfl, rfl⟩ := hp9
  rw [g0]
  refine W.widen (k := 100 + 8 * N + 1) (n := 5000 + 60 * N + 6) (Nat.le_refl _) (Nat.le_refl _) ?_
  refine W.eq (g2 := F0 m 805 ls [.int k]) rfl ?_
  refine lv_iload hx hb dL_law_805 (lv_at hl 1 rfl) ?_
  refine lv_icmp_eq (tgt := 812) hx hb dL_law_807 (by decide) (fun c807 => ?_) (fun c807 => ?_)
  · refine lv_iload hx hb dL_law_812 (lv_at hl 1 rfl) ?_
    refine lv_if_ne (tgt := 829) hx hb dL_law_814 (by decide) (fun c814 => ?_) (fun c814 => ?_)
    · refine lv_goto (tgt := 1063) hx hb dL_law_829 (by decide) ?_
      refine lv_iinc (v := nI (5 * (N + 1))) (lv' := [(4, .int (nI (5 * (N + 1)))), (6, .int c9), (5, .int k), (0, .ref b), (1, .ref x), (2, .ref o), (3, .ref ao)]) hx hb dL_law_1063 hl (k := 6) rfl (nI_add (5 * N) 5) (by first | decide | omega) rfl (fun ls hl => ?_)
      refine lv_goto (tgt := 23) hx hb dL_law_1066 (by decide) ?_
      refine W.widen (k := 100 + 8 * (N + 1)) (n := 5000 + 60 * (N + 1)) (by omega) (by omega) ?_
      exact ih _ H locs ls (LI.step hK ha e1 f hh9 R2) hM (lv_sub hl [3, 4, 5, 6, 0] rfl)
    · have ec : c9 = b9 := Value.int.inj (Option.some.inj (gv c814))
      have ob : (mo_h o A hh T).2.1 ao 0 = b9 := by
        rw [LI.out k1 ka T]
        rcases w9 with z | z
        · rw [z.2.2]; exact th_ui_s _ _ _ _
        · exact absurd c814 (N_nse z.1.choose_spec.2)
      refine lv_aload_n hx hb dL_law_817 rfl (lv_at hl 5 rfl) ?_
      refine lv_iconst (v := 0) hx hb dL_law_818 (by decide) ?_
      refine al_9 (i := 0) hC hM ka (by decide) (by decide) (by first | decide | omega) dL_law_819 ?_
      rw [show (mo_h o A hh T).2.1 ao 0 = b9 from ob]
      refine lv_iload hx hb dL_law_820 (lv_at hl 0 rfl) ?_
      refine lv_i2l hx hb dL_law_822 rfl ?_
      refine W.lcmp hx hb dL_law_823 ?_
      rw [show lg_cmp b9.toInt64 c9.toInt64 = 0 from by rw [ec]; exact lg_cmp_s _]
      refine lv_if_eq (tgt := 829) hx hb dL_law_824 (by decide) (fun c824 => ?_) (fun c824 => ?_)
      · refine lv_goto (tgt := 1063) hx hb dL_law_829 (by decide) ?_
        refine lv_iinc (v := nI (5 * (N + 1))) (lv' := [(4, .int (nI (5 * (N + 1)))), (6, .int c9), (5, .int k), (0, .ref b), (1, .ref x), (2, .ref o), (3, .ref ao)]) hx hb dL_law_1063 hl (k := 6) rfl (nI_add (5 * N) 5) (by first | decide | omega) rfl (fun ls hl => ?_)
        refine lv_goto (tgt := 23) hx hb dL_law_1066 (by decide) ?_
        refine W.widen (k := 100 + 8 * (N + 1)) (n := 5000 + 60 * (N + 1)) (by omega) (by omega) ?_
        exact ih _ H locs ls (LI.step hK ha e1 f hh9 R2) hM (lv_sub hl [3, 4, 5, 6, 0] rfl)
      · exact absurd c824 (by decide)
  · exact absurd rfl c807

-- case 10: checkpoint
set_option maxHeartbeats 4000000 in
set_option maxRecDepth 100000 in
theorem lc_checkpoint {l : Launch} (hl0 : l.stackTraces = false) {D : va_G} {cs : Nat → ClassId} {h0 : th_S} {p : Program} {e : Env} {s : State} {m : MethodId} {below : List Frame} {meth : Method} {c : Code} {b L : Nat} {xs : Nat → Int32} (hC : th_C D cs h0 p m c code 7 s [.ref b] RL) (hX : va_X b L xs s s.heap) (hbl : b < s.heap.size) (hbA : ¬ mw_A (th_g cs h0) s.heap.size b) {Q : State → Prop} {x aR aO aH aT o ao : Nat} {rt ta A : Nat → Nat} {N : Nat} (hlt : 5 * N + 5 ≤ L) (hL : L ≤ 2560) {h : th_S} (hI : LI x aR aO aH aT o ao rt ta A h N) {H : Heap} {locs : List Loc} {ls : Array Slot} (hM : th_H D cs h0 s h H locs) (hl : lv_has ls 7 [(0, .ref b), (1, .ref x), (2, .ref o), (3, .ref ao), (4, .int (nI (5 * N)))]) (ih : ∀ (h : th_S) (H : Heap) (locs : List Loc) (ls : Array Slot), LI x aR aO aH aT o ao rt ta A h (N + 1) → th_H D cs h0 s h H locs → lv_has ls 7 [(0, .ref b), (1, .ref x), (2, .ref o), (3, .ref ao), (4, .int (nI (5 * (N + 1))))] → W p l e room_1 s m #[Value.ref b] below meth c H locs (100 + 8 * (N + 1)) (5000 + 60 * (N + 1)) Q (F0 m 23 ls [])) : W p l e room_1 s m #[Value.ref b] below meth c H locs (100 + 8 * N) (5000 + 60 * N) Q (F0 m 832 ls []) := by
  have hx := hC.1.1
  have hb := hC.1.2.1
  obtain ⟨hK, ha, S, n, u, ad, e1, R⟩ := hI
  have hN : N + 1 < 2 ^ 31 := by omega
  have kx0 : h.1 x = some (0, 0) := R.1.1.1.kx
  refine lv_aload_n hx hb dL_law_832 rfl (lv_at hl 1 rfl) ?_
  refine mw_callV (As := []) (rest := []) (n := 0) (C := RX3) (T := TX3) (N := 11) (ci := 3) hC hM (c_X3_checkpoint l hl0 D cs h H.size x aR aO aH aT rt ta R.1.1.1) (cwV 0 hC.1.2.2.2.2 (tb_V mb_158 mb_159 mb_160 mb_36 mb_161) rfl rfl rfl (by decide +kernel) ⟨Nat.le_of_ble_eq_true rfl, Nat.le_of_ble_eq_true rfl⟩) (th_at (h := h) kx0) rfl rfl rfl hl.1 (Nat.le_of_ble_eq_true rfl) dL_law_833 ⟨Nat.le_trans (show 100 + 8 * N + 0 ≤ 10000 by omega) (Nat.le_of_ble_eq_true rfl), Nat.le_trans (show 5000 + 60 * N + 0 ≤ 50000 by omega) (Nat.le_of_ble_eq_true rfl)⟩ (fun E ce q9 g9 H locs hp9 hM hce hcv hcl => ?_) (fun v9 g9 H locs hp9 hM => ?_)
  · exact (hp9.elim fun _ h9 => h9.2.elim)
  obtain ⟨h1, rfl, hp9⟩ := hp9
  have w9 : h1 = th_ui h x 8 0 ∧ v9 = some (.int (sh_wl x ta (th_ui h x 8 0))) := hp9
  obtain ⟨b9, rfl⟩ : ∃ b, v9 = some (.int b) := ⟨_, w9.2⟩
  have f : fr7 h h1 := by rw [w9.1]; exact (fr7.refl h).ui R.1.1.1.kx (by decide)
  have hh9 : h1 = h1 ∨ ∃ b, h1 = th_ui h1 ao 0 b := Or.inl rfl
  obtain ⟨k1, k2, k3, k4, k5⟩ := LI.cls hK e1 ha f hh9
  have hM : th_H D cs h0 s (mo_h o A h1 S) H locs := by rw [k2]; exact hM
  refine W.widen (k := 100 + 8 * N + 0) (n := 5000 + 60 * N + 0) (Nat.le_refl _) (Nat.le_refl _) ?_
  refine W.eq (g2 := F0 m 836 ls [.int b9]) rfl ?_
  refine lv_aload_n hx hb dL_law_836 rfl (lv_at hl 2 rfl) ?_
  refine mw_callV (As := []) (rest := [.int b9]) (n := 0) (C := RX4) (T := TX4) (N := 21) (ci := 4) hC hM (c_X4_checkpoint l hl0 D cs h1 H.size o A k1 S) (cwV 0 hC.1.2.2.2.2 (tb_V mb_651 mb_652 mb_653 mb_40 mb_654) rfl rfl rfl (by decide +kernel) ⟨Nat.le_of_ble_eq_true rfl, Nat.le_of_ble_eq_true rfl⟩) (th_at (h := mo_h o A h1 S) k1.1) rfl rfl rfl hl.1 (Nat.le_of_ble_eq_true rfl) dL_law_837 ⟨Nat.le_trans (show 100 + 8 * N + 0 + 0 ≤ 10000 by omega) (Nat.le_of_ble_eq_true rfl), Nat.le_trans (show 5000 + 60 * N + 0 + 0 ≤ 50000 by omega) (Nat.le_of_ble_eq_true rfl)⟩ (fun E ce q9 g9 H locs hp9 hM hce hcv hcl => ?_) (fun v9 g9 H locs hp9 hM => ?_)
  · exact (hp9.elim fun _ h9 => h9.2.elim)
  obtain ⟨h2, rfl, hp9⟩ := hp9
  have hp9 : v9 = some (.int (mo_lg (su (su S 0 0) 14 0))) ∧ h2 = mo_h o A h1 (su (su S 0 0) 14 0) := hp9
  obtain ⟨c9, rfl⟩ : ∃ b, v9 = some (.int b) := ⟨_, hp9.1⟩
  obtain ⟨-, gv, T, n2, u2, ad2, rfl, R2⟩ := G_checkpoint (H := mo_h o A h1) R w9 hp9
  refine W.widen (k := 100 + 8 * N + 0) (n := 5000 + 60 * N + 0) (Nat.le_refl _) (Nat.le_refl _) ?_
  refine W.eq (g2 := F0 m 840 ls [.int c9, .int b9]) rfl ?_
  refine lv_icmp_eq (tgt := 1063) hx hb dL_law_840 (by decide) (fun c840 => ?_) (fun c840 => ?_)
  · refine lv_iinc (v := nI (5 * (N + 1))) (lv' := [(4, .int (nI (5 * (N + 1)))), (0, .ref b), (1, .ref x), (2, .ref o), (3, .ref ao)]) hx hb dL_law_1063 hl (k := 4) rfl (nI_add (5 * N) 5) (by first | decide | omega) rfl (fun ls hl => ?_)
    refine lv_goto (tgt := 23) hx hb dL_law_1066 (by decide) ?_
    refine W.widen (k := 100 + 8 * (N + 1)) (n := 5000 + 60 * (N + 1)) (by omega) (by omega) ?_
    exact ih _ H locs ls (LI.step hK ha e1 f hh9 R2) hM (lv_sub hl [1, 2, 3, 4, 0] rfl)
  · exact absurd (Value.int.inj (Option.some.inj gv)).symm c840

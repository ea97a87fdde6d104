-- case 11: crash
set_option maxHeartbeats 4000000 in
set_option maxRecDepth 100000 in
theorem lc_crash {l : Launch} (hl0 : l.stackTraces = false) {D : va_G} {cs : Nat → ClassId} {h0 : th_S} {p : Program} {e : Env} {s : State} {m : MethodId} {below : List Frame} {meth : Method} {c : Code} {b L : Nat} {xs : Nat → Int32} (hC : th_C D cs h0 p m c code 7 s [.ref b] RL) (hX : va_X b L xs s s.heap) (hbl : b < s.heap.size) (hbA : ¬ mw_A (th_g cs h0) s.heap.size b) {Q : State → Prop} {x aR aO aH aT o ao : Nat} {rt ta A : Nat → Nat} {N : Nat} (hlt : 5 * N + 5 ≤ L) (hL : L ≤ 2560) {h : th_S} (hI : LI x aR aO aH aT o ao rt ta A h N) {H : Heap} {locs : List Loc} {ls : Array Slot} (hM : th_H D cs h0 s h H locs) (hl : lv_has ls 7 [(0, .ref b), (1, .ref x), (2, .ref o), (3, .ref ao), (4, .int (nI (5 * N)))]) (ih : ∀ (h : th_S) (H : Heap) (locs : List Loc) (ls : Array Slot), LI x aR aO aH aT o ao rt ta A h (N + 1) → th_H D cs h0 s h H locs → lv_has ls 7 [(0, .ref b), (1, .ref x), (2, .ref o), (3, .ref ao), (4, .int (nI (5 * (N + 1))))] → W p l e room_1 s m #[Value.ref b] below meth c H locs (100 + 8 * (N + 1)) (5000 + 60 * (N + 1)) Q (F0 m 23 ls [])) : W p l e room_1 s m #[Value.ref b] below meth c H locs (100 + 8 * N) (5000 + 60 * N) Q (F0 m 845 ls []) := by
  have hx := hC.1.1
  have hb := hC.1.2.1
  obtain ⟨hK, ha, S, n, u, ad, e1, R⟩ := hI
  have hN : N + 1 < 2 ^ 31 := by omega
  have kx0 : h.1 x = some (0, 0) := R.1.1.1.kx
  refine lv_aload_n hx hb dL_law_845 rfl (lv_at hl 1 rfl) ?_
  refine mw_callV (As := []) (rest := []) (n := 0) (C := RX3) (T := TX3) (N := 11) (ci := 3) hC hM (c_X3_crash l hl0 D cs h H.size x aR aO aH aT rt ta R.1.1.1 n R.1.1.2) (cwV 0 hC.1.2.2.2.2 (tb_V mb_165 mb_166 mb_167 mb_36 mb_168) rfl rfl rfl (by decide +kernel) ⟨Nat.le_of_ble_eq_true rfl, Nat.le_of_ble_eq_true rfl⟩) (th_at (h := h) kx0) rfl rfl rfl hl.1 (Nat.le_of_ble_eq_true rfl) dL_law_846 ⟨Nat.le_trans (show 100 + 8 * N + 0 ≤ 10000 by omega) (Nat.le_of_ble_eq_true rfl), Nat.le_trans (show 5000 + 60 * N + 0 ≤ 50000 by omega) (Nat.le_of_ble_eq_true rfl)⟩ (fun E ce q9 g9 H locs hp9 hM hce hcv hcl => ?_) (fun v9 g9 H locs hp9 hM => ?_)
  · exact (hp9.elim fun _ h9 => h9.2.elim)
  obtain ⟨h1, rfl, hp9⟩ := hp9
  have w9 : v9 = some (.int (cr_s aO n rt ta h 3).1) ∧ h1 = th_ui (cr_s aO n rt ta h 3).2 x 8 0 := hp9
  obtain ⟨b9, rfl⟩ : ∃ b, v9 = some (.int b) := ⟨_, w9.1⟩
  have f : fr7 h h1 := by rw [w9.2]; exact F_crash R
  have hh9 : h1 = h1 ∨ ∃ b, h1 = th_ui h1 ao 0 b := Or.inl rfl
  obtain ⟨k1, k2, k3, k4, k5⟩ := LI.cls hK e1 ha f hh9
  have hM : th_H D cs h0 s (mo_h o A h1 S) H locs := by rw [k2]; exact hM
  refine W.widen (k := 100 + 8 * N + 0) (n := 5000 + 60 * N + 0) (Nat.le_refl _) (Nat.le_refl _) ?_
  refine W.eq (g2 := F0 m 849 ls [.int b9]) rfl ?_
  refine lv_aload_n hx hb dL_law_849 rfl (lv_at hl 2 rfl) ?_
  refine mw_callV (As := []) (rest := [.int b9]) (n := 0) (C := RX4) (T := TX4) (N := 21) (ci := 4) hC hM (c_X4_crash l hl0 D cs h1 H.size o A k1 S  u R.mW) (cwV 0 hC.1.2.2.2.2 (tb_V mb_655 mb_656 mb_657 mb_40 mb_658) rfl rfl rfl (by decide +kernel) ⟨Nat.le_of_ble_eq_true rfl, Nat.le_of_ble_eq_true rfl⟩) (th_at (h := mo_h o A h1 S) k1.1) rfl rfl rfl hl.1 (Nat.le_of_ble_eq_true rfl) dL_law_850 ⟨Nat.le_trans (show 100 + 8 * N + 0 + 0 ≤ 10000 by omega) (Nat.le_of_ble_eq_true rfl), Nat.le_trans (show 5000 + 60 * N + 0 + 0 ≤ 50000 by omega) (Nat.le_of_ble_eq_true rfl)⟩ (fun E ce q9 g9 H locs hp9 hM hce hcv hcl => ?_) (fun v9 g9 H locs hp9 hM => ?_)
  · exact (hp9.elim fun _ h9 => h9.2.elim)
  obtain ⟨h2, rfl, hp9⟩ := hp9
  have hp9 : p4_crash S (mo_h o A h1) u v9 h2 := hp9
  obtain ⟨c9, rfl⟩ := U_crash hp9
  obtain ⟨-, gv, T, n2, u2, ad2, rfl, R2⟩ := G_crash R hN w9 hp9
  refine W.widen (k := 100 + 8 * N + 0) (n := 5000 + 60 * N + 0) (Nat.le_refl _) (Nat.le_refl _) ?_
  refine W.eq (g2 := F0 m 853 ls [.int c9, .int b9]) rfl ?_
  refine lv_icmp_eq (tgt := 1063) hx hb dL_law_853 (by decide) (fun c853 => ?_) (fun c853 => ?_)
  · refine lv_iinc (v := nI (5 * (N + 1))) (lv' := [(4, .int (nI (5 * (N + 1)))), (0, .ref b), (1, .ref x), (2, .ref o), (3, .ref ao)]) hx hb dL_law_1063 hl (k := 4) rfl (nI_add (5 * N) 5) (by first | decide | omega) rfl (fun ls hl => ?_)
    refine lv_goto (tgt := 23) hx hb dL_law_1066 (by decide) ?_
    refine W.widen (k := 100 + 8 * (N + 1)) (n := 5000 + 60 * (N + 1)) (by omega) (by omega) ?_
    exact ih _ H locs ls (LI.step hK ha e1 f hh9 R2) hM (lv_sub hl [1, 2, 3, 4, 0] rfl)
  · exact absurd (Value.int.inj (Option.some.inj gv)).symm c853

-- case 12: collect
set_option maxHeartbeats 4000000 in
set_option maxRecDepth 100000 in
theorem lc_collect {l : Launch} (hl0 : l.stackTraces = false) {D : va_G} {cs : Nat → ClassId} {h0 : th_S} {p : Program} {e : Env} {s : State} {m : MethodId} {below : List Frame} {meth : Method} {c : Code} {b L : Nat} {xs : Nat → Int32} (hC : th_C D cs h0 p m c code 7 s [.ref b] RL) (hX : va_X b L xs s s.heap) (hbl : b < s.heap.size) (hbA : ¬ mw_A (th_g cs h0) s.heap.size b) {Q : State → Prop} {x aR aO aH aT o ao : Nat} {rt ta A : Nat → Nat} {N : Nat} (hlt : 5 * N + 5 ≤ L) (hL : L ≤ 2560) {h : th_S} (hI : LI x aR aO aH aT o ao rt ta A h N) {H : Heap} {locs : List Loc} {ls : Array Slot} (hM : th_H D cs h0 s h H locs) (hl : lv_has ls 7 [(0, .ref b), (1, .ref x), (2, .ref o), (3, .ref ao), (4, .int (nI (5 * N)))]) (ih : ∀ (h : th_S) (H : Heap) (locs : List Loc) (ls : Array Slot), LI x aR aO aH aT o ao rt ta A h (N + 1) → th_H D cs h0 s h H locs → lv_has ls 7 [(0, .ref b), (1, .ref x), (2, .ref o), (3, .ref ao), (4, .int (nI (5 * (N + 1))))] → W p l e room_1 s m #[Value.ref b] below meth c H locs (100 + 8 * (N + 1)) (5000 + 60 * (N + 1)) Q (F0 m 23 ls [])) : W p l e room_1 s m #[Value.ref b] below meth c H locs (100 + 8 * N) (5000 + 60 * N) Q (F0 m 858 ls []) := by
  have hx := hC.1.1
  have hb := hC.1.2.1
  obtain ⟨hK, ha, S, n, u, ad, e1, R⟩ := hI
  have hN : N + 1 < 2 ^ 31 := by omega
  have kx0 : h.1 x = some (0, 0) := R.1.1.1.kx
  refine lv_aload_n hx hb dL_law_858 rfl (lv_at hl 1 rfl) ?_
  refine lv_aload_n hx hb dL_law_859 rfl (lv_at hl 0 rfl) ?_
  refine lv_iload hx hb dL_law_860 (lv_at hl 4 rfl) ?_
  refine lv_iconst (v := 1) hx hb dL_law_862 (by decide) ?_
  refine lv_iadd hx hb dL_law_863 ?_
  rw [show nI (5 * N) + 1 = nI (5 * N + 1) from nI_add (5 * N) 1]
  refine va_sld hx hb hX hbl hbA hM.2.2.1 (vp_in_nI (show 5 * N + 1 < L by omega) (by omega)) dL_law_864 ?_
  rw [nI_clamp (show 5 * N + 1 < 2 ^ 31 by omega)]
  refine mw_callV (As := [.int (xs (5 * N + 1))]) (rest := []) (n := 1) (C := RX3) (T := TX3) (N := 11) (ci := 3) hC hM (c_X3_collect l hl0 D cs h H.size x aR aO aH aT rt ta R.1.1.1 n R.1.1.2 (xs (5 * N + 1))) (cwV 1 hC.1.2.2.2.2 (tb_V mb_188 mb_189 mb_190 mb_36 mb_191) rfl rfl rfl (by decide +kernel) ⟨Nat.le_of_ble_eq_true rfl, Nat.le_of_ble_eq_true rfl⟩) (th_at (h := h) kx0) rfl rfl rfl hl.1 (Nat.le_of_ble_eq_true rfl) dL_law_865 ⟨Nat.le_trans (show 100 + 8 * N + 0 ≤ 10000 by omega) (Nat.le_of_ble_eq_true rfl), Nat.le_trans (show 5000 + 60 * N + 0 ≤ 50000 by omega) (Nat.le_of_ble_eq_true rfl)⟩ (fun E ce q9 g9 H locs hp9 hM hce hcv hcl => ?_) (fun v9 g9 H locs hp9 hM => ?_)
  · exact (hp9.elim fun _ h9 => h9.2.elim)
  obtain ⟨h1, rfl, hp9⟩ := hp9
  have w9 : sh_co x aO aH n rt ta h (xs (5 * N + 1)) v9 h1 := hp9
  obtain ⟨b9, rfl⟩ := V_collect w9
  have f : fr7 h h1 := F_collect R w9
  have hh9 : h1 = h1 ∨ ∃ b, h1 = th_ui h1 ao 0 b := Or.inl rfl
  obtain ⟨k1, k2, k3, k4, k5⟩ := LI.cls hK e1 ha f hh9
  have hM : th_H D cs h0 s (mo_h o A h1 S) H locs := by rw [k2]; exact hM
  refine W.widen (k := 100 + 8 * N + 0) (n := 5000 + 60 * N + 0) (Nat.le_refl _) (Nat.le_refl _) ?_
  refine W.eq (g2 := F0 m 868 ls [.int b9]) rfl ?_
  refine lv_aload_n hx hb dL_law_868 rfl (lv_at hl 2 rfl) ?_
  refine lv_aload_n hx hb dL_law_869 rfl (lv_at hl 0 rfl) ?_
  refine lv_iload hx hb dL_law_870 (lv_at hl 4 rfl) ?_
  refine lv_iconst (v := 1) hx hb dL_law_872 (by decide) ?_
  refine lv_iadd hx hb dL_law_873 ?_
  rw [show nI (5 * N) + 1 = nI (5 * N + 1) from nI_add (5 * N) 1]
  refine va_sld hx hb hX hbl hbA hM.2.2.1 (vp_in_nI (show 5 * N + 1 < L by omega) (by omega)) dL_law_874 ?_
  rw [nI_clamp (show 5 * N + 1 < 2 ^ 31 by omega)]
  refine mw_callV (As := [.int (xs (5 * N + 1))]) (rest := [.int b9]) (n := 1) (C := RX4) (T := TX4) (N := 21) (ci := 4) hC hM (c_X4_collect l hl0 D cs h1 H.size o A k1 S (xs (5 * N + 1)) R.z9 u R.mW) (cwV 1 hC.1.2.2.2.2 (tb_V mb_659 mb_660 mb_661 mb_40 mb_662) rfl rfl rfl (by decide +kernel) ⟨Nat.le_of_ble_eq_true rfl, Nat.le_of_ble_eq_true rfl⟩) (th_at (h := mo_h o A h1 S) k1.1) rfl rfl rfl hl.1 (Nat.le_of_ble_eq_true rfl) dL_law_875 ⟨Nat.le_trans (show 100 + 8 * N + 0 + 0 ≤ 10000 by omega) (Nat.le_of_ble_eq_true rfl), Nat.le_trans (show 5000 + 60 * N + 0 + 0 ≤ 50000 by omega) (Nat.le_of_ble_eq_true rfl)⟩ (fun E ce q9 g9 H locs hp9 hM hce hcv hcl => ?_) (fun v9 g9 H locs hp9 hM => ?_)
  · exact (hp9.elim fun _ h9 => h9.2.elim)
  obtain ⟨h2, rfl, hp9⟩ := hp9
  have hp9 : p4_collect S (mo_h o A h1) u (xs (5 * N + 1)) v9 h2 := hp9
  obtain ⟨c9, rfl⟩ := U_collect hp9
  obtain ⟨-, gv, T, n2, u2, ad2, rfl, R2⟩ := G_collect R hN w9 hp9
  refine W.widen (k := 100 + 8 * N + 0) (n := 5000 + 60 * N + 0) (Nat.le_refl _) (Nat.le_refl _) ?_
  refine W.eq (g2 := F0 m 878 ls [.int c9, .int b9]) rfl ?_
  refine lv_icmp_eq (tgt := 1063) hx hb dL_law_878 (by decide) (fun c878 => ?_) (fun c878 => ?_)
  · refine lv_iinc (v := nI (5 * (N + 1))) (lv' := [(4, .int (nI (5 * (N + 1)))), (0, .ref b), (1, .ref x), (2, .ref o), (3, .ref ao)]) hx hb dL_law_1063 hl (k := 4) rfl (nI_add (5 * N) 5) (by first | decide | omega) rfl (fun ls hl => ?_)
    refine lv_goto (tgt := 23) hx hb dL_law_1066 (by decide) ?_
    refine W.widen (k := 100 + 8 * (N + 1)) (n := 5000 + 60 * (N + 1)) (by omega) (by omega) ?_
    exact ih _ H locs ls (LI.step hK ha e1 f hh9 R2) hM (lv_sub hl [1, 2, 3, 4, 0] rfl)
  · exact absurd (Value.int.inj (Option.some.inj gv)).symm c878

-- case 13: fields
set_option maxHeartbeats 4000000 in
set_option maxRecDepth 100000 in
theorem lc_fields {l : Launch} (hl0 : l.stackTraces = false) {D : va_G} {cs : Nat → ClassId} {h0 : th_S} {p : Program} {e : Env} {s : State} {m : MethodId} {below : List Frame} {meth : Method} {c : Code} {b L : Nat} {xs : Nat → Int32} (hC : th_C D cs h0 p m c code 7 s [.ref b] RL) (hX : va_X b L xs s s.heap) (hbl : b < s.heap.size) (hbA : ¬ mw_A (th_g cs h0) s.heap.size b) {Q : State → Prop} {x aR aO aH aT o ao : Nat} {rt ta A : Nat → Nat} {N : Nat} (hlt : 5 * N + 5 ≤ L) (hL : L ≤ 2560) {h : th_S} (hI : LI x aR aO aH aT o ao rt ta A h N) {H : Heap} {locs : List Loc} {ls : Array Slot} (hM : th_H D cs h0 s h H locs) (hl : lv_has ls 7 [(0, .ref b), (1, .ref x), (2, .ref o), (3, .ref ao), (4, .int (nI (5 * N)))]) (ih : ∀ (h : th_S) (H : Heap) (locs : List Loc) (ls : Array Slot), LI x aR aO aH aT o ao rt ta A h (N + 1) → th_H D cs h0 s h H locs → lv_has ls 7 [(0, .ref b), (1, .ref x), (2, .ref o), (3, .ref ao), (4, .int (nI (5 * (N + 1))))] → W p l e room_1 s m #[Value.ref b] below meth c H locs (100 + 8 * (N + 1)) (5000 + 60 * (N + 1)) Q (F0 m 23 ls [])) : W p l e room_1 s m #[Value.ref b] below meth c H locs (100 + 8 * N) (5000 + 60 * N) Q (F0 m 883 ls []) := by
  have hx := hC.1.1
  have hb := hC.1.2.1
  obtain ⟨hK, ha, S, n, u, ad, e1, R⟩ := hI
  have hN : N + 1 < 2 ^ 31 := by omega
  have kx0 : h.1 x = some (0, 0) := R.1.1.1.kx
  refine lv_aload_n hx hb dL_law_883 rfl (lv_at hl 1 rfl) ?_
  refine lv_aload_n hx hb dL_law_884 rfl (lv_at hl 0 rfl) ?_
  refine lv_iload hx hb dL_law_885 (lv_at hl 4 rfl) ?_
  refine lv_iconst (v := 1) hx hb dL_law_887 (by decide) ?_
  refine lv_iadd hx hb dL_law_888 ?_
  rw [show nI (5 * N) + 1 = nI (5 * N + 1) from nI_add (5 * N) 1]
  refine va_sld hx hb hX hbl hbA hM.2.2.1 (vp_in_nI (show 5 * N + 1 < L by omega) (by omega)) dL_law_889 ?_
  rw [nI_clamp (show 5 * N + 1 < 2 ^ 31 by omega)]
  refine lv_aload_n hx hb dL_law_890 rfl (lv_at hl 3 rfl) ?_
  refine mw_callSW (As := [.ref x, .int (xs (5 * N + 1)), .ref ao]) (rest := []) (n := 3) hC hM (c_L_fields l hl0 D cs h H.size x aR aO aH aT rt ta S N n u ad R ao ha (xs (5 * N + 1))) (vx_cwSW 3 hC.1.2.2.2.2 (tb_SW mb_460 mb_461 mb_35 mb_462) rfl rfl rfl (by decide +kernel) ⟨Nat.le_of_ble_eq_true rfl, Nat.le_of_ble_eq_true rfl⟩) rfl rfl hl.1 (Nat.le_of_ble_eq_true rfl) dL_law_891 ⟨Nat.le_trans (show 100 + 8 * N + 1 ≤ 10000 by omega) (Nat.le_of_ble_eq_true rfl), Nat.le_trans (show 5000 + 60 * N + 6 ≤ 50000 by omega) (Nat.le_of_ble_eq_true rfl)⟩ (fun E ce q9 g9 H locs hp9 hM hce hcv hcl => ?_) (fun v9 g9 H locs hp9 hM => ?_)
  · exact (hp9.elim fun _ h9 => h9.2.elim)
  obtain ⟨hh, rfl, hp9⟩ := hp9
  obtain ⟨k, b9, h1, rfl, w9⟩ := hp9
  have w : (k = 0 ∧ p3_fields aO h n (xs (5 * N + 1)) (some (.int b9)) h1) ∨ ∃ E, e3_fields aO h n (xs (5 * N + 1)) E h1 ∧ cd_nse E k := w9.imp (fun z => ⟨z.1, z.2.1⟩) (fun z => z.1)
  have hh9 : hh = h1 ∨ ∃ b, hh = th_ui h1 ao 0 b := w9.elim (fun z => Or.inr ⟨_, z.2.2⟩) (fun z => Or.inl z.2)
  have f : fr7 h h1 := F_fields R w
  obtain ⟨k1, k2, k3, k4, k5⟩ := LI.cls hK e1 ha f hh9
  have ka : hh.1 ao = some (9, 1) := by rw [k3]; exact (f ao _ ha (by show 7 ≤ 9; omega)).1
  have hM : th_H D cs h0 s (mo_h o A hh S) H locs := by rw [k2]; exact hM
  refine W.widen (k := 100 + 8 * N + 1) (n := 5000 + 60 * N + 6) (Nat.le_refl _) (Nat.le_refl _) ?_
  refine W.eq (g2 := F0 m 894 ls [.int k]) rfl ?_
  refine lv_istore (lv' := [(5, .int k), (0, .ref b), (1, .ref x), (2, .ref o), (3, .ref ao), (4, .int (nI (5 * N)))]) hx hb dL_law_894 hl (by decide) rfl (fun ls hl => ?_)
  refine lv_aload_n hx hb dL_law_896 rfl (lv_at hl 3 rfl) ?_
  refine lv_aload_n hx hb dL_law_897 rfl (lv_at hl 1 rfl) ?_
  refine lv_iload hx hb dL_law_898 (lv_at hl 5 rfl) ?_
  refine lv_iconst (v := 1) hx hb dL_law_900 (by decide) ?_
  refine lv_iadd hx hb dL_law_901 ?_
  rw [show nI (5 * N) + 1 = nI (5 * N + 1) from nI_add (5 * N) 1]
  refine va_sld hx hb hX hbl hbA hM.2.2.1 (vp_in_nI (show 5 * N + 1 < L by omega) (by omega)) dL_law_902 ?_
  rw [nI_clamp (show 5 * N + 1 < 2 ^ 31 by omega)]
  refine mw_callV (As := [.int (xs (5 * N + 1))]) (rest := []) (n := 1) (C := RX4) (T := TX4) (N := 21) (ci := 4) hC hM (c_X4_fields l hl0 D cs hh H.size o A k1 S (xs (5 * N + 1))) (cwV 1 hC.1.2.2.2.2 (tb_V mb_670 mb_671 mb_672 mb_40 mb_673) rfl rfl rfl (by decide +kernel) ⟨Nat.le_of_ble_eq_true rfl, Nat.le_of_ble_eq_true rfl⟩) (th_at (h := mo_h o A hh S) k1.1) rfl rfl rfl hl.1 (Nat.le_of_ble_eq_true rfl) dL_law_903 ⟨Nat.le_trans (show 100 + 8 * N + 1 + 0 ≤ 10000 by omega) (Nat.le_of_ble_eq_true rfl), Nat.le_trans (show 5000 + 60 * N + 6 + 0 ≤ 50000 by omega) (Nat.le_of_ble_eq_true rfl)⟩ (fun E ce q9 g9 H locs hp9 hM hce hcv hcl => ?_) (fun v9 g9 H locs hp9 hM => ?_)
  · exact (hp9.elim fun _ h9 => h9.2.elim)
  obtain ⟨h2, rfl, hp9⟩ := hp9
  have hp9 : p4_fields S (mo_h o A hh) (xs (5 * N + 1)) v9 h2 := hp9
  obtain ⟨c9, rfl⟩ := U_fields hp9
  obtain ⟨-, T, n2, u2, ad2, rfl, g0, gv, R2⟩ := G_fields R w hp9
  refine W.widen (k := 100 + 8 * N + 1) (n := 5000 + 60 * N + 6) (Nat.le_refl _) (Nat.le_refl _) ?_
  refine W.eq (g2 := F0 m 906 ls [.int c9]) rfl ?_
  refine lv_istore (lv' := [(6, .int c9), (5, .int k), (0, .ref b), (1, .ref x), (2, .ref o), (3, .ref ao), (4, .int (nI (5 * N)))]) hx hb dL_law_906 hl (by decide) rfl (fun ls hl => ?_)
  refine lv_aload_n hx hb dL_law_908 rfl (lv_at hl 4 rfl) ?_
  refine mw_callV (As := []) (rest := []) (n := 0) (C := RX4) (T := TX4) (N := 21) (ci := 4) hC hM (c_X4_thrown l hl0 D cs hh H.size o A k1 T) (cwV 0 hC.1.2.2.2.2 (tb_V mb_556 mb_557 mb_558 mb_40 mb_559) rfl rfl rfl (by decide +kernel) ⟨Nat.le_of_ble_eq_true rfl, Nat.le_of_ble_eq_true rfl⟩) (th_at (h := mo_h o A hh T) k1.1) rfl rfl rfl hl.1 (Nat.le_of_ble_eq_true rfl) dL_law_909 ⟨Nat.le_trans (show 100 + 8 * N + 1 + 0 ≤ 10000 by omega) (Nat.le_of_ble_eq_true rfl), Nat.le_trans (show 5000 + 60 * N + 6 + 0 ≤ 50000 by omega) (Nat.le_of_ble_eq_true rfl)⟩ (fun E ce q9 g9 H locs hp9 hM hce hcv hcl => ?_) (fun v9 g9 H locs hp9 hM => ?_)
  · exact (hp9.elim fun _ h9 => h9.2.elim)
  obtain ⟨h2, rfl, hp9⟩ := hp9
  obtain ⟨rfl, rfl⟩ := hp9
  rw [g0]
  refine W.widen (k := 100 + 8 * N + 1) (n := 5000 + 60 * N + 6) (Nat.le_refl _) (Nat.le_refl _) ?_
  refine W.eq (g2 := F0 m 912 ls [.int k]) rfl ?_
  refine lv_iload hx hb dL_law_912 (lv_at hl 1 rfl) ?_
  refine lv_icmp_eq (tgt := 919) hx hb dL_law_914 (by decide) (fun c914 => ?_) (fun c914 => ?_)
  · refine lv_iload hx hb dL_law_919 (lv_at hl 1 rfl) ?_
    refine lv_if_ne (tgt := 936) hx hb dL_law_921 (by decide) (fun c921 => ?_) (fun c921 => ?_)
    · refine lv_goto (tgt := 1063) hx hb dL_law_936 (by decide) ?_
      refine lv_iinc (v := nI (5 * (N + 1))) (lv' := [(4, .int (nI (5 * (N + 1)))), (6, .int c9), (5, .int k), (0, .ref b), (1, .ref x), (2, .ref o), (3, .ref ao)]) hx hb dL_law_1063 hl (k := 6) rfl (nI_add (5 * N) 5) (by first | decide | omega) rfl (fun ls hl => ?_)
      refine lv_goto (tgt := 23) hx hb dL_law_1066 (by decide) ?_
      refine W.widen (k := 100 + 8 * (N + 1)) (n := 5000 + 60 * (N + 1)) (by omega) (by omega) ?_
      exact ih _ H locs ls (LI.step hK ha e1 f hh9 R2) hM (lv_sub hl [3, 4, 5, 6, 0] rfl)
    · have ec : c9 = b9 := Value.int.inj (Option.some.inj (gv c921))
      have ob : (mo_h o A hh T).2.1 ao 0 = b9 := by
        rw [LI.out k1 ka T]
        rcases w9 with z | z
        · rw [z.2.2]; exact th_ui_s _ _ _ _
        · exact absurd c921 (N_nse z.1.choose_spec.2)
      refine lv_aload_n hx hb dL_law_924 rfl (lv_at hl 5 rfl) ?_
      refine lv_iconst (v := 0) hx hb dL_law_925 (by decide) ?_
      refine al_9 (i := 0) hC hM ka (by decide) (by decide) (by first | decide | omega) dL_law_926 ?_
      rw [show (mo_h o A hh T).2.1 ao 0 = b9 from ob]
      refine lv_iload hx hb dL_law_927 (lv_at hl 0 rfl) ?_
      refine lv_i2l hx hb dL_law_929 rfl ?_
      refine W.lcmp hx hb dL_law_930 ?_
      rw [show lg_cmp b9.toInt64 c9.toInt64 = 0 from by rw [ec]; exact lg_cmp_s _]
      refine lv_if_eq (tgt := 936) hx hb dL_law_931 (by decide) (fun c931 => ?_) (fun c931 => ?_)
      · refine lv_goto (tgt := 1063) hx hb dL_law_936 (by decide) ?_
        refine lv_iinc (v := nI (5 * (N + 1))) (lv' := [(4, .int (nI (5 * (N + 1)))), (6, .int c9), (5, .int k), (0, .ref b), (1, .ref x), (2, .ref o), (3, .ref ao)]) hx hb dL_law_1063 hl (k := 6) rfl (nI_add (5 * N) 5) (by first | decide | omega) rfl (fun ls hl => ?_)
        refine lv_goto (tgt := 23) hx hb dL_law_1066 (by decide) ?_
        refine W.widen (k := 100 + 8 * (N + 1)) (n := 5000 + 60 * (N + 1)) (by omega) (by omega) ?_
        exact ih _ H locs ls (LI.step hK ha e1 f hh9 R2) hM (lv_sub hl [3, 4, 5, 6, 0] rfl)
      · exact absurd c931 (by decide)
  · exact absurd rfl c914

-- case 14: lockedBy
set_option maxHeartbeats 4000000 in
set_option maxRecDepth 100000 in
theorem lc_lockedBy {l : Launch} (hl0 : l.stackTraces = false) {D : va_G} {cs : Nat → ClassId} {h0 : th_S} {p : Program} {e : Env} {s : State} {m : MethodId} {below : List Frame} {meth : Method} {c : Code} {b L : Nat} {xs : Nat → Int32} (hC : th_C D cs h0 p m c code 7 s [.ref b] RL) (hX : va_X b L xs s s.heap) (hbl : b < s.heap.size) (hbA : ¬ mw_A (th_g cs h0) s.heap.size b) {Q : State → Prop} {x aR aO aH aT o ao : Nat} {rt ta A : Nat → Nat} {N : Nat} (hlt : 5 * N + 5 ≤ L) (hL : L ≤ 2560) {h : th_S} (hI : LI x aR aO aH aT o ao rt ta A h N) {H : Heap} {locs : List Loc} {ls : Array Slot} (hM : th_H D cs h0 s h H locs) (hl : lv_has ls 7 [(0, .ref b), (1, .ref x), (2, .ref o), (3, .ref ao), (4, .int (nI (5 * N)))]) (ih : ∀ (h : th_S) (H : Heap) (locs : List Loc) (ls : Array Slot), LI x aR aO aH aT o ao rt ta A h (N + 1) → th_H D cs h0 s h H locs → lv_has ls 7 [(0, .ref b), (1, .ref x), (2, .ref o), (3, .ref ao), (4, .int (nI (5 * (N + 1))))] → W p l e room_1 s m #[Value.ref b] below meth c H locs (100 + 8 * (N + 1)) (5000 + 60 * (N + 1)) Q (F0 m 23 ls [])) : W p l e room_1 s m #[Value.ref b] below meth c H locs (100 + 8 * N) (5000 + 60 * N) Q (F0 m 939 ls []) := by
  have hx := hC.1.1
  have hb := hC.1.2.1
  obtain ⟨hK, ha, S, n, u, ad, e1, R⟩ := hI
  have hN : N + 1 < 2 ^ 31 := by omega
  have kx0 : h.1 x = some (0, 0) := R.1.1.1.kx
  refine lv_aload_n hx hb dL_law_939 rfl (lv_at hl 1 rfl) ?_
  refine lv_aload_n hx hb dL_law_940 rfl (lv_at hl 0 rfl) ?_
  refine lv_iload hx hb dL_law_941 (lv_at hl 4 rfl) ?_
  refine lv_iconst (v := 1) hx hb dL_law_943 (by decide) ?_
  refine lv_iadd hx hb dL_law_944 ?_
  rw [show nI (5 * N) + 1 = nI (5 * N + 1) from nI_add (5 * N) 1]
  refine va_sld hx hb hX hbl hbA hM.2.2.1 (vp_in_nI (show 5 * N + 1 < L by omega) (by omega)) dL_law_945 ?_
  rw [nI_clamp (show 5 * N + 1 < 2 ^ 31 by omega)]
  refine lv_aload_n hx hb dL_law_946 rfl (lv_at hl 0 rfl) ?_
  refine lv_iload hx hb dL_law_947 (lv_at hl 4 rfl) ?_
  refine lv_iconst (v := 2) hx hb dL_law_949 (by decide) ?_
  refine lv_iadd hx hb dL_law_950 ?_
  rw [show nI (5 * N) + 2 = nI (5 * N + 2) from nI_add (5 * N) 2]
  refine va_sld hx hb hX hbl hbA hM.2.2.1 (vp_in_nI (show 5 * N + 2 < L by omega) (by omega)) dL_law_951 ?_
  rw [nI_clamp (show 5 * N + 2 < 2 ^ 31 by omega)]
  refine lv_aload_n hx hb dL_law_952 rfl (lv_at hl 3 rfl) ?_
  refine mw_callSW (As := [.ref x, .int (xs (5 * N + 1)), .int (xs (5 * N + 2)), .ref ao]) (rest := []) (n := 4) hC hM (c_L_lockedBy l hl0 D cs h H.size x aR aO aH aT rt ta S N n u ad R ao ha (xs (5 * N + 1)) (xs (5 * N + 2))) (vx_cwSW 4 hC.1.2.2.2.2 (tb_SW mb_467 mb_468 mb_35 mb_469) rfl rfl rfl (by decide +kernel) ⟨Nat.le_of_ble_eq_true rfl, Nat.le_of_ble_eq_true rfl⟩) rfl rfl hl.1 (Nat.le_of_ble_eq_true rfl) dL_law_953 ⟨Nat.le_trans (show 100 + 8 * N + 1 ≤ 10000 by omega) (Nat.le_of_ble_eq_true rfl), Nat.le_trans (show 5000 + 60 * N + 6 ≤ 50000 by omega) (Nat.le_of_ble_eq_true rfl)⟩ (fun E ce q9 g9 H locs hp9 hM hce hcv hcl => ?_) (fun v9 g9 H locs hp9 hM => ?_)
  · exact (hp9.elim fun _ h9 => h9.2.elim)
  obtain ⟨hh, rfl, hp9⟩ := hp9
  obtain ⟨k, b9, h1, rfl, w9⟩ := hp9
  have w : (k = 0 ∧ p3_lockedBy aO rt h n (xs (5 * N + 1)) (xs (5 * N + 2)) (some (.int b9)) h1) ∨ ∃ E, e3_lockedBy aO h n (xs (5 * N + 1)) (xs (5 * N + 2)) E h1 ∧ cd_nse E k := w9.imp (fun z => ⟨z.1, z.2.1⟩) (fun z => z.1)
  have hh9 : hh = h1 ∨ ∃ b, hh = th_ui h1 ao 0 b := w9.elim (fun z => Or.inr ⟨_, z.2.2⟩) (fun z => Or.inl z.2)
  have f : fr7 h h1 := F_lockedBy R w
  obtain ⟨k1, k2, k3, k4, k5⟩ := LI.cls hK e1 ha f hh9
  have ka : hh.1 ao = some (9, 1) := by rw [k3]; exact (f ao _ ha (by show 7 ≤ 9; omega)).1
  have hM : th_H D cs h0 s (mo_h o A hh S) H locs := by rw [k2]; exact hM
  refine W.widen (k := 100 + 8 * N + 1) (n := 5000 + 60 * N + 6) (Nat.le_refl _) (Nat.le_refl _) ?_
  refine W.eq (g2 := F0 m 956 ls [.int k]) rfl ?_
  refine lv_istore (lv' := [(5, .int k), (0, .ref b), (1, .ref x), (2, .ref o), (3, .ref ao), (4, .int (nI (5 * N)))]) hx hb dL_law_956 hl (by decide) rfl (fun ls hl => ?_)
  refine lv_aload_n hx hb dL_law_958 rfl (lv_at hl 3 rfl) ?_
  refine lv_aload_n hx hb dL_law_959 rfl (lv_at hl 1 rfl) ?_
  refine lv_iload hx hb dL_law_960 (lv_at hl 5 rfl) ?_
  refine lv_iconst (v := 1) hx hb dL_law_962 (by decide) ?_
  refine lv_iadd hx hb dL_law_963 ?_
  rw [show nI (5 * N) + 1 = nI (5 * N + 1) from nI_add (5 * N) 1]
  refine va_sld hx hb hX hbl hbA hM.2.2.1 (vp_in_nI (show 5 * N + 1 < L by omega) (by omega)) dL_law_964 ?_
  rw [nI_clamp (show 5 * N + 1 < 2 ^ 31 by omega)]
  refine lv_aload_n hx hb dL_law_965 rfl (lv_at hl 1 rfl) ?_
  refine lv_iload hx hb dL_law_966 (lv_at hl 5 rfl) ?_
  refine lv_iconst (v := 2) hx hb dL_law_968 (by decide) ?_
  refine lv_iadd hx hb dL_law_969 ?_
  rw [show nI (5 * N) + 2 = nI (5 * N + 2) from nI_add (5 * N) 2]
  refine va_sld hx hb hX hbl hbA hM.2.2.1 (vp_in_nI (show 5 * N + 2 < L by omega) (by omega)) dL_law_970 ?_
  rw [nI_clamp (show 5 * N + 2 < 2 ^ 31 by omega)]
  refine mw_callV (As := [.int (xs (5 * N + 1)), .int (xs (5 * N + 2))]) (rest := []) (n := 2) (C := RX4) (T := TX4) (N := 21) (ci := 4) hC hM (c_X4_lockedBy l hl0 D cs hh H.size o A k1 S (xs (5 * N + 1)) (xs (5 * N + 2))) (cwV 2 hC.1.2.2.2.2 (tb_V mb_674 mb_675 mb_676 mb_40 mb_677) rfl rfl rfl (by decide +kernel) ⟨Nat.le_of_ble_eq_true rfl, Nat.le_of_ble_eq_true rfl⟩) (th_at (h := mo_h o A hh S) k1.1) rfl rfl rfl hl.1 (Nat.le_of_ble_eq_true rfl) dL_law_971 ⟨Nat.le_trans (show 100 + 8 * N + 1 + 0 ≤ 10000 by omega) (Nat.le_of_ble_eq_true rfl), Nat.le_trans (show 5000 + 60 * N + 6 + 0 ≤ 50000 by omega) (Nat.le_of_ble_eq_true rfl)⟩ (fun E ce q9 g9 H locs hp9 hM hce hcv hcl => ?_) (fun v9 g9 H locs hp9 hM => ?_)
  · exact (hp9.elim fun _ h9 => h9.2.elim)
  obtain ⟨h2, rfl, hp9⟩ := hp9
  have hp9 : p4_lockedBy S (mo_h o A hh) (xs (5 * N + 1)) (xs (5 * N + 2)) v9 h2 := hp9
  obtain ⟨c9, rfl⟩ := U_lockedBy hp9
  obtain ⟨-, T, n2, u2, ad2, rfl, g0, gv, R2⟩ := G_lockedBy R w hp9
  refine W.widen (k := 100 + 8 * N + 1) (n := 5000 + 60 * N + 6) (Nat.le_refl _) (Nat.le_refl _) ?_
  refine W.eq (g2 := F0 m 974 ls [.int c9]) rfl ?_
  refine lv_istore (lv' := [(6, .int c9), (5, .int k), (0, .ref b), (1, .ref x), (2, .ref o), (3, .ref ao), (4, .int (nI (5 * N)))]) hx hb dL_law_974 hl (by decide) rfl (fun ls hl => ?_)
  refine lv_aload_n hx hb dL_law_976 rfl (lv_at hl 4 rfl) ?_
  refine mw_callV (As := []) (rest := []) (n := 0) (C := RX4) (T := TX4) (N := 21) (ci := 4) hC hM (c_X4_thrown l hl0 D cs hh H.size o A k1 T) (cwV 0 hC.1.2.2.2.2 (tb_V mb_556 mb_557 mb_558 mb_40 mb_559) rfl rfl rfl (by decide +kernel) ⟨Nat.le_of_ble_eq_true rfl, Nat.le_of_ble_eq_true rfl⟩) (th_at (h := mo_h o A hh T) k1.1) rfl rfl rfl hl.1 (Nat.le_of_ble_eq_true rfl) dL_law_977 ⟨Nat.le_trans (show 100 + 8 * N + 1 + 0 ≤ 10000 by omega) (Nat.le_of_ble_eq_true rfl), Nat.le_trans (show 5000 + 60 * N + 6 + 0 ≤ 50000 by omega) (Nat.le_of_ble_eq_true rfl)⟩ (fun E ce q9 g9 H locs hp9 hM hce hcv hcl => ?_) (fun v9 g9 H locs hp9 hM => ?_)
  · exact (hp9.elim fun _ h9 => h9.2.elim)
  obtain ⟨h2, rfl, hp9⟩ := hp9
  obtain ⟨rfl, rfl⟩ := hp9
  rw [g0]
  refine W.widen (k := 100 + 8 * N + 1) (n := 5000 + 60 * N + 6) (Nat.le_refl _) (Nat.le_refl _) ?_
  refine W.eq (g2 := F0 m 980 ls [.int k]) rfl ?_
  refine lv_iload hx hb dL_law_980 (lv_at hl 1 rfl) ?_
  refine lv_icmp_eq (tgt := 987) hx hb dL_law_982 (by decide) (fun c982 => ?_) (fun c982 => ?_)
  · refine lv_iload hx hb dL_law_987 (lv_at hl 1 rfl) ?_
    refine lv_if_ne (tgt := 1004) hx hb dL_law_989 (by decide) (fun c989 => ?_) (fun c989 => ?_)
    · refine lv_goto (tgt := 1063) hx hb dL_law_1004 (by decide) ?_
      refine lv_iinc (v := nI (5 * (N + 1))) (lv' := [(4, .int (nI (5 * (N + 1)))), (6, .int c9), (5, .int k), (0, .ref b), (1, .ref x), (2, .ref o), (3, .ref ao)]) hx hb dL_law_1063 hl (k := 6) rfl (nI_add (5 * N) 5) (by first | decide | omega) rfl (fun ls hl => ?_)
      refine lv_goto (tgt := 23) hx hb dL_law_1066 (by decide) ?_
      refine W.widen (k := 100 + 8 * (N + 1)) (n := 5000 + 60 * (N + 1)) (by omega) (by omega) ?_
      exact ih _ H locs ls (LI.step hK ha e1 f hh9 R2) hM (lv_sub hl [3, 4, 5, 6, 0] rfl)
    · have ec : c9 = b9 := Value.int.inj (Option.some.inj (gv c989))
      have ob : (mo_h o A hh T).2.1 ao 0 = b9 := by
        rw [LI.out k1 ka T]
        rcases w9 with z | z
        · rw [z.2.2]; exact th_ui_s _ _ _ _
        · exact absurd c989 (N_nse z.1.choose_spec.2)
      refine lv_aload_n hx hb dL_law_992 rfl (lv_at hl 5 rfl) ?_
      refine lv_iconst (v := 0) hx hb dL_law_993 (by decide) ?_
      refine al_9 (i := 0) hC hM ka (by decide) (by decide) (by first | decide | omega) dL_law_994 ?_
      rw [show (mo_h o A hh T).2.1 ao 0 = b9 from ob]
      refine lv_iload hx hb dL_law_995 (lv_at hl 0 rfl) ?_
      refine lv_i2l hx hb dL_law_997 rfl ?_
      refine W.lcmp hx hb dL_law_998 ?_
      rw [show lg_cmp b9.toInt64 c9.toInt64 = 0 from by rw [ec]; exact lg_cmp_s _]
      refine lv_if_eq (tgt := 1004) hx hb dL_law_999 (by decide) (fun c999 => ?_) (fun c999 => ?_)
      · refine lv_goto (tgt := 1063) hx hb dL_law_1004 (by decide) ?_
        refine lv_iinc (v := nI (5 * (N + 1))) (lv' := [(4, .int (nI (5 * (N + 1)))), (6, .int c9), (5, .int k), (0, .ref b), (1, .ref x), (2, .ref o), (3, .ref ao)]) hx hb dL_law_1063 hl (k := 6) rfl (nI_add (5 * N) 5) (by first | decide | omega) rfl (fun ls hl => ?_)
        refine lv_goto (tgt := 23) hx hb dL_law_1066 (by decide) ?_
        refine W.widen (k := 100 + 8 * (N + 1)) (n := 5000 + 60 * (N + 1)) (by omega) (by omega) ?_
        exact ih _ H locs ls (LI.step hK ha e1 f hh9 R2) hM (lv_sub hl [3, 4, 5, 6, 0] rfl)
      · exact absurd c999 (by decide)
  · exact absurd rfl c982

-- case 15: count
set_option maxHeartbeats 4000000 in
set_option maxRecDepth 100000 in
theorem lc_count {l : Launch} (hl0 : l.stackTraces = false) {D : va_G} {cs : Nat → ClassId} {h0 : th_S} {p : Program} {e : Env} {s : State} {m : MethodId} {below : List Frame} {meth : Method} {c : Code} {b L : Nat} {xs : Nat → Int32} (hC : th_C D cs h0 p m c code 7 s [.ref b] RL) (hX : va_X b L xs s s.heap) (hbl : b < s.heap.size) (hbA : ¬ mw_A (th_g cs h0) s.heap.size b) {Q : State → Prop} {x aR aO aH aT o ao : Nat} {rt ta A : Nat → Nat} {N : Nat} (hlt : 5 * N + 5 ≤ L) (hL : L ≤ 2560) {h : th_S} (hI : LI x aR aO aH aT o ao rt ta A h N) {H : Heap} {locs : List Loc} {ls : Array Slot} (hM : th_H D cs h0 s h H locs) (hl : lv_has ls 7 [(0, .ref b), (1, .ref x), (2, .ref o), (3, .ref ao), (4, .int (nI (5 * N)))]) (ih : ∀ (h : th_S) (H : Heap) (locs : List Loc) (ls : Array Slot), LI x aR aO aH aT o ao rt ta A h (N + 1) → th_H D cs h0 s h H locs → lv_has ls 7 [(0, .ref b), (1, .ref x), (2, .ref o), (3, .ref ao), (4, .int (nI (5 * (N + 1))))] → W p l e room_1 s m #[Value.ref b] below meth c H locs (100 + 8 * (N + 1)) (5000 + 60 * (N + 1)) Q (F0 m 23 ls [])) : W p l e room_1 s m #[Value.ref b] below meth c H locs (100 + 8 * N) (5000 + 60 * N) Q (F0 m 1007 ls []) := by
  have hx := hC.1.1
  have hb := hC.1.2.1
  obtain ⟨hK, ha, S, n, u, ad, e1, R⟩ := hI
  have hN : N + 1 < 2 ^ 31 := by omega
  have kx0 : h.1 x = some (0, 0) := R.1.1.1.kx
  refine lv_aload_n hx hb dL_law_1007 rfl (lv_at hl 1 rfl) ?_
  refine lv_aload_n hx hb dL_law_1008 rfl (lv_at hl 0 rfl) ?_
  refine lv_iload hx hb dL_law_1009 (lv_at hl 4 rfl) ?_
  refine lv_iconst (v := 1) hx hb dL_law_1011 (by decide) ?_
  refine lv_iadd hx hb dL_law_1012 ?_
  rw [show nI (5 * N) + 1 = nI (5 * N + 1) from nI_add (5 * N) 1]
  refine va_sld hx hb hX hbl hbA hM.2.2.1 (vp_in_nI (show 5 * N + 1 < L by omega) (by omega)) dL_law_1013 ?_
  rw [nI_clamp (show 5 * N + 1 < 2 ^ 31 by omega)]
  refine lv_aload_n hx hb dL_law_1014 rfl (lv_at hl 3 rfl) ?_
  refine mw_callSW (As := [.ref x, .int (xs (5 * N + 1)), .ref ao]) (rest := []) (n := 3) hC hM (c_L_count l hl0 D cs h H.size x aR aO aH aT rt ta S N n u ad R ao ha (xs (5 * N + 1))) (vx_cwSW 3 hC.1.2.2.2.2 (tb_SW mb_474 mb_475 mb_35 mb_476) rfl rfl rfl (by decide +kernel) ⟨Nat.le_of_ble_eq_true rfl, Nat.le_of_ble_eq_true rfl⟩) rfl rfl hl.1 (Nat.le_of_ble_eq_true rfl) dL_law_1015 ⟨Nat.le_trans (show 100 + 8 * N + 1 ≤ 10000 by omega) (Nat.le_of_ble_eq_true rfl), Nat.le_trans (show 5000 + 60 * N + 6 ≤ 50000 by omega) (Nat.le_of_ble_eq_true rfl)⟩ (fun E ce q9 g9 H locs hp9 hM hce hcv hcl => ?_) (fun v9 g9 H locs hp9 hM => ?_)
  · exact (hp9.elim fun _ h9 => h9.2.elim)
  obtain ⟨hh, rfl, hp9⟩ := hp9
  obtain ⟨k, b9, h1, rfl, w9⟩ := hp9
  have w : (k = 0 ∧ sh_cn x aO aH n rt ta h (xs (5 * N + 1)) (some (.int b9)) h1) ∨ ∃ E, e3_count h (xs (5 * N + 1)) E h1 ∧ cd_count E k := w9.imp (fun z => ⟨z.1, z.2.1⟩) (fun z => z.1)
  have hh9 : hh = h1 ∨ ∃ b, hh = th_ui h1 ao 0 b := w9.elim (fun z => Or.inr ⟨_, z.2.2⟩) (fun z => Or.inl z.2)
  have f : fr7 h h1 := F_count R w
  obtain ⟨k1, k2, k3, k4, k5⟩ := LI.cls hK e1 ha f hh9
  have ka : hh.1 ao = some (9, 1) := by rw [k3]; exact (f ao _ ha (by show 7 ≤ 9; omega)).1
  have hM : th_H D cs h0 s (mo_h o A hh S) H locs := by rw [k2]; exact hM
  refine W.widen (k := 100 + 8 * N + 1) (n := 5000 + 60 * N + 6) (Nat.le_refl _) (Nat.le_refl _) ?_
  refine W.eq (g2 := F0 m 1018 ls [.int k]) rfl ?_
  refine lv_istore (lv' := [(5, .int k), (0, .ref b), (1, .ref x), (2, .ref o), (3, .ref ao), (4, .int (nI (5 * N)))]) hx hb dL_law_1018 hl (by decide) rfl (fun ls hl => ?_)
  refine lv_aload_n hx hb dL_law_1020 rfl (lv_at hl 3 rfl) ?_
  refine lv_aload_n hx hb dL_law_1021 rfl (lv_at hl 1 rfl) ?_
  refine lv_iload hx hb dL_law_1022 (lv_at hl 5 rfl) ?_
  refine lv_iconst (v := 1) hx hb dL_law_1024 (by decide) ?_
  refine lv_iadd hx hb dL_law_1025 ?_
  rw [show nI (5 * N) + 1 = nI (5 * N + 1) from nI_add (5 * N) 1]
  refine va_sld hx hb hX hbl hbA hM.2.2.1 (vp_in_nI (show 5 * N + 1 < L by omega) (by omega)) dL_law_1026 ?_
  rw [nI_clamp (show 5 * N + 1 < 2 ^ 31 by omega)]
  refine mw_callV (As := [.int (xs (5 * N + 1))]) (rest := []) (n := 1) (C := RX4) (T := TX4) (N := 21) (ci := 4) hC hM (c_X4_count l hl0 D cs hh H.size o A k1 S (xs (5 * N + 1)) u R.mW) (cwV 1 hC.1.2.2.2.2 (tb_V mb_678 mb_679 mb_680 mb_40 mb_681) rfl rfl rfl (by decide +kernel) ⟨Nat.le_of_ble_eq_true rfl, Nat.le_of_ble_eq_true rfl⟩) (th_at (h := mo_h o A hh S) k1.1) rfl rfl rfl hl.1 (Nat.le_of_ble_eq_true rfl) dL_law_1027 ⟨Nat.le_trans (show 100 + 8 * N + 1 + 0 ≤ 10000 by omega) (Nat.le_of_ble_eq_true rfl), Nat.le_trans (show 5000 + 60 * N + 6 + 0 ≤ 50000 by omega) (Nat.le_of_ble_eq_true rfl)⟩ (fun E ce q9 g9 H locs hp9 hM hce hcv hcl => ?_) (fun v9 g9 H locs hp9 hM => ?_)
  · exact (hp9.elim fun _ h9 => h9.2.elim)
  obtain ⟨h2, rfl, hp9⟩ := hp9
  have hp9 : p4_count S (mo_h o A hh) u (xs (5 * N + 1)) v9 h2 := hp9
  obtain ⟨c9, rfl⟩ := U_count hp9
  obtain ⟨-, T, n2, u2, ad2, rfl, g0, gv, R2⟩ := G_count R hN w hp9
  refine W.widen (k := 100 + 8 * N + 1) (n := 5000 + 60 * N + 6) (Nat.le_refl _) (Nat.le_refl _) ?_
  refine W.eq (g2 := F0 m 1030 ls [.int c9]) rfl ?_
  refine lv_istore (lv' := [(6, .int c9), (5, .int k), (0, .ref b), (1, .ref x), (2, .ref o), (3, .ref ao), (4, .int (nI (5 * N)))]) hx hb dL_law_1030 hl (by decide) rfl (fun ls hl => ?_)
  refine lv_aload_n hx hb dL_law_1032 rfl (lv_at hl 4 rfl) ?_
  refine mw_callV (As := []) (rest := []) (n := 0) (C := RX4) (T := TX4) (N := 21) (ci := 4) hC hM (c_X4_thrown l hl0 D cs hh H.size o A k1 T) (cwV 0 hC.1.2.2.2.2 (tb_V mb_556 mb_557 mb_558 mb_40 mb_559) rfl rfl rfl (by decide +kernel) ⟨Nat.le_of_ble_eq_true rfl, Nat.le_of_ble_eq_true rfl⟩) (th_at (h := mo_h o A hh T) k1.1) rfl rfl rfl hl.1 (Nat.le_of_ble_eq_true rfl) dL_law_1033 ⟨Nat.le_trans (show 100 + 8 * N + 1 + 0 ≤ 10000 by omega) (Nat.le_of_ble_eq_true rfl), Nat.le_trans (show 5000 + 60 * N + 6 + 0 ≤ 50000 by omega) (Nat.le_of_ble_eq_true rfl)⟩ (fun E ce q9 g9 H locs hp9 hM hce hcv hcl => ?_) (fun v9 g9 H locs hp9 hM => ?_)
  · exact (hp9.elim fun _ h9 => h9.2.elim)
  obtain ⟨h2, rfl, hp9⟩ := hp9
  obtain ⟨rfl, rfl⟩ := hp9
  rw [g0]
  refine W.widen (k := 100 + 8 * N + 1) (n := 5000 + 60 * N + 6) (Nat.le_refl _) (Nat.le_refl _) ?_
  refine W.eq (g2 := F0 m 1036 ls [.int k]) rfl ?_
  refine lv_iload hx hb dL_law_1036 (lv_at hl 1 rfl) ?_
  refine lv_icmp_eq (tgt := 1043) hx hb dL_law_1038 (by decide) (fun c1038 => ?_) (fun c1038 => ?_)
  · refine lv_iload hx hb dL_law_1043 (lv_at hl 1 rfl) ?_
    refine lv_if_ne (tgt := 1060) hx hb dL_law_1045 (by decide) (fun c1045 => ?_) (fun c1045 => ?_)
    · refine lv_goto (tgt := 1063) hx hb dL_law_1060 (by decide) ?_
      refine lv_iinc (v := nI (5 * (N + 1))) (lv' := [(4, .int (nI (5 * (N + 1)))), (6, .int c9), (5, .int k), (0, .ref b), (1, .ref x), (2, .ref o), (3, .ref ao)]) hx hb dL_law_1063 hl (k := 6) rfl (nI_add (5 * N) 5) (by first | decide | omega) rfl (fun ls hl => ?_)
      refine lv_goto (tgt := 23) hx hb dL_law_1066 (by decide) ?_
      refine W.widen (k := 100 + 8 * (N + 1)) (n := 5000 + 60 * (N + 1)) (by omega) (by omega) ?_
      exact ih _ H locs ls (LI.step hK ha e1 f hh9 R2) hM (lv_sub hl [3, 4, 5, 6, 0] rfl)
    · have ec : c9 = b9 := Value.int.inj (Option.some.inj (gv c1045))
      have ob : (mo_h o A hh T).2.1 ao 0 = b9 := by
        rw [LI.out k1 ka T]
        rcases w9 with z | z
        · rw [z.2.2]; exact th_ui_s _ _ _ _
        · exact absurd c1045 (N_count z.1.choose_spec.2)
      refine lv_aload_n hx hb dL_law_1048 rfl (lv_at hl 5 rfl) ?_
      refine lv_iconst (v := 0) hx hb dL_law_1049 (by decide) ?_
      refine al_9 (i := 0) hC hM ka (by decide) (by decide) (by first | decide | omega) dL_law_1050 ?_
      rw [show (mo_h o A hh T).2.1 ao 0 = b9 from ob]
      refine lv_iload hx hb dL_law_1051 (lv_at hl 0 rfl) ?_
      refine lv_i2l hx hb dL_law_1053 rfl ?_
      refine W.lcmp hx hb dL_law_1054 ?_
      rw [show lg_cmp b9.toInt64 c9.toInt64 = 0 from by rw [ec]; exact lg_cmp_s _]
      refine lv_if_eq (tgt := 1060) hx hb dL_law_1055 (by decide) (fun c1055 => ?_) (fun c1055 => ?_)
      · refine lv_goto (tgt := 1063) hx hb dL_law_1060 (by decide) ?_
        refine lv_iinc (v := nI (5 * (N + 1))) (lv' := [(4, .int (nI (5 * (N + 1)))), (6, .int c9), (5, .int k), (0, .ref b), (1, .ref x), (2, .ref o), (3, .ref ao)]) hx hb dL_law_1063 hl (k := 6) rfl (nI_add (5 * N) 5) (by first | decide | omega) rfl (fun ls hl => ?_)
        refine lv_goto (tgt := 23) hx hb dL_law_1066 (by decide) ?_
        refine W.widen (k := 100 + 8 * (N + 1)) (n := 5000 + 60 * (N + 1)) (by omega) (by omega) ?_
        exact ih _ H locs ls (LI.step hK ha e1 f hh9 R2) hM (lv_sub hl [3, 4, 5, 6, 0] rfl)
      · exact absurd c1055 (by decide)
  · exact absurd rfl c1038

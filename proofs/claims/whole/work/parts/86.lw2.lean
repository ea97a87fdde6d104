/-! a refusal isn't 0 -/
theorem N_begin {E : String} {k : Int32} (h : cd_begin E k) : ¬ k = 0 := by rcases h with ⟨-, rfl⟩ | ⟨-, rfl⟩ <;> decide
theorem N_make {E : String} {k : Int32} (h : cd_make E k) : ¬ k = 0 := by rcases h with ⟨-, rfl⟩ | ⟨-, rfl⟩ | ⟨-, rfl⟩ | ⟨-, rfl⟩ <;> decide
theorem N_setInt {E : String} {k : Int32} (h : cd_setInt E k) : ¬ k = 0 := by rcases h with ⟨-, rfl⟩ | ⟨-, rfl⟩ | ⟨-, rfl⟩ | ⟨-, rfl⟩ <;> decide
theorem N_setRef {E : String} {k : Int32} (h : cd_setRef E k) : ¬ k = 0 := by rcases h with ⟨-, rfl⟩ | ⟨-, rfl⟩ | ⟨-, rfl⟩ | ⟨-, rfl⟩ | ⟨-, rfl⟩ <;> decide
theorem N_get {E : String} {k : Int32} (h : cd_get E k) : ¬ k = 0 := by rcases h with ⟨-, rfl⟩ | ⟨-, rfl⟩ | ⟨-, rfl⟩ | ⟨-, rfl⟩ <;> decide
theorem N_getRoot {E : String} {k : Int32} (h : cd_getRoot E k) : ¬ k = 0 := by rcases h with ⟨-, rfl⟩ | ⟨-, rfl⟩ | ⟨-, rfl⟩ <;> decide
theorem N_commit {E : String} {k : Int32} (h : cd_commit E k) : ¬ k = 0 := by rcases h with ⟨-, rfl⟩ | ⟨-, rfl⟩ <;> decide
theorem N_nse {E : String} {k : Int32} (h : cd_nse E k) : ¬ k = 0 := by obtain ⟨-, rfl⟩ := h; decide
theorem N_count {E : String} {k : Int32} (h : cd_count E k) : ¬ k = 0 := by obtain ⟨-, rfl⟩ := h; decide
theorem lg_cmp_s (x : Int64) : lg_cmp x x = 0 := by simp [lg_cmp]
-- case 0: begin
set_option maxHeartbeats 4000000 in
set_option maxRecDepth 100000 in
theorem lc_begin {l : Launch} (hl0 : l.stackTraces = false) {D : va_G} {cs : Nat → ClassId} {h0 : th_S} {p : Program} {e : Env} {s : State} {m : MethodId} {below : List Frame} {meth : Method} {c : Code} {b L : Nat} {xs : Nat → Int32} (hC : th_C D cs h0 p m c code 7 s [.ref b] RL) (hX : va_X b L xs s s.heap) (hbl : b < s.heap.size) (hbA : ¬ mw_A (th_g cs h0) s.heap.size b) {Q : State → Prop} {x aR aO aH aT o ao : Nat} {rt ta A : Nat → Nat} {N : Nat} (hlt : 5 * N + 5 ≤ L) (hL : L ≤ 2560) {h : th_S} (hI : LI x aR aO aH aT o ao rt ta A h N) {H : Heap} {locs : List Loc} {ls : Array Slot} (hM : th_H D cs h0 s h H locs) (hl : lv_has ls 7 [(0, .ref b), (1, .ref x), (2, .ref o), (3, .ref ao), (4, .int (nI (5 * N)))]) (ih : ∀ (h : th_S) (H : Heap) (locs : List Loc) (ls : Array Slot), LI x aR aO aH aT o ao rt ta A h (N + 1) → th_H D cs h0 s h H locs → lv_has ls 7 [(0, .ref b), (1, .ref x), (2, .ref o), (3, .ref ao), (4, .int (nI (5 * (N + 1))))] → W p l e room_1 s m #[Value.ref b] below meth c H locs (100 + 8 * (N + 1)) (5000 + 60 * (N + 1)) Q (F0 m 23 ls [])) : W p l e room_1 s m #[Value.ref b] below meth c H locs (100 + 8 * N) (5000 + 60 * N) Q (F0 m 116 ls []) := by
  have hx := hC.1.1
  have hb := hC.1.2.1
  obtain ⟨hK, ha, S, n, u, ad, e1, R⟩ := hI
  have hN : N + 1 < 2 ^ 31 := by omega
  have kx0 : h.1 x = some (0, 0) := R.1.1.1.kx
  refine lv_aload_n hx hb dL_law_116 rfl (lv_at hl 1 rfl) ?_
  refine lv_aload_n hx hb dL_law_117 rfl (lv_at hl 3 rfl) ?_
  refine mw_callSW (As := [.ref x, .ref ao]) (rest := []) (n := 2) hC hM (c_L_begin l hl0 D cs h H.size x aR aO aH aT rt ta S N n u ad R ao ha) (vx_cwSW 2 hC.1.2.2.2.2 (tb_SW mb_210 mb_211 mb_35 mb_212) rfl rfl rfl (by decide +kernel) ⟨Nat.le_of_ble_eq_true rfl, Nat.le_of_ble_eq_true rfl⟩) rfl rfl hl.1 (Nat.le_of_ble_eq_true rfl) dL_law_118 ⟨Nat.le_trans (show 100 + 8 * N + 2 ≤ 10000 by omega) (Nat.le_of_ble_eq_true rfl), Nat.le_trans (show 5000 + 60 * N + 12 ≤ 50000 by omega) (Nat.le_of_ble_eq_true rfl)⟩ (fun E ce q9 g9 H locs hp9 hM hce hcv hcl => ?_) (fun v9 g9 H locs hp9 hM => ?_)
  · exact (hp9.elim fun _ h9 => h9.2.elim)
  obtain ⟨hh, rfl, hp9⟩ := hp9
  obtain ⟨k, b9, h1, rfl, w9⟩ := hp9
  have w : (k = 0 ∧ p3_begin x ta h (some (.int b9)) h1) ∨ ∃ E, e3_begin x ta h E h1 ∧ cd_begin E k := w9.imp (fun z => ⟨z.1, z.2.1⟩) (fun z => z.1)
  have hh9 : hh = h1 ∨ ∃ b, hh = th_ui h1 ao 0 b := w9.elim (fun z => Or.inr ⟨_, z.2.2⟩) (fun z => Or.inl z.2)
  have f : fr7 h h1 := F_begin R w
  obtain ⟨k1, k2, k3, k4, k5⟩ := LI.cls hK e1 ha f hh9
  have ka : hh.1 ao = some (9, 1) := by rw [k3]; exact (f ao _ ha (by show 7 ≤ 9; omega)).1
  have hM : th_H D cs h0 s (mo_h o A hh S) H locs := by rw [k2]; exact hM
  refine W.widen (k := 100 + 8 * N + 2) (n := 5000 + 60 * N + 12) (Nat.le_refl _) (Nat.le_refl _) ?_
  refine W.eq (g2 := F0 m 121 ls [.int k]) rfl ?_
  refine lv_istore (lv' := [(5, .int k), (0, .ref b), (1, .ref x), (2, .ref o), (3, .ref ao), (4, .int (nI (5 * N)))]) hx hb dL_law_121 hl (by decide) rfl (fun ls hl => ?_)
  refine lv_aload_n hx hb dL_law_123 rfl (lv_at hl 3 rfl) ?_
  refine mw_callV (As := []) (rest := []) (n := 0) (C := RX4) (T := TX4) (N := 21) (ci := 4) hC hM (c_X4_begin l hl0 D cs hh H.size o A k1 S) (cwV 0 hC.1.2.2.2.2 (tb_V mb_560 mb_561 mb_562 mb_40 mb_563) rfl rfl rfl (by decide +kernel) ⟨Nat.le_of_ble_eq_true rfl, Nat.le_of_ble_eq_true rfl⟩) (th_at (h := mo_h o A hh S) k1.1) rfl rfl rfl hl.1 (Nat.le_of_ble_eq_true rfl) dL_law_124 ⟨Nat.le_trans (show 100 + 8 * N + 2 + 0 ≤ 10000 by omega) (Nat.le_of_ble_eq_true rfl), Nat.le_trans (show 5000 + 60 * N + 12 + 0 ≤ 50000 by omega) (Nat.le_of_ble_eq_true rfl)⟩ (fun E ce q9 g9 H locs hp9 hM hce hcv hcl => ?_) (fun v9 g9 H locs hp9 hM => ?_)
  · exact (hp9.elim fun _ h9 => h9.2.elim)
  obtain ⟨h2, rfl, hp9⟩ := hp9
  have hp9 : p4_begin S (mo_h o A hh) v9 h2 := hp9
  obtain ⟨c9, rfl⟩ := U_begin hp9
  obtain ⟨-, T, n2, u2, ad2, rfl, g0, gv, R2⟩ := G_begin R hN w hp9
  refine W.widen (k := 100 + 8 * N + 2) (n := 5000 + 60 * N + 12) (Nat.le_refl _) (Nat.le_refl _) ?_
  refine W.eq (g2 := F0 m 127 ls [.int c9]) rfl ?_
  refine lv_istore (lv' := [(6, .int c9), (5, .int k), (0, .ref b), (1, .ref x), (2, .ref o), (3, .ref ao), (4, .int (nI (5 * N)))]) hx hb dL_law_127 hl (by decide) rfl (fun ls hl => ?_)
  refine lv_aload_n hx hb dL_law_129 rfl (lv_at hl 4 rfl) ?_
  refine mw_callV (As := []) (rest := []) (n := 0) (C := RX4) (T := TX4) (N := 21) (ci := 4) hC hM (c_X4_thrown l hl0 D cs hh H.size o A k1 T) (cwV 0 hC.1.2.2.2.2 (tb_V mb_556 mb_557 mb_558 mb_40 mb_559) rfl rfl rfl (by decide +kernel) ⟨Nat.le_of_ble_eq_true rfl, Nat.le_of_ble_eq_true rfl⟩) (th_at (h := mo_h o A hh T) k1.1) rfl rfl rfl hl.1 (Nat.le_of_ble_eq_true rfl) dL_law_130 ⟨Nat.le_trans (show 100 + 8 * N + 2 + 0 ≤ 10000 by omega) (Nat.le_of_ble_eq_true rfl), Nat.le_trans (show 5000 + 60 * N + 12 + 0 ≤ 50000 by omega) (Nat.le_of_ble_eq_true rfl)⟩ (fun E ce q9 g9 H locs hp9 hM hce hcv hcl => ?_) (fun v9 g9 H locs hp9 hM => ?_)
  · exact (hp9.elim fun _ h9 => h9.2.elim)
  obtain ⟨h2, rfl, hp9⟩ := hp9
  obtain ⟨rfl, rfl⟩ := hp9
  rw [g0]
  refine W.widen (k := 100 + 8 * N + 2) (n := 5000 + 60 * N + 12) (Nat.le_refl _) (Nat.le_refl _) ?_
  refine W.eq (g2 := F0 m 133 ls [.int k]) rfl ?_
  refine lv_iload hx hb dL_law_133 (lv_at hl 1 rfl) ?_
  refine lv_icmp_eq (tgt := 140) hx hb dL_law_135 (by decide) (fun c135 => ?_) (fun c135 => ?_)
  · refine lv_iload hx hb dL_law_140 (lv_at hl 1 rfl) ?_
    refine lv_if_ne (tgt := 157) hx hb dL_law_142 (by decide) (fun c142 => ?_) (fun c142 => ?_)
    · refine lv_goto (tgt := 1063) hx hb dL_law_157 (by decide) ?_
      refine lv_iinc (v := nI (5 * (N + 1))) (lv' := [(4, .int (nI (5 * (N + 1)))), (6, .int c9), (5, .int k), (0, .ref b), (1, .ref x), (2, .ref o), (3, .ref ao)]) hx hb dL_law_1063 hl (k := 6) rfl (nI_add (5 * N) 5) (by first | decide | omega) rfl (fun ls hl => ?_)
      refine lv_goto (tgt := 23) hx hb dL_law_1066 (by decide) ?_
      refine W.widen (k := 100 + 8 * (N + 1)) (n := 5000 + 60 * (N + 1)) (by omega) (by omega) ?_
      exact ih _ H locs ls (LI.step hK ha e1 f hh9 R2) hM (lv_sub hl [3, 4, 5, 6, 0] rfl)
    · have ec : c9 = b9 := Value.int.inj (Option.some.inj (gv c142))
      have ob : (mo_h o A hh T).2.1 ao 0 = b9 := by
        rw [LI.out k1 ka T]
        rcases w9 with z | z
        · rw [z.2.2]; exact th_ui_s _ _ _ _
        · exact absurd c142 (N_begin z.1.choose_spec.2)
      refine lv_aload_n hx hb dL_law_145 rfl (lv_at hl 5 rfl) ?_
      refine lv_iconst (v := 0) hx hb dL_law_146 (by decide) ?_
      refine al_9 (i := 0) hC hM ka (by decide) (by decide) (by first | decide | omega) dL_law_147 ?_
      rw [show (mo_h o A hh T).2.1 ao 0 = b9 from ob]
      refine lv_iload hx hb dL_law_148 (lv_at hl 0 rfl) ?_
      refine lv_i2l hx hb dL_law_150 rfl ?_
      refine W.lcmp hx hb dL_law_151 ?_
      rw [show lg_cmp b9.toInt64 c9.toInt64 = 0 from by rw [ec]; exact lg_cmp_s _]
      refine lv_if_eq (tgt := 157) hx hb dL_law_152 (by decide) (fun c152 => ?_) (fun c152 => ?_)
      · refine lv_goto (tgt := 1063) hx hb dL_law_157 (by decide) ?_
        refine lv_iinc (v := nI (5 * (N + 1))) (lv' := [(4, .int (nI (5 * (N + 1)))), (6, .int c9), (5, .int k), (0, .ref b), (1, .ref x), (2, .ref o), (3, .ref ao)]) hx hb dL_law_1063 hl (k := 6) rfl (nI_add (5 * N) 5) (by first | decide | omega) rfl (fun ls hl => ?_)
        refine lv_goto (tgt := 23) hx hb dL_law_1066 (by decide) ?_
        refine W.widen (k := 100 + 8 * (N + 1)) (n := 5000 + 60 * (N + 1)) (by omega) (by omega) ?_
        exact ih _ H locs ls (LI.step hK ha e1 f hh9 R2) hM (lv_sub hl [3, 4, 5, 6, 0] rfl)
      · exact absurd c152 (by decide)
  · exact absurd rfl c135

-- case 1: make
set_option maxHeartbeats 4000000 in
set_option maxRecDepth 100000 in
theorem lc_make {l : Launch} (hl0 : l.stackTraces = false) {D : va_G} {cs : Nat → ClassId} {h0 : th_S} {p : Program} {e : Env} {s : State} {m : MethodId} {below : List Frame} {meth : Method} {c : Code} {b L : Nat} {xs : Nat → Int32} (hC : th_C D cs h0 p m c code 7 s [.ref b] RL) (hX : va_X b L xs s s.heap) (hbl : b < s.heap.size) (hbA : ¬ mw_A (th_g cs h0) s.heap.size b) {Q : State → Prop} {x aR aO aH aT o ao : Nat} {rt ta A : Nat → Nat} {N : Nat} (hlt : 5 * N + 5 ≤ L) (hL : L ≤ 2560) {h : th_S} (hI : LI x aR aO aH aT o ao rt ta A h N) {H : Heap} {locs : List Loc} {ls : Array Slot} (hM : th_H D cs h0 s h H locs) (hl : lv_has ls 7 [(0, .ref b), (1, .ref x), (2, .ref o), (3, .ref ao), (4, .int (nI (5 * N)))]) (ih : ∀ (h : th_S) (H : Heap) (locs : List Loc) (ls : Array Slot), LI x aR aO aH aT o ao rt ta A h (N + 1) → th_H D cs h0 s h H locs → lv_has ls 7 [(0, .ref b), (1, .ref x), (2, .ref o), (3, .ref ao), (4, .int (nI (5 * (N + 1))))] → W p l e room_1 s m #[Value.ref b] below meth c H locs (100 + 8 * (N + 1)) (5000 + 60 * (N + 1)) Q (F0 m 23 ls [])) : W p l e room_1 s m #[Value.ref b] below meth c H locs (100 + 8 * N) (5000 + 60 * N) Q (F0 m 160 ls []) := by
  have hx := hC.1.1
  have hb := hC.1.2.1
  obtain ⟨hK, ha, S, n, u, ad, e1, R⟩ := hI
  have hN : N + 1 < 2 ^ 31 := by omega
  have kx0 : h.1 x = some (0, 0) := R.1.1.1.kx
  refine lv_aload_n hx hb dL_law_160 rfl (lv_at hl 1 rfl) ?_
  refine lv_aload_n hx hb dL_law_161 rfl (lv_at hl 0 rfl) ?_
  refine lv_iload hx hb dL_law_162 (lv_at hl 4 rfl) ?_
  refine lv_iconst (v := 1) hx hb dL_law_164 (by decide) ?_
  refine lv_iadd hx hb dL_law_165 ?_
  rw [show nI (5 * N) + 1 = nI (5 * N + 1) from nI_add (5 * N) 1]
  refine va_sld hx hb hX hbl hbA hM.2.2.1 (vp_in_nI (show 5 * N + 1 < L by omega) (by omega)) dL_law_166 ?_
  rw [nI_clamp (show 5 * N + 1 < 2 ^ 31 by omega)]
  refine lv_aload_n hx hb dL_law_167 rfl (lv_at hl 0 rfl) ?_
  refine lv_iload hx hb dL_law_168 (lv_at hl 4 rfl) ?_
  refine lv_iconst (v := 2) hx hb dL_law_170 (by decide) ?_
  refine lv_iadd hx hb dL_law_171 ?_
  rw [show nI (5 * N) + 2 = nI (5 * N + 2) from nI_add (5 * N) 2]
  refine va_sld hx hb hX hbl hbA hM.2.2.1 (vp_in_nI (show 5 * N + 2 < L by omega) (by omega)) dL_law_172 ?_
  rw [nI_clamp (show 5 * N + 2 < 2 ^ 31 by omega)]
  refine lv_aload_n hx hb dL_law_173 rfl (lv_at hl 3 rfl) ?_
  refine mw_callSW (As := [.ref x, .int (xs (5 * N + 1)), .int (xs (5 * N + 2)), .ref ao]) (rest := []) (n := 4) hC hM (c_L_make l hl0 D cs h H.size x aR aO aH aT rt ta S N n u ad R ao ha (xs (5 * N + 1)) (xs (5 * N + 2))) (vx_cwSW 4 hC.1.2.2.2.2 (tb_SW mb_299 mb_300 mb_35 mb_301) rfl rfl rfl (by decide +kernel) ⟨Nat.le_of_ble_eq_true rfl, Nat.le_of_ble_eq_true rfl⟩) rfl rfl hl.1 (Nat.le_of_ble_eq_true rfl) dL_law_174 ⟨Nat.le_trans (show 100 + 8 * N + 8 ≤ 10000 by omega) (Nat.le_of_ble_eq_true rfl), Nat.le_trans (show 5000 + 60 * N + 54 ≤ 50000 by omega) (Nat.le_of_ble_eq_true rfl)⟩ (fun E ce q9 g9 H locs hp9 hM hce hcv hcl => ?_) (fun v9 g9 H locs hp9 hM => ?_)
  · exact (hp9.elim fun _ h9 => h9.2.elim)
  obtain ⟨hh, rfl, hp9⟩ := hp9
  obtain ⟨k, b9, h1, rfl, w9⟩ := hp9
  have w : (k = 0 ∧ p3_make x aO ta h n (xs (5 * N + 1)) (xs (5 * N + 2)) (some (.int b9)) h1) ∨ ∃ E, e3_make x ta h n (xs (5 * N + 1)) (xs (5 * N + 2)) E h1 ∧ cd_make E k := w9.imp (fun z => ⟨z.1, z.2.1⟩) (fun z => z.1)
  have hh9 : hh = h1 ∨ ∃ b, hh = th_ui h1 ao 0 b := w9.elim (fun z => Or.inr ⟨_, z.2.2⟩) (fun z => Or.inl z.2)
  have f : fr7 h h1 := F_make R w
  obtain ⟨k1, k2, k3, k4, k5⟩ := LI.cls hK e1 ha f hh9
  have ka : hh.1 ao = some (9, 1) := by rw [k3]; exact (f ao _ ha (by show 7 ≤ 9; omega)).1
  have hM : th_H D cs h0 s (mo_h o A hh S) H locs := by rw [k2]; exact hM
  refine W.widen (k := 100 + 8 * N + 8) (n := 5000 + 60 * N + 54) (Nat.le_refl _) (Nat.le_refl _) ?_
  refine W.eq (g2 := F0 m 177 ls [.int k]) rfl ?_
  refine lv_istore (lv' := [(5, .int k), (0, .ref b), (1, .ref x), (2, .ref o), (3, .ref ao), (4, .int (nI (5 * N)))]) hx hb dL_law_177 hl (by decide) rfl (fun ls hl => ?_)
  refine lv_aload_n hx hb dL_law_179 rfl (lv_at hl 3 rfl) ?_
  refine lv_aload_n hx hb dL_law_180 rfl (lv_at hl 1 rfl) ?_
  refine lv_iload hx hb dL_law_181 (lv_at hl 5 rfl) ?_
  refine lv_iconst (v := 1) hx hb dL_law_183 (by decide) ?_
  refine lv_iadd hx hb dL_law_184 ?_
  rw [show nI (5 * N) + 1 = nI (5 * N + 1) from nI_add (5 * N) 1]
  refine va_sld hx hb hX hbl hbA hM.2.2.1 (vp_in_nI (show 5 * N + 1 < L by omega) (by omega)) dL_law_185 ?_
  rw [nI_clamp (show 5 * N + 1 < 2 ^ 31 by omega)]
  refine lv_aload_n hx hb dL_law_186 rfl (lv_at hl 1 rfl) ?_
  refine lv_iload hx hb dL_law_187 (lv_at hl 5 rfl) ?_
  refine lv_iconst (v := 2) hx hb dL_law_189 (by decide) ?_
  refine lv_iadd hx hb dL_law_190 ?_
  rw [show nI (5 * N) + 2 = nI (5 * N + 2) from nI_add (5 * N) 2]
  refine va_sld hx hb hX hbl hbA hM.2.2.1 (vp_in_nI (show 5 * N + 2 < L by omega) (by omega)) dL_law_191 ?_
  rw [nI_clamp (show 5 * N + 2 < 2 ^ 31 by omega)]
  refine mw_callV (As := [.int (xs (5 * N + 1)), .int (xs (5 * N + 2))]) (rest := []) (n := 2) (C := RX4) (T := TX4) (N := 21) (ci := 4) hC hM (c_X4_make l hl0 D cs hh H.size o A k1 S (xs (5 * N + 1)) (xs (5 * N + 2)) (fun z1 z2 z3 => (R.fre z1 z2 z3).2)) (cwV 2 hC.1.2.2.2.2 (tb_V mb_573 mb_574 mb_575 mb_40 mb_576) rfl rfl rfl (by decide +kernel) ⟨Nat.le_of_ble_eq_true rfl, Nat.le_of_ble_eq_true rfl⟩) (th_at (h := mo_h o A hh S) k1.1) rfl rfl rfl hl.1 (Nat.le_of_ble_eq_true rfl) dL_law_192 ⟨Nat.le_trans (show 100 + 8 * N + 8 + 0 ≤ 10000 by omega) (Nat.le_of_ble_eq_true rfl), Nat.le_trans (show 5000 + 60 * N + 54 + 0 ≤ 50000 by omega) (Nat.le_of_ble_eq_true rfl)⟩ (fun E ce q9 g9 H locs hp9 hM hce hcv hcl => ?_) (fun v9 g9 H locs hp9 hM => ?_)
  · exact (hp9.elim fun _ h9 => h9.2.elim)
  obtain ⟨h2, rfl, hp9⟩ := hp9
  have hp9 : p4_make S (mo_h o A hh) (xs (5 * N + 1)) (xs (5 * N + 2)) v9 h2 := hp9
  obtain ⟨c9, rfl⟩ := U_make hp9
  obtain ⟨-, T, n2, u2, ad2, rfl, g0, gv, R2⟩ := G_make R hN w hp9
  refine W.widen (k := 100 + 8 * N + 8) (n := 5000 + 60 * N + 54) (Nat.le_refl _) (Nat.le_refl _) ?_
  refine W.eq (g2 := F0 m 195 ls [.int c9]) rfl ?_
  refine lv_istore (lv' := [(6, .int c9), (5, .int k), (0, .ref b), (1, .ref x), (2, .ref o), (3, .ref ao), (4, .int (nI (5 * N)))]) hx hb dL_law_195 hl (by decide) rfl (fun ls hl => ?_)
  refine lv_aload_n hx hb dL_law_197 rfl (lv_at hl 4 rfl) ?_
  refine mw_callV (As := []) (rest := []) (n := 0) (C := RX4) (T := TX4) (N := 21) (ci := 4) hC hM (c_X4_thrown l hl0 D cs hh H.size o A k1 T) (cwV 0 hC.1.2.2.2.2 (tb_V mb_556 mb_557 mb_558 mb_40 mb_559) rfl rfl rfl (by decide +kernel) ⟨Nat.le_of_ble_eq_true rfl, Nat.le_of_ble_eq_true rfl⟩) (th_at (h := mo_h o A hh T) k1.1) rfl rfl rfl hl.1 (Nat.le_of_ble_eq_true rfl) dL_law_198 ⟨Nat.le_trans (show 100 + 8 * N + 8 + 0 ≤ 10000 by omega) (Nat.le_of_ble_eq_true rfl), Nat.le_trans (show 5000 + 60 * N + 54 + 0 ≤ 50000 by omega) (Nat.le_of_ble_eq_true rfl)⟩ (fun E ce q9 g9 H locs hp9 hM hce hcv hcl => ?_) (fun v9 g9 H locs hp9 hM => ?_)
  · exact (hp9.elim fun _ h9 => h9.2.elim)
  obtain ⟨h2, rfl, hp9⟩ := hp9
  obtain ⟨rfl, rfl⟩ := hp9
  rw [g0]
  refine W.widen (k := 100 + 8 * N + 8) (n := 5000 + 60 * N + 54) (Nat.le_refl _) (Nat.le_refl _) ?_
  refine W.eq (g2 := F0 m 201 ls [.int k]) rfl ?_
  refine lv_iload hx hb dL_law_201 (lv_at hl 1 rfl) ?_
  refine lv_icmp_eq (tgt := 208) hx hb dL_law_203 (by decide) (fun c203 => ?_) (fun c203 => ?_)
  · refine lv_iload hx hb dL_law_208 (lv_at hl 1 rfl) ?_
    refine lv_if_ne (tgt := 225) hx hb dL_law_210 (by decide) (fun c210 => ?_) (fun c210 => ?_)
    · refine lv_goto (tgt := 1063) hx hb dL_law_225 (by decide) ?_
      refine lv_iinc (v := nI (5 * (N + 1))) (lv' := [(4, .int (nI (5 * (N + 1)))), (6, .int c9), (5, .int k), (0, .ref b), (1, .ref x), (2, .ref o), (3, .ref ao)]) hx hb dL_law_1063 hl (k := 6) rfl (nI_add (5 * N) 5) (by first | decide | omega) rfl (fun ls hl => ?_)
      refine lv_goto (tgt := 23) hx hb dL_law_1066 (by decide) ?_
      refine W.widen (k := 100 + 8 * (N + 1)) (n := 5000 + 60 * (N + 1)) (by omega) (by omega) ?_
      exact ih _ H locs ls (LI.step hK ha e1 f hh9 R2) hM (lv_sub hl [3, 4, 5, 6, 0] rfl)
    · have ec : c9 = b9 := Value.int.inj (Option.some.inj (gv c210))
      have ob : (mo_h o A hh T).2.1 ao 0 = b9 := by
        rw [LI.out k1 ka T]
        rcases w9 with z | z
        · rw [z.2.2]; exact th_ui_s _ _ _ _
        · exact absurd c210 (N_make z.1.choose_spec.2)
      refine lv_aload_n hx hb dL_law_213 rfl (lv_at hl 5 rfl) ?_
      refine lv_iconst (v := 0) hx hb dL_law_214 (by decide) ?_
      refine al_9 (i := 0) hC hM ka (by decide) (by decide) (by first | decide | omega) dL_law_215 ?_
      rw [show (mo_h o A hh T).2.1 ao 0 = b9 from ob]
      refine lv_iload hx hb dL_law_216 (lv_at hl 0 rfl) ?_
      refine lv_i2l hx hb dL_law_218 rfl ?_
      refine W.lcmp hx hb dL_law_219 ?_
      rw [show lg_cmp b9.toInt64 c9.toInt64 = 0 from by rw [ec]; exact lg_cmp_s _]
      refine lv_if_eq (tgt := 225) hx hb dL_law_220 (by decide) (fun c220 => ?_) (fun c220 => ?_)
      · refine lv_goto (tgt := 1063) hx hb dL_law_225 (by decide) ?_
        refine lv_iinc (v := nI (5 * (N + 1))) (lv' := [(4, .int (nI (5 * (N + 1)))), (6, .int c9), (5, .int k), (0, .ref b), (1, .ref x), (2, .ref o), (3, .ref ao)]) hx hb dL_law_1063 hl (k := 6) rfl (nI_add (5 * N) 5) (by first | decide | omega) rfl (fun ls hl => ?_)
        refine lv_goto (tgt := 23) hx hb dL_law_1066 (by decide) ?_
        refine W.widen (k := 100 + 8 * (N + 1)) (n := 5000 + 60 * (N + 1)) (by omega) (by omega) ?_
        exact ih _ H locs ls (LI.step hK ha e1 f hh9 R2) hM (lv_sub hl [3, 4, 5, 6, 0] rfl)
      · exact absurd c220 (by decide)
  · exact absurd rfl c203

-- case 2: setInt
set_option maxHeartbeats 4000000 in
set_option maxRecDepth 100000 in
theorem lc_setInt {l : Launch} (hl0 : l.stackTraces = false) {D : va_G} {cs : Nat → ClassId} {h0 : th_S} {p : Program} {e : Env} {s : State} {m : MethodId} {below : List Frame} {meth : Method} {c : Code} {b L : Nat} {xs : Nat → Int32} (hC : th_C D cs h0 p m c code 7 s [.ref b] RL) (hX : va_X b L xs s s.heap) (hbl : b < s.heap.size) (hbA : ¬ mw_A (th_g cs h0) s.heap.size b) {Q : State → Prop} {x aR aO aH aT o ao : Nat} {rt ta A : Nat → Nat} {N : Nat} (hlt : 5 * N + 5 ≤ L) (hL : L ≤ 2560) {h : th_S} (hI : LI x aR aO aH aT o ao rt ta A h N) {H : Heap} {locs : List Loc} {ls : Array Slot} (hM : th_H D cs h0 s h H locs) (hl : lv_has ls 7 [(0, .ref b), (1, .ref x), (2, .ref o), (3, .ref ao), (4, .int (nI (5 * N)))]) (ih : ∀ (h : th_S) (H : Heap) (locs : List Loc) (ls : Array Slot), LI x aR aO aH aT o ao rt ta A h (N + 1) → th_H D cs h0 s h H locs → lv_has ls 7 [(0, .ref b), (1, .ref x), (2, .ref o), (3, .ref ao), (4, .int (nI (5 * (N + 1))))] → W p l e room_1 s m #[Value.ref b] below meth c H locs (100 + 8 * (N + 1)) (5000 + 60 * (N + 1)) Q (F0 m 23 ls [])) : W p l e room_1 s m #[Value.ref b] below meth c H locs (100 + 8 * N) (5000 + 60 * N) Q (F0 m 228 ls []) := by
  have hx := hC.1.1
  have hb := hC.1.2.1
  obtain ⟨hK, ha, S, n, u, ad, e1, R⟩ := hI
  have hN : N + 1 < 2 ^ 31 := by omega
  have kx0 : h.1 x = some (0, 0) := R.1.1.1.kx
  refine lv_aload_n hx hb dL_law_228 rfl (lv_at hl 1 rfl) ?_
  refine lv_aload_n hx hb dL_law_229 rfl (lv_at hl 0 rfl) ?_
  refine lv_iload hx hb dL_law_230 (lv_at hl 4 rfl) ?_
  refine lv_iconst (v := 1) hx hb dL_law_232 (by decide) ?_
  refine lv_iadd hx hb dL_law_233 ?_
  rw [show nI (5 * N) + 1 = nI (5 * N + 1) from nI_add (5 * N) 1]
  refine va_sld hx hb hX hbl hbA hM.2.2.1 (vp_in_nI (show 5 * N + 1 < L by omega) (by omega)) dL_law_234 ?_
  rw [nI_clamp (show 5 * N + 1 < 2 ^ 31 by omega)]
  refine lv_aload_n hx hb dL_law_235 rfl (lv_at hl 0 rfl) ?_
  refine lv_iload hx hb dL_law_236 (lv_at hl 4 rfl) ?_
  refine lv_iconst (v := 2) hx hb dL_law_238 (by decide) ?_
  refine lv_iadd hx hb dL_law_239 ?_
  rw [show nI (5 * N) + 2 = nI (5 * N + 2) from nI_add (5 * N) 2]
  refine va_sld hx hb hX hbl hbA hM.2.2.1 (vp_in_nI (show 5 * N + 2 < L by omega) (by omega)) dL_law_240 ?_
  rw [nI_clamp (show 5 * N + 2 < 2 ^ 31 by omega)]
  refine lv_aload_n hx hb dL_law_241 rfl (lv_at hl 0 rfl) ?_
  refine lv_iload hx hb dL_law_242 (lv_at hl 4 rfl) ?_
  refine lv_iconst (v := 3) hx hb dL_law_244 (by decide) ?_
  refine lv_iadd hx hb dL_law_245 ?_
  rw [show nI (5 * N) + 3 = nI (5 * N + 3) from nI_add (5 * N) 3]
  refine va_sld hx hb hX hbl hbA hM.2.2.1 (vp_in_nI (show 5 * N + 3 < L by omega) (by omega)) dL_law_246 ?_
  rw [nI_clamp (show 5 * N + 3 < 2 ^ 31 by omega)]
  refine lv_aload_n hx hb dL_law_247 rfl (lv_at hl 0 rfl) ?_
  refine lv_iload hx hb dL_law_248 (lv_at hl 4 rfl) ?_
  refine lv_iconst (v := 4) hx hb dL_law_250 (by decide) ?_
  refine lv_iadd hx hb dL_law_251 ?_
  rw [show nI (5 * N) + 4 = nI (5 * N + 4) from nI_add (5 * N) 4]
  refine va_sld hx hb hX hbl hbA hM.2.2.1 (vp_in_nI (show 5 * N + 4 < L by omega) (by omega)) dL_law_252 ?_
  rw [nI_clamp (show 5 * N + 4 < 2 ^ 31 by omega)]
  refine lv_aload_n hx hb dL_law_253 rfl (lv_at hl 3 rfl) ?_
  refine mw_callSW (As := [.ref x, .int (xs (5 * N + 1)), .int (xs (5 * N + 2)), .int (xs (5 * N + 3)), .int (xs (5 * N + 4)), .ref ao]) (rest := []) (n := 6) hC hM (c_L_setInt l hl0 D cs h H.size x aR aO aH aT rt ta S N n u ad R ao ha (xs (5 * N + 1)) (xs (5 * N + 2)) (xs (5 * N + 3)) (xs (5 * N + 4))) (vx_cwSW 6 hC.1.2.2.2.2 (tb_SW mb_339 mb_340 mb_35 mb_341) rfl rfl rfl (by decide +kernel) ⟨Nat.le_of_ble_eq_true rfl, Nat.le_of_ble_eq_true rfl⟩) rfl rfl hl.1 (Nat.le_of_ble_eq_true rfl) dL_law_254 ⟨Nat.le_trans (show 100 + 8 * N + 5 ≤ 10000 by omega) (Nat.le_of_ble_eq_true rfl), Nat.le_trans (show 5000 + 60 * N + 30 ≤ 50000 by omega) (Nat.le_of_ble_eq_true rfl)⟩ (fun E ce q9 g9 H locs hp9 hM hce hcv hcl => ?_) (fun v9 g9 H locs hp9 hM => ?_)
  · exact (hp9.elim fun _ h9 => h9.2.elim)
  obtain ⟨hh, rfl, hp9⟩ := hp9
  obtain ⟨k, b9, h1, rfl, w9⟩ := hp9
  have w : (k = 0 ∧ p3_setInt x aO ta h n (xs (5 * N + 1)) (xs (5 * N + 2)) (xs (5 * N + 3)) (xs (5 * N + 4)) (some (.int b9)) h1) ∨ ∃ E, e3_setInt x aO ta h n (xs (5 * N + 1)) (xs (5 * N + 2)) (xs (5 * N + 3)) E h1 ∧ cd_setInt E k := w9.imp (fun z => ⟨z.1, z.2.1⟩) (fun z => z.1)
  have hh9 : hh = h1 ∨ ∃ b, hh = th_ui h1 ao 0 b := w9.elim (fun z => Or.inr ⟨_, z.2.2⟩) (fun z => Or.inl z.2)
  have f : fr7 h h1 := F_setInt R w
  obtain ⟨k1, k2, k3, k4, k5⟩ := LI.cls hK e1 ha f hh9
  have ka : hh.1 ao = some (9, 1) := by rw [k3]; exact (f ao _ ha (by show 7 ≤ 9; omega)).1
  have hM : th_H D cs h0 s (mo_h o A hh S) H locs := by rw [k2]; exact hM
  refine W.widen (k := 100 + 8 * N + 5) (n := 5000 + 60 * N + 30) (Nat.le_refl _) (Nat.le_refl _) ?_
  refine W.eq (g2 := F0 m 257 ls [.int k]) rfl ?_
  refine lv_istore (lv' := [(5, .int k), (0, .ref b), (1, .ref x), (2, .ref o), (3, .ref ao), (4, .int (nI (5 * N)))]) hx hb dL_law_257 hl (by decide) rfl (fun ls hl => ?_)
  refine lv_aload_n hx hb dL_law_259 rfl (lv_at hl 3 rfl) ?_
  refine lv_aload_n hx hb dL_law_260 rfl (lv_at hl 1 rfl) ?_
  refine lv_iload hx hb dL_law_261 (lv_at hl 5 rfl) ?_
  refine lv_iconst (v := 1) hx hb dL_law_263 (by decide) ?_
  refine lv_iadd hx hb dL_law_264 ?_
  rw [show nI (5 * N) + 1 = nI (5 * N + 1) from nI_add (5 * N) 1]
  refine va_sld hx hb hX hbl hbA hM.2.2.1 (vp_in_nI (show 5 * N + 1 < L by omega) (by omega)) dL_law_265 ?_
  rw [nI_clamp (show 5 * N + 1 < 2 ^ 31 by omega)]
  refine lv_aload_n hx hb dL_law_266 rfl (lv_at hl 1 rfl) ?_
  refine lv_iload hx hb dL_law_267 (lv_at hl 5 rfl) ?_
  refine lv_iconst (v := 2) hx hb dL_law_269 (by decide) ?_
  refine lv_iadd hx hb dL_law_270 ?_
  rw [show nI (5 * N) + 2 = nI (5 * N + 2) from nI_add (5 * N) 2]
  refine va_sld hx hb hX hbl hbA hM.2.2.1 (vp_in_nI (show 5 * N + 2 < L by omega) (by omega)) dL_law_271 ?_
  rw [nI_clamp (show 5 * N + 2 < 2 ^ 31 by omega)]
  refine lv_aload_n hx hb dL_law_272 rfl (lv_at hl 1 rfl) ?_
  refine lv_iload hx hb dL_law_273 (lv_at hl 5 rfl) ?_
  refine lv_iconst (v := 3) hx hb dL_law_275 (by decide) ?_
  refine lv_iadd hx hb dL_law_276 ?_
  rw [show nI (5 * N) + 3 = nI (5 * N + 3) from nI_add (5 * N) 3]
  refine va_sld hx hb hX hbl hbA hM.2.2.1 (vp_in_nI (show 5 * N + 3 < L by omega) (by omega)) dL_law_277 ?_
  rw [nI_clamp (show 5 * N + 3 < 2 ^ 31 by omega)]
  refine lv_aload_n hx hb dL_law_278 rfl (lv_at hl 1 rfl) ?_
  refine lv_iload hx hb dL_law_279 (lv_at hl 5 rfl) ?_
  refine lv_iconst (v := 4) hx hb dL_law_281 (by decide) ?_
  refine lv_iadd hx hb dL_law_282 ?_
  rw [show nI (5 * N) + 4 = nI (5 * N + 4) from nI_add (5 * N) 4]
  refine va_sld hx hb hX hbl hbA hM.2.2.1 (vp_in_nI (show 5 * N + 4 < L by omega) (by omega)) dL_law_283 ?_
  rw [nI_clamp (show 5 * N + 4 < 2 ^ 31 by omega)]
  refine mw_callV (As := [.int (xs (5 * N + 1)), .int (xs (5 * N + 2)), .int (xs (5 * N + 3)), .int (xs (5 * N + 4))]) (rest := []) (n := 4) (C := RX4) (T := TX4) (N := 21) (ci := 4) hC hM (c_X4_setInt l hl0 D cs hh H.size o A k1 S (xs (5 * N + 1)) (xs (5 * N + 2)) (xs (5 * N + 3)) (xs (5 * N + 4)) R.z9 u R.u6.1 (fun _ => R.u6.2)) (cwV 4 hC.1.2.2.2.2 (tb_V mb_583 mb_584 mb_585 mb_40 mb_586) rfl rfl rfl (by decide +kernel) ⟨Nat.le_of_ble_eq_true rfl, Nat.le_of_ble_eq_true rfl⟩) (th_at (h := mo_h o A hh S) k1.1) rfl rfl rfl hl.1 (Nat.le_of_ble_eq_true rfl) dL_law_284 ⟨Nat.le_trans (show 100 + 8 * N + 5 + 0 ≤ 10000 by omega) (Nat.le_of_ble_eq_true rfl), Nat.le_trans (show 5000 + 60 * N + 30 + 0 ≤ 50000 by omega) (Nat.le_of_ble_eq_true rfl)⟩ (fun E ce q9 g9 H locs hp9 hM hce hcv hcl => ?_) (fun v9 g9 H locs hp9 hM => ?_)
  · exact (hp9.elim fun _ h9 => h9.2.elim)
  obtain ⟨h2, rfl, hp9⟩ := hp9
  have hp9 : p4_setInt S (mo_h o A hh) u (xs (5 * N + 1)) (xs (5 * N + 2)) (xs (5 * N + 3)) (xs (5 * N + 4)) v9 h2 := hp9
  obtain ⟨c9, rfl⟩ := U_setInt hp9
  obtain ⟨-, T, n2, u2, ad2, rfl, g0, gv, R2⟩ := G_setInt R hN w hp9
  refine W.widen (k := 100 + 8 * N + 5) (n := 5000 + 60 * N + 30) (Nat.le_refl _) (Nat.le_refl _) ?_
  refine W.eq (g2 := F0 m 287 ls [.int c9]) rfl ?_
  refine lv_istore (lv' := [(6, .int c9), (5, .int k), (0, .ref b), (1, .ref x), (2, .ref o), (3, .ref ao), (4, .int (nI (5 * N)))]) hx hb dL_law_287 hl (by decide) rfl (fun ls hl => ?_)
  refine lv_aload_n hx hb dL_law_289 rfl (lv_at hl 4 rfl) ?_
  refine mw_callV (As := []) (rest := []) (n := 0) (C := RX4) (T := TX4) (N := 21) (ci := 4) hC hM (c_X4_thrown l hl0 D cs hh H.size o A k1 T) (cwV 0 hC.1.2.2.2.2 (tb_V mb_556 mb_557 mb_558 mb_40 mb_559) rfl rfl rfl (by decide +kernel) ⟨Nat.le_of_ble_eq_true rfl, Nat.le_of_ble_eq_true rfl⟩) (th_at (h := mo_h o A hh T) k1.1) rfl rfl rfl hl.1 (Nat.le_of_ble_eq_true rfl) dL_law_290 ⟨Nat.le_trans (show 100 + 8 * N + 5 + 0 ≤ 10000 by omega) (Nat.le_of_ble_eq_true rfl), Nat.le_trans (show 5000 + 60 * N + 30 + 0 ≤ 50000 by omega) (Nat.le_of_ble_eq_true rfl)⟩ (fun E ce q9 g9 H locs hp9 hM hce hcv hcl => ?_) (fun v9 g9 H locs hp9 hM => ?_)
  · exact (hp9.elim fun _ h9 => h9.2.elim)
  obtain ⟨h2, rfl, hp9⟩ := hp9
  obtain ⟨rfl, rfl⟩ := hp9
  rw [g0]
  refine W.widen (k := 100 + 8 * N + 5) (n := 5000 + 60 * N + 30) (Nat.le_refl _) (Nat.le_refl _) ?_
  refine W.eq (g2 := F0 m 293 ls [.int k]) rfl ?_
  refine lv_iload hx hb dL_law_293 (lv_at hl 1 rfl) ?_
  refine lv_icmp_eq (tgt := 300) hx hb dL_law_295 (by decide) (fun c295 => ?_) (fun c295 => ?_)
  · refine lv_iload hx hb dL_law_300 (lv_at hl 1 rfl) ?_
    refine lv_if_ne (tgt := 317) hx hb dL_law_302 (by decide) (fun c302 => ?_) (fun c302 => ?_)
    · refine lv_goto (tgt := 1063) hx hb dL_law_317 (by decide) ?_
      refine lv_iinc (v := nI (5 * (N + 1))) (lv' := [(4, .int (nI (5 * (N + 1)))), (6, .int c9), (5, .int k), (0, .ref b), (1, .ref x), (2, .ref o), (3, .ref ao)]) hx hb dL_law_1063 hl (k := 6) rfl (nI_add (5 * N) 5) (by first | decide | omega) rfl (fun ls hl => ?_)
      refine lv_goto (tgt := 23) hx hb dL_law_1066 (by decide) ?_
      refine W.widen (k := 100 + 8 * (N + 1)) (n := 5000 + 60 * (N + 1)) (by omega) (by omega) ?_
      exact ih _ H locs ls (LI.step hK ha e1 f hh9 R2) hM (lv_sub hl [3, 4, 5, 6, 0] rfl)
    · have ec : c9 = b9 := Value.int.inj (Option.some.inj (gv c302))
      have ob : (mo_h o A hh T).2.1 ao 0 = b9 := by
        rw [LI.out k1 ka T]
        rcases w9 with z | z
        · rw [z.2.2]; exact th_ui_s _ _ _ _
        · exact absurd c302 (N_setInt z.1.choose_spec.2)
      refine lv_aload_n hx hb dL_law_305 rfl (lv_at hl 5 rfl) ?_
      refine lv_iconst (v := 0) hx hb dL_law_306 (by decide) ?_
      refine al_9 (i := 0) hC hM ka (by decide) (by decide) (by first | decide | omega) dL_law_307 ?_
      rw [show (mo_h o A hh T).2.1 ao 0 = b9 from ob]
      refine lv_iload hx hb dL_law_308 (lv_at hl 0 rfl) ?_
      refine lv_i2l hx hb dL_law_310 rfl ?_
      refine W.lcmp hx hb dL_law_311 ?_
      rw [show lg_cmp b9.toInt64 c9.toInt64 = 0 from by rw [ec]; exact lg_cmp_s _]
      refine lv_if_eq (tgt := 317) hx hb dL_law_312 (by decide) (fun c312 => ?_) (fun c312 => ?_)
      · refine lv_goto (tgt := 1063) hx hb dL_law_317 (by decide) ?_
        refine lv_iinc (v := nI (5 * (N + 1))) (lv' := [(4, .int (nI (5 * (N + 1)))), (6, .int c9), (5, .int k), (0, .ref b), (1, .ref x), (2, .ref o), (3, .ref ao)]) hx hb dL_law_1063 hl (k := 6) rfl (nI_add (5 * N) 5) (by first | decide | omega) rfl (fun ls hl => ?_)
        refine lv_goto (tgt := 23) hx hb dL_law_1066 (by decide) ?_
        refine W.widen (k := 100 + 8 * (N + 1)) (n := 5000 + 60 * (N + 1)) (by omega) (by omega) ?_
        exact ih _ H locs ls (LI.step hK ha e1 f hh9 R2) hM (lv_sub hl [3, 4, 5, 6, 0] rfl)
      · exact absurd c312 (by decide)
  · exact absurd rfl c295

-- case 3: setReference
set_option maxHeartbeats 4000000 in
set_option maxRecDepth 100000 in
theorem lc_setReference {l : Launch} (hl0 : l.stackTraces = false) {D : va_G} {cs : Nat → ClassId} {h0 : th_S} {p : Program} {e : Env} {s : State} {m : MethodId} {below : List Frame} {meth : Method} {c : Code} {b L : Nat} {xs : Nat → Int32} (hC : th_C D cs h0 p m c code 7 s [.ref b] RL) (hX : va_X b L xs s s.heap) (hbl : b < s.heap.size) (hbA : ¬ mw_A (th_g cs h0) s.heap.size b) {Q : State → Prop} {x aR aO aH aT o ao : Nat} {rt ta A : Nat → Nat} {N : Nat} (hlt : 5 * N + 5 ≤ L) (hL : L ≤ 2560) {h : th_S} (hI : LI x aR aO aH aT o ao rt ta A h N) {H : Heap} {locs : List Loc} {ls : Array Slot} (hM : th_H D cs h0 s h H locs) (hl : lv_has ls 7 [(0, .ref b), (1, .ref x), (2, .ref o), (3, .ref ao), (4, .int (nI (5 * N)))]) (ih : ∀ (h : th_S) (H : Heap) (locs : List Loc) (ls : Array Slot), LI x aR aO aH aT o ao rt ta A h (N + 1) → th_H D cs h0 s h H locs → lv_has ls 7 [(0, .ref b), (1, .ref x), (2, .ref o), (3, .ref ao), (4, .int (nI (5 * (N + 1))))] → W p l e room_1 s m #[Value.ref b] below meth c H locs (100 + 8 * (N + 1)) (5000 + 60 * (N + 1)) Q (F0 m 23 ls [])) : W p l e room_1 s m #[Value.ref b] below meth c H locs (100 + 8 * N) (5000 + 60 * N) Q (F0 m 320 ls []) := by
  have hx := hC.1.1
  have hb := hC.1.2.1
  obtain ⟨hK, ha, S, n, u, ad, e1, R⟩ := hI
  have hN : N + 1 < 2 ^ 31 := by omega
  have kx0 : h.1 x = some (0, 0) := R.1.1.1.kx
  refine lv_aload_n hx hb dL_law_320 rfl (lv_at hl 1 rfl) ?_
  refine lv_aload_n hx hb dL_law_321 rfl (lv_at hl 0 rfl) ?_
  refine lv_iload hx hb dL_law_322 (lv_at hl 4 rfl) ?_
  refine lv_iconst (v := 1) hx hb dL_law_324 (by decide) ?_
  refine lv_iadd hx hb dL_law_325 ?_
  rw [show nI (5 * N) + 1 = nI (5 * N + 1) from nI_add (5 * N) 1]
  refine va_sld hx hb hX hbl hbA hM.2.2.1 (vp_in_nI (show 5 * N + 1 < L by omega) (by omega)) dL_law_326 ?_
  rw [nI_clamp (show 5 * N + 1 < 2 ^ 31 by omega)]
  refine lv_aload_n hx hb dL_law_327 rfl (lv_at hl 0 rfl) ?_
  refine lv_iload hx hb dL_law_328 (lv_at hl 4 rfl) ?_
  refine lv_iconst (v := 2) hx hb dL_law_330 (by decide) ?_
  refine lv_iadd hx hb dL_law_331 ?_
  rw [show nI (5 * N) + 2 = nI (5 * N + 2) from nI_add (5 * N) 2]
  refine va_sld hx hb hX hbl hbA hM.2.2.1 (vp_in_nI (show 5 * N + 2 < L by omega) (by omega)) dL_law_332 ?_
  rw [nI_clamp (show 5 * N + 2 < 2 ^ 31 by omega)]
  refine lv_aload_n hx hb dL_law_333 rfl (lv_at hl 0 rfl) ?_
  refine lv_iload hx hb dL_law_334 (lv_at hl 4 rfl) ?_
  refine lv_iconst (v := 3) hx hb dL_law_336 (by decide) ?_
  refine lv_iadd hx hb dL_law_337 ?_
  rw [show nI (5 * N) + 3 = nI (5 * N + 3) from nI_add (5 * N) 3]
  refine va_sld hx hb hX hbl hbA hM.2.2.1 (vp_in_nI (show 5 * N + 3 < L by omega) (by omega)) dL_law_338 ?_
  rw [nI_clamp (show 5 * N + 3 < 2 ^ 31 by omega)]
  refine lv_aload_n hx hb dL_law_339 rfl (lv_at hl 0 rfl) ?_
  refine lv_iload hx hb dL_law_340 (lv_at hl 4 rfl) ?_
  refine lv_iconst (v := 4) hx hb dL_law_342 (by decide) ?_
  refine lv_iadd hx hb dL_law_343 ?_
  rw [show nI (5 * N) + 4 = nI (5 * N + 4) from nI_add (5 * N) 4]
  refine va_sld hx hb hX hbl hbA hM.2.2.1 (vp_in_nI (show 5 * N + 4 < L by omega) (by omega)) dL_law_344 ?_
  rw [nI_clamp (show 5 * N + 4 < 2 ^ 31 by omega)]
  refine lv_aload_n hx hb dL_law_345 rfl (lv_at hl 3 rfl) ?_
  refine mw_callSW (As := [.ref x, .int (xs (5 * N + 1)), .int (xs (5 * N + 2)), .int (xs (5 * N + 3)), .int (xs (5 * N + 4)), .ref ao]) (rest := []) (n := 6) hC hM (c_L_setReference l hl0 D cs h H.size x aR aO aH aT rt ta S N n u ad R ao ha (xs (5 * N + 1)) (xs (5 * N + 2)) (xs (5 * N + 3)) (xs (5 * N + 4))) (vx_cwSW 6 hC.1.2.2.2.2 (tb_SW mb_380 mb_381 mb_35 mb_382) rfl rfl rfl (by decide +kernel) ⟨Nat.le_of_ble_eq_true rfl, Nat.le_of_ble_eq_true rfl⟩) rfl rfl hl.1 (Nat.le_of_ble_eq_true rfl) dL_law_346 ⟨Nat.le_trans (show 100 + 8 * N + 6 ≤ 10000 by omega) (Nat.le_of_ble_eq_true rfl), Nat.le_trans (show 5000 + 60 * N + 36 ≤ 50000 by omega) (Nat.le_of_ble_eq_true rfl)⟩ (fun E ce q9 g9 H locs hp9 hM hce hcv hcl => ?_) (fun v9 g9 H locs hp9 hM => ?_)
  · exact (hp9.elim fun _ h9 => h9.2.elim)
  obtain ⟨hh, rfl, hp9⟩ := hp9
  obtain ⟨k, b9, h1, rfl, w9⟩ := hp9
  have w : (k = 0 ∧ p3_setReference x aO ta h n (xs (5 * N + 1)) (xs (5 * N + 2)) (xs (5 * N + 3)) (xs (5 * N + 4)) (some (.int b9)) h1) ∨ ∃ E, e3_setReference x aO ta h n (xs (5 * N + 1)) (xs (5 * N + 2)) (xs (5 * N + 3)) (xs (5 * N + 4)) E h1 ∧ cd_setRef E k := w9.imp (fun z => ⟨z.1, z.2.1⟩) (fun z => z.1)
  have hh9 : hh = h1 ∨ ∃ b, hh = th_ui h1 ao 0 b := w9.elim (fun z => Or.inr ⟨_, z.2.2⟩) (fun z => Or.inl z.2)
  have f : fr7 h h1 := F_setReference R w
  obtain ⟨k1, k2, k3, k4, k5⟩ := LI.cls hK e1 ha f hh9
  have ka : hh.1 ao = some (9, 1) := by rw [k3]; exact (f ao _ ha (by show 7 ≤ 9; omega)).1
  have hM : th_H D cs h0 s (mo_h o A hh S) H locs := by rw [k2]; exact hM
  refine W.widen (k := 100 + 8 * N + 6) (n := 5000 + 60 * N + 36) (Nat.le_refl _) (Nat.le_refl _) ?_
  refine W.eq (g2 := F0 m 349 ls [.int k]) rfl ?_
  refine lv_istore (lv' := [(5, .int k), (0, .ref b), (1, .ref x), (2, .ref o), (3, .ref ao), (4, .int (nI (5 * N)))]) hx hb dL_law_349 hl (by decide) rfl (fun ls hl => ?_)
  refine lv_aload_n hx hb dL_law_351 rfl (lv_at hl 3 rfl) ?_
  refine lv_aload_n hx hb dL_law_352 rfl (lv_at hl 1 rfl) ?_
  refine lv_iload hx hb dL_law_353 (lv_at hl 5 rfl) ?_
  refine lv_iconst (v := 1) hx hb dL_law_355 (by decide) ?_
  refine lv_iadd hx hb dL_law_356 ?_
  rw [show nI (5 * N) + 1 = nI (5 * N + 1) from nI_add (5 * N) 1]
  refine va_sld hx hb hX hbl hbA hM.2.2.1 (vp_in_nI (show 5 * N + 1 < L by omega) (by omega)) dL_law_357 ?_
  rw [nI_clamp (show 5 * N + 1 < 2 ^ 31 by omega)]
  refine lv_aload_n hx hb dL_law_358 rfl (lv_at hl 1 rfl) ?_
  refine lv_iload hx hb dL_law_359 (lv_at hl 5 rfl) ?_
  refine lv_iconst (v := 2) hx hb dL_law_361 (by decide) ?_
  refine lv_iadd hx hb dL_law_362 ?_
  rw [show nI (5 * N) + 2 = nI (5 * N + 2) from nI_add (5 * N) 2]
  refine va_sld hx hb hX hbl hbA hM.2.2.1 (vp_in_nI (show 5 * N + 2 < L by omega) (by omega)) dL_law_363 ?_
  rw [nI_clamp (show 5 * N + 2 < 2 ^ 31 by omega)]
  refine lv_aload_n hx hb dL_law_364 rfl (lv_at hl 1 rfl) ?_
  refine lv_iload hx hb dL_law_365 (lv_at hl 5 rfl) ?_
  refine lv_iconst (v := 3) hx hb dL_law_367 (by decide) ?_
  refine lv_iadd hx hb dL_law_368 ?_
  rw [show nI (5 * N) + 3 = nI (5 * N + 3) from nI_add (5 * N) 3]
  refine va_sld hx hb hX hbl hbA hM.2.2.1 (vp_in_nI (show 5 * N + 3 < L by omega) (by omega)) dL_law_369 ?_
  rw [nI_clamp (show 5 * N + 3 < 2 ^ 31 by omega)]
  refine lv_aload_n hx hb dL_law_370 rfl (lv_at hl 1 rfl) ?_
  refine lv_iload hx hb dL_law_371 (lv_at hl 5 rfl) ?_
  refine lv_iconst (v := 4) hx hb dL_law_373 (by decide) ?_
  refine lv_iadd hx hb dL_law_374 ?_
  rw [show nI (5 * N) + 4 = nI (5 * N + 4) from nI_add (5 * N) 4]
  refine va_sld hx hb hX hbl hbA hM.2.2.1 (vp_in_nI (show 5 * N + 4 < L by omega) (by omega)) dL_law_375 ?_
  rw [nI_clamp (show 5 * N + 4 < 2 ^ 31 by omega)]
  refine mw_callV (As := [.int (xs (5 * N + 1)), .int (xs (5 * N + 2)), .int (xs (5 * N + 3)), .int (xs (5 * N + 4))]) (rest := []) (n := 4) (C := RX4) (T := TX4) (N := 21) (ci := 4) hC hM (c_X4_setReference l hl0 D cs hh H.size o A k1 S (xs (5 * N + 1)) (xs (5 * N + 2)) (xs (5 * N + 3)) (xs (5 * N + 4)) R.z9 u R.u6.1 (fun _ => R.u6.2)) (cwV 4 hC.1.2.2.2.2 (tb_V mb_605 mb_606 mb_607 mb_40 mb_608) rfl rfl rfl (by decide +kernel) ⟨Nat.le_of_ble_eq_true rfl, Nat.le_of_ble_eq_true rfl⟩) (th_at (h := mo_h o A hh S) k1.1) rfl rfl rfl hl.1 (Nat.le_of_ble_eq_true rfl) dL_law_376 ⟨Nat.le_trans (show 100 + 8 * N + 6 + 0 ≤ 10000 by omega) (Nat.le_of_ble_eq_true rfl), Nat.le_trans (show 5000 + 60 * N + 36 + 0 ≤ 50000 by omega) (Nat.le_of_ble_eq_true rfl)⟩ (fun E ce q9 g9 H locs hp9 hM hce hcv hcl => ?_) (fun v9 g9 H locs hp9 hM => ?_)
  · exact (hp9.elim fun _ h9 => h9.2.elim)
  obtain ⟨h2, rfl, hp9⟩ := hp9
  have hp9 : p4_setReference S (mo_h o A hh) u (xs (5 * N + 1)) (xs (5 * N + 2)) (xs (5 * N + 3)) (xs (5 * N + 4)) v9 h2 := hp9
  obtain ⟨c9, rfl⟩ := U_setReference hp9
  obtain ⟨-, T, n2, u2, ad2, rfl, g0, gv, R2⟩ := G_setReference R hN w hp9
  refine W.widen (k := 100 + 8 * N + 6) (n := 5000 + 60 * N + 36) (Nat.le_refl _) (Nat.le_refl _) ?_
  refine W.eq (g2 := F0 m 379 ls [.int c9]) rfl ?_
  refine lv_istore (lv' := [(6, .int c9), (5, .int k), (0, .ref b), (1, .ref x), (2, .ref o), (3, .ref ao), (4, .int (nI (5 * N)))]) hx hb dL_law_379 hl (by decide) rfl (fun ls hl => ?_)
  refine lv_aload_n hx hb dL_law_381 rfl (lv_at hl 4 rfl) ?_
  refine mw_callV (As := []) (rest := []) (n := 0) (C := RX4) (T := TX4) (N := 21) (ci := 4) hC hM (c_X4_thrown l hl0 D cs hh H.size o A k1 T) (cwV 0 hC.1.2.2.2.2 (tb_V mb_556 mb_557 mb_558 mb_40 mb_559) rfl rfl rfl (by decide +kernel) ⟨Nat.le_of_ble_eq_true rfl, Nat.le_of_ble_eq_true rfl⟩) (th_at (h := mo_h o A hh T) k1.1) rfl rfl rfl hl.1 (Nat.le_of_ble_eq_true rfl) dL_law_382 ⟨Nat.le_trans (show 100 + 8 * N + 6 + 0 ≤ 10000 by omega) (Nat.le_of_ble_eq_true rfl), Nat.le_trans (show 5000 + 60 * N + 36 + 0 ≤ 50000 by omega) (Nat.le_of_ble_eq_true rfl)⟩ (fun E ce q9 g9 H locs hp9 hM hce hcv hcl => ?_) (fun v9 g9 H locs hp9 hM => ?_)
  · exact (hp9.elim fun _ h9 => h9.2.elim)
  obtain ⟨h2, rfl, hp9⟩ := hp9
  obtain ⟨rfl, rfl⟩ := hp9
  rw [g0]
  refine W.widen (k := 100 + 8 * N + 6) (n := 5000 + 60 * N + 36) (Nat.le_refl _) (Nat.le_refl _) ?_
  refine W.eq (g2 := F0 m 385 ls [.int k]) rfl ?_
  refine lv_iload hx hb dL_law_385 (lv_at hl 1 rfl) ?_
  refine lv_icmp_eq (tgt := 392) hx hb dL_law_387 (by decide) (fun c387 => ?_) (fun c387 => ?_)
  · refine lv_iload hx hb dL_law_392 (lv_at hl 1 rfl) ?_
    refine lv_if_ne (tgt := 409) hx hb dL_law_394 (by decide) (fun c394 => ?_) (fun c394 => ?_)
    · refine lv_goto (tgt := 1063) hx hb dL_law_409 (by decide) ?_
      refine lv_iinc (v := nI (5 * (N + 1))) (lv' := [(4, .int (nI (5 * (N + 1)))), (6, .int c9), (5, .int k), (0, .ref b), (1, .ref x), (2, .ref o), (3, .ref ao)]) hx hb dL_law_1063 hl (k := 6) rfl (nI_add (5 * N) 5) (by first | decide | omega) rfl (fun ls hl => ?_)
      refine lv_goto (tgt := 23) hx hb dL_law_1066 (by decide) ?_
      refine W.widen (k := 100 + 8 * (N + 1)) (n := 5000 + 60 * (N + 1)) (by omega) (by omega) ?_
      exact ih _ H locs ls (LI.step hK ha e1 f hh9 R2) hM (lv_sub hl [3, 4, 5, 6, 0] rfl)
    · have ec : c9 = b9 := Value.int.inj (Option.some.inj (gv c394))
      have ob : (mo_h o A hh T).2.1 ao 0 = b9 := by
        rw [LI.out k1 ka T]
        rcases w9 with z | z
        · rw [z.2.2]; exact th_ui_s _ _ _ _
        · exact absurd c394 (N_setRef z.1.choose_spec.2)
      refine lv_aload_n hx hb dL_law_397 rfl (lv_at hl 5 rfl) ?_
      refine lv_iconst (v := 0) hx hb dL_law_398 (by decide) ?_
      refine al_9 (i := 0) hC hM ka (by decide) (by decide) (by first | decide | omega) dL_law_399 ?_
      rw [show (mo_h o A hh T).2.1 ao 0 = b9 from ob]
      refine lv_iload hx hb dL_law_400 (lv_at hl 0 rfl) ?_
      refine lv_i2l hx hb dL_law_402 rfl ?_
      refine W.lcmp hx hb dL_law_403 ?_
      rw [show lg_cmp b9.toInt64 c9.toInt64 = 0 from by rw [ec]; exact lg_cmp_s _]
      refine lv_if_eq (tgt := 409) hx hb dL_law_404 (by decide) (fun c404 => ?_) (fun c404 => ?_)
      · refine lv_goto (tgt := 1063) hx hb dL_law_409 (by decide) ?_
        refine lv_iinc (v := nI (5 * (N + 1))) (lv' := [(4, .int (nI (5 * (N + 1)))), (6, .int c9), (5, .int k), (0, .ref b), (1, .ref x), (2, .ref o), (3, .ref ao)]) hx hb dL_law_1063 hl (k := 6) rfl (nI_add (5 * N) 5) (by first | decide | omega) rfl (fun ls hl => ?_)
        refine lv_goto (tgt := 23) hx hb dL_law_1066 (by decide) ?_
        refine W.widen (k := 100 + 8 * (N + 1)) (n := 5000 + 60 * (N + 1)) (by omega) (by omega) ?_
        exact ih _ H locs ls (LI.step hK ha e1 f hh9 R2) hM (lv_sub hl [3, 4, 5, 6, 0] rfl)
      · exact absurd c404 (by decide)
  · exact absurd rfl c387

-- case 4: setRoot
set_option maxHeartbeats 4000000 in
set_option maxRecDepth 100000 in
theorem lc_setRoot {l : Launch} (hl0 : l.stackTraces = false) {D : va_G} {cs : Nat → ClassId} {h0 : th_S} {p : Program} {e : Env} {s : State} {m : MethodId} {below : List Frame} {meth : Method} {c : Code} {b L : Nat} {xs : Nat → Int32} (hC : th_C D cs h0 p m c code 7 s [.ref b] RL) (hX : va_X b L xs s s.heap) (hbl : b < s.heap.size) (hbA : ¬ mw_A (th_g cs h0) s.heap.size b) {Q : State → Prop} {x aR aO aH aT o ao : Nat} {rt ta A : Nat → Nat} {N : Nat} (hlt : 5 * N + 5 ≤ L) (hL : L ≤ 2560) {h : th_S} (hI : LI x aR aO aH aT o ao rt ta A h N) {H : Heap} {locs : List Loc} {ls : Array Slot} (hM : th_H D cs h0 s h H locs) (hl : lv_has ls 7 [(0, .ref b), (1, .ref x), (2, .ref o), (3, .ref ao), (4, .int (nI (5 * N)))]) (ih : ∀ (h : th_S) (H : Heap) (locs : List Loc) (ls : Array Slot), LI x aR aO aH aT o ao rt ta A h (N + 1) → th_H D cs h0 s h H locs → lv_has ls 7 [(0, .ref b), (1, .ref x), (2, .ref o), (3, .ref ao), (4, .int (nI (5 * (N + 1))))] → W p l e room_1 s m #[Value.ref b] below meth c H locs (100 + 8 * (N + 1)) (5000 + 60 * (N + 1)) Q (F0 m 23 ls [])) : W p l e room_1 s m #[Value.ref b] below meth c H locs (100 + 8 * N) (5000 + 60 * N) Q (F0 m 412 ls []) := by
  have hx := hC.1.1
  have hb := hC.1.2.1
  obtain ⟨hK, ha, S, n, u, ad, e1, R⟩ := hI
  have hN : N + 1 < 2 ^ 31 := by omega
  have kx0 : h.1 x = some (0, 0) := R.1.1.1.kx
  refine lv_aload_n hx hb dL_law_412 rfl (lv_at hl 1 rfl) ?_
  refine lv_aload_n hx hb dL_law_413 rfl (lv_at hl 0 rfl) ?_
  refine lv_iload hx hb dL_law_414 (lv_at hl 4 rfl) ?_
  refine lv_iconst (v := 1) hx hb dL_law_416 (by decide) ?_
  refine lv_iadd hx hb dL_law_417 ?_
  rw [show nI (5 * N) + 1 = nI (5 * N + 1) from nI_add (5 * N) 1]
  refine va_sld hx hb hX hbl hbA hM.2.2.1 (vp_in_nI (show 5 * N + 1 < L by omega) (by omega)) dL_law_418 ?_
  rw [nI_clamp (show 5 * N + 1 < 2 ^ 31 by omega)]
  refine lv_aload_n hx hb dL_law_419 rfl (lv_at hl 0 rfl) ?_
  refine lv_iload hx hb dL_law_420 (lv_at hl 4 rfl) ?_
  refine lv_iconst (v := 2) hx hb dL_law_422 (by decide) ?_
  refine lv_iadd hx hb dL_law_423 ?_
  rw [show nI (5 * N) + 2 = nI (5 * N + 2) from nI_add (5 * N) 2]
  refine va_sld hx hb hX hbl hbA hM.2.2.1 (vp_in_nI (show 5 * N + 2 < L by omega) (by omega)) dL_law_424 ?_
  rw [nI_clamp (show 5 * N + 2 < 2 ^ 31 by omega)]
  refine lv_aload_n hx hb dL_law_425 rfl (lv_at hl 0 rfl) ?_
  refine lv_iload hx hb dL_law_426 (lv_at hl 4 rfl) ?_
  refine lv_iconst (v := 3) hx hb dL_law_428 (by decide) ?_
  refine lv_iadd hx hb dL_law_429 ?_
  rw [show nI (5 * N) + 3 = nI (5 * N + 3) from nI_add (5 * N) 3]
  refine va_sld hx hb hX hbl hbA hM.2.2.1 (vp_in_nI (show 5 * N + 3 < L by omega) (by omega)) dL_law_430 ?_
  rw [nI_clamp (show 5 * N + 3 < 2 ^ 31 by omega)]
  refine lv_aload_n hx hb dL_law_431 rfl (lv_at hl 3 rfl) ?_
  refine mw_callSW (As := [.ref x, .int (xs (5 * N + 1)), .int (xs (5 * N + 2)), .int (xs (5 * N + 3)), .ref ao]) (rest := []) (n := 5) hC hM (c_L_setRoot l hl0 D cs h H.size x aR aO aH aT rt ta S N n u ad R ao ha (xs (5 * N + 1)) (xs (5 * N + 2)) (xs (5 * N + 3))) (vx_cwSW 5 hC.1.2.2.2.2 (tb_SW mb_394 mb_395 mb_35 mb_396) rfl rfl rfl (by decide +kernel) ⟨Nat.le_of_ble_eq_true rfl, Nat.le_of_ble_eq_true rfl⟩) rfl rfl hl.1 (Nat.le_of_ble_eq_true rfl) dL_law_432 ⟨Nat.le_trans (show 100 + 8 * N + 5 ≤ 10000 by omega) (Nat.le_of_ble_eq_true rfl), Nat.le_trans (show 5000 + 60 * N + 30 ≤ 50000 by omega) (Nat.le_of_ble_eq_true rfl)⟩ (fun E ce q9 g9 H locs hp9 hM hce hcv hcl => ?_) (fun v9 g9 H locs hp9 hM => ?_)
  · exact (hp9.elim fun _ h9 => h9.2.elim)
  obtain ⟨hh, rfl, hp9⟩ := hp9
  obtain ⟨k, b9, h1, rfl, w9⟩ := hp9
  have w : (k = 0 ∧ p3_setRoot x aO rt ta h n (xs (5 * N + 1)) (xs (5 * N + 2)) (xs (5 * N + 3)) (some (.int b9)) h1) ∨ ∃ E, e3_setRoot x aO rt ta h n (xs (5 * N + 1)) (xs (5 * N + 2)) (xs (5 * N + 3)) E h1 ∧ cd_setRef E k := w9.imp (fun z => ⟨z.1, z.2.1⟩) (fun z => z.1)
  have hh9 : hh = h1 ∨ ∃ b, hh = th_ui h1 ao 0 b := w9.elim (fun z => Or.inr ⟨_, z.2.2⟩) (fun z => Or.inl z.2)
  have f : fr7 h h1 := F_setRoot R w
  obtain ⟨k1, k2, k3, k4, k5⟩ := LI.cls hK e1 ha f hh9
  have ka : hh.1 ao = some (9, 1) := by rw [k3]; exact (f ao _ ha (by show 7 ≤ 9; omega)).1
  have hM : th_H D cs h0 s (mo_h o A hh S) H locs := by rw [k2]; exact hM
  refine W.widen (k := 100 + 8 * N + 5) (n := 5000 + 60 * N + 30) (Nat.le_refl _) (Nat.le_refl _) ?_
  refine W.eq (g2 := F0 m 435 ls [.int k]) rfl ?_
  refine lv_istore (lv' := [(5, .int k), (0, .ref b), (1, .ref x), (2, .ref o), (3, .ref ao), (4, .int (nI (5 * N)))]) hx hb dL_law_435 hl (by decide) rfl (fun ls hl => ?_)
  refine lv_aload_n hx hb dL_law_437 rfl (lv_at hl 3 rfl) ?_
  refine lv_aload_n hx hb dL_law_438 rfl (lv_at hl 1 rfl) ?_
  refine lv_iload hx hb dL_law_439 (lv_at hl 5 rfl) ?_
  refine lv_iconst (v := 1) hx hb dL_law_441 (by decide) ?_
  refine lv_iadd hx hb dL_law_442 ?_
  rw [show nI (5 * N) + 1 = nI (5 * N + 1) from nI_add (5 * N) 1]
  refine va_sld hx hb hX hbl hbA hM.2.2.1 (vp_in_nI (show 5 * N + 1 < L by omega) (by omega)) dL_law_443 ?_
  rw [nI_clamp (show 5 * N + 1 < 2 ^ 31 by omega)]
  refine lv_aload_n hx hb dL_law_444 rfl (lv_at hl 1 rfl) ?_
  refine lv_iload hx hb dL_law_445 (lv_at hl 5 rfl) ?_
  refine lv_iconst (v := 2) hx hb dL_law_447 (by decide) ?_
  refine lv_iadd hx hb dL_law_448 ?_
  rw [show nI (5 * N) + 2 = nI (5 * N + 2) from nI_add (5 * N) 2]
  refine va_sld hx hb hX hbl hbA hM.2.2.1 (vp_in_nI (show 5 * N + 2 < L by omega) (by omega)) dL_law_449 ?_
  rw [nI_clamp (show 5 * N + 2 < 2 ^ 31 by omega)]
  refine lv_aload_n hx hb dL_law_450 rfl (lv_at hl 1 rfl) ?_
  refine lv_iload hx hb dL_law_451 (lv_at hl 5 rfl) ?_
  refine lv_iconst (v := 3) hx hb dL_law_453 (by decide) ?_
  refine lv_iadd hx hb dL_law_454 ?_
  rw [show nI (5 * N) + 3 = nI (5 * N + 3) from nI_add (5 * N) 3]
  refine va_sld hx hb hX hbl hbA hM.2.2.1 (vp_in_nI (show 5 * N + 3 < L by omega) (by omega)) dL_law_455 ?_
  rw [nI_clamp (show 5 * N + 3 < 2 ^ 31 by omega)]
  refine mw_callV (As := [.int (xs (5 * N + 1)), .int (xs (5 * N + 2)), .int (xs (5 * N + 3))]) (rest := []) (n := 3) (C := RX4) (T := TX4) (N := 21) (ci := 4) hC hM (c_X4_setRoot l hl0 D cs hh H.size o A k1 S (xs (5 * N + 1)) (xs (5 * N + 2)) (xs (5 * N + 3)) u R.u6.1 (fun _ => R.u6.2)) (cwV 3 hC.1.2.2.2.2 (tb_V mb_612 mb_613 mb_614 mb_40 mb_615) rfl rfl rfl (by decide +kernel) ⟨Nat.le_of_ble_eq_true rfl, Nat.le_of_ble_eq_true rfl⟩) (th_at (h := mo_h o A hh S) k1.1) rfl rfl rfl hl.1 (Nat.le_of_ble_eq_true rfl) dL_law_456 ⟨Nat.le_trans (show 100 + 8 * N + 5 + 0 ≤ 10000 by omega) (Nat.le_of_ble_eq_true rfl), Nat.le_trans (show 5000 + 60 * N + 30 + 0 ≤ 50000 by omega) (Nat.le_of_ble_eq_true rfl)⟩ (fun E ce q9 g9 H locs hp9 hM hce hcv hcl => ?_) (fun v9 g9 H locs hp9 hM => ?_)
  · exact (hp9.elim fun _ h9 => h9.2.elim)
  obtain ⟨h2, rfl, hp9⟩ := hp9
  have hp9 : p4_setRoot S (mo_h o A hh) u (xs (5 * N + 1)) (xs (5 * N + 2)) (xs (5 * N + 3)) v9 h2 := hp9
  obtain ⟨c9, rfl⟩ := U_setRoot hp9
  obtain ⟨-, T, n2, u2, ad2, rfl, g0, gv, R2⟩ := G_setRoot R hN w hp9
  refine W.widen (k := 100 + 8 * N + 5) (n := 5000 + 60 * N + 30) (Nat.le_refl _) (Nat.le_refl _) ?_
  refine W.eq (g2 := F0 m 459 ls [.int c9]) rfl ?_
  refine lv_istore (lv' := [(6, .int c9), (5, .int k), (0, .ref b), (1, .ref x), (2, .ref o), (3, .ref ao), (4, .int (nI (5 * N)))]) hx hb dL_law_459 hl (by decide) rfl (fun ls hl => ?_)
  refine lv_aload_n hx hb dL_law_461 rfl (lv_at hl 4 rfl) ?_
  refine mw_callV (As := []) (rest := []) (n := 0) (C := RX4) (T := TX4) (N := 21) (ci := 4) hC hM (c_X4_thrown l hl0 D cs hh H.size o A k1 T) (cwV 0 hC.1.2.2.2.2 (tb_V mb_556 mb_557 mb_558 mb_40 mb_559) rfl rfl rfl (by decide +kernel) ⟨Nat.le_of_ble_eq_true rfl, Nat.le_of_ble_eq_true rfl⟩) (th_at (h := mo_h o A hh T) k1.1) rfl rfl rfl hl.1 (Nat.le_of_ble_eq_true rfl) dL_law_462 ⟨Nat.le_trans (show 100 + 8 * N + 5 + 0 ≤ 10000 by omega) (Nat.le_of_ble_eq_true rfl), Nat.le_trans (show 5000 + 60 * N + 30 + 0 ≤ 50000 by omega) (Nat.le_of_ble_eq_true rfl)⟩ (fun E ce q9 g9 H locs hp9 hM hce hcv hcl => ?_) (fun v9 g9 H locs hp9 hM => ?_)
  · exact (hp9.elim fun _ h9 => h9.2.elim)
  obtain ⟨h2, rfl, hp9⟩ := hp9
  obtain ⟨rfl, rfl⟩ := hp9
  rw [g0]
  refine W.widen (k := 100 + 8 * N + 5) (n := 5000 + 60 * N + 30) (Nat.le_refl _) (Nat.le_refl _) ?_
  refine W.eq (g2 := F0 m 465 ls [.int k]) rfl ?_
  refine lv_iload hx hb dL_law_465 (lv_at hl 1 rfl) ?_
  refine lv_icmp_eq (tgt := 472) hx hb dL_law_467 (by decide) (fun c467 => ?_) (fun c467 => ?_)
  · refine lv_iload hx hb dL_law_472 (lv_at hl 1 rfl) ?_
    refine lv_if_ne (tgt := 489) hx hb dL_law_474 (by decide) (fun c474 => ?_) (fun c474 => ?_)
    · refine lv_goto (tgt := 1063) hx hb dL_law_489 (by decide) ?_
      refine lv_iinc (v := nI (5 * (N + 1))) (lv' := [(4, .int (nI (5 * (N + 1)))), (6, .int c9), (5, .int k), (0, .ref b), (1, .ref x), (2, .ref o), (3, .ref ao)]) hx hb dL_law_1063 hl (k := 6) rfl (nI_add (5 * N) 5) (by first | decide | omega) rfl (fun ls hl => ?_)
      refine lv_goto (tgt := 23) hx hb dL_law_1066 (by decide) ?_
      refine W.widen (k := 100 + 8 * (N + 1)) (n := 5000 + 60 * (N + 1)) (by omega) (by omega) ?_
      exact ih _ H locs ls (LI.step hK ha e1 f hh9 R2) hM (lv_sub hl [3, 4, 5, 6, 0] rfl)
    · have ec : c9 = b9 := Value.int.inj (Option.some.inj (gv c474))
      have ob : (mo_h o A hh T).2.1 ao 0 = b9 := by
        rw [LI.out k1 ka T]
        rcases w9 with z | z
        · rw [z.2.2]; exact th_ui_s _ _ _ _
        · exact absurd c474 (N_setRef z.1.choose_spec.2)
      refine lv_aload_n hx hb dL_law_477 rfl (lv_at hl 5 rfl) ?_
      refine lv_iconst (v := 0) hx hb dL_law_478 (by decide) ?_
      refine al_9 (i := 0) hC hM ka (by decide) (by decide) (by first | decide | omega) dL_law_479 ?_
      rw [show (mo_h o A hh T).2.1 ao 0 = b9 from ob]
      refine lv_iload hx hb dL_law_480 (lv_at hl 0 rfl) ?_
      refine lv_i2l hx hb dL_law_482 rfl ?_
      refine W.lcmp hx hb dL_law_483 ?_
      rw [show lg_cmp b9.toInt64 c9.toInt64 = 0 from by rw [ec]; exact lg_cmp_s _]
      refine lv_if_eq (tgt := 489) hx hb dL_law_484 (by decide) (fun c484 => ?_) (fun c484 => ?_)
      · refine lv_goto (tgt := 1063) hx hb dL_law_489 (by decide) ?_
        refine lv_iinc (v := nI (5 * (N + 1))) (lv' := [(4, .int (nI (5 * (N + 1)))), (6, .int c9), (5, .int k), (0, .ref b), (1, .ref x), (2, .ref o), (3, .ref ao)]) hx hb dL_law_1063 hl (k := 6) rfl (nI_add (5 * N) 5) (by first | decide | omega) rfl (fun ls hl => ?_)
        refine lv_goto (tgt := 23) hx hb dL_law_1066 (by decide) ?_
        refine W.widen (k := 100 + 8 * (N + 1)) (n := 5000 + 60 * (N + 1)) (by omega) (by omega) ?_
        exact ih _ H locs ls (LI.step hK ha e1 f hh9 R2) hM (lv_sub hl [3, 4, 5, 6, 0] rfl)
      · exact absurd c484 (by decide)
  · exact absurd rfl c467

-- case 5: getInt
set_option maxHeartbeats 4000000 in
set_option maxRecDepth 100000 in
theorem lc_getInt {l : Launch} (hl0 : l.stackTraces = false) {D : va_G} {cs : Nat → ClassId} {h0 : th_S} {p : Program} {e : Env} {s : State} {m : MethodId} {below : List Frame} {meth : Method} {c : Code} {b L : Nat} {xs : Nat → Int32} (hC : th_C D cs h0 p m c code 7 s [.ref b] RL) (hX : va_X b L xs s s.heap) (hbl : b < s.heap.size) (hbA : ¬ mw_A (th_g cs h0) s.heap.size b) {Q : State → Prop} {x aR aO aH aT o ao : Nat} {rt ta A : Nat → Nat} {N : Nat} (hlt : 5 * N + 5 ≤ L) (hL : L ≤ 2560) {h : th_S} (hI : LI x aR aO aH aT o ao rt ta A h N) {H : Heap} {locs : List Loc} {ls : Array Slot} (hM : th_H D cs h0 s h H locs) (hl : lv_has ls 7 [(0, .ref b), (1, .ref x), (2, .ref o), (3, .ref ao), (4, .int (nI (5 * N)))]) (ih : ∀ (h : th_S) (H : Heap) (locs : List Loc) (ls : Array Slot), LI x aR aO aH aT o ao rt ta A h (N + 1) → th_H D cs h0 s h H locs → lv_has ls 7 [(0, .ref b), (1, .ref x), (2, .ref o), (3, .ref ao), (4, .int (nI (5 * (N + 1))))] → W p l e room_1 s m #[Value.ref b] below meth c H locs (100 + 8 * (N + 1)) (5000 + 60 * (N + 1)) Q (F0 m 23 ls [])) : W p l e room_1 s m #[Value.ref b] below meth c H locs (100 + 8 * N) (5000 + 60 * N) Q (F0 m 492 ls []) := by
  have hx := hC.1.1
  have hb := hC.1.2.1
  obtain ⟨hK, ha, S, n, u, ad, e1, R⟩ := hI
  have hN : N + 1 < 2 ^ 31 := by omega
  have kx0 : h.1 x = some (0, 0) := R.1.1.1.kx
  refine lv_aload_n hx hb dL_law_492 rfl (lv_at hl 1 rfl) ?_
  refine lv_aload_n hx hb dL_law_493 rfl (lv_at hl 0 rfl) ?_
  refine lv_iload hx hb dL_law_494 (lv_at hl 4 rfl) ?_
  refine lv_iconst (v := 1) hx hb dL_law_496 (by decide) ?_
  refine lv_iadd hx hb dL_law_497 ?_
  rw [show nI (5 * N) + 1 = nI (5 * N + 1) from nI_add (5 * N) 1]
  refine va_sld hx hb hX hbl hbA hM.2.2.1 (vp_in_nI (show 5 * N + 1 < L by omega) (by omega)) dL_law_498 ?_
  rw [nI_clamp (show 5 * N + 1 < 2 ^ 31 by omega)]
  refine lv_aload_n hx hb dL_law_499 rfl (lv_at hl 0 rfl) ?_
  refine lv_iload hx hb dL_law_500 (lv_at hl 4 rfl) ?_
  refine lv_iconst (v := 2) hx hb dL_law_502 (by decide) ?_
  refine lv_iadd hx hb dL_law_503 ?_
  rw [show nI (5 * N) + 2 = nI (5 * N + 2) from nI_add (5 * N) 2]
  refine va_sld hx hb hX hbl hbA hM.2.2.1 (vp_in_nI (show 5 * N + 2 < L by omega) (by omega)) dL_law_504 ?_
  rw [nI_clamp (show 5 * N + 2 < 2 ^ 31 by omega)]
  refine lv_aload_n hx hb dL_law_505 rfl (lv_at hl 0 rfl) ?_
  refine lv_iload hx hb dL_law_506 (lv_at hl 4 rfl) ?_
  refine lv_iconst (v := 3) hx hb dL_law_508 (by decide) ?_
  refine lv_iadd hx hb dL_law_509 ?_
  rw [show nI (5 * N) + 3 = nI (5 * N + 3) from nI_add (5 * N) 3]
  refine va_sld hx hb hX hbl hbA hM.2.2.1 (vp_in_nI (show 5 * N + 3 < L by omega) (by omega)) dL_law_510 ?_
  rw [nI_clamp (show 5 * N + 3 < 2 ^ 31 by omega)]
  refine lv_aload_n hx hb dL_law_511 rfl (lv_at hl 3 rfl) ?_
  refine mw_callSW (As := [.ref x, .int (xs (5 * N + 1)), .int (xs (5 * N + 2)), .int (xs (5 * N + 3)), .ref ao]) (rest := []) (n := 5) hC hM (c_L_getInt l hl0 D cs h H.size x aR aO aH aT rt ta S N n u ad R ao ha (xs (5 * N + 1)) (xs (5 * N + 2)) (xs (5 * N + 3))) (vx_cwSW 5 hC.1.2.2.2.2 (tb_SW mb_404 mb_405 mb_35 mb_406) rfl rfl rfl (by decide +kernel) ⟨Nat.le_of_ble_eq_true rfl, Nat.le_of_ble_eq_true rfl⟩) rfl rfl hl.1 (Nat.le_of_ble_eq_true rfl) dL_law_512 ⟨Nat.le_trans (show 100 + 8 * N + 5 ≤ 10000 by omega) (Nat.le_of_ble_eq_true rfl), Nat.le_trans (show 5000 + 60 * N + 30 ≤ 50000 by omega) (Nat.le_of_ble_eq_true rfl)⟩ (fun E ce q9 g9 H locs hp9 hM hce hcv hcl => ?_) (fun v9 g9 H locs hp9 hM => ?_)
  · exact (hp9.elim fun _ h9 => h9.2.elim)
  obtain ⟨hh, rfl, hp9⟩ := hp9
  obtain ⟨k, b9, h1, rfl, w9⟩ := hp9
  have w : (k = 0 ∧ p3_getInt aO ta h n (xs (5 * N + 1)) (xs (5 * N + 2)) (xs (5 * N + 3)) (some (.int b9)) h1) ∨ ∃ E, e3_getInt aO ta h n (xs (5 * N + 1)) (xs (5 * N + 2)) (xs (5 * N + 3)) E h1 ∧ cd_get E k := w9.imp (fun z => ⟨z.1, z.2.1⟩) (fun z => z.1)
  have hh9 : hh = h1 ∨ ∃ b, hh = th_ui h1 ao 0 b := w9.elim (fun z => Or.inr ⟨_, z.2.2⟩) (fun z => Or.inl z.2)
  have f : fr7 h h1 := F_getInt R w
  obtain ⟨k1, k2, k3, k4, k5⟩ := LI.cls hK e1 ha f hh9
  have ka : hh.1 ao = some (9, 1) := by rw [k3]; exact (f ao _ ha (by show 7 ≤ 9; omega)).1
  have hM : th_H D cs h0 s (mo_h o A hh S) H locs := by rw [k2]; exact hM
  refine W.widen (k := 100 + 8 * N + 5) (n := 5000 + 60 * N + 30) (Nat.le_refl _) (Nat.le_refl _) ?_
  refine W.eq (g2 := F0 m 515 ls [.int k]) rfl ?_
  refine lv_istore (lv' := [(5, .int k), (0, .ref b), (1, .ref x), (2, .ref o), (3, .ref ao), (4, .int (nI (5 * N)))]) hx hb dL_law_515 hl (by decide) rfl (fun ls hl => ?_)
  refine lv_aload_n hx hb dL_law_517 rfl (lv_at hl 3 rfl) ?_
  refine lv_aload_n hx hb dL_law_518 rfl (lv_at hl 1 rfl) ?_
  refine lv_iload hx hb dL_law_519 (lv_at hl 5 rfl) ?_
  refine lv_iconst (v := 1) hx hb dL_law_521 (by decide) ?_
  refine lv_iadd hx hb dL_law_522 ?_
  rw [show nI (5 * N) + 1 = nI (5 * N + 1) from nI_add (5 * N) 1]
  refine va_sld hx hb hX hbl hbA hM.2.2.1 (vp_in_nI (show 5 * N + 1 < L by omega) (by omega)) dL_law_523 ?_
  rw [nI_clamp (show 5 * N + 1 < 2 ^ 31 by omega)]
  refine lv_aload_n hx hb dL_law_524 rfl (lv_at hl 1 rfl) ?_
  refine lv_iload hx hb dL_law_525 (lv_at hl 5 rfl) ?_
  refine lv_iconst (v := 2) hx hb dL_law_527 (by decide) ?_
  refine lv_iadd hx hb dL_law_528 ?_
  rw [show nI (5 * N) + 2 = nI (5 * N + 2) from nI_add (5 * N) 2]
  refine va_sld hx hb hX hbl hbA hM.2.2.1 (vp_in_nI (show 5 * N + 2 < L by omega) (by omega)) dL_law_529 ?_
  rw [nI_clamp (show 5 * N + 2 < 2 ^ 31 by omega)]
  refine lv_aload_n hx hb dL_law_530 rfl (lv_at hl 1 rfl) ?_
  refine lv_iload hx hb dL_law_531 (lv_at hl 5 rfl) ?_
  refine lv_iconst (v := 3) hx hb dL_law_533 (by decide) ?_
  refine lv_iadd hx hb dL_law_534 ?_
  rw [show nI (5 * N) + 3 = nI (5 * N + 3) from nI_add (5 * N) 3]
  refine va_sld hx hb hX hbl hbA hM.2.2.1 (vp_in_nI (show 5 * N + 3 < L by omega) (by omega)) dL_law_535 ?_
  rw [nI_clamp (show 5 * N + 3 < 2 ^ 31 by omega)]
  refine mw_callV (As := [.int (xs (5 * N + 1)), .int (xs (5 * N + 2)), .int (xs (5 * N + 3))]) (rest := []) (n := 3) (C := RX4) (T := TX4) (N := 21) (ci := 4) hC hM (c_X4_getInt l hl0 D cs hh H.size o A k1 S (xs (5 * N + 1)) (xs (5 * N + 2)) (xs (5 * N + 3)) R.z9) (cwV 3 hC.1.2.2.2.2 (tb_V mb_619 mb_620 mb_621 mb_40 mb_622) rfl rfl rfl (by decide +kernel) ⟨Nat.le_of_ble_eq_true rfl, Nat.le_of_ble_eq_true rfl⟩) (th_at (h := mo_h o A hh S) k1.1) rfl rfl rfl hl.1 (Nat.le_of_ble_eq_true rfl) dL_law_536 ⟨Nat.le_trans (show 100 + 8 * N + 5 + 0 ≤ 10000 by omega) (Nat.le_of_ble_eq_true rfl), Nat.le_trans (show 5000 + 60 * N + 30 + 0 ≤ 50000 by omega) (Nat.le_of_ble_eq_true rfl)⟩ (fun E ce q9 g9 H locs hp9 hM hce hcv hcl => ?_) (fun v9 g9 H locs hp9 hM => ?_)
  · exact (hp9.elim fun _ h9 => h9.2.elim)
  obtain ⟨h2, rfl, hp9⟩ := hp9
  have hp9 : p4_getInt S (mo_h o A hh) (xs (5 * N + 1)) (xs (5 * N + 2)) (xs (5 * N + 3)) v9 h2 := hp9
  obtain ⟨c9, rfl⟩ := U_getInt hp9
  obtain ⟨-, T, n2, u2, ad2, rfl, g0, gv, R2⟩ := G_getInt R hN w hp9
  refine W.widen (k := 100 + 8 * N + 5) (n := 5000 + 60 * N + 30) (Nat.le_refl _) (Nat.le_refl _) ?_
  refine W.eq (g2 := F0 m 539 ls [.int c9]) rfl ?_
  refine lv_istore (lv' := [(6, .int c9), (5, .int k), (0, .ref b), (1, .ref x), (2, .ref o), (3, .ref ao), (4, .int (nI (5 * N)))]) hx hb dL_law_539 hl (by decide) rfl (fun ls hl => ?_)
  refine lv_aload_n hx hb dL_law_541 rfl (lv_at hl 4 rfl) ?_
  refine mw_callV (As := []) (rest := []) (n := 0) (C := RX4) (T := TX4) (N := 21) (ci := 4) hC hM (c_X4_thrown l hl0 D cs hh H.size o A k1 T) (cwV 0 hC.1.2.2.2.2 (tb_V mb_556 mb_557 mb_558 mb_40 mb_559) rfl rfl rfl (by decide +kernel) ⟨Nat.le_of_ble_eq_true rfl, Nat.le_of_ble_eq_true rfl⟩) (th_at (h := mo_h o A hh T) k1.1) rfl rfl rfl hl.1 (Nat.le_of_ble_eq_true rfl) dL_law_542 ⟨Nat.le_trans (show 100 + 8 * N + 5 + 0 ≤ 10000 by omega) (Nat.le_of_ble_eq_true rfl), Nat.le_trans (show 5000 + 60 * N + 30 + 0 ≤ 50000 by omega) (Nat.le_of_ble_eq_true rfl)⟩ (fun E ce q9 g9 H locs hp9 hM hce hcv hcl => ?_) (fun v9 g9 H locs hp9 hM => ?_)
  · exact (hp9.elim fun _ h9 => h9.2.elim)
  obtain ⟨h2, rfl, hp9⟩ := hp9
  obtain ⟨rfl, rfl⟩ := hp9
  rw [g0]
  refine W.widen (k := 100 + 8 * N + 5) (n := 5000 + 60 * N + 30) (Nat.le_refl _) (Nat.le_refl _) ?_
  refine W.eq (g2 := F0 m 545 ls [.int k]) rfl ?_
  refine lv_iload hx hb dL_law_545 (lv_at hl 1 rfl) ?_
  refine lv_icmp_eq (tgt := 552) hx hb dL_law_547 (by decide) (fun c547 => ?_) (fun c547 => ?_)
  · refine lv_iload hx hb dL_law_552 (lv_at hl 1 rfl) ?_
    refine lv_if_ne (tgt := 569) hx hb dL_law_554 (by decide) (fun c554 => ?_) (fun c554 => ?_)
    · refine lv_goto (tgt := 1063) hx hb dL_law_569 (by decide) ?_
      refine lv_iinc (v := nI (5 * (N + 1))) (lv' := [(4, .int (nI (5 * (N + 1)))), (6, .int c9), (5, .int k), (0, .ref b), (1, .ref x), (2, .ref o), (3, .ref ao)]) hx hb dL_law_1063 hl (k := 6) rfl (nI_add (5 * N) 5) (by first | decide | omega) rfl (fun ls hl => ?_)
      refine lv_goto (tgt := 23) hx hb dL_law_1066 (by decide) ?_
      refine W.widen (k := 100 + 8 * (N + 1)) (n := 5000 + 60 * (N + 1)) (by omega) (by omega) ?_
      exact ih _ H locs ls (LI.step hK ha e1 f hh9 R2) hM (lv_sub hl [3, 4, 5, 6, 0] rfl)
    · have ec : c9 = b9 := Value.int.inj (Option.some.inj (gv c554))
      have ob : (mo_h o A hh T).2.1 ao 0 = b9 := by
        rw [LI.out k1 ka T]
        rcases w9 with z | z
        · rw [z.2.2]; exact th_ui_s _ _ _ _
        · exact absurd c554 (N_get z.1.choose_spec.2)
      refine lv_aload_n hx hb dL_law_557 rfl (lv_at hl 5 rfl) ?_
      refine lv_iconst (v := 0) hx hb dL_law_558 (by decide) ?_
      refine al_9 (i := 0) hC hM ka (by decide) (by decide) (by first | decide | omega) dL_law_559 ?_
      rw [show (mo_h o A hh T).2.1 ao 0 = b9 from ob]
      refine lv_iload hx hb dL_law_560 (lv_at hl 0 rfl) ?_
      refine lv_i2l hx hb dL_law_562 rfl ?_
      refine W.lcmp hx hb dL_law_563 ?_
      rw [show lg_cmp b9.toInt64 c9.toInt64 = 0 from by rw [ec]; exact lg_cmp_s _]
      refine lv_if_eq (tgt := 569) hx hb dL_law_564 (by decide) (fun c564 => ?_) (fun c564 => ?_)
      · refine lv_goto (tgt := 1063) hx hb dL_law_569 (by decide) ?_
        refine lv_iinc (v := nI (5 * (N + 1))) (lv' := [(4, .int (nI (5 * (N + 1)))), (6, .int c9), (5, .int k), (0, .ref b), (1, .ref x), (2, .ref o), (3, .ref ao)]) hx hb dL_law_1063 hl (k := 6) rfl (nI_add (5 * N) 5) (by first | decide | omega) rfl (fun ls hl => ?_)
        refine lv_goto (tgt := 23) hx hb dL_law_1066 (by decide) ?_
        refine W.widen (k := 100 + 8 * (N + 1)) (n := 5000 + 60 * (N + 1)) (by omega) (by omega) ?_
        exact ih _ H locs ls (LI.step hK ha e1 f hh9 R2) hM (lv_sub hl [3, 4, 5, 6, 0] rfl)
      · exact absurd c564 (by decide)
  · exact absurd rfl c547

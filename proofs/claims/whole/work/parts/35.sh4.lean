/-! StableHeap: sets, roots, begin, looks -/

-- StableHeap.setInt
set_option maxHeartbeats 4000000 in
set_option maxRecDepth 100000 in
theorem c_X3_setInt (l : Launch) (hl0 : l.stackTraces = false) (D : va_G) (cs : Nat → ClassId) (h : th_S) (sz : Nat) (x aR aO aH aT : Nat) (rt ta : Nat → Nat) (hK : sh_K x aR aO aH aT rt ta h) (n : Nat) (hO : sh_O x aO n h) (k o f val : Int32) : th_M l yX3_setInt wsX3_setInt { frames := 7, cells := 5, slots := 30, locals := 112 } D cs h sz [.ref x, .int k, .int o, .int f, .int val] (fun v h' => ∃ i a q, sh_tx ta h k i ∧ sh_ob aO n h o a ∧ sh_fd h a f q ∧ (h.2.1 a 2 = 0 ∨ h.2.1 a 2 = k) ∧ sh_wl x ta h + 3 ≤ 150 ∧ h' = pl_num (th_ui (th_ui h (ta i) 1 (h.2.1 (ta i) 1 + 3)) a 2 k) q val ∧ v = some (.int 1)) (fun E h' => h = h' ∧ sh_px ta aO n h k o f E (fun i a q => sh_lx h a k E (E = "java/lang/UnsupportedOperationException" ∧ ¬ sh_wl x ta h + 3 ≤ 150))) := by
  refine mw_ofW (cc := cX3_setInt) (maxL := 8) (ret := (some .int)) (by decide) rfl (fun w h => List.mem_cons_of_mem _ h) th_cd (Nat.le_of_ble_eq_true rfl) ?_
  intro p e s m below meth c hsz hC hr hlk hnm htab hM ls hl
  have hC : th_C D cs h p m c cX3_setInt 8 s [.ref x, .int k, .int o, .int f, .int val] RX3 := hC
  have hx := hC.1.1
  have hb := hC.1.2.1
  have kx0 : h.1 x = some (0, 0) := hK.kx
  have hl : lv_has ls 8 [(0, .ref x), (1, .int k), (2, .int o), (3, .int f), (4, .int val)] := hl
  refine lv_aload_n hx hb dX3_setInt_0 rfl (lv_at hl 0 rfl) ?_
  refine lv_iload_n hx hb dX3_setInt_1 rfl (lv_at hl 1 rfl) ?_
  refine mw_callV (As := [.int k]) (rest := []) (n := 1) (C := RX3) (T := TX3) (N := 11) (ci := 3) hC hM (c_X3_activeTransaction l hl0 D cs h s.heap.size x aR aO aH aT rt ta hK k) (cwV 1 hC.1.2.2.2.2 (tb_V mb_308 mb_309 mb_9 mb_36 mb_310) rfl rfl rfl (by decide +kernel) ⟨Nat.le_of_ble_eq_true rfl, Nat.le_of_ble_eq_true rfl⟩) (th_at (h := h) kx0) rfl rfl rfl hl.1 (Nat.le_of_ble_eq_true rfl) dX3_setInt_2 ⟨Nat.le_of_ble_eq_true rfl, Nat.le_of_ble_eq_true rfl⟩ (fun E ce q9 g9 H locs hp9 hM hce hcv hcl => ?_) (fun v9 g9 H locs hp9 hM => ?_)
  · obtain ⟨h9, rfl, rfl, rfl, hf⟩ := hp9
    exact mw_out hM htab hlk hce hcv hcl (Nat.le_of_ble_eq_true rfl) (Nat.le_of_ble_eq_true rfl) ⟨_, rfl, rfl, Or.inl ⟨rfl, hf⟩⟩
  obtain ⟨h2, rfl, hp9⟩ := hp9
  obtain ⟨rfl, i, hi, rfl⟩ := hp9
  have kti : h.1 (ta i) = some (1, 0) := hK.kta hi.1
  refine W.eq (g2 := F0 m 5 ls [.ref (ta i)]) rfl ?_
  refine lv_astore (lv' := [(5, .ref (ta i)), (0, .ref x), (1, .int k), (2, .int o), (3, .int f), (4, .int val)]) hx hb dX3_setInt_5 hl (by decide) rfl (fun ls hl => ?_)
  refine lv_aload_n hx hb dX3_setInt_7 rfl (lv_at hl 1 rfl) ?_
  refine lv_iload_n hx hb dX3_setInt_8 rfl (lv_at hl 3 rfl) ?_
  refine mw_callV (As := [.int o]) (rest := []) (n := 1) (C := RX3) (T := TX3) (N := 11) (ci := 3) hC hM (c_X3_objectWith l hl0 D cs h H.size x aR aO aH aT rt ta hK n hO o) (cwV 1 hC.1.2.2.2.2 (tb_V mb_347 mb_348 mb_10 mb_36 mb_349) rfl rfl rfl (by decide +kernel) ⟨Nat.le_of_ble_eq_true rfl, Nat.le_of_ble_eq_true rfl⟩) (th_at (h := h) kx0) rfl rfl rfl hl.1 (Nat.le_of_ble_eq_true rfl) dX3_setInt_9 ⟨Nat.le_of_ble_eq_true rfl, Nat.le_of_ble_eq_true rfl⟩ (fun E ce q9 g9 H locs hp9 hM hce hcv hcl => ?_) (fun v9 g9 H locs hp9 hM => ?_)
  · obtain ⟨h9, rfl, rfl, rfl, hf⟩ := hp9
    exact mw_out hM htab hlk hce hcv hcl (Nat.le_of_ble_eq_true rfl) (Nat.le_of_ble_eq_true rfl) ⟨_, rfl, rfl, Or.inr ⟨i, hi, Or.inl ⟨rfl, hf⟩⟩⟩
  obtain ⟨h9, rfl, hp9⟩ := hp9
  obtain ⟨rfl, a, rfl, ho⟩ := hp9
  obtain ⟨pa, np, hpa, hnp, hn4⟩ := hK.lk (ho.k hO)
  have kao : h.1 a = some (2, 0) := ho.k hO
  refine W.eq (g2 := F0 m 12 ls [.ref a]) rfl ?_
  refine lv_astore (lv' := [(6, .ref a), (5, .ref (ta i)), (0, .ref x), (1, .int k), (2, .int o), (3, .int f), (4, .int val)]) hx hb dX3_setInt_12 hl (by decide) rfl (fun ls hl => ?_)
  refine lv_aload hx hb dX3_setInt_14 (lv_at hl 0 rfl) ?_
  refine lv_iload_n hx hb dX3_setInt_16 rfl (lv_at hl 5 rfl) ?_
  refine mw_callS (As := [.ref a, .int f]) (rest := []) (n := 2) hC hM (c_X3_fieldOf l hl0 D cs h H.size a pa np (ho.k hO) hpa hnp hn4 (fun j hj => hK.pa hnp hj) f) (va_cwS 2 hC.1.2.2.2.2 (tb_S mb_353 mb_354 mb_36 mb_355) rfl rfl rfl (by decide +kernel) ⟨Nat.le_of_ble_eq_true rfl, Nat.le_of_ble_eq_true rfl⟩) rfl rfl hl.1 (Nat.le_of_ble_eq_true rfl) dX3_setInt_17 ⟨Nat.le_of_ble_eq_true rfl, Nat.le_of_ble_eq_true rfl⟩ (fun E ce q9 g9 H locs hp9 hM hce hcv hcl => ?_) (fun v9 g9 H locs hp9 hM => ?_)
  · obtain ⟨h9, rfl, rfl, rfl, hf⟩ := hp9
    exact mw_out hM htab hlk hce hcv hcl (Nat.le_of_ble_eq_true rfl) (Nat.le_of_ble_eq_true rfl) ⟨_, rfl, rfl, Or.inr ⟨i, hi, Or.inr ⟨a, ho, Or.inl ⟨rfl, hf⟩⟩⟩⟩
  obtain ⟨h17, rfl, hp9⟩ := hp9
  obtain ⟨rfl, q, rfl, hq⟩ := hp9
  have kqo : h.1 q = some (3, 0) := hq.k hK
  refine W.eq (g2 := F0 m 20 ls [.ref q]) rfl ?_
  refine lv_astore (lv' := [(7, .ref q), (6, .ref a), (5, .ref (ta i)), (0, .ref x), (1, .int k), (2, .int o), (3, .int f), (4, .int val)]) hx hb dX3_setInt_20 hl (by decide) rfl (fun ls hl => ?_)
  refine lv_aload hx hb dX3_setInt_22 (lv_at hl 1 rfl) ?_
  refine lv_aload hx hb dX3_setInt_24 (lv_at hl 2 rfl) ?_
  refine mw_callS (As := [.ref a, .ref (ta i)]) (rest := []) (n := 2) hC hM (c_X3_refuseIfLockedByAnother l hl0 D cs h H.size a (ta i) (ho.k hO) (hK.kta hi.1)) (va_cwS 2 hC.1.2.2.2.2 (tb_S mb_370 mb_371 mb_36 mb_372) rfl rfl rfl (by decide +kernel) ⟨Nat.le_of_ble_eq_true rfl, Nat.le_of_ble_eq_true rfl⟩) rfl rfl hl.1 (Nat.le_of_ble_eq_true rfl) dX3_setInt_26 ⟨Nat.le_of_ble_eq_true rfl, Nat.le_of_ble_eq_true rfl⟩ (fun E ce q9 g9 H locs hp9 hM hce hcv hcl => ?_) (fun v9 g9 H locs hp9 hM => ?_)
  · obtain ⟨h9, rfl, rfl, rfl, hf⟩ := hp9
    exact mw_out hM htab hlk hce hcv hcl (Nat.le_of_ble_eq_true rfl) (Nat.le_of_ble_eq_true rfl) ⟨_, rfl, rfl, Or.inr ⟨i, hi, Or.inr ⟨a, ho, Or.inr ⟨q, hq, Or.inl ⟨rfl, by rw [← hi.2.2]; exact hf⟩⟩⟩⟩⟩
  obtain ⟨h26, rfl, hp9⟩ := hp9
  obtain ⟨rfl, rfl, hlo⟩ := hp9
  refine W.eq (g2 := F0 m 29 ls []) rfl ?_
  refine lv_aload_n hx hb dX3_setInt_29 rfl (lv_at hl 3 rfl) ?_
  refine lv_aload hx hb dX3_setInt_30 (lv_at hl 2 rfl) ?_
  refine lv_iconst (v := 3) hx hb dX3_setInt_32 (by decide) ?_
  refine mw_callV (As := [.ref (ta i), .int 3]) (rest := []) (n := 2) (C := RX3) (T := TX3) (N := 11) (ci := 3) hC hM (c_X3_writeRecord l hl0 D cs h H.size x aR aO aH aT rt ta hK (ta i) (hK.kta hi.1) 3) (cwV 2 hC.1.2.2.2.2 (tb_V mb_282 mb_283 mb_8 mb_36 mb_284) rfl rfl rfl (by decide +kernel) ⟨Nat.le_of_ble_eq_true rfl, Nat.le_of_ble_eq_true rfl⟩) (th_at (h := h) kx0) rfl rfl rfl hl.1 (Nat.le_of_ble_eq_true rfl) dX3_setInt_33 ⟨Nat.le_of_ble_eq_true rfl, Nat.le_of_ble_eq_true rfl⟩ (fun E ce q9 g9 H locs hp9 hM hce hcv hcl => ?_) (fun v9 g9 H locs hp9 hM => ?_)
  · obtain ⟨h9, rfl, rfl, rfl, hw⟩ := hp9
    exact mw_out hM htab hlk hce hcv hcl (Nat.le_of_ble_eq_true rfl) (Nat.le_of_ble_eq_true rfl) ⟨_, rfl, rfl, Or.inr ⟨i, hi, Or.inr ⟨a, ho, Or.inr ⟨q, hq, Or.inr ⟨by rw [← hi.2.2]; exact hlo, rfl, hw⟩⟩⟩⟩⟩
  obtain ⟨h33, rfl, hp9⟩ := hp9
  obtain ⟨rfl, rfl, hw⟩ := hp9
  refine W.eq (g2 := F0 m 36 ls []) rfl ?_
  refine lv_aload hx hb dX3_setInt_36 (lv_at hl 1 rfl) ?_
  refine lv_aload hx hb dX3_setInt_38 (lv_at hl 2 rfl) ?_
  refine gi_1_0 (index := 43) hC hM kti mb_117 dX3_setInt_40 ?_
  rw [show (th_ui h (ta i) 1 (h.2.1 (ta i) 1 + 3)).2.1 (ta i) 0 = k from (th_ui_k _ _ _ (by decide)).trans hi.2.2]
  refine pu_2_2 (index := 71) (v := k) hC hM kao mb_100 dX3_setInt_43 (fun H locs hM => ?_)
  refine lv_aload hx hb dX3_setInt_46 (lv_at hl 0 rfl) ?_
  refine lv_iload hx hb dX3_setInt_48 (lv_at hl 7 rfl) ?_
  refine mw_callV (As := [.int val]) (rest := []) (n := 1) (C := RX1) (T := TX1) (N := 7) (ci := 1) hC hM (c_X1_putNumber l hl0 D cs (th_ui (th_ui h (ta i) 1 (h.2.1 (ta i) 1 + 3)) a 2 k) H.size q kqo (((hK.uk kti (by decide)).uk kao (by decide)).pl kqo).1 val) (cwV 1 hC.1.2.2.2.2 (tb_V mb_373 mb_374 mb_375 mb_38 mb_376) rfl rfl rfl (by decide +kernel) ⟨Nat.le_of_ble_eq_true rfl, Nat.le_of_ble_eq_true rfl⟩) (th_at (h := th_ui (th_ui h (ta i) 1 (h.2.1 (ta i) 1 + 3)) a 2 k) kqo) rfl rfl rfl hl.1 (Nat.le_of_ble_eq_true rfl) dX3_setInt_50 ⟨Nat.le_of_ble_eq_true rfl, Nat.le_of_ble_eq_true rfl⟩ (fun E ce q9 g9 H locs hp9 hM hce hcv hcl => ?_) (fun v9 g9 H locs hp9 hM => ?_)
  · exact (hp9.elim fun _ h9 => h9.2.elim)
  obtain ⟨h50, rfl, hp9⟩ := hp9
  obtain ⟨rfl, rfl⟩ := hp9
  refine W.eq (g2 := F0 m 53 ls []) rfl ?_
  refine lv_iconst (v := 1) hx hb dX3_setInt_53 (by decide) ?_
  refine mw_iret hC hM hr hlk dX3_setInt_54 (Nat.le_of_ble_eq_true rfl) (Nat.le_of_ble_eq_true rfl) ⟨_, rfl, ?_⟩
  exact ⟨i, a, q, hi, ho, hq, by rw [← hi.2.2]; exact hlo, hw, rfl, rfl⟩

-- StableHeap.setReference
set_option maxHeartbeats 4000000 in
set_option maxRecDepth 100000 in
theorem c_X3_setReference (l : Launch) (hl0 : l.stackTraces = false) (D : va_G) (cs : Nat → ClassId) (h : th_S) (sz : Nat) (x aR aO aH aT : Nat) (rt ta : Nat → Nat) (hK : sh_K x aR aO aH aT rt ta h) (n : Nat) (hO : sh_O x aO n h) (k o f val : Int32) : th_M l yX3_setReference wsX3_setReference { frames := 8, cells := 6, slots := 36, locals := 137 } D cs h sz [.ref x, .int k, .int o, .int f, .int val] (fun v h' => ∃ i a q r, sh_tx ta h k i ∧ sh_ob aO n h o a ∧ sh_fd h a f q ∧ (h.2.1 a 2 = 0 ∨ h.2.1 a 2 = k) ∧ sh_fo aO n h val r ∧ (val = 0 ∨ r ≠ none) ∧ sh_wl x ta h + 3 ≤ 150 ∧ h' = pl_ref (th_ui (th_ui h (ta i) 1 (h.2.1 (ta i) 1 + 3)) a 2 (h.2.1 (ta i) 0)) q r ∧ v = some (.int 1)) (fun E h' => h = h' ∧ sh_px ta aO n h k o f E (fun i a q => sh_lx h a k E ((E = "java/lang/IllegalArgumentException" ∧ ¬ val = 0 ∧ sh_no aO n h val) ∨ ∃ r, sh_fo aO n h val r ∧ (val = 0 ∨ r ≠ none) ∧ E = "java/lang/UnsupportedOperationException" ∧ ¬ sh_wl x ta h + 3 ≤ 150))) := by
  refine mw_ofW (cc := cX3_setReference) (maxL := 8) (ret := (some .int)) (by decide) rfl (fun w h => List.mem_cons_of_mem _ h) th_cd (Nat.le_of_ble_eq_true rfl) ?_
  intro p e s m below meth c hsz hC hr hlk hnm htab hM ls hl
  have hC : th_C D cs h p m c cX3_setReference 8 s [.ref x, .int k, .int o, .int f, .int val] RX3 := hC
  have hx := hC.1.1
  have hb := hC.1.2.1
  have kx0 : h.1 x = some (0, 0) := hK.kx
  have hl : lv_has ls 8 [(0, .ref x), (1, .int k), (2, .int o), (3, .int f), (4, .int val)] := hl
  refine lv_aload_n hx hb dX3_setReference_0 rfl (lv_at hl 0 rfl) ?_
  refine lv_iload_n hx hb dX3_setReference_1 rfl (lv_at hl 1 rfl) ?_
  refine mw_callV (As := [.int k]) (rest := []) (n := 1) (C := RX3) (T := TX3) (N := 11) (ci := 3) hC hM (c_X3_activeTransaction l hl0 D cs h s.heap.size x aR aO aH aT rt ta hK k) (cwV 1 hC.1.2.2.2.2 (tb_V mb_308 mb_309 mb_9 mb_36 mb_310) rfl rfl rfl (by decide +kernel) ⟨Nat.le_of_ble_eq_true rfl, Nat.le_of_ble_eq_true rfl⟩) (th_at (h := h) kx0) rfl rfl rfl hl.1 (Nat.le_of_ble_eq_true rfl) dX3_setReference_2 ⟨Nat.le_of_ble_eq_true rfl, Nat.le_of_ble_eq_true rfl⟩ (fun E ce q9 g9 H locs hp9 hM hce hcv hcl => ?_) (fun v9 g9 H locs hp9 hM => ?_)
  · obtain ⟨h9, rfl, rfl, rfl, hf⟩ := hp9
    exact mw_out hM htab hlk hce hcv hcl (Nat.le_of_ble_eq_true rfl) (Nat.le_of_ble_eq_true rfl) ⟨_, rfl, rfl, Or.inl ⟨rfl, hf⟩⟩
  obtain ⟨h2, rfl, hp9⟩ := hp9
  obtain ⟨rfl, i, hi, rfl⟩ := hp9
  have kti : h.1 (ta i) = some (1, 0) := hK.kta hi.1
  refine W.eq (g2 := F0 m 5 ls [.ref (ta i)]) rfl ?_
  refine lv_astore (lv' := [(5, .ref (ta i)), (0, .ref x), (1, .int k), (2, .int o), (3, .int f), (4, .int val)]) hx hb dX3_setReference_5 hl (by decide) rfl (fun ls hl => ?_)
  refine lv_aload_n hx hb dX3_setReference_7 rfl (lv_at hl 1 rfl) ?_
  refine lv_iload_n hx hb dX3_setReference_8 rfl (lv_at hl 3 rfl) ?_
  refine mw_callV (As := [.int o]) (rest := []) (n := 1) (C := RX3) (T := TX3) (N := 11) (ci := 3) hC hM (c_X3_objectWith l hl0 D cs h H.size x aR aO aH aT rt ta hK n hO o) (cwV 1 hC.1.2.2.2.2 (tb_V mb_347 mb_348 mb_10 mb_36 mb_349) rfl rfl rfl (by decide +kernel) ⟨Nat.le_of_ble_eq_true rfl, Nat.le_of_ble_eq_true rfl⟩) (th_at (h := h) kx0) rfl rfl rfl hl.1 (Nat.le_of_ble_eq_true rfl) dX3_setReference_9 ⟨Nat.le_of_ble_eq_true rfl, Nat.le_of_ble_eq_true rfl⟩ (fun E ce q9 g9 H locs hp9 hM hce hcv hcl => ?_) (fun v9 g9 H locs hp9 hM => ?_)
  · obtain ⟨h9, rfl, rfl, rfl, hf⟩ := hp9
    exact mw_out hM htab hlk hce hcv hcl (Nat.le_of_ble_eq_true rfl) (Nat.le_of_ble_eq_true rfl) ⟨_, rfl, rfl, Or.inr ⟨i, hi, Or.inl ⟨rfl, hf⟩⟩⟩
  obtain ⟨h9, rfl, hp9⟩ := hp9
  obtain ⟨rfl, a, rfl, ho⟩ := hp9
  obtain ⟨pa, np, hpa, hnp, hn4⟩ := hK.lk (ho.k hO)
  have kao : h.1 a = some (2, 0) := ho.k hO
  refine W.eq (g2 := F0 m 12 ls [.ref a]) rfl ?_
  refine lv_astore (lv' := [(6, .ref a), (5, .ref (ta i)), (0, .ref x), (1, .int k), (2, .int o), (3, .int f), (4, .int val)]) hx hb dX3_setReference_12 hl (by decide) rfl (fun ls hl => ?_)
  refine lv_aload hx hb dX3_setReference_14 (lv_at hl 0 rfl) ?_
  refine lv_iload_n hx hb dX3_setReference_16 rfl (lv_at hl 5 rfl) ?_
  refine mw_callS (As := [.ref a, .int f]) (rest := []) (n := 2) hC hM (c_X3_fieldOf l hl0 D cs h H.size a pa np (ho.k hO) hpa hnp hn4 (fun j hj => hK.pa hnp hj) f) (va_cwS 2 hC.1.2.2.2.2 (tb_S mb_353 mb_354 mb_36 mb_355) rfl rfl rfl (by decide +kernel) ⟨Nat.le_of_ble_eq_true rfl, Nat.le_of_ble_eq_true rfl⟩) rfl rfl hl.1 (Nat.le_of_ble_eq_true rfl) dX3_setReference_17 ⟨Nat.le_of_ble_eq_true rfl, Nat.le_of_ble_eq_true rfl⟩ (fun E ce q9 g9 H locs hp9 hM hce hcv hcl => ?_) (fun v9 g9 H locs hp9 hM => ?_)
  · obtain ⟨h9, rfl, rfl, rfl, hf⟩ := hp9
    exact mw_out hM htab hlk hce hcv hcl (Nat.le_of_ble_eq_true rfl) (Nat.le_of_ble_eq_true rfl) ⟨_, rfl, rfl, Or.inr ⟨i, hi, Or.inr ⟨a, ho, Or.inl ⟨rfl, hf⟩⟩⟩⟩
  obtain ⟨h17, rfl, hp9⟩ := hp9
  obtain ⟨rfl, q, rfl, hq⟩ := hp9
  have kqo : h.1 q = some (3, 0) := hq.k hK
  refine W.eq (g2 := F0 m 20 ls [.ref q]) rfl ?_
  refine lv_astore (lv' := [(7, .ref q), (6, .ref a), (5, .ref (ta i)), (0, .ref x), (1, .int k), (2, .int o), (3, .int f), (4, .int val)]) hx hb dX3_setReference_20 hl (by decide) rfl (fun ls hl => ?_)
  refine lv_aload_n hx hb dX3_setReference_22 rfl (lv_at hl 3 rfl) ?_
  refine lv_aload hx hb dX3_setReference_23 (lv_at hl 2 rfl) ?_
  refine lv_aload hx hb dX3_setReference_25 (lv_at hl 1 rfl) ?_
  refine lv_aload hx hb dX3_setReference_27 (lv_at hl 0 rfl) ?_
  refine lv_iload hx hb dX3_setReference_29 (lv_at hl 7 rfl) ?_
  refine mw_callV (As := [.ref (ta i), .ref a, .ref q, .int val]) (rest := []) (n := 4) (C := RX3) (T := TX3) (N := 11) (ci := 3) hC hM (c_X3_refer l hl0 D cs h H.size x aR aO aH aT rt ta hK n hO (ta i) a q val (hK.kta hi.1) (ho.k hO) (hq.k hK)) (cwV 4 hC.1.2.2.2.2 (tb_V mb_387 mb_388 mb_13 mb_36 mb_389) rfl rfl rfl (by decide +kernel) ⟨Nat.le_of_ble_eq_true rfl, Nat.le_of_ble_eq_true rfl⟩) (th_at (h := h) kx0) rfl rfl rfl hl.1 (Nat.le_of_ble_eq_true rfl) dX3_setReference_31 ⟨Nat.le_of_ble_eq_true rfl, Nat.le_of_ble_eq_true rfl⟩ (fun E ce q9 g9 H locs hp9 hM hce hcv hcl => ?_) (fun v9 g9 H locs hp9 hM => ?_)
  · obtain ⟨h9, rfl, rfl, hf⟩ := hp9
    rw [hi.2.2] at hf
    exact mw_out hM htab hlk hce hcv hcl (Nat.le_of_ble_eq_true rfl) (Nat.le_of_ble_eq_true rfl) ⟨_, rfl, rfl, Or.inr ⟨i, hi, Or.inr ⟨a, ho, Or.inr ⟨q, hq, hf⟩⟩⟩⟩
  obtain ⟨h31, rfl, hp9⟩ := hp9
  obtain ⟨rfl, hlo, r, hf, hr9, hw, rfl⟩ := hp9
  rw [hi.2.2] at hlo
  refine W.eq (g2 := F0 m 34 ls []) rfl ?_
  refine lv_iconst (v := 1) hx hb dX3_setReference_34 (by decide) ?_
  refine mw_iret hC hM hr hlk dX3_setReference_35 (Nat.le_of_ble_eq_true rfl) (Nat.le_of_ble_eq_true rfl) ⟨_, rfl, ?_⟩
  exact ⟨i, a, q, r, hi, ho, hq, hlo, hf, hr9, hw, rfl, rfl⟩

def sh_rp (h : th_S) (a q : Nat) : Prop := ∃ pa, h.2.2 a 1 = some pa ∧ h.1 pa = some (6, 1) ∧ h.2.2 pa 0 = some q ∧ h.1 q = some (3, 0)

-- StableHeap.setRoot
set_option maxHeartbeats 4000000 in
set_option maxRecDepth 100000 in
theorem c_X3_setRoot (l : Launch) (hl0 : l.stackTraces = false) (D : va_G) (cs : Nat → ClassId) (h : th_S) (sz : Nat) (x aR aO aH aT : Nat) (rt ta : Nat → Nat) (hK : sh_K x aR aO aH aT rt ta h) (n : Nat) (hO : sh_O x aO n h) (k o val : Int32) : th_M l yX3_setRoot wsX3_setRoot { frames := 8, cells := 5, slots := 30, locals := 137 } D cs h sz [.ref x, .int k, .int o, .int val] (fun v h' => ∃ i j q r, sh_tx ta h k i ∧ j < 4 ∧ o = nI j ∧ sh_rp h (rt j) q ∧ (h.2.1 (rt j) 2 = 0 ∨ h.2.1 (rt j) 2 = k) ∧ sh_fo aO n h val r ∧ (val = 0 ∨ r ≠ none) ∧ sh_wl x ta h + 3 ≤ 150 ∧ h' = pl_ref (th_ui (th_ui h (ta i) 1 (h.2.1 (ta i) 1 + 3)) (rt j) 2 (h.2.1 (ta i) 0)) q r ∧ v = some (.int 1)) (fun E h' => h = h' ∧ ((E = "java/util/NoSuchElementException" ∧ sh_nt ta h k) ∨ ∃ i, sh_tx ta h k i ∧ ((E = "java/lang/IndexOutOfBoundsException" ∧ (o < 0 ∨ 4 ≤ o)) ∨ ∃ j, j < 4 ∧ o = nI j ∧ sh_lx h (rt j) k E ((E = "java/lang/IllegalArgumentException" ∧ ¬ val = 0 ∧ sh_no aO n h val) ∨ ∃ r, sh_fo aO n h val r ∧ (val = 0 ∨ r ≠ none) ∧ E = "java/lang/UnsupportedOperationException" ∧ ¬ sh_wl x ta h + 3 ≤ 150)))) := by
  refine mw_ofW (cc := cX3_setRoot) (maxL := 6) (ret := (some .int)) (by decide) rfl (fun w h => List.mem_cons_of_mem _ h) th_cd (Nat.le_of_ble_eq_true rfl) ?_
  intro p e s m below meth c hsz hC hr hlk hnm htab hM ls hl
  have hC : th_C D cs h p m c cX3_setRoot 6 s [.ref x, .int k, .int o, .int val] RX3 := hC
  have hx := hC.1.1
  have hb := hC.1.2.1
  have kx0 : h.1 x = some (0, 0) := hK.kx
  have hl : lv_has ls 6 [(0, .ref x), (1, .int k), (2, .int o), (3, .int val)] := hl
  refine lv_aload_n hx hb dX3_setRoot_0 rfl (lv_at hl 0 rfl) ?_
  refine lv_iload_n hx hb dX3_setRoot_1 rfl (lv_at hl 1 rfl) ?_
  refine mw_callV (As := [.int k]) (rest := []) (n := 1) (C := RX3) (T := TX3) (N := 11) (ci := 3) hC hM (c_X3_activeTransaction l hl0 D cs h s.heap.size x aR aO aH aT rt ta hK k) (cwV 1 hC.1.2.2.2.2 (tb_V mb_308 mb_309 mb_9 mb_36 mb_310) rfl rfl rfl (by decide +kernel) ⟨Nat.le_of_ble_eq_true rfl, Nat.le_of_ble_eq_true rfl⟩) (th_at (h := h) kx0) rfl rfl rfl hl.1 (Nat.le_of_ble_eq_true rfl) dX3_setRoot_2 ⟨Nat.le_of_ble_eq_true rfl, Nat.le_of_ble_eq_true rfl⟩ (fun E ce q9 g9 H locs hp9 hM hce hcv hcl => ?_) (fun v9 g9 H locs hp9 hM => ?_)
  · obtain ⟨h9, rfl, rfl, rfl, hf⟩ := hp9
    exact mw_out hM htab hlk hce hcv hcl (Nat.le_of_ble_eq_true rfl) (Nat.le_of_ble_eq_true rfl) ⟨_, rfl, rfl, Or.inl ⟨rfl, hf⟩⟩
  obtain ⟨h2, rfl, hp9⟩ := hp9
  obtain ⟨rfl, i, hi, rfl⟩ := hp9
  have kti : h.1 (ta i) = some (1, 0) := hK.kta hi.1
  refine W.eq (g2 := F0 m 5 ls [.ref (ta i)]) rfl ?_
  refine lv_astore (lv' := [(4, .ref (ta i)), (0, .ref x), (1, .int k), (2, .int o), (3, .int val)]) hx hb dX3_setRoot_5 hl (by decide) rfl (fun ls hl => ?_)
  refine lv_aload_n hx hb dX3_setRoot_7 rfl (lv_at hl 1 rfl) ?_
  refine lv_iload_n hx hb dX3_setRoot_8 rfl (lv_at hl 3 rfl) ?_
  refine mw_callV (As := [.int o]) (rest := []) (n := 1) (C := RX3) (T := TX3) (N := 11) (ci := 3) hC hM (c_X3_rootAt l hl0 D cs h H.size x aR aO aH aT rt ta hK o) (cwV 1 hC.1.2.2.2.2 (tb_V mb_401 mb_402 mb_14 mb_36 mb_403) rfl rfl rfl (by decide +kernel) ⟨Nat.le_of_ble_eq_true rfl, Nat.le_of_ble_eq_true rfl⟩) (th_at (h := h) kx0) rfl rfl rfl hl.1 (Nat.le_of_ble_eq_true rfl) dX3_setRoot_9 ⟨Nat.le_of_ble_eq_true rfl, Nat.le_of_ble_eq_true rfl⟩ (fun E ce q9 g9 H locs hp9 hM hce hcv hcl => ?_) (fun v9 g9 H locs hp9 hM => ?_)
  · obtain ⟨h9, rfl, rfl, rfl, hf⟩ := hp9
    exact mw_out hM htab hlk hce hcv hcl (Nat.le_of_ble_eq_true rfl) (Nat.le_of_ble_eq_true rfl) ⟨_, rfl, rfl, Or.inr ⟨i, hi, Or.inl ⟨rfl, hf⟩⟩⟩
  obtain ⟨h9, rfl, hp9⟩ := hp9
  obtain ⟨rfl, j, hj, hoj, rfl⟩ := hp9
  have krj : h.1 (rt j) = some (2, 0) := hK.krt hj
  obtain ⟨pa, hpa, hnp⟩ := hK.r1 hj
  obtain ⟨q, hjq, hkq⟩ := hK.pa hnp (show 0 < 1 by decide)
  refine W.eq (g2 := F0 m 12 ls [.ref (rt j)]) rfl ?_
  refine lv_astore (lv' := [(5, .ref (rt j)), (4, .ref (ta i)), (0, .ref x), (1, .int k), (2, .int o), (3, .int val)]) hx hb dX3_setRoot_12 hl (by decide) rfl (fun ls hl => ?_)
  refine lv_aload_n hx hb dX3_setRoot_14 rfl (lv_at hl 2 rfl) ?_
  refine lv_aload hx hb dX3_setRoot_15 (lv_at hl 1 rfl) ?_
  refine lv_aload hx hb dX3_setRoot_17 (lv_at hl 0 rfl) ?_
  refine lv_aload hx hb dX3_setRoot_19 (lv_at hl 0 rfl) ?_
  refine gr_2_1 (index := 103) hC hM krj mb_98 dX3_setRoot_21 hpa ?_
  refine lv_iconst (v := 0) hx hb dX3_setRoot_24 (by decide) ?_
  refine al_6 (i := 0) hC hM hnp (rfl) (by decide) (by first | decide | omega) hjq dX3_setRoot_25 ?_
  refine lv_iload_n hx hb dX3_setRoot_26 rfl (lv_at hl 5 rfl) ?_
  refine mw_callV (As := [.ref (ta i), .ref (rt j), .ref q, .int val]) (rest := []) (n := 4) (C := RX3) (T := TX3) (N := 11) (ci := 3) hC hM (c_X3_refer l hl0 D cs h H.size x aR aO aH aT rt ta hK n hO (ta i) (rt j) q val (hK.kta hi.1) (hK.krt hj) hkq) (cwV 4 hC.1.2.2.2.2 (tb_V mb_387 mb_388 mb_13 mb_36 mb_389) rfl rfl rfl (by decide +kernel) ⟨Nat.le_of_ble_eq_true rfl, Nat.le_of_ble_eq_true rfl⟩) (th_at (h := h) kx0) rfl rfl rfl hl.1 (Nat.le_of_ble_eq_true rfl) dX3_setRoot_27 ⟨Nat.le_of_ble_eq_true rfl, Nat.le_of_ble_eq_true rfl⟩ (fun E ce q9 g9 H locs hp9 hM hce hcv hcl => ?_) (fun v9 g9 H locs hp9 hM => ?_)
  · obtain ⟨h9, rfl, rfl, hf⟩ := hp9
    rw [hi.2.2] at hf
    exact mw_out hM htab hlk hce hcv hcl (Nat.le_of_ble_eq_true rfl) (Nat.le_of_ble_eq_true rfl) ⟨_, rfl, rfl, Or.inr ⟨i, hi, Or.inr ⟨j, hj, hoj, hf⟩⟩⟩
  obtain ⟨h27, rfl, hp9⟩ := hp9
  obtain ⟨rfl, hlo, r, hf, hr9, hw, rfl⟩ := hp9
  rw [hi.2.2] at hlo
  refine W.eq (g2 := F0 m 30 ls []) rfl ?_
  refine lv_iconst (v := 1) hx hb dX3_setRoot_30 (by decide) ?_
  refine mw_iret hC hM hr hlk dX3_setRoot_31 (Nat.le_of_ble_eq_true rfl) (Nat.le_of_ble_eq_true rfl) ⟨_, rfl, ?_⟩
  exact ⟨i, j, q, r, hi, hj, hoj, ⟨pa, hpa, hnp, hjq, hkq⟩, hlo, hf, hr9, hw, rfl, rfl⟩

-- StableHeap.getRoot
set_option maxHeartbeats 4000000 in
set_option maxRecDepth 100000 in
theorem c_X3_getRoot (l : Launch) (hl0 : l.stackTraces = false) (D : va_G) (cs : Nat → ClassId) (h : th_S) (sz : Nat) (x aR aO aH aT : Nat) (rt ta : Nat → Nat) (hK : sh_K x aR aO aH aT rt ta h) (k o : Int32) : th_M l yX3_getRoot wsX3_getRoot { frames := 7, cells := 3, slots := 18, locals := 112 } D cs h sz [.ref x, .int k, .int o] (fun v h' => ∃ i j q, sh_tx ta h k i ∧ j < 4 ∧ o = nI j ∧ sh_rp h (rt j) q ∧ (h.2.1 (rt j) 2 = 0 ∨ h.2.1 (rt j) 2 = k) ∧ h' = th_ui h (rt j) 2 k ∧ v = some (.int (sh_hd h (h.2.2 q 2)))) (fun E h' => h = h' ∧ ((E = "java/util/NoSuchElementException" ∧ sh_nt ta h k) ∨ ∃ i, sh_tx ta h k i ∧ ((E = "java/lang/IndexOutOfBoundsException" ∧ (o < 0 ∨ 4 ≤ o)) ∨ ∃ j, j < 4 ∧ o = nI j ∧ sh_lx h (rt j) k E False))) := by
  refine mw_ofW (cc := cX3_getRoot) (maxL := 5) (ret := (some .int)) (by decide) rfl (fun w h => List.mem_cons_of_mem _ h) th_cd (Nat.le_of_ble_eq_true rfl) ?_
  intro p e s m below meth c hsz hC hr hlk hnm htab hM ls hl
  have hC : th_C D cs h p m c cX3_getRoot 5 s [.ref x, .int k, .int o] RX3 := hC
  have hx := hC.1.1
  have hb := hC.1.2.1
  have kx0 : h.1 x = some (0, 0) := hK.kx
  have hl : lv_has ls 5 [(0, .ref x), (1, .int k), (2, .int o)] := hl
  refine lv_aload_n hx hb dX3_getRoot_0 rfl (lv_at hl 0 rfl) ?_
  refine lv_iload_n hx hb dX3_getRoot_1 rfl (lv_at hl 1 rfl) ?_
  refine mw_callV (As := [.int k]) (rest := []) (n := 1) (C := RX3) (T := TX3) (N := 11) (ci := 3) hC hM (c_X3_activeTransaction l hl0 D cs h s.heap.size x aR aO aH aT rt ta hK k) (cwV 1 hC.1.2.2.2.2 (tb_V mb_308 mb_309 mb_9 mb_36 mb_310) rfl rfl rfl (by decide +kernel) ⟨Nat.le_of_ble_eq_true rfl, Nat.le_of_ble_eq_true rfl⟩) (th_at (h := h) kx0) rfl rfl rfl hl.1 (Nat.le_of_ble_eq_true rfl) dX3_getRoot_2 ⟨Nat.le_of_ble_eq_true rfl, Nat.le_of_ble_eq_true rfl⟩ (fun E ce q9 g9 H locs hp9 hM hce hcv hcl => ?_) (fun v9 g9 H locs hp9 hM => ?_)
  · obtain ⟨h9, rfl, rfl, rfl, hf⟩ := hp9
    exact mw_out hM htab hlk hce hcv hcl (Nat.le_of_ble_eq_true rfl) (Nat.le_of_ble_eq_true rfl) ⟨_, rfl, rfl, Or.inl ⟨rfl, hf⟩⟩
  obtain ⟨h2, rfl, hp9⟩ := hp9
  obtain ⟨rfl, i, hi, rfl⟩ := hp9
  have kti : h.1 (ta i) = some (1, 0) := hK.kta hi.1
  refine W.eq (g2 := F0 m 5 ls [.ref (ta i)]) rfl ?_
  refine lv_astore_n (lv' := [(3, .ref (ta i)), (0, .ref x), (1, .int k), (2, .int o)]) hx hb dX3_getRoot_5 rfl hl (by decide) rfl (fun ls hl => ?_)
  refine lv_aload_n hx hb dX3_getRoot_6 rfl (lv_at hl 1 rfl) ?_
  refine lv_iload_n hx hb dX3_getRoot_7 rfl (lv_at hl 3 rfl) ?_
  refine mw_callV (As := [.int o]) (rest := []) (n := 1) (C := RX3) (T := TX3) (N := 11) (ci := 3) hC hM (c_X3_rootAt l hl0 D cs h H.size x aR aO aH aT rt ta hK o) (cwV 1 hC.1.2.2.2.2 (tb_V mb_401 mb_402 mb_14 mb_36 mb_403) rfl rfl rfl (by decide +kernel) ⟨Nat.le_of_ble_eq_true rfl, Nat.le_of_ble_eq_true rfl⟩) (th_at (h := h) kx0) rfl rfl rfl hl.1 (Nat.le_of_ble_eq_true rfl) dX3_getRoot_8 ⟨Nat.le_of_ble_eq_true rfl, Nat.le_of_ble_eq_true rfl⟩ (fun E ce q9 g9 H locs hp9 hM hce hcv hcl => ?_) (fun v9 g9 H locs hp9 hM => ?_)
  · obtain ⟨h9, rfl, rfl, rfl, hf⟩ := hp9
    exact mw_out hM htab hlk hce hcv hcl (Nat.le_of_ble_eq_true rfl) (Nat.le_of_ble_eq_true rfl) ⟨_, rfl, rfl, Or.inr ⟨i, hi, Or.inl ⟨rfl, hf⟩⟩⟩
  obtain ⟨h8, rfl, hp9⟩ := hp9
  obtain ⟨rfl, j, hj, hoj, rfl⟩ := hp9
  have krj : h.1 (rt j) = some (2, 0) := hK.krt hj
  obtain ⟨pa, hpa, hnp⟩ := hK.r1 hj
  obtain ⟨q, hjq, hkq⟩ := hK.pa hnp (show 0 < 1 by decide)
  refine W.eq (g2 := F0 m 11 ls [.ref (rt j)]) rfl ?_
  refine lv_astore (lv' := [(4, .ref (rt j)), (3, .ref (ta i)), (0, .ref x), (1, .int k), (2, .int o)]) hx hb dX3_getRoot_11 hl (by decide) rfl (fun ls hl => ?_)
  refine lv_aload hx hb dX3_getRoot_13 (lv_at hl 0 rfl) ?_
  refine lv_aload_n hx hb dX3_getRoot_15 rfl (lv_at hl 1 rfl) ?_
  refine mw_callS (As := [.ref (rt j), .ref (ta i)]) (rest := []) (n := 2) hC hM (c_X3_refuseIfLockedByAnother l hl0 D cs h H.size (rt j) (ta i) (hK.krt hj) (hK.kta hi.1)) (va_cwS 2 hC.1.2.2.2.2 (tb_S mb_370 mb_371 mb_36 mb_372) rfl rfl rfl (by decide +kernel) ⟨Nat.le_of_ble_eq_true rfl, Nat.le_of_ble_eq_true rfl⟩) rfl rfl hl.1 (Nat.le_of_ble_eq_true rfl) dX3_getRoot_16 ⟨Nat.le_of_ble_eq_true rfl, Nat.le_of_ble_eq_true rfl⟩ (fun E ce q9 g9 H locs hp9 hM hce hcv hcl => ?_) (fun v9 g9 H locs hp9 hM => ?_)
  · obtain ⟨h9, rfl, rfl, rfl, hf⟩ := hp9
    exact mw_out hM htab hlk hce hcv hcl (Nat.le_of_ble_eq_true rfl) (Nat.le_of_ble_eq_true rfl) ⟨_, rfl, rfl, Or.inr ⟨i, hi, Or.inr ⟨j, hj, hoj, Or.inl ⟨rfl, by rw [← hi.2.2]; exact hf⟩⟩⟩⟩
  obtain ⟨h16, rfl, hp9⟩ := hp9
  obtain ⟨rfl, rfl, hlo⟩ := hp9
  refine W.eq (g2 := F0 m 19 ls []) rfl ?_
  refine lv_aload hx hb dX3_getRoot_19 (lv_at hl 0 rfl) ?_
  refine lv_aload_n hx hb dX3_getRoot_21 rfl (lv_at hl 1 rfl) ?_
  refine gi_1_0 (index := 43) hC hM kti mb_117 dX3_getRoot_22 ?_
  rw [show h.2.1 (ta i) 0 = k from hi.2.2]
  refine pu_2_2 (index := 71) (v := k) hC hM krj mb_100 dX3_getRoot_25 (fun H locs hM => ?_)
  refine lv_aload hx hb dX3_getRoot_28 (lv_at hl 0 rfl) ?_
  refine gr_2_1 (index := 103) hC hM krj mb_98 dX3_getRoot_30 hpa ?_
  refine lv_iconst (v := 0) hx hb dX3_getRoot_33 (by decide) ?_
  refine al_6 (i := 0) hC hM hnp (rfl) (by decide) (by first | decide | omega) hjq dX3_getRoot_34 ?_
  refine gr_3_2 (index := 123) hC hM hkq mb_74 dX3_getRoot_35 rfl ?_
  refine mw_callS (As := [va_rf (h.2.2 q 2)]) (rest := []) (n := 1) hC hM (c_X3_handleOf l hl0 D cs (th_ui h (rt j) 2 k) H.size (h.2.2 q 2) (fun b hb => (hK.pl hkq).2.2.2.1 b hb)) (va_cwS 1 hC.1.2.2.2.2 (tb_S mb_436 mb_437 mb_36 mb_438) rfl rfl rfl (by decide +kernel) ⟨Nat.le_of_ble_eq_true rfl, Nat.le_of_ble_eq_true rfl⟩) rfl rfl hl.1 (Nat.le_of_ble_eq_true rfl) dX3_getRoot_38 ⟨Nat.le_of_ble_eq_true rfl, Nat.le_of_ble_eq_true rfl⟩ (fun E ce q9 g9 H locs hp9 hM hce hcv hcl => ?_) (fun v9 g9 H locs hp9 hM => ?_)
  · exact (hp9.elim fun _ h9 => h9.2.elim)
  obtain ⟨h38, rfl, hp9⟩ := hp9
  obtain ⟨rfl, rfl⟩ := hp9
  refine W.eq (g2 := F0 m 41 ls [.int (sh_hd (th_ui h (rt j) 2 k) (h.2.2 q 2))]) rfl ?_
  refine mw_iret hC hM hr hlk dX3_getRoot_41 (Nat.le_of_ble_eq_true rfl) (Nat.le_of_ble_eq_true rfl) ⟨_, rfl, ?_⟩
  exact ⟨i, j, q, hi, hj, hoj, ⟨pa, hpa, hnp, hjq, hkq⟩, by rw [← hi.2.2]; exact hlo, rfl, by
    congr 2
    unfold sh_hd
    cases h.2.2 q 2 with
    | none => rfl
    | some b => exact th_ui_hd h (rt j) k b⟩

-- StableHeap.begin
set_option maxHeartbeats 4000000 in
set_option maxRecDepth 100000 in
theorem c_X3_begin (l : Launch) (hl0 : l.stackTraces = false) (D : va_G) (cs : Nat → ClassId) (h : th_S) (sz : Nat) (x aR aO aH aT : Nat) (rt ta : Nat → Nat) (hK : sh_K x aR aO aH aT rt ta h) : th_M l yX3_begin wsX3_begin { frames := 7, cells := 2, slots := 12, locals := 112 } D cs h sz [.ref x] (fun v h' => ∃ i, i < 3 ∧ h.2.1 (ta i) 0 = 0 ∧ (∀ j, j < i → ¬ h.2.1 (ta j) 0 = 0) ∧ sh_wl x ta h + 1 ≤ 150 ∧ h' = th_ui (th_ui (th_ui h (ta i) 1 (h.2.1 (ta i) 1 + 1)) x 9 (h.2.1 x 9 + 1)) (ta i) 0 (h.2.1 x 9 + 1) ∧ v = some (.int (h.2.1 x 9 + 1))) (fun E h' => h = h' ∧ ((E = "java/lang/IllegalStateException" ∧ ∀ i, i < 3 → ¬ h.2.1 (ta i) 0 = 0) ∨ (E = "java/lang/UnsupportedOperationException" ∧ (∃ i, i < 3 ∧ h.2.1 (ta i) 0 = 0) ∧ ¬ sh_wl x ta h + 1 ≤ 150))) := by
  refine mw_ofW (cc := cX3_begin) (maxL := 2) (ret := (some .int)) (by decide) rfl (fun w h => List.mem_cons_of_mem _ h) th_cd (Nat.le_of_ble_eq_true rfl) ?_
  intro p e s m below meth c hsz hC hr hlk hnm htab hM ls hl
  have hC : th_C D cs h p m c cX3_begin 2 s [.ref x] RX3 := hC
  have hx := hC.1.1
  have hb := hC.1.2.1
  have kx0 : h.1 x = some (0, 0) := hK.kx
  have hl : lv_has ls 2 [(0, .ref x)] := hl
  refine lv_aload_n hx hb dX3_begin_0 rfl (lv_at hl 0 rfl) ?_
  refine mw_callV (As := []) (rest := []) (n := 0) (C := RX3) (T := TX3) (N := 11) (ci := 3) hC hM (c_X3_unusedTransaction l hl0 D cs h s.heap.size x aR aO aH aT rt ta hK) (cwV 0 hC.1.2.2.2.2 (tb_V mb_219 mb_220 mb_6 mb_36 mb_221) rfl rfl rfl (by decide +kernel) ⟨Nat.le_of_ble_eq_true rfl, Nat.le_of_ble_eq_true rfl⟩) (th_at (h := h) kx0) rfl rfl rfl hl.1 (Nat.le_of_ble_eq_true rfl) dX3_begin_1 ⟨Nat.le_of_ble_eq_true rfl, Nat.le_of_ble_eq_true rfl⟩ (fun E ce q9 g9 H locs hp9 hM hce hcv hcl => ?_) (fun v9 g9 H locs hp9 hM => ?_)
  · obtain ⟨h9, rfl, rfl, rfl, hf⟩ := hp9
    exact mw_out hM htab hlk hce hcv hcl (Nat.le_of_ble_eq_true rfl) (Nat.le_of_ble_eq_true rfl) ⟨_, rfl, rfl, Or.inl ⟨rfl, hf⟩⟩
  obtain ⟨h1, rfl, hp9⟩ := hp9
  obtain ⟨rfl, i, hi, rfl, hi0, hi9⟩ := hp9
  have kti : h.1 (ta i) = some (1, 0) := hK.kta hi
  refine W.eq (g2 := F0 m 4 ls [.ref (ta i)]) rfl ?_
  refine lv_astore_n (lv' := [(1, .ref (ta i)), (0, .ref x)]) hx hb dX3_begin_4 rfl hl (by decide) rfl (fun ls hl => ?_)
  refine lv_aload_n hx hb dX3_begin_5 rfl (lv_at hl 1 rfl) ?_
  refine lv_aload_n hx hb dX3_begin_6 rfl (lv_at hl 0 rfl) ?_
  refine lv_iconst (v := 1) hx hb dX3_begin_7 (by decide) ?_
  refine mw_callV (As := [.ref (ta i), .int 1]) (rest := []) (n := 2) (C := RX3) (T := TX3) (N := 11) (ci := 3) hC hM (c_X3_writeRecord l hl0 D cs h H.size x aR aO aH aT rt ta hK (ta i) (hK.kta hi) 1) (cwV 2 hC.1.2.2.2.2 (tb_V mb_282 mb_283 mb_8 mb_36 mb_284) rfl rfl rfl (by decide +kernel) ⟨Nat.le_of_ble_eq_true rfl, Nat.le_of_ble_eq_true rfl⟩) (th_at (h := h) kx0) rfl rfl rfl hl.1 (Nat.le_of_ble_eq_true rfl) dX3_begin_8 ⟨Nat.le_of_ble_eq_true rfl, Nat.le_of_ble_eq_true rfl⟩ (fun E ce q9 g9 H locs hp9 hM hce hcv hcl => ?_) (fun v9 g9 H locs hp9 hM => ?_)
  · obtain ⟨h9, rfl, rfl, rfl, hw⟩ := hp9
    exact mw_out hM htab hlk hce hcv hcl (Nat.le_of_ble_eq_true rfl) (Nat.le_of_ble_eq_true rfl) ⟨_, rfl, rfl, Or.inr ⟨rfl, ⟨i, hi, hi0⟩, hw⟩⟩
  obtain ⟨h8, rfl, hp9⟩ := hp9
  obtain ⟨rfl, rfl, hw⟩ := hp9
  refine W.eq (g2 := F0 m 11 ls []) rfl ?_
  refine lv_aload_n hx hb dX3_begin_11 rfl (lv_at hl 1 rfl) ?_
  refine lv_dup hx hb dX3_begin_12 rfl ?_
  refine gi_0_9 (index := 39) hC hM kx0 mb_133 dX3_begin_13 ?_
  rw [show (th_ui h (ta i) 1 (h.2.1 (ta i) 1 + 1)).2.1 x 9 = h.2.1 x 9 from th_ui_n _ _ _ _ (th_kne hK.kx (hK.kta hi) (by decide))]
  refine lv_iconst (v := 1) hx hb dX3_begin_16 (by decide) ?_
  refine lv_iadd hx hb dX3_begin_17 ?_
  refine pu_0_9 (index := 39) (v := (h.2.1 x 9) + 1) hC hM kx0 mb_133 dX3_begin_18 (fun H locs hM => ?_)
  refine lv_aload_n hx hb dX3_begin_21 rfl (lv_at hl 0 rfl) ?_
  refine lv_aload_n hx hb dX3_begin_22 rfl (lv_at hl 1 rfl) ?_
  refine gi_0_9 (index := 39) hC hM kx0 mb_133 dX3_begin_23 ?_
  rw [show (th_ui (th_ui h (ta i) 1 (h.2.1 (ta i) 1 + 1)) x 9 ((h.2.1 x 9) + 1)).2.1 x 9 = h.2.1 x 9 + 1 from th_ui_s _ _ _ _]
  refine pu_1_0 (index := 43) (v := h.2.1 x 9 + 1) hC hM kti mb_117 dX3_begin_26 (fun H locs hM => ?_)
  refine lv_aload_n hx hb dX3_begin_29 rfl (lv_at hl 1 rfl) ?_
  refine gi_0_9 (index := 39) hC hM kx0 mb_133 dX3_begin_30 ?_
  rw [show (th_ui (th_ui (th_ui h (ta i) 1 (h.2.1 (ta i) 1 + 1)) x 9 ((h.2.1 x 9) + 1)) (ta i) 0 (h.2.1 x 9 + 1)).2.1 x 9 = h.2.1 x 9 + 1 from (th_ui_n _ _ _ _ (th_kne hK.kx (hK.kta hi) (by decide))).trans (th_ui_s _ _ _ _)]
  refine mw_iret hC hM hr hlk dX3_begin_33 (Nat.le_of_ble_eq_true rfl) (Nat.le_of_ble_eq_true rfl) ⟨_, rfl, ?_⟩
  exact ⟨i, hi, hi0, hi9, hw, rfl, rfl⟩

-- StableHeap.fields
set_option maxHeartbeats 4000000 in
set_option maxRecDepth 100000 in
theorem c_X3_fields (l : Launch) (hl0 : l.stackTraces = false) (D : va_G) (cs : Nat → ClassId) (h : th_S) (sz : Nat) (x aR aO aH aT : Nat) (rt ta : Nat → Nat) (hK : sh_K x aR aO aH aT rt ta h) (n : Nat) (hO : sh_O x aO n h) (k : Int32) : th_M l yX3_fields wsX3_fields { frames := 7, cells := 1, slots := 6, locals := 112 } D cs h sz [.ref x, .int k] (fun v h' => h = h' ∧ ∃ a pa np, sh_ob aO n h k a ∧ h.2.2 a 1 = some pa ∧ h.1 pa = some (6, np) ∧ v = some (.int (nI np))) (fun E h' => E = "java/util/NoSuchElementException" ∧ h = h' ∧ sh_no aO n h k) := by
  refine mw_ofW (cc := cX3_fields) (maxL := 2) (ret := (some .int)) (by decide) rfl (fun w h => List.mem_cons_of_mem _ h) th_cd (Nat.le_of_ble_eq_true rfl) ?_
  intro p e s m below meth c hsz hC hr hlk hnm htab hM ls hl
  have hC : th_C D cs h p m c cX3_fields 2 s [.ref x, .int k] RX3 := hC
  have hx := hC.1.1
  have hb := hC.1.2.1
  have kx0 : h.1 x = some (0, 0) := hK.kx
  have hl : lv_has ls 2 [(0, .ref x), (1, .int k)] := hl
  refine lv_aload_n hx hb dX3_fields_0 rfl (lv_at hl 0 rfl) ?_
  refine lv_iload_n hx hb dX3_fields_1 rfl (lv_at hl 1 rfl) ?_
  refine mw_callV (As := [.int k]) (rest := []) (n := 1) (C := RX3) (T := TX3) (N := 11) (ci := 3) hC hM (c_X3_objectWith l hl0 D cs h s.heap.size x aR aO aH aT rt ta hK n hO k) (cwV 1 hC.1.2.2.2.2 (tb_V mb_347 mb_348 mb_10 mb_36 mb_349) rfl rfl rfl (by decide +kernel) ⟨Nat.le_of_ble_eq_true rfl, Nat.le_of_ble_eq_true rfl⟩) (th_at (h := h) kx0) rfl rfl rfl hl.1 (Nat.le_of_ble_eq_true rfl) dX3_fields_2 ⟨Nat.le_of_ble_eq_true rfl, Nat.le_of_ble_eq_true rfl⟩ (fun E ce q9 g9 H locs hp9 hM hce hcv hcl => ?_) (fun v9 g9 H locs hp9 hM => ?_)
  · obtain ⟨h9, rfl, rfl, rfl, hf⟩ := hp9
    exact mw_out hM htab hlk hce hcv hcl (Nat.le_of_ble_eq_true rfl) (Nat.le_of_ble_eq_true rfl) ⟨_, rfl, rfl, rfl, hf⟩
  obtain ⟨h2, rfl, hp9⟩ := hp9
  obtain ⟨rfl, a, rfl, ho⟩ := hp9
  obtain ⟨pa, np, hpa, hnp, hn4⟩ := hK.lk (ho.k hO)
  have kao : h.1 a = some (2, 0) := ho.k hO
  refine W.eq (g2 := F0 m 5 ls [.ref a]) rfl ?_
  refine gr_2_1 (index := 103) hC hM kao mb_98 dX3_fields_5 hpa ?_
  refine an_6 hC hM hnp dX3_fields_8 ?_
  refine mw_iret hC hM hr hlk dX3_fields_9 (Nat.le_of_ble_eq_true rfl) (Nat.le_of_ble_eq_true rfl) ⟨_, rfl, ?_⟩
  exact ⟨rfl, a, pa, np, ho, hpa, hnp, rfl⟩

-- StableHeap.lockedBy
set_option maxHeartbeats 4000000 in
set_option maxRecDepth 100000 in
theorem c_X3_lockedBy (l : Launch) (hl0 : l.stackTraces = false) (D : va_G) (cs : Nat → ClassId) (h : th_S) (sz : Nat) (x aR aO aH aT : Nat) (rt ta : Nat → Nat) (hK : sh_K x aR aO aH aT rt ta h) (n : Nat) (hO : sh_O x aO n h) (k o : Int32) : th_M l yX3_lockedBy wsX3_lockedBy { frames := 7, cells := 1, slots := 6, locals := 112 } D cs h sz [.ref x, .int k, .int o] (fun v h' => h = h' ∧ ((¬ k = 0 ∧ ∃ a, sh_ob aO n h k a ∧ v = some (.int (h.2.1 a 2))) ∨ (k = 0 ∧ ∃ j, j < 4 ∧ o = nI j ∧ v = some (.int (h.2.1 (rt j) 2))))) (fun E h' => E = "java/util/NoSuchElementException" ∧ h = h' ∧ ((¬ k = 0 ∧ sh_no aO n h k) ∨ (k = 0 ∧ (o < 0 ∨ 4 ≤ o)))) := by
  refine mw_ofW (cc := cX3_lockedBy) (maxL := 3) (ret := (some .int)) (by decide) rfl (fun w h => List.mem_cons_of_mem _ h) th_cd (Nat.le_of_ble_eq_true rfl) ?_
  intro p e s m below meth c hsz hC hr hlk hnm htab hM ls hl
  have hC : th_C D cs h p m c cX3_lockedBy 3 s [.ref x, .int k, .int o] RX3 := hC
  have hx := hC.1.1
  have hb := hC.1.2.1
  have kx0 : h.1 x = some (0, 0) := hK.kx
  have hl : lv_has ls 3 [(0, .ref x), (1, .int k), (2, .int o)] := hl
  refine lv_iload_n hx hb dX3_lockedBy_0 rfl (lv_at hl 1 rfl) ?_
  refine lv_if_eq (tgt := 13) hx hb dX3_lockedBy_1 (by decide) (fun c1 => ?_) (fun c1 => ?_)
  · refine lv_iload_n hx hb dX3_lockedBy_13 rfl (lv_at hl 2 rfl) ?_
    refine lv_if_lt (tgt := 22) hx hb dX3_lockedBy_14 (by decide) (fun c14 => ?_) (fun c14 => ?_)
    · refine mw_throwN (Y := "java/lang/RuntimeException") (cls := "java/util/NoSuchElementException") (names := ["java/lang/Exception"]) (ik := 162) (is := 164) (ic := 166) hC hM htab hlk hl0 sx_164 (by decide +kernel) (by decide +kernel) (by decide +kernel) mb_311 mb_46 tg_166 tn_166 to_166 hl.1 dX3_lockedBy_22 dX3_lockedBy_25 dX3_lockedBy_26 dX3_lockedBy_28 dX3_lockedBy_31 (Nat.le_of_ble_eq_true rfl) (Nat.le_of_ble_eq_true rfl) (Nat.le_of_ble_eq_true rfl) (Nat.le_of_ble_eq_true rfl) (Nat.le_of_ble_eq_true rfl) (Nat.le_of_ble_eq_true rfl) ⟨_, rfl, ?_⟩
      exact ⟨rfl, rfl, Or.inr ⟨c1, by first | exact Or.inl c14 | exact Or.inr (Int32.not_lt.mp c19)⟩⟩
    · refine lv_iload_n hx hb dX3_lockedBy_17 rfl (lv_at hl 2 rfl) ?_
      refine lv_iconst (v := 4) hx hb dX3_lockedBy_18 (by decide) ?_
      refine lv_icmp_lt (tgt := 32) hx hb dX3_lockedBy_19 (by decide) (fun c19 => ?_) (fun c19 => ?_)
      · obtain ⟨j, hj, hkj⟩ : ∃ j, j < 4 ∧ o = nI j := by
          rcases pk_ix o (n := 4) (by omega) with h1 | h1 | h1
          · exact absurd h1 c14
          · exact absurd h1 (Int32.not_le.mpr c19)
          · exact h1
        refine lv_aload_n hx hb dX3_lockedBy_32 rfl (lv_at hl 0 rfl) ?_
        refine gr_0_0 (index := 11) hC hM kx0 mb_124 dX3_lockedBy_33 hK.xR ?_
        refine lv_iload_n hx hb dX3_lockedBy_36 rfl (lv_at hl 2 rfl) ?_
        refine al_4 (i := j) hC hM hK.kR (hkj) (hj) (by first | decide | omega) (hK.rr hj) dX3_lockedBy_37 ?_
        refine gi_2_2 (index := 71) hC hM (hK.krt hj) mb_100 dX3_lockedBy_38 ?_
        refine mw_iret hC hM hr hlk dX3_lockedBy_41 (Nat.le_of_ble_eq_true rfl) (Nat.le_of_ble_eq_true rfl) ⟨_, rfl, ?_⟩
        exact ⟨rfl, Or.inr ⟨c1, j, hj, hkj, rfl⟩⟩
      · refine mw_throwN (Y := "java/lang/RuntimeException") (cls := "java/util/NoSuchElementException") (names := ["java/lang/Exception"]) (ik := 162) (is := 164) (ic := 166) hC hM htab hlk hl0 sx_164 (by decide +kernel) (by decide +kernel) (by decide +kernel) mb_311 mb_46 tg_166 tn_166 to_166 hl.1 dX3_lockedBy_22 dX3_lockedBy_25 dX3_lockedBy_26 dX3_lockedBy_28 dX3_lockedBy_31 (Nat.le_of_ble_eq_true rfl) (Nat.le_of_ble_eq_true rfl) (Nat.le_of_ble_eq_true rfl) (Nat.le_of_ble_eq_true rfl) (Nat.le_of_ble_eq_true rfl) (Nat.le_of_ble_eq_true rfl) ⟨_, rfl, ?_⟩
        exact ⟨rfl, rfl, Or.inr ⟨c1, by first | exact Or.inl c14 | exact Or.inr (Int32.not_lt.mp c19)⟩⟩
  · refine lv_aload_n hx hb dX3_lockedBy_4 rfl (lv_at hl 0 rfl) ?_
    refine lv_iload_n hx hb dX3_lockedBy_5 rfl (lv_at hl 1 rfl) ?_
    refine mw_callV (As := [.int k]) (rest := []) (n := 1) (C := RX3) (T := TX3) (N := 11) (ci := 3) hC hM (c_X3_objectWith l hl0 D cs h s.heap.size x aR aO aH aT rt ta hK n hO k) (cwV 1 hC.1.2.2.2.2 (tb_V mb_347 mb_348 mb_10 mb_36 mb_349) rfl rfl rfl (by decide +kernel) ⟨Nat.le_of_ble_eq_true rfl, Nat.le_of_ble_eq_true rfl⟩) (th_at (h := h) kx0) rfl rfl rfl hl.1 (Nat.le_of_ble_eq_true rfl) dX3_lockedBy_6 ⟨Nat.le_of_ble_eq_true rfl, Nat.le_of_ble_eq_true rfl⟩ (fun E ce q9 g9 H locs hp9 hM hce hcv hcl => ?_) (fun v9 g9 H locs hp9 hM => ?_)
    · obtain ⟨h9, rfl, rfl, rfl, hf⟩ := hp9
      exact mw_out hM htab hlk hce hcv hcl (Nat.le_of_ble_eq_true rfl) (Nat.le_of_ble_eq_true rfl) ⟨_, rfl, rfl, rfl, Or.inl ⟨c1, hf⟩⟩
    obtain ⟨h6, rfl, hp9⟩ := hp9
    obtain ⟨rfl, a, rfl, ho⟩ := hp9
    obtain ⟨pa, np, hpa, hnp, hn4⟩ := hK.lk (ho.k hO)
    have kao : h.1 a = some (2, 0) := ho.k hO
    refine W.eq (g2 := F0 m 9 ls [.ref a]) rfl ?_
    refine gi_2_2 (index := 71) hC hM kao mb_100 dX3_lockedBy_9 ?_
    refine mw_iret hC hM hr hlk dX3_lockedBy_12 (Nat.le_of_ble_eq_true rfl) (Nat.le_of_ble_eq_true rfl) ⟨_, rfl, ?_⟩
    exact ⟨rfl, Or.inl ⟨c1, a, ho, rfl⟩⟩

-- StableHeap.checkpoint
set_option maxHeartbeats 4000000 in
set_option maxRecDepth 100000 in
theorem c_X3_checkpoint (l : Launch) (hl0 : l.stackTraces = false) (D : va_G) (cs : Nat → ClassId) (h : th_S) (sz : Nat) (x aR aO aH aT : Nat) (rt ta : Nat → Nat) (hK : sh_K x aR aO aH aT rt ta h) : th_M l yX3_checkpoint wsX3_checkpoint { frames := 1, cells := 0, slots := 0, locals := 22 } D cs h sz [.ref x] (fun v h' => h' = th_ui h x 8 0 ∧ v = some (.int (sh_wl x ta (th_ui h x 8 0)))) (fun E h' => False) := by
  refine mw_ofW (cc := cX3_checkpoint) (maxL := 1) (ret := (some .int)) (by decide) rfl (fun w h => List.mem_cons_of_mem _ h) th_cd (Nat.le_of_ble_eq_true rfl) ?_
  intro p e s m below meth c hsz hC hr hlk hnm htab hM ls hl
  have hC : th_C D cs h p m c cX3_checkpoint 1 s [.ref x] RX3 := hC
  have hx := hC.1.1
  have hb := hC.1.2.1
  have kx0 : h.1 x = some (0, 0) := hK.kx
  have hl : lv_has ls 1 [(0, .ref x)] := hl
  refine lv_aload_n hx hb dX3_checkpoint_0 rfl (lv_at hl 0 rfl) ?_
  refine lv_iconst (v := 0) hx hb dX3_checkpoint_1 (by decide) ?_
  refine pu_0_8 (index := 131) (v := 0) hC hM kx0 mb_132 dX3_checkpoint_2 (fun H locs hM => ?_)
  refine lv_aload_n hx hb dX3_checkpoint_5 rfl (lv_at hl 0 rfl) ?_
  refine mw_callV (As := []) (rest := []) (n := 0) (C := RX3) (T := TX3) (N := 11) (ci := 3) hC hM (c_X3_wordsInLog l hl0 D cs (th_ui h x 8 0) H.size x aR aO aH aT rt ta (hK.uk hK.kx (by decide))) (cwV 0 hC.1.2.2.2.2 (tb_V mb_162 mb_163 mb_0 mb_36 mb_164) rfl rfl rfl (by decide +kernel) ⟨Nat.le_of_ble_eq_true rfl, Nat.le_of_ble_eq_true rfl⟩) (th_at (h := th_ui h x 8 0) kx0) rfl rfl rfl hl.1 (Nat.le_of_ble_eq_true rfl) dX3_checkpoint_6 ⟨Nat.le_of_ble_eq_true rfl, Nat.le_of_ble_eq_true rfl⟩ (fun E ce q9 g9 H locs hp9 hM hce hcv hcl => ?_) (fun v9 g9 H locs hp9 hM => ?_)
  · exact (hp9.elim fun _ h9 => h9.2.elim)
  obtain ⟨h6, rfl, hp9⟩ := hp9
  obtain ⟨rfl, rfl⟩ := hp9
  refine W.eq (g2 := F0 m 9 ls [.int (sh_wl x ta (th_ui h x 8 0))]) rfl ?_
  refine mw_iret hC hM hr hlk dX3_checkpoint_9 (Nat.le_of_ble_eq_true rfl) (Nat.le_of_ble_eq_true rfl) ⟨_, rfl, ?_⟩
  exact ⟨rfl, rfl⟩

/-! the law's wrappers -/
-- StableHeapLaw.begin
set_option maxHeartbeats 4000000 in
set_option maxRecDepth 100000 in
theorem c_L_begin (l : Launch) (hl0 : l.stackTraces = false) (D : va_G) (cs : Nat → ClassId) (h : th_S) (sz : Nat) (x aR aO aH aT : Nat) (rt ta : Nat → Nat) (S : th_N) (N n u : Nat) (ad : Nat → Nat) (R : RR x aR aO aH aT rt ta h S N n u ad) (ao : Nat) (ha : h.1 ao = some (9, 1)) : th_M l yL_begin wsL_begin { frames := 8, cells := 2, slots := 12, locals := 133 } D cs h sz [.ref x, .ref ao] (fun v h' => ∃ k b h1, v = some (.int k) ∧ ((k = 0 ∧ p3_begin x ta h (some (.int b)) h1 ∧ h' = th_ui h1 ao 0 b) ∨ ((∃ E, e3_begin x ta h E h1 ∧ cd_begin E k) ∧ h' = h1))) (fun E h' => False) := by
  refine mw_ofWH (cc := cL_begin) (maxL := 3) (ret := (some .int)) (hh := hhL_begin) (by decide) rfl (fun w h => List.mem_cons_of_mem _ h) th_cd (Nat.le_of_ble_eq_true rfl) ?_
  intro p e s m below meth c hsz hC hr hlk hnm htab hM ls hl
  have hC : th_C D cs h p m c cL_begin 3 s [.ref x, .ref ao] RL := hC
  have hx := hC.1.1
  have hb := hC.1.2.1
  have kx0 : h.1 x = some (0, 0) := R.1.1.1.kx
  have hl : lv_has ls 3 [(0, .ref x), (1, .ref ao)] := hl
  refine lv_aload_n hx hb dL_begin_0 rfl (lv_at hl 1 rfl) ?_
  refine lv_iconst (v := 0) hx hb dL_begin_1 (by decide) ?_
  refine lv_aload_n hx hb dL_begin_2 rfl (lv_at hl 0 rfl) ?_
  refine mw_callV (As := []) (rest := [.int 0, .ref ao]) (n := 0) (C := RX3) (T := TX3) (N := 11) (ci := 3) hC hM (c_X3_begin l hl0 D cs h s.heap.size x aR aO aH aT rt ta R.1.1.1) (cwV 0 hC.1.2.2.2.2 (tb_V mb_215 mb_216 mb_217 mb_36 mb_218) rfl rfl rfl (by decide +kernel) ⟨Nat.le_of_ble_eq_true rfl, Nat.le_of_ble_eq_true rfl⟩) (th_at (h := h) kx0) rfl rfl rfl hl.1 (Nat.le_of_ble_eq_true rfl) dL_begin_3 ⟨Nat.le_of_ble_eq_true rfl, Nat.le_of_ble_eq_true rfl⟩ (fun E ce q9 g9 H locs hp9 hM hce hcv hcl => ?_) (fun v9 g9 H locs hp9 hM => ?_)
  · obtain ⟨h4, rfl, hp9⟩ := hp9
    have hp9 : e3_begin x ta h E h4 := hp9
    rcases X_begin hp9 with rfl | rfl
    · refine mw_catch hC htab [] (0, 8, 11, 13) [(0, 8, 14, 15)] rfl mw_p0 (by decide) (by decide) mb_213 (List.mem_of_getElem? (i := 5) rfl) hce hcv hcl ?_
      refine lv_astore_n (lv' := [(2, .ref q9), (0, .ref x), (1, .ref ao)]) hx hb dL_begin_11 rfl hl (by decide) rfl (fun ls hl => ?_)
      refine lv_iconst (v := 1) hx hb dL_begin_12 (by decide) ?_
      refine mw_iret hC hM hr hlk dL_begin_13 (Nat.le_of_ble_eq_true rfl) (Nat.le_of_ble_eq_true rfl) ⟨_, rfl, ?_⟩
      exact ⟨1, 0, h4, rfl, Or.inr ⟨⟨_, hp9, Or.inl (⟨rfl, rfl⟩)⟩, rfl⟩⟩
    · refine mw_catch hC htab [(0, 8, 11, 13)] (0, 8, 14, 15) [] rfl (mw_p1 ⟨by decide, "java/lang/IllegalStateException", mb_213, (List.mem_of_getElem? (i := 34) rfl)⟩ mw_p0) (by decide) (by decide) mb_214 (List.mem_of_getElem? (i := 12) rfl) hce hcv hcl ?_
      refine lv_astore_n (lv' := [(2, .ref q9), (0, .ref x), (1, .ref ao)]) hx hb dL_begin_14 rfl hl (by decide) rfl (fun ls hl => ?_)
      refine lv_iconst (v := 2) hx hb dL_begin_15 (by decide) ?_
      refine mw_iret hC hM hr hlk dL_begin_16 (Nat.le_of_ble_eq_true rfl) (Nat.le_of_ble_eq_true rfl) ⟨_, rfl, ?_⟩
      exact ⟨2, 0, h4, rfl, Or.inr ⟨⟨_, hp9, Or.inr (⟨rfl, rfl⟩)⟩, rfl⟩⟩
  obtain ⟨h3, rfl, hp9⟩ := hp9
  have hp9 : p3_begin x ta h v9 h3 := hp9
  obtain ⟨b9, rfl⟩ := V_begin hp9
  have ka9 := (F_begin R (c := 0) (Or.inl ⟨rfl, hp9⟩) ao _ ha (by show 7 ≤ 9; omega)).1
  refine W.eq (g2 := F0 m 6 ls [.int b9, .int 0, .ref ao]) rfl ?_
  refine lv_i2l hx hb dL_begin_6 rfl ?_
  refine as_9 (i := 0) (v := b9) hC hM ka9 (by decide) (by decide) (by first | decide | omega) dL_begin_7 (fun H locs hM => ?_)
  refine lv_goto (tgt := 17) hx hb dL_begin_8 (by decide) ?_
  refine lv_iconst (v := 0) hx hb dL_begin_17 (by decide) ?_
  refine mw_iret hC hM hr hlk dL_begin_18 (Nat.le_of_ble_eq_true rfl) (Nat.le_of_ble_eq_true rfl) ⟨_, rfl, ?_⟩
  exact ⟨0, b9, h3, rfl, Or.inl ⟨rfl, hp9, rfl⟩⟩

-- StableHeapLaw.make
set_option maxHeartbeats 4000000 in
set_option maxRecDepth 100000 in
theorem c_L_make (l : Launch) (hl0 : l.stackTraces = false) (D : va_G) (cs : Nat → ClassId) (h : th_S) (sz : Nat) (x aR aO aH aT : Nat) (rt ta : Nat → Nat) (S : th_N) (N n u : Nat) (ad : Nat → Nat) (R : RR x aR aO aH aT rt ta h S N n u ad) (ao : Nat) (ha : h.1 ao = some (9, 1)) (p0 p1 : Int32) : th_M l yL_make wsL_make { frames := 8, cells := 8, slots := 54, locals := 136 } D cs h sz [.ref x, .int p0, .int p1, .ref ao] (fun v h' => ∃ k b h1, v = some (.int k) ∧ ((k = 0 ∧ p3_make x aO ta h n p0 p1 (some (.int b)) h1 ∧ h' = th_ui h1 ao 0 b) ∨ ((∃ E, e3_make x ta h n p0 p1 E h1 ∧ cd_make E k) ∧ h' = h1))) (fun E h' => False) := by
  refine mw_ofWH (cc := cL_make) (maxL := 5) (ret := (some .int)) (hh := hhL_make) (by decide) rfl (fun w h => List.mem_cons_of_mem _ h) th_cd (Nat.le_of_ble_eq_true rfl) ?_
  intro p e s m below meth c hsz hC hr hlk hnm htab hM ls hl
  have hC : th_C D cs h p m c cL_make 5 s [.ref x, .int p0, .int p1, .ref ao] RL := hC
  have hx := hC.1.1
  have hb := hC.1.2.1
  have kx0 : h.1 x = some (0, 0) := R.1.1.1.kx
  have hl : lv_has ls 5 [(0, .ref x), (1, .int p0), (2, .int p1), (3, .ref ao)] := hl
  refine lv_aload_n hx hb dL_make_0 rfl (lv_at hl 3 rfl) ?_
  refine lv_iconst (v := 0) hx hb dL_make_1 (by decide) ?_
  refine lv_aload_n hx hb dL_make_2 rfl (lv_at hl 0 rfl) ?_
  refine lv_iload_n hx hb dL_make_3 rfl (lv_at hl 1 rfl) ?_
  refine lv_iload_n hx hb dL_make_4 rfl (lv_at hl 2 rfl) ?_
  refine mw_callV (As := [.int p0, .int p1]) (rest := [.int 0, .ref ao]) (n := 2) (C := RX3) (T := TX3) (N := 11) (ci := 3) hC hM (c_X3_make l hl0 D cs h s.heap.size x aR aO aH aT rt ta R.1.1.1 n R.1.1.2 p0 p1) (cwV 2 hC.1.2.2.2.2 (tb_V mb_304 mb_305 mb_306 mb_36 mb_307) rfl rfl rfl (by decide +kernel) ⟨Nat.le_of_ble_eq_true rfl, Nat.le_of_ble_eq_true rfl⟩) (th_at (h := h) kx0) rfl rfl rfl hl.1 (Nat.le_of_ble_eq_true rfl) dL_make_5 ⟨Nat.le_of_ble_eq_true rfl, Nat.le_of_ble_eq_true rfl⟩ (fun E ce q9 g9 H locs hp9 hM hce hcv hcl => ?_) (fun v9 g9 H locs hp9 hM => ?_)
  · obtain ⟨h4, rfl, hp9⟩ := hp9
    have hp9 : e3_make x ta h n p0 p1 E h4 := hp9
    rcases X_make hp9 with rfl | rfl | rfl | rfl
    · refine mw_catch hC htab [] (0, 10, 13, 21) [(0, 10, 17, 23), (0, 10, 21, 13), (0, 10, 25, 15)] rfl mw_p0 (by decide) (by decide) mb_302 (List.mem_of_getElem? (i := 13) rfl) hce hcv hcl ?_
      refine lv_astore (lv' := [(4, .ref q9), (0, .ref x), (1, .int p0), (2, .int p1), (3, .ref ao)]) hx hb dL_make_13 hl (by decide) rfl (fun ls hl => ?_)
      refine lv_iconst (v := 1) hx hb dL_make_15 (by decide) ?_
      refine mw_iret hC hM hr hlk dL_make_16 (Nat.le_of_ble_eq_true rfl) (Nat.le_of_ble_eq_true rfl) ⟨_, rfl, ?_⟩
      exact ⟨1, 0, h4, rfl, Or.inr ⟨⟨_, hp9, Or.inl (⟨rfl, rfl⟩)⟩, rfl⟩⟩
    · refine mw_catch hC htab [(0, 10, 13, 21)] (0, 10, 17, 23) [(0, 10, 21, 13), (0, 10, 25, 15)] rfl (mw_p1 ⟨by decide, "java/util/NoSuchElementException", mb_302, (List.mem_of_getElem? (i := 22) rfl)⟩ mw_p0) (by decide) (by decide) mb_303 (List.mem_of_getElem? (i := 14) rfl) hce hcv hcl ?_
      refine lv_astore (lv' := [(4, .ref q9), (0, .ref x), (1, .int p0), (2, .int p1), (3, .ref ao)]) hx hb dL_make_17 hl (by decide) rfl (fun ls hl => ?_)
      refine lv_iconst (v := 2) hx hb dL_make_19 (by decide) ?_
      refine mw_iret hC hM hr hlk dL_make_20 (Nat.le_of_ble_eq_true rfl) (Nat.le_of_ble_eq_true rfl) ⟨_, rfl, ?_⟩
      exact ⟨2, 0, h4, rfl, Or.inr ⟨⟨_, hp9, Or.inr (Or.inl (⟨rfl, rfl⟩))⟩, rfl⟩⟩
    · refine mw_catch hC htab [(0, 10, 13, 21), (0, 10, 17, 23)] (0, 10, 21, 13) [(0, 10, 25, 15)] rfl (mw_p1 ⟨by decide, "java/util/NoSuchElementException", mb_302, (List.mem_of_getElem? (i := 27) rfl)⟩ (mw_p1 ⟨by decide, "java/lang/IllegalArgumentException", mb_303, (List.mem_of_getElem? (i := 28) rfl)⟩ mw_p0)) (by decide) (by decide) mb_213 (List.mem_of_getElem? (i := 5) rfl) hce hcv hcl ?_
      refine lv_astore (lv' := [(4, .ref q9), (0, .ref x), (1, .int p0), (2, .int p1), (3, .ref ao)]) hx hb dL_make_21 hl (by decide) rfl (fun ls hl => ?_)
      refine lv_iconst (v := 3) hx hb dL_make_23 (by decide) ?_
      refine mw_iret hC hM hr hlk dL_make_24 (Nat.le_of_ble_eq_true rfl) (Nat.le_of_ble_eq_true rfl) ⟨_, rfl, ?_⟩
      exact ⟨3, 0, h4, rfl, Or.inr ⟨⟨_, hp9, Or.inr (Or.inr (Or.inl (⟨rfl, rfl⟩)))⟩, rfl⟩⟩
    · refine mw_catch hC htab [(0, 10, 13, 21), (0, 10, 17, 23), (0, 10, 21, 13)] (0, 10, 25, 15) [] rfl (mw_p1 ⟨by decide, "java/util/NoSuchElementException", mb_302, (List.mem_of_getElem? (i := 32) rfl)⟩ (mw_p1 ⟨by decide, "java/lang/IllegalArgumentException", mb_303, (List.mem_of_getElem? (i := 33) rfl)⟩ (mw_p1 ⟨by decide, "java/lang/IllegalStateException", mb_213, (List.mem_of_getElem? (i := 34) rfl)⟩ mw_p0))) (by decide) (by decide) mb_214 (List.mem_of_getElem? (i := 12) rfl) hce hcv hcl ?_
      refine lv_astore (lv' := [(4, .ref q9), (0, .ref x), (1, .int p0), (2, .int p1), (3, .ref ao)]) hx hb dL_make_25 hl (by decide) rfl (fun ls hl => ?_)
      refine lv_iconst (v := 4) hx hb dL_make_27 (by decide) ?_
      refine mw_iret hC hM hr hlk dL_make_28 (Nat.le_of_ble_eq_true rfl) (Nat.le_of_ble_eq_true rfl) ⟨_, rfl, ?_⟩
      exact ⟨4, 0, h4, rfl, Or.inr ⟨⟨_, hp9, Or.inr (Or.inr (Or.inr (⟨rfl, rfl⟩)))⟩, rfl⟩⟩
  obtain ⟨h3, rfl, hp9⟩ := hp9
  have hp9 : p3_make x aO ta h n p0 p1 v9 h3 := hp9
  obtain ⟨b9, rfl⟩ := V_make hp9
  have ka9 := (F_make R (c := 0) (Or.inl ⟨rfl, hp9⟩) ao _ ha (by show 7 ≤ 9; omega)).1
  refine W.eq (g2 := F0 m 8 ls [.int b9, .int 0, .ref ao]) rfl ?_
  refine lv_i2l hx hb dL_make_8 rfl ?_
  refine as_9 (i := 0) (v := b9) hC hM ka9 (by decide) (by decide) (by first | decide | omega) dL_make_9 (fun H locs hM => ?_)
  refine lv_goto (tgt := 29) hx hb dL_make_10 (by decide) ?_
  refine lv_iconst (v := 0) hx hb dL_make_29 (by decide) ?_
  refine mw_iret hC hM hr hlk dL_make_30 (Nat.le_of_ble_eq_true rfl) (Nat.le_of_ble_eq_true rfl) ⟨_, rfl, ?_⟩
  exact ⟨0, b9, h3, rfl, Or.inl ⟨rfl, hp9, rfl⟩⟩

-- StableHeapLaw.setInt
set_option maxHeartbeats 4000000 in
set_option maxRecDepth 100000 in
theorem c_L_setInt (l : Launch) (hl0 : l.stackTraces = false) (D : va_G) (cs : Nat → ClassId) (h : th_S) (sz : Nat) (x aR aO aH aT : Nat) (rt ta : Nat → Nat) (S : th_N) (N n u : Nat) (ad : Nat → Nat) (R : RR x aR aO aH aT rt ta h S N n u ad) (ao : Nat) (ha : h.1 ao = some (9, 1)) (p0 p1 p2 p3 : Int32) : th_M l yL_setInt wsL_setInt { frames := 8, cells := 5, slots := 30, locals := 139 } D cs h sz [.ref x, .int p0, .int p1, .int p2, .int p3, .ref ao] (fun v h' => ∃ k b h1, v = some (.int k) ∧ ((k = 0 ∧ p3_setInt x aO ta h n p0 p1 p2 p3 (some (.int b)) h1 ∧ h' = th_ui h1 ao 0 b) ∨ ((∃ E, e3_setInt x aO ta h n p0 p1 p2 E h1 ∧ cd_setInt E k) ∧ h' = h1))) (fun E h' => False) := by
  refine mw_ofWH (cc := cL_setInt) (maxL := 7) (ret := (some .int)) (hh := hhL_setInt) (by decide) rfl (fun w h => List.mem_cons_of_mem _ h) th_cd (Nat.le_of_ble_eq_true rfl) ?_
  intro p e s m below meth c hsz hC hr hlk hnm htab hM ls hl
  have hC : th_C D cs h p m c cL_setInt 7 s [.ref x, .int p0, .int p1, .int p2, .int p3, .ref ao] RL := hC
  have hx := hC.1.1
  have hb := hC.1.2.1
  have kx0 : h.1 x = some (0, 0) := R.1.1.1.kx
  have hl : lv_has ls 7 [(0, .ref x), (1, .int p0), (2, .int p1), (3, .int p2), (4, .int p3), (5, .ref ao)] := hl
  refine lv_aload hx hb dL_setInt_0 (lv_at hl 5 rfl) ?_
  refine lv_iconst (v := 0) hx hb dL_setInt_2 (by decide) ?_
  refine lv_aload_n hx hb dL_setInt_3 rfl (lv_at hl 0 rfl) ?_
  refine lv_iload_n hx hb dL_setInt_4 rfl (lv_at hl 1 rfl) ?_
  refine lv_iload_n hx hb dL_setInt_5 rfl (lv_at hl 2 rfl) ?_
  refine lv_iload_n hx hb dL_setInt_6 rfl (lv_at hl 3 rfl) ?_
  refine lv_iload hx hb dL_setInt_7 (lv_at hl 4 rfl) ?_
  refine mw_callV (As := [.int p0, .int p1, .int p2, .int p3]) (rest := [.int 0, .ref ao]) (n := 4) (C := RX3) (T := TX3) (N := 11) (ci := 3) hC hM (c_X3_setInt l hl0 D cs h s.heap.size x aR aO aH aT rt ta R.1.1.1 n R.1.1.2 p0 p1 p2 p3) (cwV 4 hC.1.2.2.2.2 (tb_V mb_343 mb_344 mb_345 mb_36 mb_346) rfl rfl rfl (by decide +kernel) ⟨Nat.le_of_ble_eq_true rfl, Nat.le_of_ble_eq_true rfl⟩) (th_at (h := h) kx0) rfl rfl rfl hl.1 (Nat.le_of_ble_eq_true rfl) dL_setInt_9 ⟨Nat.le_of_ble_eq_true rfl, Nat.le_of_ble_eq_true rfl⟩ (fun E ce q9 g9 H locs hp9 hM hce hcv hcl => ?_) (fun v9 g9 H locs hp9 hM => ?_)
  · obtain ⟨h4, rfl, hp9⟩ := hp9
    have hp9 : e3_setInt x aO ta h n p0 p1 p2 E h4 := hp9
    rcases X_setInt hp9 with rfl | rfl | rfl | rfl
    · refine mw_catch hC htab [] (0, 14, 17, 21) [(0, 14, 21, 29), (0, 14, 25, 13), (0, 14, 29, 15)] rfl mw_p0 (by decide) (by decide) mb_302 (List.mem_of_getElem? (i := 13) rfl) hce hcv hcl ?_
      refine lv_astore (lv' := [(6, .ref q9), (0, .ref x), (1, .int p0), (2, .int p1), (3, .int p2), (4, .int p3), (5, .ref ao)]) hx hb dL_setInt_17 hl (by decide) rfl (fun ls hl => ?_)
      refine lv_iconst (v := 1) hx hb dL_setInt_19 (by decide) ?_
      refine mw_iret hC hM hr hlk dL_setInt_20 (Nat.le_of_ble_eq_true rfl) (Nat.le_of_ble_eq_true rfl) ⟨_, rfl, ?_⟩
      exact ⟨1, 0, h4, rfl, Or.inr ⟨⟨_, hp9, Or.inl (⟨rfl, rfl⟩)⟩, rfl⟩⟩
    · refine mw_catch hC htab [(0, 14, 17, 21)] (0, 14, 21, 29) [(0, 14, 25, 13), (0, 14, 29, 15)] rfl (mw_p1 ⟨by decide, "java/util/NoSuchElementException", mb_302, (List.mem_of_getElem? (i := 37) rfl)⟩ mw_p0) (by decide) (by decide) mb_342 (List.mem_of_getElem? (i := 15) rfl) hce hcv hcl ?_
      refine lv_astore (lv' := [(6, .ref q9), (0, .ref x), (1, .int p0), (2, .int p1), (3, .int p2), (4, .int p3), (5, .ref ao)]) hx hb dL_setInt_21 hl (by decide) rfl (fun ls hl => ?_)
      refine lv_iconst (v := 2) hx hb dL_setInt_23 (by decide) ?_
      refine mw_iret hC hM hr hlk dL_setInt_24 (Nat.le_of_ble_eq_true rfl) (Nat.le_of_ble_eq_true rfl) ⟨_, rfl, ?_⟩
      exact ⟨2, 0, h4, rfl, Or.inr ⟨⟨_, hp9, Or.inr (Or.inl (⟨rfl, rfl⟩))⟩, rfl⟩⟩
    · refine mw_catch hC htab [(0, 14, 17, 21), (0, 14, 21, 29)] (0, 14, 25, 13) [(0, 14, 29, 15)] rfl (mw_p1 ⟨by decide, "java/util/NoSuchElementException", mb_302, (List.mem_of_getElem? (i := 27) rfl)⟩ (mw_p1 ⟨by decide, "java/lang/IndexOutOfBoundsException", mb_342, (List.mem_of_getElem? (i := 30) rfl)⟩ mw_p0)) (by decide) (by decide) mb_213 (List.mem_of_getElem? (i := 5) rfl) hce hcv hcl ?_
      refine lv_astore (lv' := [(6, .ref q9), (0, .ref x), (1, .int p0), (2, .int p1), (3, .int p2), (4, .int p3), (5, .ref ao)]) hx hb dL_setInt_25 hl (by decide) rfl (fun ls hl => ?_)
      refine lv_iconst (v := 3) hx hb dL_setInt_27 (by decide) ?_
      refine mw_iret hC hM hr hlk dL_setInt_28 (Nat.le_of_ble_eq_true rfl) (Nat.le_of_ble_eq_true rfl) ⟨_, rfl, ?_⟩
      exact ⟨3, 0, h4, rfl, Or.inr ⟨⟨_, hp9, Or.inr (Or.inr (Or.inl (⟨rfl, rfl⟩)))⟩, rfl⟩⟩
    · refine mw_catch hC htab [(0, 14, 17, 21), (0, 14, 21, 29), (0, 14, 25, 13)] (0, 14, 29, 15) [] rfl (mw_p1 ⟨by decide, "java/util/NoSuchElementException", mb_302, (List.mem_of_getElem? (i := 32) rfl)⟩ (mw_p1 ⟨by decide, "java/lang/IndexOutOfBoundsException", mb_342, (List.mem_of_getElem? (i := 35) rfl)⟩ (mw_p1 ⟨by decide, "java/lang/IllegalStateException", mb_213, (List.mem_of_getElem? (i := 34) rfl)⟩ mw_p0))) (by decide) (by decide) mb_214 (List.mem_of_getElem? (i := 12) rfl) hce hcv hcl ?_
      refine lv_astore (lv' := [(6, .ref q9), (0, .ref x), (1, .int p0), (2, .int p1), (3, .int p2), (4, .int p3), (5, .ref ao)]) hx hb dL_setInt_29 hl (by decide) rfl (fun ls hl => ?_)
      refine lv_iconst (v := 4) hx hb dL_setInt_31 (by decide) ?_
      refine mw_iret hC hM hr hlk dL_setInt_32 (Nat.le_of_ble_eq_true rfl) (Nat.le_of_ble_eq_true rfl) ⟨_, rfl, ?_⟩
      exact ⟨4, 0, h4, rfl, Or.inr ⟨⟨_, hp9, Or.inr (Or.inr (Or.inr (⟨rfl, rfl⟩)))⟩, rfl⟩⟩
  obtain ⟨h3, rfl, hp9⟩ := hp9
  have hp9 : p3_setInt x aO ta h n p0 p1 p2 p3 v9 h3 := hp9
  obtain ⟨b9, rfl⟩ := V_setInt hp9
  have ka9 := (F_setInt R (c := 0) (Or.inl ⟨rfl, hp9⟩) ao _ ha (by show 7 ≤ 9; omega)).1
  refine W.eq (g2 := F0 m 12 ls [.int b9, .int 0, .ref ao]) rfl ?_
  refine lv_i2l hx hb dL_setInt_12 rfl ?_
  refine as_9 (i := 0) (v := b9) hC hM ka9 (by decide) (by decide) (by first | decide | omega) dL_setInt_13 (fun H locs hM => ?_)
  refine lv_goto (tgt := 33) hx hb dL_setInt_14 (by decide) ?_
  refine lv_iconst (v := 0) hx hb dL_setInt_33 (by decide) ?_
  refine mw_iret hC hM hr hlk dL_setInt_34 (Nat.le_of_ble_eq_true rfl) (Nat.le_of_ble_eq_true rfl) ⟨_, rfl, ?_⟩
  exact ⟨0, b9, h3, rfl, Or.inl ⟨rfl, hp9, rfl⟩⟩

-- StableHeapLaw.setReference
set_option maxHeartbeats 4000000 in
set_option maxRecDepth 100000 in
theorem c_L_setReference (l : Launch) (hl0 : l.stackTraces = false) (D : va_G) (cs : Nat → ClassId) (h : th_S) (sz : Nat) (x aR aO aH aT : Nat) (rt ta : Nat → Nat) (S : th_N) (N n u : Nat) (ad : Nat → Nat) (R : RR x aR aO aH aT rt ta h S N n u ad) (ao : Nat) (ha : h.1 ao = some (9, 1)) (p0 p1 p2 p3 : Int32) : th_M l yL_setReference wsL_setReference { frames := 9, cells := 6, slots := 36, locals := 164 } D cs h sz [.ref x, .int p0, .int p1, .int p2, .int p3, .ref ao] (fun v h' => ∃ k b h1, v = some (.int k) ∧ ((k = 0 ∧ p3_setReference x aO ta h n p0 p1 p2 p3 (some (.int b)) h1 ∧ h' = th_ui h1 ao 0 b) ∨ ((∃ E, e3_setReference x aO ta h n p0 p1 p2 p3 E h1 ∧ cd_setRef E k) ∧ h' = h1))) (fun E h' => False) := by
  refine mw_ofWH (cc := cL_setReference) (maxL := 7) (ret := (some .int)) (hh := hhL_setReference) (by decide) rfl (fun w h => List.mem_cons_of_mem _ h) th_cd (Nat.le_of_ble_eq_true rfl) ?_
  intro p e s m below meth c hsz hC hr hlk hnm htab hM ls hl
  have hC : th_C D cs h p m c cL_setReference 7 s [.ref x, .int p0, .int p1, .int p2, .int p3, .ref ao] RL := hC
  have hx := hC.1.1
  have hb := hC.1.2.1
  have kx0 : h.1 x = some (0, 0) := R.1.1.1.kx
  have hl : lv_has ls 7 [(0, .ref x), (1, .int p0), (2, .int p1), (3, .int p2), (4, .int p3), (5, .ref ao)] := hl
  refine lv_aload hx hb dL_setReference_0 (lv_at hl 5 rfl) ?_
  refine lv_iconst (v := 0) hx hb dL_setReference_2 (by decide) ?_
  refine lv_aload_n hx hb dL_setReference_3 rfl (lv_at hl 0 rfl) ?_
  refine lv_iload_n hx hb dL_setReference_4 rfl (lv_at hl 1 rfl) ?_
  refine lv_iload_n hx hb dL_setReference_5 rfl (lv_at hl 2 rfl) ?_
  refine lv_iload_n hx hb dL_setReference_6 rfl (lv_at hl 3 rfl) ?_
  refine lv_iload hx hb dL_setReference_7 (lv_at hl 4 rfl) ?_
  refine mw_callV (As := [.int p0, .int p1, .int p2, .int p3]) (rest := [.int 0, .ref ao]) (n := 4) (C := RX3) (T := TX3) (N := 11) (ci := 3) hC hM (c_X3_setReference l hl0 D cs h s.heap.size x aR aO aH aT rt ta R.1.1.1 n R.1.1.2 p0 p1 p2 p3) (cwV 4 hC.1.2.2.2.2 (tb_V mb_383 mb_384 mb_385 mb_36 mb_386) rfl rfl rfl (by decide +kernel) ⟨Nat.le_of_ble_eq_true rfl, Nat.le_of_ble_eq_true rfl⟩) (th_at (h := h) kx0) rfl rfl rfl hl.1 (Nat.le_of_ble_eq_true rfl) dL_setReference_9 ⟨Nat.le_of_ble_eq_true rfl, Nat.le_of_ble_eq_true rfl⟩ (fun E ce q9 g9 H locs hp9 hM hce hcv hcl => ?_) (fun v9 g9 H locs hp9 hM => ?_)
  · obtain ⟨h4, rfl, hp9⟩ := hp9
    have hp9 : e3_setReference x aO ta h n p0 p1 p2 p3 E h4 := hp9
    rcases X_setReference hp9 with rfl | rfl | rfl | rfl | rfl
    · refine mw_catch hC htab [] (0, 14, 17, 21) [(0, 14, 21, 29), (0, 14, 25, 13), (0, 14, 29, 23), (0, 14, 33, 15)] rfl mw_p0 (by decide) (by decide) mb_302 (List.mem_of_getElem? (i := 13) rfl) hce hcv hcl ?_
      refine lv_astore (lv' := [(6, .ref q9), (0, .ref x), (1, .int p0), (2, .int p1), (3, .int p2), (4, .int p3), (5, .ref ao)]) hx hb dL_setReference_17 hl (by decide) rfl (fun ls hl => ?_)
      refine lv_iconst (v := 1) hx hb dL_setReference_19 (by decide) ?_
      refine mw_iret hC hM hr hlk dL_setReference_20 (Nat.le_of_ble_eq_true rfl) (Nat.le_of_ble_eq_true rfl) ⟨_, rfl, ?_⟩
      exact ⟨1, 0, h4, rfl, Or.inr ⟨⟨_, hp9, Or.inl (⟨rfl, rfl⟩)⟩, rfl⟩⟩
    · refine mw_catch hC htab [(0, 14, 17, 21)] (0, 14, 21, 29) [(0, 14, 25, 13), (0, 14, 29, 23), (0, 14, 33, 15)] rfl (mw_p1 ⟨by decide, "java/util/NoSuchElementException", mb_302, (List.mem_of_getElem? (i := 37) rfl)⟩ mw_p0) (by decide) (by decide) mb_342 (List.mem_of_getElem? (i := 15) rfl) hce hcv hcl ?_
      refine lv_astore (lv' := [(6, .ref q9), (0, .ref x), (1, .int p0), (2, .int p1), (3, .int p2), (4, .int p3), (5, .ref ao)]) hx hb dL_setReference_21 hl (by decide) rfl (fun ls hl => ?_)
      refine lv_iconst (v := 2) hx hb dL_setReference_23 (by decide) ?_
      refine mw_iret hC hM hr hlk dL_setReference_24 (Nat.le_of_ble_eq_true rfl) (Nat.le_of_ble_eq_true rfl) ⟨_, rfl, ?_⟩
      exact ⟨2, 0, h4, rfl, Or.inr ⟨⟨_, hp9, Or.inr (Or.inl (⟨rfl, rfl⟩))⟩, rfl⟩⟩
    · refine mw_catch hC htab [(0, 14, 17, 21), (0, 14, 21, 29)] (0, 14, 25, 13) [(0, 14, 29, 23), (0, 14, 33, 15)] rfl (mw_p1 ⟨by decide, "java/util/NoSuchElementException", mb_302, (List.mem_of_getElem? (i := 27) rfl)⟩ (mw_p1 ⟨by decide, "java/lang/IndexOutOfBoundsException", mb_342, (List.mem_of_getElem? (i := 30) rfl)⟩ mw_p0)) (by decide) (by decide) mb_213 (List.mem_of_getElem? (i := 5) rfl) hce hcv hcl ?_
      refine lv_astore (lv' := [(6, .ref q9), (0, .ref x), (1, .int p0), (2, .int p1), (3, .int p2), (4, .int p3), (5, .ref ao)]) hx hb dL_setReference_25 hl (by decide) rfl (fun ls hl => ?_)
      refine lv_iconst (v := 3) hx hb dL_setReference_27 (by decide) ?_
      refine mw_iret hC hM hr hlk dL_setReference_28 (Nat.le_of_ble_eq_true rfl) (Nat.le_of_ble_eq_true rfl) ⟨_, rfl, ?_⟩
      exact ⟨3, 0, h4, rfl, Or.inr ⟨⟨_, hp9, Or.inr (Or.inr (Or.inl (⟨rfl, rfl⟩)))⟩, rfl⟩⟩
    · refine mw_catch hC htab [(0, 14, 17, 21), (0, 14, 21, 29), (0, 14, 25, 13)] (0, 14, 29, 23) [(0, 14, 33, 15)] rfl (mw_p1 ⟨by decide, "java/util/NoSuchElementException", mb_302, (List.mem_of_getElem? (i := 22) rfl)⟩ (mw_p1 ⟨by decide, "java/lang/IndexOutOfBoundsException", mb_342, (List.mem_of_getElem? (i := 25) rfl)⟩ (mw_p1 ⟨by decide, "java/lang/IllegalStateException", mb_213, (List.mem_of_getElem? (i := 23) rfl)⟩ mw_p0))) (by decide) (by decide) mb_303 (List.mem_of_getElem? (i := 14) rfl) hce hcv hcl ?_
      refine lv_astore (lv' := [(6, .ref q9), (0, .ref x), (1, .int p0), (2, .int p1), (3, .int p2), (4, .int p3), (5, .ref ao)]) hx hb dL_setReference_29 hl (by decide) rfl (fun ls hl => ?_)
      refine lv_iconst (v := 4) hx hb dL_setReference_31 (by decide) ?_
      refine mw_iret hC hM hr hlk dL_setReference_32 (Nat.le_of_ble_eq_true rfl) (Nat.le_of_ble_eq_true rfl) ⟨_, rfl, ?_⟩
      exact ⟨4, 0, h4, rfl, Or.inr ⟨⟨_, hp9, Or.inr (Or.inr (Or.inr (Or.inl (⟨rfl, rfl⟩))))⟩, rfl⟩⟩
    · refine mw_catch hC htab [(0, 14, 17, 21), (0, 14, 21, 29), (0, 14, 25, 13), (0, 14, 29, 23)] (0, 14, 33, 15) [] rfl (mw_p1 ⟨by decide, "java/util/NoSuchElementException", mb_302, (List.mem_of_getElem? (i := 32) rfl)⟩ (mw_p1 ⟨by decide, "java/lang/IndexOutOfBoundsException", mb_342, (List.mem_of_getElem? (i := 35) rfl)⟩ (mw_p1 ⟨by decide, "java/lang/IllegalStateException", mb_213, (List.mem_of_getElem? (i := 34) rfl)⟩ (mw_p1 ⟨by decide, "java/lang/IllegalArgumentException", mb_303, (List.mem_of_getElem? (i := 33) rfl)⟩ mw_p0)))) (by decide) (by decide) mb_214 (List.mem_of_getElem? (i := 12) rfl) hce hcv hcl ?_
      refine lv_astore (lv' := [(6, .ref q9), (0, .ref x), (1, .int p0), (2, .int p1), (3, .int p2), (4, .int p3), (5, .ref ao)]) hx hb dL_setReference_33 hl (by decide) rfl (fun ls hl => ?_)
      refine lv_iconst (v := 5) hx hb dL_setReference_35 (by decide) ?_
      refine mw_iret hC hM hr hlk dL_setReference_36 (Nat.le_of_ble_eq_true rfl) (Nat.le_of_ble_eq_true rfl) ⟨_, rfl, ?_⟩
      exact ⟨5, 0, h4, rfl, Or.inr ⟨⟨_, hp9, Or.inr (Or.inr (Or.inr (Or.inr (⟨rfl, rfl⟩))))⟩, rfl⟩⟩
  obtain ⟨h3, rfl, hp9⟩ := hp9
  have hp9 : p3_setReference x aO ta h n p0 p1 p2 p3 v9 h3 := hp9
  obtain ⟨b9, rfl⟩ := V_setReference hp9
  have ka9 := (F_setReference R (c := 0) (Or.inl ⟨rfl, hp9⟩) ao _ ha (by show 7 ≤ 9; omega)).1
  refine W.eq (g2 := F0 m 12 ls [.int b9, .int 0, .ref ao]) rfl ?_
  refine lv_i2l hx hb dL_setReference_12 rfl ?_
  refine as_9 (i := 0) (v := b9) hC hM ka9 (by decide) (by decide) (by first | decide | omega) dL_setReference_13 (fun H locs hM => ?_)
  refine lv_goto (tgt := 37) hx hb dL_setReference_14 (by decide) ?_
  refine lv_iconst (v := 0) hx hb dL_setReference_37 (by decide) ?_
  refine mw_iret hC hM hr hlk dL_setReference_38 (Nat.le_of_ble_eq_true rfl) (Nat.le_of_ble_eq_true rfl) ⟨_, rfl, ?_⟩
  exact ⟨0, b9, h3, rfl, Or.inl ⟨rfl, hp9, rfl⟩⟩

-- StableHeapLaw.setRoot
set_option maxHeartbeats 4000000 in
set_option maxRecDepth 100000 in
theorem c_L_setRoot (l : Launch) (hl0 : l.stackTraces = false) (D : va_G) (cs : Nat → ClassId) (h : th_S) (sz : Nat) (x aR aO aH aT : Nat) (rt ta : Nat → Nat) (S : th_N) (N n u : Nat) (ad : Nat → Nat) (R : RR x aR aO aH aT rt ta h S N n u ad) (ao : Nat) (ha : h.1 ao = some (9, 1)) (p0 p1 p2 : Int32) : th_M l yL_setRoot wsL_setRoot { frames := 9, cells := 5, slots := 30, locals := 162 } D cs h sz [.ref x, .int p0, .int p1, .int p2, .ref ao] (fun v h' => ∃ k b h1, v = some (.int k) ∧ ((k = 0 ∧ p3_setRoot x aO rt ta h n p0 p1 p2 (some (.int b)) h1 ∧ h' = th_ui h1 ao 0 b) ∨ ((∃ E, e3_setRoot x aO rt ta h n p0 p1 p2 E h1 ∧ cd_setRef E k) ∧ h' = h1))) (fun E h' => False) := by
  refine mw_ofWH (cc := cL_setRoot) (maxL := 6) (ret := (some .int)) (hh := hhL_setRoot) (by decide) rfl (fun w h => List.mem_cons_of_mem _ h) th_cd (Nat.le_of_ble_eq_true rfl) ?_
  intro p e s m below meth c hsz hC hr hlk hnm htab hM ls hl
  have hC : th_C D cs h p m c cL_setRoot 6 s [.ref x, .int p0, .int p1, .int p2, .ref ao] RL := hC
  have hx := hC.1.1
  have hb := hC.1.2.1
  have kx0 : h.1 x = some (0, 0) := R.1.1.1.kx
  have hl : lv_has ls 6 [(0, .ref x), (1, .int p0), (2, .int p1), (3, .int p2), (4, .ref ao)] := hl
  refine lv_aload hx hb dL_setRoot_0 (lv_at hl 4 rfl) ?_
  refine lv_iconst (v := 0) hx hb dL_setRoot_2 (by decide) ?_
  refine lv_aload_n hx hb dL_setRoot_3 rfl (lv_at hl 0 rfl) ?_
  refine lv_iload_n hx hb dL_setRoot_4 rfl (lv_at hl 1 rfl) ?_
  refine lv_iload_n hx hb dL_setRoot_5 rfl (lv_at hl 2 rfl) ?_
  refine lv_iload_n hx hb dL_setRoot_6 rfl (lv_at hl 3 rfl) ?_
  refine mw_callV (As := [.int p0, .int p1, .int p2]) (rest := [.int 0, .ref ao]) (n := 3) (C := RX3) (T := TX3) (N := 11) (ci := 3) hC hM (c_X3_setRoot l hl0 D cs h s.heap.size x aR aO aH aT rt ta R.1.1.1 n R.1.1.2 p0 p1 p2) (cwV 3 hC.1.2.2.2.2 (tb_V mb_397 mb_398 mb_399 mb_36 mb_400) rfl rfl rfl (by decide +kernel) ⟨Nat.le_of_ble_eq_true rfl, Nat.le_of_ble_eq_true rfl⟩) (th_at (h := h) kx0) rfl rfl rfl hl.1 (Nat.le_of_ble_eq_true rfl) dL_setRoot_7 ⟨Nat.le_of_ble_eq_true rfl, Nat.le_of_ble_eq_true rfl⟩ (fun E ce q9 g9 H locs hp9 hM hce hcv hcl => ?_) (fun v9 g9 H locs hp9 hM => ?_)
  · obtain ⟨h4, rfl, hp9⟩ := hp9
    have hp9 : e3_setRoot x aO rt ta h n p0 p1 p2 E h4 := hp9
    rcases X_setRoot hp9 with rfl | rfl | rfl | rfl | rfl
    · refine mw_catch hC htab [] (0, 12, 15, 21) [(0, 12, 19, 29), (0, 12, 23, 13), (0, 12, 27, 23), (0, 12, 31, 15)] rfl mw_p0 (by decide) (by decide) mb_302 (List.mem_of_getElem? (i := 13) rfl) hce hcv hcl ?_
      refine lv_astore (lv' := [(5, .ref q9), (0, .ref x), (1, .int p0), (2, .int p1), (3, .int p2), (4, .ref ao)]) hx hb dL_setRoot_15 hl (by decide) rfl (fun ls hl => ?_)
      refine lv_iconst (v := 1) hx hb dL_setRoot_17 (by decide) ?_
      refine mw_iret hC hM hr hlk dL_setRoot_18 (Nat.le_of_ble_eq_true rfl) (Nat.le_of_ble_eq_true rfl) ⟨_, rfl, ?_⟩
      exact ⟨1, 0, h4, rfl, Or.inr ⟨⟨_, hp9, Or.inl (⟨rfl, rfl⟩)⟩, rfl⟩⟩
    · refine mw_catch hC htab [(0, 12, 15, 21)] (0, 12, 19, 29) [(0, 12, 23, 13), (0, 12, 27, 23), (0, 12, 31, 15)] rfl (mw_p1 ⟨by decide, "java/util/NoSuchElementException", mb_302, (List.mem_of_getElem? (i := 37) rfl)⟩ mw_p0) (by decide) (by decide) mb_342 (List.mem_of_getElem? (i := 15) rfl) hce hcv hcl ?_
      refine lv_astore (lv' := [(5, .ref q9), (0, .ref x), (1, .int p0), (2, .int p1), (3, .int p2), (4, .ref ao)]) hx hb dL_setRoot_19 hl (by decide) rfl (fun ls hl => ?_)
      refine lv_iconst (v := 2) hx hb dL_setRoot_21 (by decide) ?_
      refine mw_iret hC hM hr hlk dL_setRoot_22 (Nat.le_of_ble_eq_true rfl) (Nat.le_of_ble_eq_true rfl) ⟨_, rfl, ?_⟩
      exact ⟨2, 0, h4, rfl, Or.inr ⟨⟨_, hp9, Or.inr (Or.inl (⟨rfl, rfl⟩))⟩, rfl⟩⟩
    · refine mw_catch hC htab [(0, 12, 15, 21), (0, 12, 19, 29)] (0, 12, 23, 13) [(0, 12, 27, 23), (0, 12, 31, 15)] rfl (mw_p1 ⟨by decide, "java/util/NoSuchElementException", mb_302, (List.mem_of_getElem? (i := 27) rfl)⟩ (mw_p1 ⟨by decide, "java/lang/IndexOutOfBoundsException", mb_342, (List.mem_of_getElem? (i := 30) rfl)⟩ mw_p0)) (by decide) (by decide) mb_213 (List.mem_of_getElem? (i := 5) rfl) hce hcv hcl ?_
      refine lv_astore (lv' := [(5, .ref q9), (0, .ref x), (1, .int p0), (2, .int p1), (3, .int p2), (4, .ref ao)]) hx hb dL_setRoot_23 hl (by decide) rfl (fun ls hl => ?_)
      refine lv_iconst (v := 3) hx hb dL_setRoot_25 (by decide) ?_
      refine mw_iret hC hM hr hlk dL_setRoot_26 (Nat.le_of_ble_eq_true rfl) (Nat.le_of_ble_eq_true rfl) ⟨_, rfl, ?_⟩
      exact ⟨3, 0, h4, rfl, Or.inr ⟨⟨_, hp9, Or.inr (Or.inr (Or.inl (⟨rfl, rfl⟩)))⟩, rfl⟩⟩
    · refine mw_catch hC htab [(0, 12, 15, 21), (0, 12, 19, 29), (0, 12, 23, 13)] (0, 12, 27, 23) [(0, 12, 31, 15)] rfl (mw_p1 ⟨by decide, "java/util/NoSuchElementException", mb_302, (List.mem_of_getElem? (i := 22) rfl)⟩ (mw_p1 ⟨by decide, "java/lang/IndexOutOfBoundsException", mb_342, (List.mem_of_getElem? (i := 25) rfl)⟩ (mw_p1 ⟨by decide, "java/lang/IllegalStateException", mb_213, (List.mem_of_getElem? (i := 23) rfl)⟩ mw_p0))) (by decide) (by decide) mb_303 (List.mem_of_getElem? (i := 14) rfl) hce hcv hcl ?_
      refine lv_astore (lv' := [(5, .ref q9), (0, .ref x), (1, .int p0), (2, .int p1), (3, .int p2), (4, .ref ao)]) hx hb dL_setRoot_27 hl (by decide) rfl (fun ls hl => ?_)
      refine lv_iconst (v := 4) hx hb dL_setRoot_29 (by decide) ?_
      refine mw_iret hC hM hr hlk dL_setRoot_30 (Nat.le_of_ble_eq_true rfl) (Nat.le_of_ble_eq_true rfl) ⟨_, rfl, ?_⟩
      exact ⟨4, 0, h4, rfl, Or.inr ⟨⟨_, hp9, Or.inr (Or.inr (Or.inr (Or.inl (⟨rfl, rfl⟩))))⟩, rfl⟩⟩
    · refine mw_catch hC htab [(0, 12, 15, 21), (0, 12, 19, 29), (0, 12, 23, 13), (0, 12, 27, 23)] (0, 12, 31, 15) [] rfl (mw_p1 ⟨by decide, "java/util/NoSuchElementException", mb_302, (List.mem_of_getElem? (i := 32) rfl)⟩ (mw_p1 ⟨by decide, "java/lang/IndexOutOfBoundsException", mb_342, (List.mem_of_getElem? (i := 35) rfl)⟩ (mw_p1 ⟨by decide, "java/lang/IllegalStateException", mb_213, (List.mem_of_getElem? (i := 34) rfl)⟩ (mw_p1 ⟨by decide, "java/lang/IllegalArgumentException", mb_303, (List.mem_of_getElem? (i := 33) rfl)⟩ mw_p0)))) (by decide) (by decide) mb_214 (List.mem_of_getElem? (i := 12) rfl) hce hcv hcl ?_
      refine lv_astore (lv' := [(5, .ref q9), (0, .ref x), (1, .int p0), (2, .int p1), (3, .int p2), (4, .ref ao)]) hx hb dL_setRoot_31 hl (by decide) rfl (fun ls hl => ?_)
      refine lv_iconst (v := 5) hx hb dL_setRoot_33 (by decide) ?_
      refine mw_iret hC hM hr hlk dL_setRoot_34 (Nat.le_of_ble_eq_true rfl) (Nat.le_of_ble_eq_true rfl) ⟨_, rfl, ?_⟩
      exact ⟨5, 0, h4, rfl, Or.inr ⟨⟨_, hp9, Or.inr (Or.inr (Or.inr (Or.inr (⟨rfl, rfl⟩))))⟩, rfl⟩⟩
  obtain ⟨h3, rfl, hp9⟩ := hp9
  have hp9 : p3_setRoot x aO rt ta h n p0 p1 p2 v9 h3 := hp9
  obtain ⟨b9, rfl⟩ := V_setRoot hp9
  have ka9 := (F_setRoot R (c := 0) (Or.inl ⟨rfl, hp9⟩) ao _ ha (by show 7 ≤ 9; omega)).1
  refine W.eq (g2 := F0 m 10 ls [.int b9, .int 0, .ref ao]) rfl ?_
  refine lv_i2l hx hb dL_setRoot_10 rfl ?_
  refine as_9 (i := 0) (v := b9) hC hM ka9 (by decide) (by decide) (by first | decide | omega) dL_setRoot_11 (fun H locs hM => ?_)
  refine lv_goto (tgt := 35) hx hb dL_setRoot_12 (by decide) ?_
  refine lv_iconst (v := 0) hx hb dL_setRoot_35 (by decide) ?_
  refine mw_iret hC hM hr hlk dL_setRoot_36 (Nat.le_of_ble_eq_true rfl) (Nat.le_of_ble_eq_true rfl) ⟨_, rfl, ?_⟩
  exact ⟨0, b9, h3, rfl, Or.inl ⟨rfl, hp9, rfl⟩⟩

-- StableHeapLaw.getInt
set_option maxHeartbeats 4000000 in
set_option maxRecDepth 100000 in
theorem c_L_getInt (l : Launch) (hl0 : l.stackTraces = false) (D : va_G) (cs : Nat → ClassId) (h : th_S) (sz : Nat) (x aR aO aH aT : Nat) (rt ta : Nat → Nat) (S : th_N) (N n u : Nat) (ad : Nat → Nat) (R : RR x aR aO aH aT rt ta h S N n u ad) (ao : Nat) (ha : h.1 ao = some (9, 1)) (p0 p1 p2 : Int32) : th_M l yL_getInt wsL_getInt { frames := 9, cells := 5, slots := 30, locals := 162 } D cs h sz [.ref x, .int p0, .int p1, .int p2, .ref ao] (fun v h' => ∃ k b h1, v = some (.int k) ∧ ((k = 0 ∧ p3_getInt aO ta h n p0 p1 p2 (some (.int b)) h1 ∧ h' = th_ui h1 ao 0 b) ∨ ((∃ E, e3_getInt aO ta h n p0 p1 p2 E h1 ∧ cd_get E k) ∧ h' = h1))) (fun E h' => False) := by
  refine mw_ofWH (cc := cL_getInt) (maxL := 6) (ret := (some .int)) (hh := hhL_getInt) (by decide) rfl (fun w h => List.mem_cons_of_mem _ h) th_cd (Nat.le_of_ble_eq_true rfl) ?_
  intro p e s m below meth c hsz hC hr hlk hnm htab hM ls hl
  have hC : th_C D cs h p m c cL_getInt 6 s [.ref x, .int p0, .int p1, .int p2, .ref ao] RL := hC
  have hx := hC.1.1
  have hb := hC.1.2.1
  have kx0 : h.1 x = some (0, 0) := R.1.1.1.kx
  have hl : lv_has ls 6 [(0, .ref x), (1, .int p0), (2, .int p1), (3, .int p2), (4, .ref ao)] := hl
  refine lv_aload hx hb dL_getInt_0 (lv_at hl 4 rfl) ?_
  refine lv_iconst (v := 0) hx hb dL_getInt_2 (by decide) ?_
  refine lv_aload_n hx hb dL_getInt_3 rfl (lv_at hl 0 rfl) ?_
  refine lv_iload_n hx hb dL_getInt_4 rfl (lv_at hl 1 rfl) ?_
  refine lv_iload_n hx hb dL_getInt_5 rfl (lv_at hl 2 rfl) ?_
  refine lv_iload_n hx hb dL_getInt_6 rfl (lv_at hl 3 rfl) ?_
  refine mw_callV (As := [.int p0, .int p1, .int p2]) (rest := [.int 0, .ref ao]) (n := 3) (C := RX3) (T := TX3) (N := 11) (ci := 3) hC hM (c_X3_getInt l hl0 D cs h s.heap.size x aR aO aH aT rt ta R.1.1.1 n R.1.1.2 p0 p1 p2) (cwV 3 hC.1.2.2.2.2 (tb_V mb_408 mb_409 mb_410 mb_36 mb_411) rfl rfl rfl (by decide +kernel) ⟨Nat.le_of_ble_eq_true rfl, Nat.le_of_ble_eq_true rfl⟩) (th_at (h := h) kx0) rfl rfl rfl hl.1 (Nat.le_of_ble_eq_true rfl) dL_getInt_7 ⟨Nat.le_of_ble_eq_true rfl, Nat.le_of_ble_eq_true rfl⟩ (fun E ce q9 g9 H locs hp9 hM hce hcv hcl => ?_) (fun v9 g9 H locs hp9 hM => ?_)
  · obtain ⟨h4, rfl, hp9⟩ := hp9
    have hp9 : e3_getInt aO ta h n p0 p1 p2 E h4 := hp9
    rcases X_getInt hp9 with rfl | rfl | rfl | rfl
    · refine mw_catch hC htab [] (0, 12, 15, 21) [(0, 12, 19, 29), (0, 12, 23, 13), (0, 12, 27, 41)] rfl mw_p0 (by decide) (by decide) mb_302 (List.mem_of_getElem? (i := 13) rfl) hce hcv hcl ?_
      refine lv_astore (lv' := [(5, .ref q9), (0, .ref x), (1, .int p0), (2, .int p1), (3, .int p2), (4, .ref ao)]) hx hb dL_getInt_15 hl (by decide) rfl (fun ls hl => ?_)
      refine lv_iconst (v := 1) hx hb dL_getInt_17 (by decide) ?_
      refine mw_iret hC hM hr hlk dL_getInt_18 (Nat.le_of_ble_eq_true rfl) (Nat.le_of_ble_eq_true rfl) ⟨_, rfl, ?_⟩
      exact ⟨1, 0, h4, rfl, Or.inr ⟨⟨_, hp9, Or.inl (⟨rfl, rfl⟩)⟩, rfl⟩⟩
    · refine mw_catch hC htab [(0, 12, 15, 21)] (0, 12, 19, 29) [(0, 12, 23, 13), (0, 12, 27, 41)] rfl (mw_p1 ⟨by decide, "java/util/NoSuchElementException", mb_302, (List.mem_of_getElem? (i := 37) rfl)⟩ mw_p0) (by decide) (by decide) mb_342 (List.mem_of_getElem? (i := 15) rfl) hce hcv hcl ?_
      refine lv_astore (lv' := [(5, .ref q9), (0, .ref x), (1, .int p0), (2, .int p1), (3, .int p2), (4, .ref ao)]) hx hb dL_getInt_19 hl (by decide) rfl (fun ls hl => ?_)
      refine lv_iconst (v := 2) hx hb dL_getInt_21 (by decide) ?_
      refine mw_iret hC hM hr hlk dL_getInt_22 (Nat.le_of_ble_eq_true rfl) (Nat.le_of_ble_eq_true rfl) ⟨_, rfl, ?_⟩
      exact ⟨2, 0, h4, rfl, Or.inr ⟨⟨_, hp9, Or.inr (Or.inl (⟨rfl, rfl⟩))⟩, rfl⟩⟩
    · refine mw_catch hC htab [(0, 12, 15, 21), (0, 12, 19, 29)] (0, 12, 23, 13) [(0, 12, 27, 41)] rfl (mw_p1 ⟨by decide, "java/util/NoSuchElementException", mb_302, (List.mem_of_getElem? (i := 27) rfl)⟩ (mw_p1 ⟨by decide, "java/lang/IndexOutOfBoundsException", mb_342, (List.mem_of_getElem? (i := 30) rfl)⟩ mw_p0)) (by decide) (by decide) mb_213 (List.mem_of_getElem? (i := 5) rfl) hce hcv hcl ?_
      refine lv_astore (lv' := [(5, .ref q9), (0, .ref x), (1, .int p0), (2, .int p1), (3, .int p2), (4, .ref ao)]) hx hb dL_getInt_23 hl (by decide) rfl (fun ls hl => ?_)
      refine lv_iconst (v := 3) hx hb dL_getInt_25 (by decide) ?_
      refine mw_iret hC hM hr hlk dL_getInt_26 (Nat.le_of_ble_eq_true rfl) (Nat.le_of_ble_eq_true rfl) ⟨_, rfl, ?_⟩
      exact ⟨3, 0, h4, rfl, Or.inr ⟨⟨_, hp9, Or.inr (Or.inr (Or.inl (⟨rfl, rfl⟩)))⟩, rfl⟩⟩
    · refine mw_catch hC htab [(0, 12, 15, 21), (0, 12, 19, 29), (0, 12, 23, 13)] (0, 12, 27, 41) [] rfl (mw_p1 ⟨by decide, "java/util/NoSuchElementException", mb_302, (List.mem_of_getElem? (i := 42) rfl)⟩ (mw_p1 ⟨by decide, "java/lang/IndexOutOfBoundsException", mb_342, (List.mem_of_getElem? (i := 46) rfl)⟩ (mw_p1 ⟨by decide, "java/lang/IllegalStateException", mb_213, (List.mem_of_getElem? (i := 44) rfl)⟩ mw_p0))) (by decide) (by decide) mb_407 (List.mem_of_getElem? (i := 16) rfl) hce hcv hcl ?_
      refine lv_astore (lv' := [(5, .ref q9), (0, .ref x), (1, .int p0), (2, .int p1), (3, .int p2), (4, .ref ao)]) hx hb dL_getInt_27 hl (by decide) rfl (fun ls hl => ?_)
      refine lv_iconst (v := 4) hx hb dL_getInt_29 (by decide) ?_
      refine mw_iret hC hM hr hlk dL_getInt_30 (Nat.le_of_ble_eq_true rfl) (Nat.le_of_ble_eq_true rfl) ⟨_, rfl, ?_⟩
      exact ⟨4, 0, h4, rfl, Or.inr ⟨⟨_, hp9, Or.inr (Or.inr (Or.inr (⟨rfl, rfl⟩)))⟩, rfl⟩⟩
  obtain ⟨h3, rfl, hp9⟩ := hp9
  have hp9 : p3_getInt aO ta h n p0 p1 p2 v9 h3 := hp9
  obtain ⟨b9, rfl⟩ := V_getInt hp9
  have ka9 := (F_getInt R (c := 0) (Or.inl ⟨rfl, hp9⟩) ao _ ha (by show 7 ≤ 9; omega)).1
  refine W.eq (g2 := F0 m 10 ls [.int b9, .int 0, .ref ao]) rfl ?_
  refine lv_i2l hx hb dL_getInt_10 rfl ?_
  refine as_9 (i := 0) (v := b9) hC hM ka9 (by decide) (by decide) (by first | decide | omega) dL_getInt_11 (fun H locs hM => ?_)
  refine lv_goto (tgt := 31) hx hb dL_getInt_12 (by decide) ?_
  refine lv_iconst (v := 0) hx hb dL_getInt_31 (by decide) ?_
  refine mw_iret hC hM hr hlk dL_getInt_32 (Nat.le_of_ble_eq_true rfl) (Nat.le_of_ble_eq_true rfl) ⟨_, rfl, ?_⟩
  exact ⟨0, b9, h3, rfl, Or.inl ⟨rfl, hp9, rfl⟩⟩

-- StableHeapLaw.getReference
set_option maxHeartbeats 4000000 in
set_option maxRecDepth 100000 in
theorem c_L_getReference (l : Launch) (hl0 : l.stackTraces = false) (D : va_G) (cs : Nat → ClassId) (h : th_S) (sz : Nat) (x aR aO aH aT : Nat) (rt ta : Nat → Nat) (S : th_N) (N n u : Nat) (ad : Nat → Nat) (R : RR x aR aO aH aT rt ta h S N n u ad) (ao : Nat) (ha : h.1 ao = some (9, 1)) (p0 p1 p2 : Int32) : th_M l yL_getReference wsL_getReference { frames := 9, cells := 5, slots := 30, locals := 162 } D cs h sz [.ref x, .int p0, .int p1, .int p2, .ref ao] (fun v h' => ∃ k b h1, v = some (.int k) ∧ ((k = 0 ∧ p3_getReference aO ta h n p0 p1 p2 (some (.int b)) h1 ∧ h' = th_ui h1 ao 0 b) ∨ ((∃ E, e3_getReference aO ta h n p0 p1 p2 E h1 ∧ cd_get E k) ∧ h' = h1))) (fun E h' => False) := by
  refine mw_ofWH (cc := cL_getReference) (maxL := 6) (ret := (some .int)) (hh := hhL_getReference) (by decide) rfl (fun w h => List.mem_cons_of_mem _ h) th_cd (Nat.le_of_ble_eq_true rfl) ?_
  intro p e s m below meth c hsz hC hr hlk hnm htab hM ls hl
  have hC : th_C D cs h p m c cL_getReference 6 s [.ref x, .int p0, .int p1, .int p2, .ref ao] RL := hC
  have hx := hC.1.1
  have hb := hC.1.2.1
  have kx0 : h.1 x = some (0, 0) := R.1.1.1.kx
  have hl : lv_has ls 6 [(0, .ref x), (1, .int p0), (2, .int p1), (3, .int p2), (4, .ref ao)] := hl
  refine lv_aload hx hb dL_getReference_0 (lv_at hl 4 rfl) ?_
  refine lv_iconst (v := 0) hx hb dL_getReference_2 (by decide) ?_
  refine lv_aload_n hx hb dL_getReference_3 rfl (lv_at hl 0 rfl) ?_
  refine lv_iload_n hx hb dL_getReference_4 rfl (lv_at hl 1 rfl) ?_
  refine lv_iload_n hx hb dL_getReference_5 rfl (lv_at hl 2 rfl) ?_
  refine lv_iload_n hx hb dL_getReference_6 rfl (lv_at hl 3 rfl) ?_
  refine mw_callV (As := [.int p0, .int p1, .int p2]) (rest := [.int 0, .ref ao]) (n := 3) (C := RX3) (T := TX3) (N := 11) (ci := 3) hC hM (c_X3_getReference l hl0 D cs h s.heap.size x aR aO aH aT rt ta R.1.1.1 n R.1.1.2 p0 p1 p2) (cwV 3 hC.1.2.2.2.2 (tb_V mb_432 mb_433 mb_434 mb_36 mb_435) rfl rfl rfl (by decide +kernel) ⟨Nat.le_of_ble_eq_true rfl, Nat.le_of_ble_eq_true rfl⟩) (th_at (h := h) kx0) rfl rfl rfl hl.1 (Nat.le_of_ble_eq_true rfl) dL_getReference_7 ⟨Nat.le_of_ble_eq_true rfl, Nat.le_of_ble_eq_true rfl⟩ (fun E ce q9 g9 H locs hp9 hM hce hcv hcl => ?_) (fun v9 g9 H locs hp9 hM => ?_)
  · obtain ⟨h4, rfl, hp9⟩ := hp9
    have hp9 : e3_getReference aO ta h n p0 p1 p2 E h4 := hp9
    rcases X_getReference hp9 with rfl | rfl | rfl | rfl
    · refine mw_catch hC htab [] (0, 12, 15, 21) [(0, 12, 19, 29), (0, 12, 23, 13), (0, 12, 27, 41)] rfl mw_p0 (by decide) (by decide) mb_302 (List.mem_of_getElem? (i := 13) rfl) hce hcv hcl ?_
      refine lv_astore (lv' := [(5, .ref q9), (0, .ref x), (1, .int p0), (2, .int p1), (3, .int p2), (4, .ref ao)]) hx hb dL_getReference_15 hl (by decide) rfl (fun ls hl => ?_)
      refine lv_iconst (v := 1) hx hb dL_getReference_17 (by decide) ?_
      refine mw_iret hC hM hr hlk dL_getReference_18 (Nat.le_of_ble_eq_true rfl) (Nat.le_of_ble_eq_true rfl) ⟨_, rfl, ?_⟩
      exact ⟨1, 0, h4, rfl, Or.inr ⟨⟨_, hp9, Or.inl (⟨rfl, rfl⟩)⟩, rfl⟩⟩
    · refine mw_catch hC htab [(0, 12, 15, 21)] (0, 12, 19, 29) [(0, 12, 23, 13), (0, 12, 27, 41)] rfl (mw_p1 ⟨by decide, "java/util/NoSuchElementException", mb_302, (List.mem_of_getElem? (i := 37) rfl)⟩ mw_p0) (by decide) (by decide) mb_342 (List.mem_of_getElem? (i := 15) rfl) hce hcv hcl ?_
      refine lv_astore (lv' := [(5, .ref q9), (0, .ref x), (1, .int p0), (2, .int p1), (3, .int p2), (4, .ref ao)]) hx hb dL_getReference_19 hl (by decide) rfl (fun ls hl => ?_)
      refine lv_iconst (v := 2) hx hb dL_getReference_21 (by decide) ?_
      refine mw_iret hC hM hr hlk dL_getReference_22 (Nat.le_of_ble_eq_true rfl) (Nat.le_of_ble_eq_true rfl) ⟨_, rfl, ?_⟩
      exact ⟨2, 0, h4, rfl, Or.inr ⟨⟨_, hp9, Or.inr (Or.inl (⟨rfl, rfl⟩))⟩, rfl⟩⟩
    · refine mw_catch hC htab [(0, 12, 15, 21), (0, 12, 19, 29)] (0, 12, 23, 13) [(0, 12, 27, 41)] rfl (mw_p1 ⟨by decide, "java/util/NoSuchElementException", mb_302, (List.mem_of_getElem? (i := 27) rfl)⟩ (mw_p1 ⟨by decide, "java/lang/IndexOutOfBoundsException", mb_342, (List.mem_of_getElem? (i := 30) rfl)⟩ mw_p0)) (by decide) (by decide) mb_213 (List.mem_of_getElem? (i := 5) rfl) hce hcv hcl ?_
      refine lv_astore (lv' := [(5, .ref q9), (0, .ref x), (1, .int p0), (2, .int p1), (3, .int p2), (4, .ref ao)]) hx hb dL_getReference_23 hl (by decide) rfl (fun ls hl => ?_)
      refine lv_iconst (v := 3) hx hb dL_getReference_25 (by decide) ?_
      refine mw_iret hC hM hr hlk dL_getReference_26 (Nat.le_of_ble_eq_true rfl) (Nat.le_of_ble_eq_true rfl) ⟨_, rfl, ?_⟩
      exact ⟨3, 0, h4, rfl, Or.inr ⟨⟨_, hp9, Or.inr (Or.inr (Or.inl (⟨rfl, rfl⟩)))⟩, rfl⟩⟩
    · refine mw_catch hC htab [(0, 12, 15, 21), (0, 12, 19, 29), (0, 12, 23, 13)] (0, 12, 27, 41) [] rfl (mw_p1 ⟨by decide, "java/util/NoSuchElementException", mb_302, (List.mem_of_getElem? (i := 42) rfl)⟩ (mw_p1 ⟨by decide, "java/lang/IndexOutOfBoundsException", mb_342, (List.mem_of_getElem? (i := 46) rfl)⟩ (mw_p1 ⟨by decide, "java/lang/IllegalStateException", mb_213, (List.mem_of_getElem? (i := 44) rfl)⟩ mw_p0))) (by decide) (by decide) mb_407 (List.mem_of_getElem? (i := 16) rfl) hce hcv hcl ?_
      refine lv_astore (lv' := [(5, .ref q9), (0, .ref x), (1, .int p0), (2, .int p1), (3, .int p2), (4, .ref ao)]) hx hb dL_getReference_27 hl (by decide) rfl (fun ls hl => ?_)
      refine lv_iconst (v := 4) hx hb dL_getReference_29 (by decide) ?_
      refine mw_iret hC hM hr hlk dL_getReference_30 (Nat.le_of_ble_eq_true rfl) (Nat.le_of_ble_eq_true rfl) ⟨_, rfl, ?_⟩
      exact ⟨4, 0, h4, rfl, Or.inr ⟨⟨_, hp9, Or.inr (Or.inr (Or.inr (⟨rfl, rfl⟩)))⟩, rfl⟩⟩
  obtain ⟨h3, rfl, hp9⟩ := hp9
  have hp9 : p3_getReference aO ta h n p0 p1 p2 v9 h3 := hp9
  obtain ⟨b9, rfl⟩ := V_getReference hp9
  have ka9 := (F_getReference R (c := 0) (Or.inl ⟨rfl, hp9⟩) ao _ ha (by show 7 ≤ 9; omega)).1
  refine W.eq (g2 := F0 m 10 ls [.int b9, .int 0, .ref ao]) rfl ?_
  refine lv_i2l hx hb dL_getReference_10 rfl ?_
  refine as_9 (i := 0) (v := b9) hC hM ka9 (by decide) (by decide) (by first | decide | omega) dL_getReference_11 (fun H locs hM => ?_)
  refine lv_goto (tgt := 31) hx hb dL_getReference_12 (by decide) ?_
  refine lv_iconst (v := 0) hx hb dL_getReference_31 (by decide) ?_
  refine mw_iret hC hM hr hlk dL_getReference_32 (Nat.le_of_ble_eq_true rfl) (Nat.le_of_ble_eq_true rfl) ⟨_, rfl, ?_⟩
  exact ⟨0, b9, h3, rfl, Or.inl ⟨rfl, hp9, rfl⟩⟩

-- StableHeapLaw.getRoot
set_option maxHeartbeats 4000000 in
set_option maxRecDepth 100000 in
theorem c_L_getRoot (l : Launch) (hl0 : l.stackTraces = false) (D : va_G) (cs : Nat → ClassId) (h : th_S) (sz : Nat) (x aR aO aH aT : Nat) (rt ta : Nat → Nat) (S : th_N) (N n u : Nat) (ad : Nat → Nat) (R : RR x aR aO aH aT rt ta h S N n u ad) (ao : Nat) (ha : h.1 ao = some (9, 1)) (p0 p1 : Int32) : th_M l yL_getRoot wsL_getRoot { frames := 8, cells := 3, slots := 18, locals := 136 } D cs h sz [.ref x, .int p0, .int p1, .ref ao] (fun v h' => ∃ k b h1, v = some (.int k) ∧ ((k = 0 ∧ p3_getRoot rt ta h p0 p1 (some (.int b)) h1 ∧ h' = th_ui h1 ao 0 b) ∨ ((∃ E, e3_getRoot rt ta h p0 p1 E h1 ∧ cd_getRoot E k) ∧ h' = h1))) (fun E h' => False) := by
  refine mw_ofWH (cc := cL_getRoot) (maxL := 5) (ret := (some .int)) (hh := hhL_getRoot) (by decide) rfl (fun w h => List.mem_cons_of_mem _ h) th_cd (Nat.le_of_ble_eq_true rfl) ?_
  intro p e s m below meth c hsz hC hr hlk hnm htab hM ls hl
  have hC : th_C D cs h p m c cL_getRoot 5 s [.ref x, .int p0, .int p1, .ref ao] RL := hC
  have hx := hC.1.1
  have hb := hC.1.2.1
  have kx0 : h.1 x = some (0, 0) := R.1.1.1.kx
  have hl : lv_has ls 5 [(0, .ref x), (1, .int p0), (2, .int p1), (3, .ref ao)] := hl
  refine lv_aload_n hx hb dL_getRoot_0 rfl (lv_at hl 3 rfl) ?_
  refine lv_iconst (v := 0) hx hb dL_getRoot_1 (by decide) ?_
  refine lv_aload_n hx hb dL_getRoot_2 rfl (lv_at hl 0 rfl) ?_
  refine lv_iload_n hx hb dL_getRoot_3 rfl (lv_at hl 1 rfl) ?_
  refine lv_iload_n hx hb dL_getRoot_4 rfl (lv_at hl 2 rfl) ?_
  refine mw_callV (As := [.int p0, .int p1]) (rest := [.int 0, .ref ao]) (n := 2) (C := RX3) (T := TX3) (N := 11) (ci := 3) hC hM (c_X3_getRoot l hl0 D cs h s.heap.size x aR aO aH aT rt ta R.1.1.1 p0 p1) (cwV 2 hC.1.2.2.2.2 (tb_V mb_442 mb_443 mb_444 mb_36 mb_445) rfl rfl rfl (by decide +kernel) ⟨Nat.le_of_ble_eq_true rfl, Nat.le_of_ble_eq_true rfl⟩) (th_at (h := h) kx0) rfl rfl rfl hl.1 (Nat.le_of_ble_eq_true rfl) dL_getRoot_5 ⟨Nat.le_of_ble_eq_true rfl, Nat.le_of_ble_eq_true rfl⟩ (fun E ce q9 g9 H locs hp9 hM hce hcv hcl => ?_) (fun v9 g9 H locs hp9 hM => ?_)
  · obtain ⟨h4, rfl, hp9⟩ := hp9
    have hp9 : e3_getRoot rt ta h p0 p1 E h4 := hp9
    rcases X_getRoot hp9 with rfl | rfl | rfl
    · refine mw_catch hC htab [] (0, 10, 13, 21) [(0, 10, 17, 29), (0, 10, 21, 13)] rfl mw_p0 (by decide) (by decide) mb_302 (List.mem_of_getElem? (i := 13) rfl) hce hcv hcl ?_
      refine lv_astore (lv' := [(4, .ref q9), (0, .ref x), (1, .int p0), (2, .int p1), (3, .ref ao)]) hx hb dL_getRoot_13 hl (by decide) rfl (fun ls hl => ?_)
      refine lv_iconst (v := 1) hx hb dL_getRoot_15 (by decide) ?_
      refine mw_iret hC hM hr hlk dL_getRoot_16 (Nat.le_of_ble_eq_true rfl) (Nat.le_of_ble_eq_true rfl) ⟨_, rfl, ?_⟩
      exact ⟨1, 0, h4, rfl, Or.inr ⟨⟨_, hp9, Or.inl (⟨rfl, rfl⟩)⟩, rfl⟩⟩
    · refine mw_catch hC htab [(0, 10, 13, 21)] (0, 10, 17, 29) [(0, 10, 21, 13)] rfl (mw_p1 ⟨by decide, "java/util/NoSuchElementException", mb_302, (List.mem_of_getElem? (i := 37) rfl)⟩ mw_p0) (by decide) (by decide) mb_342 (List.mem_of_getElem? (i := 15) rfl) hce hcv hcl ?_
      refine lv_astore (lv' := [(4, .ref q9), (0, .ref x), (1, .int p0), (2, .int p1), (3, .ref ao)]) hx hb dL_getRoot_17 hl (by decide) rfl (fun ls hl => ?_)
      refine lv_iconst (v := 2) hx hb dL_getRoot_19 (by decide) ?_
      refine mw_iret hC hM hr hlk dL_getRoot_20 (Nat.le_of_ble_eq_true rfl) (Nat.le_of_ble_eq_true rfl) ⟨_, rfl, ?_⟩
      exact ⟨2, 0, h4, rfl, Or.inr ⟨⟨_, hp9, Or.inr (Or.inl (⟨rfl, rfl⟩))⟩, rfl⟩⟩
    · refine mw_catch hC htab [(0, 10, 13, 21), (0, 10, 17, 29)] (0, 10, 21, 13) [] rfl (mw_p1 ⟨by decide, "java/util/NoSuchElementException", mb_302, (List.mem_of_getElem? (i := 27) rfl)⟩ (mw_p1 ⟨by decide, "java/lang/IndexOutOfBoundsException", mb_342, (List.mem_of_getElem? (i := 30) rfl)⟩ mw_p0)) (by decide) (by decide) mb_213 (List.mem_of_getElem? (i := 5) rfl) hce hcv hcl ?_
      refine lv_astore (lv' := [(4, .ref q9), (0, .ref x), (1, .int p0), (2, .int p1), (3, .ref ao)]) hx hb dL_getRoot_21 hl (by decide) rfl (fun ls hl => ?_)
      refine lv_iconst (v := 3) hx hb dL_getRoot_23 (by decide) ?_
      refine mw_iret hC hM hr hlk dL_getRoot_24 (Nat.le_of_ble_eq_true rfl) (Nat.le_of_ble_eq_true rfl) ⟨_, rfl, ?_⟩
      exact ⟨3, 0, h4, rfl, Or.inr ⟨⟨_, hp9, Or.inr (Or.inr (⟨rfl, rfl⟩))⟩, rfl⟩⟩
  obtain ⟨h3, rfl, hp9⟩ := hp9
  have hp9 : p3_getRoot rt ta h p0 p1 v9 h3 := hp9
  obtain ⟨b9, rfl⟩ := V_getRoot hp9
  have ka9 := (F_getRoot R (c := 0) (Or.inl ⟨rfl, hp9⟩) ao _ ha (by show 7 ≤ 9; omega)).1
  refine W.eq (g2 := F0 m 8 ls [.int b9, .int 0, .ref ao]) rfl ?_
  refine lv_i2l hx hb dL_getRoot_8 rfl ?_
  refine as_9 (i := 0) (v := b9) hC hM ka9 (by decide) (by decide) (by first | decide | omega) dL_getRoot_9 (fun H locs hM => ?_)
  refine lv_goto (tgt := 25) hx hb dL_getRoot_10 (by decide) ?_
  refine lv_iconst (v := 0) hx hb dL_getRoot_25 (by decide) ?_
  refine mw_iret hC hM hr hlk dL_getRoot_26 (Nat.le_of_ble_eq_true rfl) (Nat.le_of_ble_eq_true rfl) ⟨_, rfl, ?_⟩
  exact ⟨0, b9, h3, rfl, Or.inl ⟨rfl, hp9, rfl⟩⟩

-- StableHeapLaw.commit
set_option maxHeartbeats 4000000 in
set_option maxRecDepth 100000 in
theorem c_L_commit (l : Launch) (hl0 : l.stackTraces = false) (D : va_G) (cs : Nat → ClassId) (h : th_S) (sz : Nat) (x aR aO aH aT : Nat) (rt ta : Nat → Nat) (S : th_N) (N n u : Nat) (ad : Nat → Nat) (R : RR x aR aO aH aT rt ta h S N n u ad) (ao : Nat) (ha : h.1 ao = some (9, 1)) (p0 : Int32) : th_M l yL_commit wsL_commit { frames := 8, cells := 2, slots := 12, locals := 134 } D cs h sz [.ref x, .int p0, .ref ao] (fun v h' => ∃ k b h1, v = some (.int k) ∧ ((k = 0 ∧ p3_commit x aO rt ta h n p0 (some (.int b)) h1 ∧ h' = th_ui h1 ao 0 b) ∨ ((∃ E, e3_commit x ta h p0 E h1 ∧ cd_commit E k) ∧ h' = h1))) (fun E h' => False) := by
  refine mw_ofWH (cc := cL_commit) (maxL := 4) (ret := (some .int)) (hh := hhL_commit) (by decide) rfl (fun w h => List.mem_cons_of_mem _ h) th_cd (Nat.le_of_ble_eq_true rfl) ?_
  intro p e s m below meth c hsz hC hr hlk hnm htab hM ls hl
  have hC : th_C D cs h p m c cL_commit 4 s [.ref x, .int p0, .ref ao] RL := hC
  have hx := hC.1.1
  have hb := hC.1.2.1
  have kx0 : h.1 x = some (0, 0) := R.1.1.1.kx
  have hl : lv_has ls 4 [(0, .ref x), (1, .int p0), (2, .ref ao)] := hl
  refine lv_aload_n hx hb dL_commit_0 rfl (lv_at hl 2 rfl) ?_
  refine lv_iconst (v := 0) hx hb dL_commit_1 (by decide) ?_
  refine lv_aload_n hx hb dL_commit_2 rfl (lv_at hl 0 rfl) ?_
  refine lv_iload_n hx hb dL_commit_3 rfl (lv_at hl 1 rfl) ?_
  refine mw_callV (As := [.int p0]) (rest := [.int 0, .ref ao]) (n := 1) (C := RX3) (T := TX3) (N := 11) (ci := 3) hC hM (c_X3_commit l hl0 D cs h s.heap.size x aR aO aH aT rt ta R.1.1.1 n R.1.1.2 p0) (cwV 1 hC.1.2.2.2.2 (tb_V mb_449 mb_450 mb_451 mb_36 mb_452) rfl rfl rfl (by decide +kernel) ⟨Nat.le_of_ble_eq_true rfl, Nat.le_of_ble_eq_true rfl⟩) (th_at (h := h) kx0) rfl rfl rfl hl.1 (Nat.le_of_ble_eq_true rfl) dL_commit_4 ⟨Nat.le_of_ble_eq_true rfl, Nat.le_of_ble_eq_true rfl⟩ (fun E ce q9 g9 H locs hp9 hM hce hcv hcl => ?_) (fun v9 g9 H locs hp9 hM => ?_)
  · obtain ⟨h4, rfl, hp9⟩ := hp9
    have hp9 : e3_commit x ta h p0 E h4 := hp9
    rcases X_commit hp9 with rfl | rfl
    · refine mw_catch hC htab [] (0, 9, 12, 21) [(0, 9, 15, 15)] rfl mw_p0 (by decide) (by decide) mb_302 (List.mem_of_getElem? (i := 13) rfl) hce hcv hcl ?_
      refine lv_astore_n (lv' := [(3, .ref q9), (0, .ref x), (1, .int p0), (2, .ref ao)]) hx hb dL_commit_12 rfl hl (by decide) rfl (fun ls hl => ?_)
      refine lv_iconst (v := 1) hx hb dL_commit_13 (by decide) ?_
      refine mw_iret hC hM hr hlk dL_commit_14 (Nat.le_of_ble_eq_true rfl) (Nat.le_of_ble_eq_true rfl) ⟨_, rfl, ?_⟩
      exact ⟨1, 0, h4, rfl, Or.inr ⟨⟨_, hp9, Or.inl (⟨rfl, rfl⟩)⟩, rfl⟩⟩
    · refine mw_catch hC htab [(0, 9, 12, 21)] (0, 9, 15, 15) [] rfl (mw_p1 ⟨by decide, "java/util/NoSuchElementException", mb_302, (List.mem_of_getElem? (i := 32) rfl)⟩ mw_p0) (by decide) (by decide) mb_214 (List.mem_of_getElem? (i := 12) rfl) hce hcv hcl ?_
      refine lv_astore_n (lv' := [(3, .ref q9), (0, .ref x), (1, .int p0), (2, .ref ao)]) hx hb dL_commit_15 rfl hl (by decide) rfl (fun ls hl => ?_)
      refine lv_iconst (v := 2) hx hb dL_commit_16 (by decide) ?_
      refine mw_iret hC hM hr hlk dL_commit_17 (Nat.le_of_ble_eq_true rfl) (Nat.le_of_ble_eq_true rfl) ⟨_, rfl, ?_⟩
      exact ⟨2, 0, h4, rfl, Or.inr ⟨⟨_, hp9, Or.inr (⟨rfl, rfl⟩)⟩, rfl⟩⟩
  obtain ⟨h3, rfl, hp9⟩ := hp9
  have hp9 : p3_commit x aO rt ta h n p0 v9 h3 := hp9
  obtain ⟨b9, rfl⟩ := V_commit hp9
  have ka9 := (F_commit R (c := 0) (Or.inl ⟨rfl, hp9⟩) ao _ ha (by show 7 ≤ 9; omega)).1
  refine W.eq (g2 := F0 m 7 ls [.int b9, .int 0, .ref ao]) rfl ?_
  refine lv_i2l hx hb dL_commit_7 rfl ?_
  refine as_9 (i := 0) (v := b9) hC hM ka9 (by decide) (by decide) (by first | decide | omega) dL_commit_8 (fun H locs hM => ?_)
  refine lv_goto (tgt := 18) hx hb dL_commit_9 (by decide) ?_
  refine lv_iconst (v := 0) hx hb dL_commit_18 (by decide) ?_
  refine mw_iret hC hM hr hlk dL_commit_19 (Nat.le_of_ble_eq_true rfl) (Nat.le_of_ble_eq_true rfl) ⟨_, rfl, ?_⟩
  exact ⟨0, b9, h3, rfl, Or.inl ⟨rfl, hp9, rfl⟩⟩

-- StableHeapLaw.abort
set_option maxHeartbeats 4000000 in
set_option maxRecDepth 100000 in
theorem c_L_abort (l : Launch) (hl0 : l.stackTraces = false) (D : va_G) (cs : Nat → ClassId) (h : th_S) (sz : Nat) (x aR aO aH aT : Nat) (rt ta : Nat → Nat) (S : th_N) (N n u : Nat) (ad : Nat → Nat) (R : RR x aR aO aH aT rt ta h S N n u ad) (ao : Nat) (ha : h.1 ao = some (9, 1)) (p0 : Int32) : th_M l yL_abort wsL_abort { frames := 8, cells := 1, slots := 6, locals := 133 } D cs h sz [.ref x, .int p0, .ref ao] (fun v h' => ∃ k b h1, v = some (.int k) ∧ ((k = 0 ∧ p3_abort aO rt ta h n p0 (some (.int b)) h1 ∧ h' = th_ui h1 ao 0 b) ∨ ((∃ E, e3_abort ta h p0 E h1 ∧ cd_nse E k) ∧ h' = h1))) (fun E h' => False) := by
  refine mw_ofWH (cc := cL_abort) (maxL := 4) (ret := (some .int)) (hh := hhL_abort) (by decide) rfl (fun w h => List.mem_cons_of_mem _ h) th_cd (Nat.le_of_ble_eq_true rfl) ?_
  intro p e s m below meth c hsz hC hr hlk hnm htab hM ls hl
  have hC : th_C D cs h p m c cL_abort 4 s [.ref x, .int p0, .ref ao] RL := hC
  have hx := hC.1.1
  have hb := hC.1.2.1
  have kx0 : h.1 x = some (0, 0) := R.1.1.1.kx
  have hl : lv_has ls 4 [(0, .ref x), (1, .int p0), (2, .ref ao)] := hl
  refine lv_aload_n hx hb dL_abort_0 rfl (lv_at hl 2 rfl) ?_
  refine lv_iconst (v := 0) hx hb dL_abort_1 (by decide) ?_
  refine lv_aload_n hx hb dL_abort_2 rfl (lv_at hl 0 rfl) ?_
  refine lv_iload_n hx hb dL_abort_3 rfl (lv_at hl 1 rfl) ?_
  refine mw_callV (As := [.int p0]) (rest := [.int 0, .ref ao]) (n := 1) (C := RX3) (T := TX3) (N := 11) (ci := 3) hC hM (c_X3_abort l hl0 D cs h s.heap.size x aR aO aH aT rt ta R.1.1.1 n R.1.1.2 p0) (cwV 1 hC.1.2.2.2.2 (tb_V mb_456 mb_457 mb_458 mb_36 mb_459) rfl rfl rfl (by decide +kernel) ⟨Nat.le_of_ble_eq_true rfl, Nat.le_of_ble_eq_true rfl⟩) (th_at (h := h) kx0) rfl rfl rfl hl.1 (Nat.le_of_ble_eq_true rfl) dL_abort_4 ⟨Nat.le_of_ble_eq_true rfl, Nat.le_of_ble_eq_true rfl⟩ (fun E ce q9 g9 H locs hp9 hM hce hcv hcl => ?_) (fun v9 g9 H locs hp9 hM => ?_)
  · obtain ⟨h4, rfl, hp9⟩ := hp9
    have hp9 : e3_abort ta h p0 E h4 := hp9
    have e9 : E = "java/util/NoSuchElementException" := hp9.1
    subst e9
    refine mw_catch hC htab [] (0, 9, 12, 21) [] rfl mw_p0 (by decide) (by decide) mb_302 (List.mem_of_getElem? (i := 13) rfl) hce hcv hcl ?_
    refine lv_astore_n (lv' := [(3, .ref q9), (0, .ref x), (1, .int p0), (2, .ref ao)]) hx hb dL_abort_12 rfl hl (by decide) rfl (fun ls hl => ?_)
    refine lv_iconst (v := 1) hx hb dL_abort_13 (by decide) ?_
    refine mw_iret hC hM hr hlk dL_abort_14 (Nat.le_of_ble_eq_true rfl) (Nat.le_of_ble_eq_true rfl) ⟨_, rfl, ?_⟩
    exact ⟨1, 0, h4, rfl, Or.inr ⟨⟨_, hp9, ⟨rfl, rfl⟩⟩, rfl⟩⟩
  obtain ⟨h3, rfl, hp9⟩ := hp9
  have hp9 : p3_abort aO rt ta h n p0 v9 h3 := hp9
  obtain ⟨b9, rfl⟩ := V_abort hp9
  have ka9 := (F_abort R (c := 0) (Or.inl ⟨rfl, hp9⟩) ao _ ha (by show 7 ≤ 9; omega)).1
  refine W.eq (g2 := F0 m 7 ls [.int b9, .int 0, .ref ao]) rfl ?_
  refine lv_i2l hx hb dL_abort_7 rfl ?_
  refine as_9 (i := 0) (v := b9) hC hM ka9 (by decide) (by decide) (by first | decide | omega) dL_abort_8 (fun H locs hM => ?_)
  refine lv_goto (tgt := 15) hx hb dL_abort_9 (by decide) ?_
  refine lv_iconst (v := 0) hx hb dL_abort_15 (by decide) ?_
  refine mw_iret hC hM hr hlk dL_abort_16 (Nat.le_of_ble_eq_true rfl) (Nat.le_of_ble_eq_true rfl) ⟨_, rfl, ?_⟩
  exact ⟨0, b9, h3, rfl, Or.inl ⟨rfl, hp9, rfl⟩⟩

-- StableHeapLaw.fields
set_option maxHeartbeats 4000000 in
set_option maxRecDepth 100000 in
theorem c_L_fields (l : Launch) (hl0 : l.stackTraces = false) (D : va_G) (cs : Nat → ClassId) (h : th_S) (sz : Nat) (x aR aO aH aT : Nat) (rt ta : Nat → Nat) (S : th_N) (N n u : Nat) (ad : Nat → Nat) (R : RR x aR aO aH aT rt ta h S N n u ad) (ao : Nat) (ha : h.1 ao = some (9, 1)) (p0 : Int32) : th_M l yL_fields wsL_fields { frames := 8, cells := 1, slots := 6, locals := 133 } D cs h sz [.ref x, .int p0, .ref ao] (fun v h' => ∃ k b h1, v = some (.int k) ∧ ((k = 0 ∧ p3_fields aO h n p0 (some (.int b)) h1 ∧ h' = th_ui h1 ao 0 b) ∨ ((∃ E, e3_fields aO h n p0 E h1 ∧ cd_nse E k) ∧ h' = h1))) (fun E h' => False) := by
  refine mw_ofWH (cc := cL_fields) (maxL := 4) (ret := (some .int)) (hh := hhL_fields) (by decide) rfl (fun w h => List.mem_cons_of_mem _ h) th_cd (Nat.le_of_ble_eq_true rfl) ?_
  intro p e s m below meth c hsz hC hr hlk hnm htab hM ls hl
  have hC : th_C D cs h p m c cL_fields 4 s [.ref x, .int p0, .ref ao] RL := hC
  have hx := hC.1.1
  have hb := hC.1.2.1
  have kx0 : h.1 x = some (0, 0) := R.1.1.1.kx
  have hl : lv_has ls 4 [(0, .ref x), (1, .int p0), (2, .ref ao)] := hl
  refine lv_aload_n hx hb dL_fields_0 rfl (lv_at hl 2 rfl) ?_
  refine lv_iconst (v := 0) hx hb dL_fields_1 (by decide) ?_
  refine lv_aload_n hx hb dL_fields_2 rfl (lv_at hl 0 rfl) ?_
  refine lv_iload_n hx hb dL_fields_3 rfl (lv_at hl 1 rfl) ?_
  refine mw_callV (As := [.int p0]) (rest := [.int 0, .ref ao]) (n := 1) (C := RX3) (T := TX3) (N := 11) (ci := 3) hC hM (c_X3_fields l hl0 D cs h s.heap.size x aR aO aH aT rt ta R.1.1.1 n R.1.1.2 p0) (cwV 1 hC.1.2.2.2.2 (tb_V mb_463 mb_464 mb_465 mb_36 mb_466) rfl rfl rfl (by decide +kernel) ⟨Nat.le_of_ble_eq_true rfl, Nat.le_of_ble_eq_true rfl⟩) (th_at (h := h) kx0) rfl rfl rfl hl.1 (Nat.le_of_ble_eq_true rfl) dL_fields_4 ⟨Nat.le_of_ble_eq_true rfl, Nat.le_of_ble_eq_true rfl⟩ (fun E ce q9 g9 H locs hp9 hM hce hcv hcl => ?_) (fun v9 g9 H locs hp9 hM => ?_)
  · obtain ⟨h4, rfl, hp9⟩ := hp9
    have hp9 : e3_fields aO h n p0 E h4 := hp9
    have e9 : E = "java/util/NoSuchElementException" := hp9.1
    subst e9
    refine mw_catch hC htab [] (0, 9, 12, 21) [] rfl mw_p0 (by decide) (by decide) mb_302 (List.mem_of_getElem? (i := 13) rfl) hce hcv hcl ?_
    refine lv_astore_n (lv' := [(3, .ref q9), (0, .ref x), (1, .int p0), (2, .ref ao)]) hx hb dL_fields_12 rfl hl (by decide) rfl (fun ls hl => ?_)
    refine lv_iconst (v := 1) hx hb dL_fields_13 (by decide) ?_
    refine mw_iret hC hM hr hlk dL_fields_14 (Nat.le_of_ble_eq_true rfl) (Nat.le_of_ble_eq_true rfl) ⟨_, rfl, ?_⟩
    exact ⟨1, 0, h4, rfl, Or.inr ⟨⟨_, hp9, ⟨rfl, rfl⟩⟩, rfl⟩⟩
  obtain ⟨h3, rfl, hp9⟩ := hp9
  have hp9 : p3_fields aO h n p0 v9 h3 := hp9
  obtain ⟨b9, rfl⟩ := V_fields hp9
  have ka9 := (F_fields R (c := 0) (Or.inl ⟨rfl, hp9⟩) ao _ ha (by show 7 ≤ 9; omega)).1
  refine W.eq (g2 := F0 m 7 ls [.int b9, .int 0, .ref ao]) rfl ?_
  refine lv_i2l hx hb dL_fields_7 rfl ?_
  refine as_9 (i := 0) (v := b9) hC hM ka9 (by decide) (by decide) (by first | decide | omega) dL_fields_8 (fun H locs hM => ?_)
  refine lv_goto (tgt := 15) hx hb dL_fields_9 (by decide) ?_
  refine lv_iconst (v := 0) hx hb dL_fields_15 (by decide) ?_
  refine mw_iret hC hM hr hlk dL_fields_16 (Nat.le_of_ble_eq_true rfl) (Nat.le_of_ble_eq_true rfl) ⟨_, rfl, ?_⟩
  exact ⟨0, b9, h3, rfl, Or.inl ⟨rfl, hp9, rfl⟩⟩

-- StableHeapLaw.lockedBy
set_option maxHeartbeats 4000000 in
set_option maxRecDepth 100000 in
theorem c_L_lockedBy (l : Launch) (hl0 : l.stackTraces = false) (D : va_G) (cs : Nat → ClassId) (h : th_S) (sz : Nat) (x aR aO aH aT : Nat) (rt ta : Nat → Nat) (S : th_N) (N n u : Nat) (ad : Nat → Nat) (R : RR x aR aO aH aT rt ta h S N n u ad) (ao : Nat) (ha : h.1 ao = some (9, 1)) (p0 p1 : Int32) : th_M l yL_lockedBy wsL_lockedBy { frames := 8, cells := 1, slots := 6, locals := 134 } D cs h sz [.ref x, .int p0, .int p1, .ref ao] (fun v h' => ∃ k b h1, v = some (.int k) ∧ ((k = 0 ∧ p3_lockedBy aO rt h n p0 p1 (some (.int b)) h1 ∧ h' = th_ui h1 ao 0 b) ∨ ((∃ E, e3_lockedBy aO h n p0 p1 E h1 ∧ cd_nse E k) ∧ h' = h1))) (fun E h' => False) := by
  refine mw_ofWH (cc := cL_lockedBy) (maxL := 5) (ret := (some .int)) (hh := hhL_lockedBy) (by decide) rfl (fun w h => List.mem_cons_of_mem _ h) th_cd (Nat.le_of_ble_eq_true rfl) ?_
  intro p e s m below meth c hsz hC hr hlk hnm htab hM ls hl
  have hC : th_C D cs h p m c cL_lockedBy 5 s [.ref x, .int p0, .int p1, .ref ao] RL := hC
  have hx := hC.1.1
  have hb := hC.1.2.1
  have kx0 : h.1 x = some (0, 0) := R.1.1.1.kx
  have hl : lv_has ls 5 [(0, .ref x), (1, .int p0), (2, .int p1), (3, .ref ao)] := hl
  refine lv_aload_n hx hb dL_lockedBy_0 rfl (lv_at hl 3 rfl) ?_
  refine lv_iconst (v := 0) hx hb dL_lockedBy_1 (by decide) ?_
  refine lv_aload_n hx hb dL_lockedBy_2 rfl (lv_at hl 0 rfl) ?_
  refine lv_iload_n hx hb dL_lockedBy_3 rfl (lv_at hl 1 rfl) ?_
  refine lv_iload_n hx hb dL_lockedBy_4 rfl (lv_at hl 2 rfl) ?_
  refine mw_callV (As := [.int p0, .int p1]) (rest := [.int 0, .ref ao]) (n := 2) (C := RX3) (T := TX3) (N := 11) (ci := 3) hC hM (c_X3_lockedBy l hl0 D cs h s.heap.size x aR aO aH aT rt ta R.1.1.1 n R.1.1.2 p0 p1) (cwV 2 hC.1.2.2.2.2 (tb_V mb_470 mb_471 mb_472 mb_36 mb_473) rfl rfl rfl (by decide +kernel) ⟨Nat.le_of_ble_eq_true rfl, Nat.le_of_ble_eq_true rfl⟩) (th_at (h := h) kx0) rfl rfl rfl hl.1 (Nat.le_of_ble_eq_true rfl) dL_lockedBy_5 ⟨Nat.le_of_ble_eq_true rfl, Nat.le_of_ble_eq_true rfl⟩ (fun E ce q9 g9 H locs hp9 hM hce hcv hcl => ?_) (fun v9 g9 H locs hp9 hM => ?_)
  · obtain ⟨h4, rfl, hp9⟩ := hp9
    have hp9 : e3_lockedBy aO h n p0 p1 E h4 := hp9
    have e9 : E = "java/util/NoSuchElementException" := hp9.1
    subst e9
    refine mw_catch hC htab [] (0, 10, 13, 21) [] rfl mw_p0 (by decide) (by decide) mb_302 (List.mem_of_getElem? (i := 13) rfl) hce hcv hcl ?_
    refine lv_astore (lv' := [(4, .ref q9), (0, .ref x), (1, .int p0), (2, .int p1), (3, .ref ao)]) hx hb dL_lockedBy_13 hl (by decide) rfl (fun ls hl => ?_)
    refine lv_iconst (v := 1) hx hb dL_lockedBy_15 (by decide) ?_
    refine mw_iret hC hM hr hlk dL_lockedBy_16 (Nat.le_of_ble_eq_true rfl) (Nat.le_of_ble_eq_true rfl) ⟨_, rfl, ?_⟩
    exact ⟨1, 0, h4, rfl, Or.inr ⟨⟨_, hp9, ⟨rfl, rfl⟩⟩, rfl⟩⟩
  obtain ⟨h3, rfl, hp9⟩ := hp9
  have hp9 : p3_lockedBy aO rt h n p0 p1 v9 h3 := hp9
  obtain ⟨b9, rfl⟩ := V_lockedBy hp9
  have ka9 := (F_lockedBy R (c := 0) (Or.inl ⟨rfl, hp9⟩) ao _ ha (by show 7 ≤ 9; omega)).1
  refine W.eq (g2 := F0 m 8 ls [.int b9, .int 0, .ref ao]) rfl ?_
  refine lv_i2l hx hb dL_lockedBy_8 rfl ?_
  refine as_9 (i := 0) (v := b9) hC hM ka9 (by decide) (by decide) (by first | decide | omega) dL_lockedBy_9 (fun H locs hM => ?_)
  refine lv_goto (tgt := 17) hx hb dL_lockedBy_10 (by decide) ?_
  refine lv_iconst (v := 0) hx hb dL_lockedBy_17 (by decide) ?_
  refine mw_iret hC hM hr hlk dL_lockedBy_18 (Nat.le_of_ble_eq_true rfl) (Nat.le_of_ble_eq_true rfl) ⟨_, rfl, ?_⟩
  exact ⟨0, b9, h3, rfl, Or.inl ⟨rfl, hp9, rfl⟩⟩

-- StableHeapLaw.count
set_option maxHeartbeats 4000000 in
set_option maxRecDepth 100000 in
theorem c_L_count (l : Launch) (hl0 : l.stackTraces = false) (D : va_G) (cs : Nat → ClassId) (h : th_S) (sz : Nat) (x aR aO aH aT : Nat) (rt ta : Nat → Nat) (S : th_N) (N n u : Nat) (ad : Nat → Nat) (R : RR x aR aO aH aT rt ta h S N n u ad) (ao : Nat) (ha : h.1 ao = some (9, 1)) (p0 : Int32) : th_M l yL_count wsL_count { frames := 7, cells := 1, slots := 6, locals := 111 } D cs h sz [.ref x, .int p0, .ref ao] (fun v h' => ∃ k b h1, v = some (.int k) ∧ ((k = 0 ∧ sh_cn x aO aH n rt ta h p0 (some (.int b)) h1 ∧ h' = th_ui h1 ao 0 b) ∨ ((∃ E, e3_count h p0 E h1 ∧ cd_count E k) ∧ h' = h1))) (fun E h' => False) := by
  refine mw_ofWH (cc := cL_count) (maxL := 4) (ret := (some .int)) (hh := hhL_count) (by decide) rfl (fun w h => List.mem_cons_of_mem _ h) th_cd (Nat.le_of_ble_eq_true rfl) ?_
  intro p e s m below meth c hsz hC hr hlk hnm htab hM ls hl
  have hC : th_C D cs h p m c cL_count 4 s [.ref x, .int p0, .ref ao] RL := hC
  have hx := hC.1.1
  have hb := hC.1.2.1
  have kx0 : h.1 x = some (0, 0) := R.1.1.1.kx
  have hl : lv_has ls 4 [(0, .ref x), (1, .int p0), (2, .ref ao)] := hl
  refine lv_aload_n hx hb dL_count_0 rfl (lv_at hl 2 rfl) ?_
  refine lv_iconst (v := 0) hx hb dL_count_1 (by decide) ?_
  refine lv_aload_n hx hb dL_count_2 rfl (lv_at hl 0 rfl) ?_
  refine lv_iload_n hx hb dL_count_3 rfl (lv_at hl 1 rfl) ?_
  refine mw_callV (As := [.int p0]) (rest := [.int 0, .ref ao]) (n := 1) (C := RX3) (T := TX3) (N := 11) (ci := 3) hC hM (c_X3_count l hl0 D cs h s.heap.size x aR aO aH aT rt ta R.1.1.1 n R.1.1.2 p0) (cwV 1 hC.1.2.2.2.2 (tb_V mb_477 mb_478 mb_479 mb_36 mb_480) rfl rfl rfl (by decide +kernel) ⟨Nat.le_of_ble_eq_true rfl, Nat.le_of_ble_eq_true rfl⟩) (th_at (h := h) kx0) rfl rfl rfl hl.1 (Nat.le_of_ble_eq_true rfl) dL_count_4 ⟨Nat.le_of_ble_eq_true rfl, Nat.le_of_ble_eq_true rfl⟩ (fun E ce q9 g9 H locs hp9 hM hce hcv hcl => ?_) (fun v9 g9 H locs hp9 hM => ?_)
  · obtain ⟨h4, rfl, hp9⟩ := hp9
    have hp9 : e3_count h p0 E h4 := hp9
    have e9 : E = "java/lang/IllegalArgumentException" := hp9.1
    subst e9
    refine mw_catch hC htab [] (0, 9, 12, 23) [] rfl mw_p0 (by decide) (by decide) mb_303 (List.mem_of_getElem? (i := 14) rfl) hce hcv hcl ?_
    refine lv_astore_n (lv' := [(3, .ref q9), (0, .ref x), (1, .int p0), (2, .ref ao)]) hx hb dL_count_12 rfl hl (by decide) rfl (fun ls hl => ?_)
    refine lv_iconst (v := 1) hx hb dL_count_13 (by decide) ?_
    refine mw_iret hC hM hr hlk dL_count_14 (Nat.le_of_ble_eq_true rfl) (Nat.le_of_ble_eq_true rfl) ⟨_, rfl, ?_⟩
    exact ⟨1, 0, h4, rfl, Or.inr ⟨⟨_, hp9, ⟨rfl, rfl⟩⟩, rfl⟩⟩
  obtain ⟨h3, rfl, hp9⟩ := hp9
  have hp9 : sh_cn x aO aH n rt ta h p0 v9 h3 := hp9
  obtain ⟨b9, rfl⟩ := V_count hp9
  have ka9 := (F_count R (c := 0) (Or.inl ⟨rfl, hp9⟩) ao _ ha (by show 7 ≤ 9; omega)).1
  refine W.eq (g2 := F0 m 7 ls [.int b9, .int 0, .ref ao]) rfl ?_
  refine lv_i2l hx hb dL_count_7 rfl ?_
  refine as_9 (i := 0) (v := b9) hC hM ka9 (by decide) (by decide) (by first | decide | omega) dL_count_8 (fun H locs hM => ?_)
  refine lv_goto (tgt := 15) hx hb dL_count_9 (by decide) ?_
  refine lv_iconst (v := 0) hx hb dL_count_15 (by decide) ?_
  refine mw_iret hC hM hr hlk dL_count_16 (Nat.le_of_ble_eq_true rfl) (Nat.le_of_ble_eq_true rfl) ⟨_, rfl, ?_⟩
  exact ⟨0, b9, h3, rfl, Or.inl ⟨rfl, hp9, rfl⟩⟩

/-! StableHeap: reads and sets -/
def sh_px (ta : Nat → Nat) (aO n : Nat) (h : th_S) (k o f : Int32) (E : String) (T : Nat → Nat → Nat → Prop) : Prop :=
  (E = "java/util/NoSuchElementException" ∧ sh_nt ta h k) ∨ ∃ i, sh_tx ta h k i ∧ ((E = "java/util/NoSuchElementException" ∧ sh_no aO n h o) ∨ ∃ a, sh_ob aO n h o a ∧ ((E = "java/lang/IndexOutOfBoundsException" ∧ sh_nf h a f) ∨ ∃ q, sh_fd h a f q ∧ T i a q))
def sh_lx (h : th_S) (a : Nat) (k : Int32) (E : String) (T : Prop) : Prop := (E = "java/lang/IllegalStateException" ∧ ¬ h.2.1 a 2 = 0 ∧ ¬ h.2.1 a 2 = k) ∨ ((h.2.1 a 2 = 0 ∨ h.2.1 a 2 = k) ∧ T)

-- StableHeap.readField
set_option maxHeartbeats 4000000 in
set_option maxRecDepth 100000 in
theorem c_X3_readField (l : Launch) (hl0 : l.stackTraces = false) (D : va_G) (cs : Nat → ClassId) (h : th_S) (sz : Nat) (x aR aO aH aT : Nat) (rt ta : Nat → Nat) (hK : sh_K x aR aO aH aT rt ta h) (n : Nat) (hO : sh_O x aO n h) (k o f : Int32) : th_M l yX3_readField wsX3_readField { frames := 7, cells := 4, slots := 24, locals := 112 } D cs h sz [.ref x, .int k, .int o, .int f] (fun v h' => ∃ i a q, sh_tx ta h k i ∧ sh_ob aO n h o a ∧ sh_fd h a f q ∧ (h.2.1 a 2 = 0 ∨ h.2.1 a 2 = k) ∧ h' = th_ui h a 2 k ∧ v = some (.ref q)) (fun E h' => h = h' ∧ sh_px ta aO n h k o f E (fun i a q => sh_lx h a k E False)) := by
  refine mw_ofW (cc := cX3_readField) (maxL := 7) (ret := (some (.object "StableHeap$Place"))) (by decide) rfl (fun w h => List.mem_cons_of_mem _ h) th_cd (Nat.le_of_ble_eq_true rfl) ?_
  intro p e s m below meth c hsz hC hr hlk hnm htab hM ls hl
  have hC : th_C D cs h p m c cX3_readField 7 s [.ref x, .int k, .int o, .int f] RX3 := hC
  have hx := hC.1.1
  have hb := hC.1.2.1
  have kx0 : h.1 x = some (0, 0) := hK.kx
  have hl : lv_has ls 7 [(0, .ref x), (1, .int k), (2, .int o), (3, .int f)] := hl
  refine lv_aload_n hx hb dX3_readField_0 rfl (lv_at hl 0 rfl) ?_
  refine lv_iload_n hx hb dX3_readField_1 rfl (lv_at hl 1 rfl) ?_
  refine mw_callV (As := [.int k]) (rest := []) (n := 1) (C := RX3) (T := TX3) (N := 11) (ci := 3) hC hM (c_X3_activeTransaction l hl0 D cs h s.heap.size x aR aO aH aT rt ta hK k) (cwV 1 hC.1.2.2.2.2 (tb_V mb_308 mb_309 mb_9 mb_36 mb_310) rfl rfl rfl (by decide +kernel) ⟨Nat.le_of_ble_eq_true rfl, Nat.le_of_ble_eq_true rfl⟩) (th_at (h := h) kx0) rfl rfl rfl hl.1 (Nat.le_of_ble_eq_true rfl) dX3_readField_2 ⟨Nat.le_of_ble_eq_true rfl, Nat.le_of_ble_eq_true rfl⟩ (fun E ce q9 g9 H locs hp9 hM hce hcv hcl => ?_) (fun v9 g9 H locs hp9 hM => ?_)
  · obtain ⟨h9, rfl, rfl, rfl, hf⟩ := hp9
    exact mw_out hM htab hlk hce hcv hcl (Nat.le_of_ble_eq_true rfl) (Nat.le_of_ble_eq_true rfl) ⟨_, rfl, rfl, Or.inl ⟨rfl, hf⟩⟩
  obtain ⟨h2, rfl, hp9⟩ := hp9
  obtain ⟨rfl, i, hi, rfl⟩ := hp9
  have kti : h.1 (ta i) = some (1, 0) := hK.kta hi.1
  refine W.eq (g2 := F0 m 5 ls [.ref (ta i)]) rfl ?_
  refine lv_astore (lv' := [(4, .ref (ta i)), (0, .ref x), (1, .int k), (2, .int o), (3, .int f)]) hx hb dX3_readField_5 hl (by decide) rfl (fun ls hl => ?_)
  refine lv_aload_n hx hb dX3_readField_7 rfl (lv_at hl 1 rfl) ?_
  refine lv_iload_n hx hb dX3_readField_8 rfl (lv_at hl 3 rfl) ?_
  refine mw_callV (As := [.int o]) (rest := []) (n := 1) (C := RX3) (T := TX3) (N := 11) (ci := 3) hC hM (c_X3_objectWith l hl0 D cs h H.size x aR aO aH aT rt ta hK n hO o) (cwV 1 hC.1.2.2.2.2 (tb_V mb_347 mb_348 mb_10 mb_36 mb_349) rfl rfl rfl (by decide +kernel) ⟨Nat.le_of_ble_eq_true rfl, Nat.le_of_ble_eq_true rfl⟩) (th_at (h := h) kx0) rfl rfl rfl hl.1 (Nat.le_of_ble_eq_true rfl) dX3_readField_9 ⟨Nat.le_of_ble_eq_true rfl, Nat.le_of_ble_eq_true rfl⟩ (fun E ce q9 g9 H locs hp9 hM hce hcv hcl => ?_) (fun v9 g9 H locs hp9 hM => ?_)
  · obtain ⟨h9, rfl, rfl, rfl, hf⟩ := hp9
    exact mw_out hM htab hlk hce hcv hcl (Nat.le_of_ble_eq_true rfl) (Nat.le_of_ble_eq_true rfl) ⟨_, rfl, rfl, Or.inr ⟨i, hi, Or.inl ⟨rfl, hf⟩⟩⟩
  obtain ⟨h9, rfl, hp9⟩ := hp9
  obtain ⟨rfl, a, rfl, ho⟩ := hp9
  obtain ⟨pa, np, hpa, hnp, hn4⟩ := hK.lk (ho.k hO)
  have kao : h.1 a = some (2, 0) := ho.k hO
  refine W.eq (g2 := F0 m 12 ls [.ref a]) rfl ?_
  refine lv_astore (lv' := [(5, .ref a), (4, .ref (ta i)), (0, .ref x), (1, .int k), (2, .int o), (3, .int f)]) hx hb dX3_readField_12 hl (by decide) rfl (fun ls hl => ?_)
  refine lv_aload hx hb dX3_readField_14 (lv_at hl 0 rfl) ?_
  refine lv_iload_n hx hb dX3_readField_16 rfl (lv_at hl 5 rfl) ?_
  refine mw_callS (As := [.ref a, .int f]) (rest := []) (n := 2) hC hM (c_X3_fieldOf l hl0 D cs h H.size a pa np (ho.k hO) hpa hnp hn4 (fun j hj => hK.pa hnp hj) f) (va_cwS 2 hC.1.2.2.2.2 (tb_S mb_353 mb_354 mb_36 mb_355) rfl rfl rfl (by decide +kernel) ⟨Nat.le_of_ble_eq_true rfl, Nat.le_of_ble_eq_true rfl⟩) rfl rfl hl.1 (Nat.le_of_ble_eq_true rfl) dX3_readField_17 ⟨Nat.le_of_ble_eq_true rfl, Nat.le_of_ble_eq_true rfl⟩ (fun E ce q9 g9 H locs hp9 hM hce hcv hcl => ?_) (fun v9 g9 H locs hp9 hM => ?_)
  · obtain ⟨h9, rfl, rfl, rfl, hf⟩ := hp9
    exact mw_out hM htab hlk hce hcv hcl (Nat.le_of_ble_eq_true rfl) (Nat.le_of_ble_eq_true rfl) ⟨_, rfl, rfl, Or.inr ⟨i, hi, Or.inr ⟨a, ho, Or.inl ⟨rfl, hf⟩⟩⟩⟩
  obtain ⟨h17, rfl, hp9⟩ := hp9
  obtain ⟨rfl, q, rfl, hq⟩ := hp9
  have kqo : h.1 q = some (3, 0) := hq.k hK
  refine W.eq (g2 := F0 m 20 ls [.ref q]) rfl ?_
  refine lv_astore (lv' := [(6, .ref q), (5, .ref a), (4, .ref (ta i)), (0, .ref x), (1, .int k), (2, .int o), (3, .int f)]) hx hb dX3_readField_20 hl (by decide) rfl (fun ls hl => ?_)
  refine lv_aload hx hb dX3_readField_22 (lv_at hl 1 rfl) ?_
  refine lv_aload hx hb dX3_readField_24 (lv_at hl 2 rfl) ?_
  refine mw_callS (As := [.ref a, .ref (ta i)]) (rest := []) (n := 2) hC hM (c_X3_refuseIfLockedByAnother l hl0 D cs h H.size a (ta i) (ho.k hO) (hK.kta hi.1)) (va_cwS 2 hC.1.2.2.2.2 (tb_S mb_370 mb_371 mb_36 mb_372) rfl rfl rfl (by decide +kernel) ⟨Nat.le_of_ble_eq_true rfl, Nat.le_of_ble_eq_true rfl⟩) rfl rfl hl.1 (Nat.le_of_ble_eq_true rfl) dX3_readField_26 ⟨Nat.le_of_ble_eq_true rfl, Nat.le_of_ble_eq_true rfl⟩ (fun E ce q9 g9 H locs hp9 hM hce hcv hcl => ?_) (fun v9 g9 H locs hp9 hM => ?_)
  · obtain ⟨h9, rfl, rfl, rfl, hf⟩ := hp9
    exact mw_out hM htab hlk hce hcv hcl (Nat.le_of_ble_eq_true rfl) (Nat.le_of_ble_eq_true rfl) ⟨_, rfl, rfl, Or.inr ⟨i, hi, Or.inr ⟨a, ho, Or.inr ⟨q, hq, Or.inl ⟨rfl, by rw [← hi.2.2]; exact hf⟩⟩⟩⟩⟩
  obtain ⟨h26, rfl, hp9⟩ := hp9
  obtain ⟨rfl, rfl, hlo⟩ := hp9
  refine W.eq (g2 := F0 m 29 ls []) rfl ?_
  refine lv_aload hx hb dX3_readField_29 (lv_at hl 1 rfl) ?_
  refine lv_aload hx hb dX3_readField_31 (lv_at hl 2 rfl) ?_
  refine gi_1_0 (index := 43) hC hM kti mb_117 dX3_readField_33 ?_
  rw [show h.2.1 (ta i) 0 = k from hi.2.2]
  refine pu_2_2 (index := 71) (v := k) hC hM kao mb_100 dX3_readField_36 (fun H locs hM => ?_)
  refine lv_aload hx hb dX3_readField_39 (lv_at hl 0 rfl) ?_
  refine mw_aret (r := some q) hC hM hr hlk dX3_readField_41 (Nat.le_of_ble_eq_true rfl) (Nat.le_of_ble_eq_true rfl) ⟨_, rfl, ?_⟩
  exact ⟨i, a, q, hi, ho, hq, by rw [← hi.2.2]; exact hlo, rfl, rfl⟩

-- StableHeap.getInt
set_option maxHeartbeats 4000000 in
set_option maxRecDepth 100000 in
theorem c_X3_getInt (l : Launch) (hl0 : l.stackTraces = false) (D : va_G) (cs : Nat → ClassId) (h : th_S) (sz : Nat) (x aR aO aH aT : Nat) (rt ta : Nat → Nat) (hK : sh_K x aR aO aH aT rt ta h) (n : Nat) (hO : sh_O x aO n h) (k o f : Int32) : th_M l yX3_getInt wsX3_getInt { frames := 8, cells := 5, slots := 30, locals := 138 } D cs h sz [.ref x, .int k, .int o, .int f] (fun v h' => ∃ i a q, sh_tx ta h k i ∧ sh_ob aO n h o a ∧ sh_fd h a f q ∧ (h.2.1 a 2 = 0 ∨ h.2.1 a 2 = k) ∧ h' = th_ui h a 2 k ∧ h.2.1 q 0 = 0 ∧ v = some (.int (h.2.1 q 1))) (fun E h' => (h = h' ∧ sh_px ta aO n h k o f E (fun i a q => sh_lx h a k E False)) ∨ (E = "java/lang/ArithmeticException" ∧ ∃ i a q, sh_tx ta h k i ∧ sh_ob aO n h o a ∧ sh_fd h a f q ∧ (h.2.1 a 2 = 0 ∨ h.2.1 a 2 = k) ∧ h' = th_ui h a 2 k ∧ ¬ h.2.1 q 0 = 0)) := by
  refine mw_ofW (cc := cX3_getInt) (maxL := 5) (ret := (some .int)) (by decide) rfl (fun w h => List.mem_cons_of_mem _ h) th_cd (Nat.le_of_ble_eq_true rfl) ?_
  intro p e s m below meth c hsz hC hr hlk hnm htab hM ls hl
  have hC : th_C D cs h p m c cX3_getInt 5 s [.ref x, .int k, .int o, .int f] RX3 := hC
  have hx := hC.1.1
  have hb := hC.1.2.1
  have kx0 : h.1 x = some (0, 0) := hK.kx
  have hl : lv_has ls 5 [(0, .ref x), (1, .int k), (2, .int o), (3, .int f)] := hl
  refine lv_aload_n hx hb dX3_getInt_0 rfl (lv_at hl 0 rfl) ?_
  refine lv_iload_n hx hb dX3_getInt_1 rfl (lv_at hl 1 rfl) ?_
  refine lv_iload_n hx hb dX3_getInt_2 rfl (lv_at hl 2 rfl) ?_
  refine lv_iload_n hx hb dX3_getInt_3 rfl (lv_at hl 3 rfl) ?_
  refine mw_callV (As := [.int k, .int o, .int f]) (rest := []) (n := 3) (C := RX3) (T := TX3) (N := 11) (ci := 3) hC hM (c_X3_readField l hl0 D cs h s.heap.size x aR aO aH aT rt ta hK n hO k o f) (cwV 3 hC.1.2.2.2.2 (tb_V mb_412 mb_413 mb_15 mb_36 mb_414) rfl rfl rfl (by decide +kernel) ⟨Nat.le_of_ble_eq_true rfl, Nat.le_of_ble_eq_true rfl⟩) (th_at (h := h) kx0) rfl rfl rfl hl.1 (Nat.le_of_ble_eq_true rfl) dX3_getInt_4 ⟨Nat.le_of_ble_eq_true rfl, Nat.le_of_ble_eq_true rfl⟩ (fun E ce q9 g9 H locs hp9 hM hce hcv hcl => ?_) (fun v9 g9 H locs hp9 hM => ?_)
  · obtain ⟨h9, rfl, rfl, hf⟩ := hp9
    exact mw_out hM htab hlk hce hcv hcl (Nat.le_of_ble_eq_true rfl) (Nat.le_of_ble_eq_true rfl) ⟨_, rfl, Or.inl ⟨rfl, hf⟩⟩
  obtain ⟨h4, rfl, hp9⟩ := hp9
  obtain ⟨i, a, q, hi, ho, hq, hlo, rfl, rfl⟩ := hp9
  have kq : h.1 q = some (3, 0) := hq.k hK
  have ka : h.1 a = some (2, 0) := ho.k hO
  refine W.eq (g2 := F0 m 7 ls [.ref q]) rfl ?_
  refine lv_astore (lv' := [(4, .ref q), (0, .ref x), (1, .int k), (2, .int o), (3, .int f)]) hx hb dX3_getInt_7 hl (by decide) rfl (fun ls hl => ?_)
  refine lv_aload hx hb dX3_getInt_9 (lv_at hl 0 rfl) ?_
  refine gi_3_0 (index := 111) hC hM kq mb_70 dX3_getInt_11 ?_
  rw [show (th_ui h a 2 k).2.1 q 0 = h.2.1 q 0 from (th_ui_n _ _ _ _ (th_kne (hq.k hK) (ho.k hO) (by decide)))]
  refine lv_if_eq (tgt := 27) hx hb dX3_getInt_14 (by decide) (fun c14 => ?_) (fun c14 => ?_)
  · refine lv_aload hx hb dX3_getInt_27 (lv_at hl 0 rfl) ?_
    refine gi_3_1 (index := 120) hC hM kq mb_72 dX3_getInt_29 ?_
    rw [show (th_ui h a 2 k).2.1 q 1 = h.2.1 q 1 from (th_ui_n _ _ _ _ (th_kne (hq.k hK) (ho.k hO) (by decide)))]
    refine mw_iret hC hM hr hlk dX3_getInt_32 (Nat.le_of_ble_eq_true rfl) (Nat.le_of_ble_eq_true rfl) ⟨_, rfl, ?_⟩
    exact ⟨i, a, q, hi, ho, hq, hlo, rfl, c14, rfl⟩
  · refine mw_throw (cls := "java/lang/ArithmeticException") (names := ["java/lang/RuntimeException", "java/lang/Exception"]) (ik := 115) (is := 117) (ic := 119) hC hM htab hlk hl0 sx_117 (by decide +kernel) (by decide +kernel) mb_415 mb_49 tg_119 tn_119 to_119 hl.1 dX3_getInt_17 dX3_getInt_20 dX3_getInt_21 dX3_getInt_23 dX3_getInt_26 (Nat.le_of_ble_eq_true rfl) (Nat.le_of_ble_eq_true rfl) (Nat.le_of_ble_eq_true rfl) (Nat.le_of_ble_eq_true rfl) (Nat.le_of_ble_eq_true rfl) (Nat.le_of_ble_eq_true rfl) ⟨_, rfl, ?_⟩
    exact Or.inr ⟨rfl, i, a, q, hi, ho, hq, hlo, rfl, c14⟩

theorem th_ui_hd (h : th_S) (a : Nat) (k : Int32) (b : Nat) : (th_ui h a 2 k).2.1 b 0 = h.2.1 b 0 := by
  by_cases e : b = a
  · subst e
    exact th_ui_k _ _ _ (by decide)
  · exact th_ui_n _ _ _ _ e

-- StableHeap.getReference
set_option maxHeartbeats 4000000 in
set_option maxRecDepth 100000 in
theorem c_X3_getReference (l : Launch) (hl0 : l.stackTraces = false) (D : va_G) (cs : Nat → ClassId) (h : th_S) (sz : Nat) (x aR aO aH aT : Nat) (rt ta : Nat → Nat) (hK : sh_K x aR aO aH aT rt ta h) (n : Nat) (hO : sh_O x aO n h) (k o f : Int32) : th_M l yX3_getReference wsX3_getReference { frames := 8, cells := 5, slots := 30, locals := 138 } D cs h sz [.ref x, .int k, .int o, .int f] (fun v h' => ∃ i a q, sh_tx ta h k i ∧ sh_ob aO n h o a ∧ sh_fd h a f q ∧ (h.2.1 a 2 = 0 ∨ h.2.1 a 2 = k) ∧ h' = th_ui h a 2 k ∧ ¬ h.2.1 q 0 = 0 ∧ v = some (.int (sh_hd h (h.2.2 q 2)))) (fun E h' => (h = h' ∧ sh_px ta aO n h k o f E (fun i a q => sh_lx h a k E False)) ∨ (E = "java/lang/ArithmeticException" ∧ ∃ i a q, sh_tx ta h k i ∧ sh_ob aO n h o a ∧ sh_fd h a f q ∧ (h.2.1 a 2 = 0 ∨ h.2.1 a 2 = k) ∧ h' = th_ui h a 2 k ∧ h.2.1 q 0 = 0)) := by
  refine mw_ofW (cc := cX3_getReference) (maxL := 5) (ret := (some .int)) (by decide) rfl (fun w h => List.mem_cons_of_mem _ h) th_cd (Nat.le_of_ble_eq_true rfl) ?_
  intro p e s m below meth c hsz hC hr hlk hnm htab hM ls hl
  have hC : th_C D cs h p m c cX3_getReference 5 s [.ref x, .int k, .int o, .int f] RX3 := hC
  have hx := hC.1.1
  have hb := hC.1.2.1
  have kx0 : h.1 x = some (0, 0) := hK.kx
  have hl : lv_has ls 5 [(0, .ref x), (1, .int k), (2, .int o), (3, .int f)] := hl
  refine lv_aload_n hx hb dX3_getReference_0 rfl (lv_at hl 0 rfl) ?_
  refine lv_iload_n hx hb dX3_getReference_1 rfl (lv_at hl 1 rfl) ?_
  refine lv_iload_n hx hb dX3_getReference_2 rfl (lv_at hl 2 rfl) ?_
  refine lv_iload_n hx hb dX3_getReference_3 rfl (lv_at hl 3 rfl) ?_
  refine mw_callV (As := [.int k, .int o, .int f]) (rest := []) (n := 3) (C := RX3) (T := TX3) (N := 11) (ci := 3) hC hM (c_X3_readField l hl0 D cs h s.heap.size x aR aO aH aT rt ta hK n hO k o f) (cwV 3 hC.1.2.2.2.2 (tb_V mb_412 mb_413 mb_15 mb_36 mb_414) rfl rfl rfl (by decide +kernel) ⟨Nat.le_of_ble_eq_true rfl, Nat.le_of_ble_eq_true rfl⟩) (th_at (h := h) kx0) rfl rfl rfl hl.1 (Nat.le_of_ble_eq_true rfl) dX3_getReference_4 ⟨Nat.le_of_ble_eq_true rfl, Nat.le_of_ble_eq_true rfl⟩ (fun E ce q9 g9 H locs hp9 hM hce hcv hcl => ?_) (fun v9 g9 H locs hp9 hM => ?_)
  · obtain ⟨h9, rfl, rfl, hf⟩ := hp9
    exact mw_out hM htab hlk hce hcv hcl (Nat.le_of_ble_eq_true rfl) (Nat.le_of_ble_eq_true rfl) ⟨_, rfl, Or.inl ⟨rfl, hf⟩⟩
  obtain ⟨h4, rfl, hp9⟩ := hp9
  obtain ⟨i, a, q, hi, ho, hq, hlo, rfl, rfl⟩ := hp9
  have kq : h.1 q = some (3, 0) := hq.k hK
  have ka : h.1 a = some (2, 0) := ho.k hO
  refine W.eq (g2 := F0 m 7 ls [.ref q]) rfl ?_
  refine lv_astore (lv' := [(4, .ref q), (0, .ref x), (1, .int k), (2, .int o), (3, .int f)]) hx hb dX3_getReference_7 hl (by decide) rfl (fun ls hl => ?_)
  refine lv_aload hx hb dX3_getReference_9 (lv_at hl 0 rfl) ?_
  refine gi_3_0 (index := 111) hC hM kq mb_70 dX3_getReference_11 ?_
  rw [show (th_ui h a 2 k).2.1 q 0 = h.2.1 q 0 from (th_ui_n _ _ _ _ (th_kne (hq.k hK) (ho.k hO) (by decide)))]
  refine lv_if_ne (tgt := 27) hx hb dX3_getReference_14 (by decide) (fun c14 => ?_) (fun c14 => ?_)
  · refine lv_aload hx hb dX3_getReference_27 (lv_at hl 0 rfl) ?_
    refine gr_3_2 (index := 123) hC hM kq mb_74 dX3_getReference_29 rfl ?_
    refine mw_callS (As := [va_rf (h.2.2 q 2)]) (rest := []) (n := 1) hC hM (c_X3_handleOf l hl0 D cs (th_ui h a 2 k) H.size (h.2.2 q 2) (fun b hb => (hK.pl (hq.k hK)).2.2.2.1 b hb)) (va_cwS 1 hC.1.2.2.2.2 (tb_S mb_436 mb_437 mb_36 mb_438) rfl rfl rfl (by decide +kernel) ⟨Nat.le_of_ble_eq_true rfl, Nat.le_of_ble_eq_true rfl⟩) rfl rfl hl.1 (Nat.le_of_ble_eq_true rfl) dX3_getReference_32 ⟨Nat.le_of_ble_eq_true rfl, Nat.le_of_ble_eq_true rfl⟩ (fun E ce q9 g9 H locs hp9 hM hce hcv hcl => ?_) (fun v9 g9 H locs hp9 hM => ?_)
    · exact (hp9.elim fun _ h9 => h9.2.elim)
    obtain ⟨h32, rfl, hp9⟩ := hp9
    obtain ⟨rfl, rfl⟩ := hp9
    refine W.eq (g2 := F0 m 35 ls [.int (sh_hd (th_ui h a 2 k) (h.2.2 q 2))]) rfl ?_
    refine mw_iret hC hM hr hlk dX3_getReference_35 (Nat.le_of_ble_eq_true rfl) (Nat.le_of_ble_eq_true rfl) ⟨_, rfl, ?_⟩
    exact ⟨i, a, q, hi, ho, hq, hlo, rfl, c14, by
      congr 2
      unfold sh_hd
      cases h.2.2 q 2 with
      | none => rfl
      | some b => exact th_ui_hd h a k b⟩
  · refine mw_throw (cls := "java/lang/ArithmeticException") (names := ["java/lang/RuntimeException", "java/lang/Exception"]) (ik := 115) (is := 121) (ic := 119) hC hM htab hlk hl0 sx_121 (by decide +kernel) (by decide +kernel) mb_415 mb_49 tg_119 tn_119 to_119 hl.1 dX3_getReference_17 dX3_getReference_20 dX3_getReference_21 dX3_getReference_23 dX3_getReference_26 (Nat.le_of_ble_eq_true rfl) (Nat.le_of_ble_eq_true rfl) (Nat.le_of_ble_eq_true rfl) (Nat.le_of_ble_eq_true rfl) (Nat.le_of_ble_eq_true rfl) (Nat.le_of_ble_eq_true rfl) ⟨_, rfl, ?_⟩
    exact Or.inr ⟨rfl, i, a, q, hi, ho, hq, hlo, rfl, c14⟩

-- StableHeap.refer
set_option maxHeartbeats 4000000 in
set_option maxRecDepth 100000 in
theorem c_X3_refer (l : Launch) (hl0 : l.stackTraces = false) (D : va_G) (cs : Nat → ClassId) (h : th_S) (sz : Nat) (x aR aO aH aT : Nat) (rt ta : Nat → Nat) (hK : sh_K x aR aO aH aT rt ta h) (n : Nat) (hO : sh_O x aO n h) (t a q : Nat) (k : Int32) (ht : h.1 t = some (1, 0)) (ha : h.1 a = some (2, 0)) (hq : h.1 q = some (3, 0)) : th_M l yX3_refer wsX3_refer { frames := 7, cells := 3, slots := 18, locals := 112 } D cs h sz [.ref x, .ref t, .ref a, .ref q, .int k] (fun v h' => v = none ∧ (h.2.1 a 2 = 0 ∨ h.2.1 a 2 = h.2.1 t 0) ∧ ∃ r, sh_fo aO n h k r ∧ (k = 0 ∨ r ≠ none) ∧ sh_wl x ta h + 3 ≤ 150 ∧ h' = pl_ref (th_ui (th_ui h t 1 (h.2.1 t 1 + 3)) a 2 (h.2.1 t 0)) q r) (fun E h' => h = h' ∧ sh_lx h a (h.2.1 t 0) E ((E = "java/lang/IllegalArgumentException" ∧ ¬ k = 0 ∧ sh_no aO n h k) ∨ ∃ r, sh_fo aO n h k r ∧ (k = 0 ∨ r ≠ none) ∧ E = "java/lang/UnsupportedOperationException" ∧ ¬ sh_wl x ta h + 3 ≤ 150)) := by
  refine mw_ofW (cc := cX3_refer) (maxL := 6) (ret := none) (by decide) rfl (fun w h => List.mem_cons_of_mem _ h) th_cd (Nat.le_of_ble_eq_true rfl) ?_
  intro p e s m below meth c hsz hC hr hlk hnm htab hM ls hl
  have hC : th_C D cs h p m c cX3_refer 6 s [.ref x, .ref t, .ref a, .ref q, .int k] RX3 := hC
  have hx := hC.1.1
  have hb := hC.1.2.1
  have kx0 : h.1 x = some (0, 0) := hK.kx
  have hl : lv_has ls 6 [(0, .ref x), (1, .ref t), (2, .ref a), (3, .ref q), (4, .int k)] := hl
  refine lv_aload_n hx hb dX3_refer_0 rfl (lv_at hl 2 rfl) ?_
  refine lv_aload_n hx hb dX3_refer_1 rfl (lv_at hl 1 rfl) ?_
  refine mw_callS (As := [.ref a, .ref t]) (rest := []) (n := 2) hC hM (c_X3_refuseIfLockedByAnother l hl0 D cs h s.heap.size a t ha ht) (va_cwS 2 hC.1.2.2.2.2 (tb_S mb_370 mb_371 mb_36 mb_372) rfl rfl rfl (by decide +kernel) ⟨Nat.le_of_ble_eq_true rfl, Nat.le_of_ble_eq_true rfl⟩) rfl rfl hl.1 (Nat.le_of_ble_eq_true rfl) dX3_refer_2 ⟨Nat.le_of_ble_eq_true rfl, Nat.le_of_ble_eq_true rfl⟩ (fun E ce q9 g9 H locs hp9 hM hce hcv hcl => ?_) (fun v9 g9 H locs hp9 hM => ?_)
  · obtain ⟨h9, rfl, rfl, rfl, hf⟩ := hp9
    exact mw_out hM htab hlk hce hcv hcl (Nat.le_of_ble_eq_true rfl) (Nat.le_of_ble_eq_true rfl) ⟨_, rfl, rfl, Or.inl ⟨rfl, hf⟩⟩
  obtain ⟨h2, rfl, hp9⟩ := hp9
  obtain ⟨rfl, rfl, hlo⟩ := hp9
  refine W.eq (g2 := F0 m 5 ls []) rfl ?_
  refine lv_aload_n hx hb dX3_refer_5 rfl (lv_at hl 0 rfl) ?_
  refine lv_iload hx hb dX3_refer_6 (lv_at hl 4 rfl) ?_
  refine mw_callV (As := [.int k]) (rest := []) (n := 1) (C := RX3) (T := TX3) (N := 11) (ci := 3) hC hM (c_X3_findObject l hl0 D cs h H.size x aR aO aH aT rt ta hK n hO k) (cwV 1 hC.1.2.2.2.2 (tb_V mb_350 mb_351 mb_11 mb_36 mb_352) rfl rfl rfl (by decide +kernel) ⟨Nat.le_of_ble_eq_true rfl, Nat.le_of_ble_eq_true rfl⟩) (th_at (h := h) kx0) rfl rfl rfl hl.1 (Nat.le_of_ble_eq_true rfl) dX3_refer_8 ⟨Nat.le_of_ble_eq_true rfl, Nat.le_of_ble_eq_true rfl⟩ (fun E ce q9 g9 H locs hp9 hM hce hcv hcl => ?_) (fun v9 g9 H locs hp9 hM => ?_)
  · exact (hp9.elim fun _ h9 => h9.2.elim)
  obtain ⟨h8, rfl, hp9⟩ := hp9
  obtain ⟨rfl, r, rfl, hf⟩ := hp9
  rcases hf with ⟨rfl, hf⟩ | ⟨b, rfl, hf⟩
  · skip
    refine W.eq (g2 := F0 m 11 ls [.null]) rfl ?_
    refine lv_astoreN (lv' := [(5, .null), (0, .ref x), (1, .ref t), (2, .ref a), (3, .ref q), (4, .int k)]) hx hb dX3_refer_11 hl (by decide) rfl (fun ls hl => ?_)
    refine lv_iload hx hb dX3_refer_13 (lv_at hl 5 rfl) ?_
    refine lv_if_eq (tgt := 33) hx hb dX3_refer_15 (by decide) (fun c15 => ?_) (fun c15 => ?_)
    · refine lv_aload_n hx hb dX3_refer_33 rfl (lv_at hl 1 rfl) ?_
      refine lv_aload_n hx hb dX3_refer_34 rfl (lv_at hl 2 rfl) ?_
      refine lv_iconst (v := 3) hx hb dX3_refer_35 (by decide) ?_
      refine mw_callV (As := [.ref t, .int 3]) (rest := []) (n := 2) (C := RX3) (T := TX3) (N := 11) (ci := 3) hC hM (c_X3_writeRecord l hl0 D cs h H.size x aR aO aH aT rt ta hK t ht 3) (cwV 2 hC.1.2.2.2.2 (tb_V mb_282 mb_283 mb_8 mb_36 mb_284) rfl rfl rfl (by decide +kernel) ⟨Nat.le_of_ble_eq_true rfl, Nat.le_of_ble_eq_true rfl⟩) (th_at (h := h) kx0) rfl rfl rfl hl.1 (Nat.le_of_ble_eq_true rfl) dX3_refer_36 ⟨Nat.le_of_ble_eq_true rfl, Nat.le_of_ble_eq_true rfl⟩ (fun E ce q9 g9 H locs hp9 hM hce hcv hcl => ?_) (fun v9 g9 H locs hp9 hM => ?_)
      · obtain ⟨h9, rfl, rfl, rfl, hw⟩ := hp9
        exact mw_out hM htab hlk hce hcv hcl (Nat.le_of_ble_eq_true rfl) (Nat.le_of_ble_eq_true rfl) ⟨_, rfl, rfl, Or.inr ⟨hlo, Or.inr ⟨none, Or.inl ⟨rfl, hf⟩, by first | exact Or.inl c15 | exact Or.inr (fun q => nomatch q), rfl, hw⟩⟩⟩
      obtain ⟨h36, rfl, hp9⟩ := hp9
      obtain ⟨rfl, rfl, hw⟩ := hp9
      refine W.eq (g2 := F0 m 39 ls []) rfl ?_
      refine lv_aload_n hx hb dX3_refer_39 rfl (lv_at hl 3 rfl) ?_
      refine lv_aload_n hx hb dX3_refer_40 rfl (lv_at hl 2 rfl) ?_
      refine gi_1_0 (index := 43) hC hM ht mb_117 dX3_refer_41 ?_
      rw [show (th_ui h t 1 (h.2.1 t 1 + 3)).2.1 t 0 = h.2.1 t 0 from th_ui_k _ _ _ (by decide)]
      refine pu_2_2 (index := 71) (v := h.2.1 t 0) hC hM ha mb_100 dX3_refer_44 (fun H locs hM => ?_)
      refine lv_aload_n hx hb dX3_refer_47 rfl (lv_at hl 4 rfl) ?_
      refine lv_aloadN hx hb dX3_refer_48 (lv_at hl 0 rfl) ?_
      refine mw_callV (As := [.null]) (rest := []) (n := 1) (C := RX1) (T := TX1) (N := 7) (ci := 1) hC hM (c_X1_putReference l hl0 D cs (th_ui (th_ui h t 1 (h.2.1 t 1 + 3)) a 2 (h.2.1 t 0)) H.size q hq (((hK.uk ht (by decide)).uk ha (by decide)).pl hq).1 (none)) (cwV 1 hC.1.2.2.2.2 (tb_V mb_390 mb_391 mb_392 mb_38 mb_393) rfl rfl rfl (by decide +kernel) ⟨Nat.le_of_ble_eq_true rfl, Nat.le_of_ble_eq_true rfl⟩) (th_at (h := th_ui (th_ui h t 1 (h.2.1 t 1 + 3)) a 2 (h.2.1 t 0)) hq) rfl rfl rfl hl.1 (Nat.le_of_ble_eq_true rfl) dX3_refer_50 ⟨Nat.le_of_ble_eq_true rfl, Nat.le_of_ble_eq_true rfl⟩ (fun E ce q9 g9 H locs hp9 hM hce hcv hcl => ?_) (fun v9 g9 H locs hp9 hM => ?_)
      · exact (hp9.elim fun _ h9 => h9.2.elim)
      obtain ⟨h50, rfl, hp9⟩ := hp9
      obtain ⟨rfl, rfl⟩ := hp9
      refine W.eq (g2 := F0 m 53 ls []) rfl ?_
      refine mw_vret hC hM hr hlk dX3_refer_53 (Nat.le_of_ble_eq_true rfl) (Nat.le_of_ble_eq_true rfl) ⟨_, rfl, ?_⟩
      exact ⟨rfl, hlo, none, Or.inl ⟨rfl, hf⟩, by first | exact Or.inl c15 | exact Or.inr (fun q => nomatch q), hw, rfl⟩
    · refine lv_aloadN hx hb dX3_refer_18 (lv_at hl 0 rfl) ?_
      refine lv_ifnonnullN hx hb dX3_refer_20 ?_
      refine mw_throw (cls := "java/lang/IllegalArgumentException") (names := ["java/lang/RuntimeException", "java/lang/Exception"]) (ik := 50) (is := 194) (ic := 54) hC hM htab hlk hl0 sx_194 (by decide +kernel) (by decide +kernel) mb_325 mb_47 tg_54 tn_54 to_54 hl.1 dX3_refer_23 dX3_refer_26 dX3_refer_27 dX3_refer_29 dX3_refer_32 (Nat.le_of_ble_eq_true rfl) (Nat.le_of_ble_eq_true rfl) (Nat.le_of_ble_eq_true rfl) (Nat.le_of_ble_eq_true rfl) (Nat.le_of_ble_eq_true rfl) (Nat.le_of_ble_eq_true rfl) ⟨_, rfl, ?_⟩
      exact ⟨rfl, Or.inr ⟨hlo, Or.inl ⟨rfl, c15, hf⟩⟩⟩
  · skip
    refine W.eq (g2 := F0 m 11 ls [.ref b]) rfl ?_
    refine lv_astore (lv' := [(5, .ref b), (0, .ref x), (1, .ref t), (2, .ref a), (3, .ref q), (4, .int k)]) hx hb dX3_refer_11 hl (by decide) rfl (fun ls hl => ?_)
    refine lv_iload hx hb dX3_refer_13 (lv_at hl 5 rfl) ?_
    refine lv_if_eq (tgt := 33) hx hb dX3_refer_15 (by decide) (fun c15 => ?_) (fun c15 => ?_)
    · refine lv_aload_n hx hb dX3_refer_33 rfl (lv_at hl 1 rfl) ?_
      refine lv_aload_n hx hb dX3_refer_34 rfl (lv_at hl 2 rfl) ?_
      refine lv_iconst (v := 3) hx hb dX3_refer_35 (by decide) ?_
      refine mw_callV (As := [.ref t, .int 3]) (rest := []) (n := 2) (C := RX3) (T := TX3) (N := 11) (ci := 3) hC hM (c_X3_writeRecord l hl0 D cs h H.size x aR aO aH aT rt ta hK t ht 3) (cwV 2 hC.1.2.2.2.2 (tb_V mb_282 mb_283 mb_8 mb_36 mb_284) rfl rfl rfl (by decide +kernel) ⟨Nat.le_of_ble_eq_true rfl, Nat.le_of_ble_eq_true rfl⟩) (th_at (h := h) kx0) rfl rfl rfl hl.1 (Nat.le_of_ble_eq_true rfl) dX3_refer_36 ⟨Nat.le_of_ble_eq_true rfl, Nat.le_of_ble_eq_true rfl⟩ (fun E ce q9 g9 H locs hp9 hM hce hcv hcl => ?_) (fun v9 g9 H locs hp9 hM => ?_)
      · obtain ⟨h9, rfl, rfl, rfl, hw⟩ := hp9
        exact mw_out hM htab hlk hce hcv hcl (Nat.le_of_ble_eq_true rfl) (Nat.le_of_ble_eq_true rfl) ⟨_, rfl, rfl, Or.inr ⟨hlo, Or.inr ⟨some b, Or.inr ⟨b, rfl, hf⟩, by first | exact Or.inl c15 | exact Or.inr (fun q => nomatch q), rfl, hw⟩⟩⟩
      obtain ⟨h36, rfl, hp9⟩ := hp9
      obtain ⟨rfl, rfl, hw⟩ := hp9
      refine W.eq (g2 := F0 m 39 ls []) rfl ?_
      refine lv_aload_n hx hb dX3_refer_39 rfl (lv_at hl 3 rfl) ?_
      refine lv_aload_n hx hb dX3_refer_40 rfl (lv_at hl 2 rfl) ?_
      refine gi_1_0 (index := 43) hC hM ht mb_117 dX3_refer_41 ?_
      rw [show (th_ui h t 1 (h.2.1 t 1 + 3)).2.1 t 0 = h.2.1 t 0 from th_ui_k _ _ _ (by decide)]
      refine pu_2_2 (index := 71) (v := h.2.1 t 0) hC hM ha mb_100 dX3_refer_44 (fun H locs hM => ?_)
      refine lv_aload_n hx hb dX3_refer_47 rfl (lv_at hl 4 rfl) ?_
      refine lv_aload hx hb dX3_refer_48 (lv_at hl 0 rfl) ?_
      refine mw_callV (As := [.ref b]) (rest := []) (n := 1) (C := RX1) (T := TX1) (N := 7) (ci := 1) hC hM (c_X1_putReference l hl0 D cs (th_ui (th_ui h t 1 (h.2.1 t 1 + 3)) a 2 (h.2.1 t 0)) H.size q hq (((hK.uk ht (by decide)).uk ha (by decide)).pl hq).1 (some b)) (cwV 1 hC.1.2.2.2.2 (tb_V mb_390 mb_391 mb_392 mb_38 mb_393) rfl rfl rfl (by decide +kernel) ⟨Nat.le_of_ble_eq_true rfl, Nat.le_of_ble_eq_true rfl⟩) (th_at (h := th_ui (th_ui h t 1 (h.2.1 t 1 + 3)) a 2 (h.2.1 t 0)) hq) rfl rfl rfl hl.1 (Nat.le_of_ble_eq_true rfl) dX3_refer_50 ⟨Nat.le_of_ble_eq_true rfl, Nat.le_of_ble_eq_true rfl⟩ (fun E ce q9 g9 H locs hp9 hM hce hcv hcl => ?_) (fun v9 g9 H locs hp9 hM => ?_)
      · exact (hp9.elim fun _ h9 => h9.2.elim)
      obtain ⟨h50, rfl, hp9⟩ := hp9
      obtain ⟨rfl, rfl⟩ := hp9
      refine W.eq (g2 := F0 m 53 ls []) rfl ?_
      refine mw_vret hC hM hr hlk dX3_refer_53 (Nat.le_of_ble_eq_true rfl) (Nat.le_of_ble_eq_true rfl) ⟨_, rfl, ?_⟩
      exact ⟨rfl, hlo, some b, Or.inr ⟨b, rfl, hf⟩, by first | exact Or.inl c15 | exact Or.inr (fun q => nomatch q), hw, rfl⟩
    · refine lv_aload hx hb dX3_refer_18 (lv_at hl 0 rfl) ?_
      refine lv_ifnonnull (tgt := 33) hx hb dX3_refer_20 (by decide) ?_
      refine lv_aload_n hx hb dX3_refer_33 rfl (lv_at hl 1 rfl) ?_
      refine lv_aload_n hx hb dX3_refer_34 rfl (lv_at hl 2 rfl) ?_
      refine lv_iconst (v := 3) hx hb dX3_refer_35 (by decide) ?_
      refine mw_callV (As := [.ref t, .int 3]) (rest := []) (n := 2) (C := RX3) (T := TX3) (N := 11) (ci := 3) hC hM (c_X3_writeRecord l hl0 D cs h H.size x aR aO aH aT rt ta hK t ht 3) (cwV 2 hC.1.2.2.2.2 (tb_V mb_282 mb_283 mb_8 mb_36 mb_284) rfl rfl rfl (by decide +kernel) ⟨Nat.le_of_ble_eq_true rfl, Nat.le_of_ble_eq_true rfl⟩) (th_at (h := h) kx0) rfl rfl rfl hl.1 (Nat.le_of_ble_eq_true rfl) dX3_refer_36 ⟨Nat.le_of_ble_eq_true rfl, Nat.le_of_ble_eq_true rfl⟩ (fun E ce q9 g9 H locs hp9 hM hce hcv hcl => ?_) (fun v9 g9 H locs hp9 hM => ?_)
      · obtain ⟨h9, rfl, rfl, rfl, hw⟩ := hp9
        exact mw_out hM htab hlk hce hcv hcl (Nat.le_of_ble_eq_true rfl) (Nat.le_of_ble_eq_true rfl) ⟨_, rfl, rfl, Or.inr ⟨hlo, Or.inr ⟨some b, Or.inr ⟨b, rfl, hf⟩, by first | exact Or.inl c15 | exact Or.inr (fun q => nomatch q), rfl, hw⟩⟩⟩
      obtain ⟨h36, rfl, hp9⟩ := hp9
      obtain ⟨rfl, rfl, hw⟩ := hp9
      refine W.eq (g2 := F0 m 39 ls []) rfl ?_
      refine lv_aload_n hx hb dX3_refer_39 rfl (lv_at hl 3 rfl) ?_
      refine lv_aload_n hx hb dX3_refer_40 rfl (lv_at hl 2 rfl) ?_
      refine gi_1_0 (index := 43) hC hM ht mb_117 dX3_refer_41 ?_
      rw [show (th_ui h t 1 (h.2.1 t 1 + 3)).2.1 t 0 = h.2.1 t 0 from th_ui_k _ _ _ (by decide)]
      refine pu_2_2 (index := 71) (v := h.2.1 t 0) hC hM ha mb_100 dX3_refer_44 (fun H locs hM => ?_)
      refine lv_aload_n hx hb dX3_refer_47 rfl (lv_at hl 4 rfl) ?_
      refine lv_aload hx hb dX3_refer_48 (lv_at hl 0 rfl) ?_
      refine mw_callV (As := [.ref b]) (rest := []) (n := 1) (C := RX1) (T := TX1) (N := 7) (ci := 1) hC hM (c_X1_putReference l hl0 D cs (th_ui (th_ui h t 1 (h.2.1 t 1 + 3)) a 2 (h.2.1 t 0)) H.size q hq (((hK.uk ht (by decide)).uk ha (by decide)).pl hq).1 (some b)) (cwV 1 hC.1.2.2.2.2 (tb_V mb_390 mb_391 mb_392 mb_38 mb_393) rfl rfl rfl (by decide +kernel) ⟨Nat.le_of_ble_eq_true rfl, Nat.le_of_ble_eq_true rfl⟩) (th_at (h := th_ui (th_ui h t 1 (h.2.1 t 1 + 3)) a 2 (h.2.1 t 0)) hq) rfl rfl rfl hl.1 (Nat.le_of_ble_eq_true rfl) dX3_refer_50 ⟨Nat.le_of_ble_eq_true rfl, Nat.le_of_ble_eq_true rfl⟩ (fun E ce q9 g9 H locs hp9 hM hce hcv hcl => ?_) (fun v9 g9 H locs hp9 hM => ?_)
      · exact (hp9.elim fun _ h9 => h9.2.elim)
      obtain ⟨h50, rfl, hp9⟩ := hp9
      obtain ⟨rfl, rfl⟩ := hp9
      refine W.eq (g2 := F0 m 53 ls []) rfl ?_
      refine mw_vret hC hM hr hlk dX3_refer_53 (Nat.le_of_ble_eq_true rfl) (Nat.le_of_ble_eq_true rfl) ⟨_, rfl, ?_⟩
      exact ⟨rfl, hlo, some b, Or.inr ⟨b, rfl, hf⟩, by first | exact Or.inl c15 | exact Or.inr (fun q => nomatch q), hw, rfl⟩

-- the loop at 38 of StableHeap.end
set_option maxHeartbeats 4000000 in
set_option maxRecDepth 100000 in
theorem lo_X3_end_38 {l : Launch} (hl0 : l.stackTraces = false) {D : va_G} {cs : Nat → ClassId} {h : th_S} (x aR aO aH aT : Nat) (rt ta : Nat → Nat) (hK : sh_K x aR aO aH aT rt ta h) (n : Nat) (hO : sh_O x aO n h) (t : Nat) (ht : h.1 t = some (1, 0)) (z : Int32) (g4 : th_S) (hg4 : en_h z (h.2.1 t 0) rt h 4 = g4) (c4 : Int32) (hc4 : en_c z (h.2.1 t 0) rt 0 h 4 = c4) {p : Program} {e : Env} {s : State} {m : MethodId} {below : List Frame} {meth : Method} {c : Code} (hC : th_C D cs h p m c cX3_end 5 s [.ref x, .ref t, .int z] RX3) (hr : meth.sig.returnType = some .int) (hlk : meth.locks = false) (htab : ∀ x ∈ c.exceptionTable.toList, False) : ∀ (q : Nat) (i : Nat) (H : Heap) (locs : List Loc) (ls : Array Slot), (i + q = n) → th_H D cs h s (en_h z (h.2.1 t 0) (vw_ob aO h) (g4) i) H locs → lv_has ls 5 [(0, .ref x), (1, .ref t), (2, .int z), (3, .int (en_c z (h.2.1 t 0) (vw_ob aO h) (c4) (g4) i)), (4, .int (nI i))] → W p l e { frames := 2, cells := 0, slots := 0, locals := 43 } s m [.ref x, .ref t, .int z].toArray below meth c H locs 0 0 (th_Q below D cs h s [.ref x, .ref t, .int z] (fun v h' => v = some (.int (sh_ec aO n rt z t h)) ∧ h' = sh_eh aO n rt z t h) (fun E h' => False) 0 0) (F0 m 38 ls []) := by
  have hx := hC.1.1
  have hb := hC.1.2.1
  intro q
  induction q with
  | zero =>
    intro i H locs ls hin hM hl
    have kr : ∀ j, j < 4 → h.1 (rt j) = some (2, 0) := fun j hj => hK.krt hj
    have hK4 : sh_K x aR aO aH aT rt ta g4 := by rw [← hg4]; exact en_h_K hK z (h.2.1 t 0) rt 4 kr
    have k4 : g4.1 = h.1 := by rw [← hg4]; exact en_h_k z (h.2.1 t 0) rt h 4
    have n4 : ∀ (b : Nat) (t9 : Nat × Nat), h.1 b = some t9 → t9 ≠ (3, 0) → g4.2.2 b = h.2.2 b ∧ (t9 ≠ (2, 0) → g4.2.1 b = h.2.1 b) := fun b t9 hb9 h9 => by rw [← hg4]; exact en_h_n hK z (h.2.1 t 0) rt hb9 h9 4 kr
    have ko : ∀ j, j < i → (g4).1 (vw_ob aO h j) = some (2, 0) := fun j hj => by rw [k4]; exact (hO.ob (by omega)).2
    have hKi : sh_K x aR aO aH aT rt ta (en_h z (h.2.1 t 0) (vw_ob aO h) (g4) i) := en_h_K hK4 z (h.2.1 t 0) (vw_ob aO h) i ko
    have ki : (en_h z (h.2.1 t 0) (vw_ob aO h) (g4) i).1 = h.1 := (en_h_k z (h.2.1 t 0) (vw_ob aO h) (g4) i).trans k4
    have kti : (en_h z (h.2.1 t 0) (vw_ob aO h) (g4) i).1 t = some (1, 0) := by rw [ki]; exact ht
    have nt : (en_h z (h.2.1 t 0) (vw_ob aO h) (g4) i).2.1 t 0 = h.2.1 t 0 := by rw [(en_h_n hK4 z (h.2.1 t 0) (vw_ob aO h) (b := t) (t := (1, 0)) (by rw [k4]; exact ht) (by decide) i ko).2 (by decide), (n4 t _ ht (by decide)).2 (by decide)]
    have nx : (en_h z (h.2.1 t 0) (vw_ob aO h) (g4) i).2.1 x 4 = nI n := by rw [(en_h_n hK4 z (h.2.1 t 0) (vw_ob aO h) (b := x) (t := (0, 0)) (by rw [k4]; exact hK.kx) (by decide) i ko).2 (by decide), (n4 x _ hK.kx (by decide)).2 (by decide)]; exact hO.2.1
    have no : ∀ j, (en_h z (h.2.1 t 0) (vw_ob aO h) (g4) i).2.2 aO j = h.2.2 aO j := fun j => by rw [(en_h_n hK4 z (h.2.1 t 0) (vw_ob aO h) (b := aO) (t := (4, 80)) (by rw [k4]; exact hK.kO) (by decide) i ko).1, (n4 aO _ hK.kO (by decide)).1]
    refine lv_iload hx hb dX3_end_38 (lv_at hl 4 rfl) ?_
    refine lv_aload_n hx hb dX3_end_40 rfl (lv_at hl 0 rfl) ?_
    refine gi_0_4 (index := 60) hC hM hKi.kx mb_128 dX3_end_41 ?_
    rw [show (en_h z (h.2.1 t 0) (vw_ob aO h) (g4) i).2.1 x 4 = nI n from nx]
    refine lv_icmp_ge (tgt := 71) hx hb dX3_end_44 (by decide) (fun c44 => ?_) (fun c44 => ?_)
    · refine lv_aload_n hx hb dX3_end_71 rfl (lv_at hl 1 rfl) ?_
      refine lv_iconst (v := 0) hx hb dX3_end_72 (by decide) ?_
      refine pu_1_0 (index := 43) (v := 0) hC hM kti mb_117 dX3_end_73 (fun H locs hM => ?_)
      refine lv_aload_n hx hb dX3_end_76 rfl (lv_at hl 1 rfl) ?_
      refine lv_iconst (v := 0) hx hb dX3_end_77 (by decide) ?_
      refine pu_1_1 (index := 134) (v := 0) hC hM kti mb_118 dX3_end_78 (fun H locs hM => ?_)
      refine lv_iload_n hx hb dX3_end_81 rfl (lv_at hl 3 rfl) ?_
      refine mw_iret hC hM hr hlk dX3_end_82 (Nat.le_of_ble_eq_true rfl) (Nat.le_of_ble_eq_true rfl) ⟨_, rfl, ?_⟩
      exact ⟨by rw [sh_ec, hg4, hc4, show n = i by omega], by rw [sh_eh, hg4, show n = i by omega]⟩
    · exact absurd (nI_le (show n ≤ i by omega) (by have := hO.1; omega)) c44
  | succ q ih =>
    intro i H locs ls hin hM hl
    have kr : ∀ j, j < 4 → h.1 (rt j) = some (2, 0) := fun j hj => hK.krt hj
    have hK4 : sh_K x aR aO aH aT rt ta g4 := by rw [← hg4]; exact en_h_K hK z (h.2.1 t 0) rt 4 kr
    have k4 : g4.1 = h.1 := by rw [← hg4]; exact en_h_k z (h.2.1 t 0) rt h 4
    have n4 : ∀ (b : Nat) (t9 : Nat × Nat), h.1 b = some t9 → t9 ≠ (3, 0) → g4.2.2 b = h.2.2 b ∧ (t9 ≠ (2, 0) → g4.2.1 b = h.2.1 b) := fun b t9 hb9 h9 => by rw [← hg4]; exact en_h_n hK z (h.2.1 t 0) rt hb9 h9 4 kr
    have ko : ∀ j, j < i → (g4).1 (vw_ob aO h j) = some (2, 0) := fun j hj => by rw [k4]; exact (hO.ob (by omega)).2
    have hKi : sh_K x aR aO aH aT rt ta (en_h z (h.2.1 t 0) (vw_ob aO h) (g4) i) := en_h_K hK4 z (h.2.1 t 0) (vw_ob aO h) i ko
    have ki : (en_h z (h.2.1 t 0) (vw_ob aO h) (g4) i).1 = h.1 := (en_h_k z (h.2.1 t 0) (vw_ob aO h) (g4) i).trans k4
    have kti : (en_h z (h.2.1 t 0) (vw_ob aO h) (g4) i).1 t = some (1, 0) := by rw [ki]; exact ht
    have nt : (en_h z (h.2.1 t 0) (vw_ob aO h) (g4) i).2.1 t 0 = h.2.1 t 0 := by rw [(en_h_n hK4 z (h.2.1 t 0) (vw_ob aO h) (b := t) (t := (1, 0)) (by rw [k4]; exact ht) (by decide) i ko).2 (by decide), (n4 t _ ht (by decide)).2 (by decide)]
    have nx : (en_h z (h.2.1 t 0) (vw_ob aO h) (g4) i).2.1 x 4 = nI n := by rw [(en_h_n hK4 z (h.2.1 t 0) (vw_ob aO h) (b := x) (t := (0, 0)) (by rw [k4]; exact hK.kx) (by decide) i ko).2 (by decide), (n4 x _ hK.kx (by decide)).2 (by decide)]; exact hO.2.1
    have no : ∀ j, (en_h z (h.2.1 t 0) (vw_ob aO h) (g4) i).2.2 aO j = h.2.2 aO j := fun j => by rw [(en_h_n hK4 z (h.2.1 t 0) (vw_ob aO h) (b := aO) (t := (4, 80)) (by rw [k4]; exact hK.kO) (by decide) i ko).1, (n4 aO _ hK.kO (by decide)).1]
    have kb : (en_h z (h.2.1 t 0) (vw_ob aO h) (g4) i).1 (vw_ob aO h i) = some (2, 0) := by rw [ki]; exact (hO.ob (by omega)).2
    refine lv_iload hx hb dX3_end_38 (lv_at hl 4 rfl) ?_
    refine lv_aload_n hx hb dX3_end_40 rfl (lv_at hl 0 rfl) ?_
    refine gi_0_4 (index := 60) hC hM hKi.kx mb_128 dX3_end_41 ?_
    rw [show (en_h z (h.2.1 t 0) (vw_ob aO h) (g4) i).2.1 x 4 = nI n from nx]
    refine lv_icmp_ge (tgt := 71) hx hb dX3_end_44 (by decide) (fun c44 => ?_) (fun c44 => ?_)
    · exact absurd c44 (nI_ge (by omega) (by have := hO.1; omega))
    · refine lv_iload_n hx hb dX3_end_47 rfl (lv_at hl 3 rfl) ?_
      refine lv_aload_n hx hb dX3_end_48 rfl (lv_at hl 0 rfl) ?_
      refine gr_0_1 (index := 18) hC hM hKi.kx mb_125 dX3_end_49 hKi.xO ?_
      refine lv_iload hx hb dX3_end_52 (lv_at hl 4 rfl) ?_
      refine al_4 (i := i) hC hM hKi.kO (rfl) (by have := hO.1; omega) (by first | decide | omega) ((no i).trans (hO.ob (by omega)).1) dX3_end_54 ?_
      refine lv_aload_n hx hb dX3_end_55 rfl (lv_at hl 1 rfl) ?_
      refine gi_1_0 (index := 43) hC hM kti mb_117 dX3_end_56 ?_
      rw [show (en_h z (h.2.1 t 0) (vw_ob aO h) (g4) i).2.1 t 0 = h.2.1 t 0 from nt]
      refine lv_iload_n hx hb dX3_end_59 rfl (lv_at hl 2 rfl) ?_
      refine mw_callV (As := [.int (h.2.1 t 0), .int z]) (rest := [.int (en_c z (h.2.1 t 0) (vw_ob aO h) (c4) (g4) i)]) (n := 2) (C := RX0) (T := TX0) (N := 4) (ci := 0) hC hM (c_X0_unlock l hl0 D cs (en_h z (h.2.1 t 0) (vw_ob aO h) (g4) i) H.size x aR aO aH aT rt ta hKi (vw_ob aO h i) kb (h.2.1 t 0) z) (cwV 2 hC.1.2.2.2.2 (tb_V mb_176 mb_177 mb_178 mb_37 mb_179) rfl rfl rfl (by decide +kernel) ⟨Nat.le_of_ble_eq_true rfl, Nat.le_of_ble_eq_true rfl⟩) (th_at (h := en_h z (h.2.1 t 0) (vw_ob aO h) (g4) i) kb) rfl rfl rfl hl.1 (Nat.le_of_ble_eq_true rfl) dX3_end_60 ⟨Nat.le_of_ble_eq_true rfl, Nat.le_of_ble_eq_true rfl⟩ (fun E ce q9 g9 H locs hp9 hM hce hcv hcl => ?_) (fun v9 g9 H locs hp9 hM => ?_)
      · exact (hp9.elim fun _ h9 => h9.2.elim)
      obtain ⟨h60, rfl, hp9⟩ := hp9
      obtain ⟨rfl, rfl⟩ := hp9
      refine W.eq (g2 := F0 m 63 ls [.int (ul_c (h.2.1 t 0) (en_h z (h.2.1 t 0) (vw_ob aO h) (g4) i) (vw_ob aO h i)), .int (en_c z (h.2.1 t 0) (vw_ob aO h) (c4) (g4) i)]) rfl ?_
      refine lv_iadd hx hb dX3_end_63 ?_
      refine lv_istore_n (lv' := [(3, .int ((en_c z (h.2.1 t 0) (vw_ob aO h) (c4) (g4) i) + (ul_c (h.2.1 t 0) (en_h z (h.2.1 t 0) (vw_ob aO h) (g4) i) (vw_ob aO h i)))), (0, .ref x), (1, .ref t), (2, .int z), (4, .int (nI i))]) hx hb dX3_end_64 rfl hl (by decide) rfl (fun ls hl => ?_)
      refine lv_iinc (v := nI (i + 1)) (lv' := [(4, .int (nI (i + 1))), (3, .int ((en_c z (h.2.1 t 0) (vw_ob aO h) (c4) (g4) i) + (ul_c (h.2.1 t 0) (en_h z (h.2.1 t 0) (vw_ob aO h) (g4) i) (vw_ob aO h i)))), (0, .ref x), (1, .ref t), (2, .int z)]) hx hb dX3_end_65 hl (k := 4) rfl (by exact nI_1 i) (by first | decide | omega) rfl (fun ls hl => ?_)
      refine lv_goto (tgt := 38) hx hb dX3_end_68 (by decide) ?_
      exact ih (i + 1) H locs ls (by omega) hM (lv_sub hl [2, 3, 4, 1, 0] rfl)

-- the loop at 5 of StableHeap.end
set_option maxHeartbeats 4000000 in
set_option maxRecDepth 100000 in
theorem lo_X3_end_5 {l : Launch} (hl0 : l.stackTraces = false) {D : va_G} {cs : Nat → ClassId} {h : th_S} (x aR aO aH aT : Nat) (rt ta : Nat → Nat) (hK : sh_K x aR aO aH aT rt ta h) (n : Nat) (hO : sh_O x aO n h) (t : Nat) (ht : h.1 t = some (1, 0)) (z : Int32) {p : Program} {e : Env} {s : State} {m : MethodId} {below : List Frame} {meth : Method} {c : Code} (hC : th_C D cs h p m c cX3_end 5 s [.ref x, .ref t, .int z] RX3) (hr : meth.sig.returnType = some .int) (hlk : meth.locks = false) (htab : ∀ x ∈ c.exceptionTable.toList, False) : ∀ (q : Nat) (i : Nat) (H : Heap) (locs : List Loc) (ls : Array Slot), (i + q = 4) → th_H D cs h s (en_h z (h.2.1 t 0) rt h i) H locs → lv_has ls 5 [(0, .ref x), (1, .ref t), (2, .int z), (3, .int (en_c z (h.2.1 t 0) rt 0 h i)), (4, .int (nI i))] → W p l e { frames := 2, cells := 0, slots := 0, locals := 43 } s m [.ref x, .ref t, .int z].toArray below meth c H locs 0 0 (th_Q below D cs h s [.ref x, .ref t, .int z] (fun v h' => v = some (.int (sh_ec aO n rt z t h)) ∧ h' = sh_eh aO n rt z t h) (fun E h' => False) 0 0) (F0 m 5 ls []) := by
  have hx := hC.1.1
  have hb := hC.1.2.1
  intro q
  induction q with
  | zero =>
    intro i H locs ls hin hM hl
    have hi4 : i = 4 := by omega
    refine lv_iload hx hb dX3_end_5 (lv_at hl 4 rfl) ?_
    refine lv_iconst (v := 4) hx hb dX3_end_7 (by decide) ?_
    refine lv_icmp_ge (tgt := 35) hx hb dX3_end_8 (by decide) (fun c8 => ?_) (fun c8 => ?_)
    · refine lv_iconst (v := 0) hx hb dX3_end_35 (by decide) ?_
      refine lv_istore (lv' := [(4, .int 0), (0, .ref x), (1, .ref t), (2, .int z), (3, .int (en_c z (h.2.1 t 0) rt 0 h i))]) hx hb dX3_end_36 hl (by decide) rfl (fun ls hl => ?_)
      exact lo_X3_end_38 hl0 x aR aO aH aT rt ta hK n hO t ht z (en_h z (h.2.1 t 0) rt h i) (by rw [hi4]) (en_c z (h.2.1 t 0) rt 0 h i) (by rw [hi4]) hC hr hlk htab n 0 _ _ ls (by omega) hM (lv_sub hl [1, 2, 3, 4, 0] rfl)
    · exact absurd (nI_le (a := 4) (show 4 ≤ i by omega) (by omega)) c8
  | succ q ih =>
    intro i H locs ls hin hM hl
    have kr : ∀ j, j < i → h.1 (rt j) = some (2, 0) := fun j hj => hK.krt (by omega)
    have hKi : sh_K x aR aO aH aT rt ta (en_h z (h.2.1 t 0) rt h i) := en_h_K hK z (h.2.1 t 0) rt i kr
    have ki : (en_h z (h.2.1 t 0) rt h i).1 = h.1 := en_h_k z (h.2.1 t 0) rt h i
    have kti : (en_h z (h.2.1 t 0) rt h i).1 t = some (1, 0) := by rw [ki]; exact ht
    have nt : (en_h z (h.2.1 t 0) rt h i).2.1 t 0 = h.2.1 t 0 := by rw [(en_h_n hK z (h.2.1 t 0) rt ht (by decide) i kr).2 (by decide)]
    refine lv_iload hx hb dX3_end_5 (lv_at hl 4 rfl) ?_
    refine lv_iconst (v := 4) hx hb dX3_end_7 (by decide) ?_
    refine lv_icmp_ge (tgt := 35) hx hb dX3_end_8 (by decide) (fun c8 => ?_) (fun c8 => ?_)
    · exact absurd c8 (nI_ge (b := 4) (by omega) (by decide))
    · refine lv_iload_n hx hb dX3_end_11 rfl (lv_at hl 3 rfl) ?_
      refine lv_aload_n hx hb dX3_end_12 rfl (lv_at hl 0 rfl) ?_
      refine gr_0_0 (index := 11) hC hM hKi.kx mb_124 dX3_end_13 hKi.xR ?_
      refine lv_iload hx hb dX3_end_16 (lv_at hl 4 rfl) ?_
      refine al_4 (i := i) hC hM hKi.kR (rfl) (by omega) (by first | decide | omega) (hKi.rr (by omega)) dX3_end_18 ?_
      refine lv_aload_n hx hb dX3_end_19 rfl (lv_at hl 1 rfl) ?_
      refine gi_1_0 (index := 43) hC hM kti mb_117 dX3_end_20 ?_
      rw [show (en_h z (h.2.1 t 0) rt h i).2.1 t 0 = h.2.1 t 0 from nt]
      refine lv_iload_n hx hb dX3_end_23 rfl (lv_at hl 2 rfl) ?_
      refine mw_callV (As := [.int (h.2.1 t 0), .int z]) (rest := [.int (en_c z (h.2.1 t 0) rt 0 h i)]) (n := 2) (C := RX0) (T := TX0) (N := 4) (ci := 0) hC hM (c_X0_unlock l hl0 D cs (en_h z (h.2.1 t 0) rt h i) H.size x aR aO aH aT rt ta hKi (rt i) (hKi.krt (by omega)) (h.2.1 t 0) z) (cwV 2 hC.1.2.2.2.2 (tb_V mb_176 mb_177 mb_178 mb_37 mb_179) rfl rfl rfl (by decide +kernel) ⟨Nat.le_of_ble_eq_true rfl, Nat.le_of_ble_eq_true rfl⟩) (th_at (h := en_h z (h.2.1 t 0) rt h i) (hKi.krt (by omega))) rfl rfl rfl hl.1 (Nat.le_of_ble_eq_true rfl) dX3_end_24 ⟨Nat.le_of_ble_eq_true rfl, Nat.le_of_ble_eq_true rfl⟩ (fun E ce q9 g9 H locs hp9 hM hce hcv hcl => ?_) (fun v9 g9 H locs hp9 hM => ?_)
      · exact (hp9.elim fun _ h9 => h9.2.elim)
      obtain ⟨h24, rfl, hp9⟩ := hp9
      obtain ⟨rfl, rfl⟩ := hp9
      refine W.eq (g2 := F0 m 27 ls [.int (ul_c (h.2.1 t 0) (en_h z (h.2.1 t 0) rt h i) (rt i)), .int (en_c z (h.2.1 t 0) rt 0 h i)]) rfl ?_
      refine lv_iadd hx hb dX3_end_27 ?_
      refine lv_istore_n (lv' := [(3, .int ((en_c z (h.2.1 t 0) rt 0 h i) + (ul_c (h.2.1 t 0) (en_h z (h.2.1 t 0) rt h i) (rt i)))), (0, .ref x), (1, .ref t), (2, .int z), (4, .int (nI i))]) hx hb dX3_end_28 rfl hl (by decide) rfl (fun ls hl => ?_)
      refine lv_iinc (v := nI (i + 1)) (lv' := [(4, .int (nI (i + 1))), (3, .int ((en_c z (h.2.1 t 0) rt 0 h i) + (ul_c (h.2.1 t 0) (en_h z (h.2.1 t 0) rt h i) (rt i)))), (0, .ref x), (1, .ref t), (2, .int z)]) hx hb dX3_end_29 hl (k := 4) rfl (by exact nI_1 i) (by first | decide | omega) rfl (fun ls hl => ?_)
      refine lv_goto (tgt := 5) hx hb dX3_end_32 (by decide) ?_
      exact ih (i + 1) H locs ls (by omega) hM (lv_sub hl [2, 3, 4, 1, 0] rfl)

-- StableHeap.end
set_option maxHeartbeats 4000000 in
set_option maxRecDepth 100000 in
theorem c_X3_end (l : Launch) (hl0 : l.stackTraces = false) (D : va_G) (cs : Nat → ClassId) (h : th_S) (sz : Nat) (x aR aO aH aT : Nat) (rt ta : Nat → Nat) (hK : sh_K x aR aO aH aT rt ta h) (n : Nat) (hO : sh_O x aO n h) (t : Nat) (ht : h.1 t = some (1, 0)) (z : Int32) : th_M l yX3_end wsX3_end { frames := 2, cells := 0, slots := 0, locals := 43 } D cs h sz [.ref x, .ref t, .int z] (fun v h' => v = some (.int (sh_ec aO n rt z t h)) ∧ h' = sh_eh aO n rt z t h) (fun E h' => False) := by
  refine mw_ofW (cc := cX3_end) (maxL := 5) (ret := (some .int)) (by decide) rfl (fun w h => List.mem_cons_of_mem _ h) th_cd (Nat.le_of_ble_eq_true rfl) ?_
  intro p e s m below meth c hsz hC hr hlk hnm htab hM ls hl
  have hC : th_C D cs h p m c cX3_end 5 s [.ref x, .ref t, .int z] RX3 := hC
  have hx := hC.1.1
  have hb := hC.1.2.1
  have kx0 : h.1 x = some (0, 0) := hK.kx
  have hl : lv_has ls 5 [(0, .ref x), (1, .ref t), (2, .int z)] := hl
  refine lv_iconst (v := 0) hx hb dX3_end_0 (by decide) ?_
  refine lv_istore_n (lv' := [(3, .int 0), (0, .ref x), (1, .ref t), (2, .int z)]) hx hb dX3_end_1 rfl hl (by decide) rfl (fun ls hl => ?_)
  refine lv_iconst (v := 0) hx hb dX3_end_2 (by decide) ?_
  refine lv_istore (lv' := [(4, .int 0), (3, .int 0), (0, .ref x), (1, .ref t), (2, .int z)]) hx hb dX3_end_3 hl (by decide) rfl (fun ls hl => ?_)
  exact lo_X3_end_5 hl0 x aR aO aH aT rt ta hK n hO t ht z hC hr hlk htab 4 0 _ _ ls (by omega) hM (lv_sub hl [2, 3, 4, 1, 0] rfl)

-- StableHeap.abort
set_option maxHeartbeats 4000000 in
set_option maxRecDepth 100000 in
theorem c_X3_abort (l : Launch) (hl0 : l.stackTraces = false) (D : va_G) (cs : Nat → ClassId) (h : th_S) (sz : Nat) (x aR aO aH aT : Nat) (rt ta : Nat → Nat) (hK : sh_K x aR aO aH aT rt ta h) (n : Nat) (hO : sh_O x aO n h) (k : Int32) : th_M l yX3_abort wsX3_abort { frames := 7, cells := 1, slots := 6, locals := 112 } D cs h sz [.ref x, .int k] (fun v h' => ∃ i, sh_tx ta h k i ∧ v = some (.int (sh_ec aO n rt 0 (ta i) h)) ∧ h' = sh_eh aO n rt 0 (ta i) h) (fun E h' => E = "java/util/NoSuchElementException" ∧ h = h' ∧ sh_nt ta h k) := by
  refine mw_ofW (cc := cX3_abort) (maxL := 2) (ret := (some .int)) (by decide) rfl (fun w h => List.mem_cons_of_mem _ h) th_cd (Nat.le_of_ble_eq_true rfl) ?_
  intro p e s m below meth c hsz hC hr hlk hnm htab hM ls hl
  have hC : th_C D cs h p m c cX3_abort 2 s [.ref x, .int k] RX3 := hC
  have hx := hC.1.1
  have hb := hC.1.2.1
  have kx0 : h.1 x = some (0, 0) := hK.kx
  have hl : lv_has ls 2 [(0, .ref x), (1, .int k)] := hl
  refine lv_aload_n hx hb dX3_abort_0 rfl (lv_at hl 0 rfl) ?_
  refine lv_aload_n hx hb dX3_abort_1 rfl (lv_at hl 0 rfl) ?_
  refine lv_iload_n hx hb dX3_abort_2 rfl (lv_at hl 1 rfl) ?_
  refine mw_callV (As := [.int k]) (rest := [.ref x]) (n := 1) (C := RX3) (T := TX3) (N := 11) (ci := 3) hC hM (c_X3_activeTransaction l hl0 D cs h s.heap.size x aR aO aH aT rt ta hK k) (cwV 1 hC.1.2.2.2.2 (tb_V mb_308 mb_309 mb_9 mb_36 mb_310) rfl rfl rfl (by decide +kernel) ⟨Nat.le_of_ble_eq_true rfl, Nat.le_of_ble_eq_true rfl⟩) (th_at (h := h) kx0) rfl rfl rfl hl.1 (Nat.le_of_ble_eq_true rfl) dX3_abort_3 ⟨Nat.le_of_ble_eq_true rfl, Nat.le_of_ble_eq_true rfl⟩ (fun E ce q9 g9 H locs hp9 hM hce hcv hcl => ?_) (fun v9 g9 H locs hp9 hM => ?_)
  · obtain ⟨h9, rfl, rfl, rfl, hf⟩ := hp9
    exact mw_out hM htab hlk hce hcv hcl (Nat.le_of_ble_eq_true rfl) (Nat.le_of_ble_eq_true rfl) ⟨_, rfl, rfl, rfl, hf⟩
  obtain ⟨h3, rfl, hp9⟩ := hp9
  obtain ⟨rfl, i, hi, rfl⟩ := hp9
  have kti : h.1 (ta i) = some (1, 0) := hK.kta hi.1
  refine W.eq (g2 := F0 m 6 ls [.ref (ta i), .ref x]) rfl ?_
  refine lv_iconst (v := 0) hx hb dX3_abort_6 (by decide) ?_
  refine mw_callV (As := [.ref (ta i), .int 0]) (rest := []) (n := 2) (C := RX3) (T := TX3) (N := 11) (ci := 3) hC hM (c_X3_end l hl0 D cs h H.size x aR aO aH aT rt ta hK n hO (ta i) (hK.kta hi.1) 0) (cwV 2 hC.1.2.2.2.2 (tb_V mb_173 mb_174 mb_1 mb_36 mb_175) rfl rfl rfl (by decide +kernel) ⟨Nat.le_of_ble_eq_true rfl, Nat.le_of_ble_eq_true rfl⟩) (th_at (h := h) kx0) rfl rfl rfl hl.1 (Nat.le_of_ble_eq_true rfl) dX3_abort_7 ⟨Nat.le_of_ble_eq_true rfl, Nat.le_of_ble_eq_true rfl⟩ (fun E ce q9 g9 H locs hp9 hM hce hcv hcl => ?_) (fun v9 g9 H locs hp9 hM => ?_)
  · exact (hp9.elim fun _ h9 => h9.2.elim)
  obtain ⟨h7, rfl, hp9⟩ := hp9
  obtain ⟨rfl, rfl⟩ := hp9
  refine W.eq (g2 := F0 m 10 ls [.int (sh_ec aO n rt 0 (ta i) h)]) rfl ?_
  refine mw_iret hC hM hr hlk dX3_abort_10 (Nat.le_of_ble_eq_true rfl) (Nat.le_of_ble_eq_true rfl) ⟨_, rfl, ?_⟩
  exact ⟨i, hi, rfl, rfl⟩

theorem sh_O.ui {x aO n : Nat} {h : th_S} (o : sh_O x aO n h) {a j : Nat} {v : Int32} (hj : j ≠ 4) : sh_O x aO n (th_ui h a j v) := by
  refine ⟨o.1, ?_, o.2.2⟩
  by_cases e : x = a
  · subst e
    rw [th_ui_k _ _ _ (Ne.symm hj)]
    exact o.2.1
  · rw [th_ui_n _ _ _ _ e]
    exact o.2.1

-- StableHeap.commit
set_option maxHeartbeats 4000000 in
set_option maxRecDepth 100000 in
theorem c_X3_commit (l : Launch) (hl0 : l.stackTraces = false) (D : va_G) (cs : Nat → ClassId) (h : th_S) (sz : Nat) (x aR aO aH aT : Nat) (rt ta : Nat → Nat) (hK : sh_K x aR aO aH aT rt ta h) (n : Nat) (hO : sh_O x aO n h) (k : Int32) : th_M l yX3_commit wsX3_commit { frames := 7, cells := 2, slots := 12, locals := 112 } D cs h sz [.ref x, .int k] (fun v h' => ∃ i, sh_tx ta h k i ∧ sh_wl x ta h + 1 ≤ 150 ∧ v = some (.int (sh_ec aO n rt 1 (ta i) (th_ui (th_ui h (ta i) 1 (h.2.1 (ta i) 1 + 1)) x 8 (h.2.1 x 8 + (h.2.1 (ta i) 1 + 1))))) ∧ h' = sh_eh aO n rt 1 (ta i) (th_ui (th_ui h (ta i) 1 (h.2.1 (ta i) 1 + 1)) x 8 (h.2.1 x 8 + (h.2.1 (ta i) 1 + 1)))) (fun E h' => h = h' ∧ ((E = "java/util/NoSuchElementException" ∧ sh_nt ta h k) ∨ (E = "java/lang/UnsupportedOperationException" ∧ (∃ i, sh_tx ta h k i) ∧ ¬ sh_wl x ta h + 1 ≤ 150))) := by
  refine mw_ofW (cc := cX3_commit) (maxL := 3) (ret := (some .int)) (by decide) rfl (fun w h => List.mem_cons_of_mem _ h) th_cd (Nat.le_of_ble_eq_true rfl) ?_
  intro p e s m below meth c hsz hC hr hlk hnm htab hM ls hl
  have hC : th_C D cs h p m c cX3_commit 3 s [.ref x, .int k] RX3 := hC
  have hx := hC.1.1
  have hb := hC.1.2.1
  have kx0 : h.1 x = some (0, 0) := hK.kx
  have hl : lv_has ls 3 [(0, .ref x), (1, .int k)] := hl
  refine lv_aload_n hx hb dX3_commit_0 rfl (lv_at hl 0 rfl) ?_
  refine lv_iload_n hx hb dX3_commit_1 rfl (lv_at hl 1 rfl) ?_
  refine mw_callV (As := [.int k]) (rest := []) (n := 1) (C := RX3) (T := TX3) (N := 11) (ci := 3) hC hM (c_X3_activeTransaction l hl0 D cs h s.heap.size x aR aO aH aT rt ta hK k) (cwV 1 hC.1.2.2.2.2 (tb_V mb_308 mb_309 mb_9 mb_36 mb_310) rfl rfl rfl (by decide +kernel) ⟨Nat.le_of_ble_eq_true rfl, Nat.le_of_ble_eq_true rfl⟩) (th_at (h := h) kx0) rfl rfl rfl hl.1 (Nat.le_of_ble_eq_true rfl) dX3_commit_2 ⟨Nat.le_of_ble_eq_true rfl, Nat.le_of_ble_eq_true rfl⟩ (fun E ce q9 g9 H locs hp9 hM hce hcv hcl => ?_) (fun v9 g9 H locs hp9 hM => ?_)
  · obtain ⟨h9, rfl, rfl, rfl, hf⟩ := hp9
    exact mw_out hM htab hlk hce hcv hcl (Nat.le_of_ble_eq_true rfl) (Nat.le_of_ble_eq_true rfl) ⟨_, rfl, rfl, Or.inl ⟨rfl, hf⟩⟩
  obtain ⟨h2, rfl, hp9⟩ := hp9
  obtain ⟨rfl, i, hi, rfl⟩ := hp9
  have kti : h.1 (ta i) = some (1, 0) := hK.kta hi.1
  refine W.eq (g2 := F0 m 5 ls [.ref (ta i)]) rfl ?_
  refine lv_astore_n (lv' := [(2, .ref (ta i)), (0, .ref x), (1, .int k)]) hx hb dX3_commit_5 rfl hl (by decide) rfl (fun ls hl => ?_)
  refine lv_aload_n hx hb dX3_commit_6 rfl (lv_at hl 1 rfl) ?_
  refine lv_aload_n hx hb dX3_commit_7 rfl (lv_at hl 0 rfl) ?_
  refine lv_iconst (v := 1) hx hb dX3_commit_8 (by decide) ?_
  refine mw_callV (As := [.ref (ta i), .int 1]) (rest := []) (n := 2) (C := RX3) (T := TX3) (N := 11) (ci := 3) hC hM (c_X3_writeRecord l hl0 D cs h H.size x aR aO aH aT rt ta hK (ta i) (hK.kta hi.1) 1) (cwV 2 hC.1.2.2.2.2 (tb_V mb_282 mb_283 mb_8 mb_36 mb_284) rfl rfl rfl (by decide +kernel) ⟨Nat.le_of_ble_eq_true rfl, Nat.le_of_ble_eq_true rfl⟩) (th_at (h := h) kx0) rfl rfl rfl hl.1 (Nat.le_of_ble_eq_true rfl) dX3_commit_9 ⟨Nat.le_of_ble_eq_true rfl, Nat.le_of_ble_eq_true rfl⟩ (fun E ce q9 g9 H locs hp9 hM hce hcv hcl => ?_) (fun v9 g9 H locs hp9 hM => ?_)
  · obtain ⟨h9, rfl, rfl, rfl, hw⟩ := hp9
    exact mw_out hM htab hlk hce hcv hcl (Nat.le_of_ble_eq_true rfl) (Nat.le_of_ble_eq_true rfl) ⟨_, rfl, rfl, Or.inr ⟨rfl, ⟨i, hi⟩, hw⟩⟩
  obtain ⟨h9, rfl, hp9⟩ := hp9
  obtain ⟨rfl, rfl, hw⟩ := hp9
  refine W.eq (g2 := F0 m 12 ls []) rfl ?_
  refine lv_aload_n hx hb dX3_commit_12 rfl (lv_at hl 1 rfl) ?_
  refine lv_dup hx hb dX3_commit_13 rfl ?_
  refine gi_0_8 (index := 131) hC hM kx0 mb_132 dX3_commit_14 ?_
  rw [show (th_ui h (ta i) 1 (h.2.1 (ta i) 1 + 1)).2.1 x 8 = h.2.1 x 8 from th_ui_n _ _ _ _ (th_kne hK.kx (hK.kta hi.1) (by decide))]
  refine lv_aload_n hx hb dX3_commit_17 rfl (lv_at hl 0 rfl) ?_
  refine gi_1_1 (index := 134) hC hM kti mb_118 dX3_commit_18 ?_
  rw [show (th_ui h (ta i) 1 (h.2.1 (ta i) 1 + 1)).2.1 (ta i) 1 = h.2.1 (ta i) 1 + 1 from th_ui_s _ _ _ _]
  refine lv_iadd hx hb dX3_commit_21 ?_
  refine pu_0_8 (index := 131) (v := (h.2.1 x 8) + (h.2.1 (ta i) 1 + 1)) hC hM kx0 mb_132 dX3_commit_22 (fun H locs hM => ?_)
  refine lv_aload_n hx hb dX3_commit_25 rfl (lv_at hl 1 rfl) ?_
  refine lv_aload_n hx hb dX3_commit_26 rfl (lv_at hl 0 rfl) ?_
  refine lv_iconst (v := 1) hx hb dX3_commit_27 (by decide) ?_
  refine mw_callV (As := [.ref (ta i), .int 1]) (rest := []) (n := 2) (C := RX3) (T := TX3) (N := 11) (ci := 3) hC hM (c_X3_end l hl0 D cs (th_ui (th_ui h (ta i) 1 (h.2.1 (ta i) 1 + 1)) x 8 ((h.2.1 x 8) + (h.2.1 (ta i) 1 + 1))) H.size x aR aO aH aT rt ta ((hK.uk (hK.kta hi.1) (by decide)).uk hK.kx (by decide)) n ((hO.ui (by decide)).ui (by decide)) (ta i) (hK.kta hi.1) 1) (cwV 2 hC.1.2.2.2.2 (tb_V mb_173 mb_174 mb_1 mb_36 mb_175) rfl rfl rfl (by decide +kernel) ⟨Nat.le_of_ble_eq_true rfl, Nat.le_of_ble_eq_true rfl⟩) (th_at (h := th_ui (th_ui h (ta i) 1 (h.2.1 (ta i) 1 + 1)) x 8 ((h.2.1 x 8) + (h.2.1 (ta i) 1 + 1))) kx0) rfl rfl rfl hl.1 (Nat.le_of_ble_eq_true rfl) dX3_commit_28 ⟨Nat.le_of_ble_eq_true rfl, Nat.le_of_ble_eq_true rfl⟩ (fun E ce q9 g9 H locs hp9 hM hce hcv hcl => ?_) (fun v9 g9 H locs hp9 hM => ?_)
  · exact (hp9.elim fun _ h9 => h9.2.elim)
  obtain ⟨h28, rfl, hp9⟩ := hp9
  obtain ⟨rfl, rfl⟩ := hp9
  refine W.eq (g2 := F0 m 31 ls [.int (sh_ec aO n rt 1 (ta i) (th_ui (th_ui h (ta i) 1 (h.2.1 (ta i) 1 + 1)) x 8 (h.2.1 x 8 + (h.2.1 (ta i) 1 + 1))))]) rfl ?_
  refine mw_iret hC hM hr hlk dX3_commit_31 (Nat.le_of_ble_eq_true rfl) (Nat.le_of_ble_eq_true rfl) ⟨_, rfl, ?_⟩
  exact ⟨i, hi, hw, rfl, rfl⟩

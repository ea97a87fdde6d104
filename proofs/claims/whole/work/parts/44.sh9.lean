-- the loop at 9 of StableHeap.flip
set_option maxHeartbeats 4000000 in
set_option maxRecDepth 100000 in
theorem lo_X3_flip_9 {l : Launch} (hl0 : l.stackTraces = false) {D : va_G} {cs : Nat → ClassId} {h : th_S} (x aR aO aH aT : Nat) (rt ta : Nat → Nat) (hK : sh_K x aR aO aH aT rt ta h) (n : Nat) (hO : sh_O x aO n h) {p : Program} {e : Env} {s : State} {m : MethodId} {below : List Frame} {meth : Method} {c : Code} (hC : th_C D cs h p m c cX3_flip 3 s [.ref x] RX3) (hr : meth.sig.returnType = none) (hlk : meth.locks = false) (htab : ∀ x ∈ c.exceptionTable.toList, False) : ∀ (q : Nat) (i : Nat) (u : Nat × th_S) (H : Heap) (locs : List Loc) (ls : Array Slot), (i + q = n) → (fl_s x aO h i = u) → th_H D cs h s u.2 H locs → lv_has ls 3 [(0, .ref x), (1, .int (nI u.1)), (2, .int (nI i))] → W p l e { frames := 1, cells := 0, slots := 0, locals := 20 } s m [.ref x].toArray below meth c H locs 0 0 (th_Q below D cs h s [.ref x] (fun v h' => v = none ∧ h' = sh_fl x aO n h) (fun E h' => False) 0 0) (F0 m 9 ls []) := by
  have hx := hC.1.1
  have hb := hC.1.2.1
  intro q
  induction q with
  | zero =>
    intro i u H locs ls hin hu hM hl
    have hKu := fl_s_K (h := h) hK i
    rw [hu] at hKu
    have hOu := fl_s_O hK hO (show i ≤ n by omega)
    rw [hu] at hOu
    have ku : u.2.1 = h.1 := by rw [← hu]; exact fl_s_k i
    have le : u.1 ≤ i := by rw [← hu]; exact fl_s_le i
    refine lv_iload_n hx hb dX3_flip_9 rfl (lv_at hl 2 rfl) ?_
    refine lv_aload_n hx hb dX3_flip_10 rfl (lv_at hl 0 rfl) ?_
    refine gi_0_4 (index := 60) hC hM hKu.kx mb_128 dX3_flip_11 ?_
    rw [show u.2.2.1 x 4 = nI n from hOu.2.1]
    refine lv_icmp_ge (tgt := 68) hx hb dX3_flip_14 (by decide) (fun c14 => ?_) (fun c14 => ?_)
    · refine lv_aload_n hx hb dX3_flip_68 rfl (lv_at hl 0 rfl) ?_
      refine lv_iload_n hx hb dX3_flip_69 rfl (lv_at hl 1 rfl) ?_
      refine pu_0_4 (index := 60) (v := nI u.1) hC hM hKu.kx mb_128 dX3_flip_70 (fun H locs hM => ?_)
      refine lv_aload_n hx hb dX3_flip_73 rfl (lv_at hl 0 rfl) ?_
      refine lv_dup hx hb dX3_flip_74 rfl ?_
      refine gi_0_10 (index := 170) hC hM hKu.kx mb_134 dX3_flip_75 ?_
      rw [show (th_ui u.2 x 4 (nI u.1)).2.1 x 10 = h.2.1 x 10 from (th_ui_k _ _ _ (by decide)).trans (by rw [← hu]; exact fl_s_i (fun _ => by decide) i)]
      refine lv_iconst (v := 1) hx hb dX3_flip_78 (by decide) ?_
      refine lv_iadd hx hb dX3_flip_79 ?_
      refine pu_0_10 (index := 170) (v := (h.2.1 x 10) + 1) hC hM hKu.kx mb_134 dX3_flip_80 (fun H locs hM => ?_)
      refine mw_vret hC hM hr hlk dX3_flip_83 (Nat.le_of_ble_eq_true rfl) (Nat.le_of_ble_eq_true rfl) ⟨_, rfl, ?_⟩
      exact ⟨rfl, by rw [sh_fl, show n = i by omega, hu]⟩
    · exact absurd (nI_le (show n ≤ i by omega) (by have := hO.1; omega)) c14
  | succ q ih =>
    intro i u H locs ls hin hu hM hl
    have hKu := fl_s_K (h := h) hK i
    rw [hu] at hKu
    have hOu := fl_s_O hK hO (show i ≤ n by omega)
    rw [hu] at hOu
    have ku : u.2.1 = h.1 := by rw [← hu]; exact fl_s_k i
    have le : u.1 ≤ i := by rw [← hu]; exact fl_s_le i
    have ri : u.2.2.2 aO i = some (vw_ob aO h i) := by rw [← hu, fl_s_hi i i (fl_s_le i)]; exact (hO.ob (by omega)).1
    have kb : u.2.1 (vw_ob aO h i) = some (2, 0) := by rw [ku]; exact (hO.ob (by omega)).2
    have hv := hK.vw (hO.ob (show i < n by omega)).2
    have rb : u.2.2.2 (vw_ob aO h i) 1 = some (vw_pa h (vw_ob aO h i)) := by rw [← hu, fl_s_r (th_kne (hO.ob (show i < n by omega)).2 hK.kO (by decide)) i]; exact hv.1
    have nb : vw_ob aO h i ≠ aO := th_kne (hO.ob (show i < n by omega)).2 hK.kO (by decide)
    have h80 := hO.1
    refine lv_iload_n hx hb dX3_flip_9 rfl (lv_at hl 2 rfl) ?_
    refine lv_aload_n hx hb dX3_flip_10 rfl (lv_at hl 0 rfl) ?_
    refine gi_0_4 (index := 60) hC hM hKu.kx mb_128 dX3_flip_11 ?_
    rw [show u.2.2.1 x 4 = nI n from hOu.2.1]
    refine lv_icmp_ge (tgt := 68) hx hb dX3_flip_14 (by decide) (fun c14 => ?_) (fun c14 => ?_)
    · exact absurd c14 (nI_ge (by omega) (by omega))
    · refine lv_aload_n hx hb dX3_flip_17 rfl (lv_at hl 0 rfl) ?_
      refine gr_0_1 (index := 18) hC hM hKu.kx mb_125 dX3_flip_18 hKu.xO ?_
      refine lv_iload_n hx hb dX3_flip_21 rfl (lv_at hl 2 rfl) ?_
      refine al_4 (i := i) hC hM hKu.kO (rfl) (by omega) (by first | decide | omega) ri dX3_flip_22 ?_
      refine gi_2_3 (index := 209) hC hM kb mb_101 dX3_flip_23 ?_
      refine lv_if_eq (tgt := 62) hx hb dX3_flip_26 (by decide) (fun c26 => ?_) (fun c26 => ?_)
      · refine lv_iinc (v := nI (i + 1)) (lv' := [(2, .int (nI (i + 1))), (0, .ref x), (1, .int (nI u.1))]) hx hb dX3_flip_62 hl (k := 2) rfl (by exact nI_1 i) (by first | decide | omega) rfl (fun ls hl => ?_)
        refine lv_goto (tgt := 9) hx hb dX3_flip_65 (by decide) ?_
        exact ih (i + 1) u H locs ls (by omega) (by rw [fl_s, hu, if_pos c26]) hM (lv_sub hl [1, 2, 0] rfl)
      · refine lv_aload_n hx hb dX3_flip_29 rfl (lv_at hl 0 rfl) ?_
        refine gr_0_1 (index := 18) hC hM hKu.kx mb_125 dX3_flip_30 hKu.xO ?_
        refine lv_iload_n hx hb dX3_flip_33 rfl (lv_at hl 1 rfl) ?_
        refine lv_aload_n hx hb dX3_flip_34 rfl (lv_at hl 0 rfl) ?_
        refine gr_0_1 (index := 18) hC hM hKu.kx mb_125 dX3_flip_35 hKu.xO ?_
        refine lv_iload_n hx hb dX3_flip_38 rfl (lv_at hl 2 rfl) ?_
        refine al_4 (i := i) hC hM hKu.kO (rfl) (by omega) (by first | decide | omega) ri dX3_flip_39 ?_
        refine as_4 (i := u.1) hC hM hKu.kO (rfl) (by omega) (by first | decide | omega) kb dX3_flip_40 (fun H locs hM => ?_)
        refine lv_aload_n hx hb dX3_flip_41 rfl (lv_at hl 0 rfl) ?_
        refine lv_dup hx hb dX3_flip_42 rfl ?_
        refine gi_0_7 (index := 57) hC hM hKu.kx mb_131 dX3_flip_43 ?_
        rw [show (th_ur u.2 aO u.1 (some (vw_ob aO h i))).2.1 x 7 = u.2.2.1 x 7 from rfl]
        refine lv_aload_n hx hb dX3_flip_46 rfl (lv_at hl 0 rfl) ?_
        refine gr_0_1 (index := 18) hC hM hKu.kx mb_125 dX3_flip_47 (hKu.urA (Or.inl rfl)).xO ?_
        refine lv_iload_n hx hb dX3_flip_50 rfl (lv_at hl 1 rfl) ?_
        refine al_4 (i := u.1) hC hM hKu.kO (rfl) (by omega) (by first | decide | omega) (th_ur_s _ _ _ _) dX3_flip_51 ?_
        refine mw_callV (As := []) (rest := [.int (u.2.2.1 x 7), .ref x]) (n := 0) (C := RX0) (T := TX0) (N := 4) (ci := 0) hC hM (c_X0_words l hl0 D cs (th_ur u.2 aO u.1 (some (vw_ob aO h i))) H.size (vw_ob aO h i) (vw_pa h (vw_ob aO h i)) (vw_np h (vw_ob aO h i)) kb ((th_ur_n _ _ _ _ nb).trans rb) (by show u.2.1 _ = _; rw [ku]; exact hv.2.1)) (cwV 0 hC.1.2.2.2.2 (tb_V mb_205 mb_206 mb_207 mb_37 mb_208) rfl rfl rfl (by decide +kernel) ⟨Nat.le_of_ble_eq_true rfl, Nat.le_of_ble_eq_true rfl⟩) (th_at (h := th_ur u.2 aO u.1 (some (vw_ob aO h i))) kb) rfl rfl rfl hl.1 (Nat.le_of_ble_eq_true rfl) dX3_flip_52 ⟨Nat.le_of_ble_eq_true rfl, Nat.le_of_ble_eq_true rfl⟩ (fun E ce q9 g9 H locs hp9 hM hce hcv hcl => ?_) (fun v9 g9 H locs hp9 hM => ?_)
        · exact (hp9.elim fun _ h9 => h9.2.elim)
        obtain ⟨h52, rfl, hp9⟩ := hp9
        obtain ⟨rfl, rfl⟩ := hp9
        refine W.eq (g2 := F0 m 55 ls [.int (1 + nI (vw_np h (vw_ob aO h i))), .int (u.2.2.1 x 7), .ref x]) rfl ?_
        refine lv_iadd hx hb dX3_flip_55 ?_
        refine pu_0_7 (index := 57) (v := (u.2.2.1 x 7) + (1 + nI (vw_np h (vw_ob aO h i)))) hC hM hKu.kx mb_131 dX3_flip_56 (fun H locs hM => ?_)
        refine lv_iinc (v := nI (u.1 + 1)) (lv' := [(1, .int (nI (u.1 + 1))), (0, .ref x), (2, .int (nI i))]) hx hb dX3_flip_59 hl (k := 1) rfl (by exact nI_1 u.1) (by first | decide | omega) rfl (fun ls hl => ?_)
        refine lv_iinc (v := nI (i + 1)) (lv' := [(2, .int (nI (i + 1))), (1, .int (nI (u.1 + 1))), (0, .ref x)]) hx hb dX3_flip_62 hl (k := 2) rfl (by exact nI_1 i) (by first | decide | omega) rfl (fun ls hl => ?_)
        refine lv_goto (tgt := 9) hx hb dX3_flip_65 (by decide) ?_
        exact ih (i + 1) (u.1 + 1, th_ui (th_ur u.2 aO u.1 (some (vw_ob aO h i))) x 7 (u.2.2.1 x 7 + (1 + nI (vw_np h (vw_ob aO h i))))) H locs ls (by omega) (by rw [fl_s, hu, if_neg c26]) hM (lv_sub hl [2, 1, 0] rfl)

-- StableHeap.flip
set_option maxHeartbeats 4000000 in
set_option maxRecDepth 100000 in
theorem c_X3_flip (l : Launch) (hl0 : l.stackTraces = false) (D : va_G) (cs : Nat → ClassId) (h : th_S) (sz : Nat) (x aR aO aH aT : Nat) (rt ta : Nat → Nat) (hK : sh_K x aR aO aH aT rt ta h) (n : Nat) (hO : sh_O x aO n h) : th_M l yX3_flip wsX3_flip { frames := 1, cells := 0, slots := 0, locals := 20 } D cs h sz [.ref x] (fun v h' => v = none ∧ h' = sh_fl x aO n h) (fun E h' => False) := by
  refine mw_ofW (cc := cX3_flip) (maxL := 3) (ret := none) (by decide) rfl (fun w h => List.mem_cons_of_mem _ h) th_cd (Nat.le_of_ble_eq_true rfl) ?_
  intro p e s m below meth c hsz hC hr hlk hnm htab hM ls hl
  have hC : th_C D cs h p m c cX3_flip 3 s [.ref x] RX3 := hC
  have hx := hC.1.1
  have hb := hC.1.2.1
  have kx0 : h.1 x = some (0, 0) := hK.kx
  have hl : lv_has ls 3 [(0, .ref x)] := hl
  refine lv_iconst (v := 0) hx hb dX3_flip_0 (by decide) ?_
  refine lv_istore_n (lv' := [(1, .int 0), (0, .ref x)]) hx hb dX3_flip_1 rfl hl (by decide) rfl (fun ls hl => ?_)
  refine lv_aload_n hx hb dX3_flip_2 rfl (lv_at hl 1 rfl) ?_
  refine lv_iconst (v := 0) hx hb dX3_flip_3 (by decide) ?_
  refine pu_0_7 (index := 57) (v := 0) hC hM kx0 mb_131 dX3_flip_4 (fun H locs hM => ?_)
  refine lv_iconst (v := 0) hx hb dX3_flip_7 (by decide) ?_
  refine lv_istore_n (lv' := [(2, .int 0), (1, .int 0), (0, .ref x)]) hx hb dX3_flip_8 rfl hl (by decide) rfl (fun ls hl => ?_)
  exact lo_X3_flip_9 hl0 x aR aO aH aT rt ta hK n hO hC hr hlk htab n 0 (0, th_ui h x 7 0) _ _ ls (by omega) rfl hM (lv_sub hl [2, 1, 0] rfl)

-- the loop at 4 of StableHeap.crash
set_option maxHeartbeats 4000000 in
set_option maxRecDepth 100000 in
theorem lo_X3_crash_4 {l : Launch} (hl0 : l.stackTraces = false) {D : va_G} {cs : Nat → ClassId} {h : th_S} (x aR aO aH aT : Nat) (rt ta : Nat → Nat) (hK : sh_K x aR aO aH aT rt ta h) (n : Nat) (hO : sh_O x aO n h) {p : Program} {e : Env} {s : State} {m : MethodId} {below : List Frame} {meth : Method} {c : Code} (hC : th_C D cs h p m c cX3_crash 3 s [.ref x] RX3) (hr : meth.sig.returnType = some .int) (hlk : meth.locks = false) (htab : ∀ x ∈ c.exceptionTable.toList, False) : ∀ (q : Nat) (i : Nat) (u : Int32 × th_S) (H : Heap) (locs : List Loc) (ls : Array Slot), (i + q = 3) → (cr_s aO n rt ta h i = u) → th_H D cs h s u.2 H locs → lv_has ls 3 [(0, .ref x), (1, .int u.1), (2, .int (nI i))] → W p l e { frames := 3, cells := 0, slots := 0, locals := 67 } s m [.ref x].toArray below meth c H locs 0 0 (th_Q below D cs h s [.ref x] (fun v h' => v = some (.int (cr_s aO n rt ta h 3).1) ∧ h' = th_ui (cr_s aO n rt ta h 3).2 x 8 0) (fun E h' => False) 0 0) (F0 m 4 ls []) := by
  have hx := hC.1.1
  have hb := hC.1.2.1
  intro q
  induction q with
  | zero =>
    intro i u H locs ls hin hu hM hl
    obtain ⟨hKu, hOu⟩ := cr_s_I hK hO i (show i ≤ 3 by omega)
    rw [hu] at hKu hOu
    refine lv_iload_n hx hb dX3_crash_4 rfl (lv_at hl 2 rfl) ?_
    refine lv_iconst (v := 3) hx hb dX3_crash_5 (by decide) ?_
    refine lv_icmp_ge (tgt := 42) hx hb dX3_crash_6 (by decide) (fun c6 => ?_) (fun c6 => ?_)
    · refine lv_aload_n hx hb dX3_crash_42 rfl (lv_at hl 0 rfl) ?_
      refine lv_iconst (v := 0) hx hb dX3_crash_43 (by decide) ?_
      refine pu_0_8 (index := 131) (v := 0) hC hM hKu.kx mb_132 dX3_crash_44 (fun H locs hM => ?_)
      refine lv_iload_n hx hb dX3_crash_47 rfl (lv_at hl 1 rfl) ?_
      refine mw_iret hC hM hr hlk dX3_crash_48 (Nat.le_of_ble_eq_true rfl) (Nat.le_of_ble_eq_true rfl) ⟨_, rfl, ?_⟩
      exact ⟨by rw [show 3 = i by omega, hu], by rw [show 3 = i by omega, hu]⟩
    · exact absurd (nI_le (a := 3) (show 3 ≤ i by omega) (by omega)) c6
  | succ q ih =>
    intro i u H locs ls hin hu hM hl
    obtain ⟨hKu, hOu⟩ := cr_s_I hK hO i (show i ≤ 3 by omega)
    rw [hu] at hKu hOu
    refine lv_iload_n hx hb dX3_crash_4 rfl (lv_at hl 2 rfl) ?_
    refine lv_iconst (v := 3) hx hb dX3_crash_5 (by decide) ?_
    refine lv_icmp_ge (tgt := 42) hx hb dX3_crash_6 (by decide) (fun c6 => ?_) (fun c6 => ?_)
    · exact absurd c6 (nI_ge (b := 3) (by omega) (by decide))
    · refine lv_aload_n hx hb dX3_crash_9 rfl (lv_at hl 0 rfl) ?_
      refine gr_0_3 (index := 26) hC hM hKu.kx mb_127 dX3_crash_10 hKu.xT ?_
      refine lv_iload_n hx hb dX3_crash_13 rfl (lv_at hl 2 rfl) ?_
      refine al_5 (i := i) hC hM hKu.kT (rfl) (by omega) (by first | decide | omega) (hKu.rta (by omega)) dX3_crash_14 ?_
      refine mw_callV (As := []) (rest := []) (n := 0) (C := RX2) (T := TX2) (N := 2) (ci := 2) hC hM (c_X2_isActive l hl0 D cs u.2 H.size (ta i) (hKu.kta (by omega))) (cwV 0 hC.1.2.2.2.2 (tb_V mb_169 mb_170 mb_171 mb_39 mb_172) rfl rfl rfl (by decide +kernel) ⟨Nat.le_of_ble_eq_true rfl, Nat.le_of_ble_eq_true rfl⟩) (th_at (h := u.2) (hKu.kta (by omega))) rfl rfl rfl hl.1 (Nat.le_of_ble_eq_true rfl) dX3_crash_15 ⟨Nat.le_of_ble_eq_true rfl, Nat.le_of_ble_eq_true rfl⟩ (fun E ce q9 g9 H locs hp9 hM hce hcv hcl => ?_) (fun v9 g9 H locs hp9 hM => ?_)
      · exact (hp9.elim fun _ h9 => h9.2.elim)
      obtain ⟨h15, rfl, hp9⟩ := hp9
      obtain ⟨rfl, rfl⟩ := hp9
      refine W.eq (g2 := F0 m 18 ls [.int (if u.2.2.1 (ta i) 0 = 0 then 0 else 1)]) rfl ?_
      refine lv_if_eq (tgt := 36) hx hb dX3_crash_18 (by decide) (fun c18 => ?_) (fun c18 => ?_)
      · have c18 := sh_a0 c18
        refine lv_iinc (v := nI (i + 1)) (lv' := [(2, .int (nI (i + 1))), (0, .ref x), (1, .int u.1)]) hx hb dX3_crash_36 hl (k := 2) rfl (by exact nI_1 i) (by first | decide | omega) rfl (fun ls hl => ?_)
        refine lv_goto (tgt := 4) hx hb dX3_crash_39 (by decide) ?_
        exact ih (i + 1) u H locs ls (by omega) (by rw [cr_s, hu, if_pos c18]) hM (lv_sub hl [1, 2, 0] rfl)
      · have c18 := sh_a1 c18
        refine lv_aload_n hx hb dX3_crash_21 rfl (lv_at hl 0 rfl) ?_
        refine lv_aload_n hx hb dX3_crash_22 rfl (lv_at hl 0 rfl) ?_
        refine gr_0_3 (index := 26) hC hM hKu.kx mb_127 dX3_crash_23 hKu.xT ?_
        refine lv_iload_n hx hb dX3_crash_26 rfl (lv_at hl 2 rfl) ?_
        refine al_5 (i := i) hC hM hKu.kT (rfl) (by omega) (by first | decide | omega) (hKu.rta (by omega)) dX3_crash_27 ?_
        refine lv_iconst (v := 0) hx hb dX3_crash_28 (by decide) ?_
        refine mw_callV (As := [.ref (ta i), .int 0]) (rest := []) (n := 2) (C := RX3) (T := TX3) (N := 11) (ci := 3) hC hM (c_X3_end l hl0 D cs u.2 H.size x aR aO aH aT rt ta hKu n hOu (ta i) (hKu.kta (by omega)) 0) (cwV 2 hC.1.2.2.2.2 (tb_V mb_173 mb_174 mb_1 mb_36 mb_175) rfl rfl rfl (by decide +kernel) ⟨Nat.le_of_ble_eq_true rfl, Nat.le_of_ble_eq_true rfl⟩) (th_at (h := u.2) hKu.kx) rfl rfl rfl hl.1 (Nat.le_of_ble_eq_true rfl) dX3_crash_29 ⟨Nat.le_of_ble_eq_true rfl, Nat.le_of_ble_eq_true rfl⟩ (fun E ce q9 g9 H locs hp9 hM hce hcv hcl => ?_) (fun v9 g9 H locs hp9 hM => ?_)
        · exact (hp9.elim fun _ h9 => h9.2.elim)
        obtain ⟨h29, rfl, hp9⟩ := hp9
        obtain ⟨rfl, rfl⟩ := hp9
        refine W.eq (g2 := F0 m 32 ls [.int (sh_ec aO n rt 0 (ta i) u.2)]) rfl ?_
        refine lv_pop hx hb dX3_crash_32 rfl ?_
        refine lv_iinc (v := u.1 + 1) (lv' := [(1, .int (u.1 + 1)), (0, .ref x), (2, .int (nI i))]) hx hb dX3_crash_33 hl (k := 1) rfl (rfl) (by first | decide | omega) rfl (fun ls hl => ?_)
        refine lv_iinc (v := nI (i + 1)) (lv' := [(2, .int (nI (i + 1))), (1, .int (u.1 + 1)), (0, .ref x)]) hx hb dX3_crash_36 hl (k := 2) rfl (by exact nI_1 i) (by first | decide | omega) rfl (fun ls hl => ?_)
        refine lv_goto (tgt := 4) hx hb dX3_crash_39 (by decide) ?_
        exact ih (i + 1) (u.1 + 1, sh_eh aO n rt 0 (ta i) u.2) H locs ls (by omega) (by rw [cr_s, hu, if_neg c18]) hM (lv_sub hl [2, 1, 0] rfl)

-- StableHeap.crash
set_option maxHeartbeats 4000000 in
set_option maxRecDepth 100000 in
theorem c_X3_crash (l : Launch) (hl0 : l.stackTraces = false) (D : va_G) (cs : Nat → ClassId) (h : th_S) (sz : Nat) (x aR aO aH aT : Nat) (rt ta : Nat → Nat) (hK : sh_K x aR aO aH aT rt ta h) (n : Nat) (hO : sh_O x aO n h) : th_M l yX3_crash wsX3_crash { frames := 3, cells := 0, slots := 0, locals := 67 } D cs h sz [.ref x] (fun v h' => v = some (.int (cr_s aO n rt ta h 3).1) ∧ h' = th_ui (cr_s aO n rt ta h 3).2 x 8 0) (fun E h' => False) := by
  refine mw_ofW (cc := cX3_crash) (maxL := 3) (ret := (some .int)) (by decide) rfl (fun w h => List.mem_cons_of_mem _ h) th_cd (Nat.le_of_ble_eq_true rfl) ?_
  intro p e s m below meth c hsz hC hr hlk hnm htab hM ls hl
  have hC : th_C D cs h p m c cX3_crash 3 s [.ref x] RX3 := hC
  have hx := hC.1.1
  have hb := hC.1.2.1
  have kx0 : h.1 x = some (0, 0) := hK.kx
  have hl : lv_has ls 3 [(0, .ref x)] := hl
  refine lv_iconst (v := 0) hx hb dX3_crash_0 (by decide) ?_
  refine lv_istore_n (lv' := [(1, .int 0), (0, .ref x)]) hx hb dX3_crash_1 rfl hl (by decide) rfl (fun ls hl => ?_)
  refine lv_iconst (v := 0) hx hb dX3_crash_2 (by decide) ?_
  refine lv_istore_n (lv' := [(2, .int 0), (1, .int 0), (0, .ref x)]) hx hb dX3_crash_3 rfl hl (by decide) rfl (fun ls hl => ?_)
  exact lo_X3_crash_4 hl0 x aR aO aH aT rt ta hK n hO hC hr hlk htab 3 0 (0, h) _ _ ls (by omega) rfl hM (lv_sub hl [2, 1, 0] rfl)

def sh_co (x aO aH n : Nat) (rt ta : Nat → Nat) (h : th_S) (k : Int32) (v : Option Value) (h' : th_S) : Prop :=
  (¬ k < 0 ∧ ¬ nI (sh_fh x aO aH n rt h).1 ≤ k ∧ v = some (.int (-1 - (cr_s aO n rt ta (sh_fh x aO aH n rt h).2 3).1)) ∧ h' = th_ui (cr_s aO n rt ta (sh_fh x aO aH n rt h).2 3).2 x 8 0) ∨
  ((k < 0 ∨ nI (sh_fh x aO aH n rt h).1 ≤ k) ∧ h' = th_ui (sh_fl x aO n (sh_fh x aO aH n rt h).2) x 8 0 ∧ v = some (.int ((sh_fh x aO aH n rt h).2.2.1 x 7 - (th_ui (sh_fl x aO n (sh_fh x aO aH n rt h).2) x 8 0).2.1 x 7)))

-- StableHeap.collect
set_option maxHeartbeats 4000000 in
set_option maxRecDepth 100000 in
theorem c_X3_collect (l : Launch) (hl0 : l.stackTraces = false) (D : va_G) (cs : Nat → ClassId) (h : th_S) (sz : Nat) (x aR aO aH aT : Nat) (rt ta : Nat → Nat) (hK : sh_K x aR aO aH aT rt ta h) (n : Nat) (hO : sh_O x aO n h) (k : Int32) : th_M l yX3_collect wsX3_collect { frames := 4, cells := 0, slots := 0, locals := 89 } D cs h sz [.ref x, .int k] (fun v h' => sh_co x aO aH n rt ta h k v h') (fun E h' => False) := by
  refine mw_ofW (cc := cX3_collect) (maxL := 3) (ret := (some .int)) (by decide) rfl (fun w h => List.mem_cons_of_mem _ h) th_cd (Nat.le_of_ble_eq_true rfl) ?_
  intro p e s m below meth c hsz hC hr hlk hnm htab hM ls hl
  have hC : th_C D cs h p m c cX3_collect 3 s [.ref x, .int k] RX3 := hC
  have hx := hC.1.1
  have hb := hC.1.2.1
  have kx0 : h.1 x = some (0, 0) := hK.kx
  have hl : lv_has ls 3 [(0, .ref x), (1, .int k)] := hl
  refine lv_aload_n hx hb dX3_collect_0 rfl (lv_at hl 0 rfl) ?_
  refine mw_callV (As := []) (rest := []) (n := 0) (C := RX3) (T := TX3) (N := 11) (ci := 3) hC hM (c_X3_findHeld l hl0 D cs h s.heap.size x aR aO aH aT rt ta hK n hO) (cwV 0 hC.1.2.2.2.2 (tb_V mb_192 mb_193 mb_2 mb_36 mb_194) rfl rfl rfl (by decide +kernel) ⟨Nat.le_of_ble_eq_true rfl, Nat.le_of_ble_eq_true rfl⟩) (th_at (h := h) kx0) rfl rfl rfl hl.1 (Nat.le_of_ble_eq_true rfl) dX3_collect_1 ⟨Nat.le_of_ble_eq_true rfl, Nat.le_of_ble_eq_true rfl⟩ (fun E ce q9 g9 H locs hp9 hM hce hcv hcl => ?_) (fun v9 g9 H locs hp9 hM => ?_)
  · exact (hp9.elim fun _ h9 => h9.2.elim)
  obtain ⟨h1, rfl, hp9⟩ := hp9
  obtain ⟨rfl, rfl⟩ := hp9
  obtain ⟨hKu, hCu, hOu, hWu⟩ := fh_I.fw (x := x) (aH := aH) 80 0 (fh_3_I hK hO (Nat.le_refl n))
  have hKu : sh_K x aR aO aH aT rt ta (sh_fh x aO aH n rt h).2 := hKu
  have hOu : sh_O x aO n (sh_fh x aO aH n rt h).2 := hOu
  refine W.eq (g2 := F0 m 4 ls []) rfl ?_
  refine lv_iload_n hx hb dX3_collect_4 rfl (lv_at hl 1 rfl) ?_
  refine lv_if_lt (tgt := 23) hx hb dX3_collect_5 (by decide) (fun c5 => ?_) (fun c5 => ?_)
  · refine lv_aload_n hx hb dX3_collect_23 rfl (lv_at hl 0 rfl) ?_
    refine gi_0_7 (index := 57) hC hM hKu.kx mb_131 dX3_collect_24 ?_
    refine lv_istore_n (lv' := [(2, .int (((sh_fh x aO aH n rt h).2).2.1 x 7)), (0, .ref x), (1, .int k)]) hx hb dX3_collect_27 rfl hl (by decide) rfl (fun ls hl => ?_)
    refine lv_aload_n hx hb dX3_collect_28 rfl (lv_at hl 1 rfl) ?_
    refine mw_callV (As := []) (rest := []) (n := 0) (C := RX3) (T := TX3) (N := 11) (ci := 3) hC hM (c_X3_flip l hl0 D cs ((sh_fh x aO aH n rt h).2) H.size x aR aO aH aT rt ta hKu n hOu) (cwV 0 hC.1.2.2.2.2 (tb_V mb_202 mb_203 mb_5 mb_36 mb_204) rfl rfl rfl (by decide +kernel) ⟨Nat.le_of_ble_eq_true rfl, Nat.le_of_ble_eq_true rfl⟩) (th_at (h := (sh_fh x aO aH n rt h).2) hKu.kx) rfl rfl rfl hl.1 (Nat.le_of_ble_eq_true rfl) dX3_collect_29 ⟨Nat.le_of_ble_eq_true rfl, Nat.le_of_ble_eq_true rfl⟩ (fun E ce q9 g9 H locs hp9 hM hce hcv hcl => ?_) (fun v9 g9 H locs hp9 hM => ?_)
    · exact (hp9.elim fun _ h9 => h9.2.elim)
    obtain ⟨h29, rfl, hp9⟩ := hp9
    obtain ⟨rfl, rfl⟩ := hp9
    have hKf := (sh_fl_O hKu hOu).1
    refine W.eq (g2 := F0 m 32 ls []) rfl ?_
    refine lv_aload_n hx hb dX3_collect_32 rfl (lv_at hl 1 rfl) ?_
    refine mw_callV (As := []) (rest := []) (n := 0) (C := RX3) (T := TX3) (N := 11) (ci := 3) hC hM (c_X3_checkpoint l hl0 D cs (sh_fl x aO n (sh_fh x aO aH n rt h).2) H.size x aR aO aH aT rt ta hKf) (cwV 0 hC.1.2.2.2.2 (tb_V mb_209 mb_159 mb_160 mb_36 mb_161) rfl rfl rfl (by decide +kernel) ⟨Nat.le_of_ble_eq_true rfl, Nat.le_of_ble_eq_true rfl⟩) (th_at (h := sh_fl x aO n (sh_fh x aO aH n rt h).2) hKf.kx) rfl rfl rfl hl.1 (Nat.le_of_ble_eq_true rfl) dX3_collect_33 ⟨Nat.le_of_ble_eq_true rfl, Nat.le_of_ble_eq_true rfl⟩ (fun E ce q9 g9 H locs hp9 hM hce hcv hcl => ?_) (fun v9 g9 H locs hp9 hM => ?_)
    · exact (hp9.elim fun _ h9 => h9.2.elim)
    obtain ⟨h33, rfl, hp9⟩ := hp9
    obtain ⟨rfl, rfl⟩ := hp9
    refine W.eq (g2 := F0 m 36 ls [.int (sh_wl x ta (th_ui (sh_fl x aO n (sh_fh x aO aH n rt h).2) x 8 0))]) rfl ?_
    refine lv_pop hx hb dX3_collect_36 rfl ?_
    refine lv_iload_n hx hb dX3_collect_37 rfl (lv_at hl 0 rfl) ?_
    refine lv_aload_n hx hb dX3_collect_38 rfl (lv_at hl 1 rfl) ?_
    refine gi_0_7 (index := 57) hC hM hKf.kx mb_131 dX3_collect_39 ?_
    refine lv_isub hx hb dX3_collect_42 ?_
    refine mw_iret hC hM hr hlk dX3_collect_43 (Nat.le_of_ble_eq_true rfl) (Nat.le_of_ble_eq_true rfl) ⟨_, rfl, ?_⟩
    exact Or.inr ⟨by first | exact Or.inl c5 | exact Or.inr c13, rfl, rfl⟩
  · refine lv_iload_n hx hb dX3_collect_8 rfl (lv_at hl 1 rfl) ?_
    refine lv_aload_n hx hb dX3_collect_9 rfl (lv_at hl 0 rfl) ?_
    refine gi_0_5 (index := 150) hC hM hKu.kx mb_129 dX3_collect_10 ?_
    rw [show ((sh_fh x aO aH n rt h).2).2.1 x 5 = nI (sh_fh x aO aH n rt h).1 from hCu.1]
    refine lv_icmp_ge (tgt := 23) hx hb dX3_collect_13 (by decide) (fun c13 => ?_) (fun c13 => ?_)
    · refine lv_aload_n hx hb dX3_collect_23 rfl (lv_at hl 0 rfl) ?_
      refine gi_0_7 (index := 57) hC hM hKu.kx mb_131 dX3_collect_24 ?_
      refine lv_istore_n (lv' := [(2, .int (((sh_fh x aO aH n rt h).2).2.1 x 7)), (0, .ref x), (1, .int k)]) hx hb dX3_collect_27 rfl hl (by decide) rfl (fun ls hl => ?_)
      refine lv_aload_n hx hb dX3_collect_28 rfl (lv_at hl 1 rfl) ?_
      refine mw_callV (As := []) (rest := []) (n := 0) (C := RX3) (T := TX3) (N := 11) (ci := 3) hC hM (c_X3_flip l hl0 D cs ((sh_fh x aO aH n rt h).2) H.size x aR aO aH aT rt ta hKu n hOu) (cwV 0 hC.1.2.2.2.2 (tb_V mb_202 mb_203 mb_5 mb_36 mb_204) rfl rfl rfl (by decide +kernel) ⟨Nat.le_of_ble_eq_true rfl, Nat.le_of_ble_eq_true rfl⟩) (th_at (h := (sh_fh x aO aH n rt h).2) hKu.kx) rfl rfl rfl hl.1 (Nat.le_of_ble_eq_true rfl) dX3_collect_29 ⟨Nat.le_of_ble_eq_true rfl, Nat.le_of_ble_eq_true rfl⟩ (fun E ce q9 g9 H locs hp9 hM hce hcv hcl => ?_) (fun v9 g9 H locs hp9 hM => ?_)
      · exact (hp9.elim fun _ h9 => h9.2.elim)
      obtain ⟨h29, rfl, hp9⟩ := hp9
      obtain ⟨rfl, rfl⟩ := hp9
      have hKf := (sh_fl_O hKu hOu).1
      refine W.eq (g2 := F0 m 32 ls []) rfl ?_
      refine lv_aload_n hx hb dX3_collect_32 rfl (lv_at hl 1 rfl) ?_
      refine mw_callV (As := []) (rest := []) (n := 0) (C := RX3) (T := TX3) (N := 11) (ci := 3) hC hM (c_X3_checkpoint l hl0 D cs (sh_fl x aO n (sh_fh x aO aH n rt h).2) H.size x aR aO aH aT rt ta hKf) (cwV 0 hC.1.2.2.2.2 (tb_V mb_209 mb_159 mb_160 mb_36 mb_161) rfl rfl rfl (by decide +kernel) ⟨Nat.le_of_ble_eq_true rfl, Nat.le_of_ble_eq_true rfl⟩) (th_at (h := sh_fl x aO n (sh_fh x aO aH n rt h).2) hKf.kx) rfl rfl rfl hl.1 (Nat.le_of_ble_eq_true rfl) dX3_collect_33 ⟨Nat.le_of_ble_eq_true rfl, Nat.le_of_ble_eq_true rfl⟩ (fun E ce q9 g9 H locs hp9 hM hce hcv hcl => ?_) (fun v9 g9 H locs hp9 hM => ?_)
      · exact (hp9.elim fun _ h9 => h9.2.elim)
      obtain ⟨h33, rfl, hp9⟩ := hp9
      obtain ⟨rfl, rfl⟩ := hp9
      refine W.eq (g2 := F0 m 36 ls [.int (sh_wl x ta (th_ui (sh_fl x aO n (sh_fh x aO aH n rt h).2) x 8 0))]) rfl ?_
      refine lv_pop hx hb dX3_collect_36 rfl ?_
      refine lv_iload_n hx hb dX3_collect_37 rfl (lv_at hl 0 rfl) ?_
      refine lv_aload_n hx hb dX3_collect_38 rfl (lv_at hl 1 rfl) ?_
      refine gi_0_7 (index := 57) hC hM hKf.kx mb_131 dX3_collect_39 ?_
      refine lv_isub hx hb dX3_collect_42 ?_
      refine mw_iret hC hM hr hlk dX3_collect_43 (Nat.le_of_ble_eq_true rfl) (Nat.le_of_ble_eq_true rfl) ⟨_, rfl, ?_⟩
      exact Or.inr ⟨by first | exact Or.inl c5 | exact Or.inr c13, rfl, rfl⟩
    · refine lv_iconst (v := (-1)) hx hb dX3_collect_16 (by decide) ?_
      refine lv_aload_n hx hb dX3_collect_17 rfl (lv_at hl 0 rfl) ?_
      refine mw_callV (As := []) (rest := [.int (-1)]) (n := 0) (C := RX3) (T := TX3) (N := 11) (ci := 3) hC hM (c_X3_crash l hl0 D cs ((sh_fh x aO aH n rt h).2) H.size x aR aO aH aT rt ta hKu n hOu) (cwV 0 hC.1.2.2.2.2 (tb_V mb_201 mb_166 mb_167 mb_36 mb_168) rfl rfl rfl (by decide +kernel) ⟨Nat.le_of_ble_eq_true rfl, Nat.le_of_ble_eq_true rfl⟩) (th_at (h := (sh_fh x aO aH n rt h).2) hKu.kx) rfl rfl rfl hl.1 (Nat.le_of_ble_eq_true rfl) dX3_collect_18 ⟨Nat.le_of_ble_eq_true rfl, Nat.le_of_ble_eq_true rfl⟩ (fun E ce q9 g9 H locs hp9 hM hce hcv hcl => ?_) (fun v9 g9 H locs hp9 hM => ?_)
      · exact (hp9.elim fun _ h9 => h9.2.elim)
      obtain ⟨h18, rfl, hp9⟩ := hp9
      obtain ⟨rfl, rfl⟩ := hp9
      refine W.eq (g2 := F0 m 21 ls [.int ((cr_s aO n rt ta (sh_fh x aO aH n rt h).2 3).1), .int (-1)]) rfl ?_
      refine lv_isub hx hb dX3_collect_21 ?_
      refine mw_iret hC hM hr hlk dX3_collect_22 (Nat.le_of_ble_eq_true rfl) (Nat.le_of_ble_eq_true rfl) ⟨_, rfl, ?_⟩
      exact Or.inl ⟨c5, c13, rfl, rfl⟩

theorem sh_8 (k : Int32) : k = 0 ∨ k = 1 ∨ k = 2 ∨ k = 3 ∨ k = 4 ∨ k = 5 ∨ k = 6 ∨ k = 7 ∨ (k.toInt < 0 ∨ 7 < k.toInt) := by
  rcases pk_ix k (n := 8) (by decide) with h | h | ⟨j, hj, rfl⟩
  · exact Or.inr (Or.inr (Or.inr (Or.inr (Or.inr (Or.inr (Or.inr (Or.inr (Or.inl (Int32.lt_iff_toInt_lt.mp h)))))))))
  · exact Or.inr (Or.inr (Or.inr (Or.inr (Or.inr (Or.inr (Or.inr (Or.inr (Or.inr (Int.lt_of_lt_of_le (by decide) (Int32.le_iff_toInt_le.mp h))))))))))
  · rcases (show j = 0 ∨ j = 1 ∨ j = 2 ∨ j = 3 ∨ j = 4 ∨ j = 5 ∨ j = 6 ∨ j = 7 by omega) with rfl | rfl | rfl | rfl | rfl | rfl | rfl | rfl <;> decide
def sh_cn (x aO aH n : Nat) (rt ta : Nat → Nat) (h : th_S) (k : Int32) (v : Option Value) (h' : th_S) : Prop :=
  (h = h' ∧ ((k = 0 ∧ v = some (.int (h.2.1 x 4))) ∨ (k = 1 ∧ v = some (.int (h.2.1 x 6))) ∨ (k = 2 ∧ v = some (.int (h.2.1 x 7))) ∨ (k = 3 ∧ v = some (.int (sh_wl x ta h))) ∨ (k = 4 ∧ v = some (.int (sh_ac ta h))) ∨ (k = 5 ∧ v = some (.int (h.2.1 x 9))) ∨ (k = 6 ∧ v = some (.int (h.2.1 x 10))))) ∨
  (k = 7 ∧ h' = (sh_fh x aO aH n rt h).2 ∧ v = some (.int (nI (sh_fh x aO aH n rt h).1)))

-- StableHeap.count
set_option maxHeartbeats 4000000 in
set_option maxRecDepth 100000 in
theorem c_X3_count (l : Launch) (hl0 : l.stackTraces = false) (D : va_G) (cs : Nat → ClassId) (h : th_S) (sz : Nat) (x aR aO aH aT : Nat) (rt ta : Nat → Nat) (hK : sh_K x aR aO aH aT rt ta h) (n : Nat) (hO : sh_O x aO n h) (k : Int32) : th_M l yX3_count wsX3_count { frames := 6, cells := 1, slots := 6, locals := 90 } D cs h sz [.ref x, .int k] (fun v h' => sh_cn x aO aH n rt ta h k v h') (fun E h' => E = "java/lang/IllegalArgumentException" ∧ h = h' ∧ (k.toInt < 0 ∨ 7 < k.toInt)) := by
  refine mw_ofW (cc := cX3_count) (maxL := 2) (ret := (some .int)) (by decide) rfl (fun w h => List.mem_cons_of_mem _ h) th_cd (Nat.le_of_ble_eq_true rfl) ?_
  intro p e s m below meth c hsz hC hr hlk hnm htab hM ls hl
  have hC : th_C D cs h p m c cX3_count 2 s [.ref x, .int k] RX3 := hC
  have hx := hC.1.1
  have hb := hC.1.2.1
  have kx0 : h.1 x = some (0, 0) := hK.kx
  have hl : lv_has ls 2 [(0, .ref x), (1, .int k)] := hl
  refine lv_iload_n hx hb dX3_count_0 rfl (lv_at hl 1 rfl) ?_
  rcases sh_8 k with rfl | rfl | rfl | rfl | rfl | rfl | rfl | rfl | hk
  · refine lv_tableIn (x := 0) (off := 47) (tgt := 48) hx hb dX3_count_1 (by decide) (by decide) (by decide) (by decide) ?_
    refine lv_aload_n hx hb dX3_count_48 rfl (lv_at hl 0 rfl) ?_
    refine gi_0_4 (index := 60) hC hM kx0 mb_128 dX3_count_49 ?_
    refine mw_iret hC hM hr hlk dX3_count_52 (Nat.le_of_ble_eq_true rfl) (Nat.le_of_ble_eq_true rfl) ⟨_, rfl, ?_⟩
    exact Or.inl ⟨rfl, Or.inl ⟨rfl, rfl⟩⟩
  · refine lv_tableIn (x := 1) (off := 52) (tgt := 53) hx hb dX3_count_1 (by decide) (by decide) (by decide) (by decide) ?_
    refine lv_aload_n hx hb dX3_count_53 rfl (lv_at hl 0 rfl) ?_
    refine gi_0_6 (index := 68) hC hM kx0 mb_130 dX3_count_54 ?_
    refine mw_iret hC hM hr hlk dX3_count_57 (Nat.le_of_ble_eq_true rfl) (Nat.le_of_ble_eq_true rfl) ⟨_, rfl, ?_⟩
    exact Or.inl ⟨rfl, Or.inr (Or.inl ⟨rfl, rfl⟩)⟩
  · refine lv_tableIn (x := 2) (off := 57) (tgt := 58) hx hb dX3_count_1 (by decide) (by decide) (by decide) (by decide) ?_
    refine lv_aload_n hx hb dX3_count_58 rfl (lv_at hl 0 rfl) ?_
    refine gi_0_7 (index := 57) hC hM kx0 mb_131 dX3_count_59 ?_
    refine mw_iret hC hM hr hlk dX3_count_62 (Nat.le_of_ble_eq_true rfl) (Nat.le_of_ble_eq_true rfl) ⟨_, rfl, ?_⟩
    exact Or.inl ⟨rfl, Or.inr (Or.inr (Or.inl ⟨rfl, rfl⟩))⟩
  · refine lv_tableIn (x := 3) (off := 62) (tgt := 63) hx hb dX3_count_1 (by decide) (by decide) (by decide) (by decide) ?_
    refine lv_aload_n hx hb dX3_count_63 rfl (lv_at hl 0 rfl) ?_
    refine mw_callV (As := []) (rest := []) (n := 0) (C := RX3) (T := TX3) (N := 11) (ci := 3) hC hM (c_X3_wordsInLog l hl0 D cs h s.heap.size x aR aO aH aT rt ta hK) (cwV 0 hC.1.2.2.2.2 (tb_V mb_162 mb_163 mb_0 mb_36 mb_164) rfl rfl rfl (by decide +kernel) ⟨Nat.le_of_ble_eq_true rfl, Nat.le_of_ble_eq_true rfl⟩) (th_at (h := h) kx0) rfl rfl rfl hl.1 (Nat.le_of_ble_eq_true rfl) dX3_count_64 ⟨Nat.le_of_ble_eq_true rfl, Nat.le_of_ble_eq_true rfl⟩ (fun E ce q9 g9 H locs hp9 hM hce hcv hcl => ?_) (fun v9 g9 H locs hp9 hM => ?_)
    · exact (hp9.elim fun _ h9 => h9.2.elim)
    obtain ⟨h64, rfl, hp9⟩ := hp9
    obtain ⟨rfl, rfl⟩ := hp9
    refine W.eq (g2 := F0 m 67 ls [.int (sh_wl x ta h)]) rfl ?_
    refine mw_iret hC hM hr hlk dX3_count_67 (Nat.le_of_ble_eq_true rfl) (Nat.le_of_ble_eq_true rfl) ⟨_, rfl, ?_⟩
    exact Or.inl ⟨rfl, Or.inr (Or.inr (Or.inr (Or.inl ⟨rfl, rfl⟩)))⟩
  · refine lv_tableIn (x := 4) (off := 67) (tgt := 68) hx hb dX3_count_1 (by decide) (by decide) (by decide) (by decide) ?_
    refine lv_aload_n hx hb dX3_count_68 rfl (lv_at hl 0 rfl) ?_
    refine mw_callV (As := []) (rest := []) (n := 0) (C := RX3) (T := TX3) (N := 11) (ci := 3) hC hM (c_X3_activeTransactions l hl0 D cs h s.heap.size x aR aO aH aT rt ta hK) (cwV 0 hC.1.2.2.2.2 (tb_V mb_481 mb_482 mb_16 mb_36 mb_483) rfl rfl rfl (by decide +kernel) ⟨Nat.le_of_ble_eq_true rfl, Nat.le_of_ble_eq_true rfl⟩) (th_at (h := h) kx0) rfl rfl rfl hl.1 (Nat.le_of_ble_eq_true rfl) dX3_count_69 ⟨Nat.le_of_ble_eq_true rfl, Nat.le_of_ble_eq_true rfl⟩ (fun E ce q9 g9 H locs hp9 hM hce hcv hcl => ?_) (fun v9 g9 H locs hp9 hM => ?_)
    · exact (hp9.elim fun _ h9 => h9.2.elim)
    obtain ⟨h69, rfl, hp9⟩ := hp9
    obtain ⟨rfl, rfl⟩ := hp9
    refine W.eq (g2 := F0 m 72 ls [.int (sh_ac ta h)]) rfl ?_
    refine mw_iret hC hM hr hlk dX3_count_72 (Nat.le_of_ble_eq_true rfl) (Nat.le_of_ble_eq_true rfl) ⟨_, rfl, ?_⟩
    exact Or.inl ⟨rfl, Or.inr (Or.inr (Or.inr (Or.inr (Or.inl ⟨rfl, rfl⟩))))⟩
  · refine lv_tableIn (x := 5) (off := 72) (tgt := 73) hx hb dX3_count_1 (by decide) (by decide) (by decide) (by decide) ?_
    refine lv_aload_n hx hb dX3_count_73 rfl (lv_at hl 0 rfl) ?_
    refine gi_0_9 (index := 39) hC hM kx0 mb_133 dX3_count_74 ?_
    refine mw_iret hC hM hr hlk dX3_count_77 (Nat.le_of_ble_eq_true rfl) (Nat.le_of_ble_eq_true rfl) ⟨_, rfl, ?_⟩
    exact Or.inl ⟨rfl, Or.inr (Or.inr (Or.inr (Or.inr (Or.inr (Or.inl ⟨rfl, rfl⟩)))))⟩
  · refine lv_tableIn (x := 6) (off := 77) (tgt := 78) hx hb dX3_count_1 (by decide) (by decide) (by decide) (by decide) ?_
    refine lv_aload_n hx hb dX3_count_78 rfl (lv_at hl 0 rfl) ?_
    refine gi_0_10 (index := 170) hC hM kx0 mb_134 dX3_count_79 ?_
    refine mw_iret hC hM hr hlk dX3_count_82 (Nat.le_of_ble_eq_true rfl) (Nat.le_of_ble_eq_true rfl) ⟨_, rfl, ?_⟩
    exact Or.inl ⟨rfl, Or.inr (Or.inr (Or.inr (Or.inr (Or.inr (Or.inr (⟨rfl, rfl⟩))))))⟩
  · refine lv_tableIn (x := 7) (off := 82) (tgt := 83) hx hb dX3_count_1 (by decide) (by decide) (by decide) (by decide) ?_
    refine lv_aload_n hx hb dX3_count_83 rfl (lv_at hl 0 rfl) ?_
    refine mw_callV (As := []) (rest := []) (n := 0) (C := RX3) (T := TX3) (N := 11) (ci := 3) hC hM (c_X3_findHeld l hl0 D cs h s.heap.size x aR aO aH aT rt ta hK n hO) (cwV 0 hC.1.2.2.2.2 (tb_V mb_192 mb_193 mb_2 mb_36 mb_194) rfl rfl rfl (by decide +kernel) ⟨Nat.le_of_ble_eq_true rfl, Nat.le_of_ble_eq_true rfl⟩) (th_at (h := h) kx0) rfl rfl rfl hl.1 (Nat.le_of_ble_eq_true rfl) dX3_count_84 ⟨Nat.le_of_ble_eq_true rfl, Nat.le_of_ble_eq_true rfl⟩ (fun E ce q9 g9 H locs hp9 hM hce hcv hcl => ?_) (fun v9 g9 H locs hp9 hM => ?_)
    · exact (hp9.elim fun _ h9 => h9.2.elim)
    obtain ⟨h84, rfl, hp9⟩ := hp9
    obtain ⟨rfl, rfl⟩ := hp9
    obtain ⟨hKu, hCu, hOu, hWu⟩ := fh_I.fw (x := x) (aH := aH) 80 0 (fh_3_I hK hO (Nat.le_refl n))
    refine W.eq (g2 := F0 m 87 ls []) rfl ?_
    refine lv_aload_n hx hb dX3_count_87 rfl (lv_at hl 0 rfl) ?_
    refine gi_0_5 (index := 150) hC hM hKu.kx mb_129 dX3_count_88 ?_
    rw [show ((sh_fh x aO aH n rt h).2).2.1 x 5 = nI (sh_fh x aO aH n rt h).1 from hCu.1]
    refine mw_iret hC hM hr hlk dX3_count_91 (Nat.le_of_ble_eq_true rfl) (Nat.le_of_ble_eq_true rfl) ⟨_, rfl, ?_⟩
    exact Or.inr ⟨rfl, rfl, rfl⟩
  · refine lv_tableOut (tgt := 92) hx hb dX3_count_1 hk (by decide) ?_
    refine mw_throw (cls := "java/lang/IllegalArgumentException") (names := ["java/lang/RuntimeException", "java/lang/Exception"]) (ik := 50) (is := 173) (ic := 54) hC hM htab hlk hl0 sx_173 (by decide +kernel) (by decide +kernel) mb_325 mb_47 tg_54 tn_54 to_54 hl.1 dX3_count_92 dX3_count_95 dX3_count_96 dX3_count_98 dX3_count_101 (Nat.le_of_ble_eq_true rfl) (Nat.le_of_ble_eq_true rfl) (Nat.le_of_ble_eq_true rfl) (Nat.le_of_ble_eq_true rfl) (Nat.le_of_ble_eq_true rfl) (Nat.le_of_ble_eq_true rfl) ⟨_, rfl, ?_⟩
    exact ⟨rfl, rfl, hk⟩

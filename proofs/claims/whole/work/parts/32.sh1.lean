/-! StableHeap: looks and searches -/
theorem sh_a0 {n : Int32} (h : (if n = 0 then (0 : Int32) else 1) = 0) : n = 0 := Decidable.byContradiction fun q => by simp [q] at h
theorem sh_a1 {n : Int32} (h : ¬ (if n = 0 then (0 : Int32) else 1) = 0) : ¬ n = 0 := fun q => h (by simp [q])
def sh_wl (x : Nat) (ta : Nat → Nat) (h : th_S) : Int32 := h.2.1 x 8 + h.2.1 (ta 0) 1 + h.2.1 (ta 1) 1 + h.2.1 (ta 2) 1
def sh_ac (ta : Nat → Nat) (h : th_S) : Int32 := (if h.2.1 (ta 0) 0 = 0 then 0 else 1) + (if h.2.1 (ta 1) 0 = 0 then 0 else 1) + (if h.2.1 (ta 2) 0 = 0 then 0 else 1)
def sh_tx (ta : Nat → Nat) (h : th_S) (k : Int32) (i : Nat) : Prop := i < 3 ∧ ¬ h.2.1 (ta i) 0 = 0 ∧ h.2.1 (ta i) 0 = k
def sh_nt (ta : Nat → Nat) (h : th_S) (k : Int32) : Prop := ∀ i, i < 3 → h.2.1 (ta i) 0 = 0 ∨ ¬ h.2.1 (ta i) 0 = k
def sh_hd (h : th_S) (r : Option Nat) : Int32 := match r with
  | none => 0
  | some b => h.2.1 b 0
theorem sh_lt3 {P : Nat → Prop} (h0 : P 0) (h1 : P 1) (h2 : P 2) : ∀ i, i < 3 → P i := fun i hi => by
  rcases (show i = 0 ∨ i = 1 ∨ i = 2 by omega) with rfl | rfl | rfl
  · exact h0
  · exact h1
  · exact h2

-- StableHeap.wordsInLog
set_option maxHeartbeats 4000000 in
set_option maxRecDepth 100000 in
theorem c_X3_wordsInLog (l : Launch) (hl0 : l.stackTraces = false) (D : va_G) (cs : Nat → ClassId) (h : th_S) (sz : Nat) (x aR aO aH aT : Nat) (rt ta : Nat → Nat) (hK : sh_K x aR aO aH aT rt ta h) : th_M l yX3_wordsInLog wsX3_wordsInLog { frames := 0, cells := 0, slots := 0, locals := 0 } D cs h sz [.ref x] (fun v h' => h = h' ∧ v = some (.int (sh_wl x ta h))) (fun E h' => False) := by
  refine mw_ofW (cc := cX3_wordsInLog) (maxL := 3) (ret := (some .int)) (by decide) rfl (fun w h => List.mem_cons_of_mem _ h) th_cd (Nat.le_of_ble_eq_true rfl) ?_
  intro p e s m below meth c hsz hC hr hlk hnm htab hM ls hl
  have hC : th_C D cs h p m c cX3_wordsInLog 3 s [.ref x] RX3 := hC
  have hx := hC.1.1
  have hb := hC.1.2.1
  have kx0 : h.1 x = some (0, 0) := hK.kx
  have hl : lv_has ls 3 [(0, .ref x)] := hl
  refine lv_aload_n hx hb dX3_wordsInLog_0 rfl (lv_at hl 0 rfl) ?_
  refine gi_0_8 (index := 131) hC hM kx0 mb_132 dX3_wordsInLog_1 ?_
  refine lv_istore_n (lv' := [(1, .int (h.2.1 x 8)), (0, .ref x)]) hx hb dX3_wordsInLog_4 rfl hl (by decide) rfl (fun ls hl => ?_)
  refine lv_iconst (v := 0) hx hb dX3_wordsInLog_5 (by decide) ?_
  refine lv_istore_n (lv' := [(2, .int 0), (1, .int (h.2.1 x 8)), (0, .ref x)]) hx hb dX3_wordsInLog_6 rfl hl (by decide) rfl (fun ls hl => ?_)
  refine lv_iload_n hx hb dX3_wordsInLog_7 rfl (lv_at hl 0 rfl) ?_
  refine lv_iconst (v := 3) hx hb dX3_wordsInLog_8 (by decide) ?_
  refine lv_icmp_ge (tgt := 30) hx hb dX3_wordsInLog_9 (by decide) (fun c9 => ?_) (fun c9 => ?_)
  · exact absurd c9 (by decide)
  · refine lv_iload_n hx hb dX3_wordsInLog_12 rfl (lv_at hl 1 rfl) ?_
    refine lv_aload_n hx hb dX3_wordsInLog_13 rfl (lv_at hl 2 rfl) ?_
    refine gr_0_3 (index := 26) hC hM kx0 mb_127 dX3_wordsInLog_14 hK.xT ?_
    refine lv_iload_n hx hb dX3_wordsInLog_17 rfl (lv_at hl 0 rfl) ?_
    refine al_5 (i := 0) hC hM hK.kT (rfl) (by decide) (by first | decide | omega) (hK.rta (by decide)) dX3_wordsInLog_18 ?_
    refine gi_1_1 (index := 134) hC hM (hK.kta (by decide)) mb_118 dX3_wordsInLog_19 ?_
    refine lv_iadd hx hb dX3_wordsInLog_22 ?_
    refine lv_istore_n (lv' := [(1, .int ((h.2.1 x 8) + (h.2.1 (ta 0) 1))), (2, .int 0), (0, .ref x)]) hx hb dX3_wordsInLog_23 rfl hl (by decide) rfl (fun ls hl => ?_)
    refine lv_iinc (v := 1) (lv' := [(2, .int 1), (1, .int ((h.2.1 x 8) + (h.2.1 (ta 0) 1))), (0, .ref x)]) hx hb dX3_wordsInLog_24 hl (k := 1) rfl (by decide) (by first | decide | omega) rfl (fun ls hl => ?_)
    refine lv_goto (tgt := 7) hx hb dX3_wordsInLog_27 (by decide) ?_
    refine lv_iload_n hx hb dX3_wordsInLog_7 rfl (lv_at hl 0 rfl) ?_
    refine lv_iconst (v := 3) hx hb dX3_wordsInLog_8 (by decide) ?_
    refine lv_icmp_ge (tgt := 30) hx hb dX3_wordsInLog_9 (by decide) (fun c9_1 => ?_) (fun c9_1 => ?_)
    · exact absurd c9_1 (by decide)
    · refine lv_iload_n hx hb dX3_wordsInLog_12 rfl (lv_at hl 1 rfl) ?_
      refine lv_aload_n hx hb dX3_wordsInLog_13 rfl (lv_at hl 2 rfl) ?_
      refine gr_0_3 (index := 26) hC hM kx0 mb_127 dX3_wordsInLog_14 hK.xT ?_
      refine lv_iload_n hx hb dX3_wordsInLog_17 rfl (lv_at hl 0 rfl) ?_
      refine al_5 (i := 1) hC hM hK.kT (rfl) (by decide) (by first | decide | omega) (hK.rta (by decide)) dX3_wordsInLog_18 ?_
      refine gi_1_1 (index := 134) hC hM (hK.kta (by decide)) mb_118 dX3_wordsInLog_19 ?_
      refine lv_iadd hx hb dX3_wordsInLog_22 ?_
      refine lv_istore_n (lv' := [(1, .int (((h.2.1 x 8) + (h.2.1 (ta 0) 1)) + (h.2.1 (ta 1) 1))), (2, .int 1), (0, .ref x)]) hx hb dX3_wordsInLog_23 rfl hl (by decide) rfl (fun ls hl => ?_)
      refine lv_iinc (v := 2) (lv' := [(2, .int 2), (1, .int (((h.2.1 x 8) + (h.2.1 (ta 0) 1)) + (h.2.1 (ta 1) 1))), (0, .ref x)]) hx hb dX3_wordsInLog_24 hl (k := 1) rfl (by decide) (by first | decide | omega) rfl (fun ls hl => ?_)
      refine lv_goto (tgt := 7) hx hb dX3_wordsInLog_27 (by decide) ?_
      refine lv_iload_n hx hb dX3_wordsInLog_7 rfl (lv_at hl 0 rfl) ?_
      refine lv_iconst (v := 3) hx hb dX3_wordsInLog_8 (by decide) ?_
      refine lv_icmp_ge (tgt := 30) hx hb dX3_wordsInLog_9 (by decide) (fun c9_2 => ?_) (fun c9_2 => ?_)
      · exact absurd c9_2 (by decide)
      · refine lv_iload_n hx hb dX3_wordsInLog_12 rfl (lv_at hl 1 rfl) ?_
        refine lv_aload_n hx hb dX3_wordsInLog_13 rfl (lv_at hl 2 rfl) ?_
        refine gr_0_3 (index := 26) hC hM kx0 mb_127 dX3_wordsInLog_14 hK.xT ?_
        refine lv_iload_n hx hb dX3_wordsInLog_17 rfl (lv_at hl 0 rfl) ?_
        refine al_5 (i := 2) hC hM hK.kT (rfl) (by decide) (by first | decide | omega) (hK.rta (by decide)) dX3_wordsInLog_18 ?_
        refine gi_1_1 (index := 134) hC hM (hK.kta (by decide)) mb_118 dX3_wordsInLog_19 ?_
        refine lv_iadd hx hb dX3_wordsInLog_22 ?_
        refine lv_istore_n (lv' := [(1, .int ((((h.2.1 x 8) + (h.2.1 (ta 0) 1)) + (h.2.1 (ta 1) 1)) + (h.2.1 (ta 2) 1))), (2, .int 2), (0, .ref x)]) hx hb dX3_wordsInLog_23 rfl hl (by decide) rfl (fun ls hl => ?_)
        refine lv_iinc (v := 3) (lv' := [(2, .int 3), (1, .int ((((h.2.1 x 8) + (h.2.1 (ta 0) 1)) + (h.2.1 (ta 1) 1)) + (h.2.1 (ta 2) 1))), (0, .ref x)]) hx hb dX3_wordsInLog_24 hl (k := 1) rfl (by decide) (by first | decide | omega) rfl (fun ls hl => ?_)
        refine lv_goto (tgt := 7) hx hb dX3_wordsInLog_27 (by decide) ?_
        refine lv_iload_n hx hb dX3_wordsInLog_7 rfl (lv_at hl 0 rfl) ?_
        refine lv_iconst (v := 3) hx hb dX3_wordsInLog_8 (by decide) ?_
        refine lv_icmp_ge (tgt := 30) hx hb dX3_wordsInLog_9 (by decide) (fun c9_3 => ?_) (fun c9_3 => ?_)
        · refine lv_iload_n hx hb dX3_wordsInLog_30 rfl (lv_at hl 1 rfl) ?_
          refine mw_iret hC hM hr hlk dX3_wordsInLog_31 (Nat.le_of_ble_eq_true rfl) (Nat.le_of_ble_eq_true rfl) ⟨_, rfl, ?_⟩
          exact ⟨rfl, rfl⟩
        · exact absurd c9_3 (by decide)

-- StableHeap.activeTransactions
set_option maxHeartbeats 4000000 in
set_option maxRecDepth 100000 in
theorem c_X3_activeTransactions (l : Launch) (hl0 : l.stackTraces = false) (D : va_G) (cs : Nat → ClassId) (h : th_S) (sz : Nat) (x aR aO aH aT : Nat) (rt ta : Nat → Nat) (hK : sh_K x aR aO aH aT rt ta h) : th_M l yX3_activeTransactions wsX3_activeTransactions { frames := 1, cells := 0, slots := 0, locals := 20 } D cs h sz [.ref x] (fun v h' => h = h' ∧ v = some (.int (sh_ac ta h))) (fun E h' => False) := by
  refine mw_ofW (cc := cX3_activeTransactions) (maxL := 3) (ret := (some .int)) (by decide) rfl (fun w h => List.mem_cons_of_mem _ h) th_cd (Nat.le_of_ble_eq_true rfl) ?_
  intro p e s m below meth c hsz hC hr hlk hnm htab hM ls hl
  have hC : th_C D cs h p m c cX3_activeTransactions 3 s [.ref x] RX3 := hC
  have hx := hC.1.1
  have hb := hC.1.2.1
  have kx0 : h.1 x = some (0, 0) := hK.kx
  have hl : lv_has ls 3 [(0, .ref x)] := hl
  refine lv_iconst (v := 0) hx hb dX3_activeTransactions_0 (by decide) ?_
  refine lv_istore_n (lv' := [(1, .int 0), (0, .ref x)]) hx hb dX3_activeTransactions_1 rfl hl (by decide) rfl (fun ls hl => ?_)
  refine lv_iconst (v := 0) hx hb dX3_activeTransactions_2 (by decide) ?_
  refine lv_istore_n (lv' := [(2, .int 0), (1, .int 0), (0, .ref x)]) hx hb dX3_activeTransactions_3 rfl hl (by decide) rfl (fun ls hl => ?_)
  refine lv_iload_n hx hb dX3_activeTransactions_4 rfl (lv_at hl 0 rfl) ?_
  refine lv_iconst (v := 3) hx hb dX3_activeTransactions_5 (by decide) ?_
  refine lv_icmp_ge (tgt := 30) hx hb dX3_activeTransactions_6 (by decide) (fun c6 => ?_) (fun c6 => ?_)
  · exact absurd c6 (by decide)
  · refine lv_aload_n hx hb dX3_activeTransactions_9 rfl (lv_at hl 2 rfl) ?_
    refine gr_0_3 (index := 26) hC hM kx0 mb_127 dX3_activeTransactions_10 hK.xT ?_
    refine lv_iload_n hx hb dX3_activeTransactions_13 rfl (lv_at hl 0 rfl) ?_
    refine al_5 (i := 0) hC hM hK.kT (rfl) (by decide) (by first | decide | omega) (hK.rta (by decide)) dX3_activeTransactions_14 ?_
    refine mw_callV (As := []) (rest := []) (n := 0) (C := RX2) (T := TX2) (N := 2) (ci := 2) hC hM (c_X2_isActive l hl0 D cs h s.heap.size (ta 0) (hK.kta (by decide))) (cwV 0 hC.1.2.2.2.2 (tb_V mb_169 mb_170 mb_171 mb_39 mb_172) rfl rfl rfl (by decide +kernel) ⟨Nat.le_of_ble_eq_true rfl, Nat.le_of_ble_eq_true rfl⟩) (th_at (h := h) (hK.kta (by decide))) rfl rfl rfl hl.1 (Nat.le_of_ble_eq_true rfl) dX3_activeTransactions_15 ⟨Nat.le_of_ble_eq_true rfl, Nat.le_of_ble_eq_true rfl⟩ (fun E ce q9 g9 H locs hp9 hM hce hcv hcl => ?_) (fun v9 g9 H locs hp9 hM => ?_)
    · exact (hp9.elim fun _ h9 => h9.2.elim)
    obtain ⟨h15, rfl, hp9⟩ := hp9
    obtain ⟨rfl, rfl⟩ := hp9
    refine W.eq (g2 := F0 m 18 ls [.int (if h.2.1 (ta 0) 0 = 0 then 0 else 1)]) rfl ?_
    refine lv_if_eq (tgt := 24) hx hb dX3_activeTransactions_18 (by decide) (fun c18 => ?_) (fun c18 => ?_)
    · have c18 := sh_a0 c18
      refine lv_iinc (v := 1) (lv' := [(2, .int 1), (1, .int 0), (0, .ref x)]) hx hb dX3_activeTransactions_24 hl (k := 0) rfl (by decide) (by first | decide | omega) rfl (fun ls hl => ?_)
      refine lv_goto (tgt := 4) hx hb dX3_activeTransactions_27 (by decide) ?_
      refine lv_iload_n hx hb dX3_activeTransactions_4 rfl (lv_at hl 0 rfl) ?_
      refine lv_iconst (v := 3) hx hb dX3_activeTransactions_5 (by decide) ?_
      refine lv_icmp_ge (tgt := 30) hx hb dX3_activeTransactions_6 (by decide) (fun c6_1 => ?_) (fun c6_1 => ?_)
      · exact absurd c6_1 (by decide)
      · refine lv_aload_n hx hb dX3_activeTransactions_9 rfl (lv_at hl 2 rfl) ?_
        refine gr_0_3 (index := 26) hC hM kx0 mb_127 dX3_activeTransactions_10 hK.xT ?_
        refine lv_iload_n hx hb dX3_activeTransactions_13 rfl (lv_at hl 0 rfl) ?_
        refine al_5 (i := 1) hC hM hK.kT (rfl) (by decide) (by first | decide | omega) (hK.rta (by decide)) dX3_activeTransactions_14 ?_
        refine mw_callV (As := []) (rest := []) (n := 0) (C := RX2) (T := TX2) (N := 2) (ci := 2) hC hM (c_X2_isActive l hl0 D cs h H.size (ta 1) (hK.kta (by decide))) (cwV 0 hC.1.2.2.2.2 (tb_V mb_169 mb_170 mb_171 mb_39 mb_172) rfl rfl rfl (by decide +kernel) ⟨Nat.le_of_ble_eq_true rfl, Nat.le_of_ble_eq_true rfl⟩) (th_at (h := h) (hK.kta (by decide))) rfl rfl rfl hl.1 (Nat.le_of_ble_eq_true rfl) dX3_activeTransactions_15 ⟨Nat.le_of_ble_eq_true rfl, Nat.le_of_ble_eq_true rfl⟩ (fun E ce q9 g9 H locs hp9 hM hce hcv hcl => ?_) (fun v9 g9 H locs hp9 hM => ?_)
        · exact (hp9.elim fun _ h9 => h9.2.elim)
        obtain ⟨h15, rfl, hp9⟩ := hp9
        obtain ⟨rfl, rfl⟩ := hp9
        refine W.eq (g2 := F0 m 18 ls [.int (if h.2.1 (ta 1) 0 = 0 then 0 else 1)]) rfl ?_
        refine lv_if_eq (tgt := 24) hx hb dX3_activeTransactions_18 (by decide) (fun c18_1 => ?_) (fun c18_1 => ?_)
        · have c18_1 := sh_a0 c18_1
          refine lv_iinc (v := 2) (lv' := [(2, .int 2), (1, .int 0), (0, .ref x)]) hx hb dX3_activeTransactions_24 hl (k := 0) rfl (by decide) (by first | decide | omega) rfl (fun ls hl => ?_)
          refine lv_goto (tgt := 4) hx hb dX3_activeTransactions_27 (by decide) ?_
          refine lv_iload_n hx hb dX3_activeTransactions_4 rfl (lv_at hl 0 rfl) ?_
          refine lv_iconst (v := 3) hx hb dX3_activeTransactions_5 (by decide) ?_
          refine lv_icmp_ge (tgt := 30) hx hb dX3_activeTransactions_6 (by decide) (fun c6_2 => ?_) (fun c6_2 => ?_)
          · exact absurd c6_2 (by decide)
          · refine lv_aload_n hx hb dX3_activeTransactions_9 rfl (lv_at hl 2 rfl) ?_
            refine gr_0_3 (index := 26) hC hM kx0 mb_127 dX3_activeTransactions_10 hK.xT ?_
            refine lv_iload_n hx hb dX3_activeTransactions_13 rfl (lv_at hl 0 rfl) ?_
            refine al_5 (i := 2) hC hM hK.kT (rfl) (by decide) (by first | decide | omega) (hK.rta (by decide)) dX3_activeTransactions_14 ?_
            refine mw_callV (As := []) (rest := []) (n := 0) (C := RX2) (T := TX2) (N := 2) (ci := 2) hC hM (c_X2_isActive l hl0 D cs h H.size (ta 2) (hK.kta (by decide))) (cwV 0 hC.1.2.2.2.2 (tb_V mb_169 mb_170 mb_171 mb_39 mb_172) rfl rfl rfl (by decide +kernel) ⟨Nat.le_of_ble_eq_true rfl, Nat.le_of_ble_eq_true rfl⟩) (th_at (h := h) (hK.kta (by decide))) rfl rfl rfl hl.1 (Nat.le_of_ble_eq_true rfl) dX3_activeTransactions_15 ⟨Nat.le_of_ble_eq_true rfl, Nat.le_of_ble_eq_true rfl⟩ (fun E ce q9 g9 H locs hp9 hM hce hcv hcl => ?_) (fun v9 g9 H locs hp9 hM => ?_)
            · exact (hp9.elim fun _ h9 => h9.2.elim)
            obtain ⟨h15, rfl, hp9⟩ := hp9
            obtain ⟨rfl, rfl⟩ := hp9
            refine W.eq (g2 := F0 m 18 ls [.int (if h.2.1 (ta 2) 0 = 0 then 0 else 1)]) rfl ?_
            refine lv_if_eq (tgt := 24) hx hb dX3_activeTransactions_18 (by decide) (fun c18_2 => ?_) (fun c18_2 => ?_)
            · have c18_2 := sh_a0 c18_2
              refine lv_iinc (v := 3) (lv' := [(2, .int 3), (1, .int 0), (0, .ref x)]) hx hb dX3_activeTransactions_24 hl (k := 0) rfl (by decide) (by first | decide | omega) rfl (fun ls hl => ?_)
              refine lv_goto (tgt := 4) hx hb dX3_activeTransactions_27 (by decide) ?_
              refine lv_iload_n hx hb dX3_activeTransactions_4 rfl (lv_at hl 0 rfl) ?_
              refine lv_iconst (v := 3) hx hb dX3_activeTransactions_5 (by decide) ?_
              refine lv_icmp_ge (tgt := 30) hx hb dX3_activeTransactions_6 (by decide) (fun c6_3 => ?_) (fun c6_3 => ?_)
              · refine lv_iload_n hx hb dX3_activeTransactions_30 rfl (lv_at hl 1 rfl) ?_
                refine mw_iret hC hM hr hlk dX3_activeTransactions_31 (Nat.le_of_ble_eq_true rfl) (Nat.le_of_ble_eq_true rfl) ⟨_, rfl, ?_⟩
                exact ⟨rfl, by simp [sh_ac, c18, c18_1, c18_2]⟩
              · exact absurd c6_3 (by decide)
            · have c18_2 := sh_a1 c18_2
              refine lv_iinc (v := 1) (lv' := [(1, .int 1), (2, .int 2), (0, .ref x)]) hx hb dX3_activeTransactions_21 hl (k := 1) rfl (by decide) (by first | decide | omega) rfl (fun ls hl => ?_)
              refine lv_iinc (v := 3) (lv' := [(2, .int 3), (1, .int 1), (0, .ref x)]) hx hb dX3_activeTransactions_24 hl (k := 1) rfl (by decide) (by first | decide | omega) rfl (fun ls hl => ?_)
              refine lv_goto (tgt := 4) hx hb dX3_activeTransactions_27 (by decide) ?_
              refine lv_iload_n hx hb dX3_activeTransactions_4 rfl (lv_at hl 0 rfl) ?_
              refine lv_iconst (v := 3) hx hb dX3_activeTransactions_5 (by decide) ?_
              refine lv_icmp_ge (tgt := 30) hx hb dX3_activeTransactions_6 (by decide) (fun c6_3 => ?_) (fun c6_3 => ?_)
              · refine lv_iload_n hx hb dX3_activeTransactions_30 rfl (lv_at hl 1 rfl) ?_
                refine mw_iret hC hM hr hlk dX3_activeTransactions_31 (Nat.le_of_ble_eq_true rfl) (Nat.le_of_ble_eq_true rfl) ⟨_, rfl, ?_⟩
                exact ⟨rfl, by simp [sh_ac, c18, c18_1, c18_2]⟩
              · exact absurd c6_3 (by decide)
        · have c18_1 := sh_a1 c18_1
          refine lv_iinc (v := 1) (lv' := [(1, .int 1), (2, .int 1), (0, .ref x)]) hx hb dX3_activeTransactions_21 hl (k := 1) rfl (by decide) (by first | decide | omega) rfl (fun ls hl => ?_)
          refine lv_iinc (v := 2) (lv' := [(2, .int 2), (1, .int 1), (0, .ref x)]) hx hb dX3_activeTransactions_24 hl (k := 1) rfl (by decide) (by first | decide | omega) rfl (fun ls hl => ?_)
          refine lv_goto (tgt := 4) hx hb dX3_activeTransactions_27 (by decide) ?_
          refine lv_iload_n hx hb dX3_activeTransactions_4 rfl (lv_at hl 0 rfl) ?_
          refine lv_iconst (v := 3) hx hb dX3_activeTransactions_5 (by decide) ?_
          refine lv_icmp_ge (tgt := 30) hx hb dX3_activeTransactions_6 (by decide) (fun c6_2 => ?_) (fun c6_2 => ?_)
          · exact absurd c6_2 (by decide)
          · refine lv_aload_n hx hb dX3_activeTransactions_9 rfl (lv_at hl 2 rfl) ?_
            refine gr_0_3 (index := 26) hC hM kx0 mb_127 dX3_activeTransactions_10 hK.xT ?_
            refine lv_iload_n hx hb dX3_activeTransactions_13 rfl (lv_at hl 0 rfl) ?_
            refine al_5 (i := 2) hC hM hK.kT (rfl) (by decide) (by first | decide | omega) (hK.rta (by decide)) dX3_activeTransactions_14 ?_
            refine mw_callV (As := []) (rest := []) (n := 0) (C := RX2) (T := TX2) (N := 2) (ci := 2) hC hM (c_X2_isActive l hl0 D cs h H.size (ta 2) (hK.kta (by decide))) (cwV 0 hC.1.2.2.2.2 (tb_V mb_169 mb_170 mb_171 mb_39 mb_172) rfl rfl rfl (by decide +kernel) ⟨Nat.le_of_ble_eq_true rfl, Nat.le_of_ble_eq_true rfl⟩) (th_at (h := h) (hK.kta (by decide))) rfl rfl rfl hl.1 (Nat.le_of_ble_eq_true rfl) dX3_activeTransactions_15 ⟨Nat.le_of_ble_eq_true rfl, Nat.le_of_ble_eq_true rfl⟩ (fun E ce q9 g9 H locs hp9 hM hce hcv hcl => ?_) (fun v9 g9 H locs hp9 hM => ?_)
            · exact (hp9.elim fun _ h9 => h9.2.elim)
            obtain ⟨h15, rfl, hp9⟩ := hp9
            obtain ⟨rfl, rfl⟩ := hp9
            refine W.eq (g2 := F0 m 18 ls [.int (if h.2.1 (ta 2) 0 = 0 then 0 else 1)]) rfl ?_
            refine lv_if_eq (tgt := 24) hx hb dX3_activeTransactions_18 (by decide) (fun c18_2 => ?_) (fun c18_2 => ?_)
            · have c18_2 := sh_a0 c18_2
              refine lv_iinc (v := 3) (lv' := [(2, .int 3), (1, .int 1), (0, .ref x)]) hx hb dX3_activeTransactions_24 hl (k := 0) rfl (by decide) (by first | decide | omega) rfl (fun ls hl => ?_)
              refine lv_goto (tgt := 4) hx hb dX3_activeTransactions_27 (by decide) ?_
              refine lv_iload_n hx hb dX3_activeTransactions_4 rfl (lv_at hl 0 rfl) ?_
              refine lv_iconst (v := 3) hx hb dX3_activeTransactions_5 (by decide) ?_
              refine lv_icmp_ge (tgt := 30) hx hb dX3_activeTransactions_6 (by decide) (fun c6_3 => ?_) (fun c6_3 => ?_)
              · refine lv_iload_n hx hb dX3_activeTransactions_30 rfl (lv_at hl 1 rfl) ?_
                refine mw_iret hC hM hr hlk dX3_activeTransactions_31 (Nat.le_of_ble_eq_true rfl) (Nat.le_of_ble_eq_true rfl) ⟨_, rfl, ?_⟩
                exact ⟨rfl, by simp [sh_ac, c18, c18_1, c18_2]⟩
              · exact absurd c6_3 (by decide)
            · have c18_2 := sh_a1 c18_2
              refine lv_iinc (v := 2) (lv' := [(1, .int 2), (2, .int 2), (0, .ref x)]) hx hb dX3_activeTransactions_21 hl (k := 1) rfl (by decide) (by first | decide | omega) rfl (fun ls hl => ?_)
              refine lv_iinc (v := 3) (lv' := [(2, .int 3), (1, .int 2), (0, .ref x)]) hx hb dX3_activeTransactions_24 hl (k := 1) rfl (by decide) (by first | decide | omega) rfl (fun ls hl => ?_)
              refine lv_goto (tgt := 4) hx hb dX3_activeTransactions_27 (by decide) ?_
              refine lv_iload_n hx hb dX3_activeTransactions_4 rfl (lv_at hl 0 rfl) ?_
              refine lv_iconst (v := 3) hx hb dX3_activeTransactions_5 (by decide) ?_
              refine lv_icmp_ge (tgt := 30) hx hb dX3_activeTransactions_6 (by decide) (fun c6_3 => ?_) (fun c6_3 => ?_)
              · refine lv_iload_n hx hb dX3_activeTransactions_30 rfl (lv_at hl 1 rfl) ?_
                refine mw_iret hC hM hr hlk dX3_activeTransactions_31 (Nat.le_of_ble_eq_true rfl) (Nat.le_of_ble_eq_true rfl) ⟨_, rfl, ?_⟩
                exact ⟨rfl, by simp [sh_ac, c18, c18_1, c18_2]⟩
              · exact absurd c6_3 (by decide)
    · have c18 := sh_a1 c18
      refine lv_iinc (v := 1) (lv' := [(1, .int 1), (2, .int 0), (0, .ref x)]) hx hb dX3_activeTransactions_21 hl (k := 1) rfl (by decide) (by first | decide | omega) rfl (fun ls hl => ?_)
      refine lv_iinc (v := 1) (lv' := [(2, .int 1), (1, .int 1), (0, .ref x)]) hx hb dX3_activeTransactions_24 hl (k := 1) rfl (by decide) (by first | decide | omega) rfl (fun ls hl => ?_)
      refine lv_goto (tgt := 4) hx hb dX3_activeTransactions_27 (by decide) ?_
      refine lv_iload_n hx hb dX3_activeTransactions_4 rfl (lv_at hl 0 rfl) ?_
      refine lv_iconst (v := 3) hx hb dX3_activeTransactions_5 (by decide) ?_
      refine lv_icmp_ge (tgt := 30) hx hb dX3_activeTransactions_6 (by decide) (fun c6_1 => ?_) (fun c6_1 => ?_)
      · exact absurd c6_1 (by decide)
      · refine lv_aload_n hx hb dX3_activeTransactions_9 rfl (lv_at hl 2 rfl) ?_
        refine gr_0_3 (index := 26) hC hM kx0 mb_127 dX3_activeTransactions_10 hK.xT ?_
        refine lv_iload_n hx hb dX3_activeTransactions_13 rfl (lv_at hl 0 rfl) ?_
        refine al_5 (i := 1) hC hM hK.kT (rfl) (by decide) (by first | decide | omega) (hK.rta (by decide)) dX3_activeTransactions_14 ?_
        refine mw_callV (As := []) (rest := []) (n := 0) (C := RX2) (T := TX2) (N := 2) (ci := 2) hC hM (c_X2_isActive l hl0 D cs h H.size (ta 1) (hK.kta (by decide))) (cwV 0 hC.1.2.2.2.2 (tb_V mb_169 mb_170 mb_171 mb_39 mb_172) rfl rfl rfl (by decide +kernel) ⟨Nat.le_of_ble_eq_true rfl, Nat.le_of_ble_eq_true rfl⟩) (th_at (h := h) (hK.kta (by decide))) rfl rfl rfl hl.1 (Nat.le_of_ble_eq_true rfl) dX3_activeTransactions_15 ⟨Nat.le_of_ble_eq_true rfl, Nat.le_of_ble_eq_true rfl⟩ (fun E ce q9 g9 H locs hp9 hM hce hcv hcl => ?_) (fun v9 g9 H locs hp9 hM => ?_)
        · exact (hp9.elim fun _ h9 => h9.2.elim)
        obtain ⟨h15, rfl, hp9⟩ := hp9
        obtain ⟨rfl, rfl⟩ := hp9
        refine W.eq (g2 := F0 m 18 ls [.int (if h.2.1 (ta 1) 0 = 0 then 0 else 1)]) rfl ?_
        refine lv_if_eq (tgt := 24) hx hb dX3_activeTransactions_18 (by decide) (fun c18_1 => ?_) (fun c18_1 => ?_)
        · have c18_1 := sh_a0 c18_1
          refine lv_iinc (v := 2) (lv' := [(2, .int 2), (1, .int 1), (0, .ref x)]) hx hb dX3_activeTransactions_24 hl (k := 0) rfl (by decide) (by first | decide | omega) rfl (fun ls hl => ?_)
          refine lv_goto (tgt := 4) hx hb dX3_activeTransactions_27 (by decide) ?_
          refine lv_iload_n hx hb dX3_activeTransactions_4 rfl (lv_at hl 0 rfl) ?_
          refine lv_iconst (v := 3) hx hb dX3_activeTransactions_5 (by decide) ?_
          refine lv_icmp_ge (tgt := 30) hx hb dX3_activeTransactions_6 (by decide) (fun c6_2 => ?_) (fun c6_2 => ?_)
          · exact absurd c6_2 (by decide)
          · refine lv_aload_n hx hb dX3_activeTransactions_9 rfl (lv_at hl 2 rfl) ?_
            refine gr_0_3 (index := 26) hC hM kx0 mb_127 dX3_activeTransactions_10 hK.xT ?_
            refine lv_iload_n hx hb dX3_activeTransactions_13 rfl (lv_at hl 0 rfl) ?_
            refine al_5 (i := 2) hC hM hK.kT (rfl) (by decide) (by first | decide | omega) (hK.rta (by decide)) dX3_activeTransactions_14 ?_
            refine mw_callV (As := []) (rest := []) (n := 0) (C := RX2) (T := TX2) (N := 2) (ci := 2) hC hM (c_X2_isActive l hl0 D cs h H.size (ta 2) (hK.kta (by decide))) (cwV 0 hC.1.2.2.2.2 (tb_V mb_169 mb_170 mb_171 mb_39 mb_172) rfl rfl rfl (by decide +kernel) ⟨Nat.le_of_ble_eq_true rfl, Nat.le_of_ble_eq_true rfl⟩) (th_at (h := h) (hK.kta (by decide))) rfl rfl rfl hl.1 (Nat.le_of_ble_eq_true rfl) dX3_activeTransactions_15 ⟨Nat.le_of_ble_eq_true rfl, Nat.le_of_ble_eq_true rfl⟩ (fun E ce q9 g9 H locs hp9 hM hce hcv hcl => ?_) (fun v9 g9 H locs hp9 hM => ?_)
            · exact (hp9.elim fun _ h9 => h9.2.elim)
            obtain ⟨h15, rfl, hp9⟩ := hp9
            obtain ⟨rfl, rfl⟩ := hp9
            refine W.eq (g2 := F0 m 18 ls [.int (if h.2.1 (ta 2) 0 = 0 then 0 else 1)]) rfl ?_
            refine lv_if_eq (tgt := 24) hx hb dX3_activeTransactions_18 (by decide) (fun c18_2 => ?_) (fun c18_2 => ?_)
            · have c18_2 := sh_a0 c18_2
              refine lv_iinc (v := 3) (lv' := [(2, .int 3), (1, .int 1), (0, .ref x)]) hx hb dX3_activeTransactions_24 hl (k := 0) rfl (by decide) (by first | decide | omega) rfl (fun ls hl => ?_)
              refine lv_goto (tgt := 4) hx hb dX3_activeTransactions_27 (by decide) ?_
              refine lv_iload_n hx hb dX3_activeTransactions_4 rfl (lv_at hl 0 rfl) ?_
              refine lv_iconst (v := 3) hx hb dX3_activeTransactions_5 (by decide) ?_
              refine lv_icmp_ge (tgt := 30) hx hb dX3_activeTransactions_6 (by decide) (fun c6_3 => ?_) (fun c6_3 => ?_)
              · refine lv_iload_n hx hb dX3_activeTransactions_30 rfl (lv_at hl 1 rfl) ?_
                refine mw_iret hC hM hr hlk dX3_activeTransactions_31 (Nat.le_of_ble_eq_true rfl) (Nat.le_of_ble_eq_true rfl) ⟨_, rfl, ?_⟩
                exact ⟨rfl, by simp [sh_ac, c18, c18_1, c18_2]⟩
              · exact absurd c6_3 (by decide)
            · have c18_2 := sh_a1 c18_2
              refine lv_iinc (v := 2) (lv' := [(1, .int 2), (2, .int 2), (0, .ref x)]) hx hb dX3_activeTransactions_21 hl (k := 1) rfl (by decide) (by first | decide | omega) rfl (fun ls hl => ?_)
              refine lv_iinc (v := 3) (lv' := [(2, .int 3), (1, .int 2), (0, .ref x)]) hx hb dX3_activeTransactions_24 hl (k := 1) rfl (by decide) (by first | decide | omega) rfl (fun ls hl => ?_)
              refine lv_goto (tgt := 4) hx hb dX3_activeTransactions_27 (by decide) ?_
              refine lv_iload_n hx hb dX3_activeTransactions_4 rfl (lv_at hl 0 rfl) ?_
              refine lv_iconst (v := 3) hx hb dX3_activeTransactions_5 (by decide) ?_
              refine lv_icmp_ge (tgt := 30) hx hb dX3_activeTransactions_6 (by decide) (fun c6_3 => ?_) (fun c6_3 => ?_)
              · refine lv_iload_n hx hb dX3_activeTransactions_30 rfl (lv_at hl 1 rfl) ?_
                refine mw_iret hC hM hr hlk dX3_activeTransactions_31 (Nat.le_of_ble_eq_true rfl) (Nat.le_of_ble_eq_true rfl) ⟨_, rfl, ?_⟩
                exact ⟨rfl, by simp [sh_ac, c18, c18_1, c18_2]⟩
              · exact absurd c6_3 (by decide)
        · have c18_1 := sh_a1 c18_1
          refine lv_iinc (v := 2) (lv' := [(1, .int 2), (2, .int 1), (0, .ref x)]) hx hb dX3_activeTransactions_21 hl (k := 1) rfl (by decide) (by first | decide | omega) rfl (fun ls hl => ?_)
          refine lv_iinc (v := 2) (lv' := [(2, .int 2), (1, .int 2), (0, .ref x)]) hx hb dX3_activeTransactions_24 hl (k := 1) rfl (by decide) (by first | decide | omega) rfl (fun ls hl => ?_)
          refine lv_goto (tgt := 4) hx hb dX3_activeTransactions_27 (by decide) ?_
          refine lv_iload_n hx hb dX3_activeTransactions_4 rfl (lv_at hl 0 rfl) ?_
          refine lv_iconst (v := 3) hx hb dX3_activeTransactions_5 (by decide) ?_
          refine lv_icmp_ge (tgt := 30) hx hb dX3_activeTransactions_6 (by decide) (fun c6_2 => ?_) (fun c6_2 => ?_)
          · exact absurd c6_2 (by decide)
          · refine lv_aload_n hx hb dX3_activeTransactions_9 rfl (lv_at hl 2 rfl) ?_
            refine gr_0_3 (index := 26) hC hM kx0 mb_127 dX3_activeTransactions_10 hK.xT ?_
            refine lv_iload_n hx hb dX3_activeTransactions_13 rfl (lv_at hl 0 rfl) ?_
            refine al_5 (i := 2) hC hM hK.kT (rfl) (by decide) (by first | decide | omega) (hK.rta (by decide)) dX3_activeTransactions_14 ?_
            refine mw_callV (As := []) (rest := []) (n := 0) (C := RX2) (T := TX2) (N := 2) (ci := 2) hC hM (c_X2_isActive l hl0 D cs h H.size (ta 2) (hK.kta (by decide))) (cwV 0 hC.1.2.2.2.2 (tb_V mb_169 mb_170 mb_171 mb_39 mb_172) rfl rfl rfl (by decide +kernel) ⟨Nat.le_of_ble_eq_true rfl, Nat.le_of_ble_eq_true rfl⟩) (th_at (h := h) (hK.kta (by decide))) rfl rfl rfl hl.1 (Nat.le_of_ble_eq_true rfl) dX3_activeTransactions_15 ⟨Nat.le_of_ble_eq_true rfl, Nat.le_of_ble_eq_true rfl⟩ (fun E ce q9 g9 H locs hp9 hM hce hcv hcl => ?_) (fun v9 g9 H locs hp9 hM => ?_)
            · exact (hp9.elim fun _ h9 => h9.2.elim)
            obtain ⟨h15, rfl, hp9⟩ := hp9
            obtain ⟨rfl, rfl⟩ := hp9
            refine W.eq (g2 := F0 m 18 ls [.int (if h.2.1 (ta 2) 0 = 0 then 0 else 1)]) rfl ?_
            refine lv_if_eq (tgt := 24) hx hb dX3_activeTransactions_18 (by decide) (fun c18_2 => ?_) (fun c18_2 => ?_)
            · have c18_2 := sh_a0 c18_2
              refine lv_iinc (v := 3) (lv' := [(2, .int 3), (1, .int 2), (0, .ref x)]) hx hb dX3_activeTransactions_24 hl (k := 0) rfl (by decide) (by first | decide | omega) rfl (fun ls hl => ?_)
              refine lv_goto (tgt := 4) hx hb dX3_activeTransactions_27 (by decide) ?_
              refine lv_iload_n hx hb dX3_activeTransactions_4 rfl (lv_at hl 0 rfl) ?_
              refine lv_iconst (v := 3) hx hb dX3_activeTransactions_5 (by decide) ?_
              refine lv_icmp_ge (tgt := 30) hx hb dX3_activeTransactions_6 (by decide) (fun c6_3 => ?_) (fun c6_3 => ?_)
              · refine lv_iload_n hx hb dX3_activeTransactions_30 rfl (lv_at hl 1 rfl) ?_
                refine mw_iret hC hM hr hlk dX3_activeTransactions_31 (Nat.le_of_ble_eq_true rfl) (Nat.le_of_ble_eq_true rfl) ⟨_, rfl, ?_⟩
                exact ⟨rfl, by simp [sh_ac, c18, c18_1, c18_2]⟩
              · exact absurd c6_3 (by decide)
            · have c18_2 := sh_a1 c18_2
              refine lv_iinc (v := 3) (lv' := [(1, .int 3), (2, .int 2), (0, .ref x)]) hx hb dX3_activeTransactions_21 hl (k := 1) rfl (by decide) (by first | decide | omega) rfl (fun ls hl => ?_)
              refine lv_iinc (v := 3) (lv' := [(2, .int 3), (1, .int 3), (0, .ref x)]) hx hb dX3_activeTransactions_24 hl (k := 1) rfl (by decide) (by first | decide | omega) rfl (fun ls hl => ?_)
              refine lv_goto (tgt := 4) hx hb dX3_activeTransactions_27 (by decide) ?_
              refine lv_iload_n hx hb dX3_activeTransactions_4 rfl (lv_at hl 0 rfl) ?_
              refine lv_iconst (v := 3) hx hb dX3_activeTransactions_5 (by decide) ?_
              refine lv_icmp_ge (tgt := 30) hx hb dX3_activeTransactions_6 (by decide) (fun c6_3 => ?_) (fun c6_3 => ?_)
              · refine lv_iload_n hx hb dX3_activeTransactions_30 rfl (lv_at hl 1 rfl) ?_
                refine mw_iret hC hM hr hlk dX3_activeTransactions_31 (Nat.le_of_ble_eq_true rfl) (Nat.le_of_ble_eq_true rfl) ⟨_, rfl, ?_⟩
                exact ⟨rfl, by simp [sh_ac, c18, c18_1, c18_2]⟩
              · exact absurd c6_3 (by decide)

-- StableHeap.unusedTransaction
set_option maxHeartbeats 4000000 in
set_option maxRecDepth 100000 in
theorem c_X3_unusedTransaction (l : Launch) (hl0 : l.stackTraces = false) (D : va_G) (cs : Nat → ClassId) (h : th_S) (sz : Nat) (x aR aO aH aT : Nat) (rt ta : Nat → Nat) (hK : sh_K x aR aO aH aT rt ta h) : th_M l yX3_unusedTransaction wsX3_unusedTransaction { frames := 6, cells := 1, slots := 6, locals := 90 } D cs h sz [.ref x] (fun v h' => h = h' ∧ ∃ i, i < 3 ∧ v = some (.ref (ta i)) ∧ h.2.1 (ta i) 0 = 0 ∧ ∀ j, j < i → ¬ h.2.1 (ta j) 0 = 0) (fun E h' => E = "java/lang/IllegalStateException" ∧ h = h' ∧ ∀ i, i < 3 → ¬ h.2.1 (ta i) 0 = 0) := by
  refine mw_ofW (cc := cX3_unusedTransaction) (maxL := 2) (ret := (some (.object "StableHeap$Transaction"))) (by decide) rfl (fun w h => List.mem_cons_of_mem _ h) th_cd (Nat.le_of_ble_eq_true rfl) ?_
  intro p e s m below meth c hsz hC hr hlk hnm htab hM ls hl
  have hC : th_C D cs h p m c cX3_unusedTransaction 2 s [.ref x] RX3 := hC
  have hx := hC.1.1
  have hb := hC.1.2.1
  have kx0 : h.1 x = some (0, 0) := hK.kx
  have hl : lv_has ls 2 [(0, .ref x)] := hl
  refine lv_iconst (v := 0) hx hb dX3_unusedTransaction_0 (by decide) ?_
  refine lv_istore_n (lv' := [(1, .int 0), (0, .ref x)]) hx hb dX3_unusedTransaction_1 rfl hl (by decide) rfl (fun ls hl => ?_)
  refine lv_iload_n hx hb dX3_unusedTransaction_2 rfl (lv_at hl 0 rfl) ?_
  refine lv_iconst (v := 3) hx hb dX3_unusedTransaction_3 (by decide) ?_
  refine lv_icmp_ge (tgt := 32) hx hb dX3_unusedTransaction_4 (by decide) (fun c4 => ?_) (fun c4 => ?_)
  · exact absurd c4 (by decide)
  · refine lv_aload_n hx hb dX3_unusedTransaction_7 rfl (lv_at hl 1 rfl) ?_
    refine gr_0_3 (index := 26) hC hM kx0 mb_127 dX3_unusedTransaction_8 hK.xT ?_
    refine lv_iload_n hx hb dX3_unusedTransaction_11 rfl (lv_at hl 0 rfl) ?_
    refine al_5 (i := 0) hC hM hK.kT (rfl) (by decide) (by first | decide | omega) (hK.rta (by decide)) dX3_unusedTransaction_12 ?_
    refine mw_callV (As := []) (rest := []) (n := 0) (C := RX2) (T := TX2) (N := 2) (ci := 2) hC hM (c_X2_isActive l hl0 D cs h s.heap.size (ta 0) (hK.kta (by decide))) (cwV 0 hC.1.2.2.2.2 (tb_V mb_169 mb_170 mb_171 mb_39 mb_172) rfl rfl rfl (by decide +kernel) ⟨Nat.le_of_ble_eq_true rfl, Nat.le_of_ble_eq_true rfl⟩) (th_at (h := h) (hK.kta (by decide))) rfl rfl rfl hl.1 (Nat.le_of_ble_eq_true rfl) dX3_unusedTransaction_13 ⟨Nat.le_of_ble_eq_true rfl, Nat.le_of_ble_eq_true rfl⟩ (fun E ce q9 g9 H locs hp9 hM hce hcv hcl => ?_) (fun v9 g9 H locs hp9 hM => ?_)
    · exact (hp9.elim fun _ h9 => h9.2.elim)
    obtain ⟨h13, rfl, hp9⟩ := hp9
    obtain ⟨rfl, rfl⟩ := hp9
    refine W.eq (g2 := F0 m 16 ls [.int (if h.2.1 (ta 0) 0 = 0 then 0 else 1)]) rfl ?_
    refine lv_if_ne (tgt := 26) hx hb dX3_unusedTransaction_16 (by decide) (fun c16 => ?_) (fun c16 => ?_)
    · have c16 := sh_a1 c16
      refine lv_iinc (v := 1) (lv' := [(1, .int 1), (0, .ref x)]) hx hb dX3_unusedTransaction_26 hl (k := 0) rfl (by decide) (by first | decide | omega) rfl (fun ls hl => ?_)
      refine lv_goto (tgt := 2) hx hb dX3_unusedTransaction_29 (by decide) ?_
      refine lv_iload_n hx hb dX3_unusedTransaction_2 rfl (lv_at hl 0 rfl) ?_
      refine lv_iconst (v := 3) hx hb dX3_unusedTransaction_3 (by decide) ?_
      refine lv_icmp_ge (tgt := 32) hx hb dX3_unusedTransaction_4 (by decide) (fun c4_1 => ?_) (fun c4_1 => ?_)
      · exact absurd c4_1 (by decide)
      · refine lv_aload_n hx hb dX3_unusedTransaction_7 rfl (lv_at hl 1 rfl) ?_
        refine gr_0_3 (index := 26) hC hM kx0 mb_127 dX3_unusedTransaction_8 hK.xT ?_
        refine lv_iload_n hx hb dX3_unusedTransaction_11 rfl (lv_at hl 0 rfl) ?_
        refine al_5 (i := 1) hC hM hK.kT (rfl) (by decide) (by first | decide | omega) (hK.rta (by decide)) dX3_unusedTransaction_12 ?_
        refine mw_callV (As := []) (rest := []) (n := 0) (C := RX2) (T := TX2) (N := 2) (ci := 2) hC hM (c_X2_isActive l hl0 D cs h H.size (ta 1) (hK.kta (by decide))) (cwV 0 hC.1.2.2.2.2 (tb_V mb_169 mb_170 mb_171 mb_39 mb_172) rfl rfl rfl (by decide +kernel) ⟨Nat.le_of_ble_eq_true rfl, Nat.le_of_ble_eq_true rfl⟩) (th_at (h := h) (hK.kta (by decide))) rfl rfl rfl hl.1 (Nat.le_of_ble_eq_true rfl) dX3_unusedTransaction_13 ⟨Nat.le_of_ble_eq_true rfl, Nat.le_of_ble_eq_true rfl⟩ (fun E ce q9 g9 H locs hp9 hM hce hcv hcl => ?_) (fun v9 g9 H locs hp9 hM => ?_)
        · exact (hp9.elim fun _ h9 => h9.2.elim)
        obtain ⟨h13, rfl, hp9⟩ := hp9
        obtain ⟨rfl, rfl⟩ := hp9
        refine W.eq (g2 := F0 m 16 ls [.int (if h.2.1 (ta 1) 0 = 0 then 0 else 1)]) rfl ?_
        refine lv_if_ne (tgt := 26) hx hb dX3_unusedTransaction_16 (by decide) (fun c16_1 => ?_) (fun c16_1 => ?_)
        · have c16_1 := sh_a1 c16_1
          refine lv_iinc (v := 2) (lv' := [(1, .int 2), (0, .ref x)]) hx hb dX3_unusedTransaction_26 hl (k := 0) rfl (by decide) (by first | decide | omega) rfl (fun ls hl => ?_)
          refine lv_goto (tgt := 2) hx hb dX3_unusedTransaction_29 (by decide) ?_
          refine lv_iload_n hx hb dX3_unusedTransaction_2 rfl (lv_at hl 0 rfl) ?_
          refine lv_iconst (v := 3) hx hb dX3_unusedTransaction_3 (by decide) ?_
          refine lv_icmp_ge (tgt := 32) hx hb dX3_unusedTransaction_4 (by decide) (fun c4_2 => ?_) (fun c4_2 => ?_)
          · exact absurd c4_2 (by decide)
          · refine lv_aload_n hx hb dX3_unusedTransaction_7 rfl (lv_at hl 1 rfl) ?_
            refine gr_0_3 (index := 26) hC hM kx0 mb_127 dX3_unusedTransaction_8 hK.xT ?_
            refine lv_iload_n hx hb dX3_unusedTransaction_11 rfl (lv_at hl 0 rfl) ?_
            refine al_5 (i := 2) hC hM hK.kT (rfl) (by decide) (by first | decide | omega) (hK.rta (by decide)) dX3_unusedTransaction_12 ?_
            refine mw_callV (As := []) (rest := []) (n := 0) (C := RX2) (T := TX2) (N := 2) (ci := 2) hC hM (c_X2_isActive l hl0 D cs h H.size (ta 2) (hK.kta (by decide))) (cwV 0 hC.1.2.2.2.2 (tb_V mb_169 mb_170 mb_171 mb_39 mb_172) rfl rfl rfl (by decide +kernel) ⟨Nat.le_of_ble_eq_true rfl, Nat.le_of_ble_eq_true rfl⟩) (th_at (h := h) (hK.kta (by decide))) rfl rfl rfl hl.1 (Nat.le_of_ble_eq_true rfl) dX3_unusedTransaction_13 ⟨Nat.le_of_ble_eq_true rfl, Nat.le_of_ble_eq_true rfl⟩ (fun E ce q9 g9 H locs hp9 hM hce hcv hcl => ?_) (fun v9 g9 H locs hp9 hM => ?_)
            · exact (hp9.elim fun _ h9 => h9.2.elim)
            obtain ⟨h13, rfl, hp9⟩ := hp9
            obtain ⟨rfl, rfl⟩ := hp9
            refine W.eq (g2 := F0 m 16 ls [.int (if h.2.1 (ta 2) 0 = 0 then 0 else 1)]) rfl ?_
            refine lv_if_ne (tgt := 26) hx hb dX3_unusedTransaction_16 (by decide) (fun c16_2 => ?_) (fun c16_2 => ?_)
            · have c16_2 := sh_a1 c16_2
              refine lv_iinc (v := 3) (lv' := [(1, .int 3), (0, .ref x)]) hx hb dX3_unusedTransaction_26 hl (k := 0) rfl (by decide) (by first | decide | omega) rfl (fun ls hl => ?_)
              refine lv_goto (tgt := 2) hx hb dX3_unusedTransaction_29 (by decide) ?_
              refine lv_iload_n hx hb dX3_unusedTransaction_2 rfl (lv_at hl 0 rfl) ?_
              refine lv_iconst (v := 3) hx hb dX3_unusedTransaction_3 (by decide) ?_
              refine lv_icmp_ge (tgt := 32) hx hb dX3_unusedTransaction_4 (by decide) (fun c4_3 => ?_) (fun c4_3 => ?_)
              · refine mw_throw (cls := "java/lang/IllegalStateException") (names := ["java/lang/RuntimeException", "java/lang/Exception"]) (ik := 63) (is := 175) (ic := 67) hC hM htab hlk hl0 sx_175 (by decide +kernel) (by decide +kernel) mb_222 mb_44 tg_67 tn_67 to_67 hl.1 dX3_unusedTransaction_32 dX3_unusedTransaction_35 dX3_unusedTransaction_36 dX3_unusedTransaction_38 dX3_unusedTransaction_41 (Nat.le_of_ble_eq_true rfl) (Nat.le_of_ble_eq_true rfl) (Nat.le_of_ble_eq_true rfl) (Nat.le_of_ble_eq_true rfl) (Nat.le_of_ble_eq_true rfl) (Nat.le_of_ble_eq_true rfl) ⟨_, rfl, ?_⟩
                exact ⟨rfl, rfl, sh_lt3 c16 c16_1 c16_2⟩
              · exact absurd c4_3 (by decide)
            · have c16_2 := sh_a0 c16_2
              refine lv_aload_n hx hb dX3_unusedTransaction_19 rfl (lv_at hl 1 rfl) ?_
              refine gr_0_3 (index := 26) hC hM kx0 mb_127 dX3_unusedTransaction_20 hK.xT ?_
              refine lv_iload_n hx hb dX3_unusedTransaction_23 rfl (lv_at hl 0 rfl) ?_
              refine al_5 (i := 2) hC hM hK.kT (rfl) (by decide) (by first | decide | omega) (hK.rta (by decide)) dX3_unusedTransaction_24 ?_
              refine mw_aret (r := some (ta 2)) hC hM hr hlk dX3_unusedTransaction_25 (Nat.le_of_ble_eq_true rfl) (Nat.le_of_ble_eq_true rfl) ⟨_, rfl, ?_⟩
              exact ⟨rfl, 2, by decide, rfl, c16_2, fun j hj => by
                rcases (show j = 0 ∨ j = 1 by omega) with rfl | rfl
                · exact c16
                · exact c16_1⟩
        · have c16_1 := sh_a0 c16_1
          refine lv_aload_n hx hb dX3_unusedTransaction_19 rfl (lv_at hl 1 rfl) ?_
          refine gr_0_3 (index := 26) hC hM kx0 mb_127 dX3_unusedTransaction_20 hK.xT ?_
          refine lv_iload_n hx hb dX3_unusedTransaction_23 rfl (lv_at hl 0 rfl) ?_
          refine al_5 (i := 1) hC hM hK.kT (rfl) (by decide) (by first | decide | omega) (hK.rta (by decide)) dX3_unusedTransaction_24 ?_
          refine mw_aret (r := some (ta 1)) hC hM hr hlk dX3_unusedTransaction_25 (Nat.le_of_ble_eq_true rfl) (Nat.le_of_ble_eq_true rfl) ⟨_, rfl, ?_⟩
          exact ⟨rfl, 1, by decide, rfl, c16_1, fun j hj => by
            obtain rfl : j = 0 := by omega
            exact c16⟩
    · have c16 := sh_a0 c16
      refine lv_aload_n hx hb dX3_unusedTransaction_19 rfl (lv_at hl 1 rfl) ?_
      refine gr_0_3 (index := 26) hC hM kx0 mb_127 dX3_unusedTransaction_20 hK.xT ?_
      refine lv_iload_n hx hb dX3_unusedTransaction_23 rfl (lv_at hl 0 rfl) ?_
      refine al_5 (i := 0) hC hM hK.kT (rfl) (by decide) (by first | decide | omega) (hK.rta (by decide)) dX3_unusedTransaction_24 ?_
      refine mw_aret (r := some (ta 0)) hC hM hr hlk dX3_unusedTransaction_25 (Nat.le_of_ble_eq_true rfl) (Nat.le_of_ble_eq_true rfl) ⟨_, rfl, ?_⟩
      exact ⟨rfl, 0, by decide, rfl, c16, fun j hj => absurd hj (Nat.not_lt_zero j)⟩

-- StableHeap.activeTransaction
set_option maxHeartbeats 4000000 in
set_option maxRecDepth 100000 in
theorem c_X3_activeTransaction (l : Launch) (hl0 : l.stackTraces = false) (D : va_G) (cs : Nat → ClassId) (h : th_S) (sz : Nat) (x aR aO aH aT : Nat) (rt ta : Nat → Nat) (hK : sh_K x aR aO aH aT rt ta h) (k : Int32) : th_M l yX3_activeTransaction wsX3_activeTransaction { frames := 6, cells := 1, slots := 6, locals := 90 } D cs h sz [.ref x, .int k] (fun v h' => h = h' ∧ ∃ i, sh_tx ta h k i ∧ v = some (.ref (ta i))) (fun E h' => E = "java/util/NoSuchElementException" ∧ h = h' ∧ sh_nt ta h k) := by
  refine mw_ofW (cc := cX3_activeTransaction) (maxL := 3) (ret := (some (.object "StableHeap$Transaction"))) (by decide) rfl (fun w h => List.mem_cons_of_mem _ h) th_cd (Nat.le_of_ble_eq_true rfl) ?_
  intro p e s m below meth c hsz hC hr hlk hnm htab hM ls hl
  have hC : th_C D cs h p m c cX3_activeTransaction 3 s [.ref x, .int k] RX3 := hC
  have hx := hC.1.1
  have hb := hC.1.2.1
  have kx0 : h.1 x = some (0, 0) := hK.kx
  have hl : lv_has ls 3 [(0, .ref x), (1, .int k)] := hl
  refine lv_iconst (v := 0) hx hb dX3_activeTransaction_0 (by decide) ?_
  refine lv_istore_n (lv' := [(2, .int 0), (0, .ref x), (1, .int k)]) hx hb dX3_activeTransaction_1 rfl hl (by decide) rfl (fun ls hl => ?_)
  refine lv_iload_n hx hb dX3_activeTransaction_2 rfl (lv_at hl 0 rfl) ?_
  refine lv_iconst (v := 3) hx hb dX3_activeTransaction_3 (by decide) ?_
  refine lv_icmp_ge (tgt := 45) hx hb dX3_activeTransaction_4 (by decide) (fun c4 => ?_) (fun c4 => ?_)
  · exact absurd c4 (by decide)
  · refine lv_aload_n hx hb dX3_activeTransaction_7 rfl (lv_at hl 1 rfl) ?_
    refine gr_0_3 (index := 26) hC hM kx0 mb_127 dX3_activeTransaction_8 hK.xT ?_
    refine lv_iload_n hx hb dX3_activeTransaction_11 rfl (lv_at hl 0 rfl) ?_
    refine al_5 (i := 0) hC hM hK.kT (rfl) (by decide) (by first | decide | omega) (hK.rta (by decide)) dX3_activeTransaction_12 ?_
    refine mw_callV (As := []) (rest := []) (n := 0) (C := RX2) (T := TX2) (N := 2) (ci := 2) hC hM (c_X2_isActive l hl0 D cs h s.heap.size (ta 0) (hK.kta (by decide))) (cwV 0 hC.1.2.2.2.2 (tb_V mb_169 mb_170 mb_171 mb_39 mb_172) rfl rfl rfl (by decide +kernel) ⟨Nat.le_of_ble_eq_true rfl, Nat.le_of_ble_eq_true rfl⟩) (th_at (h := h) (hK.kta (by decide))) rfl rfl rfl hl.1 (Nat.le_of_ble_eq_true rfl) dX3_activeTransaction_13 ⟨Nat.le_of_ble_eq_true rfl, Nat.le_of_ble_eq_true rfl⟩ (fun E ce q9 g9 H locs hp9 hM hce hcv hcl => ?_) (fun v9 g9 H locs hp9 hM => ?_)
    · exact (hp9.elim fun _ h9 => h9.2.elim)
    obtain ⟨h13, rfl, hp9⟩ := hp9
    obtain ⟨rfl, rfl⟩ := hp9
    refine W.eq (g2 := F0 m 16 ls [.int (if h.2.1 (ta 0) 0 = 0 then 0 else 1)]) rfl ?_
    refine lv_if_eq (tgt := 39) hx hb dX3_activeTransaction_16 (by decide) (fun c16 => ?_) (fun c16 => ?_)
    · have c16 := sh_a0 c16
      refine lv_iinc (v := 1) (lv' := [(2, .int 1), (0, .ref x), (1, .int k)]) hx hb dX3_activeTransaction_39 hl (k := 0) rfl (by decide) (by first | decide | omega) rfl (fun ls hl => ?_)
      refine lv_goto (tgt := 2) hx hb dX3_activeTransaction_42 (by decide) ?_
      refine lv_iload_n hx hb dX3_activeTransaction_2 rfl (lv_at hl 0 rfl) ?_
      refine lv_iconst (v := 3) hx hb dX3_activeTransaction_3 (by decide) ?_
      refine lv_icmp_ge (tgt := 45) hx hb dX3_activeTransaction_4 (by decide) (fun c4_1 => ?_) (fun c4_1 => ?_)
      · exact absurd c4_1 (by decide)
      · refine lv_aload_n hx hb dX3_activeTransaction_7 rfl (lv_at hl 1 rfl) ?_
        refine gr_0_3 (index := 26) hC hM kx0 mb_127 dX3_activeTransaction_8 hK.xT ?_
        refine lv_iload_n hx hb dX3_activeTransaction_11 rfl (lv_at hl 0 rfl) ?_
        refine al_5 (i := 1) hC hM hK.kT (rfl) (by decide) (by first | decide | omega) (hK.rta (by decide)) dX3_activeTransaction_12 ?_
        refine mw_callV (As := []) (rest := []) (n := 0) (C := RX2) (T := TX2) (N := 2) (ci := 2) hC hM (c_X2_isActive l hl0 D cs h H.size (ta 1) (hK.kta (by decide))) (cwV 0 hC.1.2.2.2.2 (tb_V mb_169 mb_170 mb_171 mb_39 mb_172) rfl rfl rfl (by decide +kernel) ⟨Nat.le_of_ble_eq_true rfl, Nat.le_of_ble_eq_true rfl⟩) (th_at (h := h) (hK.kta (by decide))) rfl rfl rfl hl.1 (Nat.le_of_ble_eq_true rfl) dX3_activeTransaction_13 ⟨Nat.le_of_ble_eq_true rfl, Nat.le_of_ble_eq_true rfl⟩ (fun E ce q9 g9 H locs hp9 hM hce hcv hcl => ?_) (fun v9 g9 H locs hp9 hM => ?_)
        · exact (hp9.elim fun _ h9 => h9.2.elim)
        obtain ⟨h13, rfl, hp9⟩ := hp9
        obtain ⟨rfl, rfl⟩ := hp9
        refine W.eq (g2 := F0 m 16 ls [.int (if h.2.1 (ta 1) 0 = 0 then 0 else 1)]) rfl ?_
        refine lv_if_eq (tgt := 39) hx hb dX3_activeTransaction_16 (by decide) (fun c16_1 => ?_) (fun c16_1 => ?_)
        · have c16_1 := sh_a0 c16_1
          refine lv_iinc (v := 2) (lv' := [(2, .int 2), (0, .ref x), (1, .int k)]) hx hb dX3_activeTransaction_39 hl (k := 0) rfl (by decide) (by first | decide | omega) rfl (fun ls hl => ?_)
          refine lv_goto (tgt := 2) hx hb dX3_activeTransaction_42 (by decide) ?_
          refine lv_iload_n hx hb dX3_activeTransaction_2 rfl (lv_at hl 0 rfl) ?_
          refine lv_iconst (v := 3) hx hb dX3_activeTransaction_3 (by decide) ?_
          refine lv_icmp_ge (tgt := 45) hx hb dX3_activeTransaction_4 (by decide) (fun c4_2 => ?_) (fun c4_2 => ?_)
          · exact absurd c4_2 (by decide)
          · refine lv_aload_n hx hb dX3_activeTransaction_7 rfl (lv_at hl 1 rfl) ?_
            refine gr_0_3 (index := 26) hC hM kx0 mb_127 dX3_activeTransaction_8 hK.xT ?_
            refine lv_iload_n hx hb dX3_activeTransaction_11 rfl (lv_at hl 0 rfl) ?_
            refine al_5 (i := 2) hC hM hK.kT (rfl) (by decide) (by first | decide | omega) (hK.rta (by decide)) dX3_activeTransaction_12 ?_
            refine mw_callV (As := []) (rest := []) (n := 0) (C := RX2) (T := TX2) (N := 2) (ci := 2) hC hM (c_X2_isActive l hl0 D cs h H.size (ta 2) (hK.kta (by decide))) (cwV 0 hC.1.2.2.2.2 (tb_V mb_169 mb_170 mb_171 mb_39 mb_172) rfl rfl rfl (by decide +kernel) ⟨Nat.le_of_ble_eq_true rfl, Nat.le_of_ble_eq_true rfl⟩) (th_at (h := h) (hK.kta (by decide))) rfl rfl rfl hl.1 (Nat.le_of_ble_eq_true rfl) dX3_activeTransaction_13 ⟨Nat.le_of_ble_eq_true rfl, Nat.le_of_ble_eq_true rfl⟩ (fun E ce q9 g9 H locs hp9 hM hce hcv hcl => ?_) (fun v9 g9 H locs hp9 hM => ?_)
            · exact (hp9.elim fun _ h9 => h9.2.elim)
            obtain ⟨h13, rfl, hp9⟩ := hp9
            obtain ⟨rfl, rfl⟩ := hp9
            refine W.eq (g2 := F0 m 16 ls [.int (if h.2.1 (ta 2) 0 = 0 then 0 else 1)]) rfl ?_
            refine lv_if_eq (tgt := 39) hx hb dX3_activeTransaction_16 (by decide) (fun c16_2 => ?_) (fun c16_2 => ?_)
            · have c16_2 := sh_a0 c16_2
              refine lv_iinc (v := 3) (lv' := [(2, .int 3), (0, .ref x), (1, .int k)]) hx hb dX3_activeTransaction_39 hl (k := 0) rfl (by decide) (by first | decide | omega) rfl (fun ls hl => ?_)
              refine lv_goto (tgt := 2) hx hb dX3_activeTransaction_42 (by decide) ?_
              refine lv_iload_n hx hb dX3_activeTransaction_2 rfl (lv_at hl 0 rfl) ?_
              refine lv_iconst (v := 3) hx hb dX3_activeTransaction_3 (by decide) ?_
              refine lv_icmp_ge (tgt := 45) hx hb dX3_activeTransaction_4 (by decide) (fun c4_3 => ?_) (fun c4_3 => ?_)
              · refine mw_throwN (Y := "java/lang/RuntimeException") (cls := "java/util/NoSuchElementException") (names := ["java/lang/Exception"]) (ik := 162) (is := 177) (ic := 166) hC hM htab hlk hl0 sx_177 (by decide +kernel) (by decide +kernel) (by decide +kernel) mb_311 mb_46 tg_166 tn_166 to_166 hl.1 dX3_activeTransaction_45 dX3_activeTransaction_48 dX3_activeTransaction_49 dX3_activeTransaction_51 dX3_activeTransaction_54 (Nat.le_of_ble_eq_true rfl) (Nat.le_of_ble_eq_true rfl) (Nat.le_of_ble_eq_true rfl) (Nat.le_of_ble_eq_true rfl) (Nat.le_of_ble_eq_true rfl) (Nat.le_of_ble_eq_true rfl) ⟨_, rfl, ?_⟩
                refine ⟨rfl, rfl, sh_lt3 ?_ ?_ ?_⟩ <;> first | exact Or.inl (by assumption) | exact Or.inr (by assumption)
              · exact absurd c4_3 (by decide)
            · have c16_2 := sh_a1 c16_2
              refine lv_aload_n hx hb dX3_activeTransaction_19 rfl (lv_at hl 1 rfl) ?_
              refine gr_0_3 (index := 26) hC hM kx0 mb_127 dX3_activeTransaction_20 hK.xT ?_
              refine lv_iload_n hx hb dX3_activeTransaction_23 rfl (lv_at hl 0 rfl) ?_
              refine al_5 (i := 2) hC hM hK.kT (rfl) (by decide) (by first | decide | omega) (hK.rta (by decide)) dX3_activeTransaction_24 ?_
              refine gi_1_0 (index := 43) hC hM (hK.kta (by decide)) mb_117 dX3_activeTransaction_25 ?_
              refine lv_iload_n hx hb dX3_activeTransaction_28 rfl (lv_at hl 2 rfl) ?_
              refine lv_icmp_ne (tgt := 39) hx hb dX3_activeTransaction_29 (by decide) (fun c29 => ?_) (fun c29 => ?_)
              · refine lv_iinc (v := 3) (lv' := [(2, .int 3), (0, .ref x), (1, .int k)]) hx hb dX3_activeTransaction_39 hl (k := 0) rfl (by decide) (by first | decide | omega) rfl (fun ls hl => ?_)
                refine lv_goto (tgt := 2) hx hb dX3_activeTransaction_42 (by decide) ?_
                refine lv_iload_n hx hb dX3_activeTransaction_2 rfl (lv_at hl 0 rfl) ?_
                refine lv_iconst (v := 3) hx hb dX3_activeTransaction_3 (by decide) ?_
                refine lv_icmp_ge (tgt := 45) hx hb dX3_activeTransaction_4 (by decide) (fun c4_3 => ?_) (fun c4_3 => ?_)
                · refine mw_throwN (Y := "java/lang/RuntimeException") (cls := "java/util/NoSuchElementException") (names := ["java/lang/Exception"]) (ik := 162) (is := 177) (ic := 166) hC hM htab hlk hl0 sx_177 (by decide +kernel) (by decide +kernel) (by decide +kernel) mb_311 mb_46 tg_166 tn_166 to_166 hl.1 dX3_activeTransaction_45 dX3_activeTransaction_48 dX3_activeTransaction_49 dX3_activeTransaction_51 dX3_activeTransaction_54 (Nat.le_of_ble_eq_true rfl) (Nat.le_of_ble_eq_true rfl) (Nat.le_of_ble_eq_true rfl) (Nat.le_of_ble_eq_true rfl) (Nat.le_of_ble_eq_true rfl) (Nat.le_of_ble_eq_true rfl) ⟨_, rfl, ?_⟩
                  refine ⟨rfl, rfl, sh_lt3 ?_ ?_ ?_⟩ <;> first | exact Or.inl (by assumption) | exact Or.inr (by assumption)
                · exact absurd c4_3 (by decide)
              · refine lv_aload_n hx hb dX3_activeTransaction_32 rfl (lv_at hl 1 rfl) ?_
                refine gr_0_3 (index := 26) hC hM kx0 mb_127 dX3_activeTransaction_33 hK.xT ?_
                refine lv_iload_n hx hb dX3_activeTransaction_36 rfl (lv_at hl 0 rfl) ?_
                refine al_5 (i := 2) hC hM hK.kT (rfl) (by decide) (by first | decide | omega) (hK.rta (by decide)) dX3_activeTransaction_37 ?_
                refine mw_aret (r := some (ta 2)) hC hM hr hlk dX3_activeTransaction_38 (Nat.le_of_ble_eq_true rfl) (Nat.le_of_ble_eq_true rfl) ⟨_, rfl, ?_⟩
                exact ⟨rfl, 2, ⟨by decide, c16_2, by assumption⟩, rfl⟩
        · have c16_1 := sh_a1 c16_1
          refine lv_aload_n hx hb dX3_activeTransaction_19 rfl (lv_at hl 1 rfl) ?_
          refine gr_0_3 (index := 26) hC hM kx0 mb_127 dX3_activeTransaction_20 hK.xT ?_
          refine lv_iload_n hx hb dX3_activeTransaction_23 rfl (lv_at hl 0 rfl) ?_
          refine al_5 (i := 1) hC hM hK.kT (rfl) (by decide) (by first | decide | omega) (hK.rta (by decide)) dX3_activeTransaction_24 ?_
          refine gi_1_0 (index := 43) hC hM (hK.kta (by decide)) mb_117 dX3_activeTransaction_25 ?_
          refine lv_iload_n hx hb dX3_activeTransaction_28 rfl (lv_at hl 2 rfl) ?_
          refine lv_icmp_ne (tgt := 39) hx hb dX3_activeTransaction_29 (by decide) (fun c29 => ?_) (fun c29 => ?_)
          · refine lv_iinc (v := 2) (lv' := [(2, .int 2), (0, .ref x), (1, .int k)]) hx hb dX3_activeTransaction_39 hl (k := 0) rfl (by decide) (by first | decide | omega) rfl (fun ls hl => ?_)
            refine lv_goto (tgt := 2) hx hb dX3_activeTransaction_42 (by decide) ?_
            refine lv_iload_n hx hb dX3_activeTransaction_2 rfl (lv_at hl 0 rfl) ?_
            refine lv_iconst (v := 3) hx hb dX3_activeTransaction_3 (by decide) ?_
            refine lv_icmp_ge (tgt := 45) hx hb dX3_activeTransaction_4 (by decide) (fun c4_2 => ?_) (fun c4_2 => ?_)
            · exact absurd c4_2 (by decide)
            · refine lv_aload_n hx hb dX3_activeTransaction_7 rfl (lv_at hl 1 rfl) ?_
              refine gr_0_3 (index := 26) hC hM kx0 mb_127 dX3_activeTransaction_8 hK.xT ?_
              refine lv_iload_n hx hb dX3_activeTransaction_11 rfl (lv_at hl 0 rfl) ?_
              refine al_5 (i := 2) hC hM hK.kT (rfl) (by decide) (by first | decide | omega) (hK.rta (by decide)) dX3_activeTransaction_12 ?_
              refine mw_callV (As := []) (rest := []) (n := 0) (C := RX2) (T := TX2) (N := 2) (ci := 2) hC hM (c_X2_isActive l hl0 D cs h H.size (ta 2) (hK.kta (by decide))) (cwV 0 hC.1.2.2.2.2 (tb_V mb_169 mb_170 mb_171 mb_39 mb_172) rfl rfl rfl (by decide +kernel) ⟨Nat.le_of_ble_eq_true rfl, Nat.le_of_ble_eq_true rfl⟩) (th_at (h := h) (hK.kta (by decide))) rfl rfl rfl hl.1 (Nat.le_of_ble_eq_true rfl) dX3_activeTransaction_13 ⟨Nat.le_of_ble_eq_true rfl, Nat.le_of_ble_eq_true rfl⟩ (fun E ce q9 g9 H locs hp9 hM hce hcv hcl => ?_) (fun v9 g9 H locs hp9 hM => ?_)
              · exact (hp9.elim fun _ h9 => h9.2.elim)
              obtain ⟨h13, rfl, hp9⟩ := hp9
              obtain ⟨rfl, rfl⟩ := hp9
              refine W.eq (g2 := F0 m 16 ls [.int (if h.2.1 (ta 2) 0 = 0 then 0 else 1)]) rfl ?_
              refine lv_if_eq (tgt := 39) hx hb dX3_activeTransaction_16 (by decide) (fun c16_2 => ?_) (fun c16_2 => ?_)
              · have c16_2 := sh_a0 c16_2
                refine lv_iinc (v := 3) (lv' := [(2, .int 3), (0, .ref x), (1, .int k)]) hx hb dX3_activeTransaction_39 hl (k := 0) rfl (by decide) (by first | decide | omega) rfl (fun ls hl => ?_)
                refine lv_goto (tgt := 2) hx hb dX3_activeTransaction_42 (by decide) ?_
                refine lv_iload_n hx hb dX3_activeTransaction_2 rfl (lv_at hl 0 rfl) ?_
                refine lv_iconst (v := 3) hx hb dX3_activeTransaction_3 (by decide) ?_
                refine lv_icmp_ge (tgt := 45) hx hb dX3_activeTransaction_4 (by decide) (fun c4_3 => ?_) (fun c4_3 => ?_)
                · refine mw_throwN (Y := "java/lang/RuntimeException") (cls := "java/util/NoSuchElementException") (names := ["java/lang/Exception"]) (ik := 162) (is := 177) (ic := 166) hC hM htab hlk hl0 sx_177 (by decide +kernel) (by decide +kernel) (by decide +kernel) mb_311 mb_46 tg_166 tn_166 to_166 hl.1 dX3_activeTransaction_45 dX3_activeTransaction_48 dX3_activeTransaction_49 dX3_activeTransaction_51 dX3_activeTransaction_54 (Nat.le_of_ble_eq_true rfl) (Nat.le_of_ble_eq_true rfl) (Nat.le_of_ble_eq_true rfl) (Nat.le_of_ble_eq_true rfl) (Nat.le_of_ble_eq_true rfl) (Nat.le_of_ble_eq_true rfl) ⟨_, rfl, ?_⟩
                  refine ⟨rfl, rfl, sh_lt3 ?_ ?_ ?_⟩ <;> first | exact Or.inl (by assumption) | exact Or.inr (by assumption)
                · exact absurd c4_3 (by decide)
              · have c16_2 := sh_a1 c16_2
                refine lv_aload_n hx hb dX3_activeTransaction_19 rfl (lv_at hl 1 rfl) ?_
                refine gr_0_3 (index := 26) hC hM kx0 mb_127 dX3_activeTransaction_20 hK.xT ?_
                refine lv_iload_n hx hb dX3_activeTransaction_23 rfl (lv_at hl 0 rfl) ?_
                refine al_5 (i := 2) hC hM hK.kT (rfl) (by decide) (by first | decide | omega) (hK.rta (by decide)) dX3_activeTransaction_24 ?_
                refine gi_1_0 (index := 43) hC hM (hK.kta (by decide)) mb_117 dX3_activeTransaction_25 ?_
                refine lv_iload_n hx hb dX3_activeTransaction_28 rfl (lv_at hl 2 rfl) ?_
                refine lv_icmp_ne (tgt := 39) hx hb dX3_activeTransaction_29 (by decide) (fun c29_1 => ?_) (fun c29_1 => ?_)
                · refine lv_iinc (v := 3) (lv' := [(2, .int 3), (0, .ref x), (1, .int k)]) hx hb dX3_activeTransaction_39 hl (k := 0) rfl (by decide) (by first | decide | omega) rfl (fun ls hl => ?_)
                  refine lv_goto (tgt := 2) hx hb dX3_activeTransaction_42 (by decide) ?_
                  refine lv_iload_n hx hb dX3_activeTransaction_2 rfl (lv_at hl 0 rfl) ?_
                  refine lv_iconst (v := 3) hx hb dX3_activeTransaction_3 (by decide) ?_
                  refine lv_icmp_ge (tgt := 45) hx hb dX3_activeTransaction_4 (by decide) (fun c4_3 => ?_) (fun c4_3 => ?_)
                  · refine mw_throwN (Y := "java/lang/RuntimeException") (cls := "java/util/NoSuchElementException") (names := ["java/lang/Exception"]) (ik := 162) (is := 177) (ic := 166) hC hM htab hlk hl0 sx_177 (by decide +kernel) (by decide +kernel) (by decide +kernel) mb_311 mb_46 tg_166 tn_166 to_166 hl.1 dX3_activeTransaction_45 dX3_activeTransaction_48 dX3_activeTransaction_49 dX3_activeTransaction_51 dX3_activeTransaction_54 (Nat.le_of_ble_eq_true rfl) (Nat.le_of_ble_eq_true rfl) (Nat.le_of_ble_eq_true rfl) (Nat.le_of_ble_eq_true rfl) (Nat.le_of_ble_eq_true rfl) (Nat.le_of_ble_eq_true rfl) ⟨_, rfl, ?_⟩
                    refine ⟨rfl, rfl, sh_lt3 ?_ ?_ ?_⟩ <;> first | exact Or.inl (by assumption) | exact Or.inr (by assumption)
                  · exact absurd c4_3 (by decide)
                · refine lv_aload_n hx hb dX3_activeTransaction_32 rfl (lv_at hl 1 rfl) ?_
                  refine gr_0_3 (index := 26) hC hM kx0 mb_127 dX3_activeTransaction_33 hK.xT ?_
                  refine lv_iload_n hx hb dX3_activeTransaction_36 rfl (lv_at hl 0 rfl) ?_
                  refine al_5 (i := 2) hC hM hK.kT (rfl) (by decide) (by first | decide | omega) (hK.rta (by decide)) dX3_activeTransaction_37 ?_
                  refine mw_aret (r := some (ta 2)) hC hM hr hlk dX3_activeTransaction_38 (Nat.le_of_ble_eq_true rfl) (Nat.le_of_ble_eq_true rfl) ⟨_, rfl, ?_⟩
                  exact ⟨rfl, 2, ⟨by decide, c16_2, by assumption⟩, rfl⟩
          · refine lv_aload_n hx hb dX3_activeTransaction_32 rfl (lv_at hl 1 rfl) ?_
            refine gr_0_3 (index := 26) hC hM kx0 mb_127 dX3_activeTransaction_33 hK.xT ?_
            refine lv_iload_n hx hb dX3_activeTransaction_36 rfl (lv_at hl 0 rfl) ?_
            refine al_5 (i := 1) hC hM hK.kT (rfl) (by decide) (by first | decide | omega) (hK.rta (by decide)) dX3_activeTransaction_37 ?_
            refine mw_aret (r := some (ta 1)) hC hM hr hlk dX3_activeTransaction_38 (Nat.le_of_ble_eq_true rfl) (Nat.le_of_ble_eq_true rfl) ⟨_, rfl, ?_⟩
            exact ⟨rfl, 1, ⟨by decide, c16_1, by assumption⟩, rfl⟩
    · have c16 := sh_a1 c16
      refine lv_aload_n hx hb dX3_activeTransaction_19 rfl (lv_at hl 1 rfl) ?_
      refine gr_0_3 (index := 26) hC hM kx0 mb_127 dX3_activeTransaction_20 hK.xT ?_
      refine lv_iload_n hx hb dX3_activeTransaction_23 rfl (lv_at hl 0 rfl) ?_
      refine al_5 (i := 0) hC hM hK.kT (rfl) (by decide) (by first | decide | omega) (hK.rta (by decide)) dX3_activeTransaction_24 ?_
      refine gi_1_0 (index := 43) hC hM (hK.kta (by decide)) mb_117 dX3_activeTransaction_25 ?_
      refine lv_iload_n hx hb dX3_activeTransaction_28 rfl (lv_at hl 2 rfl) ?_
      refine lv_icmp_ne (tgt := 39) hx hb dX3_activeTransaction_29 (by decide) (fun c29 => ?_) (fun c29 => ?_)
      · refine lv_iinc (v := 1) (lv' := [(2, .int 1), (0, .ref x), (1, .int k)]) hx hb dX3_activeTransaction_39 hl (k := 0) rfl (by decide) (by first | decide | omega) rfl (fun ls hl => ?_)
        refine lv_goto (tgt := 2) hx hb dX3_activeTransaction_42 (by decide) ?_
        refine lv_iload_n hx hb dX3_activeTransaction_2 rfl (lv_at hl 0 rfl) ?_
        refine lv_iconst (v := 3) hx hb dX3_activeTransaction_3 (by decide) ?_
        refine lv_icmp_ge (tgt := 45) hx hb dX3_activeTransaction_4 (by decide) (fun c4_1 => ?_) (fun c4_1 => ?_)
        · exact absurd c4_1 (by decide)
        · refine lv_aload_n hx hb dX3_activeTransaction_7 rfl (lv_at hl 1 rfl) ?_
          refine gr_0_3 (index := 26) hC hM kx0 mb_127 dX3_activeTransaction_8 hK.xT ?_
          refine lv_iload_n hx hb dX3_activeTransaction_11 rfl (lv_at hl 0 rfl) ?_
          refine al_5 (i := 1) hC hM hK.kT (rfl) (by decide) (by first | decide | omega) (hK.rta (by decide)) dX3_activeTransaction_12 ?_
          refine mw_callV (As := []) (rest := []) (n := 0) (C := RX2) (T := TX2) (N := 2) (ci := 2) hC hM (c_X2_isActive l hl0 D cs h H.size (ta 1) (hK.kta (by decide))) (cwV 0 hC.1.2.2.2.2 (tb_V mb_169 mb_170 mb_171 mb_39 mb_172) rfl rfl rfl (by decide +kernel) ⟨Nat.le_of_ble_eq_true rfl, Nat.le_of_ble_eq_true rfl⟩) (th_at (h := h) (hK.kta (by decide))) rfl rfl rfl hl.1 (Nat.le_of_ble_eq_true rfl) dX3_activeTransaction_13 ⟨Nat.le_of_ble_eq_true rfl, Nat.le_of_ble_eq_true rfl⟩ (fun E ce q9 g9 H locs hp9 hM hce hcv hcl => ?_) (fun v9 g9 H locs hp9 hM => ?_)
          · exact (hp9.elim fun _ h9 => h9.2.elim)
          obtain ⟨h13, rfl, hp9⟩ := hp9
          obtain ⟨rfl, rfl⟩ := hp9
          refine W.eq (g2 := F0 m 16 ls [.int (if h.2.1 (ta 1) 0 = 0 then 0 else 1)]) rfl ?_
          refine lv_if_eq (tgt := 39) hx hb dX3_activeTransaction_16 (by decide) (fun c16_1 => ?_) (fun c16_1 => ?_)
          · have c16_1 := sh_a0 c16_1
            refine lv_iinc (v := 2) (lv' := [(2, .int 2), (0, .ref x), (1, .int k)]) hx hb dX3_activeTransaction_39 hl (k := 0) rfl (by decide) (by first | decide | omega) rfl (fun ls hl => ?_)
            refine lv_goto (tgt := 2) hx hb dX3_activeTransaction_42 (by decide) ?_
            refine lv_iload_n hx hb dX3_activeTransaction_2 rfl (lv_at hl 0 rfl) ?_
            refine lv_iconst (v := 3) hx hb dX3_activeTransaction_3 (by decide) ?_
            refine lv_icmp_ge (tgt := 45) hx hb dX3_activeTransaction_4 (by decide) (fun c4_2 => ?_) (fun c4_2 => ?_)
            · exact absurd c4_2 (by decide)
            · refine lv_aload_n hx hb dX3_activeTransaction_7 rfl (lv_at hl 1 rfl) ?_
              refine gr_0_3 (index := 26) hC hM kx0 mb_127 dX3_activeTransaction_8 hK.xT ?_
              refine lv_iload_n hx hb dX3_activeTransaction_11 rfl (lv_at hl 0 rfl) ?_
              refine al_5 (i := 2) hC hM hK.kT (rfl) (by decide) (by first | decide | omega) (hK.rta (by decide)) dX3_activeTransaction_12 ?_
              refine mw_callV (As := []) (rest := []) (n := 0) (C := RX2) (T := TX2) (N := 2) (ci := 2) hC hM (c_X2_isActive l hl0 D cs h H.size (ta 2) (hK.kta (by decide))) (cwV 0 hC.1.2.2.2.2 (tb_V mb_169 mb_170 mb_171 mb_39 mb_172) rfl rfl rfl (by decide +kernel) ⟨Nat.le_of_ble_eq_true rfl, Nat.le_of_ble_eq_true rfl⟩) (th_at (h := h) (hK.kta (by decide))) rfl rfl rfl hl.1 (Nat.le_of_ble_eq_true rfl) dX3_activeTransaction_13 ⟨Nat.le_of_ble_eq_true rfl, Nat.le_of_ble_eq_true rfl⟩ (fun E ce q9 g9 H locs hp9 hM hce hcv hcl => ?_) (fun v9 g9 H locs hp9 hM => ?_)
              · exact (hp9.elim fun _ h9 => h9.2.elim)
              obtain ⟨h13, rfl, hp9⟩ := hp9
              obtain ⟨rfl, rfl⟩ := hp9
              refine W.eq (g2 := F0 m 16 ls [.int (if h.2.1 (ta 2) 0 = 0 then 0 else 1)]) rfl ?_
              refine lv_if_eq (tgt := 39) hx hb dX3_activeTransaction_16 (by decide) (fun c16_2 => ?_) (fun c16_2 => ?_)
              · have c16_2 := sh_a0 c16_2
                refine lv_iinc (v := 3) (lv' := [(2, .int 3), (0, .ref x), (1, .int k)]) hx hb dX3_activeTransaction_39 hl (k := 0) rfl (by decide) (by first | decide | omega) rfl (fun ls hl => ?_)
                refine lv_goto (tgt := 2) hx hb dX3_activeTransaction_42 (by decide) ?_
                refine lv_iload_n hx hb dX3_activeTransaction_2 rfl (lv_at hl 0 rfl) ?_
                refine lv_iconst (v := 3) hx hb dX3_activeTransaction_3 (by decide) ?_
                refine lv_icmp_ge (tgt := 45) hx hb dX3_activeTransaction_4 (by decide) (fun c4_3 => ?_) (fun c4_3 => ?_)
                · refine mw_throwN (Y := "java/lang/RuntimeException") (cls := "java/util/NoSuchElementException") (names := ["java/lang/Exception"]) (ik := 162) (is := 177) (ic := 166) hC hM htab hlk hl0 sx_177 (by decide +kernel) (by decide +kernel) (by decide +kernel) mb_311 mb_46 tg_166 tn_166 to_166 hl.1 dX3_activeTransaction_45 dX3_activeTransaction_48 dX3_activeTransaction_49 dX3_activeTransaction_51 dX3_activeTransaction_54 (Nat.le_of_ble_eq_true rfl) (Nat.le_of_ble_eq_true rfl) (Nat.le_of_ble_eq_true rfl) (Nat.le_of_ble_eq_true rfl) (Nat.le_of_ble_eq_true rfl) (Nat.le_of_ble_eq_true rfl) ⟨_, rfl, ?_⟩
                  refine ⟨rfl, rfl, sh_lt3 ?_ ?_ ?_⟩ <;> first | exact Or.inl (by assumption) | exact Or.inr (by assumption)
                · exact absurd c4_3 (by decide)
              · have c16_2 := sh_a1 c16_2
                refine lv_aload_n hx hb dX3_activeTransaction_19 rfl (lv_at hl 1 rfl) ?_
                refine gr_0_3 (index := 26) hC hM kx0 mb_127 dX3_activeTransaction_20 hK.xT ?_
                refine lv_iload_n hx hb dX3_activeTransaction_23 rfl (lv_at hl 0 rfl) ?_
                refine al_5 (i := 2) hC hM hK.kT (rfl) (by decide) (by first | decide | omega) (hK.rta (by decide)) dX3_activeTransaction_24 ?_
                refine gi_1_0 (index := 43) hC hM (hK.kta (by decide)) mb_117 dX3_activeTransaction_25 ?_
                refine lv_iload_n hx hb dX3_activeTransaction_28 rfl (lv_at hl 2 rfl) ?_
                refine lv_icmp_ne (tgt := 39) hx hb dX3_activeTransaction_29 (by decide) (fun c29_1 => ?_) (fun c29_1 => ?_)
                · refine lv_iinc (v := 3) (lv' := [(2, .int 3), (0, .ref x), (1, .int k)]) hx hb dX3_activeTransaction_39 hl (k := 0) rfl (by decide) (by first | decide | omega) rfl (fun ls hl => ?_)
                  refine lv_goto (tgt := 2) hx hb dX3_activeTransaction_42 (by decide) ?_
                  refine lv_iload_n hx hb dX3_activeTransaction_2 rfl (lv_at hl 0 rfl) ?_
                  refine lv_iconst (v := 3) hx hb dX3_activeTransaction_3 (by decide) ?_
                  refine lv_icmp_ge (tgt := 45) hx hb dX3_activeTransaction_4 (by decide) (fun c4_3 => ?_) (fun c4_3 => ?_)
                  · refine mw_throwN (Y := "java/lang/RuntimeException") (cls := "java/util/NoSuchElementException") (names := ["java/lang/Exception"]) (ik := 162) (is := 177) (ic := 166) hC hM htab hlk hl0 sx_177 (by decide +kernel) (by decide +kernel) (by decide +kernel) mb_311 mb_46 tg_166 tn_166 to_166 hl.1 dX3_activeTransaction_45 dX3_activeTransaction_48 dX3_activeTransaction_49 dX3_activeTransaction_51 dX3_activeTransaction_54 (Nat.le_of_ble_eq_true rfl) (Nat.le_of_ble_eq_true rfl) (Nat.le_of_ble_eq_true rfl) (Nat.le_of_ble_eq_true rfl) (Nat.le_of_ble_eq_true rfl) (Nat.le_of_ble_eq_true rfl) ⟨_, rfl, ?_⟩
                    refine ⟨rfl, rfl, sh_lt3 ?_ ?_ ?_⟩ <;> first | exact Or.inl (by assumption) | exact Or.inr (by assumption)
                  · exact absurd c4_3 (by decide)
                · refine lv_aload_n hx hb dX3_activeTransaction_32 rfl (lv_at hl 1 rfl) ?_
                  refine gr_0_3 (index := 26) hC hM kx0 mb_127 dX3_activeTransaction_33 hK.xT ?_
                  refine lv_iload_n hx hb dX3_activeTransaction_36 rfl (lv_at hl 0 rfl) ?_
                  refine al_5 (i := 2) hC hM hK.kT (rfl) (by decide) (by first | decide | omega) (hK.rta (by decide)) dX3_activeTransaction_37 ?_
                  refine mw_aret (r := some (ta 2)) hC hM hr hlk dX3_activeTransaction_38 (Nat.le_of_ble_eq_true rfl) (Nat.le_of_ble_eq_true rfl) ⟨_, rfl, ?_⟩
                  exact ⟨rfl, 2, ⟨by decide, c16_2, by assumption⟩, rfl⟩
          · have c16_1 := sh_a1 c16_1
            refine lv_aload_n hx hb dX3_activeTransaction_19 rfl (lv_at hl 1 rfl) ?_
            refine gr_0_3 (index := 26) hC hM kx0 mb_127 dX3_activeTransaction_20 hK.xT ?_
            refine lv_iload_n hx hb dX3_activeTransaction_23 rfl (lv_at hl 0 rfl) ?_
            refine al_5 (i := 1) hC hM hK.kT (rfl) (by decide) (by first | decide | omega) (hK.rta (by decide)) dX3_activeTransaction_24 ?_
            refine gi_1_0 (index := 43) hC hM (hK.kta (by decide)) mb_117 dX3_activeTransaction_25 ?_
            refine lv_iload_n hx hb dX3_activeTransaction_28 rfl (lv_at hl 2 rfl) ?_
            refine lv_icmp_ne (tgt := 39) hx hb dX3_activeTransaction_29 (by decide) (fun c29_1 => ?_) (fun c29_1 => ?_)
            · refine lv_iinc (v := 2) (lv' := [(2, .int 2), (0, .ref x), (1, .int k)]) hx hb dX3_activeTransaction_39 hl (k := 0) rfl (by decide) (by first | decide | omega) rfl (fun ls hl => ?_)
              refine lv_goto (tgt := 2) hx hb dX3_activeTransaction_42 (by decide) ?_
              refine lv_iload_n hx hb dX3_activeTransaction_2 rfl (lv_at hl 0 rfl) ?_
              refine lv_iconst (v := 3) hx hb dX3_activeTransaction_3 (by decide) ?_
              refine lv_icmp_ge (tgt := 45) hx hb dX3_activeTransaction_4 (by decide) (fun c4_2 => ?_) (fun c4_2 => ?_)
              · exact absurd c4_2 (by decide)
              · refine lv_aload_n hx hb dX3_activeTransaction_7 rfl (lv_at hl 1 rfl) ?_
                refine gr_0_3 (index := 26) hC hM kx0 mb_127 dX3_activeTransaction_8 hK.xT ?_
                refine lv_iload_n hx hb dX3_activeTransaction_11 rfl (lv_at hl 0 rfl) ?_
                refine al_5 (i := 2) hC hM hK.kT (rfl) (by decide) (by first | decide | omega) (hK.rta (by decide)) dX3_activeTransaction_12 ?_
                refine mw_callV (As := []) (rest := []) (n := 0) (C := RX2) (T := TX2) (N := 2) (ci := 2) hC hM (c_X2_isActive l hl0 D cs h H.size (ta 2) (hK.kta (by decide))) (cwV 0 hC.1.2.2.2.2 (tb_V mb_169 mb_170 mb_171 mb_39 mb_172) rfl rfl rfl (by decide +kernel) ⟨Nat.le_of_ble_eq_true rfl, Nat.le_of_ble_eq_true rfl⟩) (th_at (h := h) (hK.kta (by decide))) rfl rfl rfl hl.1 (Nat.le_of_ble_eq_true rfl) dX3_activeTransaction_13 ⟨Nat.le_of_ble_eq_true rfl, Nat.le_of_ble_eq_true rfl⟩ (fun E ce q9 g9 H locs hp9 hM hce hcv hcl => ?_) (fun v9 g9 H locs hp9 hM => ?_)
                · exact (hp9.elim fun _ h9 => h9.2.elim)
                obtain ⟨h13, rfl, hp9⟩ := hp9
                obtain ⟨rfl, rfl⟩ := hp9
                refine W.eq (g2 := F0 m 16 ls [.int (if h.2.1 (ta 2) 0 = 0 then 0 else 1)]) rfl ?_
                refine lv_if_eq (tgt := 39) hx hb dX3_activeTransaction_16 (by decide) (fun c16_2 => ?_) (fun c16_2 => ?_)
                · have c16_2 := sh_a0 c16_2
                  refine lv_iinc (v := 3) (lv' := [(2, .int 3), (0, .ref x), (1, .int k)]) hx hb dX3_activeTransaction_39 hl (k := 0) rfl (by decide) (by first | decide | omega) rfl (fun ls hl => ?_)
                  refine lv_goto (tgt := 2) hx hb dX3_activeTransaction_42 (by decide) ?_
                  refine lv_iload_n hx hb dX3_activeTransaction_2 rfl (lv_at hl 0 rfl) ?_
                  refine lv_iconst (v := 3) hx hb dX3_activeTransaction_3 (by decide) ?_
                  refine lv_icmp_ge (tgt := 45) hx hb dX3_activeTransaction_4 (by decide) (fun c4_3 => ?_) (fun c4_3 => ?_)
                  · refine mw_throwN (Y := "java/lang/RuntimeException") (cls := "java/util/NoSuchElementException") (names := ["java/lang/Exception"]) (ik := 162) (is := 177) (ic := 166) hC hM htab hlk hl0 sx_177 (by decide +kernel) (by decide +kernel) (by decide +kernel) mb_311 mb_46 tg_166 tn_166 to_166 hl.1 dX3_activeTransaction_45 dX3_activeTransaction_48 dX3_activeTransaction_49 dX3_activeTransaction_51 dX3_activeTransaction_54 (Nat.le_of_ble_eq_true rfl) (Nat.le_of_ble_eq_true rfl) (Nat.le_of_ble_eq_true rfl) (Nat.le_of_ble_eq_true rfl) (Nat.le_of_ble_eq_true rfl) (Nat.le_of_ble_eq_true rfl) ⟨_, rfl, ?_⟩
                    refine ⟨rfl, rfl, sh_lt3 ?_ ?_ ?_⟩ <;> first | exact Or.inl (by assumption) | exact Or.inr (by assumption)
                  · exact absurd c4_3 (by decide)
                · have c16_2 := sh_a1 c16_2
                  refine lv_aload_n hx hb dX3_activeTransaction_19 rfl (lv_at hl 1 rfl) ?_
                  refine gr_0_3 (index := 26) hC hM kx0 mb_127 dX3_activeTransaction_20 hK.xT ?_
                  refine lv_iload_n hx hb dX3_activeTransaction_23 rfl (lv_at hl 0 rfl) ?_
                  refine al_5 (i := 2) hC hM hK.kT (rfl) (by decide) (by first | decide | omega) (hK.rta (by decide)) dX3_activeTransaction_24 ?_
                  refine gi_1_0 (index := 43) hC hM (hK.kta (by decide)) mb_117 dX3_activeTransaction_25 ?_
                  refine lv_iload_n hx hb dX3_activeTransaction_28 rfl (lv_at hl 2 rfl) ?_
                  refine lv_icmp_ne (tgt := 39) hx hb dX3_activeTransaction_29 (by decide) (fun c29_2 => ?_) (fun c29_2 => ?_)
                  · refine lv_iinc (v := 3) (lv' := [(2, .int 3), (0, .ref x), (1, .int k)]) hx hb dX3_activeTransaction_39 hl (k := 0) rfl (by decide) (by first | decide | omega) rfl (fun ls hl => ?_)
                    refine lv_goto (tgt := 2) hx hb dX3_activeTransaction_42 (by decide) ?_
                    refine lv_iload_n hx hb dX3_activeTransaction_2 rfl (lv_at hl 0 rfl) ?_
                    refine lv_iconst (v := 3) hx hb dX3_activeTransaction_3 (by decide) ?_
                    refine lv_icmp_ge (tgt := 45) hx hb dX3_activeTransaction_4 (by decide) (fun c4_3 => ?_) (fun c4_3 => ?_)
                    · refine mw_throwN (Y := "java/lang/RuntimeException") (cls := "java/util/NoSuchElementException") (names := ["java/lang/Exception"]) (ik := 162) (is := 177) (ic := 166) hC hM htab hlk hl0 sx_177 (by decide +kernel) (by decide +kernel) (by decide +kernel) mb_311 mb_46 tg_166 tn_166 to_166 hl.1 dX3_activeTransaction_45 dX3_activeTransaction_48 dX3_activeTransaction_49 dX3_activeTransaction_51 dX3_activeTransaction_54 (Nat.le_of_ble_eq_true rfl) (Nat.le_of_ble_eq_true rfl) (Nat.le_of_ble_eq_true rfl) (Nat.le_of_ble_eq_true rfl) (Nat.le_of_ble_eq_true rfl) (Nat.le_of_ble_eq_true rfl) ⟨_, rfl, ?_⟩
                      refine ⟨rfl, rfl, sh_lt3 ?_ ?_ ?_⟩ <;> first | exact Or.inl (by assumption) | exact Or.inr (by assumption)
                    · exact absurd c4_3 (by decide)
                  · refine lv_aload_n hx hb dX3_activeTransaction_32 rfl (lv_at hl 1 rfl) ?_
                    refine gr_0_3 (index := 26) hC hM kx0 mb_127 dX3_activeTransaction_33 hK.xT ?_
                    refine lv_iload_n hx hb dX3_activeTransaction_36 rfl (lv_at hl 0 rfl) ?_
                    refine al_5 (i := 2) hC hM hK.kT (rfl) (by decide) (by first | decide | omega) (hK.rta (by decide)) dX3_activeTransaction_37 ?_
                    refine mw_aret (r := some (ta 2)) hC hM hr hlk dX3_activeTransaction_38 (Nat.le_of_ble_eq_true rfl) (Nat.le_of_ble_eq_true rfl) ⟨_, rfl, ?_⟩
                    exact ⟨rfl, 2, ⟨by decide, c16_2, by assumption⟩, rfl⟩
            · refine lv_aload_n hx hb dX3_activeTransaction_32 rfl (lv_at hl 1 rfl) ?_
              refine gr_0_3 (index := 26) hC hM kx0 mb_127 dX3_activeTransaction_33 hK.xT ?_
              refine lv_iload_n hx hb dX3_activeTransaction_36 rfl (lv_at hl 0 rfl) ?_
              refine al_5 (i := 1) hC hM hK.kT (rfl) (by decide) (by first | decide | omega) (hK.rta (by decide)) dX3_activeTransaction_37 ?_
              refine mw_aret (r := some (ta 1)) hC hM hr hlk dX3_activeTransaction_38 (Nat.le_of_ble_eq_true rfl) (Nat.le_of_ble_eq_true rfl) ⟨_, rfl, ?_⟩
              exact ⟨rfl, 1, ⟨by decide, c16_1, by assumption⟩, rfl⟩
      · refine lv_aload_n hx hb dX3_activeTransaction_32 rfl (lv_at hl 1 rfl) ?_
        refine gr_0_3 (index := 26) hC hM kx0 mb_127 dX3_activeTransaction_33 hK.xT ?_
        refine lv_iload_n hx hb dX3_activeTransaction_36 rfl (lv_at hl 0 rfl) ?_
        refine al_5 (i := 0) hC hM hK.kT (rfl) (by decide) (by first | decide | omega) (hK.rta (by decide)) dX3_activeTransaction_37 ?_
        refine mw_aret (r := some (ta 0)) hC hM hr hlk dX3_activeTransaction_38 (Nat.le_of_ble_eq_true rfl) (Nat.le_of_ble_eq_true rfl) ⟨_, rfl, ?_⟩
        exact ⟨rfl, 0, ⟨by decide, c16, by assumption⟩, rfl⟩

-- StableHeap.handleOf
set_option maxHeartbeats 4000000 in
set_option maxRecDepth 100000 in
theorem c_X3_handleOf (l : Launch) (hl0 : l.stackTraces = false) (D : va_G) (cs : Nat → ClassId) (h : th_S) (sz : Nat) (r : Option Nat) (hr0 : ∀ b, r = some b → h.1 b = some (2, 0)) : th_M l yX3_handleOf wsX3_handleOf { frames := 0, cells := 0, slots := 0, locals := 0 } D cs h sz [va_rf r] (fun v h' => h = h' ∧ v = some (.int (sh_hd h r))) (fun E h' => False) := by
  rcases r with _ | b
  · skip
    refine mw_ofW (cc := cX3_handleOf) (maxL := 1) (ret := (some .int)) (by decide) rfl (fun w h => List.mem_cons_of_mem _ h) th_cd (Nat.le_of_ble_eq_true rfl) ?_
    intro p e s m below meth c hsz hC hr hlk hnm htab hM ls hl
    have hC : th_C D cs h p m c cX3_handleOf 1 s [.null] RX3 := hC
    have hx := hC.1.1
    have hb := hC.1.2.1
    have hl : lv_has ls 1 [(0, .null)] := hl
    refine lv_aload_nN hx hb dX3_handleOf_0 rfl (lv_at hl 0 rfl) ?_
    refine lv_ifnonnullN hx hb dX3_handleOf_1 ?_
    refine lv_iconst (v := 0) hx hb dX3_handleOf_4 (by decide) ?_
    refine lv_goto (tgt := 12) hx hb dX3_handleOf_5 (by decide) ?_
    refine mw_iret hC hM hr hlk dX3_handleOf_12 (Nat.le_of_ble_eq_true rfl) (Nat.le_of_ble_eq_true rfl) ⟨_, rfl, ?_⟩
    exact ⟨rfl, rfl⟩
  · skip
    refine mw_ofW (cc := cX3_handleOf) (maxL := 1) (ret := (some .int)) (by decide) rfl (fun w h => List.mem_cons_of_mem _ h) th_cd (Nat.le_of_ble_eq_true rfl) ?_
    intro p e s m below meth c hsz hC hr hlk hnm htab hM ls hl
    have hC : th_C D cs h p m c cX3_handleOf 1 s [.ref b] RX3 := hC
    have hx := hC.1.1
    have hb := hC.1.2.1
    have hl : lv_has ls 1 [(0, .ref b)] := hl
    refine lv_aload_n hx hb dX3_handleOf_0 rfl (lv_at hl 0 rfl) ?_
    refine lv_ifnonnull (tgt := 8) hx hb dX3_handleOf_1 (by decide) ?_
    refine lv_aload_n hx hb dX3_handleOf_8 rfl (lv_at hl 0 rfl) ?_
    refine gi_2_0 (index := 184) hC hM (hr0 b rfl) mb_96 dX3_handleOf_9 ?_
    refine mw_iret hC hM hr hlk dX3_handleOf_12 (Nat.le_of_ble_eq_true rfl) (Nat.le_of_ble_eq_true rfl) ⟨_, rfl, ?_⟩
    exact ⟨rfl, rfl⟩

-- StableHeap.refuseIfLockedByAnother
set_option maxHeartbeats 4000000 in
set_option maxRecDepth 100000 in
theorem c_X3_refuseIfLockedByAnother (l : Launch) (hl0 : l.stackTraces = false) (D : va_G) (cs : Nat → ClassId) (h : th_S) (sz : Nat) (a t : Nat) (ha : h.1 a = some (2, 0)) (ht : h.1 t = some (1, 0)) : th_M l yX3_refuseIfLockedByAnother wsX3_refuseIfLockedByAnother { frames := 6, cells := 1, slots := 6, locals := 90 } D cs h sz [.ref a, .ref t] (fun v h' => h = h' ∧ v = none ∧ (h.2.1 a 2 = 0 ∨ h.2.1 a 2 = h.2.1 t 0)) (fun E h' => E = "java/lang/IllegalStateException" ∧ h = h' ∧ ¬ h.2.1 a 2 = 0 ∧ ¬ h.2.1 a 2 = h.2.1 t 0) := by
  refine mw_ofW (cc := cX3_refuseIfLockedByAnother) (maxL := 2) (ret := none) (by decide) rfl (fun w h => List.mem_cons_of_mem _ h) th_cd (Nat.le_of_ble_eq_true rfl) ?_
  intro p e s m below meth c hsz hC hr hlk hnm htab hM ls hl
  have hC : th_C D cs h p m c cX3_refuseIfLockedByAnother 2 s [.ref a, .ref t] RX3 := hC
  have hx := hC.1.1
  have hb := hC.1.2.1
  have hl : lv_has ls 2 [(0, .ref a), (1, .ref t)] := hl
  refine lv_aload_n hx hb dX3_refuseIfLockedByAnother_0 rfl (lv_at hl 0 rfl) ?_
  refine gi_2_2 (index := 71) hC hM ha mb_100 dX3_refuseIfLockedByAnother_1 ?_
  refine lv_if_eq (tgt := 28) hx hb dX3_refuseIfLockedByAnother_4 (by decide) (fun c4 => ?_) (fun c4 => ?_)
  · refine mw_vret hC hM hr hlk dX3_refuseIfLockedByAnother_28 (Nat.le_of_ble_eq_true rfl) (Nat.le_of_ble_eq_true rfl) ⟨_, rfl, ?_⟩
    exact ⟨rfl, rfl, by first | exact Or.inl c4 | exact Or.inr c15⟩
  · refine lv_aload_n hx hb dX3_refuseIfLockedByAnother_7 rfl (lv_at hl 0 rfl) ?_
    refine gi_2_2 (index := 71) hC hM ha mb_100 dX3_refuseIfLockedByAnother_8 ?_
    refine lv_aload_n hx hb dX3_refuseIfLockedByAnother_11 rfl (lv_at hl 1 rfl) ?_
    refine gi_1_0 (index := 43) hC hM ht mb_117 dX3_refuseIfLockedByAnother_12 ?_
    refine lv_icmp_eq (tgt := 28) hx hb dX3_refuseIfLockedByAnother_15 (by decide) (fun c15 => ?_) (fun c15 => ?_)
    · refine mw_vret hC hM hr hlk dX3_refuseIfLockedByAnother_28 (Nat.le_of_ble_eq_true rfl) (Nat.le_of_ble_eq_true rfl) ⟨_, rfl, ?_⟩
      exact ⟨rfl, rfl, by first | exact Or.inl c4 | exact Or.inr c15⟩
    · refine mw_throw (cls := "java/lang/IllegalStateException") (names := ["java/lang/RuntimeException", "java/lang/Exception"]) (ik := 63) (is := 192) (ic := 67) hC hM htab hlk hl0 sx_192 (by decide +kernel) (by decide +kernel) mb_222 mb_44 tg_67 tn_67 to_67 hl.1 dX3_refuseIfLockedByAnother_18 dX3_refuseIfLockedByAnother_21 dX3_refuseIfLockedByAnother_22 dX3_refuseIfLockedByAnother_24 dX3_refuseIfLockedByAnother_27 (Nat.le_of_ble_eq_true rfl) (Nat.le_of_ble_eq_true rfl) (Nat.le_of_ble_eq_true rfl) (Nat.le_of_ble_eq_true rfl) (Nat.le_of_ble_eq_true rfl) (Nat.le_of_ble_eq_true rfl) ⟨_, rfl, ?_⟩
      exact ⟨rfl, rfl, c4, c15⟩

-- the loop at 94 of StableHeap.findHeld
set_option maxHeartbeats 4000000 in
set_option maxRecDepth 100000 in
theorem lo_X3_findHeld_94 {l : Launch} (hl0 : l.stackTraces = false) {D : va_G} {cs : Nat → ClassId} {h : th_S} (x aR aO aH aT : Nat) (rt ta : Nat → Nat) (hK : sh_K x aR aO aH aT rt ta h) (n : Nat) (hO : sh_O x aO n h) {p : Program} {e : Env} {s : State} {m : MethodId} {below : List Frame} {meth : Method} {c : Code} (hC : th_C D cs h p m c cX3_findHeld 2 s [.ref x] RX3) (hr : meth.sig.returnType = none) (hlk : meth.locks = false) (htab : ∀ x ∈ c.exceptionTable.toList, False) : ∀ (q : Nat) (i : Nat) (u : Nat × th_S) (H : Heap) (locs : List Loc) (ls : Array Slot), (i + q = 80) → (fh_I x aR aO aH aT rt ta n u) → (fw_s x aH q i u = sh_fh x aO aH n rt h) → th_H D cs h s u.2 H locs → lv_has ls 2 [(0, .ref x), (1, .int (nI i))] → W p l e { frames := 2, cells := 0, slots := 0, locals := 43 } s m [.ref x].toArray below meth c H locs 0 0 (th_Q below D cs h s [.ref x] (fun v h' => v = none ∧ h' = (sh_fh x aO aH n rt h).2) (fun E h' => False) 0 0) (F0 m 94 ls []) := by
  have hx := hC.1.1
  have hb := hC.1.2.1
  intro q
  induction q with
  | zero =>
    intro i u H locs ls hin hI heq hM hl
    obtain ⟨hKu, hCu, hOu, hWu⟩ := hI
    refine lv_iload_n hx hb dX3_findHeld_94 rfl (lv_at hl 1 rfl) ?_
    refine lv_aload_n hx hb dX3_findHeld_95 rfl (lv_at hl 0 rfl) ?_
    refine gi_0_5 (index := 150) hC hM hKu.kx mb_129 dX3_findHeld_96 ?_
    rw [show u.2.2.1 x 5 = nI u.1 from hCu.1]
    refine lv_icmp_ge (tgt := 127) hx hb dX3_findHeld_99 (by decide) (fun c99 => ?_) (fun c99 => ?_)
    · refine mw_vret hC hM hr hlk dX3_findHeld_127 (Nat.le_of_ble_eq_true rfl) (Nat.le_of_ble_eq_true rfl) ⟨_, rfl, ?_⟩
      exact ⟨rfl, by rw [← heq]; rfl⟩
    · exact absurd (nI_le (show u.1 ≤ i by have := hCu.2; omega) (by omega)) c99
  | succ q ih =>
    intro i u H locs ls hin hI heq hM hl
    obtain ⟨hKu, hCu, hOu, hWu⟩ := hI
    refine lv_iload_n hx hb dX3_findHeld_94 rfl (lv_at hl 1 rfl) ?_
    refine lv_aload_n hx hb dX3_findHeld_95 rfl (lv_at hl 0 rfl) ?_
    refine gi_0_5 (index := 150) hC hM hKu.kx mb_129 dX3_findHeld_96 ?_
    rw [show u.2.2.1 x 5 = nI u.1 from hCu.1]
    refine lv_icmp_ge (tgt := 127) hx hb dX3_findHeld_99 (by decide) (fun c99 => ?_) (fun c99 => ?_)
    · refine mw_vret hC hM hr hlk dX3_findHeld_127 (Nat.le_of_ble_eq_true rfl) (Nat.le_of_ble_eq_true rfl) ⟨_, rfl, ?_⟩
      exact ⟨rfl, by rw [← heq, fw_s, if_neg (fun q9 => absurd c99 (nI_ge q9 (by have := hCu.2; omega)))]⟩
    · have hiu : i < u.1 := by
        rcases Nat.lt_or_ge i u.1 with q9 | q9
        · exact q9
        · exact absurd (nI_le q9 (by omega)) c99
      obtain ⟨a, ea, ka⟩ := hWu i hiu
      refine lv_iload_n hx hb dX3_findHeld_102 rfl (lv_at hl 1 rfl) ?_
      refine lv_aload_n hx hb dX3_findHeld_103 rfl (lv_at hl 0 rfl) ?_
      refine gr_0_2 (index := 21) hC hM hKu.kx mb_126 dX3_findHeld_104 hKu.xH ?_
      refine an_4 hC hM hKu.kH dX3_findHeld_107 ?_
      refine lv_icmp_ge (tgt := 127) hx hb dX3_findHeld_108 (by decide) (fun c108 => ?_) (fun c108 => ?_)
      · exact absurd c108 (nI_ge (by omega) (by decide))
      · refine lv_aload_n hx hb dX3_findHeld_111 rfl (lv_at hl 0 rfl) ?_
        refine lv_aload_n hx hb dX3_findHeld_112 rfl (lv_at hl 0 rfl) ?_
        refine gr_0_2 (index := 21) hC hM hKu.kx mb_126 dX3_findHeld_113 hKu.xH ?_
        refine lv_iload_n hx hb dX3_findHeld_116 rfl (lv_at hl 1 rfl) ?_
        refine al_4 (i := i) hC hM hKu.kH (rfl) (by omega) (by first | decide | omega) ea dX3_findHeld_117 ?_
        refine mw_callV (As := [.ref a]) (rest := []) (n := 1) (C := RX3) (T := TX3) (N := 11) (ci := 3) hC hM (c_X3_holdTargets l hl0 D cs u.2 H.size x aR aO aH aT rt ta hKu n hOu u.1 hCu a ka) (cwV 1 hC.1.2.2.2.2 (tb_V mb_195 mb_196 mb_3 mb_36 mb_197) rfl rfl rfl (by decide +kernel) ⟨Nat.le_of_ble_eq_true rfl, Nat.le_of_ble_eq_true rfl⟩) (th_at (h := u.2) hKu.kx) rfl rfl rfl hl.1 (Nat.le_of_ble_eq_true rfl) dX3_findHeld_118 ⟨Nat.le_of_ble_eq_true rfl, Nat.le_of_ble_eq_true rfl⟩ (fun E ce q9 g9 H locs hp9 hM hce hcv hcl => ?_) (fun v9 g9 H locs hp9 hM => ?_)
        · exact (hp9.elim fun _ h9 => h9.2.elim)
        obtain ⟨h118, rfl, hp9⟩ := hp9
        obtain ⟨rfl, rfl⟩ := hp9
        refine W.eq (g2 := F0 m 121 ls []) rfl ?_
        refine lv_iinc (v := nI (i + 1)) (lv' := [(1, .int (nI (i + 1))), (0, .ref x)]) hx hb dX3_findHeld_121 hl (k := 1) rfl (by exact nI_1 i) (by first | decide | omega) rfl (fun ls hl => ?_)
        refine lv_goto (tgt := 94) hx hb dX3_findHeld_124 (by decide) ?_
        exact ih (i + 1) (hta x aH u a) H locs ls (by omega) ((show fh_I x aR aO aH aT rt ta n u from ⟨hKu, hCu, hOu, hWu⟩).hta ka) (by rw [← heq, fw_s, if_pos hiu, ea]; rfl) hM (lv_sub hl [1, 0] rfl)

-- the loop at 56 of StableHeap.findHeld
set_option maxHeartbeats 4000000 in
set_option maxRecDepth 100000 in
theorem lo_X3_findHeld_56 {l : Launch} (hl0 : l.stackTraces = false) {D : va_G} {cs : Nat → ClassId} {h : th_S} (x aR aO aH aT : Nat) (rt ta : Nat → Nat) (hK : sh_K x aR aO aH aT rt ta h) (n : Nat) (hO : sh_O x aO n h) {p : Program} {e : Env} {s : State} {m : MethodId} {below : List Frame} {meth : Method} {c : Code} (hC : th_C D cs h p m c cX3_findHeld 2 s [.ref x] RX3) (hr : meth.sig.returnType = none) (hlk : meth.locks = false) (htab : ∀ x ∈ c.exceptionTable.toList, False) : ∀ (q : Nat) (i : Nat) (H : Heap) (locs : List Loc) (ls : Array Slot), (i + q = n) → th_H D cs h s ((fo_s x aH (vw_ob aO h) (fh_2 x aO aH n rt h) i).2) H locs → lv_has ls 2 [(0, .ref x), (1, .int (nI i))] → W p l e { frames := 2, cells := 0, slots := 0, locals := 43 } s m [.ref x].toArray below meth c H locs 0 0 (th_Q below D cs h s [.ref x] (fun v h' => v = none ∧ h' = (sh_fh x aO aH n rt h).2) (fun E h' => False) 0 0) (F0 m 56 ls []) := by
  have hx := hC.1.1
  have hb := hC.1.2.1
  intro q
  induction q with
  | zero =>
    intro i H locs ls hin hM hl
    obtain ⟨hKu, hCu, hOu, hWu⟩ := fh_3_I hK hO (show i ≤ n by omega)
    have ku : (fo_s x aH (vw_ob aO h) (fh_2 x aO aH n rt h) i).2.1 = h.1 := fh_3_k n i
    have ru : ∀ j, (fo_s x aH (vw_ob aO h) (fh_2 x aO aH n rt h) i).2.2.2 aO j = h.2.2 aO j := fun j => by rw [fh_3_r n hK.2.2.1.2.2 i]
    refine lv_iload_n hx hb dX3_findHeld_56 rfl (lv_at hl 1 rfl) ?_
    refine lv_aload_n hx hb dX3_findHeld_57 rfl (lv_at hl 0 rfl) ?_
    refine gi_0_4 (index := 60) hC hM hKu.kx mb_128 dX3_findHeld_58 ?_
    rw [show ((fo_s x aH (vw_ob aO h) (fh_2 x aO aH n rt h) i).2).2.1 x 4 = nI n from hOu.2.1]
    refine lv_icmp_ge (tgt := 92) hx hb dX3_findHeld_61 (by decide) (fun c61 => ?_) (fun c61 => ?_)
    · refine lv_iconst (v := 0) hx hb dX3_findHeld_92 (by decide) ?_
      refine lv_istore_n (lv' := [(1, .int 0), (0, .ref x)]) hx hb dX3_findHeld_93 rfl hl (by decide) rfl (fun ls hl => ?_)
      exact lo_X3_findHeld_94 hl0 x aR aO aH aT rt ta hK n hO hC hr hlk htab 80 0 (fh_3 x aO aH n rt h) _ _ ls (by omega) (fh_3_I hK hO (Nat.le_refl n)) rfl (by rw [show i = n by omega] at hM; exact hM) (lv_sub hl [1, 0] rfl)
    · exact absurd (nI_le (show n ≤ i by omega) (by have := hO.1; omega)) c61
  | succ q ih =>
    intro i H locs ls hin hM hl
    obtain ⟨hKu, hCu, hOu, hWu⟩ := fh_3_I hK hO (show i ≤ n by omega)
    have ku : (fo_s x aH (vw_ob aO h) (fh_2 x aO aH n rt h) i).2.1 = h.1 := fh_3_k n i
    have ru : ∀ j, (fo_s x aH (vw_ob aO h) (fh_2 x aO aH n rt h) i).2.2.2 aO j = h.2.2 aO j := fun j => by rw [fh_3_r n hK.2.2.1.2.2 i]
    have kb : (fo_s x aH (vw_ob aO h) (fh_2 x aO aH n rt h) i).2.1 (vw_ob aO h i) = some (2, 0) := by rw [ku]; exact (hO.ob (by omega)).2
    refine lv_iload_n hx hb dX3_findHeld_56 rfl (lv_at hl 1 rfl) ?_
    refine lv_aload_n hx hb dX3_findHeld_57 rfl (lv_at hl 0 rfl) ?_
    refine gi_0_4 (index := 60) hC hM hKu.kx mb_128 dX3_findHeld_58 ?_
    rw [show ((fo_s x aH (vw_ob aO h) (fh_2 x aO aH n rt h) i).2).2.1 x 4 = nI n from hOu.2.1]
    refine lv_icmp_ge (tgt := 92) hx hb dX3_findHeld_61 (by decide) (fun c61 => ?_) (fun c61 => ?_)
    · exact absurd c61 (nI_ge (by omega) (by have := hO.1; omega))
    · refine lv_aload_n hx hb dX3_findHeld_64 rfl (lv_at hl 0 rfl) ?_
      refine gr_0_1 (index := 18) hC hM hKu.kx mb_125 dX3_findHeld_65 hKu.xO ?_
      refine lv_iload_n hx hb dX3_findHeld_68 rfl (lv_at hl 1 rfl) ?_
      refine al_4 (i := i) hC hM hKu.kO (rfl) (by have := hO.1; omega) (by first | decide | omega) ((ru i).trans (hO.ob (by omega)).1) dX3_findHeld_69 ?_
      refine gi_2_2 (index := 71) hC hM kb mb_100 dX3_findHeld_70 ?_
      refine lv_if_eq (tgt := 86) hx hb dX3_findHeld_73 (by decide) (fun c73 => ?_) (fun c73 => ?_)
      · refine lv_iinc (v := nI (i + 1)) (lv' := [(1, .int (nI (i + 1))), (0, .ref x)]) hx hb dX3_findHeld_86 hl (k := 1) rfl (by exact nI_1 i) (by first | decide | omega) rfl (fun ls hl => ?_)
        refine lv_goto (tgt := 56) hx hb dX3_findHeld_89 (by decide) ?_
        exact ih (i + 1) H locs ls (by omega) (by
          show th_H D cs h s (fo_s x aH (vw_ob aO h) (fh_2 x aO aH n rt h) (i + 1)).2 H locs
          unfold fo_s
          first | (rw [if_pos c73]; exact hM) | (rw [if_neg c73]; exact hM)) (lv_sub hl [1, 0] rfl)
      · refine lv_aload_n hx hb dX3_findHeld_76 rfl (lv_at hl 0 rfl) ?_
        refine lv_aload_n hx hb dX3_findHeld_77 rfl (lv_at hl 0 rfl) ?_
        refine gr_0_1 (index := 18) hC hM hKu.kx mb_125 dX3_findHeld_78 hKu.xO ?_
        refine lv_iload_n hx hb dX3_findHeld_81 rfl (lv_at hl 1 rfl) ?_
        refine al_4 (i := i) hC hM hKu.kO (rfl) (by have := hO.1; omega) (by first | decide | omega) ((ru i).trans (hO.ob (by omega)).1) dX3_findHeld_82 ?_
        refine mw_callV (As := [.ref (vw_ob aO h i)]) (rest := []) (n := 1) (C := RX3) (T := TX3) (N := 11) (ci := 3) hC hM (c_X3_hold l hl0 D cs ((fo_s x aH (vw_ob aO h) (fh_2 x aO aH n rt h) i).2) H.size x aR aO aH aT rt ta hKu (fo_s x aH (vw_ob aO h) (fh_2 x aO aH n rt h) i).1 hCu (some (vw_ob aO h i)) (fun b hb => by cases hb; exact kb)) (cwV 1 hC.1.2.2.2.2 (tb_V mb_198 mb_199 mb_4 mb_36 mb_200) rfl rfl rfl (by decide +kernel) ⟨Nat.le_of_ble_eq_true rfl, Nat.le_of_ble_eq_true rfl⟩) (th_at (h := (fo_s x aH (vw_ob aO h) (fh_2 x aO aH n rt h) i).2) hKu.kx) rfl rfl rfl hl.1 (Nat.le_of_ble_eq_true rfl) dX3_findHeld_83 ⟨Nat.le_of_ble_eq_true rfl, Nat.le_of_ble_eq_true rfl⟩ (fun E ce q9 g9 H locs hp9 hM hce hcv hcl => ?_) (fun v9 g9 H locs hp9 hM => ?_)
        · exact (hp9.elim fun _ h9 => h9.2.elim)
        obtain ⟨h83, rfl, hp9⟩ := hp9
        obtain ⟨rfl, rfl⟩ := hp9
        refine W.eq (g2 := F0 m 86 ls []) rfl ?_
        refine lv_iinc (v := nI (i + 1)) (lv' := [(1, .int (nI (i + 1))), (0, .ref x)]) hx hb dX3_findHeld_86 hl (k := 1) rfl (by exact nI_1 i) (by first | decide | omega) rfl (fun ls hl => ?_)
        refine lv_goto (tgt := 56) hx hb dX3_findHeld_89 (by decide) ?_
        exact ih (i + 1) H locs ls (by omega) (by
          show th_H D cs h s (fo_s x aH (vw_ob aO h) (fh_2 x aO aH n rt h) (i + 1)).2 H locs
          unfold fo_s
          first | (rw [if_pos c73]; exact hM) | (rw [if_neg c73]; exact hM)) (lv_sub hl [1, 0] rfl)

-- the loop at 33 of StableHeap.findHeld
set_option maxHeartbeats 4000000 in
set_option maxRecDepth 100000 in
theorem lo_X3_findHeld_33 {l : Launch} (hl0 : l.stackTraces = false) {D : va_G} {cs : Nat → ClassId} {h : th_S} (x aR aO aH aT : Nat) (rt ta : Nat → Nat) (hK : sh_K x aR aO aH aT rt ta h) (n : Nat) (hO : sh_O x aO n h) {p : Program} {e : Env} {s : State} {m : MethodId} {below : List Frame} {meth : Method} {c : Code} (hC : th_C D cs h p m c cX3_findHeld 2 s [.ref x] RX3) (hr : meth.sig.returnType = none) (hlk : meth.locks = false) (htab : ∀ x ∈ c.exceptionTable.toList, False) : ∀ (q : Nat) (i : Nat) (H : Heap) (locs : List Loc) (ls : Array Slot), (i + q = 4) → th_H D cs h s ((fr_s x aH rt (fh_1 x aO n h) i).2) H locs → lv_has ls 2 [(0, .ref x), (1, .int (nI i))] → W p l e { frames := 2, cells := 0, slots := 0, locals := 43 } s m [.ref x].toArray below meth c H locs 0 0 (th_Q below D cs h s [.ref x] (fun v h' => v = none ∧ h' = (sh_fh x aO aH n rt h).2) (fun E h' => False) 0 0) (F0 m 33 ls []) := by
  have hx := hC.1.1
  have hb := hC.1.2.1
  intro q
  induction q with
  | zero =>
    intro i H locs ls hin hM hl
    obtain ⟨hKu, hCu, hOu, hWu⟩ := fh_2_I hK hO (show i ≤ 4 by omega)
    have ku : (fr_s x aH rt (fh_1 x aO n h) i).2.1 = h.1 := fh_2_k n i
    refine lv_iload_n hx hb dX3_findHeld_33 rfl (lv_at hl 1 rfl) ?_
    refine lv_iconst (v := 4) hx hb dX3_findHeld_34 (by decide) ?_
    refine lv_icmp_ge (tgt := 54) hx hb dX3_findHeld_35 (by decide) (fun c35 => ?_) (fun c35 => ?_)
    · refine lv_iconst (v := 0) hx hb dX3_findHeld_54 (by decide) ?_
      refine lv_istore_n (lv' := [(1, .int 0), (0, .ref x)]) hx hb dX3_findHeld_55 rfl hl (by decide) rfl (fun ls hl => ?_)
      exact lo_X3_findHeld_56 hl0 x aR aO aH aT rt ta hK n hO hC hr hlk htab n 0 _ _ ls (by omega) (by rw [show i = 4 by omega] at hM; exact hM) (lv_sub hl [1, 0] rfl)
    · exact absurd (nI_le (a := 4) (show 4 ≤ i by omega) (by omega)) c35
  | succ q ih =>
    intro i H locs ls hin hM hl
    obtain ⟨hKu, hCu, hOu, hWu⟩ := fh_2_I hK hO (show i ≤ 4 by omega)
    have ku : (fr_s x aH rt (fh_1 x aO n h) i).2.1 = h.1 := fh_2_k n i
    refine lv_iload_n hx hb dX3_findHeld_33 rfl (lv_at hl 1 rfl) ?_
    refine lv_iconst (v := 4) hx hb dX3_findHeld_34 (by decide) ?_
    refine lv_icmp_ge (tgt := 54) hx hb dX3_findHeld_35 (by decide) (fun c35 => ?_) (fun c35 => ?_)
    · exact absurd c35 (nI_ge (b := 4) (by omega) (by decide))
    · refine lv_aload_n hx hb dX3_findHeld_38 rfl (lv_at hl 0 rfl) ?_
      refine lv_aload_n hx hb dX3_findHeld_39 rfl (lv_at hl 0 rfl) ?_
      refine gr_0_0 (index := 11) hC hM hKu.kx mb_124 dX3_findHeld_40 hKu.xR ?_
      refine lv_iload_n hx hb dX3_findHeld_43 rfl (lv_at hl 1 rfl) ?_
      refine al_4 (i := i) hC hM hKu.kR (rfl) (by omega) (by first | decide | omega) (hKu.rr (by omega)) dX3_findHeld_44 ?_
      refine mw_callV (As := [.ref (rt i)]) (rest := []) (n := 1) (C := RX3) (T := TX3) (N := 11) (ci := 3) hC hM (c_X3_holdTargets l hl0 D cs ((fr_s x aH rt (fh_1 x aO n h) i).2) H.size x aR aO aH aT rt ta hKu n hOu (fr_s x aH rt (fh_1 x aO n h) i).1 hCu (rt i) (hKu.krt (by omega))) (cwV 1 hC.1.2.2.2.2 (tb_V mb_195 mb_196 mb_3 mb_36 mb_197) rfl rfl rfl (by decide +kernel) ⟨Nat.le_of_ble_eq_true rfl, Nat.le_of_ble_eq_true rfl⟩) (th_at (h := (fr_s x aH rt (fh_1 x aO n h) i).2) hKu.kx) rfl rfl rfl hl.1 (Nat.le_of_ble_eq_true rfl) dX3_findHeld_45 ⟨Nat.le_of_ble_eq_true rfl, Nat.le_of_ble_eq_true rfl⟩ (fun E ce q9 g9 H locs hp9 hM hce hcv hcl => ?_) (fun v9 g9 H locs hp9 hM => ?_)
      · exact (hp9.elim fun _ h9 => h9.2.elim)
      obtain ⟨h45, rfl, hp9⟩ := hp9
      obtain ⟨rfl, rfl⟩ := hp9
      refine W.eq (g2 := F0 m 48 ls []) rfl ?_
      refine lv_iinc (v := nI (i + 1)) (lv' := [(1, .int (nI (i + 1))), (0, .ref x)]) hx hb dX3_findHeld_48 hl (k := 1) rfl (by exact nI_1 i) (by first | decide | omega) rfl (fun ls hl => ?_)
      refine lv_goto (tgt := 33) hx hb dX3_findHeld_51 (by decide) ?_
      exact ih (i + 1) H locs ls (by omega) hM (lv_sub hl [1, 0] rfl)

-- the loop at 7 of StableHeap.findHeld
set_option maxHeartbeats 4000000 in
set_option maxRecDepth 100000 in
theorem lo_X3_findHeld_7 {l : Launch} (hl0 : l.stackTraces = false) {D : va_G} {cs : Nat → ClassId} {h : th_S} (x aR aO aH aT : Nat) (rt ta : Nat → Nat) (hK : sh_K x aR aO aH aT rt ta h) (n : Nat) (hO : sh_O x aO n h) {p : Program} {e : Env} {s : State} {m : MethodId} {below : List Frame} {meth : Method} {c : Code} (hC : th_C D cs h p m c cX3_findHeld 2 s [.ref x] RX3) (hr : meth.sig.returnType = none) (hlk : meth.locks = false) (htab : ∀ x ∈ c.exceptionTable.toList, False) : ∀ (q : Nat) (i : Nat) (H : Heap) (locs : List Loc) (ls : Array Slot), (i + q = n) → th_H D cs h s (fc_h (vw_ob aO h) (th_ui h x 5 0) i) H locs → lv_has ls 2 [(0, .ref x), (1, .int (nI i))] → W p l e { frames := 2, cells := 0, slots := 0, locals := 43 } s m [.ref x].toArray below meth c H locs 0 0 (th_Q below D cs h s [.ref x] (fun v h' => v = none ∧ h' = (sh_fh x aO aH n rt h).2) (fun E h' => False) 0 0) (F0 m 7 ls []) := by
  have hx := hC.1.1
  have hb := hC.1.2.1
  intro q
  induction q with
  | zero =>
    intro i H locs ls hin hM hl
    obtain ⟨hKu, hCu, hOu, hWu⟩ := fh_1_I hK hO (show i ≤ n by omega)
    have ru : (fc_h (vw_ob aO h) (th_ui h x 5 0) i).2.2 = h.2.2 := fc_h_r _ i
    have ku : (fc_h (vw_ob aO h) (th_ui h x 5 0) i).1 = h.1 := fc_h_k _ i
    refine lv_iload_n hx hb dX3_findHeld_7 rfl (lv_at hl 1 rfl) ?_
    refine lv_aload_n hx hb dX3_findHeld_8 rfl (lv_at hl 0 rfl) ?_
    refine gi_0_4 (index := 60) hC hM hKu.kx mb_128 dX3_findHeld_9 ?_
    rw [show (fc_h (vw_ob aO h) (th_ui h x 5 0) i).2.1 x 4 = nI n from hOu.2.1]
    refine lv_icmp_ge (tgt := 31) hx hb dX3_findHeld_12 (by decide) (fun c12 => ?_) (fun c12 => ?_)
    · refine lv_iconst (v := 0) hx hb dX3_findHeld_31 (by decide) ?_
      refine lv_istore_n (lv' := [(1, .int 0), (0, .ref x)]) hx hb dX3_findHeld_32 rfl hl (by decide) rfl (fun ls hl => ?_)
      exact lo_X3_findHeld_33 hl0 x aR aO aH aT rt ta hK n hO hC hr hlk htab 4 0 _ _ ls (by omega) (by rw [show i = n by omega] at hM; exact hM) (lv_sub hl [1, 0] rfl)
    · exact absurd (nI_le (show n ≤ i by omega) (by have := hO.1; omega)) c12
  | succ q ih =>
    intro i H locs ls hin hM hl
    obtain ⟨hKu, hCu, hOu, hWu⟩ := fh_1_I hK hO (show i ≤ n by omega)
    have ru : (fc_h (vw_ob aO h) (th_ui h x 5 0) i).2.2 = h.2.2 := fc_h_r _ i
    have ku : (fc_h (vw_ob aO h) (th_ui h x 5 0) i).1 = h.1 := fc_h_k _ i
    have rb : (fc_h (vw_ob aO h) (th_ui h x 5 0) i).2.2 aO i = some (vw_ob aO h i) := by rw [ru]; exact (hO.ob (show i < n by omega)).1
    have kb : (fc_h (vw_ob aO h) (th_ui h x 5 0) i).1 (vw_ob aO h i) = some (2, 0) := by rw [ku]; exact (hO.ob (show i < n by omega)).2
    refine lv_iload_n hx hb dX3_findHeld_7 rfl (lv_at hl 1 rfl) ?_
    refine lv_aload_n hx hb dX3_findHeld_8 rfl (lv_at hl 0 rfl) ?_
    refine gi_0_4 (index := 60) hC hM hKu.kx mb_128 dX3_findHeld_9 ?_
    rw [show (fc_h (vw_ob aO h) (th_ui h x 5 0) i).2.1 x 4 = nI n from hOu.2.1]
    refine lv_icmp_ge (tgt := 31) hx hb dX3_findHeld_12 (by decide) (fun c12 => ?_) (fun c12 => ?_)
    · exact absurd c12 (nI_ge (by omega) (by have := hO.1; omega))
    · refine lv_aload_n hx hb dX3_findHeld_15 rfl (lv_at hl 0 rfl) ?_
      refine gr_0_1 (index := 18) hC hM hKu.kx mb_125 dX3_findHeld_16 hKu.xO ?_
      refine lv_iload_n hx hb dX3_findHeld_19 rfl (lv_at hl 1 rfl) ?_
      refine al_4 (i := i) hC hM hKu.kO (rfl) (by have := hO.1; omega) (by first | decide | omega) rb dX3_findHeld_20 ?_
      refine lv_iconst (v := 0) hx hb dX3_findHeld_21 (by decide) ?_
      refine pu_2_3 (index := 209) (v := 0) hC hM kb mb_101 (by first | exact Or.inl rfl | exact Or.inr rfl) dX3_findHeld_22 (fun H locs hM => ?_)
      refine lv_iinc (v := nI (i + 1)) (lv' := [(1, .int (nI (i + 1))), (0, .ref x)]) hx hb dX3_findHeld_25 hl (k := 1) rfl (by exact nI_1 i) (by first | decide | omega) rfl (fun ls hl => ?_)
      refine lv_goto (tgt := 7) hx hb dX3_findHeld_28 (by decide) ?_
      exact ih (i + 1) H locs ls (by omega) hM (lv_sub hl [1, 0] rfl)

-- StableHeap.findHeld
set_option maxHeartbeats 4000000 in
set_option maxRecDepth 100000 in
theorem c_X3_findHeld (l : Launch) (hl0 : l.stackTraces = false) (D : va_G) (cs : Nat → ClassId) (h : th_S) (sz : Nat) (x aR aO aH aT : Nat) (rt ta : Nat → Nat) (hK : sh_K x aR aO aH aT rt ta h) (n : Nat) (hO : sh_O x aO n h) : th_M l yX3_findHeld wsX3_findHeld { frames := 2, cells := 0, slots := 0, locals := 43 } D cs h sz [.ref x] (fun v h' => v = none ∧ h' = (sh_fh x aO aH n rt h).2) (fun E h' => False) := by
  refine mw_ofW (cc := cX3_findHeld) (maxL := 2) (ret := none) (by decide) rfl (fun w h => List.mem_cons_of_mem _ h) th_cd (Nat.le_of_ble_eq_true rfl) ?_
  intro p e s m below meth c hsz hC hr hlk hnm htab hM ls hl
  have hC : th_C D cs h p m c cX3_findHeld 2 s [.ref x] RX3 := hC
  have hx := hC.1.1
  have hb := hC.1.2.1
  have kx0 : h.1 x = some (0, 0) := hK.kx
  have hl : lv_has ls 2 [(0, .ref x)] := hl
  refine lv_aload_n hx hb dX3_findHeld_0 rfl (lv_at hl 0 rfl) ?_
  refine lv_iconst (v := 0) hx hb dX3_findHeld_1 (by decide) ?_
  refine pu_0_5 (index := 150) (v := 0) hC hM kx0 mb_129 dX3_findHeld_2 (fun H locs hM => ?_)
  refine lv_iconst (v := 0) hx hb dX3_findHeld_5 (by decide) ?_
  refine lv_istore_n (lv' := [(1, .int 0), (0, .ref x)]) hx hb dX3_findHeld_6 rfl hl (by decide) rfl (fun ls hl => ?_)
  exact lo_X3_findHeld_7 hl0 x aR aO aH aT rt ta hK n hO hC hr hlk htab n 0 _ _ ls (by omega) hM (lv_sub hl [1, 0] rfl)

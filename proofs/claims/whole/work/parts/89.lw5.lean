set_option maxHeartbeats 4000000 in
set_option maxRecDepth 100000 in
theorem law_loop {l : Launch} (hl0 : l.stackTraces = false) {D : va_G} {cs : Nat → ClassId} {h0 : th_S} {p : Program} {e : Env} {s : State} {m : MethodId} {below : List Frame} {meth : Method} {c : Code} {b L : Nat} {xs : Nat → Int32} (hC : th_C D cs h0 p m c code 7 s [.ref b] RL) (hX : va_X b L xs s s.heap) (hbl : b < s.heap.size) (hbA : ¬ mw_A (th_g cs h0) s.heap.size b) {Q : State → Prop} {x aR aO aH aT o ao : Nat} {rt ta A : Nat → Nat} (hL : L ≤ 2560) (hr : meth.sig.returnType = ret) (hlk : meth.locks = false) (hA0 : ∀ q, mw_A (th_g cs h0) s.heap.size q → s.heap.size ≤ q) (hQ : Q = lw_Z below #[Value.ref b] s) : ∀ (q N : Nat) (h : th_S) (H : Heap) (locs : List Loc) (ls : Array Slot), L + 5 ≤ 5 * (N + q) → 5 * N ≤ L → LI x aR aO aH aT o ao rt ta A h N → th_H D cs h0 s h H locs → lv_has ls 7 [(0, .ref b), (1, .ref x), (2, .ref o), (3, .ref ao), (4, .int (nI (5 * N)))] → W p l e room_1 s m #[Value.ref b] below meth c H locs (100 + 8 * N) (5000 + 60 * N) Q (F0 m 23 ls []) := by
  have hx := hC.1.1
  have hb := hC.1.2.1
  intro q
  induction q with
  | zero =>
    intro N h H locs ls hq hNL hI hM hl
    refine lv_iload hx hb dL_law_23 (lv_at hl 4 rfl) ?_
    refine lv_aload_n hx hb dL_law_25 rfl (lv_at hl 0 rfl) ?_
    refine va_slen hx hb hX hbl hbA hM.2.2.1 dL_law_26 ?_
    refine lv_iconst (v := 5) hx hb dL_law_27 (by decide) ?_
    refine lv_isub hx hb dL_law_28 ?_
    refine lv_icmp_gt (tgt := 1069) hx hb dL_law_29 (by decide) (fun c29 => ?_) (fun c29 => ?_)
    · refine lv_iconst (v := 1) hx hb dL_law_1069 (by decide) ?_
      subst hQ
      refine va_forget (fun z hz => hA0 _ (hM.2.2.1.2.2 z hz)) ?_
      exact W.widen (Nat.le_trans (show 100 + 8 * N ≤ 10000 by omega) (Nat.le_of_ble_eq_true rfl)) (Nat.le_trans (show 5000 + 60 * N ≤ 50000 by omega) (Nat.le_of_ble_eq_true rfl)) (lw_ret hx hb hr hlk dL_law_1070)
    · exact absurd ((nI_gt5 (by omega) (by omega)).mpr (by omega)) c29
  | succ q ih =>
    intro N h H locs ls hq hNL hI hM hl
    refine lv_iload hx hb dL_law_23 (lv_at hl 4 rfl) ?_
    refine lv_aload_n hx hb dL_law_25 rfl (lv_at hl 0 rfl) ?_
    refine va_slen hx hb hX hbl hbA hM.2.2.1 dL_law_26 ?_
    refine lv_iconst (v := 5) hx hb dL_law_27 (by decide) ?_
    refine lv_isub hx hb dL_law_28 ?_
    refine lv_icmp_gt (tgt := 1069) hx hb dL_law_29 (by decide) (fun c29 => ?_) (fun c29 => ?_)
    · refine lv_iconst (v := 1) hx hb dL_law_1069 (by decide) ?_
      subst hQ
      refine va_forget (fun z hz => hA0 _ (hM.2.2.1.2.2 z hz)) ?_
      exact W.widen (Nat.le_trans (show 100 + 8 * N ≤ 10000 by omega) (Nat.le_of_ble_eq_true rfl)) (Nat.le_trans (show 5000 + 60 * N ≤ 50000 by omega) (Nat.le_of_ble_eq_true rfl)) (lw_ret hx hb hr hlk dL_law_1070)
    · have hlt : 5 * N + 5 ≤ L := Nat.not_lt.mp (fun z => c29 ((nI_gt5 (by omega) (by omega)).mpr z))
      refine lv_aload_n hx hb dL_law_32 rfl (lv_at hl 0 rfl) ?_
      refine lv_iload hx hb dL_law_33 (lv_at hl 4 rfl) ?_
      refine va_sld hx hb hX hbl hbA hM.2.2.1 (vp_in_nI (show 5 * N < L by omega) (by omega)) dL_law_35 ?_
      rw [nI_clamp (show 5 * N < 2 ^ 31 by omega)]
      refine lv_bipush (v := 15) hx hb dL_law_36 (by decide) ?_
      refine lv_iand hx hb dL_law_38 ?_
      rcases i15 (xs (5 * N)) with e9 | e9 | e9 | e9 | e9 | e9 | e9 | e9 | e9 | e9 | e9 | e9 | e9 | e9 | e9 | e9
      · rw [e9]
        refine lv_tableIn (x := 0) (off := 77) (tgt := 116) hx hb dL_law_39 (by decide) (by decide) (by decide) (by decide) ?_
        exact lc_begin hl0 hC hX hbl hbA hlt hL hI hM (lv_sub hl [0, 1, 2, 3, 4] rfl) (fun h H locs ls hI hM hl => ih (N + 1) h H locs ls (by omega) (by omega) hI hM hl)
      · rw [e9]
        refine lv_tableIn (x := 1) (off := 121) (tgt := 160) hx hb dL_law_39 (by decide) (by decide) (by decide) (by decide) ?_
        exact lc_make hl0 hC hX hbl hbA hlt hL hI hM (lv_sub hl [0, 1, 2, 3, 4] rfl) (fun h H locs ls hI hM hl => ih (N + 1) h H locs ls (by omega) (by omega) hI hM hl)
      · rw [e9]
        refine lv_tableIn (x := 2) (off := 189) (tgt := 228) hx hb dL_law_39 (by decide) (by decide) (by decide) (by decide) ?_
        exact lc_setInt hl0 hC hX hbl hbA hlt hL hI hM (lv_sub hl [0, 1, 2, 3, 4] rfl) (fun h H locs ls hI hM hl => ih (N + 1) h H locs ls (by omega) (by omega) hI hM hl)
      · rw [e9]
        refine lv_tableIn (x := 3) (off := 281) (tgt := 320) hx hb dL_law_39 (by decide) (by decide) (by decide) (by decide) ?_
        exact lc_setReference hl0 hC hX hbl hbA hlt hL hI hM (lv_sub hl [0, 1, 2, 3, 4] rfl) (fun h H locs ls hI hM hl => ih (N + 1) h H locs ls (by omega) (by omega) hI hM hl)
      · rw [e9]
        refine lv_tableIn (x := 4) (off := 373) (tgt := 412) hx hb dL_law_39 (by decide) (by decide) (by decide) (by decide) ?_
        exact lc_setRoot hl0 hC hX hbl hbA hlt hL hI hM (lv_sub hl [0, 1, 2, 3, 4] rfl) (fun h H locs ls hI hM hl => ih (N + 1) h H locs ls (by omega) (by omega) hI hM hl)
      · rw [e9]
        refine lv_tableIn (x := 5) (off := 453) (tgt := 492) hx hb dL_law_39 (by decide) (by decide) (by decide) (by decide) ?_
        exact lc_getInt hl0 hC hX hbl hbA hlt hL hI hM (lv_sub hl [0, 1, 2, 3, 4] rfl) (fun h H locs ls hI hM hl => ih (N + 1) h H locs ls (by omega) (by omega) hI hM hl)
      · rw [e9]
        refine lv_tableIn (x := 6) (off := 533) (tgt := 572) hx hb dL_law_39 (by decide) (by decide) (by decide) (by decide) ?_
        exact lc_getReference hl0 hC hX hbl hbA hlt hL hI hM (lv_sub hl [0, 1, 2, 3, 4] rfl) (fun h H locs ls hI hM hl => ih (N + 1) h H locs ls (by omega) (by omega) hI hM hl)
      · rw [e9]
        refine lv_tableIn (x := 7) (off := 613) (tgt := 652) hx hb dL_law_39 (by decide) (by decide) (by decide) (by decide) ?_
        exact lc_getRoot hl0 hC hX hbl hbA hlt hL hI hM (lv_sub hl [0, 1, 2, 3, 4] rfl) (fun h H locs ls hI hM hl => ih (N + 1) h H locs ls (by omega) (by omega) hI hM hl)
      · rw [e9]
        refine lv_tableIn (x := 8) (off := 681) (tgt := 720) hx hb dL_law_39 (by decide) (by decide) (by decide) (by decide) ?_
        exact lc_commit hl0 hC hX hbl hbA hlt hL hI hM (lv_sub hl [0, 1, 2, 3, 4] rfl) (fun h H locs ls hI hM hl => ih (N + 1) h H locs ls (by omega) (by omega) hI hM hl)
      · rw [e9]
        refine lv_tableIn (x := 9) (off := 737) (tgt := 776) hx hb dL_law_39 (by decide) (by decide) (by decide) (by decide) ?_
        exact lc_abort hl0 hC hX hbl hbA hlt hL hI hM (lv_sub hl [0, 1, 2, 3, 4] rfl) (fun h H locs ls hI hM hl => ih (N + 1) h H locs ls (by omega) (by omega) hI hM hl)
      · rw [e9]
        refine lv_tableIn (x := 10) (off := 793) (tgt := 832) hx hb dL_law_39 (by decide) (by decide) (by decide) (by decide) ?_
        exact lc_checkpoint hl0 hC hX hbl hbA hlt hL hI hM (lv_sub hl [0, 1, 2, 3, 4] rfl) (fun h H locs ls hI hM hl => ih (N + 1) h H locs ls (by omega) (by omega) hI hM hl)
      · rw [e9]
        refine lv_tableIn (x := 11) (off := 806) (tgt := 845) hx hb dL_law_39 (by decide) (by decide) (by decide) (by decide) ?_
        exact lc_crash hl0 hC hX hbl hbA hlt hL hI hM (lv_sub hl [0, 1, 2, 3, 4] rfl) (fun h H locs ls hI hM hl => ih (N + 1) h H locs ls (by omega) (by omega) hI hM hl)
      · rw [e9]
        refine lv_tableIn (x := 12) (off := 819) (tgt := 858) hx hb dL_law_39 (by decide) (by decide) (by decide) (by decide) ?_
        exact lc_collect hl0 hC hX hbl hbA hlt hL hI hM (lv_sub hl [0, 1, 2, 3, 4] rfl) (fun h H locs ls hI hM hl => ih (N + 1) h H locs ls (by omega) (by omega) hI hM hl)
      · rw [e9]
        refine lv_tableIn (x := 13) (off := 844) (tgt := 883) hx hb dL_law_39 (by decide) (by decide) (by decide) (by decide) ?_
        exact lc_fields hl0 hC hX hbl hbA hlt hL hI hM (lv_sub hl [0, 1, 2, 3, 4] rfl) (fun h H locs ls hI hM hl => ih (N + 1) h H locs ls (by omega) (by omega) hI hM hl)
      · rw [e9]
        refine lv_tableIn (x := 14) (off := 900) (tgt := 939) hx hb dL_law_39 (by decide) (by decide) (by decide) (by decide) ?_
        exact lc_lockedBy hl0 hC hX hbl hbA hlt hL hI hM (lv_sub hl [0, 1, 2, 3, 4] rfl) (fun h H locs ls hI hM hl => ih (N + 1) h H locs ls (by omega) (by omega) hI hM hl)
      · rw [e9]
        refine lv_tableIn (x := 15) (off := 968) (tgt := 1007) hx hb dL_law_39 (by decide) (by decide) (by decide) (by decide) ?_
        exact lc_count hl0 hC hX hbl hbA hlt hL hI hM (lv_sub hl [0, 1, 2, 3, 4] rfl) (fun h H locs ls hI hM hl => ih (N + 1) h H locs ls (by omega) (by omega) hI hM hl)

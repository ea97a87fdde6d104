theorem mo_8 {k : Int32} (h0 : ¬ k < 0) (h7 : k ≤ 7) : k = 0 ∨ k = 1 ∨ k = 2 ∨ k = 3 ∨ k = 4 ∨ k = 5 ∨ k = 6 ∨ k = 7 := by
  obtain ⟨j, hj, rfl⟩ := nI_of2 (M := 7) (n := 7) (by decide) h0 h7
  rcases (show j = 0 ∨ j = 1 ∨ j = 2 ∨ j = 3 ∨ j = 4 ∨ j = 5 ∨ j = 6 ∨ j = 7 by omega) with rfl | rfl | rfl | rfl | rfl | rfl | rfl | rfl <;> decide

-- the loop at 41 of StableHeapModel.collect
set_option maxHeartbeats 4000000 in
set_option maxRecDepth 100000 in
theorem lo_X4_collect_41 {l : Launch} (hl0 : l.stackTraces = false) {D : va_G} {cs : Nat → ClassId} {h : th_S} (o : Nat) (A : Nat → Nat) (hK : mo_K o A h) (S : th_N) (k : Int32) (hz9 : ∀ r, r < 80 → ∃ k, k ≤ 4 ∧ S.2 2 r = nI k) (u : Nat) (hw : mo_W S u) (g : Nat → Int32) (hg : mo_hd S u g) (hk9 : k < 0 ∨ nI (mo_hc g 80) ≤ k) {p : Program} {e : Env} {s : State} {m : MethodId} {below : List Frame} {meth : Method} {c : Code} (hC : th_C D cs (mo_h o A h S) p m c cX4_collect 5 s [.ref o, .int k] RX4) (hr : meth.sig.returnType = some .int) (hlk : meth.locks = false) (htab : ∀ x ∈ c.exceptionTable.toList, False) : ∀ (q : Nat) (i : Nat) (H : Heap) (locs : List Loc) (ls : Array Slot), (i + q = 80) → th_H D cs (mo_h o A h S) s (mo_h o A h (mo_cl S g i)) H locs → lv_has ls 5 [(0, .ref o), (1, .int k), (2, .int (nI (mo_hc g 80))), (3, .int (S.1 10)), (4, .int (nI i))] → W p l e { frames := 4, cells := 0, slots := 0, locals := 93 } s m [.ref o, .int k].toArray below meth c H locs 0 0 (th_Q below D cs (mo_h o A h S) s [.ref o, .int k] (fun v h' => ∃ g, mo_hd S u g ∧ ((¬ k < 0 ∧ ¬ nI (mo_hc g 80) ≤ k ∧ ∃ p T, mo_cr (su (sw (su S 0 0) 6 g) 0 0) u 3 p T ∧ v = some (.int (-1 - nI (mo_ac S 3))) ∧ h' = mo_h o A h (su T 14 0)) ∨ ((k < 0 ∨ nI (mo_hc g 80) ≤ k) ∧ v = some (.int (S.1 10 - nI (sm (mo_wt S g) 80))) ∧ h' = mo_h o A h (su (su (mo_cl S g 80) 14 0) 15 (S.1 15 + 1))))) (fun E h' => False) 0 0) (F0 m 41 ls []) := by
  have hx := hC.1.1
  have hb := hC.1.2.1
  intro q
  induction q with
  | zero =>
    intro i H locs ls hin hM hl
    refine lv_iload hx hb dX4_collect_41 (lv_at hl 4 rfl) ?_
    refine lv_bipush (v := 80) hx hb dX4_collect_43 (by decide) ?_
    refine lv_icmp_ge (tgt := 110) hx hb dX4_collect_45 (by decide) (fun c45 => ?_) (fun c45 => ?_)
    · refine lv_aload_n hx hb dX4_collect_110 rfl (lv_at hl 0 rfl) ?_
      refine lv_iconst (v := 0) hx hb dX4_collect_111 (by decide) ?_
      refine pu_10_14 (index := 57) (v := 0) hC hM hK.1 mb_504 dX4_collect_112 (fun H locs hM => ?_)
      rw [mo_um] at hM
      refine lv_aload_n hx hb dX4_collect_115 rfl (lv_at hl 0 rfl) ?_
      refine lv_dup hx hb dX4_collect_116 rfl ?_
      refine gi_10_15 (index := 144) hC hM hK.1 mb_505 dX4_collect_117 ?_
      rw [mo_i]
      rw [show (su (mo_cl S g i) 14 0).1 15 = (mo_cl S g i).1 15 from by first | rfl | simp [su, sa, va_up]]
      rw [show (mo_cl S g i).1 15 = S.1 15 from rfl]
      refine lv_iconst (v := 1) hx hb dX4_collect_120 (by decide) ?_
      refine lv_iadd hx hb dX4_collect_121 ?_
      refine pu_10_15 (index := 144) (v := (S.1 15) + 1) hC hM hK.1 mb_505 dX4_collect_122 (fun H locs hM => ?_)
      rw [mo_um] at hM
      refine lv_iload_n hx hb dX4_collect_125 rfl (lv_at hl 3 rfl) ?_
      refine lv_aload_n hx hb dX4_collect_126 rfl (lv_at hl 0 rfl) ?_
      refine gi_10_10 (index := 81) hC hM hK.1 mb_500 dX4_collect_127 ?_
      rw [mo_i]
      rw [show (su (su (mo_cl S g i) 14 0) 15 ((S.1 15) + 1)).1 10 = (mo_cl S g i).1 10 from by first | rfl | simp [su, sa, va_up]]
      rw [show (mo_cl S g i).1 10 = nI (sm (mo_wt S g) i) from mo_cl_u S g i]
      refine lv_isub hx hb dX4_collect_130 ?_
      refine mw_iret hC hM hr hlk dX4_collect_131 (Nat.le_of_ble_eq_true rfl) (Nat.le_of_ble_eq_true rfl) ⟨_, rfl, ?_⟩
      obtain rfl : i = 80 := by omega
      exact ⟨g, hg, Or.inr ⟨hk9, rfl, rfl⟩⟩
    · exact absurd (nI_le (a := 80) (show 80 ≤ i by omega) (by omega)) c45
  | succ q ih =>
    intro i H locs ls hin hM hl
    obtain ⟨z, hz4, ez⟩ := hz9 i (by omega)
    refine lv_iload hx hb dX4_collect_41 (lv_at hl 4 rfl) ?_
    refine lv_bipush (v := 80) hx hb dX4_collect_43 (by decide) ?_
    refine lv_icmp_ge (tgt := 110) hx hb dX4_collect_45 (by decide) (fun c45 => ?_) (fun c45 => ?_)
    · exact absurd c45 (nI_ge (b := 80) (by omega) (by decide))
    · refine lv_aload_n hx hb dX4_collect_48 rfl (lv_at hl 0 rfl) ?_
      refine gr_10_1 (index := 7) hC hM hK.1 mb_491 dX4_collect_49 (hK.r1) ?_
      refine lv_iload hx hb dX4_collect_52 (lv_at hl 4 rfl) ?_
      refine al_7 (i := i) (n := 80) hC hM hK.k1 (by first | rfl | decide) (by omega) (by decide) dX4_collect_54 ?_
      rw [mo_a1 hK]
      rw [show (mo_cl S g i).2 1 i = S.2 1 i from mo_cl_1 S g i]
      refine lv_if_le (tgt := 76) hx hb dX4_collect_55 (by decide) (fun c55 => ?_) (fun c55 => ?_)
      · refine lv_aload_n hx hb dX4_collect_76 rfl (lv_at hl 0 rfl) ?_
        refine gr_10_1 (index := 7) hC hM hK.1 mb_491 dX4_collect_77 (hK.r1) ?_
        refine lv_iload hx hb dX4_collect_80 (lv_at hl 4 rfl) ?_
        refine al_7 (i := i) (n := 80) hC hM hK.k1 (by first | rfl | decide) (by omega) (by decide) dX4_collect_82 ?_
        rw [mo_a1 hK]
        rw [show (mo_cl S g i).2 1 i = S.2 1 i from mo_cl_1 S g i]
        refine lv_if_le (tgt := 104) hx hb dX4_collect_83 (by decide) (fun c83 => ?_) (fun c83 => ?_)
        · refine lv_iinc (v := nI (i + 1)) (lv' := [(4, .int (nI (i + 1))), (0, .ref o), (1, .int k), (2, .int (nI (mo_hc g 80))), (3, .int (S.1 10))]) hx hb dX4_collect_104 hl (k := 4) rfl (by exact nI_1 i) (by first | decide | omega) rfl (fun ls hl => ?_)
          refine lv_goto (tgt := 41) hx hb dX4_collect_107 (by decide) ?_
          rw [mo_cl_a S g c55] at hM
          exact ih (i + 1) H locs ls (by omega) hM (lv_sub hl [1, 2, 3, 4, 0] rfl)
        · exact absurd c55 c83
      · refine lv_aload_n hx hb dX4_collect_58 rfl (lv_at hl 0 rfl) ?_
        refine gr_10_6 (index := 26) hC hM hK.1 mb_496 dX4_collect_59 (hK.r6) ?_
        refine lv_iload hx hb dX4_collect_62 (lv_at hl 4 rfl) ?_
        refine al_8 (i := i) (n := 80) hC hM hK.k6 (by first | rfl | decide) (by omega) (by decide) dX4_collect_64 ?_
        rw [mo_a6 hK]
        rw [show (mo_cl S g i).2 6 i = g i from mo_cl_6 S g i]
        refine lv_if_ne (tgt := 76) hx hb dX4_collect_65 (by decide) (fun c65 => ?_) (fun c65 => ?_)
        · refine lv_aload_n hx hb dX4_collect_76 rfl (lv_at hl 0 rfl) ?_
          refine gr_10_1 (index := 7) hC hM hK.1 mb_491 dX4_collect_77 (hK.r1) ?_
          refine lv_iload hx hb dX4_collect_80 (lv_at hl 4 rfl) ?_
          refine al_7 (i := i) (n := 80) hC hM hK.k1 (by first | rfl | decide) (by omega) (by decide) dX4_collect_82 ?_
          rw [mo_a1 hK]
          rw [show (mo_cl S g i).2 1 i = S.2 1 i from mo_cl_1 S g i]
          refine lv_if_le (tgt := 104) hx hb dX4_collect_83 (by decide) (fun c83 => ?_) (fun c83 => ?_)
          · exact absurd c83 c55
          · refine lv_aload_n hx hb dX4_collect_86 rfl (lv_at hl 0 rfl) ?_
            refine lv_dup hx hb dX4_collect_87 rfl ?_
            refine gi_10_10 (index := 81) hC hM hK.1 mb_500 dX4_collect_88 ?_
            rw [mo_i]
            rw [show (mo_cl S g i).1 10 = nI (sm (mo_wt S g) i) from mo_cl_u S g i]
            refine lv_iconst (v := 1) hx hb dX4_collect_91 (by decide) ?_
            refine lv_aload_n hx hb dX4_collect_92 rfl (lv_at hl 0 rfl) ?_
            refine gr_10_2 (index := 13) hC hM hK.1 mb_492 dX4_collect_93 (hK.r2) ?_
            refine lv_iload hx hb dX4_collect_96 (lv_at hl 4 rfl) ?_
            refine al_7 (i := i) (n := 80) hC hM hK.k2 (by first | rfl | decide) (by omega) (by decide) dX4_collect_98 ?_
            rw [mo_a2 hK]
            rw [show (mo_cl S g i).2 2 i = nI z from (mo_cl_2 S g i).trans ez]
            refine lv_iadd hx hb dX4_collect_99 ?_
            rw [show 1 + (nI z) = nI (1 + z) from nI_add 1 z]
            refine lv_iadd hx hb dX4_collect_100 ?_
            rw [show (nI (sm (mo_wt S g) i)) + (nI (1 + z)) = nI (sm (mo_wt S g) i + (1 + z)) from nI_add _ _]
            refine pu_10_10 (index := 81) (v := nI (sm (mo_wt S g) i + (1 + z))) hC hM hK.1 mb_500 dX4_collect_101 (fun H locs hM => ?_)
            rw [mo_um] at hM
            refine lv_iinc (v := nI (i + 1)) (lv' := [(4, .int (nI (i + 1))), (0, .ref o), (1, .int k), (2, .int (nI (mo_hc g 80))), (3, .int (S.1 10))]) hx hb dX4_collect_104 hl (k := 4) rfl (by exact nI_1 i) (by first | decide | omega) rfl (fun ls hl => ?_)
            refine lv_goto (tgt := 41) hx hb dX4_collect_107 (by decide) ?_
            rw [mo_cl_c S g c55 c65 ez hz4] at hM
            exact ih (i + 1) H locs ls (by omega) hM (lv_sub hl [1, 2, 3, 4, 0] rfl)
        · refine lv_aload_n hx hb dX4_collect_68 rfl (lv_at hl 0 rfl) ?_
          refine gr_10_1 (index := 7) hC hM hK.1 mb_491 dX4_collect_69 (hK.r1) ?_
          refine lv_iload hx hb dX4_collect_72 (lv_at hl 4 rfl) ?_
          refine lv_iconst (v := 0) hx hb dX4_collect_74 (by decide) ?_
          refine as_7 (i := i) (v := 0) (n := 80) hC hM hK.k1 (by first | rfl | decide) (by omega) (by decide) dX4_collect_75 (fun H locs hM => ?_)
          rw [mo_u1 hK] at hM
          refine lv_aload_n hx hb dX4_collect_76 rfl (lv_at hl 0 rfl) ?_
          refine gr_10_1 (index := 7) hC hM hK.1 mb_491 dX4_collect_77 (hK.r1) ?_
          refine lv_iload hx hb dX4_collect_80 (lv_at hl 4 rfl) ?_
          refine al_7 (i := i) (n := 80) hC hM hK.k1 (by first | rfl | decide) (by omega) (by decide) dX4_collect_82 ?_
          rw [mo_a1 hK]
          rw [show (sa (mo_cl S g i) 1 i 0).2 1 i = 0 from by first | rfl | simp [su, sa, va_up]]
          refine lv_if_le (tgt := 104) hx hb dX4_collect_83 (by decide) (fun c83 => ?_) (fun c83 => ?_)
          · refine lv_iinc (v := nI (i + 1)) (lv' := [(4, .int (nI (i + 1))), (0, .ref o), (1, .int k), (2, .int (nI (mo_hc g 80))), (3, .int (S.1 10))]) hx hb dX4_collect_104 hl (k := 4) rfl (by exact nI_1 i) (by first | decide | omega) rfl (fun ls hl => ?_)
            refine lv_goto (tgt := 41) hx hb dX4_collect_107 (by decide) ?_
            rw [mo_cl_b S g c55 c65] at hM
            exact ih (i + 1) H locs ls (by omega) hM (lv_sub hl [1, 2, 3, 4, 0] rfl)
          · exact absurd c83 (by decide)

-- StableHeapModel.collect
set_option maxHeartbeats 4000000 in
set_option maxRecDepth 100000 in
theorem c_X4_collect (l : Launch) (hl0 : l.stackTraces = false) (D : va_G) (cs : Nat → ClassId) (h : th_S) (sz : Nat) (o : Nat) (A : Nat → Nat) (hK : mo_K o A h) (S : th_N) (k : Int32) (hz9 : ∀ r, r < 80 → ∃ k, k ≤ 4 ∧ S.2 2 r = nI k) (u : Nat) (hw : mo_W S u) : th_M l yX4_collect wsX4_collect { frames := 4, cells := 0, slots := 0, locals := 93 } D cs (mo_h o A h S) sz [.ref o, .int k] (fun v h' => ∃ g, mo_hd S u g ∧ ((¬ k < 0 ∧ ¬ nI (mo_hc g 80) ≤ k ∧ ∃ p T, mo_cr (su (sw (su S 0 0) 6 g) 0 0) u 3 p T ∧ v = some (.int (-1 - nI (mo_ac S 3))) ∧ h' = mo_h o A h (su T 14 0)) ∨ ((k < 0 ∨ nI (mo_hc g 80) ≤ k) ∧ v = some (.int (S.1 10 - nI (sm (mo_wt S g) 80))) ∧ h' = mo_h o A h (su (su (mo_cl S g 80) 14 0) 15 (S.1 15 + 1))))) (fun E h' => False) := by
  refine mw_ofW (cc := cX4_collect) (maxL := 5) (ret := (some .int)) (by decide) rfl (fun w h => List.mem_cons_of_mem _ h) th_cd (Nat.le_of_ble_eq_true rfl) ?_
  intro p e s m below meth c hsz hC hr hlk hnm htab hM ls hl
  have hC : th_C D cs (mo_h o A h S) p m c cX4_collect 5 s [.ref o, .int k] RX4 := hC
  have hx := hC.1.1
  have hb := hC.1.2.1
  have hl : lv_has ls 5 [(0, .ref o), (1, .int k)] := hl
  refine lv_aload_n hx hb dX4_collect_0 rfl (lv_at hl 0 rfl) ?_
  refine lv_iconst (v := 0) hx hb dX4_collect_1 (by decide) ?_
  refine pu_10_0 (index := 53) (v := 0) hC hM hK.1 mb_490 dX4_collect_2 (fun H locs hM => ?_)
  rw [mo_um] at hM
  refine lv_aload_n hx hb dX4_collect_5 rfl (lv_at hl 0 rfl) ?_
  refine mw_callV (As := []) (rest := []) (n := 0) (C := RX4) (T := TX4) (N := 21) (ci := 4) hC hM (c_X4_markHeld l hl0 D cs h H.size o A hK (su S 0 0) u hw) (cwV 0 hC.1.2.2.2.2 (tb_V mb_663 mb_664 mb_33 mb_40 mb_665) rfl rfl rfl (by decide +kernel) ⟨Nat.le_of_ble_eq_true rfl, Nat.le_of_ble_eq_true rfl⟩) (th_at (h := mo_h o A h (su S 0 0)) hK.1) rfl rfl rfl hl.1 (Nat.le_of_ble_eq_true rfl) dX4_collect_6 ⟨Nat.le_of_ble_eq_true rfl, Nat.le_of_ble_eq_true rfl⟩ (fun E ce q9 g9 H locs hp9 hM hce hcv hcl => ?_) (fun v9 g9 H locs hp9 hM => ?_)
  · exact (hp9.elim fun _ h9 => h9.2.elim)
  obtain ⟨h6, rfl, hp9⟩ := hp9
  obtain ⟨g, hg, rfl, rfl⟩ := hp9
  refine W.eq (g2 := F0 m 9 ls [.int (nI (mo_hc g 80))]) rfl ?_
  refine lv_istore_n (lv' := [(2, .int (nI (mo_hc g 80))), (0, .ref o), (1, .int k)]) hx hb dX4_collect_9 rfl hl (by decide) rfl (fun ls hl => ?_)
  refine lv_iload_n hx hb dX4_collect_10 rfl (lv_at hl 2 rfl) ?_
  refine lv_if_lt (tgt := 28) hx hb dX4_collect_11 (by decide) (fun c11 => ?_) (fun c11 => ?_)
  · refine lv_aload_n hx hb dX4_collect_28 rfl (lv_at hl 1 rfl) ?_
    refine gi_10_10 (index := 81) hC hM hK.1 mb_500 dX4_collect_29 ?_
    rw [mo_i]
    rw [show (sw (su S 0 0) 6 g).1 10 = S.1 10 from rfl]
    refine lv_istore_n (lv' := [(3, .int (S.1 10)), (2, .int (nI (mo_hc g 80))), (0, .ref o), (1, .int k)]) hx hb dX4_collect_32 rfl hl (by decide) rfl (fun ls hl => ?_)
    refine lv_aload_n hx hb dX4_collect_33 rfl (lv_at hl 2 rfl) ?_
    refine lv_iconst (v := 0) hx hb dX4_collect_34 (by decide) ?_
    refine pu_10_10 (index := 81) (v := 0) hC hM hK.1 mb_500 dX4_collect_35 (fun H locs hM => ?_)
    rw [mo_um] at hM
    refine lv_iconst (v := 0) hx hb dX4_collect_38 (by decide) ?_
    refine lv_istore (lv' := [(4, .int 0), (3, .int (S.1 10)), (2, .int (nI (mo_hc g 80))), (0, .ref o), (1, .int k)]) hx hb dX4_collect_39 hl (by decide) rfl (fun ls hl => ?_)
    exact lo_X4_collect_41 hl0 o A hK S k hz9 u hw g hg (Or.inl c11) hC hr hlk htab 80 0 _ _ ls (by omega) (by rw [mo_cl_0]; exact hM) (lv_sub hl [3, 4, 2, 1, 0] rfl)
  · refine lv_iload_n hx hb dX4_collect_14 rfl (lv_at hl 2 rfl) ?_
    refine lv_iload_n hx hb dX4_collect_15 rfl (lv_at hl 0 rfl) ?_
    refine lv_icmp_ge (tgt := 28) hx hb dX4_collect_16 (by decide) (fun c16 => ?_) (fun c16 => ?_)
    · refine lv_aload_n hx hb dX4_collect_28 rfl (lv_at hl 1 rfl) ?_
      refine gi_10_10 (index := 81) hC hM hK.1 mb_500 dX4_collect_29 ?_
      rw [mo_i]
      rw [show (sw (su S 0 0) 6 g).1 10 = S.1 10 from rfl]
      refine lv_istore_n (lv' := [(3, .int (S.1 10)), (2, .int (nI (mo_hc g 80))), (0, .ref o), (1, .int k)]) hx hb dX4_collect_32 rfl hl (by decide) rfl (fun ls hl => ?_)
      refine lv_aload_n hx hb dX4_collect_33 rfl (lv_at hl 2 rfl) ?_
      refine lv_iconst (v := 0) hx hb dX4_collect_34 (by decide) ?_
      refine pu_10_10 (index := 81) (v := 0) hC hM hK.1 mb_500 dX4_collect_35 (fun H locs hM => ?_)
      rw [mo_um] at hM
      refine lv_iconst (v := 0) hx hb dX4_collect_38 (by decide) ?_
      refine lv_istore (lv' := [(4, .int 0), (3, .int (S.1 10)), (2, .int (nI (mo_hc g 80))), (0, .ref o), (1, .int k)]) hx hb dX4_collect_39 hl (by decide) rfl (fun ls hl => ?_)
      exact lo_X4_collect_41 hl0 o A hK S k hz9 u hw g hg (Or.inr c16) hC hr hlk htab 80 0 _ _ ls (by omega) (by rw [mo_cl_0]; exact hM) (lv_sub hl [3, 4, 2, 1, 0] rfl)
    · refine lv_aload_n hx hb dX4_collect_19 rfl (lv_at hl 1 rfl) ?_
      refine mw_callV (As := []) (rest := []) (n := 0) (C := RX4) (T := TX4) (N := 21) (ci := 4) hC hM (c_X4_crash l hl0 D cs h H.size o A hK (sw (su S 0 0) 6 g) u hw) (cwV 0 hC.1.2.2.2.2 (tb_V mb_669 mb_656 mb_657 mb_40 mb_658) rfl rfl rfl (by decide +kernel) ⟨Nat.le_of_ble_eq_true rfl, Nat.le_of_ble_eq_true rfl⟩) (th_at (h := mo_h o A h (sw (su S 0 0) 6 g)) hK.1) rfl rfl rfl hl.1 (Nat.le_of_ble_eq_true rfl) dX4_collect_20 ⟨Nat.le_of_ble_eq_true rfl, Nat.le_of_ble_eq_true rfl⟩ (fun E ce q9 g9 H locs hp9 hM hce hcv hcl => ?_) (fun v9 g9 H locs hp9 hM => ?_)
      · exact (hp9.elim fun _ h9 => h9.2.elim)
      obtain ⟨h20, rfl, hp9⟩ := hp9
      obtain ⟨p9, T, hcr, rfl, rfl⟩ := hp9
      refine W.eq (g2 := F0 m 23 ls [.int (nI (mo_ac S 3))]) rfl ?_
      refine lv_istore_n (lv' := [(3, .int (nI (mo_ac S 3))), (2, .int (nI (mo_hc g 80))), (0, .ref o), (1, .int k)]) hx hb dX4_collect_23 rfl hl (by decide) rfl (fun ls hl => ?_)
      refine lv_iconst (v := (-1)) hx hb dX4_collect_24 (by decide) ?_
      refine lv_iload_n hx hb dX4_collect_25 rfl (lv_at hl 0 rfl) ?_
      refine lv_isub hx hb dX4_collect_26 ?_
      refine mw_iret hC hM hr hlk dX4_collect_27 (Nat.le_of_ble_eq_true rfl) (Nat.le_of_ble_eq_true rfl) ⟨_, rfl, ?_⟩
      exact ⟨g, hg, Or.inl ⟨c11, c16, p9, T, hcr, rfl, rfl⟩⟩

-- the loop at 24 of StableHeapModel.count
set_option maxHeartbeats 4000000 in
set_option maxRecDepth 100000 in
theorem lo_X4_count_24 {l : Launch} (hl0 : l.stackTraces = false) {D : va_G} {cs : Nat → ClassId} {h : th_S} (o : Nat) (A : Nat → Nat) (hK : mo_K o A h) (S : th_N) (k : Int32) (u : Nat) (hw : mo_W S u) (ho9 : ¬ k < 0) (ho8 : k ≤ 7) {p : Program} {e : Env} {s : State} {m : MethodId} {below : List Frame} {meth : Method} {c : Code} (hC : th_C D cs (mo_h o A h S) p m c cX4_count 4 s [.ref o, .int k] RX4) (hr : meth.sig.returnType = some .int) (hlk : meth.locks = false) (htab : ∀ x ∈ c.exceptionTable.toList, False) : ∀ (q : Nat) (i n : Nat) (H : Heap) (locs : List Loc) (ls : Array Slot), (i + q = 80) → (n = ct (fun r => ¬ S.2 1 r ≤ 0) i) → th_H D cs (mo_h o A h S) s (mo_h o A h (su S 0 0)) H locs → lv_has ls 4 [(0, .ref o), (1, .int k), (2, .int (nI n)), (3, .int (nI i))] → W p l e { frames := 3, cells := 0, slots := 0, locals := 67 } s m [.ref o, .int k].toArray below meth c H locs 0 0 (th_Q below D cs (mo_h o A h S) s [.ref o, .int k] (fun v h' => ((k < 0 ∨ ¬ k ≤ 7) ∧ v = some (.int 0) ∧ h' = mo_h o A h (su (su S 0 0) 0 1)) ∨ (h' = mo_h o A h (su S 0 0) ∧ ((k = 0 ∧ v = some (.int (nI (ct (fun r => ¬ S.2 1 r ≤ 0) 80)))) ∨ (k = 1 ∧ v = some (.int (S.1 9))) ∨ (k = 2 ∧ v = some (.int (S.1 10))) ∨ (k = 3 ∧ v = some (.int (mo_lg S))) ∨ (k = 4 ∧ v = some (.int (nI (mo_ac S 3)))) ∨ (k = 5 ∧ v = some (.int (S.1 13))) ∨ (k = 6 ∧ v = some (.int (S.1 15))))) ∨ (k = 7 ∧ ∃ g, mo_hd S u g ∧ v = some (.int (nI (mo_hc g 80))) ∧ h' = mo_h o A h (sw (su S 0 0) 6 g))) (fun E h' => False) 0 0) (F0 m 24 ls []) := by
  have hx := hC.1.1
  have hb := hC.1.2.1
  intro q
  induction q with
  | zero =>
    intro i n H locs ls hin hn hM hl
    refine lv_iload_n hx hb dX4_count_24 rfl (lv_at hl 3 rfl) ?_
    refine lv_bipush (v := 80) hx hb dX4_count_25 (by decide) ?_
    refine lv_icmp_ge (tgt := 48) hx hb dX4_count_27 (by decide) (fun c27 => ?_) (fun c27 => ?_)
    · obtain rfl : i = 80 := by omega
      refine lv_iload_n hx hb dX4_count_48 rfl (lv_at hl 1 rfl) ?_
      rcases mo_8 ho9 ho8 with rfl | rfl | rfl | rfl | rfl | rfl | rfl | rfl
      · refine lv_tableIn (x := 0) (off := 43) (tgt := 92) hx hb dX4_count_49 (by decide) (by decide) (by decide) (by decide) ?_
        refine lv_iload_n hx hb dX4_count_92 rfl (lv_at hl 2 rfl) ?_
        refine mw_iret hC hM hr hlk dX4_count_93 (Nat.le_of_ble_eq_true rfl) (Nat.le_of_ble_eq_true rfl) ⟨_, rfl, ?_⟩
        exact Or.inr (Or.inl ⟨rfl, Or.inl ⟨rfl, by rw [hn]⟩⟩)
      · refine lv_tableIn (x := 1) (off := 45) (tgt := 94) hx hb dX4_count_49 (by decide) (by decide) (by decide) (by decide) ?_
        refine lv_aload_n hx hb dX4_count_94 rfl (lv_at hl 0 rfl) ?_
        refine gi_10_9 (index := 84) hC hM hK.1 mb_499 dX4_count_95 ?_
        rw [mo_i]
        rw [show (su S 0 0).1 9 = S.1 9 from by first | rfl | simp [su, sa, va_up]]
        refine mw_iret hC hM hr hlk dX4_count_98 (Nat.le_of_ble_eq_true rfl) (Nat.le_of_ble_eq_true rfl) ⟨_, rfl, ?_⟩
        exact Or.inr (Or.inl ⟨rfl, Or.inr (Or.inl ⟨rfl, rfl⟩)⟩)
      · refine lv_tableIn (x := 2) (off := 50) (tgt := 99) hx hb dX4_count_49 (by decide) (by decide) (by decide) (by decide) ?_
        refine lv_aload_n hx hb dX4_count_99 rfl (lv_at hl 0 rfl) ?_
        refine gi_10_10 (index := 81) hC hM hK.1 mb_500 dX4_count_100 ?_
        rw [mo_i]
        rw [show (su S 0 0).1 10 = S.1 10 from by first | rfl | simp [su, sa, va_up]]
        refine mw_iret hC hM hr hlk dX4_count_103 (Nat.le_of_ble_eq_true rfl) (Nat.le_of_ble_eq_true rfl) ⟨_, rfl, ?_⟩
        exact Or.inr (Or.inl ⟨rfl, Or.inr (Or.inr (Or.inl ⟨rfl, rfl⟩))⟩)
      · refine lv_tableIn (x := 3) (off := 55) (tgt := 104) hx hb dX4_count_49 (by decide) (by decide) (by decide) (by decide) ?_
        refine lv_aload_n hx hb dX4_count_104 rfl (lv_at hl 0 rfl) ?_
        refine mw_callV (As := []) (rest := []) (n := 0) (C := RX4) (T := TX4) (N := 21) (ci := 4) hC hM (c_X4_log l hl0 D cs h H.size o A hK (su S 0 0) ) (cwV 0 hC.1.2.2.2.2 (tb_V mb_570 mb_571 mb_19 mb_40 mb_572) rfl rfl rfl (by decide +kernel) ⟨Nat.le_of_ble_eq_true rfl, Nat.le_of_ble_eq_true rfl⟩) (th_at (h := mo_h o A h (su S 0 0)) hK.1) rfl rfl rfl hl.1 (Nat.le_of_ble_eq_true rfl) dX4_count_105 ⟨Nat.le_of_ble_eq_true rfl, Nat.le_of_ble_eq_true rfl⟩ (fun E ce q9 g9 H locs hp9 hM hce hcv hcl => ?_) (fun v9 g9 H locs hp9 hM => ?_)
        · exact (hp9.elim fun _ h9 => h9.2.elim)
        obtain ⟨h105, rfl, hp9⟩ := hp9
        obtain ⟨rfl, rfl⟩ := hp9
        refine W.eq (g2 := F0 m 108 ls [.int (mo_lg S)]) rfl ?_
        refine mw_iret hC hM hr hlk dX4_count_108 (Nat.le_of_ble_eq_true rfl) (Nat.le_of_ble_eq_true rfl) ⟨_, rfl, ?_⟩
        exact Or.inr (Or.inl ⟨rfl, Or.inr (Or.inr (Or.inr (Or.inl ⟨rfl, rfl⟩)))⟩)
      · refine lv_tableIn (x := 4) (off := 60) (tgt := 109) hx hb dX4_count_49 (by decide) (by decide) (by decide) (by decide) ?_
        refine lv_aload_n hx hb dX4_count_109 rfl (lv_at hl 0 rfl) ?_
        refine mw_callV (As := []) (rest := []) (n := 0) (C := RX4) (T := TX4) (N := 21) (ci := 4) hC hM (c_X4_actives l hl0 D cs h H.size o A hK (su S 0 0) ) (cwV 0 hC.1.2.2.2.2 (tb_V mb_564 mb_565 mb_17 mb_40 mb_566) rfl rfl rfl (by decide +kernel) ⟨Nat.le_of_ble_eq_true rfl, Nat.le_of_ble_eq_true rfl⟩) (th_at (h := mo_h o A h (su S 0 0)) hK.1) rfl rfl rfl hl.1 (Nat.le_of_ble_eq_true rfl) dX4_count_110 ⟨Nat.le_of_ble_eq_true rfl, Nat.le_of_ble_eq_true rfl⟩ (fun E ce q9 g9 H locs hp9 hM hce hcv hcl => ?_) (fun v9 g9 H locs hp9 hM => ?_)
        · exact (hp9.elim fun _ h9 => h9.2.elim)
        obtain ⟨h110, rfl, hp9⟩ := hp9
        obtain ⟨rfl, rfl⟩ := hp9
        refine W.eq (g2 := F0 m 113 ls [.int (nI (mo_ac S 3))]) rfl ?_
        refine mw_iret hC hM hr hlk dX4_count_113 (Nat.le_of_ble_eq_true rfl) (Nat.le_of_ble_eq_true rfl) ⟨_, rfl, ?_⟩
        exact Or.inr (Or.inl ⟨rfl, Or.inr (Or.inr (Or.inr (Or.inr (Or.inl ⟨rfl, rfl⟩))))⟩)
      · refine lv_tableIn (x := 5) (off := 65) (tgt := 114) hx hb dX4_count_49 (by decide) (by decide) (by decide) (by decide) ?_
        refine lv_aload_n hx hb dX4_count_114 rfl (lv_at hl 0 rfl) ?_
        refine gi_10_13 (index := 71) hC hM hK.1 mb_503 dX4_count_115 ?_
        rw [mo_i]
        rw [show (su S 0 0).1 13 = S.1 13 from by first | rfl | simp [su, sa, va_up]]
        refine mw_iret hC hM hr hlk dX4_count_118 (Nat.le_of_ble_eq_true rfl) (Nat.le_of_ble_eq_true rfl) ⟨_, rfl, ?_⟩
        exact Or.inr (Or.inl ⟨rfl, Or.inr (Or.inr (Or.inr (Or.inr (Or.inr (Or.inl ⟨rfl, rfl⟩)))))⟩)
      · refine lv_tableIn (x := 6) (off := 70) (tgt := 119) hx hb dX4_count_49 (by decide) (by decide) (by decide) (by decide) ?_
        refine lv_aload_n hx hb dX4_count_119 rfl (lv_at hl 0 rfl) ?_
        refine gi_10_15 (index := 144) hC hM hK.1 mb_505 dX4_count_120 ?_
        rw [mo_i]
        rw [show (su S 0 0).1 15 = S.1 15 from by first | rfl | simp [su, sa, va_up]]
        refine mw_iret hC hM hr hlk dX4_count_123 (Nat.le_of_ble_eq_true rfl) (Nat.le_of_ble_eq_true rfl) ⟨_, rfl, ?_⟩
        exact Or.inr (Or.inl ⟨rfl, Or.inr (Or.inr (Or.inr (Or.inr (Or.inr (Or.inr (⟨rfl, rfl⟩))))))⟩)
      · refine lv_tableOut (tgt := 124) hx hb dX4_count_49 (Or.inr (by decide)) (by decide) ?_
        refine lv_aload_n hx hb dX4_count_124 rfl (lv_at hl 0 rfl) ?_
        refine mw_callV (As := []) (rest := []) (n := 0) (C := RX4) (T := TX4) (N := 21) (ci := 4) hC hM (c_X4_markHeld l hl0 D cs h H.size o A hK (su S 0 0) u hw) (cwV 0 hC.1.2.2.2.2 (tb_V mb_663 mb_664 mb_33 mb_40 mb_665) rfl rfl rfl (by decide +kernel) ⟨Nat.le_of_ble_eq_true rfl, Nat.le_of_ble_eq_true rfl⟩) (th_at (h := mo_h o A h (su S 0 0)) hK.1) rfl rfl rfl hl.1 (Nat.le_of_ble_eq_true rfl) dX4_count_125 ⟨Nat.le_of_ble_eq_true rfl, Nat.le_of_ble_eq_true rfl⟩ (fun E ce q9 g9 H locs hp9 hM hce hcv hcl => ?_) (fun v9 g9 H locs hp9 hM => ?_)
        · exact (hp9.elim fun _ h9 => h9.2.elim)
        obtain ⟨h125, rfl, hp9⟩ := hp9
        obtain ⟨g, hg, rfl, rfl⟩ := hp9
        refine W.eq (g2 := F0 m 128 ls [.int (nI (mo_hc g 80))]) rfl ?_
        refine mw_iret hC hM hr hlk dX4_count_128 (Nat.le_of_ble_eq_true rfl) (Nat.le_of_ble_eq_true rfl) ⟨_, rfl, ?_⟩
        exact Or.inr (Or.inr ⟨rfl, g, hg, rfl, rfl⟩)
    · exact absurd (nI_le (a := 80) (show 80 ≤ i by omega) (by omega)) c27
  | succ q ih =>
    intro i n H locs ls hin hn hM hl
    refine lv_iload_n hx hb dX4_count_24 rfl (lv_at hl 3 rfl) ?_
    refine lv_bipush (v := 80) hx hb dX4_count_25 (by decide) ?_
    refine lv_icmp_ge (tgt := 48) hx hb dX4_count_27 (by decide) (fun c27 => ?_) (fun c27 => ?_)
    · exact absurd c27 (nI_ge (b := 80) (by omega) (by decide))
    · refine lv_aload_n hx hb dX4_count_30 rfl (lv_at hl 0 rfl) ?_
      refine gr_10_1 (index := 7) hC hM hK.1 mb_491 dX4_count_31 (hK.r1) ?_
      refine lv_iload_n hx hb dX4_count_34 rfl (lv_at hl 3 rfl) ?_
      refine al_7 (i := i) (n := 80) hC hM hK.k1 (by first | rfl | decide) (by omega) (by decide) dX4_count_35 ?_
      rw [mo_a1 hK]
      rw [show (su S 0 0).2 1 i = S.2 1 i from by first | rfl | simp [su, sa, va_up]]
      refine lv_if_le (tgt := 42) hx hb dX4_count_36 (by decide) (fun c36 => ?_) (fun c36 => ?_)
      · refine lv_iinc (v := nI (i + 1)) (lv' := [(3, .int (nI (i + 1))), (0, .ref o), (1, .int k), (2, .int (nI n))]) hx hb dX4_count_42 hl (k := 3) rfl (by exact nI_1 i) (by first | decide | omega) rfl (fun ls hl => ?_)
        refine lv_goto (tgt := 24) hx hb dX4_count_45 (by decide) ?_
        exact ih (i + 1) n H locs ls (by omega) (by rw [hn]; exact (ct_n (p := fun r => ¬ S.2 1 r ≤ 0) (fun q9 => q9 c36)).symm) hM (lv_sub hl [1, 2, 3, 0] rfl)
      · refine lv_iinc (v := nI (n + 1)) (lv' := [(2, .int (nI (n + 1))), (0, .ref o), (1, .int k), (3, .int (nI i))]) hx hb dX4_count_39 hl (k := 2) rfl (by exact nI_1 n) (by first | decide | omega) rfl (fun ls hl => ?_)
        refine lv_iinc (v := nI (i + 1)) (lv' := [(3, .int (nI (i + 1))), (2, .int (nI (n + 1))), (0, .ref o), (1, .int k)]) hx hb dX4_count_42 hl (k := 3) rfl (by exact nI_1 i) (by first | decide | omega) rfl (fun ls hl => ?_)
        refine lv_goto (tgt := 24) hx hb dX4_count_45 (by decide) ?_
        exact ih (i + 1) (n + 1) H locs ls (by omega) (by rw [hn]; exact (ct_s (p := fun r => ¬ S.2 1 r ≤ 0) c36).symm) hM (lv_sub hl [2, 3, 1, 0] rfl)

-- StableHeapModel.count
set_option maxHeartbeats 4000000 in
set_option maxRecDepth 100000 in
theorem c_X4_count (l : Launch) (hl0 : l.stackTraces = false) (D : va_G) (cs : Nat → ClassId) (h : th_S) (sz : Nat) (o : Nat) (A : Nat → Nat) (hK : mo_K o A h) (S : th_N) (k : Int32) (u : Nat) (hw : mo_W S u) : th_M l yX4_count wsX4_count { frames := 3, cells := 0, slots := 0, locals := 67 } D cs (mo_h o A h S) sz [.ref o, .int k] (fun v h' => ((k < 0 ∨ ¬ k ≤ 7) ∧ v = some (.int 0) ∧ h' = mo_h o A h (su (su S 0 0) 0 1)) ∨ (h' = mo_h o A h (su S 0 0) ∧ ((k = 0 ∧ v = some (.int (nI (ct (fun r => ¬ S.2 1 r ≤ 0) 80)))) ∨ (k = 1 ∧ v = some (.int (S.1 9))) ∨ (k = 2 ∧ v = some (.int (S.1 10))) ∨ (k = 3 ∧ v = some (.int (mo_lg S))) ∨ (k = 4 ∧ v = some (.int (nI (mo_ac S 3)))) ∨ (k = 5 ∧ v = some (.int (S.1 13))) ∨ (k = 6 ∧ v = some (.int (S.1 15))))) ∨ (k = 7 ∧ ∃ g, mo_hd S u g ∧ v = some (.int (nI (mo_hc g 80))) ∧ h' = mo_h o A h (sw (su S 0 0) 6 g))) (fun E h' => False) := by
  refine mw_ofW (cc := cX4_count) (maxL := 4) (ret := (some .int)) (by decide) rfl (fun w h => List.mem_cons_of_mem _ h) th_cd (Nat.le_of_ble_eq_true rfl) ?_
  intro p e s m below meth c hsz hC hr hlk hnm htab hM ls hl
  have hC : th_C D cs (mo_h o A h S) p m c cX4_count 4 s [.ref o, .int k] RX4 := hC
  have hx := hC.1.1
  have hb := hC.1.2.1
  have hl : lv_has ls 4 [(0, .ref o), (1, .int k)] := hl
  refine lv_aload_n hx hb dX4_count_0 rfl (lv_at hl 0 rfl) ?_
  refine lv_iconst (v := 0) hx hb dX4_count_1 (by decide) ?_
  refine pu_10_0 (index := 53) (v := 0) hC hM hK.1 mb_490 dX4_count_2 (fun H locs hM => ?_)
  rw [mo_um] at hM
  refine lv_iload_n hx hb dX4_count_5 rfl (lv_at hl 1 rfl) ?_
  refine lv_bipush (v := 7) hx hb dX4_count_6 (by decide) ?_
  refine mw_callS (As := [.int k, .int 7]) (rest := []) (n := 2) hC hM (c_X4_out l hl0 D cs (mo_h o A h (su S 0 0)) H.size k 7) (va_cwS 2 hC.1.2.2.2.2 (tb_S mb_580 mb_581 mb_40 mb_582) rfl rfl rfl (by decide +kernel) ⟨Nat.le_of_ble_eq_true rfl, Nat.le_of_ble_eq_true rfl⟩) rfl rfl hl.1 (Nat.le_of_ble_eq_true rfl) dX4_count_8 ⟨Nat.le_of_ble_eq_true rfl, Nat.le_of_ble_eq_true rfl⟩ (fun E ce q9 g9 H locs hp9 hM hce hcv hcl => ?_) (fun v9 g9 H locs hp9 hM => ?_)
  · exact (hp9.elim fun _ h9 => h9.2.elim)
  obtain ⟨h8, rfl, hp9⟩ := hp9
  obtain ⟨rfl, hp9⟩ := hp9
  rcases hp9 with ⟨rfl, ho9⟩ | ⟨rfl, ho9, ho8⟩
  · refine W.eq (g2 := F0 m 11 ls [.int 1]) rfl ?_
    refine lv_if_eq (tgt := 20) hx hb dX4_count_11 (by decide) (fun c11 => ?_) (fun c11 => ?_)
    · exact absurd c11 (by decide)
    · refine lv_aload_n hx hb dX4_count_14 rfl (lv_at hl 0 rfl) ?_
      refine lv_iconst (v := 1) hx hb dX4_count_15 (by decide) ?_
      refine mw_callV (As := [.int 1]) (rest := []) (n := 1) (C := RX4) (T := TX4) (N := 21) (ci := 4) hC hM (c_X4_raise l hl0 D cs h H.size o A hK (su S 0 0) 1) (cwV 1 hC.1.2.2.2.2 (tb_V mb_567 mb_568 mb_18 mb_40 mb_569) rfl rfl rfl (by decide +kernel) ⟨Nat.le_of_ble_eq_true rfl, Nat.le_of_ble_eq_true rfl⟩) (th_at (h := mo_h o A h (su S 0 0)) hK.1) rfl rfl rfl hl.1 (Nat.le_of_ble_eq_true rfl) dX4_count_16 ⟨Nat.le_of_ble_eq_true rfl, Nat.le_of_ble_eq_true rfl⟩ (fun E ce q9 g9 H locs hp9 hM hce hcv hcl => ?_) (fun v9 g9 H locs hp9 hM => ?_)
      · exact (hp9.elim fun _ h9 => h9.2.elim)
      obtain ⟨h16, rfl, hp9⟩ := hp9
      obtain ⟨rfl, rfl⟩ := hp9
      refine W.eq (g2 := F0 m 19 ls [.int 0]) rfl ?_
      refine mw_iret hC hM hr hlk dX4_count_19 (Nat.le_of_ble_eq_true rfl) (Nat.le_of_ble_eq_true rfl) ⟨_, rfl, ?_⟩
      exact Or.inl ⟨ho9, rfl, rfl⟩
  · refine W.eq (g2 := F0 m 11 ls [.int 0]) rfl ?_
    refine lv_if_eq (tgt := 20) hx hb dX4_count_11 (by decide) (fun c11 => ?_) (fun c11 => ?_)
    · refine lv_iconst (v := 0) hx hb dX4_count_20 (by decide) ?_
      refine lv_istore_n (lv' := [(2, .int 0), (0, .ref o), (1, .int k)]) hx hb dX4_count_21 rfl hl (by decide) rfl (fun ls hl => ?_)
      refine lv_iconst (v := 0) hx hb dX4_count_22 (by decide) ?_
      refine lv_istore_n (lv' := [(3, .int 0), (2, .int 0), (0, .ref o), (1, .int k)]) hx hb dX4_count_23 rfl hl (by decide) rfl (fun ls hl => ?_)
      exact lo_X4_count_24 hl0 o A hK S k u hw ho9 ho8 hC hr hlk htab 80 0 0 _ _ ls (by omega) rfl hM (lv_sub hl [2, 3, 1, 0] rfl)
    · exact absurd c11 (by decide)

-- StableHeapModel.<init>
set_option maxHeartbeats 4000000 in
set_option maxRecDepth 100000 in
theorem c_X4_init (l : Launch) (hl0 : l.stackTraces = false) (D : va_G) (cs : Nat → ClassId) (h : th_S) (sz : Nat) (o : Nat) (ho : h.1 o = some (10, 0)) : th_MI l yX4_init wsX4_init { frames := 1, cells := 14, slots := 1214, locals := 16 } D cs h sz [.ref o] (fun v h' => v = none ∧ ∃ A, mo_I o h [19, 18, 17, 16, 12, 11, 8, 7, 6, 5, 4, 3, 2, 1] A h') := by
  refine mw_ofWI (cc := cX4_init) (maxL := 1) (ret := none) (by decide) rfl (fun w h => List.mem_cons_of_mem _ h) th_cd (Nat.le_of_ble_eq_true rfl) ?_
  intro p e s m below meth c hsz hC hr hlk hnm hM ls hl
  have hC : th_C D cs h p m c cX4_init 1 s [.ref o] RX4 := hC
  have hx := hC.1.1
  have hb := hC.1.2.1
  have hl : lv_has ls 1 [(0, .ref o)] := hl
  have hI0 := mo_I.zero ho
  refine lv_aload_n hx hb dX4_init_0 rfl (lv_at hl 0 rfl) ?_
  refine W.objInit hx hb hC.1.2.2.2.1 (hC.1.2.2.2.2 (.methodLink RX4 1 objectInit) mb_489) (hC.1.2.2.2.2 (.instanceMethod objectInit) mb_56) (hC.1.2.2.2.2 (.code objectInit ⟨#[0xb1]⟩ 1 none) mb_57) rfl (by rw [hC.1.2.2.1]; exact hl.1) rfl dX4_init_1 (Nat.le_of_ble_eq_true rfl) (Nat.le_of_ble_eq_true rfl) ?_
  refine W.eq (g2 := F0 m 4 ls []) rfl ?_
  refine lv_aload_n hx hb dX4_init_4 rfl (lv_at hl 0 rfl) ?_
  refine lv_bipush (v := 80) hx hb dX4_init_5 (by decide) ?_
  refine na_7 (n := 80) hC hM mb_554 (by first | rfl | decide) (by decide) (Nat.le_of_ble_eq_true rfl) (Nat.le_of_ble_eq_true rfl) dX4_init_7 (fun q1 H hn_q1 hM => ?_)
  refine pu_10_1 (index := 7) (v := some q1) hC hM (th_un_k (h := h) hn_q1 hI0.1) mb_491 hnm rfl dX4_init_9 (fun H locs hM => ?_)
  have hI1 := hI0.step (j := 1) hn_q1 (by decide) (by decide)
  obtain ⟨u1, eu1⟩ : ∃ u9, u9 = (th_ur (th_un h q1 (7, 80)) o 1 (some q1)) := ⟨_, rfl⟩
  rw [← eu1] at hM
  replace hI1 : mo_I o h [1] (va_up (fun _ => 0) 1 q1) u1 := by rw [eu1]; exact hI1
  refine lv_aload_n hx hb dX4_init_12 rfl (lv_at hl 0 rfl) ?_
  refine lv_bipush (v := 80) hx hb dX4_init_13 (by decide) ?_
  refine na_7 (n := 80) hC hM mb_554 (by first | rfl | decide) (by decide) (Nat.le_of_ble_eq_true rfl) (Nat.le_of_ble_eq_true rfl) dX4_init_15 (fun q2 H hn_q2 hM => ?_)
  refine pu_10_2 (index := 13) (v := some q2) hC hM (th_un_k (h := u1) hn_q2 hI1.1) mb_492 hnm rfl dX4_init_17 (fun H locs hM => ?_)
  have hI2 := hI1.step (j := 2) hn_q2 (by decide) (by decide)
  obtain ⟨u2, eu2⟩ : ∃ u9, u9 = (th_ur (th_un u1 q2 (7, 80)) o 2 (some q2)) := ⟨_, rfl⟩
  rw [← eu2] at hM
  replace hI2 : mo_I o h [2, 1] (va_up (va_up (fun _ => 0) 1 q1) 2 q2) u2 := by rw [eu2]; exact hI2
  refine lv_aload_n hx hb dX4_init_20 rfl (lv_at hl 0 rfl) ?_
  refine lv_bipush (v := 80) hx hb dX4_init_21 (by decide) ?_
  refine na_7 (n := 80) hC hM mb_554 (by first | rfl | decide) (by decide) (Nat.le_of_ble_eq_true rfl) (Nat.le_of_ble_eq_true rfl) dX4_init_23 (fun q3 H hn_q3 hM => ?_)
  refine pu_10_3 (index := 16) (v := some q3) hC hM (th_un_k (h := u2) hn_q3 hI2.1) mb_493 hnm rfl dX4_init_25 (fun H locs hM => ?_)
  have hI3 := hI2.step (j := 3) hn_q3 (by decide) (by decide)
  obtain ⟨u3, eu3⟩ : ∃ u9, u9 = (th_ur (th_un u2 q3 (7, 80)) o 3 (some q3)) := ⟨_, rfl⟩
  rw [← eu3] at hM
  replace hI3 : mo_I o h [3, 2, 1] (va_up (va_up (va_up (fun _ => 0) 1 q1) 2 q2) 3 q3) u3 := by rw [eu3]; exact hI3
  refine lv_aload_n hx hb dX4_init_28 rfl (lv_at hl 0 rfl) ?_
  refine lv_sipush (v := 320) hx hb dX4_init_29 (by decide) ?_
  refine na_8 (n := 320) hC hM mb_555 (by first | rfl | decide) (by decide) (Nat.le_of_ble_eq_true rfl) (Nat.le_of_ble_eq_true rfl) dX4_init_32 (fun q4 H hn_q4 hM => ?_)
  refine pu_10_4 (index := 19) (v := some q4) hC hM (th_un_k (h := u3) hn_q4 hI3.1) mb_494 hnm rfl dX4_init_34 (fun H locs hM => ?_)
  have hI4 := hI3.step (j := 4) hn_q4 (by decide) (by decide)
  obtain ⟨u4, eu4⟩ : ∃ u9, u9 = (th_ur (th_un u3 q4 (8, 320)) o 4 (some q4)) := ⟨_, rfl⟩
  rw [← eu4] at hM
  replace hI4 : mo_I o h [4, 3, 2, 1] (va_up (va_up (va_up (va_up (fun _ => 0) 1 q1) 2 q2) 3 q3) 4 q4) u4 := by rw [eu4]; exact hI4
  refine lv_aload_n hx hb dX4_init_37 rfl (lv_at hl 0 rfl) ?_
  refine lv_sipush (v := 320) hx hb dX4_init_38 (by decide) ?_
  refine na_7 (n := 320) hC hM mb_554 (by first | rfl | decide) (by decide) (Nat.le_of_ble_eq_true rfl) (Nat.le_of_ble_eq_true rfl) dX4_init_41 (fun q5 H hn_q5 hM => ?_)
  refine pu_10_5 (index := 23) (v := some q5) hC hM (th_un_k (h := u4) hn_q5 hI4.1) mb_495 hnm rfl dX4_init_43 (fun H locs hM => ?_)
  have hI5 := hI4.step (j := 5) hn_q5 (by decide) (by decide)
  obtain ⟨u5, eu5⟩ : ∃ u9, u9 = (th_ur (th_un u4 q5 (7, 320)) o 5 (some q5)) := ⟨_, rfl⟩
  rw [← eu5] at hM
  replace hI5 : mo_I o h [5, 4, 3, 2, 1] (va_up (va_up (va_up (va_up (va_up (fun _ => 0) 1 q1) 2 q2) 3 q3) 4 q4) 5 q5) u5 := by rw [eu5]; exact hI5
  refine lv_aload_n hx hb dX4_init_46 rfl (lv_at hl 0 rfl) ?_
  refine lv_bipush (v := 80) hx hb dX4_init_47 (by decide) ?_
  refine na_8 (n := 80) hC hM mb_555 (by first | rfl | decide) (by decide) (Nat.le_of_ble_eq_true rfl) (Nat.le_of_ble_eq_true rfl) dX4_init_49 (fun q6 H hn_q6 hM => ?_)
  refine pu_10_6 (index := 26) (v := some q6) hC hM (th_un_k (h := u5) hn_q6 hI5.1) mb_496 hnm rfl dX4_init_51 (fun H locs hM => ?_)
  have hI6 := hI5.step (j := 6) hn_q6 (by decide) (by decide)
  obtain ⟨u6, eu6⟩ : ∃ u9, u9 = (th_ur (th_un u5 q6 (8, 80)) o 6 (some q6)) := ⟨_, rfl⟩
  rw [← eu6] at hM
  replace hI6 : mo_I o h [6, 5, 4, 3, 2, 1] (va_up (va_up (va_up (va_up (va_up (va_up (fun _ => 0) 1 q1) 2 q2) 3 q3) 4 q4) 5 q5) 6 q6) u6 := by rw [eu6]; exact hI6
  refine lv_aload_n hx hb dX4_init_54 rfl (lv_at hl 0 rfl) ?_
  refine lv_iconst (v := 4) hx hb dX4_init_55 (by decide) ?_
  refine na_7 (n := 4) hC hM mb_554 (by first | rfl | decide) (by decide) (Nat.le_of_ble_eq_true rfl) (Nat.le_of_ble_eq_true rfl) dX4_init_56 (fun q7 H hn_q7 hM => ?_)
  refine pu_10_7 (index := 29) (v := some q7) hC hM (th_un_k (h := u6) hn_q7 hI6.1) mb_497 hnm rfl dX4_init_58 (fun H locs hM => ?_)
  have hI7 := hI6.step (j := 7) hn_q7 (by decide) (by decide)
  obtain ⟨u7, eu7⟩ : ∃ u9, u9 = (th_ur (th_un u6 q7 (7, 4)) o 7 (some q7)) := ⟨_, rfl⟩
  rw [← eu7] at hM
  replace hI7 : mo_I o h [7, 6, 5, 4, 3, 2, 1] (va_up (va_up (va_up (va_up (va_up (va_up (va_up (fun _ => 0) 1 q1) 2 q2) 3 q3) 4 q4) 5 q5) 6 q6) 7 q7) u7 := by rw [eu7]; exact hI7
  refine lv_aload_n hx hb dX4_init_61 rfl (lv_at hl 0 rfl) ?_
  refine lv_iconst (v := 4) hx hb dX4_init_62 (by decide) ?_
  refine na_7 (n := 4) hC hM mb_554 (by first | rfl | decide) (by decide) (Nat.le_of_ble_eq_true rfl) (Nat.le_of_ble_eq_true rfl) dX4_init_63 (fun q8 H hn_q8 hM => ?_)
  refine pu_10_8 (index := 32) (v := some q8) hC hM (th_un_k (h := u7) hn_q8 hI7.1) mb_498 hnm rfl dX4_init_65 (fun H locs hM => ?_)
  have hI8 := hI7.step (j := 8) hn_q8 (by decide) (by decide)
  obtain ⟨u8, eu8⟩ : ∃ u9, u9 = (th_ur (th_un u7 q8 (7, 4)) o 8 (some q8)) := ⟨_, rfl⟩
  rw [← eu8] at hM
  replace hI8 : mo_I o h [8, 7, 6, 5, 4, 3, 2, 1] (va_up (va_up (va_up (va_up (va_up (va_up (va_up (va_up (fun _ => 0) 1 q1) 2 q2) 3 q3) 4 q4) 5 q5) 6 q6) 7 q7) 8 q8) u8 := by rw [eu8]; exact hI8
  refine lv_aload_n hx hb dX4_init_68 rfl (lv_at hl 0 rfl) ?_
  refine lv_iconst (v := 3) hx hb dX4_init_69 (by decide) ?_
  refine na_7 (n := 3) hC hM mb_554 (by first | rfl | decide) (by decide) (Nat.le_of_ble_eq_true rfl) (Nat.le_of_ble_eq_true rfl) dX4_init_70 (fun q11 H hn_q11 hM => ?_)
  refine pu_10_11 (index := 35) (v := some q11) hC hM (th_un_k (h := u8) hn_q11 hI8.1) mb_501 hnm rfl dX4_init_72 (fun H locs hM => ?_)
  have hI11 := hI8.step (j := 11) hn_q11 (by decide) (by decide)
  obtain ⟨u11, eu11⟩ : ∃ u9, u9 = (th_ur (th_un u8 q11 (7, 3)) o 11 (some q11)) := ⟨_, rfl⟩
  rw [← eu11] at hM
  replace hI11 : mo_I o h [11, 8, 7, 6, 5, 4, 3, 2, 1] (va_up (va_up (va_up (va_up (va_up (va_up (va_up (va_up (va_up (fun _ => 0) 1 q1) 2 q2) 3 q3) 4 q4) 5 q5) 6 q6) 7 q7) 8 q8) 11 q11) u11 := by rw [eu11]; exact hI11
  refine lv_aload_n hx hb dX4_init_75 rfl (lv_at hl 0 rfl) ?_
  refine lv_iconst (v := 3) hx hb dX4_init_76 (by decide) ?_
  refine na_7 (n := 3) hC hM mb_554 (by first | rfl | decide) (by decide) (Nat.le_of_ble_eq_true rfl) (Nat.le_of_ble_eq_true rfl) dX4_init_77 (fun q12 H hn_q12 hM => ?_)
  refine pu_10_12 (index := 38) (v := some q12) hC hM (th_un_k (h := u11) hn_q12 hI11.1) mb_502 hnm rfl dX4_init_79 (fun H locs hM => ?_)
  have hI12 := hI11.step (j := 12) hn_q12 (by decide) (by decide)
  obtain ⟨u12, eu12⟩ : ∃ u9, u9 = (th_ur (th_un u11 q12 (7, 3)) o 12 (some q12)) := ⟨_, rfl⟩
  rw [← eu12] at hM
  replace hI12 : mo_I o h [12, 11, 8, 7, 6, 5, 4, 3, 2, 1] (va_up (va_up (va_up (va_up (va_up (va_up (va_up (va_up (va_up (va_up (fun _ => 0) 1 q1) 2 q2) 3 q3) 4 q4) 5 q5) 6 q6) 7 q7) 8 q8) 11 q11) 12 q12) u12 := by rw [eu12]; exact hI12
  refine lv_aload_n hx hb dX4_init_82 rfl (lv_at hl 0 rfl) ?_
  refine lv_bipush (v := 60) hx hb dX4_init_83 (by decide) ?_
  refine na_7 (n := 60) hC hM mb_554 (by first | rfl | decide) (by decide) (Nat.le_of_ble_eq_true rfl) (Nat.le_of_ble_eq_true rfl) dX4_init_85 (fun q16 H hn_q16 hM => ?_)
  refine pu_10_16 (index := 41) (v := some q16) hC hM (th_un_k (h := u12) hn_q16 hI12.1) mb_506 hnm rfl dX4_init_87 (fun H locs hM => ?_)
  have hI16 := hI12.step (j := 16) hn_q16 (by decide) (by decide)
  obtain ⟨u16, eu16⟩ : ∃ u9, u9 = (th_ur (th_un u12 q16 (7, 60)) o 16 (some q16)) := ⟨_, rfl⟩
  rw [← eu16] at hM
  replace hI16 : mo_I o h [16, 12, 11, 8, 7, 6, 5, 4, 3, 2, 1] (va_up (va_up (va_up (va_up (va_up (va_up (va_up (va_up (va_up (va_up (va_up (fun _ => 0) 1 q1) 2 q2) 3 q3) 4 q4) 5 q5) 6 q6) 7 q7) 8 q8) 11 q11) 12 q12) 16 q16) u16 := by rw [eu16]; exact hI16
  refine lv_aload_n hx hb dX4_init_90 rfl (lv_at hl 0 rfl) ?_
  refine lv_bipush (v := 60) hx hb dX4_init_91 (by decide) ?_
  refine na_7 (n := 60) hC hM mb_554 (by first | rfl | decide) (by decide) (Nat.le_of_ble_eq_true rfl) (Nat.le_of_ble_eq_true rfl) dX4_init_93 (fun q17 H hn_q17 hM => ?_)
  refine pu_10_17 (index := 44) (v := some q17) hC hM (th_un_k (h := u16) hn_q17 hI16.1) mb_507 hnm rfl dX4_init_95 (fun H locs hM => ?_)
  have hI17 := hI16.step (j := 17) hn_q17 (by decide) (by decide)
  obtain ⟨u17, eu17⟩ : ∃ u9, u9 = (th_ur (th_un u16 q17 (7, 60)) o 17 (some q17)) := ⟨_, rfl⟩
  rw [← eu17] at hM
  replace hI17 : mo_I o h [17, 16, 12, 11, 8, 7, 6, 5, 4, 3, 2, 1] (va_up (va_up (va_up (va_up (va_up (va_up (va_up (va_up (va_up (va_up (va_up (va_up (fun _ => 0) 1 q1) 2 q2) 3 q3) 4 q4) 5 q5) 6 q6) 7 q7) 8 q8) 11 q11) 12 q12) 16 q16) 17 q17) u17 := by rw [eu17]; exact hI17
  refine lv_aload_n hx hb dX4_init_98 rfl (lv_at hl 0 rfl) ?_
  refine lv_bipush (v := 60) hx hb dX4_init_99 (by decide) ?_
  refine na_8 (n := 60) hC hM mb_555 (by first | rfl | decide) (by decide) (Nat.le_of_ble_eq_true rfl) (Nat.le_of_ble_eq_true rfl) dX4_init_101 (fun q18 H hn_q18 hM => ?_)
  refine pu_10_18 (index := 47) (v := some q18) hC hM (th_un_k (h := u17) hn_q18 hI17.1) mb_508 hnm rfl dX4_init_103 (fun H locs hM => ?_)
  have hI18 := hI17.step (j := 18) hn_q18 (by decide) (by decide)
  obtain ⟨u18, eu18⟩ : ∃ u9, u9 = (th_ur (th_un u17 q18 (8, 60)) o 18 (some q18)) := ⟨_, rfl⟩
  rw [← eu18] at hM
  replace hI18 : mo_I o h [18, 17, 16, 12, 11, 8, 7, 6, 5, 4, 3, 2, 1] (va_up (va_up (va_up (va_up (va_up (va_up (va_up (va_up (va_up (va_up (va_up (va_up (va_up (fun _ => 0) 1 q1) 2 q2) 3 q3) 4 q4) 5 q5) 6 q6) 7 q7) 8 q8) 11 q11) 12 q12) 16 q16) 17 q17) 18 q18) u18 := by rw [eu18]; exact hI18
  refine lv_aload_n hx hb dX4_init_106 rfl (lv_at hl 0 rfl) ?_
  refine lv_bipush (v := 60) hx hb dX4_init_107 (by decide) ?_
  refine na_7 (n := 60) hC hM mb_554 (by first | rfl | decide) (by decide) (Nat.le_of_ble_eq_true rfl) (Nat.le_of_ble_eq_true rfl) dX4_init_109 (fun q19 H hn_q19 hM => ?_)
  refine pu_10_19 (index := 50) (v := some q19) hC hM (th_un_k (h := u18) hn_q19 hI18.1) mb_509 hnm rfl dX4_init_111 (fun H locs hM => ?_)
  have hI19 := hI18.step (j := 19) hn_q19 (by decide) (by decide)
  obtain ⟨u19, eu19⟩ : ∃ u9, u9 = (th_ur (th_un u18 q19 (7, 60)) o 19 (some q19)) := ⟨_, rfl⟩
  rw [← eu19] at hM
  replace hI19 : mo_I o h [19, 18, 17, 16, 12, 11, 8, 7, 6, 5, 4, 3, 2, 1] (va_up (va_up (va_up (va_up (va_up (va_up (va_up (va_up (va_up (va_up (va_up (va_up (va_up (va_up (fun _ => 0) 1 q1) 2 q2) 3 q3) 4 q4) 5 q5) 6 q6) 7 q7) 8 q8) 11 q11) 12 q12) 16 q16) 17 q17) 18 q18) 19 q19) u19 := by rw [eu19]; exact hI19
  refine mw_vretI hC hM hr hlk dX4_init_114 (Nat.le_of_ble_eq_true rfl) (Nat.le_of_ble_eq_true rfl) ⟨_, rfl, ?_⟩
  exact ⟨rfl, _, hI19⟩

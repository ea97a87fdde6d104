-- StableHeapModel.hold
set_option maxHeartbeats 4000000 in
set_option maxRecDepth 100000 in
theorem c_X4_hold (l : Launch) (hl0 : l.stackTraces = false) (D : va_G) (cs : Nat → ClassId) (h : th_S) (sz : Nat) (o : Nat) (A : Nat → Nat) (hK : mo_K o A h) (S : th_N) (b : Int32) : th_M l yX4_hold wsX4_hold { frames := 1, cells := 0, slots := 0, locals := 22 } D cs (mo_h o A h S) sz [.ref o, .int b] (fun v h' => v = none ∧ ∃ g, mo_ho S b (S.2 6) g ∧ h' = mo_h o A h (sw S 6 g)) (fun E h' => False) := by
  refine mw_ofW (cc := cX4_hold) (maxL := 3) (ret := none) (by decide) rfl (fun w h => List.mem_cons_of_mem _ h) th_cd (Nat.le_of_ble_eq_true rfl) ?_
  intro p e s m below meth c hsz hC hr hlk hnm htab hM ls hl
  have hC : th_C D cs (mo_h o A h S) p m c cX4_hold 3 s [.ref o, .int b] RX4 := hC
  have hx := hC.1.1
  have hb := hC.1.2.1
  have hl : lv_has ls 3 [(0, .ref o), (1, .int b)] := hl
  refine lv_aload_n hx hb dX4_hold_0 rfl (lv_at hl 0 rfl) ?_
  refine lv_iload_n hx hb dX4_hold_1 rfl (lv_at hl 1 rfl) ?_
  refine mw_callV (As := [.int b]) (rest := []) (n := 1) (C := RX4) (T := TX4) (N := 21) (ci := 4) hC hM (c_X4_row l hl0 D cs h s.heap.size o A hK S b) (cwV 1 hC.1.2.2.2.2 (tb_V mb_590 mb_591 mb_22 mb_40 mb_592) rfl rfl rfl (by decide +kernel) ⟨Nat.le_of_ble_eq_true rfl, Nat.le_of_ble_eq_true rfl⟩) (th_at (h := mo_h o A h S) hK.1) rfl rfl rfl hl.1 (Nat.le_of_ble_eq_true rfl) dX4_hold_2 ⟨Nat.le_of_ble_eq_true rfl, Nat.le_of_ble_eq_true rfl⟩ (fun E ce q9 g9 H locs hp9 hM hce hcv hcl => ?_) (fun v9 g9 H locs hp9 hM => ?_)
  · exact (hp9.elim fun _ h9 => h9.2.elim)
  obtain ⟨h2, rfl, hp9⟩ := hp9
  obtain ⟨rfl, hp9⟩ := hp9
  rcases hp9 with ⟨r, hr9, rfl⟩ | ⟨hr9, rfl⟩
  · have r_lt : r < 80 := hr9.1
    refine W.eq (g2 := F0 m 5 ls [.int (nI r)]) rfl ?_
    refine lv_istore_n (lv' := [(2, .int (nI r)), (0, .ref o), (1, .int b)]) hx hb dX4_hold_5 rfl hl (by decide) rfl (fun ls hl => ?_)
    refine lv_iload_n hx hb dX4_hold_6 rfl (lv_at hl 0 rfl) ?_
    refine lv_if_lt (tgt := 17) hx hb dX4_hold_7 (by decide) (fun c7 => ?_) (fun c7 => ?_)
    · exact absurd c7 (nI_pos (by omega))
    · refine lv_aload_n hx hb dX4_hold_10 rfl (lv_at hl 1 rfl) ?_
      refine gr_10_6 (index := 26) hC hM hK.1 mb_496 dX4_hold_11 (hK.r6) ?_
      refine lv_iload_n hx hb dX4_hold_14 rfl (lv_at hl 0 rfl) ?_
      refine lv_iconst (v := 1) hx hb dX4_hold_15 (by decide) ?_
      refine as_8 (i := r) (v := 1) (n := 80) hC hM hK.k6 (by first | rfl | decide) (by omega) (by decide) (by first | exact Or.inl rfl | exact Or.inr rfl) dX4_hold_16 (fun H locs hM => ?_)
      rw [mo_u6 hK] at hM
      refine mw_vret hC hM hr hlk dX4_hold_17 (Nat.le_of_ble_eq_true rfl) (Nat.le_of_ble_eq_true rfl) ⟨_, rfl, ?_⟩
      exact ⟨rfl, _, mo_ho.row hr9, rfl⟩
  · refine W.eq (g2 := F0 m 5 ls [.int (-1)]) rfl ?_
    refine lv_istore_n (lv' := [(2, .int (-1)), (0, .ref o), (1, .int b)]) hx hb dX4_hold_5 rfl hl (by decide) rfl (fun ls hl => ?_)
    refine lv_iload_n hx hb dX4_hold_6 rfl (lv_at hl 0 rfl) ?_
    refine lv_if_lt (tgt := 17) hx hb dX4_hold_7 (by decide) (fun c7 => ?_) (fun c7 => ?_)
    · refine mw_vret hC hM hr hlk dX4_hold_17 (Nat.le_of_ble_eq_true rfl) (Nat.le_of_ble_eq_true rfl) ⟨_, rfl, ?_⟩
      exact ⟨rfl, _, mo_ho.no hr9, by rw [sw_self]⟩
    · exact absurd c7 (by decide)

-- the loop at 175 of StableHeapModel.markHeld
set_option maxHeartbeats 4000000 in
set_option maxRecDepth 100000 in
theorem lo_X4_markHeld_175 {l : Launch} (hl0 : l.stackTraces = false) {D : va_G} {cs : Nat → ClassId} {h : th_S} (o : Nat) (A : Nat → Nat) (hK : mo_K o A h) (S : th_N) (u : Nat) (hw : mo_W S u) (g : Nat → Int32) (a : Nat) {p : Program} {e : Env} {s : State} {m : MethodId} {below : List Frame} {meth : Method} {c : Code} (hC : th_C D cs (mo_h o A h S) p m c cX4_markHeld 4 s [.ref o] RX4) (hr : meth.sig.returnType = some .int) (hlk : meth.locks = false) (htab : ∀ x ∈ c.exceptionTable.toList, False) (kk : ∀ (H : Heap) (locs : List Loc) (ls : Array Slot), th_H D cs (mo_h o A h S) s (mo_h o A h (sw S 6 g)) H locs → lv_has ls 4 [(0, .ref o), (1, .int (nI (mo_hc g 80))), (2, .int (nI a))] → W p l e { frames := 2, cells := 0, slots := 0, locals := 44 } s m [.ref o].toArray below meth c H locs 0 0 (th_Q below D cs (mo_h o A h S) s [.ref o] (fun v h' => ∃ g, mo_hd S u g ∧ v = some (.int (nI (mo_hc g 80))) ∧ h' = mo_h o A h (sw S 6 g)) (fun E h' => False) 0 0) (F0 m 105 ls [])) : ∀ (q : Nat) (i n : Nat) (H : Heap) (locs : List Loc) (ls : Array Slot), (i + q = 80) → (n = mo_hc g i) → th_H D cs (mo_h o A h S) s (mo_h o A h (sw S 6 g)) H locs → lv_has ls 4 [(0, .ref o), (1, .int (nI n)), (2, .int (nI a)), (3, .int (nI i))] → W p l e { frames := 2, cells := 0, slots := 0, locals := 44 } s m [.ref o].toArray below meth c H locs 0 0 (th_Q below D cs (mo_h o A h S) s [.ref o] (fun v h' => ∃ g, mo_hd S u g ∧ v = some (.int (nI (mo_hc g 80))) ∧ h' = mo_h o A h (sw S 6 g)) (fun E h' => False) 0 0) (F0 m 175 ls []) := by
  have hx := hC.1.1
  have hb := hC.1.2.1
  intro q
  induction q with
  | zero =>
    intro i n H locs ls hin hn hM hl
    refine lv_iload_n hx hb dX4_markHeld_175 rfl (lv_at hl 3 rfl) ?_
    refine lv_bipush (v := 80) hx hb dX4_markHeld_176 (by decide) ?_
    refine lv_icmp_ge (tgt := 199) hx hb dX4_markHeld_178 (by decide) (fun c178 => ?_) (fun c178 => ?_)
    · refine lv_goto (tgt := 105) hx hb dX4_markHeld_199 (by decide) ?_
      exact kk H locs ls hM (by rw [show mo_hc g 80 = n from by rw [hn, show i = 80 by omega]]; exact (lv_sub hl [0, 1, 2] rfl))
    · exact absurd (nI_le (a := 80) (show 80 ≤ i by omega) (by omega)) c178
  | succ q ih =>
    intro i n H locs ls hin hn hM hl
    refine lv_iload_n hx hb dX4_markHeld_175 rfl (lv_at hl 3 rfl) ?_
    refine lv_bipush (v := 80) hx hb dX4_markHeld_176 (by decide) ?_
    refine lv_icmp_ge (tgt := 199) hx hb dX4_markHeld_178 (by decide) (fun c178 => ?_) (fun c178 => ?_)
    · exact absurd c178 (nI_ge (b := 80) (by omega) (by decide))
    · refine lv_aload_n hx hb dX4_markHeld_181 rfl (lv_at hl 0 rfl) ?_
      refine gr_10_6 (index := 26) hC hM hK.1 mb_496 dX4_markHeld_182 (hK.r6) ?_
      refine lv_iload_n hx hb dX4_markHeld_185 rfl (lv_at hl 3 rfl) ?_
      refine al_8 (i := i) (n := 80) hC hM hK.k6 (by first | rfl | decide) (by omega) (by decide) dX4_markHeld_186 ?_
      rw [mo_a6 hK]
      rw [show (sw S 6 g).2 6 i = g i from sw_g S 6 g i]
      refine lv_if_eq (tgt := 193) hx hb dX4_markHeld_187 (by decide) (fun c187 => ?_) (fun c187 => ?_)
      · refine lv_iinc (v := nI (i + 1)) (lv' := [(3, .int (nI (i + 1))), (0, .ref o), (1, .int (nI n)), (2, .int (nI a))]) hx hb dX4_markHeld_193 hl (k := 3) rfl (by exact nI_1 i) (by first | decide | omega) rfl (fun ls hl => ?_)
        refine lv_goto (tgt := 175) hx hb dX4_markHeld_196 (by decide) ?_
        exact ih (i + 1) n H locs ls (by omega) (by rw [hn]; exact (ct_n (p := fun r => ¬ g r = 0) (fun q9 => q9 c187)).symm) hM (lv_sub hl [1, 2, 3, 0] rfl)
      · refine lv_iinc (v := nI (n + 1)) (lv' := [(1, .int (nI (n + 1))), (0, .ref o), (2, .int (nI a)), (3, .int (nI i))]) hx hb dX4_markHeld_190 hl (k := 1) rfl (by exact nI_1 n) (by first | decide | omega) rfl (fun ls hl => ?_)
        refine lv_iinc (v := nI (i + 1)) (lv' := [(3, .int (nI (i + 1))), (1, .int (nI (n + 1))), (0, .ref o), (2, .int (nI a))]) hx hb dX4_markHeld_193 hl (k := 3) rfl (by exact nI_1 i) (by first | decide | omega) rfl (fun ls hl => ?_)
        refine lv_goto (tgt := 175) hx hb dX4_markHeld_196 (by decide) ?_
        exact ih (i + 1) (n + 1) H locs ls (by omega) (by rw [hn]; exact (ct_s (p := fun r => ¬ g r = 0) c187).symm) hM (lv_sub hl [2, 1, 3, 0] rfl)

-- the loop at 114 of StableHeapModel.markHeld
set_option maxHeartbeats 4000000 in
set_option maxRecDepth 100000 in
theorem lo_X4_markHeld_114 {l : Launch} (hl0 : l.stackTraces = false) {D : va_G} {cs : Nat → ClassId} {h : th_S} (o : Nat) (A : Nat → Nat) (hK : mo_K o A h) (S : th_N) (u : Nat) (hw : mo_W S u) (g0 : Nat → Int32) (a : Nat) {p : Program} {e : Env} {s : State} {m : MethodId} {below : List Frame} {meth : Method} {c : Code} (hC : th_C D cs (mo_h o A h S) p m c cX4_markHeld 4 s [.ref o] RX4) (hr : meth.sig.returnType = some .int) (hlk : meth.locks = false) (htab : ∀ x ∈ c.exceptionTable.toList, False) (kk : ∀ (g : Nat → Int32) (H : Heap) (locs : List Loc) (ls : Array Slot), mo_cb S u (fun r => ¬ g r = 0) → mo_sd S u g → (∀ r, ¬ g0 r = 0 → ¬ g r = 0) → (∀ c, c < 320 → ¬ g0 (c / 4) = 0 → ¬ S.2 4 c = 0 → ¬ S.2 2 (c / 4) ≤ nI (c % 4) → ∀ r, mo_rw S (S.2 5 c) r → ¬ g r = 0) → th_H D cs (mo_h o A h S) s (mo_h o A h (sw S 6 g)) H locs → lv_has ls 4 [(0, .ref o), (1, .int (nI (mo_hc g 80))), (2, .int (nI a))] → W p l e { frames := 2, cells := 0, slots := 0, locals := 44 } s m [.ref o].toArray below meth c H locs 0 0 (th_Q below D cs (mo_h o A h S) s [.ref o] (fun v h' => ∃ g, mo_hd S u g ∧ v = some (.int (nI (mo_hc g 80))) ∧ h' = mo_h o A h (sw S 6 g)) (fun E h' => False) 0 0) (F0 m 105 ls [])) : ∀ (q : Nat) (i : Nat) (g : Nat → Int32) (H : Heap) (locs : List Loc) (ls : Array Slot), (i + q = 320) → (mo_cb S u (fun r => ¬ g r = 0)) → (mo_sd S u g) → (∀ r, ¬ g0 r = 0 → ¬ g r = 0) → (∀ c, c < i → ¬ g0 (c / 4) = 0 → ¬ S.2 4 c = 0 → ¬ S.2 2 (c / 4) ≤ nI (c % 4) → ∀ r, mo_rw S (S.2 5 c) r → ¬ g r = 0) → th_H D cs (mo_h o A h S) s (mo_h o A h (sw S 6 g)) H locs → lv_has ls 4 [(0, .ref o), (1, .int (nI a)), (2, .int (nI a)), (3, .int (nI i))] → W p l e { frames := 2, cells := 0, slots := 0, locals := 44 } s m [.ref o].toArray below meth c H locs 0 0 (th_Q below D cs (mo_h o A h S) s [.ref o] (fun v h' => ∃ g, mo_hd S u g ∧ v = some (.int (nI (mo_hc g 80))) ∧ h' = mo_h o A h (sw S 6 g)) (fun E h' => False) 0 0) (F0 m 114 ls []) := by
  have hx := hC.1.1
  have hb := hC.1.2.1
  intro q
  induction q with
  | zero =>
    intro i g H locs ls hin hcb hsd hsub hp hM hl
    refine lv_iload_n hx hb dX4_markHeld_114 rfl (lv_at hl 3 rfl) ?_
    refine lv_sipush (v := 320) hx hb dX4_markHeld_115 (by decide) ?_
    refine lv_icmp_ge (tgt := 171) hx hb dX4_markHeld_118 (by decide) (fun c118 => ?_) (fun c118 => ?_)
    · refine lv_iconst (v := 0) hx hb dX4_markHeld_171 (by decide) ?_
      refine lv_istore_n (lv' := [(1, .int 0), (0, .ref o), (2, .int (nI a)), (3, .int (nI i))]) hx hb dX4_markHeld_172 rfl hl (by decide) rfl (fun ls hl => ?_)
      refine lv_iconst (v := 0) hx hb dX4_markHeld_173 (by decide) ?_
      refine lv_istore_n (lv' := [(3, .int 0), (1, .int 0), (0, .ref o), (2, .int (nI a))]) hx hb dX4_markHeld_174 rfl hl (by decide) rfl (fun ls hl => ?_)
      exact lo_X4_markHeld_175 hl0 o A hK S u hw g a hC hr hlk htab (fun H locs ls hM hl => kk g H locs ls hcb hsd hsub (fun c hc => hp c (by omega)) hM hl) 80 0 0 _ _ ls (by omega) rfl hM (lv_sub hl [2, 1, 3, 0] rfl)
    · exact absurd (nI_le (a := 320) (show 320 ≤ i by omega) (by omega)) c118
  | succ q ih =>
    intro i g H locs ls hin hcb hsd hsub hp hM hl
    refine lv_iload_n hx hb dX4_markHeld_114 rfl (lv_at hl 3 rfl) ?_
    refine lv_sipush (v := 320) hx hb dX4_markHeld_115 (by decide) ?_
    refine lv_icmp_ge (tgt := 171) hx hb dX4_markHeld_118 (by decide) (fun c118 => ?_) (fun c118 => ?_)
    · exact absurd c118 (nI_ge (b := 320) (by omega) (by decide))
    · refine lv_aload_n hx hb dX4_markHeld_121 rfl (lv_at hl 0 rfl) ?_
      refine gr_10_6 (index := 26) hC hM hK.1 mb_496 dX4_markHeld_122 (hK.r6) ?_
      refine lv_iload_n hx hb dX4_markHeld_125 rfl (lv_at hl 3 rfl) ?_
      refine lv_iconst (v := 4) hx hb dX4_markHeld_126 (by decide) ?_
      refine lv_idiv hx hb dX4_markHeld_127 (by decide) ?_
      rw [show (nI i) / 4 = nI (i / 4) from nI_div4 (by omega)]
      refine al_8 (i := i / 4) (n := 80) hC hM hK.k6 (by first | rfl | decide) (by omega) (by decide) dX4_markHeld_128 ?_
      rw [mo_a6 hK]
      rw [show (sw S 6 g).2 6 (i / 4) = g (i / 4) from sw_g S 6 g _]
      refine lv_if_eq (tgt := 165) hx hb dX4_markHeld_129 (by decide) (fun c129 => ?_) (fun c129 => ?_)
      · refine lv_iinc (v := nI (i + 1)) (lv' := [(3, .int (nI (i + 1))), (0, .ref o), (1, .int (nI a)), (2, .int (nI a))]) hx hb dX4_markHeld_165 hl (k := 3) rfl (by exact nI_1 i) (by first | decide | omega) rfl (fun ls hl => ?_)
        refine lv_goto (tgt := 114) hx hb dX4_markHeld_168 (by decide) ?_
        exact ih (i + 1) g H locs ls (by omega) hcb hsd hsub (fun c hc z1 z2 z3 r z4 => by
          rcases Nat.lt_or_ge c i with z | z
          · exact hp c z z1 z2 z3 r z4
          · obtain rfl : i = c := by omega
            exact absurd c129 (hsub _ z1)) hM (lv_sub hl [1, 2, 3, 0] rfl)
      · refine lv_aload_n hx hb dX4_markHeld_132 rfl (lv_at hl 0 rfl) ?_
        refine gr_10_4 (index := 19) hC hM hK.1 mb_494 dX4_markHeld_133 (hK.r4) ?_
        refine lv_iload_n hx hb dX4_markHeld_136 rfl (lv_at hl 3 rfl) ?_
        refine al_8 (i := i) (n := 320) hC hM hK.k4 (by first | rfl | decide) (by omega) (by decide) dX4_markHeld_137 ?_
        rw [mo_a4 hK]
        rw [show (sw S 6 g).2 4 i = S.2 4 i from rfl]
        refine lv_if_eq (tgt := 165) hx hb dX4_markHeld_138 (by decide) (fun c138 => ?_) (fun c138 => ?_)
        · refine lv_iinc (v := nI (i + 1)) (lv' := [(3, .int (nI (i + 1))), (0, .ref o), (1, .int (nI a)), (2, .int (nI a))]) hx hb dX4_markHeld_165 hl (k := 3) rfl (by exact nI_1 i) (by first | decide | omega) rfl (fun ls hl => ?_)
          refine lv_goto (tgt := 114) hx hb dX4_markHeld_168 (by decide) ?_
          exact ih (i + 1) g H locs ls (by omega) hcb hsd hsub (fun c hc z1 z2 z3 r z4 => by
            rcases Nat.lt_or_ge c i with z | z
            · exact hp c z z1 z2 z3 r z4
            · obtain rfl : i = c := by omega
              exact absurd c138 z2) hM (lv_sub hl [1, 2, 3, 0] rfl)
        · refine lv_iload_n hx hb dX4_markHeld_141 rfl (lv_at hl 3 rfl) ?_
          refine lv_iconst (v := 4) hx hb dX4_markHeld_142 (by decide) ?_
          refine lv_irem hx hb dX4_markHeld_143 (by decide) ?_
          rw [show (nI i) - (nI i) / 4 * 4 = nI (i % 4) from nI_mod4 (by omega)]
          refine lv_aload_n hx hb dX4_markHeld_144 rfl (lv_at hl 0 rfl) ?_
          refine gr_10_2 (index := 13) hC hM hK.1 mb_492 dX4_markHeld_145 (hK.r2) ?_
          refine lv_iload_n hx hb dX4_markHeld_148 rfl (lv_at hl 3 rfl) ?_
          refine lv_iconst (v := 4) hx hb dX4_markHeld_149 (by decide) ?_
          refine lv_idiv hx hb dX4_markHeld_150 (by decide) ?_
          rw [show (nI i) / 4 = nI (i / 4) from nI_div4 (by omega)]
          refine al_7 (i := i / 4) (n := 80) hC hM hK.k2 (by first | rfl | decide) (by omega) (by decide) dX4_markHeld_151 ?_
          rw [mo_a2 hK]
          rw [show (sw S 6 g).2 2 (i / 4) = S.2 2 (i / 4) from rfl]
          refine lv_icmp_ge (tgt := 165) hx hb dX4_markHeld_152 (by decide) (fun c152 => ?_) (fun c152 => ?_)
          · refine lv_iinc (v := nI (i + 1)) (lv' := [(3, .int (nI (i + 1))), (0, .ref o), (1, .int (nI a)), (2, .int (nI a))]) hx hb dX4_markHeld_165 hl (k := 3) rfl (by exact nI_1 i) (by first | decide | omega) rfl (fun ls hl => ?_)
            refine lv_goto (tgt := 114) hx hb dX4_markHeld_168 (by decide) ?_
            exact ih (i + 1) g H locs ls (by omega) hcb hsd hsub (fun c hc z1 z2 z3 r z4 => by
              rcases Nat.lt_or_ge c i with z | z
              · exact hp c z z1 z2 z3 r z4
              · obtain rfl : i = c := by omega
                exact absurd c152 z3) hM (lv_sub hl [1, 2, 3, 0] rfl)
          · refine lv_aload_n hx hb dX4_markHeld_155 rfl (lv_at hl 0 rfl) ?_
            refine lv_aload_n hx hb dX4_markHeld_156 rfl (lv_at hl 0 rfl) ?_
            refine gr_10_5 (index := 23) hC hM hK.1 mb_495 dX4_markHeld_157 (hK.r5) ?_
            refine lv_iload_n hx hb dX4_markHeld_160 rfl (lv_at hl 3 rfl) ?_
            refine al_7 (i := i) (n := 320) hC hM hK.k5 (by first | rfl | decide) (by omega) (by decide) dX4_markHeld_161 ?_
            rw [mo_a5 hK]
            rw [show (sw S 6 g).2 5 i = S.2 5 i from rfl]
            refine mw_callV (As := [.int (S.2 5 i)]) (rest := []) (n := 1) (C := RX4) (T := TX4) (N := 21) (ci := 4) hC hM (c_X4_hold l hl0 D cs h H.size o A hK (sw S 6 g) (S.2 5 i)) (cwV 1 hC.1.2.2.2.2 (tb_V mb_666 mb_667 mb_34 mb_40 mb_668) rfl rfl rfl (by decide +kernel) ⟨Nat.le_of_ble_eq_true rfl, Nat.le_of_ble_eq_true rfl⟩) (th_at (h := mo_h o A h (sw S 6 g)) hK.1) rfl rfl rfl hl.1 (Nat.le_of_ble_eq_true rfl) dX4_markHeld_162 ⟨Nat.le_of_ble_eq_true rfl, Nat.le_of_ble_eq_true rfl⟩ (fun E ce q9 g9 H locs hp9 hM hce hcv hcl => ?_) (fun v9 g9 H locs hp9 hM => ?_)
            · exact (hp9.elim fun _ h9 => h9.2.elim)
            obtain ⟨h162, rfl, hp9⟩ := hp9
            obtain ⟨rfl, g1, hho, rfl⟩ := hp9
            rw [sw_sw] at hM
            rw [show (sw S 6 g).2 6 = g from sw_e S 6 g] at hho
            have hho : mo_ho S (S.2 5 i) g g1 := hho
            refine W.eq (g2 := F0 m 165 ls []) rfl ?_
            refine lv_iinc (v := nI (i + 1)) (lv' := [(3, .int (nI (i + 1))), (0, .ref o), (1, .int (nI a)), (2, .int (nI a))]) hx hb dX4_markHeld_165 hl (k := 3) rfl (by exact nI_1 i) (by first | decide | omega) rfl (fun ls hl => ?_)
            refine lv_goto (tgt := 114) hx hb dX4_markHeld_168 (by decide) ?_
            exact ih (i + 1) g1 H locs ls (by omega) (hcb.mono hho.1) (hsd.ho hho (fun P p1 p2 r hr => p2 i (by omega) (hsd P p1 p2 (i / 4) (by omega) c129) c138 c152 r hr)) (fun r z => hho.1 r (hsub r z)) (fun c hc z1 z2 z3 r z4 => by
              rcases Nat.lt_or_ge c i with z | z
              · exact hho.1 r (hp c z z1 z2 z3 r z4)
              · obtain rfl : i = c := by omega
                exact hho.2.1 r z4) hM (lv_sub hl [1, 2, 3, 0] rfl)

-- the loop at 105 of StableHeapModel.markHeld
set_option maxHeartbeats 4000000 in
set_option maxRecDepth 100000 in
theorem lo_X4_markHeld_105 {l : Launch} (hl0 : l.stackTraces = false) {D : va_G} {cs : Nat → ClassId} {h : th_S} (o : Nat) (A : Nat → Nat) (hK : mo_K o A h) (S : th_N) (u : Nat) (hw : mo_W S u) {p : Program} {e : Env} {s : State} {m : MethodId} {below : List Frame} {meth : Method} {c : Code} (hC : th_C D cs (mo_h o A h S) p m c cX4_markHeld 4 s [.ref o] RX4) (hr : meth.sig.returnType = some .int) (hlk : meth.locks = false) (htab : ∀ x ∈ c.exceptionTable.toList, False) : ∀ (q : Nat) (a : Nat) (b9 : Int32) (g : Nat → Int32) (H : Heap) (locs : List Loc) (ls : Array Slot), (mo_cb S u (fun r => ¬ g r = 0)) → (mo_sd S u g) → (a ≤ mo_hc g 80) → ((b9 = -1 ∧ 82 ≤ q) ∨ (∃ b, b9 = nI b ∧ b ≤ a ∧ a = mo_hc g 80 ∧ (a = b → mo_cc S (fun r => ¬ g r = 0)) ∧ 81 ≤ q + b)) → th_H D cs (mo_h o A h S) s (mo_h o A h (sw S 6 g)) H locs → lv_has ls 4 [(0, .ref o), (1, .int (nI a)), (2, .int b9)] → W p l e { frames := 2, cells := 0, slots := 0, locals := 44 } s m [.ref o].toArray below meth c H locs 0 0 (th_Q below D cs (mo_h o A h S) s [.ref o] (fun v h' => ∃ g, mo_hd S u g ∧ v = some (.int (nI (mo_hc g 80))) ∧ h' = mo_h o A h (sw S 6 g)) (fun E h' => False) 0 0) (F0 m 105 ls []) := by
  have hx := hC.1.1
  have hb := hC.1.2.1
  intro q
  induction q with
  | zero =>
    intro a b9 g H locs ls hcb hsd ha hab hM hl
    have h80 : mo_hc g 80 ≤ 80 := ct_le _ 80
    exact absurd hab (by
      rintro (⟨-, z⟩ | ⟨b, -, z2, z3, -, z⟩)
      · omega
      · omega)
  | succ q ih =>
    intro a b9 g H locs ls hcb hsd ha hab hM hl
    have h80 : mo_hc g 80 ≤ 80 := ct_le _ 80
    refine lv_iload_n hx hb dX4_markHeld_105 rfl (lv_at hl 1 rfl) ?_
    refine lv_iload_n hx hb dX4_markHeld_106 rfl (lv_at hl 2 rfl) ?_
    refine lv_icmp_eq (tgt := 202) hx hb dX4_markHeld_107 (by decide) (fun c107 => ?_) (fun c107 => ?_)
    · have hab2 : ∃ b, b9 = nI b ∧ b ≤ a ∧ a = mo_hc g 80 ∧ (a = b → mo_cc S (fun r => ¬ g r = 0)) := by
        rcases hab with ⟨z, -⟩ | ⟨b, z1, z2, z3, z4, -⟩
        · rw [z] at c107; exact absurd (show nI a < 0 by rw [c107]; decide) (nI_pos (by omega))
        · exact ⟨b, z1, z2, z3, z4⟩
      obtain ⟨b, rfl, hb1, hb2, hb3⟩ := hab2
      have eab := (nI_eq (by omega) (by omega)).mp c107
      refine lv_iload_n hx hb dX4_markHeld_202 rfl (lv_at hl 1 rfl) ?_
      refine mw_iret hC hM hr hlk dX4_markHeld_203 (Nat.le_of_ble_eq_true rfl) (Nat.le_of_ble_eq_true rfl) ⟨_, rfl, ?_⟩
      exact ⟨g, ⟨hcb, hb3 eab, hsd⟩, by rw [hb2], rfl⟩
    · refine lv_iload_n hx hb dX4_markHeld_110 rfl (lv_at hl 1 rfl) ?_
      refine lv_istore_n (lv' := [(2, .int (nI a)), (0, .ref o), (1, .int (nI a))]) hx hb dX4_markHeld_111 rfl hl (by decide) rfl (fun ls hl => ?_)
      refine lv_iconst (v := 0) hx hb dX4_markHeld_112 (by decide) ?_
      refine lv_istore_n (lv' := [(3, .int 0), (2, .int (nI a)), (0, .ref o), (1, .int (nI a))]) hx hb dX4_markHeld_113 rfl hl (by decide) rfl (fun ls hl => ?_)
      have hnx : 81 ≤ q + a := by
        rcases hab with ⟨-, z⟩ | ⟨b, z1, z2, -, -, z⟩
        · omega
        · have : a ≠ b := fun z9 => c107 (by rw [z1, z9])
          omega
      exact lo_X4_markHeld_114 hl0 o A hK S u hw g a hC hr hlk htab (fun g1 H locs ls z1 z2 z3 z4 hM hl => ih (mo_hc g1 80) (nI a) g1 H locs ls z1 z2 (Nat.le_refl _) (Or.inr ⟨a, rfl, Nat.le_trans ha (ct_mono 80 (fun r _ z => z3 r z)), rfl, fun z => mo_cl_of ha z3 z4 z, hnx⟩) hM hl) 320 0 g _ _ ls (by omega) hcb hsd (fun r z => z) (fun c hc => absurd hc (Nat.not_lt_zero c)) hM (lv_sub hl [2, 3, 1, 0] rfl)

-- the loop at 68 of StableHeapModel.markHeld
set_option maxHeartbeats 4000000 in
set_option maxRecDepth 100000 in
theorem lo_X4_markHeld_68 {l : Launch} (hl0 : l.stackTraces = false) {D : va_G} {cs : Nat → ClassId} {h : th_S} (o : Nat) (A : Nat → Nat) (hK : mo_K o A h) (S : th_N) (u : Nat) (hw : mo_W S u) {p : Program} {e : Env} {s : State} {m : MethodId} {below : List Frame} {meth : Method} {c : Code} (hC : th_C D cs (mo_h o A h S) p m c cX4_markHeld 4 s [.ref o] RX4) (hr : meth.sig.returnType = some .int) (hlk : meth.locks = false) (htab : ∀ x ∈ c.exceptionTable.toList, False) : ∀ (q : Nat) (i : Nat) (g : Nat → Int32) (H : Heap) (locs : List Loc) (ls : Array Slot), (i + q = u) → (∀ r, r < 80 → ¬ S.2 1 r ≤ 0 → ¬ S.2 3 r ≤ 0 → ¬ g r = 0) → (∀ k, k < 4 → ∀ r, mo_rw S (S.2 7 k) r → ¬ g r = 0) → (∀ k, k < i → ¬ S.2 18 k = 0 → ∀ r, mo_rw S (S.2 19 k) r → ¬ g r = 0) → (mo_sd S u g) → th_H D cs (mo_h o A h S) s (mo_h o A h (sw S 6 g)) H locs → lv_has ls 4 [(0, .ref o), (1, .int (nI i))] → W p l e { frames := 2, cells := 0, slots := 0, locals := 44 } s m [.ref o].toArray below meth c H locs 0 0 (th_Q below D cs (mo_h o A h S) s [.ref o] (fun v h' => ∃ g, mo_hd S u g ∧ v = some (.int (nI (mo_hc g 80))) ∧ h' = mo_h o A h (sw S 6 g)) (fun E h' => False) 0 0) (F0 m 68 ls []) := by
  have hx := hC.1.1
  have hb := hC.1.2.1
  intro q
  induction q with
  | zero =>
    intro i g H locs ls hin hg1 hg2 hg3 hsd hM hl
    have hu6 := hw.2.1
    refine lv_iload_n hx hb dX4_markHeld_68 rfl (lv_at hl 1 rfl) ?_
    refine lv_aload_n hx hb dX4_markHeld_69 rfl (lv_at hl 0 rfl) ?_
    refine gi_10_20 (index := 90) hC hM hK.1 mb_510 dX4_markHeld_70 ?_
    rw [mo_i]
    rw [show (sw S 6 g).1 20 = nI u from hw.1]
    refine lv_icmp_ge (tgt := 101) hx hb dX4_markHeld_73 (by decide) (fun c73 => ?_) (fun c73 => ?_)
    · refine lv_iconst (v := 0) hx hb dX4_markHeld_101 (by decide) ?_
      refine lv_istore_n (lv' := [(1, .int 0), (0, .ref o)]) hx hb dX4_markHeld_102 rfl hl (by decide) rfl (fun ls hl => ?_)
      refine lv_iconst (v := (-1)) hx hb dX4_markHeld_103 (by decide) ?_
      refine lv_istore_n (lv' := [(2, .int (-1)), (1, .int 0), (0, .ref o)]) hx hb dX4_markHeld_104 rfl hl (by decide) rfl (fun ls hl => ?_)
      exact lo_X4_markHeld_105 hl0 o A hK S u hw hC hr hlk htab 82 0 (-1) g _ _ ls ⟨hg1, hg2, fun k hk => hg3 k (by omega)⟩ hsd (Nat.zero_le _) (Or.inl ⟨rfl, Nat.le_refl _⟩) hM (lv_sub hl [2, 1, 0] rfl)
    · exact absurd (nI_le (show u ≤ i by omega) (by omega)) c73
  | succ q ih =>
    intro i g H locs ls hin hg1 hg2 hg3 hsd hM hl
    have hu6 := hw.2.1
    refine lv_iload_n hx hb dX4_markHeld_68 rfl (lv_at hl 1 rfl) ?_
    refine lv_aload_n hx hb dX4_markHeld_69 rfl (lv_at hl 0 rfl) ?_
    refine gi_10_20 (index := 90) hC hM hK.1 mb_510 dX4_markHeld_70 ?_
    rw [mo_i]
    rw [show (sw S 6 g).1 20 = nI u from hw.1]
    refine lv_icmp_ge (tgt := 101) hx hb dX4_markHeld_73 (by decide) (fun c73 => ?_) (fun c73 => ?_)
    · exact absurd c73 (nI_ge (by omega) (by omega))
    · refine lv_aload_n hx hb dX4_markHeld_76 rfl (lv_at hl 0 rfl) ?_
      refine gr_10_18 (index := 47) hC hM hK.1 mb_508 dX4_markHeld_77 (hK.r18) ?_
      refine lv_iload_n hx hb dX4_markHeld_80 rfl (lv_at hl 1 rfl) ?_
      refine al_8 (i := i) (n := 60) hC hM hK.k18 (by first | rfl | decide) (by omega) (by decide) dX4_markHeld_81 ?_
      rw [mo_a18 hK]
      rw [show (sw S 6 g).2 18 i = S.2 18 i from rfl]
      refine lv_if_eq (tgt := 95) hx hb dX4_markHeld_82 (by decide) (fun c82 => ?_) (fun c82 => ?_)
      · refine lv_iinc (v := nI (i + 1)) (lv' := [(1, .int (nI (i + 1))), (0, .ref o)]) hx hb dX4_markHeld_95 hl (k := 1) rfl (by exact nI_1 i) (by first | decide | omega) rfl (fun ls hl => ?_)
        refine lv_goto (tgt := 68) hx hb dX4_markHeld_98 (by decide) ?_
        exact ih (i + 1) g H locs ls (by omega) hg1 hg2 (fun k hk z1 r z4 => by
          rcases Nat.lt_or_ge k i with z | z
          · exact hg3 k z z1 r z4
          · obtain rfl : i = k := by omega
            exact absurd c82 z1) hsd hM (lv_sub hl [1, 0] rfl)
      · refine lv_aload_n hx hb dX4_markHeld_85 rfl (lv_at hl 0 rfl) ?_
        refine lv_aload_n hx hb dX4_markHeld_86 rfl (lv_at hl 0 rfl) ?_
        refine gr_10_19 (index := 50) hC hM hK.1 mb_509 dX4_markHeld_87 (hK.r19) ?_
        refine lv_iload_n hx hb dX4_markHeld_90 rfl (lv_at hl 1 rfl) ?_
        refine al_7 (i := i) (n := 60) hC hM hK.k19 (by first | rfl | decide) (by omega) (by decide) dX4_markHeld_91 ?_
        rw [mo_a19 hK]
        rw [show (sw S 6 g).2 19 i = S.2 19 i from rfl]
        refine mw_callV (As := [.int (S.2 19 i)]) (rest := []) (n := 1) (C := RX4) (T := TX4) (N := 21) (ci := 4) hC hM (c_X4_hold l hl0 D cs h H.size o A hK (sw S 6 g) (S.2 19 i)) (cwV 1 hC.1.2.2.2.2 (tb_V mb_666 mb_667 mb_34 mb_40 mb_668) rfl rfl rfl (by decide +kernel) ⟨Nat.le_of_ble_eq_true rfl, Nat.le_of_ble_eq_true rfl⟩) (th_at (h := mo_h o A h (sw S 6 g)) hK.1) rfl rfl rfl hl.1 (Nat.le_of_ble_eq_true rfl) dX4_markHeld_92 ⟨Nat.le_of_ble_eq_true rfl, Nat.le_of_ble_eq_true rfl⟩ (fun E ce q9 g9 H locs hp9 hM hce hcv hcl => ?_) (fun v9 g9 H locs hp9 hM => ?_)
        · exact (hp9.elim fun _ h9 => h9.2.elim)
        obtain ⟨h92, rfl, hp9⟩ := hp9
        obtain ⟨rfl, g1, hho, rfl⟩ := hp9
        rw [sw_sw] at hM
        rw [show (sw S 6 g).2 6 = g from sw_e S 6 g] at hho
        have hho : mo_ho S (S.2 19 i) g g1 := hho
        refine W.eq (g2 := F0 m 95 ls []) rfl ?_
        refine lv_iinc (v := nI (i + 1)) (lv' := [(1, .int (nI (i + 1))), (0, .ref o)]) hx hb dX4_markHeld_95 hl (k := 1) rfl (by exact nI_1 i) (by first | decide | omega) rfl (fun ls hl => ?_)
        refine lv_goto (tgt := 68) hx hb dX4_markHeld_98 (by decide) ?_
        exact ih (i + 1) g1 H locs ls (by omega) (fun r z1 z2 z3 => hho.1 r (hg1 r z1 z2 z3)) (fun k z1 r z2 => hho.1 r (hg2 k z1 r z2)) (fun k hk z1 r z4 => by
          rcases Nat.lt_or_ge k i with z | z
          · exact hho.1 r (hg3 k z z1 r z4)
          · obtain rfl : i = k := by omega
            exact hho.2.1 r z4) (hsd.ho hho (fun P p1 p2 r hr => p1.2.2 i (by omega) c82 r hr)) hM (lv_sub hl [1, 0] rfl)

-- the loop at 45 of StableHeapModel.markHeld
set_option maxHeartbeats 4000000 in
set_option maxRecDepth 100000 in
theorem lo_X4_markHeld_45 {l : Launch} (hl0 : l.stackTraces = false) {D : va_G} {cs : Nat → ClassId} {h : th_S} (o : Nat) (A : Nat → Nat) (hK : mo_K o A h) (S : th_N) (u : Nat) (hw : mo_W S u) {p : Program} {e : Env} {s : State} {m : MethodId} {below : List Frame} {meth : Method} {c : Code} (hC : th_C D cs (mo_h o A h S) p m c cX4_markHeld 4 s [.ref o] RX4) (hr : meth.sig.returnType = some .int) (hlk : meth.locks = false) (htab : ∀ x ∈ c.exceptionTable.toList, False) : ∀ (q : Nat) (i : Nat) (g : Nat → Int32) (H : Heap) (locs : List Loc) (ls : Array Slot), (i + q = 4) → (∀ r, r < 80 → ¬ S.2 1 r ≤ 0 → ¬ S.2 3 r ≤ 0 → ¬ g r = 0) → (∀ k, k < i → ∀ r, mo_rw S (S.2 7 k) r → ¬ g r = 0) → (mo_sd S u g) → th_H D cs (mo_h o A h S) s (mo_h o A h (sw S 6 g)) H locs → lv_has ls 4 [(0, .ref o), (1, .int (nI i))] → W p l e { frames := 2, cells := 0, slots := 0, locals := 44 } s m [.ref o].toArray below meth c H locs 0 0 (th_Q below D cs (mo_h o A h S) s [.ref o] (fun v h' => ∃ g, mo_hd S u g ∧ v = some (.int (nI (mo_hc g 80))) ∧ h' = mo_h o A h (sw S 6 g)) (fun E h' => False) 0 0) (F0 m 45 ls []) := by
  have hx := hC.1.1
  have hb := hC.1.2.1
  intro q
  induction q with
  | zero =>
    intro i g H locs ls hin hg1 hg2 hsd hM hl
    refine lv_iload_n hx hb dX4_markHeld_45 rfl (lv_at hl 1 rfl) ?_
    refine lv_iconst (v := 4) hx hb dX4_markHeld_46 (by decide) ?_
    refine lv_icmp_ge (tgt := 66) hx hb dX4_markHeld_47 (by decide) (fun c47 => ?_) (fun c47 => ?_)
    · refine lv_iconst (v := 0) hx hb dX4_markHeld_66 (by decide) ?_
      refine lv_istore_n (lv' := [(1, .int 0), (0, .ref o)]) hx hb dX4_markHeld_67 rfl hl (by decide) rfl (fun ls hl => ?_)
      exact lo_X4_markHeld_68 hl0 o A hK S u hw hC hr hlk htab u 0 g _ _ ls (by omega) hg1 (fun k hk => hg2 k (by omega)) (fun k hk => absurd hk (Nat.not_lt_zero k)) hsd hM (lv_sub hl [1, 0] rfl)
    · exact absurd (nI_le (a := 4) (show 4 ≤ i by omega) (by omega)) c47
  | succ q ih =>
    intro i g H locs ls hin hg1 hg2 hsd hM hl
    refine lv_iload_n hx hb dX4_markHeld_45 rfl (lv_at hl 1 rfl) ?_
    refine lv_iconst (v := 4) hx hb dX4_markHeld_46 (by decide) ?_
    refine lv_icmp_ge (tgt := 66) hx hb dX4_markHeld_47 (by decide) (fun c47 => ?_) (fun c47 => ?_)
    · exact absurd c47 (nI_ge (b := 4) (by omega) (by decide))
    · refine lv_aload_n hx hb dX4_markHeld_50 rfl (lv_at hl 0 rfl) ?_
      refine lv_aload_n hx hb dX4_markHeld_51 rfl (lv_at hl 0 rfl) ?_
      refine gr_10_7 (index := 29) hC hM hK.1 mb_497 dX4_markHeld_52 (hK.r7) ?_
      refine lv_iload_n hx hb dX4_markHeld_55 rfl (lv_at hl 1 rfl) ?_
      refine al_7 (i := i) (n := 4) hC hM hK.k7 (by first | rfl | decide) (by omega) (by decide) dX4_markHeld_56 ?_
      rw [mo_a7 hK]
      rw [show (sw S 6 g).2 7 i = S.2 7 i from rfl]
      refine mw_callV (As := [.int (S.2 7 i)]) (rest := []) (n := 1) (C := RX4) (T := TX4) (N := 21) (ci := 4) hC hM (c_X4_hold l hl0 D cs h H.size o A hK (sw S 6 g) (S.2 7 i)) (cwV 1 hC.1.2.2.2.2 (tb_V mb_666 mb_667 mb_34 mb_40 mb_668) rfl rfl rfl (by decide +kernel) ⟨Nat.le_of_ble_eq_true rfl, Nat.le_of_ble_eq_true rfl⟩) (th_at (h := mo_h o A h (sw S 6 g)) hK.1) rfl rfl rfl hl.1 (Nat.le_of_ble_eq_true rfl) dX4_markHeld_57 ⟨Nat.le_of_ble_eq_true rfl, Nat.le_of_ble_eq_true rfl⟩ (fun E ce q9 g9 H locs hp9 hM hce hcv hcl => ?_) (fun v9 g9 H locs hp9 hM => ?_)
      · exact (hp9.elim fun _ h9 => h9.2.elim)
      obtain ⟨h57, rfl, hp9⟩ := hp9
      obtain ⟨rfl, g1, hho, rfl⟩ := hp9
      rw [sw_sw] at hM
      rw [show (sw S 6 g).2 6 = g from sw_e S 6 g] at hho
      have hho : mo_ho S (S.2 7 i) g g1 := hho
      refine W.eq (g2 := F0 m 60 ls []) rfl ?_
      refine lv_iinc (v := nI (i + 1)) (lv' := [(1, .int (nI (i + 1))), (0, .ref o)]) hx hb dX4_markHeld_60 hl (k := 1) rfl (by exact nI_1 i) (by first | decide | omega) rfl (fun ls hl => ?_)
      refine lv_goto (tgt := 45) hx hb dX4_markHeld_63 (by decide) ?_
      exact ih (i + 1) g1 H locs ls (by omega) (fun r z1 z2 z3 => hho.1 r (hg1 r z1 z2 z3)) (fun k hk r z4 => by
        rcases Nat.lt_or_ge k i with z | z
        · exact hho.1 r (hg2 k z r z4)
        · obtain rfl : i = k := by omega
          exact hho.2.1 r z4) (hsd.ho hho (fun P p1 p2 r hr => p1.2.1 i (by omega) r hr)) hM (lv_sub hl [1, 0] rfl)

-- the loop at 2 of StableHeapModel.markHeld
set_option maxHeartbeats 4000000 in
set_option maxRecDepth 100000 in
theorem lo_X4_markHeld_2 {l : Launch} (hl0 : l.stackTraces = false) {D : va_G} {cs : Nat → ClassId} {h : th_S} (o : Nat) (A : Nat → Nat) (hK : mo_K o A h) (S : th_N) (u : Nat) (hw : mo_W S u) {p : Program} {e : Env} {s : State} {m : MethodId} {below : List Frame} {meth : Method} {c : Code} (hC : th_C D cs (mo_h o A h S) p m c cX4_markHeld 4 s [.ref o] RX4) (hr : meth.sig.returnType = some .int) (hlk : meth.locks = false) (htab : ∀ x ∈ c.exceptionTable.toList, False) : ∀ (q : Nat) (i : Nat) (g : Nat → Int32) (H : Heap) (locs : List Loc) (ls : Array Slot), (i + q = 80) → (∀ r, r < i → (¬ g r = 0 ↔ (¬ S.2 1 r ≤ 0 ∧ ¬ S.2 3 r ≤ 0))) → th_H D cs (mo_h o A h S) s (mo_h o A h (sw S 6 g)) H locs → lv_has ls 4 [(0, .ref o), (1, .int (nI i))] → W p l e { frames := 2, cells := 0, slots := 0, locals := 44 } s m [.ref o].toArray below meth c H locs 0 0 (th_Q below D cs (mo_h o A h S) s [.ref o] (fun v h' => ∃ g, mo_hd S u g ∧ v = some (.int (nI (mo_hc g 80))) ∧ h' = mo_h o A h (sw S 6 g)) (fun E h' => False) 0 0) (F0 m 2 ls []) := by
  have hx := hC.1.1
  have hb := hC.1.2.1
  intro q
  induction q with
  | zero =>
    intro i g H locs ls hin hg hM hl
    refine lv_iload_n hx hb dX4_markHeld_2 rfl (lv_at hl 1 rfl) ?_
    refine lv_bipush (v := 80) hx hb dX4_markHeld_3 (by decide) ?_
    refine lv_icmp_ge (tgt := 43) hx hb dX4_markHeld_5 (by decide) (fun c5 => ?_) (fun c5 => ?_)
    · refine lv_iconst (v := 0) hx hb dX4_markHeld_43 (by decide) ?_
      refine lv_istore_n (lv' := [(1, .int 0), (0, .ref o)]) hx hb dX4_markHeld_44 rfl hl (by decide) rfl (fun ls hl => ?_)
      exact lo_X4_markHeld_45 hl0 o A hK S u hw hC hr hlk htab 4 0 g _ _ ls (by omega) (fun r z1 z2 z3 => (hg r (by omega)).mpr ⟨z2, z3⟩) (fun k hk => absurd hk (Nat.not_lt_zero k)) (fun P p1 p2 r hr z => p1.1 r hr ((hg r (by omega)).mp z).1 ((hg r (by omega)).mp z).2) hM (lv_sub hl [1, 0] rfl)
    · exact absurd (nI_le (a := 80) (show 80 ≤ i by omega) (by omega)) c5
  | succ q ih =>
    intro i g H locs ls hin hg hM hl
    refine lv_iload_n hx hb dX4_markHeld_2 rfl (lv_at hl 1 rfl) ?_
    refine lv_bipush (v := 80) hx hb dX4_markHeld_3 (by decide) ?_
    refine lv_icmp_ge (tgt := 43) hx hb dX4_markHeld_5 (by decide) (fun c5 => ?_) (fun c5 => ?_)
    · exact absurd c5 (nI_ge (b := 80) (by omega) (by decide))
    · refine lv_aload_n hx hb dX4_markHeld_8 rfl (lv_at hl 0 rfl) ?_
      refine gr_10_6 (index := 26) hC hM hK.1 mb_496 dX4_markHeld_9 (hK.r6) ?_
      refine lv_iload_n hx hb dX4_markHeld_12 rfl (lv_at hl 1 rfl) ?_
      refine lv_aload_n hx hb dX4_markHeld_13 rfl (lv_at hl 0 rfl) ?_
      refine gr_10_1 (index := 7) hC hM hK.1 mb_491 dX4_markHeld_14 (hK.r1) ?_
      refine lv_iload_n hx hb dX4_markHeld_17 rfl (lv_at hl 1 rfl) ?_
      refine al_7 (i := i) (n := 80) hC hM hK.k1 (by first | rfl | decide) (by omega) (by decide) dX4_markHeld_18 ?_
      rw [mo_a1 hK]
      rw [show (sw S 6 g).2 1 i = S.2 1 i from rfl]
      refine lv_if_le (tgt := 35) hx hb dX4_markHeld_19 (by decide) (fun c19 => ?_) (fun c19 => ?_)
      · refine lv_iconst (v := 0) hx hb dX4_markHeld_35 (by decide) ?_
        refine as_8 (i := i) (v := 0) (n := 80) hC hM hK.k6 (by first | rfl | decide) (by omega) (by decide) (by first | exact Or.inl rfl | exact Or.inr rfl) dX4_markHeld_36 (fun H locs hM => ?_)
        rw [mo_u6 hK] at hM
        refine lv_iinc (v := nI (i + 1)) (lv' := [(1, .int (nI (i + 1))), (0, .ref o)]) hx hb dX4_markHeld_37 hl (k := 1) rfl (by exact nI_1 i) (by first | decide | omega) rfl (fun ls hl => ?_)
        refine lv_goto (tgt := 2) hx hb dX4_markHeld_40 (by decide) ?_
        rw [sw_sa] at hM
        exact ih (i + 1) (va_up g i 0) H locs ls (by omega) (fun r hr => by
          by_cases e : r = i
          · rw [e, va_up_self]; exact ⟨fun z9 => absurd rfl z9, fun z9 => absurd c19 z9.1⟩
          · rw [va_up_ne _ _ e]; exact hg r (by omega)) hM (lv_sub hl [1, 0] rfl)
      · refine lv_aload_n hx hb dX4_markHeld_22 rfl (lv_at hl 0 rfl) ?_
        refine gr_10_3 (index := 16) hC hM hK.1 mb_493 dX4_markHeld_23 (hK.r3) ?_
        refine lv_iload_n hx hb dX4_markHeld_26 rfl (lv_at hl 1 rfl) ?_
        refine al_7 (i := i) (n := 80) hC hM hK.k3 (by first | rfl | decide) (by omega) (by decide) dX4_markHeld_27 ?_
        rw [mo_a3 hK]
        rw [show (sw S 6 g).2 3 i = S.2 3 i from rfl]
        refine lv_if_le (tgt := 35) hx hb dX4_markHeld_28 (by decide) (fun c28 => ?_) (fun c28 => ?_)
        · refine lv_iconst (v := 0) hx hb dX4_markHeld_35 (by decide) ?_
          refine as_8 (i := i) (v := 0) (n := 80) hC hM hK.k6 (by first | rfl | decide) (by omega) (by decide) (by first | exact Or.inl rfl | exact Or.inr rfl) dX4_markHeld_36 (fun H locs hM => ?_)
          rw [mo_u6 hK] at hM
          refine lv_iinc (v := nI (i + 1)) (lv' := [(1, .int (nI (i + 1))), (0, .ref o)]) hx hb dX4_markHeld_37 hl (k := 1) rfl (by exact nI_1 i) (by first | decide | omega) rfl (fun ls hl => ?_)
          refine lv_goto (tgt := 2) hx hb dX4_markHeld_40 (by decide) ?_
          rw [sw_sa] at hM
          exact ih (i + 1) (va_up g i 0) H locs ls (by omega) (fun r hr => by
            by_cases e : r = i
            · rw [e, va_up_self]; exact ⟨fun z9 => absurd rfl z9, fun z9 => absurd c28 z9.2⟩
            · rw [va_up_ne _ _ e]; exact hg r (by omega)) hM (lv_sub hl [1, 0] rfl)
        · refine lv_iconst (v := 1) hx hb dX4_markHeld_31 (by decide) ?_
          refine lv_goto (tgt := 36) hx hb dX4_markHeld_32 (by decide) ?_
          refine as_8 (i := i) (v := 1) (n := 80) hC hM hK.k6 (by first | rfl | decide) (by omega) (by decide) (by first | exact Or.inl rfl | exact Or.inr rfl) dX4_markHeld_36 (fun H locs hM => ?_)
          rw [mo_u6 hK] at hM
          refine lv_iinc (v := nI (i + 1)) (lv' := [(1, .int (nI (i + 1))), (0, .ref o)]) hx hb dX4_markHeld_37 hl (k := 1) rfl (by exact nI_1 i) (by first | decide | omega) rfl (fun ls hl => ?_)
          refine lv_goto (tgt := 2) hx hb dX4_markHeld_40 (by decide) ?_
          rw [sw_sa] at hM
          exact ih (i + 1) (va_up g i 1) H locs ls (by omega) (fun r hr => by
            by_cases e : r = i
            · rw [e, va_up_self]; exact ⟨fun _ => ⟨c19, c28⟩, fun _ => by decide⟩
            · rw [va_up_ne _ _ e]; exact hg r (by omega)) hM (lv_sub hl [1, 0] rfl)

-- StableHeapModel.markHeld
set_option maxHeartbeats 4000000 in
set_option maxRecDepth 100000 in
theorem c_X4_markHeld (l : Launch) (hl0 : l.stackTraces = false) (D : va_G) (cs : Nat → ClassId) (h : th_S) (sz : Nat) (o : Nat) (A : Nat → Nat) (hK : mo_K o A h) (S : th_N) (u : Nat) (hw : mo_W S u) : th_M l yX4_markHeld wsX4_markHeld { frames := 2, cells := 0, slots := 0, locals := 44 } D cs (mo_h o A h S) sz [.ref o] (fun v h' => ∃ g, mo_hd S u g ∧ v = some (.int (nI (mo_hc g 80))) ∧ h' = mo_h o A h (sw S 6 g)) (fun E h' => False) := by
  refine mw_ofW (cc := cX4_markHeld) (maxL := 4) (ret := (some .int)) (by decide) rfl (fun w h => List.mem_cons_of_mem _ h) th_cd (Nat.le_of_ble_eq_true rfl) ?_
  intro p e s m below meth c hsz hC hr hlk hnm htab hM ls hl
  have hC : th_C D cs (mo_h o A h S) p m c cX4_markHeld 4 s [.ref o] RX4 := hC
  have hx := hC.1.1
  have hb := hC.1.2.1
  have hl : lv_has ls 4 [(0, .ref o)] := hl
  refine lv_iconst (v := 0) hx hb dX4_markHeld_0 (by decide) ?_
  refine lv_istore_n (lv' := [(1, .int 0), (0, .ref o)]) hx hb dX4_markHeld_1 rfl hl (by decide) rfl (fun ls hl => ?_)
  exact lo_X4_markHeld_2 hl0 o A hK S u hw hC hr hlk htab 80 0 (S.2 6) _ _ ls (by omega) (fun r hr => absurd hr (Nat.not_lt_zero r)) (by rw [sw_self]; exact hM) (lv_sub hl [1, 0] rfl)

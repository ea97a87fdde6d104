-- the loop at 50 of StableHeapModel.unlock
set_option maxHeartbeats 4000000 in
set_option maxRecDepth 100000 in
theorem lo_X4_unlock_50 {l : Launch} (hl0 : l.stackTraces = false) {D : va_G} {cs : Nat → ClassId} {h : th_S} (o : Nat) (A : Nat → Nat) (hK : mo_K o A h) (S : th_N) (t : Int32) {p : Program} {e : Env} {s : State} {m : MethodId} {below : List Frame} {meth : Method} {c : Code} (hC : th_C D cs (mo_h o A h S) p m c cX4_unlock 4 s [.ref o, .int t] RX4) (hr : meth.sig.returnType = some .int) (hlk : meth.locks = false) (htab : ∀ x ∈ c.exceptionTable.toList, False) : ∀ (q : Nat) (i n : Nat) (H : Heap) (locs : List Loc) (ls : Array Slot), (i + q = 4) → (n = ct (mo_ul1 S t) 80 + ct (mo_ul2 S t) i) → th_H D cs (mo_h o A h S) s (mo_h o A h (mo_un S t 80 i)) H locs → lv_has ls 4 [(0, .ref o), (1, .int t), (2, .int (nI n)), (3, .int (nI i))] → W p l e { frames := 0, cells := 0, slots := 0, locals := 0 } s m [.ref o, .int t].toArray below meth c H locs 0 0 (th_Q below D cs (mo_h o A h S) s [.ref o, .int t] (fun v h' => v = some (.int (nI (mo_uc S t))) ∧ h' = mo_h o A h (mo_un S t 80 4)) (fun E h' => False) 0 0) (F0 m 50 ls []) := by
  have hx := hC.1.1
  have hb := hC.1.2.1
  intro q
  induction q with
  | zero =>
    intro i n H locs ls hin hn hM hl
    refine lv_iload_n hx hb dX4_unlock_50 rfl (lv_at hl 3 rfl) ?_
    refine lv_iconst (v := 4) hx hb dX4_unlock_51 (by decide) ?_
    refine lv_icmp_ge (tgt := 84) hx hb dX4_unlock_52 (by decide) (fun c52 => ?_) (fun c52 => ?_)
    · refine lv_iload_n hx hb dX4_unlock_84 rfl (lv_at hl 2 rfl) ?_
      refine mw_iret hC hM hr hlk dX4_unlock_85 (Nat.le_of_ble_eq_true rfl) (Nat.le_of_ble_eq_true rfl) ⟨_, rfl, ?_⟩
      obtain rfl : i = 4 := by omega
      exact ⟨by rw [hn]; rfl, rfl⟩
    · exact absurd (nI_le (a := 4) (show 4 ≤ i by omega) (by omega)) c52
  | succ q ih =>
    intro i n H locs ls hin hn hM hl
    refine lv_iload_n hx hb dX4_unlock_50 rfl (lv_at hl 3 rfl) ?_
    refine lv_iconst (v := 4) hx hb dX4_unlock_51 (by decide) ?_
    refine lv_icmp_ge (tgt := 84) hx hb dX4_unlock_52 (by decide) (fun c52 => ?_) (fun c52 => ?_)
    · exact absurd c52 (nI_ge (b := 4) (by omega) (by decide))
    · refine lv_aload_n hx hb dX4_unlock_55 rfl (lv_at hl 0 rfl) ?_
      refine gr_10_8 (index := 32) hC hM hK.1 mb_498 dX4_unlock_56 (hK.r8) ?_
      refine lv_iload_n hx hb dX4_unlock_59 rfl (lv_at hl 3 rfl) ?_
      refine al_7 (i := i) (n := 4) hC hM hK.k8 (by first | rfl | decide) (by omega) (by decide) dX4_unlock_60 ?_
      rw [mo_a8 hK]
      rw [show (mo_un S t 80 i).2 8 i = S.2 8 i from mo_un_rk S t 80 i]
      refine lv_iload_n hx hb dX4_unlock_61 rfl (lv_at hl 1 rfl) ?_
      refine lv_icmp_eq (tgt := 68) hx hb dX4_unlock_62 (by decide) (fun c62 => ?_) (fun c62 => ?_)
      · refine lv_aload_n hx hb dX4_unlock_68 rfl (lv_at hl 0 rfl) ?_
        refine gr_10_8 (index := 32) hC hM hK.1 mb_498 dX4_unlock_69 (hK.r8) ?_
        refine lv_iload_n hx hb dX4_unlock_72 rfl (lv_at hl 3 rfl) ?_
        refine lv_iconst (v := 0) hx hb dX4_unlock_73 (by decide) ?_
        refine as_7 (i := i) (v := 0) (n := 4) hC hM hK.k8 (by first | rfl | decide) (by omega) (by decide) dX4_unlock_74 (fun H locs hM => ?_)
        rw [mo_u8 hK] at hM
        refine lv_iinc (v := nI (n + 1)) (lv' := [(2, .int (nI (n + 1))), (0, .ref o), (1, .int t), (3, .int (nI i))]) hx hb dX4_unlock_75 hl (k := 2) rfl (by exact nI_1 n) (by first | decide | omega) rfl (fun ls hl => ?_)
        refine lv_iinc (v := nI (i + 1)) (lv' := [(3, .int (nI (i + 1))), (2, .int (nI (n + 1))), (0, .ref o), (1, .int t)]) hx hb dX4_unlock_78 hl (k := 3) rfl (by exact nI_1 i) (by first | decide | omega) rfl (fun ls hl => ?_)
        refine lv_goto (tgt := 50) hx hb dX4_unlock_81 (by decide) ?_
        rw [mo_un_s2 S t (show mo_ul2 S t i from c62)] at hM
        exact ih (i + 1) (n + 1) H locs ls (by omega) (by rw [hn, ct_s (show mo_ul2 S t i from c62)]; rfl) hM (lv_sub hl [2, 3, 1, 0] rfl)
      · refine lv_goto (tgt := 78) hx hb dX4_unlock_65 (by decide) ?_
        refine lv_iinc (v := nI (i + 1)) (lv' := [(3, .int (nI (i + 1))), (0, .ref o), (1, .int t), (2, .int (nI n))]) hx hb dX4_unlock_78 hl (k := 3) rfl (by exact nI_1 i) (by first | decide | omega) rfl (fun ls hl => ?_)
        refine lv_goto (tgt := 50) hx hb dX4_unlock_81 (by decide) ?_
        rw [mo_un_n2 S t (show ¬ mo_ul2 S t i from c62)] at hM
        exact ih (i + 1) n H locs ls (by omega) (by rw [hn, ct_n (show ¬ mo_ul2 S t i from c62)]) hM (lv_sub hl [1, 2, 3, 0] rfl)

-- the loop at 4 of StableHeapModel.unlock
set_option maxHeartbeats 4000000 in
set_option maxRecDepth 100000 in
theorem lo_X4_unlock_4 {l : Launch} (hl0 : l.stackTraces = false) {D : va_G} {cs : Nat → ClassId} {h : th_S} (o : Nat) (A : Nat → Nat) (hK : mo_K o A h) (S : th_N) (t : Int32) {p : Program} {e : Env} {s : State} {m : MethodId} {below : List Frame} {meth : Method} {c : Code} (hC : th_C D cs (mo_h o A h S) p m c cX4_unlock 4 s [.ref o, .int t] RX4) (hr : meth.sig.returnType = some .int) (hlk : meth.locks = false) (htab : ∀ x ∈ c.exceptionTable.toList, False) : ∀ (q : Nat) (i n : Nat) (H : Heap) (locs : List Loc) (ls : Array Slot), (i + q = 80) → (n = ct (mo_ul1 S t) i) → th_H D cs (mo_h o A h S) s (mo_h o A h (mo_un S t i 0)) H locs → lv_has ls 4 [(0, .ref o), (1, .int t), (2, .int (nI n)), (3, .int (nI i))] → W p l e { frames := 0, cells := 0, slots := 0, locals := 0 } s m [.ref o, .int t].toArray below meth c H locs 0 0 (th_Q below D cs (mo_h o A h S) s [.ref o, .int t] (fun v h' => v = some (.int (nI (mo_uc S t))) ∧ h' = mo_h o A h (mo_un S t 80 4)) (fun E h' => False) 0 0) (F0 m 4 ls []) := by
  have hx := hC.1.1
  have hb := hC.1.2.1
  intro q
  induction q with
  | zero =>
    intro i n H locs ls hin hn hM hl
    refine lv_iload_n hx hb dX4_unlock_4 rfl (lv_at hl 3 rfl) ?_
    refine lv_bipush (v := 80) hx hb dX4_unlock_5 (by decide) ?_
    refine lv_icmp_ge (tgt := 48) hx hb dX4_unlock_7 (by decide) (fun c7 => ?_) (fun c7 => ?_)
    · refine lv_iconst (v := 0) hx hb dX4_unlock_48 (by decide) ?_
      refine lv_istore_n (lv' := [(3, .int 0), (0, .ref o), (1, .int t), (2, .int (nI n))]) hx hb dX4_unlock_49 rfl hl (by decide) rfl (fun ls hl => ?_)
      exact lo_X4_unlock_50 hl0 o A hK S t hC hr hlk htab 4 0 n _ _ ls (by omega) (by rw [hn, show i = 80 by omega]; rfl) (by rw [show i = 80 by omega] at hM; exact hM) (lv_sub hl [1, 2, 3, 0] rfl)
    · exact absurd (nI_le (a := 80) (show 80 ≤ i by omega) (by omega)) c7
  | succ q ih =>
    intro i n H locs ls hin hn hM hl
    refine lv_iload_n hx hb dX4_unlock_4 rfl (lv_at hl 3 rfl) ?_
    refine lv_bipush (v := 80) hx hb dX4_unlock_5 (by decide) ?_
    refine lv_icmp_ge (tgt := 48) hx hb dX4_unlock_7 (by decide) (fun c7 => ?_) (fun c7 => ?_)
    · exact absurd c7 (nI_ge (b := 80) (by omega) (by decide))
    · refine lv_aload_n hx hb dX4_unlock_10 rfl (lv_at hl 0 rfl) ?_
      refine gr_10_1 (index := 7) hC hM hK.1 mb_491 dX4_unlock_11 (hK.r1) ?_
      refine lv_iload_n hx hb dX4_unlock_14 rfl (lv_at hl 3 rfl) ?_
      refine al_7 (i := i) (n := 80) hC hM hK.k1 (by first | rfl | decide) (by omega) (by decide) dX4_unlock_15 ?_
      rw [mo_a1 hK]
      rw [show (mo_un S t i 0).2 1 i = S.2 1 i from by unfold mo_un; rw [sw_n _ _ (by decide), sw_n _ _ (by decide)]]
      refine lv_if_eq (tgt := 42) hx hb dX4_unlock_16 (by decide) (fun c16 => ?_) (fun c16 => ?_)
      · refine lv_iinc (v := nI (i + 1)) (lv' := [(3, .int (nI (i + 1))), (0, .ref o), (1, .int t), (2, .int (nI n))]) hx hb dX4_unlock_42 hl (k := 3) rfl (by exact nI_1 i) (by first | decide | omega) rfl (fun ls hl => ?_)
        refine lv_goto (tgt := 4) hx hb dX4_unlock_45 (by decide) ?_
        rw [mo_un_n S t (show ¬ mo_ul1 S t i from fun z9 => z9.1 c16)] at hM
        exact ih (i + 1) n H locs ls (by omega) (by rw [hn, ct_n (show ¬ mo_ul1 S t i from fun z9 => z9.1 c16)]) hM (lv_sub hl [1, 2, 3, 0] rfl)
      · refine lv_aload_n hx hb dX4_unlock_19 rfl (lv_at hl 0 rfl) ?_
        refine gr_10_3 (index := 16) hC hM hK.1 mb_493 dX4_unlock_20 (hK.r3) ?_
        refine lv_iload_n hx hb dX4_unlock_23 rfl (lv_at hl 3 rfl) ?_
        refine al_7 (i := i) (n := 80) hC hM hK.k3 (by first | rfl | decide) (by omega) (by decide) dX4_unlock_24 ?_
        rw [mo_a3 hK]
        rw [show (mo_un S t i 0).2 3 i = S.2 3 i from mo_un_lk S t i 0]
        refine lv_iload_n hx hb dX4_unlock_25 rfl (lv_at hl 1 rfl) ?_
        refine lv_icmp_eq (tgt := 32) hx hb dX4_unlock_26 (by decide) (fun c26 => ?_) (fun c26 => ?_)
        · refine lv_aload_n hx hb dX4_unlock_32 rfl (lv_at hl 0 rfl) ?_
          refine gr_10_3 (index := 16) hC hM hK.1 mb_493 dX4_unlock_33 (hK.r3) ?_
          refine lv_iload_n hx hb dX4_unlock_36 rfl (lv_at hl 3 rfl) ?_
          refine lv_iconst (v := 0) hx hb dX4_unlock_37 (by decide) ?_
          refine as_7 (i := i) (v := 0) (n := 80) hC hM hK.k3 (by first | rfl | decide) (by omega) (by decide) dX4_unlock_38 (fun H locs hM => ?_)
          rw [mo_u3 hK] at hM
          refine lv_iinc (v := nI (n + 1)) (lv' := [(2, .int (nI (n + 1))), (0, .ref o), (1, .int t), (3, .int (nI i))]) hx hb dX4_unlock_39 hl (k := 2) rfl (by exact nI_1 n) (by first | decide | omega) rfl (fun ls hl => ?_)
          refine lv_iinc (v := nI (i + 1)) (lv' := [(3, .int (nI (i + 1))), (2, .int (nI (n + 1))), (0, .ref o), (1, .int t)]) hx hb dX4_unlock_42 hl (k := 3) rfl (by exact nI_1 i) (by first | decide | omega) rfl (fun ls hl => ?_)
          refine lv_goto (tgt := 4) hx hb dX4_unlock_45 (by decide) ?_
          rw [mo_un_s S t (show mo_ul1 S t i from ⟨c16, c26⟩)] at hM
          exact ih (i + 1) (n + 1) H locs ls (by omega) (by rw [hn, ct_s (show mo_ul1 S t i from ⟨c16, c26⟩)]) hM (lv_sub hl [2, 3, 1, 0] rfl)
        · refine lv_goto (tgt := 42) hx hb dX4_unlock_29 (by decide) ?_
          refine lv_iinc (v := nI (i + 1)) (lv' := [(3, .int (nI (i + 1))), (0, .ref o), (1, .int t), (2, .int (nI n))]) hx hb dX4_unlock_42 hl (k := 3) rfl (by exact nI_1 i) (by first | decide | omega) rfl (fun ls hl => ?_)
          refine lv_goto (tgt := 4) hx hb dX4_unlock_45 (by decide) ?_
          rw [mo_un_n S t (show ¬ mo_ul1 S t i from fun z9 => c26 z9.2)] at hM
          exact ih (i + 1) n H locs ls (by omega) (by rw [hn, ct_n (show ¬ mo_ul1 S t i from fun z9 => c26 z9.2)]) hM (lv_sub hl [1, 2, 3, 0] rfl)

-- StableHeapModel.unlock
set_option maxHeartbeats 4000000 in
set_option maxRecDepth 100000 in
theorem c_X4_unlock (l : Launch) (hl0 : l.stackTraces = false) (D : va_G) (cs : Nat → ClassId) (h : th_S) (sz : Nat) (o : Nat) (A : Nat → Nat) (hK : mo_K o A h) (S : th_N) (t : Int32) : th_M l yX4_unlock wsX4_unlock { frames := 0, cells := 0, slots := 0, locals := 0 } D cs (mo_h o A h S) sz [.ref o, .int t] (fun v h' => v = some (.int (nI (mo_uc S t))) ∧ h' = mo_h o A h (mo_un S t 80 4)) (fun E h' => False) := by
  refine mw_ofW (cc := cX4_unlock) (maxL := 4) (ret := (some .int)) (by decide) rfl (fun w h => List.mem_cons_of_mem _ h) th_cd (Nat.le_of_ble_eq_true rfl) ?_
  intro p e s m below meth c hsz hC hr hlk hnm htab hM ls hl
  have hC : th_C D cs (mo_h o A h S) p m c cX4_unlock 4 s [.ref o, .int t] RX4 := hC
  have hx := hC.1.1
  have hb := hC.1.2.1
  have hl : lv_has ls 4 [(0, .ref o), (1, .int t)] := hl
  refine lv_iconst (v := 0) hx hb dX4_unlock_0 (by decide) ?_
  refine lv_istore_n (lv' := [(2, .int 0), (0, .ref o), (1, .int t)]) hx hb dX4_unlock_1 rfl hl (by decide) rfl (fun ls hl => ?_)
  refine lv_iconst (v := 0) hx hb dX4_unlock_2 (by decide) ?_
  refine lv_istore_n (lv' := [(3, .int 0), (2, .int 0), (0, .ref o), (1, .int t)]) hx hb dX4_unlock_3 rfl hl (by decide) rfl (fun ls hl => ?_)
  exact lo_X4_unlock_4 hl0 o A hK S t hC hr hlk htab 80 0 0 _ _ ls (by omega) rfl (by rw [mo_un_00]; exact hM) (lv_sub hl [2, 3, 1, 0] rfl)

-- the loop at 5 of StableHeapModel.forget
set_option maxHeartbeats 4000000 in
set_option maxRecDepth 100000 in
theorem lo_X4_forget_5 {l : Launch} (hl0 : l.stackTraces = false) {D : va_G} {cs : Nat → ClassId} {h : th_S} (o : Nat) (A : Nat → Nat) (hK : mo_K o A h) (S : th_N) (t b : Int32) (u : Nat) (hw : mo_W S u) {p : Program} {e : Env} {s : State} {m : MethodId} {below : List Frame} {meth : Method} {c : Code} (hC : th_C D cs (mo_h o A h S) p m c cX4_forget 5 s [.ref o, .int t, .int b] RX4) (hr : meth.sig.returnType = none) (hlk : meth.locks = false) (htab : ∀ x ∈ c.exceptionTable.toList, False) : ∀ (q : Nat) (i p9 : Nat) (U : th_N) (H : Heap) (locs : List Loc) (ls : Array Slot), (i + q = u) → (mo_fi S t b i p9 U) → th_H D cs (mo_h o A h S) s (mo_h o A h U) H locs → lv_has ls 5 [(0, .ref o), (1, .int t), (2, .int b), (3, .int (nI p9)), (4, .int (nI i))] → W p l e { frames := 1, cells := 0, slots := 0, locals := 23 } s m [.ref o, .int t, .int b].toArray below meth c H locs 0 0 (th_Q below D cs (mo_h o A h S) s [.ref o, .int t, .int b] (fun v h' => v = none ∧ ∃ p T, mo_fg S u t b p T ∧ h' = mo_h o A h T) (fun E h' => False) 0 0) (F0 m 5 ls []) := by
  have hx := hC.1.1
  have hb := hC.1.2.1
  intro q
  induction q with
  | zero =>
    intro i p9 U H locs ls hin hU hM hl
    obtain ⟨hU1, hU2, hU3, hU4, hU5, hU6⟩ := id hU
    have hu6 := hw.2.1
    refine lv_iload hx hb dX4_forget_5 (lv_at hl 4 rfl) ?_
    refine lv_aload_n hx hb dX4_forget_7 rfl (lv_at hl 0 rfl) ?_
    refine gi_10_20 (index := 90) hC hM hK.1 mb_510 dX4_forget_8 ?_
    rw [mo_i]
    rw [show U.1 20 = nI u from by rw [hU1]; exact hw.1]
    refine lv_icmp_ge (tgt := 118) hx hb dX4_forget_11 (by decide) (fun c11 => ?_) (fun c11 => ?_)
    · refine lv_aload_n hx hb dX4_forget_118 rfl (lv_at hl 0 rfl) ?_
      refine lv_iload_n hx hb dX4_forget_119 rfl (lv_at hl 3 rfl) ?_
      refine pu_10_20 (index := 90) (v := nI p9) hC hM hK.1 mb_510 dX4_forget_120 (fun H locs hM => ?_)
      rw [mo_um] at hM
      refine mw_vret hC hM hr hlk dX4_forget_123 (Nat.le_of_ble_eq_true rfl) (Nat.le_of_ble_eq_true rfl) ⟨_, rfl, ?_⟩
      exact ⟨rfl, p9, _, ⟨U, by rw [show u = i by omega]; exact hU, rfl⟩, rfl⟩
    · exact absurd (nI_le (show u ≤ i by omega) (by omega)) c11
  | succ q ih =>
    intro i p9 U H locs ls hin hU hM hl
    obtain ⟨hU1, hU2, hU3, hU4, hU5, hU6⟩ := id hU
    have hu6 := hw.2.1
    obtain ⟨hb8, d, hd9, ed⟩ := hw.2.2 i (by omega)
    refine lv_iload hx hb dX4_forget_5 (lv_at hl 4 rfl) ?_
    refine lv_aload_n hx hb dX4_forget_7 rfl (lv_at hl 0 rfl) ?_
    refine gi_10_20 (index := 90) hC hM hK.1 mb_510 dX4_forget_8 ?_
    rw [mo_i]
    rw [show U.1 20 = nI u from by rw [hU1]; exact hw.1]
    refine lv_icmp_ge (tgt := 118) hx hb dX4_forget_11 (by decide) (fun c11 => ?_) (fun c11 => ?_)
    · exact absurd c11 (nI_ge (by omega) (by omega))
    · refine lv_aload_n hx hb dX4_forget_14 rfl (lv_at hl 0 rfl) ?_
      refine gr_10_16 (index := 41) hC hM hK.1 mb_506 dX4_forget_15 (hK.r16) ?_
      refine lv_iload hx hb dX4_forget_18 (lv_at hl 4 rfl) ?_
      refine al_7 (i := i) (n := 60) hC hM hK.k16 (by first | rfl | decide) (by omega) (by decide) dX4_forget_20 ?_
      rw [mo_a16 hK]
      rw [show U.2 16 i = S.2 16 i from congrArg (fun z => z.1) (hU4 i hU2)]
      refine lv_iload_n hx hb dX4_forget_21 rfl (lv_at hl 1 rfl) ?_
      refine lv_icmp_ne (tgt := 57) hx hb dX4_forget_22 (by decide) (fun c22 => ?_) (fun c22 => ?_)
      · refine lv_aload_n hx hb dX4_forget_57 rfl (lv_at hl 0 rfl) ?_
        refine gr_10_16 (index := 41) hC hM hK.1 mb_506 dX4_forget_58 (hK.r16) ?_
        refine lv_iload_n hx hb dX4_forget_61 rfl (lv_at hl 3 rfl) ?_
        refine lv_aload_n hx hb dX4_forget_62 rfl (lv_at hl 0 rfl) ?_
        refine gr_10_16 (index := 41) hC hM hK.1 mb_506 dX4_forget_63 (hK.r16) ?_
        refine lv_iload hx hb dX4_forget_66 (lv_at hl 4 rfl) ?_
        refine al_7 (i := i) (n := 60) hC hM hK.k16 (by first | rfl | decide) (by omega) (by decide) dX4_forget_68 ?_
        rw [mo_a16 hK]
        rw [show U.2 16 i = S.2 16 i from congrArg (fun z => z.1) (hU4 i hU2)]
        refine as_7 (i := p9) (v := S.2 16 i) (n := 60) hC hM hK.k16 (by first | rfl | decide) (by omega) (by decide) dX4_forget_69 (fun H locs hM => ?_)
        rw [mo_u16 hK] at hM
        refine lv_aload_n hx hb dX4_forget_70 rfl (lv_at hl 0 rfl) ?_
        refine gr_10_17 (index := 44) hC hM hK.1 mb_507 dX4_forget_71 (hK.r17) ?_
        refine lv_iload_n hx hb dX4_forget_74 rfl (lv_at hl 3 rfl) ?_
        refine lv_aload_n hx hb dX4_forget_75 rfl (lv_at hl 0 rfl) ?_
        refine gr_10_17 (index := 44) hC hM hK.1 mb_507 dX4_forget_76 (hK.r17) ?_
        refine lv_iload hx hb dX4_forget_79 (lv_at hl 4 rfl) ?_
        refine al_7 (i := i) (n := 60) hC hM hK.k17 (by first | rfl | decide) (by omega) (by decide) dX4_forget_81 ?_
        rw [mo_a17 hK]
        rw [show (sa U 16 p9 (S.2 16 i)).2 17 i = U.2 17 i from by first | rfl | simp [su, sa, va_up]]
        rw [show U.2 17 i = S.2 17 i from congrArg (fun z => z.2.1) (hU4 i hU2)]
        refine as_7 (i := p9) (v := S.2 17 i) (n := 60) hC hM hK.k17 (by first | rfl | decide) (by omega) (by decide) dX4_forget_82 (fun H locs hM => ?_)
        rw [mo_u17 hK] at hM
        refine lv_aload_n hx hb dX4_forget_83 rfl (lv_at hl 0 rfl) ?_
        refine gr_10_18 (index := 47) hC hM hK.1 mb_508 dX4_forget_84 (hK.r18) ?_
        refine lv_iload_n hx hb dX4_forget_87 rfl (lv_at hl 3 rfl) ?_
        refine lv_aload_n hx hb dX4_forget_88 rfl (lv_at hl 0 rfl) ?_
        refine gr_10_18 (index := 47) hC hM hK.1 mb_508 dX4_forget_89 (hK.r18) ?_
        refine lv_iload hx hb dX4_forget_92 (lv_at hl 4 rfl) ?_
        refine al_8 (i := i) (n := 60) hC hM hK.k18 (by first | rfl | decide) (by omega) (by decide) dX4_forget_94 ?_
        rw [mo_a18 hK]
        rw [show (sa (sa U 16 p9 (S.2 16 i)) 17 p9 (S.2 17 i)).2 18 i = U.2 18 i from by first | rfl | simp [su, sa, va_up]]
        rw [show U.2 18 i = S.2 18 i from congrArg (fun z => z.2.2.1) (hU4 i hU2)]
        refine as_8 (i := p9) (v := S.2 18 i) (n := 60) hC hM hK.k18 (by first | rfl | decide) (by omega) (by decide) (hb8) dX4_forget_95 (fun H locs hM => ?_)
        rw [mo_u18 hK] at hM
        refine lv_aload_n hx hb dX4_forget_96 rfl (lv_at hl 0 rfl) ?_
        refine gr_10_19 (index := 50) hC hM hK.1 mb_509 dX4_forget_97 (hK.r19) ?_
        refine lv_iload_n hx hb dX4_forget_100 rfl (lv_at hl 3 rfl) ?_
        refine lv_aload_n hx hb dX4_forget_101 rfl (lv_at hl 0 rfl) ?_
        refine gr_10_19 (index := 50) hC hM hK.1 mb_509 dX4_forget_102 (hK.r19) ?_
        refine lv_iload hx hb dX4_forget_105 (lv_at hl 4 rfl) ?_
        refine al_7 (i := i) (n := 60) hC hM hK.k19 (by first | rfl | decide) (by omega) (by decide) dX4_forget_107 ?_
        rw [mo_a19 hK]
        rw [show (sa (sa (sa U 16 p9 (S.2 16 i)) 17 p9 (S.2 17 i)) 18 p9 (S.2 18 i)).2 19 i = U.2 19 i from by first | rfl | simp [su, sa, va_up]]
        rw [show U.2 19 i = S.2 19 i from congrArg (fun z => z.2.2.2) (hU4 i hU2)]
        refine as_7 (i := p9) (v := S.2 19 i) (n := 60) hC hM hK.k19 (by first | rfl | decide) (by omega) (by decide) dX4_forget_108 (fun H locs hM => ?_)
        rw [mo_u19 hK] at hM
        refine lv_iinc (v := nI (p9 + 1)) (lv' := [(3, .int (nI (p9 + 1))), (0, .ref o), (1, .int t), (2, .int b), (4, .int (nI i))]) hx hb dX4_forget_109 hl (k := 3) rfl (by exact nI_1 p9) (by first | decide | omega) rfl (fun ls hl => ?_)
        refine lv_iinc (v := nI (i + 1)) (lv' := [(4, .int (nI (i + 1))), (3, .int (nI (p9 + 1))), (0, .ref o), (1, .int t), (2, .int b)]) hx hb dX4_forget_112 hl (k := 4) rfl (by exact nI_1 i) (by first | decide | omega) rfl (fun ls hl => ?_)
        refine lv_goto (tgt := 5) hx hb dX4_forget_115 (by decide) ?_
        exact ih (i + 1) (p9 + 1) _ H locs ls (by omega) (hU.keep c22) hM (lv_sub hl [2, 3, 4, 1, 0] rfl)
      · refine lv_iload_n hx hb dX4_forget_25 rfl (lv_at hl 2 rfl) ?_
        refine lv_if_eq (tgt := 112) hx hb dX4_forget_26 (by decide) (fun c26 => ?_) (fun c26 => ?_)
        · refine lv_iinc (v := nI (i + 1)) (lv' := [(4, .int (nI (i + 1))), (0, .ref o), (1, .int t), (2, .int b), (3, .int (nI p9))]) hx hb dX4_forget_112 hl (k := 4) rfl (by exact nI_1 i) (by first | decide | omega) rfl (fun ls hl => ?_)
          refine lv_goto (tgt := 5) hx hb dX4_forget_115 (by decide) ?_
          subst c26
          exact ih (i + 1) p9 U H locs ls (by omega) (hU.skip c22) hM (lv_sub hl [1, 2, 3, 4, 0] rfl)
        · refine lv_aload_n hx hb dX4_forget_29 rfl (lv_at hl 0 rfl) ?_
          refine lv_aload_n hx hb dX4_forget_30 rfl (lv_at hl 0 rfl) ?_
          refine gr_10_17 (index := 44) hC hM hK.1 mb_507 dX4_forget_31 (hK.r17) ?_
          refine lv_iload hx hb dX4_forget_34 (lv_at hl 4 rfl) ?_
          refine al_7 (i := i) (n := 60) hC hM hK.k17 (by first | rfl | decide) (by omega) (by decide) dX4_forget_36 ?_
          rw [mo_a17 hK]
          rw [show U.2 17 i = nI d from (congrArg (fun z => z.2.1) (hU4 i hU2)).trans ed]
          refine lv_aload_n hx hb dX4_forget_37 rfl (lv_at hl 0 rfl) ?_
          refine gr_10_18 (index := 47) hC hM hK.1 mb_508 dX4_forget_38 (hK.r18) ?_
          refine lv_iload hx hb dX4_forget_41 (lv_at hl 4 rfl) ?_
          refine al_8 (i := i) (n := 60) hC hM hK.k18 (by first | rfl | decide) (by omega) (by decide) dX4_forget_43 ?_
          rw [mo_a18 hK]
          rw [show U.2 18 i = S.2 18 i from congrArg (fun z => z.2.2.1) (hU4 i hU2)]
          refine lv_aload_n hx hb dX4_forget_44 rfl (lv_at hl 0 rfl) ?_
          refine gr_10_19 (index := 50) hC hM hK.1 mb_509 dX4_forget_45 (hK.r19) ?_
          refine lv_iload hx hb dX4_forget_48 (lv_at hl 4 rfl) ?_
          refine al_7 (i := i) (n := 60) hC hM hK.k19 (by first | rfl | decide) (by omega) (by decide) dX4_forget_50 ?_
          rw [mo_a19 hK]
          rw [show U.2 19 i = S.2 19 i from congrArg (fun z => z.2.2.2) (hU4 i hU2)]
          refine mw_callV (As := [.int (nI d), .int (S.2 18 i), .int (S.2 19 i)]) (rest := []) (n := 3) (C := RX4) (T := TX4) (N := 21) (ci := 4) hC hM (c_X4_assign l hl0 D cs h H.size o A hK U d hd9 (S.2 18 i) (S.2 19 i) hb8) (cwV 3 hC.1.2.2.2.2 (tb_V mb_602 mb_603 mb_26 mb_40 mb_604) rfl rfl rfl (by decide +kernel) ⟨Nat.le_of_ble_eq_true rfl, Nat.le_of_ble_eq_true rfl⟩) (th_at (h := mo_h o A h U) hK.1) rfl rfl rfl hl.1 (Nat.le_of_ble_eq_true rfl) dX4_forget_51 ⟨Nat.le_of_ble_eq_true rfl, Nat.le_of_ble_eq_true rfl⟩ (fun E ce q9 g9 H locs hp9 hM hce hcv hcl => ?_) (fun v9 g9 H locs hp9 hM => ?_)
          · exact (hp9.elim fun _ h9 => h9.2.elim)
          obtain ⟨h51, rfl, hp9⟩ := hp9
          obtain ⟨rfl, rfl⟩ := hp9
          refine W.eq (g2 := F0 m 54 ls []) rfl ?_
          refine lv_goto (tgt := 112) hx hb dX4_forget_54 (by decide) ?_
          refine lv_iinc (v := nI (i + 1)) (lv' := [(4, .int (nI (i + 1))), (0, .ref o), (1, .int t), (2, .int b), (3, .int (nI p9))]) hx hb dX4_forget_112 hl (k := 4) rfl (by exact nI_1 i) (by first | decide | omega) rfl (fun ls hl => ?_)
          refine lv_goto (tgt := 5) hx hb dX4_forget_115 (by decide) ?_
          exact ih (i + 1) p9 _ H locs ls (by omega) (hU.back c26 c22 ed hd9) hM (lv_sub hl [1, 2, 3, 4, 0] rfl)

-- StableHeapModel.forget
set_option maxHeartbeats 4000000 in
set_option maxRecDepth 100000 in
theorem c_X4_forget (l : Launch) (hl0 : l.stackTraces = false) (D : va_G) (cs : Nat → ClassId) (h : th_S) (sz : Nat) (o : Nat) (A : Nat → Nat) (hK : mo_K o A h) (S : th_N) (t b : Int32) (u : Nat) (hw : mo_W S u) : th_M l yX4_forget wsX4_forget { frames := 1, cells := 0, slots := 0, locals := 23 } D cs (mo_h o A h S) sz [.ref o, .int t, .int b] (fun v h' => v = none ∧ ∃ p T, mo_fg S u t b p T ∧ h' = mo_h o A h T) (fun E h' => False) := by
  refine mw_ofW (cc := cX4_forget) (maxL := 5) (ret := none) (by decide) rfl (fun w h => List.mem_cons_of_mem _ h) th_cd (Nat.le_of_ble_eq_true rfl) ?_
  intro p e s m below meth c hsz hC hr hlk hnm htab hM ls hl
  have hC : th_C D cs (mo_h o A h S) p m c cX4_forget 5 s [.ref o, .int t, .int b] RX4 := hC
  have hx := hC.1.1
  have hb := hC.1.2.1
  have hl : lv_has ls 5 [(0, .ref o), (1, .int t), (2, .int b)] := hl
  refine lv_iconst (v := 0) hx hb dX4_forget_0 (by decide) ?_
  refine lv_istore_n (lv' := [(3, .int 0), (0, .ref o), (1, .int t), (2, .int b)]) hx hb dX4_forget_1 rfl hl (by decide) rfl (fun ls hl => ?_)
  refine lv_iconst (v := 0) hx hb dX4_forget_2 (by decide) ?_
  refine lv_istore (lv' := [(4, .int 0), (3, .int 0), (0, .ref o), (1, .int t), (2, .int b)]) hx hb dX4_forget_3 hl (by decide) rfl (fun ls hl => ?_)
  exact lo_X4_forget_5 hl0 o A hK S t b u hw hC hr hlk htab u 0 0 S _ _ ls (by omega) (mo_fi.zero S t b) hM (lv_sub hl [2, 3, 4, 1, 0] rfl)

-- StableHeapModel.end
set_option maxHeartbeats 4000000 in
set_option maxRecDepth 100000 in
theorem c_X4_end (l : Launch) (hl0 : l.stackTraces = false) (D : va_G) (cs : Nat → ClassId) (h : th_S) (sz : Nat) (o : Nat) (A : Nat → Nat) (hK : mo_K o A h) (S : th_N) (k : Nat) (hk3 : k < 3) (b : Int32) (u : Nat) (hw : mo_W S u) : th_M l yX4_end wsX4_end { frames := 2, cells := 0, slots := 0, locals := 47 } D cs (mo_h o A h S) sz [.ref o, .int (nI k), .int b] (fun v h' => ∃ p r T, mo_en S u k b p r T ∧ v = some (.int r) ∧ h' = mo_h o A h T) (fun E h' => False) := by
  refine mw_ofW (cc := cX4_end) (maxL := 4) (ret := (some .int)) (by decide) rfl (fun w h => List.mem_cons_of_mem _ h) th_cd (Nat.le_of_ble_eq_true rfl) ?_
  intro p e s m below meth c hsz hC hr hlk hnm htab hM ls hl
  have hC : th_C D cs (mo_h o A h S) p m c cX4_end 4 s [.ref o, .int (nI k), .int b] RX4 := hC
  have hx := hC.1.1
  have hb := hC.1.2.1
  have hl : lv_has ls 4 [(0, .ref o), (1, .int (nI k)), (2, .int b)] := hl
  refine lv_aload_n hx hb dX4_end_0 rfl (lv_at hl 0 rfl) ?_
  refine gr_10_11 (index := 35) hC hM hK.1 mb_501 dX4_end_1 (hK.r11) ?_
  refine lv_iload_n hx hb dX4_end_4 rfl (lv_at hl 1 rfl) ?_
  refine al_7 (i := k) (n := 3) hC hM hK.k11 (by first | rfl | decide) (by omega) (by decide) dX4_end_5 ?_
  rw [mo_a11 hK]
  refine lv_istore_n (lv' := [(3, .int (S.2 11 k)), (0, .ref o), (1, .int (nI k)), (2, .int b)]) hx hb dX4_end_6 rfl hl (by decide) rfl (fun ls hl => ?_)
  refine lv_aload_n hx hb dX4_end_7 rfl (lv_at hl 1 rfl) ?_
  refine lv_iload_n hx hb dX4_end_8 rfl (lv_at hl 0 rfl) ?_
  refine lv_iload_n hx hb dX4_end_9 rfl (lv_at hl 3 rfl) ?_
  refine mw_callV (As := [.int (S.2 11 k), .int b]) (rest := []) (n := 2) (C := RX4) (T := TX4) (N := 21) (ci := 4) hC hM (c_X4_forget l hl0 D cs h s.heap.size o A hK S (S.2 11 k) b u hw) (cwV 2 hC.1.2.2.2.2 (tb_V mb_641 mb_642 mb_31 mb_40 mb_643) rfl rfl rfl (by decide +kernel) ⟨Nat.le_of_ble_eq_true rfl, Nat.le_of_ble_eq_true rfl⟩) (th_at (h := mo_h o A h S) hK.1) rfl rfl rfl hl.1 (Nat.le_of_ble_eq_true rfl) dX4_end_10 ⟨Nat.le_of_ble_eq_true rfl, Nat.le_of_ble_eq_true rfl⟩ (fun E ce q9 g9 H locs hp9 hM hce hcv hcl => ?_) (fun v9 g9 H locs hp9 hM => ?_)
  · exact (hp9.elim fun _ h9 => h9.2.elim)
  obtain ⟨h10, rfl, hp9⟩ := hp9
  obtain ⟨rfl, p9, U, hfg, rfl⟩ := hp9
  refine W.eq (g2 := F0 m 13 ls []) rfl ?_
  refine lv_aload_n hx hb dX4_end_13 rfl (lv_at hl 1 rfl) ?_
  refine gr_10_11 (index := 35) hC hM hK.1 mb_501 dX4_end_14 (hK.r11) ?_
  refine lv_iload_n hx hb dX4_end_17 rfl (lv_at hl 2 rfl) ?_
  refine lv_iconst (v := 0) hx hb dX4_end_18 (by decide) ?_
  refine as_7 (i := k) (v := 0) (n := 3) hC hM hK.k11 (by first | rfl | decide) (by omega) (by decide) dX4_end_19 (fun H locs hM => ?_)
  rw [mo_u11 hK] at hM
  refine lv_aload_n hx hb dX4_end_20 rfl (lv_at hl 1 rfl) ?_
  refine gr_10_12 (index := 38) hC hM hK.1 mb_502 dX4_end_21 (hK.r12) ?_
  refine lv_iload_n hx hb dX4_end_24 rfl (lv_at hl 2 rfl) ?_
  refine lv_iconst (v := 0) hx hb dX4_end_25 (by decide) ?_
  refine as_7 (i := k) (v := 0) (n := 3) hC hM hK.k12 (by first | rfl | decide) (by omega) (by decide) dX4_end_26 (fun H locs hM => ?_)
  rw [mo_u12 hK] at hM
  refine lv_aload_n hx hb dX4_end_27 rfl (lv_at hl 1 rfl) ?_
  refine lv_iload_n hx hb dX4_end_28 rfl (lv_at hl 0 rfl) ?_
  refine mw_callV (As := [.int (S.2 11 k)]) (rest := []) (n := 1) (C := RX4) (T := TX4) (N := 21) (ci := 4) hC hM (c_X4_unlock l hl0 D cs h H.size o A hK (sa (sa U 11 k 0) 12 k 0) (S.2 11 k)) (cwV 1 hC.1.2.2.2.2 (tb_V mb_644 mb_645 mb_32 mb_40 mb_646) rfl rfl rfl (by decide +kernel) ⟨Nat.le_of_ble_eq_true rfl, Nat.le_of_ble_eq_true rfl⟩) (th_at (h := mo_h o A h (sa (sa U 11 k 0) 12 k 0)) hK.1) rfl rfl rfl hl.1 (Nat.le_of_ble_eq_true rfl) dX4_end_29 ⟨Nat.le_of_ble_eq_true rfl, Nat.le_of_ble_eq_true rfl⟩ (fun E ce q9 g9 H locs hp9 hM hce hcv hcl => ?_) (fun v9 g9 H locs hp9 hM => ?_)
  · exact (hp9.elim fun _ h9 => h9.2.elim)
  obtain ⟨h29, rfl, hp9⟩ := hp9
  obtain ⟨rfl, rfl⟩ := hp9
  refine W.eq (g2 := F0 m 32 ls [.int (nI (mo_uc (sa (sa U 11 k 0) 12 k 0) (S.2 11 k)))]) rfl ?_
  refine mw_iret hC hM hr hlk dX4_end_32 (Nat.le_of_ble_eq_true rfl) (Nat.le_of_ble_eq_true rfl) ⟨_, rfl, ?_⟩
  exact ⟨p9, _, _, ⟨U, hfg, rfl, rfl⟩, rfl, rfl⟩

-- StableHeapModel.commit
set_option maxHeartbeats 4000000 in
set_option maxRecDepth 100000 in
theorem c_X4_commit (l : Launch) (hl0 : l.stackTraces = false) (D : va_G) (cs : Nat → ClassId) (h : th_S) (sz : Nat) (o : Nat) (A : Nat → Nat) (hK : mo_K o A h) (S : th_N) (t : Int32) (u : Nat) (hw : mo_W S u) : th_M l yX4_commit wsX4_commit { frames := 3, cells := 0, slots := 0, locals := 70 } D cs (mo_h o A h S) sz [.ref o, .int t] (fun v h' => (mo_nt S t ∧ v = some (.int 0) ∧ h' = mo_h o A h (su (su S 0 0) 0 1)) ∨ ∃ k, mo_tx S t k ∧ ((¬ mo_lg S + 1 ≤ 150 ∧ v = some (.int 0) ∧ h' = mo_h o A h (su (su S 0 0) 0 2)) ∨ (mo_lg S + 1 ≤ 150 ∧ ∃ p r T, mo_en (su (su S 0 0) 14 (S.1 14 + (S.2 12 k + 1))) u k 0 p r T ∧ v = some (.int r) ∧ h' = mo_h o A h T))) (fun E h' => False) := by
  refine mw_ofW (cc := cX4_commit) (maxL := 3) (ret := (some .int)) (by decide) rfl (fun w h => List.mem_cons_of_mem _ h) th_cd (Nat.le_of_ble_eq_true rfl) ?_
  intro p e s m below meth c hsz hC hr hlk hnm htab hM ls hl
  have hC : th_C D cs (mo_h o A h S) p m c cX4_commit 3 s [.ref o, .int t] RX4 := hC
  have hx := hC.1.1
  have hb := hC.1.2.1
  have hl : lv_has ls 3 [(0, .ref o), (1, .int t)] := hl
  refine lv_aload_n hx hb dX4_commit_0 rfl (lv_at hl 0 rfl) ?_
  refine lv_iconst (v := 0) hx hb dX4_commit_1 (by decide) ?_
  refine pu_10_0 (index := 53) (v := 0) hC hM hK.1 mb_490 dX4_commit_2 (fun H locs hM => ?_)
  rw [mo_um] at hM
  refine lv_aload_n hx hb dX4_commit_5 rfl (lv_at hl 0 rfl) ?_
  refine lv_iload_n hx hb dX4_commit_6 rfl (lv_at hl 1 rfl) ?_
  refine mw_callV (As := [.int t]) (rest := []) (n := 1) (C := RX4) (T := TX4) (N := 21) (ci := 4) hC hM (c_X4_place l hl0 D cs h H.size o A hK (su S 0 0) t) (cwV 1 hC.1.2.2.2.2 (tb_V mb_577 mb_578 mb_20 mb_40 mb_579) rfl rfl rfl (by decide +kernel) ⟨Nat.le_of_ble_eq_true rfl, Nat.le_of_ble_eq_true rfl⟩) (th_at (h := mo_h o A h (su S 0 0)) hK.1) rfl rfl rfl hl.1 (Nat.le_of_ble_eq_true rfl) dX4_commit_7 ⟨Nat.le_of_ble_eq_true rfl, Nat.le_of_ble_eq_true rfl⟩ (fun E ce q9 g9 H locs hp9 hM hce hcv hcl => ?_) (fun v9 g9 H locs hp9 hM => ?_)
  · exact (hp9.elim fun _ h9 => h9.2.elim)
  obtain ⟨h7, rfl, hp9⟩ := hp9
  obtain ⟨rfl, hp9⟩ := hp9
  rcases hp9 with ⟨k, hk, rfl⟩ | ⟨hk, rfl⟩
  · have k_lt : k < 3 := hk.1
    refine W.eq (g2 := F0 m 10 ls [.int (nI k)]) rfl ?_
    refine lv_istore_n (lv' := [(2, .int (nI k)), (0, .ref o), (1, .int t)]) hx hb dX4_commit_10 rfl hl (by decide) rfl (fun ls hl => ?_)
    refine lv_iload_n hx hb dX4_commit_11 rfl (lv_at hl 0 rfl) ?_
    refine lv_if_ge (tgt := 21) hx hb dX4_commit_12 (by decide) (fun c12 => ?_) (fun c12 => ?_)
    · refine lv_aload_n hx hb dX4_commit_21 rfl (lv_at hl 1 rfl) ?_
      refine mw_callV (As := []) (rest := []) (n := 0) (C := RX4) (T := TX4) (N := 21) (ci := 4) hC hM (c_X4_log l hl0 D cs h H.size o A hK (su S 0 0) ) (cwV 0 hC.1.2.2.2.2 (tb_V mb_570 mb_571 mb_19 mb_40 mb_572) rfl rfl rfl (by decide +kernel) ⟨Nat.le_of_ble_eq_true rfl, Nat.le_of_ble_eq_true rfl⟩) (th_at (h := mo_h o A h (su S 0 0)) hK.1) rfl rfl rfl hl.1 (Nat.le_of_ble_eq_true rfl) dX4_commit_22 ⟨Nat.le_of_ble_eq_true rfl, Nat.le_of_ble_eq_true rfl⟩ (fun E ce q9 g9 H locs hp9 hM hce hcv hcl => ?_) (fun v9 g9 H locs hp9 hM => ?_)
      · exact (hp9.elim fun _ h9 => h9.2.elim)
      obtain ⟨h22, rfl, hp9⟩ := hp9
      obtain ⟨rfl, rfl⟩ := hp9
      refine W.eq (g2 := F0 m 25 ls [.int (mo_lg S)]) rfl ?_
      refine lv_iconst (v := 1) hx hb dX4_commit_25 (by decide) ?_
      refine lv_iadd hx hb dX4_commit_26 ?_
      refine lv_sipush (v := 150) hx hb dX4_commit_27 (by decide) ?_
      refine lv_icmp_le (tgt := 39) hx hb dX4_commit_30 (by decide) (fun c30 => ?_) (fun c30 => ?_)
      · refine lv_aload_n hx hb dX4_commit_39 rfl (lv_at hl 1 rfl) ?_
        refine lv_dup hx hb dX4_commit_40 rfl ?_
        refine gi_10_14 (index := 57) hC hM hK.1 mb_504 dX4_commit_41 ?_
        rw [mo_i]
        rw [show (su S 0 0).1 14 = S.1 14 from by first | rfl | simp [su, sa, va_up]]
        refine lv_aload_n hx hb dX4_commit_44 rfl (lv_at hl 1 rfl) ?_
        refine gr_10_12 (index := 38) hC hM hK.1 mb_502 dX4_commit_45 (hK.r12) ?_
        refine lv_iload_n hx hb dX4_commit_48 rfl (lv_at hl 0 rfl) ?_
        refine al_7 (i := k) (n := 3) hC hM hK.k12 (by first | rfl | decide) (by omega) (by decide) dX4_commit_49 ?_
        rw [mo_a12 hK]
        rw [show (su S 0 0).2 12 k = S.2 12 k from by first | rfl | simp [su, sa, va_up]]
        refine lv_iconst (v := 1) hx hb dX4_commit_50 (by decide) ?_
        refine lv_iadd hx hb dX4_commit_51 ?_
        refine lv_iadd hx hb dX4_commit_52 ?_
        refine pu_10_14 (index := 57) (v := (S.1 14) + ((S.2 12 k) + 1)) hC hM hK.1 mb_504 dX4_commit_53 (fun H locs hM => ?_)
        rw [mo_um] at hM
        refine lv_aload_n hx hb dX4_commit_56 rfl (lv_at hl 1 rfl) ?_
        refine lv_iload_n hx hb dX4_commit_57 rfl (lv_at hl 0 rfl) ?_
        refine lv_iconst (v := 0) hx hb dX4_commit_58 (by decide) ?_
        refine mw_callV (As := [.int (nI k), .int 0]) (rest := []) (n := 2) (C := RX4) (T := TX4) (N := 21) (ci := 4) hC hM (c_X4_end l hl0 D cs h H.size o A hK (su (su S 0 0) 14 ((S.1 14) + ((S.2 12 k) + 1))) k k_lt 0 u hw) (cwV 2 hC.1.2.2.2.2 (tb_V mb_638 mb_639 mb_30 mb_40 mb_640) rfl rfl rfl (by decide +kernel) ⟨Nat.le_of_ble_eq_true rfl, Nat.le_of_ble_eq_true rfl⟩) (th_at (h := mo_h o A h (su (su S 0 0) 14 ((S.1 14) + ((S.2 12 k) + 1)))) hK.1) rfl rfl rfl hl.1 (Nat.le_of_ble_eq_true rfl) dX4_commit_59 ⟨Nat.le_of_ble_eq_true rfl, Nat.le_of_ble_eq_true rfl⟩ (fun E ce q9 g9 H locs hp9 hM hce hcv hcl => ?_) (fun v9 g9 H locs hp9 hM => ?_)
        · exact (hp9.elim fun _ h9 => h9.2.elim)
        obtain ⟨h59, rfl, hp9⟩ := hp9
        obtain ⟨p9, r9, T, hen, rfl, rfl⟩ := hp9
        refine W.eq (g2 := F0 m 62 ls [.int r9]) rfl ?_
        refine mw_iret hC hM hr hlk dX4_commit_62 (Nat.le_of_ble_eq_true rfl) (Nat.le_of_ble_eq_true rfl) ⟨_, rfl, ?_⟩
        exact Or.inr ⟨k, hk, Or.inr ⟨c30, p9, r9, T, hen, rfl, rfl⟩⟩
      · refine lv_aload_n hx hb dX4_commit_33 rfl (lv_at hl 1 rfl) ?_
        refine lv_iconst (v := 2) hx hb dX4_commit_34 (by decide) ?_
        refine mw_callV (As := [.int 2]) (rest := []) (n := 1) (C := RX4) (T := TX4) (N := 21) (ci := 4) hC hM (c_X4_raise l hl0 D cs h H.size o A hK (su S 0 0) 2) (cwV 1 hC.1.2.2.2.2 (tb_V mb_567 mb_568 mb_18 mb_40 mb_569) rfl rfl rfl (by decide +kernel) ⟨Nat.le_of_ble_eq_true rfl, Nat.le_of_ble_eq_true rfl⟩) (th_at (h := mo_h o A h (su S 0 0)) hK.1) rfl rfl rfl hl.1 (Nat.le_of_ble_eq_true rfl) dX4_commit_35 ⟨Nat.le_of_ble_eq_true rfl, Nat.le_of_ble_eq_true rfl⟩ (fun E ce q9 g9 H locs hp9 hM hce hcv hcl => ?_) (fun v9 g9 H locs hp9 hM => ?_)
        · exact (hp9.elim fun _ h9 => h9.2.elim)
        obtain ⟨h35, rfl, hp9⟩ := hp9
        obtain ⟨rfl, rfl⟩ := hp9
        refine W.eq (g2 := F0 m 38 ls [.int 0]) rfl ?_
        refine mw_iret hC hM hr hlk dX4_commit_38 (Nat.le_of_ble_eq_true rfl) (Nat.le_of_ble_eq_true rfl) ⟨_, rfl, ?_⟩
        exact Or.inr ⟨k, hk, Or.inl ⟨c30, rfl, rfl⟩⟩
    · exact absurd (nI_pos' (by omega)) c12
  · refine W.eq (g2 := F0 m 10 ls [.int (-1)]) rfl ?_
    refine lv_istore_n (lv' := [(2, .int (-1)), (0, .ref o), (1, .int t)]) hx hb dX4_commit_10 rfl hl (by decide) rfl (fun ls hl => ?_)
    refine lv_iload_n hx hb dX4_commit_11 rfl (lv_at hl 0 rfl) ?_
    refine lv_if_ge (tgt := 21) hx hb dX4_commit_12 (by decide) (fun c12 => ?_) (fun c12 => ?_)
    · exact absurd c12 (by decide)
    · refine lv_aload_n hx hb dX4_commit_15 rfl (lv_at hl 1 rfl) ?_
      refine lv_iconst (v := 1) hx hb dX4_commit_16 (by decide) ?_
      refine mw_callV (As := [.int 1]) (rest := []) (n := 1) (C := RX4) (T := TX4) (N := 21) (ci := 4) hC hM (c_X4_raise l hl0 D cs h H.size o A hK (su S 0 0) 1) (cwV 1 hC.1.2.2.2.2 (tb_V mb_567 mb_568 mb_18 mb_40 mb_569) rfl rfl rfl (by decide +kernel) ⟨Nat.le_of_ble_eq_true rfl, Nat.le_of_ble_eq_true rfl⟩) (th_at (h := mo_h o A h (su S 0 0)) hK.1) rfl rfl rfl hl.1 (Nat.le_of_ble_eq_true rfl) dX4_commit_17 ⟨Nat.le_of_ble_eq_true rfl, Nat.le_of_ble_eq_true rfl⟩ (fun E ce q9 g9 H locs hp9 hM hce hcv hcl => ?_) (fun v9 g9 H locs hp9 hM => ?_)
      · exact (hp9.elim fun _ h9 => h9.2.elim)
      obtain ⟨h17, rfl, hp9⟩ := hp9
      obtain ⟨rfl, rfl⟩ := hp9
      refine W.eq (g2 := F0 m 20 ls [.int 0]) rfl ?_
      refine mw_iret hC hM hr hlk dX4_commit_20 (Nat.le_of_ble_eq_true rfl) (Nat.le_of_ble_eq_true rfl) ⟨_, rfl, ?_⟩
      exact Or.inl ⟨hk, rfl, rfl⟩

-- StableHeapModel.abort
set_option maxHeartbeats 4000000 in
set_option maxRecDepth 100000 in
theorem c_X4_abort (l : Launch) (hl0 : l.stackTraces = false) (D : va_G) (cs : Nat → ClassId) (h : th_S) (sz : Nat) (o : Nat) (A : Nat → Nat) (hK : mo_K o A h) (S : th_N) (t : Int32) (u : Nat) (hw : mo_W S u) : th_M l yX4_abort wsX4_abort { frames := 3, cells := 0, slots := 0, locals := 70 } D cs (mo_h o A h S) sz [.ref o, .int t] (fun v h' => (mo_nt S t ∧ v = some (.int 0) ∧ h' = mo_h o A h (su (su S 0 0) 0 1)) ∨ ∃ k, mo_tx S t k ∧ ∃ p r T, mo_en (su S 0 0) u k 1 p r T ∧ v = some (.int r) ∧ h' = mo_h o A h T) (fun E h' => False) := by
  refine mw_ofW (cc := cX4_abort) (maxL := 3) (ret := (some .int)) (by decide) rfl (fun w h => List.mem_cons_of_mem _ h) th_cd (Nat.le_of_ble_eq_true rfl) ?_
  intro p e s m below meth c hsz hC hr hlk hnm htab hM ls hl
  have hC : th_C D cs (mo_h o A h S) p m c cX4_abort 3 s [.ref o, .int t] RX4 := hC
  have hx := hC.1.1
  have hb := hC.1.2.1
  have hl : lv_has ls 3 [(0, .ref o), (1, .int t)] := hl
  refine lv_aload_n hx hb dX4_abort_0 rfl (lv_at hl 0 rfl) ?_
  refine lv_iconst (v := 0) hx hb dX4_abort_1 (by decide) ?_
  refine pu_10_0 (index := 53) (v := 0) hC hM hK.1 mb_490 dX4_abort_2 (fun H locs hM => ?_)
  rw [mo_um] at hM
  refine lv_aload_n hx hb dX4_abort_5 rfl (lv_at hl 0 rfl) ?_
  refine lv_iload_n hx hb dX4_abort_6 rfl (lv_at hl 1 rfl) ?_
  refine mw_callV (As := [.int t]) (rest := []) (n := 1) (C := RX4) (T := TX4) (N := 21) (ci := 4) hC hM (c_X4_place l hl0 D cs h H.size o A hK (su S 0 0) t) (cwV 1 hC.1.2.2.2.2 (tb_V mb_577 mb_578 mb_20 mb_40 mb_579) rfl rfl rfl (by decide +kernel) ⟨Nat.le_of_ble_eq_true rfl, Nat.le_of_ble_eq_true rfl⟩) (th_at (h := mo_h o A h (su S 0 0)) hK.1) rfl rfl rfl hl.1 (Nat.le_of_ble_eq_true rfl) dX4_abort_7 ⟨Nat.le_of_ble_eq_true rfl, Nat.le_of_ble_eq_true rfl⟩ (fun E ce q9 g9 H locs hp9 hM hce hcv hcl => ?_) (fun v9 g9 H locs hp9 hM => ?_)
  · exact (hp9.elim fun _ h9 => h9.2.elim)
  obtain ⟨h7, rfl, hp9⟩ := hp9
  obtain ⟨rfl, hp9⟩ := hp9
  rcases hp9 with ⟨k, hk, rfl⟩ | ⟨hk, rfl⟩
  · have k_lt : k < 3 := hk.1
    refine W.eq (g2 := F0 m 10 ls [.int (nI k)]) rfl ?_
    refine lv_istore_n (lv' := [(2, .int (nI k)), (0, .ref o), (1, .int t)]) hx hb dX4_abort_10 rfl hl (by decide) rfl (fun ls hl => ?_)
    refine lv_iload_n hx hb dX4_abort_11 rfl (lv_at hl 0 rfl) ?_
    refine lv_if_ge (tgt := 23) hx hb dX4_abort_12 (by decide) (fun c12 => ?_) (fun c12 => ?_)
    · refine lv_aload_n hx hb dX4_abort_23 rfl (lv_at hl 1 rfl) ?_
      refine lv_iload_n hx hb dX4_abort_24 rfl (lv_at hl 0 rfl) ?_
      refine lv_iconst (v := 1) hx hb dX4_abort_25 (by decide) ?_
      refine mw_callV (As := [.int (nI k), .int 1]) (rest := []) (n := 2) (C := RX4) (T := TX4) (N := 21) (ci := 4) hC hM (c_X4_end l hl0 D cs h H.size o A hK (su S 0 0) k k_lt 1 u hw) (cwV 2 hC.1.2.2.2.2 (tb_V mb_638 mb_639 mb_30 mb_40 mb_640) rfl rfl rfl (by decide +kernel) ⟨Nat.le_of_ble_eq_true rfl, Nat.le_of_ble_eq_true rfl⟩) (th_at (h := mo_h o A h (su S 0 0)) hK.1) rfl rfl rfl hl.1 (Nat.le_of_ble_eq_true rfl) dX4_abort_26 ⟨Nat.le_of_ble_eq_true rfl, Nat.le_of_ble_eq_true rfl⟩ (fun E ce q9 g9 H locs hp9 hM hce hcv hcl => ?_) (fun v9 g9 H locs hp9 hM => ?_)
      · exact (hp9.elim fun _ h9 => h9.2.elim)
      obtain ⟨h26, rfl, hp9⟩ := hp9
      obtain ⟨p9, r9, T, hen, rfl, rfl⟩ := hp9
      refine W.eq (g2 := F0 m 29 ls [.int r9]) rfl ?_
      refine mw_iret hC hM hr hlk dX4_abort_29 (Nat.le_of_ble_eq_true rfl) (Nat.le_of_ble_eq_true rfl) ⟨_, rfl, ?_⟩
      exact Or.inr ⟨k, hk, p9, r9, T, hen, rfl, rfl⟩
    · exact absurd (nI_pos' (by omega)) c12
  · refine W.eq (g2 := F0 m 10 ls [.int (-1)]) rfl ?_
    refine lv_istore_n (lv' := [(2, .int (-1)), (0, .ref o), (1, .int t)]) hx hb dX4_abort_10 rfl hl (by decide) rfl (fun ls hl => ?_)
    refine lv_iload_n hx hb dX4_abort_11 rfl (lv_at hl 0 rfl) ?_
    refine lv_if_ge (tgt := 23) hx hb dX4_abort_12 (by decide) (fun c12 => ?_) (fun c12 => ?_)
    · exact absurd c12 (by decide)
    · refine lv_aload_n hx hb dX4_abort_15 rfl (lv_at hl 1 rfl) ?_
      refine lv_iconst (v := 1) hx hb dX4_abort_16 (by decide) ?_
      refine mw_callV (As := [.int 1]) (rest := []) (n := 1) (C := RX4) (T := TX4) (N := 21) (ci := 4) hC hM (c_X4_raise l hl0 D cs h H.size o A hK (su S 0 0) 1) (cwV 1 hC.1.2.2.2.2 (tb_V mb_567 mb_568 mb_18 mb_40 mb_569) rfl rfl rfl (by decide +kernel) ⟨Nat.le_of_ble_eq_true rfl, Nat.le_of_ble_eq_true rfl⟩) (th_at (h := mo_h o A h (su S 0 0)) hK.1) rfl rfl rfl hl.1 (Nat.le_of_ble_eq_true rfl) dX4_abort_17 ⟨Nat.le_of_ble_eq_true rfl, Nat.le_of_ble_eq_true rfl⟩ (fun E ce q9 g9 H locs hp9 hM hce hcv hcl => ?_) (fun v9 g9 H locs hp9 hM => ?_)
      · exact (hp9.elim fun _ h9 => h9.2.elim)
      obtain ⟨h17, rfl, hp9⟩ := hp9
      obtain ⟨rfl, rfl⟩ := hp9
      refine W.eq (g2 := F0 m 20 ls [.int 0]) rfl ?_
      refine lv_goto (tgt := 29) hx hb dX4_abort_20 (by decide) ?_
      refine mw_iret hC hM hr hlk dX4_abort_29 (Nat.le_of_ble_eq_true rfl) (Nat.le_of_ble_eq_true rfl) ⟨_, rfl, ?_⟩
      exact Or.inl ⟨hk, rfl, rfl⟩

-- the loop at 12 of StableHeapModel.crash
set_option maxHeartbeats 4000000 in
set_option maxRecDepth 100000 in
theorem lo_X4_crash_12 {l : Launch} (hl0 : l.stackTraces = false) {D : va_G} {cs : Nat → ClassId} {h : th_S} (o : Nat) (A : Nat → Nat) (hK : mo_K o A h) (S : th_N) (u : Nat) (hw : mo_W S u) {p : Program} {e : Env} {s : State} {m : MethodId} {below : List Frame} {meth : Method} {c : Code} (hC : th_C D cs (mo_h o A h S) p m c cX4_crash 4 s [.ref o] RX4) (hr : meth.sig.returnType = some .int) (hlk : meth.locks = false) (htab : ∀ x ∈ c.exceptionTable.toList, False) : ∀ (q : Nat) (i p9 : Nat) (U : th_N) (H : Heap) (locs : List Loc) (ls : Array Slot), (i + q = 3) → (mo_cr (su S 0 0) u i p9 U) → th_H D cs (mo_h o A h S) s (mo_h o A h U) H locs → lv_has ls 4 [(0, .ref o), (1, .int (nI (mo_ac S 3))), (2, .int (nI i))] → W p l e { frames := 3, cells := 0, slots := 0, locals := 70 } s m [.ref o].toArray below meth c H locs 0 0 (th_Q below D cs (mo_h o A h S) s [.ref o] (fun v h' => ∃ p T, mo_cr (su S 0 0) u 3 p T ∧ v = some (.int (nI (mo_ac S 3))) ∧ h' = mo_h o A h (su T 14 0)) (fun E h' => False) 0 0) (F0 m 12 ls []) := by
  have hx := hC.1.1
  have hb := hC.1.2.1
  intro q
  induction q with
  | zero =>
    intro i p9 U H locs ls hin hU hM hl
    have hwU := mo_cr.w (show mo_W (su S 0 0) u from hw) hU
    refine lv_iload_n hx hb dX4_crash_12 rfl (lv_at hl 2 rfl) ?_
    refine lv_iconst (v := 3) hx hb dX4_crash_13 (by decide) ?_
    refine lv_icmp_ge (tgt := 42) hx hb dX4_crash_14 (by decide) (fun c14 => ?_) (fun c14 => ?_)
    · refine lv_aload_n hx hb dX4_crash_42 rfl (lv_at hl 0 rfl) ?_
      refine lv_iconst (v := 0) hx hb dX4_crash_43 (by decide) ?_
      refine pu_10_14 (index := 57) (v := 0) hC hM hK.1 mb_504 dX4_crash_44 (fun H locs hM => ?_)
      rw [mo_um] at hM
      refine lv_iload_n hx hb dX4_crash_47 rfl (lv_at hl 1 rfl) ?_
      refine mw_iret hC hM hr hlk dX4_crash_48 (Nat.le_of_ble_eq_true rfl) (Nat.le_of_ble_eq_true rfl) ⟨_, rfl, ?_⟩
      exact ⟨p9, U, by rw [show 3 = i by omega]; exact hU, rfl, rfl⟩
    · exact absurd (nI_le (a := 3) (show 3 ≤ i by omega) (by omega)) c14
  | succ q ih =>
    intro i p9 U H locs ls hin hU hM hl
    have hwU := mo_cr.w (show mo_W (su S 0 0) u from hw) hU
    refine lv_iload_n hx hb dX4_crash_12 rfl (lv_at hl 2 rfl) ?_
    refine lv_iconst (v := 3) hx hb dX4_crash_13 (by decide) ?_
    refine lv_icmp_ge (tgt := 42) hx hb dX4_crash_14 (by decide) (fun c14 => ?_) (fun c14 => ?_)
    · exact absurd c14 (nI_ge (b := 3) (by omega) (by decide))
    · refine lv_aload_n hx hb dX4_crash_17 rfl (lv_at hl 0 rfl) ?_
      refine gr_10_11 (index := 35) hC hM hK.1 mb_501 dX4_crash_18 (hK.r11) ?_
      refine lv_iload_n hx hb dX4_crash_21 rfl (lv_at hl 2 rfl) ?_
      refine al_7 (i := i) (n := 3) hC hM hK.k11 (by first | rfl | decide) (by omega) (by decide) dX4_crash_22 ?_
      rw [mo_a11 hK]
      refine lv_if_ne (tgt := 29) hx hb dX4_crash_23 (by decide) (fun c23 => ?_) (fun c23 => ?_)
      · refine lv_aload_n hx hb dX4_crash_29 rfl (lv_at hl 0 rfl) ?_
        refine lv_iload_n hx hb dX4_crash_30 rfl (lv_at hl 2 rfl) ?_
        refine lv_iconst (v := 1) hx hb dX4_crash_31 (by decide) ?_
        refine mw_callV (As := [.int (nI i), .int 1]) (rest := []) (n := 2) (C := RX4) (T := TX4) (N := 21) (ci := 4) hC hM (c_X4_end l hl0 D cs h H.size o A hK U i (by omega) 1 p9 hwU) (cwV 2 hC.1.2.2.2.2 (tb_V mb_638 mb_639 mb_30 mb_40 mb_640) rfl rfl rfl (by decide +kernel) ⟨Nat.le_of_ble_eq_true rfl, Nat.le_of_ble_eq_true rfl⟩) (th_at (h := mo_h o A h U) hK.1) rfl rfl rfl hl.1 (Nat.le_of_ble_eq_true rfl) dX4_crash_32 ⟨Nat.le_of_ble_eq_true rfl, Nat.le_of_ble_eq_true rfl⟩ (fun E ce q9 g9 H locs hp9 hM hce hcv hcl => ?_) (fun v9 g9 H locs hp9 hM => ?_)
        · exact (hp9.elim fun _ h9 => h9.2.elim)
        obtain ⟨h32, rfl, hp9⟩ := hp9
        obtain ⟨p8, r9, T, hen, rfl, rfl⟩ := hp9
        refine W.eq (g2 := F0 m 35 ls [.int r9]) rfl ?_
        refine lv_istore_n (lv' := [(3, .int r9), (0, .ref o), (1, .int (nI (mo_ac S 3))), (2, .int (nI i))]) hx hb dX4_crash_35 rfl hl (by decide) rfl (fun ls hl => ?_)
        refine lv_iinc (v := nI (i + 1)) (lv' := [(2, .int (nI (i + 1))), (3, .int r9), (0, .ref o), (1, .int (nI (mo_ac S 3)))]) hx hb dX4_crash_36 hl (k := 3) rfl (by exact nI_1 i) (by first | decide | omega) rfl (fun ls hl => ?_)
        refine lv_goto (tgt := 12) hx hb dX4_crash_39 (by decide) ?_
        exact ih (i + 1) p8 T H locs ls (by omega) ⟨p9, U, hU, Or.inr ⟨c23, r9, hen⟩⟩ hM (lv_sub hl [2, 3, 0] rfl)
      · refine lv_goto (tgt := 36) hx hb dX4_crash_26 (by decide) ?_
        refine lv_iinc (v := nI (i + 1)) (lv' := [(2, .int (nI (i + 1))), (0, .ref o), (1, .int (nI (mo_ac S 3)))]) hx hb dX4_crash_36 hl (k := 2) rfl (by exact nI_1 i) (by first | decide | omega) rfl (fun ls hl => ?_)
        refine lv_goto (tgt := 12) hx hb dX4_crash_39 (by decide) ?_
        exact ih (i + 1) p9 U H locs ls (by omega) ⟨p9, U, hU, Or.inl ⟨c23, rfl, rfl⟩⟩ hM (lv_sub hl [1, 2, 0] rfl)

-- StableHeapModel.crash
set_option maxHeartbeats 4000000 in
set_option maxRecDepth 100000 in
theorem c_X4_crash (l : Launch) (hl0 : l.stackTraces = false) (D : va_G) (cs : Nat → ClassId) (h : th_S) (sz : Nat) (o : Nat) (A : Nat → Nat) (hK : mo_K o A h) (S : th_N) (u : Nat) (hw : mo_W S u) : th_M l yX4_crash wsX4_crash { frames := 3, cells := 0, slots := 0, locals := 70 } D cs (mo_h o A h S) sz [.ref o] (fun v h' => ∃ p T, mo_cr (su S 0 0) u 3 p T ∧ v = some (.int (nI (mo_ac S 3))) ∧ h' = mo_h o A h (su T 14 0)) (fun E h' => False) := by
  refine mw_ofW (cc := cX4_crash) (maxL := 4) (ret := (some .int)) (by decide) rfl (fun w h => List.mem_cons_of_mem _ h) th_cd (Nat.le_of_ble_eq_true rfl) ?_
  intro p e s m below meth c hsz hC hr hlk hnm htab hM ls hl
  have hC : th_C D cs (mo_h o A h S) p m c cX4_crash 4 s [.ref o] RX4 := hC
  have hx := hC.1.1
  have hb := hC.1.2.1
  have hl : lv_has ls 4 [(0, .ref o)] := hl
  refine lv_aload_n hx hb dX4_crash_0 rfl (lv_at hl 0 rfl) ?_
  refine lv_iconst (v := 0) hx hb dX4_crash_1 (by decide) ?_
  refine pu_10_0 (index := 53) (v := 0) hC hM hK.1 mb_490 dX4_crash_2 (fun H locs hM => ?_)
  rw [mo_um] at hM
  refine lv_aload_n hx hb dX4_crash_5 rfl (lv_at hl 0 rfl) ?_
  refine mw_callV (As := []) (rest := []) (n := 0) (C := RX4) (T := TX4) (N := 21) (ci := 4) hC hM (c_X4_actives l hl0 D cs h H.size o A hK (su S 0 0) ) (cwV 0 hC.1.2.2.2.2 (tb_V mb_564 mb_565 mb_17 mb_40 mb_566) rfl rfl rfl (by decide +kernel) ⟨Nat.le_of_ble_eq_true rfl, Nat.le_of_ble_eq_true rfl⟩) (th_at (h := mo_h o A h (su S 0 0)) hK.1) rfl rfl rfl hl.1 (Nat.le_of_ble_eq_true rfl) dX4_crash_6 ⟨Nat.le_of_ble_eq_true rfl, Nat.le_of_ble_eq_true rfl⟩ (fun E ce q9 g9 H locs hp9 hM hce hcv hcl => ?_) (fun v9 g9 H locs hp9 hM => ?_)
  · exact (hp9.elim fun _ h9 => h9.2.elim)
  obtain ⟨h6, rfl, hp9⟩ := hp9
  obtain ⟨rfl, rfl⟩ := hp9
  refine W.eq (g2 := F0 m 9 ls [.int (nI (mo_ac S 3))]) rfl ?_
  refine lv_istore_n (lv' := [(1, .int (nI (mo_ac S 3))), (0, .ref o)]) hx hb dX4_crash_9 rfl hl (by decide) rfl (fun ls hl => ?_)
  refine lv_iconst (v := 0) hx hb dX4_crash_10 (by decide) ?_
  refine lv_istore_n (lv' := [(2, .int 0), (1, .int (nI (mo_ac S 3))), (0, .ref o)]) hx hb dX4_crash_11 rfl hl (by decide) rfl (fun ls hl => ?_)
  exact lo_X4_crash_12 hl0 o A hK S u hw hC hr hlk htab 3 0 u (su S 0 0) _ _ ls (by omega) ⟨rfl, rfl⟩ hM (lv_sub hl [2, 1, 0] rfl)

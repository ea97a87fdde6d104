/-! begin and make of the model -/
theorem mo_ac_full (S : th_N) : ∀ k, (∀ j, j < k → ¬ S.2 11 j ≤ 0) → mo_ac S k = k
  | 0, _ => rfl
  | k + 1, h => by
    unfold mo_ac
    rw [mo_ac_full S k (fun j hj => h j (by omega)), if_neg (h k (by omega))]
def mo_bg (S : th_N) (k : Nat) : th_N := sa (sa (su (su S 0 0) 13 (S.1 13 + 1)) 11 k (S.1 13 + 1)) 12 k 1
def mo_zs (S : th_N) (r : Nat) : Nat → th_N
  | 0 => S
  | k + 1 => sa (sa (mo_zs S r k) 4 (4 * r + k) 0) 5 (4 * r + k) 0
theorem mo_zs_1 (S : th_N) (r : Nat) : ∀ k, (mo_zs S r k).1 = S.1
  | 0 => rfl
  | k + 1 => mo_zs_1 S r k
theorem mo_zs_n (S : th_N) (r : Nat) {j : Nat} (h4 : j ≠ 4) (h5 : j ≠ 5) : ∀ k, (mo_zs S r k).2 j = S.2 j
  | 0 => rfl
  | k + 1 => by
    show va_up (va_up (mo_zs S r k).2 4 _) 5 _ j = _
    rw [va_up_ne _ _ h5, va_up_ne _ _ h4]
    exact mo_zs_n S r h4 h5 k
def mo_m1 (S : th_N) (t f : Int32) (r : Nat) : th_N := sa (sa (sa (su (su S 0 0) 9 (S.1 9 + 1)) 1 r (S.1 9 + 1)) 2 r f) 3 r t
def mo_mk (S : th_N) (t f : Int32) (k r : Nat) : th_N := sa (su (mo_zs (mo_m1 S t f r) r 4) 10 (S.1 10 + (1 + f))) 12 k (S.2 12 k + 2)

-- the loop at 39 of StableHeapModel.begin
set_option maxHeartbeats 4000000 in
set_option maxRecDepth 100000 in
theorem lo_X4_begin_39 {l : Launch} (hl0 : l.stackTraces = false) {D : va_G} {cs : Nat → ClassId} {h : th_S} (o : Nat) (A : Nat → Nat) (hK : mo_K o A h) (S : th_N) (ha9 : ¬ nI (mo_ac S 3) = 3) (hg9 : mo_lg S + 1 ≤ 150) {p : Program} {e : Env} {s : State} {m : MethodId} {below : List Frame} {meth : Method} {c : Code} (hC : th_C D cs (mo_h o A h S) p m c cX4_begin 2 s [.ref o] RX4) (hr : meth.sig.returnType = some .int) (hlk : meth.locks = false) (htab : ∀ x ∈ c.exceptionTable.toList, False) : ∀ (q : Nat) (i : Nat) (H : Heap) (locs : List Loc) (ls : Array Slot), (i + q = 3) → (∀ j, j < i → ¬ S.2 11 j ≤ 0) → th_H D cs (mo_h o A h S) s (mo_h o A h (su S 0 0)) H locs → lv_has ls 2 [(0, .ref o), (1, .int (nI i))] → W p l e { frames := 1, cells := 0, slots := 0, locals := 22 } s m [.ref o].toArray below meth c H locs 0 0 (th_Q below D cs (mo_h o A h S) s [.ref o] (fun v h' => (nI (mo_ac S 3) = 3 ∧ h' = mo_h o A h (su (su S 0 0) 0 1) ∧ v = some (.int 0)) ∨ (¬ nI (mo_ac S 3) = 3 ∧ ((¬ mo_lg S + 1 ≤ 150 ∧ h' = mo_h o A h (su (su S 0 0) 0 2) ∧ v = some (.int 0)) ∨ (mo_lg S + 1 ≤ 150 ∧ ∃ k, k < 3 ∧ S.2 11 k ≤ 0 ∧ (∀ j, j < k → ¬ S.2 11 j ≤ 0) ∧ h' = mo_h o A h (mo_bg S k) ∧ v = some (.int (S.1 13 + 1)))))) (fun E h' => False) 0 0) (F0 m 39 ls []) := by
  have hx := hC.1.1
  have hb := hC.1.2.1
  intro q
  induction q with
  | zero =>
    intro i H locs ls hin hn hM hl
    exact absurd (congrArg nI (mo_ac_full S 3 (fun j hj => hn j (by omega)))) ha9
  | succ q ih =>
    intro i H locs ls hin hn hM hl
    refine lv_aload_n hx hb dX4_begin_39 rfl (lv_at hl 0 rfl) ?_
    refine gr_10_11 (index := 35) hC hM hK.1 mb_501 dX4_begin_40 (hK.r11) ?_
    refine lv_iload_n hx hb dX4_begin_43 rfl (lv_at hl 1 rfl) ?_
    refine al_7 (i := i) (n := 3) hC hM hK.k11 (by first | rfl | decide) (by omega) (by decide) dX4_begin_44 ?_
    rw [mo_a11 hK]
    rw [show (su S 0 0).2 11 i = S.2 11 i from by first | rfl | simp [su, sa, va_up]]
    refine lv_if_le (tgt := 54) hx hb dX4_begin_45 (by decide) (fun c45 => ?_) (fun c45 => ?_)
    · refine lv_aload_n hx hb dX4_begin_54 rfl (lv_at hl 0 rfl) ?_
      refine lv_dup hx hb dX4_begin_55 rfl ?_
      refine gi_10_13 (index := 71) hC hM hK.1 mb_503 dX4_begin_56 ?_
      rw [mo_i]
      rw [show (su S 0 0).1 13 = S.1 13 from by first | rfl | simp [su, sa, va_up]]
      refine lv_iconst (v := 1) hx hb dX4_begin_59 (by decide) ?_
      refine lv_iadd hx hb dX4_begin_60 ?_
      refine pu_10_13 (index := 71) (v := (S.1 13) + 1) hC hM hK.1 mb_503 dX4_begin_61 (fun H locs hM => ?_)
      rw [mo_um] at hM
      refine lv_aload_n hx hb dX4_begin_64 rfl (lv_at hl 0 rfl) ?_
      refine gr_10_11 (index := 35) hC hM hK.1 mb_501 dX4_begin_65 (hK.r11) ?_
      refine lv_iload_n hx hb dX4_begin_68 rfl (lv_at hl 1 rfl) ?_
      refine lv_aload_n hx hb dX4_begin_69 rfl (lv_at hl 0 rfl) ?_
      refine gi_10_13 (index := 71) hC hM hK.1 mb_503 dX4_begin_70 ?_
      rw [mo_i]
      rw [show (su (su S 0 0) 13 ((S.1 13) + 1)).1 13 = (S.1 13) + 1 from by first | rfl | simp [su, sa, va_up]]
      refine as_7 (i := i) (v := (S.1 13) + 1) (n := 3) hC hM hK.k11 (by first | rfl | decide) (by omega) (by decide) dX4_begin_73 (fun H locs hM => ?_)
      rw [mo_u11 hK] at hM
      refine lv_aload_n hx hb dX4_begin_74 rfl (lv_at hl 0 rfl) ?_
      refine gr_10_12 (index := 38) hC hM hK.1 mb_502 dX4_begin_75 (hK.r12) ?_
      refine lv_iload_n hx hb dX4_begin_78 rfl (lv_at hl 1 rfl) ?_
      refine lv_iconst (v := 1) hx hb dX4_begin_79 (by decide) ?_
      refine as_7 (i := i) (v := 1) (n := 3) hC hM hK.k12 (by first | rfl | decide) (by omega) (by decide) dX4_begin_80 (fun H locs hM => ?_)
      rw [mo_u12 hK] at hM
      refine lv_aload_n hx hb dX4_begin_81 rfl (lv_at hl 0 rfl) ?_
      refine gi_10_13 (index := 71) hC hM hK.1 mb_503 dX4_begin_82 ?_
      rw [mo_i]
      rw [show (sa (sa (su (su S 0 0) 13 ((S.1 13) + 1)) 11 i ((S.1 13) + 1)) 12 i 1).1 13 = (S.1 13) + 1 from by first | rfl | simp [su, sa, va_up]]
      refine mw_iret hC hM hr hlk dX4_begin_85 (Nat.le_of_ble_eq_true rfl) (Nat.le_of_ble_eq_true rfl) ⟨_, rfl, ?_⟩
      exact Or.inr ⟨ha9, Or.inr ⟨hg9, i, by omega, c45, hn, rfl, rfl⟩⟩
    · refine lv_iinc (v := nI (i + 1)) (lv' := [(1, .int (nI (i + 1))), (0, .ref o)]) hx hb dX4_begin_48 hl (k := 1) rfl (by exact nI_1 i) (by first | decide | omega) rfl (fun ls hl => ?_)
      refine lv_goto (tgt := 39) hx hb dX4_begin_51 (by decide) ?_
      exact ih (i + 1) H locs ls (by omega) (fun j hj => by
        rcases Nat.lt_or_ge j i with z | z
        · exact hn j z
        · rw [show j = i by omega]; exact c45) hM (lv_sub hl [1, 0] rfl)

-- StableHeapModel.begin
set_option maxHeartbeats 4000000 in
set_option maxRecDepth 100000 in
theorem c_X4_begin (l : Launch) (hl0 : l.stackTraces = false) (D : va_G) (cs : Nat → ClassId) (h : th_S) (sz : Nat) (o : Nat) (A : Nat → Nat) (hK : mo_K o A h) (S : th_N) : th_M l yX4_begin wsX4_begin { frames := 1, cells := 0, slots := 0, locals := 22 } D cs (mo_h o A h S) sz [.ref o] (fun v h' => (nI (mo_ac S 3) = 3 ∧ h' = mo_h o A h (su (su S 0 0) 0 1) ∧ v = some (.int 0)) ∨ (¬ nI (mo_ac S 3) = 3 ∧ ((¬ mo_lg S + 1 ≤ 150 ∧ h' = mo_h o A h (su (su S 0 0) 0 2) ∧ v = some (.int 0)) ∨ (mo_lg S + 1 ≤ 150 ∧ ∃ k, k < 3 ∧ S.2 11 k ≤ 0 ∧ (∀ j, j < k → ¬ S.2 11 j ≤ 0) ∧ h' = mo_h o A h (mo_bg S k) ∧ v = some (.int (S.1 13 + 1)))))) (fun E h' => False) := by
  refine mw_ofW (cc := cX4_begin) (maxL := 2) (ret := (some .int)) (by decide) rfl (fun w h => List.mem_cons_of_mem _ h) th_cd (Nat.le_of_ble_eq_true rfl) ?_
  intro p e s m below meth c hsz hC hr hlk hnm htab hM ls hl
  have hC : th_C D cs (mo_h o A h S) p m c cX4_begin 2 s [.ref o] RX4 := hC
  have hx := hC.1.1
  have hb := hC.1.2.1
  have hl : lv_has ls 2 [(0, .ref o)] := hl
  refine lv_aload_n hx hb dX4_begin_0 rfl (lv_at hl 0 rfl) ?_
  refine lv_iconst (v := 0) hx hb dX4_begin_1 (by decide) ?_
  refine pu_10_0 (index := 53) (v := 0) hC hM hK.1 mb_490 dX4_begin_2 (fun H locs hM => ?_)
  rw [mo_um] at hM
  refine lv_aload_n hx hb dX4_begin_5 rfl (lv_at hl 0 rfl) ?_
  refine mw_callV (As := []) (rest := []) (n := 0) (C := RX4) (T := TX4) (N := 21) (ci := 4) hC hM (c_X4_actives l hl0 D cs h H.size o A hK (su S 0 0) ) (cwV 0 hC.1.2.2.2.2 (tb_V mb_564 mb_565 mb_17 mb_40 mb_566) rfl rfl rfl (by decide +kernel) ⟨Nat.le_of_ble_eq_true rfl, Nat.le_of_ble_eq_true rfl⟩) (th_at (h := mo_h o A h (su S 0 0)) hK.1) rfl rfl rfl hl.1 (Nat.le_of_ble_eq_true rfl) dX4_begin_6 ⟨Nat.le_of_ble_eq_true rfl, Nat.le_of_ble_eq_true rfl⟩ (fun E ce q9 g9 H locs hp9 hM hce hcv hcl => ?_) (fun v9 g9 H locs hp9 hM => ?_)
  · exact (hp9.elim fun _ h9 => h9.2.elim)
  obtain ⟨h6, rfl, hp9⟩ := hp9
  obtain ⟨rfl, rfl⟩ := hp9
  refine W.eq (g2 := F0 m 9 ls [.int (nI (mo_ac S 3))]) rfl ?_
  refine lv_iconst (v := 3) hx hb dX4_begin_9 (by decide) ?_
  refine lv_icmp_ne (tgt := 19) hx hb dX4_begin_10 (by decide) (fun c10 => ?_) (fun c10 => ?_)
  · refine lv_aload_n hx hb dX4_begin_19 rfl (lv_at hl 0 rfl) ?_
    refine mw_callV (As := []) (rest := []) (n := 0) (C := RX4) (T := TX4) (N := 21) (ci := 4) hC hM (c_X4_log l hl0 D cs h H.size o A hK (su S 0 0) ) (cwV 0 hC.1.2.2.2.2 (tb_V mb_570 mb_571 mb_19 mb_40 mb_572) rfl rfl rfl (by decide +kernel) ⟨Nat.le_of_ble_eq_true rfl, Nat.le_of_ble_eq_true rfl⟩) (th_at (h := mo_h o A h (su S 0 0)) hK.1) rfl rfl rfl hl.1 (Nat.le_of_ble_eq_true rfl) dX4_begin_20 ⟨Nat.le_of_ble_eq_true rfl, Nat.le_of_ble_eq_true rfl⟩ (fun E ce q9 g9 H locs hp9 hM hce hcv hcl => ?_) (fun v9 g9 H locs hp9 hM => ?_)
    · exact (hp9.elim fun _ h9 => h9.2.elim)
    obtain ⟨h20, rfl, hp9⟩ := hp9
    obtain ⟨rfl, rfl⟩ := hp9
    refine W.eq (g2 := F0 m 23 ls [.int (mo_lg S)]) rfl ?_
    refine lv_iconst (v := 1) hx hb dX4_begin_23 (by decide) ?_
    refine lv_iadd hx hb dX4_begin_24 ?_
    refine lv_sipush (v := 150) hx hb dX4_begin_25 (by decide) ?_
    refine lv_icmp_le (tgt := 37) hx hb dX4_begin_28 (by decide) (fun c28 => ?_) (fun c28 => ?_)
    · refine lv_iconst (v := 0) hx hb dX4_begin_37 (by decide) ?_
      refine lv_istore_n (lv' := [(1, .int 0), (0, .ref o)]) hx hb dX4_begin_38 rfl hl (by decide) rfl (fun ls hl => ?_)
      exact lo_X4_begin_39 hl0 o A hK S c10 c28 hC hr hlk htab 3 0 _ _ ls (by omega) (fun j hj => absurd hj (Nat.not_lt_zero j)) hM (lv_sub hl [1, 0] rfl)
    · refine lv_aload_n hx hb dX4_begin_31 rfl (lv_at hl 0 rfl) ?_
      refine lv_iconst (v := 2) hx hb dX4_begin_32 (by decide) ?_
      refine mw_callV (As := [.int 2]) (rest := []) (n := 1) (C := RX4) (T := TX4) (N := 21) (ci := 4) hC hM (c_X4_raise l hl0 D cs h H.size o A hK (su S 0 0) 2) (cwV 1 hC.1.2.2.2.2 (tb_V mb_567 mb_568 mb_18 mb_40 mb_569) rfl rfl rfl (by decide +kernel) ⟨Nat.le_of_ble_eq_true rfl, Nat.le_of_ble_eq_true rfl⟩) (th_at (h := mo_h o A h (su S 0 0)) hK.1) rfl rfl rfl hl.1 (Nat.le_of_ble_eq_true rfl) dX4_begin_33 ⟨Nat.le_of_ble_eq_true rfl, Nat.le_of_ble_eq_true rfl⟩ (fun E ce q9 g9 H locs hp9 hM hce hcv hcl => ?_) (fun v9 g9 H locs hp9 hM => ?_)
      · exact (hp9.elim fun _ h9 => h9.2.elim)
      obtain ⟨h33, rfl, hp9⟩ := hp9
      obtain ⟨rfl, rfl⟩ := hp9
      refine W.eq (g2 := F0 m 36 ls [.int 0]) rfl ?_
      refine mw_iret hC hM hr hlk dX4_begin_36 (Nat.le_of_ble_eq_true rfl) (Nat.le_of_ble_eq_true rfl) ⟨_, rfl, ?_⟩
      exact Or.inr ⟨c10, Or.inl ⟨c28, rfl, rfl⟩⟩
  · refine lv_aload_n hx hb dX4_begin_13 rfl (lv_at hl 0 rfl) ?_
    refine lv_iconst (v := 1) hx hb dX4_begin_14 (by decide) ?_
    refine mw_callV (As := [.int 1]) (rest := []) (n := 1) (C := RX4) (T := TX4) (N := 21) (ci := 4) hC hM (c_X4_raise l hl0 D cs h H.size o A hK (su S 0 0) 1) (cwV 1 hC.1.2.2.2.2 (tb_V mb_567 mb_568 mb_18 mb_40 mb_569) rfl rfl rfl (by decide +kernel) ⟨Nat.le_of_ble_eq_true rfl, Nat.le_of_ble_eq_true rfl⟩) (th_at (h := mo_h o A h (su S 0 0)) hK.1) rfl rfl rfl hl.1 (Nat.le_of_ble_eq_true rfl) dX4_begin_15 ⟨Nat.le_of_ble_eq_true rfl, Nat.le_of_ble_eq_true rfl⟩ (fun E ce q9 g9 H locs hp9 hM hce hcv hcl => ?_) (fun v9 g9 H locs hp9 hM => ?_)
    · exact (hp9.elim fun _ h9 => h9.2.elim)
    obtain ⟨h15, rfl, hp9⟩ := hp9
    obtain ⟨rfl, rfl⟩ := hp9
    refine W.eq (g2 := F0 m 18 ls [.int 0]) rfl ?_
    refine mw_iret hC hM hr hlk dX4_begin_18 (Nat.le_of_ble_eq_true rfl) (Nat.le_of_ble_eq_true rfl) ⟨_, rfl, ?_⟩
    exact Or.inl ⟨c10, rfl, rfl⟩

-- the loop at 134 of StableHeapModel.make
set_option maxHeartbeats 4000000 in
set_option maxRecDepth 100000 in
theorem lo_X4_make_134 {l : Launch} (hl0 : l.stackTraces = false) {D : va_G} {cs : Nat → ClassId} {h : th_S} (o : Nat) (A : Nat → Nat) (hK : mo_K o A h) (S : th_N) (t f : Int32) (hfr : S.1 10 + 1 + f ≤ 80 → ¬ f < 0 → f ≤ 4 → ∃ r, r < 80 ∧ S.2 1 r ≤ 0) (k : Nat) (hk : mo_tx S t k) (ho9 : ¬ f < 0) (ho8 : f ≤ 4) (hu9 : S.1 10 + 1 + f ≤ 80) (hg9 : mo_lg S + 2 ≤ 150) (i : Nat) (hi8 : i < 80) (hi0 : S.2 1 i ≤ 0) (hn : ∀ j, j < i → ¬ S.2 1 j ≤ 0) {p : Program} {e : Env} {s : State} {m : MethodId} {below : List Frame} {meth : Method} {c : Code} (hC : th_C D cs (mo_h o A h S) p m c cX4_make 6 s [.ref o, .int t, .int f] RX4) (hr : meth.sig.returnType = some .int) (hlk : meth.locks = false) (htab : ∀ x ∈ c.exceptionTable.toList, False) : ∀ (q : Nat) (j : Nat) (H : Heap) (locs : List Loc) (ls : Array Slot), (j + q = 4) → th_H D cs (mo_h o A h S) s (mo_h o A h (mo_zs (mo_m1 S t f i) i j)) H locs → lv_has ls 6 [(0, .ref o), (1, .int t), (2, .int f), (3, .int (nI k)), (4, .int (nI i)), (5, .int (nI (4 * i + j)))] → W p l e { frames := 1, cells := 0, slots := 0, locals := 22 } s m [.ref o, .int t, .int f].toArray below meth c H locs 0 0 (th_Q below D cs (mo_h o A h S) s [.ref o, .int t, .int f] (fun v h' => (mo_nt S t ∧ h' = mo_h o A h (su (su S 0 0) 0 1) ∧ v = some (.int 0)) ∨ ∃ k, mo_tx S t k ∧ (((f < 0 ∨ ¬ f ≤ 4) ∧ h' = mo_h o A h (su (su S 0 0) 0 2) ∧ v = some (.int 0)) ∨ (¬ f < 0 ∧ f ≤ 4 ∧ ((¬ S.1 10 + 1 + f ≤ 80 ∧ h' = mo_h o A h (su (su S 0 0) 0 3) ∧ v = some (.int 0)) ∨ (S.1 10 + 1 + f ≤ 80 ∧ ((¬ mo_lg S + 2 ≤ 150 ∧ h' = mo_h o A h (su (su S 0 0) 0 4) ∧ v = some (.int 0)) ∨ (mo_lg S + 2 ≤ 150 ∧ ∃ r, r < 80 ∧ S.2 1 r ≤ 0 ∧ (∀ j, j < r → ¬ S.2 1 j ≤ 0) ∧ h' = mo_h o A h (mo_mk S t f k r) ∧ v = some (.int (S.1 9 + 1))))))))) (fun E h' => False) 0 0) (F0 m 134 ls []) := by
  have hx := hC.1.1
  have hb := hC.1.2.1
  intro q
  induction q with
  | zero =>
    intro j H locs ls hin hM hl
    have hk3 : k < 3 := hk.1
    refine lv_iload hx hb dX4_make_134 (lv_at hl 5 rfl) ?_
    refine lv_iconst (v := 4) hx hb dX4_make_136 (by decide) ?_
    refine lv_iload hx hb dX4_make_137 (lv_at hl 4 rfl) ?_
    refine lv_imul hx hb dX4_make_139 ?_
    rw [show 4 * (nI i) = nI (4 * i) from nI_mul 4 i]
    refine lv_iconst (v := 4) hx hb dX4_make_140 (by decide) ?_
    refine lv_iadd hx hb dX4_make_141 ?_
    rw [show (nI (4 * i)) + 4 = nI (4 * i + 4) from nI_add (4 * i) 4]
    refine lv_icmp_ge (tgt := 167) hx hb dX4_make_142 (by decide) (fun c142 => ?_) (fun c142 => ?_)
    · refine lv_aload_n hx hb dX4_make_167 rfl (lv_at hl 0 rfl) ?_
      refine lv_dup hx hb dX4_make_168 rfl ?_
      refine gi_10_10 (index := 81) hC hM hK.1 mb_500 dX4_make_169 ?_
      rw [mo_i]
      rw [show (mo_zs (mo_m1 S t f i) i j).1 10 = S.1 10 from by rw [mo_zs_1]; rfl]
      refine lv_iconst (v := 1) hx hb dX4_make_172 (by decide) ?_
      refine lv_iload_n hx hb dX4_make_173 rfl (lv_at hl 2 rfl) ?_
      refine lv_iadd hx hb dX4_make_174 ?_
      refine lv_iadd hx hb dX4_make_175 ?_
      refine pu_10_10 (index := 81) (v := (S.1 10) + (1 + f)) hC hM hK.1 mb_500 dX4_make_176 (fun H locs hM => ?_)
      rw [mo_um] at hM
      refine lv_aload_n hx hb dX4_make_179 rfl (lv_at hl 0 rfl) ?_
      refine gr_10_12 (index := 38) hC hM hK.1 mb_502 dX4_make_180 (hK.r12) ?_
      refine lv_iload_n hx hb dX4_make_183 rfl (lv_at hl 3 rfl) ?_
      refine lv_dup2_11 hx hb dX4_make_184 rfl rfl ?_
      refine al_7 (i := k) (n := 3) hC hM hK.k12 (by first | rfl | decide) (by omega) (by decide) dX4_make_185 ?_
      rw [mo_a12 hK]
      rw [show (su (mo_zs (mo_m1 S t f i) i j) 10 ((S.1 10) + (1 + f))).2 12 k = (mo_zs (mo_m1 S t f i) i j).2 12 k from by first | rfl | simp [su, sa, va_up]]
      rw [show (mo_zs (mo_m1 S t f i) i j).2 12 k = S.2 12 k from by rw [mo_zs_n _ _ (by decide) (by decide)]; rfl]
      refine lv_iconst (v := 2) hx hb dX4_make_186 (by decide) ?_
      refine lv_iadd hx hb dX4_make_187 ?_
      refine as_7 (i := k) (v := (S.2 12 k) + 2) (n := 3) hC hM hK.k12 (by first | rfl | decide) (by omega) (by decide) dX4_make_188 (fun H locs hM => ?_)
      rw [mo_u12 hK] at hM
      refine lv_aload_n hx hb dX4_make_189 rfl (lv_at hl 0 rfl) ?_
      refine gi_10_9 (index := 84) hC hM hK.1 mb_499 dX4_make_190 ?_
      rw [mo_i]
      rw [show (sa (su (mo_zs (mo_m1 S t f i) i j) 10 ((S.1 10) + (1 + f))) 12 k ((S.2 12 k) + 2)).1 9 = (mo_zs (mo_m1 S t f i) i j).1 9 from by first | rfl | simp [su, sa, va_up]]
      rw [show (mo_zs (mo_m1 S t f i) i j).1 9 = S.1 9 + 1 from by rw [mo_zs_1]; rfl]
      refine mw_iret hC hM hr hlk dX4_make_193 (Nat.le_of_ble_eq_true rfl) (Nat.le_of_ble_eq_true rfl) ⟨_, rfl, ?_⟩
      obtain rfl : j = 4 := by omega
      exact Or.inr ⟨k, hk, Or.inr ⟨ho9, ho8, Or.inr ⟨hu9, Or.inr ⟨hg9, i, by omega, hi0, hn, rfl, rfl⟩⟩⟩⟩
    · exact absurd (nI_le (show 4 * i + 4 ≤ 4 * i + j by omega) (by omega)) c142
  | succ q ih =>
    intro j H locs ls hin hM hl
    have hk3 : k < 3 := hk.1
    refine lv_iload hx hb dX4_make_134 (lv_at hl 5 rfl) ?_
    refine lv_iconst (v := 4) hx hb dX4_make_136 (by decide) ?_
    refine lv_iload hx hb dX4_make_137 (lv_at hl 4 rfl) ?_
    refine lv_imul hx hb dX4_make_139 ?_
    rw [show 4 * (nI i) = nI (4 * i) from nI_mul 4 i]
    refine lv_iconst (v := 4) hx hb dX4_make_140 (by decide) ?_
    refine lv_iadd hx hb dX4_make_141 ?_
    rw [show (nI (4 * i)) + 4 = nI (4 * i + 4) from nI_add (4 * i) 4]
    refine lv_icmp_ge (tgt := 167) hx hb dX4_make_142 (by decide) (fun c142 => ?_) (fun c142 => ?_)
    · exact absurd c142 (nI_ge (show 4 * i + j < 4 * i + 4 by omega) (by omega))
    · refine lv_aload_n hx hb dX4_make_145 rfl (lv_at hl 0 rfl) ?_
      refine gr_10_4 (index := 19) hC hM hK.1 mb_494 dX4_make_146 (hK.r4) ?_
      refine lv_iload hx hb dX4_make_149 (lv_at hl 5 rfl) ?_
      refine lv_iconst (v := 0) hx hb dX4_make_151 (by decide) ?_
      refine as_8 (i := 4 * i + j) (v := 0) (n := 320) hC hM hK.k4 (by first | rfl | decide) (by omega) (by decide) (by first | exact Or.inl rfl | exact Or.inr rfl) dX4_make_152 (fun H locs hM => ?_)
      rw [mo_u4 hK] at hM
      refine lv_aload_n hx hb dX4_make_153 rfl (lv_at hl 0 rfl) ?_
      refine gr_10_5 (index := 23) hC hM hK.1 mb_495 dX4_make_154 (hK.r5) ?_
      refine lv_iload hx hb dX4_make_157 (lv_at hl 5 rfl) ?_
      refine lv_iconst (v := 0) hx hb dX4_make_159 (by decide) ?_
      refine as_7 (i := 4 * i + j) (v := 0) (n := 320) hC hM hK.k5 (by first | rfl | decide) (by omega) (by decide) dX4_make_160 (fun H locs hM => ?_)
      rw [mo_u5 hK] at hM
      refine lv_iinc (v := nI (4 * i + (j + 1))) (lv' := [(5, .int (nI (4 * i + (j + 1)))), (0, .ref o), (1, .int t), (2, .int f), (3, .int (nI k)), (4, .int (nI i))]) hx hb dX4_make_161 hl (k := 5) rfl (by exact nI_1 (4 * i + j)) (by first | decide | omega) rfl (fun ls hl => ?_)
      refine lv_goto (tgt := 134) hx hb dX4_make_164 (by decide) ?_
      exact ih (j + 1) H locs ls (by omega) hM (lv_sub hl [1, 2, 3, 4, 5, 0] rfl)

-- the loop at 75 of StableHeapModel.make
set_option maxHeartbeats 4000000 in
set_option maxRecDepth 100000 in
theorem lo_X4_make_75 {l : Launch} (hl0 : l.stackTraces = false) {D : va_G} {cs : Nat → ClassId} {h : th_S} (o : Nat) (A : Nat → Nat) (hK : mo_K o A h) (S : th_N) (t f : Int32) (hfr : S.1 10 + 1 + f ≤ 80 → ¬ f < 0 → f ≤ 4 → ∃ r, r < 80 ∧ S.2 1 r ≤ 0) (k : Nat) (hk : mo_tx S t k) (ho9 : ¬ f < 0) (ho8 : f ≤ 4) (hu9 : S.1 10 + 1 + f ≤ 80) (hg9 : mo_lg S + 2 ≤ 150) {p : Program} {e : Env} {s : State} {m : MethodId} {below : List Frame} {meth : Method} {c : Code} (hC : th_C D cs (mo_h o A h S) p m c cX4_make 6 s [.ref o, .int t, .int f] RX4) (hr : meth.sig.returnType = some .int) (hlk : meth.locks = false) (htab : ∀ x ∈ c.exceptionTable.toList, False) : ∀ (q : Nat) (i : Nat) (H : Heap) (locs : List Loc) (ls : Array Slot), (i + q = 80) → (∀ j, j < i → ¬ S.2 1 j ≤ 0) → th_H D cs (mo_h o A h S) s (mo_h o A h (su S 0 0)) H locs → lv_has ls 6 [(0, .ref o), (1, .int t), (2, .int f), (3, .int (nI k)), (4, .int (nI i))] → W p l e { frames := 1, cells := 0, slots := 0, locals := 22 } s m [.ref o, .int t, .int f].toArray below meth c H locs 0 0 (th_Q below D cs (mo_h o A h S) s [.ref o, .int t, .int f] (fun v h' => (mo_nt S t ∧ h' = mo_h o A h (su (su S 0 0) 0 1) ∧ v = some (.int 0)) ∨ ∃ k, mo_tx S t k ∧ (((f < 0 ∨ ¬ f ≤ 4) ∧ h' = mo_h o A h (su (su S 0 0) 0 2) ∧ v = some (.int 0)) ∨ (¬ f < 0 ∧ f ≤ 4 ∧ ((¬ S.1 10 + 1 + f ≤ 80 ∧ h' = mo_h o A h (su (su S 0 0) 0 3) ∧ v = some (.int 0)) ∨ (S.1 10 + 1 + f ≤ 80 ∧ ((¬ mo_lg S + 2 ≤ 150 ∧ h' = mo_h o A h (su (su S 0 0) 0 4) ∧ v = some (.int 0)) ∨ (mo_lg S + 2 ≤ 150 ∧ ∃ r, r < 80 ∧ S.2 1 r ≤ 0 ∧ (∀ j, j < r → ¬ S.2 1 j ≤ 0) ∧ h' = mo_h o A h (mo_mk S t f k r) ∧ v = some (.int (S.1 9 + 1))))))))) (fun E h' => False) 0 0) (F0 m 75 ls []) := by
  have hx := hC.1.1
  have hb := hC.1.2.1
  intro q
  induction q with
  | zero =>
    intro i H locs ls hin hn hM hl
    obtain ⟨r, hr8, hr0⟩ := hfr hu9 ho9 ho8
    exact absurd hr0 (hn r (by omega))
  | succ q ih =>
    intro i H locs ls hin hn hM hl
    refine lv_aload_n hx hb dX4_make_75 rfl (lv_at hl 0 rfl) ?_
    refine gr_10_1 (index := 7) hC hM hK.1 mb_491 dX4_make_76 (hK.r1) ?_
    refine lv_iload hx hb dX4_make_79 (lv_at hl 4 rfl) ?_
    refine al_7 (i := i) (n := 80) hC hM hK.k1 (by first | rfl | decide) (by omega) (by decide) dX4_make_81 ?_
    rw [mo_a1 hK]
    rw [show (su S 0 0).2 1 i = S.2 1 i from by first | rfl | simp [su, sa, va_up]]
    refine lv_if_le (tgt := 91) hx hb dX4_make_82 (by decide) (fun c82 => ?_) (fun c82 => ?_)
    · refine lv_aload_n hx hb dX4_make_91 rfl (lv_at hl 0 rfl) ?_
      refine lv_dup hx hb dX4_make_92 rfl ?_
      refine gi_10_9 (index := 84) hC hM hK.1 mb_499 dX4_make_93 ?_
      rw [mo_i]
      rw [show (su S 0 0).1 9 = S.1 9 from by first | rfl | simp [su, sa, va_up]]
      refine lv_iconst (v := 1) hx hb dX4_make_96 (by decide) ?_
      refine lv_iadd hx hb dX4_make_97 ?_
      refine pu_10_9 (index := 84) (v := (S.1 9) + 1) hC hM hK.1 mb_499 dX4_make_98 (fun H locs hM => ?_)
      rw [mo_um] at hM
      refine lv_aload_n hx hb dX4_make_101 rfl (lv_at hl 0 rfl) ?_
      refine gr_10_1 (index := 7) hC hM hK.1 mb_491 dX4_make_102 (hK.r1) ?_
      refine lv_iload hx hb dX4_make_105 (lv_at hl 4 rfl) ?_
      refine lv_aload_n hx hb dX4_make_107 rfl (lv_at hl 0 rfl) ?_
      refine gi_10_9 (index := 84) hC hM hK.1 mb_499 dX4_make_108 ?_
      rw [mo_i]
      rw [show (su (su S 0 0) 9 ((S.1 9) + 1)).1 9 = (S.1 9) + 1 from by first | rfl | simp [su, sa, va_up]]
      refine as_7 (i := i) (v := (S.1 9) + 1) (n := 80) hC hM hK.k1 (by first | rfl | decide) (by omega) (by decide) dX4_make_111 (fun H locs hM => ?_)
      rw [mo_u1 hK] at hM
      refine lv_aload_n hx hb dX4_make_112 rfl (lv_at hl 0 rfl) ?_
      refine gr_10_2 (index := 13) hC hM hK.1 mb_492 dX4_make_113 (hK.r2) ?_
      refine lv_iload hx hb dX4_make_116 (lv_at hl 4 rfl) ?_
      refine lv_iload_n hx hb dX4_make_118 rfl (lv_at hl 2 rfl) ?_
      refine as_7 (i := i) (v := f) (n := 80) hC hM hK.k2 (by first | rfl | decide) (by omega) (by decide) dX4_make_119 (fun H locs hM => ?_)
      rw [mo_u2 hK] at hM
      refine lv_aload_n hx hb dX4_make_120 rfl (lv_at hl 0 rfl) ?_
      refine gr_10_3 (index := 16) hC hM hK.1 mb_493 dX4_make_121 (hK.r3) ?_
      refine lv_iload hx hb dX4_make_124 (lv_at hl 4 rfl) ?_
      refine lv_iload_n hx hb dX4_make_126 rfl (lv_at hl 1 rfl) ?_
      refine as_7 (i := i) (v := t) (n := 80) hC hM hK.k3 (by first | rfl | decide) (by omega) (by decide) dX4_make_127 (fun H locs hM => ?_)
      rw [mo_u3 hK] at hM
      refine lv_iconst (v := 4) hx hb dX4_make_128 (by decide) ?_
      refine lv_iload hx hb dX4_make_129 (lv_at hl 4 rfl) ?_
      refine lv_imul hx hb dX4_make_131 ?_
      rw [show 4 * (nI i) = nI (4 * i) from nI_mul 4 i]
      refine lv_istore (lv' := [(5, .int (nI (4 * i))), (0, .ref o), (1, .int t), (2, .int f), (3, .int (nI k)), (4, .int (nI i))]) hx hb dX4_make_132 hl (by decide) rfl (fun ls hl => ?_)
      exact lo_X4_make_134 hl0 o A hK S t f hfr k hk ho9 ho8 hu9 hg9 i (by omega) c82 hn hC hr hlk htab 4 0 _ _ ls (by omega) hM (lv_sub hl [1, 2, 3, 4, 5, 0] rfl)
    · refine lv_iinc (v := nI (i + 1)) (lv' := [(4, .int (nI (i + 1))), (0, .ref o), (1, .int t), (2, .int f), (3, .int (nI k))]) hx hb dX4_make_85 hl (k := 4) rfl (by exact nI_1 i) (by first | decide | omega) rfl (fun ls hl => ?_)
      refine lv_goto (tgt := 75) hx hb dX4_make_88 (by decide) ?_
      exact ih (i + 1) H locs ls (by omega) (fun j hj => by
        rcases Nat.lt_or_ge j i with z | z
        · exact hn j z
        · rw [show j = i by omega]; exact c82) hM (lv_sub hl [1, 2, 3, 4, 0] rfl)

-- StableHeapModel.make
set_option maxHeartbeats 4000000 in
set_option maxRecDepth 100000 in
theorem c_X4_make (l : Launch) (hl0 : l.stackTraces = false) (D : va_G) (cs : Nat → ClassId) (h : th_S) (sz : Nat) (o : Nat) (A : Nat → Nat) (hK : mo_K o A h) (S : th_N) (t f : Int32) (hfr : S.1 10 + 1 + f ≤ 80 → ¬ f < 0 → f ≤ 4 → ∃ r, r < 80 ∧ S.2 1 r ≤ 0) : th_M l yX4_make wsX4_make { frames := 1, cells := 0, slots := 0, locals := 22 } D cs (mo_h o A h S) sz [.ref o, .int t, .int f] (fun v h' => (mo_nt S t ∧ h' = mo_h o A h (su (su S 0 0) 0 1) ∧ v = some (.int 0)) ∨ ∃ k, mo_tx S t k ∧ (((f < 0 ∨ ¬ f ≤ 4) ∧ h' = mo_h o A h (su (su S 0 0) 0 2) ∧ v = some (.int 0)) ∨ (¬ f < 0 ∧ f ≤ 4 ∧ ((¬ S.1 10 + 1 + f ≤ 80 ∧ h' = mo_h o A h (su (su S 0 0) 0 3) ∧ v = some (.int 0)) ∨ (S.1 10 + 1 + f ≤ 80 ∧ ((¬ mo_lg S + 2 ≤ 150 ∧ h' = mo_h o A h (su (su S 0 0) 0 4) ∧ v = some (.int 0)) ∨ (mo_lg S + 2 ≤ 150 ∧ ∃ r, r < 80 ∧ S.2 1 r ≤ 0 ∧ (∀ j, j < r → ¬ S.2 1 j ≤ 0) ∧ h' = mo_h o A h (mo_mk S t f k r) ∧ v = some (.int (S.1 9 + 1))))))))) (fun E h' => False) := by
  refine mw_ofW (cc := cX4_make) (maxL := 6) (ret := (some .int)) (by decide) rfl (fun w h => List.mem_cons_of_mem _ h) th_cd (Nat.le_of_ble_eq_true rfl) ?_
  intro p e s m below meth c hsz hC hr hlk hnm htab hM ls hl
  have hC : th_C D cs (mo_h o A h S) p m c cX4_make 6 s [.ref o, .int t, .int f] RX4 := hC
  have hx := hC.1.1
  have hb := hC.1.2.1
  have hl : lv_has ls 6 [(0, .ref o), (1, .int t), (2, .int f)] := hl
  refine lv_aload_n hx hb dX4_make_0 rfl (lv_at hl 0 rfl) ?_
  refine lv_iconst (v := 0) hx hb dX4_make_1 (by decide) ?_
  refine pu_10_0 (index := 53) (v := 0) hC hM hK.1 mb_490 dX4_make_2 (fun H locs hM => ?_)
  rw [mo_um] at hM
  refine lv_aload_n hx hb dX4_make_5 rfl (lv_at hl 0 rfl) ?_
  refine lv_iload_n hx hb dX4_make_6 rfl (lv_at hl 1 rfl) ?_
  refine mw_callV (As := [.int t]) (rest := []) (n := 1) (C := RX4) (T := TX4) (N := 21) (ci := 4) hC hM (c_X4_place l hl0 D cs h H.size o A hK (su S 0 0) t) (cwV 1 hC.1.2.2.2.2 (tb_V mb_577 mb_578 mb_20 mb_40 mb_579) rfl rfl rfl (by decide +kernel) ⟨Nat.le_of_ble_eq_true rfl, Nat.le_of_ble_eq_true rfl⟩) (th_at (h := mo_h o A h (su S 0 0)) hK.1) rfl rfl rfl hl.1 (Nat.le_of_ble_eq_true rfl) dX4_make_7 ⟨Nat.le_of_ble_eq_true rfl, Nat.le_of_ble_eq_true rfl⟩ (fun E ce q9 g9 H locs hp9 hM hce hcv hcl => ?_) (fun v9 g9 H locs hp9 hM => ?_)
  · exact (hp9.elim fun _ h9 => h9.2.elim)
  obtain ⟨h7, rfl, hp9⟩ := hp9
  obtain ⟨rfl, hp9⟩ := hp9
  rcases hp9 with ⟨k, hk, rfl⟩ | ⟨hk, rfl⟩
  · have k_lt : k < 3 := hk.1
    refine W.eq (g2 := F0 m 10 ls [.int (nI k)]) rfl ?_
    refine lv_istore_n (lv' := [(3, .int (nI k)), (0, .ref o), (1, .int t), (2, .int f)]) hx hb dX4_make_10 rfl hl (by decide) rfl (fun ls hl => ?_)
    refine lv_iload_n hx hb dX4_make_11 rfl (lv_at hl 0 rfl) ?_
    refine lv_if_ge (tgt := 21) hx hb dX4_make_12 (by decide) (fun c12 => ?_) (fun c12 => ?_)
    · refine lv_iload_n hx hb dX4_make_21 rfl (lv_at hl 3 rfl) ?_
      refine lv_iconst (v := 4) hx hb dX4_make_22 (by decide) ?_
      refine mw_callS (As := [.int f, .int 4]) (rest := []) (n := 2) hC hM (c_X4_out l hl0 D cs (mo_h o A h (su S 0 0)) H.size f 4) (va_cwS 2 hC.1.2.2.2.2 (tb_S mb_580 mb_581 mb_40 mb_582) rfl rfl rfl (by decide +kernel) ⟨Nat.le_of_ble_eq_true rfl, Nat.le_of_ble_eq_true rfl⟩) rfl rfl hl.1 (Nat.le_of_ble_eq_true rfl) dX4_make_23 ⟨Nat.le_of_ble_eq_true rfl, Nat.le_of_ble_eq_true rfl⟩ (fun E ce q9 g9 H locs hp9 hM hce hcv hcl => ?_) (fun v9 g9 H locs hp9 hM => ?_)
      · exact (hp9.elim fun _ h9 => h9.2.elim)
      obtain ⟨h23, rfl, hp9⟩ := hp9
      obtain ⟨rfl, hp9⟩ := hp9
      rcases hp9 with ⟨rfl, ho9⟩ | ⟨rfl, ho9, ho8⟩
      · refine W.eq (g2 := F0 m 26 ls [.int 1]) rfl ?_
        refine lv_if_eq (tgt := 35) hx hb dX4_make_26 (by decide) (fun c26 => ?_) (fun c26 => ?_)
        · exact absurd c26 (by decide)
        · refine lv_aload_n hx hb dX4_make_29 rfl (lv_at hl 1 rfl) ?_
          refine lv_iconst (v := 2) hx hb dX4_make_30 (by decide) ?_
          refine mw_callV (As := [.int 2]) (rest := []) (n := 1) (C := RX4) (T := TX4) (N := 21) (ci := 4) hC hM (c_X4_raise l hl0 D cs h H.size o A hK (su S 0 0) 2) (cwV 1 hC.1.2.2.2.2 (tb_V mb_567 mb_568 mb_18 mb_40 mb_569) rfl rfl rfl (by decide +kernel) ⟨Nat.le_of_ble_eq_true rfl, Nat.le_of_ble_eq_true rfl⟩) (th_at (h := mo_h o A h (su S 0 0)) hK.1) rfl rfl rfl hl.1 (Nat.le_of_ble_eq_true rfl) dX4_make_31 ⟨Nat.le_of_ble_eq_true rfl, Nat.le_of_ble_eq_true rfl⟩ (fun E ce q9 g9 H locs hp9 hM hce hcv hcl => ?_) (fun v9 g9 H locs hp9 hM => ?_)
          · exact (hp9.elim fun _ h9 => h9.2.elim)
          obtain ⟨h31, rfl, hp9⟩ := hp9
          obtain ⟨rfl, rfl⟩ := hp9
          refine W.eq (g2 := F0 m 34 ls [.int 0]) rfl ?_
          refine mw_iret hC hM hr hlk dX4_make_34 (Nat.le_of_ble_eq_true rfl) (Nat.le_of_ble_eq_true rfl) ⟨_, rfl, ?_⟩
          exact Or.inr ⟨k, hk, Or.inl ⟨ho9, rfl, rfl⟩⟩
      · refine W.eq (g2 := F0 m 26 ls [.int 0]) rfl ?_
        refine lv_if_eq (tgt := 35) hx hb dX4_make_26 (by decide) (fun c26 => ?_) (fun c26 => ?_)
        · refine lv_aload_n hx hb dX4_make_35 rfl (lv_at hl 1 rfl) ?_
          refine gi_10_10 (index := 81) hC hM hK.1 mb_500 dX4_make_36 ?_
          rw [mo_i]
          rw [show (su S 0 0).1 10 = S.1 10 from by first | rfl | simp [su, sa, va_up]]
          refine lv_iconst (v := 1) hx hb dX4_make_39 (by decide) ?_
          refine lv_iadd hx hb dX4_make_40 ?_
          refine lv_iload_n hx hb dX4_make_41 rfl (lv_at hl 3 rfl) ?_
          refine lv_iadd hx hb dX4_make_42 ?_
          refine lv_bipush (v := 80) hx hb dX4_make_43 (by decide) ?_
          refine lv_icmp_le (tgt := 54) hx hb dX4_make_45 (by decide) (fun c45 => ?_) (fun c45 => ?_)
          · refine lv_aload_n hx hb dX4_make_54 rfl (lv_at hl 1 rfl) ?_
            refine mw_callV (As := []) (rest := []) (n := 0) (C := RX4) (T := TX4) (N := 21) (ci := 4) hC hM (c_X4_log l hl0 D cs h H.size o A hK (su S 0 0) ) (cwV 0 hC.1.2.2.2.2 (tb_V mb_570 mb_571 mb_19 mb_40 mb_572) rfl rfl rfl (by decide +kernel) ⟨Nat.le_of_ble_eq_true rfl, Nat.le_of_ble_eq_true rfl⟩) (th_at (h := mo_h o A h (su S 0 0)) hK.1) rfl rfl rfl hl.1 (Nat.le_of_ble_eq_true rfl) dX4_make_55 ⟨Nat.le_of_ble_eq_true rfl, Nat.le_of_ble_eq_true rfl⟩ (fun E ce q9 g9 H locs hp9 hM hce hcv hcl => ?_) (fun v9 g9 H locs hp9 hM => ?_)
            · exact (hp9.elim fun _ h9 => h9.2.elim)
            obtain ⟨h55, rfl, hp9⟩ := hp9
            obtain ⟨rfl, rfl⟩ := hp9
            refine W.eq (g2 := F0 m 58 ls [.int (mo_lg S)]) rfl ?_
            refine lv_iconst (v := 2) hx hb dX4_make_58 (by decide) ?_
            refine lv_iadd hx hb dX4_make_59 ?_
            refine lv_sipush (v := 150) hx hb dX4_make_60 (by decide) ?_
            refine lv_icmp_le (tgt := 72) hx hb dX4_make_63 (by decide) (fun c63 => ?_) (fun c63 => ?_)
            · refine lv_iconst (v := 0) hx hb dX4_make_72 (by decide) ?_
              refine lv_istore (lv' := [(4, .int 0), (3, .int (nI k)), (0, .ref o), (1, .int t), (2, .int f)]) hx hb dX4_make_73 hl (by decide) rfl (fun ls hl => ?_)
              exact lo_X4_make_75 hl0 o A hK S t f hfr k hk ho9 ho8 c45 c63 hC hr hlk htab 80 0 _ _ ls (by omega) (fun j hj => absurd hj (Nat.not_lt_zero j)) hM (lv_sub hl [2, 3, 4, 1, 0] rfl)
            · refine lv_aload_n hx hb dX4_make_66 rfl (lv_at hl 1 rfl) ?_
              refine lv_iconst (v := 4) hx hb dX4_make_67 (by decide) ?_
              refine mw_callV (As := [.int 4]) (rest := []) (n := 1) (C := RX4) (T := TX4) (N := 21) (ci := 4) hC hM (c_X4_raise l hl0 D cs h H.size o A hK (su S 0 0) 4) (cwV 1 hC.1.2.2.2.2 (tb_V mb_567 mb_568 mb_18 mb_40 mb_569) rfl rfl rfl (by decide +kernel) ⟨Nat.le_of_ble_eq_true rfl, Nat.le_of_ble_eq_true rfl⟩) (th_at (h := mo_h o A h (su S 0 0)) hK.1) rfl rfl rfl hl.1 (Nat.le_of_ble_eq_true rfl) dX4_make_68 ⟨Nat.le_of_ble_eq_true rfl, Nat.le_of_ble_eq_true rfl⟩ (fun E ce q9 g9 H locs hp9 hM hce hcv hcl => ?_) (fun v9 g9 H locs hp9 hM => ?_)
              · exact (hp9.elim fun _ h9 => h9.2.elim)
              obtain ⟨h68, rfl, hp9⟩ := hp9
              obtain ⟨rfl, rfl⟩ := hp9
              refine W.eq (g2 := F0 m 71 ls [.int 0]) rfl ?_
              refine mw_iret hC hM hr hlk dX4_make_71 (Nat.le_of_ble_eq_true rfl) (Nat.le_of_ble_eq_true rfl) ⟨_, rfl, ?_⟩
              exact Or.inr ⟨k, hk, Or.inr ⟨ho9, ho8, Or.inr ⟨c45, Or.inl ⟨c63, rfl, rfl⟩⟩⟩⟩
          · refine lv_aload_n hx hb dX4_make_48 rfl (lv_at hl 1 rfl) ?_
            refine lv_iconst (v := 3) hx hb dX4_make_49 (by decide) ?_
            refine mw_callV (As := [.int 3]) (rest := []) (n := 1) (C := RX4) (T := TX4) (N := 21) (ci := 4) hC hM (c_X4_raise l hl0 D cs h H.size o A hK (su S 0 0) 3) (cwV 1 hC.1.2.2.2.2 (tb_V mb_567 mb_568 mb_18 mb_40 mb_569) rfl rfl rfl (by decide +kernel) ⟨Nat.le_of_ble_eq_true rfl, Nat.le_of_ble_eq_true rfl⟩) (th_at (h := mo_h o A h (su S 0 0)) hK.1) rfl rfl rfl hl.1 (Nat.le_of_ble_eq_true rfl) dX4_make_50 ⟨Nat.le_of_ble_eq_true rfl, Nat.le_of_ble_eq_true rfl⟩ (fun E ce q9 g9 H locs hp9 hM hce hcv hcl => ?_) (fun v9 g9 H locs hp9 hM => ?_)
            · exact (hp9.elim fun _ h9 => h9.2.elim)
            obtain ⟨h50, rfl, hp9⟩ := hp9
            obtain ⟨rfl, rfl⟩ := hp9
            refine W.eq (g2 := F0 m 53 ls [.int 0]) rfl ?_
            refine mw_iret hC hM hr hlk dX4_make_53 (Nat.le_of_ble_eq_true rfl) (Nat.le_of_ble_eq_true rfl) ⟨_, rfl, ?_⟩
            exact Or.inr ⟨k, hk, Or.inr ⟨ho9, ho8, Or.inl ⟨c45, rfl, rfl⟩⟩⟩
        · exact absurd c26 (by decide)
    · exact absurd (nI_pos' (by omega)) c12
  · refine W.eq (g2 := F0 m 10 ls [.int (-1)]) rfl ?_
    refine lv_istore_n (lv' := [(3, .int (-1)), (0, .ref o), (1, .int t), (2, .int f)]) hx hb dX4_make_10 rfl hl (by decide) rfl (fun ls hl => ?_)
    refine lv_iload_n hx hb dX4_make_11 rfl (lv_at hl 0 rfl) ?_
    refine lv_if_ge (tgt := 21) hx hb dX4_make_12 (by decide) (fun c12 => ?_) (fun c12 => ?_)
    · exact absurd c12 (by decide)
    · refine lv_aload_n hx hb dX4_make_15 rfl (lv_at hl 1 rfl) ?_
      refine lv_iconst (v := 1) hx hb dX4_make_16 (by decide) ?_
      refine mw_callV (As := [.int 1]) (rest := []) (n := 1) (C := RX4) (T := TX4) (N := 21) (ci := 4) hC hM (c_X4_raise l hl0 D cs h H.size o A hK (su S 0 0) 1) (cwV 1 hC.1.2.2.2.2 (tb_V mb_567 mb_568 mb_18 mb_40 mb_569) rfl rfl rfl (by decide +kernel) ⟨Nat.le_of_ble_eq_true rfl, Nat.le_of_ble_eq_true rfl⟩) (th_at (h := mo_h o A h (su S 0 0)) hK.1) rfl rfl rfl hl.1 (Nat.le_of_ble_eq_true rfl) dX4_make_17 ⟨Nat.le_of_ble_eq_true rfl, Nat.le_of_ble_eq_true rfl⟩ (fun E ce q9 g9 H locs hp9 hM hce hcv hcl => ?_) (fun v9 g9 H locs hp9 hM => ?_)
      · exact (hp9.elim fun _ h9 => h9.2.elim)
      obtain ⟨h17, rfl, hp9⟩ := hp9
      obtain ⟨rfl, rfl⟩ := hp9
      refine W.eq (g2 := F0 m 20 ls [.int 0]) rfl ?_
      refine mw_iret hC hM hr hlk dX4_make_20 (Nat.le_of_ble_eq_true rfl) (Nat.le_of_ble_eq_true rfl) ⟨_, rfl, ?_⟩
      exact Or.inl ⟨hk, rfl, rfl⟩

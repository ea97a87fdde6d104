/-! the model's searches -/
def mo_tx (S : th_N) (t : Int32) (k : Nat) : Prop := k < 3 ∧ 0 < t ∧ S.2 11 k = t ∧ ∀ j, j < k → ¬ S.2 11 j = t
def mo_nt (S : th_N) (t : Int32) : Prop := ∀ k, k < 3 → ¬ (0 < t ∧ S.2 11 k = t)
def mo_rw (S : th_N) (b : Int32) (r : Nat) : Prop := r < 80 ∧ 0 < b ∧ S.2 1 r = b ∧ ∀ j, j < r → ¬ S.2 1 j = b
def mo_nr (S : th_N) (b : Int32) : Prop := ∀ r, r < 80 → ¬ (0 < b ∧ S.2 1 r = b)
def mo_lg (S : th_N) : Int32 := S.1 14 + S.2 12 0 + S.2 12 1 + S.2 12 2
def mo_ac (S : th_N) : Nat → Nat
  | 0 => 0
  | k + 1 => mo_ac S k + if S.2 11 k ≤ 0 then 0 else 1
theorem mo_ac_le (S : th_N) : ∀ k, mo_ac S k ≤ k
  | 0 => Nat.le_refl 0
  | k + 1 => by
    have := mo_ac_le S k
    unfold mo_ac
    split <;> omega
theorem i32_nle {x : Int32} (h : ¬ x ≤ 0) : 0 < x := Int32.not_le.mp h

-- StableHeapModel.thrown
set_option maxHeartbeats 4000000 in
set_option maxRecDepth 100000 in
theorem c_X4_thrown (l : Launch) (hl0 : l.stackTraces = false) (D : va_G) (cs : Nat → ClassId) (h : th_S) (sz : Nat) (o : Nat) (A : Nat → Nat) (hK : mo_K o A h) (S : th_N) : th_M l yX4_thrown wsX4_thrown { frames := 0, cells := 0, slots := 0, locals := 0 } D cs (mo_h o A h S) sz [.ref o] (fun v h' => h' = mo_h o A h S ∧ v = some (.int (S.1 0))) (fun E h' => False) := by
  refine mw_ofW (cc := cX4_thrown) (maxL := 1) (ret := (some .int)) (by decide) rfl (fun w h => List.mem_cons_of_mem _ h) th_cd (Nat.le_of_ble_eq_true rfl) ?_
  intro p e s m below meth c hsz hC hr hlk hnm htab hM ls hl
  have hC : th_C D cs (mo_h o A h S) p m c cX4_thrown 1 s [.ref o] RX4 := hC
  have hx := hC.1.1
  have hb := hC.1.2.1
  have hl : lv_has ls 1 [(0, .ref o)] := hl
  refine lv_aload_n hx hb dX4_thrown_0 rfl (lv_at hl 0 rfl) ?_
  refine gi_10_0 (index := 53) hC hM hK.1 mb_490 dX4_thrown_1 ?_
  rw [mo_i]
  refine mw_iret hC hM hr hlk dX4_thrown_4 (Nat.le_of_ble_eq_true rfl) (Nat.le_of_ble_eq_true rfl) ⟨_, rfl, ?_⟩
  exact ⟨rfl, rfl⟩

-- StableHeapModel.raise
set_option maxHeartbeats 4000000 in
set_option maxRecDepth 100000 in
theorem c_X4_raise (l : Launch) (hl0 : l.stackTraces = false) (D : va_G) (cs : Nat → ClassId) (h : th_S) (sz : Nat) (o : Nat) (A : Nat → Nat) (hK : mo_K o A h) (S : th_N) (k : Int32) : th_M l yX4_raise wsX4_raise { frames := 0, cells := 0, slots := 0, locals := 0 } D cs (mo_h o A h S) sz [.ref o, .int k] (fun v h' => h' = mo_h o A h (su S 0 k) ∧ v = some (.int 0)) (fun E h' => False) := by
  refine mw_ofW (cc := cX4_raise) (maxL := 2) (ret := (some .int)) (by decide) rfl (fun w h => List.mem_cons_of_mem _ h) th_cd (Nat.le_of_ble_eq_true rfl) ?_
  intro p e s m below meth c hsz hC hr hlk hnm htab hM ls hl
  have hC : th_C D cs (mo_h o A h S) p m c cX4_raise 2 s [.ref o, .int k] RX4 := hC
  have hx := hC.1.1
  have hb := hC.1.2.1
  have hl : lv_has ls 2 [(0, .ref o), (1, .int k)] := hl
  refine lv_aload_n hx hb dX4_raise_0 rfl (lv_at hl 0 rfl) ?_
  refine lv_iload_n hx hb dX4_raise_1 rfl (lv_at hl 1 rfl) ?_
  refine pu_10_0 (index := 53) (v := k) hC hM hK.1 mb_490 dX4_raise_2 (fun H locs hM => ?_)
  rw [mo_um] at hM
  refine lv_iconst (v := 0) hx hb dX4_raise_5 (by decide) ?_
  refine mw_iret hC hM hr hlk dX4_raise_6 (Nat.le_of_ble_eq_true rfl) (Nat.le_of_ble_eq_true rfl) ⟨_, rfl, ?_⟩
  exact ⟨rfl, rfl⟩

-- StableHeapModel.out
set_option maxHeartbeats 4000000 in
set_option maxRecDepth 100000 in
theorem c_X4_out (l : Launch) (hl0 : l.stackTraces = false) (D : va_G) (cs : Nat → ClassId) (h : th_S) (sz : Nat) (a b : Int32) : th_M l yX4_out wsX4_out { frames := 0, cells := 0, slots := 0, locals := 0 } D cs h sz [.int a, .int b] (fun v h' => h = h' ∧ ((v = some (.int 1) ∧ (a < 0 ∨ ¬ a ≤ b)) ∨ (v = some (.int 0) ∧ ¬ a < 0 ∧ a ≤ b))) (fun E h' => False) := by
  refine mw_ofW (cc := cX4_out) (maxL := 2) (ret := (some .boolean)) (by decide) rfl (fun w h => List.mem_cons_of_mem _ h) th_cd (Nat.le_of_ble_eq_true rfl) ?_
  intro p e s m below meth c hsz hC hr hlk hnm htab hM ls hl
  have hC : th_C D cs h p m c cX4_out 2 s [.int a, .int b] RX4 := hC
  have hx := hC.1.1
  have hb := hC.1.2.1
  have hl : lv_has ls 2 [(0, .int a), (1, .int b)] := hl
  refine lv_iload_n hx hb dX4_out_0 rfl (lv_at hl 0 rfl) ?_
  refine lv_if_lt (tgt := 9) hx hb dX4_out_1 (by decide) (fun c1 => ?_) (fun c1 => ?_)
  · refine lv_iconst (v := 1) hx hb dX4_out_9 (by decide) ?_
    refine lv_goto (tgt := 14) hx hb dX4_out_10 (by decide) ?_
    refine mw_zret hC hM hr hlk (rfl) dX4_out_14 (Nat.le_of_ble_eq_true rfl) (Nat.le_of_ble_eq_true rfl) ⟨_, rfl, ?_⟩
    first
      | exact ⟨rfl, Or.inl ⟨rfl, Or.inl c1⟩⟩
      | exact ⟨rfl, Or.inl ⟨rfl, Or.inr c6⟩⟩
      | exact ⟨rfl, Or.inr ⟨rfl, c1, c6⟩⟩
  · refine lv_iload_n hx hb dX4_out_4 rfl (lv_at hl 0 rfl) ?_
    refine lv_iload_n hx hb dX4_out_5 rfl (lv_at hl 1 rfl) ?_
    refine lv_icmp_le (tgt := 13) hx hb dX4_out_6 (by decide) (fun c6 => ?_) (fun c6 => ?_)
    · refine lv_iconst (v := 0) hx hb dX4_out_13 (by decide) ?_
      refine mw_zret hC hM hr hlk (rfl) dX4_out_14 (Nat.le_of_ble_eq_true rfl) (Nat.le_of_ble_eq_true rfl) ⟨_, rfl, ?_⟩
      first
        | exact ⟨rfl, Or.inl ⟨rfl, Or.inl c1⟩⟩
        | exact ⟨rfl, Or.inl ⟨rfl, Or.inr c6⟩⟩
        | exact ⟨rfl, Or.inr ⟨rfl, c1, c6⟩⟩
    · refine lv_iconst (v := 1) hx hb dX4_out_9 (by decide) ?_
      refine lv_goto (tgt := 14) hx hb dX4_out_10 (by decide) ?_
      refine mw_zret hC hM hr hlk (rfl) dX4_out_14 (Nat.le_of_ble_eq_true rfl) (Nat.le_of_ble_eq_true rfl) ⟨_, rfl, ?_⟩
      first
        | exact ⟨rfl, Or.inl ⟨rfl, Or.inl c1⟩⟩
        | exact ⟨rfl, Or.inl ⟨rfl, Or.inr c6⟩⟩
        | exact ⟨rfl, Or.inr ⟨rfl, c1, c6⟩⟩

-- the loop at 2 of StableHeapModel.place
set_option maxHeartbeats 4000000 in
set_option maxRecDepth 100000 in
theorem lo_X4_place_2 {l : Launch} (hl0 : l.stackTraces = false) {D : va_G} {cs : Nat → ClassId} {h : th_S} (o : Nat) (A : Nat → Nat) (hK : mo_K o A h) (S : th_N) (t : Int32) {p : Program} {e : Env} {s : State} {m : MethodId} {below : List Frame} {meth : Method} {c : Code} (hC : th_C D cs (mo_h o A h S) p m c cX4_place 3 s [.ref o, .int t] RX4) (hr : meth.sig.returnType = some .int) (hlk : meth.locks = false) (htab : ∀ x ∈ c.exceptionTable.toList, False) : ∀ (q : Nat) (i : Nat) (H : Heap) (locs : List Loc) (ls : Array Slot), (i + q = 3) → (∀ k, k < i → ¬ (0 < t ∧ S.2 11 k = t)) → th_H D cs (mo_h o A h S) s (mo_h o A h S) H locs → lv_has ls 3 [(0, .ref o), (1, .int t), (2, .int (nI i))] → W p l e { frames := 0, cells := 0, slots := 0, locals := 0 } s m [.ref o, .int t].toArray below meth c H locs 0 0 (th_Q below D cs (mo_h o A h S) s [.ref o, .int t] (fun v h' => h' = mo_h o A h S ∧ ((∃ k, mo_tx S t k ∧ v = some (.int (nI k))) ∨ (mo_nt S t ∧ v = some (.int (-1))))) (fun E h' => False) 0 0) (F0 m 2 ls []) := by
  have hx := hC.1.1
  have hb := hC.1.2.1
  intro q
  induction q with
  | zero =>
    intro i H locs ls hin hn hM hl
    refine lv_iload_n hx hb dX4_place_2 rfl (lv_at hl 2 rfl) ?_
    refine lv_iconst (v := 3) hx hb dX4_place_3 (by decide) ?_
    refine lv_icmp_ge (tgt := 29) hx hb dX4_place_4 (by decide) (fun c4 => ?_) (fun c4 => ?_)
    · refine lv_iconst (v := (-1)) hx hb dX4_place_29 (by decide) ?_
      refine mw_iret hC hM hr hlk dX4_place_30 (Nat.le_of_ble_eq_true rfl) (Nat.le_of_ble_eq_true rfl) ⟨_, rfl, ?_⟩
      exact ⟨rfl, Or.inr ⟨fun k hk => hn k (by omega), rfl⟩⟩
    · exact absurd (nI_le (a := 3) (show 3 ≤ i by omega) (by omega)) c4
  | succ q ih =>
    intro i H locs ls hin hn hM hl
    refine lv_iload_n hx hb dX4_place_2 rfl (lv_at hl 2 rfl) ?_
    refine lv_iconst (v := 3) hx hb dX4_place_3 (by decide) ?_
    refine lv_icmp_ge (tgt := 29) hx hb dX4_place_4 (by decide) (fun c4 => ?_) (fun c4 => ?_)
    · exact absurd c4 (nI_ge (b := 3) (by omega) (by decide))
    · refine lv_iload_n hx hb dX4_place_7 rfl (lv_at hl 1 rfl) ?_
      refine lv_if_le (tgt := 23) hx hb dX4_place_8 (by decide) (fun c8 => ?_) (fun c8 => ?_)
      · refine lv_iinc (v := nI (i + 1)) (lv' := [(2, .int (nI (i + 1))), (0, .ref o), (1, .int t)]) hx hb dX4_place_23 hl (k := 2) rfl (by exact nI_1 i) (by first | decide | omega) rfl (fun ls hl => ?_)
        refine lv_goto (tgt := 2) hx hb dX4_place_26 (by decide) ?_
        exact ih (i + 1) H locs ls (by omega) (fun k hk => by
          rcases Nat.lt_or_ge k i with z | z
          · exact hn k z
          · rw [show k = i by omega]; exact fun z9 => absurd z9.1 (Int32.not_lt.mpr c8)) hM (lv_sub hl [1, 2, 0] rfl)
      · refine lv_aload_n hx hb dX4_place_11 rfl (lv_at hl 0 rfl) ?_
        refine gr_10_11 (index := 35) hC hM hK.1 mb_501 dX4_place_12 (hK.r11) ?_
        refine lv_iload_n hx hb dX4_place_15 rfl (lv_at hl 2 rfl) ?_
        refine al_7 (i := i) (n := 3) hC hM hK.k11 (by first | rfl | decide) (by omega) (by decide) dX4_place_16 ?_
        rw [mo_a11 hK]
        refine lv_iload_n hx hb dX4_place_17 rfl (lv_at hl 1 rfl) ?_
        refine lv_icmp_ne (tgt := 23) hx hb dX4_place_18 (by decide) (fun c18 => ?_) (fun c18 => ?_)
        · refine lv_iinc (v := nI (i + 1)) (lv' := [(2, .int (nI (i + 1))), (0, .ref o), (1, .int t)]) hx hb dX4_place_23 hl (k := 2) rfl (by exact nI_1 i) (by first | decide | omega) rfl (fun ls hl => ?_)
          refine lv_goto (tgt := 2) hx hb dX4_place_26 (by decide) ?_
          exact ih (i + 1) H locs ls (by omega) (fun k hk => by
            rcases Nat.lt_or_ge k i with z | z
            · exact hn k z
            · rw [show k = i by omega]; exact fun z9 => c18 z9.2) hM (lv_sub hl [1, 2, 0] rfl)
        · refine lv_iload_n hx hb dX4_place_21 rfl (lv_at hl 2 rfl) ?_
          refine mw_iret hC hM hr hlk dX4_place_22 (Nat.le_of_ble_eq_true rfl) (Nat.le_of_ble_eq_true rfl) ⟨_, rfl, ?_⟩
          exact ⟨rfl, Or.inl ⟨i, ⟨by omega, i32_nle c8, c18, fun j hj z9 => hn j hj ⟨i32_nle c8, z9⟩⟩, rfl⟩⟩

-- StableHeapModel.place
set_option maxHeartbeats 4000000 in
set_option maxRecDepth 100000 in
theorem c_X4_place (l : Launch) (hl0 : l.stackTraces = false) (D : va_G) (cs : Nat → ClassId) (h : th_S) (sz : Nat) (o : Nat) (A : Nat → Nat) (hK : mo_K o A h) (S : th_N) (t : Int32) : th_M l yX4_place wsX4_place { frames := 0, cells := 0, slots := 0, locals := 0 } D cs (mo_h o A h S) sz [.ref o, .int t] (fun v h' => h' = mo_h o A h S ∧ ((∃ k, mo_tx S t k ∧ v = some (.int (nI k))) ∨ (mo_nt S t ∧ v = some (.int (-1))))) (fun E h' => False) := by
  refine mw_ofW (cc := cX4_place) (maxL := 3) (ret := (some .int)) (by decide) rfl (fun w h => List.mem_cons_of_mem _ h) th_cd (Nat.le_of_ble_eq_true rfl) ?_
  intro p e s m below meth c hsz hC hr hlk hnm htab hM ls hl
  have hC : th_C D cs (mo_h o A h S) p m c cX4_place 3 s [.ref o, .int t] RX4 := hC
  have hx := hC.1.1
  have hb := hC.1.2.1
  have hl : lv_has ls 3 [(0, .ref o), (1, .int t)] := hl
  refine lv_iconst (v := 0) hx hb dX4_place_0 (by decide) ?_
  refine lv_istore_n (lv' := [(2, .int 0), (0, .ref o), (1, .int t)]) hx hb dX4_place_1 rfl hl (by decide) rfl (fun ls hl => ?_)
  exact lo_X4_place_2 hl0 o A hK S t hC hr hlk htab 3 0 _ _ ls (by omega) (fun k hk => absurd hk (Nat.not_lt_zero k)) hM (lv_sub hl [1, 2, 0] rfl)

-- the loop at 2 of StableHeapModel.row
set_option maxHeartbeats 4000000 in
set_option maxRecDepth 100000 in
theorem lo_X4_row_2 {l : Launch} (hl0 : l.stackTraces = false) {D : va_G} {cs : Nat → ClassId} {h : th_S} (o : Nat) (A : Nat → Nat) (hK : mo_K o A h) (S : th_N) (t : Int32) {p : Program} {e : Env} {s : State} {m : MethodId} {below : List Frame} {meth : Method} {c : Code} (hC : th_C D cs (mo_h o A h S) p m c cX4_row 3 s [.ref o, .int t] RX4) (hr : meth.sig.returnType = some .int) (hlk : meth.locks = false) (htab : ∀ x ∈ c.exceptionTable.toList, False) : ∀ (q : Nat) (i : Nat) (H : Heap) (locs : List Loc) (ls : Array Slot), (i + q = 80) → (∀ k, k < i → ¬ (0 < t ∧ S.2 1 k = t)) → th_H D cs (mo_h o A h S) s (mo_h o A h S) H locs → lv_has ls 3 [(0, .ref o), (1, .int t), (2, .int (nI i))] → W p l e { frames := 0, cells := 0, slots := 0, locals := 0 } s m [.ref o, .int t].toArray below meth c H locs 0 0 (th_Q below D cs (mo_h o A h S) s [.ref o, .int t] (fun v h' => h' = mo_h o A h S ∧ ((∃ k, mo_rw S t k ∧ v = some (.int (nI k))) ∨ (mo_nr S t ∧ v = some (.int (-1))))) (fun E h' => False) 0 0) (F0 m 2 ls []) := by
  have hx := hC.1.1
  have hb := hC.1.2.1
  intro q
  induction q with
  | zero =>
    intro i H locs ls hin hn hM hl
    refine lv_iload_n hx hb dX4_row_2 rfl (lv_at hl 2 rfl) ?_
    refine lv_bipush (v := 80) hx hb dX4_row_3 (by decide) ?_
    refine lv_icmp_ge (tgt := 30) hx hb dX4_row_5 (by decide) (fun c5 => ?_) (fun c5 => ?_)
    · refine lv_iconst (v := (-1)) hx hb dX4_row_30 (by decide) ?_
      refine mw_iret hC hM hr hlk dX4_row_31 (Nat.le_of_ble_eq_true rfl) (Nat.le_of_ble_eq_true rfl) ⟨_, rfl, ?_⟩
      exact ⟨rfl, Or.inr ⟨fun k hk => hn k (by omega), rfl⟩⟩
    · exact absurd (nI_le (a := 80) (show 80 ≤ i by omega) (by omega)) c5
  | succ q ih =>
    intro i H locs ls hin hn hM hl
    refine lv_iload_n hx hb dX4_row_2 rfl (lv_at hl 2 rfl) ?_
    refine lv_bipush (v := 80) hx hb dX4_row_3 (by decide) ?_
    refine lv_icmp_ge (tgt := 30) hx hb dX4_row_5 (by decide) (fun c5 => ?_) (fun c5 => ?_)
    · exact absurd c5 (nI_ge (b := 80) (by omega) (by decide))
    · refine lv_iload_n hx hb dX4_row_8 rfl (lv_at hl 1 rfl) ?_
      refine lv_if_le (tgt := 24) hx hb dX4_row_9 (by decide) (fun c9 => ?_) (fun c9 => ?_)
      · refine lv_iinc (v := nI (i + 1)) (lv' := [(2, .int (nI (i + 1))), (0, .ref o), (1, .int t)]) hx hb dX4_row_24 hl (k := 2) rfl (by exact nI_1 i) (by first | decide | omega) rfl (fun ls hl => ?_)
        refine lv_goto (tgt := 2) hx hb dX4_row_27 (by decide) ?_
        exact ih (i + 1) H locs ls (by omega) (fun k hk => by
          rcases Nat.lt_or_ge k i with z | z
          · exact hn k z
          · rw [show k = i by omega]; exact fun z9 => absurd z9.1 (Int32.not_lt.mpr c9)) hM (lv_sub hl [1, 2, 0] rfl)
      · refine lv_aload_n hx hb dX4_row_12 rfl (lv_at hl 0 rfl) ?_
        refine gr_10_1 (index := 7) hC hM hK.1 mb_491 dX4_row_13 (hK.r1) ?_
        refine lv_iload_n hx hb dX4_row_16 rfl (lv_at hl 2 rfl) ?_
        refine al_7 (i := i) (n := 80) hC hM hK.k1 (by first | rfl | decide) (by omega) (by decide) dX4_row_17 ?_
        rw [mo_a1 hK]
        refine lv_iload_n hx hb dX4_row_18 rfl (lv_at hl 1 rfl) ?_
        refine lv_icmp_ne (tgt := 24) hx hb dX4_row_19 (by decide) (fun c19 => ?_) (fun c19 => ?_)
        · refine lv_iinc (v := nI (i + 1)) (lv' := [(2, .int (nI (i + 1))), (0, .ref o), (1, .int t)]) hx hb dX4_row_24 hl (k := 2) rfl (by exact nI_1 i) (by first | decide | omega) rfl (fun ls hl => ?_)
          refine lv_goto (tgt := 2) hx hb dX4_row_27 (by decide) ?_
          exact ih (i + 1) H locs ls (by omega) (fun k hk => by
            rcases Nat.lt_or_ge k i with z | z
            · exact hn k z
            · rw [show k = i by omega]; exact fun z9 => c19 z9.2) hM (lv_sub hl [1, 2, 0] rfl)
        · refine lv_iload_n hx hb dX4_row_22 rfl (lv_at hl 2 rfl) ?_
          refine mw_iret hC hM hr hlk dX4_row_23 (Nat.le_of_ble_eq_true rfl) (Nat.le_of_ble_eq_true rfl) ⟨_, rfl, ?_⟩
          exact ⟨rfl, Or.inl ⟨i, ⟨by omega, i32_nle c9, c19, fun j hj z9 => hn j hj ⟨i32_nle c9, z9⟩⟩, rfl⟩⟩

-- StableHeapModel.row
set_option maxHeartbeats 4000000 in
set_option maxRecDepth 100000 in
theorem c_X4_row (l : Launch) (hl0 : l.stackTraces = false) (D : va_G) (cs : Nat → ClassId) (h : th_S) (sz : Nat) (o : Nat) (A : Nat → Nat) (hK : mo_K o A h) (S : th_N) (t : Int32) : th_M l yX4_row wsX4_row { frames := 0, cells := 0, slots := 0, locals := 0 } D cs (mo_h o A h S) sz [.ref o, .int t] (fun v h' => h' = mo_h o A h S ∧ ((∃ k, mo_rw S t k ∧ v = some (.int (nI k))) ∨ (mo_nr S t ∧ v = some (.int (-1))))) (fun E h' => False) := by
  refine mw_ofW (cc := cX4_row) (maxL := 3) (ret := (some .int)) (by decide) rfl (fun w h => List.mem_cons_of_mem _ h) th_cd (Nat.le_of_ble_eq_true rfl) ?_
  intro p e s m below meth c hsz hC hr hlk hnm htab hM ls hl
  have hC : th_C D cs (mo_h o A h S) p m c cX4_row 3 s [.ref o, .int t] RX4 := hC
  have hx := hC.1.1
  have hb := hC.1.2.1
  have hl : lv_has ls 3 [(0, .ref o), (1, .int t)] := hl
  refine lv_iconst (v := 0) hx hb dX4_row_0 (by decide) ?_
  refine lv_istore_n (lv' := [(2, .int 0), (0, .ref o), (1, .int t)]) hx hb dX4_row_1 rfl hl (by decide) rfl (fun ls hl => ?_)
  exact lo_X4_row_2 hl0 o A hK S t hC hr hlk htab 80 0 _ _ ls (by omega) (fun k hk => absurd hk (Nat.not_lt_zero k)) hM (lv_sub hl [1, 2, 0] rfl)

-- StableHeapModel.log
set_option maxHeartbeats 4000000 in
set_option maxRecDepth 100000 in
theorem c_X4_log (l : Launch) (hl0 : l.stackTraces = false) (D : va_G) (cs : Nat → ClassId) (h : th_S) (sz : Nat) (o : Nat) (A : Nat → Nat) (hK : mo_K o A h) (S : th_N) : th_M l yX4_log wsX4_log { frames := 0, cells := 0, slots := 0, locals := 0 } D cs (mo_h o A h S) sz [.ref o] (fun v h' => h' = mo_h o A h S ∧ v = some (.int (mo_lg S))) (fun E h' => False) := by
  refine mw_ofW (cc := cX4_log) (maxL := 1) (ret := (some .int)) (by decide) rfl (fun w h => List.mem_cons_of_mem _ h) th_cd (Nat.le_of_ble_eq_true rfl) ?_
  intro p e s m below meth c hsz hC hr hlk hnm htab hM ls hl
  have hC : th_C D cs (mo_h o A h S) p m c cX4_log 1 s [.ref o] RX4 := hC
  have hx := hC.1.1
  have hb := hC.1.2.1
  have hl : lv_has ls 1 [(0, .ref o)] := hl
  refine lv_aload_n hx hb dX4_log_0 rfl (lv_at hl 0 rfl) ?_
  refine gi_10_14 (index := 57) hC hM hK.1 mb_504 dX4_log_1 ?_
  rw [mo_i]
  refine lv_aload_n hx hb dX4_log_4 rfl (lv_at hl 0 rfl) ?_
  refine gr_10_12 (index := 38) hC hM hK.1 mb_502 dX4_log_5 (hK.r12) ?_
  refine lv_iconst (v := 0) hx hb dX4_log_8 (by decide) ?_
  refine al_7 (i := 0) (n := 3) hC hM hK.k12 (by first | rfl | decide) (by omega) (by decide) dX4_log_9 ?_
  rw [mo_a12 hK]
  refine lv_iadd hx hb dX4_log_10 ?_
  refine lv_aload_n hx hb dX4_log_11 rfl (lv_at hl 0 rfl) ?_
  refine gr_10_12 (index := 38) hC hM hK.1 mb_502 dX4_log_12 (hK.r12) ?_
  refine lv_iconst (v := 1) hx hb dX4_log_15 (by decide) ?_
  refine al_7 (i := 1) (n := 3) hC hM hK.k12 (by first | rfl | decide) (by omega) (by decide) dX4_log_16 ?_
  rw [mo_a12 hK]
  refine lv_iadd hx hb dX4_log_17 ?_
  refine lv_aload_n hx hb dX4_log_18 rfl (lv_at hl 0 rfl) ?_
  refine gr_10_12 (index := 38) hC hM hK.1 mb_502 dX4_log_19 (hK.r12) ?_
  refine lv_iconst (v := 2) hx hb dX4_log_22 (by decide) ?_
  refine al_7 (i := 2) (n := 3) hC hM hK.k12 (by first | rfl | decide) (by omega) (by decide) dX4_log_23 ?_
  rw [mo_a12 hK]
  refine lv_iadd hx hb dX4_log_24 ?_
  refine mw_iret hC hM hr hlk dX4_log_25 (Nat.le_of_ble_eq_true rfl) (Nat.le_of_ble_eq_true rfl) ⟨_, rfl, ?_⟩
  exact ⟨rfl, rfl⟩

-- the loop at 4 of StableHeapModel.actives
set_option maxHeartbeats 4000000 in
set_option maxRecDepth 100000 in
theorem lo_X4_actives_4 {l : Launch} (hl0 : l.stackTraces = false) {D : va_G} {cs : Nat → ClassId} {h : th_S} (o : Nat) (A : Nat → Nat) (hK : mo_K o A h) (S : th_N) {p : Program} {e : Env} {s : State} {m : MethodId} {below : List Frame} {meth : Method} {c : Code} (hC : th_C D cs (mo_h o A h S) p m c cX4_actives 3 s [.ref o] RX4) (hr : meth.sig.returnType = some .int) (hlk : meth.locks = false) (htab : ∀ x ∈ c.exceptionTable.toList, False) : ∀ (q : Nat) (i n : Nat) (H : Heap) (locs : List Loc) (ls : Array Slot), (i + q = 3) → (n = mo_ac S i) → th_H D cs (mo_h o A h S) s (mo_h o A h S) H locs → lv_has ls 3 [(0, .ref o), (1, .int (nI n)), (2, .int (nI i))] → W p l e { frames := 0, cells := 0, slots := 0, locals := 0 } s m [.ref o].toArray below meth c H locs 0 0 (th_Q below D cs (mo_h o A h S) s [.ref o] (fun v h' => h' = mo_h o A h S ∧ v = some (.int (nI (mo_ac S 3)))) (fun E h' => False) 0 0) (F0 m 4 ls []) := by
  have hx := hC.1.1
  have hb := hC.1.2.1
  intro q
  induction q with
  | zero =>
    intro i n H locs ls hin hn hM hl
    refine lv_iload_n hx hb dX4_actives_4 rfl (lv_at hl 2 rfl) ?_
    refine lv_iconst (v := 3) hx hb dX4_actives_5 (by decide) ?_
    refine lv_icmp_ge (tgt := 27) hx hb dX4_actives_6 (by decide) (fun c6 => ?_) (fun c6 => ?_)
    · refine lv_iload_n hx hb dX4_actives_27 rfl (lv_at hl 1 rfl) ?_
      refine mw_iret hC hM hr hlk dX4_actives_28 (Nat.le_of_ble_eq_true rfl) (Nat.le_of_ble_eq_true rfl) ⟨_, rfl, ?_⟩
      exact ⟨rfl, by rw [show 3 = i by omega, ← hn]⟩
    · exact absurd (nI_le (a := 3) (show 3 ≤ i by omega) (by omega)) c6
  | succ q ih =>
    intro i n H locs ls hin hn hM hl
    refine lv_iload_n hx hb dX4_actives_4 rfl (lv_at hl 2 rfl) ?_
    refine lv_iconst (v := 3) hx hb dX4_actives_5 (by decide) ?_
    refine lv_icmp_ge (tgt := 27) hx hb dX4_actives_6 (by decide) (fun c6 => ?_) (fun c6 => ?_)
    · exact absurd c6 (nI_ge (b := 3) (by omega) (by decide))
    · refine lv_aload_n hx hb dX4_actives_9 rfl (lv_at hl 0 rfl) ?_
      refine gr_10_11 (index := 35) hC hM hK.1 mb_501 dX4_actives_10 (hK.r11) ?_
      refine lv_iload_n hx hb dX4_actives_13 rfl (lv_at hl 2 rfl) ?_
      refine al_7 (i := i) (n := 3) hC hM hK.k11 (by first | rfl | decide) (by omega) (by decide) dX4_actives_14 ?_
      rw [mo_a11 hK]
      refine lv_if_le (tgt := 21) hx hb dX4_actives_15 (by decide) (fun c15 => ?_) (fun c15 => ?_)
      · refine lv_iinc (v := nI (i + 1)) (lv' := [(2, .int (nI (i + 1))), (0, .ref o), (1, .int (nI n))]) hx hb dX4_actives_21 hl (k := 2) rfl (by exact nI_1 i) (by first | decide | omega) rfl (fun ls hl => ?_)
        refine lv_goto (tgt := 4) hx hb dX4_actives_24 (by decide) ?_
        exact ih (i + 1) n H locs ls (by omega) (by show _ = mo_ac S i + _; rw [← hn, if_pos c15]; first | done | rfl) hM (lv_sub hl [1, 2, 0] rfl)
      · refine lv_iinc (v := nI (n + 1)) (lv' := [(1, .int (nI (n + 1))), (0, .ref o), (2, .int (nI i))]) hx hb dX4_actives_18 hl (k := 1) rfl (by exact nI_1 n) (by first | decide | omega) rfl (fun ls hl => ?_)
        refine lv_iinc (v := nI (i + 1)) (lv' := [(2, .int (nI (i + 1))), (1, .int (nI (n + 1))), (0, .ref o)]) hx hb dX4_actives_21 hl (k := 2) rfl (by exact nI_1 i) (by first | decide | omega) rfl (fun ls hl => ?_)
        refine lv_goto (tgt := 4) hx hb dX4_actives_24 (by decide) ?_
        exact ih (i + 1) (n + 1) H locs ls (by omega) (by show _ = mo_ac S i + _; rw [← hn, if_neg c15]; first | done | rfl) hM (lv_sub hl [2, 1, 0] rfl)

-- StableHeapModel.actives
set_option maxHeartbeats 4000000 in
set_option maxRecDepth 100000 in
theorem c_X4_actives (l : Launch) (hl0 : l.stackTraces = false) (D : va_G) (cs : Nat → ClassId) (h : th_S) (sz : Nat) (o : Nat) (A : Nat → Nat) (hK : mo_K o A h) (S : th_N) : th_M l yX4_actives wsX4_actives { frames := 0, cells := 0, slots := 0, locals := 0 } D cs (mo_h o A h S) sz [.ref o] (fun v h' => h' = mo_h o A h S ∧ v = some (.int (nI (mo_ac S 3)))) (fun E h' => False) := by
  refine mw_ofW (cc := cX4_actives) (maxL := 3) (ret := (some .int)) (by decide) rfl (fun w h => List.mem_cons_of_mem _ h) th_cd (Nat.le_of_ble_eq_true rfl) ?_
  intro p e s m below meth c hsz hC hr hlk hnm htab hM ls hl
  have hC : th_C D cs (mo_h o A h S) p m c cX4_actives 3 s [.ref o] RX4 := hC
  have hx := hC.1.1
  have hb := hC.1.2.1
  have hl : lv_has ls 3 [(0, .ref o)] := hl
  refine lv_iconst (v := 0) hx hb dX4_actives_0 (by decide) ?_
  refine lv_istore_n (lv' := [(1, .int 0), (0, .ref o)]) hx hb dX4_actives_1 rfl hl (by decide) rfl (fun ls hl => ?_)
  refine lv_iconst (v := 0) hx hb dX4_actives_2 (by decide) ?_
  refine lv_istore_n (lv' := [(2, .int 0), (1, .int 0), (0, .ref o)]) hx hb dX4_actives_3 rfl hl (by decide) rfl (fun ls hl => ?_)
  exact lo_X4_actives_4 hl0 o A hK S hC hr hlk htab 3 0 0 _ _ ls (by omega) rfl hM (lv_sub hl [2, 1, 0] rfl)

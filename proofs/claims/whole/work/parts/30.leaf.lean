/-! the leaves: Place, Transaction, Lockable.words -/
def pl_rem (h : th_S) (a : Nat) : th_S := if h.2.1 a 3 = 0 then th_ur (th_ui (th_ui (th_ui h a 3 1) a 4 (h.2.1 a 0)) a 5 (h.2.1 a 1)) a 6 (h.2.2 a 2) else h
def pl_num (h : th_S) (a : Nat) (v : Int32) : th_S := th_ur (th_ui (th_ui (pl_rem h a) a 0 0) a 1 v) a 2 none
def pl_ref (h : th_S) (a : Nat) (r : Option Nat) : th_S := th_ur (th_ui (th_ui (pl_rem h a) a 0 1) a 1 0) a 2 r
def pl_back (h : th_S) (a : Nat) : th_S := if h.2.1 a 3 = 0 then h else th_ur (th_ui (th_ui h a 0 (h.2.1 a 4)) a 1 (h.2.1 a 5)) a 2 (h.2.2 a 6)
def pl_forget (h : th_S) (a : Nat) : th_S := th_ur (th_ui h a 3 0) a 6 none
theorem pl_rem_k (h : th_S) (a : Nat) : (pl_rem h a).1 = h.1 := by unfold pl_rem; split <;> rfl

-- StableHeap$Place.<init>
set_option maxHeartbeats 4000000 in
set_option maxRecDepth 100000 in
theorem c_X1_init (l : Launch) (hl0 : l.stackTraces = false) (D : va_G) (cs : Nat → ClassId) (h : th_S) (sz : Nat) (a : Nat) (ha : h.1 a = some (3, 0)) : th_MI l yX1_init wsX1_init { frames := 1, cells := 0, slots := 0, locals := 16 } D cs h sz [.ref a] (fun v h' => v = none ∧ h = h') := by
  refine mw_ofWI (cc := cX1_init) (maxL := 1) (ret := none) (by decide) rfl (fun w h => List.mem_cons_of_mem _ h) th_cd (Nat.le_of_ble_eq_true rfl) ?_
  intro p e s m below meth c hsz hC hr hlk hnm hM ls hl
  have hC : th_C D cs h p m c cX1_init 1 s [.ref a] RX1 := hC
  have hx := hC.1.1
  have hb := hC.1.2.1
  have hl : lv_has ls 1 [(0, .ref a)] := hl
  refine lv_aload_n hx hb dX1_init_0 rfl (lv_at hl 0 rfl) ?_
  refine W.objInit hx hb hC.1.2.2.2.1 (hC.1.2.2.2.2 (.methodLink RX1 1 objectInit) mb_68) (hC.1.2.2.2.2 (.instanceMethod objectInit) mb_56) (hC.1.2.2.2.2 (.code objectInit ⟨#[0xb1]⟩ 1 none) mb_57) rfl (by rw [hC.1.2.2.1]; exact hl.1) rfl dX1_init_1 (Nat.le_of_ble_eq_true rfl) (Nat.le_of_ble_eq_true rfl) ?_
  refine W.eq (g2 := F0 m 4 ls []) rfl ?_
  refine mw_vretI hC hM hr hlk dX1_init_4 (Nat.le_of_ble_eq_true rfl) (Nat.le_of_ble_eq_true rfl) ⟨_, rfl, ?_⟩
  exact ⟨rfl, rfl⟩

-- StableHeap$Transaction.<init>
set_option maxHeartbeats 4000000 in
set_option maxRecDepth 100000 in
theorem c_X2_init (l : Launch) (hl0 : l.stackTraces = false) (D : va_G) (cs : Nat → ClassId) (h : th_S) (sz : Nat) (a : Nat) (ha : h.1 a = some (1, 0)) : th_MI l yX2_init wsX2_init { frames := 1, cells := 0, slots := 0, locals := 16 } D cs h sz [.ref a] (fun v h' => v = none ∧ h = h') := by
  refine mw_ofWI (cc := cX2_init) (maxL := 1) (ret := none) (by decide) rfl (fun w h => List.mem_cons_of_mem _ h) th_cd (Nat.le_of_ble_eq_true rfl) ?_
  intro p e s m below meth c hsz hC hr hlk hnm hM ls hl
  have hC : th_C D cs h p m c cX2_init 1 s [.ref a] RX2 := hC
  have hx := hC.1.1
  have hb := hC.1.2.1
  have hl : lv_has ls 1 [(0, .ref a)] := hl
  refine lv_aload_n hx hb dX2_init_0 rfl (lv_at hl 0 rfl) ?_
  refine W.objInit hx hb hC.1.2.2.2.1 (hC.1.2.2.2.2 (.methodLink RX2 1 objectInit) mb_115) (hC.1.2.2.2.2 (.instanceMethod objectInit) mb_56) (hC.1.2.2.2.2 (.code objectInit ⟨#[0xb1]⟩ 1 none) mb_57) rfl (by rw [hC.1.2.2.1]; exact hl.1) rfl dX2_init_1 (Nat.le_of_ble_eq_true rfl) (Nat.le_of_ble_eq_true rfl) ?_
  refine W.eq (g2 := F0 m 4 ls []) rfl ?_
  refine mw_vretI hC hM hr hlk dX2_init_4 (Nat.le_of_ble_eq_true rfl) (Nat.le_of_ble_eq_true rfl) ⟨_, rfl, ?_⟩
  exact ⟨rfl, rfl⟩

-- StableHeap$Transaction.isActive
set_option maxHeartbeats 4000000 in
set_option maxRecDepth 100000 in
theorem c_X2_isActive (l : Launch) (hl0 : l.stackTraces = false) (D : va_G) (cs : Nat → ClassId) (h : th_S) (sz : Nat) (a : Nat) (ha : h.1 a = some (1, 0)) : th_M l yX2_isActive wsX2_isActive { frames := 0, cells := 0, slots := 0, locals := 0 } D cs h sz [.ref a] (fun v h' => h = h' ∧ v = some (.int (if h.2.1 a 0 = 0 then 0 else 1))) (fun E h' => False) := by
  refine mw_ofW (cc := cX2_isActive) (maxL := 1) (ret := (some .boolean)) (by decide) rfl (fun w h => List.mem_cons_of_mem _ h) th_cd (Nat.le_of_ble_eq_true rfl) ?_
  intro p e s m below meth c hsz hC hr hlk hnm htab hM ls hl
  have hC : th_C D cs h p m c cX2_isActive 1 s [.ref a] RX2 := hC
  have hx := hC.1.1
  have hb := hC.1.2.1
  have hl : lv_has ls 1 [(0, .ref a)] := hl
  refine lv_aload_n hx hb dX2_isActive_0 rfl (lv_at hl 0 rfl) ?_
  refine gi_1_0 (index := 7) hC hM ha mb_116 dX2_isActive_1 ?_
  refine lv_if_eq (tgt := 11) hx hb dX2_isActive_4 (by decide) (fun c4 => ?_) (fun c4 => ?_)
  · refine lv_iconst (v := 0) hx hb dX2_isActive_11 (by decide) ?_
    refine mw_zret hC hM hr hlk (rfl) dX2_isActive_12 (Nat.le_of_ble_eq_true rfl) (Nat.le_of_ble_eq_true rfl) ⟨_, rfl, ?_⟩
    exact ⟨rfl, by simp [c4]⟩
  · refine lv_iconst (v := 1) hx hb dX2_isActive_7 (by decide) ?_
    refine lv_goto (tgt := 12) hx hb dX2_isActive_8 (by decide) ?_
    refine mw_zret hC hM hr hlk (rfl) dX2_isActive_12 (Nat.le_of_ble_eq_true rfl) (Nat.le_of_ble_eq_true rfl) ⟨_, rfl, ?_⟩
    exact ⟨rfl, by simp [c4]⟩

-- StableHeap$Lockable.words
set_option maxHeartbeats 4000000 in
set_option maxRecDepth 100000 in
theorem c_X0_words (l : Launch) (hl0 : l.stackTraces = false) (D : va_G) (cs : Nat → ClassId) (h : th_S) (sz : Nat) (a pa n : Nat) (ha : h.1 a = some (2, 0)) (hpa : h.2.2 a 1 = some pa) (hn : h.1 pa = some (6, n)) : th_M l yX0_words wsX0_words { frames := 0, cells := 0, slots := 0, locals := 0 } D cs h sz [.ref a] (fun v h' => h = h' ∧ v = some (.int (1 + nI n))) (fun E h' => False) := by
  refine mw_ofW (cc := cX0_words) (maxL := 1) (ret := (some .int)) (by decide) rfl (fun w h => List.mem_cons_of_mem _ h) th_cd (Nat.le_of_ble_eq_true rfl) ?_
  intro p e s m below meth c hsz hC hr hlk hnm htab hM ls hl
  have hC : th_C D cs h p m c cX0_words 1 s [.ref a] RX0 := hC
  have hx := hC.1.1
  have hb := hC.1.2.1
  have hl : lv_has ls 1 [(0, .ref a)] := hl
  refine lv_iconst (v := 1) hx hb dX0_words_0 (by decide) ?_
  refine lv_aload_n hx hb dX0_words_1 rfl (lv_at hl 0 rfl) ?_
  refine gr_2_1 (index := 15) hC hM ha mb_97 dX0_words_2 hpa ?_
  refine an_6 hC hM hn dX0_words_5 ?_
  refine lv_iadd hx hb dX0_words_6 ?_
  refine mw_iret hC hM hr hlk dX0_words_7 (Nat.le_of_ble_eq_true rfl) (Nat.le_of_ble_eq_true rfl) ⟨_, rfl, ?_⟩
  exact ⟨rfl, rfl⟩

-- StableHeap$Place.rememberFormer
set_option maxHeartbeats 4000000 in
set_option maxRecDepth 100000 in
theorem c_X1_rememberFormer (l : Launch) (hl0 : l.stackTraces = false) (D : va_G) (cs : Nat → ClassId) (h : th_S) (sz : Nat) (a : Nat) (ha : h.1 a = some (3, 0)) (hz0 : h.2.1 a 0 = 0 ∨ h.2.1 a 0 = 1) : th_M l yX1_rememberFormer wsX1_rememberFormer { frames := 0, cells := 0, slots := 0, locals := 0 } D cs h sz [.ref a] (fun v h' => v = none ∧ h' = pl_rem h a) (fun E h' => False) := by
  refine mw_ofW (cc := cX1_rememberFormer) (maxL := 1) (ret := none) (by decide) rfl (fun w h => List.mem_cons_of_mem _ h) th_cd (Nat.le_of_ble_eq_true rfl) ?_
  intro p e s m below meth c hsz hC hr hlk hnm htab hM ls hl
  have hC : th_C D cs h p m c cX1_rememberFormer 1 s [.ref a] RX1 := hC
  have hx := hC.1.1
  have hb := hC.1.2.1
  have hl : lv_has ls 1 [(0, .ref a)] := hl
  refine lv_aload_n hx hb dX1_rememberFormer_0 rfl (lv_at hl 0 rfl) ?_
  refine gi_3_3 (index := 24) hC hM ha mb_75 dX1_rememberFormer_1 ?_
  refine lv_if_ne (tgt := 36) hx hb dX1_rememberFormer_4 (by decide) (fun c4 => ?_) (fun c4 => ?_)
  · refine mw_vret hC hM hr hlk dX1_rememberFormer_36 (Nat.le_of_ble_eq_true rfl) (Nat.le_of_ble_eq_true rfl) ⟨_, rfl, ?_⟩
    first
      | exact ⟨rfl, by simp [pl_rem, c4, th_ui, th_ur, va_up]⟩
      | exact ⟨rfl, by simp [pl_rem, c4]⟩
  · refine lv_aload_n hx hb dX1_rememberFormer_7 rfl (lv_at hl 0 rfl) ?_
    refine lv_iconst (v := 1) hx hb dX1_rememberFormer_8 (by decide) ?_
    refine pu_3_3 (index := 24) (v := 1) hC hM ha mb_75 (by first | exact Or.inl rfl | exact Or.inr rfl) dX1_rememberFormer_9 (fun H locs hM => ?_)
    refine lv_aload_n hx hb dX1_rememberFormer_12 rfl (lv_at hl 0 rfl) ?_
    refine lv_aload_n hx hb dX1_rememberFormer_13 rfl (lv_at hl 0 rfl) ?_
    refine gi_3_0 (index := 12) hC hM ha mb_69 dX1_rememberFormer_14 ?_
    refine pu_3_4 (index := 27) (v := (th_ui h a 3 1).2.1 a 0) hC hM ha mb_76 (by simpa [th_ui, va_up] using hz0) dX1_rememberFormer_17 (fun H locs hM => ?_)
    refine lv_aload_n hx hb dX1_rememberFormer_20 rfl (lv_at hl 0 rfl) ?_
    refine lv_aload_n hx hb dX1_rememberFormer_21 rfl (lv_at hl 0 rfl) ?_
    refine gi_3_1 (index := 16) hC hM ha mb_71 dX1_rememberFormer_22 ?_
    refine pu_3_5 (index := 30) (v := (th_ui (th_ui h a 3 1) a 4 ((th_ui h a 3 1).2.1 a 0)).2.1 a 1) hC hM ha mb_77 dX1_rememberFormer_25 (fun H locs hM => ?_)
    refine lv_aload_n hx hb dX1_rememberFormer_28 rfl (lv_at hl 0 rfl) ?_
    refine lv_aload_n hx hb dX1_rememberFormer_29 rfl (lv_at hl 0 rfl) ?_
    refine gr_3_2 (index := 20) hC hM ha mb_73 dX1_rememberFormer_30 rfl ?_
    refine pu_3_6 (index := 33) (v := (th_ui (th_ui (th_ui h a 3 1) a 4 ((th_ui h a 3 1).2.1 a 0)) a 5 ((th_ui (th_ui h a 3 1) a 4 ((th_ui h a 3 1).2.1 a 0)).2.1 a 1)).2.2 a 2) hC hM ha mb_78 dX1_rememberFormer_33 (fun H locs hM => ?_)
    refine mw_vret hC hM hr hlk dX1_rememberFormer_36 (Nat.le_of_ble_eq_true rfl) (Nat.le_of_ble_eq_true rfl) ⟨_, rfl, ?_⟩
    first
      | exact ⟨rfl, by simp [pl_rem, c4, th_ui, th_ur, va_up]⟩
      | exact ⟨rfl, by simp [pl_rem, c4]⟩

-- StableHeap$Place.putNumber
set_option maxHeartbeats 4000000 in
set_option maxRecDepth 100000 in
theorem c_X1_putNumber (l : Launch) (hl0 : l.stackTraces = false) (D : va_G) (cs : Nat → ClassId) (h : th_S) (sz : Nat) (a : Nat) (ha : h.1 a = some (3, 0)) (hz0 : h.2.1 a 0 = 0 ∨ h.2.1 a 0 = 1) (k : Int32) : th_M l yX1_putNumber wsX1_putNumber { frames := 1, cells := 0, slots := 0, locals := 20 } D cs h sz [.ref a, .int k] (fun v h' => v = none ∧ h' = pl_num h a k) (fun E h' => False) := by
  refine mw_ofW (cc := cX1_putNumber) (maxL := 2) (ret := none) (by decide) rfl (fun w h => List.mem_cons_of_mem _ h) th_cd (Nat.le_of_ble_eq_true rfl) ?_
  intro p e s m below meth c hsz hC hr hlk hnm htab hM ls hl
  have hC : th_C D cs h p m c cX1_putNumber 2 s [.ref a, .int k] RX1 := hC
  have hx := hC.1.1
  have hb := hC.1.2.1
  have hl : lv_has ls 2 [(0, .ref a), (1, .int k)] := hl
  refine lv_aload_n hx hb dX1_putNumber_0 rfl (lv_at hl 0 rfl) ?_
  refine mw_callV (As := []) (rest := []) (n := 0) (C := RX1) (T := TX1) (N := 7) (ci := 1) hC hM (c_X1_rememberFormer l hl0 D cs h s.heap.size a ha hz0) (cwV 0 hC.1.2.2.2.2 (tb_V mb_377 mb_378 mb_12 mb_38 mb_379) rfl rfl rfl (by decide +kernel) ⟨Nat.le_of_ble_eq_true rfl, Nat.le_of_ble_eq_true rfl⟩) (th_at (h := h) ha) rfl rfl rfl hl.1 (Nat.le_of_ble_eq_true rfl) dX1_putNumber_1 ⟨Nat.le_of_ble_eq_true rfl, Nat.le_of_ble_eq_true rfl⟩ (fun E ce q9 g9 H locs hp9 hM hce hcv hcl => ?_) (fun v9 g9 H locs hp9 hM => ?_)
  · exact (hp9.elim fun _ h9 => h9.2.elim)
  obtain ⟨h1, rfl, hp9⟩ := hp9
  obtain ⟨rfl, rfl⟩ := hp9
  refine W.eq (g2 := F0 m 4 ls []) rfl ?_
  refine lv_aload_n hx hb dX1_putNumber_4 rfl (lv_at hl 0 rfl) ?_
  refine lv_iconst (v := 0) hx hb dX1_putNumber_5 (by decide) ?_
  refine pu_3_0 (index := 12) (v := 0) hC hM (show (pl_rem h a).1 a = some (3, 0) by rw [pl_rem_k]; exact ha) mb_69 (by first | exact Or.inl rfl | exact Or.inr rfl) dX1_putNumber_6 (fun H locs hM => ?_)
  refine lv_aload_n hx hb dX1_putNumber_9 rfl (lv_at hl 0 rfl) ?_
  refine lv_iload_n hx hb dX1_putNumber_10 rfl (lv_at hl 1 rfl) ?_
  refine pu_3_1 (index := 16) (v := k) hC hM (show (pl_rem h a).1 a = some (3, 0) by rw [pl_rem_k]; exact ha) mb_71 dX1_putNumber_11 (fun H locs hM => ?_)
  refine lv_aload_n hx hb dX1_putNumber_14 rfl (lv_at hl 0 rfl) ?_
  refine lv_null hx hb dX1_putNumber_15 ?_
  refine pu_3_2 (index := 20) (v := none) hC hM (show (pl_rem h a).1 a = some (3, 0) by rw [pl_rem_k]; exact ha) mb_73 dX1_putNumber_16 (fun H locs hM => ?_)
  refine mw_vret hC hM hr hlk dX1_putNumber_19 (Nat.le_of_ble_eq_true rfl) (Nat.le_of_ble_eq_true rfl) ⟨_, rfl, ?_⟩
  exact ⟨rfl, rfl⟩

-- StableHeap$Place.putReference
set_option maxHeartbeats 4000000 in
set_option maxRecDepth 100000 in
theorem c_X1_putReference (l : Launch) (hl0 : l.stackTraces = false) (D : va_G) (cs : Nat → ClassId) (h : th_S) (sz : Nat) (a : Nat) (ha : h.1 a = some (3, 0)) (hz0 : h.2.1 a 0 = 0 ∨ h.2.1 a 0 = 1) (r : Option Nat) : th_M l yX1_putReference wsX1_putReference { frames := 1, cells := 0, slots := 0, locals := 20 } D cs h sz [.ref a, va_rf r] (fun v h' => v = none ∧ h' = pl_ref h a r) (fun E h' => False) := by
  rcases r with _ | b
  · skip
    refine mw_ofW (cc := cX1_putReference) (maxL := 2) (ret := none) (by decide) rfl (fun w h => List.mem_cons_of_mem _ h) th_cd (Nat.le_of_ble_eq_true rfl) ?_
    intro p e s m below meth c hsz hC hr hlk hnm htab hM ls hl
    have hC : th_C D cs h p m c cX1_putReference 2 s [.ref a, .null] RX1 := hC
    have hx := hC.1.1
    have hb := hC.1.2.1
    have hl : lv_has ls 2 [(0, .ref a), (1, .null)] := hl
    refine lv_aload_n hx hb dX1_putReference_0 rfl (lv_at hl 0 rfl) ?_
    refine mw_callV (As := []) (rest := []) (n := 0) (C := RX1) (T := TX1) (N := 7) (ci := 1) hC hM (c_X1_rememberFormer l hl0 D cs h s.heap.size a ha hz0) (cwV 0 hC.1.2.2.2.2 (tb_V mb_377 mb_378 mb_12 mb_38 mb_379) rfl rfl rfl (by decide +kernel) ⟨Nat.le_of_ble_eq_true rfl, Nat.le_of_ble_eq_true rfl⟩) (th_at (h := h) ha) rfl rfl rfl hl.1 (Nat.le_of_ble_eq_true rfl) dX1_putReference_1 ⟨Nat.le_of_ble_eq_true rfl, Nat.le_of_ble_eq_true rfl⟩ (fun E ce q9 g9 H locs hp9 hM hce hcv hcl => ?_) (fun v9 g9 H locs hp9 hM => ?_)
    · exact (hp9.elim fun _ h9 => h9.2.elim)
    obtain ⟨h1, rfl, hp9⟩ := hp9
    obtain ⟨rfl, rfl⟩ := hp9
    refine W.eq (g2 := F0 m 4 ls []) rfl ?_
    refine lv_aload_n hx hb dX1_putReference_4 rfl (lv_at hl 0 rfl) ?_
    refine lv_iconst (v := 1) hx hb dX1_putReference_5 (by decide) ?_
    refine pu_3_0 (index := 12) (v := 1) hC hM (show (pl_rem h a).1 a = some (3, 0) by rw [pl_rem_k]; exact ha) mb_69 (by first | exact Or.inl rfl | exact Or.inr rfl) dX1_putReference_6 (fun H locs hM => ?_)
    refine lv_aload_n hx hb dX1_putReference_9 rfl (lv_at hl 0 rfl) ?_
    refine lv_iconst (v := 0) hx hb dX1_putReference_10 (by decide) ?_
    refine pu_3_1 (index := 16) (v := 0) hC hM (show (pl_rem h a).1 a = some (3, 0) by rw [pl_rem_k]; exact ha) mb_71 dX1_putReference_11 (fun H locs hM => ?_)
    refine lv_aload_n hx hb dX1_putReference_14 rfl (lv_at hl 0 rfl) ?_
    refine lv_aload_nN hx hb dX1_putReference_15 rfl (lv_at hl 1 rfl) ?_
    refine pu_3_2 (index := 20) (v := none) hC hM (show (pl_rem h a).1 a = some (3, 0) by rw [pl_rem_k]; exact ha) mb_73 dX1_putReference_16 (fun H locs hM => ?_)
    refine mw_vret hC hM hr hlk dX1_putReference_19 (Nat.le_of_ble_eq_true rfl) (Nat.le_of_ble_eq_true rfl) ⟨_, rfl, ?_⟩
    exact ⟨rfl, rfl⟩
  · skip
    refine mw_ofW (cc := cX1_putReference) (maxL := 2) (ret := none) (by decide) rfl (fun w h => List.mem_cons_of_mem _ h) th_cd (Nat.le_of_ble_eq_true rfl) ?_
    intro p e s m below meth c hsz hC hr hlk hnm htab hM ls hl
    have hC : th_C D cs h p m c cX1_putReference 2 s [.ref a, .ref b] RX1 := hC
    have hx := hC.1.1
    have hb := hC.1.2.1
    have hl : lv_has ls 2 [(0, .ref a), (1, .ref b)] := hl
    refine lv_aload_n hx hb dX1_putReference_0 rfl (lv_at hl 0 rfl) ?_
    refine mw_callV (As := []) (rest := []) (n := 0) (C := RX1) (T := TX1) (N := 7) (ci := 1) hC hM (c_X1_rememberFormer l hl0 D cs h s.heap.size a ha hz0) (cwV 0 hC.1.2.2.2.2 (tb_V mb_377 mb_378 mb_12 mb_38 mb_379) rfl rfl rfl (by decide +kernel) ⟨Nat.le_of_ble_eq_true rfl, Nat.le_of_ble_eq_true rfl⟩) (th_at (h := h) ha) rfl rfl rfl hl.1 (Nat.le_of_ble_eq_true rfl) dX1_putReference_1 ⟨Nat.le_of_ble_eq_true rfl, Nat.le_of_ble_eq_true rfl⟩ (fun E ce q9 g9 H locs hp9 hM hce hcv hcl => ?_) (fun v9 g9 H locs hp9 hM => ?_)
    · exact (hp9.elim fun _ h9 => h9.2.elim)
    obtain ⟨h1, rfl, hp9⟩ := hp9
    obtain ⟨rfl, rfl⟩ := hp9
    refine W.eq (g2 := F0 m 4 ls []) rfl ?_
    refine lv_aload_n hx hb dX1_putReference_4 rfl (lv_at hl 0 rfl) ?_
    refine lv_iconst (v := 1) hx hb dX1_putReference_5 (by decide) ?_
    refine pu_3_0 (index := 12) (v := 1) hC hM (show (pl_rem h a).1 a = some (3, 0) by rw [pl_rem_k]; exact ha) mb_69 (by first | exact Or.inl rfl | exact Or.inr rfl) dX1_putReference_6 (fun H locs hM => ?_)
    refine lv_aload_n hx hb dX1_putReference_9 rfl (lv_at hl 0 rfl) ?_
    refine lv_iconst (v := 0) hx hb dX1_putReference_10 (by decide) ?_
    refine pu_3_1 (index := 16) (v := 0) hC hM (show (pl_rem h a).1 a = some (3, 0) by rw [pl_rem_k]; exact ha) mb_71 dX1_putReference_11 (fun H locs hM => ?_)
    refine lv_aload_n hx hb dX1_putReference_14 rfl (lv_at hl 0 rfl) ?_
    refine lv_aload_n hx hb dX1_putReference_15 rfl (lv_at hl 1 rfl) ?_
    refine pu_3_2 (index := 20) (v := some b) hC hM (show (pl_rem h a).1 a = some (3, 0) by rw [pl_rem_k]; exact ha) mb_73 dX1_putReference_16 (fun H locs hM => ?_)
    refine mw_vret hC hM hr hlk dX1_putReference_19 (Nat.le_of_ble_eq_true rfl) (Nat.le_of_ble_eq_true rfl) ⟨_, rfl, ?_⟩
    exact ⟨rfl, rfl⟩

-- StableHeap$Place.takeBack
set_option maxHeartbeats 4000000 in
set_option maxRecDepth 100000 in
theorem c_X1_takeBack (l : Launch) (hl0 : l.stackTraces = false) (D : va_G) (cs : Nat → ClassId) (h : th_S) (sz : Nat) (a : Nat) (ha : h.1 a = some (3, 0)) (hz4 : h.2.1 a 4 = 0 ∨ h.2.1 a 4 = 1) : th_M l yX1_takeBack wsX1_takeBack { frames := 0, cells := 0, slots := 0, locals := 0 } D cs h sz [.ref a] (fun v h' => v = none ∧ h' = pl_back h a) (fun E h' => False) := by
  refine mw_ofW (cc := cX1_takeBack) (maxL := 1) (ret := none) (by decide) rfl (fun w h => List.mem_cons_of_mem _ h) th_cd (Nat.le_of_ble_eq_true rfl) ?_
  intro p e s m below meth c hsz hC hr hlk hnm htab hM ls hl
  have hC : th_C D cs h p m c cX1_takeBack 1 s [.ref a] RX1 := hC
  have hx := hC.1.1
  have hb := hC.1.2.1
  have hl : lv_has ls 1 [(0, .ref a)] := hl
  refine lv_aload_n hx hb dX1_takeBack_0 rfl (lv_at hl 0 rfl) ?_
  refine gi_3_3 (index := 24) hC hM ha mb_75 dX1_takeBack_1 ?_
  refine lv_if_eq (tgt := 31) hx hb dX1_takeBack_4 (by decide) (fun c4 => ?_) (fun c4 => ?_)
  · refine mw_vret hC hM hr hlk dX1_takeBack_31 (Nat.le_of_ble_eq_true rfl) (Nat.le_of_ble_eq_true rfl) ⟨_, rfl, ?_⟩
    first
      | exact ⟨rfl, by simp [pl_back, c4, th_ui, th_ur, va_up]⟩
      | exact ⟨rfl, by simp [pl_back, c4]⟩
  · refine lv_aload_n hx hb dX1_takeBack_7 rfl (lv_at hl 0 rfl) ?_
    refine lv_aload_n hx hb dX1_takeBack_8 rfl (lv_at hl 0 rfl) ?_
    refine gi_3_4 (index := 27) hC hM ha mb_76 dX1_takeBack_9 ?_
    refine pu_3_0 (index := 12) (v := h.2.1 a 4) hC hM ha mb_69 (hz4) dX1_takeBack_12 (fun H locs hM => ?_)
    refine lv_aload_n hx hb dX1_takeBack_15 rfl (lv_at hl 0 rfl) ?_
    refine lv_aload_n hx hb dX1_takeBack_16 rfl (lv_at hl 0 rfl) ?_
    refine gi_3_5 (index := 30) hC hM ha mb_77 dX1_takeBack_17 ?_
    refine pu_3_1 (index := 16) (v := (th_ui h a 0 (h.2.1 a 4)).2.1 a 5) hC hM ha mb_71 dX1_takeBack_20 (fun H locs hM => ?_)
    refine lv_aload_n hx hb dX1_takeBack_23 rfl (lv_at hl 0 rfl) ?_
    refine lv_aload_n hx hb dX1_takeBack_24 rfl (lv_at hl 0 rfl) ?_
    refine gr_3_6 (index := 33) hC hM ha mb_78 dX1_takeBack_25 rfl ?_
    refine pu_3_2 (index := 20) (v := (th_ui (th_ui h a 0 (h.2.1 a 4)) a 1 ((th_ui h a 0 (h.2.1 a 4)).2.1 a 5)).2.2 a 6) hC hM ha mb_73 dX1_takeBack_28 (fun H locs hM => ?_)
    refine mw_vret hC hM hr hlk dX1_takeBack_31 (Nat.le_of_ble_eq_true rfl) (Nat.le_of_ble_eq_true rfl) ⟨_, rfl, ?_⟩
    first
      | exact ⟨rfl, by simp [pl_back, c4, th_ui, th_ur, va_up]⟩
      | exact ⟨rfl, by simp [pl_back, c4]⟩

-- StableHeap$Place.forgetFormer
set_option maxHeartbeats 4000000 in
set_option maxRecDepth 100000 in
theorem c_X1_forgetFormer (l : Launch) (hl0 : l.stackTraces = false) (D : va_G) (cs : Nat → ClassId) (h : th_S) (sz : Nat) (a : Nat) (ha : h.1 a = some (3, 0)) : th_M l yX1_forgetFormer wsX1_forgetFormer { frames := 0, cells := 0, slots := 0, locals := 0 } D cs h sz [.ref a] (fun v h' => v = none ∧ h' = pl_forget h a) (fun E h' => False) := by
  refine mw_ofW (cc := cX1_forgetFormer) (maxL := 1) (ret := none) (by decide) rfl (fun w h => List.mem_cons_of_mem _ h) th_cd (Nat.le_of_ble_eq_true rfl) ?_
  intro p e s m below meth c hsz hC hr hlk hnm htab hM ls hl
  have hC : th_C D cs h p m c cX1_forgetFormer 1 s [.ref a] RX1 := hC
  have hx := hC.1.1
  have hb := hC.1.2.1
  have hl : lv_has ls 1 [(0, .ref a)] := hl
  refine lv_aload_n hx hb dX1_forgetFormer_0 rfl (lv_at hl 0 rfl) ?_
  refine lv_iconst (v := 0) hx hb dX1_forgetFormer_1 (by decide) ?_
  refine pu_3_3 (index := 24) (v := 0) hC hM ha mb_75 (by first | exact Or.inl rfl | exact Or.inr rfl) dX1_forgetFormer_2 (fun H locs hM => ?_)
  refine lv_aload_n hx hb dX1_forgetFormer_5 rfl (lv_at hl 0 rfl) ?_
  refine lv_null hx hb dX1_forgetFormer_6 ?_
  refine pu_3_6 (index := 33) (v := none) hC hM ha mb_78 dX1_forgetFormer_7 (fun H locs hM => ?_)
  refine mw_vret hC hM hr hlk dX1_forgetFormer_10 (Nat.le_of_ble_eq_true rfl) (Nat.le_of_ble_eq_true rfl) ⟨_, rfl, ?_⟩
  exact ⟨rfl, rfl⟩

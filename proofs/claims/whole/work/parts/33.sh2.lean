/-! StableHeap: finding, fields, the log -/
def sh_no (aO n : Nat) (h : th_S) (k : Int32) : Prop := ∀ i a, i < n → h.2.2 aO i = some a → ¬ h.2.1 a 0 = k
def sh_ob (aO n : Nat) (h : th_S) (k : Int32) (a : Nat) : Prop := ∃ i, i < n ∧ h.2.2 aO i = some a ∧ h.2.1 a 0 = k
def sh_fo (aO n : Nat) (h : th_S) (k : Int32) (r : Option Nat) : Prop := (r = none ∧ sh_no aO n h k) ∨ ∃ a, r = some a ∧ sh_ob aO n h k a
def sh_fd (h : th_S) (a : Nat) (f : Int32) (q : Nat) : Prop := ∃ pa n j, h.2.2 a 1 = some pa ∧ h.1 pa = some (6, n) ∧ j < n ∧ f = nI j ∧ h.2.2 pa j = some q
def sh_nf (h : th_S) (a : Nat) (f : Int32) : Prop := ∃ pa n, h.2.2 a 1 = some pa ∧ h.1 pa = some (6, n) ∧ (f < 0 ∨ nI n ≤ f)
theorem sh_ob.k {x aO n : Nat} {h : th_S} {k : Int32} {a : Nat} (o : sh_O x aO n h) (hb : sh_ob aO n h k a) : h.1 a = some (2, 0) := by
  obtain ⟨i, hi, ha, -⟩ := hb
  obtain ⟨b, hb, hk⟩ := o.at hi
  rw [ha] at hb
  cases hb
  exact hk
theorem sh_fd.k {x aR aO aH aT : Nat} {rt ta : Nat → Nat} {h : th_S} {a q : Nat} {f : Int32} (k : sh_K x aR aO aH aT rt ta h) (hq : sh_fd h a f q) : h.1 q = some (3, 0) := by
  obtain ⟨pa, n, j, -, hn, hj, -, h1⟩ := hq
  obtain ⟨b, hb, hk⟩ := k.pa hn hj
  rw [h1] at hb
  cases hb
  exact hk
theorem sh_K.uk {x aR aO aH aT : Nat} {rt ta : Nat → Nat} {h : th_S} (k : sh_K x aR aO aH aT rt ta h) {a j : Nat} {v : Int32} {t : Nat × Nat} (ha : h.1 a = some t) (ht : t ≠ (3, 0)) : sh_K x aR aO aH aT rt ta (th_ui h a j v) :=
  k.ui (fun q => absurd (Option.some.inj (ha.symm.trans q)) ht)

-- the loop at 2 of StableHeap.findObject
set_option maxHeartbeats 4000000 in
set_option maxRecDepth 100000 in
theorem lo_X3_findObject_2 {l : Launch} (hl0 : l.stackTraces = false) {D : va_G} {cs : Nat → ClassId} {h : th_S} (x aR aO aH aT : Nat) (rt ta : Nat → Nat) (hK : sh_K x aR aO aH aT rt ta h) (n : Nat) (hO : sh_O x aO n h) (k : Int32) {p : Program} {e : Env} {s : State} {m : MethodId} {below : List Frame} {meth : Method} {c : Code} (hC : th_C D cs h p m c cX3_findObject 3 s [.ref x, .int k] RX3) (hr : meth.sig.returnType = some (.object "StableHeap$Lockable")) (hlk : meth.locks = false) (htab : ∀ x ∈ c.exceptionTable.toList, False) : ∀ (q : Nat) (i : Nat) (H : Heap) (locs : List Loc) (ls : Array Slot), (i + q = n) → (∀ j a, j < i → h.2.2 aO j = some a → ¬ h.2.1 a 0 = k) → th_H D cs h s h H locs → lv_has ls 3 [(0, .ref x), (1, .int k), (2, .int (nI i))] → W p l e { frames := 0, cells := 0, slots := 0, locals := 0 } s m [.ref x, .int k].toArray below meth c H locs 0 0 (th_Q below D cs h s [.ref x, .int k] (fun v h' => h = h' ∧ ∃ r, v = some (va_rf r) ∧ sh_fo aO n h k r) (fun E h' => False) 0 0) (F0 m 2 ls []) := by
  have hx := hC.1.1
  have hb := hC.1.2.1
  have kx0 : h.1 x = some (0, 0) := hK.kx
  intro q
  induction q with
  | zero =>
    intro i H locs ls hin hinv hM hl
    have hi9 : i = n := by omega
    subst hi9
    refine lv_iload_n hx hb dX3_findObject_2 rfl (lv_at hl 2 rfl) ?_
    refine lv_aload_n hx hb dX3_findObject_3 rfl (lv_at hl 0 rfl) ?_
    refine gi_0_4 (index := 60) hC hM kx0 mb_128 dX3_findObject_4 ?_
    rw [show h.2.1 x 4 = nI i from hO.2.1]
    refine lv_icmp_ge (tgt := 36) hx hb dX3_findObject_7 (by decide) (fun c7 => ?_) (fun c7 => ?_)
    · refine lv_null hx hb dX3_findObject_36 ?_
      refine mw_aret (r := none) hC hM hr hlk dX3_findObject_37 (Nat.le_of_ble_eq_true rfl) (Nat.le_of_ble_eq_true rfl) ⟨_, rfl, ?_⟩
      exact ⟨rfl, none, rfl, Or.inl ⟨rfl, fun j b hj hb => hinv j b hj hb⟩⟩
    · exact absurd (nI_le (Nat.le_refl i) (by have := hO.1; omega)) c7
  | succ q ih =>
    intro i H locs ls hin hinv hM hl
    refine lv_iload_n hx hb dX3_findObject_2 rfl (lv_at hl 2 rfl) ?_
    refine lv_aload_n hx hb dX3_findObject_3 rfl (lv_at hl 0 rfl) ?_
    refine gi_0_4 (index := 60) hC hM kx0 mb_128 dX3_findObject_4 ?_
    rw [show h.2.1 x 4 = nI n from hO.2.1]
    refine lv_icmp_ge (tgt := 36) hx hb dX3_findObject_7 (by decide) (fun c7 => ?_) (fun c7 => ?_)
    · exact absurd c7 (nI_ge (by omega) (by have := hO.1; omega))
    · obtain ⟨a, ha, ka⟩ := hO.at (show i < n by omega)
      refine lv_aload_n hx hb dX3_findObject_10 rfl (lv_at hl 0 rfl) ?_
      refine gr_0_1 (index := 18) hC hM kx0 mb_125 dX3_findObject_11 hK.xO ?_
      refine lv_iload_n hx hb dX3_findObject_14 rfl (lv_at hl 2 rfl) ?_
      refine al_4 (i := i) hC hM hK.kO (rfl) (by have := hO.1; omega) (by first | decide | omega) ha dX3_findObject_15 ?_
      refine gi_2_0 (index := 184) hC hM ka mb_96 dX3_findObject_16 ?_
      refine lv_iload_n hx hb dX3_findObject_19 rfl (lv_at hl 1 rfl) ?_
      refine lv_icmp_ne (tgt := 30) hx hb dX3_findObject_20 (by decide) (fun c20 => ?_) (fun c20 => ?_)
      · refine lv_iinc (v := nI (i + 1)) (lv' := [(2, .int (nI (i + 1))), (0, .ref x), (1, .int k)]) hx hb dX3_findObject_30 hl (k := 2) rfl (by exact nI_1 i) (by first | decide | omega) rfl (fun ls hl => ?_)
        refine lv_goto (tgt := 2) hx hb dX3_findObject_33 (by decide) ?_
        exact ih (i + 1) H locs ls (by omega) (fun j b hj hb => by
          rcases Nat.lt_or_ge j i with h1 | h1
          · exact hinv j b h1 hb
          · rw [show j = i by omega, ha] at hb
            cases hb
            exact c20) hM (lv_sub hl [1, 2, 0] rfl)
      · refine lv_aload_n hx hb dX3_findObject_23 rfl (lv_at hl 0 rfl) ?_
        refine gr_0_1 (index := 18) hC hM kx0 mb_125 dX3_findObject_24 hK.xO ?_
        refine lv_iload_n hx hb dX3_findObject_27 rfl (lv_at hl 2 rfl) ?_
        refine al_4 (i := i) hC hM hK.kO (rfl) (by have := hO.1; omega) (by first | decide | omega) ha dX3_findObject_28 ?_
        refine mw_aret (r := some a) hC hM hr hlk dX3_findObject_29 (Nat.le_of_ble_eq_true rfl) (Nat.le_of_ble_eq_true rfl) ⟨_, rfl, ?_⟩
        exact ⟨rfl, some a, rfl, Or.inr ⟨a, rfl, i, by omega, ha, c20⟩⟩

-- StableHeap.findObject
set_option maxHeartbeats 4000000 in
set_option maxRecDepth 100000 in
theorem c_X3_findObject (l : Launch) (hl0 : l.stackTraces = false) (D : va_G) (cs : Nat → ClassId) (h : th_S) (sz : Nat) (x aR aO aH aT : Nat) (rt ta : Nat → Nat) (hK : sh_K x aR aO aH aT rt ta h) (n : Nat) (hO : sh_O x aO n h) (k : Int32) : th_M l yX3_findObject wsX3_findObject { frames := 0, cells := 0, slots := 0, locals := 0 } D cs h sz [.ref x, .int k] (fun v h' => h = h' ∧ ∃ r, v = some (va_rf r) ∧ sh_fo aO n h k r) (fun E h' => False) := by
  refine mw_ofW (cc := cX3_findObject) (maxL := 3) (ret := (some (.object "StableHeap$Lockable"))) (by decide) rfl (fun w h => List.mem_cons_of_mem _ h) th_cd (Nat.le_of_ble_eq_true rfl) ?_
  intro p e s m below meth c hsz hC hr hlk hnm htab hM ls hl
  have hC : th_C D cs h p m c cX3_findObject 3 s [.ref x, .int k] RX3 := hC
  have hx := hC.1.1
  have hb := hC.1.2.1
  have kx0 : h.1 x = some (0, 0) := hK.kx
  have hl : lv_has ls 3 [(0, .ref x), (1, .int k)] := hl
  refine lv_iconst (v := 0) hx hb dX3_findObject_0 (by decide) ?_
  refine lv_istore_n (lv' := [(2, .int 0), (0, .ref x), (1, .int k)]) hx hb dX3_findObject_1 rfl hl (by decide) rfl (fun ls hl => ?_)
  exact lo_X3_findObject_2 hl0 x aR aO aH aT rt ta hK n hO k hC hr hlk htab n 0 _ _ ls (by omega) (fun j a hj => absurd hj (Nat.not_lt_zero j)) hM (lv_sub hl [1, 2, 0] rfl)

-- StableHeap.objectWith
set_option maxHeartbeats 4000000 in
set_option maxRecDepth 100000 in
theorem c_X3_objectWith (l : Launch) (hl0 : l.stackTraces = false) (D : va_G) (cs : Nat → ClassId) (h : th_S) (sz : Nat) (x aR aO aH aT : Nat) (rt ta : Nat → Nat) (hK : sh_K x aR aO aH aT rt ta h) (n : Nat) (hO : sh_O x aO n h) (k : Int32) : th_M l yX3_objectWith wsX3_objectWith { frames := 6, cells := 1, slots := 6, locals := 90 } D cs h sz [.ref x, .int k] (fun v h' => h = h' ∧ ∃ a, v = some (.ref a) ∧ sh_ob aO n h k a) (fun E h' => E = "java/util/NoSuchElementException" ∧ h = h' ∧ sh_no aO n h k) := by
  refine mw_ofW (cc := cX3_objectWith) (maxL := 3) (ret := (some (.object "StableHeap$Lockable"))) (by decide) rfl (fun w h => List.mem_cons_of_mem _ h) th_cd (Nat.le_of_ble_eq_true rfl) ?_
  intro p e s m below meth c hsz hC hr hlk hnm htab hM ls hl
  have hC : th_C D cs h p m c cX3_objectWith 3 s [.ref x, .int k] RX3 := hC
  have hx := hC.1.1
  have hb := hC.1.2.1
  have kx0 : h.1 x = some (0, 0) := hK.kx
  have hl : lv_has ls 3 [(0, .ref x), (1, .int k)] := hl
  refine lv_aload_n hx hb dX3_objectWith_0 rfl (lv_at hl 0 rfl) ?_
  refine lv_iload_n hx hb dX3_objectWith_1 rfl (lv_at hl 1 rfl) ?_
  refine mw_callV (As := [.int k]) (rest := []) (n := 1) (C := RX3) (T := TX3) (N := 11) (ci := 3) hC hM (c_X3_findObject l hl0 D cs h s.heap.size x aR aO aH aT rt ta hK n hO k) (cwV 1 hC.1.2.2.2.2 (tb_V mb_350 mb_351 mb_11 mb_36 mb_352) rfl rfl rfl (by decide +kernel) ⟨Nat.le_of_ble_eq_true rfl, Nat.le_of_ble_eq_true rfl⟩) (th_at (h := h) kx0) rfl rfl rfl hl.1 (Nat.le_of_ble_eq_true rfl) dX3_objectWith_2 ⟨Nat.le_of_ble_eq_true rfl, Nat.le_of_ble_eq_true rfl⟩ (fun E ce q9 g9 H locs hp9 hM hce hcv hcl => ?_) (fun v9 g9 H locs hp9 hM => ?_)
  · exact (hp9.elim fun _ h9 => h9.2.elim)
  obtain ⟨h2, rfl, hp9⟩ := hp9
  obtain ⟨rfl, r, rfl, hf⟩ := hp9
  rcases hf with ⟨rfl, hf⟩ | ⟨a, rfl, hf⟩
  · skip
    refine W.eq (g2 := F0 m 5 ls [.null]) rfl ?_
    refine lv_astore_nN (lv' := [(2, .null), (0, .ref x), (1, .int k)]) hx hb dX3_objectWith_5 rfl hl (by decide) rfl (fun ls hl => ?_)
    refine lv_aload_nN hx hb dX3_objectWith_6 rfl (lv_at hl 0 rfl) ?_
    refine lv_ifnonnullN hx hb dX3_objectWith_7 ?_
    refine mw_throwN (Y := "java/lang/RuntimeException") (cls := "java/util/NoSuchElementException") (names := ["java/lang/Exception"]) (ik := 162) (is := 182) (ic := 166) hC hM htab hlk hl0 sx_182 (by decide +kernel) (by decide +kernel) (by decide +kernel) mb_311 mb_46 tg_166 tn_166 to_166 hl.1 dX3_objectWith_10 dX3_objectWith_13 dX3_objectWith_14 dX3_objectWith_16 dX3_objectWith_19 (Nat.le_of_ble_eq_true rfl) (Nat.le_of_ble_eq_true rfl) (Nat.le_of_ble_eq_true rfl) (Nat.le_of_ble_eq_true rfl) (Nat.le_of_ble_eq_true rfl) (Nat.le_of_ble_eq_true rfl) ⟨_, rfl, ?_⟩
    exact ⟨rfl, rfl, hf⟩
  · skip
    refine W.eq (g2 := F0 m 5 ls [.ref a]) rfl ?_
    refine lv_astore_n (lv' := [(2, .ref a), (0, .ref x), (1, .int k)]) hx hb dX3_objectWith_5 rfl hl (by decide) rfl (fun ls hl => ?_)
    refine lv_aload_n hx hb dX3_objectWith_6 rfl (lv_at hl 0 rfl) ?_
    refine lv_ifnonnull (tgt := 20) hx hb dX3_objectWith_7 (by decide) ?_
    refine lv_aload_n hx hb dX3_objectWith_20 rfl (lv_at hl 0 rfl) ?_
    refine mw_aret (r := some a) hC hM hr hlk dX3_objectWith_21 (Nat.le_of_ble_eq_true rfl) (Nat.le_of_ble_eq_true rfl) ⟨_, rfl, ?_⟩
    exact ⟨rfl, a, rfl, hf⟩

-- StableHeap.fieldOf
set_option maxHeartbeats 4000000 in
set_option maxRecDepth 100000 in
theorem c_X3_fieldOf (l : Launch) (hl0 : l.stackTraces = false) (D : va_G) (cs : Nat → ClassId) (h : th_S) (sz : Nat) (a pa n : Nat) (ha : h.1 a = some (2, 0)) (hpa : h.2.2 a 1 = some pa) (hn : h.1 pa = some (6, n)) (hn4 : n ≤ 4) (hq : ∀ j, j < n → ∃ q, h.2.2 pa j = some q ∧ h.1 q = some (3, 0)) (k : Int32) : th_M l yX3_fieldOf wsX3_fieldOf { frames := 6, cells := 1, slots := 6, locals := 90 } D cs h sz [.ref a, .int k] (fun v h' => h = h' ∧ ∃ q, v = some (.ref q) ∧ sh_fd h a k q) (fun E h' => E = "java/lang/IndexOutOfBoundsException" ∧ h = h' ∧ sh_nf h a k) := by
  refine mw_ofW (cc := cX3_fieldOf) (maxL := 2) (ret := (some (.object "StableHeap$Place"))) (by decide) rfl (fun w h => List.mem_cons_of_mem _ h) th_cd (Nat.le_of_ble_eq_true rfl) ?_
  intro p e s m below meth c hsz hC hr hlk hnm htab hM ls hl
  have hC : th_C D cs h p m c cX3_fieldOf 2 s [.ref a, .int k] RX3 := hC
  have hx := hC.1.1
  have hb := hC.1.2.1
  have hl : lv_has ls 2 [(0, .ref a), (1, .int k)] := hl
  refine lv_iload_n hx hb dX3_fieldOf_0 rfl (lv_at hl 1 rfl) ?_
  refine lv_if_lt (tgt := 13) hx hb dX3_fieldOf_1 (by decide) (fun c1 => ?_) (fun c1 => ?_)
  · refine mw_throw (cls := "java/lang/IndexOutOfBoundsException") (names := ["java/lang/RuntimeException", "java/lang/Exception"]) (ik := 187) (is := 189) (ic := 191) hC hM htab hlk hl0 sx_189 (by decide +kernel) (by decide +kernel) mb_356 mb_48 tg_191 tn_191 to_191 hl.1 dX3_fieldOf_13 dX3_fieldOf_16 dX3_fieldOf_17 dX3_fieldOf_19 dX3_fieldOf_22 (Nat.le_of_ble_eq_true rfl) (Nat.le_of_ble_eq_true rfl) (Nat.le_of_ble_eq_true rfl) (Nat.le_of_ble_eq_true rfl) (Nat.le_of_ble_eq_true rfl) (Nat.le_of_ble_eq_true rfl) ⟨_, rfl, ?_⟩
    exact ⟨rfl, rfl, pa, n, hpa, hn, by first | exact Or.inl c1 | exact Or.inr (Int32.not_lt.mp c10)⟩
  · refine lv_iload_n hx hb dX3_fieldOf_4 rfl (lv_at hl 1 rfl) ?_
    refine lv_aload_n hx hb dX3_fieldOf_5 rfl (lv_at hl 0 rfl) ?_
    refine gr_2_1 (index := 103) hC hM ha mb_98 dX3_fieldOf_6 hpa ?_
    refine an_6 hC hM hn dX3_fieldOf_9 ?_
    refine lv_icmp_lt (tgt := 23) hx hb dX3_fieldOf_10 (by decide) (fun c10 => ?_) (fun c10 => ?_)
    · obtain ⟨j, hj, hkj⟩ : ∃ j, j < n ∧ k = nI j := by
        rcases pk_ix k (n := n) (by omega) with h1 | h1 | h1
        · exact absurd h1 c1
        · exact absurd h1 (Int32.not_le.mpr c10)
        · exact h1
      obtain ⟨q, hjq, hkq⟩ := hq j hj
      refine lv_aload_n hx hb dX3_fieldOf_23 rfl (lv_at hl 0 rfl) ?_
      refine gr_2_1 (index := 103) hC hM ha mb_98 dX3_fieldOf_24 hpa ?_
      refine lv_iload_n hx hb dX3_fieldOf_27 rfl (lv_at hl 1 rfl) ?_
      refine al_6 (i := j) hC hM hn (hkj) (hj) (by first | decide | omega) hjq dX3_fieldOf_28 ?_
      refine mw_aret (r := some q) hC hM hr hlk dX3_fieldOf_29 (Nat.le_of_ble_eq_true rfl) (Nat.le_of_ble_eq_true rfl) ⟨_, rfl, ?_⟩
      exact ⟨rfl, q, rfl, pa, n, j, hpa, hn, hj, hkj, hjq⟩
    · refine mw_throw (cls := "java/lang/IndexOutOfBoundsException") (names := ["java/lang/RuntimeException", "java/lang/Exception"]) (ik := 187) (is := 189) (ic := 191) hC hM htab hlk hl0 sx_189 (by decide +kernel) (by decide +kernel) mb_356 mb_48 tg_191 tn_191 to_191 hl.1 dX3_fieldOf_13 dX3_fieldOf_16 dX3_fieldOf_17 dX3_fieldOf_19 dX3_fieldOf_22 (Nat.le_of_ble_eq_true rfl) (Nat.le_of_ble_eq_true rfl) (Nat.le_of_ble_eq_true rfl) (Nat.le_of_ble_eq_true rfl) (Nat.le_of_ble_eq_true rfl) (Nat.le_of_ble_eq_true rfl) ⟨_, rfl, ?_⟩
      exact ⟨rfl, rfl, pa, n, hpa, hn, by first | exact Or.inl c1 | exact Or.inr (Int32.not_lt.mp c10)⟩

-- StableHeap.rootAt
set_option maxHeartbeats 4000000 in
set_option maxRecDepth 100000 in
theorem c_X3_rootAt (l : Launch) (hl0 : l.stackTraces = false) (D : va_G) (cs : Nat → ClassId) (h : th_S) (sz : Nat) (x aR aO aH aT : Nat) (rt ta : Nat → Nat) (hK : sh_K x aR aO aH aT rt ta h) (k : Int32) : th_M l yX3_rootAt wsX3_rootAt { frames := 6, cells := 1, slots := 6, locals := 90 } D cs h sz [.ref x, .int k] (fun v h' => h = h' ∧ ∃ j, j < 4 ∧ k = nI j ∧ v = some (.ref (rt j))) (fun E h' => E = "java/lang/IndexOutOfBoundsException" ∧ h = h' ∧ (k < 0 ∨ 4 ≤ k)) := by
  refine mw_ofW (cc := cX3_rootAt) (maxL := 2) (ret := (some (.object "StableHeap$Lockable"))) (by decide) rfl (fun w h => List.mem_cons_of_mem _ h) th_cd (Nat.le_of_ble_eq_true rfl) ?_
  intro p e s m below meth c hsz hC hr hlk hnm htab hM ls hl
  have hC : th_C D cs h p m c cX3_rootAt 2 s [.ref x, .int k] RX3 := hC
  have hx := hC.1.1
  have hb := hC.1.2.1
  have kx0 : h.1 x = some (0, 0) := hK.kx
  have hl : lv_has ls 2 [(0, .ref x), (1, .int k)] := hl
  refine lv_iload_n hx hb dX3_rootAt_0 rfl (lv_at hl 1 rfl) ?_
  refine lv_if_lt (tgt := 9) hx hb dX3_rootAt_1 (by decide) (fun c1 => ?_) (fun c1 => ?_)
  · refine mw_throw (cls := "java/lang/IndexOutOfBoundsException") (names := ["java/lang/RuntimeException", "java/lang/Exception"]) (ik := 187) (is := 164) (ic := 191) hC hM htab hlk hl0 sx_164 (by decide +kernel) (by decide +kernel) mb_356 mb_48 tg_191 tn_191 to_191 hl.1 dX3_rootAt_9 dX3_rootAt_12 dX3_rootAt_13 dX3_rootAt_15 dX3_rootAt_18 (Nat.le_of_ble_eq_true rfl) (Nat.le_of_ble_eq_true rfl) (Nat.le_of_ble_eq_true rfl) (Nat.le_of_ble_eq_true rfl) (Nat.le_of_ble_eq_true rfl) (Nat.le_of_ble_eq_true rfl) ⟨_, rfl, ?_⟩
    exact ⟨rfl, rfl, by first | exact Or.inl c1 | exact Or.inr (Int32.not_lt.mp c6)⟩
  · refine lv_iload_n hx hb dX3_rootAt_4 rfl (lv_at hl 1 rfl) ?_
    refine lv_iconst (v := 4) hx hb dX3_rootAt_5 (by decide) ?_
    refine lv_icmp_lt (tgt := 19) hx hb dX3_rootAt_6 (by decide) (fun c6 => ?_) (fun c6 => ?_)
    · obtain ⟨j, hj, hkj⟩ : ∃ j, j < 4 ∧ k = nI j := by
        rcases pk_ix k (n := 4) (by omega) with h1 | h1 | h1
        · exact absurd h1 c1
        · exact absurd h1 (Int32.not_le.mpr c6)
        · exact h1
      refine lv_aload_n hx hb dX3_rootAt_19 rfl (lv_at hl 0 rfl) ?_
      refine gr_0_0 (index := 11) hC hM kx0 mb_124 dX3_rootAt_20 hK.xR ?_
      refine lv_iload_n hx hb dX3_rootAt_23 rfl (lv_at hl 1 rfl) ?_
      refine al_4 (i := j) hC hM hK.kR (hkj) (hj) (by first | decide | omega) (hK.rr hj) dX3_rootAt_24 ?_
      refine mw_aret (r := some (rt j)) hC hM hr hlk dX3_rootAt_25 (Nat.le_of_ble_eq_true rfl) (Nat.le_of_ble_eq_true rfl) ⟨_, rfl, ?_⟩
      exact ⟨rfl, j, hj, hkj, rfl⟩
    · refine mw_throw (cls := "java/lang/IndexOutOfBoundsException") (names := ["java/lang/RuntimeException", "java/lang/Exception"]) (ik := 187) (is := 164) (ic := 191) hC hM htab hlk hl0 sx_164 (by decide +kernel) (by decide +kernel) mb_356 mb_48 tg_191 tn_191 to_191 hl.1 dX3_rootAt_9 dX3_rootAt_12 dX3_rootAt_13 dX3_rootAt_15 dX3_rootAt_18 (Nat.le_of_ble_eq_true rfl) (Nat.le_of_ble_eq_true rfl) (Nat.le_of_ble_eq_true rfl) (Nat.le_of_ble_eq_true rfl) (Nat.le_of_ble_eq_true rfl) (Nat.le_of_ble_eq_true rfl) ⟨_, rfl, ?_⟩
      exact ⟨rfl, rfl, by first | exact Or.inl c1 | exact Or.inr (Int32.not_lt.mp c6)⟩

-- StableHeap.writeRecord
set_option maxHeartbeats 4000000 in
set_option maxRecDepth 100000 in
theorem c_X3_writeRecord (l : Launch) (hl0 : l.stackTraces = false) (D : va_G) (cs : Nat → ClassId) (h : th_S) (sz : Nat) (x aR aO aH aT : Nat) (rt ta : Nat → Nat) (hK : sh_K x aR aO aH aT rt ta h) (t : Nat) (ht : h.1 t = some (1, 0)) (k : Int32) : th_M l yX3_writeRecord wsX3_writeRecord { frames := 6, cells := 1, slots := 6, locals := 90 } D cs h sz [.ref x, .ref t, .int k] (fun v h' => v = none ∧ h' = th_ui h t 1 (h.2.1 t 1 + k) ∧ sh_wl x ta h + k ≤ 150) (fun E h' => E = "java/lang/UnsupportedOperationException" ∧ h = h' ∧ ¬ sh_wl x ta h + k ≤ 150) := by
  refine mw_ofW (cc := cX3_writeRecord) (maxL := 3) (ret := none) (by decide) rfl (fun w h => List.mem_cons_of_mem _ h) th_cd (Nat.le_of_ble_eq_true rfl) ?_
  intro p e s m below meth c hsz hC hr hlk hnm htab hM ls hl
  have hC : th_C D cs h p m c cX3_writeRecord 3 s [.ref x, .ref t, .int k] RX3 := hC
  have hx := hC.1.1
  have hb := hC.1.2.1
  have kx0 : h.1 x = some (0, 0) := hK.kx
  have hl : lv_has ls 3 [(0, .ref x), (1, .ref t), (2, .int k)] := hl
  refine lv_aload_n hx hb dX3_writeRecord_0 rfl (lv_at hl 0 rfl) ?_
  refine mw_callV (As := []) (rest := []) (n := 0) (C := RX3) (T := TX3) (N := 11) (ci := 3) hC hM (c_X3_wordsInLog l hl0 D cs h s.heap.size x aR aO aH aT rt ta hK) (cwV 0 hC.1.2.2.2.2 (tb_V mb_162 mb_163 mb_0 mb_36 mb_164) rfl rfl rfl (by decide +kernel) ⟨Nat.le_of_ble_eq_true rfl, Nat.le_of_ble_eq_true rfl⟩) (th_at (h := h) kx0) rfl rfl rfl hl.1 (Nat.le_of_ble_eq_true rfl) dX3_writeRecord_1 ⟨Nat.le_of_ble_eq_true rfl, Nat.le_of_ble_eq_true rfl⟩ (fun E ce q9 g9 H locs hp9 hM hce hcv hcl => ?_) (fun v9 g9 H locs hp9 hM => ?_)
  · exact (hp9.elim fun _ h9 => h9.2.elim)
  obtain ⟨h1, rfl, hp9⟩ := hp9
  obtain ⟨rfl, rfl⟩ := hp9
  refine W.eq (g2 := F0 m 4 ls [.int (sh_wl x ta h)]) rfl ?_
  refine lv_iload_n hx hb dX3_writeRecord_4 rfl (lv_at hl 2 rfl) ?_
  refine lv_iadd hx hb dX3_writeRecord_5 ?_
  refine lv_sipush (v := 150) hx hb dX3_writeRecord_6 (by decide) ?_
  refine lv_icmp_le (tgt := 22) hx hb dX3_writeRecord_9 (by decide) (fun c9 => ?_) (fun c9 => ?_)
  · refine lv_aload_n hx hb dX3_writeRecord_22 rfl (lv_at hl 1 rfl) ?_
    refine lv_dup hx hb dX3_writeRecord_23 rfl ?_
    refine gi_1_1 (index := 134) hC hM ht mb_118 dX3_writeRecord_24 ?_
    refine lv_iload_n hx hb dX3_writeRecord_27 rfl (lv_at hl 2 rfl) ?_
    refine lv_iadd hx hb dX3_writeRecord_28 ?_
    refine pu_1_1 (index := 134) (v := (h.2.1 t 1) + k) hC hM ht mb_118 dX3_writeRecord_29 (fun H locs hM => ?_)
    refine mw_vret hC hM hr hlk dX3_writeRecord_32 (Nat.le_of_ble_eq_true rfl) (Nat.le_of_ble_eq_true rfl) ⟨_, rfl, ?_⟩
    exact ⟨rfl, rfl, c9⟩
  · refine mw_throw (cls := "java/lang/UnsupportedOperationException") (names := ["java/lang/RuntimeException", "java/lang/Exception"]) (ik := 200) (is := 202) (ic := 204) hC hM htab hlk hl0 sx_202 (by decide +kernel) (by decide +kernel) mb_285 mb_45 tg_204 tn_204 to_204 hl.1 dX3_writeRecord_12 dX3_writeRecord_15 dX3_writeRecord_16 dX3_writeRecord_18 dX3_writeRecord_21 (Nat.le_of_ble_eq_true rfl) (Nat.le_of_ble_eq_true rfl) (Nat.le_of_ble_eq_true rfl) (Nat.le_of_ble_eq_true rfl) (Nat.le_of_ble_eq_true rfl) (Nat.le_of_ble_eq_true rfl) ⟨_, rfl, ?_⟩
    exact ⟨rfl, rfl, c9⟩

-- the loop at 19 of StableHeap$Lockable.<init>
set_option maxHeartbeats 4000000 in
set_option maxRecDepth 100000 in
theorem lo_X0_init_19 {l : Launch} (hl0 : l.stackTraces = false) {D : va_G} {cs : Nat → ClassId} {h : th_S} (a : Nat) (ha : h.1 a = some (2, 0)) (hd : Int32) (n : Nat) (hn : n ≤ 4) (pa : Nat) (hpa : h.1 pa = none) {p : Program} {e : Env} {s : State} {m : MethodId} {below : List Frame} {meth : Method} {c : Code} (hC : th_C D cs h p m c cX0_init 4 s [.ref a, .int hd, .int (nI n)] RX0) (hr : meth.sig.returnType = none) (hlk : meth.locks = false) : ∀ (q9 : Nat) (i : Nat) (pp : Nat → Nat) (H : Heap) (locs : List Loc) (ls : Array Slot), (i + q9 = n) → (∀ j, j < i → (lk_it pa pp (lk_b h a hd pa n) j).1 (pp j) = none) → th_H D cs h s (lk_it pa pp (lk_b h a hd pa n) i) H locs → lv_has ls 4 [(0, .ref a), (1, .int hd), (2, .int (nI n)), (3, .int (nI i))] → W p l e { frames := 2, cells := 5, slots := 32, locals := 36 } s m [.ref a, .int hd, .int (nI n)].toArray below meth c H locs (1 + i) (n + 7 * i) (th_QI below D cs h s [.ref a, .int hd, .int (nI n)] (fun v h' => v = none ∧ ∃ pa pp, lk_F h a hd n pa pp ∧ h' = lk_it pa pp (lk_b h a hd pa n) n) 5 32) (F0 m 19 ls []) := by
  have hx := hC.1.1
  have hb := hC.1.2.1
  intro q9
  induction q9 with
  | zero =>
    intro i pp H locs ls hin hF hM hl
    have kB : (lk_b h a hd pa n).1 pa = some (6, n) := th_un_self _ _ _
    have kA : (lk_b h a hd pa n).1 a = some (2, 0) := th_un_k (h := th_ui h a 0 hd) hpa ha
    have npa : a ≠ pa := fun q => by rw [q, hpa] at ha; cases ha
    obtain ⟨ka, -, ra⟩ := lk_it_old (pa := pa) (pp := pp) kA i hF
    obtain ⟨kp, -, -⟩ := lk_it_old (pa := pa) (pp := pp) kB i hF
    have rpa : (lk_it pa pp (lk_b h a hd pa n) i).2.2 a 1 = some pa := by rw [ra npa]; exact th_ur_s _ _ _ _
    refine lv_iload_n hx hb dX0_init_19 rfl (lv_at hl 3 rfl) ?_
    refine lv_iload_n hx hb dX0_init_20 rfl (lv_at hl 2 rfl) ?_
    refine lv_icmp_ge (tgt := 43) hx hb dX0_init_21 (by decide) (fun c21 => ?_) (fun c21 => ?_)
    · refine mw_vretI hC hM hr hlk dX0_init_43 (by show 1 + i ≤ 5; omega) (by show n + 7 * i ≤ 32; omega) ⟨_, rfl, ?_⟩
      have e9 : i = n := by omega
      exact ⟨rfl, pa, pp, ⟨hpa, fun j hj => hF j (by omega)⟩, by rw [e9]⟩
    · exact absurd (nI_le (show n ≤ i by omega) (by omega)) c21
  | succ q9 ih =>
    intro i pp H locs ls hin hF hM hl
    have kB : (lk_b h a hd pa n).1 pa = some (6, n) := th_un_self _ _ _
    have kA : (lk_b h a hd pa n).1 a = some (2, 0) := th_un_k (h := th_ui h a 0 hd) hpa ha
    have npa : a ≠ pa := fun q => by rw [q, hpa] at ha; cases ha
    obtain ⟨ka, -, ra⟩ := lk_it_old (pa := pa) (pp := pp) kA i hF
    obtain ⟨kp, -, -⟩ := lk_it_old (pa := pa) (pp := pp) kB i hF
    have rpa : (lk_it pa pp (lk_b h a hd pa n) i).2.2 a 1 = some pa := by rw [ra npa]; exact th_ur_s _ _ _ _
    refine lv_iload_n hx hb dX0_init_19 rfl (lv_at hl 3 rfl) ?_
    refine lv_iload_n hx hb dX0_init_20 rfl (lv_at hl 2 rfl) ?_
    refine lv_icmp_ge (tgt := 43) hx hb dX0_init_21 (by decide) (fun c21 => ?_) (fun c21 => ?_)
    · exact absurd c21 (nI_ge (by omega) (by omega))
    · refine lv_aload_n hx hb dX0_init_24 rfl (lv_at hl 0 rfl) ?_
      refine gr_2_1 (index := 15) hC hM ka mb_97 dX0_init_25 rpa ?_
      refine lv_iload_n hx hb dX0_init_28 rfl (lv_at hl 3 rfl) ?_
      refine nw_3 (index := 13) hC hM mb_64 mb_65 mb_38 (by show 1 + i + 1 ≤ 5; omega) (by show n + 7 * i + 7 ≤ 32; omega) dX0_init_29 (fun q H hn_q hM => ?_)
      refine lv_dup hx hb dX0_init_32 rfl ?_
      refine mw_callIN (As := []) (rest := [.ref q, .int (nI i), .ref pa]) (n := 0) hC hM (c_X1_init l hl0 D cs (th_un (lk_it pa pp (lk_b h a hd pa n) i) q (3, 0)) H.size q (th_un_self _ _ _)) ⟨va_cnB 0 hC.1.2.2.2.2 (tb_I mb_67) rfl rfl rfl (hC.2.2.1.2.2.2 _ nw_w2) (hC.1.2.2.2.2 (.initialized RX1) mb_38) (by decide +kernel) ⟨Nat.le_of_ble_eq_true rfl, Nat.le_of_ble_eq_true rfl⟩, rfl, hC.1.2.2.2.2 (.instanceMethod yX1_init) mb_66⟩ rfl rfl hl.1 (Nat.le_of_ble_eq_true rfl) dX0_init_33 ⟨by show 1 + i + 1 + 0 ≤ 5; omega, by show n + 7 * i + 7 + 0 ≤ 32; omega⟩ (fun v9 g9 H locs hp9 hM => ?_)
      obtain ⟨h33, rfl, hp9⟩ := hp9
      obtain ⟨rfl, rfl⟩ := hp9
      refine W.widen (k := 1 + (i + 1)) (n := n + 7 * (i + 1)) (by show 1 + i + 1 + 0 ≤ 1 + (i + 1); omega) (by show n + 7 * i + 7 + 0 ≤ n + 7 * (i + 1); omega) ?_
      refine W.eq (g2 := F0 m 36 ls [.ref q, .int (nI i), .ref pa]) rfl ?_
      refine as_6 (i := i) hC hM (th_un_k hn_q kp) (rfl) (by omega) (by first | decide | omega) (th_un_self _ _ _) dX0_init_36 (fun H locs hM => ?_)
      refine lv_iinc (v := nI (i + 1)) (lv' := [(3, .int (nI (i + 1))), (0, .ref a), (1, .int hd), (2, .int (nI n))]) hx hb dX0_init_37 hl (k := 3) rfl (by exact nI_1 i) (by first | decide | omega) rfl (fun ls hl => ?_)
      refine lv_goto (tgt := 19) hx hb dX0_init_40 (by decide) ?_
      exact ih (i + 1) (va_up pp i q) H locs ls (by omega) (lk_it_nx hF hn_q) (by rw [lk_it_up]; exact hM) (lv_sub hl [1, 2, 3, 0] rfl)

-- StableHeap$Lockable.<init>
set_option maxHeartbeats 4000000 in
set_option maxRecDepth 100000 in
theorem c_X0_init (l : Launch) (hl0 : l.stackTraces = false) (D : va_G) (cs : Nat → ClassId) (h : th_S) (sz : Nat) (a : Nat) (ha : h.1 a = some (2, 0)) (hd : Int32) (n : Nat) (hn : n ≤ 4) : th_MI l yX0_init wsX0_init { frames := 2, cells := 5, slots := 32, locals := 36 } D cs h sz [.ref a, .int hd, .int (nI n)] (fun v h' => v = none ∧ ∃ pa pp, lk_F h a hd n pa pp ∧ h' = lk_it pa pp (lk_b h a hd pa n) n) := by
  refine mw_ofWI (cc := cX0_init) (maxL := 4) (ret := none) (by decide) rfl (fun w h => List.mem_cons_of_mem _ h) th_cd (Nat.le_of_ble_eq_true rfl) ?_
  intro p e s m below meth c hsz hC hr hlk hnm hM ls hl
  have hC : th_C D cs h p m c cX0_init 4 s [.ref a, .int hd, .int (nI n)] RX0 := hC
  have hx := hC.1.1
  have hb := hC.1.2.1
  have hl : lv_has ls 4 [(0, .ref a), (1, .int hd), (2, .int (nI n))] := hl
  refine lv_aload_n hx hb dX0_init_0 rfl (lv_at hl 0 rfl) ?_
  refine W.objInit hx hb hC.1.2.2.2.1 (hC.1.2.2.2.2 (.methodLink RX0 1 objectInit) mb_63) (hC.1.2.2.2.2 (.instanceMethod objectInit) mb_56) (hC.1.2.2.2.2 (.code objectInit ⟨#[0xb1]⟩ 1 none) mb_57) rfl (by rw [hC.1.2.2.1]; exact hl.1) rfl dX0_init_1 (Nat.le_of_ble_eq_true rfl) (Nat.le_of_ble_eq_true rfl) ?_
  refine W.eq (g2 := F0 m 4 ls []) rfl ?_
  refine lv_aload_n hx hb dX0_init_4 rfl (lv_at hl 0 rfl) ?_
  refine lv_iload_n hx hb dX0_init_5 rfl (lv_at hl 1 rfl) ?_
  refine pu_2_0 (index := 7) (v := hd) hC hM ha mb_95 hnm rfl dX0_init_6 (fun H locs hM => ?_)
  refine lv_aload_n hx hb dX0_init_9 rfl (lv_at hl 0 rfl) ?_
  refine lv_iload_n hx hb dX0_init_10 rfl (lv_at hl 2 rfl) ?_
  refine na_6 (index := 13) (n := n) hC hM mb_64 (rfl) (by omega) (by show 0 + 1 ≤ 5; omega) (by show 0 + n ≤ 32; omega) dX0_init_11 (fun pa H hn_pa hM => ?_)
  refine pu_2_1 (index := 15) (v := some pa) hC hM (th_un_k (h := th_ui h a 0 hd) hn_pa ha) mb_97 hnm rfl dX0_init_14 (fun H locs hM => ?_)
  refine lv_iconst (v := 0) hx hb dX0_init_17 (by decide) ?_
  refine lv_istore_n (lv' := [(3, .int 0), (0, .ref a), (1, .int hd), (2, .int (nI n))]) hx hb dX0_init_18 rfl hl (by decide) rfl (fun ls hl => ?_)
  refine W.widen (k := 1 + 0) (n := n + 7 * 0) (by omega) (by omega) ?_
  exact lo_X0_init_19 hl0 a ha hd n hn pa hn_pa hC hr hlk n 0 (fun _ => 0) _ _ ls (by omega) (fun j hj => absurd hj (Nat.not_lt_zero j)) hM (lv_sub hl [1, 2, 3, 0] rfl)

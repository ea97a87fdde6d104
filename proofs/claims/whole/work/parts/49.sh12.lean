-- the loop at 68 of StableHeap.<init>
set_option maxHeartbeats 4000000 in
set_option maxRecDepth 100000 in
theorem lo_X3_init_68 {l : Launch} (hl0 : l.stackTraces = false) {D : va_G} {cs : Nat → ClassId} {h : th_S} (x : Nat) (kx9 : h.1 x = some (0, 0)) (zx0 : ∀ k, h.2.1 x k = 0) (ho : ∀ b t, h.1 b = some t → b ≠ x → 7 ≤ t.1) (u0 : th_S) (aR aO aH aT : Nat) (hR : ct_R h x aR 4 u0) (h1 : u0.1 aO = none) (h2 : (th_ur (th_un u0 aO (4, 80)) x 1 (some aO)).1 aH = none) (h3 : (th_ur (th_un (th_ur (th_un u0 aO (4, 80)) x 1 (some aO)) aH (4, 80)) x 2 (some aH)).1 aT = none) {p : Program} {e : Env} {s : State} {m : MethodId} {below : List Frame} {meth : Method} {c : Code} (hC : th_C D cs h p m c cX3_init 2 s [.ref x] RX3) (hr : meth.sig.returnType = none) (hlk : meth.locks = false) : ∀ (q9 : Nat) (i : Nat) (u : th_S) (H : Heap) (locs : List Loc) (ls : Array Slot), (i + q9 = 3) → (ct_T (ct_3 u0 x aO aH aT) aT i u) → th_H D cs h s u H locs → lv_has ls 2 [(0, .ref x), (1, .int (nI i))] → W p l e { frames := 3, cells := 40, slots := 400, locals := 59 } s m [.ref x].toArray below meth c H locs (28 + i) (311 + 2 * i) (th_QI below D cs h s [.ref x] (fun v h' => v = none ∧ ct_E h x h') 40 400) (F0 m 68 ls []) := by
  have hx := hC.1.1
  have hb := hC.1.2.1
  have k3T : (ct_3 u0 x aO aH aT).1 aT = some (5, 3) := th_un_self _ _ _
  have k3x : (ct_3 u0 x aO aH aT).1 x = some (0, 0) := th_un_k h3 (th_un_k h2 (th_un_k h1 hR.1.1))
  have nxT : x ≠ aT := th_kne k3x k3T (by decide)
  intro q9
  induction q9 with
  | zero =>
    intro i u H locs ls hin hT hM hl
    obtain ⟨XT, hT9⟩ := id hT
    have kxu : u.1 x = some (0, 0) := (XT _ _ k3x).1
    have kTu : u.1 aT = some (5, 3) := (XT _ _ k3T).1
    have ru3 : u.2.2 x 3 = some aT := by rw [(XT _ _ k3x).2.2 nxT]; exact th_ur_s _ _ _ _
    refine lv_iload_n hx hb dX3_init_68 rfl (lv_at hl 1 rfl) ?_
    refine lv_iconst (v := 3) hx hb dX3_init_69 (by decide) ?_
    refine lv_icmp_ge (tgt := 92) hx hb dX3_init_70 (by decide) (fun c70 => ?_) (fun c70 => ?_)
    · refine mw_vretI hC hM hr hlk dX3_init_92 (by show 28 + i ≤ 40; omega) (by show 311 + 2 * i ≤ 400; omega) ⟨_, rfl, ?_⟩
      refine ⟨rfl, ct_fin kx9 ho hR h1 h2 h3 ?_⟩
      rw [show 3 = i by omega]
      exact hT
    · exact absurd (nI_le (a := 3) (show 3 ≤ i by omega) (by omega)) c70
  | succ q9 ih =>
    intro i u H locs ls hin hT hM hl
    obtain ⟨XT, hT9⟩ := id hT
    have kxu : u.1 x = some (0, 0) := (XT _ _ k3x).1
    have kTu : u.1 aT = some (5, 3) := (XT _ _ k3T).1
    have ru3 : u.2.2 x 3 = some aT := by rw [(XT _ _ k3x).2.2 nxT]; exact th_ur_s _ _ _ _
    refine lv_iload_n hx hb dX3_init_68 rfl (lv_at hl 1 rfl) ?_
    refine lv_iconst (v := 3) hx hb dX3_init_69 (by decide) ?_
    refine lv_icmp_ge (tgt := 92) hx hb dX3_init_70 (by decide) (fun c70 => ?_) (fun c70 => ?_)
    · exact absurd c70 (nI_ge (b := 3) (by omega) (by decide))
    · refine lv_aload_n hx hb dX3_init_73 rfl (lv_at hl 0 rfl) ?_
      refine gr_0_3 (index := 26) hC hM kxu mb_127 dX3_init_74 ru3 ?_
      refine lv_iload_n hx hb dX3_init_77 rfl (lv_at hl 1 rfl) ?_
      refine nw_1 (index := 24) hC hM mb_111 mb_112 mb_39 (by show 28 + i + 1 ≤ 40; omega) (by show 311 + 2 * i + 2 ≤ 400; omega) dX3_init_78 (fun q H hn_q hM => ?_)
      refine lv_dup hx hb dX3_init_81 rfl ?_
      refine mw_callIN (As := []) (rest := [.ref q, .int (nI i), .ref aT]) (n := 0) hC hM (c_X2_init l hl0 D cs (th_un u q (1, 0)) H.size q (th_un_self _ _ _)) ⟨va_cnB 0 hC.1.2.2.2.2 (tb_I mb_114) rfl rfl rfl (hC.2.2.1.2.2.2 _ nw_w4) (hC.1.2.2.2.2 (.initialized RX2) mb_39) (by decide +kernel) ⟨Nat.le_of_ble_eq_true rfl, Nat.le_of_ble_eq_true rfl⟩, rfl, hC.1.2.2.2.2 (.instanceMethod yX2_init) mb_113⟩ rfl rfl hl.1 (Nat.le_of_ble_eq_true rfl) dX3_init_82 ⟨by show 28 + i + 1 + 0 ≤ 40; omega, by show 311 + 2 * i + 2 + 0 ≤ 400; omega⟩ (fun v9 g9 H locs hp9 hM => ?_)
      obtain ⟨h82, rfl, hp9⟩ := hp9
      obtain ⟨rfl, rfl⟩ := hp9
      refine W.widen (k := 28 + (i + 1)) (n := 311 + 2 * (i + 1)) (by show 28 + i + 1 + 0 ≤ 28 + (i + 1); omega) (by show 311 + 2 * i + 2 + 0 ≤ 311 + 2 * (i + 1); omega) ?_
      refine W.eq (g2 := F0 m 85 ls [.ref q, .int (nI i), .ref aT]) rfl ?_
      refine as_5 (i := i) hC hM (th_un_k hn_q (XT _ _ k3T).1) (rfl) (by omega) (by first | decide | omega) (th_un_self _ _ _) dX3_init_85 (fun H locs hM => ?_)
      refine lv_iinc (v := nI (i + 1)) (lv' := [(1, .int (nI (i + 1))), (0, .ref x)]) hx hb dX3_init_86 hl (k := 1) rfl (by exact nI_1 i) (by first | decide | omega) rfl (fun ls hl => ?_)
      refine lv_goto (tgt := 68) hx hb dX3_init_89 (by decide) ?_
      exact ih (i + 1) (th_ur (th_un u q (1, 0)) aT i (some q)) H locs ls (by omega) (hT.next k3T hn_q) hM (lv_sub hl [1, 0] rfl)

-- the loop at 14 of StableHeap.<init>
set_option maxHeartbeats 4000000 in
set_option maxRecDepth 100000 in
theorem lo_X3_init_14 {l : Launch} (hl0 : l.stackTraces = false) {D : va_G} {cs : Nat → ClassId} {h : th_S} (x : Nat) (kx9 : h.1 x = some (0, 0)) (zx0 : ∀ k, h.2.1 x k = 0) (ho : ∀ b t, h.1 b = some t → b ≠ x → 7 ≤ t.1) (aR : Nat) {p : Program} {e : Env} {s : State} {m : MethodId} {below : List Frame} {meth : Method} {c : Code} (hC : th_C D cs h p m c cX3_init 2 s [.ref x] RX3) (hr : meth.sig.returnType = none) (hlk : meth.locks = false) (hnm : meth.name = "<init>") : ∀ (q9 : Nat) (i : Nat) (u : th_S) (H : Heap) (locs : List Loc) (ls : Array Slot), (i + q9 = 4) → (ct_R h x aR i u) → th_H D cs h s u H locs → lv_has ls 2 [(0, .ref x), (1, .int (nI i))] → W p l e { frames := 3, cells := 40, slots := 400, locals := 59 } s m [.ref x].toArray below meth c H locs (1 + 6 * i) (4 + 36 * i) (th_QI below D cs h s [.ref x] (fun v h' => v = none ∧ ct_E h x h') 40 400) (F0 m 14 ls []) := by
  have hx := hC.1.1
  have hb := hC.1.2.1
  intro q9
  induction q9 with
  | zero =>
    intro i u H locs ls hin hR hM hl
    obtain ⟨kxu, zxu, rxu, kRu, nRu⟩ := hR.1
    refine lv_iload_n hx hb dX3_init_14 rfl (lv_at hl 1 rfl) ?_
    refine lv_iconst (v := 4) hx hb dX3_init_15 (by decide) ?_
    refine lv_icmp_ge (tgt := 40) hx hb dX3_init_16 (by decide) (fun c16 => ?_) (fun c16 => ?_)
    · obtain rfl : 4 = i := by omega
      refine W.widen (k := 25) (n := 148) (by decide) (by decide) ?_
      refine lv_aload_n hx hb dX3_init_40 rfl (lv_at hl 0 rfl) ?_
      refine lv_bipush (v := 80) hx hb dX3_init_41 (by decide) ?_
      refine na_4 (index := 9) (n := 80) hC hM mb_58 (rfl) (by decide) (Nat.le_of_ble_eq_true rfl) (Nat.le_of_ble_eq_true rfl) dX3_init_43 (fun aO H hn_aO hM => ?_)
      refine pu_0_1 (index := 18) (v := some aO) hC hM (th_un_k (h := u) hn_aO kxu) mb_125 hnm rfl dX3_init_46 (fun H locs hM => ?_)
      refine lv_aload_n hx hb dX3_init_49 rfl (lv_at hl 0 rfl) ?_
      refine lv_bipush (v := 80) hx hb dX3_init_50 (by decide) ?_
      have kx1 : (th_ur (th_un u aO (4, 80)) x 1 (some aO)).1 x = some (0, 0) := th_un_k (h := u) hn_aO kxu
      refine na_4 (index := 9) (n := 80) hC hM mb_58 (rfl) (by decide) (Nat.le_of_ble_eq_true rfl) (Nat.le_of_ble_eq_true rfl) dX3_init_52 (fun aH H hn_aH hM => ?_)
      refine pu_0_2 (index := 21) (v := some aH) hC hM (th_un_k (h := th_ur (th_un u aO (4, 80)) x 1 (some aO)) hn_aH kx1) mb_126 hnm rfl dX3_init_55 (fun H locs hM => ?_)
      refine lv_aload_n hx hb dX3_init_58 rfl (lv_at hl 0 rfl) ?_
      refine lv_iconst (v := 3) hx hb dX3_init_59 (by decide) ?_
      have kx2 : (th_ur (th_un (th_ur (th_un u aO (4, 80)) x 1 (some aO)) aH (4, 80)) x 2 (some aH)).1 x = some (0, 0) := th_un_k (h := th_ur (th_un u aO (4, 80)) x 1 (some aO)) hn_aH kx1
      refine na_5 (index := 24) (n := 3) hC hM mb_111 (rfl) (by decide) (Nat.le_of_ble_eq_true rfl) (Nat.le_of_ble_eq_true rfl) dX3_init_60 (fun aT H hn_aT hM => ?_)
      refine pu_0_3 (index := 26) (v := some aT) hC hM (th_un_k (h := th_ur (th_un (th_ur (th_un u aO (4, 80)) x 1 (some aO)) aH (4, 80)) x 2 (some aH)) hn_aT kx2) mb_127 hnm rfl dX3_init_63 (fun H locs hM => ?_)
      refine lv_iconst (v := 0) hx hb dX3_init_66 (by decide) ?_
      refine lv_istore_n (lv' := [(1, .int 0), (0, .ref x)]) hx hb dX3_init_67 rfl hl (by decide) rfl (fun ls hl => ?_)
      refine W.widen (k := 28 + 0) (n := 311 + 2 * 0) (by decide) (by decide) ?_
      exact lo_X3_init_68 hl0 x kx9 zx0 ho u aR aO aH aT hR hn_aO hn_aH hn_aT hC hr hlk 3 0 (ct_3 u x aO aH aT) _ _ ls (by omega) (ct_T.zero _ _) hM (lv_sub hl [1, 0] rfl)
    · exact absurd (nI_le (a := 4) (show 4 ≤ i by omega) (by omega)) c16
  | succ q9 ih =>
    intro i u H locs ls hin hR hM hl
    obtain ⟨kxu, zxu, rxu, kRu, nRu⟩ := hR.1
    refine lv_iload_n hx hb dX3_init_14 rfl (lv_at hl 1 rfl) ?_
    refine lv_iconst (v := 4) hx hb dX3_init_15 (by decide) ?_
    refine lv_icmp_ge (tgt := 40) hx hb dX3_init_16 (by decide) (fun c16 => ?_) (fun c16 => ?_)
    · exact absurd c16 (nI_ge (b := 4) (by omega) (by decide))
    · refine lv_aload_n hx hb dX3_init_19 rfl (lv_at hl 0 rfl) ?_
      refine gr_0_0 (index := 11) hC hM kxu mb_124 dX3_init_20 rxu ?_
      refine lv_iload_n hx hb dX3_init_23 rfl (lv_at hl 1 rfl) ?_
      refine nw_2 (index := 9) hC hM mb_58 mb_59 mb_37 (by show 1 + 6 * i + 1 ≤ 40; omega) (by show 4 + 36 * i + 4 ≤ 400; omega) dX3_init_24 (fun q H hn_q hM => ?_)
      refine lv_dup hx hb dX3_init_27 rfl ?_
      refine lv_iconst (v := 0) hx hb dX3_init_28 (by decide) ?_
      refine lv_iconst (v := 1) hx hb dX3_init_29 (by decide) ?_
      refine mw_callI (As := [.int 0, .int 1]) (rest := [.ref q, .int (nI i), .ref aR]) (n := 2) hC hM (c_X0_init l hl0 D cs (th_un u q (2, 0)) H.size q (th_un_self _ _ _) 0 1 (by decide)) (cwI 2 hC.1.2.2.2.2 (tb_I mb_62) rfl rfl rfl (hC.1.2.2.2.2 (.initialized RX0) mb_37) (hC.1.2.2.2.2 (.methodLink RX3 15 yX0_init) mb_60) (hC.1.2.2.2.2 (.instanceMethod yX0_init) mb_61) rfl (by decide +kernel) ⟨Nat.le_of_ble_eq_true rfl, Nat.le_of_ble_eq_true rfl⟩) rfl rfl hl.1 (Nat.le_of_ble_eq_true rfl) dX3_init_30 ⟨by show 1 + 6 * i + 1 + 5 ≤ 40; omega, by show 4 + 36 * i + 4 + 32 ≤ 400; omega⟩ (fun v9 g9 H locs hp9 hM => ?_)
      obtain ⟨h30, rfl, hp9⟩ := hp9
      obtain ⟨rfl, pa, pp, hF, rfl⟩ := hp9
      have nRq : aR ≠ q := fun e9 => by rw [e9] at kRu; rw [kRu] at hn_q; cases hn_q
      obtain ⟨kR3, -, -⟩ := lk_old hF (th_un_k (t := (2, 0)) hn_q kRu) nRq
      obtain ⟨kq3, -, -, -, -⟩ := lk_self hF (th_un_self u q (2, 0))
      refine W.widen (k := 1 + 6 * (i + 1)) (n := 4 + 36 * (i + 1)) (by show 1 + 6 * i + 1 + 5 ≤ 1 + 6 * (i + 1); omega) (by show 4 + 36 * i + 4 + 32 ≤ 4 + 36 * (i + 1); omega) ?_
      refine W.eq (g2 := F0 m 33 ls [.ref q, .int (nI i), .ref aR]) rfl ?_
      refine as_4 (i := i) hC hM kR3 (rfl) (by omega) (by first | decide | omega) kq3 dX3_init_33 (fun H locs hM => ?_)
      refine lv_iinc (v := nI (i + 1)) (lv' := [(1, .int (nI (i + 1))), (0, .ref x)]) hx hb dX3_init_34 hl (k := 1) rfl (by exact nI_1 i) (by first | decide | omega) rfl (fun ls hl => ?_)
      refine lv_goto (tgt := 14) hx hb dX3_init_37 (by decide) ?_
      exact ih (i + 1) (th_ur (lk_it pa pp (lk_b (th_un u q (2, 0)) q 0 pa 1) 1) aR i (some q)) H locs ls (by omega) (hR.next kx9 hn_q hF) hM (lv_sub hl [1, 0] rfl)

-- StableHeap.<init>
set_option maxHeartbeats 4000000 in
set_option maxRecDepth 100000 in
theorem c_X3_init (l : Launch) (hl0 : l.stackTraces = false) (D : va_G) (cs : Nat → ClassId) (h : th_S) (sz : Nat) (x : Nat) (kx9 : h.1 x = some (0, 0)) (zx0 : ∀ k, h.2.1 x k = 0) (ho : ∀ b t, h.1 b = some t → b ≠ x → 7 ≤ t.1) : th_MI l yX3_init wsX3_init { frames := 3, cells := 40, slots := 400, locals := 59 } D cs h sz [.ref x] (fun v h' => v = none ∧ ct_E h x h') := by
  refine mw_ofWI (cc := cX3_init) (maxL := 2) (ret := none) (by decide) rfl (fun w h => List.mem_cons_of_mem _ h) th_cd (Nat.le_of_ble_eq_true rfl) ?_
  intro p e s m below meth c hsz hC hr hlk hnm hM ls hl
  have hC : th_C D cs h p m c cX3_init 2 s [.ref x] RX3 := hC
  have hx := hC.1.1
  have hb := hC.1.2.1
  have hl : lv_has ls 2 [(0, .ref x)] := hl
  refine lv_aload_n hx hb dX3_init_0 rfl (lv_at hl 0 rfl) ?_
  refine W.objInit hx hb hC.1.2.2.2.1 (hC.1.2.2.2.2 (.methodLink RX3 1 objectInit) mb_55) (hC.1.2.2.2.2 (.instanceMethod objectInit) mb_56) (hC.1.2.2.2.2 (.code objectInit ⟨#[0xb1]⟩ 1 none) mb_57) rfl (by rw [hC.1.2.2.1]; exact hl.1) rfl dX3_init_1 (Nat.le_of_ble_eq_true rfl) (Nat.le_of_ble_eq_true rfl) ?_
  refine W.eq (g2 := F0 m 4 ls []) rfl ?_
  refine lv_aload_n hx hb dX3_init_4 rfl (lv_at hl 0 rfl) ?_
  refine lv_iconst (v := 4) hx hb dX3_init_5 (by decide) ?_
  refine na_4 (index := 9) (n := 4) hC hM mb_58 (rfl) (by decide) (Nat.le_of_ble_eq_true rfl) (Nat.le_of_ble_eq_true rfl) dX3_init_6 (fun aR H hn_aR hM => ?_)
  refine pu_0_0 (index := 11) (v := some aR) hC hM (th_un_k (h := h) hn_aR kx9) mb_124 hnm rfl dX3_init_9 (fun H locs hM => ?_)
  refine lv_iconst (v := 0) hx hb dX3_init_12 (by decide) ?_
  refine lv_istore_n (lv' := [(1, .int 0), (0, .ref x)]) hx hb dX3_init_13 rfl hl (by decide) rfl (fun ls hl => ?_)
  have nxR : x ≠ aR := fun e9 => by rw [e9] at kx9; rw [show h.1 aR = none from hn_aR] at kx9; cases kx9
  have hR0 : ct_R h x aR 0 (th_ur (th_un h aR (4, 4)) x 0 (some aR)) := ct_R.zero kx9 zx0 hn_aR
  refine W.widen (k := 1 + 6 * 0) (n := 4 + 36 * 0) (by decide) (by decide) ?_
  exact lo_X3_init_14 hl0 x kx9 zx0 ho aR hC hr hlk hnm 4 0 _ _ _ ls (by omega) hR0 hM (lv_sub hl [1, 0] rfl)

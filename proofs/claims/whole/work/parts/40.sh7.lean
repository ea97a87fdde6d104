-- StableHeap.hold
set_option maxHeartbeats 4000000 in
set_option maxRecDepth 100000 in
theorem c_X3_hold (l : Launch) (hl0 : l.stackTraces = false) (D : va_G) (cs : Nat → ClassId) (h : th_S) (sz : Nat) (x aR aO aH aT : Nat) (rt ta : Nat → Nat) (hK : sh_K x aR aO aH aT rt ta h) (k : Nat) (hk : ho_C x (k, h)) (r : Option Nat) (hr0 : ∀ b, r = some b → h.1 b = some (2, 0)) : th_M l yX3_hold wsX3_hold { frames := 0, cells := 0, slots := 0, locals := 0 } D cs h sz [.ref x, va_rf r] (fun v h' => v = none ∧ h' = ho_h x aH (k, h) r) (fun E h' => False) := by
  rcases r with _ | a
  · skip
    refine mw_ofW (cc := cX3_hold) (maxL := 2) (ret := none) (by decide) rfl (fun w h => List.mem_cons_of_mem _ h) th_cd (Nat.le_of_ble_eq_true rfl) ?_
    intro p e s m below meth c hsz hC hr hlk hnm htab hM ls hl
    have hC : th_C D cs h p m c cX3_hold 2 s [.ref x, .null] RX3 := hC
    have hx := hC.1.1
    have hb := hC.1.2.1
    have kx0 : h.1 x = some (0, 0) := hK.kx
    have hl : lv_has ls 2 [(0, .ref x), (1, .null)] := hl
    refine lv_aload_nN hx hb dX3_hold_0 rfl (lv_at hl 1 rfl) ?_
    refine lv_ifnullN (tgt := 48) hx hb dX3_hold_1 (by decide) ?_
    refine mw_vret hC hM hr hlk dX3_hold_48 (Nat.le_of_ble_eq_true rfl) (Nat.le_of_ble_eq_true rfl) ⟨_, rfl, ?_⟩
    exact ⟨rfl, rfl⟩
  · skip
    refine mw_ofW (cc := cX3_hold) (maxL := 2) (ret := none) (by decide) rfl (fun w h => List.mem_cons_of_mem _ h) th_cd (Nat.le_of_ble_eq_true rfl) ?_
    intro p e s m below meth c hsz hC hr hlk hnm htab hM ls hl
    have hC : th_C D cs h p m c cX3_hold 2 s [.ref x, .ref a] RX3 := hC
    have hx := hC.1.1
    have hb := hC.1.2.1
    have kx0 : h.1 x = some (0, 0) := hK.kx
    have hl : lv_has ls 2 [(0, .ref x), (1, .ref a)] := hl
    refine lv_aload_n hx hb dX3_hold_0 rfl (lv_at hl 1 rfl) ?_
    refine lv_ifnull hx hb dX3_hold_1 ?_
    refine lv_aload_n hx hb dX3_hold_4 rfl (lv_at hl 1 rfl) ?_
    refine gi_2_3 (index := 209) hC hM (hr0 a rfl) mb_101 dX3_hold_5 ?_
    refine lv_if_ne (tgt := 48) hx hb dX3_hold_8 (by decide) (fun c8 => ?_) (fun c8 => ?_)
    · refine mw_vret hC hM hr hlk dX3_hold_48 (Nat.le_of_ble_eq_true rfl) (Nat.le_of_ble_eq_true rfl) ⟨_, rfl, ?_⟩
      exact ⟨rfl, by rw [ho_h]; simp only []; rw [if_neg (fun q => c8 q.1)]⟩
    · refine lv_aload_n hx hb dX3_hold_11 rfl (lv_at hl 0 rfl) ?_
      refine gi_0_5 (index := 150) hC hM kx0 mb_129 dX3_hold_12 ?_
      rw [show h.2.1 x 5 = nI k from hk.1]
      refine lv_aload_n hx hb dX3_hold_15 rfl (lv_at hl 0 rfl) ?_
      refine gr_0_2 (index := 21) hC hM kx0 mb_126 dX3_hold_16 hK.xH ?_
      refine an_4 hC hM hK.kH dX3_hold_19 ?_
      refine lv_icmp_ge (tgt := 48) hx hb dX3_hold_20 (by decide) (fun c20 => ?_) (fun c20 => ?_)
      · refine mw_vret hC hM hr hlk dX3_hold_48 (Nat.le_of_ble_eq_true rfl) (Nat.le_of_ble_eq_true rfl) ⟨_, rfl, ?_⟩
        exact ⟨rfl, by rw [ho_h]; simp only []; rw [if_neg (fun q => absurd c20 (nI_ge q.2 (by decide)))]⟩
      · have hk80 : k < 80 := by
          rcases Nat.lt_or_ge k 80 with q | q
          · exact q
          · exact absurd (nI_le q (by have := hk.2; omega)) c20
        refine lv_aload_n hx hb dX3_hold_23 rfl (lv_at hl 1 rfl) ?_
        refine lv_iconst (v := 1) hx hb dX3_hold_24 (by decide) ?_
        refine pu_2_3 (index := 209) (v := 1) hC hM (hr0 a rfl) mb_101 (by first | exact Or.inl rfl | exact Or.inr rfl) dX3_hold_25 (fun H locs hM => ?_)
        refine lv_aload_n hx hb dX3_hold_28 rfl (lv_at hl 0 rfl) ?_
        refine gr_0_2 (index := 21) hC hM kx0 mb_126 dX3_hold_29 hK.xH ?_
        refine lv_aload_n hx hb dX3_hold_32 rfl (lv_at hl 0 rfl) ?_
        refine gi_0_5 (index := 150) hC hM kx0 mb_129 dX3_hold_33 ?_
        rw [show (th_ui h a 3 1).2.1 x 5 = nI k from (th_ui_n _ _ _ _ (th_kne hK.kx (hr0 a rfl) (by decide))).trans hk.1]
        refine lv_aload_n hx hb dX3_hold_36 rfl (lv_at hl 1 rfl) ?_
        refine as_4 (i := k) hC hM hK.kH (rfl) (hk80) (by first | decide | omega) (hr0 a rfl) dX3_hold_37 (fun H locs hM => ?_)
        refine lv_aload_n hx hb dX3_hold_38 rfl (lv_at hl 0 rfl) ?_
        refine lv_dup hx hb dX3_hold_39 rfl ?_
        refine gi_0_5 (index := 150) hC hM kx0 mb_129 dX3_hold_40 ?_
        rw [show (th_ur (th_ui h a 3 1) aH k (some a)).2.1 x 5 = nI k from (th_ui_n _ _ _ _ (th_kne hK.kx (hr0 a rfl) (by decide))).trans hk.1]
        refine lv_iconst (v := 1) hx hb dX3_hold_43 (by decide) ?_
        refine lv_iadd hx hb dX3_hold_44 ?_
        rw [show (nI k) + 1 = nI (k + 1) from nI_1 k]
        refine pu_0_5 (index := 150) (v := nI (k + 1)) hC hM kx0 mb_129 dX3_hold_45 (fun H locs hM => ?_)
        refine mw_vret hC hM hr hlk dX3_hold_48 (Nat.le_of_ble_eq_true rfl) (Nat.le_of_ble_eq_true rfl) ⟨_, rfl, ?_⟩
        exact ⟨rfl, by rw [ho_h]; simp only []; rw [if_pos ⟨c8, hk80⟩]⟩

-- the loop at 2 of StableHeap.holdTargets
set_option maxHeartbeats 4000000 in
set_option maxRecDepth 100000 in
theorem lo_X3_holdTargets_2 {l : Launch} (hl0 : l.stackTraces = false) {D : va_G} {cs : Nat → ClassId} {h : th_S} (x aR aO aH aT : Nat) (rt ta : Nat → Nat) (hK : sh_K x aR aO aH aT rt ta h) (n0 : Nat) (hO : sh_O x aO n0 h) (k : Nat) (hk : ho_C x (k, h)) (a : Nat) (ha : h.1 a = some (2, 0)) {p : Program} {e : Env} {s : State} {m : MethodId} {below : List Frame} {meth : Method} {c : Code} (hC : th_C D cs h p m c cX3_holdTargets 3 s [.ref x, .ref a] RX3) (hr : meth.sig.returnType = none) (hlk : meth.locks = false) (htab : ∀ x ∈ c.exceptionTable.toList, False) : ∀ (q : Nat) (i : Nat) (H : Heap) (locs : List Loc) (ls : Array Slot), (i + q = vw_np h a) → th_H D cs h s ((ht_s x aH (vw_pp h a) (k, h) i).2) H locs → lv_has ls 3 [(0, .ref x), (1, .ref a), (2, .int (nI i))] → W p l e { frames := 1, cells := 0, slots := 0, locals := 21 } s m [.ref x, .ref a].toArray below meth c H locs 0 0 (th_Q below D cs h s [.ref x, .ref a] (fun v h' => v = none ∧ h' = (ht_s x aH (vw_pp h a) (k, h) (vw_np h a)).2) (fun E h' => False) 0 0) (F0 m 2 ls []) := by
  have hx := hC.1.1
  have hb := hC.1.2.1
  intro q
  induction q with
  | zero =>
    intro i H locs ls hin hM hl
    have hv := hK.vw ha
    obtain ⟨hKi, hCi, hOi⟩ := ht_s_all (s := (k, h)) hK hk hO (vw_pp h a) i (fun j hj => (hv.2.2.2 j (by omega)).2)
    have ki : (ht_s x aH (vw_pp h a) (k, h) i).2.1 = h.1 := ht_s_k (vw_pp h a) i
    have kai : (ht_s x aH (vw_pp h a) (k, h) i).2.1 a = some (2, 0) := by rw [ki]; exact ha
    have kpi : (ht_s x aH (vw_pp h a) (k, h) i).2.1 (vw_pa h a) = some (6, vw_np h a) := by rw [ki]; exact hv.2.1
    have nah : a ≠ aH := th_kne ha hK.kH (by decide)
    have nph : vw_pa h a ≠ aH := th_kne hv.2.1 hK.kH (by simp)
    have rai : (ht_s x aH (vw_pp h a) (k, h) i).2.2.2 a 1 = some (vw_pa h a) := by rw [ht_s_r (s := (k, h)) (vw_pp h a) nah i]; exact hv.1
    have rpi : ∀ j, j < vw_np h a → (ht_s x aH (vw_pp h a) (k, h) i).2.2.2 (vw_pa h a) j = some (vw_pp h a j) := fun j hj => by rw [ht_s_r (s := (k, h)) (vw_pp h a) nph i]; exact (hv.2.2.2 j hj).1
    refine lv_iload_n hx hb dX3_holdTargets_2 rfl (lv_at hl 2 rfl) ?_
    refine lv_aload_n hx hb dX3_holdTargets_3 rfl (lv_at hl 1 rfl) ?_
    refine gr_2_1 (index := 103) hC hM kai mb_98 dX3_holdTargets_4 rai ?_
    refine an_6 hC hM kpi dX3_holdTargets_7 ?_
    refine lv_icmp_ge (tgt := 43) hx hb dX3_holdTargets_8 (by decide) (fun c8 => ?_) (fun c8 => ?_)
    · refine mw_vret hC hM hr hlk dX3_holdTargets_43 (Nat.le_of_ble_eq_true rfl) (Nat.le_of_ble_eq_true rfl) ⟨_, rfl, ?_⟩
      exact ⟨rfl, by rw [show vw_np h a = i by omega]⟩
    · exact absurd (nI_le (show vw_np h a ≤ i by omega) (by have := hv.2.2.1; omega)) c8
  | succ q ih =>
    intro i H locs ls hin hM hl
    have hv := hK.vw ha
    obtain ⟨hKi, hCi, hOi⟩ := ht_s_all (s := (k, h)) hK hk hO (vw_pp h a) i (fun j hj => (hv.2.2.2 j (by omega)).2)
    have ki : (ht_s x aH (vw_pp h a) (k, h) i).2.1 = h.1 := ht_s_k (vw_pp h a) i
    have kai : (ht_s x aH (vw_pp h a) (k, h) i).2.1 a = some (2, 0) := by rw [ki]; exact ha
    have kpi : (ht_s x aH (vw_pp h a) (k, h) i).2.1 (vw_pa h a) = some (6, vw_np h a) := by rw [ki]; exact hv.2.1
    have nah : a ≠ aH := th_kne ha hK.kH (by decide)
    have nph : vw_pa h a ≠ aH := th_kne hv.2.1 hK.kH (by simp)
    have rai : (ht_s x aH (vw_pp h a) (k, h) i).2.2.2 a 1 = some (vw_pa h a) := by rw [ht_s_r (s := (k, h)) (vw_pp h a) nah i]; exact hv.1
    have rpi : ∀ j, j < vw_np h a → (ht_s x aH (vw_pp h a) (k, h) i).2.2.2 (vw_pa h a) j = some (vw_pp h a j) := fun j hj => by rw [ht_s_r (s := (k, h)) (vw_pp h a) nph i]; exact (hv.2.2.2 j hj).1
    have hi9 : i < vw_np h a := by omega
    have kq : h.1 (vw_pp h a i) = some (3, 0) := (hv.2.2.2 i hi9).2
    have nqh : vw_pp h a i ≠ aH := th_kne kq hK.kH (by decide)
    have kqi : (ht_s x aH (vw_pp h a) (k, h) i).2.1 (vw_pp h a i) = some (3, 0) := by rw [ki]; exact kq
    have rq : ∀ j, (ht_s x aH (vw_pp h a) (k, h) i).2.2.2 (vw_pp h a i) j = h.2.2 (vw_pp h a i) j := fun j => by rw [ht_s_r (s := (k, h)) (vw_pp h a) nqh i]
    have t1 : ∀ b, h.2.2 (vw_pp h a i) 2 = some b → (ht_s x aH (vw_pp h a) (k, h) i).2.1 b = some (2, 0) := fun b hb => by rw [ki]; exact (hK.pl kq).2.2.2.1 b hb
    have hK2 := ho_s_K hKi t1
    have hC2 := ho_s_C hKi hCi t1
    have k2 : (ho_s x aH (ht_s x aH (vw_pp h a) (k, h) i) (h.2.2 (vw_pp h a i) 2)).2.1 = h.1 := (ho_h_k x aH _ _).trans ki
    have t2 : ∀ b, h.2.2 (vw_pp h a i) 6 = some b → (ho_s x aH (ht_s x aH (vw_pp h a) (k, h) i) (h.2.2 (vw_pp h a i) 2)).2.1 b = some (2, 0) := fun b hb => by rw [k2]; exact (hK.pl kq).2.2.2.2 b hb
    refine lv_iload_n hx hb dX3_holdTargets_2 rfl (lv_at hl 2 rfl) ?_
    refine lv_aload_n hx hb dX3_holdTargets_3 rfl (lv_at hl 1 rfl) ?_
    refine gr_2_1 (index := 103) hC hM kai mb_98 dX3_holdTargets_4 rai ?_
    refine an_6 hC hM kpi dX3_holdTargets_7 ?_
    refine lv_icmp_ge (tgt := 43) hx hb dX3_holdTargets_8 (by decide) (fun c8 => ?_) (fun c8 => ?_)
    · exact absurd c8 (nI_ge (by omega) (by have := hv.2.2.1; omega))
    · refine lv_aload_n hx hb dX3_holdTargets_11 rfl (lv_at hl 0 rfl) ?_
      refine lv_aload_n hx hb dX3_holdTargets_12 rfl (lv_at hl 1 rfl) ?_
      refine gr_2_1 (index := 103) hC hM kai mb_98 dX3_holdTargets_13 rai ?_
      refine lv_iload_n hx hb dX3_holdTargets_16 rfl (lv_at hl 2 rfl) ?_
      refine al_6 (i := i) hC hM kpi (rfl) (hi9) (by first | decide | omega) (rpi i hi9) dX3_holdTargets_17 ?_
      refine gr_3_2 (index := 123) hC hM kqi mb_74 dX3_holdTargets_18 (rq 2) ?_
      refine mw_callV (As := [va_rf (h.2.2 (vw_pp h a i) 2)]) (rest := []) (n := 1) (C := RX3) (T := TX3) (N := 11) (ci := 3) hC hM (c_X3_hold l hl0 D cs ((ht_s x aH (vw_pp h a) (k, h) i).2) H.size x aR aO aH aT rt ta hKi (ht_s x aH (vw_pp h a) (k, h) i).1 hCi (h.2.2 (vw_pp h a i) 2) t1) (cwV 1 hC.1.2.2.2.2 (tb_V mb_198 mb_199 mb_4 mb_36 mb_200) rfl rfl rfl (by decide +kernel) ⟨Nat.le_of_ble_eq_true rfl, Nat.le_of_ble_eq_true rfl⟩) (th_at (h := (ht_s x aH (vw_pp h a) (k, h) i).2) hKi.kx) rfl rfl rfl hl.1 (Nat.le_of_ble_eq_true rfl) dX3_holdTargets_21 ⟨Nat.le_of_ble_eq_true rfl, Nat.le_of_ble_eq_true rfl⟩ (fun E ce q9 g9 H locs hp9 hM hce hcv hcl => ?_) (fun v9 g9 H locs hp9 hM => ?_)
      · exact (hp9.elim fun _ h9 => h9.2.elim)
      obtain ⟨h21, rfl, hp9⟩ := hp9
      obtain ⟨rfl, rfl⟩ := hp9
      refine W.eq (g2 := F0 m 24 ls []) rfl ?_
      refine lv_aload_n hx hb dX3_holdTargets_24 rfl (lv_at hl 0 rfl) ?_
      refine lv_aload_n hx hb dX3_holdTargets_25 rfl (lv_at hl 1 rfl) ?_
      refine gr_2_1 (index := 103) hC hM (show _ = some (2, 0) by rw [show (ho_h x aH (ht_s x aH (vw_pp h a) (k, h) i) (h.2.2 (vw_pp h a i) 2)).1 = h.1 from k2]; exact ha) mb_98 dX3_holdTargets_26 ((congrFun (ho_h_r x aH _ _ nah) 1).trans rai) ?_
      refine lv_iload_n hx hb dX3_holdTargets_29 rfl (lv_at hl 2 rfl) ?_
      refine al_6 (i := i) hC hM (show _ = some (6, vw_np h a) by rw [show (ho_h x aH (ht_s x aH (vw_pp h a) (k, h) i) (h.2.2 (vw_pp h a i) 2)).1 = h.1 from k2]; exact hv.2.1) (rfl) (hi9) (by first | decide | omega) ((congrFun (ho_h_r x aH _ _ nph) i).trans (rpi i hi9)) dX3_holdTargets_30 ?_
      refine gr_3_6 (index := 218) hC hM (show _ = some (3, 0) by rw [show (ho_h x aH (ht_s x aH (vw_pp h a) (k, h) i) (h.2.2 (vw_pp h a i) 2)).1 = h.1 from k2]; exact kq) mb_79 dX3_holdTargets_31 ((congrFun (ho_h_r x aH _ _ nqh) 6).trans (rq 6)) ?_
      refine mw_callV (As := [va_rf (h.2.2 (vw_pp h a i) 6)]) (rest := []) (n := 1) (C := RX3) (T := TX3) (N := 11) (ci := 3) hC hM (c_X3_hold l hl0 D cs (ho_h x aH (ht_s x aH (vw_pp h a) (k, h) i) (h.2.2 (vw_pp h a i) 2)) H.size x aR aO aH aT rt ta hK2 (ho_s x aH (ht_s x aH (vw_pp h a) (k, h) i) (h.2.2 (vw_pp h a i) 2)).1 hC2 (h.2.2 (vw_pp h a i) 6) t2) (cwV 1 hC.1.2.2.2.2 (tb_V mb_198 mb_199 mb_4 mb_36 mb_200) rfl rfl rfl (by decide +kernel) ⟨Nat.le_of_ble_eq_true rfl, Nat.le_of_ble_eq_true rfl⟩) (th_at (h := ho_h x aH (ht_s x aH (vw_pp h a) (k, h) i) (h.2.2 (vw_pp h a i) 2)) hK2.kx) rfl rfl rfl hl.1 (Nat.le_of_ble_eq_true rfl) dX3_holdTargets_34 ⟨Nat.le_of_ble_eq_true rfl, Nat.le_of_ble_eq_true rfl⟩ (fun E ce q9 g9 H locs hp9 hM hce hcv hcl => ?_) (fun v9 g9 H locs hp9 hM => ?_)
      · exact (hp9.elim fun _ h9 => h9.2.elim)
      obtain ⟨h34, rfl, hp9⟩ := hp9
      obtain ⟨rfl, rfl⟩ := hp9
      refine W.eq (g2 := F0 m 37 ls []) rfl ?_
      refine lv_iinc (v := nI (i + 1)) (lv' := [(2, .int (nI (i + 1))), (0, .ref x), (1, .ref a)]) hx hb dX3_holdTargets_37 hl (k := 2) rfl (by exact nI_1 i) (by first | decide | omega) rfl (fun ls hl => ?_)
      refine lv_goto (tgt := 2) hx hb dX3_holdTargets_40 (by decide) ?_
      exact ih (i + 1) H locs ls (by omega) hM (lv_sub hl [1, 2, 0] rfl)

-- StableHeap.holdTargets
set_option maxHeartbeats 4000000 in
set_option maxRecDepth 100000 in
theorem c_X3_holdTargets (l : Launch) (hl0 : l.stackTraces = false) (D : va_G) (cs : Nat → ClassId) (h : th_S) (sz : Nat) (x aR aO aH aT : Nat) (rt ta : Nat → Nat) (hK : sh_K x aR aO aH aT rt ta h) (n0 : Nat) (hO : sh_O x aO n0 h) (k : Nat) (hk : ho_C x (k, h)) (a : Nat) (ha : h.1 a = some (2, 0)) : th_M l yX3_holdTargets wsX3_holdTargets { frames := 1, cells := 0, slots := 0, locals := 21 } D cs h sz [.ref x, .ref a] (fun v h' => v = none ∧ h' = (ht_s x aH (vw_pp h a) (k, h) (vw_np h a)).2) (fun E h' => False) := by
  refine mw_ofW (cc := cX3_holdTargets) (maxL := 3) (ret := none) (by decide) rfl (fun w h => List.mem_cons_of_mem _ h) th_cd (Nat.le_of_ble_eq_true rfl) ?_
  intro p e s m below meth c hsz hC hr hlk hnm htab hM ls hl
  have hC : th_C D cs h p m c cX3_holdTargets 3 s [.ref x, .ref a] RX3 := hC
  have hx := hC.1.1
  have hb := hC.1.2.1
  have kx0 : h.1 x = some (0, 0) := hK.kx
  have hl : lv_has ls 3 [(0, .ref x), (1, .ref a)] := hl
  refine lv_iconst (v := 0) hx hb dX3_holdTargets_0 (by decide) ?_
  refine lv_istore_n (lv' := [(2, .int 0), (0, .ref x), (1, .ref a)]) hx hb dX3_holdTargets_1 rfl hl (by decide) rfl (fun ls hl => ?_)
  exact lo_X3_holdTargets_2 hl0 x aR aO aH aT rt ta hK n0 hO k hk a ha hC hr hlk htab (vw_np h a) 0 _ _ ls (by omega) hM (lv_sub hl [1, 2, 0] rfl)

-- the loop at 17 of StableHeap$Lockable.unlock
set_option maxHeartbeats 4000000 in
set_option maxRecDepth 100000 in
theorem lo_X0_unlock_17 {l : Launch} (hl0 : l.stackTraces = false) {D : va_G} {cs : Nat → ClassId} {h : th_S} (x aR aO aH aT : Nat) (rt ta : Nat → Nat) (hK : sh_K x aR aO aH aT rt ta h) (a : Nat) (ha : h.1 a = some (2, 0)) (k z : Int32) (hown : h.2.1 a 2 = k) {p : Program} {e : Env} {s : State} {m : MethodId} {below : List Frame} {meth : Method} {c : Code} (hC : th_C D cs h p m c cX0_unlock 4 s [.ref a, .int k, .int z] RX0) (hr : meth.sig.returnType = some .int) (hlk : meth.locks = false) (htab : ∀ x ∈ c.exceptionTable.toList, False) : ∀ (q : Nat) (i : Nat) (H : Heap) (locs : List Loc) (ls : Array Slot), (i + q = vw_np h a) → th_H D cs h s (ul_it z (vw_pp h a) (th_ui h a 2 0) i) H locs → lv_has ls 4 [(0, .ref a), (1, .int k), (2, .int z), (3, .int (nI i))] → W p l e { frames := 1, cells := 0, slots := 0, locals := 20 } s m [.ref a, .int k, .int z].toArray below meth c H locs 0 0 (th_Q below D cs h s [.ref a, .int k, .int z] (fun v h' => v = some (.int (ul_c k h a)) ∧ h' = ul_h z k h a) (fun E h' => False) 0 0) (F0 m 17 ls []) := by
  have hx := hC.1.1
  have hb := hC.1.2.1
  intro q
  induction q with
  | zero =>
    intro i H locs ls hin hM hl
    have hv := hK.vw ha
    have hg1 : (ul_it z (vw_pp h a) (th_ui h a 2 0) i).1 = h.1 := ul_it_k z (vw_pp h a) (th_ui h a 2 0) i
    have kga : (ul_it z (vw_pp h a) (th_ui h a 2 0) i).1 a = some (2, 0) := by rw [hg1]; exact ha
    have kgp : (ul_it z (vw_pp h a) (th_ui h a 2 0) i).1 (vw_pa h a) = some (6, vw_np h a) := by rw [hg1]; exact hv.2.1
    have nea : ∀ j, j < i → a ≠ vw_pp h a j := fun j hj => th_kne ha (hv.2.2.2 j (by omega)).2 (by decide)
    have nep : ∀ j, j < i → vw_pa h a ≠ vw_pp h a j := fun j hj => th_kne hv.2.1 (hv.2.2.2 j (by omega)).2 (by simp)
    have rga : (ul_it z (vw_pp h a) (th_ui h a 2 0) i).2.2 a 1 = some (vw_pa h a) := by rw [(ul_it_n z (vw_pp h a) (th_ui h a 2 0) i nea).2]; exact hv.1
    have rgp : ∀ j, j < vw_np h a → (ul_it z (vw_pp h a) (th_ui h a 2 0) i).2.2 (vw_pa h a) j = some (vw_pp h a j) := fun j hj => by rw [(ul_it_n z (vw_pp h a) (th_ui h a 2 0) i nep).2]; exact (hv.2.2.2 j hj).1
    have hKg : sh_K x aR aO aH aT rt ta (ul_it z (vw_pp h a) (th_ui h a 2 0) i) := ul_it_K (hK.uk ha (by decide)) z (vw_pp h a) i (fun j hj => (hv.2.2.2 j (by omega)).2)
    refine lv_iload_n hx hb dX0_unlock_17 rfl (lv_at hl 3 rfl) ?_
    refine lv_aload_n hx hb dX0_unlock_18 rfl (lv_at hl 0 rfl) ?_
    refine gr_2_1 (index := 15) hC hM kga mb_97 dX0_unlock_19 rga ?_
    refine an_6 hC hM kgp dX0_unlock_22 ?_
    refine lv_icmp_ge (tgt := 54) hx hb dX0_unlock_23 (by decide) (fun c23 => ?_) (fun c23 => ?_)
    · refine lv_iconst (v := 1) hx hb dX0_unlock_54 (by decide) ?_
      refine mw_iret hC hM hr hlk dX0_unlock_55 (Nat.le_of_ble_eq_true rfl) (Nat.le_of_ble_eq_true rfl) ⟨_, rfl, ?_⟩
      exact ⟨by simp [ul_c, hown], by rw [ul_h, if_pos hown, show vw_np h a = i by omega]⟩
    · exact absurd (nI_le (show vw_np h a ≤ i by omega) (by have := hv.2.2.1; omega)) c23
  | succ q ih =>
    intro i H locs ls hin hM hl
    have hv := hK.vw ha
    have hg1 : (ul_it z (vw_pp h a) (th_ui h a 2 0) i).1 = h.1 := ul_it_k z (vw_pp h a) (th_ui h a 2 0) i
    have kga : (ul_it z (vw_pp h a) (th_ui h a 2 0) i).1 a = some (2, 0) := by rw [hg1]; exact ha
    have kgp : (ul_it z (vw_pp h a) (th_ui h a 2 0) i).1 (vw_pa h a) = some (6, vw_np h a) := by rw [hg1]; exact hv.2.1
    have nea : ∀ j, j < i → a ≠ vw_pp h a j := fun j hj => th_kne ha (hv.2.2.2 j (by omega)).2 (by decide)
    have nep : ∀ j, j < i → vw_pa h a ≠ vw_pp h a j := fun j hj => th_kne hv.2.1 (hv.2.2.2 j (by omega)).2 (by simp)
    have rga : (ul_it z (vw_pp h a) (th_ui h a 2 0) i).2.2 a 1 = some (vw_pa h a) := by rw [(ul_it_n z (vw_pp h a) (th_ui h a 2 0) i nea).2]; exact hv.1
    have rgp : ∀ j, j < vw_np h a → (ul_it z (vw_pp h a) (th_ui h a 2 0) i).2.2 (vw_pa h a) j = some (vw_pp h a j) := fun j hj => by rw [(ul_it_n z (vw_pp h a) (th_ui h a 2 0) i nep).2]; exact (hv.2.2.2 j hj).1
    have hKg : sh_K x aR aO aH aT rt ta (ul_it z (vw_pp h a) (th_ui h a 2 0) i) := ul_it_K (hK.uk ha (by decide)) z (vw_pp h a) i (fun j hj => (hv.2.2.2 j (by omega)).2)
    have hi9 : i < vw_np h a := by omega
    have kgq : (ul_it z (vw_pp h a) (th_ui h a 2 0) i).1 (vw_pp h a i) = some (3, 0) := by rw [hg1]; exact (hv.2.2.2 i hi9).2
    have naq : a ≠ vw_pp h a i := th_kne ha (hv.2.2.2 i hi9).2 (by decide)
    have npq : vw_pa h a ≠ vw_pp h a i := th_kne hv.2.1 (hv.2.2.2 i hi9).2 (by simp)
    refine lv_iload_n hx hb dX0_unlock_17 rfl (lv_at hl 3 rfl) ?_
    refine lv_aload_n hx hb dX0_unlock_18 rfl (lv_at hl 0 rfl) ?_
    refine gr_2_1 (index := 15) hC hM kga mb_97 dX0_unlock_19 rga ?_
    refine an_6 hC hM kgp dX0_unlock_22 ?_
    refine lv_icmp_ge (tgt := 54) hx hb dX0_unlock_23 (by decide) (fun c23 => ?_) (fun c23 => ?_)
    · exact absurd c23 (nI_ge (by omega) (by have := hv.2.2.1; omega))
    · refine lv_iload_n hx hb dX0_unlock_26 rfl (lv_at hl 2 rfl) ?_
      refine lv_if_ne (tgt := 39) hx hb dX0_unlock_27 (by decide) (fun c27 => ?_) (fun c27 => ?_)
      · refine lv_aload_n hx hb dX0_unlock_39 rfl (lv_at hl 0 rfl) ?_
        refine gr_2_1 (index := 15) hC hM kga mb_97 dX0_unlock_40 rga ?_
        refine lv_iload_n hx hb dX0_unlock_43 rfl (lv_at hl 3 rfl) ?_
        refine al_6 (i := i) hC hM kgp (rfl) (hi9) (by first | decide | omega) (rgp i hi9) dX0_unlock_44 ?_
        refine mw_callV (As := []) (rest := []) (n := 0) (C := RX1) (T := TX1) (N := 7) (ci := 1) hC hM (c_X1_forgetFormer l hl0 D cs (ul_it z (vw_pp h a) (th_ui h a 2 0) i) H.size (vw_pp h a i) kgq) (cwV 0 hC.1.2.2.2.2 (tb_V mb_184 mb_185 mb_186 mb_38 mb_187) rfl rfl rfl (by decide +kernel) ⟨Nat.le_of_ble_eq_true rfl, Nat.le_of_ble_eq_true rfl⟩) (th_at (h := ul_it z (vw_pp h a) (th_ui h a 2 0) i) kgq) rfl rfl rfl hl.1 (Nat.le_of_ble_eq_true rfl) dX0_unlock_45 ⟨Nat.le_of_ble_eq_true rfl, Nat.le_of_ble_eq_true rfl⟩ (fun E ce q9 g9 H locs hp9 hM hce hcv hcl => ?_) (fun v9 g9 H locs hp9 hM => ?_)
        · exact (hp9.elim fun _ h9 => h9.2.elim)
        obtain ⟨h45, rfl, hp9⟩ := hp9
        obtain ⟨rfl, rfl⟩ := hp9
        refine W.eq (g2 := F0 m 48 ls []) rfl ?_
        refine lv_iinc (v := nI (i + 1)) (lv' := [(3, .int (nI (i + 1))), (0, .ref a), (1, .int k), (2, .int z)]) hx hb dX0_unlock_48 hl (k := 3) rfl (by exact nI_1 i) (by first | decide | omega) rfl (fun ls hl => ?_)
        refine lv_goto (tgt := 17) hx hb dX0_unlock_51 (by decide) ?_
        exact ih (i + 1) H locs ls (by omega) (by
          show th_H D cs h s (pl_end z _ _) H locs
          unfold pl_end
          first | (rw [if_pos c27]; exact hM) | (rw [if_neg c27]; exact hM)) (lv_sub hl [1, 2, 3, 0] rfl)
      · refine lv_aload_n hx hb dX0_unlock_30 rfl (lv_at hl 0 rfl) ?_
        refine gr_2_1 (index := 15) hC hM kga mb_97 dX0_unlock_31 rga ?_
        refine lv_iload_n hx hb dX0_unlock_34 rfl (lv_at hl 3 rfl) ?_
        refine al_6 (i := i) hC hM kgp (rfl) (hi9) (by first | decide | omega) (rgp i hi9) dX0_unlock_35 ?_
        refine mw_callV (As := []) (rest := []) (n := 0) (C := RX1) (T := TX1) (N := 7) (ci := 1) hC hM (c_X1_takeBack l hl0 D cs (ul_it z (vw_pp h a) (th_ui h a 2 0) i) H.size (vw_pp h a i) kgq (hKg.pl kgq).2.2.1) (cwV 0 hC.1.2.2.2.2 (tb_V mb_180 mb_181 mb_182 mb_38 mb_183) rfl rfl rfl (by decide +kernel) ⟨Nat.le_of_ble_eq_true rfl, Nat.le_of_ble_eq_true rfl⟩) (th_at (h := ul_it z (vw_pp h a) (th_ui h a 2 0) i) kgq) rfl rfl rfl hl.1 (Nat.le_of_ble_eq_true rfl) dX0_unlock_36 ⟨Nat.le_of_ble_eq_true rfl, Nat.le_of_ble_eq_true rfl⟩ (fun E ce q9 g9 H locs hp9 hM hce hcv hcl => ?_) (fun v9 g9 H locs hp9 hM => ?_)
        · exact (hp9.elim fun _ h9 => h9.2.elim)
        obtain ⟨h36, rfl, hp9⟩ := hp9
        obtain ⟨rfl, rfl⟩ := hp9
        have kgb := pl_back_k (ul_it z (vw_pp h a) (th_ui h a 2 0) i) (vw_pp h a i)
        refine W.eq (g2 := F0 m 39 ls []) rfl ?_
        refine lv_aload_n hx hb dX0_unlock_39 rfl (lv_at hl 0 rfl) ?_
        refine gr_2_1 (index := 15) hC hM (by rw [kgb]; exact kga) mb_97 dX0_unlock_40 ((congrFun (pl_back_n _ naq).2 1).trans rga) ?_
        refine lv_iload_n hx hb dX0_unlock_43 rfl (lv_at hl 3 rfl) ?_
        refine al_6 (i := i) hC hM (by rw [kgb]; exact kgp) (rfl) (hi9) (by first | decide | omega) ((congrFun (pl_back_n _ npq).2 i).trans (rgp i hi9)) dX0_unlock_44 ?_
        refine mw_callV (As := []) (rest := []) (n := 0) (C := RX1) (T := TX1) (N := 7) (ci := 1) hC hM (c_X1_forgetFormer l hl0 D cs (pl_back (ul_it z (vw_pp h a) (th_ui h a 2 0) i) (vw_pp h a i)) H.size (vw_pp h a i) (by rw [kgb]; exact kgq)) (cwV 0 hC.1.2.2.2.2 (tb_V mb_184 mb_185 mb_186 mb_38 mb_187) rfl rfl rfl (by decide +kernel) ⟨Nat.le_of_ble_eq_true rfl, Nat.le_of_ble_eq_true rfl⟩) (th_at (h := pl_back (ul_it z (vw_pp h a) (th_ui h a 2 0) i) (vw_pp h a i)) (by rw [kgb]; exact kgq)) rfl rfl rfl hl.1 (Nat.le_of_ble_eq_true rfl) dX0_unlock_45 ⟨Nat.le_of_ble_eq_true rfl, Nat.le_of_ble_eq_true rfl⟩ (fun E ce q9 g9 H locs hp9 hM hce hcv hcl => ?_) (fun v9 g9 H locs hp9 hM => ?_)
        · exact (hp9.elim fun _ h9 => h9.2.elim)
        obtain ⟨h45, rfl, hp9⟩ := hp9
        obtain ⟨rfl, rfl⟩ := hp9
        refine W.eq (g2 := F0 m 48 ls []) rfl ?_
        refine lv_iinc (v := nI (i + 1)) (lv' := [(3, .int (nI (i + 1))), (0, .ref a), (1, .int k), (2, .int z)]) hx hb dX0_unlock_48 hl (k := 3) rfl (by exact nI_1 i) (by first | decide | omega) rfl (fun ls hl => ?_)
        refine lv_goto (tgt := 17) hx hb dX0_unlock_51 (by decide) ?_
        exact ih (i + 1) H locs ls (by omega) (by
          show th_H D cs h s (pl_end z _ _) H locs
          unfold pl_end
          first | (rw [if_pos c27]; exact hM) | (rw [if_neg c27]; exact hM)) (lv_sub hl [1, 2, 3, 0] rfl)

-- StableHeap$Lockable.unlock
set_option maxHeartbeats 4000000 in
set_option maxRecDepth 100000 in
theorem c_X0_unlock (l : Launch) (hl0 : l.stackTraces = false) (D : va_G) (cs : Nat → ClassId) (h : th_S) (sz : Nat) (x aR aO aH aT : Nat) (rt ta : Nat → Nat) (hK : sh_K x aR aO aH aT rt ta h) (a : Nat) (ha : h.1 a = some (2, 0)) (k z : Int32) : th_M l yX0_unlock wsX0_unlock { frames := 1, cells := 0, slots := 0, locals := 20 } D cs h sz [.ref a, .int k, .int z] (fun v h' => v = some (.int (ul_c k h a)) ∧ h' = ul_h z k h a) (fun E h' => False) := by
  refine mw_ofW (cc := cX0_unlock) (maxL := 4) (ret := (some .int)) (by decide) rfl (fun w h => List.mem_cons_of_mem _ h) th_cd (Nat.le_of_ble_eq_true rfl) ?_
  intro p e s m below meth c hsz hC hr hlk hnm htab hM ls hl
  have hC : th_C D cs h p m c cX0_unlock 4 s [.ref a, .int k, .int z] RX0 := hC
  have hx := hC.1.1
  have hb := hC.1.2.1
  have hl : lv_has ls 4 [(0, .ref a), (1, .int k), (2, .int z)] := hl
  refine lv_aload_n hx hb dX0_unlock_0 rfl (lv_at hl 0 rfl) ?_
  refine gi_2_2 (index := 20) hC hM ha mb_99 dX0_unlock_1 ?_
  refine lv_iload_n hx hb dX0_unlock_4 rfl (lv_at hl 1 rfl) ?_
  refine lv_icmp_eq (tgt := 10) hx hb dX0_unlock_5 (by decide) (fun c5 => ?_) (fun c5 => ?_)
  · refine lv_aload_n hx hb dX0_unlock_10 rfl (lv_at hl 0 rfl) ?_
    refine lv_iconst (v := 0) hx hb dX0_unlock_11 (by decide) ?_
    refine pu_2_2 (index := 20) (v := 0) hC hM ha mb_99 dX0_unlock_12 (fun H locs hM => ?_)
    refine lv_iconst (v := 0) hx hb dX0_unlock_15 (by decide) ?_
    refine lv_istore_n (lv' := [(3, .int 0), (0, .ref a), (1, .int k), (2, .int z)]) hx hb dX0_unlock_16 rfl hl (by decide) rfl (fun ls hl => ?_)
    exact lo_X0_unlock_17 hl0 x aR aO aH aT rt ta hK a ha k z c5 hC hr hlk htab (vw_np h a) 0 _ _ ls (by omega) hM (lv_sub hl [1, 2, 3, 0] rfl)
  · refine lv_iconst (v := 0) hx hb dX0_unlock_8 (by decide) ?_
    refine mw_iret hC hM hr hlk dX0_unlock_9 (Nat.le_of_ble_eq_true rfl) (Nat.le_of_ble_eq_true rfl) ⟨_, rfl, ?_⟩
    exact ⟨by simp [ul_c, c5], by simp [ul_h, c5]⟩

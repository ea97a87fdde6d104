def sh_mh (x aO n : Nat) (h : th_S) (t : Nat) (k : Int32) (q nf pa : Nat) (pp : Nat → Nat) : th_S :=
  th_ui (th_ui (th_ur (th_ui (lk_it pa pp (lk_b (th_un (th_ui (th_ui h t 1 (h.2.1 t 1 + 2)) x 6 (h.2.1 x 6 + 1)) q (2, 0)) q (h.2.1 x 6 + 1) pa nf) nf) q 2 k) aO n (some q)) x 4 (nI (n + 1))) x 7 (h.2.1 x 7 + (1 + nI nf))
def sh_mF (x : Nat) (h : th_S) (t q nf pa : Nat) (pp : Nat → Nat) : Prop := h.1 q = none ∧ lk_F (th_un (th_ui (th_ui h t 1 (h.2.1 t 1 + 2)) x 6 (h.2.1 x 6 + 1)) q (2, 0)) q (h.2.1 x 6 + 1) nf pa pp

-- StableHeap.make
set_option maxHeartbeats 4000000 in
set_option maxRecDepth 100000 in
theorem c_X3_make (l : Launch) (hl0 : l.stackTraces = false) (D : va_G) (cs : Nat → ClassId) (h : th_S) (sz : Nat) (x aR aO aH aT : Nat) (rt ta : Nat → Nat) (hK : sh_K x aR aO aH aT rt ta h) (n : Nat) (hO : sh_O x aO n h) (k f : Int32) : th_M l yX3_make wsX3_make { frames := 7, cells := 8, slots := 54, locals := 112 } D cs h sz [.ref x, .int k, .int f] (fun v h' => ∃ i nf q pa pp, sh_tx ta h k i ∧ nf ≤ 4 ∧ f = nI nf ∧ ¬ 80 < h.2.1 x 7 + 1 + f ∧ n < 80 ∧ sh_wl x ta h + 2 ≤ 150 ∧ sh_mF x h (ta i) q nf pa pp ∧ h' = sh_mh x aO n h (ta i) k q nf pa pp ∧ v = some (.int (h.2.1 x 6 + 1))) (fun E h' => h = h' ∧ ((E = "java/util/NoSuchElementException" ∧ sh_nt ta h k) ∨ ∃ i, sh_tx ta h k i ∧ ((E = "java/lang/IllegalArgumentException" ∧ (f < 0 ∨ 4 < f)) ∨ (¬ f < 0 ∧ f ≤ 4 ∧ ((E = "java/lang/IllegalStateException" ∧ (80 < h.2.1 x 7 + 1 + f ∨ 80 ≤ n)) ∨ (¬ 80 < h.2.1 x 7 + 1 + f ∧ n < 80 ∧ E = "java/lang/UnsupportedOperationException" ∧ ¬ sh_wl x ta h + 2 ≤ 150)))))) := by
  refine mw_ofW (cc := cX3_make) (maxL := 5) (ret := (some .int)) (by decide) rfl (fun w h => List.mem_cons_of_mem _ h) th_cd (Nat.le_of_ble_eq_true rfl) ?_
  intro p e s m below meth c hsz hC hr hlk hnm htab hM ls hl
  have hC : th_C D cs h p m c cX3_make 5 s [.ref x, .int k, .int f] RX3 := hC
  have hx := hC.1.1
  have hb := hC.1.2.1
  have kx0 : h.1 x = some (0, 0) := hK.kx
  have hl : lv_has ls 5 [(0, .ref x), (1, .int k), (2, .int f)] := hl
  refine lv_aload_n hx hb dX3_make_0 rfl (lv_at hl 0 rfl) ?_
  refine lv_iload_n hx hb dX3_make_1 rfl (lv_at hl 1 rfl) ?_
  refine mw_callV (As := [.int k]) (rest := []) (n := 1) (C := RX3) (T := TX3) (N := 11) (ci := 3) hC hM (c_X3_activeTransaction l hl0 D cs h s.heap.size x aR aO aH aT rt ta hK k) (cwV 1 hC.1.2.2.2.2 (tb_V mb_308 mb_309 mb_9 mb_36 mb_310) rfl rfl rfl (by decide +kernel) ⟨Nat.le_of_ble_eq_true rfl, Nat.le_of_ble_eq_true rfl⟩) (th_at (h := h) kx0) rfl rfl rfl hl.1 (Nat.le_of_ble_eq_true rfl) dX3_make_2 ⟨Nat.le_of_ble_eq_true rfl, Nat.le_of_ble_eq_true rfl⟩ (fun E ce q9 g9 H locs hp9 hM hce hcv hcl => ?_) (fun v9 g9 H locs hp9 hM => ?_)
  · obtain ⟨h9, rfl, rfl, rfl, hf⟩ := hp9
    exact mw_out hM htab hlk hce hcv hcl (Nat.le_of_ble_eq_true rfl) (Nat.le_of_ble_eq_true rfl) ⟨_, rfl, rfl, Or.inl ⟨rfl, hf⟩⟩
  obtain ⟨h2, rfl, hp9⟩ := hp9
  obtain ⟨rfl, i, hi, rfl⟩ := hp9
  have kti : h.1 (ta i) = some (1, 0) := hK.kta hi.1
  refine W.eq (g2 := F0 m 5 ls [.ref (ta i)]) rfl ?_
  refine lv_astore_n (lv' := [(3, .ref (ta i)), (0, .ref x), (1, .int k), (2, .int f)]) hx hb dX3_make_5 rfl hl (by decide) rfl (fun ls hl => ?_)
  refine lv_iload_n hx hb dX3_make_6 rfl (lv_at hl 3 rfl) ?_
  refine lv_if_lt (tgt := 15) hx hb dX3_make_7 (by decide) (fun c7 => ?_) (fun c7 => ?_)
  · refine mw_throw (cls := "java/lang/IllegalArgumentException") (names := ["java/lang/RuntimeException", "java/lang/Exception"]) (ik := 50) (is := 52) (ic := 54) hC hM htab hlk hl0 sx_52 (by decide +kernel) (by decide +kernel) mb_325 mb_47 tg_54 tn_54 to_54 hl.1 dX3_make_15 dX3_make_18 dX3_make_19 dX3_make_21 dX3_make_24 (Nat.le_of_ble_eq_true rfl) (Nat.le_of_ble_eq_true rfl) (Nat.le_of_ble_eq_true rfl) (Nat.le_of_ble_eq_true rfl) (Nat.le_of_ble_eq_true rfl) (Nat.le_of_ble_eq_true rfl) ⟨_, rfl, ?_⟩
    exact ⟨rfl, Or.inr ⟨i, hi, Or.inl ⟨rfl, by first | exact Or.inl c7 | exact Or.inr (Int32.not_le.mp c12)⟩⟩⟩
  · refine lv_iload_n hx hb dX3_make_10 rfl (lv_at hl 3 rfl) ?_
    refine lv_iconst (v := 4) hx hb dX3_make_11 (by decide) ?_
    refine lv_icmp_le (tgt := 25) hx hb dX3_make_12 (by decide) (fun c12 => ?_) (fun c12 => ?_)
    · obtain ⟨nf, hnf, rfl⟩ := nI_of2 (M := 4) (n := 4) (by decide) c7 c12
      refine lv_aload_n hx hb dX3_make_25 rfl (lv_at hl 1 rfl) ?_
      refine gi_0_7 (index := 57) hC hM kx0 mb_131 dX3_make_26 ?_
      refine lv_iconst (v := 1) hx hb dX3_make_29 (by decide) ?_
      refine lv_iadd hx hb dX3_make_30 ?_
      refine lv_iload_n hx hb dX3_make_31 rfl (lv_at hl 3 rfl) ?_
      refine lv_iadd hx hb dX3_make_32 ?_
      refine lv_bipush (v := 80) hx hb dX3_make_33 (by decide) ?_
      refine lv_icmp_gt (tgt := 50) hx hb dX3_make_35 (by decide) (fun c35 => ?_) (fun c35 => ?_)
      · refine mw_throw (cls := "java/lang/IllegalStateException") (names := ["java/lang/RuntimeException", "java/lang/Exception"]) (ik := 63) (is := 65) (ic := 67) hC hM htab hlk hl0 sx_65 (by decide +kernel) (by decide +kernel) mb_222 mb_44 tg_67 tn_67 to_67 hl.1 dX3_make_50 dX3_make_53 dX3_make_54 dX3_make_56 dX3_make_59 (Nat.le_of_ble_eq_true rfl) (Nat.le_of_ble_eq_true rfl) (Nat.le_of_ble_eq_true rfl) (Nat.le_of_ble_eq_true rfl) (Nat.le_of_ble_eq_true rfl) (Nat.le_of_ble_eq_true rfl) ⟨_, rfl, ?_⟩
        exact ⟨rfl, Or.inr ⟨i, hi, Or.inr ⟨c7, c12, Or.inl ⟨rfl, by first | exact Or.inl c35 | exact Or.inr hn8⟩⟩⟩⟩
      · refine lv_aload_n hx hb dX3_make_38 rfl (lv_at hl 1 rfl) ?_
        refine gi_0_4 (index := 60) hC hM kx0 mb_128 dX3_make_39 ?_
        rw [show h.2.1 x 4 = nI n from hO.2.1]
        refine lv_aload_n hx hb dX3_make_42 rfl (lv_at hl 1 rfl) ?_
        refine gr_0_1 (index := 18) hC hM kx0 mb_125 dX3_make_43 hK.xO ?_
        refine an_4 hC hM hK.kO dX3_make_46 ?_
        refine lv_icmp_lt (tgt := 60) hx hb dX3_make_47 (by decide) (fun c47 => ?_) (fun c47 => ?_)
        · have hn8 : n < 80 := by
            rcases Nat.lt_or_ge n 80 with q | q
            · exact q
            · exact absurd c47 (nI_nlt q (by have := hO.1; omega))
          refine lv_aload_n hx hb dX3_make_60 rfl (lv_at hl 1 rfl) ?_
          refine lv_aload_n hx hb dX3_make_61 rfl (lv_at hl 0 rfl) ?_
          refine lv_iconst (v := 2) hx hb dX3_make_62 (by decide) ?_
          refine mw_callV (As := [.ref (ta i), .int 2]) (rest := []) (n := 2) (C := RX3) (T := TX3) (N := 11) (ci := 3) hC hM (c_X3_writeRecord l hl0 D cs h H.size x aR aO aH aT rt ta hK (ta i) (hK.kta hi.1) 2) (cwV 2 hC.1.2.2.2.2 (tb_V mb_282 mb_283 mb_8 mb_36 mb_284) rfl rfl rfl (by decide +kernel) ⟨Nat.le_of_ble_eq_true rfl, Nat.le_of_ble_eq_true rfl⟩) (th_at (h := h) kx0) rfl rfl rfl hl.1 (Nat.le_of_ble_eq_true rfl) dX3_make_63 ⟨Nat.le_of_ble_eq_true rfl, Nat.le_of_ble_eq_true rfl⟩ (fun E ce q9 g9 H locs hp9 hM hce hcv hcl => ?_) (fun v9 g9 H locs hp9 hM => ?_)
          · obtain ⟨h9, rfl, rfl, rfl, hw⟩ := hp9
            exact mw_out hM htab hlk hce hcv hcl (Nat.le_of_ble_eq_true rfl) (Nat.le_of_ble_eq_true rfl) ⟨_, rfl, rfl, Or.inr ⟨i, hi, Or.inr ⟨c7, c12, Or.inr ⟨c35, hn8, rfl, hw⟩⟩⟩⟩
          obtain ⟨h63, rfl, hp9⟩ := hp9
          obtain ⟨rfl, rfl, hw⟩ := hp9
          refine W.eq (g2 := F0 m 66 ls []) rfl ?_
          refine lv_aload_n hx hb dX3_make_66 rfl (lv_at hl 1 rfl) ?_
          refine lv_dup hx hb dX3_make_67 rfl ?_
          refine gi_0_6 (index := 68) hC hM kx0 mb_130 dX3_make_68 ?_
          rw [show (th_ui h (ta i) 1 (h.2.1 (ta i) 1 + 2)).2.1 x 6 = h.2.1 x 6 from th_ui_n _ _ _ _ (th_kne hK.kx (hK.kta hi.1) (by decide))]
          refine lv_iconst (v := 1) hx hb dX3_make_71 (by decide) ?_
          refine lv_iadd hx hb dX3_make_72 ?_
          refine pu_0_6 (index := 68) (v := (h.2.1 x 6) + 1) hC hM kx0 mb_130 dX3_make_73 (fun H locs hM => ?_)
          refine nw_2 (index := 9) hC hM mb_58 mb_59 mb_37 (Nat.le_of_ble_eq_true rfl) (Nat.le_of_ble_eq_true rfl) dX3_make_76 (fun q H hn_q hM => ?_)
          refine lv_dup hx hb dX3_make_79 rfl ?_
          refine lv_aload_n hx hb dX3_make_80 rfl (lv_at hl 1 rfl) ?_
          refine gi_0_6 (index := 68) hC hM (th_un_k (h := th_ui (th_ui h (ta i) 1 (h.2.1 (ta i) 1 + 2)) x 6 (h.2.1 x 6 + 1)) hn_q hK.kx) mb_130 dX3_make_81 ?_
          rw [show (th_un (th_ui (th_ui h (ta i) 1 (h.2.1 (ta i) 1 + 2)) x 6 ((h.2.1 x 6) + 1)) q (2, 0)).2.1 x 6 = h.2.1 x 6 + 1 from (th_un_i (t := (2, 0)) (fun e9 => by have := hK.kx; rw [e9] at this; rw [show h.1 q = none from hn_q] at this; cases this)).trans (th_ui_s _ _ _ _)]
          refine lv_iload_n hx hb dX3_make_84 rfl (lv_at hl 3 rfl) ?_
          refine mw_callI (As := [.int (h.2.1 x 6 + 1), .int (nI nf)]) (rest := [.ref q]) (n := 2) hC hM (c_X0_init l hl0 D cs (th_un (th_ui (th_ui h (ta i) 1 (h.2.1 (ta i) 1 + 2)) x 6 ((h.2.1 x 6) + 1)) q (2, 0)) H.size q (th_un_self _ _ _) (h.2.1 x 6 + 1) nf hnf) (cwI 2 hC.1.2.2.2.2 (tb_I mb_62) rfl rfl rfl (hC.1.2.2.2.2 (.initialized RX0) mb_37) (hC.1.2.2.2.2 (.methodLink RX3 15 yX0_init) mb_60) (hC.1.2.2.2.2 (.instanceMethod yX0_init) mb_61) rfl (by decide +kernel) ⟨Nat.le_of_ble_eq_true rfl, Nat.le_of_ble_eq_true rfl⟩) rfl rfl hl.1 (Nat.le_of_ble_eq_true rfl) dX3_make_85 ⟨Nat.le_of_ble_eq_true rfl, Nat.le_of_ble_eq_true rfl⟩ (fun v9 g9 H locs hp9 hM => ?_)
          obtain ⟨h85, rfl, hp9⟩ := hp9
          obtain ⟨rfl, pa, pp, hF, rfl⟩ := hp9
          have kx2 : (th_un (th_ui (th_ui h (ta i) 1 (h.2.1 (ta i) 1 + 2)) x 6 (h.2.1 x 6 + 1)) q (2, 0)).1 x = some (0, 0) := th_un_k (h := th_ui (th_ui h (ta i) 1 (h.2.1 (ta i) 1 + 2)) x 6 (h.2.1 x 6 + 1)) hn_q hK.kx
          have nxq : x ≠ q := fun e9 => by have := hK.kx; rw [e9] at this; rw [show h.1 q = none from hn_q] at this; cases this
          have ntq : ta i ≠ q := fun e9 => by have := hK.kta hi.1; rw [e9] at this; rw [show h.1 q = none from hn_q] at this; cases this
          have noq : aO ≠ q := fun e9 => by have := hK.kO; rw [e9] at this; rw [show h.1 q = none from hn_q] at this; cases this
          obtain ⟨kx3, ix3, rx3⟩ := lk_old hF kx2 nxq
          obtain ⟨kt3, it3, -⟩ := lk_old hF (th_un_k (h := th_ui (th_ui h (ta i) 1 (h.2.1 (ta i) 1 + 2)) x 6 (h.2.1 x 6 + 1)) hn_q (hK.kta hi.1)) ntq
          obtain ⟨ko3, -, -⟩ := lk_old hF (th_un_k (h := th_ui (th_ui h (ta i) 1 (h.2.1 (ta i) 1 + 2)) x 6 (h.2.1 x 6 + 1)) hn_q hK.kO) noq
          obtain ⟨kq3, -, rq3, kp3, -⟩ := lk_self hF (th_un_self (th_ui (th_ui h (ta i) 1 (h.2.1 (ta i) 1 + 2)) x 6 (h.2.1 x 6 + 1)) q (2, 0))
          have x4 : (lk_it pa pp (lk_b (th_un (th_ui (th_ui h (ta i) 1 (h.2.1 (ta i) 1 + 2)) x 6 (h.2.1 x 6 + 1)) q (2, 0)) q (h.2.1 x 6 + 1) pa nf) nf).2.1 x 4 = nI n := by rw [ix3]; exact (th_un_i (t := (2, 0)) nxq).trans ((th_ui_k _ _ _ (by decide)).trans ((th_ui_n _ _ _ _ (th_kne hK.kx (hK.kta hi.1) (by decide))).trans hO.2.1))
          have x6 : (lk_it pa pp (lk_b (th_un (th_ui (th_ui h (ta i) 1 (h.2.1 (ta i) 1 + 2)) x 6 (h.2.1 x 6 + 1)) q (2, 0)) q (h.2.1 x 6 + 1) pa nf) nf).2.1 x 6 = h.2.1 x 6 + 1 := by rw [ix3]; exact (th_un_i (t := (2, 0)) nxq).trans (th_ui_s _ _ _ _)
          have x7 : (lk_it pa pp (lk_b (th_un (th_ui (th_ui h (ta i) 1 (h.2.1 (ta i) 1 + 2)) x 6 (h.2.1 x 6 + 1)) q (2, 0)) q (h.2.1 x 6 + 1) pa nf) nf).2.1 x 7 = h.2.1 x 7 := by rw [ix3]; exact (th_un_i (t := (2, 0)) nxq).trans ((th_ui_k _ _ _ (by decide)).trans (th_ui_n _ _ _ _ (th_kne hK.kx (hK.kta hi.1) (by decide))))
          have xo : (lk_it pa pp (lk_b (th_un (th_ui (th_ui h (ta i) 1 (h.2.1 (ta i) 1 + 2)) x 6 (h.2.1 x 6 + 1)) q (2, 0)) q (h.2.1 x 6 + 1) pa nf) nf).2.2 x 1 = some aO := by rw [rx3]; exact (th_un_r (t := (2, 0)) nxq).trans hK.xO
          have t0 : (lk_it pa pp (lk_b (th_un (th_ui (th_ui h (ta i) 1 (h.2.1 (ta i) 1 + 2)) x 6 (h.2.1 x 6 + 1)) q (2, 0)) q (h.2.1 x 6 + 1) pa nf) nf).2.1 (ta i) 0 = k := by rw [it3]; exact (th_un_i (t := (2, 0)) ntq).trans ((th_ui_n _ _ _ _ (Ne.symm (th_kne hK.kx (hK.kta hi.1) (by decide)))).trans ((th_ui_k _ _ _ (by decide)).trans hi.2.2))
          have qp : (lk_it pa pp (lk_b (th_un (th_ui (th_ui h (ta i) 1 (h.2.1 (ta i) 1 + 2)) x 6 (h.2.1 x 6 + 1)) q (2, 0)) q (h.2.1 x 6 + 1) pa nf) nf).2.2 q 1 = some pa := by rw [rq3]; exact va_up_self _ _ _
          have nxo : x ≠ aO := th_kne hK.kx hK.kO (by decide)
          have nqo : q ≠ aO := Ne.symm noq
          refine W.eq (g2 := F0 m 88 ls [.ref q]) rfl ?_
          refine lv_astore (lv' := [(4, .ref q), (3, .ref (ta i)), (0, .ref x), (1, .int k), (2, .int (nI nf))]) hx hb dX3_make_88 hl (by decide) rfl (fun ls hl => ?_)
          refine lv_aload hx hb dX3_make_90 (lv_at hl 0 rfl) ?_
          refine lv_aload_n hx hb dX3_make_92 rfl (lv_at hl 1 rfl) ?_
          refine gi_1_0 (index := 43) hC hM kt3 mb_117 dX3_make_93 ?_
          rw [show (lk_it pa pp (lk_b (th_un (th_ui (th_ui h (ta i) 1 (h.2.1 (ta i) 1 + 2)) x 6 (h.2.1 x 6 + 1)) q (2, 0)) q (h.2.1 x 6 + 1) pa nf) nf).2.1 (ta i) 0 = k from t0]
          refine pu_2_2 (index := 71) (v := k) hC hM kq3 mb_100 dX3_make_96 (fun H locs hM => ?_)
          refine lv_aload_n hx hb dX3_make_99 rfl (lv_at hl 2 rfl) ?_
          refine gr_0_1 (index := 18) hC hM kx3 mb_125 dX3_make_100 xo ?_
          refine lv_aload_n hx hb dX3_make_103 rfl (lv_at hl 2 rfl) ?_
          refine gi_0_4 (index := 60) hC hM kx3 mb_128 dX3_make_104 ?_
          rw [show (th_ui (lk_it pa pp (lk_b (th_un (th_ui (th_ui h (ta i) 1 (h.2.1 (ta i) 1 + 2)) x 6 (h.2.1 x 6 + 1)) q (2, 0)) q (h.2.1 x 6 + 1) pa nf) nf) q 2 k).2.1 x 4 = nI n from (th_ui_n _ _ _ _ nxq).trans x4]
          refine lv_aload hx hb dX3_make_107 (lv_at hl 0 rfl) ?_
          refine as_4 (i := n) hC hM ko3 (rfl) (hn8) (by first | decide | omega) kq3 dX3_make_109 (fun H locs hM => ?_)
          refine lv_aload_n hx hb dX3_make_110 rfl (lv_at hl 2 rfl) ?_
          refine lv_dup hx hb dX3_make_111 rfl ?_
          refine gi_0_4 (index := 60) hC hM kx3 mb_128 dX3_make_112 ?_
          rw [show (th_ur (th_ui (lk_it pa pp (lk_b (th_un (th_ui (th_ui h (ta i) 1 (h.2.1 (ta i) 1 + 2)) x 6 (h.2.1 x 6 + 1)) q (2, 0)) q (h.2.1 x 6 + 1) pa nf) nf) q 2 k) aO n (some q)).2.1 x 4 = nI n from (th_ui_n _ _ _ _ nxq).trans x4]
          refine lv_iconst (v := 1) hx hb dX3_make_115 (by decide) ?_
          refine lv_iadd hx hb dX3_make_116 ?_
          rw [show (nI n) + 1 = nI (n + 1) from nI_1 n]
          refine pu_0_4 (index := 60) (v := nI (n + 1)) hC hM kx3 mb_128 dX3_make_117 (fun H locs hM => ?_)
          refine lv_aload_n hx hb dX3_make_120 rfl (lv_at hl 2 rfl) ?_
          refine lv_dup hx hb dX3_make_121 rfl ?_
          refine gi_0_7 (index := 57) hC hM kx3 mb_131 dX3_make_122 ?_
          rw [show (th_ui (th_ur (th_ui (lk_it pa pp (lk_b (th_un (th_ui (th_ui h (ta i) 1 (h.2.1 (ta i) 1 + 2)) x 6 (h.2.1 x 6 + 1)) q (2, 0)) q (h.2.1 x 6 + 1) pa nf) nf) q 2 k) aO n (some q)) x 4 (nI (n + 1))).2.1 x 7 = h.2.1 x 7 from (th_ui_k _ _ _ (by decide)).trans ((th_ui_n _ _ _ _ nxq).trans x7)]
          refine lv_aload hx hb dX3_make_125 (lv_at hl 0 rfl) ?_
          refine mw_callV (As := []) (rest := [.int (h.2.1 x 7), .ref x]) (n := 0) (C := RX0) (T := TX0) (N := 4) (ci := 0) hC hM (c_X0_words l hl0 D cs (th_ui (th_ur (th_ui (lk_it pa pp (lk_b (th_un (th_ui (th_ui h (ta i) 1 (h.2.1 (ta i) 1 + 2)) x 6 (h.2.1 x 6 + 1)) q (2, 0)) q (h.2.1 x 6 + 1) pa nf) nf) q 2 k) aO n (some q)) x 4 (nI (n + 1))) H.size q pa nf kq3 ((th_ur_n _ _ _ _ nqo).trans qp) kp3) (cwV 0 hC.1.2.2.2.2 (tb_V mb_205 mb_206 mb_207 mb_37 mb_208) rfl rfl rfl (by decide +kernel) ⟨Nat.le_of_ble_eq_true rfl, Nat.le_of_ble_eq_true rfl⟩) (th_at (h := th_ui (th_ur (th_ui (lk_it pa pp (lk_b (th_un (th_ui (th_ui h (ta i) 1 (h.2.1 (ta i) 1 + 2)) x 6 (h.2.1 x 6 + 1)) q (2, 0)) q (h.2.1 x 6 + 1) pa nf) nf) q 2 k) aO n (some q)) x 4 (nI (n + 1))) kq3) rfl rfl rfl hl.1 (Nat.le_of_ble_eq_true rfl) dX3_make_127 ⟨Nat.le_of_ble_eq_true rfl, Nat.le_of_ble_eq_true rfl⟩ (fun E ce q9 g9 H locs hp9 hM hce hcv hcl => ?_) (fun v9 g9 H locs hp9 hM => ?_)
          · exact (hp9.elim fun _ h9 => h9.2.elim)
          obtain ⟨h127, rfl, hp9⟩ := hp9
          obtain ⟨rfl, rfl⟩ := hp9
          refine W.eq (g2 := F0 m 130 ls [.int (1 + nI nf), .int (h.2.1 x 7), .ref x]) rfl ?_
          refine lv_iadd hx hb dX3_make_130 ?_
          refine pu_0_7 (index := 57) (v := (h.2.1 x 7) + (1 + nI nf)) hC hM kx3 mb_131 dX3_make_131 (fun H locs hM => ?_)
          refine lv_aload_n hx hb dX3_make_134 rfl (lv_at hl 2 rfl) ?_
          refine gi_0_6 (index := 68) hC hM kx3 mb_130 dX3_make_135 ?_
          rw [show (th_ui (th_ui (th_ur (th_ui (lk_it pa pp (lk_b (th_un (th_ui (th_ui h (ta i) 1 (h.2.1 (ta i) 1 + 2)) x 6 (h.2.1 x 6 + 1)) q (2, 0)) q (h.2.1 x 6 + 1) pa nf) nf) q 2 k) aO n (some q)) x 4 (nI (n + 1))) x 7 ((h.2.1 x 7) + (1 + nI nf))).2.1 x 6 = h.2.1 x 6 + 1 from (th_ui_k _ _ _ (by decide)).trans ((th_ui_k _ _ _ (by decide)).trans ((th_ui_n _ _ _ _ nxq).trans x6))]
          refine mw_iret hC hM hr hlk dX3_make_138 (Nat.le_of_ble_eq_true rfl) (Nat.le_of_ble_eq_true rfl) ⟨_, rfl, ?_⟩
          exact ⟨i, nf, q, pa, pp, hi, hnf, rfl, c35, hn8, hw, ⟨hn_q, hF⟩, rfl, rfl⟩
        · have hn8 : 80 ≤ n := by
            rcases Nat.lt_or_ge n 80 with q | q
            · exact absurd (nI_lt q (by decide)) c47
            · exact q
          refine mw_throw (cls := "java/lang/IllegalStateException") (names := ["java/lang/RuntimeException", "java/lang/Exception"]) (ik := 63) (is := 65) (ic := 67) hC hM htab hlk hl0 sx_65 (by decide +kernel) (by decide +kernel) mb_222 mb_44 tg_67 tn_67 to_67 hl.1 dX3_make_50 dX3_make_53 dX3_make_54 dX3_make_56 dX3_make_59 (Nat.le_of_ble_eq_true rfl) (Nat.le_of_ble_eq_true rfl) (Nat.le_of_ble_eq_true rfl) (Nat.le_of_ble_eq_true rfl) (Nat.le_of_ble_eq_true rfl) (Nat.le_of_ble_eq_true rfl) ⟨_, rfl, ?_⟩
          exact ⟨rfl, Or.inr ⟨i, hi, Or.inr ⟨c7, c12, Or.inl ⟨rfl, by first | exact Or.inl c35 | exact Or.inr hn8⟩⟩⟩⟩
    · refine mw_throw (cls := "java/lang/IllegalArgumentException") (names := ["java/lang/RuntimeException", "java/lang/Exception"]) (ik := 50) (is := 52) (ic := 54) hC hM htab hlk hl0 sx_52 (by decide +kernel) (by decide +kernel) mb_325 mb_47 tg_54 tn_54 to_54 hl.1 dX3_make_15 dX3_make_18 dX3_make_19 dX3_make_21 dX3_make_24 (Nat.le_of_ble_eq_true rfl) (Nat.le_of_ble_eq_true rfl) (Nat.le_of_ble_eq_true rfl) (Nat.le_of_ble_eq_true rfl) (Nat.le_of_ble_eq_true rfl) (Nat.le_of_ble_eq_true rfl) ⟨_, rfl, ?_⟩
      exact ⟨rfl, Or.inr ⟨i, hi, Or.inl ⟨rfl, by first | exact Or.inl c7 | exact Or.inr (Int32.not_le.mp c12)⟩⟩⟩

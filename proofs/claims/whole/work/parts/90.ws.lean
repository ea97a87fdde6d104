/-! the start: classes, arrays, what a throw needs -/
theorem mem_r {big : List Cond} (ws : List Cond) (ps : List Nat) (hp : ws = ps.filterMap (fun i => big[i]?)) : ∀ w ∈ ws, w ∈ big := by
  intro w hw
  rw [hp] at hw
  obtain ⟨i, -, hi⟩ := List.mem_filterMap.mp hw
  first | exact List.mem_of_getElem? hi | exact List.getElem?_mem hi
theorem mw_n0 {w : Cond} {args : Array Value} {s : State} (h : mw_cd w = true) (hZ : w.before args s = true) : va_Nw w s := by
  unfold mw_cd at h
  split at h
  · exact va_Nw.of rfl hZ
  · exact va_Nw.of rfl hZ
  · exact va_Nw.of rfl hZ
  · exact va_AO.of hZ
  · exact mw_nc (va_Nc.of hZ)
  · cases h
theorem ta_o {C : String} {args : Array Value} {s : State} (h : (Cond.arrayOver (.object C)).before args s = true) : ∃ cA : ClassId, ArrOfT s cA (.object C) ∧ va_RA s cA (.object C) := by
  obtain ⟨comp, c, k, h1, h2, h3, h4, h5⟩ := Cond.arrayOver_spec h
  exact ⟨c, fun N z => ⟨(fun k h => by cases h), k, h3, comp, h4⟩, k, comp, h3, h4, h1, h5⟩
theorem ta_int {args : Array Value} {s : State} (h : (Cond.arrayClass .int).before args s = true) : ∃ cA : ClassId, ArrOfT s cA .int ∧ va_RA s cA .int := by
  obtain ⟨c, k, comp, h1, h2, h3⟩ := Cond.arrayClass_spec h
  exact ⟨c, fun N z => ⟨(fun k h => by cases h), k, h2, comp, h3⟩, h1⟩
theorem ta_boolean {args : Array Value} {s : State} (h : (Cond.arrayClass .boolean).before args s = true) : ∃ cA : ClassId, ArrOfT s cA .boolean ∧ va_RA s cA .boolean := by
  obtain ⟨c, k, comp, h1, h2, h3⟩ := Cond.arrayClass_spec h
  exact ⟨c, fun N z => ⟨(fun k h => by cases h), k, h2, comp, h3⟩, h1⟩
theorem ta_long {args : Array Value} {s : State} (h : (Cond.arrayClass .long).before args s = true) : ∃ cA : ClassId, ArrOfT s cA .long ∧ va_RA s cA .long := by
  obtain ⟨c, k, comp, h1, h2, h3⟩ := Cond.arrayClass_spec h
  exact ⟨c, fun N z => ⟨(fun k h => by cases h), k, h2, comp, h3⟩, h1⟩
theorem nw_in : ∀ w ∈ th_nw0, w ∈ tables_1 := mem_r th_nw0 [24, 31, 33, 80, 82, 201, 202, 203, 204, 205, 206, 207, 276, 305, 321, 358, 426] (by decide +kernel)
theorem nn_in : ∀ w ∈ th_nwN, w ∈ flatC (Jvm.Cond.and given_1 narrow_1) := mem_r th_nwN [43, 12, 22, 53, 63, 33, 13, 23, 54, 64, 31, 41, 21, 51, 61, 32, 42, 11, 52, 62, 34, 44, 14, 24, 65, 35, 45, 15, 25, 55] (by decide +kernel)
theorem sx_in : ∀ w ∈ th_sx.map (fun q => Cond.stringRef q.1 q.2.1 q.2.2), w ∈ tables_1 := mem_r _ [243, 283, 312, 328, 335, 352, 365, 375, 395, 411, 433, 447, 497] (by decide +kernel)
theorem sx_own : ∀ q ∈ th_sx, q.1 = "StableHeap" := by decide +kernel
set_option maxHeartbeats 4000000 in
set_option maxRecDepth 100000 in
/-- THE LAW, from its entry -/
theorem whole_start {p : Program} {e : Env} {s : State} {m : MethodId} {below : List Frame} {meth : Method} {c : Code} (l : Launch) (hl9 : l.stackTraces = false) {b L : Nat} {xs : Nat → Int32} (hL : L ≤ 2560) (C0 : lw_At p s m meth c b L xs) : W p l e room_1 s m #[Value.ref b] below meth c s.heap [] 0 0 (lw_Z below #[Value.ref b] s) (entryFrame m ([Value.ref b] : List Value).toArray 7) := by
  obtain ⟨hx, hb, hr, hml, hown, hts, hX, hbl, hlk, hgv⟩ := id C0
  have hTB : ∀ w ∈ TB, w.before #[Value.ref b] s = true := fun w h => hts w (tb_ok w h).1
  have htt : ∀ w ∈ tables_1, w.before #[Value.ref b] s = true := fun w h => hts w (List.mem_append_right _ h)
  have hfl := flat_of_before _ hgv
  obtain ⟨c0, i0, K0⟩ := u_known (C := RX0) (T := TX0) (N := 4) (n := 4) hTB in_X0 (hTB (.instantiable RX0 4) mb_59)
  obtain ⟨c1, i1, K1⟩ := u_known (C := RX1) (T := TX1) (N := 7) (n := 7) hTB in_X1 (hTB (.instantiable RX1 7) mb_65)
  obtain ⟨c2, i2, K2⟩ := u_known (C := RX2) (T := TX2) (N := 2) (n := 2) hTB in_X2 (hTB (.instantiable RX2 2) mb_112)
  obtain ⟨c3, i3, K3⟩ := u_known (C := RX3) (T := TX3) (N := 11) (n := 11) hTB in_X3 (hTB (.instantiable RX3 11) mb_51)
  obtain ⟨c4, i4, K4⟩ := u_known (C := RX4) (T := TX4) (N := 21) (n := 21) hTB in_X4 (hTB (.instantiable RX4 21) mb_485)
  obtain ⟨a0, A0⟩ := ta_o (C := "StableHeap$Lockable") (htt _ (nw_in _ (List.mem_of_getElem? (i := 0) rfl)))
  obtain ⟨a1, A1⟩ := ta_o (C := "StableHeap$Transaction") (htt _ (nw_in _ (List.mem_of_getElem? (i := 3) rfl)))
  obtain ⟨a2, A2⟩ := ta_o (C := "StableHeap$Place") (htt _ (nw_in _ (List.mem_of_getElem? (i := 1) rfl)))
  obtain ⟨a3, A3⟩ := ta_int (hTB _ mb_554)
  obtain ⟨a4, A4⟩ := ta_boolean (hTB _ mb_555)
  obtain ⟨a5, A5⟩ := ta_long (hTB _ mb_682)
  obtain ⟨D, hK⟩ : ∃ D : va_G, ∀ (k : Nat) (q : vw_C), vwC5[k]? = some q → u_Kn s q.1 q.2.1 q.2.2 (D.1 k) (D.2 k) := by
    refine ⟨(fun k => match k with | 0 => c0 | 1 => c1 | 2 => c2 | 3 => c3 | _ => c4, fun k => match k with | 0 => i0 | 1 => i1 | 2 => i2 | 3 => i3 | _ => i4), ?_⟩
    intro k q hq
    match k, hq with
    | 0, hq => cases hq; exact K0
    | 1, hq => cases hq; exact K1
    | 2, hq => cases hq; exact K2
    | 3, hq => cases hq; exact K3
    | 4, hq => cases hq; exact K4
    | k + 5, hq => simp [vwC5] at hq
  obtain ⟨cs, hT⟩ : ∃ cs : Nat → ClassId, ∀ (k : Nat) (q : ClassId × FieldType), (th_tys cs)[k]? = some q → ArrOfT s q.1 q.2 ∧ va_RA s q.1 q.2 := by
    refine ⟨fun k => match k with | 0 => a0 | 1 => a1 | 2 => a2 | 3 => a3 | 4 => a4 | _ => a5, ?_⟩
    intro k q hq
    match k, hq with
    | 0, hq => cases hq; exact A0
    | 1, hq => cases hq; exact A1
    | 2, hq => cases hq; exact A2
    | 3, hq => cases hq; exact A3
    | 4, hq => cases hq; exact A4
    | 5, hq => cases hq; exact A5
    | k + 6, hq => simp [th_tys] at hq
  obtain ⟨h0, eh0⟩ : ∃ h0 : th_S, h0 = (fun _ => none, fun _ _ => 0, fun _ _ => none) := ⟨_, rfl⟩
  have k0 : ∀ q, h0.1 q = none := fun q => by rw [eh0]
  have g0 : ∀ q, th_g cs h0 q = none := fun q => by simp [th_g, k0]
  have hA0 : ∀ q, mw_A (th_g cs h0) s.heap.size q → s.heap.size ≤ q := fun q h => h.elim (fun ⟨e, h⟩ => by rw [g0] at h; cases h) id
  have hbA : ¬ mw_A (th_g cs h0) s.heap.size b := fun h => absurd (hA0 b h) (Nat.not_le.mpr hbl)
  have hst : mw_st th_sx th_nw (mw_A (th_g cs h0) s.heap.size) s s.heap := by
    refine ⟨vx_Zqof (args := #[Value.ref b]) ?_ ?_ ?_ (fun a h9 h => absurd (hA0 a h) (Nat.not_le.mpr h9)), vx_Zqof (args := #[Value.ref b]) ?_ ?_ ?_ (fun a h9 h => absurd (hA0 a h) (Nat.not_le.mpr h9)), fun q hq => ?_, fun w hw => mw_n0 (th_cd w hw) ((List.mem_append.mp hw).elim (fun h => htt w (nw_in w h)) (fun h => hfl w (nn_in w h)))⟩
    · exact htt _ (List.mem_of_getElem? (i := 226) rfl)
    · exact hTB _ mb_41
    · exact hfl _ (mem_r [Jvm.Cond.isRef (Jvm.Term.static "java/lang/Throwable" "UNASSIGNED_STACK" "[Ljava/lang/StackTraceElement;")] [4] (by decide +kernel) _ List.mem_cons_self)
    · exact htt _ (List.mem_of_getElem? (i := 228) rfl)
    · exact hTB _ mb_41
    · exact hfl _ (mem_r [Jvm.Cond.isRef (Jvm.Term.static "java/lang/Throwable" "SUPPRESSED_SENTINEL" "Ljava/util/List;")] [5] (by decide +kernel) _ List.mem_cons_self)
    · have h1 := htt _ (sx_in _ (List.mem_map.mpr ⟨q, hq, rfl⟩))
      obtain ⟨-, -, -, sa, -, -, -, -, -, hev⟩ := Cond.stringRef_spec (cur := c3) (by rw [sx_own q hq]; exact K3.2.1) h1
      exact ⟨sa, vk_R.of h1 hev⟩
  have hC : th_C D cs h0 p m c code 7 s [.ref b] RL := ⟨⟨hx, hb, hml, hown, hTB⟩, ⟨hK, hT⟩, hst, th_cd⟩
  have hM : th_H D cs h0 s h0 s.heap [] := mw_A.start D vwC5 (fun a e h => by rw [g0] at h; cases h)
  have hl := lv_entry ([.ref b]) (n := 7) (Nat.le_of_ble_eq_true rfl)
  rw [lg_entry_eq]
  generalize (lg_sl ([.ref b]) ++ List.replicate (7 - (lg_sl ([.ref b])).length) Slot.unset).toArray = ls at hl ⊢
  have hl : lv_has ls 7 [(0, .ref b)] := hl
  refine nw_0 (index := 8) hC hM mb_50 mb_51 mb_36 (Nat.le_of_ble_eq_true rfl) (Nat.le_of_ble_eq_true rfl) dL_law_0 (fun x H hn_x hM => ?_)
  refine lv_dup hx hb dL_law_3 rfl ?_
  refine mw_callI (As := []) (rest := [.ref x]) (n := 0) hC hM (c_X3_init l hl9 D cs (th_un h0 x (0, 0)) H.size x (th_un_self _ _ _) (fun k => by simp [th_un, va_up]) (fun z t hz hn => by rw [th_un_ne hn, k0] at hz; cases hz)) (cwI 0 hC.1.2.2.2.2 (tb_I mb_54) rfl rfl rfl (hC.1.2.2.2.2 (.initialized RX3) mb_36) (hC.1.2.2.2.2 (.methodLink RL 65 yX3_init) mb_52) (hC.1.2.2.2.2 (.instanceMethod yX3_init) mb_53) rfl (by decide +kernel) ⟨Nat.le_of_ble_eq_true rfl, Nat.le_of_ble_eq_true rfl⟩) rfl rfl hl.1 (Nat.le_of_ble_eq_true rfl) dL_law_4 ⟨Nat.le_of_ble_eq_true rfl, Nat.le_of_ble_eq_true rfl⟩ (fun v9 g9 H locs hp9 hM => ?_)
  obtain ⟨w, rfl, hp9⟩ := hp9
  obtain ⟨rfl, hE⟩ := hp9
  refine W.widen (k := 41) (n := 411) (Nat.le_of_ble_eq_true rfl) (Nat.le_of_ble_eq_true rfl) ?_
  refine W.eq (g2 := F0 m 7 ls [.ref x]) rfl ?_
  refine lv_astore_n (lv' := [(1, .ref x), (0, .ref b)]) hx hb dL_law_7 rfl hl (by decide) rfl (fun ls hl => ?_)
  refine nw_10 (index := 66) hC hM mb_484 mb_485 mb_40 (Nat.le_of_ble_eq_true rfl) (Nat.le_of_ble_eq_true rfl) dL_law_8 (fun o H hn_o hM => ?_)
  refine lv_dup hx hb dL_law_11 rfl ?_
  refine mw_callI (As := []) (rest := [.ref o]) (n := 0) hC hM (c_X4_init l hl9 D cs (th_un w o (10, 0)) H.size o (th_un_self _ _ _)) (cwI 0 hC.1.2.2.2.2 (tb_I mb_488) rfl rfl rfl (hC.1.2.2.2.2 (.initialized RX4) mb_40) (hC.1.2.2.2.2 (.methodLink RL 68 yX4_init) mb_486) (hC.1.2.2.2.2 (.instanceMethod yX4_init) mb_487) rfl (by decide +kernel) ⟨Nat.le_of_ble_eq_true rfl, Nat.le_of_ble_eq_true rfl⟩) rfl rfl hl.1 (Nat.le_of_ble_eq_true rfl) dL_law_12 ⟨Nat.le_of_ble_eq_true rfl, Nat.le_of_ble_eq_true rfl⟩ (fun v9 g9 H locs hp9 hM => ?_)
  obtain ⟨U, rfl, hp9⟩ := hp9
  obtain ⟨rfl, A, hI⟩ := hp9
  refine W.widen (k := 56) (n := 1646) (Nat.le_of_ble_eq_true rfl) (Nat.le_of_ble_eq_true rfl) ?_
  refine W.eq (g2 := F0 m 15 ls [.ref o]) rfl ?_
  refine lv_astore_n (lv' := [(2, .ref o), (1, .ref x), (0, .ref b)]) hx hb dL_law_15 rfl hl (by decide) rfl (fun ls hl => ?_)
  refine lv_iconst (v := 1) hx hb dL_law_16 (by decide) ?_
  refine na_9 (n := 1) hC hM mb_682 (by first | rfl | decide) (by decide) (Nat.le_of_ble_eq_true rfl) (Nat.le_of_ble_eq_true rfl) dL_law_17 (fun ao H hn_ao hM => ?_)
  refine lv_astore_n (lv' := [(3, .ref ao), (2, .ref o), (1, .ref x), (0, .ref b)]) hx hb dL_law_19 rfl hl (by decide) rfl (fun ls hl => ?_)
  refine lv_iconst (v := 0) hx hb dL_law_20 (by decide) ?_
  refine lv_istore (lv' := [(4, .int 0), (3, .ref ao), (2, .ref o), (1, .ref x), (0, .ref b)]) hx hb dL_law_21 hl (by decide) rfl (fun ls hl => ?_)
  obtain ⟨aR, aO, aH, aT, rt, ta, hLI⟩ := LI.zero (k0 x) hE hn_o hI hn_ao
  refine W.widen (k := 100 + 8 * 0) (n := 5000 + 60 * 0) (Nat.le_of_ble_eq_true rfl) (Nat.le_of_ble_eq_true rfl) ?_
  exact law_loop hl9 hC hX hbl hbA hL hr hlk hA0 rfl (L + 1) 0 _ H _ ls (by omega) (by omega) hLI hM (lv_sub hl [4, 3, 2, 1, 0] rfl)

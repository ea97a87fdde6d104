/-! more rows over a map: arrays of booleans, of longs; new arrays of numbers -/
section MWQ
variable {p : Program} {l : Launch} {e : Env} {R : Room} {s : State} {m : MethodId} {args : Array Value} {below : List Frame} {meth : Method} {c : Code} {H : Heap} {locs : List Loc} {cells slots : Nat} {Q : State → Prop}
variable {cc : ByteArray} {pc nL : Nat} {ls : Array Slot} {rest : List Value} {D : va_G} {cl : List vw_C} {tys : List (ClassId × FieldType)} {sx : List (String × Nat × String)} {nw : List Cond} {A : Nat → Prop} {g : mw_G} {a : Nat} {Ts : List Cond} {own : String}
theorem mw_zast (hC : mx D cl tys sx nw A p m c cc nL s args Ts own) (hM : mw D cl A s.heap g H locs) (t0 : Nat) {cA : ClassId} {n : Nat} {f : Nat → Int32} (ha : g a = some (mw_ai cA n f)) (ht : tys[t0]? = some (cA, .boolean)) {i x : Int32} (hz : x = 0 ∨ x = 1) (hin : vp_in i n) (hdg : decode cc pc = .ok (.bastore, 1))
    (kk : ∀ (H1 : Heap) (locs1 : List Loc), mw D cl A s.heap (mw_up g a (mw_ai cA n (upd f i.toNatClampNeg x))) H1 locs1 → W p l e R s m args below meth c H1 locs1 cells slots Q (F0 m (pc + 1) ls rest)) : W p l e R s m args below meth c H locs cells slots Q (F0 m pc ls (.int x :: .int i :: .ref a :: rest)) := by
  refine W.zast hC.1.1 hC.1.2.1 (hM.1 _ _ ha) ((hC.2.1.2 t0 _ ht).1 n (fun j => .int (f j))) (fun q => by cases q) (by show ¬ (i < 0 ∨ (arrV _ _ _).slots.size ≤ _); rw [arrV_size]; exact hin) rfl rfl hdg fun H1 e z oq => ?_
  refine kk H1 _ (hM.put ha ?_ z oq)
  have hn : narrow .boolean (.int x) = .int x := by rcases hz with rfl | rfl <;> rfl
  show H1[a]? = some (vp_cell _ _)
  rw [e]
  rw [vp_cell_i, vp_cell_i, arrV_store]
  congr 2
  funext q
  by_cases hq : q = i.toNatClampNeg
  · subst hq
    simp [updV, upd, hn]
  · simp [updV, upd, hq]
theorem mw_newa (hC : mx D cl tys sx nw A p m c cc nL s args Ts own) (hM : mw D cl A s.heap g H locs) (t0 : Nat) {atype : ArrayType} {ty : FieldType} {cA : ClassId} (hty : newarray.typeOf atype = ty) (hw : Cond.arrayClass ty ∈ Ts) (hp : ∀ C, ty ≠ .object C) (ht : tys[t0]? = some (cA, ty)) {a0 : vp_A} {n : Int32} {N' : Nat} (ha : vp_cell cA a0 = arrV cA N' (fun _ => defaultValue ty)) (hn : ¬ n < 0) (hN : n.toNatClampNeg = N') (hbytes : N' * componentBytes ty ≤ 536870912) (hcells : cells + 1 ≤ R.cells) (hslots : slots + N' ≤ R.slots) (hdg : decode cc pc = .ok (.newarray atype, 2))
    (kk : ∀ (q : Nat) (H1 : Heap), g q = none → mw D cl A s.heap (mw_up g q (.inl (cA, a0))) H1 locs → W p l e R s m args below meth c H1 locs (cells + 1) (slots + N') Q (F0 m (pc + 2) ls (.ref q :: rest))) : W p l e R s m args below meth c H locs cells slots Q (F0 m pc ls (.int n :: rest)) := by
  obtain ⟨⟨hx, hb, -, hown, hts⟩, hK, -⟩ := hC
  subst hty
  refine va_newaK hx hb (hts _ hw) rfl hdg rfl hn hN hbytes hcells hslots rfl fun H1 cA' e1 z1 o1 hAr hNm => ?_
  have hcA : cA' = cA := by
    have h2 := (hK.2 t0 _ ht).2
    unfold va_RA at h2
    split at h2
    · rename_i C hC9
      exact absurd hC9 (hp C)
    · exact Option.some.inj (hNm.symm.trans h2)
  subst hcA
  refine kk H.size H1 hM.fresh (hM.new ?_ z1 o1)
  show H1[H.size]? = some (vp_cell _ _)
  rw [ha]
  exact e1
end MWQ
/-! the typed heap: kinds by address, ints and references by address and place -/
abbrev th_S : Type := (Nat → Option (Nat × Nat)) × (Nat → Nat → Int32) × (Nat → Nat → Option Nat)
def th_ui (h : th_S) (a k : Nat) (v : Int32) : th_S := (h.1, va_up h.2.1 a (va_up (h.2.1 a) k v), h.2.2)
def th_ur (h : th_S) (a k : Nat) (v : Option Nat) : th_S := (h.1, h.2.1, va_up h.2.2 a (va_up (h.2.2 a) k v))
def th_un (h : th_S) (q : Nat) (t : Nat × Nat) : th_S := (va_up h.1 q (some t), va_up h.2.1 q (fun _ => 0), va_up h.2.2 q (fun _ => none))
def th_cell (cs : Nat → ClassId) (t : Nat × Nat) (iv : Nat → Int32) (rv : Nat → Option Nat) : va_E := match t.1 with
  | 0 => .inr (3, [va_rf (rv 0), va_rf (rv 1), va_rf (rv 2), va_rf (rv 3), .int (iv 4), .int (iv 5), .int (iv 6), .int (iv 7), .int (iv 8), .int (iv 9), .int (iv 10)])
  | 1 => .inr (2, [.int (iv 0), .int (iv 1)])
  | 2 => .inr (0, [.int (iv 0), va_rf (rv 1), .int (iv 2), .int (iv 3)])
  | 3 => .inr (1, [.int (iv 0), .int (iv 1), va_rf (rv 2), .int (iv 3), .int (iv 4), .int (iv 5), va_rf (rv 6)])
  | 4 => mw_aq (cs 0) t.2 rv
  | 5 => mw_aq (cs 1) t.2 rv
  | 6 => mw_aq (cs 2) t.2 rv
  | 7 => mw_ai (cs 3) t.2 iv
  | 8 => mw_ai (cs 4) t.2 iv
  | 9 => mw_al (cs 5) t.2 (fun i => (iv i).toInt64)
  | 10 => .inr (4, [.int (iv 0), va_rf (rv 1), va_rf (rv 2), va_rf (rv 3), va_rf (rv 4), va_rf (rv 5), va_rf (rv 6), va_rf (rv 7), va_rf (rv 8), .int (iv 9), .int (iv 10), va_rf (rv 11), va_rf (rv 12), .int (iv 13), .int (iv 14), .int (iv 15), va_rf (rv 16), va_rf (rv 17), va_rf (rv 18), va_rf (rv 19), .int (iv 20)])
  | _ => mw_ai 0 0 iv
def th_g (cs : Nat → ClassId) (h : th_S) : mw_G := fun a => match h.1 a with
  | some t => some (th_cell cs t (h.2.1 a) (h.2.2 a))
  | none => none
theorem th_at {cs : Nat → ClassId} {h : th_S} {a : Nat} {t : Nat × Nat} (hk : h.1 a = some t) : th_g cs h a = some (th_cell cs t (h.2.1 a) (h.2.2 a)) := by simp [th_g, hk]
theorem th_none {cs : Nat → ClassId} {h : th_S} {a : Nat} (hk : th_g cs h a = none) : h.1 a = none := by
  cases hq : h.1 a with
  | none => rfl
  | some t => rw [th_at hq] at hk; cases hk
theorem th_some {cs : Nat → ClassId} {h : th_S} {a : Nat} {e : va_E} (hk : th_g cs h a = some e) : ∃ t, h.1 a = some t := by
  cases hq : h.1 a with
  | none => simp [th_g, hq] at hk
  | some t => exact ⟨t, rfl⟩
theorem th_upi {cs : Nat → ClassId} {h : th_S} {a k : Nat} {v : Int32} {t : Nat × Nat} (hk : h.1 a = some t) : mw_up (th_g cs h) a (th_cell cs t (va_up (h.2.1 a) k v) (h.2.2 a)) = th_g cs (th_ui h a k v) := by
  funext b
  by_cases hb : b = a
  · subst hb
    simp [mw_up, th_g, th_ui, hk, va_up]
  · simp [mw_up, th_g, th_ui, va_up, hb]
theorem th_upr {cs : Nat → ClassId} {h : th_S} {a k : Nat} {v : Option Nat} {t : Nat × Nat} (hk : h.1 a = some t) : mw_up (th_g cs h) a (th_cell cs t (h.2.1 a) (va_up (h.2.2 a) k v)) = th_g cs (th_ur h a k v) := by
  funext b
  by_cases hb : b = a
  · subst hb
    simp [mw_up, th_g, th_ur, hk, va_up]
  · simp [mw_up, th_g, th_ur, va_up, hb]
theorem th_upn {cs : Nat → ClassId} {h : th_S} {q : Nat} {t : Nat × Nat} : mw_up (th_g cs h) q (th_cell cs t (fun _ => 0) (fun _ => none)) = th_g cs (th_un h q t) := by
  funext b
  by_cases hb : b = q
  · subst hb
    simp [mw_up, th_g, th_un, va_up]
  · simp [mw_up, th_g, th_un, va_up, hb]
theorem th_nb {v : Int32} (h : v = 0 ∨ v = 1) : narrow .boolean (.int v) = .int v := by rcases h with rfl | rfl <;> rfl
theorem th_fb {v : Int32} (h : v = 0 ∨ v = 1) : fits .boolean (.int v) = true := by rcases h with rfl | rfl <;> rfl
theorem th_no (n : String) (r : Option Nat) : narrow (.object n) (va_rf r) = va_rf r := by cases r <;> rfl
theorem th_fo (n : String) (r : Option Nat) : fits (.object n) (va_rf r) = true := by cases r <;> rfl
theorem th_na (t : FieldType) (r : Option Nat) : narrow (.array t) (va_rf r) = va_rf r := by cases r <;> rfl
theorem th_fa (t : FieldType) (r : Option Nat) : fits (.array t) (va_rf r) = true := by cases r <;> rfl
section THR
variable {p : Program} {l : Launch} {e : Env} {R : Room} {s : State} {m : MethodId} {args : Array Value} {below : List Frame} {meth : Method} {c : Code} {H : Heap} {locs : List Loc} {cells slots : Nat} {Q : State → Prop}
variable {cc : ByteArray} {pc nL : Nat} {ls : Array Slot} {rest : List Value} {D : va_G} {A : Nat → Prop} {h : th_S} {cs : Nat → ClassId} {a index : Nat} {own : String}
theorem gr_0_0 (hC : mx D vwC5 (th_tys cs) th_sx th_nw A p m c cc nL s args TB own) (hM : mw D vwC5 A s.heap (th_g cs h) H locs) (ha : h.1 a = some (0, 0)) (hlk : Cond.fieldLink own index RX3 "roots" "[LStableHeap$Lockable;" ∈ TB) (hdg : decode cc pc = .ok (.getfield index, 3)) {r : Option Nat} (hr : h.2.2 a 0 = r)
    (kk : W p l e R s m args below meth c H locs cells slots Q (F0 m (pc + 3) ls (va_rf r :: rest))) : W p l e R s m args below meth c H locs cells slots Q (F0 m pc ls (.ref a :: rest)) := by
  subst hr
  exact mw_get hC hM (ci := 3) (k := 0) (fs := [va_rf (h.2.2 a 0), va_rf (h.2.2 a 1), va_rf (h.2.2 a 2), va_rf (h.2.2 a 3), .int (h.2.1 a 4), .int (h.2.1 a 5), .int (h.2.1 a 6), .int (h.2.1 a 7), .int (h.2.1 a 8), .int (h.2.1 a 9), .int (h.2.1 a 10)]) (C := RX3) (T := TX3) (N := 11) (th_at ha) ⟨in_X3, rfl, by decide, hlk, rfl⟩ rfl hdg kk
theorem pu_0_0 (hC : mx D vwC5 (th_tys cs) th_sx th_nw A p m c cc nL s args TB own) (hM : mw D vwC5 A s.heap (th_g cs h) H locs) (ha : h.1 a = some (0, 0)) (hlk : Cond.fieldLink own index RX3 "roots" "[LStableHeap$Lockable;" ∈ TB) (hin2 : meth.name = "<init>") (hdecl : RX3 = own) {v : Option Nat} (hdg : decode cc pc = .ok (.putfield index, 3))
    (kk : ∀ (H : Heap) (locs : List Loc), mw D vwC5 A s.heap (th_g cs (th_ur h a 0 v)) H locs → W p l e R s m args below meth c H locs cells slots Q (F0 m (pc + 3) ls rest)) : W p l e R s m args below meth c H locs cells slots Q (F0 m pc ls (va_rf v :: .ref a :: rest)) := by
  refine mw_putF hC hM (ci := 3) (k := 0) (fs := [va_rf (h.2.2 a 0), va_rf (h.2.2 a 1), va_rf (h.2.2 a 2), va_rf (h.2.2 a 3), .int (h.2.1 a 4), .int (h.2.1 a 5), .int (h.2.1 a 6), .int (h.2.1 a 7), .int (h.2.1 a 8), .int (h.2.1 a 9), .int (h.2.1 a 10)]) (C := RX3) (T := TX3) (N := 11) (ty0 := tyX3) (ty := .array (.object "StableHeap$Lockable")) (th_at ha) ⟨in_X3, rfl, by decide, hlk, rfl⟩ ⟨ok_X3, nm_X3, by decide +kernel⟩ rfl hin2 hdecl (th_na _ _) (th_fa _ _) (Nat.le_of_ble_eq_true rfl) hdg (fun H1 locs1 hM1 => kk H1 locs1 ?_)
  rw [← th_upr (k := 0) (v := v) ha]
  exact hM1
theorem gr_0_1 (hC : mx D vwC5 (th_tys cs) th_sx th_nw A p m c cc nL s args TB own) (hM : mw D vwC5 A s.heap (th_g cs h) H locs) (ha : h.1 a = some (0, 0)) (hlk : Cond.fieldLink own index RX3 "objects" "[LStableHeap$Lockable;" ∈ TB) (hdg : decode cc pc = .ok (.getfield index, 3)) {r : Option Nat} (hr : h.2.2 a 1 = r)
    (kk : W p l e R s m args below meth c H locs cells slots Q (F0 m (pc + 3) ls (va_rf r :: rest))) : W p l e R s m args below meth c H locs cells slots Q (F0 m pc ls (.ref a :: rest)) := by
  subst hr
  exact mw_get hC hM (ci := 3) (k := 1) (fs := [va_rf (h.2.2 a 0), va_rf (h.2.2 a 1), va_rf (h.2.2 a 2), va_rf (h.2.2 a 3), .int (h.2.1 a 4), .int (h.2.1 a 5), .int (h.2.1 a 6), .int (h.2.1 a 7), .int (h.2.1 a 8), .int (h.2.1 a 9), .int (h.2.1 a 10)]) (C := RX3) (T := TX3) (N := 11) (th_at ha) ⟨in_X3, rfl, by decide, hlk, rfl⟩ rfl hdg kk
theorem pu_0_1 (hC : mx D vwC5 (th_tys cs) th_sx th_nw A p m c cc nL s args TB own) (hM : mw D vwC5 A s.heap (th_g cs h) H locs) (ha : h.1 a = some (0, 0)) (hlk : Cond.fieldLink own index RX3 "objects" "[LStableHeap$Lockable;" ∈ TB) (hin2 : meth.name = "<init>") (hdecl : RX3 = own) {v : Option Nat} (hdg : decode cc pc = .ok (.putfield index, 3))
    (kk : ∀ (H : Heap) (locs : List Loc), mw D vwC5 A s.heap (th_g cs (th_ur h a 1 v)) H locs → W p l e R s m args below meth c H locs cells slots Q (F0 m (pc + 3) ls rest)) : W p l e R s m args below meth c H locs cells slots Q (F0 m pc ls (va_rf v :: .ref a :: rest)) := by
  refine mw_putF hC hM (ci := 3) (k := 1) (fs := [va_rf (h.2.2 a 0), va_rf (h.2.2 a 1), va_rf (h.2.2 a 2), va_rf (h.2.2 a 3), .int (h.2.1 a 4), .int (h.2.1 a 5), .int (h.2.1 a 6), .int (h.2.1 a 7), .int (h.2.1 a 8), .int (h.2.1 a 9), .int (h.2.1 a 10)]) (C := RX3) (T := TX3) (N := 11) (ty0 := tyX3) (ty := .array (.object "StableHeap$Lockable")) (th_at ha) ⟨in_X3, rfl, by decide, hlk, rfl⟩ ⟨ok_X3, nm_X3, by decide +kernel⟩ rfl hin2 hdecl (th_na _ _) (th_fa _ _) (Nat.le_of_ble_eq_true rfl) hdg (fun H1 locs1 hM1 => kk H1 locs1 ?_)
  rw [← th_upr (k := 1) (v := v) ha]
  exact hM1
theorem gr_0_2 (hC : mx D vwC5 (th_tys cs) th_sx th_nw A p m c cc nL s args TB own) (hM : mw D vwC5 A s.heap (th_g cs h) H locs) (ha : h.1 a = some (0, 0)) (hlk : Cond.fieldLink own index RX3 "held" "[LStableHeap$Lockable;" ∈ TB) (hdg : decode cc pc = .ok (.getfield index, 3)) {r : Option Nat} (hr : h.2.2 a 2 = r)
    (kk : W p l e R s m args below meth c H locs cells slots Q (F0 m (pc + 3) ls (va_rf r :: rest))) : W p l e R s m args below meth c H locs cells slots Q (F0 m pc ls (.ref a :: rest)) := by
  subst hr
  exact mw_get hC hM (ci := 3) (k := 2) (fs := [va_rf (h.2.2 a 0), va_rf (h.2.2 a 1), va_rf (h.2.2 a 2), va_rf (h.2.2 a 3), .int (h.2.1 a 4), .int (h.2.1 a 5), .int (h.2.1 a 6), .int (h.2.1 a 7), .int (h.2.1 a 8), .int (h.2.1 a 9), .int (h.2.1 a 10)]) (C := RX3) (T := TX3) (N := 11) (th_at ha) ⟨in_X3, rfl, by decide, hlk, rfl⟩ rfl hdg kk
theorem pu_0_2 (hC : mx D vwC5 (th_tys cs) th_sx th_nw A p m c cc nL s args TB own) (hM : mw D vwC5 A s.heap (th_g cs h) H locs) (ha : h.1 a = some (0, 0)) (hlk : Cond.fieldLink own index RX3 "held" "[LStableHeap$Lockable;" ∈ TB) (hin2 : meth.name = "<init>") (hdecl : RX3 = own) {v : Option Nat} (hdg : decode cc pc = .ok (.putfield index, 3))
    (kk : ∀ (H : Heap) (locs : List Loc), mw D vwC5 A s.heap (th_g cs (th_ur h a 2 v)) H locs → W p l e R s m args below meth c H locs cells slots Q (F0 m (pc + 3) ls rest)) : W p l e R s m args below meth c H locs cells slots Q (F0 m pc ls (va_rf v :: .ref a :: rest)) := by
  refine mw_putF hC hM (ci := 3) (k := 2) (fs := [va_rf (h.2.2 a 0), va_rf (h.2.2 a 1), va_rf (h.2.2 a 2), va_rf (h.2.2 a 3), .int (h.2.1 a 4), .int (h.2.1 a 5), .int (h.2.1 a 6), .int (h.2.1 a 7), .int (h.2.1 a 8), .int (h.2.1 a 9), .int (h.2.1 a 10)]) (C := RX3) (T := TX3) (N := 11) (ty0 := tyX3) (ty := .array (.object "StableHeap$Lockable")) (th_at ha) ⟨in_X3, rfl, by decide, hlk, rfl⟩ ⟨ok_X3, nm_X3, by decide +kernel⟩ rfl hin2 hdecl (th_na _ _) (th_fa _ _) (Nat.le_of_ble_eq_true rfl) hdg (fun H1 locs1 hM1 => kk H1 locs1 ?_)
  rw [← th_upr (k := 2) (v := v) ha]
  exact hM1
theorem gr_0_3 (hC : mx D vwC5 (th_tys cs) th_sx th_nw A p m c cc nL s args TB own) (hM : mw D vwC5 A s.heap (th_g cs h) H locs) (ha : h.1 a = some (0, 0)) (hlk : Cond.fieldLink own index RX3 "transactions" "[LStableHeap$Transaction;" ∈ TB) (hdg : decode cc pc = .ok (.getfield index, 3)) {r : Option Nat} (hr : h.2.2 a 3 = r)
    (kk : W p l e R s m args below meth c H locs cells slots Q (F0 m (pc + 3) ls (va_rf r :: rest))) : W p l e R s m args below meth c H locs cells slots Q (F0 m pc ls (.ref a :: rest)) := by
  subst hr
  exact mw_get hC hM (ci := 3) (k := 3) (fs := [va_rf (h.2.2 a 0), va_rf (h.2.2 a 1), va_rf (h.2.2 a 2), va_rf (h.2.2 a 3), .int (h.2.1 a 4), .int (h.2.1 a 5), .int (h.2.1 a 6), .int (h.2.1 a 7), .int (h.2.1 a 8), .int (h.2.1 a 9), .int (h.2.1 a 10)]) (C := RX3) (T := TX3) (N := 11) (th_at ha) ⟨in_X3, rfl, by decide, hlk, rfl⟩ rfl hdg kk
theorem pu_0_3 (hC : mx D vwC5 (th_tys cs) th_sx th_nw A p m c cc nL s args TB own) (hM : mw D vwC5 A s.heap (th_g cs h) H locs) (ha : h.1 a = some (0, 0)) (hlk : Cond.fieldLink own index RX3 "transactions" "[LStableHeap$Transaction;" ∈ TB) (hin2 : meth.name = "<init>") (hdecl : RX3 = own) {v : Option Nat} (hdg : decode cc pc = .ok (.putfield index, 3))
    (kk : ∀ (H : Heap) (locs : List Loc), mw D vwC5 A s.heap (th_g cs (th_ur h a 3 v)) H locs → W p l e R s m args below meth c H locs cells slots Q (F0 m (pc + 3) ls rest)) : W p l e R s m args below meth c H locs cells slots Q (F0 m pc ls (va_rf v :: .ref a :: rest)) := by
  refine mw_putF hC hM (ci := 3) (k := 3) (fs := [va_rf (h.2.2 a 0), va_rf (h.2.2 a 1), va_rf (h.2.2 a 2), va_rf (h.2.2 a 3), .int (h.2.1 a 4), .int (h.2.1 a 5), .int (h.2.1 a 6), .int (h.2.1 a 7), .int (h.2.1 a 8), .int (h.2.1 a 9), .int (h.2.1 a 10)]) (C := RX3) (T := TX3) (N := 11) (ty0 := tyX3) (ty := .array (.object "StableHeap$Transaction")) (th_at ha) ⟨in_X3, rfl, by decide, hlk, rfl⟩ ⟨ok_X3, nm_X3, by decide +kernel⟩ rfl hin2 hdecl (th_na _ _) (th_fa _ _) (Nat.le_of_ble_eq_true rfl) hdg (fun H1 locs1 hM1 => kk H1 locs1 ?_)
  rw [← th_upr (k := 3) (v := v) ha]
  exact hM1
theorem gi_0_4 (hC : mx D vwC5 (th_tys cs) th_sx th_nw A p m c cc nL s args TB own) (hM : mw D vwC5 A s.heap (th_g cs h) H locs) (ha : h.1 a = some (0, 0)) (hlk : Cond.fieldLink own index RX3 "objectsThere" "I" ∈ TB) (hdg : decode cc pc = .ok (.getfield index, 3))
    (kk : W p l e R s m args below meth c H locs cells slots Q (F0 m (pc + 3) ls (.int (h.2.1 a 4) :: rest))) : W p l e R s m args below meth c H locs cells slots Q (F0 m pc ls (.ref a :: rest)) :=
  mw_get hC hM (ci := 3) (k := 4) (fs := [va_rf (h.2.2 a 0), va_rf (h.2.2 a 1), va_rf (h.2.2 a 2), va_rf (h.2.2 a 3), .int (h.2.1 a 4), .int (h.2.1 a 5), .int (h.2.1 a 6), .int (h.2.1 a 7), .int (h.2.1 a 8), .int (h.2.1 a 9), .int (h.2.1 a 10)]) (C := RX3) (T := TX3) (N := 11) (th_at ha) ⟨in_X3, rfl, by decide, hlk, rfl⟩ rfl hdg kk
theorem pu_0_4 (hC : mx D vwC5 (th_tys cs) th_sx th_nw A p m c cc nL s args TB own) (hM : mw D vwC5 A s.heap (th_g cs h) H locs) (ha : h.1 a = some (0, 0)) (hlk : Cond.fieldLink own index RX3 "objectsThere" "I" ∈ TB) {v : Int32} (hdg : decode cc pc = .ok (.putfield index, 3))
    (kk : ∀ (H : Heap) (locs : List Loc), mw D vwC5 A s.heap (th_g cs (th_ui h a 4 v)) H locs → W p l e R s m args below meth c H locs cells slots Q (F0 m (pc + 3) ls rest)) : W p l e R s m args below meth c H locs cells slots Q (F0 m pc ls (.int v :: .ref a :: rest)) := by
  refine mw_put hC hM (ci := 3) (k := 4) (fs := [va_rf (h.2.2 a 0), va_rf (h.2.2 a 1), va_rf (h.2.2 a 2), va_rf (h.2.2 a 3), .int (h.2.1 a 4), .int (h.2.1 a 5), .int (h.2.1 a 6), .int (h.2.1 a 7), .int (h.2.1 a 8), .int (h.2.1 a 9), .int (h.2.1 a 10)]) (C := RX3) (T := TX3) (N := 11) (ty0 := tyX3) (ty := .int) (th_at ha) ⟨in_X3, rfl, by decide, hlk, rfl⟩ ⟨ok_X3, nm_X3, by decide +kernel⟩ rfl rfl rfl (Nat.le_of_ble_eq_true rfl) hdg (fun H1 locs1 hM1 => kk H1 locs1 ?_)
  rw [← th_upi (k := 4) (v := v) ha]
  exact hM1
theorem gi_0_5 (hC : mx D vwC5 (th_tys cs) th_sx th_nw A p m c cc nL s args TB own) (hM : mw D vwC5 A s.heap (th_g cs h) H locs) (ha : h.1 a = some (0, 0)) (hlk : Cond.fieldLink own index RX3 "objectsHeld" "I" ∈ TB) (hdg : decode cc pc = .ok (.getfield index, 3))
    (kk : W p l e R s m args below meth c H locs cells slots Q (F0 m (pc + 3) ls (.int (h.2.1 a 5) :: rest))) : W p l e R s m args below meth c H locs cells slots Q (F0 m pc ls (.ref a :: rest)) :=
  mw_get hC hM (ci := 3) (k := 5) (fs := [va_rf (h.2.2 a 0), va_rf (h.2.2 a 1), va_rf (h.2.2 a 2), va_rf (h.2.2 a 3), .int (h.2.1 a 4), .int (h.2.1 a 5), .int (h.2.1 a 6), .int (h.2.1 a 7), .int (h.2.1 a 8), .int (h.2.1 a 9), .int (h.2.1 a 10)]) (C := RX3) (T := TX3) (N := 11) (th_at ha) ⟨in_X3, rfl, by decide, hlk, rfl⟩ rfl hdg kk
theorem pu_0_5 (hC : mx D vwC5 (th_tys cs) th_sx th_nw A p m c cc nL s args TB own) (hM : mw D vwC5 A s.heap (th_g cs h) H locs) (ha : h.1 a = some (0, 0)) (hlk : Cond.fieldLink own index RX3 "objectsHeld" "I" ∈ TB) {v : Int32} (hdg : decode cc pc = .ok (.putfield index, 3))
    (kk : ∀ (H : Heap) (locs : List Loc), mw D vwC5 A s.heap (th_g cs (th_ui h a 5 v)) H locs → W p l e R s m args below meth c H locs cells slots Q (F0 m (pc + 3) ls rest)) : W p l e R s m args below meth c H locs cells slots Q (F0 m pc ls (.int v :: .ref a :: rest)) := by
  refine mw_put hC hM (ci := 3) (k := 5) (fs := [va_rf (h.2.2 a 0), va_rf (h.2.2 a 1), va_rf (h.2.2 a 2), va_rf (h.2.2 a 3), .int (h.2.1 a 4), .int (h.2.1 a 5), .int (h.2.1 a 6), .int (h.2.1 a 7), .int (h.2.1 a 8), .int (h.2.1 a 9), .int (h.2.1 a 10)]) (C := RX3) (T := TX3) (N := 11) (ty0 := tyX3) (ty := .int) (th_at ha) ⟨in_X3, rfl, by decide, hlk, rfl⟩ ⟨ok_X3, nm_X3, by decide +kernel⟩ rfl rfl rfl (Nat.le_of_ble_eq_true rfl) hdg (fun H1 locs1 hM1 => kk H1 locs1 ?_)
  rw [← th_upi (k := 5) (v := v) ha]
  exact hM1
theorem gi_0_6 (hC : mx D vwC5 (th_tys cs) th_sx th_nw A p m c cc nL s args TB own) (hM : mw D vwC5 A s.heap (th_g cs h) H locs) (ha : h.1 a = some (0, 0)) (hlk : Cond.fieldLink own index RX3 "handlesGiven" "I" ∈ TB) (hdg : decode cc pc = .ok (.getfield index, 3))
    (kk : W p l e R s m args below meth c H locs cells slots Q (F0 m (pc + 3) ls (.int (h.2.1 a 6) :: rest))) : W p l e R s m args below meth c H locs cells slots Q (F0 m pc ls (.ref a :: rest)) :=
  mw_get hC hM (ci := 3) (k := 6) (fs := [va_rf (h.2.2 a 0), va_rf (h.2.2 a 1), va_rf (h.2.2 a 2), va_rf (h.2.2 a 3), .int (h.2.1 a 4), .int (h.2.1 a 5), .int (h.2.1 a 6), .int (h.2.1 a 7), .int (h.2.1 a 8), .int (h.2.1 a 9), .int (h.2.1 a 10)]) (C := RX3) (T := TX3) (N := 11) (th_at ha) ⟨in_X3, rfl, by decide, hlk, rfl⟩ rfl hdg kk
theorem pu_0_6 (hC : mx D vwC5 (th_tys cs) th_sx th_nw A p m c cc nL s args TB own) (hM : mw D vwC5 A s.heap (th_g cs h) H locs) (ha : h.1 a = some (0, 0)) (hlk : Cond.fieldLink own index RX3 "handlesGiven" "I" ∈ TB) {v : Int32} (hdg : decode cc pc = .ok (.putfield index, 3))
    (kk : ∀ (H : Heap) (locs : List Loc), mw D vwC5 A s.heap (th_g cs (th_ui h a 6 v)) H locs → W p l e R s m args below meth c H locs cells slots Q (F0 m (pc + 3) ls rest)) : W p l e R s m args below meth c H locs cells slots Q (F0 m pc ls (.int v :: .ref a :: rest)) := by
  refine mw_put hC hM (ci := 3) (k := 6) (fs := [va_rf (h.2.2 a 0), va_rf (h.2.2 a 1), va_rf (h.2.2 a 2), va_rf (h.2.2 a 3), .int (h.2.1 a 4), .int (h.2.1 a 5), .int (h.2.1 a 6), .int (h.2.1 a 7), .int (h.2.1 a 8), .int (h.2.1 a 9), .int (h.2.1 a 10)]) (C := RX3) (T := TX3) (N := 11) (ty0 := tyX3) (ty := .int) (th_at ha) ⟨in_X3, rfl, by decide, hlk, rfl⟩ ⟨ok_X3, nm_X3, by decide +kernel⟩ rfl rfl rfl (Nat.le_of_ble_eq_true rfl) hdg (fun H1 locs1 hM1 => kk H1 locs1 ?_)
  rw [← th_upi (k := 6) (v := v) ha]
  exact hM1
theorem gi_0_7 (hC : mx D vwC5 (th_tys cs) th_sx th_nw A p m c cc nL s args TB own) (hM : mw D vwC5 A s.heap (th_g cs h) H locs) (ha : h.1 a = some (0, 0)) (hlk : Cond.fieldLink own index RX3 "wordsUsed" "I" ∈ TB) (hdg : decode cc pc = .ok (.getfield index, 3))
    (kk : W p l e R s m args below meth c H locs cells slots Q (F0 m (pc + 3) ls (.int (h.2.1 a 7) :: rest))) : W p l e R s m args below meth c H locs cells slots Q (F0 m pc ls (.ref a :: rest)) :=
  mw_get hC hM (ci := 3) (k := 7) (fs := [va_rf (h.2.2 a 0), va_rf (h.2.2 a 1), va_rf (h.2.2 a 2), va_rf (h.2.2 a 3), .int (h.2.1 a 4), .int (h.2.1 a 5), .int (h.2.1 a 6), .int (h.2.1 a 7), .int (h.2.1 a 8), .int (h.2.1 a 9), .int (h.2.1 a 10)]) (C := RX3) (T := TX3) (N := 11) (th_at ha) ⟨in_X3, rfl, by decide, hlk, rfl⟩ rfl hdg kk
theorem pu_0_7 (hC : mx D vwC5 (th_tys cs) th_sx th_nw A p m c cc nL s args TB own) (hM : mw D vwC5 A s.heap (th_g cs h) H locs) (ha : h.1 a = some (0, 0)) (hlk : Cond.fieldLink own index RX3 "wordsUsed" "I" ∈ TB) {v : Int32} (hdg : decode cc pc = .ok (.putfield index, 3))
    (kk : ∀ (H : Heap) (locs : List Loc), mw D vwC5 A s.heap (th_g cs (th_ui h a 7 v)) H locs → W p l e R s m args below meth c H locs cells slots Q (F0 m (pc + 3) ls rest)) : W p l e R s m args below meth c H locs cells slots Q (F0 m pc ls (.int v :: .ref a :: rest)) := by
  refine mw_put hC hM (ci := 3) (k := 7) (fs := [va_rf (h.2.2 a 0), va_rf (h.2.2 a 1), va_rf (h.2.2 a 2), va_rf (h.2.2 a 3), .int (h.2.1 a 4), .int (h.2.1 a 5), .int (h.2.1 a 6), .int (h.2.1 a 7), .int (h.2.1 a 8), .int (h.2.1 a 9), .int (h.2.1 a 10)]) (C := RX3) (T := TX3) (N := 11) (ty0 := tyX3) (ty := .int) (th_at ha) ⟨in_X3, rfl, by decide, hlk, rfl⟩ ⟨ok_X3, nm_X3, by decide +kernel⟩ rfl rfl rfl (Nat.le_of_ble_eq_true rfl) hdg (fun H1 locs1 hM1 => kk H1 locs1 ?_)
  rw [← th_upi (k := 7) (v := v) ha]
  exact hM1
theorem gi_0_8 (hC : mx D vwC5 (th_tys cs) th_sx th_nw A p m c cc nL s args TB own) (hM : mw D vwC5 A s.heap (th_g cs h) H locs) (ha : h.1 a = some (0, 0)) (hlk : Cond.fieldLink own index RX3 "wordsOfEnded" "I" ∈ TB) (hdg : decode cc pc = .ok (.getfield index, 3))
    (kk : W p l e R s m args below meth c H locs cells slots Q (F0 m (pc + 3) ls (.int (h.2.1 a 8) :: rest))) : W p l e R s m args below meth c H locs cells slots Q (F0 m pc ls (.ref a :: rest)) :=
  mw_get hC hM (ci := 3) (k := 8) (fs := [va_rf (h.2.2 a 0), va_rf (h.2.2 a 1), va_rf (h.2.2 a 2), va_rf (h.2.2 a 3), .int (h.2.1 a 4), .int (h.2.1 a 5), .int (h.2.1 a 6), .int (h.2.1 a 7), .int (h.2.1 a 8), .int (h.2.1 a 9), .int (h.2.1 a 10)]) (C := RX3) (T := TX3) (N := 11) (th_at ha) ⟨in_X3, rfl, by decide, hlk, rfl⟩ rfl hdg kk
theorem pu_0_8 (hC : mx D vwC5 (th_tys cs) th_sx th_nw A p m c cc nL s args TB own) (hM : mw D vwC5 A s.heap (th_g cs h) H locs) (ha : h.1 a = some (0, 0)) (hlk : Cond.fieldLink own index RX3 "wordsOfEnded" "I" ∈ TB) {v : Int32} (hdg : decode cc pc = .ok (.putfield index, 3))
    (kk : ∀ (H : Heap) (locs : List Loc), mw D vwC5 A s.heap (th_g cs (th_ui h a 8 v)) H locs → W p l e R s m args below meth c H locs cells slots Q (F0 m (pc + 3) ls rest)) : W p l e R s m args below meth c H locs cells slots Q (F0 m pc ls (.int v :: .ref a :: rest)) := by
  refine mw_put hC hM (ci := 3) (k := 8) (fs := [va_rf (h.2.2 a 0), va_rf (h.2.2 a 1), va_rf (h.2.2 a 2), va_rf (h.2.2 a 3), .int (h.2.1 a 4), .int (h.2.1 a 5), .int (h.2.1 a 6), .int (h.2.1 a 7), .int (h.2.1 a 8), .int (h.2.1 a 9), .int (h.2.1 a 10)]) (C := RX3) (T := TX3) (N := 11) (ty0 := tyX3) (ty := .int) (th_at ha) ⟨in_X3, rfl, by decide, hlk, rfl⟩ ⟨ok_X3, nm_X3, by decide +kernel⟩ rfl rfl rfl (Nat.le_of_ble_eq_true rfl) hdg (fun H1 locs1 hM1 => kk H1 locs1 ?_)
  rw [← th_upi (k := 8) (v := v) ha]
  exact hM1
theorem gi_0_9 (hC : mx D vwC5 (th_tys cs) th_sx th_nw A p m c cc nL s args TB own) (hM : mw D vwC5 A s.heap (th_g cs h) H locs) (ha : h.1 a = some (0, 0)) (hlk : Cond.fieldLink own index RX3 "transactionsBegun" "I" ∈ TB) (hdg : decode cc pc = .ok (.getfield index, 3))
    (kk : W p l e R s m args below meth c H locs cells slots Q (F0 m (pc + 3) ls (.int (h.2.1 a 9) :: rest))) : W p l e R s m args below meth c H locs cells slots Q (F0 m pc ls (.ref a :: rest)) :=
  mw_get hC hM (ci := 3) (k := 9) (fs := [va_rf (h.2.2 a 0), va_rf (h.2.2 a 1), va_rf (h.2.2 a 2), va_rf (h.2.2 a 3), .int (h.2.1 a 4), .int (h.2.1 a 5), .int (h.2.1 a 6), .int (h.2.1 a 7), .int (h.2.1 a 8), .int (h.2.1 a 9), .int (h.2.1 a 10)]) (C := RX3) (T := TX3) (N := 11) (th_at ha) ⟨in_X3, rfl, by decide, hlk, rfl⟩ rfl hdg kk
theorem pu_0_9 (hC : mx D vwC5 (th_tys cs) th_sx th_nw A p m c cc nL s args TB own) (hM : mw D vwC5 A s.heap (th_g cs h) H locs) (ha : h.1 a = some (0, 0)) (hlk : Cond.fieldLink own index RX3 "transactionsBegun" "I" ∈ TB) {v : Int32} (hdg : decode cc pc = .ok (.putfield index, 3))
    (kk : ∀ (H : Heap) (locs : List Loc), mw D vwC5 A s.heap (th_g cs (th_ui h a 9 v)) H locs → W p l e R s m args below meth c H locs cells slots Q (F0 m (pc + 3) ls rest)) : W p l e R s m args below meth c H locs cells slots Q (F0 m pc ls (.int v :: .ref a :: rest)) := by
  refine mw_put hC hM (ci := 3) (k := 9) (fs := [va_rf (h.2.2 a 0), va_rf (h.2.2 a 1), va_rf (h.2.2 a 2), va_rf (h.2.2 a 3), .int (h.2.1 a 4), .int (h.2.1 a 5), .int (h.2.1 a 6), .int (h.2.1 a 7), .int (h.2.1 a 8), .int (h.2.1 a 9), .int (h.2.1 a 10)]) (C := RX3) (T := TX3) (N := 11) (ty0 := tyX3) (ty := .int) (th_at ha) ⟨in_X3, rfl, by decide, hlk, rfl⟩ ⟨ok_X3, nm_X3, by decide +kernel⟩ rfl rfl rfl (Nat.le_of_ble_eq_true rfl) hdg (fun H1 locs1 hM1 => kk H1 locs1 ?_)
  rw [← th_upi (k := 9) (v := v) ha]
  exact hM1
theorem gi_0_10 (hC : mx D vwC5 (th_tys cs) th_sx th_nw A p m c cc nL s args TB own) (hM : mw D vwC5 A s.heap (th_g cs h) H locs) (ha : h.1 a = some (0, 0)) (hlk : Cond.fieldLink own index RX3 "flips" "I" ∈ TB) (hdg : decode cc pc = .ok (.getfield index, 3))
    (kk : W p l e R s m args below meth c H locs cells slots Q (F0 m (pc + 3) ls (.int (h.2.1 a 10) :: rest))) : W p l e R s m args below meth c H locs cells slots Q (F0 m pc ls (.ref a :: rest)) :=
  mw_get hC hM (ci := 3) (k := 10) (fs := [va_rf (h.2.2 a 0), va_rf (h.2.2 a 1), va_rf (h.2.2 a 2), va_rf (h.2.2 a 3), .int (h.2.1 a 4), .int (h.2.1 a 5), .int (h.2.1 a 6), .int (h.2.1 a 7), .int (h.2.1 a 8), .int (h.2.1 a 9), .int (h.2.1 a 10)]) (C := RX3) (T := TX3) (N := 11) (th_at ha) ⟨in_X3, rfl, by decide, hlk, rfl⟩ rfl hdg kk
theorem pu_0_10 (hC : mx D vwC5 (th_tys cs) th_sx th_nw A p m c cc nL s args TB own) (hM : mw D vwC5 A s.heap (th_g cs h) H locs) (ha : h.1 a = some (0, 0)) (hlk : Cond.fieldLink own index RX3 "flips" "I" ∈ TB) {v : Int32} (hdg : decode cc pc = .ok (.putfield index, 3))
    (kk : ∀ (H : Heap) (locs : List Loc), mw D vwC5 A s.heap (th_g cs (th_ui h a 10 v)) H locs → W p l e R s m args below meth c H locs cells slots Q (F0 m (pc + 3) ls rest)) : W p l e R s m args below meth c H locs cells slots Q (F0 m pc ls (.int v :: .ref a :: rest)) := by
  refine mw_put hC hM (ci := 3) (k := 10) (fs := [va_rf (h.2.2 a 0), va_rf (h.2.2 a 1), va_rf (h.2.2 a 2), va_rf (h.2.2 a 3), .int (h.2.1 a 4), .int (h.2.1 a 5), .int (h.2.1 a 6), .int (h.2.1 a 7), .int (h.2.1 a 8), .int (h.2.1 a 9), .int (h.2.1 a 10)]) (C := RX3) (T := TX3) (N := 11) (ty0 := tyX3) (ty := .int) (th_at ha) ⟨in_X3, rfl, by decide, hlk, rfl⟩ ⟨ok_X3, nm_X3, by decide +kernel⟩ rfl rfl rfl (Nat.le_of_ble_eq_true rfl) hdg (fun H1 locs1 hM1 => kk H1 locs1 ?_)
  rw [← th_upi (k := 10) (v := v) ha]
  exact hM1
theorem nw_0 (hC : mx D vwC5 (th_tys cs) th_sx th_nw A p m c cc nL s args TB own) (hM : mw D vwC5 A s.heap (th_g cs h) H locs) (h1 : Cond.classLink own index RX3 ∈ TB) (h2 : Cond.instantiable RX3 11 ∈ TB) (h3 : Cond.initialized RX3 ∈ TB) (hcells : cells + 1 ≤ R.cells) (hslots : slots + 11 ≤ R.slots) (hdg : decode cc pc = .ok (.new index, 3))
    (kk : ∀ (q : Nat) (H : Heap), h.1 q = none → mw D vwC5 A s.heap (th_g cs (th_un h q (0, 0))) H locs → W p l e R s m args below meth c H locs (cells + 1) (slots + 11) Q (F0 m (pc + 3) ls (.ref q :: rest))) : W p l e R s m args below meth c H locs cells slots Q (F0 m pc ls rest) := by
  refine mw_new hC hM (ci := 3) (C := RX3) (T := TX3) (N := 11) (ty := tyX3) (fs := [.null, .null, .null, .null, .int 0, .int 0, .int 0, .int 0, .int 0, .int 0, .int 0]) ⟨in_X3, ok_X3, h1, h2, h3, rfl⟩ (fun j hj => by rcases (show j = 0 ∨ j = 1 ∨ j = 2 ∨ j = 3 ∨ j = 4 ∨ j = 5 ∨ j = 6 ∨ j = 7 ∨ j = 8 ∨ j = 9 ∨ j = 10 by omega) with rfl | rfl | rfl | rfl | rfl | rfl | rfl | rfl | rfl | rfl | rfl <;> rfl) hcells hslots hdg (fun q H1 hq hM1 => kk q H1 (th_none hq) ?_)
  rw [← th_upn]
  exact hM1
theorem gi_1_0 (hC : mx D vwC5 (th_tys cs) th_sx th_nw A p m c cc nL s args TB own) (hM : mw D vwC5 A s.heap (th_g cs h) H locs) (ha : h.1 a = some (1, 0)) (hlk : Cond.fieldLink own index RX2 "number" "I" ∈ TB) (hdg : decode cc pc = .ok (.getfield index, 3))
    (kk : W p l e R s m args below meth c H locs cells slots Q (F0 m (pc + 3) ls (.int (h.2.1 a 0) :: rest))) : W p l e R s m args below meth c H locs cells slots Q (F0 m pc ls (.ref a :: rest)) :=
  mw_get hC hM (ci := 2) (k := 0) (fs := [.int (h.2.1 a 0), .int (h.2.1 a 1)]) (C := RX2) (T := TX2) (N := 2) (th_at ha) ⟨in_X2, rfl, by decide, hlk, rfl⟩ rfl hdg kk
theorem pu_1_0 (hC : mx D vwC5 (th_tys cs) th_sx th_nw A p m c cc nL s args TB own) (hM : mw D vwC5 A s.heap (th_g cs h) H locs) (ha : h.1 a = some (1, 0)) (hlk : Cond.fieldLink own index RX2 "number" "I" ∈ TB) {v : Int32} (hdg : decode cc pc = .ok (.putfield index, 3))
    (kk : ∀ (H : Heap) (locs : List Loc), mw D vwC5 A s.heap (th_g cs (th_ui h a 0 v)) H locs → W p l e R s m args below meth c H locs cells slots Q (F0 m (pc + 3) ls rest)) : W p l e R s m args below meth c H locs cells slots Q (F0 m pc ls (.int v :: .ref a :: rest)) := by
  refine mw_put hC hM (ci := 2) (k := 0) (fs := [.int (h.2.1 a 0), .int (h.2.1 a 1)]) (C := RX2) (T := TX2) (N := 2) (ty0 := tyX2) (ty := .int) (th_at ha) ⟨in_X2, rfl, by decide, hlk, rfl⟩ ⟨ok_X2, nm_X2, by decide +kernel⟩ rfl rfl rfl (Nat.le_of_ble_eq_true rfl) hdg (fun H1 locs1 hM1 => kk H1 locs1 ?_)
  rw [← th_upi (k := 0) (v := v) ha]
  exact hM1
theorem gi_1_1 (hC : mx D vwC5 (th_tys cs) th_sx th_nw A p m c cc nL s args TB own) (hM : mw D vwC5 A s.heap (th_g cs h) H locs) (ha : h.1 a = some (1, 0)) (hlk : Cond.fieldLink own index RX2 "words" "I" ∈ TB) (hdg : decode cc pc = .ok (.getfield index, 3))
    (kk : W p l e R s m args below meth c H locs cells slots Q (F0 m (pc + 3) ls (.int (h.2.1 a 1) :: rest))) : W p l e R s m args below meth c H locs cells slots Q (F0 m pc ls (.ref a :: rest)) :=
  mw_get hC hM (ci := 2) (k := 1) (fs := [.int (h.2.1 a 0), .int (h.2.1 a 1)]) (C := RX2) (T := TX2) (N := 2) (th_at ha) ⟨in_X2, rfl, by decide, hlk, rfl⟩ rfl hdg kk
theorem pu_1_1 (hC : mx D vwC5 (th_tys cs) th_sx th_nw A p m c cc nL s args TB own) (hM : mw D vwC5 A s.heap (th_g cs h) H locs) (ha : h.1 a = some (1, 0)) (hlk : Cond.fieldLink own index RX2 "words" "I" ∈ TB) {v : Int32} (hdg : decode cc pc = .ok (.putfield index, 3))
    (kk : ∀ (H : Heap) (locs : List Loc), mw D vwC5 A s.heap (th_g cs (th_ui h a 1 v)) H locs → W p l e R s m args below meth c H locs cells slots Q (F0 m (pc + 3) ls rest)) : W p l e R s m args below meth c H locs cells slots Q (F0 m pc ls (.int v :: .ref a :: rest)) := by
  refine mw_put hC hM (ci := 2) (k := 1) (fs := [.int (h.2.1 a 0), .int (h.2.1 a 1)]) (C := RX2) (T := TX2) (N := 2) (ty0 := tyX2) (ty := .int) (th_at ha) ⟨in_X2, rfl, by decide, hlk, rfl⟩ ⟨ok_X2, nm_X2, by decide +kernel⟩ rfl rfl rfl (Nat.le_of_ble_eq_true rfl) hdg (fun H1 locs1 hM1 => kk H1 locs1 ?_)
  rw [← th_upi (k := 1) (v := v) ha]
  exact hM1
theorem nw_1 (hC : mx D vwC5 (th_tys cs) th_sx th_nw A p m c cc nL s args TB own) (hM : mw D vwC5 A s.heap (th_g cs h) H locs) (h1 : Cond.classLink own index RX2 ∈ TB) (h2 : Cond.instantiable RX2 2 ∈ TB) (h3 : Cond.initialized RX2 ∈ TB) (hcells : cells + 1 ≤ R.cells) (hslots : slots + 2 ≤ R.slots) (hdg : decode cc pc = .ok (.new index, 3))
    (kk : ∀ (q : Nat) (H : Heap), h.1 q = none → mw D vwC5 A s.heap (th_g cs (th_un h q (1, 0))) H locs → W p l e R s m args below meth c H locs (cells + 1) (slots + 2) Q (F0 m (pc + 3) ls (.ref q :: rest))) : W p l e R s m args below meth c H locs cells slots Q (F0 m pc ls rest) := by
  refine mw_new hC hM (ci := 2) (C := RX2) (T := TX2) (N := 2) (ty := tyX2) (fs := [.int 0, .int 0]) ⟨in_X2, ok_X2, h1, h2, h3, rfl⟩ (fun j hj => by rcases (show j = 0 ∨ j = 1 by omega) with rfl | rfl <;> rfl) hcells hslots hdg (fun q H1 hq hM1 => kk q H1 (th_none hq) ?_)
  rw [← th_upn]
  exact hM1
theorem gi_2_0 (hC : mx D vwC5 (th_tys cs) th_sx th_nw A p m c cc nL s args TB own) (hM : mw D vwC5 A s.heap (th_g cs h) H locs) (ha : h.1 a = some (2, 0)) (hlk : Cond.fieldLink own index RX0 "handle" "I" ∈ TB) (hdg : decode cc pc = .ok (.getfield index, 3))
    (kk : W p l e R s m args below meth c H locs cells slots Q (F0 m (pc + 3) ls (.int (h.2.1 a 0) :: rest))) : W p l e R s m args below meth c H locs cells slots Q (F0 m pc ls (.ref a :: rest)) :=
  mw_get hC hM (ci := 0) (k := 0) (fs := [.int (h.2.1 a 0), va_rf (h.2.2 a 1), .int (h.2.1 a 2), .int (h.2.1 a 3)]) (C := RX0) (T := TX0) (N := 4) (th_at ha) ⟨in_X0, rfl, by decide, hlk, rfl⟩ rfl hdg kk
theorem pu_2_0 (hC : mx D vwC5 (th_tys cs) th_sx th_nw A p m c cc nL s args TB own) (hM : mw D vwC5 A s.heap (th_g cs h) H locs) (ha : h.1 a = some (2, 0)) (hlk : Cond.fieldLink own index RX0 "handle" "I" ∈ TB) (hin2 : meth.name = "<init>") (hdecl : RX0 = own) {v : Int32} (hdg : decode cc pc = .ok (.putfield index, 3))
    (kk : ∀ (H : Heap) (locs : List Loc), mw D vwC5 A s.heap (th_g cs (th_ui h a 0 v)) H locs → W p l e R s m args below meth c H locs cells slots Q (F0 m (pc + 3) ls rest)) : W p l e R s m args below meth c H locs cells slots Q (F0 m pc ls (.int v :: .ref a :: rest)) := by
  refine mw_putF hC hM (ci := 0) (k := 0) (fs := [.int (h.2.1 a 0), va_rf (h.2.2 a 1), .int (h.2.1 a 2), .int (h.2.1 a 3)]) (C := RX0) (T := TX0) (N := 4) (ty0 := tyX0) (ty := .int) (th_at ha) ⟨in_X0, rfl, by decide, hlk, rfl⟩ ⟨ok_X0, nm_X0, by decide +kernel⟩ rfl hin2 hdecl rfl rfl (Nat.le_of_ble_eq_true rfl) hdg (fun H1 locs1 hM1 => kk H1 locs1 ?_)
  rw [← th_upi (k := 0) (v := v) ha]
  exact hM1
theorem gr_2_1 (hC : mx D vwC5 (th_tys cs) th_sx th_nw A p m c cc nL s args TB own) (hM : mw D vwC5 A s.heap (th_g cs h) H locs) (ha : h.1 a = some (2, 0)) (hlk : Cond.fieldLink own index RX0 "places" "[LStableHeap$Place;" ∈ TB) (hdg : decode cc pc = .ok (.getfield index, 3)) {r : Option Nat} (hr : h.2.2 a 1 = r)
    (kk : W p l e R s m args below meth c H locs cells slots Q (F0 m (pc + 3) ls (va_rf r :: rest))) : W p l e R s m args below meth c H locs cells slots Q (F0 m pc ls (.ref a :: rest)) := by
  subst hr
  exact mw_get hC hM (ci := 0) (k := 1) (fs := [.int (h.2.1 a 0), va_rf (h.2.2 a 1), .int (h.2.1 a 2), .int (h.2.1 a 3)]) (C := RX0) (T := TX0) (N := 4) (th_at ha) ⟨in_X0, rfl, by decide, hlk, rfl⟩ rfl hdg kk
theorem pu_2_1 (hC : mx D vwC5 (th_tys cs) th_sx th_nw A p m c cc nL s args TB own) (hM : mw D vwC5 A s.heap (th_g cs h) H locs) (ha : h.1 a = some (2, 0)) (hlk : Cond.fieldLink own index RX0 "places" "[LStableHeap$Place;" ∈ TB) (hin2 : meth.name = "<init>") (hdecl : RX0 = own) {v : Option Nat} (hdg : decode cc pc = .ok (.putfield index, 3))
    (kk : ∀ (H : Heap) (locs : List Loc), mw D vwC5 A s.heap (th_g cs (th_ur h a 1 v)) H locs → W p l e R s m args below meth c H locs cells slots Q (F0 m (pc + 3) ls rest)) : W p l e R s m args below meth c H locs cells slots Q (F0 m pc ls (va_rf v :: .ref a :: rest)) := by
  refine mw_putF hC hM (ci := 0) (k := 1) (fs := [.int (h.2.1 a 0), va_rf (h.2.2 a 1), .int (h.2.1 a 2), .int (h.2.1 a 3)]) (C := RX0) (T := TX0) (N := 4) (ty0 := tyX0) (ty := .array (.object "StableHeap$Place")) (th_at ha) ⟨in_X0, rfl, by decide, hlk, rfl⟩ ⟨ok_X0, nm_X0, by decide +kernel⟩ rfl hin2 hdecl (th_na _ _) (th_fa _ _) (Nat.le_of_ble_eq_true rfl) hdg (fun H1 locs1 hM1 => kk H1 locs1 ?_)
  rw [← th_upr (k := 1) (v := v) ha]
  exact hM1
theorem gi_2_2 (hC : mx D vwC5 (th_tys cs) th_sx th_nw A p m c cc nL s args TB own) (hM : mw D vwC5 A s.heap (th_g cs h) H locs) (ha : h.1 a = some (2, 0)) (hlk : Cond.fieldLink own index RX0 "owner" "I" ∈ TB) (hdg : decode cc pc = .ok (.getfield index, 3))
    (kk : W p l e R s m args below meth c H locs cells slots Q (F0 m (pc + 3) ls (.int (h.2.1 a 2) :: rest))) : W p l e R s m args below meth c H locs cells slots Q (F0 m pc ls (.ref a :: rest)) :=
  mw_get hC hM (ci := 0) (k := 2) (fs := [.int (h.2.1 a 0), va_rf (h.2.2 a 1), .int (h.2.1 a 2), .int (h.2.1 a 3)]) (C := RX0) (T := TX0) (N := 4) (th_at ha) ⟨in_X0, rfl, by decide, hlk, rfl⟩ rfl hdg kk
theorem pu_2_2 (hC : mx D vwC5 (th_tys cs) th_sx th_nw A p m c cc nL s args TB own) (hM : mw D vwC5 A s.heap (th_g cs h) H locs) (ha : h.1 a = some (2, 0)) (hlk : Cond.fieldLink own index RX0 "owner" "I" ∈ TB) {v : Int32} (hdg : decode cc pc = .ok (.putfield index, 3))
    (kk : ∀ (H : Heap) (locs : List Loc), mw D vwC5 A s.heap (th_g cs (th_ui h a 2 v)) H locs → W p l e R s m args below meth c H locs cells slots Q (F0 m (pc + 3) ls rest)) : W p l e R s m args below meth c H locs cells slots Q (F0 m pc ls (.int v :: .ref a :: rest)) := by
  refine mw_put hC hM (ci := 0) (k := 2) (fs := [.int (h.2.1 a 0), va_rf (h.2.2 a 1), .int (h.2.1 a 2), .int (h.2.1 a 3)]) (C := RX0) (T := TX0) (N := 4) (ty0 := tyX0) (ty := .int) (th_at ha) ⟨in_X0, rfl, by decide, hlk, rfl⟩ ⟨ok_X0, nm_X0, by decide +kernel⟩ rfl rfl rfl (Nat.le_of_ble_eq_true rfl) hdg (fun H1 locs1 hM1 => kk H1 locs1 ?_)
  rw [← th_upi (k := 2) (v := v) ha]
  exact hM1
theorem gi_2_3 (hC : mx D vwC5 (th_tys cs) th_sx th_nw A p m c cc nL s args TB own) (hM : mw D vwC5 A s.heap (th_g cs h) H locs) (ha : h.1 a = some (2, 0)) (hlk : Cond.fieldLink own index RX0 "isHeld" "Z" ∈ TB) (hdg : decode cc pc = .ok (.getfield index, 3))
    (kk : W p l e R s m args below meth c H locs cells slots Q (F0 m (pc + 3) ls (.int (h.2.1 a 3) :: rest))) : W p l e R s m args below meth c H locs cells slots Q (F0 m pc ls (.ref a :: rest)) :=
  mw_get hC hM (ci := 0) (k := 3) (fs := [.int (h.2.1 a 0), va_rf (h.2.2 a 1), .int (h.2.1 a 2), .int (h.2.1 a 3)]) (C := RX0) (T := TX0) (N := 4) (th_at ha) ⟨in_X0, rfl, by decide, hlk, rfl⟩ rfl hdg kk
theorem pu_2_3 (hC : mx D vwC5 (th_tys cs) th_sx th_nw A p m c cc nL s args TB own) (hM : mw D vwC5 A s.heap (th_g cs h) H locs) (ha : h.1 a = some (2, 0)) (hlk : Cond.fieldLink own index RX0 "isHeld" "Z" ∈ TB) {v : Int32} (hz : v = 0 ∨ v = 1) (hdg : decode cc pc = .ok (.putfield index, 3))
    (kk : ∀ (H : Heap) (locs : List Loc), mw D vwC5 A s.heap (th_g cs (th_ui h a 3 v)) H locs → W p l e R s m args below meth c H locs cells slots Q (F0 m (pc + 3) ls rest)) : W p l e R s m args below meth c H locs cells slots Q (F0 m pc ls (.int v :: .ref a :: rest)) := by
  refine mw_put hC hM (ci := 0) (k := 3) (fs := [.int (h.2.1 a 0), va_rf (h.2.2 a 1), .int (h.2.1 a 2), .int (h.2.1 a 3)]) (C := RX0) (T := TX0) (N := 4) (ty0 := tyX0) (ty := .boolean) (th_at ha) ⟨in_X0, rfl, by decide, hlk, rfl⟩ ⟨ok_X0, nm_X0, by decide +kernel⟩ rfl (th_nb hz) (th_fb hz) (Nat.le_of_ble_eq_true rfl) hdg (fun H1 locs1 hM1 => kk H1 locs1 ?_)
  rw [← th_upi (k := 3) (v := v) ha]
  exact hM1
theorem nw_2 (hC : mx D vwC5 (th_tys cs) th_sx th_nw A p m c cc nL s args TB own) (hM : mw D vwC5 A s.heap (th_g cs h) H locs) (h1 : Cond.classLink own index RX0 ∈ TB) (h2 : Cond.instantiable RX0 4 ∈ TB) (h3 : Cond.initialized RX0 ∈ TB) (hcells : cells + 1 ≤ R.cells) (hslots : slots + 4 ≤ R.slots) (hdg : decode cc pc = .ok (.new index, 3))
    (kk : ∀ (q : Nat) (H : Heap), h.1 q = none → mw D vwC5 A s.heap (th_g cs (th_un h q (2, 0))) H locs → W p l e R s m args below meth c H locs (cells + 1) (slots + 4) Q (F0 m (pc + 3) ls (.ref q :: rest))) : W p l e R s m args below meth c H locs cells slots Q (F0 m pc ls rest) := by
  refine mw_new hC hM (ci := 0) (C := RX0) (T := TX0) (N := 4) (ty := tyX0) (fs := [.int 0, .null, .int 0, .int 0]) ⟨in_X0, ok_X0, h1, h2, h3, rfl⟩ (fun j hj => by rcases (show j = 0 ∨ j = 1 ∨ j = 2 ∨ j = 3 by omega) with rfl | rfl | rfl | rfl <;> rfl) hcells hslots hdg (fun q H1 hq hM1 => kk q H1 (th_none hq) ?_)
  rw [← th_upn]
  exact hM1
theorem gi_3_0 (hC : mx D vwC5 (th_tys cs) th_sx th_nw A p m c cc nL s args TB own) (hM : mw D vwC5 A s.heap (th_g cs h) H locs) (ha : h.1 a = some (3, 0)) (hlk : Cond.fieldLink own index RX1 "isReference" "Z" ∈ TB) (hdg : decode cc pc = .ok (.getfield index, 3))
    (kk : W p l e R s m args below meth c H locs cells slots Q (F0 m (pc + 3) ls (.int (h.2.1 a 0) :: rest))) : W p l e R s m args below meth c H locs cells slots Q (F0 m pc ls (.ref a :: rest)) :=
  mw_get hC hM (ci := 1) (k := 0) (fs := [.int (h.2.1 a 0), .int (h.2.1 a 1), va_rf (h.2.2 a 2), .int (h.2.1 a 3), .int (h.2.1 a 4), .int (h.2.1 a 5), va_rf (h.2.2 a 6)]) (C := RX1) (T := TX1) (N := 7) (th_at ha) ⟨in_X1, rfl, by decide, hlk, rfl⟩ rfl hdg kk
theorem pu_3_0 (hC : mx D vwC5 (th_tys cs) th_sx th_nw A p m c cc nL s args TB own) (hM : mw D vwC5 A s.heap (th_g cs h) H locs) (ha : h.1 a = some (3, 0)) (hlk : Cond.fieldLink own index RX1 "isReference" "Z" ∈ TB) {v : Int32} (hz : v = 0 ∨ v = 1) (hdg : decode cc pc = .ok (.putfield index, 3))
    (kk : ∀ (H : Heap) (locs : List Loc), mw D vwC5 A s.heap (th_g cs (th_ui h a 0 v)) H locs → W p l e R s m args below meth c H locs cells slots Q (F0 m (pc + 3) ls rest)) : W p l e R s m args below meth c H locs cells slots Q (F0 m pc ls (.int v :: .ref a :: rest)) := by
  refine mw_put hC hM (ci := 1) (k := 0) (fs := [.int (h.2.1 a 0), .int (h.2.1 a 1), va_rf (h.2.2 a 2), .int (h.2.1 a 3), .int (h.2.1 a 4), .int (h.2.1 a 5), va_rf (h.2.2 a 6)]) (C := RX1) (T := TX1) (N := 7) (ty0 := tyX1) (ty := .boolean) (th_at ha) ⟨in_X1, rfl, by decide, hlk, rfl⟩ ⟨ok_X1, nm_X1, by decide +kernel⟩ rfl (th_nb hz) (th_fb hz) (Nat.le_of_ble_eq_true rfl) hdg (fun H1 locs1 hM1 => kk H1 locs1 ?_)
  rw [← th_upi (k := 0) (v := v) ha]
  exact hM1
theorem gi_3_1 (hC : mx D vwC5 (th_tys cs) th_sx th_nw A p m c cc nL s args TB own) (hM : mw D vwC5 A s.heap (th_g cs h) H locs) (ha : h.1 a = some (3, 0)) (hlk : Cond.fieldLink own index RX1 "number" "I" ∈ TB) (hdg : decode cc pc = .ok (.getfield index, 3))
    (kk : W p l e R s m args below meth c H locs cells slots Q (F0 m (pc + 3) ls (.int (h.2.1 a 1) :: rest))) : W p l e R s m args below meth c H locs cells slots Q (F0 m pc ls (.ref a :: rest)) :=
  mw_get hC hM (ci := 1) (k := 1) (fs := [.int (h.2.1 a 0), .int (h.2.1 a 1), va_rf (h.2.2 a 2), .int (h.2.1 a 3), .int (h.2.1 a 4), .int (h.2.1 a 5), va_rf (h.2.2 a 6)]) (C := RX1) (T := TX1) (N := 7) (th_at ha) ⟨in_X1, rfl, by decide, hlk, rfl⟩ rfl hdg kk
theorem pu_3_1 (hC : mx D vwC5 (th_tys cs) th_sx th_nw A p m c cc nL s args TB own) (hM : mw D vwC5 A s.heap (th_g cs h) H locs) (ha : h.1 a = some (3, 0)) (hlk : Cond.fieldLink own index RX1 "number" "I" ∈ TB) {v : Int32} (hdg : decode cc pc = .ok (.putfield index, 3))
    (kk : ∀ (H : Heap) (locs : List Loc), mw D vwC5 A s.heap (th_g cs (th_ui h a 1 v)) H locs → W p l e R s m args below meth c H locs cells slots Q (F0 m (pc + 3) ls rest)) : W p l e R s m args below meth c H locs cells slots Q (F0 m pc ls (.int v :: .ref a :: rest)) := by
  refine mw_put hC hM (ci := 1) (k := 1) (fs := [.int (h.2.1 a 0), .int (h.2.1 a 1), va_rf (h.2.2 a 2), .int (h.2.1 a 3), .int (h.2.1 a 4), .int (h.2.1 a 5), va_rf (h.2.2 a 6)]) (C := RX1) (T := TX1) (N := 7) (ty0 := tyX1) (ty := .int) (th_at ha) ⟨in_X1, rfl, by decide, hlk, rfl⟩ ⟨ok_X1, nm_X1, by decide +kernel⟩ rfl rfl rfl (Nat.le_of_ble_eq_true rfl) hdg (fun H1 locs1 hM1 => kk H1 locs1 ?_)
  rw [← th_upi (k := 1) (v := v) ha]
  exact hM1
theorem gr_3_2 (hC : mx D vwC5 (th_tys cs) th_sx th_nw A p m c cc nL s args TB own) (hM : mw D vwC5 A s.heap (th_g cs h) H locs) (ha : h.1 a = some (3, 0)) (hlk : Cond.fieldLink own index RX1 "target" "LStableHeap$Lockable;" ∈ TB) (hdg : decode cc pc = .ok (.getfield index, 3)) {r : Option Nat} (hr : h.2.2 a 2 = r)
    (kk : W p l e R s m args below meth c H locs cells slots Q (F0 m (pc + 3) ls (va_rf r :: rest))) : W p l e R s m args below meth c H locs cells slots Q (F0 m pc ls (.ref a :: rest)) := by
  subst hr
  exact mw_get hC hM (ci := 1) (k := 2) (fs := [.int (h.2.1 a 0), .int (h.2.1 a 1), va_rf (h.2.2 a 2), .int (h.2.1 a 3), .int (h.2.1 a 4), .int (h.2.1 a 5), va_rf (h.2.2 a 6)]) (C := RX1) (T := TX1) (N := 7) (th_at ha) ⟨in_X1, rfl, by decide, hlk, rfl⟩ rfl hdg kk
theorem pu_3_2 (hC : mx D vwC5 (th_tys cs) th_sx th_nw A p m c cc nL s args TB own) (hM : mw D vwC5 A s.heap (th_g cs h) H locs) (ha : h.1 a = some (3, 0)) (hlk : Cond.fieldLink own index RX1 "target" "LStableHeap$Lockable;" ∈ TB) {v : Option Nat} (hdg : decode cc pc = .ok (.putfield index, 3))
    (kk : ∀ (H : Heap) (locs : List Loc), mw D vwC5 A s.heap (th_g cs (th_ur h a 2 v)) H locs → W p l e R s m args below meth c H locs cells slots Q (F0 m (pc + 3) ls rest)) : W p l e R s m args below meth c H locs cells slots Q (F0 m pc ls (va_rf v :: .ref a :: rest)) := by
  refine mw_put hC hM (ci := 1) (k := 2) (fs := [.int (h.2.1 a 0), .int (h.2.1 a 1), va_rf (h.2.2 a 2), .int (h.2.1 a 3), .int (h.2.1 a 4), .int (h.2.1 a 5), va_rf (h.2.2 a 6)]) (C := RX1) (T := TX1) (N := 7) (ty0 := tyX1) (ty := .object "StableHeap$Lockable") (th_at ha) ⟨in_X1, rfl, by decide, hlk, rfl⟩ ⟨ok_X1, nm_X1, by decide +kernel⟩ rfl (th_no _ _) (th_fo _ _) (Nat.le_of_ble_eq_true rfl) hdg (fun H1 locs1 hM1 => kk H1 locs1 ?_)
  rw [← th_upr (k := 2) (v := v) ha]
  exact hM1
theorem gi_3_3 (hC : mx D vwC5 (th_tys cs) th_sx th_nw A p m c cc nL s args TB own) (hM : mw D vwC5 A s.heap (th_g cs h) H locs) (ha : h.1 a = some (3, 0)) (hlk : Cond.fieldLink own index RX1 "isSet" "Z" ∈ TB) (hdg : decode cc pc = .ok (.getfield index, 3))
    (kk : W p l e R s m args below meth c H locs cells slots Q (F0 m (pc + 3) ls (.int (h.2.1 a 3) :: rest))) : W p l e R s m args below meth c H locs cells slots Q (F0 m pc ls (.ref a :: rest)) :=
  mw_get hC hM (ci := 1) (k := 3) (fs := [.int (h.2.1 a 0), .int (h.2.1 a 1), va_rf (h.2.2 a 2), .int (h.2.1 a 3), .int (h.2.1 a 4), .int (h.2.1 a 5), va_rf (h.2.2 a 6)]) (C := RX1) (T := TX1) (N := 7) (th_at ha) ⟨in_X1, rfl, by decide, hlk, rfl⟩ rfl hdg kk
theorem pu_3_3 (hC : mx D vwC5 (th_tys cs) th_sx th_nw A p m c cc nL s args TB own) (hM : mw D vwC5 A s.heap (th_g cs h) H locs) (ha : h.1 a = some (3, 0)) (hlk : Cond.fieldLink own index RX1 "isSet" "Z" ∈ TB) {v : Int32} (hz : v = 0 ∨ v = 1) (hdg : decode cc pc = .ok (.putfield index, 3))
    (kk : ∀ (H : Heap) (locs : List Loc), mw D vwC5 A s.heap (th_g cs (th_ui h a 3 v)) H locs → W p l e R s m args below meth c H locs cells slots Q (F0 m (pc + 3) ls rest)) : W p l e R s m args below meth c H locs cells slots Q (F0 m pc ls (.int v :: .ref a :: rest)) := by
  refine mw_put hC hM (ci := 1) (k := 3) (fs := [.int (h.2.1 a 0), .int (h.2.1 a 1), va_rf (h.2.2 a 2), .int (h.2.1 a 3), .int (h.2.1 a 4), .int (h.2.1 a 5), va_rf (h.2.2 a 6)]) (C := RX1) (T := TX1) (N := 7) (ty0 := tyX1) (ty := .boolean) (th_at ha) ⟨in_X1, rfl, by decide, hlk, rfl⟩ ⟨ok_X1, nm_X1, by decide +kernel⟩ rfl (th_nb hz) (th_fb hz) (Nat.le_of_ble_eq_true rfl) hdg (fun H1 locs1 hM1 => kk H1 locs1 ?_)
  rw [← th_upi (k := 3) (v := v) ha]
  exact hM1
theorem gi_3_4 (hC : mx D vwC5 (th_tys cs) th_sx th_nw A p m c cc nL s args TB own) (hM : mw D vwC5 A s.heap (th_g cs h) H locs) (ha : h.1 a = some (3, 0)) (hlk : Cond.fieldLink own index RX1 "formerIsReference" "Z" ∈ TB) (hdg : decode cc pc = .ok (.getfield index, 3))
    (kk : W p l e R s m args below meth c H locs cells slots Q (F0 m (pc + 3) ls (.int (h.2.1 a 4) :: rest))) : W p l e R s m args below meth c H locs cells slots Q (F0 m pc ls (.ref a :: rest)) :=
  mw_get hC hM (ci := 1) (k := 4) (fs := [.int (h.2.1 a 0), .int (h.2.1 a 1), va_rf (h.2.2 a 2), .int (h.2.1 a 3), .int (h.2.1 a 4), .int (h.2.1 a 5), va_rf (h.2.2 a 6)]) (C := RX1) (T := TX1) (N := 7) (th_at ha) ⟨in_X1, rfl, by decide, hlk, rfl⟩ rfl hdg kk
theorem pu_3_4 (hC : mx D vwC5 (th_tys cs) th_sx th_nw A p m c cc nL s args TB own) (hM : mw D vwC5 A s.heap (th_g cs h) H locs) (ha : h.1 a = some (3, 0)) (hlk : Cond.fieldLink own index RX1 "formerIsReference" "Z" ∈ TB) {v : Int32} (hz : v = 0 ∨ v = 1) (hdg : decode cc pc = .ok (.putfield index, 3))
    (kk : ∀ (H : Heap) (locs : List Loc), mw D vwC5 A s.heap (th_g cs (th_ui h a 4 v)) H locs → W p l e R s m args below meth c H locs cells slots Q (F0 m (pc + 3) ls rest)) : W p l e R s m args below meth c H locs cells slots Q (F0 m pc ls (.int v :: .ref a :: rest)) := by
  refine mw_put hC hM (ci := 1) (k := 4) (fs := [.int (h.2.1 a 0), .int (h.2.1 a 1), va_rf (h.2.2 a 2), .int (h.2.1 a 3), .int (h.2.1 a 4), .int (h.2.1 a 5), va_rf (h.2.2 a 6)]) (C := RX1) (T := TX1) (N := 7) (ty0 := tyX1) (ty := .boolean) (th_at ha) ⟨in_X1, rfl, by decide, hlk, rfl⟩ ⟨ok_X1, nm_X1, by decide +kernel⟩ rfl (th_nb hz) (th_fb hz) (Nat.le_of_ble_eq_true rfl) hdg (fun H1 locs1 hM1 => kk H1 locs1 ?_)
  rw [← th_upi (k := 4) (v := v) ha]
  exact hM1
theorem gi_3_5 (hC : mx D vwC5 (th_tys cs) th_sx th_nw A p m c cc nL s args TB own) (hM : mw D vwC5 A s.heap (th_g cs h) H locs) (ha : h.1 a = some (3, 0)) (hlk : Cond.fieldLink own index RX1 "formerNumber" "I" ∈ TB) (hdg : decode cc pc = .ok (.getfield index, 3))
    (kk : W p l e R s m args below meth c H locs cells slots Q (F0 m (pc + 3) ls (.int (h.2.1 a 5) :: rest))) : W p l e R s m args below meth c H locs cells slots Q (F0 m pc ls (.ref a :: rest)) :=
  mw_get hC hM (ci := 1) (k := 5) (fs := [.int (h.2.1 a 0), .int (h.2.1 a 1), va_rf (h.2.2 a 2), .int (h.2.1 a 3), .int (h.2.1 a 4), .int (h.2.1 a 5), va_rf (h.2.2 a 6)]) (C := RX1) (T := TX1) (N := 7) (th_at ha) ⟨in_X1, rfl, by decide, hlk, rfl⟩ rfl hdg kk
theorem pu_3_5 (hC : mx D vwC5 (th_tys cs) th_sx th_nw A p m c cc nL s args TB own) (hM : mw D vwC5 A s.heap (th_g cs h) H locs) (ha : h.1 a = some (3, 0)) (hlk : Cond.fieldLink own index RX1 "formerNumber" "I" ∈ TB) {v : Int32} (hdg : decode cc pc = .ok (.putfield index, 3))
    (kk : ∀ (H : Heap) (locs : List Loc), mw D vwC5 A s.heap (th_g cs (th_ui h a 5 v)) H locs → W p l e R s m args below meth c H locs cells slots Q (F0 m (pc + 3) ls rest)) : W p l e R s m args below meth c H locs cells slots Q (F0 m pc ls (.int v :: .ref a :: rest)) := by
  refine mw_put hC hM (ci := 1) (k := 5) (fs := [.int (h.2.1 a 0), .int (h.2.1 a 1), va_rf (h.2.2 a 2), .int (h.2.1 a 3), .int (h.2.1 a 4), .int (h.2.1 a 5), va_rf (h.2.2 a 6)]) (C := RX1) (T := TX1) (N := 7) (ty0 := tyX1) (ty := .int) (th_at ha) ⟨in_X1, rfl, by decide, hlk, rfl⟩ ⟨ok_X1, nm_X1, by decide +kernel⟩ rfl rfl rfl (Nat.le_of_ble_eq_true rfl) hdg (fun H1 locs1 hM1 => kk H1 locs1 ?_)
  rw [← th_upi (k := 5) (v := v) ha]
  exact hM1
theorem gr_3_6 (hC : mx D vwC5 (th_tys cs) th_sx th_nw A p m c cc nL s args TB own) (hM : mw D vwC5 A s.heap (th_g cs h) H locs) (ha : h.1 a = some (3, 0)) (hlk : Cond.fieldLink own index RX1 "formerTarget" "LStableHeap$Lockable;" ∈ TB) (hdg : decode cc pc = .ok (.getfield index, 3)) {r : Option Nat} (hr : h.2.2 a 6 = r)
    (kk : W p l e R s m args below meth c H locs cells slots Q (F0 m (pc + 3) ls (va_rf r :: rest))) : W p l e R s m args below meth c H locs cells slots Q (F0 m pc ls (.ref a :: rest)) := by
  subst hr
  exact mw_get hC hM (ci := 1) (k := 6) (fs := [.int (h.2.1 a 0), .int (h.2.1 a 1), va_rf (h.2.2 a 2), .int (h.2.1 a 3), .int (h.2.1 a 4), .int (h.2.1 a 5), va_rf (h.2.2 a 6)]) (C := RX1) (T := TX1) (N := 7) (th_at ha) ⟨in_X1, rfl, by decide, hlk, rfl⟩ rfl hdg kk
theorem pu_3_6 (hC : mx D vwC5 (th_tys cs) th_sx th_nw A p m c cc nL s args TB own) (hM : mw D vwC5 A s.heap (th_g cs h) H locs) (ha : h.1 a = some (3, 0)) (hlk : Cond.fieldLink own index RX1 "formerTarget" "LStableHeap$Lockable;" ∈ TB) {v : Option Nat} (hdg : decode cc pc = .ok (.putfield index, 3))
    (kk : ∀ (H : Heap) (locs : List Loc), mw D vwC5 A s.heap (th_g cs (th_ur h a 6 v)) H locs → W p l e R s m args below meth c H locs cells slots Q (F0 m (pc + 3) ls rest)) : W p l e R s m args below meth c H locs cells slots Q (F0 m pc ls (va_rf v :: .ref a :: rest)) := by
  refine mw_put hC hM (ci := 1) (k := 6) (fs := [.int (h.2.1 a 0), .int (h.2.1 a 1), va_rf (h.2.2 a 2), .int (h.2.1 a 3), .int (h.2.1 a 4), .int (h.2.1 a 5), va_rf (h.2.2 a 6)]) (C := RX1) (T := TX1) (N := 7) (ty0 := tyX1) (ty := .object "StableHeap$Lockable") (th_at ha) ⟨in_X1, rfl, by decide, hlk, rfl⟩ ⟨ok_X1, nm_X1, by decide +kernel⟩ rfl (th_no _ _) (th_fo _ _) (Nat.le_of_ble_eq_true rfl) hdg (fun H1 locs1 hM1 => kk H1 locs1 ?_)
  rw [← th_upr (k := 6) (v := v) ha]
  exact hM1
theorem nw_3 (hC : mx D vwC5 (th_tys cs) th_sx th_nw A p m c cc nL s args TB own) (hM : mw D vwC5 A s.heap (th_g cs h) H locs) (h1 : Cond.classLink own index RX1 ∈ TB) (h2 : Cond.instantiable RX1 7 ∈ TB) (h3 : Cond.initialized RX1 ∈ TB) (hcells : cells + 1 ≤ R.cells) (hslots : slots + 7 ≤ R.slots) (hdg : decode cc pc = .ok (.new index, 3))
    (kk : ∀ (q : Nat) (H : Heap), h.1 q = none → mw D vwC5 A s.heap (th_g cs (th_un h q (3, 0))) H locs → W p l e R s m args below meth c H locs (cells + 1) (slots + 7) Q (F0 m (pc + 3) ls (.ref q :: rest))) : W p l e R s m args below meth c H locs cells slots Q (F0 m pc ls rest) := by
  refine mw_new hC hM (ci := 1) (C := RX1) (T := TX1) (N := 7) (ty := tyX1) (fs := [.int 0, .int 0, .null, .int 0, .int 0, .int 0, .null]) ⟨in_X1, ok_X1, h1, h2, h3, rfl⟩ (fun j hj => by rcases (show j = 0 ∨ j = 1 ∨ j = 2 ∨ j = 3 ∨ j = 4 ∨ j = 5 ∨ j = 6 by omega) with rfl | rfl | rfl | rfl | rfl | rfl | rfl <;> rfl) hcells hslots hdg (fun q H1 hq hM1 => kk q H1 (th_none hq) ?_)
  rw [← th_upn]
  exact hM1
theorem gi_10_0 (hC : mx D vwC5 (th_tys cs) th_sx th_nw A p m c cc nL s args TB own) (hM : mw D vwC5 A s.heap (th_g cs h) H locs) (ha : h.1 a = some (10, 0)) (hlk : Cond.fieldLink own index RX4 "code" "I" ∈ TB) (hdg : decode cc pc = .ok (.getfield index, 3))
    (kk : W p l e R s m args below meth c H locs cells slots Q (F0 m (pc + 3) ls (.int (h.2.1 a 0) :: rest))) : W p l e R s m args below meth c H locs cells slots Q (F0 m pc ls (.ref a :: rest)) :=
  mw_get hC hM (ci := 4) (k := 0) (fs := [.int (h.2.1 a 0), va_rf (h.2.2 a 1), va_rf (h.2.2 a 2), va_rf (h.2.2 a 3), va_rf (h.2.2 a 4), va_rf (h.2.2 a 5), va_rf (h.2.2 a 6), va_rf (h.2.2 a 7), va_rf (h.2.2 a 8), .int (h.2.1 a 9), .int (h.2.1 a 10), va_rf (h.2.2 a 11), va_rf (h.2.2 a 12), .int (h.2.1 a 13), .int (h.2.1 a 14), .int (h.2.1 a 15), va_rf (h.2.2 a 16), va_rf (h.2.2 a 17), va_rf (h.2.2 a 18), va_rf (h.2.2 a 19), .int (h.2.1 a 20)]) (C := RX4) (T := TX4) (N := 21) (th_at ha) ⟨in_X4, rfl, by decide, hlk, rfl⟩ rfl hdg kk
theorem pu_10_0 (hC : mx D vwC5 (th_tys cs) th_sx th_nw A p m c cc nL s args TB own) (hM : mw D vwC5 A s.heap (th_g cs h) H locs) (ha : h.1 a = some (10, 0)) (hlk : Cond.fieldLink own index RX4 "code" "I" ∈ TB) {v : Int32} (hdg : decode cc pc = .ok (.putfield index, 3))
    (kk : ∀ (H : Heap) (locs : List Loc), mw D vwC5 A s.heap (th_g cs (th_ui h a 0 v)) H locs → W p l e R s m args below meth c H locs cells slots Q (F0 m (pc + 3) ls rest)) : W p l e R s m args below meth c H locs cells slots Q (F0 m pc ls (.int v :: .ref a :: rest)) := by
  refine mw_put hC hM (ci := 4) (k := 0) (fs := [.int (h.2.1 a 0), va_rf (h.2.2 a 1), va_rf (h.2.2 a 2), va_rf (h.2.2 a 3), va_rf (h.2.2 a 4), va_rf (h.2.2 a 5), va_rf (h.2.2 a 6), va_rf (h.2.2 a 7), va_rf (h.2.2 a 8), .int (h.2.1 a 9), .int (h.2.1 a 10), va_rf (h.2.2 a 11), va_rf (h.2.2 a 12), .int (h.2.1 a 13), .int (h.2.1 a 14), .int (h.2.1 a 15), va_rf (h.2.2 a 16), va_rf (h.2.2 a 17), va_rf (h.2.2 a 18), va_rf (h.2.2 a 19), .int (h.2.1 a 20)]) (C := RX4) (T := TX4) (N := 21) (ty0 := tyX4) (ty := .int) (th_at ha) ⟨in_X4, rfl, by decide, hlk, rfl⟩ ⟨ok_X4, nm_X4, by decide +kernel⟩ rfl rfl rfl (Nat.le_of_ble_eq_true rfl) hdg (fun H1 locs1 hM1 => kk H1 locs1 ?_)
  rw [← th_upi (k := 0) (v := v) ha]
  exact hM1
theorem gr_10_1 (hC : mx D vwC5 (th_tys cs) th_sx th_nw A p m c cc nL s args TB own) (hM : mw D vwC5 A s.heap (th_g cs h) H locs) (ha : h.1 a = some (10, 0)) (hlk : Cond.fieldLink own index RX4 "handle" "[I" ∈ TB) (hdg : decode cc pc = .ok (.getfield index, 3)) {r : Option Nat} (hr : h.2.2 a 1 = r)
    (kk : W p l e R s m args below meth c H locs cells slots Q (F0 m (pc + 3) ls (va_rf r :: rest))) : W p l e R s m args below meth c H locs cells slots Q (F0 m pc ls (.ref a :: rest)) := by
  subst hr
  exact mw_get hC hM (ci := 4) (k := 1) (fs := [.int (h.2.1 a 0), va_rf (h.2.2 a 1), va_rf (h.2.2 a 2), va_rf (h.2.2 a 3), va_rf (h.2.2 a 4), va_rf (h.2.2 a 5), va_rf (h.2.2 a 6), va_rf (h.2.2 a 7), va_rf (h.2.2 a 8), .int (h.2.1 a 9), .int (h.2.1 a 10), va_rf (h.2.2 a 11), va_rf (h.2.2 a 12), .int (h.2.1 a 13), .int (h.2.1 a 14), .int (h.2.1 a 15), va_rf (h.2.2 a 16), va_rf (h.2.2 a 17), va_rf (h.2.2 a 18), va_rf (h.2.2 a 19), .int (h.2.1 a 20)]) (C := RX4) (T := TX4) (N := 21) (th_at ha) ⟨in_X4, rfl, by decide, hlk, rfl⟩ rfl hdg kk
theorem pu_10_1 (hC : mx D vwC5 (th_tys cs) th_sx th_nw A p m c cc nL s args TB own) (hM : mw D vwC5 A s.heap (th_g cs h) H locs) (ha : h.1 a = some (10, 0)) (hlk : Cond.fieldLink own index RX4 "handle" "[I" ∈ TB) (hin2 : meth.name = "<init>") (hdecl : RX4 = own) {v : Option Nat} (hdg : decode cc pc = .ok (.putfield index, 3))
    (kk : ∀ (H : Heap) (locs : List Loc), mw D vwC5 A s.heap (th_g cs (th_ur h a 1 v)) H locs → W p l e R s m args below meth c H locs cells slots Q (F0 m (pc + 3) ls rest)) : W p l e R s m args below meth c H locs cells slots Q (F0 m pc ls (va_rf v :: .ref a :: rest)) := by
  refine mw_putF hC hM (ci := 4) (k := 1) (fs := [.int (h.2.1 a 0), va_rf (h.2.2 a 1), va_rf (h.2.2 a 2), va_rf (h.2.2 a 3), va_rf (h.2.2 a 4), va_rf (h.2.2 a 5), va_rf (h.2.2 a 6), va_rf (h.2.2 a 7), va_rf (h.2.2 a 8), .int (h.2.1 a 9), .int (h.2.1 a 10), va_rf (h.2.2 a 11), va_rf (h.2.2 a 12), .int (h.2.1 a 13), .int (h.2.1 a 14), .int (h.2.1 a 15), va_rf (h.2.2 a 16), va_rf (h.2.2 a 17), va_rf (h.2.2 a 18), va_rf (h.2.2 a 19), .int (h.2.1 a 20)]) (C := RX4) (T := TX4) (N := 21) (ty0 := tyX4) (ty := .array .int) (th_at ha) ⟨in_X4, rfl, by decide, hlk, rfl⟩ ⟨ok_X4, nm_X4, by decide +kernel⟩ rfl hin2 hdecl (th_na _ _) (th_fa _ _) (Nat.le_of_ble_eq_true rfl) hdg (fun H1 locs1 hM1 => kk H1 locs1 ?_)
  rw [← th_upr (k := 1) (v := v) ha]
  exact hM1
theorem gr_10_2 (hC : mx D vwC5 (th_tys cs) th_sx th_nw A p m c cc nL s args TB own) (hM : mw D vwC5 A s.heap (th_g cs h) H locs) (ha : h.1 a = some (10, 0)) (hlk : Cond.fieldLink own index RX4 "size" "[I" ∈ TB) (hdg : decode cc pc = .ok (.getfield index, 3)) {r : Option Nat} (hr : h.2.2 a 2 = r)
    (kk : W p l e R s m args below meth c H locs cells slots Q (F0 m (pc + 3) ls (va_rf r :: rest))) : W p l e R s m args below meth c H locs cells slots Q (F0 m pc ls (.ref a :: rest)) := by
  subst hr
  exact mw_get hC hM (ci := 4) (k := 2) (fs := [.int (h.2.1 a 0), va_rf (h.2.2 a 1), va_rf (h.2.2 a 2), va_rf (h.2.2 a 3), va_rf (h.2.2 a 4), va_rf (h.2.2 a 5), va_rf (h.2.2 a 6), va_rf (h.2.2 a 7), va_rf (h.2.2 a 8), .int (h.2.1 a 9), .int (h.2.1 a 10), va_rf (h.2.2 a 11), va_rf (h.2.2 a 12), .int (h.2.1 a 13), .int (h.2.1 a 14), .int (h.2.1 a 15), va_rf (h.2.2 a 16), va_rf (h.2.2 a 17), va_rf (h.2.2 a 18), va_rf (h.2.2 a 19), .int (h.2.1 a 20)]) (C := RX4) (T := TX4) (N := 21) (th_at ha) ⟨in_X4, rfl, by decide, hlk, rfl⟩ rfl hdg kk
theorem pu_10_2 (hC : mx D vwC5 (th_tys cs) th_sx th_nw A p m c cc nL s args TB own) (hM : mw D vwC5 A s.heap (th_g cs h) H locs) (ha : h.1 a = some (10, 0)) (hlk : Cond.fieldLink own index RX4 "size" "[I" ∈ TB) (hin2 : meth.name = "<init>") (hdecl : RX4 = own) {v : Option Nat} (hdg : decode cc pc = .ok (.putfield index, 3))
    (kk : ∀ (H : Heap) (locs : List Loc), mw D vwC5 A s.heap (th_g cs (th_ur h a 2 v)) H locs → W p l e R s m args below meth c H locs cells slots Q (F0 m (pc + 3) ls rest)) : W p l e R s m args below meth c H locs cells slots Q (F0 m pc ls (va_rf v :: .ref a :: rest)) := by
  refine mw_putF hC hM (ci := 4) (k := 2) (fs := [.int (h.2.1 a 0), va_rf (h.2.2 a 1), va_rf (h.2.2 a 2), va_rf (h.2.2 a 3), va_rf (h.2.2 a 4), va_rf (h.2.2 a 5), va_rf (h.2.2 a 6), va_rf (h.2.2 a 7), va_rf (h.2.2 a 8), .int (h.2.1 a 9), .int (h.2.1 a 10), va_rf (h.2.2 a 11), va_rf (h.2.2 a 12), .int (h.2.1 a 13), .int (h.2.1 a 14), .int (h.2.1 a 15), va_rf (h.2.2 a 16), va_rf (h.2.2 a 17), va_rf (h.2.2 a 18), va_rf (h.2.2 a 19), .int (h.2.1 a 20)]) (C := RX4) (T := TX4) (N := 21) (ty0 := tyX4) (ty := .array .int) (th_at ha) ⟨in_X4, rfl, by decide, hlk, rfl⟩ ⟨ok_X4, nm_X4, by decide +kernel⟩ rfl hin2 hdecl (th_na _ _) (th_fa _ _) (Nat.le_of_ble_eq_true rfl) hdg (fun H1 locs1 hM1 => kk H1 locs1 ?_)
  rw [← th_upr (k := 2) (v := v) ha]
  exact hM1
theorem gr_10_3 (hC : mx D vwC5 (th_tys cs) th_sx th_nw A p m c cc nL s args TB own) (hM : mw D vwC5 A s.heap (th_g cs h) H locs) (ha : h.1 a = some (10, 0)) (hlk : Cond.fieldLink own index RX4 "lock" "[I" ∈ TB) (hdg : decode cc pc = .ok (.getfield index, 3)) {r : Option Nat} (hr : h.2.2 a 3 = r)
    (kk : W p l e R s m args below meth c H locs cells slots Q (F0 m (pc + 3) ls (va_rf r :: rest))) : W p l e R s m args below meth c H locs cells slots Q (F0 m pc ls (.ref a :: rest)) := by
  subst hr
  exact mw_get hC hM (ci := 4) (k := 3) (fs := [.int (h.2.1 a 0), va_rf (h.2.2 a 1), va_rf (h.2.2 a 2), va_rf (h.2.2 a 3), va_rf (h.2.2 a 4), va_rf (h.2.2 a 5), va_rf (h.2.2 a 6), va_rf (h.2.2 a 7), va_rf (h.2.2 a 8), .int (h.2.1 a 9), .int (h.2.1 a 10), va_rf (h.2.2 a 11), va_rf (h.2.2 a 12), .int (h.2.1 a 13), .int (h.2.1 a 14), .int (h.2.1 a 15), va_rf (h.2.2 a 16), va_rf (h.2.2 a 17), va_rf (h.2.2 a 18), va_rf (h.2.2 a 19), .int (h.2.1 a 20)]) (C := RX4) (T := TX4) (N := 21) (th_at ha) ⟨in_X4, rfl, by decide, hlk, rfl⟩ rfl hdg kk
theorem pu_10_3 (hC : mx D vwC5 (th_tys cs) th_sx th_nw A p m c cc nL s args TB own) (hM : mw D vwC5 A s.heap (th_g cs h) H locs) (ha : h.1 a = some (10, 0)) (hlk : Cond.fieldLink own index RX4 "lock" "[I" ∈ TB) (hin2 : meth.name = "<init>") (hdecl : RX4 = own) {v : Option Nat} (hdg : decode cc pc = .ok (.putfield index, 3))
    (kk : ∀ (H : Heap) (locs : List Loc), mw D vwC5 A s.heap (th_g cs (th_ur h a 3 v)) H locs → W p l e R s m args below meth c H locs cells slots Q (F0 m (pc + 3) ls rest)) : W p l e R s m args below meth c H locs cells slots Q (F0 m pc ls (va_rf v :: .ref a :: rest)) := by
  refine mw_putF hC hM (ci := 4) (k := 3) (fs := [.int (h.2.1 a 0), va_rf (h.2.2 a 1), va_rf (h.2.2 a 2), va_rf (h.2.2 a 3), va_rf (h.2.2 a 4), va_rf (h.2.2 a 5), va_rf (h.2.2 a 6), va_rf (h.2.2 a 7), va_rf (h.2.2 a 8), .int (h.2.1 a 9), .int (h.2.1 a 10), va_rf (h.2.2 a 11), va_rf (h.2.2 a 12), .int (h.2.1 a 13), .int (h.2.1 a 14), .int (h.2.1 a 15), va_rf (h.2.2 a 16), va_rf (h.2.2 a 17), va_rf (h.2.2 a 18), va_rf (h.2.2 a 19), .int (h.2.1 a 20)]) (C := RX4) (T := TX4) (N := 21) (ty0 := tyX4) (ty := .array .int) (th_at ha) ⟨in_X4, rfl, by decide, hlk, rfl⟩ ⟨ok_X4, nm_X4, by decide +kernel⟩ rfl hin2 hdecl (th_na _ _) (th_fa _ _) (Nat.le_of_ble_eq_true rfl) hdg (fun H1 locs1 hM1 => kk H1 locs1 ?_)
  rw [← th_upr (k := 3) (v := v) ha]
  exact hM1
theorem gr_10_4 (hC : mx D vwC5 (th_tys cs) th_sx th_nw A p m c cc nL s args TB own) (hM : mw D vwC5 A s.heap (th_g cs h) H locs) (ha : h.1 a = some (10, 0)) (hlk : Cond.fieldLink own index RX4 "refers" "[Z" ∈ TB) (hdg : decode cc pc = .ok (.getfield index, 3)) {r : Option Nat} (hr : h.2.2 a 4 = r)
    (kk : W p l e R s m args below meth c H locs cells slots Q (F0 m (pc + 3) ls (va_rf r :: rest))) : W p l e R s m args below meth c H locs cells slots Q (F0 m pc ls (.ref a :: rest)) := by
  subst hr
  exact mw_get hC hM (ci := 4) (k := 4) (fs := [.int (h.2.1 a 0), va_rf (h.2.2 a 1), va_rf (h.2.2 a 2), va_rf (h.2.2 a 3), va_rf (h.2.2 a 4), va_rf (h.2.2 a 5), va_rf (h.2.2 a 6), va_rf (h.2.2 a 7), va_rf (h.2.2 a 8), .int (h.2.1 a 9), .int (h.2.1 a 10), va_rf (h.2.2 a 11), va_rf (h.2.2 a 12), .int (h.2.1 a 13), .int (h.2.1 a 14), .int (h.2.1 a 15), va_rf (h.2.2 a 16), va_rf (h.2.2 a 17), va_rf (h.2.2 a 18), va_rf (h.2.2 a 19), .int (h.2.1 a 20)]) (C := RX4) (T := TX4) (N := 21) (th_at ha) ⟨in_X4, rfl, by decide, hlk, rfl⟩ rfl hdg kk
theorem pu_10_4 (hC : mx D vwC5 (th_tys cs) th_sx th_nw A p m c cc nL s args TB own) (hM : mw D vwC5 A s.heap (th_g cs h) H locs) (ha : h.1 a = some (10, 0)) (hlk : Cond.fieldLink own index RX4 "refers" "[Z" ∈ TB) (hin2 : meth.name = "<init>") (hdecl : RX4 = own) {v : Option Nat} (hdg : decode cc pc = .ok (.putfield index, 3))
    (kk : ∀ (H : Heap) (locs : List Loc), mw D vwC5 A s.heap (th_g cs (th_ur h a 4 v)) H locs → W p l e R s m args below meth c H locs cells slots Q (F0 m (pc + 3) ls rest)) : W p l e R s m args below meth c H locs cells slots Q (F0 m pc ls (va_rf v :: .ref a :: rest)) := by
  refine mw_putF hC hM (ci := 4) (k := 4) (fs := [.int (h.2.1 a 0), va_rf (h.2.2 a 1), va_rf (h.2.2 a 2), va_rf (h.2.2 a 3), va_rf (h.2.2 a 4), va_rf (h.2.2 a 5), va_rf (h.2.2 a 6), va_rf (h.2.2 a 7), va_rf (h.2.2 a 8), .int (h.2.1 a 9), .int (h.2.1 a 10), va_rf (h.2.2 a 11), va_rf (h.2.2 a 12), .int (h.2.1 a 13), .int (h.2.1 a 14), .int (h.2.1 a 15), va_rf (h.2.2 a 16), va_rf (h.2.2 a 17), va_rf (h.2.2 a 18), va_rf (h.2.2 a 19), .int (h.2.1 a 20)]) (C := RX4) (T := TX4) (N := 21) (ty0 := tyX4) (ty := .array .boolean) (th_at ha) ⟨in_X4, rfl, by decide, hlk, rfl⟩ ⟨ok_X4, nm_X4, by decide +kernel⟩ rfl hin2 hdecl (th_na _ _) (th_fa _ _) (Nat.le_of_ble_eq_true rfl) hdg (fun H1 locs1 hM1 => kk H1 locs1 ?_)
  rw [← th_upr (k := 4) (v := v) ha]
  exact hM1
theorem gr_10_5 (hC : mx D vwC5 (th_tys cs) th_sx th_nw A p m c cc nL s args TB own) (hM : mw D vwC5 A s.heap (th_g cs h) H locs) (ha : h.1 a = some (10, 0)) (hlk : Cond.fieldLink own index RX4 "value" "[I" ∈ TB) (hdg : decode cc pc = .ok (.getfield index, 3)) {r : Option Nat} (hr : h.2.2 a 5 = r)
    (kk : W p l e R s m args below meth c H locs cells slots Q (F0 m (pc + 3) ls (va_rf r :: rest))) : W p l e R s m args below meth c H locs cells slots Q (F0 m pc ls (.ref a :: rest)) := by
  subst hr
  exact mw_get hC hM (ci := 4) (k := 5) (fs := [.int (h.2.1 a 0), va_rf (h.2.2 a 1), va_rf (h.2.2 a 2), va_rf (h.2.2 a 3), va_rf (h.2.2 a 4), va_rf (h.2.2 a 5), va_rf (h.2.2 a 6), va_rf (h.2.2 a 7), va_rf (h.2.2 a 8), .int (h.2.1 a 9), .int (h.2.1 a 10), va_rf (h.2.2 a 11), va_rf (h.2.2 a 12), .int (h.2.1 a 13), .int (h.2.1 a 14), .int (h.2.1 a 15), va_rf (h.2.2 a 16), va_rf (h.2.2 a 17), va_rf (h.2.2 a 18), va_rf (h.2.2 a 19), .int (h.2.1 a 20)]) (C := RX4) (T := TX4) (N := 21) (th_at ha) ⟨in_X4, rfl, by decide, hlk, rfl⟩ rfl hdg kk
theorem pu_10_5 (hC : mx D vwC5 (th_tys cs) th_sx th_nw A p m c cc nL s args TB own) (hM : mw D vwC5 A s.heap (th_g cs h) H locs) (ha : h.1 a = some (10, 0)) (hlk : Cond.fieldLink own index RX4 "value" "[I" ∈ TB) (hin2 : meth.name = "<init>") (hdecl : RX4 = own) {v : Option Nat} (hdg : decode cc pc = .ok (.putfield index, 3))
    (kk : ∀ (H : Heap) (locs : List Loc), mw D vwC5 A s.heap (th_g cs (th_ur h a 5 v)) H locs → W p l e R s m args below meth c H locs cells slots Q (F0 m (pc + 3) ls rest)) : W p l e R s m args below meth c H locs cells slots Q (F0 m pc ls (va_rf v :: .ref a :: rest)) := by
  refine mw_putF hC hM (ci := 4) (k := 5) (fs := [.int (h.2.1 a 0), va_rf (h.2.2 a 1), va_rf (h.2.2 a 2), va_rf (h.2.2 a 3), va_rf (h.2.2 a 4), va_rf (h.2.2 a 5), va_rf (h.2.2 a 6), va_rf (h.2.2 a 7), va_rf (h.2.2 a 8), .int (h.2.1 a 9), .int (h.2.1 a 10), va_rf (h.2.2 a 11), va_rf (h.2.2 a 12), .int (h.2.1 a 13), .int (h.2.1 a 14), .int (h.2.1 a 15), va_rf (h.2.2 a 16), va_rf (h.2.2 a 17), va_rf (h.2.2 a 18), va_rf (h.2.2 a 19), .int (h.2.1 a 20)]) (C := RX4) (T := TX4) (N := 21) (ty0 := tyX4) (ty := .array .int) (th_at ha) ⟨in_X4, rfl, by decide, hlk, rfl⟩ ⟨ok_X4, nm_X4, by decide +kernel⟩ rfl hin2 hdecl (th_na _ _) (th_fa _ _) (Nat.le_of_ble_eq_true rfl) hdg (fun H1 locs1 hM1 => kk H1 locs1 ?_)
  rw [← th_upr (k := 5) (v := v) ha]
  exact hM1
theorem gr_10_6 (hC : mx D vwC5 (th_tys cs) th_sx th_nw A p m c cc nL s args TB own) (hM : mw D vwC5 A s.heap (th_g cs h) H locs) (ha : h.1 a = some (10, 0)) (hlk : Cond.fieldLink own index RX4 "held" "[Z" ∈ TB) (hdg : decode cc pc = .ok (.getfield index, 3)) {r : Option Nat} (hr : h.2.2 a 6 = r)
    (kk : W p l e R s m args below meth c H locs cells slots Q (F0 m (pc + 3) ls (va_rf r :: rest))) : W p l e R s m args below meth c H locs cells slots Q (F0 m pc ls (.ref a :: rest)) := by
  subst hr
  exact mw_get hC hM (ci := 4) (k := 6) (fs := [.int (h.2.1 a 0), va_rf (h.2.2 a 1), va_rf (h.2.2 a 2), va_rf (h.2.2 a 3), va_rf (h.2.2 a 4), va_rf (h.2.2 a 5), va_rf (h.2.2 a 6), va_rf (h.2.2 a 7), va_rf (h.2.2 a 8), .int (h.2.1 a 9), .int (h.2.1 a 10), va_rf (h.2.2 a 11), va_rf (h.2.2 a 12), .int (h.2.1 a 13), .int (h.2.1 a 14), .int (h.2.1 a 15), va_rf (h.2.2 a 16), va_rf (h.2.2 a 17), va_rf (h.2.2 a 18), va_rf (h.2.2 a 19), .int (h.2.1 a 20)]) (C := RX4) (T := TX4) (N := 21) (th_at ha) ⟨in_X4, rfl, by decide, hlk, rfl⟩ rfl hdg kk
theorem pu_10_6 (hC : mx D vwC5 (th_tys cs) th_sx th_nw A p m c cc nL s args TB own) (hM : mw D vwC5 A s.heap (th_g cs h) H locs) (ha : h.1 a = some (10, 0)) (hlk : Cond.fieldLink own index RX4 "held" "[Z" ∈ TB) (hin2 : meth.name = "<init>") (hdecl : RX4 = own) {v : Option Nat} (hdg : decode cc pc = .ok (.putfield index, 3))
    (kk : ∀ (H : Heap) (locs : List Loc), mw D vwC5 A s.heap (th_g cs (th_ur h a 6 v)) H locs → W p l e R s m args below meth c H locs cells slots Q (F0 m (pc + 3) ls rest)) : W p l e R s m args below meth c H locs cells slots Q (F0 m pc ls (va_rf v :: .ref a :: rest)) := by
  refine mw_putF hC hM (ci := 4) (k := 6) (fs := [.int (h.2.1 a 0), va_rf (h.2.2 a 1), va_rf (h.2.2 a 2), va_rf (h.2.2 a 3), va_rf (h.2.2 a 4), va_rf (h.2.2 a 5), va_rf (h.2.2 a 6), va_rf (h.2.2 a 7), va_rf (h.2.2 a 8), .int (h.2.1 a 9), .int (h.2.1 a 10), va_rf (h.2.2 a 11), va_rf (h.2.2 a 12), .int (h.2.1 a 13), .int (h.2.1 a 14), .int (h.2.1 a 15), va_rf (h.2.2 a 16), va_rf (h.2.2 a 17), va_rf (h.2.2 a 18), va_rf (h.2.2 a 19), .int (h.2.1 a 20)]) (C := RX4) (T := TX4) (N := 21) (ty0 := tyX4) (ty := .array .boolean) (th_at ha) ⟨in_X4, rfl, by decide, hlk, rfl⟩ ⟨ok_X4, nm_X4, by decide +kernel⟩ rfl hin2 hdecl (th_na _ _) (th_fa _ _) (Nat.le_of_ble_eq_true rfl) hdg (fun H1 locs1 hM1 => kk H1 locs1 ?_)
  rw [← th_upr (k := 6) (v := v) ha]
  exact hM1
theorem gr_10_7 (hC : mx D vwC5 (th_tys cs) th_sx th_nw A p m c cc nL s args TB own) (hM : mw D vwC5 A s.heap (th_g cs h) H locs) (ha : h.1 a = some (10, 0)) (hlk : Cond.fieldLink own index RX4 "root" "[I" ∈ TB) (hdg : decode cc pc = .ok (.getfield index, 3)) {r : Option Nat} (hr : h.2.2 a 7 = r)
    (kk : W p l e R s m args below meth c H locs cells slots Q (F0 m (pc + 3) ls (va_rf r :: rest))) : W p l e R s m args below meth c H locs cells slots Q (F0 m pc ls (.ref a :: rest)) := by
  subst hr
  exact mw_get hC hM (ci := 4) (k := 7) (fs := [.int (h.2.1 a 0), va_rf (h.2.2 a 1), va_rf (h.2.2 a 2), va_rf (h.2.2 a 3), va_rf (h.2.2 a 4), va_rf (h.2.2 a 5), va_rf (h.2.2 a 6), va_rf (h.2.2 a 7), va_rf (h.2.2 a 8), .int (h.2.1 a 9), .int (h.2.1 a 10), va_rf (h.2.2 a 11), va_rf (h.2.2 a 12), .int (h.2.1 a 13), .int (h.2.1 a 14), .int (h.2.1 a 15), va_rf (h.2.2 a 16), va_rf (h.2.2 a 17), va_rf (h.2.2 a 18), va_rf (h.2.2 a 19), .int (h.2.1 a 20)]) (C := RX4) (T := TX4) (N := 21) (th_at ha) ⟨in_X4, rfl, by decide, hlk, rfl⟩ rfl hdg kk
theorem pu_10_7 (hC : mx D vwC5 (th_tys cs) th_sx th_nw A p m c cc nL s args TB own) (hM : mw D vwC5 A s.heap (th_g cs h) H locs) (ha : h.1 a = some (10, 0)) (hlk : Cond.fieldLink own index RX4 "root" "[I" ∈ TB) (hin2 : meth.name = "<init>") (hdecl : RX4 = own) {v : Option Nat} (hdg : decode cc pc = .ok (.putfield index, 3))
    (kk : ∀ (H : Heap) (locs : List Loc), mw D vwC5 A s.heap (th_g cs (th_ur h a 7 v)) H locs → W p l e R s m args below meth c H locs cells slots Q (F0 m (pc + 3) ls rest)) : W p l e R s m args below meth c H locs cells slots Q (F0 m pc ls (va_rf v :: .ref a :: rest)) := by
  refine mw_putF hC hM (ci := 4) (k := 7) (fs := [.int (h.2.1 a 0), va_rf (h.2.2 a 1), va_rf (h.2.2 a 2), va_rf (h.2.2 a 3), va_rf (h.2.2 a 4), va_rf (h.2.2 a 5), va_rf (h.2.2 a 6), va_rf (h.2.2 a 7), va_rf (h.2.2 a 8), .int (h.2.1 a 9), .int (h.2.1 a 10), va_rf (h.2.2 a 11), va_rf (h.2.2 a 12), .int (h.2.1 a 13), .int (h.2.1 a 14), .int (h.2.1 a 15), va_rf (h.2.2 a 16), va_rf (h.2.2 a 17), va_rf (h.2.2 a 18), va_rf (h.2.2 a 19), .int (h.2.1 a 20)]) (C := RX4) (T := TX4) (N := 21) (ty0 := tyX4) (ty := .array .int) (th_at ha) ⟨in_X4, rfl, by decide, hlk, rfl⟩ ⟨ok_X4, nm_X4, by decide +kernel⟩ rfl hin2 hdecl (th_na _ _) (th_fa _ _) (Nat.le_of_ble_eq_true rfl) hdg (fun H1 locs1 hM1 => kk H1 locs1 ?_)
  rw [← th_upr (k := 7) (v := v) ha]
  exact hM1
theorem gr_10_8 (hC : mx D vwC5 (th_tys cs) th_sx th_nw A p m c cc nL s args TB own) (hM : mw D vwC5 A s.heap (th_g cs h) H locs) (ha : h.1 a = some (10, 0)) (hlk : Cond.fieldLink own index RX4 "rootLock" "[I" ∈ TB) (hdg : decode cc pc = .ok (.getfield index, 3)) {r : Option Nat} (hr : h.2.2 a 8 = r)
    (kk : W p l e R s m args below meth c H locs cells slots Q (F0 m (pc + 3) ls (va_rf r :: rest))) : W p l e R s m args below meth c H locs cells slots Q (F0 m pc ls (.ref a :: rest)) := by
  subst hr
  exact mw_get hC hM (ci := 4) (k := 8) (fs := [.int (h.2.1 a 0), va_rf (h.2.2 a 1), va_rf (h.2.2 a 2), va_rf (h.2.2 a 3), va_rf (h.2.2 a 4), va_rf (h.2.2 a 5), va_rf (h.2.2 a 6), va_rf (h.2.2 a 7), va_rf (h.2.2 a 8), .int (h.2.1 a 9), .int (h.2.1 a 10), va_rf (h.2.2 a 11), va_rf (h.2.2 a 12), .int (h.2.1 a 13), .int (h.2.1 a 14), .int (h.2.1 a 15), va_rf (h.2.2 a 16), va_rf (h.2.2 a 17), va_rf (h.2.2 a 18), va_rf (h.2.2 a 19), .int (h.2.1 a 20)]) (C := RX4) (T := TX4) (N := 21) (th_at ha) ⟨in_X4, rfl, by decide, hlk, rfl⟩ rfl hdg kk
theorem pu_10_8 (hC : mx D vwC5 (th_tys cs) th_sx th_nw A p m c cc nL s args TB own) (hM : mw D vwC5 A s.heap (th_g cs h) H locs) (ha : h.1 a = some (10, 0)) (hlk : Cond.fieldLink own index RX4 "rootLock" "[I" ∈ TB) (hin2 : meth.name = "<init>") (hdecl : RX4 = own) {v : Option Nat} (hdg : decode cc pc = .ok (.putfield index, 3))
    (kk : ∀ (H : Heap) (locs : List Loc), mw D vwC5 A s.heap (th_g cs (th_ur h a 8 v)) H locs → W p l e R s m args below meth c H locs cells slots Q (F0 m (pc + 3) ls rest)) : W p l e R s m args below meth c H locs cells slots Q (F0 m pc ls (va_rf v :: .ref a :: rest)) := by
  refine mw_putF hC hM (ci := 4) (k := 8) (fs := [.int (h.2.1 a 0), va_rf (h.2.2 a 1), va_rf (h.2.2 a 2), va_rf (h.2.2 a 3), va_rf (h.2.2 a 4), va_rf (h.2.2 a 5), va_rf (h.2.2 a 6), va_rf (h.2.2 a 7), va_rf (h.2.2 a 8), .int (h.2.1 a 9), .int (h.2.1 a 10), va_rf (h.2.2 a 11), va_rf (h.2.2 a 12), .int (h.2.1 a 13), .int (h.2.1 a 14), .int (h.2.1 a 15), va_rf (h.2.2 a 16), va_rf (h.2.2 a 17), va_rf (h.2.2 a 18), va_rf (h.2.2 a 19), .int (h.2.1 a 20)]) (C := RX4) (T := TX4) (N := 21) (ty0 := tyX4) (ty := .array .int) (th_at ha) ⟨in_X4, rfl, by decide, hlk, rfl⟩ ⟨ok_X4, nm_X4, by decide +kernel⟩ rfl hin2 hdecl (th_na _ _) (th_fa _ _) (Nat.le_of_ble_eq_true rfl) hdg (fun H1 locs1 hM1 => kk H1 locs1 ?_)
  rw [← th_upr (k := 8) (v := v) ha]
  exact hM1
theorem gi_10_9 (hC : mx D vwC5 (th_tys cs) th_sx th_nw A p m c cc nL s args TB own) (hM : mw D vwC5 A s.heap (th_g cs h) H locs) (ha : h.1 a = some (10, 0)) (hlk : Cond.fieldLink own index RX4 "given" "I" ∈ TB) (hdg : decode cc pc = .ok (.getfield index, 3))
    (kk : W p l e R s m args below meth c H locs cells slots Q (F0 m (pc + 3) ls (.int (h.2.1 a 9) :: rest))) : W p l e R s m args below meth c H locs cells slots Q (F0 m pc ls (.ref a :: rest)) :=
  mw_get hC hM (ci := 4) (k := 9) (fs := [.int (h.2.1 a 0), va_rf (h.2.2 a 1), va_rf (h.2.2 a 2), va_rf (h.2.2 a 3), va_rf (h.2.2 a 4), va_rf (h.2.2 a 5), va_rf (h.2.2 a 6), va_rf (h.2.2 a 7), va_rf (h.2.2 a 8), .int (h.2.1 a 9), .int (h.2.1 a 10), va_rf (h.2.2 a 11), va_rf (h.2.2 a 12), .int (h.2.1 a 13), .int (h.2.1 a 14), .int (h.2.1 a 15), va_rf (h.2.2 a 16), va_rf (h.2.2 a 17), va_rf (h.2.2 a 18), va_rf (h.2.2 a 19), .int (h.2.1 a 20)]) (C := RX4) (T := TX4) (N := 21) (th_at ha) ⟨in_X4, rfl, by decide, hlk, rfl⟩ rfl hdg kk
theorem pu_10_9 (hC : mx D vwC5 (th_tys cs) th_sx th_nw A p m c cc nL s args TB own) (hM : mw D vwC5 A s.heap (th_g cs h) H locs) (ha : h.1 a = some (10, 0)) (hlk : Cond.fieldLink own index RX4 "given" "I" ∈ TB) {v : Int32} (hdg : decode cc pc = .ok (.putfield index, 3))
    (kk : ∀ (H : Heap) (locs : List Loc), mw D vwC5 A s.heap (th_g cs (th_ui h a 9 v)) H locs → W p l e R s m args below meth c H locs cells slots Q (F0 m (pc + 3) ls rest)) : W p l e R s m args below meth c H locs cells slots Q (F0 m pc ls (.int v :: .ref a :: rest)) := by
  refine mw_put hC hM (ci := 4) (k := 9) (fs := [.int (h.2.1 a 0), va_rf (h.2.2 a 1), va_rf (h.2.2 a 2), va_rf (h.2.2 a 3), va_rf (h.2.2 a 4), va_rf (h.2.2 a 5), va_rf (h.2.2 a 6), va_rf (h.2.2 a 7), va_rf (h.2.2 a 8), .int (h.2.1 a 9), .int (h.2.1 a 10), va_rf (h.2.2 a 11), va_rf (h.2.2 a 12), .int (h.2.1 a 13), .int (h.2.1 a 14), .int (h.2.1 a 15), va_rf (h.2.2 a 16), va_rf (h.2.2 a 17), va_rf (h.2.2 a 18), va_rf (h.2.2 a 19), .int (h.2.1 a 20)]) (C := RX4) (T := TX4) (N := 21) (ty0 := tyX4) (ty := .int) (th_at ha) ⟨in_X4, rfl, by decide, hlk, rfl⟩ ⟨ok_X4, nm_X4, by decide +kernel⟩ rfl rfl rfl (Nat.le_of_ble_eq_true rfl) hdg (fun H1 locs1 hM1 => kk H1 locs1 ?_)
  rw [← th_upi (k := 9) (v := v) ha]
  exact hM1
theorem gi_10_10 (hC : mx D vwC5 (th_tys cs) th_sx th_nw A p m c cc nL s args TB own) (hM : mw D vwC5 A s.heap (th_g cs h) H locs) (ha : h.1 a = some (10, 0)) (hlk : Cond.fieldLink own index RX4 "used" "I" ∈ TB) (hdg : decode cc pc = .ok (.getfield index, 3))
    (kk : W p l e R s m args below meth c H locs cells slots Q (F0 m (pc + 3) ls (.int (h.2.1 a 10) :: rest))) : W p l e R s m args below meth c H locs cells slots Q (F0 m pc ls (.ref a :: rest)) :=
  mw_get hC hM (ci := 4) (k := 10) (fs := [.int (h.2.1 a 0), va_rf (h.2.2 a 1), va_rf (h.2.2 a 2), va_rf (h.2.2 a 3), va_rf (h.2.2 a 4), va_rf (h.2.2 a 5), va_rf (h.2.2 a 6), va_rf (h.2.2 a 7), va_rf (h.2.2 a 8), .int (h.2.1 a 9), .int (h.2.1 a 10), va_rf (h.2.2 a 11), va_rf (h.2.2 a 12), .int (h.2.1 a 13), .int (h.2.1 a 14), .int (h.2.1 a 15), va_rf (h.2.2 a 16), va_rf (h.2.2 a 17), va_rf (h.2.2 a 18), va_rf (h.2.2 a 19), .int (h.2.1 a 20)]) (C := RX4) (T := TX4) (N := 21) (th_at ha) ⟨in_X4, rfl, by decide, hlk, rfl⟩ rfl hdg kk
theorem pu_10_10 (hC : mx D vwC5 (th_tys cs) th_sx th_nw A p m c cc nL s args TB own) (hM : mw D vwC5 A s.heap (th_g cs h) H locs) (ha : h.1 a = some (10, 0)) (hlk : Cond.fieldLink own index RX4 "used" "I" ∈ TB) {v : Int32} (hdg : decode cc pc = .ok (.putfield index, 3))
    (kk : ∀ (H : Heap) (locs : List Loc), mw D vwC5 A s.heap (th_g cs (th_ui h a 10 v)) H locs → W p l e R s m args below meth c H locs cells slots Q (F0 m (pc + 3) ls rest)) : W p l e R s m args below meth c H locs cells slots Q (F0 m pc ls (.int v :: .ref a :: rest)) := by
  refine mw_put hC hM (ci := 4) (k := 10) (fs := [.int (h.2.1 a 0), va_rf (h.2.2 a 1), va_rf (h.2.2 a 2), va_rf (h.2.2 a 3), va_rf (h.2.2 a 4), va_rf (h.2.2 a 5), va_rf (h.2.2 a 6), va_rf (h.2.2 a 7), va_rf (h.2.2 a 8), .int (h.2.1 a 9), .int (h.2.1 a 10), va_rf (h.2.2 a 11), va_rf (h.2.2 a 12), .int (h.2.1 a 13), .int (h.2.1 a 14), .int (h.2.1 a 15), va_rf (h.2.2 a 16), va_rf (h.2.2 a 17), va_rf (h.2.2 a 18), va_rf (h.2.2 a 19), .int (h.2.1 a 20)]) (C := RX4) (T := TX4) (N := 21) (ty0 := tyX4) (ty := .int) (th_at ha) ⟨in_X4, rfl, by decide, hlk, rfl⟩ ⟨ok_X4, nm_X4, by decide +kernel⟩ rfl rfl rfl (Nat.le_of_ble_eq_true rfl) hdg (fun H1 locs1 hM1 => kk H1 locs1 ?_)
  rw [← th_upi (k := 10) (v := v) ha]
  exact hM1
theorem gr_10_11 (hC : mx D vwC5 (th_tys cs) th_sx th_nw A p m c cc nL s args TB own) (hM : mw D vwC5 A s.heap (th_g cs h) H locs) (ha : h.1 a = some (10, 0)) (hlk : Cond.fieldLink own index RX4 "active" "[I" ∈ TB) (hdg : decode cc pc = .ok (.getfield index, 3)) {r : Option Nat} (hr : h.2.2 a 11 = r)
    (kk : W p l e R s m args below meth c H locs cells slots Q (F0 m (pc + 3) ls (va_rf r :: rest))) : W p l e R s m args below meth c H locs cells slots Q (F0 m pc ls (.ref a :: rest)) := by
  subst hr
  exact mw_get hC hM (ci := 4) (k := 11) (fs := [.int (h.2.1 a 0), va_rf (h.2.2 a 1), va_rf (h.2.2 a 2), va_rf (h.2.2 a 3), va_rf (h.2.2 a 4), va_rf (h.2.2 a 5), va_rf (h.2.2 a 6), va_rf (h.2.2 a 7), va_rf (h.2.2 a 8), .int (h.2.1 a 9), .int (h.2.1 a 10), va_rf (h.2.2 a 11), va_rf (h.2.2 a 12), .int (h.2.1 a 13), .int (h.2.1 a 14), .int (h.2.1 a 15), va_rf (h.2.2 a 16), va_rf (h.2.2 a 17), va_rf (h.2.2 a 18), va_rf (h.2.2 a 19), .int (h.2.1 a 20)]) (C := RX4) (T := TX4) (N := 21) (th_at ha) ⟨in_X4, rfl, by decide, hlk, rfl⟩ rfl hdg kk
theorem pu_10_11 (hC : mx D vwC5 (th_tys cs) th_sx th_nw A p m c cc nL s args TB own) (hM : mw D vwC5 A s.heap (th_g cs h) H locs) (ha : h.1 a = some (10, 0)) (hlk : Cond.fieldLink own index RX4 "active" "[I" ∈ TB) (hin2 : meth.name = "<init>") (hdecl : RX4 = own) {v : Option Nat} (hdg : decode cc pc = .ok (.putfield index, 3))
    (kk : ∀ (H : Heap) (locs : List Loc), mw D vwC5 A s.heap (th_g cs (th_ur h a 11 v)) H locs → W p l e R s m args below meth c H locs cells slots Q (F0 m (pc + 3) ls rest)) : W p l e R s m args below meth c H locs cells slots Q (F0 m pc ls (va_rf v :: .ref a :: rest)) := by
  refine mw_putF hC hM (ci := 4) (k := 11) (fs := [.int (h.2.1 a 0), va_rf (h.2.2 a 1), va_rf (h.2.2 a 2), va_rf (h.2.2 a 3), va_rf (h.2.2 a 4), va_rf (h.2.2 a 5), va_rf (h.2.2 a 6), va_rf (h.2.2 a 7), va_rf (h.2.2 a 8), .int (h.2.1 a 9), .int (h.2.1 a 10), va_rf (h.2.2 a 11), va_rf (h.2.2 a 12), .int (h.2.1 a 13), .int (h.2.1 a 14), .int (h.2.1 a 15), va_rf (h.2.2 a 16), va_rf (h.2.2 a 17), va_rf (h.2.2 a 18), va_rf (h.2.2 a 19), .int (h.2.1 a 20)]) (C := RX4) (T := TX4) (N := 21) (ty0 := tyX4) (ty := .array .int) (th_at ha) ⟨in_X4, rfl, by decide, hlk, rfl⟩ ⟨ok_X4, nm_X4, by decide +kernel⟩ rfl hin2 hdecl (th_na _ _) (th_fa _ _) (Nat.le_of_ble_eq_true rfl) hdg (fun H1 locs1 hM1 => kk H1 locs1 ?_)
  rw [← th_upr (k := 11) (v := v) ha]
  exact hM1
theorem gr_10_12 (hC : mx D vwC5 (th_tys cs) th_sx th_nw A p m c cc nL s args TB own) (hM : mw D vwC5 A s.heap (th_g cs h) H locs) (ha : h.1 a = some (10, 0)) (hlk : Cond.fieldLink own index RX4 "words" "[I" ∈ TB) (hdg : decode cc pc = .ok (.getfield index, 3)) {r : Option Nat} (hr : h.2.2 a 12 = r)
    (kk : W p l e R s m args below meth c H locs cells slots Q (F0 m (pc + 3) ls (va_rf r :: rest))) : W p l e R s m args below meth c H locs cells slots Q (F0 m pc ls (.ref a :: rest)) := by
  subst hr
  exact mw_get hC hM (ci := 4) (k := 12) (fs := [.int (h.2.1 a 0), va_rf (h.2.2 a 1), va_rf (h.2.2 a 2), va_rf (h.2.2 a 3), va_rf (h.2.2 a 4), va_rf (h.2.2 a 5), va_rf (h.2.2 a 6), va_rf (h.2.2 a 7), va_rf (h.2.2 a 8), .int (h.2.1 a 9), .int (h.2.1 a 10), va_rf (h.2.2 a 11), va_rf (h.2.2 a 12), .int (h.2.1 a 13), .int (h.2.1 a 14), .int (h.2.1 a 15), va_rf (h.2.2 a 16), va_rf (h.2.2 a 17), va_rf (h.2.2 a 18), va_rf (h.2.2 a 19), .int (h.2.1 a 20)]) (C := RX4) (T := TX4) (N := 21) (th_at ha) ⟨in_X4, rfl, by decide, hlk, rfl⟩ rfl hdg kk
theorem pu_10_12 (hC : mx D vwC5 (th_tys cs) th_sx th_nw A p m c cc nL s args TB own) (hM : mw D vwC5 A s.heap (th_g cs h) H locs) (ha : h.1 a = some (10, 0)) (hlk : Cond.fieldLink own index RX4 "words" "[I" ∈ TB) (hin2 : meth.name = "<init>") (hdecl : RX4 = own) {v : Option Nat} (hdg : decode cc pc = .ok (.putfield index, 3))
    (kk : ∀ (H : Heap) (locs : List Loc), mw D vwC5 A s.heap (th_g cs (th_ur h a 12 v)) H locs → W p l e R s m args below meth c H locs cells slots Q (F0 m (pc + 3) ls rest)) : W p l e R s m args below meth c H locs cells slots Q (F0 m pc ls (va_rf v :: .ref a :: rest)) := by
  refine mw_putF hC hM (ci := 4) (k := 12) (fs := [.int (h.2.1 a 0), va_rf (h.2.2 a 1), va_rf (h.2.2 a 2), va_rf (h.2.2 a 3), va_rf (h.2.2 a 4), va_rf (h.2.2 a 5), va_rf (h.2.2 a 6), va_rf (h.2.2 a 7), va_rf (h.2.2 a 8), .int (h.2.1 a 9), .int (h.2.1 a 10), va_rf (h.2.2 a 11), va_rf (h.2.2 a 12), .int (h.2.1 a 13), .int (h.2.1 a 14), .int (h.2.1 a 15), va_rf (h.2.2 a 16), va_rf (h.2.2 a 17), va_rf (h.2.2 a 18), va_rf (h.2.2 a 19), .int (h.2.1 a 20)]) (C := RX4) (T := TX4) (N := 21) (ty0 := tyX4) (ty := .array .int) (th_at ha) ⟨in_X4, rfl, by decide, hlk, rfl⟩ ⟨ok_X4, nm_X4, by decide +kernel⟩ rfl hin2 hdecl (th_na _ _) (th_fa _ _) (Nat.le_of_ble_eq_true rfl) hdg (fun H1 locs1 hM1 => kk H1 locs1 ?_)
  rw [← th_upr (k := 12) (v := v) ha]
  exact hM1
theorem gi_10_13 (hC : mx D vwC5 (th_tys cs) th_sx th_nw A p m c cc nL s args TB own) (hM : mw D vwC5 A s.heap (th_g cs h) H locs) (ha : h.1 a = some (10, 0)) (hlk : Cond.fieldLink own index RX4 "begun" "I" ∈ TB) (hdg : decode cc pc = .ok (.getfield index, 3))
    (kk : W p l e R s m args below meth c H locs cells slots Q (F0 m (pc + 3) ls (.int (h.2.1 a 13) :: rest))) : W p l e R s m args below meth c H locs cells slots Q (F0 m pc ls (.ref a :: rest)) :=
  mw_get hC hM (ci := 4) (k := 13) (fs := [.int (h.2.1 a 0), va_rf (h.2.2 a 1), va_rf (h.2.2 a 2), va_rf (h.2.2 a 3), va_rf (h.2.2 a 4), va_rf (h.2.2 a 5), va_rf (h.2.2 a 6), va_rf (h.2.2 a 7), va_rf (h.2.2 a 8), .int (h.2.1 a 9), .int (h.2.1 a 10), va_rf (h.2.2 a 11), va_rf (h.2.2 a 12), .int (h.2.1 a 13), .int (h.2.1 a 14), .int (h.2.1 a 15), va_rf (h.2.2 a 16), va_rf (h.2.2 a 17), va_rf (h.2.2 a 18), va_rf (h.2.2 a 19), .int (h.2.1 a 20)]) (C := RX4) (T := TX4) (N := 21) (th_at ha) ⟨in_X4, rfl, by decide, hlk, rfl⟩ rfl hdg kk
theorem pu_10_13 (hC : mx D vwC5 (th_tys cs) th_sx th_nw A p m c cc nL s args TB own) (hM : mw D vwC5 A s.heap (th_g cs h) H locs) (ha : h.1 a = some (10, 0)) (hlk : Cond.fieldLink own index RX4 "begun" "I" ∈ TB) {v : Int32} (hdg : decode cc pc = .ok (.putfield index, 3))
    (kk : ∀ (H : Heap) (locs : List Loc), mw D vwC5 A s.heap (th_g cs (th_ui h a 13 v)) H locs → W p l e R s m args below meth c H locs cells slots Q (F0 m (pc + 3) ls rest)) : W p l e R s m args below meth c H locs cells slots Q (F0 m pc ls (.int v :: .ref a :: rest)) := by
  refine mw_put hC hM (ci := 4) (k := 13) (fs := [.int (h.2.1 a 0), va_rf (h.2.2 a 1), va_rf (h.2.2 a 2), va_rf (h.2.2 a 3), va_rf (h.2.2 a 4), va_rf (h.2.2 a 5), va_rf (h.2.2 a 6), va_rf (h.2.2 a 7), va_rf (h.2.2 a 8), .int (h.2.1 a 9), .int (h.2.1 a 10), va_rf (h.2.2 a 11), va_rf (h.2.2 a 12), .int (h.2.1 a 13), .int (h.2.1 a 14), .int (h.2.1 a 15), va_rf (h.2.2 a 16), va_rf (h.2.2 a 17), va_rf (h.2.2 a 18), va_rf (h.2.2 a 19), .int (h.2.1 a 20)]) (C := RX4) (T := TX4) (N := 21) (ty0 := tyX4) (ty := .int) (th_at ha) ⟨in_X4, rfl, by decide, hlk, rfl⟩ ⟨ok_X4, nm_X4, by decide +kernel⟩ rfl rfl rfl (Nat.le_of_ble_eq_true rfl) hdg (fun H1 locs1 hM1 => kk H1 locs1 ?_)
  rw [← th_upi (k := 13) (v := v) ha]
  exact hM1
theorem gi_10_14 (hC : mx D vwC5 (th_tys cs) th_sx th_nw A p m c cc nL s args TB own) (hM : mw D vwC5 A s.heap (th_g cs h) H locs) (ha : h.1 a = some (10, 0)) (hlk : Cond.fieldLink own index RX4 "settled" "I" ∈ TB) (hdg : decode cc pc = .ok (.getfield index, 3))
    (kk : W p l e R s m args below meth c H locs cells slots Q (F0 m (pc + 3) ls (.int (h.2.1 a 14) :: rest))) : W p l e R s m args below meth c H locs cells slots Q (F0 m pc ls (.ref a :: rest)) :=
  mw_get hC hM (ci := 4) (k := 14) (fs := [.int (h.2.1 a 0), va_rf (h.2.2 a 1), va_rf (h.2.2 a 2), va_rf (h.2.2 a 3), va_rf (h.2.2 a 4), va_rf (h.2.2 a 5), va_rf (h.2.2 a 6), va_rf (h.2.2 a 7), va_rf (h.2.2 a 8), .int (h.2.1 a 9), .int (h.2.1 a 10), va_rf (h.2.2 a 11), va_rf (h.2.2 a 12), .int (h.2.1 a 13), .int (h.2.1 a 14), .int (h.2.1 a 15), va_rf (h.2.2 a 16), va_rf (h.2.2 a 17), va_rf (h.2.2 a 18), va_rf (h.2.2 a 19), .int (h.2.1 a 20)]) (C := RX4) (T := TX4) (N := 21) (th_at ha) ⟨in_X4, rfl, by decide, hlk, rfl⟩ rfl hdg kk
theorem pu_10_14 (hC : mx D vwC5 (th_tys cs) th_sx th_nw A p m c cc nL s args TB own) (hM : mw D vwC5 A s.heap (th_g cs h) H locs) (ha : h.1 a = some (10, 0)) (hlk : Cond.fieldLink own index RX4 "settled" "I" ∈ TB) {v : Int32} (hdg : decode cc pc = .ok (.putfield index, 3))
    (kk : ∀ (H : Heap) (locs : List Loc), mw D vwC5 A s.heap (th_g cs (th_ui h a 14 v)) H locs → W p l e R s m args below meth c H locs cells slots Q (F0 m (pc + 3) ls rest)) : W p l e R s m args below meth c H locs cells slots Q (F0 m pc ls (.int v :: .ref a :: rest)) := by
  refine mw_put hC hM (ci := 4) (k := 14) (fs := [.int (h.2.1 a 0), va_rf (h.2.2 a 1), va_rf (h.2.2 a 2), va_rf (h.2.2 a 3), va_rf (h.2.2 a 4), va_rf (h.2.2 a 5), va_rf (h.2.2 a 6), va_rf (h.2.2 a 7), va_rf (h.2.2 a 8), .int (h.2.1 a 9), .int (h.2.1 a 10), va_rf (h.2.2 a 11), va_rf (h.2.2 a 12), .int (h.2.1 a 13), .int (h.2.1 a 14), .int (h.2.1 a 15), va_rf (h.2.2 a 16), va_rf (h.2.2 a 17), va_rf (h.2.2 a 18), va_rf (h.2.2 a 19), .int (h.2.1 a 20)]) (C := RX4) (T := TX4) (N := 21) (ty0 := tyX4) (ty := .int) (th_at ha) ⟨in_X4, rfl, by decide, hlk, rfl⟩ ⟨ok_X4, nm_X4, by decide +kernel⟩ rfl rfl rfl (Nat.le_of_ble_eq_true rfl) hdg (fun H1 locs1 hM1 => kk H1 locs1 ?_)
  rw [← th_upi (k := 14) (v := v) ha]
  exact hM1
theorem gi_10_15 (hC : mx D vwC5 (th_tys cs) th_sx th_nw A p m c cc nL s args TB own) (hM : mw D vwC5 A s.heap (th_g cs h) H locs) (ha : h.1 a = some (10, 0)) (hlk : Cond.fieldLink own index RX4 "flips" "I" ∈ TB) (hdg : decode cc pc = .ok (.getfield index, 3))
    (kk : W p l e R s m args below meth c H locs cells slots Q (F0 m (pc + 3) ls (.int (h.2.1 a 15) :: rest))) : W p l e R s m args below meth c H locs cells slots Q (F0 m pc ls (.ref a :: rest)) :=
  mw_get hC hM (ci := 4) (k := 15) (fs := [.int (h.2.1 a 0), va_rf (h.2.2 a 1), va_rf (h.2.2 a 2), va_rf (h.2.2 a 3), va_rf (h.2.2 a 4), va_rf (h.2.2 a 5), va_rf (h.2.2 a 6), va_rf (h.2.2 a 7), va_rf (h.2.2 a 8), .int (h.2.1 a 9), .int (h.2.1 a 10), va_rf (h.2.2 a 11), va_rf (h.2.2 a 12), .int (h.2.1 a 13), .int (h.2.1 a 14), .int (h.2.1 a 15), va_rf (h.2.2 a 16), va_rf (h.2.2 a 17), va_rf (h.2.2 a 18), va_rf (h.2.2 a 19), .int (h.2.1 a 20)]) (C := RX4) (T := TX4) (N := 21) (th_at ha) ⟨in_X4, rfl, by decide, hlk, rfl⟩ rfl hdg kk
theorem pu_10_15 (hC : mx D vwC5 (th_tys cs) th_sx th_nw A p m c cc nL s args TB own) (hM : mw D vwC5 A s.heap (th_g cs h) H locs) (ha : h.1 a = some (10, 0)) (hlk : Cond.fieldLink own index RX4 "flips" "I" ∈ TB) {v : Int32} (hdg : decode cc pc = .ok (.putfield index, 3))
    (kk : ∀ (H : Heap) (locs : List Loc), mw D vwC5 A s.heap (th_g cs (th_ui h a 15 v)) H locs → W p l e R s m args below meth c H locs cells slots Q (F0 m (pc + 3) ls rest)) : W p l e R s m args below meth c H locs cells slots Q (F0 m pc ls (.int v :: .ref a :: rest)) := by
  refine mw_put hC hM (ci := 4) (k := 15) (fs := [.int (h.2.1 a 0), va_rf (h.2.2 a 1), va_rf (h.2.2 a 2), va_rf (h.2.2 a 3), va_rf (h.2.2 a 4), va_rf (h.2.2 a 5), va_rf (h.2.2 a 6), va_rf (h.2.2 a 7), va_rf (h.2.2 a 8), .int (h.2.1 a 9), .int (h.2.1 a 10), va_rf (h.2.2 a 11), va_rf (h.2.2 a 12), .int (h.2.1 a 13), .int (h.2.1 a 14), .int (h.2.1 a 15), va_rf (h.2.2 a 16), va_rf (h.2.2 a 17), va_rf (h.2.2 a 18), va_rf (h.2.2 a 19), .int (h.2.1 a 20)]) (C := RX4) (T := TX4) (N := 21) (ty0 := tyX4) (ty := .int) (th_at ha) ⟨in_X4, rfl, by decide, hlk, rfl⟩ ⟨ok_X4, nm_X4, by decide +kernel⟩ rfl rfl rfl (Nat.le_of_ble_eq_true rfl) hdg (fun H1 locs1 hM1 => kk H1 locs1 ?_)
  rw [← th_upi (k := 15) (v := v) ha]
  exact hM1
theorem gr_10_16 (hC : mx D vwC5 (th_tys cs) th_sx th_nw A p m c cc nL s args TB own) (hM : mw D vwC5 A s.heap (th_g cs h) H locs) (ha : h.1 a = some (10, 0)) (hlk : Cond.fieldLink own index RX4 "undoBy" "[I" ∈ TB) (hdg : decode cc pc = .ok (.getfield index, 3)) {r : Option Nat} (hr : h.2.2 a 16 = r)
    (kk : W p l e R s m args below meth c H locs cells slots Q (F0 m (pc + 3) ls (va_rf r :: rest))) : W p l e R s m args below meth c H locs cells slots Q (F0 m pc ls (.ref a :: rest)) := by
  subst hr
  exact mw_get hC hM (ci := 4) (k := 16) (fs := [.int (h.2.1 a 0), va_rf (h.2.2 a 1), va_rf (h.2.2 a 2), va_rf (h.2.2 a 3), va_rf (h.2.2 a 4), va_rf (h.2.2 a 5), va_rf (h.2.2 a 6), va_rf (h.2.2 a 7), va_rf (h.2.2 a 8), .int (h.2.1 a 9), .int (h.2.1 a 10), va_rf (h.2.2 a 11), va_rf (h.2.2 a 12), .int (h.2.1 a 13), .int (h.2.1 a 14), .int (h.2.1 a 15), va_rf (h.2.2 a 16), va_rf (h.2.2 a 17), va_rf (h.2.2 a 18), va_rf (h.2.2 a 19), .int (h.2.1 a 20)]) (C := RX4) (T := TX4) (N := 21) (th_at ha) ⟨in_X4, rfl, by decide, hlk, rfl⟩ rfl hdg kk
theorem pu_10_16 (hC : mx D vwC5 (th_tys cs) th_sx th_nw A p m c cc nL s args TB own) (hM : mw D vwC5 A s.heap (th_g cs h) H locs) (ha : h.1 a = some (10, 0)) (hlk : Cond.fieldLink own index RX4 "undoBy" "[I" ∈ TB) (hin2 : meth.name = "<init>") (hdecl : RX4 = own) {v : Option Nat} (hdg : decode cc pc = .ok (.putfield index, 3))
    (kk : ∀ (H : Heap) (locs : List Loc), mw D vwC5 A s.heap (th_g cs (th_ur h a 16 v)) H locs → W p l e R s m args below meth c H locs cells slots Q (F0 m (pc + 3) ls rest)) : W p l e R s m args below meth c H locs cells slots Q (F0 m pc ls (va_rf v :: .ref a :: rest)) := by
  refine mw_putF hC hM (ci := 4) (k := 16) (fs := [.int (h.2.1 a 0), va_rf (h.2.2 a 1), va_rf (h.2.2 a 2), va_rf (h.2.2 a 3), va_rf (h.2.2 a 4), va_rf (h.2.2 a 5), va_rf (h.2.2 a 6), va_rf (h.2.2 a 7), va_rf (h.2.2 a 8), .int (h.2.1 a 9), .int (h.2.1 a 10), va_rf (h.2.2 a 11), va_rf (h.2.2 a 12), .int (h.2.1 a 13), .int (h.2.1 a 14), .int (h.2.1 a 15), va_rf (h.2.2 a 16), va_rf (h.2.2 a 17), va_rf (h.2.2 a 18), va_rf (h.2.2 a 19), .int (h.2.1 a 20)]) (C := RX4) (T := TX4) (N := 21) (ty0 := tyX4) (ty := .array .int) (th_at ha) ⟨in_X4, rfl, by decide, hlk, rfl⟩ ⟨ok_X4, nm_X4, by decide +kernel⟩ rfl hin2 hdecl (th_na _ _) (th_fa _ _) (Nat.le_of_ble_eq_true rfl) hdg (fun H1 locs1 hM1 => kk H1 locs1 ?_)
  rw [← th_upr (k := 16) (v := v) ha]
  exact hM1
theorem gr_10_17 (hC : mx D vwC5 (th_tys cs) th_sx th_nw A p m c cc nL s args TB own) (hM : mw D vwC5 A s.heap (th_g cs h) H locs) (ha : h.1 a = some (10, 0)) (hlk : Cond.fieldLink own index RX4 "undoCell" "[I" ∈ TB) (hdg : decode cc pc = .ok (.getfield index, 3)) {r : Option Nat} (hr : h.2.2 a 17 = r)
    (kk : W p l e R s m args below meth c H locs cells slots Q (F0 m (pc + 3) ls (va_rf r :: rest))) : W p l e R s m args below meth c H locs cells slots Q (F0 m pc ls (.ref a :: rest)) := by
  subst hr
  exact mw_get hC hM (ci := 4) (k := 17) (fs := [.int (h.2.1 a 0), va_rf (h.2.2 a 1), va_rf (h.2.2 a 2), va_rf (h.2.2 a 3), va_rf (h.2.2 a 4), va_rf (h.2.2 a 5), va_rf (h.2.2 a 6), va_rf (h.2.2 a 7), va_rf (h.2.2 a 8), .int (h.2.1 a 9), .int (h.2.1 a 10), va_rf (h.2.2 a 11), va_rf (h.2.2 a 12), .int (h.2.1 a 13), .int (h.2.1 a 14), .int (h.2.1 a 15), va_rf (h.2.2 a 16), va_rf (h.2.2 a 17), va_rf (h.2.2 a 18), va_rf (h.2.2 a 19), .int (h.2.1 a 20)]) (C := RX4) (T := TX4) (N := 21) (th_at ha) ⟨in_X4, rfl, by decide, hlk, rfl⟩ rfl hdg kk
theorem pu_10_17 (hC : mx D vwC5 (th_tys cs) th_sx th_nw A p m c cc nL s args TB own) (hM : mw D vwC5 A s.heap (th_g cs h) H locs) (ha : h.1 a = some (10, 0)) (hlk : Cond.fieldLink own index RX4 "undoCell" "[I" ∈ TB) (hin2 : meth.name = "<init>") (hdecl : RX4 = own) {v : Option Nat} (hdg : decode cc pc = .ok (.putfield index, 3))
    (kk : ∀ (H : Heap) (locs : List Loc), mw D vwC5 A s.heap (th_g cs (th_ur h a 17 v)) H locs → W p l e R s m args below meth c H locs cells slots Q (F0 m (pc + 3) ls rest)) : W p l e R s m args below meth c H locs cells slots Q (F0 m pc ls (va_rf v :: .ref a :: rest)) := by
  refine mw_putF hC hM (ci := 4) (k := 17) (fs := [.int (h.2.1 a 0), va_rf (h.2.2 a 1), va_rf (h.2.2 a 2), va_rf (h.2.2 a 3), va_rf (h.2.2 a 4), va_rf (h.2.2 a 5), va_rf (h.2.2 a 6), va_rf (h.2.2 a 7), va_rf (h.2.2 a 8), .int (h.2.1 a 9), .int (h.2.1 a 10), va_rf (h.2.2 a 11), va_rf (h.2.2 a 12), .int (h.2.1 a 13), .int (h.2.1 a 14), .int (h.2.1 a 15), va_rf (h.2.2 a 16), va_rf (h.2.2 a 17), va_rf (h.2.2 a 18), va_rf (h.2.2 a 19), .int (h.2.1 a 20)]) (C := RX4) (T := TX4) (N := 21) (ty0 := tyX4) (ty := .array .int) (th_at ha) ⟨in_X4, rfl, by decide, hlk, rfl⟩ ⟨ok_X4, nm_X4, by decide +kernel⟩ rfl hin2 hdecl (th_na _ _) (th_fa _ _) (Nat.le_of_ble_eq_true rfl) hdg (fun H1 locs1 hM1 => kk H1 locs1 ?_)
  rw [← th_upr (k := 17) (v := v) ha]
  exact hM1
theorem gr_10_18 (hC : mx D vwC5 (th_tys cs) th_sx th_nw A p m c cc nL s args TB own) (hM : mw D vwC5 A s.heap (th_g cs h) H locs) (ha : h.1 a = some (10, 0)) (hlk : Cond.fieldLink own index RX4 "undoRefers" "[Z" ∈ TB) (hdg : decode cc pc = .ok (.getfield index, 3)) {r : Option Nat} (hr : h.2.2 a 18 = r)
    (kk : W p l e R s m args below meth c H locs cells slots Q (F0 m (pc + 3) ls (va_rf r :: rest))) : W p l e R s m args below meth c H locs cells slots Q (F0 m pc ls (.ref a :: rest)) := by
  subst hr
  exact mw_get hC hM (ci := 4) (k := 18) (fs := [.int (h.2.1 a 0), va_rf (h.2.2 a 1), va_rf (h.2.2 a 2), va_rf (h.2.2 a 3), va_rf (h.2.2 a 4), va_rf (h.2.2 a 5), va_rf (h.2.2 a 6), va_rf (h.2.2 a 7), va_rf (h.2.2 a 8), .int (h.2.1 a 9), .int (h.2.1 a 10), va_rf (h.2.2 a 11), va_rf (h.2.2 a 12), .int (h.2.1 a 13), .int (h.2.1 a 14), .int (h.2.1 a 15), va_rf (h.2.2 a 16), va_rf (h.2.2 a 17), va_rf (h.2.2 a 18), va_rf (h.2.2 a 19), .int (h.2.1 a 20)]) (C := RX4) (T := TX4) (N := 21) (th_at ha) ⟨in_X4, rfl, by decide, hlk, rfl⟩ rfl hdg kk
theorem pu_10_18 (hC : mx D vwC5 (th_tys cs) th_sx th_nw A p m c cc nL s args TB own) (hM : mw D vwC5 A s.heap (th_g cs h) H locs) (ha : h.1 a = some (10, 0)) (hlk : Cond.fieldLink own index RX4 "undoRefers" "[Z" ∈ TB) (hin2 : meth.name = "<init>") (hdecl : RX4 = own) {v : Option Nat} (hdg : decode cc pc = .ok (.putfield index, 3))
    (kk : ∀ (H : Heap) (locs : List Loc), mw D vwC5 A s.heap (th_g cs (th_ur h a 18 v)) H locs → W p l e R s m args below meth c H locs cells slots Q (F0 m (pc + 3) ls rest)) : W p l e R s m args below meth c H locs cells slots Q (F0 m pc ls (va_rf v :: .ref a :: rest)) := by
  refine mw_putF hC hM (ci := 4) (k := 18) (fs := [.int (h.2.1 a 0), va_rf (h.2.2 a 1), va_rf (h.2.2 a 2), va_rf (h.2.2 a 3), va_rf (h.2.2 a 4), va_rf (h.2.2 a 5), va_rf (h.2.2 a 6), va_rf (h.2.2 a 7), va_rf (h.2.2 a 8), .int (h.2.1 a 9), .int (h.2.1 a 10), va_rf (h.2.2 a 11), va_rf (h.2.2 a 12), .int (h.2.1 a 13), .int (h.2.1 a 14), .int (h.2.1 a 15), va_rf (h.2.2 a 16), va_rf (h.2.2 a 17), va_rf (h.2.2 a 18), va_rf (h.2.2 a 19), .int (h.2.1 a 20)]) (C := RX4) (T := TX4) (N := 21) (ty0 := tyX4) (ty := .array .boolean) (th_at ha) ⟨in_X4, rfl, by decide, hlk, rfl⟩ ⟨ok_X4, nm_X4, by decide +kernel⟩ rfl hin2 hdecl (th_na _ _) (th_fa _ _) (Nat.le_of_ble_eq_true rfl) hdg (fun H1 locs1 hM1 => kk H1 locs1 ?_)
  rw [← th_upr (k := 18) (v := v) ha]
  exact hM1
theorem gr_10_19 (hC : mx D vwC5 (th_tys cs) th_sx th_nw A p m c cc nL s args TB own) (hM : mw D vwC5 A s.heap (th_g cs h) H locs) (ha : h.1 a = some (10, 0)) (hlk : Cond.fieldLink own index RX4 "undoValue" "[I" ∈ TB) (hdg : decode cc pc = .ok (.getfield index, 3)) {r : Option Nat} (hr : h.2.2 a 19 = r)
    (kk : W p l e R s m args below meth c H locs cells slots Q (F0 m (pc + 3) ls (va_rf r :: rest))) : W p l e R s m args below meth c H locs cells slots Q (F0 m pc ls (.ref a :: rest)) := by
  subst hr
  exact mw_get hC hM (ci := 4) (k := 19) (fs := [.int (h.2.1 a 0), va_rf (h.2.2 a 1), va_rf (h.2.2 a 2), va_rf (h.2.2 a 3), va_rf (h.2.2 a 4), va_rf (h.2.2 a 5), va_rf (h.2.2 a 6), va_rf (h.2.2 a 7), va_rf (h.2.2 a 8), .int (h.2.1 a 9), .int (h.2.1 a 10), va_rf (h.2.2 a 11), va_rf (h.2.2 a 12), .int (h.2.1 a 13), .int (h.2.1 a 14), .int (h.2.1 a 15), va_rf (h.2.2 a 16), va_rf (h.2.2 a 17), va_rf (h.2.2 a 18), va_rf (h.2.2 a 19), .int (h.2.1 a 20)]) (C := RX4) (T := TX4) (N := 21) (th_at ha) ⟨in_X4, rfl, by decide, hlk, rfl⟩ rfl hdg kk
theorem pu_10_19 (hC : mx D vwC5 (th_tys cs) th_sx th_nw A p m c cc nL s args TB own) (hM : mw D vwC5 A s.heap (th_g cs h) H locs) (ha : h.1 a = some (10, 0)) (hlk : Cond.fieldLink own index RX4 "undoValue" "[I" ∈ TB) (hin2 : meth.name = "<init>") (hdecl : RX4 = own) {v : Option Nat} (hdg : decode cc pc = .ok (.putfield index, 3))
    (kk : ∀ (H : Heap) (locs : List Loc), mw D vwC5 A s.heap (th_g cs (th_ur h a 19 v)) H locs → W p l e R s m args below meth c H locs cells slots Q (F0 m (pc + 3) ls rest)) : W p l e R s m args below meth c H locs cells slots Q (F0 m pc ls (va_rf v :: .ref a :: rest)) := by
  refine mw_putF hC hM (ci := 4) (k := 19) (fs := [.int (h.2.1 a 0), va_rf (h.2.2 a 1), va_rf (h.2.2 a 2), va_rf (h.2.2 a 3), va_rf (h.2.2 a 4), va_rf (h.2.2 a 5), va_rf (h.2.2 a 6), va_rf (h.2.2 a 7), va_rf (h.2.2 a 8), .int (h.2.1 a 9), .int (h.2.1 a 10), va_rf (h.2.2 a 11), va_rf (h.2.2 a 12), .int (h.2.1 a 13), .int (h.2.1 a 14), .int (h.2.1 a 15), va_rf (h.2.2 a 16), va_rf (h.2.2 a 17), va_rf (h.2.2 a 18), va_rf (h.2.2 a 19), .int (h.2.1 a 20)]) (C := RX4) (T := TX4) (N := 21) (ty0 := tyX4) (ty := .array .int) (th_at ha) ⟨in_X4, rfl, by decide, hlk, rfl⟩ ⟨ok_X4, nm_X4, by decide +kernel⟩ rfl hin2 hdecl (th_na _ _) (th_fa _ _) (Nat.le_of_ble_eq_true rfl) hdg (fun H1 locs1 hM1 => kk H1 locs1 ?_)
  rw [← th_upr (k := 19) (v := v) ha]
  exact hM1
theorem gi_10_20 (hC : mx D vwC5 (th_tys cs) th_sx th_nw A p m c cc nL s args TB own) (hM : mw D vwC5 A s.heap (th_g cs h) H locs) (ha : h.1 a = some (10, 0)) (hlk : Cond.fieldLink own index RX4 "undos" "I" ∈ TB) (hdg : decode cc pc = .ok (.getfield index, 3))
    (kk : W p l e R s m args below meth c H locs cells slots Q (F0 m (pc + 3) ls (.int (h.2.1 a 20) :: rest))) : W p l e R s m args below meth c H locs cells slots Q (F0 m pc ls (.ref a :: rest)) :=
  mw_get hC hM (ci := 4) (k := 20) (fs := [.int (h.2.1 a 0), va_rf (h.2.2 a 1), va_rf (h.2.2 a 2), va_rf (h.2.2 a 3), va_rf (h.2.2 a 4), va_rf (h.2.2 a 5), va_rf (h.2.2 a 6), va_rf (h.2.2 a 7), va_rf (h.2.2 a 8), .int (h.2.1 a 9), .int (h.2.1 a 10), va_rf (h.2.2 a 11), va_rf (h.2.2 a 12), .int (h.2.1 a 13), .int (h.2.1 a 14), .int (h.2.1 a 15), va_rf (h.2.2 a 16), va_rf (h.2.2 a 17), va_rf (h.2.2 a 18), va_rf (h.2.2 a 19), .int (h.2.1 a 20)]) (C := RX4) (T := TX4) (N := 21) (th_at ha) ⟨in_X4, rfl, by decide, hlk, rfl⟩ rfl hdg kk
theorem pu_10_20 (hC : mx D vwC5 (th_tys cs) th_sx th_nw A p m c cc nL s args TB own) (hM : mw D vwC5 A s.heap (th_g cs h) H locs) (ha : h.1 a = some (10, 0)) (hlk : Cond.fieldLink own index RX4 "undos" "I" ∈ TB) {v : Int32} (hdg : decode cc pc = .ok (.putfield index, 3))
    (kk : ∀ (H : Heap) (locs : List Loc), mw D vwC5 A s.heap (th_g cs (th_ui h a 20 v)) H locs → W p l e R s m args below meth c H locs cells slots Q (F0 m (pc + 3) ls rest)) : W p l e R s m args below meth c H locs cells slots Q (F0 m pc ls (.int v :: .ref a :: rest)) := by
  refine mw_put hC hM (ci := 4) (k := 20) (fs := [.int (h.2.1 a 0), va_rf (h.2.2 a 1), va_rf (h.2.2 a 2), va_rf (h.2.2 a 3), va_rf (h.2.2 a 4), va_rf (h.2.2 a 5), va_rf (h.2.2 a 6), va_rf (h.2.2 a 7), va_rf (h.2.2 a 8), .int (h.2.1 a 9), .int (h.2.1 a 10), va_rf (h.2.2 a 11), va_rf (h.2.2 a 12), .int (h.2.1 a 13), .int (h.2.1 a 14), .int (h.2.1 a 15), va_rf (h.2.2 a 16), va_rf (h.2.2 a 17), va_rf (h.2.2 a 18), va_rf (h.2.2 a 19), .int (h.2.1 a 20)]) (C := RX4) (T := TX4) (N := 21) (ty0 := tyX4) (ty := .int) (th_at ha) ⟨in_X4, rfl, by decide, hlk, rfl⟩ ⟨ok_X4, nm_X4, by decide +kernel⟩ rfl rfl rfl (Nat.le_of_ble_eq_true rfl) hdg (fun H1 locs1 hM1 => kk H1 locs1 ?_)
  rw [← th_upi (k := 20) (v := v) ha]
  exact hM1
theorem nw_10 (hC : mx D vwC5 (th_tys cs) th_sx th_nw A p m c cc nL s args TB own) (hM : mw D vwC5 A s.heap (th_g cs h) H locs) (h1 : Cond.classLink own index RX4 ∈ TB) (h2 : Cond.instantiable RX4 21 ∈ TB) (h3 : Cond.initialized RX4 ∈ TB) (hcells : cells + 1 ≤ R.cells) (hslots : slots + 21 ≤ R.slots) (hdg : decode cc pc = .ok (.new index, 3))
    (kk : ∀ (q : Nat) (H : Heap), h.1 q = none → mw D vwC5 A s.heap (th_g cs (th_un h q (10, 0))) H locs → W p l e R s m args below meth c H locs (cells + 1) (slots + 21) Q (F0 m (pc + 3) ls (.ref q :: rest))) : W p l e R s m args below meth c H locs cells slots Q (F0 m pc ls rest) := by
  refine mw_new hC hM (ci := 4) (C := RX4) (T := TX4) (N := 21) (ty := tyX4) (fs := [.int 0, .null, .null, .null, .null, .null, .null, .null, .null, .int 0, .int 0, .null, .null, .int 0, .int 0, .int 0, .null, .null, .null, .null, .int 0]) ⟨in_X4, ok_X4, h1, h2, h3, rfl⟩ (fun j hj => by rcases (show j = 0 ∨ j = 1 ∨ j = 2 ∨ j = 3 ∨ j = 4 ∨ j = 5 ∨ j = 6 ∨ j = 7 ∨ j = 8 ∨ j = 9 ∨ j = 10 ∨ j = 11 ∨ j = 12 ∨ j = 13 ∨ j = 14 ∨ j = 15 ∨ j = 16 ∨ j = 17 ∨ j = 18 ∨ j = 19 ∨ j = 20 by omega) with rfl | rfl | rfl | rfl | rfl | rfl | rfl | rfl | rfl | rfl | rfl | rfl | rfl | rfl | rfl | rfl | rfl | rfl | rfl | rfl | rfl <;> rfl) hcells hslots hdg (fun q H1 hq hM1 => kk q H1 (th_none hq) ?_)
  rw [← th_upn]
  exact hM1
theorem an_4 (hC : mx D vwC5 (th_tys cs) th_sx th_nw A p m c cc nL s args TB own) (hM : mw D vwC5 A s.heap (th_g cs h) H locs) {n : Nat} (ha : h.1 a = some (4, n)) (hdg : decode cc pc = .ok (.arraylength, 1))
    (kk : W p l e R s m args below meth c H locs cells slots Q (F0 m (pc + 1) ls (.int (nI n) :: rest))) : W p l e R s m args below meth c H locs cells slots Q (F0 m pc ls (.ref a :: rest)) :=
  mw_alen hC hM 0 (x := (n, .inr (.inr (.inr (.inr (h.2.2 a)))))) (th_at ha) rfl rfl hdg kk
theorem al_4 (hC : mx D vwC5 (th_tys cs) th_sx th_nw A p m c cc nL s args TB own) (hM : mw D vwC5 A s.heap (th_g cs h) H locs) {n : Nat} (ha : h.1 a = some (4, n)) {i : Nat} {z : Int32} (hz : z = nI i) (hi : i < n) (hn : n < 2 ^ 31) {r : Option Nat} (hr : h.2.2 a i = r) (hdg : decode cc pc = .ok (.aaload, 1))
    (kk : W p l e R s m args below meth c H locs cells slots Q (F0 m (pc + 1) ls (va_rf r :: rest))) : W p l e R s m args below meth c H locs cells slots Q (F0 m pc ls (.int z :: .ref a :: rest)) := by
  subst hz
  refine mw_aldq hC hM 0 (n := n) (f := h.2.2 a) (th_at ha) rfl (vp_in_nI hi hn) hdg ?_
  rw [nI_clamp (Nat.lt_trans hi hn), hr]
  exact kk
theorem as_4 (hC : mx D vwC5 (th_tys cs) th_sx th_nw A p m c cc nL s args TB own) (hM : mw D vwC5 A s.heap (th_g cs h) H locs) {n : Nat} (ha : h.1 a = some (4, n)) {i : Nat} {z : Int32} (hz : z = nI i) (hi : i < n) (hn : n < 2 ^ 31) {v : Nat} (hv : h.1 v = some (2, 0)) (hdg : decode cc pc = .ok (.aastore, 1))
    (kk : ∀ (H : Heap) (locs : List Loc), mw D vwC5 A s.heap (th_g cs (th_ur h a i (some v))) H locs → W p l e R s m args below meth c H locs cells slots Q (F0 m (pc + 1) ls rest)) : W p l e R s m args below meth c H locs cells slots Q (F0 m pc ls (.ref v :: .int z :: .ref a :: rest)) := by
  subst hz
  refine mw_astq hC hM 0 0 (r := (RX0, TX0, 4)) (vs := [.int (h.2.1 v 0), va_rf (h.2.2 v 1), .int (h.2.1 v 2), .int (h.2.1 v 3)]) (n := n) (f := h.2.2 a) (th_at ha) rfl (th_at hv) rfl (vp_in_nI hi hn) hdg (fun H1 locs1 hM1 => kk H1 locs1 ?_)
  rw [nI_clamp (Nat.lt_trans hi hn)] at hM1
  rw [← th_upr (k := i) (v := some v) ha]
  exact hM1
theorem na_4 (hC : mx D vwC5 (th_tys cs) th_sx th_nw A p m c cc nL s args TB own) (hM : mw D vwC5 A s.heap (th_g cs h) H locs) (h1 : Cond.classLink own index RX0 ∈ TB) {n : Nat} {z : Int32} (hz : z = nI n) (hn : n ≤ 4096) (hcells : cells + 1 ≤ R.cells) (hslots : slots + n ≤ R.slots) (hdg : decode cc pc = .ok (.anewarray index, 3))
    (kk : ∀ (q : Nat) (H : Heap), h.1 q = none → mw D vwC5 A s.heap (th_g cs (th_un h q (4, n))) H locs → W p l e R s m args below meth c H locs (cells + 1) (slots + n) Q (F0 m (pc + 3) ls (.ref q :: rest))) : W p l e R s m args below meth c H locs cells slots Q (F0 m pc ls (.int z :: rest)) := by
  subst hz
  refine mw_newq hC hM 0 (C := RX0) h1 nw_w0 rfl (nI_pos (by omega)) (nI_clamp (by omega)) (by omega) hcells hslots hdg (fun q H1 hq hM1 => kk q H1 (th_none hq) ?_)
  rw [← th_upn]
  exact hM1
theorem an_5 (hC : mx D vwC5 (th_tys cs) th_sx th_nw A p m c cc nL s args TB own) (hM : mw D vwC5 A s.heap (th_g cs h) H locs) {n : Nat} (ha : h.1 a = some (5, n)) (hdg : decode cc pc = .ok (.arraylength, 1))
    (kk : W p l e R s m args below meth c H locs cells slots Q (F0 m (pc + 1) ls (.int (nI n) :: rest))) : W p l e R s m args below meth c H locs cells slots Q (F0 m pc ls (.ref a :: rest)) :=
  mw_alen hC hM 1 (x := (n, .inr (.inr (.inr (.inr (h.2.2 a)))))) (th_at ha) rfl rfl hdg kk
theorem al_5 (hC : mx D vwC5 (th_tys cs) th_sx th_nw A p m c cc nL s args TB own) (hM : mw D vwC5 A s.heap (th_g cs h) H locs) {n : Nat} (ha : h.1 a = some (5, n)) {i : Nat} {z : Int32} (hz : z = nI i) (hi : i < n) (hn : n < 2 ^ 31) {r : Option Nat} (hr : h.2.2 a i = r) (hdg : decode cc pc = .ok (.aaload, 1))
    (kk : W p l e R s m args below meth c H locs cells slots Q (F0 m (pc + 1) ls (va_rf r :: rest))) : W p l e R s m args below meth c H locs cells slots Q (F0 m pc ls (.int z :: .ref a :: rest)) := by
  subst hz
  refine mw_aldq hC hM 1 (n := n) (f := h.2.2 a) (th_at ha) rfl (vp_in_nI hi hn) hdg ?_
  rw [nI_clamp (Nat.lt_trans hi hn), hr]
  exact kk
theorem as_5 (hC : mx D vwC5 (th_tys cs) th_sx th_nw A p m c cc nL s args TB own) (hM : mw D vwC5 A s.heap (th_g cs h) H locs) {n : Nat} (ha : h.1 a = some (5, n)) {i : Nat} {z : Int32} (hz : z = nI i) (hi : i < n) (hn : n < 2 ^ 31) {v : Nat} (hv : h.1 v = some (1, 0)) (hdg : decode cc pc = .ok (.aastore, 1))
    (kk : ∀ (H : Heap) (locs : List Loc), mw D vwC5 A s.heap (th_g cs (th_ur h a i (some v))) H locs → W p l e R s m args below meth c H locs cells slots Q (F0 m (pc + 1) ls rest)) : W p l e R s m args below meth c H locs cells slots Q (F0 m pc ls (.ref v :: .int z :: .ref a :: rest)) := by
  subst hz
  refine mw_astq hC hM 1 2 (r := (RX2, TX2, 2)) (vs := [.int (h.2.1 v 0), .int (h.2.1 v 1)]) (n := n) (f := h.2.2 a) (th_at ha) rfl (th_at hv) rfl (vp_in_nI hi hn) hdg (fun H1 locs1 hM1 => kk H1 locs1 ?_)
  rw [nI_clamp (Nat.lt_trans hi hn)] at hM1
  rw [← th_upr (k := i) (v := some v) ha]
  exact hM1
theorem na_5 (hC : mx D vwC5 (th_tys cs) th_sx th_nw A p m c cc nL s args TB own) (hM : mw D vwC5 A s.heap (th_g cs h) H locs) (h1 : Cond.classLink own index RX2 ∈ TB) {n : Nat} {z : Int32} (hz : z = nI n) (hn : n ≤ 4096) (hcells : cells + 1 ≤ R.cells) (hslots : slots + n ≤ R.slots) (hdg : decode cc pc = .ok (.anewarray index, 3))
    (kk : ∀ (q : Nat) (H : Heap), h.1 q = none → mw D vwC5 A s.heap (th_g cs (th_un h q (5, n))) H locs → W p l e R s m args below meth c H locs (cells + 1) (slots + n) Q (F0 m (pc + 3) ls (.ref q :: rest))) : W p l e R s m args below meth c H locs cells slots Q (F0 m pc ls (.int z :: rest)) := by
  subst hz
  refine mw_newq hC hM 1 (C := RX2) h1 nw_w3 rfl (nI_pos (by omega)) (nI_clamp (by omega)) (by omega) hcells hslots hdg (fun q H1 hq hM1 => kk q H1 (th_none hq) ?_)
  rw [← th_upn]
  exact hM1
theorem an_6 (hC : mx D vwC5 (th_tys cs) th_sx th_nw A p m c cc nL s args TB own) (hM : mw D vwC5 A s.heap (th_g cs h) H locs) {n : Nat} (ha : h.1 a = some (6, n)) (hdg : decode cc pc = .ok (.arraylength, 1))
    (kk : W p l e R s m args below meth c H locs cells slots Q (F0 m (pc + 1) ls (.int (nI n) :: rest))) : W p l e R s m args below meth c H locs cells slots Q (F0 m pc ls (.ref a :: rest)) :=
  mw_alen hC hM 2 (x := (n, .inr (.inr (.inr (.inr (h.2.2 a)))))) (th_at ha) rfl rfl hdg kk
theorem al_6 (hC : mx D vwC5 (th_tys cs) th_sx th_nw A p m c cc nL s args TB own) (hM : mw D vwC5 A s.heap (th_g cs h) H locs) {n : Nat} (ha : h.1 a = some (6, n)) {i : Nat} {z : Int32} (hz : z = nI i) (hi : i < n) (hn : n < 2 ^ 31) {r : Option Nat} (hr : h.2.2 a i = r) (hdg : decode cc pc = .ok (.aaload, 1))
    (kk : W p l e R s m args below meth c H locs cells slots Q (F0 m (pc + 1) ls (va_rf r :: rest))) : W p l e R s m args below meth c H locs cells slots Q (F0 m pc ls (.int z :: .ref a :: rest)) := by
  subst hz
  refine mw_aldq hC hM 2 (n := n) (f := h.2.2 a) (th_at ha) rfl (vp_in_nI hi hn) hdg ?_
  rw [nI_clamp (Nat.lt_trans hi hn), hr]
  exact kk
theorem as_6 (hC : mx D vwC5 (th_tys cs) th_sx th_nw A p m c cc nL s args TB own) (hM : mw D vwC5 A s.heap (th_g cs h) H locs) {n : Nat} (ha : h.1 a = some (6, n)) {i : Nat} {z : Int32} (hz : z = nI i) (hi : i < n) (hn : n < 2 ^ 31) {v : Nat} (hv : h.1 v = some (3, 0)) (hdg : decode cc pc = .ok (.aastore, 1))
    (kk : ∀ (H : Heap) (locs : List Loc), mw D vwC5 A s.heap (th_g cs (th_ur h a i (some v))) H locs → W p l e R s m args below meth c H locs cells slots Q (F0 m (pc + 1) ls rest)) : W p l e R s m args below meth c H locs cells slots Q (F0 m pc ls (.ref v :: .int z :: .ref a :: rest)) := by
  subst hz
  refine mw_astq hC hM 2 1 (r := (RX1, TX1, 7)) (vs := [.int (h.2.1 v 0), .int (h.2.1 v 1), va_rf (h.2.2 v 2), .int (h.2.1 v 3), .int (h.2.1 v 4), .int (h.2.1 v 5), va_rf (h.2.2 v 6)]) (n := n) (f := h.2.2 a) (th_at ha) rfl (th_at hv) rfl (vp_in_nI hi hn) hdg (fun H1 locs1 hM1 => kk H1 locs1 ?_)
  rw [nI_clamp (Nat.lt_trans hi hn)] at hM1
  rw [← th_upr (k := i) (v := some v) ha]
  exact hM1
theorem na_6 (hC : mx D vwC5 (th_tys cs) th_sx th_nw A p m c cc nL s args TB own) (hM : mw D vwC5 A s.heap (th_g cs h) H locs) (h1 : Cond.classLink own index RX1 ∈ TB) {n : Nat} {z : Int32} (hz : z = nI n) (hn : n ≤ 4096) (hcells : cells + 1 ≤ R.cells) (hslots : slots + n ≤ R.slots) (hdg : decode cc pc = .ok (.anewarray index, 3))
    (kk : ∀ (q : Nat) (H : Heap), h.1 q = none → mw D vwC5 A s.heap (th_g cs (th_un h q (6, n))) H locs → W p l e R s m args below meth c H locs (cells + 1) (slots + n) Q (F0 m (pc + 3) ls (.ref q :: rest))) : W p l e R s m args below meth c H locs cells slots Q (F0 m pc ls (.int z :: rest)) := by
  subst hz
  refine mw_newq hC hM 2 (C := RX1) h1 nw_w1 rfl (nI_pos (by omega)) (nI_clamp (by omega)) (by omega) hcells hslots hdg (fun q H1 hq hM1 => kk q H1 (th_none hq) ?_)
  rw [← th_upn]
  exact hM1
theorem an_7 (hC : mx D vwC5 (th_tys cs) th_sx th_nw A p m c cc nL s args TB own) (hM : mw D vwC5 A s.heap (th_g cs h) H locs) {n : Nat} (ha : h.1 a = some (7, n)) (hdg : decode cc pc = .ok (.arraylength, 1))
    (kk : W p l e R s m args below meth c H locs cells slots Q (F0 m (pc + 1) ls (.int (nI n) :: rest))) : W p l e R s m args below meth c H locs cells slots Q (F0 m pc ls (.ref a :: rest)) :=
  mw_alen hC hM 3 (x := (n, .inl (h.2.1 a))) (th_at ha) rfl rfl hdg kk
theorem al_7 (hC : mx D vwC5 (th_tys cs) th_sx th_nw A p m c cc nL s args TB own) (hM : mw D vwC5 A s.heap (th_g cs h) H locs) {n : Nat} (ha : h.1 a = some (7, n)) {i : Nat} {z : Int32} (hz : z = nI i) (hi : i < n) (hn : n < 2 ^ 31) (hdg : decode cc pc = .ok (.iaload, 1))
    (kk : W p l e R s m args below meth c H locs cells slots Q (F0 m (pc + 1) ls (.int (h.2.1 a i) :: rest))) : W p l e R s m args below meth c H locs cells slots Q (F0 m pc ls (.int z :: .ref a :: rest)) := by
  subst hz
  refine mw_iald hC hM 3 (n := n) (f := h.2.1 a) (th_at ha) rfl (vp_in_nI hi hn) hdg ?_
  rw [nI_clamp (Nat.lt_trans hi hn)]
  exact kk
theorem as_7 (hC : mx D vwC5 (th_tys cs) th_sx th_nw A p m c cc nL s args TB own) (hM : mw D vwC5 A s.heap (th_g cs h) H locs) {n : Nat} (ha : h.1 a = some (7, n)) {i : Nat} {z : Int32} (hz : z = nI i) (hi : i < n) (hn : n < 2 ^ 31) {v : Int32} (hdg : decode cc pc = .ok (.iastore, 1))
    (kk : ∀ (H : Heap) (locs : List Loc), mw D vwC5 A s.heap (th_g cs (th_ui h a i v)) H locs → W p l e R s m args below meth c H locs cells slots Q (F0 m (pc + 1) ls rest)) : W p l e R s m args below meth c H locs cells slots Q (F0 m pc ls (.int v :: .int z :: .ref a :: rest)) := by
  subst hz
  refine mw_iast hC hM 3 (n := n) (f := h.2.1 a) (th_at ha) rfl (vp_in_nI hi hn) hdg (fun H1 locs1 hM1 => kk H1 locs1 ?_)
  rw [nI_clamp (Nat.lt_trans hi hn)] at hM1
  rw [← th_upi (k := i) (v := v) ha]
  exact hM1
theorem na_7 (hC : mx D vwC5 (th_tys cs) th_sx th_nw A p m c cc nL s args TB own) (hM : mw D vwC5 A s.heap (th_g cs h) H locs) (h1 : Cond.arrayClass .int ∈ TB) {n : Nat} {z : Int32} (hz : z = nI n) (hn : n ≤ 4096) (hcells : cells + 1 ≤ R.cells) (hslots : slots + n ≤ R.slots) (hdg : decode cc pc = .ok (.newarray .int, 2))
    (kk : ∀ (q : Nat) (H : Heap), h.1 q = none → mw D vwC5 A s.heap (th_g cs (th_un h q (7, n))) H locs → W p l e R s m args below meth c H locs (cells + 1) (slots + n) Q (F0 m (pc + 2) ls (.ref q :: rest))) : W p l e R s m args below meth c H locs cells slots Q (F0 m pc ls (.int z :: rest)) := by
  subst hz
  refine mw_newa hC hM 3 (ty := .int) (cA := cs 3) (a0 := (n, .inl (fun _ => 0))) rfl h1 (fun C q => nomatch q) rfl rfl (nI_pos (by omega)) (nI_clamp (by omega)) (by simp only [componentBytes]; omega) hcells hslots hdg (fun q H1 hq hM1 => kk q H1 (th_none hq) ?_)
  rw [← th_upn]
  exact hM1
theorem an_8 (hC : mx D vwC5 (th_tys cs) th_sx th_nw A p m c cc nL s args TB own) (hM : mw D vwC5 A s.heap (th_g cs h) H locs) {n : Nat} (ha : h.1 a = some (8, n)) (hdg : decode cc pc = .ok (.arraylength, 1))
    (kk : W p l e R s m args below meth c H locs cells slots Q (F0 m (pc + 1) ls (.int (nI n) :: rest))) : W p l e R s m args below meth c H locs cells slots Q (F0 m pc ls (.ref a :: rest)) :=
  mw_alen hC hM 4 (x := (n, .inl (h.2.1 a))) (th_at ha) rfl rfl hdg kk
theorem al_8 (hC : mx D vwC5 (th_tys cs) th_sx th_nw A p m c cc nL s args TB own) (hM : mw D vwC5 A s.heap (th_g cs h) H locs) {n : Nat} (ha : h.1 a = some (8, n)) {i : Nat} {z : Int32} (hz : z = nI i) (hi : i < n) (hn : n < 2 ^ 31) (hdg : decode cc pc = .ok (.baload, 1))
    (kk : W p l e R s m args below meth c H locs cells slots Q (F0 m (pc + 1) ls (.int (h.2.1 a i) :: rest))) : W p l e R s m args below meth c H locs cells slots Q (F0 m pc ls (.int z :: .ref a :: rest)) := by
  subst hz
  refine mw_zald hC hM 4 (n := n) (f := h.2.1 a) (th_at ha) rfl (vp_in_nI hi hn) hdg ?_
  rw [nI_clamp (Nat.lt_trans hi hn)]
  exact kk
theorem as_8 (hC : mx D vwC5 (th_tys cs) th_sx th_nw A p m c cc nL s args TB own) (hM : mw D vwC5 A s.heap (th_g cs h) H locs) {n : Nat} (ha : h.1 a = some (8, n)) {i : Nat} {z : Int32} (hz : z = nI i) (hi : i < n) (hn : n < 2 ^ 31) {v : Int32} (hzb : v = 0 ∨ v = 1) (hdg : decode cc pc = .ok (.bastore, 1))
    (kk : ∀ (H : Heap) (locs : List Loc), mw D vwC5 A s.heap (th_g cs (th_ui h a i v)) H locs → W p l e R s m args below meth c H locs cells slots Q (F0 m (pc + 1) ls rest)) : W p l e R s m args below meth c H locs cells slots Q (F0 m pc ls (.int v :: .int z :: .ref a :: rest)) := by
  subst hz
  refine mw_zast hC hM 4 (n := n) (f := h.2.1 a) (th_at ha) rfl hzb (vp_in_nI hi hn) hdg (fun H1 locs1 hM1 => kk H1 locs1 ?_)
  rw [nI_clamp (Nat.lt_trans hi hn)] at hM1
  rw [← th_upi (k := i) (v := v) ha]
  exact hM1
theorem na_8 (hC : mx D vwC5 (th_tys cs) th_sx th_nw A p m c cc nL s args TB own) (hM : mw D vwC5 A s.heap (th_g cs h) H locs) (h1 : Cond.arrayClass .boolean ∈ TB) {n : Nat} {z : Int32} (hz : z = nI n) (hn : n ≤ 4096) (hcells : cells + 1 ≤ R.cells) (hslots : slots + n ≤ R.slots) (hdg : decode cc pc = .ok (.newarray .boolean, 2))
    (kk : ∀ (q : Nat) (H : Heap), h.1 q = none → mw D vwC5 A s.heap (th_g cs (th_un h q (8, n))) H locs → W p l e R s m args below meth c H locs (cells + 1) (slots + n) Q (F0 m (pc + 2) ls (.ref q :: rest))) : W p l e R s m args below meth c H locs cells slots Q (F0 m pc ls (.int z :: rest)) := by
  subst hz
  refine mw_newa hC hM 4 (ty := .boolean) (cA := cs 4) (a0 := (n, .inl (fun _ => 0))) rfl h1 (fun C q => nomatch q) rfl rfl (nI_pos (by omega)) (nI_clamp (by omega)) (by simp only [componentBytes]; omega) hcells hslots hdg (fun q H1 hq hM1 => kk q H1 (th_none hq) ?_)
  rw [← th_upn]
  exact hM1
theorem an_9 (hC : mx D vwC5 (th_tys cs) th_sx th_nw A p m c cc nL s args TB own) (hM : mw D vwC5 A s.heap (th_g cs h) H locs) {n : Nat} (ha : h.1 a = some (9, n)) (hdg : decode cc pc = .ok (.arraylength, 1))
    (kk : W p l e R s m args below meth c H locs cells slots Q (F0 m (pc + 1) ls (.int (nI n) :: rest))) : W p l e R s m args below meth c H locs cells slots Q (F0 m pc ls (.ref a :: rest)) :=
  mw_alen hC hM 5 (x := (n, .inr (.inl (fun i => (h.2.1 a i).toInt64)))) (th_at ha) rfl rfl hdg kk
theorem al_9 (hC : mx D vwC5 (th_tys cs) th_sx th_nw A p m c cc nL s args TB own) (hM : mw D vwC5 A s.heap (th_g cs h) H locs) {n : Nat} (ha : h.1 a = some (9, n)) {i : Nat} {z : Int32} (hz : z = nI i) (hi : i < n) (hn : n < 2 ^ 31) (hdg : decode cc pc = .ok (.laload, 1))
    (kk : W p l e R s m args below meth c H locs cells slots Q (F0 m (pc + 1) ls (.long (h.2.1 a i).toInt64 :: rest))) : W p l e R s m args below meth c H locs cells slots Q (F0 m pc ls (.int z :: .ref a :: rest)) := by
  subst hz
  refine mw_lald hC hM 5 (n := n) (f := fun i => (h.2.1 a i).toInt64) (th_at ha) rfl (vp_in_nI hi hn) hdg ?_
  rw [nI_clamp (Nat.lt_trans hi hn)]
  exact kk
theorem as_9 (hC : mx D vwC5 (th_tys cs) th_sx th_nw A p m c cc nL s args TB own) (hM : mw D vwC5 A s.heap (th_g cs h) H locs) {n : Nat} (ha : h.1 a = some (9, n)) {i : Nat} {z : Int32} (hz : z = nI i) (hi : i < n) (hn : n < 2 ^ 31) {v : Int32} (hdg : decode cc pc = .ok (.lastore, 1))
    (kk : ∀ (H : Heap) (locs : List Loc), mw D vwC5 A s.heap (th_g cs (th_ui h a i v)) H locs → W p l e R s m args below meth c H locs cells slots Q (F0 m (pc + 1) ls rest)) : W p l e R s m args below meth c H locs cells slots Q (F0 m pc ls (.long v.toInt64 :: .int z :: .ref a :: rest)) := by
  subst hz
  refine mw_last hC hM 5 (n := n) (f := fun i => (h.2.1 a i).toInt64) (th_at ha) rfl (vp_in_nI hi hn) hdg (fun H1 locs1 hM1 => kk H1 locs1 ?_)
  rw [nI_clamp (Nat.lt_trans hi hn)] at hM1
  rw [← th_upi (k := i) (v := v) ha]
  rw [show vp_updL (fun i => (h.2.1 a i).toInt64) i v.toInt64 = (fun j => (va_up (h.2.1 a) i v j).toInt64) from funext fun j => by by_cases hj : j = i <;> simp [vp_updL, va_up, hj]] at hM1
  exact hM1
theorem na_9 (hC : mx D vwC5 (th_tys cs) th_sx th_nw A p m c cc nL s args TB own) (hM : mw D vwC5 A s.heap (th_g cs h) H locs) (h1 : Cond.arrayClass .long ∈ TB) {n : Nat} {z : Int32} (hz : z = nI n) (hn : n ≤ 4096) (hcells : cells + 1 ≤ R.cells) (hslots : slots + n ≤ R.slots) (hdg : decode cc pc = .ok (.newarray .long, 2))
    (kk : ∀ (q : Nat) (H : Heap), h.1 q = none → mw D vwC5 A s.heap (th_g cs (th_un h q (9, n))) H locs → W p l e R s m args below meth c H locs (cells + 1) (slots + n) Q (F0 m (pc + 2) ls (.ref q :: rest))) : W p l e R s m args below meth c H locs cells slots Q (F0 m pc ls (.int z :: rest)) := by
  subst hz
  refine mw_newa hC hM 5 (ty := .long) (cA := cs 5) (a0 := (n, .inr (.inl (fun _ => (0 : Int32).toInt64)))) rfl h1 (fun C q => nomatch q) rfl rfl (nI_pos (by omega)) (nI_clamp (by omega)) (by simp only [componentBytes]; omega) hcells hslots hdg (fun q H1 hq hM1 => kk q H1 (th_none hq) ?_)
  rw [← th_upn]
  exact hM1
end THR

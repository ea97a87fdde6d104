/-! the world as a map from addresses to cells: rows over it; a contract's form -/
abbrev mw_G : Type := Nat → Option va_E
def mw_up (g : mw_G) (a : Nat) (e : va_E) : mw_G := fun q => if q = a then some e else g q
theorem mw_up_self (g : mw_G) (a : Nat) (e : va_E) : mw_up g a e a = some e := by simp [mw_up]
theorem mw_up_ne (g : mw_G) {a b : Nat} (e : va_E) (h : b ≠ a) : mw_up g a e b = g b := by simp [mw_up, h]
theorem mw_up_up (g : mw_G) (a : Nat) (e f : va_E) : mw_up (mw_up g a e) a f = mw_up g a f := by
  funext q
  by_cases h : q = a
  · simp [mw_up, h]
  · simp [mw_up, h]
theorem mw_up_id (g : mw_G) {a : Nat} {e : va_E} (h : g a = some e) : mw_up g a e = g := by
  funext q
  by_cases hq : q = a
  · subst hq; simp [mw_up, h]
  · simp [mw_up, hq]
def mw_pic (D : va_G) (cl : List vw_C) (g : mw_G) (H : Heap) : Prop := ∀ (a : Nat) (e : va_E), g a = some e → va_at D cl (a, e) H
def mw_in (A : Nat → Prop) (g : mw_G) : Prop := ∀ (a : Nat) (e : va_E), g a = some e → A a
def mw_A (g : mw_G) (sz : Nat) : Nat → Prop := fun q => (∃ e, g q = some e) ∨ sz ≤ q
/-- the world g in the heap H, all its cells of the kind A, which may change since H0 -/
def mw (D : va_G) (cl : List vw_C) (A : Nat → Prop) (H0 : Heap) (g : mw_G) (H : Heap) (locs : List Loc) : Prop := mw_pic D cl g H ∧ mw_in A g ∧ va_S A H0 H locs ∧ ∀ q : Nat, H0.size ≤ q → A q
theorem mw_pic.one {D : va_G} {cl : List vw_C} {g : mw_G} {H : Heap} {a : Nat} {e : va_E} (h : mw_pic D cl g H) (ha : g a = some e) : va_P D cl [(a, e)] H := by
  intro k q hk
  cases k with
  | zero => cases hk; exact h a e ha
  | succ k => simp at hk
theorem mw_pic.set {D : va_G} {cl : List vw_C} {g : mw_G} {H H1 : Heap} {a : Nat} {e : va_E} (h : mw_pic D cl g H) (he : va_at D cl (a, e) H1) (oq : ∀ q : Nat, q ≠ a → H1[q]? = H[q]?) : mw_pic D cl (mw_up g a e) H1 := by
  intro b x hb
  by_cases hba : b = a
  · subst hba
    rw [mw_up_self] at hb
    cases hb
    exact he
  · rw [mw_up_ne _ _ hba] at hb
    exact (h b x hb).kept (oq b hba)
theorem mw_pic.push {D : va_G} {cl : List vw_C} {g : mw_G} {H H1 : Heap} {e : va_E} (h : mw_pic D cl g H) (he : va_at D cl (H.size, e) H1) (oq : ∀ q : Nat, q < H.size → H1[q]? = H[q]?) : mw_pic D cl (mw_up g H.size e) H1 := by
  intro b x hb
  by_cases hba : b = H.size
  · subst hba
    rw [mw_up_self] at hb
    cases hb
    exact he
  · rw [mw_up_ne _ _ hba] at hb
    exact (h b x hb).kept (oq b (h b x hb).lt)
theorem mw_in.set {A : Nat → Prop} {g : mw_G} {a : Nat} {e : va_E} (h : mw_in A g) (ha : A a) : mw_in A (mw_up g a e) := by
  intro b x hb
  by_cases hba : b = a
  · subst hba; exact ha
  · rw [mw_up_ne _ _ hba] at hb
    exact h b x hb
theorem mw.put {D : va_G} {cl : List vw_C} {A : Nat → Prop} {H0 H H1 : Heap} {g : mw_G} {locs : List Loc} {a k : Nat} {e0 e : va_E} (h : mw D cl A H0 g H locs) (ha : g a = some e0) (he : va_at D cl (a, e) H1) (z : H1.size = H.size) (oq : ∀ q : Nat, q ≠ a → H1[q]? = H[q]?) : mw D cl A H0 (mw_up g a e) H1 (locs ++ [⟨a, k⟩]) :=
  ⟨h.1.set he oq, h.2.1.set (h.2.1 a e0 ha), h.2.2.1.put z oq (h.2.1 a e0 ha), h.2.2.2⟩
theorem mw.new {D : va_G} {cl : List vw_C} {A : Nat → Prop} {H0 H H1 : Heap} {g : mw_G} {locs : List Loc} {e : va_E} (h : mw D cl A H0 g H locs) (he : va_at D cl (H.size, e) H1) (z : H1.size = H.size + 1) (oq : ∀ q : Nat, q < H.size → H1[q]? = H[q]?) : mw D cl A H0 (mw_up g H.size e) H1 locs :=
  ⟨h.1.push he oq, h.2.1.set (h.2.2.2 _ h.2.2.1.1), ⟨Nat.le_trans h.2.2.1.1 (by omega), fun x h1 h2 => (oq x (Nat.lt_of_lt_of_le h1 h.2.2.1.1)).trans (h.2.2.1.2.1 x h1 h2), h.2.2.1.2.2⟩, h.2.2.2⟩
/-- a new address isn't in the world -/
theorem mw.fresh {D : va_G} {cl : List vw_C} {A : Nat → Prop} {H0 H : Heap} {g : mw_G} {locs : List Loc} (h : mw D cl A H0 g H locs) : g H.size = none := by
  cases hq : g H.size with
  | none => rfl
  | some e => exact absurd (h.1 _ _ hq).lt (Nat.lt_irrefl _)
theorem mw.sub {D : va_G} {cl : List vw_C} {A : Nat → Prop} {H0 H : Heap} {g : mw_G} {locs : List Loc} (h : mw D cl A H0 g H locs) : ∀ q, mw_A g H.size q → A q := by
  intro q hq
  rcases hq with ⟨e, hq⟩ | hq
  · exact h.2.1 q e hq
  · exact h.2.2.2 q (Nat.le_trans h.2.2.1.1 hq)
theorem mw_A.start (D : va_G) (cl : List vw_C) {g : mw_G} {H : Heap} (h : mw_pic D cl g H) : mw D cl (mw_A g H.size) H g H [] :=
  ⟨h, fun _ e ha => Or.inl ⟨e, ha⟩, va_S.rf, fun _ h => Or.inr h⟩
/-- what a throw needs beside a method's words: the statics of Throwable, the texts, the words that aren't steady -/
def mw_st (sx : List (String × Nat × String)) (nw : List Cond) (A : Nat → Prop) (U : State) (H : Heap) : Prop :=
  vx_Zq Bundle.tN "UNASSIGNED_STACK" Bundle.steD A U H ∧ vx_Zq Bundle.tN "SUPPRESSED_SENTINEL" Bundle.listD A U H ∧ (∀ q ∈ sx, ∃ sa, vk_R q.1 q.2.1 q.2.2 sa U) ∧ ∀ w ∈ nw, va_Nw w U
def mw_cd : Cond → Bool
  | .castable _ _ => true
  | .declares _ => true
  | .methodLinkNest _ _ _ _ => true
  | .arrayOver (.object _) => true
  | .not (.castable _ _) => true
  | _ => false
theorem mw_nc {C T : String} {args : Array Value} {s : State} (h : va_Nc C T s) : (Cond.not (.castable C T)).before args s = true := by
  obtain ⟨c, t, h1, h2, h3⟩ := h
  simp [Cond.before, Cond.holds, Cond.value, h1, h2, h3]
theorem mw_nw {w : Cond} {s U : State} (h : mw_cd w = true) (hW : s.WarmedH U.vm) (hZ : va_Nw w s) : va_Nw w U := by
  unfold mw_cd at h
  split at h
  · exact va_Nw.warmC hW hZ
  · exact va_Nw.warmD hW hZ
  · exact va_Nw.warmM hW hZ
  · exact va_AO.moved hW.alike hZ
  · exact mw_nc (va_Nc.moved hW.alike (va_Nc.of hZ))
  · cases h
theorem mw_nb {w : Cond} {args : Array Value} {s : State} (h : mw_cd w = true) (hZ : va_Nw w s) : w.before args s = true := by
  unfold mw_cd at h
  split at h
  · exact va_Nw.use rfl hZ
  · exact va_Nw.use rfl hZ
  · exact va_Nw.use rfl hZ
  · exact va_AO.use hZ
  · exact mw_nc (va_Nc.of hZ)
  · cases h
theorem mw_st.go {sx : List (String × Nat × String)} {nw : List Cond} {A B : Nat → Prop} {s U : State} {H H1 : Heap} (hcd : ∀ w ∈ nw, mw_cd w = true) (h : mw_st sx nw A s H) (hW : s.WarmedH U.vm) (hq : ∀ a : Nat, a < H.size → ¬ A a → H1[a]? = H[a]?) (hAB : ∀ q, B q → A q) : mw_st sx nw B U H1 :=
  ⟨vx_Zq.moved hW.alike ((h.1.kept hq).narrow hAB), vx_Zq.moved hW.alike ((h.2.1.kept hq).narrow hAB), fun q hq => by
    obtain ⟨sa, h1⟩ := h.2.2.1 q hq
    exact ⟨sa, vk_R.warm hW h1⟩, fun w hw => mw_nw (hcd w hw) hW (h.2.2.2 w hw)⟩
/-- a method's start and ends over a map -/
def mw_Pc (D : va_G) (cl : List vw_C) (tys : List (ClassId × FieldType)) (sx : List (String × Nat × String)) (nw : List Cond) (g : mw_G) (sz : Nat) (av : List Value) : Array Value → State → Prop :=
  va_Pc av (fun U => U.heap.size = sz ∧ mw_pic D cl g U.heap ∧ va_K D cl tys U ∧ mw_st sx nw (mw_A g sz) U U.heap)
def mw_Qc (D : va_G) (cl : List vw_C) (g : mw_G) (sz : Nat) (post : Option Value → mw_G → Prop) : Array Value → State → Outcome → State → Prop := fun _ st oc t =>
  ∃ (v : Option Value) (g' : mw_G), oc = .returned v ∧ post v g' ∧ mw_pic D cl g' t.heap ∧ mw_in (mw_A g sz) g' ∧ va_F (mw_A g sz) st t
def mw_Xc (D : va_G) (cl : List vw_C) (g : mw_G) (sz : Nat) (px : String → mw_G → Prop) : String → State → State → Prop := fun E st t =>
  ∃ g' : mw_G, px E g' ∧ mw_pic D cl g' t.heap ∧ mw_in (mw_A g sz) g' ∧ va_F (mw_A g sz) st t
def mw_Met (l : Launch) (y : MethodName) (ws : List Cond) (rm : Room) (D : va_G) (cl : List vw_C) (tys : List (ClassId × FieldType)) (sx : List (String × Nat × String)) (nw : List Cond) (g : mw_G) (sz : Nat) (av : List Value) (post : Option Value → mw_G → Prop) (px : String → mw_G → Prop) : Prop :=
  vx_Met l y ws rm (mw_Pc D cl tys sx nw g sz av) (mw_Qc D cl g sz post) (mw_Xc D cl g sz px) rm.cells rm.slots (mw_A g sz)
theorem mw_blind {D : va_G} {cl : List vw_C} {tys : List (ClassId × FieldType)} {sx : List (String × Nat × String)} {nw : List Cond} {g : mw_G} {sz : Nat} {av : List Value} (hcd : ∀ w ∈ nw, mw_cd w = true) : FrameBlind (mw_Pc D cl tys sx nw g sz av) := by
  intro a U f mk q
  obtain ⟨q0, q1, q2, q3, q4⟩ := q
  exact ⟨q0, q1, q2, va_K.moved (u := U) (U := U.calling f mk a) (Vm.Alike.refl U.vm) q3, mw_st.go (U := U.calling f mk a) hcd q4 (State.WarmedH.refl U) (fun _ _ _ => rfl) (fun _ h => h)⟩
section MWR
variable {p : Program} {l : Launch} {e : Env} {R : Room} {s : State} {m : MethodId} {args : Array Value} {below : List Frame} {meth : Method} {c : Code} {H : Heap} {locs : List Loc} {cells slots : Nat} {Q : State → Prop}
variable {cc : ByteArray} {pc nL : Nat} {ls : Array Slot} {rest : List Value} {D : va_G} {cl : List vw_C} {tys : List (ClassId × FieldType)} {sx : List (String × Nat × String)} {nw : List Cond} {A : Nat → Prop} {g : mw_G} {a : Nat} {Ts : List Cond} {own : String}
/-- a method's frame: machine, code, own class, words, tables, what a throw needs -/
def mx (D : va_G) (cl : List vw_C) (tys : List (ClassId × FieldType)) (sx : List (String × Nat × String)) (nw : List Cond) (A : Nat → Prop) (p : Program) (m : MethodId) (c : Code) (cc : ByteArray) (nL : Nat) (s : State) (args : Array Value) (Ts : List Cond) (own : String) : Prop :=
  CallFix p m c cc nL s args Ts own ∧ va_K D cl tys s ∧ mw_st sx nw A s s.heap ∧ ∀ w ∈ nw, mw_cd w = true
/-- field k of class C (table T of N fields, number ci), linked at index -/
def mw_F (Ts : List Cond) (cl : List vw_C) (own : String) (index ci k : Nat) (C : String) (T : u_T) (N : Nat) : Prop :=
  (∀ w ∈ u_ws C T N, w ∈ Ts) ∧ cl[ci]? = some (C, T, N) ∧ k < N ∧ Cond.fieldLink own index C (T k).2.1 (T k).2.2.1 ∈ Ts ∧ (T k).1 = C
theorem mw_get (hC : mx D cl tys sx nw A p m c cc nL s args Ts own) (hM : mw D cl A s.heap g H locs) {C : String} {T : u_T} {N ci index k : Nat} {fs : List Value} {v : Value} (ha : g a = some (.inr (ci, fs))) (hw : mw_F Ts cl own index ci k C T N) (hv : fs[k]? = some v) (hdg : decode cc pc = .ok (.getfield index, 3))
    (kk : W p l e R s m args below meth c H locs cells slots Q (F0 m (pc + 3) ls (v :: rest))) : W p l e R s m args below meth c H locs cells slots Q (F0 m pc ls (.ref a :: rest)) := by
  obtain ⟨⟨hx, hb, -, hown, hts⟩, hK, -⟩ := hC
  obtain ⟨hin, hc, hk, hl, hr⟩ := hw
  exact va_get hx hb hts hin hown hK (hM.1.one ha) 0 rfl hc k hk (hts _ hl) (fun x h => by rw [hr] at h; exact h) hv hdg kk
/-- what a store into the field needs of the table -/
def mw_Fp (T : u_T) (N k : Nat) (ty0 : Nat → FieldType) (ty : FieldType) : Prop :=
  (∀ j, j < N → parseFieldDescriptor (T j).2.2.1 = some (ty0 j)) ∧ (∀ a, a < N → ∀ b, b < N → a ≠ b → (T a).2.1 ≠ (T b).2.1) ∧ parseFieldDescriptor (T k).2.2.1 = some ty
theorem mw_put (hC : mx D cl tys sx nw A p m c cc nL s args Ts own) (hM : mw D cl A s.heap g H locs) {C : String} {T : u_T} {N ci index k : Nat} {fs : List Value} {v : Value} {ty0 : Nat → FieldType} {ty : FieldType} (ha : g a = some (.inr (ci, fs))) (hw : mw_F Ts cl own index ci k C T N) (hp : mw_Fp T N k ty0 ty) (hfin : (T k).2.2.2 = false) (hn : narrow ty v = v) (hfit : fits ty v = true) (hl : k < fs.length) (hdg : decode cc pc = .ok (.putfield index, 3))
    (kk : ∀ (H1 : Heap) (locs1 : List Loc), mw D cl A s.heap (mw_up g a (.inr (ci, fs.set k v))) H1 locs1 → W p l e R s m args below meth c H1 locs1 cells slots Q (F0 m (pc + 3) ls rest)) : W p l e R s m args below meth c H locs cells slots Q (F0 m pc ls (v :: .ref a :: rest)) := by
  obtain ⟨⟨hx, hb, -, hown, hts⟩, hK, -⟩ := hC
  obtain ⟨hin, hc, hk, hlk, hr⟩ := hw
  obtain ⟨hty, hnm, hd⟩ := hp
  have hap := va_apart (own := own) hts hin ty0 hty hnm hK hc
  obtain ⟨r, h1, cell, q1, q2, q3, q4⟩ := hM.1 _ _ ha
  have hr' : r = (C, T, N) := Option.some.inj (h1.symm.trans hc)
  subst hr'
  obtain ⟨hS, hfc, kC, hkC, hkind⟩ := hK.1 ci _ hc
  obtain ⟨cf, kf, fi, f, hi, hsl⟩ := hS k hk
  have hlay := hts _ (hin _ (u_in_lay hk))
  unfold u_lay at hlay
  rw [if_neg (by rw [hfin]; decide)] at hlay
  have hst := (u_facts hfc hkC (u_lays hts hin hk) hi).1
  have h6 := u_store hfc hkC hkind hlay hi hd hn hfit
  refine W.putK hx hb (f := f) ⟨hown, hts _ hlk, ⟨_, _, _, by rw [hr] at hi; exact hi⟩, hst⟩ (by rw [q2]; exact h6) q1 q3 (by rw [hsl]; exact k2_hasslot (q4 k hk)) rfl rfl hdg fun H' e1 e2 e3 => ?_
  rw [hsl] at e1 ⊢
  exact kk H' _ (hM.put ha ⟨_, hc, t_OB.to (V := updV (vp_V fs) k v) ⟨_, e1, q2, q3, t_set q4 hap hk v⟩ (fun j _ => vp_updV_set hl v j)⟩ e2 e3)
theorem mw_putF (hC : mx D cl tys sx nw A p m c cc nL s args Ts own) (hM : mw D cl A s.heap g H locs) {C : String} {T : u_T} {N ci index k : Nat} {fs : List Value} {v : Value} {ty0 : Nat → FieldType} {ty : FieldType} (ha : g a = some (.inr (ci, fs))) (hw : mw_F Ts cl own index ci k C T N) (hp : mw_Fp T N k ty0 ty) (hfin : (T k).2.2.2 = true) (hin2 : meth.name = "<init>") (hdecl : C = own) (hn : narrow ty v = v) (hfit : fits ty v = true) (hl : k < fs.length) (hdg : decode cc pc = .ok (.putfield index, 3))
    (kk : ∀ (H1 : Heap) (locs1 : List Loc), mw D cl A s.heap (mw_up g a (.inr (ci, fs.set k v))) H1 locs1 → W p l e R s m args below meth c H1 locs1 cells slots Q (F0 m (pc + 3) ls rest)) : W p l e R s m args below meth c H locs cells slots Q (F0 m pc ls (v :: .ref a :: rest)) := by
  obtain ⟨⟨hx, hb, -, hown, hts⟩, hK, -⟩ := hC
  obtain ⟨hin, hc, hk, hlk, hr⟩ := hw
  obtain ⟨hty, hnm, hd⟩ := hp
  have hap := va_apart (own := own) hts hin ty0 hty hnm hK hc
  obtain ⟨r, h1, cell, q1, q2, q3, q4⟩ := hM.1 _ _ ha
  have hr' : r = (C, T, N) := Option.some.inj (h1.symm.trans hc)
  subst hr'
  obtain ⟨hS, hfc, kC, hkC, hkind⟩ := hK.1 ci _ hc
  obtain ⟨cf, kf, fi, f, hi, hsl⟩ := hS k hk
  have hlay := hts _ (hin _ (u_in_lay hk))
  unfold u_lay at hlay
  rw [if_pos hfin] at hlay
  have hst := (u_facts hfc hkC (u_lays hts hin hk) hi).1
  have hcf : m.cls = cf := by
    obtain ⟨_, _, c', _, _, _, -, -, hf', -, -, -, hown2, -⟩ := Cond.laysFinal_spec hlay
    have e1 : c' = cf := by have := hi.symm.trans hf'; simp at this; exact this.1.symm
    rw [hr, hdecl] at hown2
    rw [← e1]; exact Option.some.inj (hown.symm.trans hown2)
  have h6 := u_fits hfc hkC hkind (Or.inr hlay) hi hd hn hfit
  refine W.putFinK hx hb hown (hts _ hlk) (by rw [hr] at hi; exact hi) hst hcf hin2 (by rw [q2]; exact h6) q1 q3 (by rw [hsl]; exact k2_hasslot (q4 k hk)) rfl rfl hdg fun H' e1 e2 e3 => ?_
  rw [hsl] at e1 ⊢
  exact kk H' _ (hM.put ha ⟨_, hc, t_OB.to (V := updV (vp_V fs) k v) ⟨_, e1, q2, q3, t_set q4 hap hk v⟩ (fun j _ => vp_updV_set hl v j)⟩ e2 e3)
/-- an array of references, of n places -/
abbrev mw_aq (cA : ClassId) (n : Nat) (f : Nat → Option Nat) : va_E := .inl (cA, n, .inr (.inr (.inr (.inr f))))
abbrev mw_ai (cA : ClassId) (n : Nat) (f : Nat → Int32) : va_E := .inl (cA, n, .inl f)
abbrev mw_al (cA : ClassId) (n : Nat) (f : Nat → Int64) : va_E := .inl (cA, n, .inr (.inl f))
theorem mw_alen (hC : mx D cl tys sx nw A p m c cc nL s args Ts own) (hM : mw D cl A s.heap g H locs) (t0 : Nat) {cA : ClassId} {x : vp_A} (ha : g a = some (.inl (cA, x))) {ty : FieldType} (ht : tys[t0]? = some (cA, ty)) {v : Int32} (hv : Int32.ofNat x.1 = v) (hdg : decode cc pc = .ok (.arraylength, 1))
    (kk : W p l e R s m args below meth c H locs cells slots Q (F0 m (pc + 1) ls (.int v :: rest))) : W p l e R s m args below meth c H locs cells slots Q (F0 m pc ls (.ref a :: rest)) :=
  va_alen hC.1.1 hC.1.2.1 hC.2.1 (hM.1.one ha) 0 t0 rfl ht hv hdg kk
theorem mw_aldq (hC : mx D cl tys sx nw A p m c cc nL s args Ts own) (hM : mw D cl A s.heap g H locs) (t0 : Nat) {cA : ClassId} {C : String} {n : Nat} {f : Nat → Option Nat} (ha : g a = some (mw_aq cA n f)) (ht : tys[t0]? = some (cA, .object C)) {i : Int32} (hin : vp_in i n) (hdg : decode cc pc = .ok (.aaload, 1))
    (kk : W p l e R s m args below meth c H locs cells slots Q (F0 m (pc + 1) ls (va_rf (f i.toNatClampNeg) :: rest))) : W p l e R s m args below meth c H locs cells slots Q (F0 m pc ls (.int i :: .ref a :: rest)) :=
  va_aldq hC.1.1 hC.1.2.1 hC.2.1 (hM.1.one ha) 0 t0 rfl ht hin hdg kk
theorem mw_iald (hC : mx D cl tys sx nw A p m c cc nL s args Ts own) (hM : mw D cl A s.heap g H locs) (t0 : Nat) {cA : ClassId} {n : Nat} {f : Nat → Int32} (ha : g a = some (mw_ai cA n f)) (ht : tys[t0]? = some (cA, .int)) {i : Int32} (hin : vp_in i n) (hdg : decode cc pc = .ok (.iaload, 1))
    (kk : W p l e R s m args below meth c H locs cells slots Q (F0 m (pc + 1) ls (.int (f i.toNatClampNeg) :: rest))) : W p l e R s m args below meth c H locs cells slots Q (F0 m pc ls (.int i :: .ref a :: rest)) :=
  va_iald hC.1.1 hC.1.2.1 hC.2.1 (hM.1.one ha) 0 t0 rfl ht hin hdg kk
theorem mw_zald (hC : mx D cl tys sx nw A p m c cc nL s args Ts own) (hM : mw D cl A s.heap g H locs) (t0 : Nat) {cA : ClassId} {n : Nat} {f : Nat → Int32} (ha : g a = some (mw_ai cA n f)) (ht : tys[t0]? = some (cA, .boolean)) {i : Int32} (hin : vp_in i n) (hdg : decode cc pc = .ok (.baload, 1))
    (kk : W p l e R s m args below meth c H locs cells slots Q (F0 m (pc + 1) ls (.int (f i.toNatClampNeg) :: rest))) : W p l e R s m args below meth c H locs cells slots Q (F0 m pc ls (.int i :: .ref a :: rest)) :=
  va_zald hC.1.1 hC.1.2.1 hC.2.1 (hM.1.one ha) 0 t0 rfl ht hin hdg kk
theorem mw_lald (hC : mx D cl tys sx nw A p m c cc nL s args Ts own) (hM : mw D cl A s.heap g H locs) (t0 : Nat) {cA : ClassId} {n : Nat} {f : Nat → Int64} (ha : g a = some (mw_al cA n f)) (ht : tys[t0]? = some (cA, .long)) {i : Int32} (hin : vp_in i n) (hdg : decode cc pc = .ok (.laload, 1))
    (kk : W p l e R s m args below meth c H locs cells slots Q (F0 m (pc + 1) ls (.long (f i.toNatClampNeg) :: rest))) : W p l e R s m args below meth c H locs cells slots Q (F0 m pc ls (.int i :: .ref a :: rest)) :=
  va_lald hC.1.1 hC.1.2.1 hC.2.1 (hM.1.one ha) 0 t0 rfl ht hin hdg kk
theorem mw_astq (hC : mx D cl tys sx nw A p m c cc nL s args Ts own) (hM : mw D cl A s.heap g H locs) (t0 ci : Nat) {cA : ClassId} {r : vw_C} {n v : Nat} {vs : List Value} {f : Nat → Option Nat} (ha : g a = some (mw_aq cA n f)) (ht : tys[t0]? = some (cA, .object r.1)) (hv : g v = some (.inr (ci, vs))) (hc : cl[ci]? = some r) {i : Int32} (hin : vp_in i n) (hdg : decode cc pc = .ok (.aastore, 1))
    (kk : ∀ (H1 : Heap) (locs1 : List Loc), mw D cl A s.heap (mw_up g a (mw_aq cA n (va_up f i.toNatClampNeg (some v)))) H1 locs1 → W p l e R s m args below meth c H1 locs1 cells slots Q (F0 m (pc + 1) ls rest)) : W p l e R s m args below meth c H locs cells slots Q (F0 m pc ls (.ref v :: .int i :: .ref a :: rest)) := by
  have hlt : i.toNatClampNeg < n := Nat.not_le.mp fun q => hin (Or.inr q)
  have h0 : ¬ i < 0 := fun q => hin (Or.inl q)
  have hK := hC.2.1
  obtain ⟨r', hr', cellV, g1, g2, g3, -⟩ := hM.1 _ _ hv
  have hcls := (hK.1 ci r hc).2
  obtain ⟨kA, comp, k1, k2, k3, -⟩ := (hK.2 t0 _ ht).2
  have hcomp : comp = D.1 ci := Option.some.inj (k3.symm.trans hcls.1)
  subst hcomp
  obtain ⟨kC, hkC, -⟩ := hcls.2
  refine W.aast hC.1.1 hC.1.2.1 (hM.1 _ _ ha) (fun q h => by cases h) (fun h => by cases h) k1 k2 rfl hkC ⟨h0, by show _ < (arrV _ _ _).slots.size; rw [arrV_size]; exact hlt⟩ g1 (fun q h => by rw [g3] at h; cases h) (by rw [g2]; exact hkC) (by rw [g2]; exact va_assign hcls) rfl rfl hdg fun H1 e z oq => ?_
  refine kk H1 _ (hM.put ha ?_ z oq)
  show H1[a]? = some (vp_cell _ _)
  rw [e]
  rw [vp_cell_q, vp_cell_q, arrV_store]
  congr 2
  funext q
  by_cases hq : q = i.toNatClampNeg
  · subst hq
    simp [updV, va_up, va_rf]
  · simp [updV, va_up, hq]
theorem mw_iast (hC : mx D cl tys sx nw A p m c cc nL s args Ts own) (hM : mw D cl A s.heap g H locs) (t0 : Nat) {cA : ClassId} {n : Nat} {f : Nat → Int32} (ha : g a = some (mw_ai cA n f)) (ht : tys[t0]? = some (cA, .int)) {i x : Int32} (hin : vp_in i n) (hdg : decode cc pc = .ok (.iastore, 1))
    (kk : ∀ (H1 : Heap) (locs1 : List Loc), mw D cl A s.heap (mw_up g a (mw_ai cA n (upd f i.toNatClampNeg x))) H1 locs1 → W p l e R s m args below meth c H1 locs1 cells slots Q (F0 m (pc + 1) ls rest)) : W p l e R s m args below meth c H locs cells slots Q (F0 m pc ls (.int x :: .int i :: .ref a :: rest)) := by
  refine W.iast hC.1.1 hC.1.2.1 (hM.1 _ _ ha) ((hC.2.1.2 t0 _ ht).1 n (fun j => .int (f j))) (fun q => by cases q) (by show ¬ (i < 0 ∨ (arrV _ _ _).slots.size ≤ _); rw [arrV_size]; exact hin) rfl rfl hdg fun H1 e z oq => ?_
  refine kk H1 _ (hM.put ha ?_ z oq)
  show H1[a]? = some (vp_cell _ _)
  rw [e]
  rw [vp_cell_i, vp_cell_i, arrV_store]
  congr 2
  funext q
  by_cases hq : q = i.toNatClampNeg
  · subst hq
    simp [updV, upd]
  · simp [updV, upd, hq]
theorem mw_last (hC : mx D cl tys sx nw A p m c cc nL s args Ts own) (hM : mw D cl A s.heap g H locs) (t0 : Nat) {cA : ClassId} {n : Nat} {f : Nat → Int64} (ha : g a = some (mw_al cA n f)) (ht : tys[t0]? = some (cA, .long)) {i : Int32} {x : Int64} (hin : vp_in i n) (hdg : decode cc pc = .ok (.lastore, 1))
    (kk : ∀ (H1 : Heap) (locs1 : List Loc), mw D cl A s.heap (mw_up g a (mw_al cA n (vp_updL f i.toNatClampNeg x))) H1 locs1 → W p l e R s m args below meth c H1 locs1 cells slots Q (F0 m (pc + 1) ls rest)) : W p l e R s m args below meth c H locs cells slots Q (F0 m pc ls (.long x :: .int i :: .ref a :: rest)) := by
  refine W.last hC.1.1 hC.1.2.1 (hM.1 _ _ ha) ((hC.2.1.2 t0 _ ht).1 n (fun j => .long (f j))) (fun q => by cases q) (by show ¬ (i < 0 ∨ (arrV _ _ _).slots.size ≤ _); rw [arrV_size]; exact hin) rfl rfl hdg fun H1 e z oq => ?_
  refine kk H1 _ (hM.put ha ?_ z oq)
  show H1[a]? = some (vp_cell _ _)
  rw [e]
  rw [vp_cell_l, vp_cell_l, arrV_store]
  congr 2
  funext q
  by_cases hq : q = i.toNatClampNeg
  · subst hq
    simp [updV, vp_updL]
  · simp [updV, vp_updL, hq]
theorem mw_new (hC : mx D cl tys sx nw A p m c cc nL s args Ts own) (hM : mw D cl A s.heap g H locs) {C : String} {T : u_T} {N ci index : Nat} {ty : Nat → FieldType} {fs : List Value} (hw : (∀ w ∈ u_ws C T N, w ∈ Ts) ∧ (∀ k, k < N → parseFieldDescriptor (T k).2.2.1 = some (ty k)) ∧ Cond.classLink own index C ∈ Ts ∧ Cond.instantiable C N ∈ Ts ∧ Cond.initialized C ∈ Ts ∧ cl[ci]? = some (C, T, N)) (hfs : ∀ j, j < N → defaultValue (ty j) = vp_V fs j) (hcells : cells + 1 ≤ R.cells) (hslots : slots + N ≤ R.slots) (hdg : decode cc pc = .ok (.new index, 3))
    (kk : ∀ (q : Nat) (H1 : Heap), g q = none → mw D cl A s.heap (mw_up g q (.inr (ci, fs))) H1 locs → W p l e R s m args below meth c H1 locs (cells + 1) (slots + N) Q (F0 m (pc + 3) ls (.ref q :: rest))) : W p l e R s m args below meth c H locs cells slots Q (F0 m pc ls rest) := by
  obtain ⟨⟨hx, hb, -, hown, hts⟩, hK, -⟩ := hC
  obtain ⟨hin, hty, h1, h2, h3, hc⟩ := hw
  have hKn := hK.1 ci _ hc
  refine W.newcK hx hb hown (hts _ h1) (hts _ h2) (hts _ h3) rfl hdg hcells hslots hKn.2.1 rfl fun H1 kC hkC e1 z1 o1 => ?_
  exact kk H.size H1 hM.fresh (hM.new ⟨_, hc, (u_born ty hts hin hKn hkC e1 hty).to hfs⟩ z1 o1)
theorem mw_newq (hC : mx D cl tys sx nw A p m c cc nL s args Ts own) (hM : mw D cl A s.heap g H locs) (t0 : Nat) {C : String} {index : Nat} {cA : ClassId} (h1 : Cond.classLink own index C ∈ Ts) (h2 : Cond.arrayOver (.object C) ∈ nw) (ht : tys[t0]? = some (cA, .object C)) {n : Int32} {N' : Nat} (hn : ¬ n < 0) (hN : n.toNatClampNeg = N') (hbytes : N' * 4 ≤ 536870912) (hcells : cells + 1 ≤ R.cells) (hslots : slots + N' ≤ R.slots) (hdg : decode cc pc = .ok (.anewarray index, 3))
    (kk : ∀ (q : Nat) (H1 : Heap), g q = none → mw D cl A s.heap (mw_up g q (mw_aq cA N' (fun _ => none))) H1 locs → W p l e R s m args below meth c H1 locs (cells + 1) (slots + N') Q (F0 m (pc + 3) ls (.ref q :: rest))) : W p l e R s m args below meth c H locs cells slots Q (F0 m pc ls (.int n :: rest)) := by
  have hov : va_AO C s := hC.2.2.1.2.2.2 _ h2
  obtain ⟨⟨hx, hb, -, hown, hts⟩, hK, -⟩ := hC
  subst hN
  refine W.anew hx hb hown (hts _ h1) (va_AO.use hov) rfl hdg rfl hn hbytes hcells hslots fun cA' kA comp f1 f2 f3 f4 => ?_
  obtain ⟨kA2, comp2, -, -, -, k4⟩ := (hK.2 t0 _ ht).2
  have hcA : cA' = cA := Option.some.inj (f1.symm.trans k4)
  subst hcA
  generalize hH1 : H.push ({ cls := cA', slots := Array.replicate n.toNatClampNeg .null, vm := .none } : Cell) = H1
  have z1 : H1.size = H.size + 1 := by rw [← hH1, Array.size_push]
  have e1 : H1[H.size]? = some (arrV cA' n.toNatClampNeg (fun _ => .null)) := by rw [← hH1, Array.getElem?_push_size, ← arrV_new]
  have o1 : ∀ q : Nat, q < H.size → H1[q]? = H[q]? := fun q hq => by rw [← hH1, Array.getElem?_push, if_neg (Nat.ne_of_lt hq)]
  refine kk H.size H1 hM.fresh (hM.new ?_ z1 o1)
  show H1[H.size]? = some (vp_cell _ _)
  rw [vp_cell_q]
  exact e1
theorem mw_pre (hC : mx D cl tys sx nw A p m c cc nL s args Ts own) (hM : mw D cl A s.heap g H locs) {av : List Value} : ∀ U : State, U.heap = H → s.WarmedH U.vm → mw_Pc D cl tys sx nw g H.size av av.toArray U := by
  intro U hU hW
  refine ⟨rfl, by rw [hU], by rw [hU]; exact hM.1, va_K.moved hW.alike hC.2.1, ?_⟩
  rw [hU]
  exact mw_st.go hC.2.2.2 hC.2.2.1 hW (fun q h1 h2 => hM.2.2.1.2.1 q h1 h2) hM.sub
theorem mw_call {mc ms : Nat} {st0 : List Value} {a9 : Array Value} {post : Option Value → mw_G → Prop} {px : String → mw_G → Prop} (hM : mw D cl A s.heap g H locs)
    (hr : vx_Run p l e R s m args below meth c H locs cells slots mc ms (F0 m pc ls st0) rest (mw_Qc D cl g H.size post a9) (mw_Xc D cl g H.size px) (mw_A g H.size))
    (kx : ∀ (E : String) (ce : Cell) (q9 : Addr) (g' : mw_G) (H1 : Heap) (locs1 : List Loc), px E g' → mw D cl A s.heap g' H1 locs1 → H1[q9]? = some ce → ce.vm = .none → s.vm.findClass E = some ce.cls → vx_W p l e R s m args below meth c H1 locs1 (cells + mc) (slots + ms) Q (F0 m pc ls rest) q9)
    (kk : ∀ (v : Option Value) (g' : mw_G) (H1 : Heap) (locs1 : List Loc), post v g' → mw D cl A s.heap g' H1 locs1 → W p l e R s m args below meth c H1 locs1 (cells + mc) (slots + ms) Q (F0 m (pc + 3) ls (v.toList ++ rest))) : W p l e R s m args below meth c H locs cells slots Q (F0 m pc ls st0) := by
  intro T hT X
  rcases hr T hT X with ⟨v, st₀, t, T', L, h0, X', hL, e1, e2, ⟨v', g', hv, hp, hpic, hin, hF⟩, st⟩ | ⟨q, st₀, t, T', L, E, ce, h0, X', hL, e1, e2, ⟨g', hp, hpic, hin, hF⟩, hce, hcv, hcl, st⟩
  · have hv' := Outcome.returned.inj hv
    subst hv'
    obtain ⟨k1, k2, k3⟩ := vx_keep h0 e1 hM.2.2.1 (fun q _ h => hM.sub q h) (fun q h => hM.sub q h) hL hF
    obtain ⟨t2, a1, b1⟩ := kk v g' T'.heap (locs ++ L) hp ⟨by rw [e1]; exact hpic, fun a e h => hM.sub _ (hin a e h), k3, hM.2.2.2⟩ T' rfl X'
    exact ⟨t2, st t2 a1, b1⟩
  · obtain ⟨k1, k2, k3⟩ := vx_keep h0 e1 hM.2.2.1 (fun q _ h => hM.sub q h) (fun q h => hM.sub q h) hL hF
    obtain ⟨t2, a1, b1⟩ := kx E ce q g' T'.heap (locs ++ L) hp ⟨by rw [e1]; exact hpic, fun a e h => hM.sub _ (hin a e h), k3, hM.2.2.2⟩ (by rw [e1]; exact hce) hcv hcl T' rfl X'
    exact ⟨t2, st.trans a1, b1⟩
theorem mw_callV (hC : mx D cl tys sx nw A p m c cc nL s args Ts own) (hM : mw D cl A s.heap g H locs) {y : MethodName} {ws : List Cond} {rm : Room} {As : List Value} {post : Option Value → mw_G → Prop} {px : String → mw_G → Prop} {b index n maxL : Nat} {bytes : ByteArray} {ret : Option FieldType} {C : String} {T : u_T} {N ci : Nat} {fs st0 : List Value}
    (hMet : mw_Met l y ws rm D cl tys sx nw g H.size (.ref b :: As) post px) (cw : CallW R s args own C index y bytes maxL ret ws rm rm.cells rm.slots n) (hb : g b = some (.inr (ci, fs))) (hc : cl[ci]? = some (C, T, N)) (hn : As.length = n) (hst : st0 = As.reverse ++ .ref b :: rest) (hsize : ls.size = nL) (hroom : (rest.map fun v => v.category).sum ≤ 8) (hdg : decode cc pc = .ok (.invokevirtual index, 3)) (hf : cells + rm.cells ≤ R.cells ∧ slots + rm.slots ≤ R.slots)
    (kx : ∀ (E : String) (ce : Cell) (q9 : Addr) (g' : mw_G) (H1 : Heap) (locs1 : List Loc), px E g' → mw D cl A s.heap g' H1 locs1 → H1[q9]? = some ce → ce.vm = .none → s.vm.findClass E = some ce.cls → vx_W p l e R s m args below meth c H1 locs1 (cells + rm.cells) (slots + rm.slots) Q (F0 m pc ls rest) q9)
    (kk : ∀ (v : Option Value) (g' : mw_G) (H1 : Heap) (locs1 : List Loc), post v g' → mw D cl A s.heap g' H1 locs1 → W p l e R s m args below meth c H1 locs1 (cells + rm.cells) (slots + rm.slots) Q (F0 m (pc + 3) ls (v.toList ++ rest))) : W p l e R s m args below meth c H locs cells slots Q (F0 m pc ls st0) :=
  mw_call hM (vx_runV hC.1 hMet cw ⟨mw_blind hC.2.2.2, va_recv hC.2.1 (hM.1.one hb) hc (q0 := 0) rfl, mw_pre hC hM⟩ rfl hn hsize hst (lv_room hroom) hdg hf) kx kk
theorem mw_callS (hC : mx D cl tys sx nw A p m c cc nL s args Ts own) (hM : mw D cl A s.heap g H locs) {y : MethodName} {ws : List Cond} {rm : Room} {As : List Value} {post : Option Value → mw_G → Prop} {px : String → mw_G → Prop} {index n maxL : Nat} {bytes : ByteArray} {ret : Option FieldType} {st0 : List Value}
    (hMet : mw_Met l y ws rm D cl tys sx nw g H.size As post px) (cw : CallB R s args own index y bytes maxL ret ws rm rm.cells rm.slots n ∧ (Cond.static y).before args s = true) (hn : As.length = n) (hst : st0 = As.reverse ++ rest) (hsize : ls.size = nL) (hroom : (rest.map fun v => v.category).sum ≤ 8) (hdg : decode cc pc = .ok (.invokestatic index, 3)) (hf : cells + rm.cells ≤ R.cells ∧ slots + rm.slots ≤ R.slots)
    (kx : ∀ (E : String) (ce : Cell) (q9 : Addr) (g' : mw_G) (H1 : Heap) (locs1 : List Loc), px E g' → mw D cl A s.heap g' H1 locs1 → H1[q9]? = some ce → ce.vm = .none → s.vm.findClass E = some ce.cls → vx_W p l e R s m args below meth c H1 locs1 (cells + rm.cells) (slots + rm.slots) Q (F0 m pc ls rest) q9)
    (kk : ∀ (v : Option Value) (g' : mw_G) (H1 : Heap) (locs1 : List Loc), post v g' → mw D cl A s.heap g' H1 locs1 → W p l e R s m args below meth c H1 locs1 (cells + rm.cells) (slots + rm.slots) Q (F0 m (pc + 3) ls (v.toList ++ rest))) : W p l e R s m args below meth c H locs cells slots Q (F0 m pc ls st0) :=
  mw_call hM (vx_runS hC.1 hMet cw ⟨mw_blind hC.2.2.2, mw_pre hC hM⟩ rfl hn hsize hst (lv_room hroom) hdg hf) kx kk
/-- a constructor: it doesn't throw -/
def mw_MetI (l : Launch) (y : MethodName) (ws : List Cond) (rm : Room) (D : va_G) (cl : List vw_C) (tys : List (ClassId × FieldType)) (sx : List (String × Nat × String)) (nw : List Cond) (g : mw_G) (sz : Nat) (av : List Value) (post : Option Value → mw_G → Prop) : Prop :=
  Met l y ws rm (mw_Pc D cl tys sx nw g sz av) (mw_Qc D cl g sz post) rm.cells rm.slots (mw_A g sz)
theorem mw_callI (hC : mx D cl tys sx nw A p m c cc nL s args Ts own) (hM : mw D cl A s.heap g H locs) {y : MethodName} {ws : List Cond} {rm : Room} {As : List Value} {post : Option Value → mw_G → Prop} {b index n maxL : Nat} {bytes : ByteArray} {st0 : List Value}
    (hMet : mw_MetI l y ws rm D cl tys sx nw g H.size (.ref b :: As) post) (cw : CallB R s args own index y bytes maxL none ws rm rm.cells rm.slots n ∧ y.name = "<init>" ∧ (Cond.instanceMethod y).before args s = true) (hn : As.length = n) (hst : st0 = As.reverse ++ .ref b :: rest) (hsize : ls.size = nL) (hroom : (rest.map fun v => v.category).sum ≤ 8) (hdg : decode cc pc = .ok (.invokespecial index, 3)) (hf : cells + rm.cells ≤ R.cells ∧ slots + rm.slots ≤ R.slots)
    (kk : ∀ (v : Option Value) (g' : mw_G) (H1 : Heap) (locs1 : List Loc), post v g' → mw D cl A s.heap g' H1 locs1 → W p l e R s m args below meth c H1 locs1 (cells + rm.cells) (slots + rm.slots) Q (F0 m (pc + 3) ls (v.toList ++ rest))) : W p l e R s m args below meth c H locs cells slots Q (F0 m pc ls st0) := by
  have hr := va_runI (g := F0 m pc ls st0) (H := H) (locs := locs) (cells := cells) (slots := slots) (e := e) (below := below) (meth := meth) hC.1 hMet cw ⟨mw_blind hC.2.2.2, mw_pre hC hM⟩ rfl hn hsize hst (lv_room hroom) hdg hf
  intro T hT X
  obtain ⟨v, st₀, t, T', L, h0, X', hL, e1, e2, ⟨v', g', hv, hp, hpic, hin, hF⟩, st⟩ := hr T hT X
  have hv' := Outcome.returned.inj hv
  subst hv'
  obtain ⟨k1, k2, k3⟩ := vx_keep h0 e1 hM.2.2.1 (fun q _ h => hM.sub q h) (fun q h => hM.sub q h) hL hF
  obtain ⟨t2, a1, b1⟩ := kk v g' T'.heap (locs ++ L) hp ⟨by rw [e1]; exact hpic, fun a e h => hM.sub _ (hin a e h), k3, hM.2.2.2⟩ T' rfl X'
  exact ⟨t2, st t2 a1, b1⟩
/-- a private constructor of a nest mate -/
theorem mw_callIN (hC : mx D cl tys sx nw A p m c cc nL s args Ts own) (hM : mw D cl A s.heap g H locs) {y : MethodName} {ws : List Cond} {rm : Room} {As : List Value} {post : Option Value → mw_G → Prop} {b index n maxL : Nat} {bytes : ByteArray} {st0 : List Value} {host : String}
    (hMet : mw_MetI l y ws rm D cl tys sx nw g H.size (.ref b :: As) post) (cw : va_CN R s args own index y host bytes maxL none ws rm rm.cells rm.slots n ∧ y.name = "<init>" ∧ (Cond.instanceMethod y).before args s = true) (hn : As.length = n) (hst : st0 = As.reverse ++ .ref b :: rest) (hsize : ls.size = nL) (hroom : (rest.map fun v => v.category).sum ≤ 8) (hdg : decode cc pc = .ok (.invokespecial index, 3)) (hf : cells + rm.cells ≤ R.cells ∧ slots + rm.slots ≤ R.slots)
    (kk : ∀ (v : Option Value) (g' : mw_G) (H1 : Heap) (locs1 : List Loc), post v g' → mw D cl A s.heap g' H1 locs1 → W p l e R s m args below meth c H1 locs1 (cells + rm.cells) (slots + rm.slots) Q (F0 m (pc + 3) ls (v.toList ++ rest))) : W p l e R s m args below meth c H locs cells slots Q (F0 m pc ls st0) := by
  have hr := va_runIN (g := F0 m pc ls st0) (H := H) (locs := locs) (cells := cells) (slots := slots) (e := e) (below := below) (meth := meth) hC.1 hMet cw ⟨mw_blind hC.2.2.2, mw_pre hC hM⟩ rfl hn hsize hst (lv_room hroom) hdg hf
  intro T hT X
  obtain ⟨v, st₀, t, T', L, h0, X', hL, e1, e2, ⟨v', g', hv, hp, hpic, hin, hF⟩, st⟩ := hr T hT X
  have hv' := Outcome.returned.inj hv
  subst hv'
  obtain ⟨k1, k2, k3⟩ := vx_keep h0 e1 hM.2.2.1 (fun q _ h => hM.sub q h) (fun q h => hM.sub q h) hL hF
  obtain ⟨t2, a1, b1⟩ := kk v g' T'.heap (locs ++ L) hp ⟨by rw [e1]; exact hpic, fun a e h => hM.sub _ (hin a e h), k3, hM.2.2.2⟩ T' rfl X'
  exact ⟨t2, st t2 a1, b1⟩
variable {g0 : mw_G} {post : Option Value → mw_G → Prop} {px : String → mw_G → Prop} {XC : String → State → State → Prop} {mc ms : Nat}
theorem mw_fin (hM : mw D cl (mw_A g0 s.heap.size) s.heap g H locs) {v : Option Value} (hp : post v g) : ∀ t : State, t.heap = H → s.WarmedH t.vm → mw_Qc D cl g0 s.heap.size post args s (.returned v) t :=
  fun t ht _ => ⟨v, g, rfl, hp, by rw [ht]; exact hM.1, hM.2.1, hM.2.2.1.F ht⟩
theorem mw_iret (hC : mx D cl tys sx nw A p m c cc nL s args Ts own) (hM : mw D cl (mw_A g0 s.heap.size) s.heap g H locs) (hr : meth.sig.returnType = some .int) (hlocks : meth.locks = false) {v : Int32} (hdg : decode cc pc = .ok (.ireturn, 1)) (h1 : cells ≤ mc) (h2 : slots ≤ ms) (hp : post (some (.int v)) g) :
    W p l e R s m args below meth c H locs cells slots (vx_MQ below (mw_Qc D cl g0 s.heap.size post) XC args s mc ms (mw_A g0 s.heap.size)) (F0 m pc ls [.int v]) :=
  vx_ret (W.widen h1 h2 (W.iret hC.1.1 hC.1.2.1 hr (mw_fin hM hp) hM.2.2.1.2.2 hdg hlocks))
theorem mw_zret (hC : mx D cl tys sx nw A p m c cc nL s args Ts own) (hM : mw D cl (mw_A g0 s.heap.size) s.heap g H locs) {ty : FieldType} (hr : meth.sig.returnType = some ty) (hlocks : meth.locks = false) {v : Int32} (hn : narrow ty (.int v) = .int v) (hdg : decode cc pc = .ok (.ireturn, 1)) (h1 : cells ≤ mc) (h2 : slots ≤ ms) (hp : post (some (.int v)) g) :
    W p l e R s m args below meth c H locs cells slots (vx_MQ below (mw_Qc D cl g0 s.heap.size post) XC args s mc ms (mw_A g0 s.heap.size)) (F0 m pc ls [.int v]) :=
  vx_ret (W.widen h1 h2 (W.zret hC.1.1 hC.1.2.1 hr hn (mw_fin hM hp) hM.2.2.1.2.2 hdg hlocks))
theorem mw_vret (hC : mx D cl tys sx nw A p m c cc nL s args Ts own) (hM : mw D cl (mw_A g0 s.heap.size) s.heap g H locs) (hr : meth.sig.returnType = none) (hlocks : meth.locks = false) (hdg : decode cc pc = .ok (.return_, 1)) (h1 : cells ≤ mc) (h2 : slots ≤ ms) (hp : post none g) :
    W p l e R s m args below meth c H locs cells slots (vx_MQ below (mw_Qc D cl g0 s.heap.size post) XC args s mc ms (mw_A g0 s.heap.size)) (F0 m pc ls []) :=
  vx_ret (W.widen h1 h2 (W.vret hC.1.1 hC.1.2.1 hr (mw_fin hM hp) hM.2.2.1.2.2 hdg hlocks))
theorem mw_vretI (hC : mx D cl tys sx nw A p m c cc nL s args Ts own) (hM : mw D cl (mw_A g0 s.heap.size) s.heap g H locs) (hr : meth.sig.returnType = none) (hlocks : meth.locks = false) (hdg : decode cc pc = .ok (.return_, 1)) (h1 : cells ≤ mc) (h2 : slots ≤ ms) (hp : post none g) :
    W p l e R s m args below meth c H locs cells slots (MQ below (mw_Qc D cl g0 s.heap.size post) args s mc ms (mw_A g0 s.heap.size)) (F0 m pc ls []) :=
  W.widen h1 h2 (W.vret hC.1.1 hC.1.2.1 hr (mw_fin hM hp) hM.2.2.1.2.2 hdg hlocks)
theorem mw_aret (hC : mx D cl tys sx nw A p m c cc nL s args Ts own) (hM : mw D cl (mw_A g0 s.heap.size) s.heap g H locs) {C : String} (hr : meth.sig.returnType = some (.object C)) (hlocks : meth.locks = false) {r : Option Nat} (hdg : decode cc pc = .ok (.areturn, 1)) (h1 : cells ≤ mc) (h2 : slots ≤ ms) (hp : post (some (va_rf r)) g) :
    W p l e R s m args below meth c H locs cells slots (vx_MQ below (mw_Qc D cl g0 s.heap.size post) XC args s mc ms (mw_A g0 s.heap.size)) (F0 m pc ls [va_rf r]) :=
  vx_ret (W.widen h1 h2 (W.aret hC.1.1 hC.1.2.1 hr (Or.inl ⟨C, rfl⟩) (va_rf_or r) (mw_fin hM hp) hM.2.2.1.2.2 hdg hlocks))
/-- an exception of a callee goes on to the caller -/
theorem mw_out (hM : mw D cl (mw_A g0 s.heap.size) s.heap g H locs) (htab : ∀ x ∈ c.exceptionTable.toList, False) (hlocks : meth.locks = false) {E : String} {ce : Cell} {q9 : Addr} {Qc : Array Value → State → Outcome → State → Prop} (hce : H[q9]? = some ce) (hcv : ce.vm = .none) (hcl : s.vm.findClass E = some ce.cls) (h1 : cells ≤ mc) (h2 : slots ≤ ms) (hp : px E g) :
    vx_W p l e R s m args below meth c H locs cells slots (vx_MQ below Qc (mw_Xc D cl g0 s.heap.size px) args s mc ms (mw_A g0 s.heap.size)) (F0 m pc ls rest) q9 :=
  vx_out (fun x hx => (htab x hx).elim) hlocks hce hcv hcl (fun t ht _ => ⟨g, hp, by rw [ht]; exact hM.1, hM.2.1, hM.2.2.1.F ht⟩) hM.2.2.1.2.2 h1 h2
/-- throw new E("text") -/
theorem mw_throw (hC : mx D cl tys sx nw (mw_A g0 s.heap.size) p m c cc nL s args Ts own) (hM : mw D cl (mw_A g0 s.heap.size) s.heap g H locs) (htab : ∀ x ∈ c.exceptionTable.toList, False) (hlocks : meth.locks = false) (hl : l.stackTraces = false) {cls text : String} {names : List String} {ik is ic : Nat} {Qc : Array Value → State → Outcome → State → Prop}
    (htx : (own, is, text) ∈ sx) (hcls : Bundle.fit cls = true) (hnames : ∀ n ∈ names, Bundle.fit n = true) (hk : Cond.classLink own ik cls ∈ Ts) (hini : Cond.initialized cls ∈ Ts) (hgd : ∀ w ∈ (vx_atS own ic cls names).filter goodWord, w ∈ Ts) (hbad : ∀ w ∈ (vx_atS own ic cls names).filter (fun w => !goodWord w), w ∈ nw)
    (hgood : ∀ w ∈ Cond.classLink own ik cls :: Cond.initialized cls :: vx_atS own ic cls names, vx_ot w = true) (hsize : ls.size = nL)
    (d0 : decode cc pc = .ok (.new ik, 3)) (d3 : decode cc (pc + 3) = .ok (.dup, 1)) (d4 : decode cc (pc + 4) = .ok (.ldc is, 2)) (d6 : decode cc (pc + 6) = .ok (.invokespecial ic, 3)) (d9 : decode cc (pc + 9) = .ok (.athrow, 1))
    (hRf : names.length + 3 < R.frames) (hRl : (rest.map fun v => v.category).sum + (13 * (names.length + 1) + 43) ≤ R.locals) (hRc : cells + 1 ≤ R.cells) (hRs : slots + 6 ≤ R.slots) (h1 : cells + 1 ≤ mc) (h2 : slots + 6 ≤ ms) (hp : px cls g) :
    W p l e R s m args below meth c H locs cells slots (vx_MQ below Qc (mw_Xc D cl g0 s.heap.size px) args s mc ms (mw_A g0 s.heap.size)) (F0 m pc ls rest) := by
  obtain ⟨sa, hsa⟩ := hC.2.2.1.2.2.1 _ htx
  refine vx_throwS hC.1.1 hC.1.2.1 hl hC.1.2.2.2.1 hcls hnames (hC.1.2.2.2.2 _ hk) (hC.1.2.2.2.2 _ hini) hsa
    (vx_hat (B := nw) (fun w hw => hC.1.2.2.2.2 w (hgd w hw)) hbad (fun w hw => mw_nb (hC.2.2.2 w hw) (hC.2.2.1.2.2.2 w hw))) hgood hC.2.2.1.1 hC.2.2.1.2.1 hM.2.2.1
    (hsize.trans hC.1.2.2.1.symm) d0 d3 d4 d6 d9 (fun x hx => (htab x hx).elim) hRf hRl hRc hRs hlocks (fun t ht h3 h4 => ?_) hM.2.2.1.2.2 h1 h2
  exact ⟨g, hp, fun b x hb => (hM.1 b x hb).kept (h4 b (hM.1 b x hb).lt), hM.2.1, ⟨Nat.le_trans hM.2.2.1.1 h3, fun q g1 g2 => (h4 q (Nat.lt_of_lt_of_le g1 hM.2.2.1.1)).trans (hM.2.2.1.2.1 q g1 g2)⟩⟩
end MWR
/-- a method's contract out of the walk of its body -/
theorem mw_ofW {l : Launch} {y : MethodName} {ws ws' : List Cond} {rm : Room} {D : va_G} {cl : List vw_C} {tys : List (ClassId × FieldType)} {sx : List (String × Nat × String)} {nw : List Cond} {g : mw_G} {sz : Nat} {av : List Value} {post : Option Value → mw_G → Prop} {px : String → mw_G → Prop} {cc : ByteArray} {maxL : Nat} {ret : Option FieldType}
    {Ts : List Cond} (hy : plainName y.cls = true) (hw : ws = Cond.code y cc maxL ret :: ws') (hTs : ∀ w ∈ Ts, w ∈ ws) (hcd : ∀ w ∈ nw, mw_cd w = true) (hlen : (lg_sl av).length ≤ maxL)
    (body : ∀ (p : Program) (e : Env) (s : State) (m : MethodId) (below : List Frame) (meth : Method) (c : Code), s.heap.size = sz → mx D cl tys sx nw (mw_A g s.heap.size) p m c cc maxL s av.toArray Ts y.cls → meth.sig.returnType = ret → meth.locks = false → meth.name = y.name → (∀ x ∈ c.exceptionTable.toList, False) → mw D cl (mw_A g s.heap.size) s.heap g s.heap [] → ∀ ls : Array Slot, lv_has ls maxL (lv_args 0 av) →
      W p l e rm s m av.toArray below meth c s.heap [] 0 0 (vx_MQ below (mw_Qc D cl g s.heap.size post) (mw_Xc D cl g s.heap.size px) av.toArray s rm.cells rm.slots (mw_A g s.heap.size)) (F0 m 0 ls [])) : mw_Met l y ws rm D cl tys sx nw g sz av post px := by
  refine vx_ofW (cc := cc) (maxL := maxL) (ret := ret) hy hw ?_
  intro p e s m args below meth c s₁ B hml htab hv
  obtain ⟨rfl, hsz, hpic, hK, hst⟩ := hv
  subst hsz
  have hl := lv_entry av (n := maxL) hlen
  rw [lg_entry_eq]
  generalize (lg_sl av ++ List.replicate (maxL - (lg_sl av).length) Slot.unset).toArray = ls at hl ⊢
  exact body p e s m below meth c rfl ⟨⟨B.exec, B.bytes, hml, findClass_of_methodNamed B.named, fun w h => atoms_spec (ws := ws) B.pre w (hTs w h)⟩, hK, hst, hcd⟩ B.returns B.notSynchronized (name_of_methodNamed B.named B.method).1 htab (mw_A.start D cl hpic) ls hl
theorem mw_ofWI {l : Launch} {y : MethodName} {ws ws' : List Cond} {rm : Room} {D : va_G} {cl : List vw_C} {tys : List (ClassId × FieldType)} {sx : List (String × Nat × String)} {nw : List Cond} {g : mw_G} {sz : Nat} {av : List Value} {post : Option Value → mw_G → Prop} {cc : ByteArray} {maxL : Nat} {ret : Option FieldType}
    {Ts : List Cond} (hy : plainName y.cls = true) (hw : ws = Cond.code y cc maxL ret :: ws') (hTs : ∀ w ∈ Ts, w ∈ ws) (hcd : ∀ w ∈ nw, mw_cd w = true) (hlen : (lg_sl av).length ≤ maxL)
    (body : ∀ (p : Program) (e : Env) (s : State) (m : MethodId) (below : List Frame) (meth : Method) (c : Code), s.heap.size = sz → mx D cl tys sx nw (mw_A g s.heap.size) p m c cc maxL s av.toArray Ts y.cls → meth.sig.returnType = ret → meth.locks = false → meth.name = y.name → mw D cl (mw_A g s.heap.size) s.heap g s.heap [] → ∀ ls : Array Slot, lv_has ls maxL (lv_args 0 av) →
      W p l e rm s m av.toArray below meth c s.heap [] 0 0 (MQ below (mw_Qc D cl g s.heap.size post) av.toArray s rm.cells rm.slots (mw_A g s.heap.size)) (F0 m 0 ls [])) : mw_MetI l y ws rm D cl tys sx nw g sz av post := by
  refine Met.ofW (cc := cc) (maxL := maxL) (ret := ret) hy hw ?_
  intro p e s m args below meth c s₁ B hml hv
  obtain ⟨rfl, hsz, hpic, hK, hst⟩ := hv
  subst hsz
  have hl := lv_entry av (n := maxL) hlen
  rw [lg_entry_eq]
  generalize (lg_sl av ++ List.replicate (maxL - (lg_sl av).length) Slot.unset).toArray = ls at hl ⊢
  exact body p e s m below meth c rfl ⟨⟨B.exec, B.bytes, hml, findClass_of_methodNamed B.named, fun w h => atoms_spec (ws := ws) B.pre w (hTs w h)⟩, hK, hst, hcd⟩ B.returns B.notSynchronized (name_of_methodNamed B.named B.method).1 (mw_A.start D cl hpic) ls hl

/-! methods with a table of handlers -/
theorem mw_p0 {α : Type} {P : α → Prop} : ∀ z ∈ ([] : List α), P z := fun _ h => nomatch h
theorem mw_p1 {α : Type} {P : α → Prop} {x : α} {L : List α} (h : P x) (t : ∀ z ∈ L, P z) : ∀ z ∈ x :: L, P z := fun z hz => (List.mem_cons.mp hz).elim (fun e => by rw [e]; exact h) (t z)
section WH
variable {p : Program} {l : Launch} {e : Env} {R : Room} {s : State} {m : MethodId} {args : Array Value} {below : List Frame} {meth : Method} {c : Code} {H : Heap} {locs : List Loc} {cells slots : Nat} {Q : State → Prop}
variable {cc : ByteArray} {pc nL : Nat} {ls : Array Slot} {rest : List Value} {D : va_G} {cl : List vw_C} {tys : List (ClassId × FieldType)} {sx : List (String × Nat × String)} {nw : List Cond} {A : Nat → Prop} {g : mw_G} {a : Nat} {Ts : List Cond} {own : String}
/-- caught by a row of the table; the rows ahead name other classes -/
theorem mw_catch (hC : mx D cl tys sx nw A p m c cc nL s args Ts own) {hh : List (Nat × Nat × Nat × Nat)} (htab : c.exceptionTable.toList = tableOf hh) {E name : String} {ce : Cell} {q9 : Addr} (pre : List (Nat × Nat × Nat × Nat)) (x : Nat × Nat × Nat × Nat) (suf : List (Nat × Nat × Nat × Nat)) (hsplit : hh = pre ++ x :: suf)
    (hpass : ∀ z ∈ pre, z.2.2.2 ≠ 0 ∧ ∃ nm : String, Cond.classLink own z.2.2.2 nm ∈ Ts ∧ Cond.not (.castable E nm) ∈ nw) (hx : (decide (x.1 ≤ pc) && decide (pc < x.2.1)) = true) (h0 : x.2.2.2 ≠ 0) (hlink : Cond.classLink own x.2.2.2 name ∈ Ts) (hcast : Cond.castable E name ∈ nw) (hce : H[q9]? = some ce) (hcv : ce.vm = .none) (hcl : s.vm.findClass E = some ce.cls)
    (kk : W p l e R s m args below meth c H locs cells slots Q (F0 m x.2.2.1 ls [.ref q9])) : vx_W p l e R s m args below meth c H locs cells slots Q (F0 m pc ls rest) q9 := by
  subst hsplit
  refine vx_catch hC.1.2.2.2.1 (pre.map fun q => ⟨q.1, q.2.1, q.2.2.1, q.2.2.2⟩) ⟨x.1, x.2.1, x.2.2.1, x.2.2.2⟩ (suf.map fun q => ⟨q.1, q.2.1, q.2.2.1, q.2.2.2⟩) (htab.trans (by simp [tableOf])) (fun z hz => ?_) hx h0 (hC.1.2.2.2.2 _ hlink) (mw_nb (hC.2.2.2 _ hcast) (hC.2.2.1.2.2.2 _ hcast)) hce hcv hcl kk
  obtain ⟨z0, hz0, rfl⟩ := List.mem_map.mp hz
  obtain ⟨n0, nm, h1, h2⟩ := hpass z0 hz0
  exact Or.inr ⟨n0, nm, hC.1.2.2.2.2 _ h1, va_Nc.of (mw_nb (args := args) (hC.2.2.2 _ h2) (hC.2.2.1.2.2.2 _ h2))⟩
/-- a static method with a table of handlers is called -/
theorem mw_callSW (hC : mx D cl tys sx nw A p m c cc nL s args Ts own) (hM : mw D cl A s.heap g H locs) {y : MethodName} {ws : List Cond} {rm : Room} {As : List Value} {post : Option Value → mw_G → Prop} {px : String → mw_G → Prop} {index n maxL : Nat} {bytes : ByteArray} {ret : Option FieldType} {hh : List (Nat × Nat × Nat × Nat)} {st0 : List Value}
    (hMet : mw_Met l y ws rm D cl tys sx nw g H.size As post px) (cw : vx_CSW R s args own index y bytes maxL ret hh ws rm rm.cells rm.slots n) (hn : As.length = n) (hst : st0 = As.reverse ++ rest) (hsize : ls.size = nL) (hroom : (rest.map fun v => v.category).sum ≤ 8) (hdg : decode cc pc = .ok (.invokestatic index, 3)) (hf : cells + rm.cells ≤ R.cells ∧ slots + rm.slots ≤ R.slots)
    (kx : ∀ (E : String) (ce : Cell) (q9 : Addr) (g' : mw_G) (H1 : Heap) (locs1 : List Loc), px E g' → mw D cl A s.heap g' H1 locs1 → H1[q9]? = some ce → ce.vm = .none → s.vm.findClass E = some ce.cls → vx_W p l e R s m args below meth c H1 locs1 (cells + rm.cells) (slots + rm.slots) Q (F0 m pc ls rest) q9)
    (kk : ∀ (v : Option Value) (g' : mw_G) (H1 : Heap) (locs1 : List Loc), post v g' → mw D cl A s.heap g' H1 locs1 → W p l e R s m args below meth c H1 locs1 (cells + rm.cells) (slots + rm.slots) Q (F0 m (pc + 3) ls (v.toList ++ rest))) : W p l e R s m args below meth c H locs cells slots Q (F0 m pc ls st0) :=
  mw_call hM (vx_runSX hC.1 hMet cw ⟨mw_blind hC.2.2.2, mw_pre hC hM⟩ rfl hn hsize hst (lv_room hroom) hdg hf) kx kk
end WH
theorem tb_SW {own : String} {index n : Nat} {y : MethodName} {c : ByteArray} {ret : Option FieldType} {hh : List (Nat × Nat × Nat × Nat)} (h1 : Cond.methodLink own index y ∈ TB) (h2 : Cond.static y ∈ TB) (h4 : Cond.initialized y.cls ∈ TB) (h5 : Cond.codeWith y c n ret hh ∈ TB) : GoodIn TB (va_wsS own index y (Cond.codeWith y c n ret hh :: TB)) := by
  have key : ∀ w ∈ va_wsS own index y (Cond.codeWith y c n ret hh :: TB), w ∈ TB := by
    intro w hw
    rcases List.mem_append.mp hw with h | h
    · simp only [List.mem_cons, List.not_mem_nil, or_false] at h
      rcases h with rfl | rfl | rfl
      · exact h1
      · exact h2
      · exact h4
    · rcases List.mem_cons.mp h with rfl | h
      · exact h5
      · exact h
  exact fun w hw => ⟨key w hw, tb_good w (key w hw)⟩
/-- a contract out of the walk of a body with handlers -/
theorem mw_ofWH {l : Launch} {y : MethodName} {ws ws' : List Cond} {rm : Room} {D : va_G} {cl : List vw_C} {tys : List (ClassId × FieldType)} {sx : List (String × Nat × String)} {nw : List Cond} {g : mw_G} {sz : Nat} {av : List Value} {post : Option Value → mw_G → Prop} {px : String → mw_G → Prop} {cc : ByteArray} {maxL : Nat} {ret : Option FieldType} {hh : List (Nat × Nat × Nat × Nat)}
    {Ts : List Cond} (hy : plainName y.cls = true) (hw : ws = Cond.codeWith y cc maxL ret hh :: ws') (hTs : ∀ w ∈ Ts, w ∈ ws) (hcd : ∀ w ∈ nw, mw_cd w = true) (hlen : (lg_sl av).length ≤ maxL)
    (body : ∀ (p : Program) (e : Env) (s : State) (m : MethodId) (below : List Frame) (meth : Method) (c : Code), s.heap.size = sz → mx D cl tys sx nw (mw_A g s.heap.size) p m c cc maxL s av.toArray Ts y.cls → meth.sig.returnType = ret → meth.locks = false → meth.name = y.name → c.exceptionTable.toList = tableOf hh → mw D cl (mw_A g s.heap.size) s.heap g s.heap [] → ∀ ls : Array Slot, lv_has ls maxL (lv_args 0 av) →
      W p l e rm s m av.toArray below meth c s.heap [] 0 0 (vx_MQ below (mw_Qc D cl g s.heap.size post) (mw_Xc D cl g s.heap.size px) av.toArray s rm.cells rm.slots (mw_A g s.heap.size)) (F0 m 0 ls [])) : mw_Met l y ws rm D cl tys sx nw g sz av post px := by
  refine vx_ofWH (cc := cc) (maxL := maxL) (ret := ret) (hh := hh) hy hw ?_
  intro p e s m args below meth c s₁ B hml hv
  obtain ⟨rfl, hsz, hpic, hK, hst⟩ := hv
  subst hsz
  have htab : c.exceptionTable.toList = tableOf hh := vx_table (x := y) B (atoms_spec (ws := ws) B.pre _ (by rw [hw]; exact List.mem_cons_self))
  have hl := lv_entry av (n := maxL) hlen
  rw [lg_entry_eq]
  generalize (lg_sl av ++ List.replicate (maxL - (lg_sl av).length) Slot.unset).toArray = ls at hl ⊢
  exact body p e s m below meth c rfl ⟨⟨B.exec, B.bytes, hml, findClass_of_methodNamed B.named, fun w h => atoms_spec (ws := ws) B.pre w (hTs w h)⟩, hK, hst, hcd⟩ B.returns B.notSynchronized (name_of_methodNamed B.named B.method).1 htab (mw_A.start D cl hpic) ls hl

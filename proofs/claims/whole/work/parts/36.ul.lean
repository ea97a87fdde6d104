/-! a place at the end of its transaction; a lockable's unlocking -/
def pl_end (z : Int32) (h : th_S) (q : Nat) : th_S := pl_forget (if z = 0 then pl_back h q else h) q
theorem pl_back_k (h : th_S) (q : Nat) : (pl_back h q).1 = h.1 := by unfold pl_back; split <;> rfl
theorem pl_back_n (h : th_S) {q b : Nat} (hb : b ≠ q) : (pl_back h q).2.1 b = h.2.1 b ∧ (pl_back h q).2.2 b = h.2.2 b := by
  unfold pl_back
  split
  · exact ⟨rfl, rfl⟩
  · exact ⟨by simp [th_ur, th_ui, va_up, hb], by simp [th_ur, th_ui, va_up, hb]⟩
theorem pl_forget_n (h : th_S) {q b : Nat} (hb : b ≠ q) : (pl_forget h q).2.1 b = h.2.1 b ∧ (pl_forget h q).2.2 b = h.2.2 b :=
  ⟨by simp [pl_forget, th_ur, th_ui, va_up, hb], by simp [pl_forget, th_ur, th_ui, va_up, hb]⟩
theorem pl_end_k (z : Int32) (h : th_S) (q : Nat) : (pl_end z h q).1 = h.1 := by
  unfold pl_end
  show (if z = 0 then pl_back h q else h).1 = h.1
  split
  · exact pl_back_k h q
  · rfl
theorem pl_end_n (z : Int32) (h : th_S) {q b : Nat} (hb : b ≠ q) : (pl_end z h q).2.1 b = h.2.1 b ∧ (pl_end z h q).2.2 b = h.2.2 b := by
  unfold pl_end
  obtain ⟨e1, e2⟩ := pl_forget_n (if z = 0 then pl_back h q else h) hb
  rw [e1, e2]
  split
  · exact pl_back_n h hb
  · exact ⟨rfl, rfl⟩
section PLE
variable {x aR aO aH aT : Nat} {rt ta : Nat → Nat} {h : th_S}
theorem pl_back_K (k : sh_K x aR aO aH aT rt ta h) {q : Nat} (hq : h.1 q = some (3, 0)) : sh_K x aR aO aH aT rt ta (pl_back h q) := by
  unfold pl_back
  split
  · exact k
  · exact ((k.ui (fun _ _ => (k.pl hq).2.2.1)).ui (fun _ hh => absurd hh (by decide))).urP hq (fun b hb => (k.pl hq).2.2.2.2 b hb)
theorem pl_forget_K (k : sh_K x aR aO aH aT rt ta h) {q : Nat} (hq : h.1 q = some (3, 0)) : sh_K x aR aO aH aT rt ta (pl_forget h q) :=
  (k.ui (fun _ _ => Or.inl rfl)).urP hq (fun b hb => nomatch hb)
theorem pl_end_K (k : sh_K x aR aO aH aT rt ta h) (z : Int32) {q : Nat} (hq : h.1 q = some (3, 0)) : sh_K x aR aO aH aT rt ta (pl_end z h q) := by
  unfold pl_end
  by_cases hz : z = 0
  · rw [if_pos hz]
    exact pl_forget_K (pl_back_K k hq) (by rw [pl_back_k]; exact hq)
  · rw [if_neg hz]
    exact pl_forget_K k hq
theorem pl_rem_K (k : sh_K x aR aO aH aT rt ta h) {q : Nat} (hq : h.1 q = some (3, 0)) : sh_K x aR aO aH aT rt ta (pl_rem h q) := by
  unfold pl_rem
  split
  · exact (((k.ui (fun _ _ => Or.inr rfl)).ui (fun _ _ => (k.pl hq).1)).ui (fun _ hh => absurd hh (by decide))).urP hq (fun b hb => (k.pl hq).2.2.2.1 b hb)
  · exact k
theorem pl_num_K (k : sh_K x aR aO aH aT rt ta h) {q : Nat} (hq : h.1 q = some (3, 0)) (v : Int32) : sh_K x aR aO aH aT rt ta (pl_num h q v) :=
  (((pl_rem_K k hq).ui (fun _ _ => Or.inl rfl)).ui (fun _ hh => absurd hh (by decide))).urP (by rw [show (th_ui (th_ui (pl_rem h q) q 0 0) q 1 v).1 = h.1 from pl_rem_k h q]; exact hq) (fun b hb => nomatch hb)
theorem pl_ref_K (k : sh_K x aR aO aH aT rt ta h) {q : Nat} (hq : h.1 q = some (3, 0)) {r : Option Nat} (hr : ∀ b, r = some b → h.1 b = some (2, 0)) : sh_K x aR aO aH aT rt ta (pl_ref h q r) :=
  (((pl_rem_K k hq).ui (fun _ _ => Or.inr rfl)).ui (fun _ hh => absurd hh (by decide))).urP (by rw [show (th_ui (th_ui (pl_rem h q) q 0 1) q 1 0).1 = h.1 from pl_rem_k h q]; exact hq) (fun b hb => by rw [show (th_ui (th_ui (pl_rem h q) q 0 1) q 1 0).1 = h.1 from pl_rem_k h q]; exact hr b hb)
end PLE
def ul_it (z : Int32) (pp : Nat → Nat) (h : th_S) : Nat → th_S
  | 0 => h
  | j + 1 => pl_end z (ul_it z pp h j) (pp j)
theorem ul_it_k (z : Int32) (pp : Nat → Nat) (h : th_S) : ∀ n, (ul_it z pp h n).1 = h.1
  | 0 => rfl
  | n + 1 => (pl_end_k z _ _).trans (ul_it_k z pp h n)
theorem ul_it_n (z : Int32) (pp : Nat → Nat) (h : th_S) {b : Nat} : ∀ n, (∀ j, j < n → b ≠ pp j) → (ul_it z pp h n).2.1 b = h.2.1 b ∧ (ul_it z pp h n).2.2 b = h.2.2 b
  | 0, _ => ⟨rfl, rfl⟩
  | n + 1, hb => by
    obtain ⟨e1, e2⟩ := pl_end_n z (ul_it z pp h n) (hb n (Nat.lt_succ_self n))
    obtain ⟨f1, f2⟩ := ul_it_n z pp h n (fun j hj => hb j (Nat.lt_succ_of_lt hj))
    exact ⟨e1.trans f1, e2.trans f2⟩
theorem ul_it_K {x aR aO aH aT : Nat} {rt ta : Nat → Nat} {h : th_S} (k : sh_K x aR aO aH aT rt ta h) (z : Int32) (pp : Nat → Nat) : ∀ n, (∀ j, j < n → h.1 (pp j) = some (3, 0)) → sh_K x aR aO aH aT rt ta (ul_it z pp h n)
  | 0, _ => k
  | n + 1, hp => pl_end_K (ul_it_K k z pp n (fun j hj => hp j (Nat.lt_succ_of_lt hj))) z (by rw [ul_it_k]; exact hp n (Nat.lt_succ_self n))
def ul_h (z k : Int32) (h : th_S) (a : Nat) : th_S := if h.2.1 a 2 = k then ul_it z (vw_pp h a) (th_ui h a 2 0) (vw_np h a) else h
def ul_c (k : Int32) (h : th_S) (a : Nat) : Int32 := if h.2.1 a 2 = k then 1 else 0
section ULH
variable {x aR aO aH aT : Nat} {rt ta : Nat → Nat} {h : th_S}
theorem ul_h_k (z k : Int32) (h : th_S) (a : Nat) : (ul_h z k h a).1 = h.1 := by
  unfold ul_h
  split
  · exact ul_it_k z _ _ _
  · rfl
theorem ul_h_K (K : sh_K x aR aO aH aT rt ta h) (z k : Int32) {a : Nat} (ha : h.1 a = some (2, 0)) : sh_K x aR aO aH aT rt ta (ul_h z k h a) := by
  unfold ul_h
  split
  · exact ul_it_K (K.uk ha (by decide)) z _ _ (fun j hj => ((K.vw ha).2.2.2 j hj).2)
  · exact K
/-- of what is no place the references stay; of another thing than a also the ints -/
theorem ul_h_n (K : sh_K x aR aO aH aT rt ta h) (z k : Int32) {a b : Nat} (ha : h.1 a = some (2, 0)) {t : Nat × Nat} (hb : h.1 b = some t) (ht : t ≠ (3, 0)) : (ul_h z k h a).2.2 b = h.2.2 b ∧ (b ≠ a → (ul_h z k h a).2.1 b = h.2.1 b) := by
  unfold ul_h
  split
  · obtain ⟨e1, e2⟩ := ul_it_n z (vw_pp h a) (th_ui h a 2 0) (b := b) (vw_np h a) (fun j hj => th_kne hb ((K.vw ha).2.2.2 j hj).2 ht)
    refine ⟨e2, fun hne => ?_⟩
    rw [e1]
    funext j
    exact th_ui_n _ _ _ _ hne
  · exact ⟨rfl, fun _ => rfl⟩
end ULH
def en_h (z k : Int32) (ob : Nat → Nat) (h : th_S) : Nat → th_S
  | 0 => h
  | j + 1 => ul_h z k (en_h z k ob h j) (ob j)
def en_c (z k : Int32) (ob : Nat → Nat) (c0 : Int32) (h : th_S) : Nat → Int32
  | 0 => c0
  | j + 1 => en_c z k ob c0 h j + ul_c k (en_h z k ob h j) (ob j)
theorem en_h_k (z k : Int32) (ob : Nat → Nat) (h : th_S) : ∀ n, (en_h z k ob h n).1 = h.1
  | 0 => rfl
  | n + 1 => (ul_h_k z k _ _).trans (en_h_k z k ob h n)
section ENH
variable {x aR aO aH aT : Nat} {rt ta : Nat → Nat} {h : th_S}
theorem en_h_K (K : sh_K x aR aO aH aT rt ta h) (z k : Int32) (ob : Nat → Nat) : ∀ n, (∀ j, j < n → h.1 (ob j) = some (2, 0)) → sh_K x aR aO aH aT rt ta (en_h z k ob h n)
  | 0, _ => K
  | n + 1, hp => ul_h_K (en_h_K K z k ob n (fun j hj => hp j (Nat.lt_succ_of_lt hj))) z k (by rw [en_h_k]; exact hp n (Nat.lt_succ_self n))
theorem en_h_n (K : sh_K x aR aO aH aT rt ta h) (z k : Int32) (ob : Nat → Nat) {b : Nat} {t : Nat × Nat} (hb : h.1 b = some t) (ht : t ≠ (3, 0)) : ∀ n, (∀ j, j < n → h.1 (ob j) = some (2, 0)) → (en_h z k ob h n).2.2 b = h.2.2 b ∧ (t ≠ (2, 0) → (en_h z k ob h n).2.1 b = h.2.1 b)
  | 0, _ => ⟨rfl, fun _ => rfl⟩
  | n + 1, hp => by
    have kn : (en_h z k ob h n).1 (ob n) = some (2, 0) := by rw [en_h_k]; exact hp n (Nat.lt_succ_self n)
    obtain ⟨e1, e2⟩ := ul_h_n (en_h_K K z k ob n (fun j hj => hp j (Nat.lt_succ_of_lt hj))) z k kn (b := b) (t := t) (by rw [en_h_k]; exact hb) ht
    obtain ⟨f1, f2⟩ := en_h_n K z k ob hb ht n (fun j hj => hp j (Nat.lt_succ_of_lt hj))
    exact ⟨e1.trans f1, fun h2 => (e2 (fun q => h2 (by rw [q] at hb; exact Option.some.inj (hb.symm.trans (hp n (Nat.lt_succ_self n)))))).trans (f2 h2)⟩
end ENH
def vw_ob (aO : Nat) (h : th_S) (i : Nat) : Nat := (h.2.2 aO i).getD 0
theorem sh_O.ob {x aO n : Nat} {h : th_S} (o : sh_O x aO n h) {i : Nat} (hi : i < n) : h.2.2 aO i = some (vw_ob aO h i) ∧ h.1 (vw_ob aO h i) = some (2, 0) := by
  obtain ⟨a, e, k⟩ := o.at hi
  have e1 : vw_ob aO h i = a := by simp [vw_ob, e]
  rw [e1]
  exact ⟨e, k⟩
/-- the end of the transaction at t -/
def sh_eh (aO n : Nat) (rt : Nat → Nat) (z : Int32) (t : Nat) (h : th_S) : th_S :=
  th_ui (th_ui (en_h z (h.2.1 t 0) (vw_ob aO h) (en_h z (h.2.1 t 0) rt h 4) n) t 0 0) t 1 0
def sh_ec (aO n : Nat) (rt : Nat → Nat) (z : Int32) (t : Nat) (h : th_S) : Int32 :=
  en_c z (h.2.1 t 0) (vw_ob aO h) (en_c z (h.2.1 t 0) rt 0 h 4) (en_h z (h.2.1 t 0) rt h 4) n

/-! the relation of the class's heap and the model's state -/
abbrev UE : Type := Int32 × Int32 × Int32 × Int32
def rl_lv (hd : Nat → Int32) (r : Nat) : Prop := r < 84 ∧ (r < 80 → ¬ hd r ≤ 0)
def rl_lk (lk rk : Nat → Int32) (r : Nat) : Int32 := if r < 80 then lk r else rk (r - 80)
def rl_hd (hd : Nat → Int32) (r : Nat) : Int32 := if r < 80 then hd r else 0
def rl_sz (sz : Nat → Int32) (r : Nat) : Int32 := if r < 80 then sz r else 1
def rl_cl (r j : Nat) : Nat := if r < 80 then 4 * r + j else 240 + r
def rl_mr (rf : Nat → Int32) (c : Nat) : Int32 := if c < 320 then rf c else 1
def rl_mv (vl ro : Nat → Int32) (c : Nat) : Int32 := if c < 320 then vl c else ro (c - 320)
def rl_tv (hd : Nat → Int32) (ad : Nat → Nat) (t : Option Nat) (v : Int32) : Prop := (t = none ∧ v = 0) ∨ ∃ s, s < 80 ∧ ¬ hd s ≤ 0 ∧ hd s = v ∧ t = some (ad s)
def rl_cv (hd : Nat → Int32) (ad : Nat → Nat) (r : Nat) (ref num : Int32) (t : Option Nat) (rf v : Int32) : Prop :=
  (r < 80 → ref = rf) ∧ (rf = 0 ∨ rf = 1) ∧ (80 ≤ r → rf = 1) ∧ ((rf = 0 ∧ num = v ∧ t = none) ∨ (rf = 1 ∧ rl_tv hd ad t v))
/-- a place and its cell -/
def rl_C (h : th_S) (hd : Nat → Int32) (lk mr mv : Int32) (L : List UE) (ad : Nat → Nat) (r c q : Nat) : Prop :=
  rl_cv hd ad r (h.2.1 q 0) (h.2.1 q 1) (h.2.2 q 2) mr mv ∧
  ((h.2.1 q 3 = 0 ∧ h.2.2 q 6 = none ∧ ∀ e, e ∈ L → ¬ e.2.1 = nI c) ∨ (h.2.1 q 3 = 1 ∧ ∃ e, e ∈ L ∧ e.2.1 = nI c ∧ e.1 = lk ∧ rl_cv hd ad r (h.2.1 q 4) (h.2.1 q 5) (h.2.2 q 6) e.2.2.1 e.2.2.2))
/-- a lockable and its row -/
def rl_A (h : th_S) (hd sz lk rk rf vl ro : Nat → Int32) (L : List UE) (ad : Nat → Nat) (r : Nat) : Prop :=
  h.1 (ad r) = some (2, 0) ∧ h.2.1 (ad r) 0 = rl_hd hd r ∧ h.2.1 (ad r) 2 = rl_lk lk rk r ∧ rl_sz sz r = nI (vw_np h (ad r)) ∧
  ∀ j, j < vw_np h (ad r) → rl_C h hd (rl_lk lk rk r) (rl_mr rf (rl_cl r j)) (rl_mv vl ro (rl_cl r j)) L ad r (rl_cl r j) (vw_pp h (ad r) j)
/-- numbers of the object, and of its transactions -/
def rl_X (x : Nat) (ta : Nat → Nat) (h : th_S) (S : th_N) (N : Nat) : Prop :=
  ∃ gv bg : Nat, (S.1 9 = nI gv ∧ gv ≤ N ∧ S.1 13 = nI bg ∧ bg ≤ N) ∧ (h.2.1 x 6 = S.1 9 ∧ h.2.1 x 7 = S.1 10 ∧ h.2.1 x 9 = S.1 13 ∧ h.2.1 x 10 = S.1 15) ∧
  (∀ i, i < 3 → h.2.1 (ta i) 0 = S.2 11 i ∧ ∃ a, a ≤ bg ∧ S.2 11 i = nI a) ∧ (∀ i j, i < 3 → j < 3 → S.2 11 i = S.2 11 j → ¬ S.2 11 i = 0 → i = j) ∧
  (∀ r, r < 80 → ∃ a, a ≤ gv ∧ S.2 1 r = nI a) ∧ (∀ r, r < 80 → ∃ z, z ≤ 4 ∧ S.2 2 r = nI z)
/-- the words of a live row -/
def rl_wt (hd sz : Nat → Int32) (r : Nat) : Nat := if hd r ≤ 0 then 0 else 1 + (sz r).toNatClampNeg
/-- which rows are which objects -/
def rl_B (aO n : Nat) (rt ad : Nat → Nat) (h : th_S) (hd : Nat → Int32) : Prop :=
  (∀ i, i < n → ∃ r, r < 80 ∧ ¬ hd r ≤ 0 ∧ ad r = vw_ob aO h i) ∧ (∀ r, r < 80 → ¬ hd r ≤ 0 → ∃ i, i < n ∧ vw_ob aO h i = ad r) ∧
  (∀ r r', rl_lv hd r → rl_lv hd r' → ad r = ad r' → r = r') ∧ (∀ k, k < 4 → ad (80 + k) = rt k) ∧ (∀ i j, i < n → j < n → vw_ob aO h i = vw_ob aO h j → i = j) ∧
  (∀ r r', r < 80 → r' < 80 → ¬ hd r ≤ 0 → hd r = hd r' → r = r')
def rl_U (hd sz : Nat → Int32) (us : Int32) : Prop := us = nI (sm (rl_wt hd sz) 80) ∧ sm (rl_wt hd sz) 80 ≤ 80
def rl_P (h : th_S) (hd : Nat → Int32) (ad : Nat → Nat) : Prop := ∀ r r' j j', rl_lv hd r → rl_lv hd r' → j < vw_np h (ad r) → j' < vw_np h (ad r') → vw_pp h (ad r) j = vw_pp h (ad r') j' → r = r' ∧ j = j'
def rl_E (h : th_S) (hd : Nat → Int32) (L : List UE) (ad : Nat → Nat) : Prop := (∀ e, e ∈ L → ∃ r j, rl_lv hd r ∧ j < vw_np h (ad r) ∧ e.2.1 = nI (rl_cl r j)) ∧ L.Pairwise (fun a b => ¬ a.2.1 = b.2.1)
def rl_V (hd lk rk ac : Nat → Int32) : Prop := ∀ r, rl_lv hd r → rl_lk lk rk r = 0 ∨ ∃ i, i < 3 ∧ ac i = rl_lk lk rk r
/-- the core: all but the words of the log -/
def RQ (x aR aO aH aT : Nat) (rt ta : Nat → Nat) (h : th_S) (S : th_N) (N n u : Nat) (ad : Nat → Nat) : Prop :=
  (sh_K x aR aO aH aT rt ta h ∧ sh_O x aO n h) ∧ rl_X x ta h S N ∧ rl_B aO n rt ad h (S.2 1) ∧ rl_U (S.2 1) (S.2 2) (S.1 10) ∧
  (∀ r, rl_lv (S.2 1) r → rl_A h (S.2 1) (S.2 2) (S.2 3) (S.2 8) (S.2 4) (S.2 5) (S.2 7) (mo_ul S u) ad r) ∧ rl_P h (S.2 1) ad ∧ rl_E h (S.2 1) (mo_ul S u) ad ∧ rl_V (S.2 1) (S.2 3) (S.2 8) (S.2 11)
/-- the words of the log -/
def rl_D (x : Nat) (ta : Nat → Nat) (h : th_S) (S : th_N) : Prop := h.2.1 x 8 = S.1 14 ∧ ∀ i, i < 3 → h.2.1 (ta i) 1 = S.2 12 i
def rl_W (st : Int32) (wd ac : Nat → Int32) (us : Int32) (L : List UE) (u : Nat) : Prop :=
  ∃ (s : Nat) (w : Nat → Nat), st = nI s ∧ (∀ i, i < 3 → wd i = nI (w i)) ∧ s + w 0 + w 1 + w 2 ≤ 150 ∧ (∀ i, i < 3 → ac i = 0 → w i = 0) ∧
  (∀ i, i < 3 → ¬ ac i = 0 → 3 * L.countP (fun e => e.1 == ac i) ≤ w i) ∧ us = nI u ∧ L.length = u ∧ (∀ e, e ∈ L → ¬ e.1 = 0 ∧ ∃ i, i < 3 ∧ ac i = e.1)
def RR (x aR aO aH aT : Nat) (rt ta : Nat → Nat) (h : th_S) (S : th_N) (N n u : Nat) (ad : Nat → Nat) : Prop :=
  RQ x aR aO aH aT rt ta h S N n u ad ∧ rl_D x ta h S ∧ rl_W (S.1 14) (S.2 12) (S.2 11) (S.1 20) (mo_ul S u) u
theorem mo_ul_len (S : th_N) (u : Nat) : (mo_ul S u).length = u := by simp [mo_ul]
/-- entries of three transactions -/
theorem ul_len3 {L : List UE} {a b c : Int32} (h : ∀ e, e ∈ L → e.1 = a ∨ e.1 = b ∨ e.1 = c) : L.length ≤ L.countP (fun e => e.1 == a) + L.countP (fun e => e.1 == b) + L.countP (fun e => e.1 == c) := by
  induction L with
  | nil => exact Nat.zero_le _
  | cons e L ih =>
    have := ih (fun e' he => h e' (List.mem_cons_of_mem _ he))
    rw [List.countP_cons, List.countP_cons, List.countP_cons, List.length_cons]
    rcases h e (List.mem_cons_self) with q | q | q
    · have : (e.1 == a) = true := by simp [q]
      rw [if_pos this]; omega
    · have : (e.1 == b) = true := by simp [q]
      rw [if_pos this]; omega
    · have : (e.1 == c) = true := by simp [q]
      rw [if_pos this]; omega
theorem rl_W.u50 {st us : Int32} {wd ac : Nat → Int32} {L : List UE} {u : Nat} (h : rl_W st wd ac us L u) : 3 * u ≤ 150 := by
  obtain ⟨s, w, h1, h2, h3, h4, h5, h6, h7, h8⟩ := h
  have h0 : ∀ i, i < 3 → 3 * L.countP (fun e => e.1 == ac i) ≤ w i := by
    intro i hi
    by_cases e : ac i = 0
    · rw [List.countP_eq_zero.mpr (fun a ha q => (h8 a ha).1 (by rw [e] at q; simpa using q))]
      omega
    · exact h5 i hi e
  have := ul_len3 (L := L) (a := ac 0) (b := ac 1) (c := ac 2) (fun e he => by
    obtain ⟨-, i, hi, q⟩ := h8 e he
    rcases (show i = 0 ∨ i = 1 ∨ i = 2 by omega) with rfl | rfl | rfl
    · exact Or.inl q.symm
    · exact Or.inr (Or.inl q.symm)
    · exact Or.inr (Or.inr q.symm))
  have a0 := h0 0 (by decide)
  have a1 := h0 1 (by decide)
  have a2 := h0 2 (by decide)
  omega
/-! small numbers -/
theorem nI_sgn {a : Nat} (h : a < 2 ^ 31) : nI a ≤ 0 ↔ nI a = 0 := by
  rcases Nat.eq_zero_or_pos a with rfl | hp
  · exact ⟨fun _ => rfl, fun _ => by decide⟩
  · exact ⟨fun q => absurd q (nI_nle hp h), fun q => absurd q (nI_ne0 hp h)⟩
theorem i32_lt0 {x : Int32} (h : 0 < x) : ¬ x ≤ 0 := Int32.not_le.mpr h
section RLX
variable {x aR aO aH aT : Nat} {rt ta : Nat → Nat} {h : th_S} {S : th_N} {N n u : Nat} {ad : Nat → Nat}
theorem rl_X.ac (X : rl_X x ta h S N) (hN : N < 2 ^ 31) {i : Nat} (hi : i < 3) : S.2 11 i ≤ 0 ↔ S.2 11 i = 0 := by
  obtain ⟨gv, bg, h1, h2, h3, h4, h5, h6⟩ := X
  obtain ⟨a, ha, e⟩ := (h3 i hi).2
  rw [e]
  exact nI_sgn (by omega)
theorem rl_X.hd (X : rl_X x ta h S N) (hN : N < 2 ^ 31) {r : Nat} (hr : r < 80) : S.2 1 r ≤ 0 ↔ S.2 1 r = 0 := by
  obtain ⟨gv, bg, h1, h2, h3, h4, h5, h6⟩ := X
  obtain ⟨a, ha, e⟩ := h5 r hr
  rw [e]
  exact nI_sgn (by omega)
theorem rl_X.tx (X : rl_X x ta h S N) (hN : N < 2 ^ 31) {k : Int32} {i : Nat} (ht : sh_tx ta h k i) : mo_tx S k i := by
  obtain ⟨t1, t2, t3⟩ := ht
  have hac := X.ac hN t1
  obtain ⟨gv, bg, h1, h2, h3, h4, h5, h6⟩ := X
  rw [(h3 i t1).1] at t2 t3
  refine ⟨t1, by rw [← t3]; exact i32_nle (fun q => t2 (hac.mp q)), t3, fun j hj q => ?_⟩
  have := h4 i j t1 (by omega) (by rw [t3, q]) t2
  omega
theorem rl_X.nt (X : rl_X x ta h S N) {k : Int32} (ht : sh_nt ta h k) : mo_nt S k := by
  obtain ⟨gv, bg, h1, h2, h3, h4, h5, h6⟩ := X
  intro i hi q
  have := ht i hi
  rw [(h3 i hi).1] at this
  rcases this with z | z
  · rw [q.2] at z
    rw [z] at q
    exact absurd q.1 (by decide)
  · exact z q.2
theorem mo_tx.no {k : Int32} {i : Nat} (h1 : mo_tx S k i) (h2 : mo_nt S k) : False := h2 i h1.1 ⟨h1.2.1, h1.2.2.1⟩
theorem mo_rw.no {k : Int32} {i : Nat} (h1 : mo_rw S k i) (h2 : mo_nr S k) : False := h2 i h1.1 ⟨h1.2.1, h1.2.2.1⟩
/-- an object that is found, and its row -/
theorem RQ.rw (R : RQ x aR aO aH aT rt ta h S N n u ad) {k : Int32} {a : Nat} (ho : sh_ob aO n h k a) : ∃ r, mo_rw S k r ∧ ad r = a := by
  obtain ⟨⟨K, O⟩, X, B, U, A, P, E, V⟩ := R
  obtain ⟨i, hi, e, hk⟩ := ho
  obtain ⟨r, hr, hl, er⟩ := B.1 i hi
  have ea : vw_ob aO h i = a := by simp [vw_ob, e]
  have hA := A r ⟨by omega, fun _ => hl⟩
  have e0 : h.2.1 (ad r) 0 = S.2 1 r := by
    rw [hA.2.1]; unfold rl_hd; rw [if_pos hr]
  rw [er, ea, hk] at e0
  refine ⟨r, ⟨hr, by rw [e0]; exact i32_nle hl, e0.symm, fun j hj q => ?_⟩, by rw [er, ea]⟩
  have := B.2.2.2.2.2 r j hr (by omega) hl (by rw [q, e0])
  omega
theorem RQ.nr (R : RQ x aR aO aH aT rt ta h S N n u ad) {k : Int32} (ho : sh_no aO n h k) : mo_nr S k := by
  obtain ⟨⟨K, O⟩, X, B, U, A, P, E, V⟩ := R
  intro r hr q
  have hl : ¬ S.2 1 r ≤ 0 := by rw [q.2]; exact i32_lt0 q.1
  obtain ⟨i, hi, e⟩ := B.2.1 r hr hl
  have hA := A r ⟨by omega, fun _ => hl⟩
  have e0 : h.2.1 (ad r) 0 = S.2 1 r := by
    rw [hA.2.1]; unfold rl_hd; rw [if_pos hr]
  exact ho i (ad r) hi (by rw [← e]; exact (O.ob hi).1) (by rw [e0, q.2])
theorem mo_rw.lv {k : Int32} {r : Nat} (hr : mo_rw S k r) : rl_lv (S.2 1) r := ⟨by have := hr.1; omega, fun _ => by rw [hr.2.2.1]; exact i32_lt0 hr.2.1⟩
theorem rl_lvR {hd : Nat → Int32} {k : Nat} (hk : k < 4) : rl_lv hd (80 + k) := ⟨by omega, fun q => absurd q (by omega)⟩
/-- what a search for a target finds -/
theorem RQ.fo (R : RQ x aR aO aH aT rt ta h S N n u ad) {k : Int32} {r : Option Nat} (hf : sh_fo aO n h k r) (hk : k = 0 ∨ r ≠ none) : rl_tv (S.2 1) ad r k ∧ (k = 0 ∨ ∃ s, mo_rw S k s) := by
  rcases hf with ⟨rfl, hn⟩ | ⟨a, rfl, ho⟩
  · rcases hk with rfl | q
    · exact ⟨Or.inl ⟨rfl, rfl⟩, Or.inl rfl⟩
    · exact absurd rfl q
  · obtain ⟨s, hs, e⟩ := R.rw ho
    exact ⟨Or.inr ⟨s, hs.1, by rw [hs.2.2.1]; exact i32_lt0 hs.2.1, hs.2.2.1, by rw [e]⟩, Or.inr ⟨s, hs⟩⟩
/-- a field of an object, and its cell -/
theorem RQ.fd (R : RQ x aR aO aH aT rt ta h S N n u ad) {r q : Nat} {f : Int32} (hr : rl_lv (S.2 1) r) (hf : sh_fd h (ad r) f q) : ∃ j, j < vw_np h (ad r) ∧ f = nI j ∧ q = vw_pp h (ad r) j := by
  obtain ⟨pa, m, j, e1, e2, hj, e3, e4⟩ := hf
  have a1 := vw_pa_of e1
  have a2 := vw_np_of e1 e2
  exact ⟨j, by omega, e3, by simp [vw_pp, a1, e4]⟩
end RLX
/-! the geometry stays -/
def gs (h h' : th_S) : Prop := (∀ b t, h.1 b = some t → h'.1 b = some t) ∧ (∀ b, h.1 b = some (2, 0) → h'.2.1 b 0 = h.2.1 b 0 ∧ h'.2.2 b 1 = h.2.2 b 1) ∧ (∀ b n, h.1 b = some (6, n) → h'.2.2 b = h.2.2 b)
theorem gs.refl (h : th_S) : gs h h := ⟨fun _ _ q => q, fun _ _ => ⟨rfl, rfl⟩, fun _ _ _ => rfl⟩
theorem gs.trans {h h' h'' : th_S} (a : gs h h') (b : gs h' h'') : gs h h'' := ⟨fun c t q => b.1 c t (a.1 c t q), fun c q => by
  obtain ⟨a1, a2⟩ := a.2.1 c q
  obtain ⟨b1, b2⟩ := b.2.1 c (a.1 c _ q)
  exact ⟨b1.trans a1, b2.trans a2⟩, fun c n q => (b.2.2 c n (a.1 c _ q)).trans (a.2.2 c n q)⟩
theorem gs.vw {x aR aO aH aT : Nat} {rt ta : Nat → Nat} {h h' : th_S} (K : sh_K x aR aO aH aT rt ta h) (g : gs h h') {a : Nat} (ha : h.1 a = some (2, 0)) : vw_np h' a = vw_np h a ∧ ∀ j, vw_pp h' a j = vw_pp h a j := by
  obtain ⟨e1, e2, -, -⟩ := K.vw ha
  have p : vw_pa h' a = vw_pa h a := vw_pa_of (by rw [(g.2.1 a ha).2]; exact e1)
  refine ⟨?_, fun j => ?_⟩
  · unfold vw_np
    rw [p, g.1 _ _ e2, e2]
  · unfold vw_pp
    rw [p, g.2.2 _ _ e2]
theorem rl_cv.tv {hd hd' : Nat → Int32} {ad ad' : Nat → Nat} {r : Nat} {ref num : Int32} {t : Option Nat} {rf v : Int32} (h : rl_cv hd ad r ref num t rf v) (ht : rf = 1 → rl_tv hd ad t v → rl_tv hd' ad' t v) : rl_cv hd' ad' r ref num t rf v := by
  obtain ⟨a, b, c, d⟩ := h
  exact ⟨a, b, c, d.elim Or.inl (fun q => Or.inr ⟨q.1, ht q.1 q.2⟩)⟩

/-! the end of a transaction, in closed form -/
def pe (z : Int32) (I : Nat → Int32) (F : Nat → Option Nat) : (Nat → Int32) × (Nat → Option Nat) :=
  if z = 0 ∧ ¬ I 3 = 0 then (va_up (va_up (va_up I 0 (I 4)) 1 (I 5)) 3 0, va_up (va_up F 2 (F 6)) 6 none) else (va_up I 3 0, va_up F 6 none)
theorem pl_end_s (z : Int32) (h : th_S) (q : Nat) : ((pl_end z h q).2.1 q, (pl_end z h q).2.2 q) = pe z (h.2.1 q) (h.2.2 q) := by
  unfold pl_end pe
  by_cases hz : z = 0
  · rw [if_pos hz]
    unfold pl_back
    by_cases h3 : h.2.1 q 3 = 0
    · rw [if_pos h3, if_neg (fun c => c.2 h3)]
      simp [pl_forget, th_ur, th_ui, va_up_self]
    · rw [if_neg h3, if_pos ⟨hz, h3⟩]
      have e : ∀ (f : Nat → Nat → Int32) (g : Nat → Int32), va_up f q g q = g := fun f g => va_up_self _ _ _
      have e2 : ∀ (f : Nat → Nat → Option Nat) (g : Nat → Option Nat), va_up f q g q = g := fun f g => va_up_self _ _ _
      simp [pl_forget, th_ur, th_ui, e, e2]
  · rw [if_neg hz, if_neg (fun c => hz c.1)]
    simp [pl_forget, th_ur, th_ui, va_up_self]
def ES (h h' : th_S) (a : Nat) : Prop := h'.2.1 a 2 = h.2.1 a 2 ∧ ∀ j, j < vw_np h a → h'.2.1 (vw_pp h a j) = h.2.1 (vw_pp h a j) ∧ h'.2.2 (vw_pp h a j) = h.2.2 (vw_pp h a j)
def EN (z k : Int32) (h h' : th_S) (a : Nat) : Prop := h'.2.1 a 2 = (if h.2.1 a 2 = k then 0 else h.2.1 a 2) ∧ ∀ j, j < vw_np h a → (h'.2.1 (vw_pp h a j), h'.2.2 (vw_pp h a j)) = if h.2.1 a 2 = k then pe z (h.2.1 (vw_pp h a j)) (h.2.2 (vw_pp h a j)) else (h.2.1 (vw_pp h a j), h.2.2 (vw_pp h a j))
theorem ul_it_s (z : Int32) (pp : Nat → Nat) (h : th_S) : ∀ n, (∀ i j, i < n → j < n → pp i = pp j → i = j) → ∀ j, j < n → ((ul_it z pp h n).2.1 (pp j), (ul_it z pp h n).2.2 (pp j)) = pe z (h.2.1 (pp j)) (h.2.2 (pp j))
  | 0, _, j, hj => absurd hj (Nat.not_lt_zero j)
  | n + 1, inj, j, hj => by
    show ((pl_end z (ul_it z pp h n) (pp n)).2.1 (pp j), (pl_end z (ul_it z pp h n) (pp n)).2.2 (pp j)) = _
    by_cases e : j = n
    · subst e
      rw [pl_end_s]
      obtain ⟨e1, e2⟩ := ul_it_n z pp h (b := pp j) j (fun i hi q => by have := inj j i hj (by omega) q; omega)
      rw [e1, e2]
    · have hne : pp j ≠ pp n := fun q => e (inj j n hj (by omega) q)
      obtain ⟨e1, e2⟩ := pl_end_n z (ul_it z pp h n) hne
      rw [e1, e2]
      exact ul_it_s z pp h n (fun a b ha hb => inj a b (by omega) (by omega)) j (by omega)
section ENC
variable {x aR aO aH aT : Nat} {rt ta : Nat → Nat} {h h' h'' : th_S} {Z : Nat → Prop}
theorem gs.ul (K : sh_K x aR aO aH aT rt ta h) (z k : Int32) {a : Nat} (ha : h.1 a = some (2, 0)) : gs h (ul_h z k h a) := by
  refine ⟨fun b t q => by rw [ul_h_k]; exact q, fun b hb => ⟨?_, by rw [(ul_h_n K z k ha hb (by decide)).1]⟩, fun b m hb => (ul_h_n K z k ha hb (by simp)).1⟩
  unfold ul_h
  split
  · obtain ⟨e1, -⟩ := ul_it_n z (vw_pp h a) (th_ui h a 2 0) (b := b) (vw_np h a) (fun j hj => th_kne hb ((K.vw ha).2.2.2 j hj).2 (by decide))
    rw [e1]
    exact ui_at (fun _ => by decide)
  · rfl
/-- places of the things in Z are apart -/
def Dj (h : th_S) (Z : Nat → Prop) : Prop := ∀ a b i j, Z a → Z b → i < vw_np h a → j < vw_np h b → vw_pp h a i = vw_pp h b j → a = b ∧ i = j
theorem ul_h_done (K : sh_K x aR aO aH aT rt ta h) (hZ : ∀ a, Z a → h.1 a = some (2, 0)) (D : Dj h Z) (z k : Int32) {a : Nat} (za : Z a) : EN z k h (ul_h z k h a) a := by
  have ha := hZ a za
  unfold EN ul_h
  by_cases e : h.2.1 a 2 = k
  · rw [if_pos e, if_pos e]
    obtain ⟨e1, -⟩ := ul_it_n z (vw_pp h a) (th_ui h a 2 0) (b := a) (vw_np h a) (fun j hj => th_kne ha ((K.vw ha).2.2.2 j hj).2 (by decide))
    refine ⟨by rw [e1]; exact th_ui_s _ _ _ _, fun j hj => ?_⟩
    rw [if_pos e, ul_it_s z (vw_pp h a) (th_ui h a 2 0) (vw_np h a) (fun i j hi hj q => (D a a i j za za hi hj q).2) j hj]
    rw [ui_row (th_kne ((K.vw ha).2.2.2 j hj).2 ha (by decide))]
    rfl
  · rw [if_neg e, if_neg e]
    exact ⟨rfl, fun j hj => by rw [if_neg e]⟩
theorem ul_h_same (K : sh_K x aR aO aH aT rt ta h) (hZ : ∀ a, Z a → h.1 a = some (2, 0)) (D : Dj h Z) (z k : Int32) {a b : Nat} (za : Z a) (zb : Z b) (hab : b ≠ a) : ES h (ul_h z k h a) b := by
  have ha := hZ a za
  have hb := hZ b zb
  refine ⟨by rw [(ul_h_n K z k ha hb (by decide)).2 hab], fun j hj => ?_⟩
  unfold ul_h
  split
  · obtain ⟨e1, e2⟩ := ul_it_n z (vw_pp h a) (th_ui h a 2 0) (b := vw_pp h b j) (vw_np h a) (fun i hi q => hab (D b a j i zb za hj hi q).1)
    rw [e1, e2]
    exact ⟨ui_row (th_kne ((K.vw hb).2.2.2 j hj).2 ha (by decide)), rfl⟩
  · exact ⟨rfl, rfl⟩
theorem ES.refl (h : th_S) (a : Nat) : ES h h a := ⟨rfl, fun _ _ => ⟨rfl, rfl⟩⟩
theorem ES.trans (K : sh_K x aR aO aH aT rt ta h) (g : gs h h') {a : Nat} (ha : h.1 a = some (2, 0)) (s : ES h h' a) (s' : ES h' h'' a) : ES h h'' a := by
  obtain ⟨v1, v2⟩ := g.vw K ha
  refine ⟨s'.1.trans s.1, fun j hj => ?_⟩
  have := s'.2 j (by rw [v1]; exact hj)
  rw [v2] at this
  exact ⟨this.1.trans (s.2 j hj).1, this.2.trans (s.2 j hj).2⟩
theorem EN.nx (K : sh_K x aR aO aH aT rt ta h) (g : gs h h') {z k : Int32} {a : Nat} (ha : h.1 a = some (2, 0)) (s : EN z k h h' a) (s' : ES h' h'' a) : EN z k h h'' a := by
  obtain ⟨v1, v2⟩ := g.vw K ha
  refine ⟨s'.1.trans s.1, fun j hj => ?_⟩
  have := s'.2 j (by rw [v1]; exact hj)
  rw [v2] at this
  rw [this.1, this.2]
  exact s.2 j hj
theorem ES.nx (K : sh_K x aR aO aH aT rt ta h) (g : gs h h') {z k : Int32} {a : Nat} (ha : h.1 a = some (2, 0)) (s : ES h h' a) (s' : EN z k h' h'' a) : EN z k h h'' a := by
  obtain ⟨v1, v2⟩ := g.vw K ha
  unfold EN at s'
  rw [s.1, v1] at s'
  refine ⟨s'.1, fun j hj => ?_⟩
  have := s'.2 j hj
  rw [v2, (s.2 j hj).1, (s.2 j hj).2] at this
  exact this
theorem Dj.gs (K : sh_K x aR aO aH aT rt ta h) (g : gs h h') (hZ : ∀ a, Z a → h.1 a = some (2, 0)) (D : Dj h Z) : Dj h' Z := fun a b i j za zb hi hj e => by
  obtain ⟨v1, v2⟩ := g.vw K (hZ a za)
  obtain ⟨w1, w2⟩ := g.vw K (hZ b zb)
  rw [v1] at hi
  rw [w1] at hj
  rw [v2, w2] at e
  exact D a b i j za zb hi hj e
theorem en_gs (K : sh_K x aR aO aH aT rt ta h) (z k : Int32) (ob : Nat → Nat) : ∀ m, (∀ i, i < m → h.1 (ob i) = some (2, 0)) → gs h (en_h z k ob h m)
  | 0, _ => gs.refl h
  | m + 1, ho => by
    have g1 := en_gs K z k ob m (fun i hi => ho i (by omega))
    exact g1.trans (gs.ul (en_h_K K z k ob m (fun i hi => ho i (by omega))) z k (g1.1 _ _ (ho m (by omega))))
/-- all of a row of lockables -/
theorem en_all (K : sh_K x aR aO aH aT rt ta h) (hZ : ∀ a, Z a → h.1 a = some (2, 0)) (D : Dj h Z) (z k : Int32) (ob : Nat → Nat) : ∀ m, (∀ i, i < m → Z (ob i)) → (∀ i j, i < m → j < m → ob i = ob j → i = j) → ∀ a, Z a → ((∀ i, i < m → ob i ≠ a) → ES h (en_h z k ob h m) a) ∧ ((∃ i, i < m ∧ ob i = a) → EN z k h (en_h z k ob h m) a)
  | 0, _, _, a, za => ⟨fun _ => ES.refl h a, fun ⟨i, hi, _⟩ => absurd hi (Nat.not_lt_zero i)⟩
  | m + 1, ho, inj, a, za => by
    have ho' : ∀ i, i < m → h.1 (ob i) = some (2, 0) := fun i hi => hZ _ (ho i (by omega))
    have ih := en_all K hZ D z k ob m (fun i hi => ho i (by omega)) (fun i j hi hj => inj i j (by omega) (by omega)) a za
    have g := en_gs K z k ob m ho'
    have K1 := en_h_K K z k ob m ho'
    have hZ1 : ∀ a, Z a → (en_h z k ob h m).1 a = some (2, 0) := fun a za => g.1 _ _ (hZ a za)
    have D1 := D.gs K g hZ
    have ha := hZ a za
    refine ⟨fun hne => ?_, fun ⟨i, hi, e⟩ => ?_⟩
    · exact (ih.1 (fun i hi => hne i (by omega))).trans K g ha (ul_h_same K1 hZ1 D1 z k (ho m (by omega)) za (fun q => hne m (by omega) q.symm))
    · by_cases em : i = m
      · subst em
        have : ∀ j, j < i → ob j ≠ a := fun j hj q => by have := inj j i (by omega) hi (by rw [q, e]); omega
        subst e
        exact (ih.1 this).nx K g ha (ul_h_done K1 hZ1 D1 z k za)
      · have hne : ob m ≠ a := fun q => em (inj i m hi (by omega) (by rw [e, q]))
        exact (ih.2 ⟨i, by omega, e⟩).nx K g ha (ul_h_same K1 hZ1 D1 z k (ho m (by omega)) za (Ne.symm hne))
theorem en_cnt (K : sh_K x aR aO aH aT rt ta h) (hZ : ∀ a, Z a → h.1 a = some (2, 0)) (D : Dj h Z) (z k : Int32) (ob : Nat → Nat) (c0 : Nat) : ∀ m, (∀ i, i < m → Z (ob i)) → (∀ i j, i < m → j < m → ob i = ob j → i = j) → en_c z k ob (nI c0) h m = nI (c0 + ct (fun i => h.2.1 (ob i) 2 = k) m)
  | 0, _, _ => rfl
  | m + 1, ho, inj => by
    have ih := en_cnt K hZ D z k ob c0 m (fun i hi => ho i (by omega)) (fun i j hi hj => inj i j (by omega) (by omega))
    have s := (en_all K hZ D z k ob m (fun i hi => ho i (by omega)) (fun i j hi hj => inj i j (by omega) (by omega)) (ob m) (ho m (by omega))).1 (fun i hi q => by have := inj i m (by omega) (by omega) q; omega)
    show en_c z k ob (nI c0) h m + ul_c k (en_h z k ob h m) (ob m) = _
    rw [ih]
    unfold ul_c
    rw [s.1]
    by_cases e : h.2.1 (ob m) 2 = k
    · rw [if_pos e, ct_s (p := fun i => h.2.1 (ob i) 2 = k) e]
      exact nI_add _ 1
    · rw [if_neg e, ct_n (p := fun i => h.2.1 (ob i) 2 = k) e]
      exact nI_add _ 0
end ENC
/-! the model's cells behind a taking back -/
theorem mo_bk_n (S : th_N) (L : List UE) {j : Nat} (h4 : j ≠ 4) (h5 : j ≠ 5) (h7 : j ≠ 7) : (L.foldl mo_back S).2 j = S.2 j := by
  induction L generalizing S with
  | nil => rfl
  | cons e L ih => exact (ih _).trans (mo_as_n _ _ _ _ h4 h5 h7)
theorem bk_cell (L : List UE) : ∀ (S : th_N) (c : Nat), c < 324 → (∀ e, e ∈ L → ∃ d, d < 324 ∧ e.2.1 = nI d) → L.Pairwise (fun a b => ¬ a.2.1 = b.2.1) →
    ((∀ e, e ∈ L → ¬ e.2.1 = nI c) → rl_mr ((L.foldl mo_back S).2 4) c = rl_mr (S.2 4) c ∧ rl_mv ((L.foldl mo_back S).2 5) ((L.foldl mo_back S).2 7) c = rl_mv (S.2 5) (S.2 7) c) ∧
    (∀ e, e ∈ L → e.2.1 = nI c → rl_mr ((L.foldl mo_back S).2 4) c = (if c < 320 then e.2.2.1 else 1) ∧ rl_mv ((L.foldl mo_back S).2 5) ((L.foldl mo_back S).2 7) c = e.2.2.2) := by
  induction L with
  | nil => exact fun S c hc _ _ => ⟨fun _ => ⟨rfl, rfl⟩, fun e he => by cases he⟩
  | cons a L ih =>
    intro S c hc hd hp
    obtain ⟨d, hd1, hd2⟩ := hd a (List.mem_cons_self)
    have hp2 := List.pairwise_cons.mp hp
    have ih' := ih (mo_back S a) c hc (fun e he => hd e (List.mem_cons_of_mem _ he)) hp2.2
    have eb : mo_back S a = mo_as S d a.2.2.1 a.2.2.2 := by unfold mo_back; rw [hd2, nI_clamp (by omega)]
    have m1 : rl_mr ((mo_back S a).2 4) c = if c = d then (if d < 320 then a.2.2.1 else 1) else rl_mr (S.2 4) c := by rw [eb]; exact mo_as_mr _ _ _ _ _
    have m2 : rl_mv ((mo_back S a).2 5) ((mo_back S a).2 7) c = if c = d then a.2.2.2 else rl_mv (S.2 5) (S.2 7) c := by rw [eb]; exact mo_as_mv _ _ _ _ _
    refine ⟨fun hn => ?_, fun e he hec => ?_⟩
    · have hcd : c ≠ d := fun q => hn a (List.mem_cons_self) (by rw [hd2, q])
      obtain ⟨i1, i2⟩ := ih'.1 (fun e he => hn e (List.mem_cons_of_mem _ he))
      rw [m1, if_neg hcd] at i1
      rw [m2, if_neg hcd] at i2
      exact ⟨i1, i2⟩
    · rcases List.mem_cons.mp he with rfl | he
      · have hcd : c = d := (nI_eq (by omega) (by omega)).mp (by rw [← hec, hd2])
        obtain ⟨i1, i2⟩ := ih'.1 (fun e' he' q => hp2.1 e' he' (by rw [hec, q]))
        rw [m1, if_pos hcd] at i1
        rw [m2, if_pos hcd] at i2
        rw [← hcd] at i1
        exact ⟨i1, i2⟩
      · exact ih'.2 e he hec
/-! sums over rows that correspond -/
theorem sm_0 (f : Nat → Nat) : ∀ n, (∀ i, i < n → f i = 0) → sm f n = 0
  | 0, _ => rfl
  | n + 1, h => by rw [sm, sm_0 f n (fun i hi => h i (by omega)), h n (by omega)]
theorem sm_cg {f g : Nat → Nat} : ∀ n, (∀ i, i < n → f i = g i) → sm f n = sm g n
  | 0, _ => rfl
  | n + 1, h => by rw [sm, sm, sm_cg n (fun i hi => h i (by omega)), h n (by omega)]
theorem sm_out (v : Nat → Nat) (k : Nat) : ∀ m, k < m → sm v m = v k + sm (va_up v k 0) m
  | 0, hk => absurd hk (Nat.not_lt_zero k)
  | m + 1, hk => by
    rw [sm, sm]
    by_cases e : k = m
    · subst e
      rw [va_up_self, sm_cg (f := va_up v k 0) (g := v) k (fun i hi => va_up_ne _ _ (by omega))]
      omega
    · rw [va_up_ne _ _ (Ne.symm e), sm_out v k m (by omega)]
      omega
theorem sm_inj (g : Nat → Nat) (m : Nat) : ∀ (n : Nat) (w v : Nat → Nat), (∀ i, i < n → w i ≠ 0 → g i < m ∧ w i ≤ v (g i)) → (∀ i j, i < n → j < n → w i ≠ 0 → w j ≠ 0 → g i = g j → i = j) → sm w n ≤ sm v m
  | 0, _, _, _, _ => Nat.zero_le _
  | n + 1, w, v, h, inj => by
    rw [sm]
    by_cases e : w n = 0
    · rw [e]
      exact sm_inj g m n w v (fun i hi => h i (by omega)) (fun i j hi hj => inj i j (by omega) (by omega))
    · obtain ⟨h1, h2⟩ := h n (by omega) e
      have := sm_inj g m n w (va_up v (g n) 0) (fun i hi hw => by
        obtain ⟨a, b⟩ := h i (by omega) hw
        refine ⟨a, ?_⟩
        rw [va_up_ne _ _ (fun q => by have := inj i n (by omega) (by omega) hw e q; omega)]
        exact b) (fun i j hi hj => inj i j (by omega) (by omega))
      rw [sm_out v (g n) m h1]
      omega
theorem ct_sm (p : Nat → Prop) [DecidablePred p] : ∀ n, ct p n = sm (fun i => if p i then 1 else 0) n
  | 0 => rfl
  | n + 1 => by rw [ct, sm, ct_sm p n]
theorem sm_eq {w v : Nat → Nat} {n m : Nat} (f g : Nat → Nat) (h1 : ∀ i, i < n → w i ≠ 0 → f i < m ∧ w i = v (f i)) (h2 : ∀ r, r < m → v r ≠ 0 → g r < n ∧ v r = w (g r)) (i1 : ∀ i j, i < n → j < n → w i ≠ 0 → w j ≠ 0 → f i = f j → i = j) (i2 : ∀ i j, i < m → j < m → v i ≠ 0 → v j ≠ 0 → g i = g j → i = j) : sm w n = sm v m :=
  Nat.le_antisymm (sm_inj f m n w v (fun i hi hw => ⟨(h1 i hi hw).1, Nat.le_of_eq (h1 i hi hw).2⟩) i1) (sm_inj g n m v w (fun i hi hw => ⟨(h2 i hi hw).1, Nat.le_of_eq (h2 i hi hw).2⟩) i2)

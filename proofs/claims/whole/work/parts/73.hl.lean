/-! what the class calls held: the least set -/
def pt (h : th_S) (a b : Nat) : Prop := ∃ j, j < vw_np h a ∧ (h.2.2 (vw_pp h a j) 2 = some b ∨ h.2.2 (vw_pp h a j) 6 = some b)
def hl_b (aO n : Nat) (rt : Nat → Nat) (h : th_S) (P : Nat → Prop) : Prop := (∀ k, k < 4 → ∀ b, pt h (rt k) b → P b) ∧ (∀ m, m < n → ¬ h.2.1 (vw_ob aO h m) 2 = 0 → P (vw_ob aO h m))
def hl_c (aO n : Nat) (h : th_S) (P : Nat → Prop) : Prop := ∀ m, m < n → P (vw_ob aO h m) → ∀ b, pt h (vw_ob aO h m) b → P b
def hl_L (aO n : Nat) (rt : Nat → Nat) (h : th_S) (b : Nat) : Prop := ∀ P : Nat → Prop, hl_b aO n rt h P → hl_c aO n h P → P b
/-- objects and the marks on them -/
abbrev hl_m (aO : Nat) (h : th_S) (s : Nat × th_S) (m : Nat) : Prop := ¬ s.2.2.1 (vw_ob aO h m) 3 = 0
def hl_I (x aO aH n : Nat) (rt : Nat → Nat) (h : th_S) (s : Nat × th_S) : Prop :=
  (s.2.1 = h.1 ∧ (∀ b, b ≠ aH → s.2.2.2 b = h.2.2 b) ∧ (∀ b j, (b = x ∧ j = 5) ∨ (j = 3 ∧ h.1 b = some (2, 0)) ∨ s.2.2.1 b j = h.2.1 b j)) ∧
  (∀ i, i < s.1 → ∃ m, m < n ∧ s.2.2.2 aH i = some (vw_ob aO h m) ∧ hl_m aO h s m) ∧ (∀ m, m < n → hl_m aO h s m → ∃ i, i < s.1 ∧ s.2.2.2 aH i = some (vw_ob aO h m)) ∧
  s.1 = ct (hl_m aO h s) n ∧ (∀ m, m < n → hl_m aO h s m → hl_L aO n rt h (vw_ob aO h m))
/-- growth -/
def hl_G (aO aH n : Nat) (h : th_S) (s s' : Nat × th_S) : Prop := s.1 ≤ s'.1 ∧ (∀ i, i < s.1 → s'.2.2.2 aH i = s.2.2.2 aH i) ∧ (∀ m, m < n → hl_m aO h s m → hl_m aO h s' m)
theorem hl_G.refl (aO aH n : Nat) (h : th_S) (s : Nat × th_S) : hl_G aO aH n h s s := ⟨Nat.le_refl _, fun _ _ => rfl, fun _ _ q => q⟩
theorem hl_G.trans {aO aH n : Nat} {h : th_S} {s s' s'' : Nat × th_S} (a : hl_G aO aH n h s s') (b : hl_G aO aH n h s' s'') : hl_G aO aH n h s s'' := ⟨Nat.le_trans a.1 b.1, fun i hi => (b.2.1 i (Nat.lt_of_lt_of_le hi a.1)).trans (a.2.1 i hi), fun m hm q => b.2.2 m hm (a.2.2 m hm q)⟩
theorem ct_lt {p : Nat → Prop} [DecidablePred p] : ∀ n m, m < n → ¬ p m → ct p n < n
  | 0, m, hm, _ => absurd hm (Nat.not_lt_zero m)
  | n + 1, m, hm, hp => by
    by_cases e : m = n
    · rw [e] at hp
      rw [ct_n hp]
      have := ct_le p n
      omega
    · have := ct_lt n m (by omega) hp
      unfold ct
      split <;> omega
/-- one more -/
theorem ct_one {p q : Nat → Prop} [DecidablePred p] [DecidablePred q] : ∀ n m, m < n → ¬ p m → q m → (∀ k, k < n → k ≠ m → (q k ↔ p k)) → ct q n = ct p n + 1
  | 0, m, hm, _, _, _ => absurd hm (Nat.not_lt_zero m)
  | n + 1, m, hm, hp, hq, h => by
    by_cases e : m = n
    · subst e
      rw [ct_s hq, ct_n hp, ct_cg m (fun r hr => h r (by omega) (by omega))]
    · have ih := ct_one n m (by omega) hp hq (fun k hk hn => h k (by omega) hn)
      unfold ct
      rw [ih]
      have := h n (by omega) (fun z => e z.symm)
      by_cases z : p n
      · rw [if_pos z, if_pos (this.mpr z)]
      · rw [if_neg z, if_neg (fun y => z (this.mp y))]
section HLQ
variable {x aR aO aH aT : Nat} {rt ta : Nat → Nat} {h : th_S} {n : Nat} {s : Nat × th_S}
theorem hl_I.ho (K : sh_K x aR aO aH aT rt ta h) (O : sh_O x aO n h) (inj : ∀ i j, i < n → j < n → vw_ob aO h i = vw_ob aO h j → i = j) (I : hl_I x aO aH n rt h s) {b m : Nat} (hm : m < n) (hb : b = vw_ob aO h m) (hL : hl_L aO n rt h b) : hl_I x aO aH n rt h (ho_s x aH s (some b)) ∧ hl_G aO aH n h s (ho_s x aH s (some b)) ∧ hl_m aO h (ho_s x aH s (some b)) m := by
  subst hb
  obtain ⟨⟨f1, f2, f3⟩, i1, i2, i3, i4⟩ := I
  by_cases e : s.2.2.1 (vw_ob aO h m) 3 = 0
  · have h80 : s.1 < 80 := by
      have := ct_lt (p := hl_m aO h s) n m hm (fun q => q e)
      have := O.1
      omega
    have es : ho_s x aH s (some (vw_ob aO h m)) = (s.1 + 1, th_ui (th_ur (th_ui s.2 (vw_ob aO h m) 3 1) aH s.1 (some (vw_ob aO h m))) x 5 (nI (s.1 + 1))) := by
      unfold ho_s ho_k ho_h
      simp only [if_pos (show s.2.2.1 (vw_ob aO h m) 3 = 0 ∧ s.1 < 80 from ⟨e, h80⟩)]
    rw [es]
    have ko := (O.ob hm).2
    have nx : vw_ob aO h m ≠ x := th_kne ko K.kx (by decide)
    have mk : ∀ k, k < n → (th_ui (th_ur (th_ui s.2 (vw_ob aO h m) 3 1) aH s.1 (some (vw_ob aO h m))) x 5 (nI (s.1 + 1))).2.1 (vw_ob aO h k) 3 = if k = m then 1 else s.2.2.1 (vw_ob aO h k) 3 := fun k hk => by
      rw [th_ui_n _ _ _ _ (th_kne (O.ob hk).2 K.kx (by decide))]
      show (th_ui s.2 (vw_ob aO h m) 3 1).2.1 (vw_ob aO h k) 3 = _
      by_cases z : k = m
      · rw [if_pos z, z]; exact th_ui_s _ _ _ _
      · rw [if_neg z]; exact th_ui_n _ _ _ _ (fun q => z (inj k m hk hm q))
    have mm : ∀ k, k < n → (hl_m aO h (s.1 + 1, th_ui (th_ur (th_ui s.2 (vw_ob aO h m) 3 1) aH s.1 (some (vw_ob aO h m))) x 5 (nI (s.1 + 1))) k ↔ k = m ∨ hl_m aO h s k) := fun k hk => by
      show ¬ (th_ui (th_ur (th_ui s.2 (vw_ob aO h m) 3 1) aH s.1 (some (vw_ob aO h m))) x 5 (nI (s.1 + 1))).2.1 (vw_ob aO h k) 3 = 0 ↔ _
      rw [mk k hk]
      by_cases z : k = m
      · rw [if_pos z]; exact ⟨fun _ => Or.inl z, fun _ => by decide⟩
      · rw [if_neg z]; exact ⟨Or.inr, fun q => q.resolve_left z⟩
    have row : ∀ i, (th_ui (th_ur (th_ui s.2 (vw_ob aO h m) 3 1) aH s.1 (some (vw_ob aO h m))) x 5 (nI (s.1 + 1))).2.2 aH i = if i = s.1 then some (vw_ob aO h m) else s.2.2.2 aH i := fun i => by
      show (th_ur (th_ui s.2 (vw_ob aO h m) 3 1) aH s.1 (some (vw_ob aO h m))).2.2 aH i = _
      by_cases z : i = s.1
      · rw [if_pos z, z]; exact th_ur_s _ _ _ _
      · rw [if_neg z]; exact th_ur_k _ _ _ z
    refine ⟨⟨⟨f1, fun b hb => ?_, fun b j => ?_⟩, fun i hi => ?_, fun k hk hq => ?_, ?_, fun k hk hq => ?_⟩, ⟨Nat.le_succ _, fun i hi => ?_, fun k hk q => (mm k hk).mpr (Or.inr q)⟩, (mm m hm).mpr (Or.inl rfl)⟩
    · show (th_ur (th_ui s.2 (vw_ob aO h m) 3 1) aH s.1 (some (vw_ob aO h m))).2.2 b = _
      rw [← f2 b hb]
      exact funext fun i => th_ur_n _ _ _ _ hb
    · by_cases z1 : b = x ∧ j = 5
      · exact Or.inl z1
      · rw [ui_at (fun q w => z1 ⟨q, w⟩)]
        by_cases z2 : b = vw_ob aO h m ∧ j = 3
        · rw [z2.1]; exact Or.inr (Or.inl ⟨z2.2, ko⟩)
        · show _ ∨ _ ∨ (th_ui s.2 (vw_ob aO h m) 3 1).2.1 b j = _
          rw [ui_at (fun q w => z2 ⟨q, w⟩)]
          exact f3 b j
    · show ∃ k, k < n ∧ (th_ui (th_ur (th_ui s.2 (vw_ob aO h m) 3 1) aH s.1 (some (vw_ob aO h m))) x 5 (nI (s.1 + 1))).2.2 aH i = _ ∧ _
      rw [row i]
      by_cases z : i = s.1
      · rw [if_pos z]; exact ⟨m, hm, rfl, (mm m hm).mpr (Or.inl rfl)⟩
      · rw [if_neg z]
        obtain ⟨k, k1, k2, k3⟩ := i1 i (by have : i < s.1 + 1 := hi; omega)
        exact ⟨k, k1, k2, (mm k k1).mpr (Or.inr k3)⟩
    · show ∃ i, i < s.1 + 1 ∧ (th_ui (th_ur (th_ui s.2 (vw_ob aO h m) 3 1) aH s.1 (some (vw_ob aO h m))) x 5 (nI (s.1 + 1))).2.2 aH i = _
      rcases (mm k hk).mp hq with z | z
      · exact ⟨s.1, Nat.lt_succ_self _, by rw [row, if_pos rfl, z]⟩
      · obtain ⟨i, j1, j2⟩ := i2 k hk z
        exact ⟨i, by omega, by rw [row, if_neg (by omega)]; exact j2⟩
    · refine Eq.trans (congrArg (· + 1) i3) ?_
      exact (ct_one n m hm (fun q => q e) ((mm m hm).mpr (Or.inl rfl)) (fun k hk hne => ⟨fun q => ((mm k hk).mp q).resolve_left hne, fun q => (mm k hk).mpr (Or.inr q)⟩)).symm
    · rcases (mm k hk).mp hq with z | z
      · rw [z]; exact hL
      · exact i4 k hk z
    · show (th_ui (th_ur (th_ui s.2 (vw_ob aO h m) 3 1) aH s.1 (some (vw_ob aO h m))) x 5 (nI (s.1 + 1))).2.2 aH i = _
      rw [row, if_neg (by omega)]
  · have es : ho_s x aH s (some (vw_ob aO h m)) = s := by
      unfold ho_s ho_k ho_h
      simp only [if_neg (show ¬ (s.2.2.1 (vw_ob aO h m) 3 = 0 ∧ s.1 < 80) from fun q => e q.1)]
    rw [es]
    exact ⟨⟨⟨f1, f2, f3⟩, i1, i2, i3, i4⟩, hl_G.refl _ _ _ _ _, e⟩
/-- an optional one -/
theorem hl_I.hoO (K : sh_K x aR aO aH aT rt ta h) (O : sh_O x aO n h) (inj : ∀ i j, i < n → j < n → vw_ob aO h i = vw_ob aO h j → i = j) (I : hl_I x aO aH n rt h s) {r : Option Nat} (hr : ∀ b, r = some b → (∃ m, m < n ∧ b = vw_ob aO h m) ∧ hl_L aO n rt h b) : hl_I x aO aH n rt h (ho_s x aH s r) ∧ hl_G aO aH n h s (ho_s x aH s r) ∧ (∀ m, m < n → r = some (vw_ob aO h m) → hl_m aO h (ho_s x aH s r) m) := by
  cases r with
  | none => exact ⟨I, hl_G.refl _ _ _ _ _, fun m _ q => by cases q⟩
  | some b =>
    obtain ⟨⟨m, hm, e⟩, hL⟩ := hr b rfl
    obtain ⟨a1, a2, a3⟩ := hl_I.ho K O inj I hm e hL
    refine ⟨a1, a2, fun k hk q => ?_⟩
    have : k = m := inj k m hk hm (by rw [← e]; exact (Option.some.inj q).symm)
    rw [this]
    exact a3
/-- all the targets of a lockable's places -/
theorem hl_I.ht (K : sh_K x aR aO aH aT rt ta h) (O : sh_O x aO n h) (inj : ∀ i j, i < n → j < n → vw_ob aO h i = vw_ob aO h j → i = j) (I : hl_I x aO aH n rt h s) (pp : Nat → Nat) : ∀ m, (∀ j, j < m → h.1 (pp j) = some (3, 0) ∧ ∀ b, (h.2.2 (pp j) 2 = some b ∨ h.2.2 (pp j) 6 = some b) → (∃ k, k < n ∧ b = vw_ob aO h k) ∧ hl_L aO n rt h b) → hl_I x aO aH n rt h (ht_s x aH pp s m) ∧ hl_G aO aH n h s (ht_s x aH pp s m) ∧ (∀ j, j < m → ∀ k, k < n → (h.2.2 (pp j) 2 = some (vw_ob aO h k) ∨ h.2.2 (pp j) 6 = some (vw_ob aO h k)) → hl_m aO h (ht_s x aH pp s m) k)
  | 0, _ => ⟨I, hl_G.refl _ _ _ _ _, fun j hj => absurd hj (Nat.not_lt_zero j)⟩
  | m + 1, hp => by
    obtain ⟨a1, a2, a3⟩ := hl_I.ht K O inj I pp m (fun j hj => hp j (by omega))
    obtain ⟨kp, hp2⟩ := hp m (by omega)
    have er : s.2.2.2 (pp m) = h.2.2 (pp m) := I.1.2.1 _ (th_kne kp K.kH (by decide))
    show hl_I x aO aH n rt h (ho_s x aH (ho_s x aH (ht_s x aH pp s m) (s.2.2.2 (pp m) 2)) (s.2.2.2 (pp m) 6)) ∧ _
    show _ ∧ hl_G aO aH n h s (ho_s x aH (ho_s x aH (ht_s x aH pp s m) (s.2.2.2 (pp m) 2)) (s.2.2.2 (pp m) 6)) ∧ (∀ j, j < m + 1 → ∀ k, k < n → _ → hl_m aO h (ho_s x aH (ho_s x aH (ht_s x aH pp s m) (s.2.2.2 (pp m) 2)) (s.2.2.2 (pp m) 6)) k)
    rw [er]
    obtain ⟨b1, b2, b3⟩ := hl_I.hoO K O inj a1 (r := h.2.2 (pp m) 2) (fun b hb => hp2 b (Or.inl hb))
    obtain ⟨c1, c2, c3⟩ := hl_I.hoO K O inj b1 (r := h.2.2 (pp m) 6) (fun b hb => hp2 b (Or.inr hb))
    refine ⟨c1, a2.trans (b2.trans c2), fun j hj k hk q => ?_⟩
    by_cases e : j = m
    · rw [e] at q
      rcases q with q | q
      · exact c2.2.2 k hk (b3 k hk q)
      · exact c3 k hk q
    · exact c2.2.2 k hk (b2.2.2 k hk (a3 j (by omega) k hk q))
theorem hl_gs (K : sh_K x aR aO aH aT rt ta h) (I : hl_I x aO aH n rt h s) : gs h s.2 := by
  obtain ⟨⟨f1, f2, f3⟩, -⟩ := I
  refine ⟨fun b t q => by rw [f1]; exact q, fun b hb => ⟨?_, by rw [f2 b (th_kne hb K.kH (by decide))]⟩, fun b m hb => f2 b (th_kne hb K.kH (by simp))⟩
  rcases f3 b 0 with ⟨-, q⟩ | ⟨q, -⟩ | q
  · cases q
  · cases q
  · exact q
theorem hl_I.tgs (K : sh_K x aR aO aH aT rt ta h) (O : sh_O x aO n h) (inj : ∀ i j, i < n → j < n → vw_ob aO h i = vw_ob aO h j → i = j) (I : hl_I x aO aH n rt h s) {a : Nat} (ka : h.1 a = some (2, 0)) (hp : ∀ b, pt h a b → (∃ k, k < n ∧ b = vw_ob aO h k) ∧ hl_L aO n rt h b) : hl_I x aO aH n rt h (hta x aH s a) ∧ hl_G aO aH n h s (hta x aH s a) ∧ (∀ k, k < n → pt h a (vw_ob aO h k) → hl_m aO h (hta x aH s a) k) := by
  obtain ⟨v1, v2⟩ := (hl_gs K I).vw K ka
  have e : hta x aH s a = ht_s x aH (vw_pp h a) s (vw_np h a) := by
    unfold hta
    rw [v1, show vw_pp s.2 a = vw_pp h a from funext v2]
  rw [e]
  have kv := (K.vw ka).2.2.2
  obtain ⟨a1, a2, a3⟩ := hl_I.ht K O inj I (vw_pp h a) (vw_np h a) (fun j hj => ⟨(kv j hj).2, fun b hb => hp b ⟨j, hj, hb⟩⟩)
  exact ⟨a1, a2, fun k hk ⟨j, hj, q⟩ => a3 j hj k hk q⟩
/-- the row is gone through -/
theorem hl_I.fw (K : sh_K x aR aO aH aT rt ta h) (O : sh_O x aO n h) (inj : ∀ i j, i < n → j < n → vw_ob aO h i = vw_ob aO h j → i = j) (hT : ∀ m, m < n → ∀ b, pt h (vw_ob aO h m) b → ∃ k, k < n ∧ b = vw_ob aO h k) : ∀ (f i : Nat) (s : Nat × th_S), hl_I x aO aH n rt h s → i + f = 80 → (∀ j, j < i → j < s.1 → ∀ m, m < n → s.2.2.2 aH j = some (vw_ob aO h m) → ∀ k, k < n → pt h (vw_ob aO h m) (vw_ob aO h k) → hl_m aO h s k) → hl_I x aO aH n rt h (fw_s x aH f i s) ∧ hl_G aO aH n h s (fw_s x aH f i s) ∧ (∀ m, m < n → hl_m aO h (fw_s x aH f i s) m → ∀ k, k < n → pt h (vw_ob aO h m) (vw_ob aO h k) → hl_m aO h (fw_s x aH f i s) k)
  | 0, i, s, I, hi, hd => by
    refine ⟨I, hl_G.refl _ _ _ _ _, fun m hm q k hk hpt => ?_⟩
    obtain ⟨j, j1, j2⟩ := I.2.2.1 m hm q
    have := ct_le (hl_m aO h s) n
    have := O.1
    have e3 := I.2.2.2.1
    exact hd j (by omega) j1 m hm j2 k hk hpt
  | f + 1, i, s, I, hi, hd => by
    unfold fw_s
    by_cases c : i < s.1
    · rw [if_pos c]
      obtain ⟨m, hm, em, qm⟩ := I.2.1 i c
      rw [em]
      show hl_I x aO aH n rt h (fw_s x aH f (i + 1) (hta x aH s (vw_ob aO h m))) ∧ _
      obtain ⟨a1, a2, a3⟩ := hl_I.tgs K O inj I (O.ob hm).2 (fun b hb => ⟨hT m hm b hb, fun P p1 p2 => p2 m hm (I.2.2.2.2 m hm qm P p1 p2) b hb⟩)
      obtain ⟨b1, b2, b3⟩ := hl_I.fw K O inj hT f (i + 1) (hta x aH s (vw_ob aO h m)) a1 (by omega) (fun j hj hj2 m' hm' e' k hk hpt => by
        by_cases e : j = i
        · rw [e, a2.2.1 i c, em] at e'
          have : m' = m := inj m' m hm' hm (Option.some.inj e').symm
          rw [this] at hpt
          exact a3 k hk hpt
        · have hjs : j < s.1 := by omega
          rw [a2.2.1 j hjs] at e'
          exact a2.2.2 k hk (hd j (by omega) hjs m' hm' e' k hk hpt))
      exact ⟨b1, a2.trans b2, b3⟩
    · rw [if_neg c]
      refine ⟨I, hl_G.refl _ _ _ _ _, fun m hm q k hk hpt => ?_⟩
      obtain ⟨j, j1, j2⟩ := I.2.2.1 m hm q
      exact hd j (by omega) j1 m hm j2 k hk hpt
theorem hl_I.fr (K : sh_K x aR aO aH aT rt ta h) (O : sh_O x aO n h) (inj : ∀ i j, i < n → j < n → vw_ob aO h i = vw_ob aO h j → i = j) (I : hl_I x aO aH n rt h s) (hR : ∀ k, k < 4 → ∀ b, pt h (rt k) b → ∃ m, m < n ∧ b = vw_ob aO h m) : ∀ i, i ≤ 4 → hl_I x aO aH n rt h (fr_s x aH rt s i) ∧ hl_G aO aH n h s (fr_s x aH rt s i) ∧ (∀ k, k < i → ∀ m, m < n → pt h (rt k) (vw_ob aO h m) → hl_m aO h (fr_s x aH rt s i) m)
  | 0, _ => ⟨I, hl_G.refl _ _ _ _ _, fun k hk => absurd hk (Nat.not_lt_zero k)⟩
  | i + 1, hi => by
    obtain ⟨a1, a2, a3⟩ := hl_I.fr K O inj I hR i (by omega)
    obtain ⟨b1, b2, b3⟩ := hl_I.tgs K O inj a1 (a := rt i) (K.krt (by omega)) (fun b hb => ⟨hR i (by omega) b hb, fun P p1 _ => p1.1 i (by omega) b hb⟩)
    refine ⟨b1, a2.trans b2, fun k hk m hm q => ?_⟩
    by_cases e : k = i
    · rw [e] at q; exact b3 m hm q
    · exact b2.2.2 m hm (a3 k (by omega) m hm q)
theorem hl_I.fo (K : sh_K x aR aO aH aT rt ta h) (O : sh_O x aO n h) (inj : ∀ i j, i < n → j < n → vw_ob aO h i = vw_ob aO h j → i = j) (I : hl_I x aO aH n rt h s) : ∀ i, i ≤ n → hl_I x aO aH n rt h (fo_s x aH (vw_ob aO h) s i) ∧ hl_G aO aH n h s (fo_s x aH (vw_ob aO h) s i) ∧ (∀ m, m < i → ¬ h.2.1 (vw_ob aO h m) 2 = 0 → hl_m aO h (fo_s x aH (vw_ob aO h) s i) m)
  | 0, _ => ⟨I, hl_G.refl _ _ _ _ _, fun k hk => absurd hk (Nat.not_lt_zero k)⟩
  | i + 1, hi => by
    obtain ⟨a1, a2, a3⟩ := hl_I.fo K O inj I i (by omega)
    have eo : (fo_s x aH (vw_ob aO h) s i).2.2.1 (vw_ob aO h i) 2 = h.2.1 (vw_ob aO h i) 2 := by
      rcases a1.1.2.2 (vw_ob aO h i) 2 with ⟨-, q⟩ | ⟨q, -⟩ | q
      · cases q
      · cases q
      · exact q
    unfold fo_s
    rw [eo]
    by_cases c : h.2.1 (vw_ob aO h i) 2 = 0
    · rw [if_pos c]
      refine ⟨a1, a2, fun m hm q => ?_⟩
      by_cases e : m = i
      · rw [e] at q; exact absurd c q
      · exact a3 m (by omega) q
    · rw [if_neg c]
      obtain ⟨b1, b2, b3⟩ := hl_I.ho K O inj a1 (m := i) (by omega) rfl (fun P p1 _ => p1.2 i (by omega) c)
      refine ⟨b1, a2.trans b2, fun m hm q => ?_⟩
      by_cases e : m = i
      · rw [e]; exact b3
      · exact b2.2.2 m (by omega) (a3 m (by omega) q)
theorem hl_1 (K : sh_K x aR aO aH aT rt ta h) (O : sh_O x aO n h) : hl_I x aO aH n rt h (fh_1 x aO n h) := by
  have key : ∀ i, i ≤ n → (∀ m, m < i → (fc_h (vw_ob aO h) (th_ui h x 5 0) i).2.1 (vw_ob aO h m) 3 = 0) ∧ (∀ b j, (b = x ∧ j = 5) ∨ (j = 3 ∧ h.1 b = some (2, 0)) ∨ (fc_h (vw_ob aO h) (th_ui h x 5 0) i).2.1 b j = h.2.1 b j) := by
    intro i
    induction i with
    | zero =>
      refine fun _ => ⟨fun m hm => absurd hm (Nat.not_lt_zero m), fun b j => ?_⟩
      show _ ∨ _ ∨ (th_ui h x 5 0).2.1 b j = _
      by_cases z : b = x ∧ j = 5
      · exact Or.inl z
      · exact Or.inr (Or.inr (ui_at (fun q w => z ⟨q, w⟩)))
    | succ i ih =>
      intro hi
      obtain ⟨i1, i2⟩ := ih (by omega)
      refine ⟨fun m hm => ?_, fun b j => ?_⟩
      · show (th_ui (fc_h (vw_ob aO h) (th_ui h x 5 0) i) (vw_ob aO h i) 3 0).2.1 (vw_ob aO h m) 3 = 0
        by_cases e : vw_ob aO h m = vw_ob aO h i
        · rw [e]; exact th_ui_s _ _ _ _
        · rw [th_ui_n _ _ _ _ e]
          exact i1 m (by
            have : m ≠ i := fun q => e (by rw [q])
            omega)
      · show _ ∨ _ ∨ (th_ui (fc_h (vw_ob aO h) (th_ui h x 5 0) i) (vw_ob aO h i) 3 0).2.1 b j = _
        by_cases z : b = vw_ob aO h i ∧ j = 3
        · exact Or.inr (Or.inl ⟨z.2, by rw [z.1]; exact (O.ob (by omega)).2⟩)
        · rw [ui_at (fun q w => z ⟨q, w⟩)]
          exact i2 b j
  obtain ⟨k1, k2⟩ := key n (Nat.le_refl n)
  have nm : ∀ m, m < n → ¬ hl_m aO h (fh_1 x aO n h) m := fun m hm q => q (k1 m hm)
  refine ⟨⟨fc_h_k _ n, fun b _ => by show (fc_h (vw_ob aO h) (th_ui h x 5 0) n).2.2 b = _; rw [fc_h_r]; rfl, k2⟩, fun i hi => absurd hi (Nat.not_lt_zero i), fun m hm q => absurd q (nm m hm), ?_, fun m hm q => absurd q (nm m hm)⟩
  show 0 = _
  rw [ct_cg (q := fun _ => False) n (fun r hr => ⟨nm r hr, fun q => q.elim⟩)]
  have z : ∀ m, ct (fun _ => False) m = 0 := fun m => by
    induction m with
    | zero => rfl
    | succ m ih => unfold ct; rw [ih]; rfl
  exact (z n).symm
/-- findHeld: the least set -/
theorem hl_fh (K : sh_K x aR aO aH aT rt ta h) (O : sh_O x aO n h) (inj : ∀ i j, i < n → j < n → vw_ob aO h i = vw_ob aO h j → i = j) (hT : ∀ m, m < n → ∀ b, pt h (vw_ob aO h m) b → ∃ k, k < n ∧ b = vw_ob aO h k) (hR : ∀ k, k < 4 → ∀ b, pt h (rt k) b → ∃ m, m < n ∧ b = vw_ob aO h m) :
    hl_I x aO aH n rt h (sh_fh x aO aH n rt h) ∧ (∀ k, k < 4 → ∀ m, m < n → pt h (rt k) (vw_ob aO h m) → hl_m aO h (sh_fh x aO aH n rt h) m) ∧ (∀ m, m < n → ¬ h.2.1 (vw_ob aO h m) 2 = 0 → hl_m aO h (sh_fh x aO aH n rt h) m) ∧ (∀ m, m < n → hl_m aO h (sh_fh x aO aH n rt h) m → ∀ k, k < n → pt h (vw_ob aO h m) (vw_ob aO h k) → hl_m aO h (sh_fh x aO aH n rt h) k) := by
  have I1 := hl_1 (rt := rt) (aH := aH) K O
  unfold sh_fh fh_3 fh_2
  generalize fh_1 x aO n h = s1 at *
  obtain ⟨a1, a2, a3⟩ := hl_I.fr K O inj I1 hR 4 (Nat.le_refl 4)
  generalize fr_s x aH rt s1 4 = s2 at *
  obtain ⟨b1, b2, b3⟩ := hl_I.fo K O inj a1 n (Nat.le_refl n)
  generalize fo_s x aH (vw_ob aO h) s2 n = s3 at *
  obtain ⟨c1, c2, c3⟩ := hl_I.fw K O inj hT 80 0 s3 b1 (by omega) (fun j hj => absurd hj (Nat.not_lt_zero j))
  generalize fw_s x aH 80 0 s3 = s4 at *
  exact ⟨c1, fun k hk m hm q => c2.2.2 m hm (b2.2.2 m hm (a3 k hk m hm q)), fun m hm q => c2.2.2 m hm (b3 m hm q), c3⟩
end HLQ

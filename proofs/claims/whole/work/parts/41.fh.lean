/-! findHeld, as a function -/
def hta (x aH : Nat) (s : Nat × th_S) (a : Nat) : Nat × th_S := ht_s x aH (vw_pp s.2 a) s (vw_np s.2 a)
def fc_h (ob : Nat → Nat) (h : th_S) : Nat → th_S
  | 0 => h
  | j + 1 => th_ui (fc_h ob h j) (ob j) 3 0
def fr_s (x aH : Nat) (rt : Nat → Nat) (s : Nat × th_S) : Nat → Nat × th_S
  | 0 => s
  | j + 1 => hta x aH (fr_s x aH rt s j) (rt j)
def fo_s (x aH : Nat) (ob : Nat → Nat) (s : Nat × th_S) : Nat → Nat × th_S
  | 0 => s
  | j + 1 => if (fo_s x aH ob s j).2.2.1 (ob j) 2 = 0 then fo_s x aH ob s j else ho_s x aH (fo_s x aH ob s j) (some (ob j))
def fw_s (x aH : Nat) : Nat → Nat → Nat × th_S → Nat × th_S
  | 0, _, s => s
  | f + 1, i, s => if i < s.1 then fw_s x aH f (i + 1) (hta x aH s ((s.2.2.2 aH i).getD 0)) else s
def fh_1 (x aO n : Nat) (h : th_S) : Nat × th_S := (0, fc_h (vw_ob aO h) (th_ui h x 5 0) n)
def fh_2 (x aO aH n : Nat) (rt : Nat → Nat) (h : th_S) : Nat × th_S := fr_s x aH rt (fh_1 x aO n h) 4
def fh_3 (x aO aH n : Nat) (rt : Nat → Nat) (h : th_S) : Nat × th_S := fo_s x aH (vw_ob aO h) (fh_2 x aO aH n rt h) n
def sh_fh (x aO aH n : Nat) (rt : Nat → Nat) (h : th_S) : Nat × th_S := fw_s x aH 80 0 (fh_3 x aO aH n rt h)
def fh_I (x aR aO aH aT : Nat) (rt ta : Nat → Nat) (n : Nat) (s : Nat × th_S) : Prop :=
  sh_K x aR aO aH aT rt ta s.2 ∧ ho_C x s ∧ sh_O x aO n s.2 ∧ ∀ i, i < s.1 → ∃ a, s.2.2.2 aH i = some a ∧ s.2.1 a = some (2, 0)
section FHI
variable {x aR aO aH aT : Nat} {rt ta : Nat → Nat} {n : Nat} {s : Nat × th_S}
theorem fh_I.ho (I : fh_I x aR aO aH aT rt ta n s) {r : Option Nat} (hr : ∀ b, r = some b → s.2.1 b = some (2, 0)) : fh_I x aR aO aH aT rt ta n (ho_s x aH s r) := by
  refine ⟨ho_s_K I.1 hr, ho_s_C I.1 I.2.1 hr, ho_s_O I.1 I.2.2.1 r, ?_⟩
  unfold ho_s ho_h ho_k
  split
  · exact I.2.2.2
  · rename_i a
    by_cases hc : s.2.2.1 a 3 = 0 ∧ s.1 < 80
    · simp only [if_pos hc]
      intro i hi
      show ∃ b, (th_ur (th_ui s.2 a 3 1) aH s.1 (some a)).2.2 aH i = some b ∧ s.2.1 b = some (2, 0)
      by_cases e : i = s.1
      · rw [e, th_ur_s]
        exact ⟨a, rfl, hr a rfl⟩
      · rw [th_ur_k _ _ _ e]
        exact I.2.2.2 i (by omega)
    · simp only [if_neg hc]
      exact I.2.2.2
theorem fh_I.ht (I : fh_I x aR aO aH aT rt ta n s) (pp : Nat → Nat) : ∀ m, (∀ j, j < m → s.2.1 (pp j) = some (3, 0)) → fh_I x aR aO aH aT rt ta n (ht_s x aH pp s m)
  | 0, _ => I
  | m + 1, hp => by
    have I1 := I.ht pp m (fun j hj => hp j (Nat.lt_succ_of_lt hj))
    have e0 : (ht_s x aH pp s m).2.1 = s.2.1 := ht_s_k pp m
    have I2 := I1.ho (r := s.2.2.2 (pp m) 2) (fun b hb => by rw [e0]; exact (I.1.pl (hp m (Nat.lt_succ_self m))).2.2.2.1 b hb)
    exact I2.ho (r := s.2.2.2 (pp m) 6) (fun b hb => by
      rw [show (ho_s x aH (ht_s x aH pp s m) (s.2.2.2 (pp m) 2)).2.1 = (ht_s x aH pp s m).2.1 from ho_h_k x aH _ _, e0]
      exact (I.1.pl (hp m (Nat.lt_succ_self m))).2.2.2.2 b hb)
theorem fh_I.hta (I : fh_I x aR aO aH aT rt ta n s) {a : Nat} (ha : s.2.1 a = some (2, 0)) : fh_I x aR aO aH aT rt ta n (hta x aH s a) :=
  I.ht _ _ (fun j hj => ((I.1.vw ha).2.2.2 j hj).2)
theorem hta_k (a : Nat) : (hta x aH s a).2.1 = s.2.1 := ht_s_k _ _
theorem hta_r {a b : Nat} (hb : b ≠ aH) : (hta x aH s a).2.2.2 b = s.2.2.2 b := ht_s_r _ hb _
theorem fr_s_k (ob : Nat → Nat) : ∀ m, (fr_s x aH ob s m).2.1 = s.2.1
  | 0 => rfl
  | m + 1 => (hta_k _).trans (fr_s_k ob m)
theorem fr_s_r (ob : Nat → Nat) {b : Nat} (hb : b ≠ aH) : ∀ m, (fr_s x aH ob s m).2.2.2 b = s.2.2.2 b
  | 0 => rfl
  | m + 1 => (hta_r hb).trans (fr_s_r ob hb m)
theorem fh_I.fr (I : fh_I x aR aO aH aT rt ta n s) (ob : Nat → Nat) : ∀ m, (∀ j, j < m → s.2.1 (ob j) = some (2, 0)) → fh_I x aR aO aH aT rt ta n (fr_s x aH ob s m)
  | 0, _ => I
  | m + 1, hp => (I.fr ob m (fun j hj => hp j (Nat.lt_succ_of_lt hj))).hta (by rw [fr_s_k]; exact hp m (Nat.lt_succ_self m))
theorem fo_s_k (ob : Nat → Nat) : ∀ m, (fo_s x aH ob s m).2.1 = s.2.1
  | 0 => rfl
  | m + 1 => by
    unfold fo_s
    split
    · exact fo_s_k ob m
    · exact (ho_h_k x aH _ _).trans (fo_s_k ob m)
theorem fo_s_r (ob : Nat → Nat) {b : Nat} (hb : b ≠ aH) : ∀ m, (fo_s x aH ob s m).2.2.2 b = s.2.2.2 b
  | 0 => rfl
  | m + 1 => by
    unfold fo_s
    split
    · exact fo_s_r ob hb m
    · exact (ho_h_r x aH _ _ hb).trans (fo_s_r ob hb m)
theorem fh_I.fo (I : fh_I x aR aO aH aT rt ta n s) (ob : Nat → Nat) : ∀ m, (∀ j, j < m → s.2.1 (ob j) = some (2, 0)) → fh_I x aR aO aH aT rt ta n (fo_s x aH ob s m)
  | 0, _ => I
  | m + 1, hp => by
    have I1 := I.fo ob m (fun j hj => hp j (Nat.lt_succ_of_lt hj))
    unfold fo_s
    split
    · exact I1
    · exact I1.ho (fun b hb => by cases hb; rw [fo_s_k]; exact hp m (Nat.lt_succ_self m))
theorem fh_I.fw : ∀ (f i : Nat) {s : Nat × th_S}, fh_I x aR aO aH aT rt ta n s → fh_I x aR aO aH aT rt ta n (fw_s x aH f i s)
  | 0, _, _, I => I
  | f + 1, i, s, I => by
    unfold fw_s
    split
    · rename_i hi
      obtain ⟨a, e, k⟩ := I.2.2.2 i hi
      exact fh_I.fw f (i + 1) (I.hta (by rw [e]; exact k))
    · exact I
end FHI
section FC
variable {x aR aO aH aT : Nat} {rt ta : Nat → Nat} {h : th_S}
theorem fc_h_k (ob : Nat → Nat) : ∀ m, (fc_h ob h m).1 = h.1
  | 0 => rfl
  | m + 1 => fc_h_k ob m
theorem fc_h_r (ob : Nat → Nat) : ∀ m, (fc_h ob h m).2.2 = h.2.2
  | 0 => rfl
  | m + 1 => fc_h_r ob m
theorem fc_h_i (ob : Nat → Nat) {b j : Nat} (hj : j ≠ 3) : ∀ m, (fc_h ob h m).2.1 b j = h.2.1 b j
  | 0 => rfl
  | m + 1 => by
    show (th_ui (fc_h ob h m) (ob m) 3 0).2.1 b j = _
    by_cases e : b = ob m
    · rw [e, th_ui_k _ _ _ hj]; exact fc_h_i ob hj m
    · rw [th_ui_n _ _ _ _ e]; exact fc_h_i ob hj m
theorem fc_h_K (K : sh_K x aR aO aH aT rt ta h) (ob : Nat → Nat) : ∀ m, (∀ j, j < m → h.1 (ob j) = some (2, 0)) → sh_K x aR aO aH aT rt ta (fc_h ob h m)
  | 0, _ => K
  | m + 1, hp => (fc_h_K K ob m (fun j hj => hp j (Nat.lt_succ_of_lt hj))).uk (by rw [fc_h_k]; exact hp m (Nat.lt_succ_self m)) (by decide)
theorem fh_1_I (K : sh_K x aR aO aH aT rt ta h) {n : Nat} (o : sh_O x aO n h) {m : Nat} (hm : m ≤ n) : fh_I x aR aO aH aT rt ta n (0, fc_h (vw_ob aO h) (th_ui h x 5 0) m) := by
  have K1 := K.uk (j := 5) (v := 0) K.kx (by decide)
  refine ⟨fc_h_K K1 _ m (fun j hj => (o.ob (by omega)).2), ⟨?_, Nat.zero_le _⟩, ⟨o.1, ?_, fun i hi => ?_⟩, fun i hi => absurd hi (Nat.not_lt_zero i)⟩
  · show (fc_h (vw_ob aO h) (th_ui h x 5 0) m).2.1 x 5 = nI 0
    rw [fc_h_i _ (by decide), th_ui_s]
    rfl
  · show (fc_h (vw_ob aO h) (th_ui h x 5 0) m).2.1 x 4 = nI n
    rw [fc_h_i _ (by decide), th_ui_k _ _ _ (by decide)]
    exact o.2.1
  · show ∃ a, (fc_h (vw_ob aO h) (th_ui h x 5 0) m).2.2 aO i = some a ∧ (fc_h (vw_ob aO h) (th_ui h x 5 0) m).1 a = some (2, 0)
    rw [fc_h_r, fc_h_k]
    exact o.2.2 i hi
theorem fh_2_I (K : sh_K x aR aO aH aT rt ta h) {n : Nat} (o : sh_O x aO n h) {m : Nat} (hm : m ≤ 4) : fh_I x aR aO aH aT rt ta n (fr_s x aH rt (fh_1 x aO n h) m) :=
  (fh_1_I K o (Nat.le_refl n)).fr rt m (fun j hj => by show (fc_h (vw_ob aO h) (th_ui h x 5 0) n).1 (rt j) = _; rw [fc_h_k]; exact K.krt (by omega))
theorem fh_2_k (n : Nat) (m : Nat) : (fr_s x aH rt (fh_1 x aO n h) m).2.1 = h.1 := (fr_s_k rt m).trans (fc_h_k _ n)
theorem fh_2_r (n : Nat) {b : Nat} (hb : b ≠ aH) (m : Nat) : (fr_s x aH rt (fh_1 x aO n h) m).2.2.2 b = h.2.2 b := (fr_s_r rt hb m).trans (by show (fc_h (vw_ob aO h) (th_ui h x 5 0) n).2.2 b = _; rw [fc_h_r]; rfl)
theorem fh_3_k (n : Nat) (m : Nat) : (fo_s x aH (vw_ob aO h) (fh_2 x aO aH n rt h) m).2.1 = h.1 := (fo_s_k _ m).trans (fh_2_k n 4)
theorem fh_3_r (n : Nat) {b : Nat} (hb : b ≠ aH) (m : Nat) : (fo_s x aH (vw_ob aO h) (fh_2 x aO aH n rt h) m).2.2.2 b = h.2.2 b := (fo_s_r _ hb m).trans (fh_2_r n hb 4)
theorem fh_3_I (K : sh_K x aR aO aH aT rt ta h) {n : Nat} (o : sh_O x aO n h) {m : Nat} (hm : m ≤ n) : fh_I x aR aO aH aT rt ta n (fo_s x aH (vw_ob aO h) (fh_2 x aO aH n rt h) m) :=
  (fh_2_I K o (Nat.le_refl 4)).fo _ m (fun j hj => by rw [fh_2_k n 4]; exact (o.ob (by omega)).2)
end FC

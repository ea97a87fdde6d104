/-! the end of a transaction keeps the relation -/
theorem pw_uniq {L : List UE} (hp : L.Pairwise (fun a b => ¬ a.2.1 = b.2.1)) {a b : UE} (ha : a ∈ L) (hb : b ∈ L) (e : a.2.1 = b.2.1) : a = b := by
  induction L with
  | nil => cases ha
  | cons c L ih =>
    have hp2 := List.pairwise_cons.mp hp
    rcases List.mem_cons.mp ha with e1 | ha2
    · rcases List.mem_cons.mp hb with e2 | hb2
      · rw [e1, e2]
      · exact absurd (by rw [← e1]; exact e) (hp2.1 b hb2)
    · rcases List.mem_cons.mp hb with e2 | hb2
      · exact absurd (by rw [← e2]; exact e.symm) (hp2.1 a ha2)
      · exact ih hp2.2 ha2 hb2
section EDQ
variable {x aR aO aH aT : Nat} {rt ta : Nat → Nat} {h h' : th_S} {S S' : th_N} {N N' n u : Nat} {ad : Nat → Nat}
/-- sums over the objects and over the rows -/
theorem RQ.smO (Q : RQ x aR aO aH aT rt ta h S N n u ad) (w v : Nat → Nat) (h1 : ∀ i r, i < n → r < 80 → ¬ S.2 1 r ≤ 0 → ad r = vw_ob aO h i → w i = v r) (h0 : ∀ r, r < 80 → S.2 1 r ≤ 0 → v r = 0) : sm w n = sm v 80 := by
  obtain ⟨KO, X, ⟨B1, B2, B3, B4, B5, B6⟩, -⟩ := Q
  have lv : ∀ {r}, r < 80 → ¬ S.2 1 r ≤ 0 → rl_lv (S.2 1) r := fun a b => ⟨by omega, fun _ => b⟩
  refine sm_eq (fun i => if hi : i < n then Classical.choose (B1 i hi) else 0) (fun r => if hr : r < 80 ∧ ¬ S.2 1 r ≤ 0 then Classical.choose (B2 r hr.1 hr.2) else 0) ?_ ?_ ?_ ?_
  · intro i hi _
    simp only [dif_pos hi]
    obtain ⟨c1, c2, c3⟩ := Classical.choose_spec (B1 i hi)
    exact ⟨c1, h1 i _ hi c1 c2 c3⟩
  · intro r hr hv
    have hl : ¬ S.2 1 r ≤ 0 := fun q => hv (h0 r hr q)
    simp only [dif_pos (show r < 80 ∧ ¬ S.2 1 r ≤ 0 from ⟨hr, hl⟩)]
    obtain ⟨c1, c2⟩ := Classical.choose_spec (B2 r hr hl)
    exact ⟨c1, (h1 _ r c1 hr hl c2.symm).symm⟩
  · intro i j hi hj _ _ e
    simp only [dif_pos hi, dif_pos hj] at e
    obtain ⟨-, -, c3⟩ := Classical.choose_spec (B1 i hi)
    obtain ⟨-, -, d3⟩ := Classical.choose_spec (B1 j hj)
    exact B5 i j hi hj (by rw [← c3, ← d3, e])
  · intro r s hr hs vr vs e
    have lr : ¬ S.2 1 r ≤ 0 := fun q => vr (h0 r hr q)
    have ls : ¬ S.2 1 s ≤ 0 := fun q => vs (h0 s hs q)
    simp only [dif_pos (show r < 80 ∧ ¬ S.2 1 r ≤ 0 from ⟨hr, lr⟩), dif_pos (show s < 80 ∧ ¬ S.2 1 s ≤ 0 from ⟨hs, ls⟩)] at e
    obtain ⟨-, c2⟩ := Classical.choose_spec (B2 r hr lr)
    obtain ⟨-, d2⟩ := Classical.choose_spec (B2 s hs ls)
    exact B3 r s (lv hr lr) (lv hs ls) (by rw [← c2, ← d2, e])
theorem RQ.ctO (Q : RQ x aR aO aH aT rt ta h S N n u ad) (p q : Nat → Prop) [DecidablePred p] [DecidablePred q] (h1 : ∀ i r, i < n → r < 80 → ¬ S.2 1 r ≤ 0 → ad r = vw_ob aO h i → (p i ↔ q r)) (h0 : ∀ r, r < 80 → S.2 1 r ≤ 0 → ¬ q r) : ct p n = ct q 80 := by
  rw [ct_sm, ct_sm]
  refine Q.smO _ _ (fun i r hi hr hl e => ?_) (fun r hr hl => if_neg (h0 r hr hl))
  by_cases z : p i
  · rw [if_pos z, if_pos ((h1 i r hi hr hl e).mp z)]
  · rw [if_neg z, if_neg (fun y => z ((h1 i r hi hr hl e).mpr y))]
/-- two rows of lockables, then the transaction's numbers -/
theorem en_two (K : sh_K x aR aO aH aT rt ta h) {Z : Nat → Prop} (hZ : ∀ a, Z a → h.1 a = some (2, 0)) (D : Dj h Z) (z k : Int32) (ra ob : Nat → Nat) (m n : Nat) (zr : ∀ i, i < m → Z (ra i)) (ir : ∀ i j, i < m → j < m → ra i = ra j → i = j) (zo : ∀ i, i < n → Z (ob i)) (io : ∀ i j, i < n → j < n → ob i = ob j → i = j) (ap : ∀ i j, i < m → j < n → ra i ≠ ob j) {t : Nat} (ht : h.1 t = some (1, 0)) :
    (∀ a, Z a → ((∃ i, i < m ∧ ra i = a) ∨ (∃ i, i < n ∧ ob i = a)) → EN z k h (th_ui (th_ui (en_h z k ob (en_h z k ra h m) n) t 0 0) t 1 0) a) ∧ gs h (th_ui (th_ui (en_h z k ob (en_h z k ra h m) n) t 0 0) t 1 0) ∧ en_c z k ob (en_c z k ra (nI 0) h m) (en_h z k ra h m) n = nI (ct (fun i => h.2.1 (ra i) 2 = k) m + ct (fun i => h.2.1 (ob i) 2 = k) n) := by
  have kr : ∀ i, i < m → h.1 (ra i) = some (2, 0) := fun i hi => hZ _ (zr i hi)
  have g4 := en_gs K z k ra m kr
  have K4 := en_h_K K z k ra m kr
  have a4 := en_all K hZ D z k ra m zr ir
  have D4 := D.gs K g4 hZ
  have hZ4 : ∀ a, Z a → (en_h z k ra h m).1 a = some (2, 0) := fun a za => g4.1 _ _ (hZ a za)
  have e1 := en_cnt K hZ D z k ra 0 m zr ir
  have ht4 : (en_h z k ra h m).1 t = some (1, 0) := g4.1 _ _ ht
  have own4 : ∀ i, i < n → (en_h z k ra h m).2.1 (ob i) 2 = h.2.1 (ob i) 2 := fun i hi => ((a4 (ob i) (zo i hi)).1 (fun j hj => ap j i hj hi)).1
  generalize en_h z k ra h m = h4 at *
  have ko4 : ∀ i, i < n → h4.1 (ob i) = some (2, 0) := fun i hi => hZ4 _ (zo i hi)
  have gn := en_gs K4 z k ob n ko4
  have Kn := en_h_K K4 z k ob n ko4
  have an := en_all K4 hZ4 D4 z k ob n zo io
  have en := en_cnt K4 hZ4 D4 z k ob (0 + ct (fun i => h.2.1 (ra i) 2 = k) m) n zo io
  have kt := gn.1 _ _ ht4
  refine ⟨fun a za hin => ?_, ?_, ?_⟩
  · have ka := hZ a za
    have hEN : EN z k h (en_h z k ob h4 n) a := by
      rcases hin with ⟨i, hi, e⟩ | ⟨i, hi, e⟩
      · exact ((a4 a za).2 ⟨i, hi, e⟩).nx K g4 ka ((an a za).1 (fun j hj q => ap i j hi hj (by rw [e, q])))
      · exact ((a4 a za).1 (fun j hj q => ap j i hj hi (by rw [e, q]))).nx K g4 ka ((an a za).2 ⟨i, hi, e⟩)
    have ka4 := hZ4 a za
    generalize en_h z k ob h4 n = hn at *
    refine hEN.nx K (g4.trans gn) ka ⟨?_, fun j hj => ?_⟩
    · have hne : a ≠ t := th_kne ka ht (by decide)
      rw [th_ui_n _ _ _ _ hne, th_ui_n _ _ _ _ hne]
    · have kq := (Kn.vw (gn.1 _ _ ka4)).2.2.2 j hj
      have hne := th_kne kq.2 kt (by decide)
      exact ⟨(ui_row hne).trans (ui_row hne), rfl⟩
  · generalize en_h z k ob h4 n = hn at *
    exact ((g4.trans gn).trans (gs.ui kt (fun q => by cases q))).trans (gs.ui (h := th_ui hn t 0 0) kt (fun q => by cases q))
  · rw [e1, en, Nat.zero_add]
    congr 2
    exact ct_cg n (fun i hi => by rw [own4 i hi])
/-- all lockables at the end of t's transaction -/
theorem RQ.enA (Q : RQ x aR aO aH aT rt ta h S N n u ad) (z : Int32) {i : Nat} (hi : i < 3) : (∀ r, rl_lv (S.2 1) r → EN z (S.2 11 i) h (sh_eh aO n rt z (ta i) h) (ad r)) ∧ gs h (sh_eh aO n rt z (ta i) h) ∧ sh_ec aO n rt z (ta i) h = nI (ct (fun k => h.2.1 (rt k) 2 = S.2 11 i) 4 + ct (fun k => h.2.1 (vw_ob aO h k) 2 = S.2 11 i) n) := by
  have kA := fun r hr => Q.kA (r := r) hr
  obtain ⟨⟨K, O⟩, X, ⟨B1, B2, B3, B4, B5, B6⟩, U, A, P, E, V⟩ := Q
  have ek : h.2.1 (ta i) 0 = S.2 11 i := by
    obtain ⟨gv, bg, -, -, c, -⟩ := X
    exact (c i hi).1
  have hZ : ∀ a, (∃ r, rl_lv (S.2 1) r ∧ a = ad r) → h.1 a = some (2, 0) := fun a ⟨r, hr, e⟩ => by rw [e]; exact kA r hr
  have D : Dj h (fun a => ∃ r, rl_lv (S.2 1) r ∧ a = ad r) := by
    rintro a b i j ⟨r, hr, rfl⟩ ⟨r', hr', rfl⟩ h1 h2 e
    obtain ⟨e1, e2⟩ := P r r' i j hr hr' h1 h2 e
    exact ⟨by rw [e1], e2⟩
  have zr : ∀ k, k < 4 → ∃ r, rl_lv (S.2 1) r ∧ rt k = ad r := fun k hk => ⟨80 + k, rl_lvR hk, (B4 k hk).symm⟩
  have zo : ∀ k, k < n → ∃ r, rl_lv (S.2 1) r ∧ vw_ob aO h k = ad r := fun k hk => by
    obtain ⟨r, h1, h2, h3⟩ := B1 k hk
    exact ⟨r, ⟨by omega, fun _ => h2⟩, h3.symm⟩
  have ir : ∀ a b, a < 4 → b < 4 → rt a = rt b → a = b := fun a b ha hb e => by
    have := B3 (80 + a) (80 + b) (rl_lvR ha) (rl_lvR hb) (by rw [B4 a ha, B4 b hb, e])
    omega
  have ap : ∀ a b, a < 4 → b < n → rt a ≠ vw_ob aO h b := fun a b ha hb q => by
    obtain ⟨r, h1, h2, h3⟩ := B1 b hb
    have := B3 r (80 + a) ⟨by omega, fun _ => h2⟩ (rl_lvR ha) (by rw [h3, B4 a ha, q])
    omega
  have key := en_two K hZ D z (S.2 11 i) rt (vw_ob aO h) 4 n zr ir zo B5 ap (K.kta hi)
  rw [← ek] at key ⊢
  refine ⟨fun r hr => key.1 (ad r) ⟨r, hr, rfl⟩ ?_, key.2⟩
  by_cases h8 : r < 80
  · obtain ⟨k, hk, e⟩ := B2 r h8 (hr.2 h8)
    exact Or.inr ⟨k, hk, e⟩
  · have hk : r - 80 < 4 := by have := hr.1; omega
    exact Or.inl ⟨r - 80, hk, by rw [← B4 (r - 80) hk, show 80 + (r - 80) = r by omega]⟩
end EDQ

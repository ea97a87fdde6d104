/-! the end of a transaction: the core -/
theorem mo_un_o (S : th_N) (t : Int32) (a k : Nat) {j : Nat} (h3 : j ≠ 3) (h8 : j ≠ 8) : (mo_un S t a k).2 j = S.2 j := by
  unfold mo_un
  rw [sw_n _ _ h8, sw_n _ _ h3]
theorem mo_un_lv (S : th_N) (t : Int32) {r : Nat} (hr : rl_lv (S.2 1) r) : rl_lk ((mo_un S t 80 4).2 3) ((mo_un S t 80 4).2 8) r = if rl_lk (S.2 3) (S.2 8) r = t then 0 else rl_lk (S.2 3) (S.2 8) r := by
  unfold mo_un rl_lk
  by_cases h8 : r < 80
  · rw [if_pos h8, if_pos h8, sw_n _ _ (by decide), sw_e]
    have hl : ¬ S.2 1 r = 0 := fun q => hr.2 h8 (by rw [q]; decide)
    unfold cf
    by_cases e : S.2 3 r = t
    · rw [if_pos e, if_pos ⟨h8, hl, e⟩]
    · rw [if_neg e, if_neg (fun q => e q.2.2)]
  · rw [if_neg h8, if_neg h8, sw_e]
    have := hr.1
    unfold cf
    by_cases e : S.2 8 (r - 80) = t
    · rw [if_pos e, if_pos ⟨by omega, e⟩]
    · rw [if_neg e, if_neg (fun q => e q.2)]
section EEQ
variable {x aR aO aH aT : Nat} {rt ta : Nat → Nat} {h h' : th_S} {S S' : th_N} {N N' n u : Nat} {ad : Nat → Nat}
theorem RQ.endq (Q : RQ x aR aO aH aT rt ta h S N n u ad) {i : Nat} (hi : i < 3) (ht : ¬ S.2 11 i = 0) {z b : Int32} (zb : (z = 0 ∧ b = 1) ∨ (z = 1 ∧ b = 0)) {p : Nat} {U0 : th_N} (hf : mo_fi S (S.2 11 i) b u p U0)
    (hEN : ∀ r, rl_lv (S.2 1) r → EN z (S.2 11 i) h h' (ad r)) (g : gs h h') (K' : sh_K x aR aO aH aT rt ta h') (O' : sh_O x aO n h') (ex : ∀ j, h'.2.1 x j = h.2.1 x j) (et : ∀ j, j < 3 → j ≠ i → h'.2.1 (ta j) 0 = h.2.1 (ta j) 0) (eti : h'.2.1 (ta i) 0 = 0) (eo : h'.2.2 aO = h.2.2 aO) :
    RQ x aR aO aH aT rt ta h' (mo_un (sa (sa (su U0 20 (nI p)) 11 i 0) 12 i 0) (S.2 11 i) 80 4) N n p ad := by
  have kA := fun r hr => Q.kA (r := r) hr
  have cl := fun r j hr hj => Q.cl (r := r) (j := j) hr hj
  obtain ⟨⟨K, O⟩, X, B, U, A, P, E, V⟩ := Q
  obtain ⟨f1, f2, f3, f4, f5, f6⟩ := hf
  generalize hL : mo_ul S u = L at *
  generalize ht9 : S.2 11 i = t at *
  have hcl : ∀ e, e ∈ L → ∃ d, d < 324 ∧ e.2.1 = nI d := fun e he => by
    obtain ⟨r, j, h1, h2, h3⟩ := E.1 e he
    exact ⟨_, (cl r j h1 h2).2.1, h3⟩
  have hFp : (L.filter (fun e => e.1 == t)).Pairwise (fun a b => ¬ a.2.1 = b.2.1) := E.2.filter _
  have bk := fun c hc => bk_cell (L.filter (fun e => e.1 == t)) S c hc (fun e he => hcl e (List.mem_filter.mp he).1) hFp
  -- rows of the new state
  have tr : ∀ j, j < 16 → j ≠ 3 → j ≠ 8 → j ≠ 11 → j ≠ 12 → (mo_un (sa (sa (su U0 20 (nI p)) 11 i 0) 12 i 0) t 80 4).2 j = (mo_bk S b (L.filter (fun e => e.1 == t))).2 j := fun j h16 h3 h8 h11 h12 => by
    rw [mo_un_o _ _ _ _ h3 h8, sa_n _ _ _ h12, sa_n _ _ _ h11]
    exact f5 j h16
  have bn : ∀ j, j ≠ 4 → j ≠ 5 → j ≠ 7 → (mo_bk S b (L.filter (fun e => e.1 == t))).2 j = S.2 j := fun j h4 h5 h7 => by
    unfold mo_bk
    split
    · rfl
    · exact mo_bk_n S _ h4 h5 h7
  have t1 := (tr 1 (by decide) (by decide) (by decide) (by decide) (by decide)).trans (bn 1 (by decide) (by decide) (by decide))
  have t2 := (tr 2 (by decide) (by decide) (by decide) (by decide) (by decide)).trans (bn 2 (by decide) (by decide) (by decide))
  have v1 : (sa (sa (su U0 20 (nI p)) 11 i 0) 12 i 0).2 1 = S.2 1 := by
    rw [sa_n _ _ _ (by decide), sa_n _ _ _ (by decide)]
    exact (f5 1 (by decide)).trans (bn 1 (by decide) (by decide) (by decide))
  have v3 : (sa (sa (su U0 20 (nI p)) 11 i 0) 12 i 0).2 3 = S.2 3 := by
    rw [sa_n _ _ _ (by decide), sa_n _ _ _ (by decide)]
    exact (f5 3 (by decide)).trans (bn 3 (by decide) (by decide) (by decide))
  have v8 : (sa (sa (su U0 20 (nI p)) 11 i 0) 12 i 0).2 8 = S.2 8 := by
    rw [sa_n _ _ _ (by decide), sa_n _ _ _ (by decide)]
    exact (f5 8 (by decide)).trans (bn 8 (by decide) (by decide) (by decide))
  have t11 : (mo_un (sa (sa (su U0 20 (nI p)) 11 i 0) 12 i 0) t 80 4).2 11 = va_up (S.2 11) i 0 := by
    rw [mo_un_o _ _ _ _ (by decide) (by decide), sa_n _ _ _ (by decide), sa_e]
    have : (su U0 20 (nI p)).2 11 = S.2 11 := (f5 11 (by decide)).trans (bn 11 (by decide) (by decide) (by decide))
    rw [this]
  have ts : ∀ a, a ≠ 20 → (mo_un (sa (sa (su U0 20 (nI p)) 11 i 0) 12 i 0) t 80 4).1 a = S.1 a := fun a ha => by
    show va_up U0.1 20 (nI p) a = S.1 a
    rw [va_up_ne _ _ ha, f1]
  have tu : mo_ul (mo_un (sa (sa (su U0 20 (nI p)) 11 i 0) 12 i 0) t 80 4) p = L.filter (fun e => !(e.1 == t)) := by
    rw [← f3]
    exact mo_ul_row (fun j a c => by rw [mo_un_o _ _ _ _ (by omega) (by omega), sa_n _ _ _ (by omega), sa_n _ _ _ (by omega)]; rfl)
  have tlk : ∀ r, rl_lv (S.2 1) r → rl_lk ((mo_un (sa (sa (su U0 20 (nI p)) 11 i 0) 12 i 0) t 80 4).2 3) ((mo_un (sa (sa (su U0 20 (nI p)) 11 i 0) 12 i 0) t 80 4).2 8) r = if rl_lk (S.2 3) (S.2 8) r = t then 0 else rl_lk (S.2 3) (S.2 8) r := fun r hr => by
    rw [mo_un_lv _ _ (by rw [v1]; exact hr), v3, v8]
  have t4 := tr 4 (by decide) (by decide) (by decide) (by decide) (by decide)
  have t5 := tr 5 (by decide) (by decide) (by decide) (by decide) (by decide)
  have t7 := tr 7 (by decide) (by decide) (by decide) (by decide) (by decide)
  generalize hT : mo_un (sa (sa (su U0 20 (nI p)) 11 i 0) 12 i 0) t 80 4 = T at *
  unfold RQ
  rw [tu, t1, t2, t11, ts 10 (by decide)]
  refine ⟨⟨K', O'⟩, ?_, ?_, U, fun r hr => ?_, P.mv K g kA (fun r hr => ⟨hr, rfl⟩), E.mv K g kA (fun r hr _ => ⟨hr, rfl⟩) (fun e he => (List.mem_filter.mp he).1) (E.2.filter _), fun r hr => ?_⟩
  · obtain ⟨gv, bg, a, ⟨b1, b2, b3, b4⟩, c, d, e5, e6⟩ := X
    refine ⟨gv, bg, ⟨(ts 9 (by decide)).trans a.1, a.2.1, (ts 13 (by decide)).trans a.2.2.1, a.2.2.2⟩, ⟨by rw [ex, ts 9 (by decide)]; exact b1, by rw [ex, ts 10 (by decide)]; exact b2, by rw [ex, ts 13 (by decide)]; exact b3, by rw [ex, ts 15 (by decide)]; exact b4⟩, fun j hj => ?_, fun j k hj hk e hne => ?_, by rw [t1]; exact e5, by rw [t2]; exact e6⟩
    · rw [t11]
      by_cases e : j = i
      · rw [e, va_up_self, eti]
        exact ⟨rfl, 0, Nat.zero_le _, rfl⟩
      · rw [va_up_ne _ _ e, et j hj e]
        exact c j hj
    · rw [t11] at e hne
      by_cases ej : j = i
      · rw [ej, va_up_self] at hne; exact absurd rfl hne
      · rw [va_up_ne _ _ ej] at e hne
        by_cases ek : k = i
        · rw [ek, va_up_self] at e; exact absurd e hne
        · rw [va_up_ne _ _ ek] at e
          exact d j k hj hk e hne
  · unfold rl_B
    unfold vw_ob
    rw [eo]
    exact B
  · obtain ⟨en1, en2⟩ := hEN r hr
    have hA := A r hr
    refine hA.mv K g rfl rfl rfl (by rw [en1, hA.2.2.1, tlk r hr]) (fun j hj C => ?_)
    have en3 := en2 j hj
    rw [hA.2.2.1] at en3
    rw [tlk r hr]
    generalize hq : vw_pp h (ad r) j = q at *
    have hc := cl r j hr hj
    generalize hcc : rl_cl r j = c at *
    have bkc := bk c hc.2.1
    obtain ⟨C1, C2⟩ := C
    by_cases elk : rl_lk (S.2 3) (S.2 8) r = t
    · rw [if_pos elk] at en3
      rw [if_pos elk]
      have e1 : h'.2.1 q = (pe z (h.2.1 q) (h.2.2 q)).1 := congrArg Prod.fst en3
      have e2 : h'.2.2 q = (pe z (h.2.1 q) (h.2.2 q)).2 := congrArg Prod.snd en3
      refine ⟨?_, Or.inl ⟨?_, ?_, fun e he q9 => ?_⟩⟩
      · rw [e1, e2, t4, t5, t7]
        rcases zb with ⟨rfl, rfl⟩ | ⟨rfl, rfl⟩
        · rw [show mo_bk S 1 (L.filter (fun e => e.1 == t)) = (L.filter (fun e => e.1 == t)).foldl mo_back S from if_neg (by decide)]
          rcases C2 with ⟨s0, s6, sn⟩ | ⟨s1, e0, m1, m2, m3, m4⟩
          · have b1 := bkc.1 (fun e he => sn e (List.mem_filter.mp he).1)
            rw [b1.1, b1.2]
            unfold pe
            rw [if_neg (fun w => w.2 s0)]
            exact C1
          · have b2 := bkc.2 e0 (List.mem_filter.mpr ⟨m1, by rw [m3, elk]; simp⟩) m2
            rw [b2.1, b2.2]
            unfold pe
            rw [if_pos ⟨rfl, by rw [s1]; decide⟩]
            have : (if c < 320 then e0.2.2.1 else 1) = e0.2.2.1 := by
              by_cases h3 : c < 320
              · rw [if_pos h3]
              · rw [if_neg h3, m4.2.2.1 (by have := hc.2.2; omega)]
            rw [this]
            exact m4
        · rw [show mo_bk S 0 (L.filter (fun e => e.1 == t)) = S from if_pos rfl]
          unfold pe
          rw [if_neg (fun w => absurd w.1 (by decide))]
          exact C1
      · rw [e1]
        unfold pe
        split <;> rfl
      · rw [e2]
        unfold pe
        split <;> rfl
      · obtain ⟨he1, he2⟩ := List.mem_filter.mp he
        rcases C2 with ⟨-, -, sn⟩ | ⟨-, e0, m1, m2, m3, -⟩
        · exact sn e he1 q9
        · have := pw_uniq E.2 he1 m1 (by rw [q9, m2])
          rw [this, m3, elk] at he2
          simp at he2
    · rw [if_neg elk] at en3
      rw [if_neg elk]
      have e1 : h'.2.1 q = h.2.1 q := congrArg Prod.fst en3
      have e2 : h'.2.2 q = h.2.2 q := congrArg Prod.snd en3
      have b1 : rl_mr (T.2 4) c = rl_mr (S.2 4) c ∧ rl_mv (T.2 5) (T.2 7) c = rl_mv (S.2 5) (S.2 7) c := by
        rw [t4, t5, t7]
        unfold mo_bk
        split
        · exact ⟨rfl, rfl⟩
        · refine bkc.1 (fun e he q9 => ?_)
          obtain ⟨he1, he2⟩ := List.mem_filter.mp he
          rcases C2 with ⟨-, -, sn⟩ | ⟨-, e0, m1, m2, m3, -⟩
          · exact sn e he1 q9
          · have := pw_uniq E.2 he1 m1 (by rw [q9, m2])
            rw [this, m3] at he2
            exact elk (by simpa using he2)
      rw [b1.1, b1.2]
      unfold rl_C
      rw [e1, e2]
      refine ⟨C1, C2.elim (fun ⟨a1, a2, a3⟩ => Or.inl ⟨a1, a2, fun e he => a3 e (List.mem_filter.mp he).1⟩) (fun ⟨a1, e0, m1, m2, m3, m4⟩ => Or.inr ⟨a1, e0, List.mem_filter.mpr ⟨m1, by rw [m3]; simpa using elk⟩, m2, m3, m4⟩)⟩
  · rw [tlk r hr]
    by_cases elk : rl_lk (S.2 3) (S.2 8) r = t
    · rw [if_pos elk]; exact Or.inl rfl
    · rw [if_neg elk]
      rcases V r hr with z0 | ⟨k, hk, ek⟩
      · exact Or.inl z0
      · refine Or.inr ⟨k, hk, ?_⟩
        rw [va_up_ne _ _ (fun q => elk (by rw [← ek, q, ht9]))]
        exact ek
end EEQ

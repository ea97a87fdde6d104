/-! calls agree, one after the other -/
def cd_begin (E : String) (k : Int32) : Prop := (E = "java/lang/IllegalStateException" ∧ k = 1) ∨ (E = "java/lang/UnsupportedOperationException" ∧ k = 2)
def cd_make (E : String) (k : Int32) : Prop := (E = "java/util/NoSuchElementException" ∧ k = 1) ∨ (E = "java/lang/IllegalArgumentException" ∧ k = 2) ∨ (E = "java/lang/IllegalStateException" ∧ k = 3) ∨ (E = "java/lang/UnsupportedOperationException" ∧ k = 4)
def cd_setInt (E : String) (k : Int32) : Prop := (E = "java/util/NoSuchElementException" ∧ k = 1) ∨ (E = "java/lang/IndexOutOfBoundsException" ∧ k = 2) ∨ (E = "java/lang/IllegalStateException" ∧ k = 3) ∨ (E = "java/lang/UnsupportedOperationException" ∧ k = 4)
def cd_setRef (E : String) (k : Int32) : Prop := (E = "java/util/NoSuchElementException" ∧ k = 1) ∨ (E = "java/lang/IndexOutOfBoundsException" ∧ k = 2) ∨ (E = "java/lang/IllegalStateException" ∧ k = 3) ∨ (E = "java/lang/IllegalArgumentException" ∧ k = 4) ∨ (E = "java/lang/UnsupportedOperationException" ∧ k = 5)
def cd_get (E : String) (k : Int32) : Prop := (E = "java/util/NoSuchElementException" ∧ k = 1) ∨ (E = "java/lang/IndexOutOfBoundsException" ∧ k = 2) ∨ (E = "java/lang/IllegalStateException" ∧ k = 3) ∨ (E = "java/lang/ArithmeticException" ∧ k = 4)
def cd_getRoot (E : String) (k : Int32) : Prop := (E = "java/util/NoSuchElementException" ∧ k = 1) ∨ (E = "java/lang/IndexOutOfBoundsException" ∧ k = 2) ∨ (E = "java/lang/IllegalStateException" ∧ k = 3)
def cd_commit (E : String) (k : Int32) : Prop := (E = "java/util/NoSuchElementException" ∧ k = 1) ∨ (E = "java/lang/UnsupportedOperationException" ∧ k = 2)
def cd_nse (E : String) (k : Int32) : Prop := E = "java/util/NoSuchElementException" ∧ k = 1
def cd_count (E : String) (k : Int32) : Prop := E = "java/lang/IllegalArgumentException" ∧ k = 1
section G1
variable (x aR aO aH aT : Nat) (rt ta : Nat → Nat) (h : th_S) (S : th_N) (H : th_N → th_S) (n u : Nat)
def p3_begin (v : Option Value) (h' : th_S) : Prop := ∃ i, i < 3 ∧ h.2.1 (ta i) 0 = 0 ∧ (∀ j, j < i → ¬ h.2.1 (ta j) 0 = 0) ∧ sh_wl x ta h + 1 ≤ 150 ∧ h' = th_ui (th_ui (th_ui h (ta i) 1 (h.2.1 (ta i) 1 + 1)) x 9 (h.2.1 x 9 + 1)) (ta i) 0 (h.2.1 x 9 + 1) ∧ v = some (.int (h.2.1 x 9 + 1))
def e3_begin (E : String) (h' : th_S) : Prop := h = h' ∧ ((E = "java/lang/IllegalStateException" ∧ ∀ i, i < 3 → ¬ h.2.1 (ta i) 0 = 0) ∨ (E = "java/lang/UnsupportedOperationException" ∧ (∃ i, i < 3 ∧ h.2.1 (ta i) 0 = 0) ∧ ¬ sh_wl x ta h + 1 ≤ 150))
def p4_begin (v : Option Value) (h' : th_S) : Prop := (nI (mo_ac S 3) = 3 ∧ h' = H (su (su S 0 0) 0 1) ∧ v = some (.int 0)) ∨ (¬ nI (mo_ac S 3) = 3 ∧ ((¬ mo_lg S + 1 ≤ 150 ∧ h' = H (su (su S 0 0) 0 2) ∧ v = some (.int 0)) ∨ (mo_lg S + 1 ≤ 150 ∧ ∃ k, k < 3 ∧ S.2 11 k ≤ 0 ∧ (∀ j, j < k → ¬ S.2 11 j ≤ 0) ∧ h' = H (mo_bg S k) ∧ v = some (.int (S.1 13 + 1)))))
def p3_make (k f : Int32) (v : Option Value) (h' : th_S) : Prop := ∃ i nf q pa pp, sh_tx ta h k i ∧ nf ≤ 4 ∧ f = nI nf ∧ ¬ 80 < h.2.1 x 7 + 1 + f ∧ n < 80 ∧ sh_wl x ta h + 2 ≤ 150 ∧ sh_mF x h (ta i) q nf pa pp ∧ h' = sh_mh x aO n h (ta i) k q nf pa pp ∧ v = some (.int (h.2.1 x 6 + 1))
def e3_make (k f : Int32) (E : String) (h' : th_S) : Prop := h = h' ∧ ((E = "java/util/NoSuchElementException" ∧ sh_nt ta h k) ∨ ∃ i, sh_tx ta h k i ∧ ((E = "java/lang/IllegalArgumentException" ∧ (f < 0 ∨ 4 < f)) ∨ (¬ f < 0 ∧ f ≤ 4 ∧ ((E = "java/lang/IllegalStateException" ∧ (80 < h.2.1 x 7 + 1 + f ∨ 80 ≤ n)) ∨ (¬ 80 < h.2.1 x 7 + 1 + f ∧ n < 80 ∧ E = "java/lang/UnsupportedOperationException" ∧ ¬ sh_wl x ta h + 2 ≤ 150)))))
def p4_make (t f : Int32) (v : Option Value) (h' : th_S) : Prop := (mo_nt S t ∧ h' = H (su (su S 0 0) 0 1) ∧ v = some (.int 0)) ∨ ∃ k, mo_tx S t k ∧ (((f < 0 ∨ ¬ f ≤ 4) ∧ h' = H (su (su S 0 0) 0 2) ∧ v = some (.int 0)) ∨ (¬ f < 0 ∧ f ≤ 4 ∧ ((¬ S.1 10 + 1 + f ≤ 80 ∧ h' = H (su (su S 0 0) 0 3) ∧ v = some (.int 0)) ∨ (S.1 10 + 1 + f ≤ 80 ∧ ((¬ mo_lg S + 2 ≤ 150 ∧ h' = H (su (su S 0 0) 0 4) ∧ v = some (.int 0)) ∨ (mo_lg S + 2 ≤ 150 ∧ ∃ r, r < 80 ∧ S.2 1 r ≤ 0 ∧ (∀ j, j < r → ¬ S.2 1 j ≤ 0) ∧ h' = H (mo_mk S t f k r) ∧ v = some (.int (S.1 9 + 1))))))))
def p3_setInt (k o f val : Int32) (v : Option Value) (h' : th_S) : Prop := ∃ i a q, sh_tx ta h k i ∧ sh_ob aO n h o a ∧ sh_fd h a f q ∧ (h.2.1 a 2 = 0 ∨ h.2.1 a 2 = k) ∧ sh_wl x ta h + 3 ≤ 150 ∧ h' = pl_num (th_ui (th_ui h (ta i) 1 (h.2.1 (ta i) 1 + 3)) a 2 k) q val ∧ v = some (.int 1)
def e3_setInt (k o f : Int32) (E : String) (h' : th_S) : Prop := h = h' ∧ sh_px ta aO n h k o f E (fun i a q => sh_lx h a k E (E = "java/lang/UnsupportedOperationException" ∧ ¬ sh_wl x ta h + 3 ≤ 150))
def p4_setInt (t b f w : Int32) (v : Option Value) (h' : th_S) : Prop := ∃ e c, mo_ce S t b f e c ∧ ((¬ e = 0 ∧ v = some (.int 0) ∧ h' = H (su (su S 0 0) 0 e)) ∨ (e = 0 ∧ ((¬ mo_lg S + 3 ≤ 150 ∧ v = some (.int 0) ∧ h' = H (su (su S 0 0) 0 4)) ∨ (mo_lg S + 3 ≤ 150 ∧ v = some (.int 1) ∧ ∃ k T, mo_tx S t k ∧ mo_st (su S 0 0) u t k c 0 w T ∧ h' = H T))))
def p3_setReference (k o f val : Int32) (v : Option Value) (h' : th_S) : Prop := ∃ i a q r, sh_tx ta h k i ∧ sh_ob aO n h o a ∧ sh_fd h a f q ∧ (h.2.1 a 2 = 0 ∨ h.2.1 a 2 = k) ∧ sh_fo aO n h val r ∧ (val = 0 ∨ r ≠ none) ∧ sh_wl x ta h + 3 ≤ 150 ∧ h' = pl_ref (th_ui (th_ui h (ta i) 1 (h.2.1 (ta i) 1 + 3)) a 2 (h.2.1 (ta i) 0)) q r ∧ v = some (.int 1)
def e3_setReference (k o f val : Int32) (E : String) (h' : th_S) : Prop := h = h' ∧ sh_px ta aO n h k o f E (fun i a q => sh_lx h a k E ((E = "java/lang/IllegalArgumentException" ∧ ¬ val = 0 ∧ sh_no aO n h val) ∨ ∃ r, sh_fo aO n h val r ∧ (val = 0 ∨ r ≠ none) ∧ E = "java/lang/UnsupportedOperationException" ∧ ¬ sh_wl x ta h + 3 ≤ 150))
def p4_setReference (t b f g : Int32) (v : Option Value) (h' : th_S) : Prop := ∃ e c, mo_ce S t b f e c ∧ ((¬ e = 0 ∧ v = some (.int 0) ∧ h' = H (su (su S 0 0) 0 e)) ∨ (e = 0 ∧ ∃ k T, mo_tx S t k ∧ mo_rf (su S 0 0) u t k c g v T ∧ h' = H T))
def p3_setRoot (k o val : Int32) (v : Option Value) (h' : th_S) : Prop := ∃ i j q r, sh_tx ta h k i ∧ j < 4 ∧ o = nI j ∧ sh_rp h (rt j) q ∧ (h.2.1 (rt j) 2 = 0 ∨ h.2.1 (rt j) 2 = k) ∧ sh_fo aO n h val r ∧ (val = 0 ∨ r ≠ none) ∧ sh_wl x ta h + 3 ≤ 150 ∧ h' = pl_ref (th_ui (th_ui h (ta i) 1 (h.2.1 (ta i) 1 + 3)) (rt j) 2 (h.2.1 (ta i) 0)) q r ∧ v = some (.int 1)
def e3_setRoot (k o val : Int32) (E : String) (h' : th_S) : Prop := h = h' ∧ ((E = "java/util/NoSuchElementException" ∧ sh_nt ta h k) ∨ ∃ i, sh_tx ta h k i ∧ ((E = "java/lang/IndexOutOfBoundsException" ∧ (o < 0 ∨ 4 ≤ o)) ∨ ∃ j, j < 4 ∧ o = nI j ∧ sh_lx h (rt j) k E ((E = "java/lang/IllegalArgumentException" ∧ ¬ val = 0 ∧ sh_no aO n h val) ∨ ∃ r, sh_fo aO n h val r ∧ (val = 0 ∨ r ≠ none) ∧ E = "java/lang/UnsupportedOperationException" ∧ ¬ sh_wl x ta h + 3 ≤ 150)))
def p4_setRoot (t b g : Int32) (v : Option Value) (h' : th_S) : Prop := ∃ e c, mo_rc S t b e c ∧ ((¬ e = 0 ∧ v = some (.int 0) ∧ h' = H (su (su S 0 0) 0 e)) ∨ (e = 0 ∧ ∃ k T, mo_tx S t k ∧ mo_rf (su S 0 0) u t k c g v T ∧ h' = H T))
def p3_getInt (k o f : Int32) (v : Option Value) (h' : th_S) : Prop := ∃ i a q, sh_tx ta h k i ∧ sh_ob aO n h o a ∧ sh_fd h a f q ∧ (h.2.1 a 2 = 0 ∨ h.2.1 a 2 = k) ∧ h' = th_ui h a 2 k ∧ h.2.1 q 0 = 0 ∧ v = some (.int (h.2.1 q 1))
def e3_getInt (k o f : Int32) (E : String) (h' : th_S) : Prop := (h = h' ∧ sh_px ta aO n h k o f E (fun i a q => sh_lx h a k E False)) ∨ (E = "java/lang/ArithmeticException" ∧ ∃ i a q, sh_tx ta h k i ∧ sh_ob aO n h o a ∧ sh_fd h a f q ∧ (h.2.1 a 2 = 0 ∨ h.2.1 a 2 = k) ∧ h' = th_ui h a 2 k ∧ ¬ h.2.1 q 0 = 0)
def p4_getInt (t b f : Int32) (v : Option Value) (h' : th_S) : Prop := ∃ e c, mo_ce S t b f e c ∧ ((¬ e = 0 ∧ v = some (.int 0) ∧ h' = H (su (su S 0 0) 0 e)) ∨ (e = 0 ∧ ((S.2 4 c = 0 ∧ v = some (.int (S.2 5 c)) ∧ h' = H (mo_lc (su S 0 0) c t)) ∨ (¬ S.2 4 c = 0 ∧ v = some (.int 0) ∧ h' = H (su (mo_lc (su S 0 0) c t) 0 4)))))
def p3_getReference (k o f : Int32) (v : Option Value) (h' : th_S) : Prop := ∃ i a q, sh_tx ta h k i ∧ sh_ob aO n h o a ∧ sh_fd h a f q ∧ (h.2.1 a 2 = 0 ∨ h.2.1 a 2 = k) ∧ h' = th_ui h a 2 k ∧ ¬ h.2.1 q 0 = 0 ∧ v = some (.int (sh_hd h (h.2.2 q 2)))
def e3_getReference (k o f : Int32) (E : String) (h' : th_S) : Prop := (h = h' ∧ sh_px ta aO n h k o f E (fun i a q => sh_lx h a k E False)) ∨ (E = "java/lang/ArithmeticException" ∧ ∃ i a q, sh_tx ta h k i ∧ sh_ob aO n h o a ∧ sh_fd h a f q ∧ (h.2.1 a 2 = 0 ∨ h.2.1 a 2 = k) ∧ h' = th_ui h a 2 k ∧ h.2.1 q 0 = 0)
def p4_getReference (t b f : Int32) (v : Option Value) (h' : th_S) : Prop := ∃ e c, mo_ce S t b f e c ∧ ((¬ e = 0 ∧ v = some (.int 0) ∧ h' = H (su (su S 0 0) 0 e)) ∨ (e = 0 ∧ ((S.2 4 c = 1 ∧ v = some (.int (S.2 5 c)) ∧ h' = H (mo_lc (su S 0 0) c t)) ∨ (¬ S.2 4 c = 1 ∧ v = some (.int 0) ∧ h' = H (su (mo_lc (su S 0 0) c t) 0 4)))))
def p3_getRoot (k o : Int32) (v : Option Value) (h' : th_S) : Prop := ∃ i j q, sh_tx ta h k i ∧ j < 4 ∧ o = nI j ∧ sh_rp h (rt j) q ∧ (h.2.1 (rt j) 2 = 0 ∨ h.2.1 (rt j) 2 = k) ∧ h' = th_ui h (rt j) 2 k ∧ v = some (.int (sh_hd h (h.2.2 q 2)))
def e3_getRoot (k o : Int32) (E : String) (h' : th_S) : Prop := h = h' ∧ ((E = "java/util/NoSuchElementException" ∧ sh_nt ta h k) ∨ ∃ i, sh_tx ta h k i ∧ ((E = "java/lang/IndexOutOfBoundsException" ∧ (o < 0 ∨ 4 ≤ o)) ∨ ∃ j, j < 4 ∧ o = nI j ∧ sh_lx h (rt j) k E False))
def p4_getRoot (t b : Int32) (v : Option Value) (h' : th_S) : Prop := ∃ e c, mo_rc S t b e c ∧ ((¬ e = 0 ∧ v = some (.int 0) ∧ h' = H (su (su S 0 0) 0 e)) ∨ (e = 0 ∧ v = some (.int (S.2 7 (c - 320))) ∧ h' = H (mo_lc (su S 0 0) c t)))
def p3_commit (k : Int32) (v : Option Value) (h' : th_S) : Prop := ∃ i, sh_tx ta h k i ∧ sh_wl x ta h + 1 ≤ 150 ∧ v = some (.int (sh_ec aO n rt 1 (ta i) (th_ui (th_ui h (ta i) 1 (h.2.1 (ta i) 1 + 1)) x 8 (h.2.1 x 8 + (h.2.1 (ta i) 1 + 1))))) ∧ h' = sh_eh aO n rt 1 (ta i) (th_ui (th_ui h (ta i) 1 (h.2.1 (ta i) 1 + 1)) x 8 (h.2.1 x 8 + (h.2.1 (ta i) 1 + 1)))
def e3_commit (k : Int32) (E : String) (h' : th_S) : Prop := h = h' ∧ ((E = "java/util/NoSuchElementException" ∧ sh_nt ta h k) ∨ (E = "java/lang/UnsupportedOperationException" ∧ (∃ i, sh_tx ta h k i) ∧ ¬ sh_wl x ta h + 1 ≤ 150))
def p4_commit (t : Int32) (v : Option Value) (h' : th_S) : Prop := (mo_nt S t ∧ v = some (.int 0) ∧ h' = H (su (su S 0 0) 0 1)) ∨ ∃ k, mo_tx S t k ∧ ((¬ mo_lg S + 1 ≤ 150 ∧ v = some (.int 0) ∧ h' = H (su (su S 0 0) 0 2)) ∨ (mo_lg S + 1 ≤ 150 ∧ ∃ p r T, mo_en (su (su S 0 0) 14 (S.1 14 + (S.2 12 k + 1))) u k 0 p r T ∧ v = some (.int r) ∧ h' = H T))
def p3_abort (k : Int32) (v : Option Value) (h' : th_S) : Prop := ∃ i, sh_tx ta h k i ∧ v = some (.int (sh_ec aO n rt 0 (ta i) h)) ∧ h' = sh_eh aO n rt 0 (ta i) h
def e3_abort (k : Int32) (E : String) (h' : th_S) : Prop := E = "java/util/NoSuchElementException" ∧ h = h' ∧ sh_nt ta h k
def p4_abort (t : Int32) (v : Option Value) (h' : th_S) : Prop := (mo_nt S t ∧ v = some (.int 0) ∧ h' = H (su (su S 0 0) 0 1)) ∨ ∃ k, mo_tx S t k ∧ ∃ p r T, mo_en (su S 0 0) u k 1 p r T ∧ v = some (.int r) ∧ h' = H T
def p4_crash (v : Option Value) (h' : th_S) : Prop := ∃ p T, mo_cr (su S 0 0) u 3 p T ∧ v = some (.int (nI (mo_ac S 3))) ∧ h' = H (su T 14 0)
def p4_collect (k : Int32) (v : Option Value) (h' : th_S) : Prop := ∃ g, mo_hd S u g ∧ ((¬ k < 0 ∧ ¬ nI (mo_hc g 80) ≤ k ∧ ∃ p T, mo_cr (su (sw (su S 0 0) 6 g) 0 0) u 3 p T ∧ v = some (.int (-1 - nI (mo_ac S 3))) ∧ h' = H (su T 14 0)) ∨ ((k < 0 ∨ nI (mo_hc g 80) ≤ k) ∧ v = some (.int (S.1 10 - nI (sm (mo_wt S g) 80))) ∧ h' = H (su (su (mo_cl S g 80) 14 0) 15 (S.1 15 + 1))))
def p3_fields (k : Int32) (v : Option Value) (h' : th_S) : Prop := h = h' ∧ ∃ a pa np, sh_ob aO n h k a ∧ h.2.2 a 1 = some pa ∧ h.1 pa = some (6, np) ∧ v = some (.int (nI np))
def e3_fields (k : Int32) (E : String) (h' : th_S) : Prop := E = "java/util/NoSuchElementException" ∧ h = h' ∧ sh_no aO n h k
def p4_fields (b : Int32) (v : Option Value) (h' : th_S) : Prop := (mo_nr S b ∧ v = some (.int 0) ∧ h' = H (su (su S 0 0) 0 1)) ∨ ∃ r, mo_rw S b r ∧ v = some (.int (S.2 2 r)) ∧ h' = H (su S 0 0)
def p3_lockedBy (k o : Int32) (v : Option Value) (h' : th_S) : Prop := h = h' ∧ ((¬ k = 0 ∧ ∃ a, sh_ob aO n h k a ∧ v = some (.int (h.2.1 a 2))) ∨ (k = 0 ∧ ∃ j, j < 4 ∧ o = nI j ∧ v = some (.int (h.2.1 (rt j) 2))))
def e3_lockedBy (k o : Int32) (E : String) (h' : th_S) : Prop := E = "java/util/NoSuchElementException" ∧ h = h' ∧ ((¬ k = 0 ∧ sh_no aO n h k) ∨ (k = 0 ∧ (o < 0 ∨ 4 ≤ o)))
def p4_lockedBy (b a : Int32) (v : Option Value) (h' : th_S) : Prop := (b = 0 ∧ (((a < 0 ∨ ¬ a ≤ 3) ∧ v = some (.int 0) ∧ h' = H (su (su S 0 0) 0 1)) ∨ ∃ j, j < 4 ∧ a = nI j ∧ v = some (.int (S.2 8 j)) ∧ h' = H (su S 0 0))) ∨ (¬ b = 0 ∧ ((mo_nr S b ∧ v = some (.int 0) ∧ h' = H (su (su S 0 0) 0 1)) ∨ ∃ r, mo_rw S b r ∧ v = some (.int (S.2 3 r)) ∧ h' = H (su S 0 0)))
def e3_count (k : Int32) (E : String) (h' : th_S) : Prop := E = "java/lang/IllegalArgumentException" ∧ h = h' ∧ (k.toInt < 0 ∨ 7 < k.toInt)
def p4_count (k : Int32) (v : Option Value) (h' : th_S) : Prop := ((k < 0 ∨ ¬ k ≤ 7) ∧ v = some (.int 0) ∧ h' = H (su (su S 0 0) 0 1)) ∨ (h' = H (su S 0 0) ∧ ((k = 0 ∧ v = some (.int (nI (ct (fun r => ¬ S.2 1 r ≤ 0) 80)))) ∨ (k = 1 ∧ v = some (.int (S.1 9))) ∨ (k = 2 ∧ v = some (.int (S.1 10))) ∨ (k = 3 ∧ v = some (.int (mo_lg S))) ∨ (k = 4 ∧ v = some (.int (nI (mo_ac S 3)))) ∨ (k = 5 ∧ v = some (.int (S.1 13))) ∨ (k = 6 ∧ v = some (.int (S.1 15))))) ∨ (k = 7 ∧ ∃ g, mo_hd S u g ∧ v = some (.int (nI (mo_hc g 80))) ∧ h' = H (sw (su S 0 0) 6 g))
end G1
/-- a call that agrees -/
def GA (x aR aO aH aT : Nat) (rt ta : Nat → Nat) (H : th_N → th_S) (N : Nat) (h h1 : th_S) (k : Int32) (b : Option Value) (v : Option Value) (h' : th_S) : Prop :=
  fr7 h h1 ∧ ∃ T n u ad, h' = H T ∧ T.1 0 = k ∧ (k = 0 → v = b) ∧ RR x aR aO aH aT rt ta h1 T N n u ad
section G2
variable {x aR aO aH aT : Nat} {rt ta : Nat → Nat} {h h1 h' : th_S} {S : th_N} {H : th_N → th_S} {N n u : Nat} {ad : Nat → Nat} {c : Int32} {b v : Option Value}
theorem su00 (S : th_N) (a k : Int32) : su (su S 0 a) 0 k = su S 0 k := by
  refine Prod.ext (funext fun j => ?_) rfl
  by_cases e : j = 0
  · subst e; simp [su, va_up]
  · simp [su, va_up, e]
/-- a refusal -/
theorem RR.rfs (R : RR x aR aO aH aT rt ta h S N n u ad) (k : Int32) (hk : ¬ k = 0) (e : h' = H (su (su S 0 0) 0 k)) (b v : Option Value) : GA x aR aO aH aT rt ta H (N + 1) h h k b v h' :=
  ⟨fr7.refl h, su S 0 k, n, u, ad, by rw [e, su00], su0_0 S k, fun q => absurd q hk, R.s0 (Nat.le_succ N) k⟩
theorem G_begin (R : RR x aR aO aH aT rt ta h S N n u ad) (hN : N + 1 < 2 ^ 31) (w : (c = 0 ∧ p3_begin x ta h b h1) ∨ ∃ E, e3_begin x ta h E h1 ∧ cd_begin E c) (p : p4_begin S H v h') : GA x aR aO aH aT rt ta H (N + 1) h h1 c b v h' := by
  have wl := R.wl
  have X := R.1.2.1
  have K := R.1.1.1
  have ac : ∀ i, i < 3 → (S.2 11 i ≤ 0 ↔ h.2.1 (ta i) 0 = 0) := fun i hi => by
    have := X.ac (by omega) hi
    obtain ⟨gv, bg, h1, h2, h3, -⟩ := X
    rw [(h3 i hi).1]
    exact this
  have a3 := mo_ac_le S 3
  rcases w with ⟨rfl, i, i1, i2, i3, i4, rfl, rfl⟩ | ⟨E, ⟨rfl, w⟩, cd⟩
  · rw [wl] at i4
    rcases p with ⟨q, -⟩ | ⟨-, ⟨q, -⟩ | ⟨-, k, k1, k2, k3, rfl, rfl⟩⟩
    · exact absurd ((ac i i1).mpr i2) ((mo_ac3 S).mp ((nI_3 a3).mp q) i i1)
    · exact absurd i4 q
    · have e : k = i := by
        rcases Nat.lt_trichotomy k i with z | z | z
        · exact absurd ((ac k k1).mp k2) (i3 k z)
        · exact z
        · exact absurd ((ac i i1).mpr i2) (k3 i z)
      subst e
      refine ⟨(((fr7.refl h).ui (K.kta i1) (by decide)).ui K.kx (by decide)).ui (K.kta i1) (by decide), _, n, u, ad, rfl, rfl, fun _ => ?_, R.begin hN i1 i2 (by rw [wl]; exact i4)⟩
      obtain ⟨gv, bg, g1, g2, -⟩ := X
      rw [g2.2.2.1]
  · rcases w with ⟨rfl, w⟩ | ⟨rfl, ⟨i, i1, i2⟩, w⟩
    · have ec : c = 1 := by
        rcases cd with ⟨-, q⟩ | ⟨q, -⟩
        · exact q
        · exact absurd q (by decide)
      subst ec
      rcases p with ⟨q, e, -⟩ | ⟨q, -⟩
      · exact R.rfs 1 (by decide) e b v
      · exact absurd ((nI_3 a3).mpr ((mo_ac3 S).mpr (fun i hi z => w i hi ((ac i hi).mp z)))) q
    · have ec : c = 2 := by
        rcases cd with ⟨q, -⟩ | ⟨-, q⟩
        · exact absurd q (by decide)
        · exact q
      subst ec
      rw [wl] at w
      rcases p with ⟨q, -⟩ | ⟨-, ⟨-, e, -⟩ | ⟨q, -⟩⟩
      · exact absurd ((ac i i1).mpr i2) ((mo_ac3 S).mp ((nI_3 a3).mp q) i i1)
      · exact R.rfs 2 (by decide) e b v
      · exact absurd q w
theorem i4_le {f : Int32} : 4 < f ↔ ¬ f ≤ 4 := Int32.not_le.symm
theorem cd_make.of {c : Int32} : (cd_make "java/util/NoSuchElementException" c → c = 1) ∧ (cd_make "java/lang/IllegalArgumentException" c → c = 2) ∧ (cd_make "java/lang/IllegalStateException" c → c = 3) ∧ (cd_make "java/lang/UnsupportedOperationException" c → c = 4) := by
  refine ⟨?_, ?_, ?_, ?_⟩ <;> (rintro (⟨q, e⟩ | ⟨q, e⟩ | ⟨q, e⟩ | ⟨q, e⟩) <;> first | exact e | exact absurd q (by decide))
theorem cd_setInt.of {c : Int32} : (cd_setInt "java/util/NoSuchElementException" c → c = 1) ∧ (cd_setInt "java/lang/IndexOutOfBoundsException" c → c = 2) ∧ (cd_setInt "java/lang/IllegalStateException" c → c = 3) ∧ (cd_setInt "java/lang/UnsupportedOperationException" c → c = 4) := by
  refine ⟨?_, ?_, ?_, ?_⟩ <;> (rintro (⟨q, e⟩ | ⟨q, e⟩ | ⟨q, e⟩ | ⟨q, e⟩) <;> first | exact e | exact absurd q (by decide))
theorem cd_setRef.of {c : Int32} : (cd_setRef "java/util/NoSuchElementException" c → c = 1) ∧ (cd_setRef "java/lang/IndexOutOfBoundsException" c → c = 2) ∧ (cd_setRef "java/lang/IllegalStateException" c → c = 3) ∧ (cd_setRef "java/lang/IllegalArgumentException" c → c = 4) ∧ (cd_setRef "java/lang/UnsupportedOperationException" c → c = 5) := by
  refine ⟨?_, ?_, ?_, ?_, ?_⟩ <;> (rintro (⟨q, e⟩ | ⟨q, e⟩ | ⟨q, e⟩ | ⟨q, e⟩ | ⟨q, e⟩) <;> first | exact e | exact absurd q (by decide))
theorem cd_get.of {c : Int32} : (cd_get "java/util/NoSuchElementException" c → c = 1) ∧ (cd_get "java/lang/IndexOutOfBoundsException" c → c = 2) ∧ (cd_get "java/lang/IllegalStateException" c → c = 3) ∧ (cd_get "java/lang/ArithmeticException" c → c = 4) := by
  refine ⟨?_, ?_, ?_, ?_⟩ <;> (rintro (⟨q, e⟩ | ⟨q, e⟩ | ⟨q, e⟩ | ⟨q, e⟩) <;> first | exact e | exact absurd q (by decide))
theorem cd_getRoot.of {c : Int32} : (cd_getRoot "java/util/NoSuchElementException" c → c = 1) ∧ (cd_getRoot "java/lang/IndexOutOfBoundsException" c → c = 2) ∧ (cd_getRoot "java/lang/IllegalStateException" c → c = 3) := by
  refine ⟨?_, ?_, ?_⟩ <;> (rintro (⟨q, e⟩ | ⟨q, e⟩ | ⟨q, e⟩) <;> first | exact e | exact absurd q (by decide))
theorem cd_commit.of {c : Int32} : (cd_commit "java/util/NoSuchElementException" c → c = 1) ∧ (cd_commit "java/lang/UnsupportedOperationException" c → c = 2) := by
  refine ⟨?_, ?_⟩ <;> (rintro (⟨q, e⟩ | ⟨q, e⟩) <;> first | exact e | exact absurd q (by decide))
theorem G_make (R : RR x aR aO aH aT rt ta h S N n u ad) (hN : N + 1 < 2 ^ 31) {k f : Int32} (w : (c = 0 ∧ p3_make x aO ta h n k f b h1) ∨ ∃ E, e3_make x ta h n k f E h1 ∧ cd_make E c) (p : p4_make S H k f v h') : GA x aR aO aH aT rt ta H (N + 1) h h1 c b v h' := by
  have wl := R.wl
  have X := R.1.2.1
  have K := R.1.1.1
  have hN' : N < 2 ^ 31 := by omega
  rcases w with ⟨rfl, i, nf, q, pa, pp, w1, w2, w3, w4, w5, w6, w7, rfl, rfl⟩ | ⟨E, ⟨rfl, w⟩, cd⟩
  · have tx := X.tx hN' w1
    have f0 : ¬ f < 0 := by rw [w3]; exact nI_pos (by omega)
    have f4 : f ≤ 4 := by rw [w3]; exact nI_le (b := 4) w2 (by omega)
    have nful : S.1 10 + 1 + f ≤ 80 := Classical.byContradiction fun z => ((R.full f0 f4).mpr z).elim w4 (fun z => by omega)
    rw [wl] at w6
    rcases p with ⟨z, -⟩ | ⟨k', tx', ⟨z, -⟩ | ⟨-, -, ⟨z, -⟩ | ⟨-, ⟨z, -⟩ | ⟨-, r, r1, r2, r3, rfl, rfl⟩⟩⟩⟩
    · exact (tx.no z).elim
    · exact absurd z (fun z => z.elim f0 (fun z => z f4))
    · exact absurd nful z
    · exact absurd w6 z
    · have ek := mo_tx_v tx' tx
      subst ek
      refine ⟨mk_fr K (K.kta tx.1) w7, mo_mk S k f k' r, n + 1, u, va_up ad r q, rfl, ?_, fun _ => ?_, ?_⟩
      · show (mo_zs (mo_m1 S k f r) r 4).1 0 = 0
        rw [mo_zs_1]
        rfl
      · obtain ⟨gv, bg, g1, g2, -⟩ := X
        rw [g2.1]
      · rw [w3]
        refine R.make hN tx.1 tx.2.2.1 (fun z => ?_) r1 r2 w2 w5 ?_ w6 w7
        · have := tx.2.1
          rw [z] at this
          exact absurd this (by decide)
        · rw [← w3]; exact Int32.not_lt.mpr nful
  · rcases w with ⟨rfl, w⟩ | ⟨i, w1, ⟨rfl, w⟩ | ⟨f0, f4, ⟨rfl, w⟩ | ⟨w2, w3, rfl, w⟩⟩⟩
    · have ec := cd_make.of.1 cd
      subst ec
      rcases p with ⟨-, e, -⟩ | ⟨k', tx', -⟩
      · exact R.rfs 1 (by decide) e b v
      · exact (tx'.no (X.nt w)).elim
    · have ec := cd_make.of.2.1 cd
      subst ec
      have tx := X.tx hN' w1
      rcases p with ⟨z, -⟩ | ⟨k', tx', ⟨-, e, -⟩ | ⟨f0, f4, -⟩⟩
      · exact (tx.no z).elim
      · exact R.rfs 2 (by decide) e b v
      · exact (w.elim f0 (fun z => (i4_le.mp z) f4)).elim
    · have ec := cd_make.of.2.2.1 cd
      subst ec
      have tx := X.tx hN' w1
      have ful := (R.full f0 f4).mp w
      rcases p with ⟨z, -⟩ | ⟨k', tx', ⟨z, -⟩ | ⟨-, -, ⟨-, e, -⟩ | ⟨z, -⟩⟩⟩
      · exact (tx.no z).elim
      · exact absurd z (fun z => z.elim f0 (fun z => z f4))
      · exact R.rfs 3 (by decide) e b v
      · exact absurd z ful
    · have ec := cd_make.of.2.2.2 cd
      subst ec
      have tx := X.tx hN' w1
      have nful : S.1 10 + 1 + f ≤ 80 := Classical.byContradiction fun z => ((R.full f0 f4).mpr z).elim w2 (fun z => by omega)
      rw [wl] at w
      rcases p with ⟨z, -⟩ | ⟨k', tx', ⟨z, -⟩ | ⟨-, -, ⟨z, -⟩ | ⟨-, ⟨-, e, -⟩ | ⟨z, -⟩⟩⟩⟩
      · exact (tx.no z).elim
      · exact absurd z (fun z => z.elim f0 (fun z => z f4))
      · exact absurd nful z
      · exact R.rfs 4 (by decide) e b v
      · exact absurd z w
end G2

/-! ===== what lies behind the row's end doesn't matter; aims tried ===== -/
def gl (P N : Nat → Int) : Nat → Int := fun k => if k < 71 then N k else P k
theorem gl_k {P N : Nat → Int} {k : Nat} (h : k < 71) : gl P N k = N k := if_pos h
theorem gl_nu {P N : Nat → Int} {k : Nat} {v : Int} (h : k < 71) : nu (gl P N) k v = gl P (nu N k v) := by
  funext j
  unfold nu gl
  by_cases q : j = k
  · subst q; simp [h]
  · simp [q]
theorem gl_step {P N : Nat → Int} {d : Nat} (hd : d < 4) : stepF (gl P N) d = gl P (stepF N d) := by
  unfold stepF
  rw [gl_k (by omega), gl_k (by omega), goF_cg (N := N) (fun x hx => gl_k (by omega)), gl_nu (by omega), gl_nu (by omega)]
  split <;> rfl
theorem gl_want {P N : Nat → Int} {nd d : Nat} (hd : d < nd) (h4 : nd ≤ 4) : wantF nd (gl P N) d = wantF nd N d := by
  have hm : (d + 1) % nd < nd := Nat.mod_lt _ (by omega)
  unfold wantF
  rw [gl_k (by omega), gl_k (by omega), gl_k (by omega)]
theorem gl_dig {P N : Nat → Int} {nd d : Nat} (hd : d < nd) (h4 : nd ≤ 4) : dig1 nd (gl P N) d = gl P (dig1 nd N d) := by
  unfold dig1
  simp only []
  rw [gl_want hd h4, gl_k (k := 6 * d) (by omega), gl_k (k := 6 * d + 1) (by omega), gl_k (k := 6 * d + 4) (by omega), gl_nu (by omega), gl_nu (by omega), gl_nu (by omega), gl_step (by omega), gl_step (by omega)]
  split
  · rfl
  · split
    · split <;> rfl
    · rfl
theorem gl_wc1 {P N : Nat → Int} {j : Nat} (hj : j < 6) (hd : N (34 + 3 * j + 1) < 4) : wc1 (gl P N) j = gl P (wc1 N j) := by
  unfold wc1
  rw [gl_k (k := 34 + 3 * j) (by omega), gl_k (k := 34 + 3 * j + 1) (by omega), gl_k (k := 34 + 3 * j + 2) (by omega), gl_k (k := 24) (by omega), gl_k (by omega), gl_nu (by omega)]
  split <;> rfl
theorem wcs_hi {nd : Nat} {N : Nat → Int} (hok : okN nd N) : ∀ n : Nat, (n : Int) ≤ N 33 → sb N (wcs n N)
  | 0, _ => fun _ _ => rfl
  | n + 1, hn => by
    have ih := wcs_hi hok n (by omega)
    have h4 := hok.1
    have hw := (hok.2.2.2.2.2.1 n (by omega)).2.1
    intro k hk
    show wc1 (wcs n N) n k = N k
    unfold wc1
    have e1 : wcs n N (34 + 3 * n + 1) = N (34 + 3 * n + 1) := ih _ (by omega)
    rw [e1]
    split
    · rw [nu_k (by omega)]; exact ih k hk
    · exact ih k hk
theorem gl_wcs {P N : Nat → Int} {nd : Nat} (hok : okN nd N) : ∀ n : Nat, (n : Int) ≤ N 33 → wcs n (gl P N) = gl P (wcs n N)
  | 0, _ => rfl
  | n + 1, hn => by
    have h6 := hok.2.2.2.2.1
    have h4 := hok.1
    have hw := (hok.2.2.2.2.2.1 n (by omega)).2.1
    show wc1 (wcs n (gl P N)) n = gl P (wc1 (wcs n N) n)
    rw [gl_wcs hok n (by omega), gl_wc1 (by omega)]
    rw [wcs_hi hok n (by omega) _ (by omega)]
    omega
theorem gl_words {P N : Nat → Int} {nd : Nat} (hok : okN nd N) : wordsF (gl P N) = gl P (wordsF N) := by
  have h6 := hok.2.2.2.2.1
  unfold wordsF
  rw [gl_k (by omega), gl_wcs hok _ (by omega)]
theorem gl_digs {P N : Nat → Int} {nd : Nat} {who : Nat → Bool} (h4 : nd ≤ 4) : ∀ d, d ≤ nd → digs nd who d (gl P N) = gl P (digs nd who d N)
  | 0, _ => rfl
  | d + 1, hd => by
    have ih := gl_digs (P := P) (N := N) (who := who) h4 d (by omega)
    unfold digs
    rw [ih, gl_k (by omega), gl_k (by omega), gl_dig (by omega) h4]
    split <;> rfl
theorem gl_foot {P N : Nat → Int} {nd : Nat} {who : Nat → Bool} (hok : okN nd N) : footW nd who (gl P N) = gl P (footW nd who N) := by
  unfold footW
  rw [gl_words hok, gl_digs hok.1 nd (Nat.le_refl _), gl_k (by omega), gl_nu (by omega)]
theorem gl_feet {P N : Nat → Int} {nd : Nat} {who : Nat → Bool} (hok : okN nd N) : ∀ n, feetW nd who n (gl P N) = gl P (feetW nd who n N)
  | 0 => rfl
  | n + 1 => by
    show footW nd who (feetW nd who n (gl P N)) = gl P (footW nd who (feetW nd who n N))
    rw [gl_feet hok n, gl_foot (ok_feetW hok n)]
theorem gl_ft {P N : Nat → Int} {nd d : Nat} {c : Int} (hok : okN nd N) (hd : d < nd) : ∀ m n, ftF nd d c (gl P N) m n = ftF nd d c N m n
  | 0, _ => rfl
  | m + 1, n => by
    have h4 := hok.1
    rw [ft_s, ft_s, gl_feet hok, gl_k (by omega), gl_ft hok hd m]
theorem gl_ok {P N : Nat → Int} {nd : Nat} (hok : okN nd N) : okN nd (gl P N) := okN_cg hok (fun k hk => gl_k hk)
theorem st_gl {M M3 : XM} (h : M3 23 0 = M 23 0) : stN M3 = gl (M3 24 0) (stN M) := by
  funext k
  show (if k < 71 then M3 23 0 k else M3 24 0 k) = if k < 71 then (if k < 71 then M 23 0 k else M 24 0 k) else M3 24 0 k
  rw [h]
  by_cases q : k < 71 <;> simp [q]
/-! aims tried -/
theorem ok_aim {nd d : Nat} {N : Nat → Int} (hok : okN nd N) (hd : d < nd) {a : Int} (h0 : 0 ≤ a) (h1 : a < 64) : okN nd (nu N (6 * d + 2) (cn a)) := by
  have h4 := hok.1
  refine okN_f hok (by omega) (by decide) ⟨by omega, by omega, fun _ => ?_, by omega, by omega, by omega⟩
  unfold isC cn
  omega
theorem isC_cn {a : Int} (h0 : 0 ≤ a) (h1 : a < 64) : isC (cn a) := by
  unfold isC cn
  omega
set_option maxRecDepth 100000 in
theorem c_cellAt (M : XM) (a : Nat) (h : a < 64) : CW mi_X4_cellAt [xI a] M (pI M (cn a)) := by
  have n8 : ¬ (8 : Int) = 0 := by decide
  have a0 : 0 ≤ (a : Int) := by omega
  have d1 : w32 ((a : Int).tdiv 8) = (a : Int) / 8 := by rw [td_e a0, w32_id (by omega) (by omega)]
  have d2 : (a : Int).tmod 8 = (a : Int) % 8 := tm_e a0
  have d3 : w32 (10 * ((a : Int) / 8)) = 10 * ((a : Int) / 8) := w32_id (by omega) (by omega)
  have d4 : w32 (10 * ((a : Int) / 8) + (a : Int) % 8) = cn a := by unfold cn; exact w32_id (by omega) (by omega)
  refine in_X4_cellAt (Nat.le_of_ble_eq_true rfl) ?_
  refine st_X4_cellAt [] 20 ?_
  simp only [sy, xisC, sxI, xgI, xgL, xgR, xent, xargs0, p1i, p2i, p1l, p2l, pli, p1r, pir, piir, plir, pvr, pdup, pdup2, pret, xjmp, xcon, xfd, xcl_, xcall, xbr, xsw, xtsw, xst1, xst2, xkill, xpush, xcat, xcl, xar, xkd, xrf, xmask, mR, mL, List.getElem?_cons_zero, List.getElem?_cons_succ, List.lookup_nil, List.lookup_cons, Nat.reduceAdd, Nat.reduceSub, Nat.reduceLeDiff, Nat.reduceEqDiff, Nat.reduceBEq, List.length_cons, List.length_nil, List.replicate, List.append_nil, List.nil_append, List.cons_append, List.set_cons_zero, List.set_cons_succ, List.take_succ_cons, List.take_zero, List.drop_succ_cons, List.drop_zero, List.reverse_cons, List.reverse_nil, List.map_cons, List.map_nil, List.sum_cons, List.sum_nil, decide_true, decide_false, and_self, and_true, true_and, true_or, or_true, Fin.isValue, Fin.val_zero, Fin.val_one, Fin.val_two, Fin.reduceFinMk, Nat.reduceMod, Option.some.injEq, Sum.inl.injEq, Sum.inr.injEq, Prod.mk.injEq, eq_self, reduceCtorEq, imp_self, implies_true, Nat.zero_add, Nat.add_zero, Nat.zero_le, Int.reduceEq, Int.reduceLT, Int.reduceLE, Int.reduceNeg, not_true, not_false_iff, false_imp_iff, true_imp_iff, forall_const, or_self, or_false, false_or, and_false, false_and, ↓reduceIte, z_0, z_1, z_f1, z_f2, z_f3, Int.reduceToNat, Int.reduceAdd, ct_X4_cellAt, mi_X4_cellAt, n8, d1, d2, d3, d4, pI]
set_option maxRecDepth 100000 in
theorem m_stAim (M : XM) (d : Nat) (hd : d < 4) (v : Int) : CW mi_X4_startsAimed [xR 22 0, xI d, xI v] M (fun r M' => r = none ∧ M' 24 0 = nu (stN M) (6 * d + 2) v ∧ frN M M') := by
  refine in_X4_startsAimed (Nat.le_of_ble_eq_true rfl) ?_
  refine st_X4_startsAimed [] 20 ?_
  simp only [sy, xisC, sxI, xgI, xgL, xgR, xent, xargs0, p1i, p2i, p1l, p2l, pli, p1r, pir, piir, plir, pvr, pdup, pdup2, pret, xjmp, xcon, xfd, xcl_, xcall, xbr, xsw, xtsw, xst1, xst2, xkill, xpush, xcat, xcl, xar, xkd, xrf, xmask, mR, mL, List.getElem?_cons_zero, List.getElem?_cons_succ, List.lookup_nil, List.lookup_cons, Nat.reduceAdd, Nat.reduceSub, Nat.reduceLeDiff, Nat.reduceEqDiff, Nat.reduceBEq, List.length_cons, List.length_nil, List.replicate, List.append_nil, List.nil_append, List.cons_append, List.set_cons_zero, List.set_cons_succ, List.take_succ_cons, List.take_zero, List.drop_succ_cons, List.drop_zero, List.reverse_cons, List.reverse_nil, List.map_cons, List.map_nil, List.sum_cons, List.sum_nil, decide_true, decide_false, and_self, and_true, true_and, true_or, or_true, Fin.isValue, Fin.val_zero, Fin.val_one, Fin.val_two, Fin.reduceFinMk, Nat.reduceMod, Option.some.injEq, Sum.inl.injEq, Sum.inr.injEq, Prod.mk.injEq, eq_self, reduceCtorEq, imp_self, implies_true, Nat.zero_add, Nat.add_zero, Nat.zero_le, Int.reduceEq, Int.reduceLT, Int.reduceLE, Int.reduceNeg, not_true, not_false_iff, false_imp_iff, true_imp_iff, forall_const, or_self, or_false, false_or, and_false, false_and, ↓reduceIte, z_0, z_1, z_f1, z_f2, z_f3, Int.reduceToNat, Int.reduceAdd, ct_X4_startsAimed, mi_X4_startsAimed]
  refine CW.mono (c_starts2 M) ?_
  rintro _ M2 ⟨rfl, e2, f2⟩
  refine st_X4_startsAimed [] 20 ?_
  simp only [sy, xisC, sxI, xgI, xgL, xgR, xent, xargs0, p1i, p2i, p1l, p2l, pli, p1r, pir, piir, plir, pvr, pdup, pdup2, pret, xjmp, xcon, xfd, xcl_, xcall, xbr, xsw, xtsw, xst1, xst2, xkill, xpush, xcat, xcl, xar, xkd, xrf, xmask, mR, mL, List.getElem?_cons_zero, List.getElem?_cons_succ, List.lookup_nil, List.lookup_cons, Nat.reduceAdd, Nat.reduceSub, Nat.reduceLeDiff, Nat.reduceEqDiff, Nat.reduceBEq, List.length_cons, List.length_nil, List.replicate, List.append_nil, List.nil_append, List.cons_append, List.set_cons_zero, List.set_cons_succ, List.take_succ_cons, List.take_zero, List.drop_succ_cons, List.drop_zero, List.reverse_cons, List.reverse_nil, List.map_cons, List.map_nil, List.sum_cons, List.sum_nil, decide_true, decide_false, and_self, and_true, true_and, true_or, or_true, Fin.isValue, Fin.val_zero, Fin.val_one, Fin.val_two, Fin.reduceFinMk, Nat.reduceMod, Option.some.injEq, Sum.inl.injEq, Sum.inr.injEq, Prod.mk.injEq, eq_self, reduceCtorEq, imp_self, implies_true, Nat.zero_add, Nat.add_zero, Nat.zero_le, Int.reduceEq, Int.reduceLT, Int.reduceLE, Int.reduceNeg, not_true, not_false_iff, false_imp_iff, true_imp_iff, forall_const, or_self, or_false, false_or, and_false, false_and, ↓reduceIte, z_0, z_1, z_f1, z_f2, z_f3, Int.reduceToNat, Int.reduceAdd, ct_X4_startsAimed, mi_X4_startsAimed]
  refine CW.mono (c_becomesOf M2 d 2 2 v rfl (by omega)) ?_
  rintro _ M3 ⟨rfl, hM3⟩
  refine st_X4_startsAimed [] 20 ?_
  simp only [sy, xisC, sxI, xgI, xgL, xgR, xent, xargs0, p1i, p2i, p1l, p2l, pli, p1r, pir, piir, plir, pvr, pdup, pdup2, pret, xjmp, xcon, xfd, xcl_, xcall, xbr, xsw, xtsw, xst1, xst2, xkill, xpush, xcat, xcl, xar, xkd, xrf, xmask, mR, mL, List.getElem?_cons_zero, List.getElem?_cons_succ, List.lookup_nil, List.lookup_cons, Nat.reduceAdd, Nat.reduceSub, Nat.reduceLeDiff, Nat.reduceEqDiff, Nat.reduceBEq, List.length_cons, List.length_nil, List.replicate, List.append_nil, List.nil_append, List.cons_append, List.set_cons_zero, List.set_cons_succ, List.take_succ_cons, List.take_zero, List.drop_succ_cons, List.drop_zero, List.reverse_cons, List.reverse_nil, List.map_cons, List.map_nil, List.sum_cons, List.sum_nil, decide_true, decide_false, and_self, and_true, true_and, true_or, or_true, Fin.isValue, Fin.val_zero, Fin.val_one, Fin.val_two, Fin.reduceFinMk, Nat.reduceMod, Option.some.injEq, Sum.inl.injEq, Sum.inr.injEq, Prod.mk.injEq, eq_self, reduceCtorEq, imp_self, implies_true, Nat.zero_add, Nat.add_zero, Nat.zero_le, Int.reduceEq, Int.reduceLT, Int.reduceLE, Int.reduceNeg, not_true, not_false_iff, false_imp_iff, true_imp_iff, forall_const, or_self, or_false, false_or, and_false, false_and, ↓reduceIte, z_0, z_1, z_f1, z_f2, z_f3, Int.reduceToNat, Int.reduceAdd, ct_X4_startsAimed, mi_X4_startsAimed]
  rw [hM3]
  exact ⟨by rw [xup_N, e2], frN_up f2⟩
set_option maxRecDepth 100000 in
theorem c_tryAim {M : XM} {nd d : Nat} {N : Nat → Int} (rg : RG M 0 nd N) (hok : okN nd N) (hd : d < nd) (a : Nat) (ha : a < 64) : CW mi_X3_tryAim [xR 0 0, xI d, xI a] M (fun r M' => r = none ∧ RG M' 1 nd (nu N (6 * d + 2) (cn a)) ∧ frG 1 M M') := by
  have h4 := hok.1
  have e := nc_cn (show 0 ≤ (a : Int) by omega) (by omega)
  refine in_X3_tryAim (Nat.le_of_ble_eq_true rfl) ?_
  refine st_X3_tryAim [] 20 ?_
  simp only [sy, xisC, sxI, xgI, xgL, xgR, xent, xargs0, p1i, p2i, p1l, p2l, pli, p1r, pir, piir, plir, pvr, pdup, pdup2, pret, xjmp, xcon, xfd, xcl_, xcall, xbr, xsw, xtsw, xst1, xst2, xkill, xpush, xcat, xcl, xar, xkd, xrf, xmask, mR, mL, List.getElem?_cons_zero, List.getElem?_cons_succ, List.lookup_nil, List.lookup_cons, Nat.reduceAdd, Nat.reduceSub, Nat.reduceLeDiff, Nat.reduceEqDiff, Nat.reduceBEq, List.length_cons, List.length_nil, List.replicate, List.append_nil, List.nil_append, List.cons_append, List.set_cons_zero, List.set_cons_succ, List.take_succ_cons, List.take_zero, List.drop_succ_cons, List.drop_zero, List.reverse_cons, List.reverse_nil, List.map_cons, List.map_nil, List.sum_cons, List.sum_nil, decide_true, decide_false, and_self, and_true, true_and, true_or, or_true, Fin.isValue, Fin.val_zero, Fin.val_one, Fin.val_two, Fin.reduceFinMk, Nat.reduceMod, Option.some.injEq, Sum.inl.injEq, Sum.inr.injEq, Prod.mk.injEq, eq_self, reduceCtorEq, imp_self, implies_true, Nat.zero_add, Nat.add_zero, Nat.zero_le, Int.reduceEq, Int.reduceLT, Int.reduceLE, Int.reduceNeg, not_true, not_false_iff, false_imp_iff, true_imp_iff, forall_const, or_self, or_false, false_or, and_false, false_and, ↓reduceIte, z_0, z_1, z_f1, z_f2, z_f3, Int.reduceToNat, Int.reduceAdd, ct_X3_tryAim, mi_X3_tryAim]
  refine CW.mono (c_copy (i := 1) (j := 0) (by decide) rg hok) ?_
  rintro _ M2 ⟨rfl, r2, f2⟩
  have r3 := RG_aim (e := d) (v := cn a) r2 (by omega)
  rw [e] at r3
  refine st_X3_tryAim [] 20 ?_
  simp only [sy, xisC, sxI, xgI, xgL, xgR, xent, xargs0, p1i, p2i, p1l, p2l, pli, p1r, pir, piir, plir, pvr, pdup, pdup2, pret, xjmp, xcon, xfd, xcl_, xcall, xbr, xsw, xtsw, xst1, xst2, xkill, xpush, xcat, xcl, xar, xkd, xrf, xmask, mR, mL, List.getElem?_cons_zero, List.getElem?_cons_succ, List.lookup_nil, List.lookup_cons, Nat.reduceAdd, Nat.reduceSub, Nat.reduceLeDiff, Nat.reduceEqDiff, Nat.reduceBEq, List.length_cons, List.length_nil, List.replicate, List.append_nil, List.nil_append, List.cons_append, List.set_cons_zero, List.set_cons_succ, List.take_succ_cons, List.take_zero, List.drop_succ_cons, List.drop_zero, List.reverse_cons, List.reverse_nil, List.map_cons, List.map_nil, List.sum_cons, List.sum_nil, decide_true, decide_false, and_self, and_true, true_and, true_or, or_true, Fin.isValue, Fin.val_zero, Fin.val_one, Fin.val_two, Fin.reduceFinMk, Nat.reduceMod, Option.some.injEq, Sum.inl.injEq, Sum.inr.injEq, Prod.mk.injEq, eq_self, reduceCtorEq, imp_self, implies_true, Nat.zero_add, Nat.add_zero, Nat.zero_le, Int.reduceEq, Int.reduceLT, Int.reduceLE, Int.reduceNeg, not_true, not_false_iff, false_imp_iff, true_imp_iff, forall_const, or_self, or_false, false_or, and_false, false_and, ↓reduceIte, z_0, z_1, z_f1, z_f2, z_f3, Int.reduceToNat, Int.reduceAdd, ct_X3_tryAim, mi_X3_tryAim, Int.toNat_natCast]
  exact ⟨by omega, r3, frG_up f2 (by decide) (by decide)⟩

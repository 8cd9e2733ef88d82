/-! ===== feetUntil, feetTo ===== -/
/-- behind how many feet from n on, m of them looked at, digger d is in cell c; -4: none -/
def ftF (nd d : Nat) (c : Int) (N : Nat → Int) : Nat → Nat → Int
  | 0, _ => -4
  | m + 1, n => if feetW nd al n N (6 * d + 1) = c then (n : Int) else ftF nd d c N m (n + 1)
theorem ft_s {nd d m n : Nat} {c : Int} {N : Nat → Int} : ftF nd d c N (m + 1) n = if feetW nd al n N (6 * d + 1) = c then (n : Int) else ftF nd d c N m (n + 1) := rfl
theorem wcs_f {nd d f : Nat} {N : Nat → Int} (hok : okN nd N) (hf : f < 6) (h2 : f ≠ 2) : ∀ n : Nat, (n : Int) ≤ N 33 → wcs n N (6 * d + f) = N (6 * d + f)
  | 0, _ => rfl
  | n + 1, hn => by
    have ih := wcs_f (d := d) hok hf h2 n (by omega)
    show wc1 (wcs n N) n (6 * d + f) = _
    unfold wc1
    split
    · rw [nu_k (by omega)]
      exact ih
    · exact ih
theorem rest_foot {nd d f : Nat} {N : Nat → Int} (hok : okN nd N) (hd : d < nd) (hr : ¬ (N (6 * d + 5) = 0 ∧ 0 < N (6 * d + 4))) (hf : f < 6) (h2 : f ≠ 2) : footW nd al N (6 * d + f) = N (6 * d + f) := by
  have h33 := hok.2.2.2.2.1
  have h4 := hok.1
  have hw : ∀ f, f < 6 → f ≠ 2 → wordsF N (6 * d + f) = N (6 * d + f) := fun f hf h2 => wcs_f hok hf h2 _ (by omega)
  have key : ∀ n, n ≤ nd → ∀ f, f < 6 → f ≠ 2 → digs nd al n (wordsF N) (6 * d + f) = N (6 * d + f) := by
    intro n
    induction n with
    | zero => exact fun _ f hf h2 => hw f hf h2
    | succ n ih =>
      intro hn f hf h2
      have i := ih (by omega)
      unfold digs
      split
      · rename_i hq
        by_cases hnd : n = d
        · subst hnd
          rw [i 5 (by decide) (by decide), i 4 (by decide) (by decide)] at hq
          exact absurd hq.2 hr
        · rw [own_dig (show n < nd by omega) _ (by omega) (by omega) (by omega) (by omega)]
          exact i f hf h2
      · exact i f hf h2
  unfold footW
  rw [nu_k (by omega)]
  exact key nd (Nat.le_refl _) f hf h2
theorem rest_ft {nd d : Nat} {c : Int} {N : Nat → Int} (hok : okN nd N) (hd : d < nd) : ∀ (m n : Nat), ¬ (feetW nd al n N (6 * d + 5) = 0 ∧ 0 < feetW nd al n N (6 * d + 4)) → feetW nd al n N (6 * d + 1) ≠ c → ftF nd d c N m n = -4
  | 0, _, _, _ => rfl
  | m + 1, n, hr, hc => by
    unfold ftF
    rw [if_neg hc]
    have e := fun f hf h2 => rest_foot (f := f) (ok_feetW hok n) hd hr hf h2
    refine rest_ft hok hd m (n + 1) ?_ ?_
    · show ¬ (footW nd al (feetW nd al n N) (6 * d + 5) = 0 ∧ 0 < footW nd al (feetW nd al n N) (6 * d + 4))
      rw [e 5 (by decide) (by decide), e 4 (by decide) (by decide)]
      exact hr
    · show footW nd al (feetW nd al n N) (6 * d + 1) ≠ c
      rw [e 1 (by decide) (by decide)]
      exact hc
set_option maxRecDepth 100000 in
theorem c_feetTo {M : XM} {nd d : Nat} {N : Nat → Int} (h : M 24 0 = N) (hn : M 22 0 3 = nd) (hok : okN nd N) (hd : d < nd) (c most : Int) (m : Nat) (hm : most = (m : Int) - 1) (hm2 : m < 1000) : CW mi_X4_feetTo [xR 22 0, xI d, xI c, xI most] M (fun r M' => r = some (xI (ftF nd d c N m 0)) ∧ frN M M' ∧ (ftF nd d c N m 0 = -4 → M' 24 0 = feetW nd al m N)) := by
  have h4 := hok.1
  have loop : ∀ (k n : Nat) (M1 : XM), n + k = m → M1 24 0 = feetW nd al n N → frN M M1 → ftF nd d c N m 0 = ftF nd d c N k n → J_X4_feetTo (fun r M' => r = some (xI (ftF nd d c N m 0)) ∧ frN M M' ∧ (ftF nd d c N m 0 = -4 → M' 24 0 = feetW nd al m N)) 2 [some (xR 22 0), some (xI d), some (xI c), some (xI most), some (xI n)] [] M1 := by
    intro k
    induction k with
    | zero =>
      intro n M1 hk h1 hf1 hft
      have e : n = m := by omega
      subst e
      refine st_X4_feetTo [] 10 ?_
      simp only [sy, xisC, sxI, xgI, xgL, xgR, xent, xargs0, p1i, p2i, p1l, p2l, pli, p1r, pir, piir, plir, pvr, pdup, pdup2, pret, xjmp, xcon, xfd, xcl_, xcall, xbr, xsw, xtsw, xst1, xst2, xkill, xpush, xcat, xcl, xar, xkd, xrf, xmask, mR, mL, List.getElem?_cons_zero, List.getElem?_cons_succ, List.lookup_nil, List.lookup_cons, Nat.reduceAdd, Nat.reduceSub, Nat.reduceLeDiff, Nat.reduceEqDiff, Nat.reduceBEq, List.length_cons, List.length_nil, List.replicate, List.append_nil, List.nil_append, List.cons_append, List.set_cons_zero, List.set_cons_succ, List.take_succ_cons, List.take_zero, List.drop_succ_cons, List.drop_zero, List.reverse_cons, List.reverse_nil, List.map_cons, List.map_nil, List.sum_cons, List.sum_nil, decide_true, decide_false, and_self, and_true, true_and, true_or, or_true, Fin.isValue, Fin.val_zero, Fin.val_one, Fin.val_two, Fin.reduceFinMk, Nat.reduceMod, Option.some.injEq, Sum.inl.injEq, Sum.inr.injEq, Prod.mk.injEq, eq_self, reduceCtorEq, imp_self, implies_true, Nat.zero_add, Nat.add_zero, Nat.zero_le, Int.reduceEq, Int.reduceLT, Int.reduceLE, Int.reduceNeg, not_true, not_false_iff, false_imp_iff, true_imp_iff, forall_const, or_self, or_false, false_or, and_false, false_and, ↓reduceIte, z_0, z_1, z_f1, z_f2, z_f3, Int.reduceToNat, Int.reduceAdd, ct_X4_feetTo, mi_X4_feetTo]
      refine ⟨fun _ => ⟨by rw [hft]; rfl, hf1, fun _ => h1⟩, fun q => absurd q (by omega)⟩
    | succ k ih =>
      intro n M1 hk h1 hf1 hft
      have gn : M1 22 0 3 = nd := by rw [hf1 22 0 (by decide)]; exact hn
      rw [ft_s] at hft
      refine st_X4_feetTo [] 10 ?_
      simp only [sy, xisC, sxI, xgI, xgL, xgR, xent, xargs0, p1i, p2i, p1l, p2l, pli, p1r, pir, piir, plir, pvr, pdup, pdup2, pret, xjmp, xcon, xfd, xcl_, xcall, xbr, xsw, xtsw, xst1, xst2, xkill, xpush, xcat, xcl, xar, xkd, xrf, xmask, mR, mL, List.getElem?_cons_zero, List.getElem?_cons_succ, List.lookup_nil, List.lookup_cons, Nat.reduceAdd, Nat.reduceSub, Nat.reduceLeDiff, Nat.reduceEqDiff, Nat.reduceBEq, List.length_cons, List.length_nil, List.replicate, List.append_nil, List.nil_append, List.cons_append, List.set_cons_zero, List.set_cons_succ, List.take_succ_cons, List.take_zero, List.drop_succ_cons, List.drop_zero, List.reverse_cons, List.reverse_nil, List.map_cons, List.map_nil, List.sum_cons, List.sum_nil, decide_true, decide_false, and_self, and_true, true_and, true_or, or_true, Fin.isValue, Fin.val_zero, Fin.val_one, Fin.val_two, Fin.reduceFinMk, Nat.reduceMod, Option.some.injEq, Sum.inl.injEq, Sum.inr.injEq, Prod.mk.injEq, eq_self, reduceCtorEq, imp_self, implies_true, Nat.zero_add, Nat.add_zero, Nat.zero_le, Int.reduceEq, Int.reduceLT, Int.reduceLE, Int.reduceNeg, not_true, not_false_iff, false_imp_iff, true_imp_iff, forall_const, or_self, or_false, false_or, and_false, false_and, ↓reduceIte, z_0, z_1, z_f1, z_f2, z_f3, Int.reduceToNat, Int.reduceAdd, ct_X4_feetTo, mi_X4_feetTo]
      refine ⟨fun q => absurd q (by omega), fun _ => ?_⟩
      refine CW.mono (c_of M1 d 1 1 rfl (by omega)) ?_
      rintro _ M1 ⟨rfl, hM1⟩; rw [hM1]; clear hM1 M1
      rw [h1]
      refine st_X4_feetTo [] 10 ?_
      simp only [sy, xisC, sxI, xgI, xgL, xgR, xent, xargs0, p1i, p2i, p1l, p2l, pli, p1r, pir, piir, plir, pvr, pdup, pdup2, pret, xjmp, xcon, xfd, xcl_, xcall, xbr, xsw, xtsw, xst1, xst2, xkill, xpush, xcat, xcl, xar, xkd, xrf, xmask, mR, mL, List.getElem?_cons_zero, List.getElem?_cons_succ, List.lookup_nil, List.lookup_cons, Nat.reduceAdd, Nat.reduceSub, Nat.reduceLeDiff, Nat.reduceEqDiff, Nat.reduceBEq, List.length_cons, List.length_nil, List.replicate, List.append_nil, List.nil_append, List.cons_append, List.set_cons_zero, List.set_cons_succ, List.take_succ_cons, List.take_zero, List.drop_succ_cons, List.drop_zero, List.reverse_cons, List.reverse_nil, List.map_cons, List.map_nil, List.sum_cons, List.sum_nil, decide_true, decide_false, and_self, and_true, true_and, true_or, or_true, Fin.isValue, Fin.val_zero, Fin.val_one, Fin.val_two, Fin.reduceFinMk, Nat.reduceMod, Option.some.injEq, Sum.inl.injEq, Sum.inr.injEq, Prod.mk.injEq, eq_self, reduceCtorEq, imp_self, implies_true, Nat.zero_add, Nat.add_zero, Nat.zero_le, Int.reduceEq, Int.reduceLT, Int.reduceLE, Int.reduceNeg, not_true, not_false_iff, false_imp_iff, true_imp_iff, forall_const, or_self, or_false, false_or, and_false, false_and, ↓reduceIte, z_0, z_1, z_f1, z_f2, z_f3, Int.reduceToNat, Int.reduceAdd, ct_X4_feetTo, mi_X4_feetTo]
      refine ⟨fun hne => ?_, fun heq => ?_⟩
      · rw [if_neg hne] at hft
        refine CW.mono (c_footGoes h1 gn (ok_feetW hok n)) ?_
        rintro _ M2 ⟨rfl, h2, hf2⟩
        refine st_X4_feetTo [(2, [true, true, true, true, true])] 10 ?_
        simp only [sy, xisC, sxI, xgI, xgL, xgR, xent, xargs0, p1i, p2i, p1l, p2l, pli, p1r, pir, piir, plir, pvr, pdup, pdup2, pret, xjmp, xcon, xfd, xcl_, xcall, xbr, xsw, xtsw, xst1, xst2, xkill, xpush, xcat, xcl, xar, xkd, xrf, xmask, mR, mL, List.getElem?_cons_zero, List.getElem?_cons_succ, List.lookup_nil, List.lookup_cons, Nat.reduceAdd, Nat.reduceSub, Nat.reduceLeDiff, Nat.reduceEqDiff, Nat.reduceBEq, List.length_cons, List.length_nil, List.replicate, List.append_nil, List.nil_append, List.cons_append, List.set_cons_zero, List.set_cons_succ, List.take_succ_cons, List.take_zero, List.drop_succ_cons, List.drop_zero, List.reverse_cons, List.reverse_nil, List.map_cons, List.map_nil, List.sum_cons, List.sum_nil, decide_true, decide_false, and_self, and_true, true_and, true_or, or_true, Fin.isValue, Fin.val_zero, Fin.val_one, Fin.val_two, Fin.reduceFinMk, Nat.reduceMod, Option.some.injEq, Sum.inl.injEq, Sum.inr.injEq, Prod.mk.injEq, eq_self, reduceCtorEq, imp_self, implies_true, Nat.zero_add, Nat.add_zero, Nat.zero_le, Int.reduceEq, Int.reduceLT, Int.reduceLE, Int.reduceNeg, not_true, not_false_iff, false_imp_iff, true_imp_iff, forall_const, or_self, or_false, false_or, and_false, false_and, ↓reduceIte, z_0, z_1, z_f1, z_f2, z_f3, Int.reduceToNat, Int.reduceAdd, ct_X4_feetTo, mi_X4_feetTo]
        rw [w32_id (by omega) (by omega)]
        exact ih (n + 1) M2 (by omega) h2 (frN_tr hf1 hf2) hft
      · rw [if_pos heq] at hft
        exact ⟨hft.symm, hf1, fun q => by omega⟩
  refine in_X4_feetTo (Nat.le_of_ble_eq_true rfl) ?_
  refine st_X4_feetTo [(2, [true, true, true, true, true])] 4 ?_
  simp only [sy, xisC, sxI, xgI, xgL, xgR, xent, xargs0, p1i, p2i, p1l, p2l, pli, p1r, pir, piir, plir, pvr, pdup, pdup2, pret, xjmp, xcon, xfd, xcl_, xcall, xbr, xsw, xtsw, xst1, xst2, xkill, xpush, xcat, xcl, xar, xkd, xrf, xmask, mR, mL, List.getElem?_cons_zero, List.getElem?_cons_succ, List.lookup_nil, List.lookup_cons, Nat.reduceAdd, Nat.reduceSub, Nat.reduceLeDiff, Nat.reduceEqDiff, Nat.reduceBEq, List.length_cons, List.length_nil, List.replicate, List.append_nil, List.nil_append, List.cons_append, List.set_cons_zero, List.set_cons_succ, List.take_succ_cons, List.take_zero, List.drop_succ_cons, List.drop_zero, List.reverse_cons, List.reverse_nil, List.map_cons, List.map_nil, List.sum_cons, List.sum_nil, decide_true, decide_false, and_self, and_true, true_and, true_or, or_true, Fin.isValue, Fin.val_zero, Fin.val_one, Fin.val_two, Fin.reduceFinMk, Nat.reduceMod, Option.some.injEq, Sum.inl.injEq, Sum.inr.injEq, Prod.mk.injEq, eq_self, reduceCtorEq, imp_self, implies_true, Nat.zero_add, Nat.add_zero, Nat.zero_le, Int.reduceEq, Int.reduceLT, Int.reduceLE, Int.reduceNeg, not_true, not_false_iff, false_imp_iff, true_imp_iff, forall_const, or_self, or_false, false_or, and_false, false_and, ↓reduceIte, z_0, z_1, z_f1, z_f2, z_f3, Int.reduceToNat, Int.reduceAdd, ct_X4_feetTo, mi_X4_feetTo]
  exact loop m 0 M (by omega) h frN_rf rfl
set_option maxRecDepth 100000 in
theorem c_feetUntil {M : XM} {i : Fin 5} {nd d : Nat} {N : Nat → Int} (h : RG M i nd N) (hok : okN nd N) (hd : d < nd) (c most : Int) (hc : isC c) (m : Nat) (hm : most = (m : Int) - 1) (hm2 : m < 1000) : CW mi_X0_feetUntil [xR 1 i, xI d, xI (nc c), xI most] M (fun r M' => r = some (xI (ftF nd d c N m 0)) ∧ frG i M M') := by
  have h4 := hok.1
  have h4d : d < 4 := by omega
  have loop : ∀ (w : Int), 0 ≤ w → w < 16 → wb w d = true → clo (wb w) nd N → ∀ (k n : Nat) (M1 : XM), n + k = m → RG M1 i nd (feetW nd (wb w) n N) → frG i M M1 → ftF nd d c N m 0 = ftF nd d c N k n → J_X0_feetUntil (fun r M' => r = some (xI (ftF nd d c N m 0)) ∧ frG i M M') 6 [some (xR 1 i), some (xI d), some (xI (nc c)), some (xI most), some (xI w), some (xI n)] [] M1 := by
    intro w w0 w1 hwd hcl k
    induction k with
    | zero =>
      intro n M1 hk h1 hf1 hft
      refine st_X0_feetUntil [] 10 ?_
      simp only [sy, xisC, sxI, xgI, xgL, xgR, xent, xargs0, p1i, p2i, p1l, p2l, pli, p1r, pir, piir, plir, pvr, pdup, pdup2, pret, xjmp, xcon, xfd, xcl_, xcall, xbr, xsw, xtsw, xst1, xst2, xkill, xpush, xcat, xcl, xar, xkd, xrf, xmask, mR, mL, List.getElem?_cons_zero, List.getElem?_cons_succ, List.lookup_nil, List.lookup_cons, Nat.reduceAdd, Nat.reduceSub, Nat.reduceLeDiff, Nat.reduceEqDiff, Nat.reduceBEq, List.length_cons, List.length_nil, List.replicate, List.append_nil, List.nil_append, List.cons_append, List.set_cons_zero, List.set_cons_succ, List.take_succ_cons, List.take_zero, List.drop_succ_cons, List.drop_zero, List.reverse_cons, List.reverse_nil, List.map_cons, List.map_nil, List.sum_cons, List.sum_nil, decide_true, decide_false, and_self, and_true, true_and, true_or, or_true, Fin.isValue, Fin.val_zero, Fin.val_one, Fin.val_two, Fin.reduceFinMk, Nat.reduceMod, Option.some.injEq, Sum.inl.injEq, Sum.inr.injEq, Prod.mk.injEq, eq_self, reduceCtorEq, imp_self, implies_true, Nat.zero_add, Nat.add_zero, Nat.zero_le, Int.reduceEq, Int.reduceLT, Int.reduceLE, Int.reduceNeg, not_true, not_false_iff, false_imp_iff, true_imp_iff, forall_const, or_self, or_false, false_or, and_false, false_and, ↓reduceIte, z_0, z_1, z_f1, z_f2, z_f3, Int.reduceToNat, Int.reduceAdd, ct_X0_feetUntil, mi_X0_feetUntil]
      refine ⟨fun _ => ⟨by rw [hft]; rfl, hf1⟩, fun q => absurd q (by omega)⟩
    | succ k ih =>
      intro n M1 hk h1 hf1 hft
      have hokn := ok_feetW (who := wb w) hok n
      obtain ⟨ha, -⟩ := ag_feet hok hcl n
      have e1 := ha.1 d hd hwd 1 (by decide)
      have e4 := ha.1 d hd hwd 4 (by decide)
      have e5 := ha.1 d hd hwd 5 (by decide)
      have ga := (h1.2.2.2.2.2.1 d hd).2.1
      have hC := (hokn.2.1 d hd).2.1
      have crest := c_rests h1 hokn hd
      rw [e1] at ga hC
      rw [e4, e5] at crest
      have hrf := rest_ft (c := c) hok hd (k + 1) n
      refine st_X0_feetUntil [] 20 ?_
      simp only [sy, xisC, sxI, xgI, xgL, xgR, xent, xargs0, p1i, p2i, p1l, p2l, pli, p1r, pir, piir, plir, pvr, pdup, pdup2, pret, xjmp, xcon, xfd, xcl_, xcall, xbr, xsw, xtsw, xst1, xst2, xkill, xpush, xcat, xcl, xar, xkd, xrf, xmask, mR, mL, List.getElem?_cons_zero, List.getElem?_cons_succ, List.lookup_nil, List.lookup_cons, Nat.reduceAdd, Nat.reduceSub, Nat.reduceLeDiff, Nat.reduceEqDiff, Nat.reduceBEq, List.length_cons, List.length_nil, List.replicate, List.append_nil, List.nil_append, List.cons_append, List.set_cons_zero, List.set_cons_succ, List.take_succ_cons, List.take_zero, List.drop_succ_cons, List.drop_zero, List.reverse_cons, List.reverse_nil, List.map_cons, List.map_nil, List.sum_cons, List.sum_nil, decide_true, decide_false, and_self, and_true, true_and, true_or, or_true, Fin.isValue, Fin.val_zero, Fin.val_one, Fin.val_two, Fin.reduceFinMk, Nat.reduceMod, Option.some.injEq, Sum.inl.injEq, Sum.inr.injEq, Prod.mk.injEq, eq_self, reduceCtorEq, imp_self, implies_true, Nat.zero_add, Nat.add_zero, Nat.zero_le, Int.reduceEq, Int.reduceLT, Int.reduceLE, Int.reduceNeg, not_true, not_false_iff, false_imp_iff, true_imp_iff, forall_const, or_self, or_false, false_or, and_false, false_and, ↓reduceIte, z_0, z_1, z_f1, z_f2, z_f3, Int.reduceToNat, Int.reduceAdd, ct_X0_feetUntil, mi_X0_feetUntil, Int.toNat_natCast, ga]
      refine ⟨fun q => absurd q (by omega), fun _ => ⟨by omega, fun hne => ?_, fun heq => ?_⟩⟩
      · have hne2 : feetW nd al n N (6 * d + 1) ≠ c := fun q => hne (by rw [q])
        refine CW.mono (crest) ?_
        rintro _ M1 ⟨rfl, hM1⟩; rw [hM1]; clear hM1 M1
        by_cases hr : feetW nd al n N (6 * d + 5) = 0 ∧ 0 < feetW nd al n N (6 * d + 4)
        · rw [if_pos hr]
          refine st_X0_feetUntil [] 10 ?_
          simp only [sy, xisC, sxI, xgI, xgL, xgR, xent, xargs0, p1i, p2i, p1l, p2l, pli, p1r, pir, piir, plir, pvr, pdup, pdup2, pret, xjmp, xcon, xfd, xcl_, xcall, xbr, xsw, xtsw, xst1, xst2, xkill, xpush, xcat, xcl, xar, xkd, xrf, xmask, mR, mL, List.getElem?_cons_zero, List.getElem?_cons_succ, List.lookup_nil, List.lookup_cons, Nat.reduceAdd, Nat.reduceSub, Nat.reduceLeDiff, Nat.reduceEqDiff, Nat.reduceBEq, List.length_cons, List.length_nil, List.replicate, List.append_nil, List.nil_append, List.cons_append, List.set_cons_zero, List.set_cons_succ, List.take_succ_cons, List.take_zero, List.drop_succ_cons, List.drop_zero, List.reverse_cons, List.reverse_nil, List.map_cons, List.map_nil, List.sum_cons, List.sum_nil, decide_true, decide_false, and_self, and_true, true_and, true_or, or_true, Fin.isValue, Fin.val_zero, Fin.val_one, Fin.val_two, Fin.reduceFinMk, Nat.reduceMod, Option.some.injEq, Sum.inl.injEq, Sum.inr.injEq, Prod.mk.injEq, eq_self, reduceCtorEq, imp_self, implies_true, Nat.zero_add, Nat.add_zero, Nat.zero_le, Int.reduceEq, Int.reduceLT, Int.reduceLE, Int.reduceNeg, not_true, not_false_iff, false_imp_iff, true_imp_iff, forall_const, or_self, or_false, false_or, and_false, false_and, ↓reduceIte, z_0, z_1, z_f1, z_f2, z_f3, Int.reduceToNat, Int.reduceAdd, ct_X0_feetUntil, mi_X0_feetUntil]
          refine CW.mono (c_goFoot h1 hokn w w0 w1) ?_
          rintro _ M2 ⟨rfl, h2, hf2⟩
          rw [ft_s] at hft
          rw [if_neg hne2] at hft
          refine st_X0_feetUntil [(6, [true, true, true, true, true, true])] 10 ?_
          simp only [sy, xisC, sxI, xgI, xgL, xgR, xent, xargs0, p1i, p2i, p1l, p2l, pli, p1r, pir, piir, plir, pvr, pdup, pdup2, pret, xjmp, xcon, xfd, xcl_, xcall, xbr, xsw, xtsw, xst1, xst2, xkill, xpush, xcat, xcl, xar, xkd, xrf, xmask, mR, mL, List.getElem?_cons_zero, List.getElem?_cons_succ, List.lookup_nil, List.lookup_cons, Nat.reduceAdd, Nat.reduceSub, Nat.reduceLeDiff, Nat.reduceEqDiff, Nat.reduceBEq, List.length_cons, List.length_nil, List.replicate, List.append_nil, List.nil_append, List.cons_append, List.set_cons_zero, List.set_cons_succ, List.take_succ_cons, List.take_zero, List.drop_succ_cons, List.drop_zero, List.reverse_cons, List.reverse_nil, List.map_cons, List.map_nil, List.sum_cons, List.sum_nil, decide_true, decide_false, and_self, and_true, true_and, true_or, or_true, Fin.isValue, Fin.val_zero, Fin.val_one, Fin.val_two, Fin.reduceFinMk, Nat.reduceMod, Option.some.injEq, Sum.inl.injEq, Sum.inr.injEq, Prod.mk.injEq, eq_self, reduceCtorEq, imp_self, implies_true, Nat.zero_add, Nat.add_zero, Nat.zero_le, Int.reduceEq, Int.reduceLT, Int.reduceLE, Int.reduceNeg, not_true, not_false_iff, false_imp_iff, true_imp_iff, forall_const, or_self, or_false, false_or, and_false, false_and, ↓reduceIte, z_0, z_1, z_f1, z_f2, z_f3, Int.reduceToNat, Int.reduceAdd, ct_X0_feetUntil, mi_X0_feetUntil]
          rw [w32_id (by omega) (by omega)]
          exact ih (n + 1) M2 (by omega) h2 (frG_tr hf1 hf2) hft
        · rw [if_neg hr]
          refine st_X0_feetUntil [] 10 ?_
          simp only [sy, xisC, sxI, xgI, xgL, xgR, xent, xargs0, p1i, p2i, p1l, p2l, pli, p1r, pir, piir, plir, pvr, pdup, pdup2, pret, xjmp, xcon, xfd, xcl_, xcall, xbr, xsw, xtsw, xst1, xst2, xkill, xpush, xcat, xcl, xar, xkd, xrf, xmask, mR, mL, List.getElem?_cons_zero, List.getElem?_cons_succ, List.lookup_nil, List.lookup_cons, Nat.reduceAdd, Nat.reduceSub, Nat.reduceLeDiff, Nat.reduceEqDiff, Nat.reduceBEq, List.length_cons, List.length_nil, List.replicate, List.append_nil, List.nil_append, List.cons_append, List.set_cons_zero, List.set_cons_succ, List.take_succ_cons, List.take_zero, List.drop_succ_cons, List.drop_zero, List.reverse_cons, List.reverse_nil, List.map_cons, List.map_nil, List.sum_cons, List.sum_nil, decide_true, decide_false, and_self, and_true, true_and, true_or, or_true, Fin.isValue, Fin.val_zero, Fin.val_one, Fin.val_two, Fin.reduceFinMk, Nat.reduceMod, Option.some.injEq, Sum.inl.injEq, Sum.inr.injEq, Prod.mk.injEq, eq_self, reduceCtorEq, imp_self, implies_true, Nat.zero_add, Nat.add_zero, Nat.zero_le, Int.reduceEq, Int.reduceLT, Int.reduceLE, Int.reduceNeg, not_true, not_false_iff, false_imp_iff, true_imp_iff, forall_const, or_self, or_false, false_or, and_false, false_and, ↓reduceIte, z_0, z_1, z_f1, z_f2, z_f3, Int.reduceToNat, Int.reduceAdd, ct_X0_feetUntil, mi_X0_feetUntil, n1z]
          exact ⟨by rw [hft, hrf hr hne2], hf1⟩
      · have heq2 : feetW nd al n N (6 * d + 1) = c := nc_inj hC hc heq
        rw [ft_s] at hft
        rw [if_pos heq2] at hft
        exact ⟨hft.symm, hf1⟩
  refine in_X0_feetUntil (Nat.le_of_ble_eq_true rfl) ?_
  refine st_X0_feetUntil [] 4 ?_
  simp only [sy, xisC, sxI, xgI, xgL, xgR, xent, xargs0, p1i, p2i, p1l, p2l, pli, p1r, pir, piir, plir, pvr, pdup, pdup2, pret, xjmp, xcon, xfd, xcl_, xcall, xbr, xsw, xtsw, xst1, xst2, xkill, xpush, xcat, xcl, xar, xkd, xrf, xmask, mR, mL, List.getElem?_cons_zero, List.getElem?_cons_succ, List.lookup_nil, List.lookup_cons, Nat.reduceAdd, Nat.reduceSub, Nat.reduceLeDiff, Nat.reduceEqDiff, Nat.reduceBEq, List.length_cons, List.length_nil, List.replicate, List.append_nil, List.nil_append, List.cons_append, List.set_cons_zero, List.set_cons_succ, List.take_succ_cons, List.take_zero, List.drop_succ_cons, List.drop_zero, List.reverse_cons, List.reverse_nil, List.map_cons, List.map_nil, List.sum_cons, List.sum_nil, decide_true, decide_false, and_self, and_true, true_and, true_or, or_true, Fin.isValue, Fin.val_zero, Fin.val_one, Fin.val_two, Fin.reduceFinMk, Nat.reduceMod, Option.some.injEq, Sum.inl.injEq, Sum.inr.injEq, Prod.mk.injEq, eq_self, reduceCtorEq, imp_self, implies_true, Nat.zero_add, Nat.add_zero, Nat.zero_le, Int.reduceEq, Int.reduceLT, Int.reduceLE, Int.reduceNeg, not_true, not_false_iff, false_imp_iff, true_imp_iff, forall_const, or_self, or_false, false_or, and_false, false_and, ↓reduceIte, z_0, z_1, z_f1, z_f2, z_f3, Int.reduceToNat, Int.reduceAdd, ct_X0_feetUntil, mi_X0_feetUntil]
  refine CW.mono (c_bearingOn h hok hd) ?_
  rintro _ M1 ⟨w, rfl, hM1, w0, w1, hwd, hcl⟩
  rw [hM1]
  refine st_X0_feetUntil [(6, [true, true, true, true, true, true])] 4 ?_
  simp only [sy, xisC, sxI, xgI, xgL, xgR, xent, xargs0, p1i, p2i, p1l, p2l, pli, p1r, pir, piir, plir, pvr, pdup, pdup2, pret, xjmp, xcon, xfd, xcl_, xcall, xbr, xsw, xtsw, xst1, xst2, xkill, xpush, xcat, xcl, xar, xkd, xrf, xmask, mR, mL, List.getElem?_cons_zero, List.getElem?_cons_succ, List.lookup_nil, List.lookup_cons, Nat.reduceAdd, Nat.reduceSub, Nat.reduceLeDiff, Nat.reduceEqDiff, Nat.reduceBEq, List.length_cons, List.length_nil, List.replicate, List.append_nil, List.nil_append, List.cons_append, List.set_cons_zero, List.set_cons_succ, List.take_succ_cons, List.take_zero, List.drop_succ_cons, List.drop_zero, List.reverse_cons, List.reverse_nil, List.map_cons, List.map_nil, List.sum_cons, List.sum_nil, decide_true, decide_false, and_self, and_true, true_and, true_or, or_true, Fin.isValue, Fin.val_zero, Fin.val_one, Fin.val_two, Fin.reduceFinMk, Nat.reduceMod, Option.some.injEq, Sum.inl.injEq, Sum.inr.injEq, Prod.mk.injEq, eq_self, reduceCtorEq, imp_self, implies_true, Nat.zero_add, Nat.add_zero, Nat.zero_le, Int.reduceEq, Int.reduceLT, Int.reduceLE, Int.reduceNeg, not_true, not_false_iff, false_imp_iff, true_imp_iff, forall_const, or_self, or_false, false_or, and_false, false_and, ↓reduceIte, z_0, z_1, z_f1, z_f2, z_f3, Int.reduceToNat, Int.reduceAdd, ct_X0_feetUntil, mi_X0_feetUntil]
  exact loop w w0 w1 hwd hcl m 0 M (by omega) h frG_rf rfl

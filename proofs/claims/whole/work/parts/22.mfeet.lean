/-! ===== the model's footGoes, feetGo ===== -/
def al : Nat → Bool := fun _ => true
theorem tr_up {nd d : Nat} {N : Nat → Int} (hd : d < nd) (h : (nu N (6 * d + 4) (N (6 * d + 4) - 1)) (6 * d) ≠ 3 ∧ headF ((nu N (6 * d + 4) (N (6 * d + 4) - 1)) (6 * d + 1)) (wantF nd (nu N (6 * d + 4) (N (6 * d + 4) - 1)) d) < 0 ∧ (nu N (6 * d + 4) (N (6 * d + 4) - 1)) (6 * d) ≠ 2) : dig1 nd N d = nu (trnF nd (nu N (6 * d + 4) (N (6 * d + 4) - 1)) d) (6 * d + 5) 1 := by
  rw [dig1_eq hd]
  have e : nu N (6 * d + 4) (N (6 * d + 4) - 1) (6 * d) = N (6 * d) := nu_k (by omega)
  unfold turnF trnF
  rw [e] at h ⊢
  rw [if_neg h.1, if_pos h.2.1, if_neg h.2.2, if_pos (Or.inr h.2.1)]
theorem tr_st {nd d : Nat} {N : Nat → Int} (hd : d < nd) (h : ¬ ((nu N (6 * d + 4) (N (6 * d + 4) - 1)) (6 * d) ≠ 3 ∧ headF ((nu N (6 * d + 4) (N (6 * d + 4) - 1)) (6 * d + 1)) (wantF nd (nu N (6 * d + 4) (N (6 * d + 4) - 1)) d) < 0 ∧ (nu N (6 * d + 4) (N (6 * d + 4) - 1)) (6 * d) ≠ 2)) : dig1 nd N d = stepF (trnF nd (nu N (6 * d + 4) (N (6 * d + 4) - 1)) d) d := by
  rw [dig1_eq hd]
  have e : nu N (6 * d + 4) (N (6 * d + 4) - 1) (6 * d) = N (6 * d) := nu_k (by omega)
  unfold turnF trnF
  rw [e] at h ⊢
  by_cases h3 : N (6 * d) = 3
  · rw [if_pos h3, if_pos (Or.inl h3)]
  · rw [if_neg h3]
    by_cases hh : headF ((nu N (6 * d + 4) (N (6 * d + 4) - 1)) (6 * d + 1)) (wantF nd (nu N (6 * d + 4) (N (6 * d + 4) - 1)) d) < 0
    · rw [if_pos hh, if_pos (Or.inr hh), if_pos]
      rcases Decidable.em (N (6 * d) = 2) with q | q
      · exact q
      · exact absurd ⟨h3, hh, q⟩ h
    · have hor : ¬ (N (6 * d) = 3 ∨ headF ((nu N (6 * d + 4) (N (6 * d + 4) - 1)) (6 * d + 1)) (wantF nd (nu N (6 * d + 4) (N (6 * d + 4) - 1)) d) < 0) := fun q => q.elim h3 hh
      rw [if_neg hh, if_neg hor]
theorem ok_trn {nd d : Nat} {N : Nat → Int} (hok : okN nd N) (hd : d < nd) : okN nd (trnF nd N d) := by
  have h4 : d < 4 := Nat.lt_of_lt_of_le hd hok.1
  have hr := headF_rng (N (6 * d + 1)) (wantF nd N d)
  unfold trnF
  split
  · exact hok
  · rename_i hq
    have : ¬ headF (N (6 * d + 1)) (wantF nd N d) < 0 := fun q => hq (Or.inr q)
    exact okN_f hok h4 (by decide) ⟨by omega, by omega, by omega, fun _ => by split <;> omega, by omega, by omega⟩
set_option maxRecDepth 100000 in
theorem c_footGoes {M : XM} {nd : Nat} {N : Nat → Int} (h : M 24 0 = N) (hn : M 22 0 3 = nd) (hok : okN nd N) : CW mi_X4_footGoes [xR 22 0] M (fun r M' => r = none ∧ M' 24 0 = footW nd al N ∧ frN M M') := by
  have hn4 := hok.1
  obtain ⟨hokw, -⟩ := ok_words hok
  have loop : ∀ (n d : Nat) (M1 : XM), d + n = nd → M1 24 0 = digs nd al d (wordsF N) → frN M M1 → J_X4_footGoes (fun r M' => r = none ∧ M' 24 0 = footW nd al N ∧ frN M M') 4 [some (xR 22 0), some (xI d)] [] M1 := by
    intro n
    induction n with
    | zero =>
      intro d M1 hdn h1 hf1
      have hd : d = nd := by omega
      subst hd
      have gn : M1 22 0 3 = d := by rw [hf1 22 0 (by decide)]; exact hn
      have hf24 := (ok_digs (who := al) hokw d (Nat.le_refl _)).1.2.2.1
      rw [← h1] at hf24
      have g24 : M1 24 0 24 = digs d al d (wordsF N) 24 := by rw [h1]
      refine st_X4_footGoes [] 30 ?_
      simp only [sy, xisC, sxI, xgI, xgL, xgR, xent, xargs0, p1i, p2i, p1l, p2l, pli, p1r, pir, piir, plir, pvr, pdup, pdup2, pret, xjmp, xcon, xfd, xcl_, xcall, xbr, xsw, xtsw, xst1, xst2, xkill, xpush, xcat, xcl, xar, xkd, xrf, xmask, mR, mL, List.getElem?_cons_zero, List.getElem?_cons_succ, List.lookup_nil, List.lookup_cons, Nat.reduceAdd, Nat.reduceSub, Nat.reduceLeDiff, Nat.reduceEqDiff, Nat.reduceBEq, List.length_cons, List.length_nil, List.replicate, List.append_nil, List.nil_append, List.cons_append, List.set_cons_zero, List.set_cons_succ, List.take_succ_cons, List.take_zero, List.drop_succ_cons, List.drop_zero, List.reverse_cons, List.reverse_nil, List.map_cons, List.map_nil, List.sum_cons, List.sum_nil, decide_true, decide_false, and_self, and_true, true_and, true_or, or_true, Fin.isValue, Fin.val_zero, Fin.val_one, Fin.val_two, Fin.reduceFinMk, Nat.reduceMod, Option.some.injEq, Sum.inl.injEq, Sum.inr.injEq, Prod.mk.injEq, eq_self, reduceCtorEq, imp_self, implies_true, Nat.zero_add, Nat.add_zero, Nat.zero_le, Int.reduceEq, Int.reduceLT, Int.reduceLE, Int.reduceNeg, not_true, not_false_iff, false_imp_iff, true_imp_iff, forall_const, or_self, or_false, false_or, and_false, false_and, ↓reduceIte, z_0, z_1, z_f1, z_f2, z_f3, Int.reduceToNat, ct_X4_footGoes, mi_X4_footGoes, gn]
      refine ⟨fun _ => ⟨by omega, by omega, fun q => ?_, fun q => ?_⟩, fun q => absurd q (by omega)⟩
      · refine CW.mono (c_flag M1 0) ?_
        rintro _ M1 ⟨rfl, hM1⟩; rw [hM1]; clear hM1 M1
        refine st_X4_footGoes [] 30 ?_
        simp only [sy, xisC, sxI, xgI, xgL, xgR, xent, xargs0, p1i, p2i, p1l, p2l, pli, p1r, pir, piir, plir, pvr, pdup, pdup2, pret, xjmp, xcon, xfd, xcl_, xcall, xbr, xsw, xtsw, xst1, xst2, xkill, xpush, xcat, xcl, xar, xkd, xrf, xmask, mR, mL, List.getElem?_cons_zero, List.getElem?_cons_succ, List.lookup_nil, List.lookup_cons, Nat.reduceAdd, Nat.reduceSub, Nat.reduceLeDiff, Nat.reduceEqDiff, Nat.reduceBEq, List.length_cons, List.length_nil, List.replicate, List.append_nil, List.nil_append, List.cons_append, List.set_cons_zero, List.set_cons_succ, List.take_succ_cons, List.take_zero, List.drop_succ_cons, List.drop_zero, List.reverse_cons, List.reverse_nil, List.map_cons, List.map_nil, List.sum_cons, List.sum_nil, decide_true, decide_false, and_self, and_true, true_and, true_or, or_true, Fin.isValue, Fin.val_zero, Fin.val_one, Fin.val_two, Fin.reduceFinMk, Nat.reduceMod, Option.some.injEq, Sum.inl.injEq, Sum.inr.injEq, Prod.mk.injEq, eq_self, reduceCtorEq, imp_self, implies_true, Nat.zero_add, Nat.add_zero, Nat.zero_le, Int.reduceEq, Int.reduceLT, Int.reduceLE, Int.reduceNeg, not_true, not_false_iff, false_imp_iff, true_imp_iff, forall_const, or_self, or_false, false_or, and_false, false_and, ↓reduceIte, z_0, z_1, z_f1, z_f2, z_f3, Int.reduceToNat, ct_X4_footGoes, mi_X4_footGoes]
        rw [w32_id (by omega) (by omega)]
        refine ⟨by omega, ?_, frN_up hf1⟩
        rw [xup_N]
        unfold footW
        rw [← h1, if_neg q, Int.add_zero]
      · refine CW.mono (c_flag M1 1) ?_
        rintro _ M1 ⟨rfl, hM1⟩; rw [hM1]; clear hM1 M1
        refine st_X4_footGoes [] 30 ?_
        simp only [sy, xisC, sxI, xgI, xgL, xgR, xent, xargs0, p1i, p2i, p1l, p2l, pli, p1r, pir, piir, plir, pvr, pdup, pdup2, pret, xjmp, xcon, xfd, xcl_, xcall, xbr, xsw, xtsw, xst1, xst2, xkill, xpush, xcat, xcl, xar, xkd, xrf, xmask, mR, mL, List.getElem?_cons_zero, List.getElem?_cons_succ, List.lookup_nil, List.lookup_cons, Nat.reduceAdd, Nat.reduceSub, Nat.reduceLeDiff, Nat.reduceEqDiff, Nat.reduceBEq, List.length_cons, List.length_nil, List.replicate, List.append_nil, List.nil_append, List.cons_append, List.set_cons_zero, List.set_cons_succ, List.take_succ_cons, List.take_zero, List.drop_succ_cons, List.drop_zero, List.reverse_cons, List.reverse_nil, List.map_cons, List.map_nil, List.sum_cons, List.sum_nil, decide_true, decide_false, and_self, and_true, true_and, true_or, or_true, Fin.isValue, Fin.val_zero, Fin.val_one, Fin.val_two, Fin.reduceFinMk, Nat.reduceMod, Option.some.injEq, Sum.inl.injEq, Sum.inr.injEq, Prod.mk.injEq, eq_self, reduceCtorEq, imp_self, implies_true, Nat.zero_add, Nat.add_zero, Nat.zero_le, Int.reduceEq, Int.reduceLT, Int.reduceLE, Int.reduceNeg, not_true, not_false_iff, false_imp_iff, true_imp_iff, forall_const, or_self, or_false, false_or, and_false, false_and, ↓reduceIte, z_0, z_1, z_f1, z_f2, z_f3, Int.reduceToNat, ct_X4_footGoes, mi_X4_footGoes, show ¬ (1 : Int) = 0 by decide]
        rw [w32_id (by omega) (by omega)]
        refine ⟨by omega, ?_, frN_up hf1⟩
        rw [xup_N]
        unfold footW
        rw [← h1, if_pos q]
    | succ n ih =>
      intro d M1 hdn h1 hf1
      have hd : d < nd := by omega
      have h4 : d < 4 := by omega
      have gn : M1 22 0 3 = nd := by rw [hf1 22 0 (by decide)]; exact hn
      have hokd := (ok_digs (who := al) hokw d (by omega)).1
      have next : ∀ M2 : XM, M2 24 0 = digs nd al (d + 1) (wordsF N) → frN M M2 → J_X4_footGoes (fun r M' => r = none ∧ M' 24 0 = footW nd al N ∧ frN M M') 41 [some (xR 22 0), some (xI d)] [] M2 := by
        intro M2 h2 hf2
        refine st_X4_footGoes [(4, [true, true])] 4 ?_
        simp only [sy, xisC, sxI, xgI, xgL, xgR, xent, xargs0, p1i, p2i, p1l, p2l, pli, p1r, pir, piir, plir, pvr, pdup, pdup2, pret, xjmp, xcon, xfd, xcl_, xcall, xbr, xsw, xtsw, xst1, xst2, xkill, xpush, xcat, xcl, xar, xkd, xrf, xmask, mR, mL, List.getElem?_cons_zero, List.getElem?_cons_succ, List.lookup_nil, List.lookup_cons, Nat.reduceAdd, Nat.reduceSub, Nat.reduceLeDiff, Nat.reduceEqDiff, Nat.reduceBEq, List.length_cons, List.length_nil, List.replicate, List.append_nil, List.nil_append, List.cons_append, List.set_cons_zero, List.set_cons_succ, List.take_succ_cons, List.take_zero, List.drop_succ_cons, List.drop_zero, List.reverse_cons, List.reverse_nil, List.map_cons, List.map_nil, List.sum_cons, List.sum_nil, decide_true, decide_false, and_self, and_true, true_and, true_or, or_true, Fin.isValue, Fin.val_zero, Fin.val_one, Fin.val_two, Fin.reduceFinMk, Nat.reduceMod, Option.some.injEq, Sum.inl.injEq, Sum.inr.injEq, Prod.mk.injEq, eq_self, reduceCtorEq, imp_self, implies_true, Nat.zero_add, Nat.add_zero, Nat.zero_le, Int.reduceEq, Int.reduceLT, Int.reduceLE, Int.reduceNeg, not_true, not_false_iff, false_imp_iff, true_imp_iff, forall_const, or_self, or_false, false_or, and_false, false_and, ↓reduceIte, z_0, z_1, z_f1, z_f2, z_f3, Int.reduceToNat, ct_X4_footGoes, mi_X4_footGoes]
        rw [w32_id (by omega) (by omega)]
        exact ih (d + 1) M2 (by omega) h2 hf2
      have ed : digs nd al (d + 1) (wordsF N) = if al d = true ∧ digs nd al d (wordsF N) (6 * d + 5) = 0 ∧ 0 < digs nd al d (wordsF N) (6 * d + 4) then dig1 nd (digs nd al d (wordsF N)) d else digs nd al d (wordsF N) := rfl
      rw [ed, ← h1] at next
      rw [← h1] at hokd
      generalize hN1 : M1 24 0 = N1 at next hokd
      clear ed
      obtain ⟨hk, ha, hm, hh, hfa, -⟩ := hokd.2.1 d hd
      refine st_X4_footGoes [] 10 ?_
      simp only [sy, xisC, sxI, xgI, xgL, xgR, xent, xargs0, p1i, p2i, p1l, p2l, pli, p1r, pir, piir, plir, pvr, pdup, pdup2, pret, xjmp, xcon, xfd, xcl_, xcall, xbr, xsw, xtsw, xst1, xst2, xkill, xpush, xcat, xcl, xar, xkd, xrf, xmask, mR, mL, List.getElem?_cons_zero, List.getElem?_cons_succ, List.lookup_nil, List.lookup_cons, Nat.reduceAdd, Nat.reduceSub, Nat.reduceLeDiff, Nat.reduceEqDiff, Nat.reduceBEq, List.length_cons, List.length_nil, List.replicate, List.append_nil, List.nil_append, List.cons_append, List.set_cons_zero, List.set_cons_succ, List.take_succ_cons, List.take_zero, List.drop_succ_cons, List.drop_zero, List.reverse_cons, List.reverse_nil, List.map_cons, List.map_nil, List.sum_cons, List.sum_nil, decide_true, decide_false, and_self, and_true, true_and, true_or, or_true, Fin.isValue, Fin.val_zero, Fin.val_one, Fin.val_two, Fin.reduceFinMk, Nat.reduceMod, Option.some.injEq, Sum.inl.injEq, Sum.inr.injEq, Prod.mk.injEq, eq_self, reduceCtorEq, imp_self, implies_true, Nat.zero_add, Nat.add_zero, Nat.zero_le, Int.reduceEq, Int.reduceLT, Int.reduceLE, Int.reduceNeg, not_true, not_false_iff, false_imp_iff, true_imp_iff, forall_const, or_self, or_false, false_or, and_false, false_and, ↓reduceIte, z_0, z_1, z_f1, z_f2, z_f3, Int.reduceToNat, ct_X4_footGoes, mi_X4_footGoes, gn]
      refine ⟨fun q => absurd q (by omega), fun _ => ?_⟩
      refine CW.mono (c_of M1 d 5 5 rfl (by omega)) ?_
      rintro _ M1 ⟨rfl, hM1⟩; rw [hM1]; clear hM1 M1
      rw [hN1]
      refine st_X4_footGoes [(41, [true, true])] 10 ?_
      simp only [sy, xisC, sxI, xgI, xgL, xgR, xent, xargs0, p1i, p2i, p1l, p2l, pli, p1r, pir, piir, plir, pvr, pdup, pdup2, pret, xjmp, xcon, xfd, xcl_, xcall, xbr, xsw, xtsw, xst1, xst2, xkill, xpush, xcat, xcl, xar, xkd, xrf, xmask, mR, mL, List.getElem?_cons_zero, List.getElem?_cons_succ, List.lookup_nil, List.lookup_cons, Nat.reduceAdd, Nat.reduceSub, Nat.reduceLeDiff, Nat.reduceEqDiff, Nat.reduceBEq, List.length_cons, List.length_nil, List.replicate, List.append_nil, List.nil_append, List.cons_append, List.set_cons_zero, List.set_cons_succ, List.take_succ_cons, List.take_zero, List.drop_succ_cons, List.drop_zero, List.reverse_cons, List.reverse_nil, List.map_cons, List.map_nil, List.sum_cons, List.sum_nil, decide_true, decide_false, and_self, and_true, true_and, true_or, or_true, Fin.isValue, Fin.val_zero, Fin.val_one, Fin.val_two, Fin.reduceFinMk, Nat.reduceMod, Option.some.injEq, Sum.inl.injEq, Sum.inr.injEq, Prod.mk.injEq, eq_self, reduceCtorEq, imp_self, implies_true, Nat.zero_add, Nat.add_zero, Nat.zero_le, Int.reduceEq, Int.reduceLT, Int.reduceLE, Int.reduceNeg, not_true, not_false_iff, false_imp_iff, true_imp_iff, forall_const, or_self, or_false, false_or, and_false, false_and, ↓reduceIte, z_0, z_1, z_f1, z_f2, z_f3, Int.reduceToNat, ct_X4_footGoes, mi_X4_footGoes]
      refine ⟨fun h5 => ?_, fun h5 => ?_⟩
      · rw [if_neg (fun q => h5 q.2.1)] at next
        exact next M1 hN1 hf1
      refine CW.mono (c_of M1 d 4 4 rfl (by omega)) ?_
      rintro _ M1 ⟨rfl, hM1⟩; rw [hM1]; clear hM1 M1
      rw [hN1]
      refine st_X4_footGoes [(41, [true, true])] 10 ?_
      simp only [sy, xisC, sxI, xgI, xgL, xgR, xent, xargs0, p1i, p2i, p1l, p2l, pli, p1r, pir, piir, plir, pvr, pdup, pdup2, pret, xjmp, xcon, xfd, xcl_, xcall, xbr, xsw, xtsw, xst1, xst2, xkill, xpush, xcat, xcl, xar, xkd, xrf, xmask, mR, mL, List.getElem?_cons_zero, List.getElem?_cons_succ, List.lookup_nil, List.lookup_cons, Nat.reduceAdd, Nat.reduceSub, Nat.reduceLeDiff, Nat.reduceEqDiff, Nat.reduceBEq, List.length_cons, List.length_nil, List.replicate, List.append_nil, List.nil_append, List.cons_append, List.set_cons_zero, List.set_cons_succ, List.take_succ_cons, List.take_zero, List.drop_succ_cons, List.drop_zero, List.reverse_cons, List.reverse_nil, List.map_cons, List.map_nil, List.sum_cons, List.sum_nil, decide_true, decide_false, and_self, and_true, true_and, true_or, or_true, Fin.isValue, Fin.val_zero, Fin.val_one, Fin.val_two, Fin.reduceFinMk, Nat.reduceMod, Option.some.injEq, Sum.inl.injEq, Sum.inr.injEq, Prod.mk.injEq, eq_self, reduceCtorEq, imp_self, implies_true, Nat.zero_add, Nat.add_zero, Nat.zero_le, Int.reduceEq, Int.reduceLT, Int.reduceLE, Int.reduceNeg, not_true, not_false_iff, false_imp_iff, true_imp_iff, forall_const, or_self, or_false, false_or, and_false, false_and, ↓reduceIte, z_0, z_1, z_f1, z_f2, z_f3, Int.reduceToNat, ct_X4_footGoes, mi_X4_footGoes]
      refine ⟨fun h5 => ?_, fun h6 => ?_⟩
      · rw [if_neg (fun q => by omega)] at next
        exact next M1 hN1 hf1
      rw [if_pos ⟨rfl, h5, h6⟩] at next
      have hok1 : okN nd (nu N1 (6 * d + 4) (N1 (6 * d + 4) - 1)) := okN_f hokd h4 (by decide) ⟨by omega, by omega, by omega, by omega, by omega, by omega⟩
      refine CW.mono (c_of M1 d 4 4 rfl (by omega)) ?_
      rintro _ M1 ⟨rfl, hM1⟩; rw [hM1]; clear hM1 M1
      rw [hN1]
      refine st_X4_footGoes [] 10 ?_
      simp only [sy, xisC, sxI, xgI, xgL, xgR, xent, xargs0, p1i, p2i, p1l, p2l, pli, p1r, pir, piir, plir, pvr, pdup, pdup2, pret, xjmp, xcon, xfd, xcl_, xcall, xbr, xsw, xtsw, xst1, xst2, xkill, xpush, xcat, xcl, xar, xkd, xrf, xmask, mR, mL, List.getElem?_cons_zero, List.getElem?_cons_succ, List.lookup_nil, List.lookup_cons, Nat.reduceAdd, Nat.reduceSub, Nat.reduceLeDiff, Nat.reduceEqDiff, Nat.reduceBEq, List.length_cons, List.length_nil, List.replicate, List.append_nil, List.nil_append, List.cons_append, List.set_cons_zero, List.set_cons_succ, List.take_succ_cons, List.take_zero, List.drop_succ_cons, List.drop_zero, List.reverse_cons, List.reverse_nil, List.map_cons, List.map_nil, List.sum_cons, List.sum_nil, decide_true, decide_false, and_self, and_true, true_and, true_or, or_true, Fin.isValue, Fin.val_zero, Fin.val_one, Fin.val_two, Fin.reduceFinMk, Nat.reduceMod, Option.some.injEq, Sum.inl.injEq, Sum.inr.injEq, Prod.mk.injEq, eq_self, reduceCtorEq, imp_self, implies_true, Nat.zero_add, Nat.add_zero, Nat.zero_le, Int.reduceEq, Int.reduceLT, Int.reduceLE, Int.reduceNeg, not_true, not_false_iff, false_imp_iff, true_imp_iff, forall_const, or_self, or_false, false_or, and_false, false_and, ↓reduceIte, z_0, z_1, z_f1, z_f2, z_f3, Int.reduceToNat, ct_X4_footGoes, mi_X4_footGoes]
      rw [w32_id (by omega) (by omega)]
      refine CW.mono (c_becomesOf M1 d 4 4 (N1 (6 * d + 4) - 1) rfl (by omega)) ?_
      rintro _ M2 ⟨rfl, hM2⟩
      have hN2 : M2 24 0 = nu N1 (6 * d + 4) (N1 (6 * d + 4) - 1) := by rw [hM2, xup_N, hN1]
      have hf2 : frN M M2 := by rw [hM2]; exact frN_up hf1
      have gn2 : M2 22 0 3 = nd := by rw [hf2 22 0 (by decide)]; exact hn
      clear hM2
      refine st_X4_footGoes [] 10 ?_
      simp only [sy, xisC, sxI, xgI, xgL, xgR, xent, xargs0, p1i, p2i, p1l, p2l, pli, p1r, pir, piir, plir, pvr, pdup, pdup2, pret, xjmp, xcon, xfd, xcl_, xcall, xbr, xsw, xtsw, xst1, xst2, xkill, xpush, xcat, xcl, xar, xkd, xrf, xmask, mR, mL, List.getElem?_cons_zero, List.getElem?_cons_succ, List.lookup_nil, List.lookup_cons, Nat.reduceAdd, Nat.reduceSub, Nat.reduceLeDiff, Nat.reduceEqDiff, Nat.reduceBEq, List.length_cons, List.length_nil, List.replicate, List.append_nil, List.nil_append, List.cons_append, List.set_cons_zero, List.set_cons_succ, List.take_succ_cons, List.take_zero, List.drop_succ_cons, List.drop_zero, List.reverse_cons, List.reverse_nil, List.map_cons, List.map_nil, List.sum_cons, List.sum_nil, decide_true, decide_false, and_self, and_true, true_and, true_or, or_true, Fin.isValue, Fin.val_zero, Fin.val_one, Fin.val_two, Fin.reduceFinMk, Nat.reduceMod, Option.some.injEq, Sum.inl.injEq, Sum.inr.injEq, Prod.mk.injEq, eq_self, reduceCtorEq, imp_self, implies_true, Nat.zero_add, Nat.add_zero, Nat.zero_le, Int.reduceEq, Int.reduceLT, Int.reduceLE, Int.reduceNeg, not_true, not_false_iff, false_imp_iff, true_imp_iff, forall_const, or_self, or_false, false_or, and_false, false_and, ↓reduceIte, z_0, z_1, z_f1, z_f2, z_f3, Int.reduceToNat, ct_X4_footGoes, mi_X4_footGoes]
      refine CW.mono (c_turns hN2 gn2 hok1 hd) ?_
      rintro _ M3 ⟨rfl, hN3, hf3⟩
      by_cases hup : (nu N1 (6 * d + 4) (N1 (6 * d + 4) - 1)) (6 * d) ≠ 3 ∧ headF ((nu N1 (6 * d + 4) (N1 (6 * d + 4) - 1)) (6 * d + 1)) (wantF nd (nu N1 (6 * d + 4) (N1 (6 * d + 4) - 1)) d) < 0 ∧ (nu N1 (6 * d + 4) (N1 (6 * d + 4) - 1)) (6 * d) ≠ 2
      · rw [if_pos hup]
        rw [tr_up hd hup] at next
        refine st_X4_footGoes [] 10 ?_
        simp only [sy, xisC, sxI, xgI, xgL, xgR, xent, xargs0, p1i, p2i, p1l, p2l, pli, p1r, pir, piir, plir, pvr, pdup, pdup2, pret, xjmp, xcon, xfd, xcl_, xcall, xbr, xsw, xtsw, xst1, xst2, xkill, xpush, xcat, xcl, xar, xkd, xrf, xmask, mR, mL, List.getElem?_cons_zero, List.getElem?_cons_succ, List.lookup_nil, List.lookup_cons, Nat.reduceAdd, Nat.reduceSub, Nat.reduceLeDiff, Nat.reduceEqDiff, Nat.reduceBEq, List.length_cons, List.length_nil, List.replicate, List.append_nil, List.nil_append, List.cons_append, List.set_cons_zero, List.set_cons_succ, List.take_succ_cons, List.take_zero, List.drop_succ_cons, List.drop_zero, List.reverse_cons, List.reverse_nil, List.map_cons, List.map_nil, List.sum_cons, List.sum_nil, decide_true, decide_false, and_self, and_true, true_and, true_or, or_true, Fin.isValue, Fin.val_zero, Fin.val_one, Fin.val_two, Fin.reduceFinMk, Nat.reduceMod, Option.some.injEq, Sum.inl.injEq, Sum.inr.injEq, Prod.mk.injEq, eq_self, reduceCtorEq, imp_self, implies_true, Nat.zero_add, Nat.add_zero, Nat.zero_le, Int.reduceEq, Int.reduceLT, Int.reduceLE, Int.reduceNeg, not_true, not_false_iff, false_imp_iff, true_imp_iff, forall_const, or_self, or_false, false_or, and_false, false_and, ↓reduceIte, z_0, z_1, z_f1, z_f2, z_f3, Int.reduceToNat, ct_X4_footGoes, mi_X4_footGoes, show ¬ (1 : Int) = 0 by decide]
        refine CW.mono (c_becomesOf M3 d 5 5 1 rfl (by omega)) ?_
        rintro _ M4 ⟨rfl, hM4⟩
        refine st_X4_footGoes [(41, [true, true])] 10 ?_
        simp only [sy, xisC, sxI, xgI, xgL, xgR, xent, xargs0, p1i, p2i, p1l, p2l, pli, p1r, pir, piir, plir, pvr, pdup, pdup2, pret, xjmp, xcon, xfd, xcl_, xcall, xbr, xsw, xtsw, xst1, xst2, xkill, xpush, xcat, xcl, xar, xkd, xrf, xmask, mR, mL, List.getElem?_cons_zero, List.getElem?_cons_succ, List.lookup_nil, List.lookup_cons, Nat.reduceAdd, Nat.reduceSub, Nat.reduceLeDiff, Nat.reduceEqDiff, Nat.reduceBEq, List.length_cons, List.length_nil, List.replicate, List.append_nil, List.nil_append, List.cons_append, List.set_cons_zero, List.set_cons_succ, List.take_succ_cons, List.take_zero, List.drop_succ_cons, List.drop_zero, List.reverse_cons, List.reverse_nil, List.map_cons, List.map_nil, List.sum_cons, List.sum_nil, decide_true, decide_false, and_self, and_true, true_and, true_or, or_true, Fin.isValue, Fin.val_zero, Fin.val_one, Fin.val_two, Fin.reduceFinMk, Nat.reduceMod, Option.some.injEq, Sum.inl.injEq, Sum.inr.injEq, Prod.mk.injEq, eq_self, reduceCtorEq, imp_self, implies_true, Nat.zero_add, Nat.add_zero, Nat.zero_le, Int.reduceEq, Int.reduceLT, Int.reduceLE, Int.reduceNeg, not_true, not_false_iff, false_imp_iff, true_imp_iff, forall_const, or_self, or_false, false_or, and_false, false_and, ↓reduceIte, z_0, z_1, z_f1, z_f2, z_f3, Int.reduceToNat, ct_X4_footGoes, mi_X4_footGoes]
        exact next M4 (by rw [hM4, xup_N, hN3]) (by rw [hM4]; exact frN_up (frN_tr hf2 hf3))
      · rw [if_neg hup]
        rw [tr_st hd hup] at next
        refine st_X4_footGoes [] 10 ?_
        simp only [sy, xisC, sxI, xgI, xgL, xgR, xent, xargs0, p1i, p2i, p1l, p2l, pli, p1r, pir, piir, plir, pvr, pdup, pdup2, pret, xjmp, xcon, xfd, xcl_, xcall, xbr, xsw, xtsw, xst1, xst2, xkill, xpush, xcat, xcl, xar, xkd, xrf, xmask, mR, mL, List.getElem?_cons_zero, List.getElem?_cons_succ, List.lookup_nil, List.lookup_cons, Nat.reduceAdd, Nat.reduceSub, Nat.reduceLeDiff, Nat.reduceEqDiff, Nat.reduceBEq, List.length_cons, List.length_nil, List.replicate, List.append_nil, List.nil_append, List.cons_append, List.set_cons_zero, List.set_cons_succ, List.take_succ_cons, List.take_zero, List.drop_succ_cons, List.drop_zero, List.reverse_cons, List.reverse_nil, List.map_cons, List.map_nil, List.sum_cons, List.sum_nil, decide_true, decide_false, and_self, and_true, true_and, true_or, or_true, Fin.isValue, Fin.val_zero, Fin.val_one, Fin.val_two, Fin.reduceFinMk, Nat.reduceMod, Option.some.injEq, Sum.inl.injEq, Sum.inr.injEq, Prod.mk.injEq, eq_self, reduceCtorEq, imp_self, implies_true, Nat.zero_add, Nat.add_zero, Nat.zero_le, Int.reduceEq, Int.reduceLT, Int.reduceLE, Int.reduceNeg, not_true, not_false_iff, false_imp_iff, true_imp_iff, forall_const, or_self, or_false, false_or, and_false, false_and, ↓reduceIte, z_0, z_1, z_f1, z_f2, z_f3, Int.reduceToNat, ct_X4_footGoes, mi_X4_footGoes]
        refine CW.mono (c_steps hN3 (ok_trn hok1 hd) hd) ?_
        rintro _ M4 ⟨rfl, hN4, hf4⟩
        exact next M4 hN4 (frN_tr (frN_tr hf2 hf3) hf4)
  refine in_X4_footGoes (Nat.le_of_ble_eq_true rfl) ?_
  refine st_X4_footGoes [] 4 ?_
  simp only [sy, xisC, sxI, xgI, xgL, xgR, xent, xargs0, p1i, p2i, p1l, p2l, pli, p1r, pir, piir, plir, pvr, pdup, pdup2, pret, xjmp, xcon, xfd, xcl_, xcall, xbr, xsw, xtsw, xst1, xst2, xkill, xpush, xcat, xcl, xar, xkd, xrf, xmask, mR, mL, List.getElem?_cons_zero, List.getElem?_cons_succ, List.lookup_nil, List.lookup_cons, Nat.reduceAdd, Nat.reduceSub, Nat.reduceLeDiff, Nat.reduceEqDiff, Nat.reduceBEq, List.length_cons, List.length_nil, List.replicate, List.append_nil, List.nil_append, List.cons_append, List.set_cons_zero, List.set_cons_succ, List.take_succ_cons, List.take_zero, List.drop_succ_cons, List.drop_zero, List.reverse_cons, List.reverse_nil, List.map_cons, List.map_nil, List.sum_cons, List.sum_nil, decide_true, decide_false, and_self, and_true, true_and, true_or, or_true, Fin.isValue, Fin.val_zero, Fin.val_one, Fin.val_two, Fin.reduceFinMk, Nat.reduceMod, Option.some.injEq, Sum.inl.injEq, Sum.inr.injEq, Prod.mk.injEq, eq_self, reduceCtorEq, imp_self, implies_true, Nat.zero_add, Nat.add_zero, Nat.zero_le, Int.reduceEq, Int.reduceLT, Int.reduceLE, Int.reduceNeg, not_true, not_false_iff, false_imp_iff, true_imp_iff, forall_const, or_self, or_false, false_or, and_false, false_and, ↓reduceIte, z_0, z_1, z_f1, z_f2, z_f3, Int.reduceToNat, ct_X4_footGoes, mi_X4_footGoes]
  refine CW.mono (c_wordsCome h hok) ?_
  rintro _ M1 ⟨rfl, h1, hf1⟩
  refine st_X4_footGoes [(4, [true, true])] 4 ?_
  simp only [sy, xisC, sxI, xgI, xgL, xgR, xent, xargs0, p1i, p2i, p1l, p2l, pli, p1r, pir, piir, plir, pvr, pdup, pdup2, pret, xjmp, xcon, xfd, xcl_, xcall, xbr, xsw, xtsw, xst1, xst2, xkill, xpush, xcat, xcl, xar, xkd, xrf, xmask, mR, mL, List.getElem?_cons_zero, List.getElem?_cons_succ, List.lookup_nil, List.lookup_cons, Nat.reduceAdd, Nat.reduceSub, Nat.reduceLeDiff, Nat.reduceEqDiff, Nat.reduceBEq, List.length_cons, List.length_nil, List.replicate, List.append_nil, List.nil_append, List.cons_append, List.set_cons_zero, List.set_cons_succ, List.take_succ_cons, List.take_zero, List.drop_succ_cons, List.drop_zero, List.reverse_cons, List.reverse_nil, List.map_cons, List.map_nil, List.sum_cons, List.sum_nil, decide_true, decide_false, and_self, and_true, true_and, true_or, or_true, Fin.isValue, Fin.val_zero, Fin.val_one, Fin.val_two, Fin.reduceFinMk, Nat.reduceMod, Option.some.injEq, Sum.inl.injEq, Sum.inr.injEq, Prod.mk.injEq, eq_self, reduceCtorEq, imp_self, implies_true, Nat.zero_add, Nat.add_zero, Nat.zero_le, Int.reduceEq, Int.reduceLT, Int.reduceLE, Int.reduceNeg, not_true, not_false_iff, false_imp_iff, true_imp_iff, forall_const, or_self, or_false, false_or, and_false, false_and, ↓reduceIte, z_0, z_1, z_f1, z_f2, z_f3, Int.reduceToNat, ct_X4_footGoes, mi_X4_footGoes]
  exact loop nd 0 M1 (by omega) h1 hf1
set_option maxRecDepth 100000 in
theorem c_feetGo {M : XM} {nd : Nat} {N : Nat → Int} (h : M 24 0 = N) (hn : M 22 0 3 = nd) (hok : okN nd N) (n : Nat) (hn2 : n < 1000) : CW mi_X4_feetGo [xR 22 0, xI n] M (fun r M' => r = none ∧ M' 24 0 = feetW nd al n N ∧ frN M M') := by
  have loop : ∀ (m k : Nat) (M1 : XM), k + m = n → M1 24 0 = feetW nd al k N → frN M M1 → J_X4_feetGo (fun r M' => r = none ∧ M' 24 0 = feetW nd al n N ∧ frN M M') 2 [some (xR 22 0), some (xI n), some (xI k)] [] M1 := by
    intro m
    induction m with
    | zero =>
      intro k M1 hk h1 hf1
      have hkn : k = n := by omega
      subst hkn
      refine st_X4_feetGo [] 8 ?_
      simp only [sy, xisC, sxI, xgI, xgL, xgR, xent, xargs0, p1i, p2i, p1l, p2l, pli, p1r, pir, piir, plir, pvr, pdup, pdup2, pret, xjmp, xcon, xfd, xcl_, xcall, xbr, xsw, xtsw, xst1, xst2, xkill, xpush, xcat, xcl, xar, xkd, xrf, xmask, mR, mL, List.getElem?_cons_zero, List.getElem?_cons_succ, List.lookup_nil, List.lookup_cons, Nat.reduceAdd, Nat.reduceSub, Nat.reduceLeDiff, Nat.reduceEqDiff, Nat.reduceBEq, List.length_cons, List.length_nil, List.replicate, List.append_nil, List.nil_append, List.cons_append, List.set_cons_zero, List.set_cons_succ, List.take_succ_cons, List.take_zero, List.drop_succ_cons, List.drop_zero, List.reverse_cons, List.reverse_nil, List.map_cons, List.map_nil, List.sum_cons, List.sum_nil, decide_true, decide_false, and_self, and_true, true_and, true_or, or_true, Fin.isValue, Fin.val_zero, Fin.val_one, Fin.val_two, Fin.reduceFinMk, Nat.reduceMod, Option.some.injEq, Sum.inl.injEq, Sum.inr.injEq, Prod.mk.injEq, eq_self, reduceCtorEq, imp_self, implies_true, Nat.zero_add, Nat.add_zero, Nat.zero_le, Int.reduceEq, Int.reduceLT, Int.reduceLE, Int.reduceNeg, not_true, not_false_iff, false_imp_iff, true_imp_iff, forall_const, or_self, or_false, false_or, and_false, false_and, ↓reduceIte, z_0, z_1, z_f1, z_f2, z_f3, Int.reduceToNat, ct_X4_feetGo, mi_X4_feetGo]
      exact ⟨fun _ => ⟨h1, hf1⟩, fun q => absurd q (by omega)⟩
    | succ m ih =>
      intro k M1 hk h1 hf1
      refine st_X4_feetGo [] 8 ?_
      simp only [sy, xisC, sxI, xgI, xgL, xgR, xent, xargs0, p1i, p2i, p1l, p2l, pli, p1r, pir, piir, plir, pvr, pdup, pdup2, pret, xjmp, xcon, xfd, xcl_, xcall, xbr, xsw, xtsw, xst1, xst2, xkill, xpush, xcat, xcl, xar, xkd, xrf, xmask, mR, mL, List.getElem?_cons_zero, List.getElem?_cons_succ, List.lookup_nil, List.lookup_cons, Nat.reduceAdd, Nat.reduceSub, Nat.reduceLeDiff, Nat.reduceEqDiff, Nat.reduceBEq, List.length_cons, List.length_nil, List.replicate, List.append_nil, List.nil_append, List.cons_append, List.set_cons_zero, List.set_cons_succ, List.take_succ_cons, List.take_zero, List.drop_succ_cons, List.drop_zero, List.reverse_cons, List.reverse_nil, List.map_cons, List.map_nil, List.sum_cons, List.sum_nil, decide_true, decide_false, and_self, and_true, true_and, true_or, or_true, Fin.isValue, Fin.val_zero, Fin.val_one, Fin.val_two, Fin.reduceFinMk, Nat.reduceMod, Option.some.injEq, Sum.inl.injEq, Sum.inr.injEq, Prod.mk.injEq, eq_self, reduceCtorEq, imp_self, implies_true, Nat.zero_add, Nat.add_zero, Nat.zero_le, Int.reduceEq, Int.reduceLT, Int.reduceLE, Int.reduceNeg, not_true, not_false_iff, false_imp_iff, true_imp_iff, forall_const, or_self, or_false, false_or, and_false, false_and, ↓reduceIte, z_0, z_1, z_f1, z_f2, z_f3, Int.reduceToNat, ct_X4_feetGo, mi_X4_feetGo]
      refine ⟨fun q => absurd q (by omega), fun _ => ?_⟩
      refine CW.mono (c_footGoes h1 (by rw [hf1 22 0 (by decide)]; exact hn) (ok_feetW hok k)) ?_
      rintro _ M2 ⟨rfl, hR2, hf2⟩
      refine st_X4_feetGo [(2, [true, true, true])] 8 ?_
      simp only [sy, xisC, sxI, xgI, xgL, xgR, xent, xargs0, p1i, p2i, p1l, p2l, pli, p1r, pir, piir, plir, pvr, pdup, pdup2, pret, xjmp, xcon, xfd, xcl_, xcall, xbr, xsw, xtsw, xst1, xst2, xkill, xpush, xcat, xcl, xar, xkd, xrf, xmask, mR, mL, List.getElem?_cons_zero, List.getElem?_cons_succ, List.lookup_nil, List.lookup_cons, Nat.reduceAdd, Nat.reduceSub, Nat.reduceLeDiff, Nat.reduceEqDiff, Nat.reduceBEq, List.length_cons, List.length_nil, List.replicate, List.append_nil, List.nil_append, List.cons_append, List.set_cons_zero, List.set_cons_succ, List.take_succ_cons, List.take_zero, List.drop_succ_cons, List.drop_zero, List.reverse_cons, List.reverse_nil, List.map_cons, List.map_nil, List.sum_cons, List.sum_nil, decide_true, decide_false, and_self, and_true, true_and, true_or, or_true, Fin.isValue, Fin.val_zero, Fin.val_one, Fin.val_two, Fin.reduceFinMk, Nat.reduceMod, Option.some.injEq, Sum.inl.injEq, Sum.inr.injEq, Prod.mk.injEq, eq_self, reduceCtorEq, imp_self, implies_true, Nat.zero_add, Nat.add_zero, Nat.zero_le, Int.reduceEq, Int.reduceLT, Int.reduceLE, Int.reduceNeg, not_true, not_false_iff, false_imp_iff, true_imp_iff, forall_const, or_self, or_false, false_or, and_false, false_and, ↓reduceIte, z_0, z_1, z_f1, z_f2, z_f3, Int.reduceToNat, ct_X4_feetGo, mi_X4_feetGo]
      rw [w32_id (by omega) (by omega)]
      exact ih (k + 1) M2 (by omega) hR2 (frN_tr hf1 hf2)
  refine in_X4_feetGo (Nat.le_of_ble_eq_true rfl) ?_
  refine st_X4_feetGo [(2, [true, true, true])] 4 ?_
  simp only [sy, xisC, sxI, xgI, xgL, xgR, xent, xargs0, p1i, p2i, p1l, p2l, pli, p1r, pir, piir, plir, pvr, pdup, pdup2, pret, xjmp, xcon, xfd, xcl_, xcall, xbr, xsw, xtsw, xst1, xst2, xkill, xpush, xcat, xcl, xar, xkd, xrf, xmask, mR, mL, List.getElem?_cons_zero, List.getElem?_cons_succ, List.lookup_nil, List.lookup_cons, Nat.reduceAdd, Nat.reduceSub, Nat.reduceLeDiff, Nat.reduceEqDiff, Nat.reduceBEq, List.length_cons, List.length_nil, List.replicate, List.append_nil, List.nil_append, List.cons_append, List.set_cons_zero, List.set_cons_succ, List.take_succ_cons, List.take_zero, List.drop_succ_cons, List.drop_zero, List.reverse_cons, List.reverse_nil, List.map_cons, List.map_nil, List.sum_cons, List.sum_nil, decide_true, decide_false, and_self, and_true, true_and, true_or, or_true, Fin.isValue, Fin.val_zero, Fin.val_one, Fin.val_two, Fin.reduceFinMk, Nat.reduceMod, Option.some.injEq, Sum.inl.injEq, Sum.inr.injEq, Prod.mk.injEq, eq_self, reduceCtorEq, imp_self, implies_true, Nat.zero_add, Nat.add_zero, Nat.zero_le, Int.reduceEq, Int.reduceLT, Int.reduceLE, Int.reduceNeg, not_true, not_false_iff, false_imp_iff, true_imp_iff, forall_const, or_self, or_false, false_or, and_false, false_and, ↓reduceIte, z_0, z_1, z_f1, z_f2, z_f3, Int.reduceToNat, ct_X4_feetGo, mi_X4_feetGo]
  exact loop n 0 M (by omega) h frN_rf

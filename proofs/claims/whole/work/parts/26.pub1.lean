/-! ===== public methods: end, feed, hush, forget ===== -/
theorem InvX_T {X X' m m' : XM} (h : InvX X m) (hX : ∀ t, t ≠ 13 → t ≠ 14 → X' t = X t) (hm : ∀ t, t ≠ 22 → t ≠ 28 → m' t = m t) (h3 : m' 22 0 3 = m 22 0 3) (h16 : m' 22 0 16 = m 22 0 16) (h28 : m' 22 0 28 = m 22 0 28) (ht : X' 13 0 1 = m' 22 0 11 ∧ (0 ≤ m' 22 0 11 ∧ m' 22 0 11 ≤ 160) ∧ ∀ j : Nat, (j : Int) < m' 22 0 11 → X' 14 0 j = m' 28 0 j ∧ 0 ≤ m' 28 0 j ∧ m' 28 0 j < 128) : InvX X' m' := by
  obtain ⟨nd, a1, a2, a3, a4, a5, a6, a7, a8, a9⟩ := h
  refine ⟨nd, h3.trans a1, by rw [hm 23 (by decide) (by decide)]; exact a2, by rw [hm 23 (by decide) (by decide)]; exact RG_fr a3 (fun t p q => by rw [hX t (by omega) (by omega)]), by rw [hm 25 (by decide) (by decide), hX 0 (by decide) (by decide)]; exact a4, ?_, ?_, ht, by rw [hX 0 (by decide) (by decide), h16, h28]; exact a8, by rw [hX 16 (by decide) (by decide), hX 17 (by decide) (by decide), hX 18 (by decide) (by decide), hm 33 (by decide) (by decide), hm 34 (by decide) (by decide), hm 35 (by decide) (by decide), hm 23 (by decide) (by decide), hm 25 (by decide) (by decide)]; exact a9⟩
  · unfold im
    rw [hm 25 (by decide) (by decide), hm 23 (by decide) (by decide)]
    exact fun q => ⟨(a5 q).1, RG_fr (a5 q).2 (fun t p q => by rw [hX t (by omega) (by omega)])⟩
  · unfold im
    rw [hm 25 (by decide) (by decide), hm 23 (by decide) (by decide)]
    exact fun q => ⟨(a6 q).1, RG_fr (a6 q).2 (fun t p q => by rw [hX t (by omega) (by omega)])⟩
/-- a change of the ground that both sides make -/
theorem InvX_N {X X' m m' : XM} (h : InvX X m) (hX : frG 0 X X') (hm : ∀ t, t ≠ 23 → m' t 0 = m t 0) (hk : ∀ k, 71 ≤ k → m' 23 0 k = m 23 0 k) (hN : ∀ nd : Nat, m 22 0 3 = nd → okN nd (m 23 0) → RG X 0 nd (m 23 0) → okN nd (m' 23 0) ∧ RG X' 0 nd (m' 23 0)) (hR : rk (m 23 0) ≤ 8 → rk (m' 23 0) ≤ 8 := by (intro q; refine Int.le_trans (Int.le_of_eq (rk_cg fun k a b => ?_)) q; repeat rw [xup_k (by omega)])) : InvX X' m' := by
  obtain ⟨nd, a1, a2, a3, a4, a5, a6, a7, a8, a9⟩ := h
  have hi0 : im m' 0 = im m 0 := funext fun j => hk _ (by omega)
  have hi1 : im m' 1 = im m 1 := funext fun j => hk _ (by omega)
  obtain ⟨n1, n2⟩ := hN nd a1 a2 a3
  refine ⟨nd, by rw [hm 22 (by decide)]; exact a1, n1, n2, by rw [hm 25 (by decide), hX 0 0 (by omega)]; exact a4, ?_, ?_, ?_, by rw [hm 22 (by decide), hX 0 0 (by omega)]; exact a8, ?_⟩
  · rw [hi0, hm 25 (by decide)]
    exact fun q => ⟨(a5 q).1, RG_fr (a5 q).2 (fun t p q => hX t 3 (by rintro ⟨-, -, q⟩; cases q))⟩
  · rw [hi1, hm 25 (by decide)]
    exact fun q => ⟨(a6 q).1, RG_fr (a6 q).2 (fun t p q => hX t 4 (by rintro ⟨-, -, q⟩; cases q))⟩
  · rw [hm 22 (by decide), hm 28 (by decide), hX 13 0 (by omega), hX 14 0 (by omega)]
    exact a7
  · rw [hX 16 0 (by omega), hX 17 0 (by omega), hX 18 0 (by omega), hm 33 (by decide), hm 34 (by decide), hm 35 (by decide), hm 25 (by decide)]
    refine ⟨a9.1, hR a9.2.1, ?_, ?_⟩
    · rw [show (fun j => m' 23 0 (71 * (0 + 1) + j)) = (fun j => m 23 0 (71 * (0 + 1) + j)) from hi0]
      exact a9.2.2.1
    · rw [show (fun j => m' 23 0 (71 * (1 + 1) + j)) = (fun j => m 23 0 (71 * (1 + 1) + j)) from hi1]
      exact a9.2.2.2
set_option maxRecDepth 100000 in
theorem p_end {M : XM} (h : InvX M M) (n : Int) : PUB mi_X3_end mi_X4_end [xI n] M := by
  have e := h
  obtain ⟨nd, -, -, -, -, -, -, h7, -, -⟩ := e
  have g7 := h7.1
  by_cases c : 0 ≤ n ∧ n ≤ M 22 0 11
  · refine PUB_of (m := xup M 22 0 11 n) (M 22 0 11) ?_ (fun M1 h1 => ?_)
    · refine in_X3_end (Nat.le_of_ble_eq_true rfl) ?_
      refine st_X3_end [] 10 ?_
      simp only [sy, xisC, sxI, xgI, xgL, xgR, xent, xargs0, p1i, p2i, p1l, p2l, pli, p1r, pir, piir, plir, pvr, pdup, pdup2, pret, xjmp, xcon, xfd, xcl_, xcall, xbr, xsw, xtsw, xst1, xst2, xkill, xpush, xcat, xcl, xar, xkd, xrf, xmask, mR, mL, List.getElem?_cons_zero, List.getElem?_cons_succ, List.lookup_nil, List.lookup_cons, Nat.reduceAdd, Nat.reduceSub, Nat.reduceLeDiff, Nat.reduceEqDiff, Nat.reduceBEq, List.length_cons, List.length_nil, List.replicate, List.append_nil, List.nil_append, List.cons_append, List.set_cons_zero, List.set_cons_succ, List.take_succ_cons, List.take_zero, List.drop_succ_cons, List.drop_zero, List.reverse_cons, List.reverse_nil, List.map_cons, List.map_nil, List.sum_cons, List.sum_nil, decide_true, decide_false, and_self, and_true, true_and, true_or, or_true, Fin.isValue, Fin.val_zero, Fin.val_one, Fin.val_two, Fin.reduceFinMk, Nat.reduceMod, Option.some.injEq, Sum.inl.injEq, Sum.inr.injEq, Prod.mk.injEq, eq_self, reduceCtorEq, imp_self, implies_true, Nat.zero_add, Nat.add_zero, Nat.zero_le, Int.reduceEq, Int.reduceLT, Int.reduceLE, Int.reduceNeg, not_true, not_false_iff, false_imp_iff, true_imp_iff, forall_const, or_self, or_false, false_or, and_false, false_and, ↓reduceIte, z_0, z_1, z_f1, z_f2, z_f3, Int.reduceToNat, Int.reduceAdd, ct_X3_end, mi_X3_end, g7]
      refine CW.mono (c_within M n 0 (M 22 0 11)) ?_
      rintro _ M1 ⟨rfl, hM1⟩; rw [hM1]; clear hM1 M1
      rw [if_pos c]
      refine st_X3_end [] 10 ?_
      simp only [sy, xisC, sxI, xgI, xgL, xgR, xent, xargs0, p1i, p2i, p1l, p2l, pli, p1r, pir, piir, plir, pvr, pdup, pdup2, pret, xjmp, xcon, xfd, xcl_, xcall, xbr, xsw, xtsw, xst1, xst2, xkill, xpush, xcat, xcl, xar, xkd, xrf, xmask, mR, mL, List.getElem?_cons_zero, List.getElem?_cons_succ, List.lookup_nil, List.lookup_cons, Nat.reduceAdd, Nat.reduceSub, Nat.reduceLeDiff, Nat.reduceEqDiff, Nat.reduceBEq, List.length_cons, List.length_nil, List.replicate, List.append_nil, List.nil_append, List.cons_append, List.set_cons_zero, List.set_cons_succ, List.take_succ_cons, List.take_zero, List.drop_succ_cons, List.drop_zero, List.reverse_cons, List.reverse_nil, List.map_cons, List.map_nil, List.sum_cons, List.sum_nil, decide_true, decide_false, and_self, and_true, true_and, true_or, or_true, Fin.isValue, Fin.val_zero, Fin.val_one, Fin.val_two, Fin.reduceFinMk, Nat.reduceMod, Option.some.injEq, Sum.inl.injEq, Sum.inr.injEq, Prod.mk.injEq, eq_self, reduceCtorEq, imp_self, implies_true, Nat.zero_add, Nat.add_zero, Nat.zero_le, Int.reduceEq, Int.reduceLT, Int.reduceLE, Int.reduceNeg, not_true, not_false_iff, false_imp_iff, true_imp_iff, forall_const, or_self, or_false, false_or, and_false, false_and, ↓reduceIte, z_0, z_1, z_f1, z_f2, z_f3, Int.reduceToNat, Int.reduceAdd, ct_X3_end, mi_X3_end, show ¬ (1 : Int) = 0 by decide]
      refine ⟨hi_up hi_rf (by decide), InvX_T h (fun t q _ => xup_t q) (fun t q _ => xup_t q) (by rw [xup_k (by decide)]) (by rw [xup_k (by decide)]) (by rw [xup_k (by decide)]) ?_⟩
      rw [xup_e, xup_e, xup_t (show (14 : Nat) ≠ 13 by decide), xup_t (show (28 : Nat) ≠ 22 by decide)]
      exact ⟨rfl, by omega, fun j hj => h7.2.2 j (by omega)⟩
    · have g : M1 22 0 11 = M 22 0 11 := by rw [h1 22 (by decide)]
      refine in_X4_end (Nat.le_of_ble_eq_true rfl) ?_
      refine st_X4_end [] 10 ?_
      simp only [sy, xisC, sxI, xgI, xgL, xgR, xent, xargs0, p1i, p2i, p1l, p2l, pli, p1r, pir, piir, plir, pvr, pdup, pdup2, pret, xjmp, xcon, xfd, xcl_, xcall, xbr, xsw, xtsw, xst1, xst2, xkill, xpush, xcat, xcl, xar, xkd, xrf, xmask, mR, mL, List.getElem?_cons_zero, List.getElem?_cons_succ, List.lookup_nil, List.lookup_cons, Nat.reduceAdd, Nat.reduceSub, Nat.reduceLeDiff, Nat.reduceEqDiff, Nat.reduceBEq, List.length_cons, List.length_nil, List.replicate, List.append_nil, List.nil_append, List.cons_append, List.set_cons_zero, List.set_cons_succ, List.take_succ_cons, List.take_zero, List.drop_succ_cons, List.drop_zero, List.reverse_cons, List.reverse_nil, List.map_cons, List.map_nil, List.sum_cons, List.sum_nil, decide_true, decide_false, and_self, and_true, true_and, true_or, or_true, Fin.isValue, Fin.val_zero, Fin.val_one, Fin.val_two, Fin.reduceFinMk, Nat.reduceMod, Option.some.injEq, Sum.inl.injEq, Sum.inr.injEq, Prod.mk.injEq, eq_self, reduceCtorEq, imp_self, implies_true, Nat.zero_add, Nat.add_zero, Nat.zero_le, Int.reduceEq, Int.reduceLT, Int.reduceLE, Int.reduceNeg, not_true, not_false_iff, false_imp_iff, true_imp_iff, forall_const, or_self, or_false, false_or, and_false, false_and, ↓reduceIte, z_0, z_1, z_f1, z_f2, z_f3, Int.reduceToNat, Int.reduceAdd, ct_X4_end, mi_X4_end, g]
      refine CW.mono (c_in M1 n 0 (M 22 0 11)) ?_
      rintro _ M1 ⟨rfl, hM1⟩; rw [hM1]; clear hM1 M1
      rw [if_pos c]
      refine st_X4_end [] 10 ?_
      simp only [sy, xisC, sxI, xgI, xgL, xgR, xent, xargs0, p1i, p2i, p1l, p2l, pli, p1r, pir, piir, plir, pvr, pdup, pdup2, pret, xjmp, xcon, xfd, xcl_, xcall, xbr, xsw, xtsw, xst1, xst2, xkill, xpush, xcat, xcl, xar, xkd, xrf, xmask, mR, mL, List.getElem?_cons_zero, List.getElem?_cons_succ, List.lookup_nil, List.lookup_cons, Nat.reduceAdd, Nat.reduceSub, Nat.reduceLeDiff, Nat.reduceEqDiff, Nat.reduceBEq, List.length_cons, List.length_nil, List.replicate, List.append_nil, List.nil_append, List.cons_append, List.set_cons_zero, List.set_cons_succ, List.take_succ_cons, List.take_zero, List.drop_succ_cons, List.drop_zero, List.reverse_cons, List.reverse_nil, List.map_cons, List.map_nil, List.sum_cons, List.sum_nil, decide_true, decide_false, and_self, and_true, true_and, true_or, or_true, Fin.isValue, Fin.val_zero, Fin.val_one, Fin.val_two, Fin.reduceFinMk, Nat.reduceMod, Option.some.injEq, Sum.inl.injEq, Sum.inr.injEq, Prod.mk.injEq, eq_self, reduceCtorEq, imp_self, implies_true, Nat.zero_add, Nat.add_zero, Nat.zero_le, Int.reduceEq, Int.reduceLT, Int.reduceLE, Int.reduceNeg, not_true, not_false_iff, false_imp_iff, true_imp_iff, forall_const, or_self, or_false, false_or, and_false, false_and, ↓reduceIte, z_0, z_1, z_f1, z_f2, z_f3, Int.reduceToNat, Int.reduceAdd, ct_X4_end, mi_X4_end, g, show ¬ (1 : Int) = 0 by decide]
      refine ⟨lo_up lo_rf (by decide), ?_⟩
      have p := PM_hi h1 PM_rf
      obtain ⟨a1, a2, a3, a4, a5, a6, a7, a8, a9, a10⟩ := p
      refine ⟨?_, ?_, ?_, ?_, ?_, ?_, ?_, ?_, ?_, ?_⟩
      · rw [xup_t (by decide), xup_t (by decide)]; exact a1
      · rw [xup_t (by decide), xup_t (by decide)]; exact a2
      · rw [xup_t (by decide), xup_t (by decide)]; exact a3
      · rw [xup_t (by decide), xup_t (by decide)]; exact a4
      · rw [xup_t (by decide), xup_t (by decide)]; exact a5
      · rw [xup_t (by decide), xup_t (by decide)]; exact a6
      · rw [xup_k (by decide), xup_k (by decide)]; exact a7
      · rw [xup_e, xup_e]
      · rw [xup_k (by decide), xup_k (by decide)]; exact a9
      · rw [xup_k (by decide), xup_k (by decide)]; exact a10
  · refine PUB_of (m := M) (-1) ?_ (fun M1 h1 => ?_)
    · refine in_X3_end (Nat.le_of_ble_eq_true rfl) ?_
      refine st_X3_end [] 10 ?_
      simp only [sy, xisC, sxI, xgI, xgL, xgR, xent, xargs0, p1i, p2i, p1l, p2l, pli, p1r, pir, piir, plir, pvr, pdup, pdup2, pret, xjmp, xcon, xfd, xcl_, xcall, xbr, xsw, xtsw, xst1, xst2, xkill, xpush, xcat, xcl, xar, xkd, xrf, xmask, mR, mL, List.getElem?_cons_zero, List.getElem?_cons_succ, List.lookup_nil, List.lookup_cons, Nat.reduceAdd, Nat.reduceSub, Nat.reduceLeDiff, Nat.reduceEqDiff, Nat.reduceBEq, List.length_cons, List.length_nil, List.replicate, List.append_nil, List.nil_append, List.cons_append, List.set_cons_zero, List.set_cons_succ, List.take_succ_cons, List.take_zero, List.drop_succ_cons, List.drop_zero, List.reverse_cons, List.reverse_nil, List.map_cons, List.map_nil, List.sum_cons, List.sum_nil, decide_true, decide_false, and_self, and_true, true_and, true_or, or_true, Fin.isValue, Fin.val_zero, Fin.val_one, Fin.val_two, Fin.reduceFinMk, Nat.reduceMod, Option.some.injEq, Sum.inl.injEq, Sum.inr.injEq, Prod.mk.injEq, eq_self, reduceCtorEq, imp_self, implies_true, Nat.zero_add, Nat.add_zero, Nat.zero_le, Int.reduceEq, Int.reduceLT, Int.reduceLE, Int.reduceNeg, not_true, not_false_iff, false_imp_iff, true_imp_iff, forall_const, or_self, or_false, false_or, and_false, false_and, ↓reduceIte, z_0, z_1, z_f1, z_f2, z_f3, Int.reduceToNat, Int.reduceAdd, ct_X3_end, mi_X3_end, g7]
      refine CW.mono (c_within M n 0 (M 22 0 11)) ?_
      rintro _ M1 ⟨rfl, hM1⟩; rw [hM1]; clear hM1 M1
      rw [if_neg c]
      refine st_X3_end [] 10 ?_
      simp only [sy, xisC, sxI, xgI, xgL, xgR, xent, xargs0, p1i, p2i, p1l, p2l, pli, p1r, pir, piir, plir, pvr, pdup, pdup2, pret, xjmp, xcon, xfd, xcl_, xcall, xbr, xsw, xtsw, xst1, xst2, xkill, xpush, xcat, xcl, xar, xkd, xrf, xmask, mR, mL, List.getElem?_cons_zero, List.getElem?_cons_succ, List.lookup_nil, List.lookup_cons, Nat.reduceAdd, Nat.reduceSub, Nat.reduceLeDiff, Nat.reduceEqDiff, Nat.reduceBEq, List.length_cons, List.length_nil, List.replicate, List.append_nil, List.nil_append, List.cons_append, List.set_cons_zero, List.set_cons_succ, List.take_succ_cons, List.take_zero, List.drop_succ_cons, List.drop_zero, List.reverse_cons, List.reverse_nil, List.map_cons, List.map_nil, List.sum_cons, List.sum_nil, decide_true, decide_false, and_self, and_true, true_and, true_or, or_true, Fin.isValue, Fin.val_zero, Fin.val_one, Fin.val_two, Fin.reduceFinMk, Nat.reduceMod, Option.some.injEq, Sum.inl.injEq, Sum.inr.injEq, Prod.mk.injEq, eq_self, reduceCtorEq, imp_self, implies_true, Nat.zero_add, Nat.add_zero, Nat.zero_le, Int.reduceEq, Int.reduceLT, Int.reduceLE, Int.reduceNeg, not_true, not_false_iff, false_imp_iff, true_imp_iff, forall_const, or_self, or_false, false_or, and_false, false_and, ↓reduceIte, z_0, z_1, z_f1, z_f2, z_f3, Int.reduceToNat, Int.reduceAdd, ct_X3_end, mi_X3_end]
      exact ⟨hi_rf, h⟩
    · have g : M1 22 0 11 = M 22 0 11 := by rw [h1 22 (by decide)]
      refine in_X4_end (Nat.le_of_ble_eq_true rfl) ?_
      refine st_X4_end [] 10 ?_
      simp only [sy, xisC, sxI, xgI, xgL, xgR, xent, xargs0, p1i, p2i, p1l, p2l, pli, p1r, pir, piir, plir, pvr, pdup, pdup2, pret, xjmp, xcon, xfd, xcl_, xcall, xbr, xsw, xtsw, xst1, xst2, xkill, xpush, xcat, xcl, xar, xkd, xrf, xmask, mR, mL, List.getElem?_cons_zero, List.getElem?_cons_succ, List.lookup_nil, List.lookup_cons, Nat.reduceAdd, Nat.reduceSub, Nat.reduceLeDiff, Nat.reduceEqDiff, Nat.reduceBEq, List.length_cons, List.length_nil, List.replicate, List.append_nil, List.nil_append, List.cons_append, List.set_cons_zero, List.set_cons_succ, List.take_succ_cons, List.take_zero, List.drop_succ_cons, List.drop_zero, List.reverse_cons, List.reverse_nil, List.map_cons, List.map_nil, List.sum_cons, List.sum_nil, decide_true, decide_false, and_self, and_true, true_and, true_or, or_true, Fin.isValue, Fin.val_zero, Fin.val_one, Fin.val_two, Fin.reduceFinMk, Nat.reduceMod, Option.some.injEq, Sum.inl.injEq, Sum.inr.injEq, Prod.mk.injEq, eq_self, reduceCtorEq, imp_self, implies_true, Nat.zero_add, Nat.add_zero, Nat.zero_le, Int.reduceEq, Int.reduceLT, Int.reduceLE, Int.reduceNeg, not_true, not_false_iff, false_imp_iff, true_imp_iff, forall_const, or_self, or_false, false_or, and_false, false_and, ↓reduceIte, z_0, z_1, z_f1, z_f2, z_f3, Int.reduceToNat, Int.reduceAdd, ct_X4_end, mi_X4_end, g]
      refine CW.mono (c_in M1 n 0 (M 22 0 11)) ?_
      rintro _ M1 ⟨rfl, hM1⟩; rw [hM1]; clear hM1 M1
      rw [if_neg c]
      refine st_X4_end [] 10 ?_
      simp only [sy, xisC, sxI, xgI, xgL, xgR, xent, xargs0, p1i, p2i, p1l, p2l, pli, p1r, pir, piir, plir, pvr, pdup, pdup2, pret, xjmp, xcon, xfd, xcl_, xcall, xbr, xsw, xtsw, xst1, xst2, xkill, xpush, xcat, xcl, xar, xkd, xrf, xmask, mR, mL, List.getElem?_cons_zero, List.getElem?_cons_succ, List.lookup_nil, List.lookup_cons, Nat.reduceAdd, Nat.reduceSub, Nat.reduceLeDiff, Nat.reduceEqDiff, Nat.reduceBEq, List.length_cons, List.length_nil, List.replicate, List.append_nil, List.nil_append, List.cons_append, List.set_cons_zero, List.set_cons_succ, List.take_succ_cons, List.take_zero, List.drop_succ_cons, List.drop_zero, List.reverse_cons, List.reverse_nil, List.map_cons, List.map_nil, List.sum_cons, List.sum_nil, decide_true, decide_false, and_self, and_true, true_and, true_or, or_true, Fin.isValue, Fin.val_zero, Fin.val_one, Fin.val_two, Fin.reduceFinMk, Nat.reduceMod, Option.some.injEq, Sum.inl.injEq, Sum.inr.injEq, Prod.mk.injEq, eq_self, reduceCtorEq, imp_self, implies_true, Nat.zero_add, Nat.add_zero, Nat.zero_le, Int.reduceEq, Int.reduceLT, Int.reduceLE, Int.reduceNeg, not_true, not_false_iff, false_imp_iff, true_imp_iff, forall_const, or_self, or_false, false_or, and_false, false_and, ↓reduceIte, z_0, z_1, z_f1, z_f2, z_f3, Int.reduceToNat, Int.reduceAdd, ct_X4_end, mi_X4_end]
      exact ⟨lo_rf, PM_hi h1 PM_rf⟩

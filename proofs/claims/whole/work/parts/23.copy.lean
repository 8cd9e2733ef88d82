/-! ===== Ground.copy; the model's starts, settles ===== -/
theorem xup_j {M : XM} {t t' k : Nat} {i j : Fin 5} {v : Int} (h : j ≠ i) : xup M t i k v t' j = M t' j := by
  funext k'
  unfold xup
  rw [if_neg]
  rintro ⟨-, q, -⟩
  exact h q
/-- what copy has copied: scalars, a diggers, b words, c seen -/
def cpd (i j : Fin 5) (M M' : XM) (a b c : Nat) : Prop := frG i M M' ∧ (M' 1 i 0 = M 1 j 0 ∧ M' 1 i 6 = M 1 j 6 ∧ M' 1 i 7 = M 1 j 7 ∧ M' 1 i 8 = M 1 j 8 ∧ M' 1 i 9 = M 1 j 9 ∧ M' 1 i 13 = M 1 j 13) ∧
  (∀ e, e < a → M' 2 i e = M 2 j e ∧ M' 3 i e = M 3 j e ∧ M' 4 i e = M 4 j e ∧ M' 5 i e = M 5 j e ∧ M' 6 i e = M 6 j e) ∧
  (∀ e, e < b → M' 7 i e = M 7 j e ∧ M' 8 i e = M 8 j e ∧ M' 9 i e = M 9 j e) ∧ (∀ e, e < c → M' 10 i e = M 10 j e ∧ M' 11 i e = M 11 j e ∧ M' 12 i e = M 12 j e)
theorem RG_cpd {i j : Fin 5} {M M' : XM} {nd : Nat} {N : Nat → Int} (h : RG M j nd N) (hok : okN nd N) (hc : cpd i j M M' nd (N 33).toNat (N 52).toNat) : RG M' i nd N := by
  obtain ⟨a1, a2, a3, a4, a5, a6, a7, a8, a9⟩ := h
  obtain ⟨-, ⟨s0, s6, s7, s8, s9, s13⟩, c1, c2, c3⟩ := hc
  refine ⟨by rw [s0]; exact a1, by rw [s6]; exact a2, by rw [s8]; exact a3, by rw [s9]; exact a4, by rw [s13]; exact a5, fun d hd => ?_, fun x y hx hy => by rw [s7]; exact a7 x y hx hy, fun e he => ?_, fun e he => ?_⟩
  · obtain ⟨q1, q2, q3, q4, q5⟩ := c1 d hd
    rw [q1, q2, q3, q4, q5]
    exact a6 d hd
  · obtain ⟨q1, q2, q3⟩ := c2 e (by omega)
    rw [q1, q2, q3]
    exact a8 e he
  · obtain ⟨q1, q2, q3⟩ := c3 e (by omega)
    rw [q1, q2, q3]
    exact a9 e he
set_option maxRecDepth 100000 in
theorem cp_106 {i j : Fin 5} {M : XM} {K : Option XV → XM → Prop} {a b s : Nat} (hij : j ≠ i) (hs : M 1 j 13 = s) (h6 : s ≤ 6) (hK : ∀ M', cpd i j M M' a b s → K none M') : ∀ (n e : Nat) (M1 : XM), e + n = s → cpd i j M M1 a b e → J_X0_copy K 106 [some (xR 1 i), some (xR 1 j), some (xI e)] [] M1 := by
  intro n
  induction n with
  | zero =>
    intro e M1 he h1
    have hes : e = s := by omega
    subst hes
    have g : M1 1 i 13 = e := by rw [h1.2.1.2.2.2.2.2]; exact hs
    refine st_X0_copy [] 8 ?_
    simp only [sy, xisC, sxI, xgI, xgL, xgR, xent, xargs0, p1i, p2i, p1l, p2l, pli, p1r, pir, piir, plir, pvr, pdup, pdup2, pret, xjmp, xcon, xfd, xcl_, xcall, xbr, xsw, xtsw, xst1, xst2, xkill, xpush, xcat, xcl, xar, xkd, xrf, xmask, mR, mL, List.getElem?_cons_zero, List.getElem?_cons_succ, List.lookup_nil, List.lookup_cons, Nat.reduceAdd, Nat.reduceSub, Nat.reduceLeDiff, Nat.reduceEqDiff, Nat.reduceBEq, List.length_cons, List.length_nil, List.replicate, List.append_nil, List.nil_append, List.cons_append, List.set_cons_zero, List.set_cons_succ, List.take_succ_cons, List.take_zero, List.drop_succ_cons, List.drop_zero, List.reverse_cons, List.reverse_nil, List.map_cons, List.map_nil, List.sum_cons, List.sum_nil, decide_true, decide_false, and_self, and_true, true_and, true_or, or_true, Fin.isValue, Fin.val_zero, Fin.val_one, Fin.val_two, Fin.reduceFinMk, Nat.reduceMod, Option.some.injEq, Sum.inl.injEq, Sum.inr.injEq, Prod.mk.injEq, eq_self, reduceCtorEq, imp_self, implies_true, Nat.zero_add, Nat.add_zero, Nat.zero_le, Int.reduceEq, Int.reduceLT, Int.reduceLE, Int.reduceNeg, not_true, not_false_iff, false_imp_iff, true_imp_iff, forall_const, or_self, or_false, false_or, and_false, false_and, ↓reduceIte, z_0, z_1, z_f1, z_f2, z_f3, Int.reduceToNat, ct_X0_copy, mi_X0_copy, g]
    exact ⟨fun _ => hK M1 h1, fun q => absurd q (by omega)⟩
  | succ n ih =>
    intro e M1 he h1
    have g : M1 1 i 13 = s := by rw [h1.2.1.2.2.2.2.2]; exact hs
    have w : w32 ((e : Int) + 1) = (e + 1 : Nat) := by rw [w32_id (by omega) (by omega)]; rfl
    have f10 : M1 10 j = M 10 j := h1.1 10 j (fun q => hij q.2.2)
    have f11 : M1 11 j = M 11 j := h1.1 11 j (fun q => hij q.2.2)
    have f12 : M1 12 j = M 12 j := h1.1 12 j (fun q => hij q.2.2)
    refine st_X0_copy [(106, [true, true, true])] 40 ?_
    simp only [sy, xisC, sxI, xgI, xgL, xgR, xent, xargs0, p1i, p2i, p1l, p2l, pli, p1r, pir, piir, plir, pvr, pdup, pdup2, pret, xjmp, xcon, xfd, xcl_, xcall, xbr, xsw, xtsw, xst1, xst2, xkill, xpush, xcat, xcl, xar, xkd, xrf, xmask, mR, mL, List.getElem?_cons_zero, List.getElem?_cons_succ, List.lookup_nil, List.lookup_cons, Nat.reduceAdd, Nat.reduceSub, Nat.reduceLeDiff, Nat.reduceEqDiff, Nat.reduceBEq, List.length_cons, List.length_nil, List.replicate, List.append_nil, List.nil_append, List.cons_append, List.set_cons_zero, List.set_cons_succ, List.take_succ_cons, List.take_zero, List.drop_succ_cons, List.drop_zero, List.reverse_cons, List.reverse_nil, List.map_cons, List.map_nil, List.sum_cons, List.sum_nil, decide_true, decide_false, and_self, and_true, true_and, true_or, or_true, Fin.isValue, Fin.val_zero, Fin.val_one, Fin.val_two, Fin.reduceFinMk, Nat.reduceMod, Option.some.injEq, Sum.inl.injEq, Sum.inr.injEq, Prod.mk.injEq, eq_self, reduceCtorEq, imp_self, implies_true, Nat.zero_add, Nat.add_zero, Nat.zero_le, Int.reduceEq, Int.reduceLT, Int.reduceLE, Int.reduceNeg, not_true, not_false_iff, false_imp_iff, true_imp_iff, forall_const, or_self, or_false, false_or, and_false, false_and, ↓reduceIte, z_0, z_1, z_f1, z_f2, z_f3, Int.reduceToNat, ct_X0_copy, mi_X0_copy, g, Int.toNat_natCast, xup_j hij, w, f10, f11, f12]
    refine ⟨fun q => absurd q (by omega), fun _ => ⟨by omega, by omega, by omega, by omega, by omega, by omega, ?_⟩⟩
    refine ih (e + 1) _ (by omega) ?_
    obtain ⟨c0, c1, c2, c3, c4⟩ := h1
    refine ⟨frG_up (frG_up (frG_up c0 (by decide) (by decide)) (by decide) (by decide)) (by decide) (by decide), ?_, fun q hq => ?_, fun q hq => ?_, fun q hq => ?_⟩
    · simp only [xup_t (show (1 : Nat) ≠ 10 by decide), xup_t (show (1 : Nat) ≠ 11 by decide), xup_t (show (1 : Nat) ≠ 12 by decide)]
      exact c1
    · simp only [xup_t (show (2 : Nat) ≠ 10 by decide), xup_t (show (2 : Nat) ≠ 11 by decide), xup_t (show (2 : Nat) ≠ 12 by decide), xup_t (show (3 : Nat) ≠ 10 by decide), xup_t (show (3 : Nat) ≠ 11 by decide), xup_t (show (3 : Nat) ≠ 12 by decide), xup_t (show (4 : Nat) ≠ 10 by decide), xup_t (show (4 : Nat) ≠ 11 by decide), xup_t (show (4 : Nat) ≠ 12 by decide), xup_t (show (5 : Nat) ≠ 10 by decide), xup_t (show (5 : Nat) ≠ 11 by decide), xup_t (show (5 : Nat) ≠ 12 by decide), xup_t (show (6 : Nat) ≠ 10 by decide), xup_t (show (6 : Nat) ≠ 11 by decide), xup_t (show (6 : Nat) ≠ 12 by decide)]
      exact c2 q hq
    · simp only [xup_t (show (7 : Nat) ≠ 10 by decide), xup_t (show (7 : Nat) ≠ 11 by decide), xup_t (show (7 : Nat) ≠ 12 by decide), xup_t (show (8 : Nat) ≠ 10 by decide), xup_t (show (8 : Nat) ≠ 11 by decide), xup_t (show (8 : Nat) ≠ 12 by decide), xup_t (show (9 : Nat) ≠ 10 by decide), xup_t (show (9 : Nat) ≠ 11 by decide), xup_t (show (9 : Nat) ≠ 12 by decide)]
      exact c3 q hq
    · simp only [xup_t (show (10 : Nat) ≠ 11 by decide), xup_t (show (10 : Nat) ≠ 12 by decide), xup_t (show (11 : Nat) ≠ 10 by decide), xup_t (show (11 : Nat) ≠ 12 by decide), xup_t (show (12 : Nat) ≠ 11 by decide), xup_t (show (12 : Nat) ≠ 10 by decide), xup_s]
      by_cases hqe : q = e
      · subst hqe
        simp only [if_true]
        exact ⟨trivial, trivial, trivial⟩
      · simp only [hqe, if_false]
        exact c4 q (by omega)
set_option maxRecDepth 100000 in
theorem cp_74 {i j : Fin 5} {M : XM} {K : Option XV → XM → Prop} {a b s : Nat} (hij : j ≠ i) (hb : M 1 j 9 = b) (hb6 : b ≤ 6) (hs : M 1 j 13 = s) (h6 : s ≤ 6) (hK : ∀ M', cpd i j M M' a b s → K none M') : ∀ (n e : Nat) (M1 : XM), e + n = b → cpd i j M M1 a e 0 → J_X0_copy K 74 [some (xR 1 i), some (xR 1 j), some (xI e)] [] M1 := by
  intro n
  induction n with
  | zero =>
    intro e M1 he h1
    have hes : e = b := by omega
    subst hes
    have g : M1 1 i 9 = e := by rw [h1.2.1.2.2.2.2.1]; exact hb
    refine st_X0_copy [(106, [true, true, true])] 8 ?_
    simp only [sy, xisC, sxI, xgI, xgL, xgR, xent, xargs0, p1i, p2i, p1l, p2l, pli, p1r, pir, piir, plir, pvr, pdup, pdup2, pret, xjmp, xcon, xfd, xcl_, xcall, xbr, xsw, xtsw, xst1, xst2, xkill, xpush, xcat, xcl, xar, xkd, xrf, xmask, mR, mL, List.getElem?_cons_zero, List.getElem?_cons_succ, List.lookup_nil, List.lookup_cons, Nat.reduceAdd, Nat.reduceSub, Nat.reduceLeDiff, Nat.reduceEqDiff, Nat.reduceBEq, List.length_cons, List.length_nil, List.replicate, List.append_nil, List.nil_append, List.cons_append, List.set_cons_zero, List.set_cons_succ, List.take_succ_cons, List.take_zero, List.drop_succ_cons, List.drop_zero, List.reverse_cons, List.reverse_nil, List.map_cons, List.map_nil, List.sum_cons, List.sum_nil, decide_true, decide_false, and_self, and_true, true_and, true_or, or_true, Fin.isValue, Fin.val_zero, Fin.val_one, Fin.val_two, Fin.reduceFinMk, Nat.reduceMod, Option.some.injEq, Sum.inl.injEq, Sum.inr.injEq, Prod.mk.injEq, eq_self, reduceCtorEq, imp_self, implies_true, Nat.zero_add, Nat.add_zero, Nat.zero_le, Int.reduceEq, Int.reduceLT, Int.reduceLE, Int.reduceNeg, not_true, not_false_iff, false_imp_iff, true_imp_iff, forall_const, or_self, or_false, false_or, and_false, false_and, ↓reduceIte, z_0, z_1, z_f1, z_f2, z_f3, Int.reduceToNat, ct_X0_copy, mi_X0_copy, g]
    exact ⟨fun _ => cp_106 hij hs h6 hK s 0 M1 (by omega) h1, fun q => absurd q (by omega)⟩
  | succ n ih =>
    intro e M1 he h1
    have g : M1 1 i 9 = b := by rw [h1.2.1.2.2.2.2.1]; exact hb
    have w : w32 ((e : Int) + 1) = (e + 1 : Nat) := by rw [w32_id (by omega) (by omega)]; rfl
    have f10 : M1 7 j = M 7 j := h1.1 7 j (fun q => hij q.2.2)
    have f11 : M1 8 j = M 8 j := h1.1 8 j (fun q => hij q.2.2)
    have f12 : M1 9 j = M 9 j := h1.1 9 j (fun q => hij q.2.2)
    refine st_X0_copy [(74, [true, true, true])] 40 ?_
    simp only [sy, xisC, sxI, xgI, xgL, xgR, xent, xargs0, p1i, p2i, p1l, p2l, pli, p1r, pir, piir, plir, pvr, pdup, pdup2, pret, xjmp, xcon, xfd, xcl_, xcall, xbr, xsw, xtsw, xst1, xst2, xkill, xpush, xcat, xcl, xar, xkd, xrf, xmask, mR, mL, List.getElem?_cons_zero, List.getElem?_cons_succ, List.lookup_nil, List.lookup_cons, Nat.reduceAdd, Nat.reduceSub, Nat.reduceLeDiff, Nat.reduceEqDiff, Nat.reduceBEq, List.length_cons, List.length_nil, List.replicate, List.append_nil, List.nil_append, List.cons_append, List.set_cons_zero, List.set_cons_succ, List.take_succ_cons, List.take_zero, List.drop_succ_cons, List.drop_zero, List.reverse_cons, List.reverse_nil, List.map_cons, List.map_nil, List.sum_cons, List.sum_nil, decide_true, decide_false, and_self, and_true, true_and, true_or, or_true, Fin.isValue, Fin.val_zero, Fin.val_one, Fin.val_two, Fin.reduceFinMk, Nat.reduceMod, Option.some.injEq, Sum.inl.injEq, Sum.inr.injEq, Prod.mk.injEq, eq_self, reduceCtorEq, imp_self, implies_true, Nat.zero_add, Nat.add_zero, Nat.zero_le, Int.reduceEq, Int.reduceLT, Int.reduceLE, Int.reduceNeg, not_true, not_false_iff, false_imp_iff, true_imp_iff, forall_const, or_self, or_false, false_or, and_false, false_and, ↓reduceIte, z_0, z_1, z_f1, z_f2, z_f3, Int.reduceToNat, ct_X0_copy, mi_X0_copy, g, Int.toNat_natCast, xup_j hij, w, f10, f11, f12]
    refine ⟨fun q => absurd q (by omega), fun _ => ⟨by omega, by omega, by omega, by omega, by omega, by omega, ?_⟩⟩
    refine ih (e + 1) _ (by omega) ?_
    obtain ⟨c0, c1, c2, c3, c4⟩ := h1
    refine ⟨frG_up (frG_up (frG_up c0 (by decide) (by decide)) (by decide) (by decide)) (by decide) (by decide), ?_, fun q hq => ?_, fun q hq => ?_, fun q hq => absurd hq (by omega)⟩
    · simp only [xup_t (show (1 : Nat) ≠ 7 by decide), xup_t (show (1 : Nat) ≠ 8 by decide), xup_t (show (1 : Nat) ≠ 9 by decide)]
      exact c1
    · simp only [xup_t (show (2 : Nat) ≠ 7 by decide), xup_t (show (2 : Nat) ≠ 8 by decide), xup_t (show (2 : Nat) ≠ 9 by decide), xup_t (show (3 : Nat) ≠ 7 by decide), xup_t (show (3 : Nat) ≠ 8 by decide), xup_t (show (3 : Nat) ≠ 9 by decide), xup_t (show (4 : Nat) ≠ 7 by decide), xup_t (show (4 : Nat) ≠ 8 by decide), xup_t (show (4 : Nat) ≠ 9 by decide), xup_t (show (5 : Nat) ≠ 7 by decide), xup_t (show (5 : Nat) ≠ 8 by decide), xup_t (show (5 : Nat) ≠ 9 by decide), xup_t (show (6 : Nat) ≠ 7 by decide), xup_t (show (6 : Nat) ≠ 8 by decide), xup_t (show (6 : Nat) ≠ 9 by decide)]
      exact c2 q hq
    · simp only [xup_t (show (7 : Nat) ≠ 8 by decide), xup_t (show (7 : Nat) ≠ 9 by decide), xup_t (show (8 : Nat) ≠ 7 by decide), xup_t (show (8 : Nat) ≠ 9 by decide), xup_t (show (9 : Nat) ≠ 7 by decide), xup_t (show (9 : Nat) ≠ 8 by decide), xup_s]
      by_cases hqe : q = e
      · subst hqe
        simp only [if_true]
        exact ⟨trivial, trivial, trivial⟩
      · simp only [hqe, if_false]
        exact c3 q (by omega)
set_option maxRecDepth 100000 in
theorem cp_26 {i j : Fin 5} {M : XM} {K : Option XV → XM → Prop} {a b s : Nat} (hij : j ≠ i) (ha : M 1 j 0 = a) (ha4 : a ≤ 4) (hb : M 1 j 9 = b) (hb6 : b ≤ 6) (hs : M 1 j 13 = s) (h6 : s ≤ 6) (hK : ∀ M', cpd i j M M' a b s → K none M') : ∀ (n e : Nat) (M1 : XM), e + n = a → cpd i j M M1 e 0 0 → J_X0_copy K 26 [some (xR 1 i), some (xR 1 j), some (xI e)] [] M1 := by
  intro n
  induction n with
  | zero =>
    intro e M1 he h1
    have hes : e = a := by omega
    subst hes
    have g : M1 1 i 0 = e := by rw [h1.2.1.1]; exact ha
    refine st_X0_copy [(74, [true, true, true])] 8 ?_
    simp only [sy, xisC, sxI, xgI, xgL, xgR, xent, xargs0, p1i, p2i, p1l, p2l, pli, p1r, pir, piir, plir, pvr, pdup, pdup2, pret, xjmp, xcon, xfd, xcl_, xcall, xbr, xsw, xtsw, xst1, xst2, xkill, xpush, xcat, xcl, xar, xkd, xrf, xmask, mR, mL, List.getElem?_cons_zero, List.getElem?_cons_succ, List.lookup_nil, List.lookup_cons, Nat.reduceAdd, Nat.reduceSub, Nat.reduceLeDiff, Nat.reduceEqDiff, Nat.reduceBEq, List.length_cons, List.length_nil, List.replicate, List.append_nil, List.nil_append, List.cons_append, List.set_cons_zero, List.set_cons_succ, List.take_succ_cons, List.take_zero, List.drop_succ_cons, List.drop_zero, List.reverse_cons, List.reverse_nil, List.map_cons, List.map_nil, List.sum_cons, List.sum_nil, decide_true, decide_false, and_self, and_true, true_and, true_or, or_true, Fin.isValue, Fin.val_zero, Fin.val_one, Fin.val_two, Fin.reduceFinMk, Nat.reduceMod, Option.some.injEq, Sum.inl.injEq, Sum.inr.injEq, Prod.mk.injEq, eq_self, reduceCtorEq, imp_self, implies_true, Nat.zero_add, Nat.add_zero, Nat.zero_le, Int.reduceEq, Int.reduceLT, Int.reduceLE, Int.reduceNeg, not_true, not_false_iff, false_imp_iff, true_imp_iff, forall_const, or_self, or_false, false_or, and_false, false_and, ↓reduceIte, z_0, z_1, z_f1, z_f2, z_f3, Int.reduceToNat, ct_X0_copy, mi_X0_copy, g]
    exact ⟨fun _ => cp_74 hij hb hb6 hs h6 hK b 0 M1 (by omega) h1, fun q => absurd q (by omega)⟩
  | succ n ih =>
    intro e M1 he h1
    have g : M1 1 i 0 = a := by rw [h1.2.1.1]; exact ha
    have w : w32 ((e : Int) + 1) = (e + 1 : Nat) := by rw [w32_id (by omega) (by omega)]; rfl
    have f2 : M1 2 j = M 2 j := h1.1 2 j (fun q => hij q.2.2)
    have f3 : M1 3 j = M 3 j := h1.1 3 j (fun q => hij q.2.2)
    have f4 : M1 4 j = M 4 j := h1.1 4 j (fun q => hij q.2.2)
    have f5 : M1 5 j = M 5 j := h1.1 5 j (fun q => hij q.2.2)
    have f6 : M1 6 j = M 6 j := h1.1 6 j (fun q => hij q.2.2)
    refine st_X0_copy [(26, [true, true, true])] 60 ?_
    simp only [sy, xisC, sxI, xgI, xgL, xgR, xent, xargs0, p1i, p2i, p1l, p2l, pli, p1r, pir, piir, plir, pvr, pdup, pdup2, pret, xjmp, xcon, xfd, xcl_, xcall, xbr, xsw, xtsw, xst1, xst2, xkill, xpush, xcat, xcl, xar, xkd, xrf, xmask, mR, mL, List.getElem?_cons_zero, List.getElem?_cons_succ, List.lookup_nil, List.lookup_cons, Nat.reduceAdd, Nat.reduceSub, Nat.reduceLeDiff, Nat.reduceEqDiff, Nat.reduceBEq, List.length_cons, List.length_nil, List.replicate, List.append_nil, List.nil_append, List.cons_append, List.set_cons_zero, List.set_cons_succ, List.take_succ_cons, List.take_zero, List.drop_succ_cons, List.drop_zero, List.reverse_cons, List.reverse_nil, List.map_cons, List.map_nil, List.sum_cons, List.sum_nil, decide_true, decide_false, and_self, and_true, true_and, true_or, or_true, Fin.isValue, Fin.val_zero, Fin.val_one, Fin.val_two, Fin.reduceFinMk, Nat.reduceMod, Option.some.injEq, Sum.inl.injEq, Sum.inr.injEq, Prod.mk.injEq, eq_self, reduceCtorEq, imp_self, implies_true, Nat.zero_add, Nat.add_zero, Nat.zero_le, Int.reduceEq, Int.reduceLT, Int.reduceLE, Int.reduceNeg, not_true, not_false_iff, false_imp_iff, true_imp_iff, forall_const, or_self, or_false, false_or, and_false, false_and, ↓reduceIte, z_0, z_1, z_f1, z_f2, z_f3, Int.reduceToNat, ct_X0_copy, mi_X0_copy, g, Int.toNat_natCast, xup_j hij, w, f2, f3, f4, f5, f6]
    refine ⟨fun q => absurd q (by omega), fun _ => ⟨by omega, by omega, by omega, by omega, by omega, by omega, by omega, by omega, by omega, by omega, ?_⟩⟩
    refine ih (e + 1) _ (by omega) ?_
    obtain ⟨c0, c1, c2, c3, c4⟩ := h1
    refine ⟨frG_up (frG_up (frG_up (frG_up (frG_up c0 (by decide) (by decide)) (by decide) (by decide)) (by decide) (by decide)) (by decide) (by decide)) (by decide) (by decide), ?_, fun q hq => ?_, fun q hq => absurd hq (by omega), fun q hq => absurd hq (by omega)⟩
    · simp only [xup_t (show (1 : Nat) ≠ 2 by decide), xup_t (show (1 : Nat) ≠ 3 by decide), xup_t (show (1 : Nat) ≠ 4 by decide), xup_t (show (1 : Nat) ≠ 5 by decide), xup_t (show (1 : Nat) ≠ 6 by decide)]
      exact c1
    · simp only [xup_t (show (2 : Nat) ≠ 3 by decide), xup_t (show (2 : Nat) ≠ 4 by decide), xup_t (show (2 : Nat) ≠ 5 by decide), xup_t (show (2 : Nat) ≠ 6 by decide), xup_t (show (3 : Nat) ≠ 2 by decide), xup_t (show (3 : Nat) ≠ 4 by decide), xup_t (show (3 : Nat) ≠ 5 by decide), xup_t (show (3 : Nat) ≠ 6 by decide), xup_t (show (4 : Nat) ≠ 2 by decide), xup_t (show (4 : Nat) ≠ 3 by decide), xup_t (show (4 : Nat) ≠ 5 by decide), xup_t (show (4 : Nat) ≠ 6 by decide), xup_t (show (5 : Nat) ≠ 2 by decide), xup_t (show (5 : Nat) ≠ 3 by decide), xup_t (show (5 : Nat) ≠ 4 by decide), xup_t (show (5 : Nat) ≠ 6 by decide), xup_t (show (6 : Nat) ≠ 2 by decide), xup_t (show (6 : Nat) ≠ 3 by decide), xup_t (show (6 : Nat) ≠ 4 by decide), xup_t (show (6 : Nat) ≠ 5 by decide), xup_s]
      by_cases hqe : q = e
      · subst hqe
        simp only [if_true]
        exact ⟨trivial, trivial, trivial, trivial, trivial⟩
      · simp only [hqe, if_false]
        exact c2 q (by omega)

/-! ===== Ground.goOne ===== -/
set_option maxRecDepth 100000 in
theorem g_step {M : XM} {i : Fin 5} {nd d : Nat} {N : Nat → Int} {K : Option XV → XM → Prop} (h : RG M i nd N) (hok : okN nd N) (hd : d < nd) (hK : ∀ M', RG M' i nd (stepF N d) → frG i M M' → K none M') : J_X0_goOne K 79 [some (xR 1 i), some (xI d), none, none] [] M := by
  have h4 : d < 4 := Nat.lt_of_lt_of_le hd hok.1
  obtain ⟨-, ha, -, hh, -, -⟩ := hok.2.1 d hd
  obtain ⟨-, ga, -, gh, -⟩ := h.2.2.2.2.2.1 d hd
  have gr := h.2.2.2.2.2.2.1
  have hc := nc_rng ha
  refine st_X0_goOne [] 30 ?_
  simp only [sy, xisC, sxI, xgI, xgL, xgR, xent, xargs0, p1i, p2i, p1l, p2l, pli, p1r, pir, piir, plir, pvr, pdup, pdup2, pret, xjmp, xcon, xfd, xcl_, xcall, xbr, xsw, xtsw, xst1, xst2, xkill, xpush, xcat, xcl, xar, xkd, xrf, xmask, mR, mL, List.getElem?_cons_zero, List.getElem?_cons_succ, List.lookup_nil, List.lookup_cons, Nat.reduceAdd, Nat.reduceSub, Nat.reduceLeDiff, Nat.reduceEqDiff, Nat.reduceBEq, List.length_cons, List.length_nil, List.replicate, List.append_nil, List.nil_append, List.cons_append, List.set_cons_zero, List.set_cons_succ, List.take_succ_cons, List.take_zero, List.drop_succ_cons, List.drop_zero, List.reverse_cons, List.reverse_nil, List.map_cons, List.map_nil, List.sum_cons, List.sum_nil, decide_true, decide_false, and_self, and_true, true_and, true_or, or_true, Fin.isValue, Fin.val_zero, Fin.val_one, Fin.val_two, Fin.reduceFinMk, Nat.reduceMod, Option.some.injEq, Sum.inl.injEq, Sum.inr.injEq, Prod.mk.injEq, eq_self, reduceCtorEq, imp_self, implies_true, Nat.zero_add, Nat.add_zero, Nat.zero_le, Int.reduceEq, Int.reduceLT, Int.reduceLE, Int.reduceNeg, not_true, not_false_iff, false_imp_iff, true_imp_iff, forall_const, or_self, or_false, false_or, and_false, false_and, ↓reduceIte, z_0, z_1, z_f1, z_f2, z_f3, ct_X0_goOne, mi_X0_goOne, Int.toNat_natCast, ga, gh]
  repeat refine ⟨by omega, ?_⟩
  refine CW.mono (c_nextCell M (nc (N (6 * d + 1))) (N (6 * d + 3)) hc.1 hc.2 hh.1 hh.2) ?_
  rintro _ M1 ⟨rfl, hM1⟩; rw [hM1]; clear hM1 M1
  obtain ⟨g1, g2⟩ := go_lem (N := N) (z := M 1 i 7) ha hh.1 hh.2 gr
  change J_X0_goOne K 88 _ (xpush (some (xI (nxF (nc (N (6 * d + 1))) (N (6 * d + 3))))) []) M
  generalize nxF (nc (N (6 * d + 1))) (N (6 * d + 3)) = q at g1 g2 ⊢
  have turn : goF N (N (6 * d + 1)) (N (6 * d + 3)) = -1 → ∀ L : List (Option XV), J_X0_goOne K 101 (some (xR 1 i) :: some (xI d) :: L) [] M := by
    intro hg L
    refine st_X0_goOne [] 30 ?_
    simp only [sy, xisC, sxI, xgI, xgL, xgR, xent, xargs0, p1i, p2i, p1l, p2l, pli, p1r, pir, piir, plir, pvr, pdup, pdup2, pret, xjmp, xcon, xfd, xcl_, xcall, xbr, xsw, xtsw, xst1, xst2, xkill, xpush, xcat, xcl, xar, xkd, xrf, xmask, mR, mL, List.getElem?_cons_zero, List.getElem?_cons_succ, List.lookup_nil, List.lookup_cons, Nat.reduceAdd, Nat.reduceSub, Nat.reduceLeDiff, Nat.reduceEqDiff, Nat.reduceBEq, List.length_cons, List.length_nil, List.replicate, List.append_nil, List.nil_append, List.cons_append, List.set_cons_zero, List.set_cons_succ, List.take_succ_cons, List.take_zero, List.drop_succ_cons, List.drop_zero, List.reverse_cons, List.reverse_nil, List.map_cons, List.map_nil, List.sum_cons, List.sum_nil, decide_true, decide_false, and_self, and_true, true_and, true_or, or_true, Fin.isValue, Fin.val_zero, Fin.val_one, Fin.val_two, Fin.reduceFinMk, Nat.reduceMod, Option.some.injEq, Sum.inl.injEq, Sum.inr.injEq, Prod.mk.injEq, eq_self, reduceCtorEq, imp_self, implies_true, Nat.zero_add, Nat.add_zero, Nat.zero_le, Int.reduceEq, Int.reduceLT, Int.reduceLE, Int.reduceNeg, not_true, not_false_iff, false_imp_iff, true_imp_iff, forall_const, or_self, or_false, false_or, and_false, false_and, ↓reduceIte, z_0, z_1, z_f1, z_f2, z_f3, ct_X0_goOne, mi_X0_goOne, Int.toNat_natCast, gh]
    repeat refine ⟨by omega, ?_⟩
    refine CW.mono (c_rightOf M (N (6 * d + 3)) hh.1 hh.2) ?_
    rintro _ M1 ⟨rfl, hM1⟩; rw [hM1]; clear hM1 M1
    refine st_X0_goOne [] 30 ?_
    simp only [sy, xisC, sxI, xgI, xgL, xgR, xent, xargs0, p1i, p2i, p1l, p2l, pli, p1r, pir, piir, plir, pvr, pdup, pdup2, pret, xjmp, xcon, xfd, xcl_, xcall, xbr, xsw, xtsw, xst1, xst2, xkill, xpush, xcat, xcl, xar, xkd, xrf, xmask, mR, mL, List.getElem?_cons_zero, List.getElem?_cons_succ, List.lookup_nil, List.lookup_cons, Nat.reduceAdd, Nat.reduceSub, Nat.reduceLeDiff, Nat.reduceEqDiff, Nat.reduceBEq, List.length_cons, List.length_nil, List.replicate, List.append_nil, List.nil_append, List.cons_append, List.set_cons_zero, List.set_cons_succ, List.take_succ_cons, List.take_zero, List.drop_succ_cons, List.drop_zero, List.reverse_cons, List.reverse_nil, List.map_cons, List.map_nil, List.sum_cons, List.sum_nil, decide_true, decide_false, and_self, and_true, true_and, true_or, or_true, Fin.isValue, Fin.val_zero, Fin.val_one, Fin.val_two, Fin.reduceFinMk, Nat.reduceMod, Option.some.injEq, Sum.inl.injEq, Sum.inr.injEq, Prod.mk.injEq, eq_self, reduceCtorEq, imp_self, implies_true, Nat.zero_add, Nat.add_zero, Nat.zero_le, Int.reduceEq, Int.reduceLT, Int.reduceLE, Int.reduceNeg, not_true, not_false_iff, false_imp_iff, true_imp_iff, forall_const, or_self, or_false, false_or, and_false, false_and, ↓reduceIte, z_0, z_1, z_f1, z_f2, z_f3, ct_X0_goOne, mi_X0_goOne, Int.toNat_natCast]
    refine ⟨by omega, hK _ ?_ (frG_up frG_rf (by decide) (by decide))⟩
    have hs : stepF N d = nu N (6 * d + 3) ((N (6 * d + 3) + 1) % 4) := by
      unfold stepF
      rw [hg, if_neg (by decide)]
    rw [hs]
    exact RG_head h h4
  refine st_X0_goOne [(101, [true, true, false, false])] 30 ?_
  simp only [sy, xisC, sxI, xgI, xgL, xgR, xent, xargs0, p1i, p2i, p1l, p2l, pli, p1r, pir, piir, plir, pvr, pdup, pdup2, pret, xjmp, xcon, xfd, xcl_, xcall, xbr, xsw, xtsw, xst1, xst2, xkill, xpush, xcat, xcl, xar, xkd, xrf, xmask, mR, mL, List.getElem?_cons_zero, List.getElem?_cons_succ, List.lookup_nil, List.lookup_cons, Nat.reduceAdd, Nat.reduceSub, Nat.reduceLeDiff, Nat.reduceEqDiff, Nat.reduceBEq, List.length_cons, List.length_nil, List.replicate, List.append_nil, List.nil_append, List.cons_append, List.set_cons_zero, List.set_cons_succ, List.take_succ_cons, List.take_zero, List.drop_succ_cons, List.drop_zero, List.reverse_cons, List.reverse_nil, List.map_cons, List.map_nil, List.sum_cons, List.sum_nil, decide_true, decide_false, and_self, and_true, true_and, true_or, or_true, Fin.isValue, Fin.val_zero, Fin.val_one, Fin.val_two, Fin.reduceFinMk, Nat.reduceMod, Option.some.injEq, Sum.inl.injEq, Sum.inr.injEq, Prod.mk.injEq, eq_self, reduceCtorEq, imp_self, implies_true, Nat.zero_add, Nat.add_zero, Nat.zero_le, Int.reduceEq, Int.reduceLT, Int.reduceLE, Int.reduceNeg, not_true, not_false_iff, false_imp_iff, true_imp_iff, forall_const, or_self, or_false, false_or, and_false, false_and, ↓reduceIte, z_0, z_1, z_f1, z_f2, z_f3, ct_X0_goOne, mi_X0_goOne, Int.toNat_natCast]
  refine ⟨fun hq => turn (g1 hq) _, fun hq => ?_⟩
  obtain ⟨g3, g4, g5⟩ := g2 (by omega)
  obtain ⟨k, rfl⟩ := Int.eq_ofNat_of_zero_le (show 0 ≤ q by omega)
  refine CW.mono (c_isRock M i k (by omega)) ?_
  rintro _ M1 ⟨rfl, hM1⟩; rw [hM1]; clear hM1 M1
  rw [Int.toNat_natCast] at g4 g5
  cases hb : lb (M 1 i 7) k with
  | true =>
    refine st_X0_goOne [(101, [true, true, false, false])] 30 ?_
    simp only [sy, xisC, sxI, xgI, xgL, xgR, xent, xargs0, p1i, p2i, p1l, p2l, pli, p1r, pir, piir, plir, pvr, pdup, pdup2, pret, xjmp, xcon, xfd, xcl_, xcall, xbr, xsw, xtsw, xst1, xst2, xkill, xpush, xcat, xcl, xar, xkd, xrf, xmask, mR, mL, List.getElem?_cons_zero, List.getElem?_cons_succ, List.lookup_nil, List.lookup_cons, Nat.reduceAdd, Nat.reduceSub, Nat.reduceLeDiff, Nat.reduceEqDiff, Nat.reduceBEq, List.length_cons, List.length_nil, List.replicate, List.append_nil, List.nil_append, List.cons_append, List.set_cons_zero, List.set_cons_succ, List.take_succ_cons, List.take_zero, List.drop_succ_cons, List.drop_zero, List.reverse_cons, List.reverse_nil, List.map_cons, List.map_nil, List.sum_cons, List.sum_nil, decide_true, decide_false, and_self, and_true, true_and, true_or, or_true, Fin.isValue, Fin.val_zero, Fin.val_one, Fin.val_two, Fin.reduceFinMk, Nat.reduceMod, Option.some.injEq, Sum.inl.injEq, Sum.inr.injEq, Prod.mk.injEq, eq_self, reduceCtorEq, imp_self, implies_true, Nat.zero_add, Nat.add_zero, Nat.zero_le, Int.reduceEq, Int.reduceLT, Int.reduceLE, Int.reduceNeg, not_true, not_false_iff, false_imp_iff, true_imp_iff, forall_const, or_self, or_false, false_or, and_false, false_and, ↓reduceIte, z_0, z_1, z_f1, z_f2, z_f3, ct_X0_goOne, mi_X0_goOne, Int.toNat_natCast]
    exact turn (g4 hb) _
  | false =>
    refine st_X0_goOne [(101, [true, true, false, false])] 30 ?_
    simp only [sy, xisC, sxI, xgI, xgL, xgR, xent, xargs0, p1i, p2i, p1l, p2l, pli, p1r, pir, piir, plir, pvr, pdup, pdup2, pret, xjmp, xcon, xfd, xcl_, xcall, xbr, xsw, xtsw, xst1, xst2, xkill, xpush, xcat, xcl, xar, xkd, xrf, xmask, mR, mL, List.getElem?_cons_zero, List.getElem?_cons_succ, List.lookup_nil, List.lookup_cons, Nat.reduceAdd, Nat.reduceSub, Nat.reduceLeDiff, Nat.reduceEqDiff, Nat.reduceBEq, List.length_cons, List.length_nil, List.replicate, List.append_nil, List.nil_append, List.cons_append, List.set_cons_zero, List.set_cons_succ, List.take_succ_cons, List.take_zero, List.drop_succ_cons, List.drop_zero, List.reverse_cons, List.reverse_nil, List.map_cons, List.map_nil, List.sum_cons, List.sum_nil, decide_true, decide_false, and_self, and_true, true_and, true_or, or_true, Fin.isValue, Fin.val_zero, Fin.val_one, Fin.val_two, Fin.reduceFinMk, Nat.reduceMod, Option.some.injEq, Sum.inl.injEq, Sum.inr.injEq, Prod.mk.injEq, eq_self, reduceCtorEq, imp_self, implies_true, Nat.zero_add, Nat.add_zero, Nat.zero_le, Int.reduceEq, Int.reduceLT, Int.reduceLE, Int.reduceNeg, not_true, not_false_iff, false_imp_iff, true_imp_iff, forall_const, or_self, or_false, false_or, and_false, false_and, ↓reduceIte, z_0, z_1, z_f1, z_f2, z_f3, ct_X0_goOne, mi_X0_goOne, Int.toNat_natCast]
    have hg := g5 hb
    have hs : stepF N d = nu N (6 * d + 1) (cn k) := by
      unfold stepF
      rw [hg, if_pos]
      unfold cn
      omega
    refine ⟨by omega, hK _ ?_ (frG_up frG_rf (by decide) (by decide))⟩
    rw [hs]
    have := RG_at h (e := d) (v := cn k) h4
    rw [nc_cn (by omega) (by omega)] at this
    exact this
def turnF (nd : Nat) (N : Nat → Int) (d : Nat) : Nat → Int :=
  if headF (N (6 * d + 1)) (wantF nd N d) < 0 then
    if N (6 * d) = 2 then stepF N d else nu N (6 * d + 5) 1
  else stepF (nu N (6 * d + 3) (if N (6 * d) = 1 then (headF (N (6 * d + 1)) (wantF nd N d) + 1) % 4 else headF (N (6 * d + 1)) (wantF nd N d))) d
theorem dig1_eq {nd d : Nat} {N : Nat → Int} (hd : d < nd) : dig1 nd N d = if N (6 * d) = 3 then stepF (nu N (6 * d + 4) (N (6 * d + 4) - 1)) d else turnF nd (nu N (6 * d + 4) (N (6 * d + 4) - 1)) d := by
  have e1 : wantF nd (nu N (6 * d + 4) (N (6 * d + 4) - 1)) d = wantF nd N d := by
    unfold wantF
    rw [nu_k (by omega), nu_k (by omega), nu_k (by omega)]
  unfold dig1 turnF
  rw [e1, nu_k (show 6 * d + 1 ≠ 6 * d + 4 by omega), nu_k (show 6 * d ≠ 6 * d + 4 by omega)]
set_option maxRecDepth 100000 in
theorem g_46 {M : XM} {i : Fin 5} {nd d : Nat} {N : Nat → Int} {K : Option XV → XM → Prop} (h : RG M i nd N) (hok : okN nd N) (hd : d < nd) (hu : N (6 * d + 5) = 0) (hK : ∀ M', RG M' i nd (turnF nd N d) → frG i M M' → K none M') (z : Int) : J_X0_goOne K 46 [some (xR 1 i), some (xI d), some (xI z), none] [xI (headF (N (6 * d + 1)) (wantF nd N d))] M := by
  have h4 : d < 4 := Nat.lt_of_lt_of_le hd hok.1
  obtain ⟨hk, ha, hm, hh, hfa, -⟩ := hok.2.1 d hd
  obtain ⟨gk, ga, gm, gh, gf⟩ := h.2.2.2.2.2.1 d hd
  have hrng := headF_rng (N (6 * d + 1)) (wantF nd N d)
  have gu := h.2.1
  have hur := upm_rng hok
  have hub := upm_bit hok hd
  have hset := upm_set hok hd hu
  unfold turnF at hK
  generalize headF (N (6 * d + 1)) (wantF nd N d) = q at hrng hK ⊢
  refine st_X0_goOne [(79, [true, true, false, false])] 20 ?_
  simp only [sy, xisC, sxI, xgI, xgL, xgR, xent, xargs0, p1i, p2i, p1l, p2l, pli, p1r, pir, piir, plir, pvr, pdup, pdup2, pret, xjmp, xcon, xfd, xcl_, xcall, xbr, xsw, xtsw, xst1, xst2, xkill, xpush, xcat, xcl, xar, xkd, xrf, xmask, mR, mL, List.getElem?_cons_zero, List.getElem?_cons_succ, List.lookup_nil, List.lookup_cons, Nat.reduceAdd, Nat.reduceSub, Nat.reduceLeDiff, Nat.reduceEqDiff, Nat.reduceBEq, List.length_cons, List.length_nil, List.replicate, List.append_nil, List.nil_append, List.cons_append, List.set_cons_zero, List.set_cons_succ, List.take_succ_cons, List.take_zero, List.drop_succ_cons, List.drop_zero, List.reverse_cons, List.reverse_nil, List.map_cons, List.map_nil, List.sum_cons, List.sum_nil, decide_true, decide_false, and_self, and_true, true_and, true_or, or_true, Fin.isValue, Fin.val_zero, Fin.val_one, Fin.val_two, Fin.reduceFinMk, Nat.reduceMod, Option.some.injEq, Sum.inl.injEq, Sum.inr.injEq, Prod.mk.injEq, eq_self, reduceCtorEq, imp_self, implies_true, Nat.zero_add, Nat.add_zero, Nat.zero_le, Int.reduceEq, Int.reduceLT, Int.reduceLE, Int.reduceNeg, not_true, not_false_iff, false_imp_iff, true_imp_iff, forall_const, or_self, or_false, false_or, and_false, false_and, ↓reduceIte, z_0, z_1, z_f1, z_f2, z_f3, ct_X0_goOne, mi_X0_goOne, Int.toNat_natCast, gk]
  refine ⟨fun hq => ?_, fun hq => ?_⟩
  · rw [if_pos hq] at hK
    refine ⟨by omega, fun h2 => ?_, fun h2 => ?_⟩
    · rw [if_pos h2] at hK
      exact g_step h hok hd hK
    · rw [if_neg h2] at hK
      rw [pw_4 d h4]
      refine st_X0_goOne [] 20 ?_
      simp only [sy, xisC, sxI, xgI, xgL, xgR, xent, xargs0, p1i, p2i, p1l, p2l, pli, p1r, pir, piir, plir, pvr, pdup, pdup2, pret, xjmp, xcon, xfd, xcl_, xcall, xbr, xsw, xtsw, xst1, xst2, xkill, xpush, xcat, xcl, xar, xkd, xrf, xmask, mR, mL, List.getElem?_cons_zero, List.getElem?_cons_succ, List.lookup_nil, List.lookup_cons, Nat.reduceAdd, Nat.reduceSub, Nat.reduceLeDiff, Nat.reduceEqDiff, Nat.reduceBEq, List.length_cons, List.length_nil, List.replicate, List.append_nil, List.nil_append, List.cons_append, List.set_cons_zero, List.set_cons_succ, List.take_succ_cons, List.take_zero, List.drop_succ_cons, List.drop_zero, List.reverse_cons, List.reverse_nil, List.map_cons, List.map_nil, List.sum_cons, List.sum_nil, decide_true, decide_false, and_self, and_true, true_and, true_or, or_true, Fin.isValue, Fin.val_zero, Fin.val_one, Fin.val_two, Fin.reduceFinMk, Nat.reduceMod, Option.some.injEq, Sum.inl.injEq, Sum.inr.injEq, Prod.mk.injEq, eq_self, reduceCtorEq, imp_self, implies_true, Nat.zero_add, Nat.add_zero, Nat.zero_le, Int.reduceEq, Int.reduceLT, Int.reduceLE, Int.reduceNeg, not_true, not_false_iff, false_imp_iff, true_imp_iff, forall_const, or_self, or_false, false_or, and_false, false_and, ↓reduceIte, z_0, z_1, z_f1, z_f2, z_f3, ct_X0_goOne, mi_X0_goOne]
      rw [gu]
      obtain ⟨u, hu2⟩ := Int.eq_ofNat_of_zero_le hur.1
      rw [hu2] at hur hub hset ⊢
      have e1 : u / 2 ^ d % 2 = 0 := by
        rw [hu] at hub
        have e3 : ((u / 2 ^ d % 2 : Nat) : Int) = 0 := by rw [← hub]; simp
        omega
      have e2 : bOr (u : Int) (2 ^ d) = ((u + 2 ^ d : Nat) : Int) := by
        have := or_4 u (by omega) d h4
        rw [if_pos e1] at this
        rw [← this]
        simp
      rw [e2]
      refine st_X0_goOne [] 20 ?_
      simp only [sy, xisC, sxI, xgI, xgL, xgR, xent, xargs0, p1i, p2i, p1l, p2l, pli, p1r, pir, piir, plir, pvr, pdup, pdup2, pret, xjmp, xcon, xfd, xcl_, xcall, xbr, xsw, xtsw, xst1, xst2, xkill, xpush, xcat, xcl, xar, xkd, xrf, xmask, mR, mL, List.getElem?_cons_zero, List.getElem?_cons_succ, List.lookup_nil, List.lookup_cons, Nat.reduceAdd, Nat.reduceSub, Nat.reduceLeDiff, Nat.reduceEqDiff, Nat.reduceBEq, List.length_cons, List.length_nil, List.replicate, List.append_nil, List.nil_append, List.cons_append, List.set_cons_zero, List.set_cons_succ, List.take_succ_cons, List.take_zero, List.drop_succ_cons, List.drop_zero, List.reverse_cons, List.reverse_nil, List.map_cons, List.map_nil, List.sum_cons, List.sum_nil, decide_true, decide_false, and_self, and_true, true_and, true_or, or_true, Fin.isValue, Fin.val_zero, Fin.val_one, Fin.val_two, Fin.reduceFinMk, Nat.reduceMod, Option.some.injEq, Sum.inl.injEq, Sum.inr.injEq, Prod.mk.injEq, eq_self, reduceCtorEq, imp_self, implies_true, Nat.zero_add, Nat.add_zero, Nat.zero_le, Int.reduceEq, Int.reduceLT, Int.reduceLE, Int.reduceNeg, not_true, not_false_iff, false_imp_iff, true_imp_iff, forall_const, or_self, or_false, false_or, and_false, false_and, ↓reduceIte, z_0, z_1, z_f1, z_f2, z_f3, ct_X0_goOne, mi_X0_goOne]
      refine hK _ ?_ (frG_up frG_rf (by decide) (by decide))
      have e4 : ((u + 2 ^ d : Nat) : Int) = upm nd (nu N (6 * d + 5) 1) := by
        rw [hset]
        simp
      rw [e4]
      exact RG_up h h4
  · rw [if_neg hq] at hK
    refine ⟨by omega, fun h1 => ?_, fun h1 => ?_⟩
    · rw [if_neg h1] at hK
      refine ⟨by omega, ?_⟩
      refine g_step (RG_head h h4) (okN_f hok h4 (by decide) ⟨by omega, by omega, by omega, by omega, by omega, by omega⟩) hd (fun M' hM' hf' => hK M' hM' (frG_tr (frG_up frG_rf (by decide) (by decide)) hf'))
    · rw [if_pos h1] at hK
      refine CW.mono (c_rightOf M q (by omega) (by omega)) ?_
      rintro _ M1 ⟨rfl, hM1⟩; rw [hM1]; clear hM1 M1
      refine st_X0_goOne [(79, [true, true, false, false])] 20 ?_
      simp only [sy, xisC, sxI, xgI, xgL, xgR, xent, xargs0, p1i, p2i, p1l, p2l, pli, p1r, pir, piir, plir, pvr, pdup, pdup2, pret, xjmp, xcon, xfd, xcl_, xcall, xbr, xsw, xtsw, xst1, xst2, xkill, xpush, xcat, xcl, xar, xkd, xrf, xmask, mR, mL, List.getElem?_cons_zero, List.getElem?_cons_succ, List.lookup_nil, List.lookup_cons, Nat.reduceAdd, Nat.reduceSub, Nat.reduceLeDiff, Nat.reduceEqDiff, Nat.reduceBEq, List.length_cons, List.length_nil, List.replicate, List.append_nil, List.nil_append, List.cons_append, List.set_cons_zero, List.set_cons_succ, List.take_succ_cons, List.take_zero, List.drop_succ_cons, List.drop_zero, List.reverse_cons, List.reverse_nil, List.map_cons, List.map_nil, List.sum_cons, List.sum_nil, decide_true, decide_false, and_self, and_true, true_and, true_or, or_true, Fin.isValue, Fin.val_zero, Fin.val_one, Fin.val_two, Fin.reduceFinMk, Nat.reduceMod, Option.some.injEq, Sum.inl.injEq, Sum.inr.injEq, Prod.mk.injEq, eq_self, reduceCtorEq, imp_self, implies_true, Nat.zero_add, Nat.add_zero, Nat.zero_le, Int.reduceEq, Int.reduceLT, Int.reduceLE, Int.reduceNeg, not_true, not_false_iff, false_imp_iff, true_imp_iff, forall_const, or_self, or_false, false_or, and_false, false_and, ↓reduceIte, z_0, z_1, z_f1, z_f2, z_f3, ct_X0_goOne, mi_X0_goOne, Int.toNat_natCast]
      refine ⟨by omega, ?_⟩
      refine g_step (RG_head h h4) (okN_f hok h4 (by decide) ⟨by omega, by omega, by omega, by omega, by omega, by omega⟩) hd (fun M' hM' hf' => hK M' hM' (frG_tr (frG_up frG_rf (by decide) (by decide)) hf'))
set_option maxRecDepth 100000 in
theorem g_28 {M : XM} {i : Fin 5} {nd d : Nat} {N : Nat → Int} {K : Option XV → XM → Prop} (h : RG M i nd N) (hok : okN nd N) (hd : d < nd) (hu : N (6 * d + 5) = 0) (hK : ∀ M', RG M' i nd (turnF nd N d) → frG i M M' → K none M') (z : Int) (hz : z = if N (6 * d) = 2 ∧ 1 < nd then 1 else 0) : J_X0_goOne K 28 [some (xR 1 i), some (xI d), some (xI z), none] [] M := by
  have h4 : d < 4 := Nat.lt_of_lt_of_le hd hok.1
  obtain ⟨hk, ha, hm, hh, hfa, -⟩ := hok.2.1 d hd
  obtain ⟨gk, ga, gm, gh, gf⟩ := h.2.2.2.2.2.1 d hd
  have gn := h.1
  have hc := nc_rng ha
  have hcm := nc_rng hm
  have fin := g_46 h hok hd hu hK
  refine st_X0_goOne [] 20 ?_
  simp only [sy, xisC, sxI, xgI, xgL, xgR, xent, xargs0, p1i, p2i, p1l, p2l, pli, p1r, pir, piir, plir, pvr, pdup, pdup2, pret, xjmp, xcon, xfd, xcl_, xcall, xbr, xsw, xtsw, xst1, xst2, xkill, xpush, xcat, xcl, xar, xkd, xrf, xmask, mR, mL, List.getElem?_cons_zero, List.getElem?_cons_succ, List.lookup_nil, List.lookup_cons, Nat.reduceAdd, Nat.reduceSub, Nat.reduceLeDiff, Nat.reduceEqDiff, Nat.reduceBEq, List.length_cons, List.length_nil, List.replicate, List.append_nil, List.nil_append, List.cons_append, List.set_cons_zero, List.set_cons_succ, List.take_succ_cons, List.take_zero, List.drop_succ_cons, List.drop_zero, List.reverse_cons, List.reverse_nil, List.map_cons, List.map_nil, List.sum_cons, List.sum_nil, decide_true, decide_false, and_self, and_true, true_and, true_or, or_true, Fin.isValue, Fin.val_zero, Fin.val_one, Fin.val_two, Fin.reduceFinMk, Nat.reduceMod, Option.some.injEq, Sum.inl.injEq, Sum.inr.injEq, Prod.mk.injEq, eq_self, reduceCtorEq, imp_self, implies_true, Nat.zero_add, Nat.add_zero, Nat.zero_le, Int.reduceEq, Int.reduceLT, Int.reduceLE, Int.reduceNeg, not_true, not_false_iff, false_imp_iff, true_imp_iff, forall_const, or_self, or_false, false_or, and_false, false_and, ↓reduceIte, z_0, z_1, z_f1, z_f2, z_f3, ct_X0_goOne, mi_X0_goOne, Int.toNat_natCast, ga, gm]
  refine ⟨by omega, fun h0 => ?_, fun h0 => ?_⟩
  · have hw : wantF nd N d = N (6 * d + 2) := by
      unfold wantF
      rw [if_neg]
      intro q
      rw [if_pos q] at hz
      omega
    refine ⟨by omega, ?_⟩
    refine CW.mono (c_headingTo M (nc (N (6 * d + 1))) (nc (N (6 * d + 2))) hc.1 hc.2 hcm.1 hcm.2) ?_
    rintro _ M1 ⟨rfl, hM1⟩; rw [hM1]; clear hM1 M1
    rw [head_lem ha hm, ← hw]
    exact fin _
  · have hq : N (6 * d) = 2 ∧ 1 < nd := by
      rcases Decidable.em (N (6 * d) = 2 ∧ 1 < nd) with q | q
      · exact q
      · rw [if_neg q] at hz
        exact absurd hz h0
    have hw : wantF nd N d = N (6 * ((d + 1) % nd) + 1) := by
      unfold wantF
      rw [if_pos hq]
    have he : (d + 1) % nd < nd := Nat.mod_lt _ (by omega)
    obtain ⟨-, ha2, -, -, -, -⟩ := hok.2.1 _ he
    obtain ⟨-, ga2, -, -, -⟩ := h.2.2.2.2.2.1 _ he
    have hc2 := nc_rng ha2
    have he4 : (d + 1) % nd < 4 := Nat.lt_of_lt_of_le he hok.1
    refine CW.mono (c_behind M i d nd hd hok.1 gn) ?_
    rintro _ M1 ⟨rfl, hM1⟩; rw [hM1]; clear hM1 M1
    generalize (d + 1) % nd = e at hw he ha2 ga2 hc2 he4 ⊢
    refine st_X0_goOne [] 20 ?_
    simp only [sy, xisC, sxI, xgI, xgL, xgR, xent, xargs0, p1i, p2i, p1l, p2l, pli, p1r, pir, piir, plir, pvr, pdup, pdup2, pret, xjmp, xcon, xfd, xcl_, xcall, xbr, xsw, xtsw, xst1, xst2, xkill, xpush, xcat, xcl, xar, xkd, xrf, xmask, mR, mL, List.getElem?_cons_zero, List.getElem?_cons_succ, List.lookup_nil, List.lookup_cons, Nat.reduceAdd, Nat.reduceSub, Nat.reduceLeDiff, Nat.reduceEqDiff, Nat.reduceBEq, List.length_cons, List.length_nil, List.replicate, List.append_nil, List.nil_append, List.cons_append, List.set_cons_zero, List.set_cons_succ, List.take_succ_cons, List.take_zero, List.drop_succ_cons, List.drop_zero, List.reverse_cons, List.reverse_nil, List.map_cons, List.map_nil, List.sum_cons, List.sum_nil, decide_true, decide_false, and_self, and_true, true_and, true_or, or_true, Fin.isValue, Fin.val_zero, Fin.val_one, Fin.val_two, Fin.reduceFinMk, Nat.reduceMod, Option.some.injEq, Sum.inl.injEq, Sum.inr.injEq, Prod.mk.injEq, eq_self, reduceCtorEq, imp_self, implies_true, Nat.zero_add, Nat.add_zero, Nat.zero_le, Int.reduceEq, Int.reduceLT, Int.reduceLE, Int.reduceNeg, not_true, not_false_iff, false_imp_iff, true_imp_iff, forall_const, or_self, or_false, false_or, and_false, false_and, ↓reduceIte, z_0, z_1, z_f1, z_f2, z_f3, ct_X0_goOne, mi_X0_goOne, Int.toNat_natCast, ga2]
    refine ⟨by omega, ?_⟩
    refine CW.mono (c_headingTo M (nc (N (6 * d + 1))) (nc (N (6 * e + 1))) hc.1 hc.2 hc2.1 hc2.2) ?_
    rintro _ M1 ⟨rfl, hM1⟩; rw [hM1]; clear hM1 M1
    rw [head_lem ha ha2, ← hw]
    exact fin _
set_option maxRecDepth 100000 in
theorem c_goOne {M : XM} {i : Fin 5} {nd d : Nat} {N : Nat → Int} (h : RG M i nd N) (hok : okN nd N) (hd : d < nd) (hf : 0 < N (6 * d + 4)) (hu : N (6 * d + 5) = 0) : CW mi_X0_goOne [xR 1 i, xI d] M (fun r M' => r = none ∧ RG M' i nd (dig1 nd N d) ∧ frG i M M') := by
  have h4 : d < 4 := Nat.lt_of_lt_of_le hd hok.1
  obtain ⟨hk, ha, hm, hh, hfa, -⟩ := hok.2.1 d hd
  obtain ⟨gk, ga, gm, gh, gf⟩ := h.2.2.2.2.2.1 d hd
  have hR1 := RG_faith h (e := d) (v := N (6 * d + 4) - 1) h4
  have hok1 : okN nd (nu N (6 * d + 4) (N (6 * d + 4) - 1)) := okN_f hok h4 (by decide) ⟨by omega, by omega, by omega, by omega, by omega, by omega⟩
  have hfr : frG i M (xup M 6 i d (N (6 * d + 4) - 1)) := frG_up frG_rf (by decide) (by decide)
  rw [dig1_eq hd]
  refine in_X0_goOne (Nat.le_of_ble_eq_true rfl) ?_
  refine st_X0_goOne [(79, [true, true, false, false]), (14, [true, true, false, false])] 14 ?_
  simp only [sy, xisC, sxI, xgI, xgL, xgR, xent, xargs0, p1i, p2i, p1l, p2l, pli, p1r, pir, piir, plir, pvr, pdup, pdup2, pret, xjmp, xcon, xfd, xcl_, xcall, xbr, xsw, xtsw, xst1, xst2, xkill, xpush, xcat, xcl, xar, xkd, xrf, xmask, mR, mL, List.getElem?_cons_zero, List.getElem?_cons_succ, List.lookup_nil, List.lookup_cons, Nat.reduceAdd, Nat.reduceSub, Nat.reduceLeDiff, Nat.reduceEqDiff, Nat.reduceBEq, List.length_cons, List.length_nil, List.replicate, List.append_nil, List.nil_append, List.cons_append, List.set_cons_zero, List.set_cons_succ, List.take_succ_cons, List.take_zero, List.drop_succ_cons, List.drop_zero, List.reverse_cons, List.reverse_nil, List.map_cons, List.map_nil, List.sum_cons, List.sum_nil, decide_true, decide_false, and_self, and_true, true_and, true_or, or_true, Fin.isValue, Fin.val_zero, Fin.val_one, Fin.val_two, Fin.reduceFinMk, Nat.reduceMod, Option.some.injEq, Sum.inl.injEq, Sum.inr.injEq, Prod.mk.injEq, eq_self, reduceCtorEq, imp_self, implies_true, Nat.zero_add, Nat.add_zero, Nat.zero_le, Int.reduceEq, Int.reduceLT, Int.reduceLE, Int.reduceNeg, not_true, not_false_iff, false_imp_iff, true_imp_iff, forall_const, or_self, or_false, false_or, and_false, false_and, ↓reduceIte, z_0, z_1, z_f1, z_f2, z_f3, ct_X0_goOne, mi_X0_goOne, Int.toNat_natCast, gf, gk, xup_t (show (2 : Nat) ≠ 6 by decide)]
  rw [w32_id (by omega) (by omega)]
  refine ⟨by omega, by omega, by omega, fun h3 => ?_, fun h3 => ?_⟩
  · rw [if_pos h3]
    exact g_step hR1 hok1 hd (fun M' q1 q2 => ⟨rfl, q1, frG_tr hfr q2⟩)
  · rw [if_neg h3]
    have gk1 := (hR1.2.2.2.2.2.1 d hd).1
    have gn1 := hR1.1
    have hu1 : nu N (6 * d + 4) (N (6 * d + 4) - 1) (6 * d + 5) = 0 := by rw [nu_k (by omega)]; exact hu
    generalize nu N (6 * d + 4) (N (6 * d + 4) - 1) = N1 at hR1 hok1 hu1 gk1 ⊢
    generalize xup M 6 i d (N (6 * d + 4) - 1) = Mb at hR1 hfr gk1 gn1 ⊢
    have fin := fun z hz => g_28 (K := fun r M' => r = none ∧ RG M' i nd (turnF nd N1 d) ∧ frG i M M') hR1 hok1 hd hu1 (fun M' q1 q2 => ⟨rfl, q1, frG_tr hfr q2⟩) z hz
    refine st_X0_goOne [(28, [true, true, true, false])] 20 ?_
    simp only [sy, xisC, sxI, xgI, xgL, xgR, xent, xargs0, p1i, p2i, p1l, p2l, pli, p1r, pir, piir, plir, pvr, pdup, pdup2, pret, xjmp, xcon, xfd, xcl_, xcall, xbr, xsw, xtsw, xst1, xst2, xkill, xpush, xcat, xcl, xar, xkd, xrf, xmask, mR, mL, List.getElem?_cons_zero, List.getElem?_cons_succ, List.lookup_nil, List.lookup_cons, Nat.reduceAdd, Nat.reduceSub, Nat.reduceLeDiff, Nat.reduceEqDiff, Nat.reduceBEq, List.length_cons, List.length_nil, List.replicate, List.append_nil, List.nil_append, List.cons_append, List.set_cons_zero, List.set_cons_succ, List.take_succ_cons, List.take_zero, List.drop_succ_cons, List.drop_zero, List.reverse_cons, List.reverse_nil, List.map_cons, List.map_nil, List.sum_cons, List.sum_nil, decide_true, decide_false, and_self, and_true, true_and, true_or, or_true, Fin.isValue, Fin.val_zero, Fin.val_one, Fin.val_two, Fin.reduceFinMk, Nat.reduceMod, Option.some.injEq, Sum.inl.injEq, Sum.inr.injEq, Prod.mk.injEq, eq_self, reduceCtorEq, imp_self, implies_true, Nat.zero_add, Nat.add_zero, Nat.zero_le, Int.reduceEq, Int.reduceLT, Int.reduceLE, Int.reduceNeg, not_true, not_false_iff, false_imp_iff, true_imp_iff, forall_const, or_self, or_false, false_or, and_false, false_and, ↓reduceIte, z_0, z_1, z_f1, z_f2, z_f3, ct_X0_goOne, mi_X0_goOne, Int.toNat_natCast, gk1, gn1]
    refine ⟨by omega, fun h2 => ?_, fun h2 => ⟨fun hn => ?_, fun hn => ?_⟩⟩
    · exact fin 0 (by rw [if_neg]; rintro ⟨q, -⟩; exact h2 q)
    · exact fin 0 (by rw [if_neg]; rintro ⟨-, q⟩; omega)
    · exact fin 1 (by rw [if_pos ⟨h2, by omega⟩])

/-! ===== a line as a whole, the model's side ===== -/
noncomputable def bdF (b : Nat → Int) (n p : Nat) (D : Nat → Int) (ft : Int) : Int × Nat := if lnL b n p < 4 then d2F b n (tE b n p) else if lnL b n p = 4 then (r1F b n (tE b n p) D, tS b n (tE b n p)) else if lnL b n p = 5 then a1F b n (tE b n p) ft else w1F b n (tE b n p)
def bdQ (b : Nat → Int) (n p : Nat) : Nat := if lnL b n p < 4 then tE b n (tE b n (tE b n p)) else if lnL b n p = 4 then tE b n (tE b n p) else if lnL b n p = 5 then tE b n (tE b n (tE b n p)) else tE b n (tE b n (tE b n (tE b n p)))
def liR (b : Nat → Int) (n p : Nat) (dr : Int) : Int := if lnL b n p = 4 then dr + 1 else dr
def liH (b : Nat → Int) (n p : Nat) (hi : Int) : Int := if lnL b n p = 5 then (if hi < tV b n (tE b n p) then tV b n (tE b n p) else hi) else if lnL b n p = 6 then (if hi < tV b n (tE b n (tE b n p)) then tV b n (tE b n (tE b n p)) else hi) else hi
theorem bdQ_P {b : Nat → Int} {n p : Nat} : liP b n p = tE b n (bdQ b n p) := by
  unfold liP bdQ
  repeat' split
  all_goals rfl
theorem bd_tail {z z' : Int} {a a' : Nat} {F : Int × Nat} : (if z ≠ 0 then (z, a) else (z', a')) = F → (F.1 = 0 → z = 0) := by
  intro h w
  by_cases q : z = 0
  · exact q
  · rw [if_pos q] at h; subst h; exact absurd w q
/-- the body, then the stop -/
theorem li_bd {b : Nat → Int} {n p dd : Nat} {D : Nat → Int} {ft : Int} (h0 : ¬ lnL b n p < 0) (hf : ¬ fuZ dd D (lnL b n p) = 1) : liF b n p dd D ft = if (bdF b n p D ft).1 ≠ 0 then bdF b n p D ft else (tkZ b n (bdQ b n p) 3, tS b n (bdQ b n p)) := by
  unfold liF bdF bdQ
  rw [if_neg h0, if_neg hf]
  generalize lnL b n p = l
  by_cases q4 : l < 4
  · simp only [if_pos q4]
    unfold dgF d2F
    by_cases z : ceZ b n (tE b n p) = 0
    · have z' : ¬ ceZ b n (tE b n p) ≠ 0 := fun a => a z
      simp only [if_neg z']
    · have z' : ceZ b n (tE b n p) ≠ 0 := z
      simp only [if_pos z']
  · simp only [if_neg q4]
    by_cases q5 : l = 4
    · simp only [if_pos q5]
      unfold rkF r1F
      by_cases z : ceZ b n (tE b n p) = 0
      · have z' : ¬ ceZ b n (tE b n p) ≠ 0 := fun a => a z
        simp only [if_neg z']
        by_cases y : tb (D (25 + xOf (tV b n (tE b n p)))) (yOf (tV b n (tE b n p))) = true
        · simp only [if_pos y]
          rw [if_pos (by decide)]
        · simp only [if_neg y]
          rw [if_neg (fun a => a rfl)]
      · have z' : ceZ b n (tE b n p) ≠ 0 := z
        simp only [if_pos z']
    · simp only [if_neg q5]
      by_cases q6 : l = 5
      · simp only [if_pos q6]
        unfold faF a1F
        by_cases z : nuZ b n (tE b n p) 3 = 0
        · have z' : ¬ nuZ b n (tE b n p) 3 ≠ 0 := fun a => a z
          simp only [if_neg z']
          by_cases y : bAnd (bShr ft (tV b n (tE b n p))) 1 = 0
          · have y' : ¬ bAnd (bShr ft (tV b n (tE b n p))) 1 ≠ 0 := fun a => a y
            simp only [if_neg y']
          · have y' : bAnd (bShr ft (tV b n (tE b n p))) 1 ≠ 0 := y
            simp only [if_pos y']
            rw [if_pos (by decide)]
        · have z' : nuZ b n (tE b n p) 3 ≠ 0 := z
          simp only [if_pos z']
      · simp only [if_neg q6]
        unfold woF w1F
        by_cases z : nuZ b n (tE b n p) 20 = 0
        · have z' : ¬ nuZ b n (tE b n p) 20 ≠ 0 := fun a => a z
          simp only [if_neg z']
          by_cases y : nuZ b n (tE b n (tE b n p)) 3 = 0
          · have y' : ¬ nuZ b n (tE b n (tE b n p)) 3 ≠ 0 := fun a => a y
            simp only [if_neg y']
          · have y' : nuZ b n (tE b n (tE b n p)) 3 ≠ 0 := y
            simp only [if_pos y']
        · have z' : nuZ b n (tE b n p) 20 ≠ 0 := z
          simp only [if_pos z']
theorem bd_F {b : Nat → Int} {n p : Nat} {D : Nat → Int} {ft : Int} (h : tF b n (tE b n p) ≠ 0) : bdF b n p D ft = (1, tS b n (tE b n p)) := by
  have c := ceZ_F h
  have a := fun mx => nuZ_F (mx := mx) h
  unfold bdF d2F r1F a1F w1F
  rw [c, a 3, a 20]
  simp only [ne_eq, Int.reduceEq, not_false_eq_true, if_true, ite_self]
set_option maxRecDepth 100000 in
theorem m_readLineOf {M : XM} {n p dd : Nat} {b D fm : Nat → Int} {dr ft hi : Int} (hb : M 28 0 = b) (hn : n ≤ 160) (hr : ∀ j, j < n → 0 ≤ b j ∧ b j < 128) (hp : p ≤ n) (hL : LD b n (tE b n p) M) (hD : M 26 0 = D) (hF : M 27 0 = fm) (h5 : M 22 0 5 = dd) (h6 : M 22 0 6 = dr) (h7 : M 22 0 7 = ft) (h9 : M 22 0 9 = hi) (hD0 : ∀ x, x < 8 → 0 ≤ D (25 + x) ∧ D (25 + x) < 256) (hdr : 0 ≤ dr ∧ dr ≤ 64) (h33 : 0 ≤ D 33) (h0 : ¬ lnL b n p < 0) (hf : fuZ dd D (lnL b n p) = 0) {K : Option XV → XM → Prop} (hK : ∀ M' : XM, ((bdF b n p D ft).1 = 0 → LD b n (bdQ b n p) M' ∧ M' 26 0 = liD b n p dd D ∧ M' 27 0 = liZ b n p fm ∧ M' 22 0 5 = liN b n p dd ∧ M' 22 0 6 = liR b n p dr ∧ M' 22 0 7 = liB b n p ft ∧ M' 22 0 9 = liH b n p hi) ∧ ((bdF b n p D ft).1 ≠ 0 → M' 22 0 16 = (bdF b n p D ft).1 ∧ M' 22 0 17 = (bdF b n p D ft).2) ∧ frL M M' → K none M') : CW mi_X4_readLineOf [xR 22 0, xI (lnL b n p)] M K := by
  have p1 := (tE_n (b := b) hp).2.1
  have lr := ln_r (b := b) (n := n) (p := p)
  have cd := fun hd => m_readDigger (dd := dd) hb hn hr p1 hL hD h5 hd (lnL b n p)
  unfold fuZ at hf
  unfold bdF bdQ liD liZ liN liR liB liH at hK
  generalize lnL b n p = l at h0 hf hK lr cd ⊢
  by_cases q4 : l < 4
  · simp only [if_pos q4] at hK hf
    have n4 : ¬ l = 4 := by omega
    have n5 : ¬ l = 5 := by omega
    have n6 : ¬ l = 6 := by omega
    simp only [if_neg n4, if_neg n5, if_neg n6] at hK
    have hd4 : dd < 4 := by
      by_cases z : dd < 4
      · exact z
      · rw [if_neg z] at hf; exact absurd hf (by decide)
    have cd := cd hd4
    refine in_X4_readLineOf (Nat.le_of_ble_eq_true rfl) ?_
    refine st_X4_readLineOf [(2, [true, true]), (5, [true, true]), (8, [true, true]), (11, [true, true])] 20 ?_
    simp only [sy, xisC, sxI, xgI, xgL, xgR, xent, xargs0, p1i, p2i, p1l, p2l, pli, p1r, pir, piir, plir, pvr, pdup, pdup2, pret, xjmp, xcon, xfd, xcl_, xcall, xbr, xsw, xtsw, xst1, xst2, xkill, xpush, xcat, xcl, xar, xkd, xrf, xmask, mR, mL, List.getElem?_cons_zero, List.getElem?_cons_succ, List.lookup_nil, List.lookup_cons, Nat.reduceAdd, Nat.reduceSub, Nat.reduceLeDiff, Nat.reduceEqDiff, Nat.reduceBEq, List.length_cons, List.length_nil, List.replicate, List.append_nil, List.nil_append, List.cons_append, List.set_cons_zero, List.set_cons_succ, List.take_succ_cons, List.take_zero, List.drop_succ_cons, List.drop_zero, List.reverse_cons, List.reverse_nil, List.map_cons, List.map_nil, List.sum_cons, List.sum_nil, decide_true, decide_false, and_self, and_true, true_and, true_or, or_true, Fin.isValue, Fin.val_zero, Fin.val_one, Fin.val_two, Fin.reduceFinMk, Nat.reduceMod, Option.some.injEq, Sum.inl.injEq, Sum.inr.injEq, Prod.mk.injEq, eq_self, reduceCtorEq, imp_self, implies_true, Nat.zero_add, Nat.add_zero, Nat.zero_le, Int.reduceEq, Int.reduceLT, Int.reduceLE, Int.reduceNeg, not_true, not_false_iff, false_imp_iff, true_imp_iff, forall_const, or_self, or_false, false_or, and_false, false_and, ↓reduceIte, z_0, z_1, z_f1, z_f2, z_f3, Int.reduceToNat, Int.reduceAdd, ct_X4_readLineOf, mi_X4_readLineOf, n4, n5, n6]
    refine st_X4_readLineOf [] 20 ?_
    simp only [sy, xisC, sxI, xgI, xgL, xgR, xent, xargs0, p1i, p2i, p1l, p2l, pli, p1r, pir, piir, plir, pvr, pdup, pdup2, pret, xjmp, xcon, xfd, xcl_, xcall, xbr, xsw, xtsw, xst1, xst2, xkill, xpush, xcat, xcl, xar, xkd, xrf, xmask, mR, mL, List.getElem?_cons_zero, List.getElem?_cons_succ, List.lookup_nil, List.lookup_cons, Nat.reduceAdd, Nat.reduceSub, Nat.reduceLeDiff, Nat.reduceEqDiff, Nat.reduceBEq, List.length_cons, List.length_nil, List.replicate, List.append_nil, List.nil_append, List.cons_append, List.set_cons_zero, List.set_cons_succ, List.take_succ_cons, List.take_zero, List.drop_succ_cons, List.drop_zero, List.reverse_cons, List.reverse_nil, List.map_cons, List.map_nil, List.sum_cons, List.sum_nil, decide_true, decide_false, and_self, and_true, true_and, true_or, or_true, Fin.isValue, Fin.val_zero, Fin.val_one, Fin.val_two, Fin.reduceFinMk, Nat.reduceMod, Option.some.injEq, Sum.inl.injEq, Sum.inr.injEq, Prod.mk.injEq, eq_self, reduceCtorEq, imp_self, implies_true, Nat.zero_add, Nat.add_zero, Nat.zero_le, Int.reduceEq, Int.reduceLT, Int.reduceLE, Int.reduceNeg, not_true, not_false_iff, false_imp_iff, true_imp_iff, forall_const, or_self, or_false, false_or, and_false, false_and, ↓reduceIte, z_0, z_1, z_f1, z_f2, z_f3, Int.reduceToNat, Int.reduceAdd, ct_X4_readLineOf, mi_X4_readLineOf]
    refine CW.mono (cd) ?_
    rintro _ M2 ⟨rfl, x1, x2, x3⟩
    refine st_X4_readLineOf [] 20 ?_
    simp only [sy, xisC, sxI, xgI, xgL, xgR, xent, xargs0, p1i, p2i, p1l, p2l, pli, p1r, pir, piir, plir, pvr, pdup, pdup2, pret, xjmp, xcon, xfd, xcl_, xcall, xbr, xsw, xtsw, xst1, xst2, xkill, xpush, xcat, xcl, xar, xkd, xrf, xmask, mR, mL, List.getElem?_cons_zero, List.getElem?_cons_succ, List.lookup_nil, List.lookup_cons, Nat.reduceAdd, Nat.reduceSub, Nat.reduceLeDiff, Nat.reduceEqDiff, Nat.reduceBEq, List.length_cons, List.length_nil, List.replicate, List.append_nil, List.nil_append, List.cons_append, List.set_cons_zero, List.set_cons_succ, List.take_succ_cons, List.take_zero, List.drop_succ_cons, List.drop_zero, List.reverse_cons, List.reverse_nil, List.map_cons, List.map_nil, List.sum_cons, List.sum_nil, decide_true, decide_false, and_self, and_true, true_and, true_or, or_true, Fin.isValue, Fin.val_zero, Fin.val_one, Fin.val_two, Fin.reduceFinMk, Nat.reduceMod, Option.some.injEq, Sum.inl.injEq, Sum.inr.injEq, Prod.mk.injEq, eq_self, reduceCtorEq, imp_self, implies_true, Nat.zero_add, Nat.add_zero, Nat.zero_le, Int.reduceEq, Int.reduceLT, Int.reduceLE, Int.reduceNeg, not_true, not_false_iff, false_imp_iff, true_imp_iff, forall_const, or_self, or_false, false_or, and_false, false_and, ↓reduceIte, z_0, z_1, z_f1, z_f2, z_f3, Int.reduceToNat, Int.reduceAdd, ct_X4_readLineOf, mi_X4_readLineOf]
    refine hK M2 ⟨fun z => ?_, x2, x3⟩
    obtain ⟨y1, y2, y3, y4, y5, y6, y7⟩ := x1 z
    exact ⟨y1, y2, y3.trans hF, y4, y5.trans h6, y6.trans h7, y7.trans h9⟩
  · simp only [if_neg q4] at hK hf
    by_cases q5 : l = 4
    · have n5 : ¬ l = 5 := by omega
      have n6 : ¬ l = 6 := by omega
      simp only [if_pos q5, if_neg n5, if_neg n6] at hK
      have cc := m_readRock (K := fun r M2 => r = none ∧ K none M2) hb hn hr p1 hL hD hD0 h6 hdr (fun M2 hx => ⟨rfl, by
        obtain ⟨x1, x2, x3⟩ := hx
        refine hK M2 ⟨fun z => ?_, x2, x3⟩
        obtain ⟨y1, y2, y3, y4, y5, y6, y7⟩ := x1 z
        exact ⟨y1, y2, y3.trans hF, y4.trans h5, y5, y6.trans h7, y7.trans h9⟩⟩)
      clear hK
      refine in_X4_readLineOf (Nat.le_of_ble_eq_true rfl) ?_
      refine st_X4_readLineOf [(2, [true, true]), (5, [true, true]), (8, [true, true]), (11, [true, true])] 20 ?_
      simp only [sy, xisC, sxI, xgI, xgL, xgR, xent, xargs0, p1i, p2i, p1l, p2l, pli, p1r, pir, piir, plir, pvr, pdup, pdup2, pret, xjmp, xcon, xfd, xcl_, xcall, xbr, xsw, xtsw, xst1, xst2, xkill, xpush, xcat, xcl, xar, xkd, xrf, xmask, mR, mL, List.getElem?_cons_zero, List.getElem?_cons_succ, List.lookup_nil, List.lookup_cons, Nat.reduceAdd, Nat.reduceSub, Nat.reduceLeDiff, Nat.reduceEqDiff, Nat.reduceBEq, List.length_cons, List.length_nil, List.replicate, List.append_nil, List.nil_append, List.cons_append, List.set_cons_zero, List.set_cons_succ, List.take_succ_cons, List.take_zero, List.drop_succ_cons, List.drop_zero, List.reverse_cons, List.reverse_nil, List.map_cons, List.map_nil, List.sum_cons, List.sum_nil, decide_true, decide_false, and_self, and_true, true_and, true_or, or_true, Fin.isValue, Fin.val_zero, Fin.val_one, Fin.val_two, Fin.reduceFinMk, Nat.reduceMod, Option.some.injEq, Sum.inl.injEq, Sum.inr.injEq, Prod.mk.injEq, eq_self, reduceCtorEq, imp_self, implies_true, Nat.zero_add, Nat.add_zero, Nat.zero_le, Int.reduceEq, Int.reduceLT, Int.reduceLE, Int.reduceNeg, not_true, not_false_iff, false_imp_iff, true_imp_iff, forall_const, or_self, or_false, false_or, and_false, false_and, ↓reduceIte, z_0, z_1, z_f1, z_f2, z_f3, Int.reduceToNat, Int.reduceAdd, ct_X4_readLineOf, mi_X4_readLineOf, q5]
      refine st_X4_readLineOf [] 20 ?_
      simp only [sy, xisC, sxI, xgI, xgL, xgR, xent, xargs0, p1i, p2i, p1l, p2l, pli, p1r, pir, piir, plir, pvr, pdup, pdup2, pret, xjmp, xcon, xfd, xcl_, xcall, xbr, xsw, xtsw, xst1, xst2, xkill, xpush, xcat, xcl, xar, xkd, xrf, xmask, mR, mL, List.getElem?_cons_zero, List.getElem?_cons_succ, List.lookup_nil, List.lookup_cons, Nat.reduceAdd, Nat.reduceSub, Nat.reduceLeDiff, Nat.reduceEqDiff, Nat.reduceBEq, List.length_cons, List.length_nil, List.replicate, List.append_nil, List.nil_append, List.cons_append, List.set_cons_zero, List.set_cons_succ, List.take_succ_cons, List.take_zero, List.drop_succ_cons, List.drop_zero, List.reverse_cons, List.reverse_nil, List.map_cons, List.map_nil, List.sum_cons, List.sum_nil, decide_true, decide_false, and_self, and_true, true_and, true_or, or_true, Fin.isValue, Fin.val_zero, Fin.val_one, Fin.val_two, Fin.reduceFinMk, Nat.reduceMod, Option.some.injEq, Sum.inl.injEq, Sum.inr.injEq, Prod.mk.injEq, eq_self, reduceCtorEq, imp_self, implies_true, Nat.zero_add, Nat.add_zero, Nat.zero_le, Int.reduceEq, Int.reduceLT, Int.reduceLE, Int.reduceNeg, not_true, not_false_iff, false_imp_iff, true_imp_iff, forall_const, or_self, or_false, false_or, and_false, false_and, ↓reduceIte, z_0, z_1, z_f1, z_f2, z_f3, Int.reduceToNat, Int.reduceAdd, ct_X4_readLineOf, mi_X4_readLineOf]
      refine CW.mono (cc) ?_
      rintro _ M2 ⟨rfl, hx⟩
      refine st_X4_readLineOf [] 20 ?_
      simp only [sy, xisC, sxI, xgI, xgL, xgR, xent, xargs0, p1i, p2i, p1l, p2l, pli, p1r, pir, piir, plir, pvr, pdup, pdup2, pret, xjmp, xcon, xfd, xcl_, xcall, xbr, xsw, xtsw, xst1, xst2, xkill, xpush, xcat, xcl, xar, xkd, xrf, xmask, mR, mL, List.getElem?_cons_zero, List.getElem?_cons_succ, List.lookup_nil, List.lookup_cons, Nat.reduceAdd, Nat.reduceSub, Nat.reduceLeDiff, Nat.reduceEqDiff, Nat.reduceBEq, List.length_cons, List.length_nil, List.replicate, List.append_nil, List.nil_append, List.cons_append, List.set_cons_zero, List.set_cons_succ, List.take_succ_cons, List.take_zero, List.drop_succ_cons, List.drop_zero, List.reverse_cons, List.reverse_nil, List.map_cons, List.map_nil, List.sum_cons, List.sum_nil, decide_true, decide_false, and_self, and_true, true_and, true_or, or_true, Fin.isValue, Fin.val_zero, Fin.val_one, Fin.val_two, Fin.reduceFinMk, Nat.reduceMod, Option.some.injEq, Sum.inl.injEq, Sum.inr.injEq, Prod.mk.injEq, eq_self, reduceCtorEq, imp_self, implies_true, Nat.zero_add, Nat.add_zero, Nat.zero_le, Int.reduceEq, Int.reduceLT, Int.reduceLE, Int.reduceNeg, not_true, not_false_iff, false_imp_iff, true_imp_iff, forall_const, or_self, or_false, false_or, and_false, false_and, ↓reduceIte, z_0, z_1, z_f1, z_f2, z_f3, Int.reduceToNat, Int.reduceAdd, ct_X4_readLineOf, mi_X4_readLineOf]
      exact hx
    · simp only [if_neg q5] at hK hf
      by_cases q6 : l = 5
      · have n6 : ¬ l = 6 := by omega
        simp only [if_pos q6, if_neg n6] at hK
        have cc := m_readFaith (K := fun r M2 => r = none ∧ K none M2) hb hn hr p1 hL h7 h9 hF (fun M2 hx => ⟨rfl, by
          obtain ⟨x1, x2, x3⟩ := hx
          refine hK M2 ⟨fun z => ?_, x2, x3⟩
          obtain ⟨y1, y2, y3, y4, y5, y6, y7⟩ := x1 z
          exact ⟨y1, y2.trans hD, y3, y4.trans h5, y5.trans h6, y6, y7⟩⟩)
        clear hK
        refine in_X4_readLineOf (Nat.le_of_ble_eq_true rfl) ?_
        refine st_X4_readLineOf [(2, [true, true]), (5, [true, true]), (8, [true, true]), (11, [true, true])] 20 ?_
        simp only [sy, xisC, sxI, xgI, xgL, xgR, xent, xargs0, p1i, p2i, p1l, p2l, pli, p1r, pir, piir, plir, pvr, pdup, pdup2, pret, xjmp, xcon, xfd, xcl_, xcall, xbr, xsw, xtsw, xst1, xst2, xkill, xpush, xcat, xcl, xar, xkd, xrf, xmask, mR, mL, List.getElem?_cons_zero, List.getElem?_cons_succ, List.lookup_nil, List.lookup_cons, Nat.reduceAdd, Nat.reduceSub, Nat.reduceLeDiff, Nat.reduceEqDiff, Nat.reduceBEq, List.length_cons, List.length_nil, List.replicate, List.append_nil, List.nil_append, List.cons_append, List.set_cons_zero, List.set_cons_succ, List.take_succ_cons, List.take_zero, List.drop_succ_cons, List.drop_zero, List.reverse_cons, List.reverse_nil, List.map_cons, List.map_nil, List.sum_cons, List.sum_nil, decide_true, decide_false, and_self, and_true, true_and, true_or, or_true, Fin.isValue, Fin.val_zero, Fin.val_one, Fin.val_two, Fin.reduceFinMk, Nat.reduceMod, Option.some.injEq, Sum.inl.injEq, Sum.inr.injEq, Prod.mk.injEq, eq_self, reduceCtorEq, imp_self, implies_true, Nat.zero_add, Nat.add_zero, Nat.zero_le, Int.reduceEq, Int.reduceLT, Int.reduceLE, Int.reduceNeg, not_true, not_false_iff, false_imp_iff, true_imp_iff, forall_const, or_self, or_false, false_or, and_false, false_and, ↓reduceIte, z_0, z_1, z_f1, z_f2, z_f3, Int.reduceToNat, Int.reduceAdd, ct_X4_readLineOf, mi_X4_readLineOf, q6]
        refine st_X4_readLineOf [] 20 ?_
        simp only [sy, xisC, sxI, xgI, xgL, xgR, xent, xargs0, p1i, p2i, p1l, p2l, pli, p1r, pir, piir, plir, pvr, pdup, pdup2, pret, xjmp, xcon, xfd, xcl_, xcall, xbr, xsw, xtsw, xst1, xst2, xkill, xpush, xcat, xcl, xar, xkd, xrf, xmask, mR, mL, List.getElem?_cons_zero, List.getElem?_cons_succ, List.lookup_nil, List.lookup_cons, Nat.reduceAdd, Nat.reduceSub, Nat.reduceLeDiff, Nat.reduceEqDiff, Nat.reduceBEq, List.length_cons, List.length_nil, List.replicate, List.append_nil, List.nil_append, List.cons_append, List.set_cons_zero, List.set_cons_succ, List.take_succ_cons, List.take_zero, List.drop_succ_cons, List.drop_zero, List.reverse_cons, List.reverse_nil, List.map_cons, List.map_nil, List.sum_cons, List.sum_nil, decide_true, decide_false, and_self, and_true, true_and, true_or, or_true, Fin.isValue, Fin.val_zero, Fin.val_one, Fin.val_two, Fin.reduceFinMk, Nat.reduceMod, Option.some.injEq, Sum.inl.injEq, Sum.inr.injEq, Prod.mk.injEq, eq_self, reduceCtorEq, imp_self, implies_true, Nat.zero_add, Nat.add_zero, Nat.zero_le, Int.reduceEq, Int.reduceLT, Int.reduceLE, Int.reduceNeg, not_true, not_false_iff, false_imp_iff, true_imp_iff, forall_const, or_self, or_false, false_or, and_false, false_and, ↓reduceIte, z_0, z_1, z_f1, z_f2, z_f3, Int.reduceToNat, Int.reduceAdd, ct_X4_readLineOf, mi_X4_readLineOf]
        refine CW.mono (cc) ?_
        rintro _ M2 ⟨rfl, hx⟩
        refine st_X4_readLineOf [] 20 ?_
        simp only [sy, xisC, sxI, xgI, xgL, xgR, xent, xargs0, p1i, p2i, p1l, p2l, pli, p1r, pir, piir, plir, pvr, pdup, pdup2, pret, xjmp, xcon, xfd, xcl_, xcall, xbr, xsw, xtsw, xst1, xst2, xkill, xpush, xcat, xcl, xar, xkd, xrf, xmask, mR, mL, List.getElem?_cons_zero, List.getElem?_cons_succ, List.lookup_nil, List.lookup_cons, Nat.reduceAdd, Nat.reduceSub, Nat.reduceLeDiff, Nat.reduceEqDiff, Nat.reduceBEq, List.length_cons, List.length_nil, List.replicate, List.append_nil, List.nil_append, List.cons_append, List.set_cons_zero, List.set_cons_succ, List.take_succ_cons, List.take_zero, List.drop_succ_cons, List.drop_zero, List.reverse_cons, List.reverse_nil, List.map_cons, List.map_nil, List.sum_cons, List.sum_nil, decide_true, decide_false, and_self, and_true, true_and, true_or, or_true, Fin.isValue, Fin.val_zero, Fin.val_one, Fin.val_two, Fin.reduceFinMk, Nat.reduceMod, Option.some.injEq, Sum.inl.injEq, Sum.inr.injEq, Prod.mk.injEq, eq_self, reduceCtorEq, imp_self, implies_true, Nat.zero_add, Nat.add_zero, Nat.zero_le, Int.reduceEq, Int.reduceLT, Int.reduceLE, Int.reduceNeg, not_true, not_false_iff, false_imp_iff, true_imp_iff, forall_const, or_self, or_false, false_or, and_false, false_and, ↓reduceIte, z_0, z_1, z_f1, z_f2, z_f3, Int.reduceToNat, Int.reduceAdd, ct_X4_readLineOf, mi_X4_readLineOf]
        exact hx
      · have l6 : l = 6 := by omega
        simp only [if_neg q6, if_pos l6] at hK hf
        have h6' : D 33 < 6 := by
          by_cases z : D 33 < 6
          · exact z
          · rw [if_neg z] at hf; exact absurd hf (by decide)
        have cc := m_readWord (K := fun r M2 => r = none ∧ K none M2) hb hn hr p1 hL hD h33 h6' h9 (fun M2 hx => ⟨rfl, by
          obtain ⟨x1, x2, x3⟩ := hx
          refine hK M2 ⟨fun z => ?_, x2, x3⟩
          obtain ⟨y1, y2, y3, y4, y5, y6, y7⟩ := x1 z
          exact ⟨y1, y2, y3.trans hF, y4.trans h5, y5.trans h6, y6.trans h7, y7⟩⟩)
        clear hK
        refine in_X4_readLineOf (Nat.le_of_ble_eq_true rfl) ?_
        refine st_X4_readLineOf [(2, [true, true]), (5, [true, true]), (8, [true, true]), (11, [true, true])] 20 ?_
        simp only [sy, xisC, sxI, xgI, xgL, xgR, xent, xargs0, p1i, p2i, p1l, p2l, pli, p1r, pir, piir, plir, pvr, pdup, pdup2, pret, xjmp, xcon, xfd, xcl_, xcall, xbr, xsw, xtsw, xst1, xst2, xkill, xpush, xcat, xcl, xar, xkd, xrf, xmask, mR, mL, List.getElem?_cons_zero, List.getElem?_cons_succ, List.lookup_nil, List.lookup_cons, Nat.reduceAdd, Nat.reduceSub, Nat.reduceLeDiff, Nat.reduceEqDiff, Nat.reduceBEq, List.length_cons, List.length_nil, List.replicate, List.append_nil, List.nil_append, List.cons_append, List.set_cons_zero, List.set_cons_succ, List.take_succ_cons, List.take_zero, List.drop_succ_cons, List.drop_zero, List.reverse_cons, List.reverse_nil, List.map_cons, List.map_nil, List.sum_cons, List.sum_nil, decide_true, decide_false, and_self, and_true, true_and, true_or, or_true, Fin.isValue, Fin.val_zero, Fin.val_one, Fin.val_two, Fin.reduceFinMk, Nat.reduceMod, Option.some.injEq, Sum.inl.injEq, Sum.inr.injEq, Prod.mk.injEq, eq_self, reduceCtorEq, imp_self, implies_true, Nat.zero_add, Nat.add_zero, Nat.zero_le, Int.reduceEq, Int.reduceLT, Int.reduceLE, Int.reduceNeg, not_true, not_false_iff, false_imp_iff, true_imp_iff, forall_const, or_self, or_false, false_or, and_false, false_and, ↓reduceIte, z_0, z_1, z_f1, z_f2, z_f3, Int.reduceToNat, Int.reduceAdd, ct_X4_readLineOf, mi_X4_readLineOf, l6]
        refine st_X4_readLineOf [] 20 ?_
        simp only [sy, xisC, sxI, xgI, xgL, xgR, xent, xargs0, p1i, p2i, p1l, p2l, pli, p1r, pir, piir, plir, pvr, pdup, pdup2, pret, xjmp, xcon, xfd, xcl_, xcall, xbr, xsw, xtsw, xst1, xst2, xkill, xpush, xcat, xcl, xar, xkd, xrf, xmask, mR, mL, List.getElem?_cons_zero, List.getElem?_cons_succ, List.lookup_nil, List.lookup_cons, Nat.reduceAdd, Nat.reduceSub, Nat.reduceLeDiff, Nat.reduceEqDiff, Nat.reduceBEq, List.length_cons, List.length_nil, List.replicate, List.append_nil, List.nil_append, List.cons_append, List.set_cons_zero, List.set_cons_succ, List.take_succ_cons, List.take_zero, List.drop_succ_cons, List.drop_zero, List.reverse_cons, List.reverse_nil, List.map_cons, List.map_nil, List.sum_cons, List.sum_nil, decide_true, decide_false, and_self, and_true, true_and, true_or, or_true, Fin.isValue, Fin.val_zero, Fin.val_one, Fin.val_two, Fin.reduceFinMk, Nat.reduceMod, Option.some.injEq, Sum.inl.injEq, Sum.inr.injEq, Prod.mk.injEq, eq_self, reduceCtorEq, imp_self, implies_true, Nat.zero_add, Nat.add_zero, Nat.zero_le, Int.reduceEq, Int.reduceLT, Int.reduceLE, Int.reduceNeg, not_true, not_false_iff, false_imp_iff, true_imp_iff, forall_const, or_self, or_false, false_or, and_false, false_and, ↓reduceIte, z_0, z_1, z_f1, z_f2, z_f3, Int.reduceToNat, Int.reduceAdd, ct_X4_readLineOf, mi_X4_readLineOf]
        refine CW.mono (cc) ?_
        rintro _ M2 ⟨rfl, hx⟩
        refine st_X4_readLineOf [] 20 ?_
        simp only [sy, xisC, sxI, xgI, xgL, xgR, xent, xargs0, p1i, p2i, p1l, p2l, pli, p1r, pir, piir, plir, pvr, pdup, pdup2, pret, xjmp, xcon, xfd, xcl_, xcall, xbr, xsw, xtsw, xst1, xst2, xkill, xpush, xcat, xcl, xar, xkd, xrf, xmask, mR, mL, List.getElem?_cons_zero, List.getElem?_cons_succ, List.lookup_nil, List.lookup_cons, Nat.reduceAdd, Nat.reduceSub, Nat.reduceLeDiff, Nat.reduceEqDiff, Nat.reduceBEq, List.length_cons, List.length_nil, List.replicate, List.append_nil, List.nil_append, List.cons_append, List.set_cons_zero, List.set_cons_succ, List.take_succ_cons, List.take_zero, List.drop_succ_cons, List.drop_zero, List.reverse_cons, List.reverse_nil, List.map_cons, List.map_nil, List.sum_cons, List.sum_nil, decide_true, decide_false, and_self, and_true, true_and, true_or, or_true, Fin.isValue, Fin.val_zero, Fin.val_one, Fin.val_two, Fin.reduceFinMk, Nat.reduceMod, Option.some.injEq, Sum.inl.injEq, Sum.inr.injEq, Prod.mk.injEq, eq_self, reduceCtorEq, imp_self, implies_true, Nat.zero_add, Nat.add_zero, Nat.zero_le, Int.reduceEq, Int.reduceLT, Int.reduceLE, Int.reduceNeg, not_true, not_false_iff, false_imp_iff, true_imp_iff, forall_const, or_self, or_false, false_or, and_false, false_and, ↓reduceIte, z_0, z_1, z_f1, z_f2, z_f3, Int.reduceToNat, Int.reduceAdd, ct_X4_readLineOf, mi_X4_readLineOf]
        exact hx

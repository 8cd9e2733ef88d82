/-! ===== the model reads numbers and cells, and goes on ===== -/
theorem tV_nn {b : Nat → Int} {n p : Nat} (hp : p ≤ n) (h : tkZ b n p 2 = 0) : 0 ≤ tV b n p ∧ tV b n p ≤ 99 := by
  obtain ⟨l1, l2, l3⟩ := tk_len hp h
  unfold tkZ at h
  have hF : tF b n p = 0 := by
    by_cases q : tF b n p = 0
    · exact q
    · rw [if_pos q] at h; exact absurd h (by decide)
  rw [if_neg (fun z => z hF)] at h
  have hK : tK b n p = 2 := by
    by_cases q : tK b n p = 2
    · exact q
    · rw [if_neg q] at h; exact absurd h (by decide)
  have e1 : tE b n p = ru b n 2 (tS b n p) := by
    show (if tK b n p = 3 then sk b n p + 1 else if tK b n p = 1 ∨ tK b n p = 2 then ru b n (tK b n p) (sk b n p) else sk b n p) = _
    rw [if_neg (by omega), if_pos (Or.inr hK), hK]
    rfl
  have k0 : clF (bt b n (tS b n p)) = 2 := hK
  rw [ru_y (by decide) k0] at e1
  have c0 := (cl_i (c := bt b n (tS b n p))).2.2.1.mp k0
  rw [bt_in (by omega)] at c0
  unfold tV vaF
  rw [if_neg (by omega)]
  by_cases q : tE b n p = tS b n p + 1
  · rw [if_pos q]; omega
  · rw [if_neg q]
    have k1 : clF (bt b n (tS b n p + 1)) = 2 := by
      by_cases z : clF (bt b n (tS b n p + 1)) = 2
      · exact z
      · rw [ru_n z] at e1; exact absurd e1 q
    have c1 := (cl_i (c := bt b n (tS b n p + 1))).2.2.1.mp k1
    rw [bt_in (by omega)] at c1
    omega
theorem tE_n {b : Nat → Int} {n p : Nat} (hp : p ≤ n) : tS b n p ≤ tE b n p ∧ tE b n p ≤ n ∧ p ≤ tS b n p := by
  have skr := sk_r (b := b) (n - p) p rfl hp
  have s : tS b n p = sk b n p := rfl
  have e : tE b n p = (if tK b n p = 3 then sk b n p + 1 else if tK b n p = 1 ∨ tK b n p = 2 then ru b n (tK b n p) (sk b n p) else sk b n p) := rfl
  rw [s, e]
  by_cases k3 : tK b n p = 3
  · have lt : sk b n p < n := by
      by_cases q : sk b n p < n
      · exact q
      · have : tK b n p = 4 := cl_out q
        omega
    rw [if_pos k3]
    omega
  · rw [if_neg k3]
    by_cases k12 : tK b n p = 1 ∨ tK b n p = 2
    · rw [if_pos k12]
      have r := ru_r (b := b) (k := tK b n p) (by omega) (n - sk b n p) (sk b n p) rfl skr.2.1
      omega
    · rw [if_neg k12]
      omega
theorem frK_f {M : XM} {fl pl : Int} : frK M (fT M fl pl) := frK_up (frK_up frK_rf (by decide)) (by decide)
theorem LD_b {b : Nat → Int} {n p : Nat} {M M' : XM} (h : LD b n p M) (hf : ∀ k, M' 22 0 k = M 22 0 k ∨ (k < 11 ∨ 17 < k)) : LD b n p M' := by
  have e : ∀ k, 11 ≤ k → k ≤ 17 → M' 22 0 k = M 22 0 k := fun k a c => (hf k).resolve_right (by omega)
  unfold LD
  rw [e 11 (by decide) (by decide), e 12 (by decide) (by decide), e 13 (by decide) (by decide), e 14 (by decide) (by decide), e 15 (by decide) (by decide), e 16 (by decide) (by decide), e 17 (by decide) (by decide)]
  exact h
theorem m_takesLD {M : XM} {n p : Nat} {b : Nat → Int} (hb : M 28 0 = b) (hn : n ≤ 160) (hr : ∀ j, j < n → 0 ≤ b j ∧ b j < 128) (hp : p ≤ n) (hL : LD b n p M) (h0 : tF b n p = 0) : CW mi_X4_takes [xR 22 0] M (fun r M' => r = none ∧ LD b n (tE b n p) M' ∧ frK M M') := by
  obtain ⟨l1, l2, l3, l4, -⟩ := hL
  obtain ⟨a1, a2, a3⟩ := l4 h0
  rw [h0] at l3
  refine m_takes hb hn hr (tE_n hp).2.1 (fr := M 22 0 13) (so := M 22 0 14) (va := M 22 0 15) (wr := M 22 0 17) ⟨l1, a1, rfl, rfl, rfl, l3, rfl⟩ ?_
  rintro M' ⟨f, x1, x2, x3, x4⟩
  exact ⟨rfl, ⟨(f.2 11 (by decide)).trans l1, x1, x2, fun z => ⟨(x3 z).1, (x3 z).2.1, (x3 z).2.2⟩, x4⟩, f⟩
/-- a number, or what is wrong with it -/
def RN (b : Nat → Int) (n p : Nat) (M : XM) (z v : Int) : Option XV → XM → Prop := fun r M' => r = some (xI (if z = 0 then v else 0)) ∧ (z = 0 → LD b n (tE b n p) M') ∧ (z ≠ 0 → M' 22 0 16 = z ∧ M' 22 0 17 = tS b n p) ∧ frK M M'
theorem nuZ_F {b : Nat → Int} {n p : Nat} {mx : Int} (h : tF b n p ≠ 0) : nuZ b n p mx = 1 := by
  have ez : tkZ b n p 2 = 1 := by unfold tkZ; rw [if_pos h]
  unfold nuZ
  rw [if_pos (by rw [ez]; decide), ez]
theorem ceZ_F {b : Nat → Int} {n p : Nat} (h : tF b n p ≠ 0) : ceZ b n p = 1 := by
  have ez : tkZ b n p 2 = 1 := by unfold tkZ; rw [if_pos h]
  unfold ceZ
  rw [if_pos (by rw [ez]; decide), ez]
theorem nu_pos {b : Nat → Int} {n p : Nat} {mx : Int} : 0 ≤ nuZ b n p mx := by
  unfold nuZ tkZ
  repeat' split
  all_goals omega
theorem ce_pos {b : Nat → Int} {n p : Nat} : 0 ≤ ceZ b n p := by
  unfold ceZ tkZ
  repeat' split
  all_goals omega
set_option maxRecDepth 100000 in
theorem m_readNumber {M : XM} {n p : Nat} {b : Nat → Int} (hb : M 28 0 = b) (hn : n ≤ 160) (hr : ∀ j, j < n → 0 ≤ b j ∧ b j < 128) (hp : p ≤ n) (hL : LD b n p M) (hi : Int) : CW mi_X4_readNumber [xR 22 0, xI 0, xI hi] M (RN b n p M (nuZ b n p hi) (tV b n p)) := by
  refine in_X4_readNumber (Nat.le_of_ble_eq_true rfl) ?_
  refine st_X4_readNumber [] 20 ?_
  simp only [sy, xisC, sxI, xgI, xgL, xgR, xent, xargs0, p1i, p2i, p1l, p2l, pli, p1r, pir, piir, plir, pvr, pdup, pdup2, pret, xjmp, xcon, xfd, xcl_, xcall, xbr, xsw, xtsw, xst1, xst2, xkill, xpush, xcat, xcl, xar, xkd, xrf, xmask, mR, mL, List.getElem?_cons_zero, List.getElem?_cons_succ, List.lookup_nil, List.lookup_cons, Nat.reduceAdd, Nat.reduceSub, Nat.reduceLeDiff, Nat.reduceEqDiff, Nat.reduceBEq, List.length_cons, List.length_nil, List.replicate, List.append_nil, List.nil_append, List.cons_append, List.set_cons_zero, List.set_cons_succ, List.take_succ_cons, List.take_zero, List.drop_succ_cons, List.drop_zero, List.reverse_cons, List.reverse_nil, List.map_cons, List.map_nil, List.sum_cons, List.sum_nil, decide_true, decide_false, and_self, and_true, true_and, true_or, or_true, Fin.isValue, Fin.val_zero, Fin.val_one, Fin.val_two, Fin.reduceFinMk, Nat.reduceMod, Option.some.injEq, Sum.inl.injEq, Sum.inr.injEq, Prod.mk.injEq, eq_self, reduceCtorEq, imp_self, implies_true, Nat.zero_add, Nat.add_zero, Nat.zero_le, Int.reduceEq, Int.reduceLT, Int.reduceLE, Int.reduceNeg, not_true, not_false_iff, false_imp_iff, true_imp_iff, forall_const, or_self, or_false, false_or, and_false, false_and, ↓reduceIte, z_0, z_1, z_f1, z_f2, z_f3, Int.reduceToNat, Int.reduceAdd, ct_X4_readNumber, mi_X4_readNumber]
  by_cases h0 : tF b n p = 0
  · refine CW.mono (m_looked hL h0 0 hi (fun z => z) (fun z => (tV_nn hp z).1)) ?_
    rintro _ M2 ⟨rfl, hM2⟩
    by_cases q : nuZ b n p hi = 0
    · rw [q, if_pos rfl] at hM2
      rw [q, if_pos rfl, hM2]
      unfold RN
      refine st_X4_readNumber [] 20 ?_
      simp only [sy, xisC, sxI, xgI, xgL, xgR, xent, xargs0, p1i, p2i, p1l, p2l, pli, p1r, pir, piir, plir, pvr, pdup, pdup2, pret, xjmp, xcon, xfd, xcl_, xcall, xbr, xsw, xtsw, xst1, xst2, xkill, xpush, xcat, xcl, xar, xkd, xrf, xmask, mR, mL, List.getElem?_cons_zero, List.getElem?_cons_succ, List.lookup_nil, List.lookup_cons, Nat.reduceAdd, Nat.reduceSub, Nat.reduceLeDiff, Nat.reduceEqDiff, Nat.reduceBEq, List.length_cons, List.length_nil, List.replicate, List.append_nil, List.nil_append, List.cons_append, List.set_cons_zero, List.set_cons_succ, List.take_succ_cons, List.take_zero, List.drop_succ_cons, List.drop_zero, List.reverse_cons, List.reverse_nil, List.map_cons, List.map_nil, List.sum_cons, List.sum_nil, decide_true, decide_false, and_self, and_true, true_and, true_or, or_true, Fin.isValue, Fin.val_zero, Fin.val_one, Fin.val_two, Fin.reduceFinMk, Nat.reduceMod, Option.some.injEq, Sum.inl.injEq, Sum.inr.injEq, Prod.mk.injEq, eq_self, reduceCtorEq, imp_self, implies_true, Nat.zero_add, Nat.add_zero, Nat.zero_le, Int.reduceEq, Int.reduceLT, Int.reduceLE, Int.reduceNeg, not_true, not_false_iff, false_imp_iff, true_imp_iff, forall_const, or_self, or_false, false_or, and_false, false_and, ↓reduceIte, z_0, z_1, z_f1, z_f2, z_f3, Int.reduceToNat, Int.reduceAdd, ct_X4_readNumber, mi_X4_readNumber]
      refine CW.mono (m_takesLD hb hn hr hp hL h0) ?_
      rintro _ M3 ⟨rfl, l3, f3⟩
      refine st_X4_readNumber [] 20 ?_
      simp only [sy, xisC, sxI, xgI, xgL, xgR, xent, xargs0, p1i, p2i, p1l, p2l, pli, p1r, pir, piir, plir, pvr, pdup, pdup2, pret, xjmp, xcon, xfd, xcl_, xcall, xbr, xsw, xtsw, xst1, xst2, xkill, xpush, xcat, xcl, xar, xkd, xrf, xmask, mR, mL, List.getElem?_cons_zero, List.getElem?_cons_succ, List.lookup_nil, List.lookup_cons, Nat.reduceAdd, Nat.reduceSub, Nat.reduceLeDiff, Nat.reduceEqDiff, Nat.reduceBEq, List.length_cons, List.length_nil, List.replicate, List.append_nil, List.nil_append, List.cons_append, List.set_cons_zero, List.set_cons_succ, List.take_succ_cons, List.take_zero, List.drop_succ_cons, List.drop_zero, List.reverse_cons, List.reverse_nil, List.map_cons, List.map_nil, List.sum_cons, List.sum_nil, decide_true, decide_false, and_self, and_true, true_and, true_or, or_true, Fin.isValue, Fin.val_zero, Fin.val_one, Fin.val_two, Fin.reduceFinMk, Nat.reduceMod, Option.some.injEq, Sum.inl.injEq, Sum.inr.injEq, Prod.mk.injEq, eq_self, reduceCtorEq, imp_self, implies_true, Nat.zero_add, Nat.add_zero, Nat.zero_le, Int.reduceEq, Int.reduceLT, Int.reduceLE, Int.reduceNeg, not_true, not_false_iff, false_imp_iff, true_imp_iff, forall_const, or_self, or_false, false_or, and_false, false_and, ↓reduceIte, z_0, z_1, z_f1, z_f2, z_f3, Int.reduceToNat, Int.reduceAdd, ct_X4_readNumber, mi_X4_readNumber, if_true]
      exact ⟨l3, fun z => absurd rfl z, f3⟩
    · have hz := nu_pos (b := b) (n := n) (p := p) (mx := hi)
      rw [if_neg q] at hM2
      rw [if_neg q]
      generalize nuZ b n p hi = z at q hM2 hz ⊢
      have g : M2 22 0 16 = z := by rw [hM2]; unfold fT; rw [xup_k (by decide), xup_e]
      have g2 : M2 22 0 17 = tS b n p := by rw [hM2]; unfold fT; rw [xup_e]
      have f2 : frK M M2 := by rw [hM2]; exact frK_f
      have fin : RN b n p M z (tV b n p) (some (xI 0)) M2 := ⟨by rw [if_neg q], fun a => absurd a q, fun _ => ⟨g, g2⟩, f2⟩
      generalize RN b n p M z (tV b n p) = KK at fin ⊢
      refine st_X4_readNumber [] 20 ?_
      simp only [sy, xisC, sxI, xgI, xgL, xgR, xent, xargs0, p1i, p2i, p1l, p2l, pli, p1r, pir, piir, plir, pvr, pdup, pdup2, pret, xjmp, xcon, xfd, xcl_, xcall, xbr, xsw, xtsw, xst1, xst2, xkill, xpush, xcat, xcl, xar, xkd, xrf, xmask, mR, mL, List.getElem?_cons_zero, List.getElem?_cons_succ, List.lookup_nil, List.lookup_cons, Nat.reduceAdd, Nat.reduceSub, Nat.reduceLeDiff, Nat.reduceEqDiff, Nat.reduceBEq, List.length_cons, List.length_nil, List.replicate, List.append_nil, List.nil_append, List.cons_append, List.set_cons_zero, List.set_cons_succ, List.take_succ_cons, List.take_zero, List.drop_succ_cons, List.drop_zero, List.reverse_cons, List.reverse_nil, List.map_cons, List.map_nil, List.sum_cons, List.sum_nil, decide_true, decide_false, and_self, and_true, true_and, true_or, or_true, Fin.isValue, Fin.val_zero, Fin.val_one, Fin.val_two, Fin.reduceFinMk, Nat.reduceMod, Option.some.injEq, Sum.inl.injEq, Sum.inr.injEq, Prod.mk.injEq, eq_self, reduceCtorEq, imp_self, implies_true, Nat.zero_add, Nat.add_zero, Nat.zero_le, Int.reduceEq, Int.reduceLT, Int.reduceLE, Int.reduceNeg, not_true, not_false_iff, false_imp_iff, true_imp_iff, forall_const, or_self, or_false, false_or, and_false, false_and, ↓reduceIte, z_0, z_1, z_f1, z_f2, z_f3, Int.reduceToNat, Int.reduceAdd, ct_X4_readNumber, mi_X4_readNumber]
      refine CW.mono (m_takes0 (by rw [g]; omega)) ?_
      rintro _ M3 ⟨rfl, hM3⟩; rw [hM3]; clear hM3 M3
      refine st_X4_readNumber [] 20 ?_
      simp only [sy, xisC, sxI, xgI, xgL, xgR, xent, xargs0, p1i, p2i, p1l, p2l, pli, p1r, pir, piir, plir, pvr, pdup, pdup2, pret, xjmp, xcon, xfd, xcl_, xcall, xbr, xsw, xtsw, xst1, xst2, xkill, xpush, xcat, xcl, xar, xkd, xrf, xmask, mR, mL, List.getElem?_cons_zero, List.getElem?_cons_succ, List.lookup_nil, List.lookup_cons, Nat.reduceAdd, Nat.reduceSub, Nat.reduceLeDiff, Nat.reduceEqDiff, Nat.reduceBEq, List.length_cons, List.length_nil, List.replicate, List.append_nil, List.nil_append, List.cons_append, List.set_cons_zero, List.set_cons_succ, List.take_succ_cons, List.take_zero, List.drop_succ_cons, List.drop_zero, List.reverse_cons, List.reverse_nil, List.map_cons, List.map_nil, List.sum_cons, List.sum_nil, decide_true, decide_false, and_self, and_true, true_and, true_or, or_true, Fin.isValue, Fin.val_zero, Fin.val_one, Fin.val_two, Fin.reduceFinMk, Nat.reduceMod, Option.some.injEq, Sum.inl.injEq, Sum.inr.injEq, Prod.mk.injEq, eq_self, reduceCtorEq, imp_self, implies_true, Nat.zero_add, Nat.add_zero, Nat.zero_le, Int.reduceEq, Int.reduceLT, Int.reduceLE, Int.reduceNeg, not_true, not_false_iff, false_imp_iff, true_imp_iff, forall_const, or_self, or_false, false_or, and_false, false_and, ↓reduceIte, z_0, z_1, z_f1, z_f2, z_f3, Int.reduceToNat, Int.reduceAdd, ct_X4_readNumber, mi_X4_readNumber]
      exact fin
  · have g1 : M 22 0 16 ≠ 0 := by rw [hL.2.2.1]; exact h0
    have e1 := nuZ_F (mx := hi) h0
    have g : M 22 0 16 = 1 := by rw [hL.2.2.1]; exact (tF_01).resolve_left h0
    have fin : RN b n p M 1 (tV b n p) (some (xI 0)) M := ⟨by rw [if_neg (by decide)], fun a => absurd a (by decide), fun _ => ⟨g, hL.2.2.2.2 h0⟩, frK_rf⟩
    rw [e1]
    generalize RN b n p M 1 (tV b n p) = KK at fin ⊢
    refine CW.mono (m_looked0 0 hi g1) ?_
    rintro _ M1 ⟨rfl, hM1⟩; rw [hM1]; clear hM1 M1
    refine st_X4_readNumber [] 20 ?_
    simp only [sy, xisC, sxI, xgI, xgL, xgR, xent, xargs0, p1i, p2i, p1l, p2l, pli, p1r, pir, piir, plir, pvr, pdup, pdup2, pret, xjmp, xcon, xfd, xcl_, xcall, xbr, xsw, xtsw, xst1, xst2, xkill, xpush, xcat, xcl, xar, xkd, xrf, xmask, mR, mL, List.getElem?_cons_zero, List.getElem?_cons_succ, List.lookup_nil, List.lookup_cons, Nat.reduceAdd, Nat.reduceSub, Nat.reduceLeDiff, Nat.reduceEqDiff, Nat.reduceBEq, List.length_cons, List.length_nil, List.replicate, List.append_nil, List.nil_append, List.cons_append, List.set_cons_zero, List.set_cons_succ, List.take_succ_cons, List.take_zero, List.drop_succ_cons, List.drop_zero, List.reverse_cons, List.reverse_nil, List.map_cons, List.map_nil, List.sum_cons, List.sum_nil, decide_true, decide_false, and_self, and_true, true_and, true_or, or_true, Fin.isValue, Fin.val_zero, Fin.val_one, Fin.val_two, Fin.reduceFinMk, Nat.reduceMod, Option.some.injEq, Sum.inl.injEq, Sum.inr.injEq, Prod.mk.injEq, eq_self, reduceCtorEq, imp_self, implies_true, Nat.zero_add, Nat.add_zero, Nat.zero_le, Int.reduceEq, Int.reduceLT, Int.reduceLE, Int.reduceNeg, not_true, not_false_iff, false_imp_iff, true_imp_iff, forall_const, or_self, or_false, false_or, and_false, false_and, ↓reduceIte, z_0, z_1, z_f1, z_f2, z_f3, Int.reduceToNat, Int.reduceAdd, ct_X4_readNumber, mi_X4_readNumber]
    refine CW.mono (m_takes0 (by rw [g]; decide)) ?_
    rintro _ M3 ⟨rfl, hM3⟩; rw [hM3]; clear hM3 M3
    refine st_X4_readNumber [] 20 ?_
    simp only [sy, xisC, sxI, xgI, xgL, xgR, xent, xargs0, p1i, p2i, p1l, p2l, pli, p1r, pir, piir, plir, pvr, pdup, pdup2, pret, xjmp, xcon, xfd, xcl_, xcall, xbr, xsw, xtsw, xst1, xst2, xkill, xpush, xcat, xcl, xar, xkd, xrf, xmask, mR, mL, List.getElem?_cons_zero, List.getElem?_cons_succ, List.lookup_nil, List.lookup_cons, Nat.reduceAdd, Nat.reduceSub, Nat.reduceLeDiff, Nat.reduceEqDiff, Nat.reduceBEq, List.length_cons, List.length_nil, List.replicate, List.append_nil, List.nil_append, List.cons_append, List.set_cons_zero, List.set_cons_succ, List.take_succ_cons, List.take_zero, List.drop_succ_cons, List.drop_zero, List.reverse_cons, List.reverse_nil, List.map_cons, List.map_nil, List.sum_cons, List.sum_nil, decide_true, decide_false, and_self, and_true, true_and, true_or, or_true, Fin.isValue, Fin.val_zero, Fin.val_one, Fin.val_two, Fin.reduceFinMk, Nat.reduceMod, Option.some.injEq, Sum.inl.injEq, Sum.inr.injEq, Prod.mk.injEq, eq_self, reduceCtorEq, imp_self, implies_true, Nat.zero_add, Nat.add_zero, Nat.zero_le, Int.reduceEq, Int.reduceLT, Int.reduceLE, Int.reduceNeg, not_true, not_false_iff, false_imp_iff, true_imp_iff, forall_const, or_self, or_false, false_or, and_false, false_and, ↓reduceIte, z_0, z_1, z_f1, z_f2, z_f3, Int.reduceToNat, Int.reduceAdd, ct_X4_readNumber, mi_X4_readNumber]
    exact fin
/-- a cell looked at, nothing taken -/
def LC (b : Nat → Int) (n p : Nat) (M : XM) : Option XV → XM → Prop := fun r M' => r = some (xI (if ceZ b n p = 0 then tV b n p else 0)) ∧ (ceZ b n p = 0 → M' = M) ∧ (ceZ b n p ≠ 0 → M' 22 0 16 = ceZ b n p ∧ M' 22 0 17 = tS b n p) ∧ frK M M'
set_option maxRecDepth 100000 in
theorem m_lookedCell {M : XM} {n p : Nat} {b : Nat → Int} (hp : p ≤ n) (hL : LD b n p M) : CW mi_X4_lookedCell [xR 22 0] M (LC b n p M) := by
  refine in_X4_lookedCell (Nat.le_of_ble_eq_true rfl) ?_
  refine st_X4_lookedCell [] 20 ?_
  simp only [sy, xisC, sxI, xgI, xgL, xgR, xent, xargs0, p1i, p2i, p1l, p2l, pli, p1r, pir, piir, plir, pvr, pdup, pdup2, pret, xjmp, xcon, xfd, xcl_, xcall, xbr, xsw, xtsw, xst1, xst2, xkill, xpush, xcat, xcl, xar, xkd, xrf, xmask, mR, mL, List.getElem?_cons_zero, List.getElem?_cons_succ, List.lookup_nil, List.lookup_cons, Nat.reduceAdd, Nat.reduceSub, Nat.reduceLeDiff, Nat.reduceEqDiff, Nat.reduceBEq, List.length_cons, List.length_nil, List.replicate, List.append_nil, List.nil_append, List.cons_append, List.set_cons_zero, List.set_cons_succ, List.take_succ_cons, List.take_zero, List.drop_succ_cons, List.drop_zero, List.reverse_cons, List.reverse_nil, List.map_cons, List.map_nil, List.sum_cons, List.sum_nil, decide_true, decide_false, and_self, and_true, true_and, true_or, or_true, Fin.isValue, Fin.val_zero, Fin.val_one, Fin.val_two, Fin.reduceFinMk, Nat.reduceMod, Option.some.injEq, Sum.inl.injEq, Sum.inr.injEq, Prod.mk.injEq, eq_self, reduceCtorEq, imp_self, implies_true, Nat.zero_add, Nat.add_zero, Nat.zero_le, Int.reduceEq, Int.reduceLT, Int.reduceLE, Int.reduceNeg, not_true, not_false_iff, false_imp_iff, true_imp_iff, forall_const, or_self, or_false, false_or, and_false, false_and, ↓reduceIte, z_0, z_1, z_f1, z_f2, z_f3, Int.reduceToNat, Int.reduceAdd, ct_X4_lookedCell, mi_X4_lookedCell]
  by_cases h0 : tF b n p = 0
  · have l3 := hL.2.2.1
    rw [h0] at l3
    refine CW.mono (m_looked hL h0 0 77 (fun z => z) (fun z => (tV_nn hp z).1)) ?_
    rintro _ M2 ⟨rfl, hM2⟩
    by_cases q : nuZ b n p 77 = 0
    · rw [q, if_pos rfl] at hM2
      rw [q, if_pos rfl, hM2]
      clear hM2 M2
      have ek : tkZ b n p 2 = 0 := by
        by_cases z : tkZ b n p 2 = 0
        · exact z
        · unfold nuZ at q; rw [if_pos z] at q; exact absurd q z
      have vr := tV_nn hp ek
      have cc := c_isCell M (tV b n p) (by omega)
      by_cases q2 : 0 ≤ tV b n p ∧ tV b n p / 10 < 8 ∧ tV b n p % 10 < 8
      · have ec : ceZ b n p = 0 := by unfold ceZ; rw [if_neg (fun z => z ek), if_pos q2]
        rw [if_pos q2] at cc
        have cn1 := m_needs M 1 3
        rw [if_neg (fun z => absurd z.1 (by decide))] at cn1
        have fin : LC b n p M (some (xI (tV b n p))) M := ⟨by rw [ec, if_pos rfl], fun _ => rfl, fun z => absurd ec z, frK_rf⟩
        generalize LC b n p M = KK at fin ⊢
        refine st_X4_lookedCell [(8, [true, true])] 20 ?_
        simp only [sy, xisC, sxI, xgI, xgL, xgR, xent, xargs0, p1i, p2i, p1l, p2l, pli, p1r, pir, piir, plir, pvr, pdup, pdup2, pret, xjmp, xcon, xfd, xcl_, xcall, xbr, xsw, xtsw, xst1, xst2, xkill, xpush, xcat, xcl, xar, xkd, xrf, xmask, mR, mL, List.getElem?_cons_zero, List.getElem?_cons_succ, List.lookup_nil, List.lookup_cons, Nat.reduceAdd, Nat.reduceSub, Nat.reduceLeDiff, Nat.reduceEqDiff, Nat.reduceBEq, List.length_cons, List.length_nil, List.replicate, List.append_nil, List.nil_append, List.cons_append, List.set_cons_zero, List.set_cons_succ, List.take_succ_cons, List.take_zero, List.drop_succ_cons, List.drop_zero, List.reverse_cons, List.reverse_nil, List.map_cons, List.map_nil, List.sum_cons, List.sum_nil, decide_true, decide_false, and_self, and_true, true_and, true_or, or_true, Fin.isValue, Fin.val_zero, Fin.val_one, Fin.val_two, Fin.reduceFinMk, Nat.reduceMod, Option.some.injEq, Sum.inl.injEq, Sum.inr.injEq, Prod.mk.injEq, eq_self, reduceCtorEq, imp_self, implies_true, Nat.zero_add, Nat.add_zero, Nat.zero_le, Int.reduceEq, Int.reduceLT, Int.reduceLE, Int.reduceNeg, not_true, not_false_iff, false_imp_iff, true_imp_iff, forall_const, or_self, or_false, false_or, and_false, false_and, ↓reduceIte, z_0, z_1, z_f1, z_f2, z_f3, Int.reduceToNat, Int.reduceAdd, ct_X4_lookedCell, mi_X4_lookedCell, l3]
        refine st_X4_lookedCell [] 20 ?_
        simp only [sy, xisC, sxI, xgI, xgL, xgR, xent, xargs0, p1i, p2i, p1l, p2l, pli, p1r, pir, piir, plir, pvr, pdup, pdup2, pret, xjmp, xcon, xfd, xcl_, xcall, xbr, xsw, xtsw, xst1, xst2, xkill, xpush, xcat, xcl, xar, xkd, xrf, xmask, mR, mL, List.getElem?_cons_zero, List.getElem?_cons_succ, List.lookup_nil, List.lookup_cons, Nat.reduceAdd, Nat.reduceSub, Nat.reduceLeDiff, Nat.reduceEqDiff, Nat.reduceBEq, List.length_cons, List.length_nil, List.replicate, List.append_nil, List.nil_append, List.cons_append, List.set_cons_zero, List.set_cons_succ, List.take_succ_cons, List.take_zero, List.drop_succ_cons, List.drop_zero, List.reverse_cons, List.reverse_nil, List.map_cons, List.map_nil, List.sum_cons, List.sum_nil, decide_true, decide_false, and_self, and_true, true_and, true_or, or_true, Fin.isValue, Fin.val_zero, Fin.val_one, Fin.val_two, Fin.reduceFinMk, Nat.reduceMod, Option.some.injEq, Sum.inl.injEq, Sum.inr.injEq, Prod.mk.injEq, eq_self, reduceCtorEq, imp_self, implies_true, Nat.zero_add, Nat.add_zero, Nat.zero_le, Int.reduceEq, Int.reduceLT, Int.reduceLE, Int.reduceNeg, not_true, not_false_iff, false_imp_iff, true_imp_iff, forall_const, or_self, or_false, false_or, and_false, false_and, ↓reduceIte, z_0, z_1, z_f1, z_f2, z_f3, Int.reduceToNat, Int.reduceAdd, ct_X4_lookedCell, mi_X4_lookedCell]
        refine CW.mono (cc) ?_
        rintro _ M1 ⟨rfl, hM1⟩; rw [hM1]; clear hM1 M1
        refine st_X4_lookedCell [] 20 ?_
        simp only [sy, xisC, sxI, xgI, xgL, xgR, xent, xargs0, p1i, p2i, p1l, p2l, pli, p1r, pir, piir, plir, pvr, pdup, pdup2, pret, xjmp, xcon, xfd, xcl_, xcall, xbr, xsw, xtsw, xst1, xst2, xkill, xpush, xcat, xcl, xar, xkd, xrf, xmask, mR, mL, List.getElem?_cons_zero, List.getElem?_cons_succ, List.lookup_nil, List.lookup_cons, Nat.reduceAdd, Nat.reduceSub, Nat.reduceLeDiff, Nat.reduceEqDiff, Nat.reduceBEq, List.length_cons, List.length_nil, List.replicate, List.append_nil, List.nil_append, List.cons_append, List.set_cons_zero, List.set_cons_succ, List.take_succ_cons, List.take_zero, List.drop_succ_cons, List.drop_zero, List.reverse_cons, List.reverse_nil, List.map_cons, List.map_nil, List.sum_cons, List.sum_nil, decide_true, decide_false, and_self, and_true, true_and, true_or, or_true, Fin.isValue, Fin.val_zero, Fin.val_one, Fin.val_two, Fin.reduceFinMk, Nat.reduceMod, Option.some.injEq, Sum.inl.injEq, Sum.inr.injEq, Prod.mk.injEq, eq_self, reduceCtorEq, imp_self, implies_true, Nat.zero_add, Nat.add_zero, Nat.zero_le, Int.reduceEq, Int.reduceLT, Int.reduceLE, Int.reduceNeg, not_true, not_false_iff, false_imp_iff, true_imp_iff, forall_const, or_self, or_false, false_or, and_false, false_and, ↓reduceIte, z_0, z_1, z_f1, z_f2, z_f3, Int.reduceToNat, Int.reduceAdd, ct_X4_lookedCell, mi_X4_lookedCell]
        refine CW.mono (cn1) ?_
        rintro _ M3 ⟨rfl, hM3⟩; rw [hM3]; clear hM3 M3
        refine st_X4_lookedCell [] 20 ?_
        simp only [sy, xisC, sxI, xgI, xgL, xgR, xent, xargs0, p1i, p2i, p1l, p2l, pli, p1r, pir, piir, plir, pvr, pdup, pdup2, pret, xjmp, xcon, xfd, xcl_, xcall, xbr, xsw, xtsw, xst1, xst2, xkill, xpush, xcat, xcl, xar, xkd, xrf, xmask, mR, mL, List.getElem?_cons_zero, List.getElem?_cons_succ, List.lookup_nil, List.lookup_cons, Nat.reduceAdd, Nat.reduceSub, Nat.reduceLeDiff, Nat.reduceEqDiff, Nat.reduceBEq, List.length_cons, List.length_nil, List.replicate, List.append_nil, List.nil_append, List.cons_append, List.set_cons_zero, List.set_cons_succ, List.take_succ_cons, List.take_zero, List.drop_succ_cons, List.drop_zero, List.reverse_cons, List.reverse_nil, List.map_cons, List.map_nil, List.sum_cons, List.sum_nil, decide_true, decide_false, and_self, and_true, true_and, true_or, or_true, Fin.isValue, Fin.val_zero, Fin.val_one, Fin.val_two, Fin.reduceFinMk, Nat.reduceMod, Option.some.injEq, Sum.inl.injEq, Sum.inr.injEq, Prod.mk.injEq, eq_self, reduceCtorEq, imp_self, implies_true, Nat.zero_add, Nat.add_zero, Nat.zero_le, Int.reduceEq, Int.reduceLT, Int.reduceLE, Int.reduceNeg, not_true, not_false_iff, false_imp_iff, true_imp_iff, forall_const, or_self, or_false, false_or, and_false, false_and, ↓reduceIte, z_0, z_1, z_f1, z_f2, z_f3, Int.reduceToNat, Int.reduceAdd, ct_X4_lookedCell, mi_X4_lookedCell, l3]
        exact fin
      · have ec : ceZ b n p = 3 := by unfold ceZ; rw [if_neg (fun z => z ek), if_neg q2]
        rw [if_neg q2] at cc
        have cn1 := m_needs M 0 3
        rw [if_pos ⟨rfl, l3⟩, hL.2.1, show xup (xup M 22 0 16 3) 22 0 17 (tS b n p : Int) = fT M 3 (tS b n p) from rfl] at cn1
        have g : fT M 3 (tS b n p) 22 0 16 = 3 := by unfold fT; rw [xup_k (by decide), xup_e]
        have g2 : fT M 3 (tS b n p) 22 0 17 = tS b n p := by unfold fT; rw [xup_e]
        have g' : ¬ (3 : Int) = 0 := by decide
        have fin : LC b n p M (some (xI 0)) (fT M 3 (tS b n p)) := ⟨by rw [ec, if_neg (by decide)], fun z => by rw [ec] at z; exact absurd z (by decide), fun _ => by rw [ec]; exact ⟨g, g2⟩, frK_f⟩
        generalize LC b n p M = KK at fin ⊢
        refine st_X4_lookedCell [(8, [true, true])] 20 ?_
        simp only [sy, xisC, sxI, xgI, xgL, xgR, xent, xargs0, p1i, p2i, p1l, p2l, pli, p1r, pir, piir, plir, pvr, pdup, pdup2, pret, xjmp, xcon, xfd, xcl_, xcall, xbr, xsw, xtsw, xst1, xst2, xkill, xpush, xcat, xcl, xar, xkd, xrf, xmask, mR, mL, List.getElem?_cons_zero, List.getElem?_cons_succ, List.lookup_nil, List.lookup_cons, Nat.reduceAdd, Nat.reduceSub, Nat.reduceLeDiff, Nat.reduceEqDiff, Nat.reduceBEq, List.length_cons, List.length_nil, List.replicate, List.append_nil, List.nil_append, List.cons_append, List.set_cons_zero, List.set_cons_succ, List.take_succ_cons, List.take_zero, List.drop_succ_cons, List.drop_zero, List.reverse_cons, List.reverse_nil, List.map_cons, List.map_nil, List.sum_cons, List.sum_nil, decide_true, decide_false, and_self, and_true, true_and, true_or, or_true, Fin.isValue, Fin.val_zero, Fin.val_one, Fin.val_two, Fin.reduceFinMk, Nat.reduceMod, Option.some.injEq, Sum.inl.injEq, Sum.inr.injEq, Prod.mk.injEq, eq_self, reduceCtorEq, imp_self, implies_true, Nat.zero_add, Nat.add_zero, Nat.zero_le, Int.reduceEq, Int.reduceLT, Int.reduceLE, Int.reduceNeg, not_true, not_false_iff, false_imp_iff, true_imp_iff, forall_const, or_self, or_false, false_or, and_false, false_and, ↓reduceIte, z_0, z_1, z_f1, z_f2, z_f3, Int.reduceToNat, Int.reduceAdd, ct_X4_lookedCell, mi_X4_lookedCell, l3]
        refine st_X4_lookedCell [] 20 ?_
        simp only [sy, xisC, sxI, xgI, xgL, xgR, xent, xargs0, p1i, p2i, p1l, p2l, pli, p1r, pir, piir, plir, pvr, pdup, pdup2, pret, xjmp, xcon, xfd, xcl_, xcall, xbr, xsw, xtsw, xst1, xst2, xkill, xpush, xcat, xcl, xar, xkd, xrf, xmask, mR, mL, List.getElem?_cons_zero, List.getElem?_cons_succ, List.lookup_nil, List.lookup_cons, Nat.reduceAdd, Nat.reduceSub, Nat.reduceLeDiff, Nat.reduceEqDiff, Nat.reduceBEq, List.length_cons, List.length_nil, List.replicate, List.append_nil, List.nil_append, List.cons_append, List.set_cons_zero, List.set_cons_succ, List.take_succ_cons, List.take_zero, List.drop_succ_cons, List.drop_zero, List.reverse_cons, List.reverse_nil, List.map_cons, List.map_nil, List.sum_cons, List.sum_nil, decide_true, decide_false, and_self, and_true, true_and, true_or, or_true, Fin.isValue, Fin.val_zero, Fin.val_one, Fin.val_two, Fin.reduceFinMk, Nat.reduceMod, Option.some.injEq, Sum.inl.injEq, Sum.inr.injEq, Prod.mk.injEq, eq_self, reduceCtorEq, imp_self, implies_true, Nat.zero_add, Nat.add_zero, Nat.zero_le, Int.reduceEq, Int.reduceLT, Int.reduceLE, Int.reduceNeg, not_true, not_false_iff, false_imp_iff, true_imp_iff, forall_const, or_self, or_false, false_or, and_false, false_and, ↓reduceIte, z_0, z_1, z_f1, z_f2, z_f3, Int.reduceToNat, Int.reduceAdd, ct_X4_lookedCell, mi_X4_lookedCell]
        refine CW.mono (cc) ?_
        rintro _ M1 ⟨rfl, hM1⟩; rw [hM1]; clear hM1 M1
        refine st_X4_lookedCell [] 20 ?_
        simp only [sy, xisC, sxI, xgI, xgL, xgR, xent, xargs0, p1i, p2i, p1l, p2l, pli, p1r, pir, piir, plir, pvr, pdup, pdup2, pret, xjmp, xcon, xfd, xcl_, xcall, xbr, xsw, xtsw, xst1, xst2, xkill, xpush, xcat, xcl, xar, xkd, xrf, xmask, mR, mL, List.getElem?_cons_zero, List.getElem?_cons_succ, List.lookup_nil, List.lookup_cons, Nat.reduceAdd, Nat.reduceSub, Nat.reduceLeDiff, Nat.reduceEqDiff, Nat.reduceBEq, List.length_cons, List.length_nil, List.replicate, List.append_nil, List.nil_append, List.cons_append, List.set_cons_zero, List.set_cons_succ, List.take_succ_cons, List.take_zero, List.drop_succ_cons, List.drop_zero, List.reverse_cons, List.reverse_nil, List.map_cons, List.map_nil, List.sum_cons, List.sum_nil, decide_true, decide_false, and_self, and_true, true_and, true_or, or_true, Fin.isValue, Fin.val_zero, Fin.val_one, Fin.val_two, Fin.reduceFinMk, Nat.reduceMod, Option.some.injEq, Sum.inl.injEq, Sum.inr.injEq, Prod.mk.injEq, eq_self, reduceCtorEq, imp_self, implies_true, Nat.zero_add, Nat.add_zero, Nat.zero_le, Int.reduceEq, Int.reduceLT, Int.reduceLE, Int.reduceNeg, not_true, not_false_iff, false_imp_iff, true_imp_iff, forall_const, or_self, or_false, false_or, and_false, false_and, ↓reduceIte, z_0, z_1, z_f1, z_f2, z_f3, Int.reduceToNat, Int.reduceAdd, ct_X4_lookedCell, mi_X4_lookedCell]
        refine CW.mono (cn1) ?_
        rintro _ M3 ⟨rfl, hM3⟩; rw [hM3]; clear hM3 M3
        refine st_X4_lookedCell [] 20 ?_
        simp only [sy, xisC, sxI, xgI, xgL, xgR, xent, xargs0, p1i, p2i, p1l, p2l, pli, p1r, pir, piir, plir, pvr, pdup, pdup2, pret, xjmp, xcon, xfd, xcl_, xcall, xbr, xsw, xtsw, xst1, xst2, xkill, xpush, xcat, xcl, xar, xkd, xrf, xmask, mR, mL, List.getElem?_cons_zero, List.getElem?_cons_succ, List.lookup_nil, List.lookup_cons, Nat.reduceAdd, Nat.reduceSub, Nat.reduceLeDiff, Nat.reduceEqDiff, Nat.reduceBEq, List.length_cons, List.length_nil, List.replicate, List.append_nil, List.nil_append, List.cons_append, List.set_cons_zero, List.set_cons_succ, List.take_succ_cons, List.take_zero, List.drop_succ_cons, List.drop_zero, List.reverse_cons, List.reverse_nil, List.map_cons, List.map_nil, List.sum_cons, List.sum_nil, decide_true, decide_false, and_self, and_true, true_and, true_or, or_true, Fin.isValue, Fin.val_zero, Fin.val_one, Fin.val_two, Fin.reduceFinMk, Nat.reduceMod, Option.some.injEq, Sum.inl.injEq, Sum.inr.injEq, Prod.mk.injEq, eq_self, reduceCtorEq, imp_self, implies_true, Nat.zero_add, Nat.add_zero, Nat.zero_le, Int.reduceEq, Int.reduceLT, Int.reduceLE, Int.reduceNeg, not_true, not_false_iff, false_imp_iff, true_imp_iff, forall_const, or_self, or_false, false_or, and_false, false_and, ↓reduceIte, z_0, z_1, z_f1, z_f2, z_f3, Int.reduceToNat, Int.reduceAdd, ct_X4_lookedCell, mi_X4_lookedCell, g, g']
        exact fin
    · have hz := nu_pos (b := b) (n := n) (p := p) (mx := 77)
      have ec : ceZ b n p = nuZ b n p 77 := by
        unfold ceZ nuZ
        unfold nuZ at q
        by_cases z : tkZ b n p 2 = 0
        · rw [if_neg (fun a => a z)] at q
          rw [if_neg (show ¬ tkZ b n p 2 ≠ 0 from fun a => a z), if_neg (show ¬ tkZ b n p 2 ≠ 0 from fun a => a z)]
          have q3 : ¬ tV b n p ≤ 77 := fun a => q (by rw [if_pos a])
          rw [if_neg q3, if_neg (by omega)]
        · rw [if_pos z, if_pos z]
      rw [if_neg q] at hM2
      rw [if_neg q]
      have g : M2 22 0 16 = nuZ b n p 77 := by rw [hM2]; unfold fT; rw [xup_k (by decide), xup_e]
      have g2 : M2 22 0 17 = tS b n p := by rw [hM2]; unfold fT; rw [xup_e]
      have f2 : frK M M2 := by rw [hM2]; exact frK_f
      have fin : LC b n p M (some (xI 0)) M2 := ⟨by rw [ec, if_neg q], fun z => by rw [ec] at z; exact absurd z q, fun _ => by rw [ec]; exact ⟨g, g2⟩, f2⟩
      generalize LC b n p M = KK at fin ⊢
      generalize nuZ b n p 77 = z at q g
      refine st_X4_lookedCell [(8, [true, true]), (13, [true, true])] 20 ?_
      simp only [sy, xisC, sxI, xgI, xgL, xgR, xent, xargs0, p1i, p2i, p1l, p2l, pli, p1r, pir, piir, plir, pvr, pdup, pdup2, pret, xjmp, xcon, xfd, xcl_, xcall, xbr, xsw, xtsw, xst1, xst2, xkill, xpush, xcat, xcl, xar, xkd, xrf, xmask, mR, mL, List.getElem?_cons_zero, List.getElem?_cons_succ, List.lookup_nil, List.lookup_cons, Nat.reduceAdd, Nat.reduceSub, Nat.reduceLeDiff, Nat.reduceEqDiff, Nat.reduceBEq, List.length_cons, List.length_nil, List.replicate, List.append_nil, List.nil_append, List.cons_append, List.set_cons_zero, List.set_cons_succ, List.take_succ_cons, List.take_zero, List.drop_succ_cons, List.drop_zero, List.reverse_cons, List.reverse_nil, List.map_cons, List.map_nil, List.sum_cons, List.sum_nil, decide_true, decide_false, and_self, and_true, true_and, true_or, or_true, Fin.isValue, Fin.val_zero, Fin.val_one, Fin.val_two, Fin.reduceFinMk, Nat.reduceMod, Option.some.injEq, Sum.inl.injEq, Sum.inr.injEq, Prod.mk.injEq, eq_self, reduceCtorEq, imp_self, implies_true, Nat.zero_add, Nat.add_zero, Nat.zero_le, Int.reduceEq, Int.reduceLT, Int.reduceLE, Int.reduceNeg, not_true, not_false_iff, false_imp_iff, true_imp_iff, forall_const, or_self, or_false, false_or, and_false, false_and, ↓reduceIte, z_0, z_1, z_f1, z_f2, z_f3, Int.reduceToNat, Int.reduceAdd, ct_X4_lookedCell, mi_X4_lookedCell, g, q]
      refine st_X4_lookedCell [] 20 ?_
      simp only [sy, xisC, sxI, xgI, xgL, xgR, xent, xargs0, p1i, p2i, p1l, p2l, pli, p1r, pir, piir, plir, pvr, pdup, pdup2, pret, xjmp, xcon, xfd, xcl_, xcall, xbr, xsw, xtsw, xst1, xst2, xkill, xpush, xcat, xcl, xar, xkd, xrf, xmask, mR, mL, List.getElem?_cons_zero, List.getElem?_cons_succ, List.lookup_nil, List.lookup_cons, Nat.reduceAdd, Nat.reduceSub, Nat.reduceLeDiff, Nat.reduceEqDiff, Nat.reduceBEq, List.length_cons, List.length_nil, List.replicate, List.append_nil, List.nil_append, List.cons_append, List.set_cons_zero, List.set_cons_succ, List.take_succ_cons, List.take_zero, List.drop_succ_cons, List.drop_zero, List.reverse_cons, List.reverse_nil, List.map_cons, List.map_nil, List.sum_cons, List.sum_nil, decide_true, decide_false, and_self, and_true, true_and, true_or, or_true, Fin.isValue, Fin.val_zero, Fin.val_one, Fin.val_two, Fin.reduceFinMk, Nat.reduceMod, Option.some.injEq, Sum.inl.injEq, Sum.inr.injEq, Prod.mk.injEq, eq_self, reduceCtorEq, imp_self, implies_true, Nat.zero_add, Nat.add_zero, Nat.zero_le, Int.reduceEq, Int.reduceLT, Int.reduceLE, Int.reduceNeg, not_true, not_false_iff, false_imp_iff, true_imp_iff, forall_const, or_self, or_false, false_or, and_false, false_and, ↓reduceIte, z_0, z_1, z_f1, z_f2, z_f3, Int.reduceToNat, Int.reduceAdd, ct_X4_lookedCell, mi_X4_lookedCell, g, q]
      exact fin
  · have g1 : M 22 0 16 ≠ 0 := by rw [hL.2.2.1]; exact h0
    have e1 := ceZ_F h0
    have g : M 22 0 16 = 1 := by rw [hL.2.2.1]; exact (tF_01).resolve_left h0
    have fin : LC b n p M (some (xI 0)) M := ⟨by rw [e1, if_neg (by decide)], fun _ => rfl, fun _ => by rw [e1]; exact ⟨g, hL.2.2.2.2 h0⟩, frK_rf⟩
    generalize LC b n p M = KK at fin ⊢
    refine CW.mono (m_looked0 0 77 g1) ?_
    rintro _ M1 ⟨rfl, hM1⟩; rw [hM1]; clear hM1 M1
    refine st_X4_lookedCell [(8, [true, true]), (13, [true, true])] 20 ?_
    simp only [sy, xisC, sxI, xgI, xgL, xgR, xent, xargs0, p1i, p2i, p1l, p2l, pli, p1r, pir, piir, plir, pvr, pdup, pdup2, pret, xjmp, xcon, xfd, xcl_, xcall, xbr, xsw, xtsw, xst1, xst2, xkill, xpush, xcat, xcl, xar, xkd, xrf, xmask, mR, mL, List.getElem?_cons_zero, List.getElem?_cons_succ, List.lookup_nil, List.lookup_cons, Nat.reduceAdd, Nat.reduceSub, Nat.reduceLeDiff, Nat.reduceEqDiff, Nat.reduceBEq, List.length_cons, List.length_nil, List.replicate, List.append_nil, List.nil_append, List.cons_append, List.set_cons_zero, List.set_cons_succ, List.take_succ_cons, List.take_zero, List.drop_succ_cons, List.drop_zero, List.reverse_cons, List.reverse_nil, List.map_cons, List.map_nil, List.sum_cons, List.sum_nil, decide_true, decide_false, and_self, and_true, true_and, true_or, or_true, Fin.isValue, Fin.val_zero, Fin.val_one, Fin.val_two, Fin.reduceFinMk, Nat.reduceMod, Option.some.injEq, Sum.inl.injEq, Sum.inr.injEq, Prod.mk.injEq, eq_self, reduceCtorEq, imp_self, implies_true, Nat.zero_add, Nat.add_zero, Nat.zero_le, Int.reduceEq, Int.reduceLT, Int.reduceLE, Int.reduceNeg, not_true, not_false_iff, false_imp_iff, true_imp_iff, forall_const, or_self, or_false, false_or, and_false, false_and, ↓reduceIte, z_0, z_1, z_f1, z_f2, z_f3, Int.reduceToNat, Int.reduceAdd, ct_X4_lookedCell, mi_X4_lookedCell, g, n1z]
    refine st_X4_lookedCell [] 20 ?_
    simp only [sy, xisC, sxI, xgI, xgL, xgR, xent, xargs0, p1i, p2i, p1l, p2l, pli, p1r, pir, piir, plir, pvr, pdup, pdup2, pret, xjmp, xcon, xfd, xcl_, xcall, xbr, xsw, xtsw, xst1, xst2, xkill, xpush, xcat, xcl, xar, xkd, xrf, xmask, mR, mL, List.getElem?_cons_zero, List.getElem?_cons_succ, List.lookup_nil, List.lookup_cons, Nat.reduceAdd, Nat.reduceSub, Nat.reduceLeDiff, Nat.reduceEqDiff, Nat.reduceBEq, List.length_cons, List.length_nil, List.replicate, List.append_nil, List.nil_append, List.cons_append, List.set_cons_zero, List.set_cons_succ, List.take_succ_cons, List.take_zero, List.drop_succ_cons, List.drop_zero, List.reverse_cons, List.reverse_nil, List.map_cons, List.map_nil, List.sum_cons, List.sum_nil, decide_true, decide_false, and_self, and_true, true_and, true_or, or_true, Fin.isValue, Fin.val_zero, Fin.val_one, Fin.val_two, Fin.reduceFinMk, Nat.reduceMod, Option.some.injEq, Sum.inl.injEq, Sum.inr.injEq, Prod.mk.injEq, eq_self, reduceCtorEq, imp_self, implies_true, Nat.zero_add, Nat.add_zero, Nat.zero_le, Int.reduceEq, Int.reduceLT, Int.reduceLE, Int.reduceNeg, not_true, not_false_iff, false_imp_iff, true_imp_iff, forall_const, or_self, or_false, false_or, and_false, false_and, ↓reduceIte, z_0, z_1, z_f1, z_f2, z_f3, Int.reduceToNat, Int.reduceAdd, ct_X4_lookedCell, mi_X4_lookedCell, g, n1z]
    exact fin
set_option maxRecDepth 100000 in
theorem m_readCell {M : XM} {n p : Nat} {b : Nat → Int} (hb : M 28 0 = b) (hn : n ≤ 160) (hr : ∀ j, j < n → 0 ≤ b j ∧ b j < 128) (hp : p ≤ n) (hL : LD b n p M) : CW mi_X4_readCell [xR 22 0] M (RN b n p M (ceZ b n p) (tV b n p)) := by
  refine in_X4_readCell (Nat.le_of_ble_eq_true rfl) ?_
  refine st_X4_readCell [] 20 ?_
  simp only [sy, xisC, sxI, xgI, xgL, xgR, xent, xargs0, p1i, p2i, p1l, p2l, pli, p1r, pir, piir, plir, pvr, pdup, pdup2, pret, xjmp, xcon, xfd, xcl_, xcall, xbr, xsw, xtsw, xst1, xst2, xkill, xpush, xcat, xcl, xar, xkd, xrf, xmask, mR, mL, List.getElem?_cons_zero, List.getElem?_cons_succ, List.lookup_nil, List.lookup_cons, Nat.reduceAdd, Nat.reduceSub, Nat.reduceLeDiff, Nat.reduceEqDiff, Nat.reduceBEq, List.length_cons, List.length_nil, List.replicate, List.append_nil, List.nil_append, List.cons_append, List.set_cons_zero, List.set_cons_succ, List.take_succ_cons, List.take_zero, List.drop_succ_cons, List.drop_zero, List.reverse_cons, List.reverse_nil, List.map_cons, List.map_nil, List.sum_cons, List.sum_nil, decide_true, decide_false, and_self, and_true, true_and, true_or, or_true, Fin.isValue, Fin.val_zero, Fin.val_one, Fin.val_two, Fin.reduceFinMk, Nat.reduceMod, Option.some.injEq, Sum.inl.injEq, Sum.inr.injEq, Prod.mk.injEq, eq_self, reduceCtorEq, imp_self, implies_true, Nat.zero_add, Nat.add_zero, Nat.zero_le, Int.reduceEq, Int.reduceLT, Int.reduceLE, Int.reduceNeg, not_true, not_false_iff, false_imp_iff, true_imp_iff, forall_const, or_self, or_false, false_or, and_false, false_and, ↓reduceIte, z_0, z_1, z_f1, z_f2, z_f3, Int.reduceToNat, Int.reduceAdd, ct_X4_readCell, mi_X4_readCell]
  refine CW.mono (m_lookedCell hp hL) ?_
  rintro _ M2 ⟨rfl, c1, c2, f2⟩
  by_cases q : ceZ b n p = 0
  · have h0 : tF b n p = 0 := by
      by_cases z : tF b n p = 0
      · exact z
      · rw [ceZ_F z] at q; exact absurd q (by decide)
    rw [c1 q, if_pos q]
    have fin : ∀ M3, LD b n (tE b n p) M3 → frK M M3 → RN b n p M (ceZ b n p) (tV b n p) (some (xI (tV b n p))) M3 := fun M3 l3 f3 => ⟨by rw [if_pos q], fun _ => l3, fun z => absurd q z, f3⟩
    generalize RN b n p M (ceZ b n p) (tV b n p) = KK at fin ⊢
    refine st_X4_readCell [] 20 ?_
    simp only [sy, xisC, sxI, xgI, xgL, xgR, xent, xargs0, p1i, p2i, p1l, p2l, pli, p1r, pir, piir, plir, pvr, pdup, pdup2, pret, xjmp, xcon, xfd, xcl_, xcall, xbr, xsw, xtsw, xst1, xst2, xkill, xpush, xcat, xcl, xar, xkd, xrf, xmask, mR, mL, List.getElem?_cons_zero, List.getElem?_cons_succ, List.lookup_nil, List.lookup_cons, Nat.reduceAdd, Nat.reduceSub, Nat.reduceLeDiff, Nat.reduceEqDiff, Nat.reduceBEq, List.length_cons, List.length_nil, List.replicate, List.append_nil, List.nil_append, List.cons_append, List.set_cons_zero, List.set_cons_succ, List.take_succ_cons, List.take_zero, List.drop_succ_cons, List.drop_zero, List.reverse_cons, List.reverse_nil, List.map_cons, List.map_nil, List.sum_cons, List.sum_nil, decide_true, decide_false, and_self, and_true, true_and, true_or, or_true, Fin.isValue, Fin.val_zero, Fin.val_one, Fin.val_two, Fin.reduceFinMk, Nat.reduceMod, Option.some.injEq, Sum.inl.injEq, Sum.inr.injEq, Prod.mk.injEq, eq_self, reduceCtorEq, imp_self, implies_true, Nat.zero_add, Nat.add_zero, Nat.zero_le, Int.reduceEq, Int.reduceLT, Int.reduceLE, Int.reduceNeg, not_true, not_false_iff, false_imp_iff, true_imp_iff, forall_const, or_self, or_false, false_or, and_false, false_and, ↓reduceIte, z_0, z_1, z_f1, z_f2, z_f3, Int.reduceToNat, Int.reduceAdd, ct_X4_readCell, mi_X4_readCell]
    refine CW.mono (m_takesLD hb hn hr hp hL h0) ?_
    rintro _ M3 ⟨rfl, l3, f3⟩
    refine st_X4_readCell [] 20 ?_
    simp only [sy, xisC, sxI, xgI, xgL, xgR, xent, xargs0, p1i, p2i, p1l, p2l, pli, p1r, pir, piir, plir, pvr, pdup, pdup2, pret, xjmp, xcon, xfd, xcl_, xcall, xbr, xsw, xtsw, xst1, xst2, xkill, xpush, xcat, xcl, xar, xkd, xrf, xmask, mR, mL, List.getElem?_cons_zero, List.getElem?_cons_succ, List.lookup_nil, List.lookup_cons, Nat.reduceAdd, Nat.reduceSub, Nat.reduceLeDiff, Nat.reduceEqDiff, Nat.reduceBEq, List.length_cons, List.length_nil, List.replicate, List.append_nil, List.nil_append, List.cons_append, List.set_cons_zero, List.set_cons_succ, List.take_succ_cons, List.take_zero, List.drop_succ_cons, List.drop_zero, List.reverse_cons, List.reverse_nil, List.map_cons, List.map_nil, List.sum_cons, List.sum_nil, decide_true, decide_false, and_self, and_true, true_and, true_or, or_true, Fin.isValue, Fin.val_zero, Fin.val_one, Fin.val_two, Fin.reduceFinMk, Nat.reduceMod, Option.some.injEq, Sum.inl.injEq, Sum.inr.injEq, Prod.mk.injEq, eq_self, reduceCtorEq, imp_self, implies_true, Nat.zero_add, Nat.add_zero, Nat.zero_le, Int.reduceEq, Int.reduceLT, Int.reduceLE, Int.reduceNeg, not_true, not_false_iff, false_imp_iff, true_imp_iff, forall_const, or_self, or_false, false_or, and_false, false_and, ↓reduceIte, z_0, z_1, z_f1, z_f2, z_f3, Int.reduceToNat, Int.reduceAdd, ct_X4_readCell, mi_X4_readCell]
    exact fin M3 l3 f3
  · obtain ⟨g, g2⟩ := c2 q
    have hz := ce_pos (b := b) (n := n) (p := p)
    rw [if_neg q]
    have fin : RN b n p M (ceZ b n p) (tV b n p) (some (xI 0)) M2 := ⟨by rw [if_neg q], fun a => absurd a q, fun _ => ⟨g, g2⟩, f2⟩
    generalize RN b n p M (ceZ b n p) (tV b n p) = KK at fin ⊢
    refine st_X4_readCell [] 20 ?_
    simp only [sy, xisC, sxI, xgI, xgL, xgR, xent, xargs0, p1i, p2i, p1l, p2l, pli, p1r, pir, piir, plir, pvr, pdup, pdup2, pret, xjmp, xcon, xfd, xcl_, xcall, xbr, xsw, xtsw, xst1, xst2, xkill, xpush, xcat, xcl, xar, xkd, xrf, xmask, mR, mL, List.getElem?_cons_zero, List.getElem?_cons_succ, List.lookup_nil, List.lookup_cons, Nat.reduceAdd, Nat.reduceSub, Nat.reduceLeDiff, Nat.reduceEqDiff, Nat.reduceBEq, List.length_cons, List.length_nil, List.replicate, List.append_nil, List.nil_append, List.cons_append, List.set_cons_zero, List.set_cons_succ, List.take_succ_cons, List.take_zero, List.drop_succ_cons, List.drop_zero, List.reverse_cons, List.reverse_nil, List.map_cons, List.map_nil, List.sum_cons, List.sum_nil, decide_true, decide_false, and_self, and_true, true_and, true_or, or_true, Fin.isValue, Fin.val_zero, Fin.val_one, Fin.val_two, Fin.reduceFinMk, Nat.reduceMod, Option.some.injEq, Sum.inl.injEq, Sum.inr.injEq, Prod.mk.injEq, eq_self, reduceCtorEq, imp_self, implies_true, Nat.zero_add, Nat.add_zero, Nat.zero_le, Int.reduceEq, Int.reduceLT, Int.reduceLE, Int.reduceNeg, not_true, not_false_iff, false_imp_iff, true_imp_iff, forall_const, or_self, or_false, false_or, and_false, false_and, ↓reduceIte, z_0, z_1, z_f1, z_f2, z_f3, Int.reduceToNat, Int.reduceAdd, ct_X4_readCell, mi_X4_readCell]
    refine CW.mono (m_takes0 (by rw [g]; omega)) ?_
    rintro _ M3 ⟨rfl, hM3⟩; rw [hM3]; clear hM3 M3
    refine st_X4_readCell [] 20 ?_
    simp only [sy, xisC, sxI, xgI, xgL, xgR, xent, xargs0, p1i, p2i, p1l, p2l, pli, p1r, pir, piir, plir, pvr, pdup, pdup2, pret, xjmp, xcon, xfd, xcl_, xcall, xbr, xsw, xtsw, xst1, xst2, xkill, xpush, xcat, xcl, xar, xkd, xrf, xmask, mR, mL, List.getElem?_cons_zero, List.getElem?_cons_succ, List.lookup_nil, List.lookup_cons, Nat.reduceAdd, Nat.reduceSub, Nat.reduceLeDiff, Nat.reduceEqDiff, Nat.reduceBEq, List.length_cons, List.length_nil, List.replicate, List.append_nil, List.nil_append, List.cons_append, List.set_cons_zero, List.set_cons_succ, List.take_succ_cons, List.take_zero, List.drop_succ_cons, List.drop_zero, List.reverse_cons, List.reverse_nil, List.map_cons, List.map_nil, List.sum_cons, List.sum_nil, decide_true, decide_false, and_self, and_true, true_and, true_or, or_true, Fin.isValue, Fin.val_zero, Fin.val_one, Fin.val_two, Fin.reduceFinMk, Nat.reduceMod, Option.some.injEq, Sum.inl.injEq, Sum.inr.injEq, Prod.mk.injEq, eq_self, reduceCtorEq, imp_self, implies_true, Nat.zero_add, Nat.add_zero, Nat.zero_le, Int.reduceEq, Int.reduceLT, Int.reduceLE, Int.reduceNeg, not_true, not_false_iff, false_imp_iff, true_imp_iff, forall_const, or_self, or_false, false_or, and_false, false_and, ↓reduceIte, z_0, z_1, z_f1, z_f2, z_f3, Int.reduceToNat, Int.reduceAdd, ct_X4_readCell, mi_X4_readCell]
    exact fin

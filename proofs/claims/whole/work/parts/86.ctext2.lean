/-! ===== the text as a whole: the class's side ===== -/
/-- what is kept of a text -/
def KD (s : PS) : Nat → Int := fun j => if j < 24 ∧ j % 6 = 4 ∧ j / 6 < s.dd then s.fz (j / 6) else s.D j
theorem KD_4 {s : PS} {d : Nat} (hd : d < s.dd) (h4 : s.dd ≤ 4) : KD s (6 * d + 4) = s.fz d := by
  unfold KD
  rw [if_pos ⟨by omega, by omega, by omega⟩, show (6 * d + 4) / 6 = d by omega]
theorem KD_k {s : PS} {j : Nat} (h : 24 ≤ j ∨ j % 6 ≠ 4) : KD s j = s.D j := by
  unfold KD
  rw [if_neg (by omega)]
theorem KD_ok {s : PS} (h : PI s) (he : enF s = 0) : okN s.dd (KD s) := by
  obtain ⟨⟨a1, a2, a3, a4, a5, a6⟩, b1, b2, b3, b4, b5, b6⟩ := h
  have hh : s.hi < s.dd := by
    by_cases q : s.hi < s.dd
    · exact q
    · unfold enF at he; rw [if_pos q] at he; exact absurd he (by decide)
  obtain ⟨w1, w2⟩ := (b6 s.dd a1).mp hh
  refine ⟨a1, fun d hd => ?_, ?_, fun x hx => ?_, ?_, fun j hj => ?_, ?_, fun j hj => ?_⟩
  · unfold okD
    rw [KD_4 hd a1, KD_k (by omega), KD_k (by omega), KD_k (by omega), KD_k (by omega), KD_k (by omega), (b2 d (by omega)).1, (b2 d (by omega)).2]
    refine ⟨(b1 d hd).1, (b1 d hd).2.1, (b1 d hd).2.2, by decide, ?_, Or.inl rfl⟩
    cases q : wb s.ft d
    · rw [(b5 d (by omega)).2 q]; decide
    · exact ((b5 d (by omega)).1 q).2
  · rw [KD_k (by omega), b3.1]; decide
  · rw [KD_k (by omega)]; exact a2 x hx
  · rw [KD_k (by omega)]; exact a3
  · rw [KD_k (by omega)] at hj
    rw [KD_k (by omega), KD_k (by omega), KD_k (by omega)]
    exact ⟨(b4 j hj).1, ⟨(b4 j hj).2.1.1, w2 j hj⟩, (b4 j hj).2.2⟩
  · rw [KD_k (by omega), b3.2]; decide
  · rw [KD_k (by omega), b3.2] at hj; omega
theorem KD_rg {M : XM} {s : PS} (h : PI s) (hC : CD M s.dd s.D s.fz) : RG M 1 s.dd (KD s) := by
  obtain ⟨⟨a1, a2, a3, a4, a5, a6⟩, b1, b2, b3, b4, b5, b6⟩ := h
  obtain ⟨c1, c2, c3, c4, c5, c6, c7, c8, c9⟩ := hC
  refine ⟨c1, ?_, ?_, ?_, ?_, fun d hd => ?_, fun x y hx hy => ?_, fun j hj => ?_, fun j hj => ?_⟩
  · rw [c2]
    unfold upm
    rw [KD_k (by omega), KD_k (by omega), KD_k (by omega), KD_k (by omega), (b2 0 (by omega)).2, (b2 1 (by omega)).2, (b2 2 (by omega)).2, (b2 3 (by omega)).2]
    simp only [Int.mul_zero, ite_self, Int.add_zero]
  · rw [c3, KD_k (by omega), b3.1]
  · rw [c4, KD_k (by omega)]
  · rw [c5, KD_k (by omega), b3.2]
  · rw [KD_4 hd a1, KD_k (by omega), KD_k (by omega), KD_k (by omega), KD_k (by omega), (b2 d (by omega)).1]
    exact ⟨(c6 d hd).1, (c6 d hd).2.1, (c6 d hd).2.2, (c7 d (by omega)).1, (c7 d (by omega)).2⟩
  · rw [KD_k (by omega)]; exact c8 x y hx hy
  · rw [KD_k (by omega)] at hj
    rw [KD_k (by omega), KD_k (by omega), KD_k (by omega)]
    exact c9 j hj
  · rw [KD_k (by omega), b3.2] at hj; omega
/-- the lines' contract: what lineNamed answers -/
def LNA (b : Nat → Int) (n : Nat) : Prop := ∀ (M : XM) (p : Nat), p ≤ n → tK b n p = 1 → M 14 0 = b → M 13 0 1 = n → M 13 0 2 = tS b n p → M 13 0 4 = tE b n p → CW mi_X2_lineNamed [xR 13 0] M (pI M (lnZ b n (tS b n p) (tE b n p)))
/-- what the class has behind its lines -/
def CR (n : Nat) (R : (Int × Nat) × Nat × PS) (M M' : XM) : Prop := M' 13 0 1 = n ∧ M' 13 0 3 = R.1.1 ∧ M' 13 0 2 = R.1.2 ∧ (R.1.1 = 0 → M' 13 0 6 = R.2.2.ft ∧ PI R.2.2 ∧ CD M' R.2.2.dd R.2.2.D R.2.2.fz) ∧ frX M M'
set_option maxRecDepth 100000 in
theorem c_lines {M : XM} {n : Nat} {b : Nat → Int} (hb : M 14 0 = b) (hn : n ≤ 160) (hr : ∀ j, j < n → 0 ≤ b j ∧ b j < 128) (hLN : LNA b n) {K : Option XV → XM → Prop} : ∀ (f k : Nat) (s : PS) (M1 : XM), k + f = 161 → 2 * k ≤ s.p → s.p ≤ n → PI s → (∃ pl so : Int, TP M1 n pl 0 s.p so s.ft) → CD M1 s.dd s.D s.fz → frX M M1 →
    (∀ (z : Int) (M' : XM), CR n (rn b n f k s) M M' → ((rn b n f k s).1.1 = 0 → z = (rn b n f k s).2.1) → J_X3_text K 22 [some (xR 0 0), some (xI z)] [] M') → J_X3_text K 8 [some (xR 0 0), some (xI k)] [] M1
  | 0, k, s, M1, hk, hkp, hp, _, _, _, _, _ => absurd hk (by omega)
  | f + 1, k, s, M1, hk, hkp, hp, hP, hT, hD, hf, hK => by
    obtain ⟨pl, so, hT⟩ := hT
    have hb1 : M1 14 0 = b := by rw [hf 14 0 (by omega) (by omega)]; exact hb
    have w : w32 ((k : Int) + 1) = (k + 1 : Nat) := by rw [w32_id (by omega) (by omega)]; rfl
    have rec' := c_lines hb hn hr hLN (K := K) f (k + 1) (stp b n s)
    have hP' := hP
    obtain ⟨⟨a1, a2, a3, a4, a5, a6⟩, -⟩ := hP'
    have er : rn b n (f + 1) k s = if tF b n s.p ≠ 0 then ((1, tS b n s.p), k, s) else if tK b n s.p = 4 then ((0, tS b n s.p), k, s) else if (liF b n s.p s.dd s.D s.ft).1 ≠ 0 then (liF b n s.p s.dd s.D s.ft, k, s) else rn b n f (k + 1) (stp b n s) := rfl
    rw [er] at hK
    clear er
    have q160 : (k : Int) < 160 := by omega
    refine st_X3_text [(11, [true, true]), (22, [true, true])] 20 ?_
    simp only [sy, xisC, sxI, xgI, xgL, xgR, xent, xargs0, p1i, p2i, p1l, p2l, pli, p1r, pir, piir, plir, pvr, pdup, pdup2, pret, xjmp, xcon, xfd, xcl_, xcall, xbr, xsw, xtsw, xst1, xst2, xkill, xpush, xcat, xcl, xar, xkd, xrf, xmask, mR, mL, List.getElem?_cons_zero, List.getElem?_cons_succ, List.lookup_nil, List.lookup_cons, Nat.reduceAdd, Nat.reduceSub, Nat.reduceLeDiff, Nat.reduceEqDiff, Nat.reduceBEq, List.length_cons, List.length_nil, List.replicate, List.append_nil, List.nil_append, List.cons_append, List.set_cons_zero, List.set_cons_succ, List.take_succ_cons, List.take_zero, List.drop_succ_cons, List.drop_zero, List.reverse_cons, List.reverse_nil, List.map_cons, List.map_nil, List.sum_cons, List.sum_nil, decide_true, decide_false, and_self, and_true, true_and, true_or, or_true, Fin.isValue, Fin.val_zero, Fin.val_one, Fin.val_two, Fin.reduceFinMk, Nat.reduceMod, Option.some.injEq, Sum.inl.injEq, Sum.inr.injEq, Prod.mk.injEq, eq_self, reduceCtorEq, imp_self, implies_true, Nat.zero_add, Nat.add_zero, Nat.zero_le, Int.reduceEq, Int.reduceLT, Int.reduceLE, Int.reduceNeg, not_true, not_false_iff, false_imp_iff, true_imp_iff, forall_const, or_self, or_false, false_or, and_false, false_and, ↓reduceIte, z_0, z_1, z_f1, z_f2, z_f3, Int.reduceToNat, Int.reduceAdd, ct_X3_text, mi_X3_text]
    refine ⟨fun z => absurd z (by omega), fun _ => ?_⟩
    refine st_X3_text [] 20 ?_
    simp only [sy, xisC, sxI, xgI, xgL, xgR, xent, xargs0, p1i, p2i, p1l, p2l, pli, p1r, pir, piir, plir, pvr, pdup, pdup2, pret, xjmp, xcon, xfd, xcl_, xcall, xbr, xsw, xtsw, xst1, xst2, xkill, xpush, xcat, xcl, xar, xkd, xrf, xmask, mR, mL, List.getElem?_cons_zero, List.getElem?_cons_succ, List.lookup_nil, List.lookup_cons, Nat.reduceAdd, Nat.reduceSub, Nat.reduceLeDiff, Nat.reduceEqDiff, Nat.reduceBEq, List.length_cons, List.length_nil, List.replicate, List.append_nil, List.nil_append, List.cons_append, List.set_cons_zero, List.set_cons_succ, List.take_succ_cons, List.take_zero, List.drop_succ_cons, List.drop_zero, List.reverse_cons, List.reverse_nil, List.map_cons, List.map_nil, List.sum_cons, List.sum_nil, decide_true, decide_false, and_self, and_true, true_and, true_or, or_true, Fin.isValue, Fin.val_zero, Fin.val_one, Fin.val_two, Fin.reduceFinMk, Nat.reduceMod, Option.some.injEq, Sum.inl.injEq, Sum.inr.injEq, Prod.mk.injEq, eq_self, reduceCtorEq, imp_self, implies_true, Nat.zero_add, Nat.add_zero, Nat.zero_le, Int.reduceEq, Int.reduceLT, Int.reduceLE, Int.reduceNeg, not_true, not_false_iff, false_imp_iff, true_imp_iff, forall_const, or_self, or_false, false_or, and_false, false_and, ↓reduceIte, z_0, z_1, z_f1, z_f2, z_f3, Int.reduceToNat, Int.reduceAdd, ct_X3_text, mi_X3_text]
    refine CW.mono (c_hasLine hb1 hn hr hp hT) ?_
    rintro _ M2 ⟨rfl, t2, f2⟩
    have fx2 : frX M M2 := frX_tr hf (frX_P f2)
    have hD2 := CD_P hD f2
    obtain ⟨u1, u2, u3, u4, u5, u6⟩ := id t2
    by_cases q1 : tF b n s.p = 0
    · rw [if_neg (fun a => a q1)] at hK
      by_cases q2 : tK b n s.p = 4
      · rw [if_pos q2] at hK
        rw [if_neg (fun z => z.2 q2)]
        have fin := hK k M2 ⟨u1, u3.trans q1, u2, fun _ => ⟨u6, hP, hD2⟩, fx2⟩ (fun _ => rfl)
        clear hK rec'
        refine st_X3_text [(22, [true, true])] 20 ?_
        simp only [sy, xisC, sxI, xgI, xgL, xgR, xent, xargs0, p1i, p2i, p1l, p2l, pli, p1r, pir, piir, plir, pvr, pdup, pdup2, pret, xjmp, xcon, xfd, xcl_, xcall, xbr, xsw, xtsw, xst1, xst2, xkill, xpush, xcat, xcl, xar, xkd, xrf, xmask, mR, mL, List.getElem?_cons_zero, List.getElem?_cons_succ, List.lookup_nil, List.lookup_cons, Nat.reduceAdd, Nat.reduceSub, Nat.reduceLeDiff, Nat.reduceEqDiff, Nat.reduceBEq, List.length_cons, List.length_nil, List.replicate, List.append_nil, List.nil_append, List.cons_append, List.set_cons_zero, List.set_cons_succ, List.take_succ_cons, List.take_zero, List.drop_succ_cons, List.drop_zero, List.reverse_cons, List.reverse_nil, List.map_cons, List.map_nil, List.sum_cons, List.sum_nil, decide_true, decide_false, and_self, and_true, true_and, true_or, or_true, Fin.isValue, Fin.val_zero, Fin.val_one, Fin.val_two, Fin.reduceFinMk, Nat.reduceMod, Option.some.injEq, Sum.inl.injEq, Sum.inr.injEq, Prod.mk.injEq, eq_self, reduceCtorEq, imp_self, implies_true, Nat.zero_add, Nat.add_zero, Nat.zero_le, Int.reduceEq, Int.reduceLT, Int.reduceLE, Int.reduceNeg, not_true, not_false_iff, false_imp_iff, true_imp_iff, forall_const, or_self, or_false, false_or, and_false, false_and, ↓reduceIte, z_0, z_1, z_f1, z_f2, z_f3, Int.reduceToNat, Int.reduceAdd, ct_X3_text, mi_X3_text]
        exact fin
      · rw [if_neg q2] at hK
        rw [if_pos (show tF b n s.p = 0 ∧ ¬ tK b n s.p = 4 from ⟨q1, q2⟩)]
        rw [q1] at t2
        have hb2 : M2 14 0 = b := by rw [f2 14 0 (by omega)]; exact hb1
        have cl := c_takeLine (K := fun r M3 => r = none ∧ (M3 13 0 1 = n ∧ M3 13 0 3 = (liF b n s.p s.dd s.D s.ft).1 ∧ M3 13 0 2 = (liF b n s.p s.dd s.D s.ft).2 ∧ ((liF b n s.p s.dd s.D s.ft).1 = 0 → M3 13 0 4 = liP b n s.p ∧ M3 13 0 6 = liB b n s.p s.ft ∧ CD M3 (liN b n s.p s.dd) (liD b n s.p s.dd s.D) (liZ b n s.p s.fz)) ∧ frX M2 M3)) hb2 hn hr hp t2 hD2 a1 (fun x hx => (a2 x hx).1) a3.1 (fun k1 => hLN M2 s.p hp k1 hb2 u1 u2 u4) (fun M3 h => ⟨rfl, h⟩)
        have tail : ∀ M3 : XM, (M3 13 0 1 = n ∧ M3 13 0 3 = (liF b n s.p s.dd s.D s.ft).1 ∧ M3 13 0 2 = (liF b n s.p s.dd s.D s.ft).2 ∧ ((liF b n s.p s.dd s.D s.ft).1 = 0 → M3 13 0 4 = liP b n s.p ∧ M3 13 0 6 = liB b n s.p s.ft ∧ CD M3 (liN b n s.p s.dd) (liD b n s.p s.dd s.D) (liZ b n s.p s.fz)) ∧ frX M2 M3) → J_X3_text K 8 [some (xR 0 0), some (xI ((k + 1 : Nat) : Int))] [] M3 := by
          rintro M3 ⟨v1, v2, v3, v4, v5⟩
          have fx3 := frX_tr fx2 v5
          by_cases q3 : (liF b n s.p s.dd s.D s.ft).1 = 0
          · rw [if_neg (fun a => a q3)] at hK
            obtain ⟨y1, y2, y3⟩ := v4 q3
            obtain ⟨z1, z2⟩ := li_p hp q3
            exact rec' M3 (by omega) (by show 2 * (k + 1) ≤ liP b n s.p; omega) z2 (PI_stp hp hP q3) ⟨M3 13 0 2, M3 13 0 5, v1, rfl, v2.trans q3, y1, rfl, y2⟩ y3 fx3 hK
          · rw [if_pos q3] at hK
            have g3 : M3 13 0 3 ≠ 0 := by rw [v2]; exact q3
            have fin := hK ((k + 1 : Nat) : Int) M3 ⟨v1, v2, v3, fun z => absurd z q3, fx3⟩ (fun z => absurd z q3)
            clear hK rec'
            refine st_X3_text [(11, [true, true]), (22, [true, true])] 20 ?_
            simp only [sy, xisC, sxI, xgI, xgL, xgR, xent, xargs0, p1i, p2i, p1l, p2l, pli, p1r, pir, piir, plir, pvr, pdup, pdup2, pret, xjmp, xcon, xfd, xcl_, xcall, xbr, xsw, xtsw, xst1, xst2, xkill, xpush, xcat, xcl, xar, xkd, xrf, xmask, mR, mL, List.getElem?_cons_zero, List.getElem?_cons_succ, List.lookup_nil, List.lookup_cons, Nat.reduceAdd, Nat.reduceSub, Nat.reduceLeDiff, Nat.reduceEqDiff, Nat.reduceBEq, List.length_cons, List.length_nil, List.replicate, List.append_nil, List.nil_append, List.cons_append, List.set_cons_zero, List.set_cons_succ, List.take_succ_cons, List.take_zero, List.drop_succ_cons, List.drop_zero, List.reverse_cons, List.reverse_nil, List.map_cons, List.map_nil, List.sum_cons, List.sum_nil, decide_true, decide_false, and_self, and_true, true_and, true_or, or_true, Fin.isValue, Fin.val_zero, Fin.val_one, Fin.val_two, Fin.reduceFinMk, Nat.reduceMod, Option.some.injEq, Sum.inl.injEq, Sum.inr.injEq, Prod.mk.injEq, eq_self, reduceCtorEq, imp_self, implies_true, Nat.zero_add, Nat.add_zero, Nat.zero_le, Int.reduceEq, Int.reduceLT, Int.reduceLE, Int.reduceNeg, not_true, not_false_iff, false_imp_iff, true_imp_iff, forall_const, or_self, or_false, false_or, and_false, false_and, ↓reduceIte, z_0, z_1, z_f1, z_f2, z_f3, Int.reduceToNat, Int.reduceAdd, ct_X3_text, mi_X3_text]
            refine ⟨fun z => absurd z (by omega), fun _ => ?_⟩
            refine st_X3_text [] 20 ?_
            simp only [sy, xisC, sxI, xgI, xgL, xgR, xent, xargs0, p1i, p2i, p1l, p2l, pli, p1r, pir, piir, plir, pvr, pdup, pdup2, pret, xjmp, xcon, xfd, xcl_, xcall, xbr, xsw, xtsw, xst1, xst2, xkill, xpush, xcat, xcl, xar, xkd, xrf, xmask, mR, mL, List.getElem?_cons_zero, List.getElem?_cons_succ, List.lookup_nil, List.lookup_cons, Nat.reduceAdd, Nat.reduceSub, Nat.reduceLeDiff, Nat.reduceEqDiff, Nat.reduceBEq, List.length_cons, List.length_nil, List.replicate, List.append_nil, List.nil_append, List.cons_append, List.set_cons_zero, List.set_cons_succ, List.take_succ_cons, List.take_zero, List.drop_succ_cons, List.drop_zero, List.reverse_cons, List.reverse_nil, List.map_cons, List.map_nil, List.sum_cons, List.sum_nil, decide_true, decide_false, and_self, and_true, true_and, true_or, or_true, Fin.isValue, Fin.val_zero, Fin.val_one, Fin.val_two, Fin.reduceFinMk, Nat.reduceMod, Option.some.injEq, Sum.inl.injEq, Sum.inr.injEq, Prod.mk.injEq, eq_self, reduceCtorEq, imp_self, implies_true, Nat.zero_add, Nat.add_zero, Nat.zero_le, Int.reduceEq, Int.reduceLT, Int.reduceLE, Int.reduceNeg, not_true, not_false_iff, false_imp_iff, true_imp_iff, forall_const, or_self, or_false, false_or, and_false, false_and, ↓reduceIte, z_0, z_1, z_f1, z_f2, z_f3, Int.reduceToNat, Int.reduceAdd, ct_X3_text, mi_X3_text]
            refine CW.mono (c_hasLine0 g3) ?_
            rintro _ M1 ⟨rfl, hM1⟩; rw [hM1]; clear hM1 M1
            refine st_X3_text [(22, [true, true])] 20 ?_
            simp only [sy, xisC, sxI, xgI, xgL, xgR, xent, xargs0, p1i, p2i, p1l, p2l, pli, p1r, pir, piir, plir, pvr, pdup, pdup2, pret, xjmp, xcon, xfd, xcl_, xcall, xbr, xsw, xtsw, xst1, xst2, xkill, xpush, xcat, xcl, xar, xkd, xrf, xmask, mR, mL, List.getElem?_cons_zero, List.getElem?_cons_succ, List.lookup_nil, List.lookup_cons, Nat.reduceAdd, Nat.reduceSub, Nat.reduceLeDiff, Nat.reduceEqDiff, Nat.reduceBEq, List.length_cons, List.length_nil, List.replicate, List.append_nil, List.nil_append, List.cons_append, List.set_cons_zero, List.set_cons_succ, List.take_succ_cons, List.take_zero, List.drop_succ_cons, List.drop_zero, List.reverse_cons, List.reverse_nil, List.map_cons, List.map_nil, List.sum_cons, List.sum_nil, decide_true, decide_false, and_self, and_true, true_and, true_or, or_true, Fin.isValue, Fin.val_zero, Fin.val_one, Fin.val_two, Fin.reduceFinMk, Nat.reduceMod, Option.some.injEq, Sum.inl.injEq, Sum.inr.injEq, Prod.mk.injEq, eq_self, reduceCtorEq, imp_self, implies_true, Nat.zero_add, Nat.add_zero, Nat.zero_le, Int.reduceEq, Int.reduceLT, Int.reduceLE, Int.reduceNeg, not_true, not_false_iff, false_imp_iff, true_imp_iff, forall_const, or_self, or_false, false_or, and_false, false_and, ↓reduceIte, z_0, z_1, z_f1, z_f2, z_f3, Int.reduceToNat, Int.reduceAdd, ct_X3_text, mi_X3_text]
            exact fin
        clear hK rec'
        refine st_X3_text [] 20 ?_
        simp only [sy, xisC, sxI, xgI, xgL, xgR, xent, xargs0, p1i, p2i, p1l, p2l, pli, p1r, pir, piir, plir, pvr, pdup, pdup2, pret, xjmp, xcon, xfd, xcl_, xcall, xbr, xsw, xtsw, xst1, xst2, xkill, xpush, xcat, xcl, xar, xkd, xrf, xmask, mR, mL, List.getElem?_cons_zero, List.getElem?_cons_succ, List.lookup_nil, List.lookup_cons, Nat.reduceAdd, Nat.reduceSub, Nat.reduceLeDiff, Nat.reduceEqDiff, Nat.reduceBEq, List.length_cons, List.length_nil, List.replicate, List.append_nil, List.nil_append, List.cons_append, List.set_cons_zero, List.set_cons_succ, List.take_succ_cons, List.take_zero, List.drop_succ_cons, List.drop_zero, List.reverse_cons, List.reverse_nil, List.map_cons, List.map_nil, List.sum_cons, List.sum_nil, decide_true, decide_false, and_self, and_true, true_and, true_or, or_true, Fin.isValue, Fin.val_zero, Fin.val_one, Fin.val_two, Fin.reduceFinMk, Nat.reduceMod, Option.some.injEq, Sum.inl.injEq, Sum.inr.injEq, Prod.mk.injEq, eq_self, reduceCtorEq, imp_self, implies_true, Nat.zero_add, Nat.add_zero, Nat.zero_le, Int.reduceEq, Int.reduceLT, Int.reduceLE, Int.reduceNeg, not_true, not_false_iff, false_imp_iff, true_imp_iff, forall_const, or_self, or_false, false_or, and_false, false_and, ↓reduceIte, z_0, z_1, z_f1, z_f2, z_f3, Int.reduceToNat, Int.reduceAdd, ct_X3_text, mi_X3_text, n1z]
        refine CW.mono (cl) ?_
        clear cl
        rintro _ M3 ⟨rfl, hx⟩
        have go := tail M3 hx
        clear tail hx
        refine st_X3_text [(8, [true, true])] 20 ?_
        simp only [sy, xisC, sxI, xgI, xgL, xgR, xent, xargs0, p1i, p2i, p1l, p2l, pli, p1r, pir, piir, plir, pvr, pdup, pdup2, pret, xjmp, xcon, xfd, xcl_, xcall, xbr, xsw, xtsw, xst1, xst2, xkill, xpush, xcat, xcl, xar, xkd, xrf, xmask, mR, mL, List.getElem?_cons_zero, List.getElem?_cons_succ, List.lookup_nil, List.lookup_cons, Nat.reduceAdd, Nat.reduceSub, Nat.reduceLeDiff, Nat.reduceEqDiff, Nat.reduceBEq, List.length_cons, List.length_nil, List.replicate, List.append_nil, List.nil_append, List.cons_append, List.set_cons_zero, List.set_cons_succ, List.take_succ_cons, List.take_zero, List.drop_succ_cons, List.drop_zero, List.reverse_cons, List.reverse_nil, List.map_cons, List.map_nil, List.sum_cons, List.sum_nil, decide_true, decide_false, and_self, and_true, true_and, true_or, or_true, Fin.isValue, Fin.val_zero, Fin.val_one, Fin.val_two, Fin.reduceFinMk, Nat.reduceMod, Option.some.injEq, Sum.inl.injEq, Sum.inr.injEq, Prod.mk.injEq, eq_self, reduceCtorEq, imp_self, implies_true, Nat.zero_add, Nat.add_zero, Nat.zero_le, Int.reduceEq, Int.reduceLT, Int.reduceLE, Int.reduceNeg, not_true, not_false_iff, false_imp_iff, true_imp_iff, forall_const, or_self, or_false, false_or, and_false, false_and, ↓reduceIte, z_0, z_1, z_f1, z_f2, z_f3, Int.reduceToNat, Int.reduceAdd, ct_X3_text, mi_X3_text, w]
        exact go
    · rw [if_pos q1] at hK
      have e1 : tF b n s.p = 1 := (tF_01).resolve_left q1
      rw [if_neg (fun z => q1 z.1)]
      have fin := hK k M2 ⟨u1, u3.trans e1, u2, fun z => absurd (show (1 : Int) = 0 from z) (by decide), fx2⟩ (fun z => absurd (show (1 : Int) = 0 from z) (by decide))
      clear hK rec'
      refine st_X3_text [(22, [true, true])] 20 ?_
      simp only [sy, xisC, sxI, xgI, xgL, xgR, xent, xargs0, p1i, p2i, p1l, p2l, pli, p1r, pir, piir, plir, pvr, pdup, pdup2, pret, xjmp, xcon, xfd, xcl_, xcall, xbr, xsw, xtsw, xst1, xst2, xkill, xpush, xcat, xcl, xar, xkd, xrf, xmask, mR, mL, List.getElem?_cons_zero, List.getElem?_cons_succ, List.lookup_nil, List.lookup_cons, Nat.reduceAdd, Nat.reduceSub, Nat.reduceLeDiff, Nat.reduceEqDiff, Nat.reduceBEq, List.length_cons, List.length_nil, List.replicate, List.append_nil, List.nil_append, List.cons_append, List.set_cons_zero, List.set_cons_succ, List.take_succ_cons, List.take_zero, List.drop_succ_cons, List.drop_zero, List.reverse_cons, List.reverse_nil, List.map_cons, List.map_nil, List.sum_cons, List.sum_nil, decide_true, decide_false, and_self, and_true, true_and, true_or, or_true, Fin.isValue, Fin.val_zero, Fin.val_one, Fin.val_two, Fin.reduceFinMk, Nat.reduceMod, Option.some.injEq, Sum.inl.injEq, Sum.inr.injEq, Prod.mk.injEq, eq_self, reduceCtorEq, imp_self, implies_true, Nat.zero_add, Nat.add_zero, Nat.zero_le, Int.reduceEq, Int.reduceLT, Int.reduceLE, Int.reduceNeg, not_true, not_false_iff, false_imp_iff, true_imp_iff, forall_const, or_self, or_false, false_or, and_false, false_and, ↓reduceIte, z_0, z_1, z_f1, z_f2, z_f3, Int.reduceToNat, Int.reduceAdd, ct_X3_text, mi_X3_text]
      exact fin
def s0 (D0 fm : Nat → Int) : PS := ⟨0, 0, D0, fun _ => 20, fm, 0, 0, -4⟩
theorem wb_0 (d : Nat) : wb 0 d = false := by
  unfold wb
  rw [Int.zero_ediv]
  rfl
theorem rk_0 : rk (fun _ => 0) = 0 := by decide +kernel
theorem PI_0 {D0 : Nat → Int} (h0 : ∀ k, k < 71 → D0 k = 0) (fm : Nat → Int) : PI (s0 D0 fm) := by
  have hj0 : ∀ j : Nat, ¬ (j : Int) < D0 33 := fun j => by rw [h0 33 (by decide)]; omega
  refine ⟨⟨by show 0 ≤ 4; decide, fun x hx => by show (0 : Int) ≤ D0 (25 + x) ∧ D0 (25 + x) < 256; rw [h0 _ (by omega)]; decide, by show (0 : Int) ≤ D0 33 ∧ D0 33 ≤ 6; rw [h0 _ (by omega)]; decide, ?_, by show (0 : Int) ≤ 0 ∧ (0 : Int) ≤ 8; decide, by show (0 : Int) ≤ 0 ∧ (0 : Int) < 16; decide⟩, fun d hd => absurd hd (by show ¬ d < 0; omega), fun d hd => ⟨h0 _ (by omega), h0 _ (by omega)⟩, ⟨h0 _ (by omega), h0 _ (by omega)⟩, fun j hj => absurd hj (hj0 j), fun d hd => ⟨fun z => ?_, fun _ => rfl⟩, fun c hc => ⟨fun _ => ⟨fun d _ _ => wb_0 d, fun j hj => absurd hj (hj0 j)⟩, fun _ => by show (-4 : Int) < c; omega⟩⟩
  · show (0 : Int) = rk D0
    rw [rk_cg (N := fun _ => 0) (fun k a c => h0 k (by omega))]
    exact rk_0.symm
  · have z : wb 0 d = true := z
    rw [wb_0] at z
    exact absurd z (by decide)
theorem CD_0 {M : XM} {D0 fz : Nat → Int} (h0 : ∀ k, k < 71 → D0 k = 0) (h : CD M 0 (fun _ => 0) fz) : CD M 0 D0 fz := by
  obtain ⟨c1, c2, c3, c4, c5, c6, c7, c8, c9⟩ := h
  refine ⟨c1, c2, c3, ?_, c5, fun d hd => absurd hd (by omega), c7, fun x y hx hy => ?_, fun j hj => ?_⟩
  · rw [c4, h0 _ (by omega)]
  · rw [c8 x y hx hy, h0 _ (by omega)]
  · rw [h0 _ (by omega)] at hj; omega
/-- a text's fault and its place -/
noncomputable def eT (R : (Int × Nat) × Nat × PS) : Int × Nat := if R.1.1 ≠ 0 then R.1 else (enF R.2.2, R.1.2)
def CT (R : (Int × Nat) × Nat × PS) (F : Int × Nat) (M : XM) (z : Int) (M' : XM) : Prop :=
  (F.1 ≠ 0 → z = -10 - F.2 ∧ M' 0 0 8 = F.1 ∧ (∀ k, k ≠ 8 → M' 0 0 k = M 0 0 k) ∧ M' 13 0 1 = 0 ∧ (∀ t i, 1 ≤ t → t ≤ 12 → i ≠ 1 → M' t i = M t i) ∧ ∀ t i, 14 ≤ t → M' t i = M t i) ∧
  (F.1 = 0 → z = R.2.1 ∧ M' 0 0 8 = 0 ∧ M' 0 0 5 = 0 ∧ M' 0 0 9 = M 0 0 9 ∧ M' 13 0 1 = 0 ∧ PI R.2.2 ∧ enF R.2.2 = 0 ∧ RG M' 0 R.2.2.dd (KD R.2.2) ∧ ∀ t i, 14 ≤ t → M' t i = M t i)
def cK (R : (Int × Nat) × Nat × PS) (F : Int × Nat) (M : XM) : Option XV → XM → Prop := fun r M' => ∃ z : Int, r = some (xI z) ∧ CT R F M z M'
theorem rn_n {b : Nat → Int} {n : Nat} : ∀ (f k : Nat) (s : PS), s.p ≤ n → PI s → (rn b n f k s).1.2 ≤ n
  | 0, k, s, _, _ => by show 0 ≤ n; omega
  | f + 1, k, s, hp, hP => by
    have er : rn b n (f + 1) k s = if tF b n s.p ≠ 0 then ((1, tS b n s.p), k, s) else if tK b n s.p = 4 then ((0, tS b n s.p), k, s) else if (liF b n s.p s.dd s.D s.ft).1 ≠ 0 then (liF b n s.p s.dd s.D s.ft, k, s) else rn b n f (k + 1) (stp b n s) := rfl
    rw [er]
    have t0 := tE_n (b := b) hp
    split
    · show tS b n s.p ≤ n; omega
    · split
      · show tS b n s.p ≤ n; omega
      · split
        · show (liF b n s.p s.dd s.D s.ft).2 ≤ n
          have t1 := tE_n (b := b) t0.2.1
          have t2 := tE_n (b := b) t1.2.1
          have t3 := tE_n (b := b) t2.2.1
          have t4 := tE_n (b := b) t3.2.1
          unfold liF dgF rkF faF woF
          repeat' split
          all_goals (first | (show tS b n s.p ≤ n; omega) | (show tS b n (tE b n s.p) ≤ n; omega) | (show tS b n (tE b n (tE b n s.p)) ≤ n; omega) | (show tS b n (tE b n (tE b n (tE b n s.p))) ≤ n; omega) | (show tS b n (tE b n (tE b n (tE b n (tE b n s.p)))) ≤ n; omega))
        · rename_i q
          have q3 : (liF b n s.p s.dd s.D s.ft).1 = 0 := by
            by_cases z : (liF b n s.p s.dd s.D s.ft).1 = 0
            · exact z
            · exact absurd z q
          exact rn_n f (k + 1) (stp b n s) (li_p hp q3).2 (PI_stp hp hP q3)
set_option maxRecDepth 100000 in
theorem c_text {M : XM} {n : Nat} {b : Nat → Int} (hb : M 14 0 = b) (hn : n ≤ 160) (hr : ∀ j, j < n → 0 ≤ b j ∧ b j < 128) (hl : M 13 0 1 = n) (hLN : LNA b n) {D0 : Nat → Int} (h0 : ∀ k, k < 71 → D0 k = 0) (fm : Nat → Int) : CW mi_X3_text [xR 0 0] M (cK (rn b n 161 0 (s0 D0 fm)) (eT (rn b n 161 0 (s0 D0 fm))) M) := by
  have rnn := rn_n (b := b) 161 0 (s0 D0 fm) (show 0 ≤ n by omega) (PI_0 h0 fm)
  -- the end
  have tail : ∀ (R : (Int × Nat) × Nat × PS) (z : Int) (M1 : XM), R.1.2 ≤ n → CR n R M M1 → (R.1.1 = 0 → z = R.2.1) → J_X3_text (cK R (eT R) M) 22 [some (xR 0 0), some (xI z)] [] M1 := by
    rintro R z M1 hRn ⟨c1, c2, c3, c4, c5⟩ hz
    have hFn : (eT R).2 ≤ n := by
      unfold eT
      split
      · exact hRn
      · exact hRn
    have rest : ∀ M2 : XM, M2 13 0 3 = (eT R).1 → M2 13 0 2 = (eT R).2 → frX M M2 → ((eT R).1 = 0 → R.1.1 = 0 ∧ PI R.2.2 ∧ enF R.2.2 = 0 ∧ CD M2 R.2.2.dd R.2.2.D R.2.2.fz) → J_X3_text (cK R (eT R) M) 27 [some (xR 0 0), some (xI z)] [] M2 := by
      intro M2 m3 m2 fx ok
      have g8 : xup (xup M2 0 0 8 (eT R).1) 13 0 1 0 0 0 8 = (eT R).1 := by rw [xup_t (by decide), xup_e]
      have g2 : xup (xup M2 0 0 8 (eT R).1) 13 0 1 0 13 0 2 = (eT R).2 := by rw [xup_k (by decide), xup_t (by decide)]; exact m2
      have k0 : ∀ k, k ≠ 8 → xup (xup M2 0 0 8 (eT R).1) 13 0 1 0 0 0 k = M 0 0 k := fun k hk => by rw [xup_t (by decide), xup_k hk, fx 0 0 (by omega) (by omega)]
      have g1 : xup (xup M2 0 0 8 (eT R).1) 13 0 1 0 13 0 1 = 0 := by rw [xup_e]
      have kg : ∀ t i, 1 ≤ t → t ≤ 12 → i ≠ 1 → xup (xup M2 0 0 8 (eT R).1) 13 0 1 0 t i = M t i := fun t i x1 x2 x3 => by rw [xup_t (by omega), xup_t (by omega), fx t i (by omega) (by omega)]
      have kr : ∀ t i, 1 ≤ t → t ≤ 12 → xup (xup M2 0 0 8 (eT R).1) 13 0 1 0 t i = M2 t i := fun t i x1 x2 => by rw [xup_t (by omega), xup_t (by omega)]
      have kt : ∀ t i, 14 ≤ t → xup (xup M2 0 0 8 (eT R).1) 13 0 1 0 t i = M t i := fun t i x1 => by rw [xup_t (by omega), xup_t (by omega), fx t i (by omega) (by omega)]
      refine st_X3_text [(36, [true, true])] 20 ?_
      simp only [sy, xisC, sxI, xgI, xgL, xgR, xent, xargs0, p1i, p2i, p1l, p2l, pli, p1r, pir, piir, plir, pvr, pdup, pdup2, pret, xjmp, xcon, xfd, xcl_, xcall, xbr, xsw, xtsw, xst1, xst2, xkill, xpush, xcat, xcl, xar, xkd, xrf, xmask, mR, mL, List.getElem?_cons_zero, List.getElem?_cons_succ, List.lookup_nil, List.lookup_cons, Nat.reduceAdd, Nat.reduceSub, Nat.reduceLeDiff, Nat.reduceEqDiff, Nat.reduceBEq, List.length_cons, List.length_nil, List.replicate, List.append_nil, List.nil_append, List.cons_append, List.set_cons_zero, List.set_cons_succ, List.take_succ_cons, List.take_zero, List.drop_succ_cons, List.drop_zero, List.reverse_cons, List.reverse_nil, List.map_cons, List.map_nil, List.sum_cons, List.sum_nil, decide_true, decide_false, and_self, and_true, true_and, true_or, or_true, Fin.isValue, Fin.val_zero, Fin.val_one, Fin.val_two, Fin.reduceFinMk, Nat.reduceMod, Option.some.injEq, Sum.inl.injEq, Sum.inr.injEq, Prod.mk.injEq, eq_self, reduceCtorEq, imp_self, implies_true, Nat.zero_add, Nat.add_zero, Nat.zero_le, Int.reduceEq, Int.reduceLT, Int.reduceLE, Int.reduceNeg, not_true, not_false_iff, false_imp_iff, true_imp_iff, forall_const, or_self, or_false, false_or, and_false, false_and, ↓reduceIte, z_0, z_1, z_f1, z_f2, z_f3, Int.reduceToNat, Int.reduceAdd, ct_X3_text, mi_X3_text, m3]
      generalize xup (xup M2 0 0 8 (eT R).1) 13 0 1 0 = M3 at g8 g2 k0 g1 kg kr kt ⊢
      by_cases q : (eT R).1 = 0
      · obtain ⟨o1, o2, o3, o4⟩ := ok q
        rw [q] at g8
        have rg := KD_rg (M := M3) o2 (CD_fr o4 (fun t x1 x2 => kr t 1 x1 x2))
        have okk := KD_ok o2 o3
        have fin : ∀ M4 : XM, RG M4 0 R.2.2.dd (KD R.2.2) → frG 0 M3 M4 → cK R (eT R) M (some (xI z)) (xup M4 0 0 5 0) := fun M4 rg4 f4 => by
          refine ⟨z, rfl, fun a => absurd q a, fun _ => ⟨hz o1, ?_, ?_, ?_, ?_, o2, o3, ?_, fun t i ht => ?_⟩⟩
          · rw [xup_k (by decide), f4 0 0 (by omega)]; exact g8
          · rw [xup_e]
          · rw [xup_k (by decide), f4 0 0 (by omega)]; exact k0 9 (by decide)
          · rw [xup_t (by decide), f4 13 0 (by omega)]; exact g1
          · exact RG_fr rg4 (fun t x1 x2 => by rw [xup_t (by omega)])
          · rw [xup_t (by omega), f4 t i (by omega)]; exact kt t i ht
        generalize cK R (eT R) M = KK at fin ⊢
        refine st_X3_text [(45, [true, true])] 20 ?_
        simp only [sy, xisC, sxI, xgI, xgL, xgR, xent, xargs0, p1i, p2i, p1l, p2l, pli, p1r, pir, piir, plir, pvr, pdup, pdup2, pret, xjmp, xcon, xfd, xcl_, xcall, xbr, xsw, xtsw, xst1, xst2, xkill, xpush, xcat, xcl, xar, xkd, xrf, xmask, mR, mL, List.getElem?_cons_zero, List.getElem?_cons_succ, List.lookup_nil, List.lookup_cons, Nat.reduceAdd, Nat.reduceSub, Nat.reduceLeDiff, Nat.reduceEqDiff, Nat.reduceBEq, List.length_cons, List.length_nil, List.replicate, List.append_nil, List.nil_append, List.cons_append, List.set_cons_zero, List.set_cons_succ, List.take_succ_cons, List.take_zero, List.drop_succ_cons, List.drop_zero, List.reverse_cons, List.reverse_nil, List.map_cons, List.map_nil, List.sum_cons, List.sum_nil, decide_true, decide_false, and_self, and_true, true_and, true_or, or_true, Fin.isValue, Fin.val_zero, Fin.val_one, Fin.val_two, Fin.reduceFinMk, Nat.reduceMod, Option.some.injEq, Sum.inl.injEq, Sum.inr.injEq, Prod.mk.injEq, eq_self, reduceCtorEq, imp_self, implies_true, Nat.zero_add, Nat.add_zero, Nat.zero_le, Int.reduceEq, Int.reduceLT, Int.reduceLE, Int.reduceNeg, not_true, not_false_iff, false_imp_iff, true_imp_iff, forall_const, or_self, or_false, false_or, and_false, false_and, ↓reduceIte, z_0, z_1, z_f1, z_f2, z_f3, Int.reduceToNat, Int.reduceAdd, ct_X3_text, mi_X3_text, g8]
        refine st_X3_text [] 20 ?_
        simp only [sy, xisC, sxI, xgI, xgL, xgR, xent, xargs0, p1i, p2i, p1l, p2l, pli, p1r, pir, piir, plir, pvr, pdup, pdup2, pret, xjmp, xcon, xfd, xcl_, xcall, xbr, xsw, xtsw, xst1, xst2, xkill, xpush, xcat, xcl, xar, xkd, xrf, xmask, mR, mL, List.getElem?_cons_zero, List.getElem?_cons_succ, List.lookup_nil, List.lookup_cons, Nat.reduceAdd, Nat.reduceSub, Nat.reduceLeDiff, Nat.reduceEqDiff, Nat.reduceBEq, List.length_cons, List.length_nil, List.replicate, List.append_nil, List.nil_append, List.cons_append, List.set_cons_zero, List.set_cons_succ, List.take_succ_cons, List.take_zero, List.drop_succ_cons, List.drop_zero, List.reverse_cons, List.reverse_nil, List.map_cons, List.map_nil, List.sum_cons, List.sum_nil, decide_true, decide_false, and_self, and_true, true_and, true_or, or_true, Fin.isValue, Fin.val_zero, Fin.val_one, Fin.val_two, Fin.reduceFinMk, Nat.reduceMod, Option.some.injEq, Sum.inl.injEq, Sum.inr.injEq, Prod.mk.injEq, eq_self, reduceCtorEq, imp_self, implies_true, Nat.zero_add, Nat.add_zero, Nat.zero_le, Int.reduceEq, Int.reduceLT, Int.reduceLE, Int.reduceNeg, not_true, not_false_iff, false_imp_iff, true_imp_iff, forall_const, or_self, or_false, false_or, and_false, false_and, ↓reduceIte, z_0, z_1, z_f1, z_f2, z_f3, Int.reduceToNat, Int.reduceAdd, ct_X3_text, mi_X3_text]
        refine CW.mono (c_copy (i := 0) (j := 1) (by decide) rg okk) ?_
        rintro _ M4 ⟨rfl, rg4, f4⟩
        have fin := fin M4 rg4 f4
        refine st_X3_text [] 20 ?_
        simp only [sy, xisC, sxI, xgI, xgL, xgR, xent, xargs0, p1i, p2i, p1l, p2l, pli, p1r, pir, piir, plir, pvr, pdup, pdup2, pret, xjmp, xcon, xfd, xcl_, xcall, xbr, xsw, xtsw, xst1, xst2, xkill, xpush, xcat, xcl, xar, xkd, xrf, xmask, mR, mL, List.getElem?_cons_zero, List.getElem?_cons_succ, List.lookup_nil, List.lookup_cons, Nat.reduceAdd, Nat.reduceSub, Nat.reduceLeDiff, Nat.reduceEqDiff, Nat.reduceBEq, List.length_cons, List.length_nil, List.replicate, List.append_nil, List.nil_append, List.cons_append, List.set_cons_zero, List.set_cons_succ, List.take_succ_cons, List.take_zero, List.drop_succ_cons, List.drop_zero, List.reverse_cons, List.reverse_nil, List.map_cons, List.map_nil, List.sum_cons, List.sum_nil, decide_true, decide_false, and_self, and_true, true_and, true_or, or_true, Fin.isValue, Fin.val_zero, Fin.val_one, Fin.val_two, Fin.reduceFinMk, Nat.reduceMod, Option.some.injEq, Sum.inl.injEq, Sum.inr.injEq, Prod.mk.injEq, eq_self, reduceCtorEq, imp_self, implies_true, Nat.zero_add, Nat.add_zero, Nat.zero_le, Int.reduceEq, Int.reduceLT, Int.reduceLE, Int.reduceNeg, not_true, not_false_iff, false_imp_iff, true_imp_iff, forall_const, or_self, or_false, false_or, and_false, false_and, ↓reduceIte, z_0, z_1, z_f1, z_f2, z_f3, Int.reduceToNat, Int.reduceAdd, ct_X3_text, mi_X3_text]
        exact fin
      · have wz : w32 (-10 - ((eT R).2 : Int)) = -10 - ((eT R).2 : Int) := w32_id (by omega) (by omega)
        have fin : cK R (eT R) M (some (xI (-10 - ((eT R).2 : Int)))) M3 := ⟨_, rfl, fun _ => ⟨rfl, g8, k0, g1, kg, kt⟩, fun a => absurd a q⟩
        have g8' : ¬ M3 0 0 8 = 0 := by rw [g8]; exact q
        generalize cK R (eT R) M = KK at fin ⊢
        refine st_X3_text [] 20 ?_
        simp only [sy, xisC, sxI, xgI, xgL, xgR, xent, xargs0, p1i, p2i, p1l, p2l, pli, p1r, pir, piir, plir, pvr, pdup, pdup2, pret, xjmp, xcon, xfd, xcl_, xcall, xbr, xsw, xtsw, xst1, xst2, xkill, xpush, xcat, xcl, xar, xkd, xrf, xmask, mR, mL, List.getElem?_cons_zero, List.getElem?_cons_succ, List.lookup_nil, List.lookup_cons, Nat.reduceAdd, Nat.reduceSub, Nat.reduceLeDiff, Nat.reduceEqDiff, Nat.reduceBEq, List.length_cons, List.length_nil, List.replicate, List.append_nil, List.nil_append, List.cons_append, List.set_cons_zero, List.set_cons_succ, List.take_succ_cons, List.take_zero, List.drop_succ_cons, List.drop_zero, List.reverse_cons, List.reverse_nil, List.map_cons, List.map_nil, List.sum_cons, List.sum_nil, decide_true, decide_false, and_self, and_true, true_and, true_or, or_true, Fin.isValue, Fin.val_zero, Fin.val_one, Fin.val_two, Fin.reduceFinMk, Nat.reduceMod, Option.some.injEq, Sum.inl.injEq, Sum.inr.injEq, Prod.mk.injEq, eq_self, reduceCtorEq, imp_self, implies_true, Nat.zero_add, Nat.add_zero, Nat.zero_le, Int.reduceEq, Int.reduceLT, Int.reduceLE, Int.reduceNeg, not_true, not_false_iff, false_imp_iff, true_imp_iff, forall_const, or_self, or_false, false_or, and_false, false_and, ↓reduceIte, z_0, z_1, z_f1, z_f2, z_f3, Int.reduceToNat, Int.reduceAdd, ct_X3_text, mi_X3_text, g8', g2, wz]
        exact fin
    refine st_X3_text [] 20 ?_
    simp only [sy, xisC, sxI, xgI, xgL, xgR, xent, xargs0, p1i, p2i, p1l, p2l, pli, p1r, pir, piir, plir, pvr, pdup, pdup2, pret, xjmp, xcon, xfd, xcl_, xcall, xbr, xsw, xtsw, xst1, xst2, xkill, xpush, xcat, xcl, xar, xkd, xrf, xmask, mR, mL, List.getElem?_cons_zero, List.getElem?_cons_succ, List.lookup_nil, List.lookup_cons, Nat.reduceAdd, Nat.reduceSub, Nat.reduceLeDiff, Nat.reduceEqDiff, Nat.reduceBEq, List.length_cons, List.length_nil, List.replicate, List.append_nil, List.nil_append, List.cons_append, List.set_cons_zero, List.set_cons_succ, List.take_succ_cons, List.take_zero, List.drop_succ_cons, List.drop_zero, List.reverse_cons, List.reverse_nil, List.map_cons, List.map_nil, List.sum_cons, List.sum_nil, decide_true, decide_false, and_self, and_true, true_and, true_or, or_true, Fin.isValue, Fin.val_zero, Fin.val_one, Fin.val_two, Fin.reduceFinMk, Nat.reduceMod, Option.some.injEq, Sum.inl.injEq, Sum.inr.injEq, Prod.mk.injEq, eq_self, reduceCtorEq, imp_self, implies_true, Nat.zero_add, Nat.add_zero, Nat.zero_le, Int.reduceEq, Int.reduceLT, Int.reduceLE, Int.reduceNeg, not_true, not_false_iff, false_imp_iff, true_imp_iff, forall_const, or_self, or_false, false_or, and_false, false_and, ↓reduceIte, z_0, z_1, z_f1, z_f2, z_f3, Int.reduceToNat, Int.reduceAdd, ct_X3_text, mi_X3_text]
    by_cases q : R.1.1 = 0
    · obtain ⟨y1, y2, y3⟩ := c4 q
      have eF : eT R = (enF R.2.2, R.1.2) := by unfold eT; rw [if_neg (fun a => a q)]
      rw [eF] at rest ⊢
      refine CW.mono (c_takeEnd (K := fun r M2 => r = none ∧ M2 13 0 3 = enF R.2.2 ∧ (∀ k, k ≠ 3 → M2 13 0 k = M1 13 0 k) ∧ frP M1 M2) y2 (c2.trans q) y1 y3 (fun M2 e1 e2 e3 => ⟨rfl, e1, e2, e3⟩)) ?_
      rintro _ M2 ⟨rfl, e1, e2, e3⟩
      exact rest M2 e1 (by rw [e2 2 (by decide)]; exact c3) (frX_tr c5 (frX_P e3)) (fun h0 => ⟨q, y2, h0, CD_P y3 e3⟩)
    · have eF : eT R = R.1 := by unfold eT; rw [if_pos q]
      rw [eF] at rest ⊢
      refine CW.mono (c_takeEnd0 (by rw [c2]; exact q)) ?_
      rintro _ M2 ⟨rfl, hM2⟩
      rw [hM2]
      exact rest M1 c2 c3 c5 (fun h0 => absurd h0 q)
  generalize HR : rn b n 161 0 (s0 D0 fm) = R at *
  have fin := tail R
  clear tail
  refine in_X3_text (Nat.le_of_ble_eq_true rfl) ?_
  refine st_X3_text [] 20 ?_
  simp only [sy, xisC, sxI, xgI, xgL, xgR, xent, xargs0, p1i, p2i, p1l, p2l, pli, p1r, pir, piir, plir, pvr, pdup, pdup2, pret, xjmp, xcon, xfd, xcl_, xcall, xbr, xsw, xtsw, xst1, xst2, xkill, xpush, xcat, xcl, xar, xkd, xrf, xmask, mR, mL, List.getElem?_cons_zero, List.getElem?_cons_succ, List.lookup_nil, List.lookup_cons, Nat.reduceAdd, Nat.reduceSub, Nat.reduceLeDiff, Nat.reduceEqDiff, Nat.reduceBEq, List.length_cons, List.length_nil, List.replicate, List.append_nil, List.nil_append, List.cons_append, List.set_cons_zero, List.set_cons_succ, List.take_succ_cons, List.take_zero, List.drop_succ_cons, List.drop_zero, List.reverse_cons, List.reverse_nil, List.map_cons, List.map_nil, List.sum_cons, List.sum_nil, decide_true, decide_false, and_self, and_true, true_and, true_or, or_true, Fin.isValue, Fin.val_zero, Fin.val_one, Fin.val_two, Fin.reduceFinMk, Nat.reduceMod, Option.some.injEq, Sum.inl.injEq, Sum.inr.injEq, Prod.mk.injEq, eq_self, reduceCtorEq, imp_self, implies_true, Nat.zero_add, Nat.add_zero, Nat.zero_le, Int.reduceEq, Int.reduceLT, Int.reduceLE, Int.reduceNeg, not_true, not_false_iff, false_imp_iff, true_imp_iff, forall_const, or_self, or_false, false_or, and_false, false_and, ↓reduceIte, z_0, z_1, z_f1, z_f2, z_f3, Int.reduceToNat, Int.reduceAdd, ct_X3_text, mi_X3_text]
  refine CW.mono (c_clear M) ?_
  rintro _ M1 ⟨rfl, d1, f1⟩
  have hb1 : M1 14 0 = b := by rw [f1 14 0 (by omega)]; exact hb
  have hl1 : M1 13 0 1 = n := by rw [f1 13 0 (by omega)]; exact hl
  have crw : CW mi_X2_rewind [xR 13 0] M1 (fun r M2 => r = none ∧ (∃ pl so : Int, TP M2 n pl 0 (0 : Nat) so 0) ∧ frP M1 M2) := by
    have e : ∃ pl so : Int, TP (xup (xup (xup M1 13 0 3 0) 13 0 4 0) 13 0 6 0) n pl 0 (0 : Nat) so 0 := ⟨_, _, TP_6 (TP_4 (TP_3 (n := n) (pl := M1 13 0 2) (fl := M1 13 0 3) (nx := M1 13 0 4) (so := M1 13 0 5) (ft := M1 13 0 6) ⟨hl1, rfl, rfl, rfl, rfl, rfl⟩))⟩
    have e2 : frP M1 (xup (xup (xup M1 13 0 3 0) 13 0 4 0) 13 0 6 0) := frP_up (frP_up (frP_up frP_rf))
    refine in_X2_rewind (Nat.le_of_ble_eq_true rfl) ?_
    refine st_X2_rewind [] 20 ?_
    simp only [sy, xisC, sxI, xgI, xgL, xgR, xent, xargs0, p1i, p2i, p1l, p2l, pli, p1r, pir, piir, plir, pvr, pdup, pdup2, pret, xjmp, xcon, xfd, xcl_, xcall, xbr, xsw, xtsw, xst1, xst2, xkill, xpush, xcat, xcl, xar, xkd, xrf, xmask, mR, mL, List.getElem?_cons_zero, List.getElem?_cons_succ, List.lookup_nil, List.lookup_cons, Nat.reduceAdd, Nat.reduceSub, Nat.reduceLeDiff, Nat.reduceEqDiff, Nat.reduceBEq, List.length_cons, List.length_nil, List.replicate, List.append_nil, List.nil_append, List.cons_append, List.set_cons_zero, List.set_cons_succ, List.take_succ_cons, List.take_zero, List.drop_succ_cons, List.drop_zero, List.reverse_cons, List.reverse_nil, List.map_cons, List.map_nil, List.sum_cons, List.sum_nil, decide_true, decide_false, and_self, and_true, true_and, true_or, or_true, Fin.isValue, Fin.val_zero, Fin.val_one, Fin.val_two, Fin.reduceFinMk, Nat.reduceMod, Option.some.injEq, Sum.inl.injEq, Sum.inr.injEq, Prod.mk.injEq, eq_self, reduceCtorEq, imp_self, implies_true, Nat.zero_add, Nat.add_zero, Nat.zero_le, Int.reduceEq, Int.reduceLT, Int.reduceLE, Int.reduceNeg, not_true, not_false_iff, false_imp_iff, true_imp_iff, forall_const, or_self, or_false, false_or, and_false, false_and, ↓reduceIte, z_0, z_1, z_f1, z_f2, z_f3, Int.reduceToNat, Int.reduceAdd, ct_X2_rewind, mi_X2_rewind]
    exact ⟨e, e2⟩
  refine st_X3_text [] 20 ?_
  simp only [sy, xisC, sxI, xgI, xgL, xgR, xent, xargs0, p1i, p2i, p1l, p2l, pli, p1r, pir, piir, plir, pvr, pdup, pdup2, pret, xjmp, xcon, xfd, xcl_, xcall, xbr, xsw, xtsw, xst1, xst2, xkill, xpush, xcat, xcl, xar, xkd, xrf, xmask, mR, mL, List.getElem?_cons_zero, List.getElem?_cons_succ, List.lookup_nil, List.lookup_cons, Nat.reduceAdd, Nat.reduceSub, Nat.reduceLeDiff, Nat.reduceEqDiff, Nat.reduceBEq, List.length_cons, List.length_nil, List.replicate, List.append_nil, List.nil_append, List.cons_append, List.set_cons_zero, List.set_cons_succ, List.take_succ_cons, List.take_zero, List.drop_succ_cons, List.drop_zero, List.reverse_cons, List.reverse_nil, List.map_cons, List.map_nil, List.sum_cons, List.sum_nil, decide_true, decide_false, and_self, and_true, true_and, true_or, or_true, Fin.isValue, Fin.val_zero, Fin.val_one, Fin.val_two, Fin.reduceFinMk, Nat.reduceMod, Option.some.injEq, Sum.inl.injEq, Sum.inr.injEq, Prod.mk.injEq, eq_self, reduceCtorEq, imp_self, implies_true, Nat.zero_add, Nat.add_zero, Nat.zero_le, Int.reduceEq, Int.reduceLT, Int.reduceLE, Int.reduceNeg, not_true, not_false_iff, false_imp_iff, true_imp_iff, forall_const, or_self, or_false, false_or, and_false, false_and, ↓reduceIte, z_0, z_1, z_f1, z_f2, z_f3, Int.reduceToNat, Int.reduceAdd, ct_X3_text, mi_X3_text]
  refine CW.mono (crw) ?_
  rintro _ M2 ⟨rfl, t2, f2⟩
  have go := c_lines (K := cK R (eT R) M) hb hn hr hLN 161 0 (s0 D0 fm) M2 rfl (by show 2 * 0 ≤ 0; decide) (by show 0 ≤ n; omega) (PI_0 h0 fm) t2 (CD_0 h0 (CD_P d1 f2)) (frX_tr (frX_G f1) (frX_P f2))
  rw [HR] at go
  have go := go (fun z M' c h => fin z M' rnn c h)
  clear fin
  generalize cK R (eT R) M = KK at go ⊢
  refine st_X3_text [(8, [true, true])] 20 ?_
  simp only [sy, xisC, sxI, xgI, xgL, xgR, xent, xargs0, p1i, p2i, p1l, p2l, pli, p1r, pir, piir, plir, pvr, pdup, pdup2, pret, xjmp, xcon, xfd, xcl_, xcall, xbr, xsw, xtsw, xst1, xst2, xkill, xpush, xcat, xcl, xar, xkd, xrf, xmask, mR, mL, List.getElem?_cons_zero, List.getElem?_cons_succ, List.lookup_nil, List.lookup_cons, Nat.reduceAdd, Nat.reduceSub, Nat.reduceLeDiff, Nat.reduceEqDiff, Nat.reduceBEq, List.length_cons, List.length_nil, List.replicate, List.append_nil, List.nil_append, List.cons_append, List.set_cons_zero, List.set_cons_succ, List.take_succ_cons, List.take_zero, List.drop_succ_cons, List.drop_zero, List.reverse_cons, List.reverse_nil, List.map_cons, List.map_nil, List.sum_cons, List.sum_nil, decide_true, decide_false, and_self, and_true, true_and, true_or, or_true, Fin.isValue, Fin.val_zero, Fin.val_one, Fin.val_two, Fin.reduceFinMk, Nat.reduceMod, Option.some.injEq, Sum.inl.injEq, Sum.inr.injEq, Prod.mk.injEq, eq_self, reduceCtorEq, imp_self, implies_true, Nat.zero_add, Nat.add_zero, Nat.zero_le, Int.reduceEq, Int.reduceLT, Int.reduceLE, Int.reduceNeg, not_true, not_false_iff, false_imp_iff, true_imp_iff, forall_const, or_self, or_false, false_or, and_false, false_and, ↓reduceIte, z_0, z_1, z_f1, z_f2, z_f3, Int.reduceToNat, Int.reduceAdd, ct_X3_text, mi_X3_text]
  exact go

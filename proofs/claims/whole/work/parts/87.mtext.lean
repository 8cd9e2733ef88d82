/-! ===== the text as a whole: the model's side ===== -/
theorem ms_0 {b : Nat → Int} {n p : Nat} (h : tF b n p = 0) : mSo (tK b n p) = 0 ↔ tK b n p = 4 := by
  have h0 : tK b n p ≠ 0 := fun z => by
    unfold tF at h
    rw [if_pos (Or.inl z)] at h
    exact absurd h (by decide)
  have := tK_5 (b := b) (n := n) (p := p)
  generalize tK b n p = k at h0 this
  rcases this with rfl | rfl | rfl | rfl | rfl
  · exact absurd rfl h0
  · decide
  · decide
  · decide
  · decide
def D0 (N : Nat → Int) : Nat → Int := fun k => if k < 71 then 0 else N k
/-- draft and its numbers: all else lasts -/
def frD (M M' : XM) : Prop := (∀ (t : Nat) (i : Fin 5), ¬ (t = 22 ∧ i = 0) → ¬ (t = 26 ∧ i = 0) → M' t i = M t i) ∧ ∀ k, k ≠ 5 → k ≠ 6 → k ≠ 7 → k ≠ 9 → M' 22 0 k = M 22 0 k
theorem frD_rf {M : XM} : frD M M := ⟨fun _ _ _ _ => rfl, fun _ _ _ _ _ => rfl⟩
theorem frD_26 {M M1 : XM} {k : Nat} {v : Int} (h : frD M M1) : frD M (xup M1 26 0 k v) := ⟨fun t i a c => by
  by_cases q : t = 26
  · subst q
    rw [xup_i (fun z => c ⟨rfl, z⟩)]
    exact h.1 _ _ a c
  · rw [xup_t q]
    exact h.1 _ _ a c, fun j a c d e => by rw [xup_t (by omega)]; exact h.2 j a c d e⟩
theorem frD_22 {M M1 : XM} {k : Nat} {v : Int} (h : frD M M1) (hk : k = 5 ∨ k = 6 ∨ k = 7 ∨ k = 9) : frD M (xup M1 22 0 k v) := ⟨fun t i a c => by
  by_cases q : t = 22
  · subst q
    rw [xup_i (fun z => a ⟨rfl, z⟩)]
    exact h.1 _ _ a c
  · rw [xup_t q]
    exact h.1 _ _ a c, fun j a c d e => by rw [xup_k (by omega)]; exact h.2 j a c d e⟩
set_option maxRecDepth 100000 in
theorem m_firstDraft (M : XM) : CW mi_X4_firstDraft [xR 22 0] M (fun r M' => r = none ∧ M' 26 0 = D0 (M 26 0) ∧ (M' 22 0 5 = 0 ∧ M' 22 0 6 = 0 ∧ M' 22 0 7 = 0 ∧ M' 22 0 9 = -4) ∧ frD M M') := by
  have loop : ∀ (m k : Nat) (M1 : XM), k + m = 71 → (∀ j, M1 26 0 j = if j < k then 0 else M 26 0 j) → frD M M1 → J_X4_firstDraft (fun r M' => r = none ∧ M' 26 0 = D0 (M 26 0) ∧ (M' 22 0 5 = 0 ∧ M' 22 0 6 = 0 ∧ M' 22 0 7 = 0 ∧ M' 22 0 9 = -4) ∧ frD M M') 2 [some (xR 22 0), some (xI k)] [] M1 := by
    intro m
    induction m with
    | zero =>
      intro k M1 hk h1 hf
      have e : k = 71 := by omega
      subst e
      have fin : xup (xup (xup (xup M1 22 0 5 0) 22 0 6 0) 22 0 7 0) 22 0 9 (-4) 26 0 = D0 (M 26 0) ∧ (xup (xup (xup (xup M1 22 0 5 0) 22 0 6 0) 22 0 7 0) 22 0 9 (-4) 22 0 5 = 0 ∧ xup (xup (xup (xup M1 22 0 5 0) 22 0 6 0) 22 0 7 0) 22 0 9 (-4) 22 0 6 = 0 ∧ xup (xup (xup (xup M1 22 0 5 0) 22 0 6 0) 22 0 7 0) 22 0 9 (-4) 22 0 7 = 0 ∧ xup (xup (xup (xup M1 22 0 5 0) 22 0 6 0) 22 0 7 0) 22 0 9 (-4) 22 0 9 = -4) ∧ frD M (xup (xup (xup (xup M1 22 0 5 0) 22 0 6 0) 22 0 7 0) 22 0 9 (-4)) := by
        refine ⟨?_, ⟨?_, ?_, ?_, ?_⟩, frD_22 (frD_22 (frD_22 (frD_22 hf (Or.inl rfl)) (Or.inr (Or.inl rfl))) (Or.inr (Or.inr (Or.inl rfl)))) (Or.inr (Or.inr (Or.inr rfl)))⟩
        · rw [xup_t (by decide), xup_t (by decide), xup_t (by decide), xup_t (by decide)]
          exact funext h1
        · rw [xup_k (by decide), xup_k (by decide), xup_k (by decide), xup_e]
        · rw [xup_k (by decide), xup_k (by decide), xup_e]
        · rw [xup_k (by decide), xup_e]
        · rw [xup_e]
      refine st_X4_firstDraft [(12, [true, true])] 30 ?_
      simp only [sy, xisC, sxI, xgI, xgL, xgR, xent, xargs0, p1i, p2i, p1l, p2l, pli, p1r, pir, piir, plir, pvr, pdup, pdup2, pret, xjmp, xcon, xfd, xcl_, xcall, xbr, xsw, xtsw, xst1, xst2, xkill, xpush, xcat, xcl, xar, xkd, xrf, xmask, mR, mL, List.getElem?_cons_zero, List.getElem?_cons_succ, List.lookup_nil, List.lookup_cons, Nat.reduceAdd, Nat.reduceSub, Nat.reduceLeDiff, Nat.reduceEqDiff, Nat.reduceBEq, List.length_cons, List.length_nil, List.replicate, List.append_nil, List.nil_append, List.cons_append, List.set_cons_zero, List.set_cons_succ, List.take_succ_cons, List.take_zero, List.drop_succ_cons, List.drop_zero, List.reverse_cons, List.reverse_nil, List.map_cons, List.map_nil, List.sum_cons, List.sum_nil, decide_true, decide_false, and_self, and_true, true_and, true_or, or_true, Fin.isValue, Fin.val_zero, Fin.val_one, Fin.val_two, Fin.reduceFinMk, Nat.reduceMod, Option.some.injEq, Sum.inl.injEq, Sum.inr.injEq, Prod.mk.injEq, eq_self, reduceCtorEq, imp_self, implies_true, Nat.zero_add, Nat.add_zero, Nat.zero_le, Int.reduceEq, Int.reduceLT, Int.reduceLE, Int.reduceNeg, not_true, not_false_iff, false_imp_iff, true_imp_iff, forall_const, or_self, or_false, false_or, and_false, false_and, ↓reduceIte, z_0, z_1, z_f1, z_f2, z_f3, Int.reduceToNat, Int.reduceAdd, ct_X4_firstDraft, mi_X4_firstDraft]
      refine ⟨fun _ => ?_, fun q => absurd q (by omega)⟩
      refine st_X4_firstDraft [] 30 ?_
      simp only [sy, xisC, sxI, xgI, xgL, xgR, xent, xargs0, p1i, p2i, p1l, p2l, pli, p1r, pir, piir, plir, pvr, pdup, pdup2, pret, xjmp, xcon, xfd, xcl_, xcall, xbr, xsw, xtsw, xst1, xst2, xkill, xpush, xcat, xcl, xar, xkd, xrf, xmask, mR, mL, List.getElem?_cons_zero, List.getElem?_cons_succ, List.lookup_nil, List.lookup_cons, Nat.reduceAdd, Nat.reduceSub, Nat.reduceLeDiff, Nat.reduceEqDiff, Nat.reduceBEq, List.length_cons, List.length_nil, List.replicate, List.append_nil, List.nil_append, List.cons_append, List.set_cons_zero, List.set_cons_succ, List.take_succ_cons, List.take_zero, List.drop_succ_cons, List.drop_zero, List.reverse_cons, List.reverse_nil, List.map_cons, List.map_nil, List.sum_cons, List.sum_nil, decide_true, decide_false, and_self, and_true, true_and, true_or, or_true, Fin.isValue, Fin.val_zero, Fin.val_one, Fin.val_two, Fin.reduceFinMk, Nat.reduceMod, Option.some.injEq, Sum.inl.injEq, Sum.inr.injEq, Prod.mk.injEq, eq_self, reduceCtorEq, imp_self, implies_true, Nat.zero_add, Nat.add_zero, Nat.zero_le, Int.reduceEq, Int.reduceLT, Int.reduceLE, Int.reduceNeg, not_true, not_false_iff, false_imp_iff, true_imp_iff, forall_const, or_self, or_false, false_or, and_false, false_and, ↓reduceIte, z_0, z_1, z_f1, z_f2, z_f3, Int.reduceToNat, Int.reduceAdd, ct_X4_firstDraft, mi_X4_firstDraft]
      exact fin
    | succ m ih =>
      intro k M1 hk h1 hf
      have w : w32 ((k : Int) + 1) = (k + 1 : Nat) := by rw [w32_id (by omega) (by omega)]; rfl
      have nx := ih (k + 1) (xup M1 26 0 k 0) (by omega) (fun j => by
        rw [xup_s]
        by_cases q : j = k
        · rw [if_pos q, if_pos (by omega)]
        · rw [if_neg q, h1 j]
          by_cases q2 : j < k
          · rw [if_pos q2, if_pos (by omega)]
          · rw [if_neg q2, if_neg (by omega)]) (frD_26 hf)
      refine st_X4_firstDraft [(5, [true, true]), (12, [true, true])] 30 ?_
      simp only [sy, xisC, sxI, xgI, xgL, xgR, xent, xargs0, p1i, p2i, p1l, p2l, pli, p1r, pir, piir, plir, pvr, pdup, pdup2, pret, xjmp, xcon, xfd, xcl_, xcall, xbr, xsw, xtsw, xst1, xst2, xkill, xpush, xcat, xcl, xar, xkd, xrf, xmask, mR, mL, List.getElem?_cons_zero, List.getElem?_cons_succ, List.lookup_nil, List.lookup_cons, Nat.reduceAdd, Nat.reduceSub, Nat.reduceLeDiff, Nat.reduceEqDiff, Nat.reduceBEq, List.length_cons, List.length_nil, List.replicate, List.append_nil, List.nil_append, List.cons_append, List.set_cons_zero, List.set_cons_succ, List.take_succ_cons, List.take_zero, List.drop_succ_cons, List.drop_zero, List.reverse_cons, List.reverse_nil, List.map_cons, List.map_nil, List.sum_cons, List.sum_nil, decide_true, decide_false, and_self, and_true, true_and, true_or, or_true, Fin.isValue, Fin.val_zero, Fin.val_one, Fin.val_two, Fin.reduceFinMk, Nat.reduceMod, Option.some.injEq, Sum.inl.injEq, Sum.inr.injEq, Prod.mk.injEq, eq_self, reduceCtorEq, imp_self, implies_true, Nat.zero_add, Nat.add_zero, Nat.zero_le, Int.reduceEq, Int.reduceLT, Int.reduceLE, Int.reduceNeg, not_true, not_false_iff, false_imp_iff, true_imp_iff, forall_const, or_self, or_false, false_or, and_false, false_and, ↓reduceIte, z_0, z_1, z_f1, z_f2, z_f3, Int.reduceToNat, Int.reduceAdd, ct_X4_firstDraft, mi_X4_firstDraft]
      refine ⟨fun q => absurd q (by omega), fun _ => ?_⟩
      refine st_X4_firstDraft [(2, [true, true])] 30 ?_
      simp only [sy, xisC, sxI, xgI, xgL, xgR, xent, xargs0, p1i, p2i, p1l, p2l, pli, p1r, pir, piir, plir, pvr, pdup, pdup2, pret, xjmp, xcon, xfd, xcl_, xcall, xbr, xsw, xtsw, xst1, xst2, xkill, xpush, xcat, xcl, xar, xkd, xrf, xmask, mR, mL, List.getElem?_cons_zero, List.getElem?_cons_succ, List.lookup_nil, List.lookup_cons, Nat.reduceAdd, Nat.reduceSub, Nat.reduceLeDiff, Nat.reduceEqDiff, Nat.reduceBEq, List.length_cons, List.length_nil, List.replicate, List.append_nil, List.nil_append, List.cons_append, List.set_cons_zero, List.set_cons_succ, List.take_succ_cons, List.take_zero, List.drop_succ_cons, List.drop_zero, List.reverse_cons, List.reverse_nil, List.map_cons, List.map_nil, List.sum_cons, List.sum_nil, decide_true, decide_false, and_self, and_true, true_and, true_or, or_true, Fin.isValue, Fin.val_zero, Fin.val_one, Fin.val_two, Fin.reduceFinMk, Nat.reduceMod, Option.some.injEq, Sum.inl.injEq, Sum.inr.injEq, Prod.mk.injEq, eq_self, reduceCtorEq, imp_self, implies_true, Nat.zero_add, Nat.add_zero, Nat.zero_le, Int.reduceEq, Int.reduceLT, Int.reduceLE, Int.reduceNeg, not_true, not_false_iff, false_imp_iff, true_imp_iff, forall_const, or_self, or_false, false_or, and_false, false_and, ↓reduceIte, z_0, z_1, z_f1, z_f2, z_f3, Int.reduceToNat, Int.reduceAdd, ct_X4_firstDraft, mi_X4_firstDraft, w, Int.toNat_natCast]
      exact ⟨by omega, nx⟩
  refine in_X4_firstDraft (Nat.le_of_ble_eq_true rfl) ?_
  refine st_X4_firstDraft [(2, [true, true])] 30 ?_
  simp only [sy, xisC, sxI, xgI, xgL, xgR, xent, xargs0, p1i, p2i, p1l, p2l, pli, p1r, pir, piir, plir, pvr, pdup, pdup2, pret, xjmp, xcon, xfd, xcl_, xcall, xbr, xsw, xtsw, xst1, xst2, xkill, xpush, xcat, xcl, xar, xkd, xrf, xmask, mR, mL, List.getElem?_cons_zero, List.getElem?_cons_succ, List.lookup_nil, List.lookup_cons, Nat.reduceAdd, Nat.reduceSub, Nat.reduceLeDiff, Nat.reduceEqDiff, Nat.reduceBEq, List.length_cons, List.length_nil, List.replicate, List.append_nil, List.nil_append, List.cons_append, List.set_cons_zero, List.set_cons_succ, List.take_succ_cons, List.take_zero, List.drop_succ_cons, List.drop_zero, List.reverse_cons, List.reverse_nil, List.map_cons, List.map_nil, List.sum_cons, List.sum_nil, decide_true, decide_false, and_self, and_true, true_and, true_or, or_true, Fin.isValue, Fin.val_zero, Fin.val_one, Fin.val_two, Fin.reduceFinMk, Nat.reduceMod, Option.some.injEq, Sum.inl.injEq, Sum.inr.injEq, Prod.mk.injEq, eq_self, reduceCtorEq, imp_self, implies_true, Nat.zero_add, Nat.add_zero, Nat.zero_le, Int.reduceEq, Int.reduceLT, Int.reduceLE, Int.reduceNeg, not_true, not_false_iff, false_imp_iff, true_imp_iff, forall_const, or_self, or_false, false_or, and_false, false_and, ↓reduceIte, z_0, z_1, z_f1, z_f2, z_f3, Int.reduceToNat, Int.reduceAdd, ct_X4_firstDraft, mi_X4_firstDraft]
  exact loop 71 0 M (by omega) (fun j => by rw [if_neg (by omega)]) frD_rf
/-- what the model has behind its lines -/
def MR (R : (Int × Nat) × Nat × PS) (M M' : XM) : Prop := (R.1.1 = 0 → M' 22 0 16 = 0 ∧ M' 22 0 13 = R.1.2 ∧ PI R.2.2 ∧ M' 26 0 = R.2.2.D ∧ M' 27 0 = R.2.2.fm ∧ M' 22 0 5 = R.2.2.dd ∧ M' 22 0 7 = R.2.2.ft ∧ M' 22 0 9 = R.2.2.hi) ∧ (R.1.1 ≠ 0 → M' 22 0 16 = R.1.1 ∧ M' 22 0 17 = R.1.2) ∧ frL M M'
theorem frL_tr {M M1 M2 : XM} (h : frL M M1) (h' : frL M1 M2) : frL M M2 := ⟨fun t i a c d => (h'.1 t i a c d).trans (h.1 t i a c d), fun k a c d e g => (h'.2 k a c d e g).trans (h.2 k a c d e g)⟩
set_option maxRecDepth 100000 in
theorem m_lines {M : XM} {n : Nat} {b : Nat → Int} (hb : M 28 0 = b) (hn : n ≤ 160) (hr : ∀ j, j < n → 0 ≤ b j ∧ b j < 128) {K : Option XV → XM → Prop} : ∀ (f k : Nat) (s : PS) (M1 : XM), k + f = 161 → 2 * k ≤ s.p → s.p ≤ n → PI s → LD b n s.p M1 → M1 26 0 = s.D → M1 27 0 = s.fm → (M1 22 0 5 = s.dd ∧ M1 22 0 6 = s.dr ∧ M1 22 0 7 = s.ft ∧ M1 22 0 9 = s.hi) → frL M M1 →
    (∀ (z : Int) (M' : XM), MR (rn b n f k s) M M' → ((rn b n f k s).1.1 = 0 → z = (rn b n f k s).2.1) → J_X4_text K 22 [some (xR 22 0), some (xI z), none, none] [] M') → J_X4_text K 12 [some (xR 22 0), some (xI k), none, none] [] M1
  | 0, k, s, M1, hk, hkp, hp, _, _, _, _, _, _, _ => absurd hk (by omega)
  | f + 1, k, s, M1, hk, hkp, hp, hP, hL, hD, hF, hS, hf, hK => by
    have hb1 : M1 28 0 = b := by rw [hf.1 28 0 (by decide) (by decide) (by decide)]; exact hb
    have w : w32 ((k : Int) + 1) = (k + 1 : Nat) := by rw [w32_id (by omega) (by omega)]; rfl
    have rec' := m_lines hb hn hr (K := K) f (k + 1) (stp b n s)
    have hP' := hP
    obtain ⟨⟨a1, a2, a3, a4, a5, a6⟩, -⟩ := hP'
    have er : rn b n (f + 1) k s = if tF b n s.p ≠ 0 then ((1, tS b n s.p), k, s) else if tK b n s.p = 4 then ((0, tS b n s.p), k, s) else if (liF b n s.p s.dd s.D s.ft).1 ≠ 0 then (liF b n s.p s.dd s.D s.ft, k, s) else rn b n f (k + 1) (stp b n s) := rfl
    rw [er] at hK
    clear er
    obtain ⟨l1, l2, l3, l4, l5⟩ := id hL
    by_cases q1 : tF b n s.p = 0
    · rw [if_neg (fun a => a q1)] at hK
      rw [q1] at l3
      obtain ⟨x1, x2, x3⟩ := l4 q1
      have m0 := ms_0 q1
      by_cases q2 : tK b n s.p = 4
      · rw [if_pos q2] at hK
        have fin := hK k M1 ⟨fun _ => ⟨l3, l2, hP, hD, hF, hS.1, hS.2.2.1, hS.2.2.2⟩, fun z => absurd (show (0 : Int) = 0 from rfl) z, hf⟩ (fun _ => rfl)
        have g14 : M1 22 0 14 = 0 := by rw [x2]; exact m0.mpr q2
        clear hK rec'
        refine st_X4_text [(15, [true, true, false, false]), (22, [true, true, false, false])] 20 ?_
        simp only [sy, xisC, sxI, xgI, xgL, xgR, xent, xargs0, p1i, p2i, p1l, p2l, pli, p1r, pir, piir, plir, pvr, pdup, pdup2, pret, xjmp, xcon, xfd, xcl_, xcall, xbr, xsw, xtsw, xst1, xst2, xkill, xpush, xcat, xcl, xar, xkd, xrf, xmask, mR, mL, List.getElem?_cons_zero, List.getElem?_cons_succ, List.lookup_nil, List.lookup_cons, Nat.reduceAdd, Nat.reduceSub, Nat.reduceLeDiff, Nat.reduceEqDiff, Nat.reduceBEq, List.length_cons, List.length_nil, List.replicate, List.append_nil, List.nil_append, List.cons_append, List.set_cons_zero, List.set_cons_succ, List.take_succ_cons, List.take_zero, List.drop_succ_cons, List.drop_zero, List.reverse_cons, List.reverse_nil, List.map_cons, List.map_nil, List.sum_cons, List.sum_nil, decide_true, decide_false, and_self, and_true, true_and, true_or, or_true, Fin.isValue, Fin.val_zero, Fin.val_one, Fin.val_two, Fin.reduceFinMk, Nat.reduceMod, Option.some.injEq, Sum.inl.injEq, Sum.inr.injEq, Prod.mk.injEq, eq_self, reduceCtorEq, imp_self, implies_true, Nat.zero_add, Nat.add_zero, Nat.zero_le, Int.reduceEq, Int.reduceLT, Int.reduceLE, Int.reduceNeg, not_true, not_false_iff, false_imp_iff, true_imp_iff, forall_const, or_self, or_false, false_or, and_false, false_and, ↓reduceIte, z_0, z_1, z_f1, z_f2, z_f3, Int.reduceToNat, Int.reduceAdd, ct_X4_text, mi_X4_text, l3]
        refine st_X4_text [(22, [true, true, false, false])] 20 ?_
        simp only [sy, xisC, sxI, xgI, xgL, xgR, xent, xargs0, p1i, p2i, p1l, p2l, pli, p1r, pir, piir, plir, pvr, pdup, pdup2, pret, xjmp, xcon, xfd, xcl_, xcall, xbr, xsw, xtsw, xst1, xst2, xkill, xpush, xcat, xcl, xar, xkd, xrf, xmask, mR, mL, List.getElem?_cons_zero, List.getElem?_cons_succ, List.lookup_nil, List.lookup_cons, Nat.reduceAdd, Nat.reduceSub, Nat.reduceLeDiff, Nat.reduceEqDiff, Nat.reduceBEq, List.length_cons, List.length_nil, List.replicate, List.append_nil, List.nil_append, List.cons_append, List.set_cons_zero, List.set_cons_succ, List.take_succ_cons, List.take_zero, List.drop_succ_cons, List.drop_zero, List.reverse_cons, List.reverse_nil, List.map_cons, List.map_nil, List.sum_cons, List.sum_nil, decide_true, decide_false, and_self, and_true, true_and, true_or, or_true, Fin.isValue, Fin.val_zero, Fin.val_one, Fin.val_two, Fin.reduceFinMk, Nat.reduceMod, Option.some.injEq, Sum.inl.injEq, Sum.inr.injEq, Prod.mk.injEq, eq_self, reduceCtorEq, imp_self, implies_true, Nat.zero_add, Nat.add_zero, Nat.zero_le, Int.reduceEq, Int.reduceLT, Int.reduceLE, Int.reduceNeg, not_true, not_false_iff, false_imp_iff, true_imp_iff, forall_const, or_self, or_false, false_or, and_false, false_and, ↓reduceIte, z_0, z_1, z_f1, z_f2, z_f3, Int.reduceToNat, Int.reduceAdd, ct_X4_text, mi_X4_text, g14]
        exact fin
      · rw [if_neg q2] at hK
        have g14 : ¬ M1 22 0 14 = 0 := by rw [x2]; exact fun z => q2 (m0.mp z)
        have cl := m_readLine (K := fun r M3 => r = none ∧ (((liF b n s.p s.dd s.D s.ft).1 = 0 → LD b n (liP b n s.p) M3 ∧ M3 26 0 = liD b n s.p s.dd s.D ∧ M3 27 0 = liZ b n s.p s.fm ∧ M3 22 0 5 = liN b n s.p s.dd ∧ M3 22 0 6 = liR b n s.p s.dr ∧ M3 22 0 7 = liB b n s.p s.ft ∧ M3 22 0 9 = liH b n s.p s.hi) ∧ ((liF b n s.p s.dd s.D s.ft).1 ≠ 0 → M3 22 0 16 = (liF b n s.p s.dd s.D s.ft).1 ∧ M3 22 0 17 = (liF b n s.p s.dd s.D s.ft).2) ∧ frL M1 M3)) hb1 hn hr hp hL q1 hD hF hS.1 hS.2.1 hS.2.2.1 hS.2.2.2 a2 (by omega) a4 a3.1 (fun M3 h => ⟨rfl, h⟩)
        have tail : ∀ M3 : XM, (((liF b n s.p s.dd s.D s.ft).1 = 0 → LD b n (liP b n s.p) M3 ∧ M3 26 0 = liD b n s.p s.dd s.D ∧ M3 27 0 = liZ b n s.p s.fm ∧ M3 22 0 5 = liN b n s.p s.dd ∧ M3 22 0 6 = liR b n s.p s.dr ∧ M3 22 0 7 = liB b n s.p s.ft ∧ M3 22 0 9 = liH b n s.p s.hi) ∧ ((liF b n s.p s.dd s.D s.ft).1 ≠ 0 → M3 22 0 16 = (liF b n s.p s.dd s.D s.ft).1 ∧ M3 22 0 17 = (liF b n s.p s.dd s.D s.ft).2) ∧ frL M1 M3) → J_X4_text K 12 [some (xR 22 0), some (xI ((k + 1 : Nat) : Int)), none, none] [] M3 := by
          rintro M3 ⟨v1, v2, v3⟩
          have fx3 := frL_tr hf v3
          by_cases q3 : (liF b n s.p s.dd s.D s.ft).1 = 0
          · rw [if_neg (fun a => a q3)] at hK
            obtain ⟨y1, y2, y3, y4, y5, y6, y7⟩ := v1 q3
            obtain ⟨z1, z2⟩ := li_p hp q3
            exact rec' M3 (by omega) (by show 2 * (k + 1) ≤ liP b n s.p; omega) z2 (PI_stp hp hP q3) y1 y2 y3 ⟨y4, y5, y6, y7⟩ fx3 hK
          · rw [if_pos q3] at hK
            obtain ⟨y1, y2⟩ := v2 q3
            have g3 : ¬ M3 22 0 16 = 0 := by rw [y1]; exact q3
            have fin := hK ((k + 1 : Nat) : Int) M3 ⟨fun z => absurd z q3, fun _ => ⟨y1, y2⟩, fx3⟩ (fun z => absurd z q3)
            clear hK rec'
            refine st_X4_text [(15, [true, true, false, false]), (22, [true, true, false, false])] 20 ?_
            simp only [sy, xisC, sxI, xgI, xgL, xgR, xent, xargs0, p1i, p2i, p1l, p2l, pli, p1r, pir, piir, plir, pvr, pdup, pdup2, pret, xjmp, xcon, xfd, xcl_, xcall, xbr, xsw, xtsw, xst1, xst2, xkill, xpush, xcat, xcl, xar, xkd, xrf, xmask, mR, mL, List.getElem?_cons_zero, List.getElem?_cons_succ, List.lookup_nil, List.lookup_cons, Nat.reduceAdd, Nat.reduceSub, Nat.reduceLeDiff, Nat.reduceEqDiff, Nat.reduceBEq, List.length_cons, List.length_nil, List.replicate, List.append_nil, List.nil_append, List.cons_append, List.set_cons_zero, List.set_cons_succ, List.take_succ_cons, List.take_zero, List.drop_succ_cons, List.drop_zero, List.reverse_cons, List.reverse_nil, List.map_cons, List.map_nil, List.sum_cons, List.sum_nil, decide_true, decide_false, and_self, and_true, true_and, true_or, or_true, Fin.isValue, Fin.val_zero, Fin.val_one, Fin.val_two, Fin.reduceFinMk, Nat.reduceMod, Option.some.injEq, Sum.inl.injEq, Sum.inr.injEq, Prod.mk.injEq, eq_self, reduceCtorEq, imp_self, implies_true, Nat.zero_add, Nat.add_zero, Nat.zero_le, Int.reduceEq, Int.reduceLT, Int.reduceLE, Int.reduceNeg, not_true, not_false_iff, false_imp_iff, true_imp_iff, forall_const, or_self, or_false, false_or, and_false, false_and, ↓reduceIte, z_0, z_1, z_f1, z_f2, z_f3, Int.reduceToNat, Int.reduceAdd, ct_X4_text, mi_X4_text, g3]
            exact fin
        clear hK rec'
        refine st_X4_text [(15, [true, true, false, false]), (22, [true, true, false, false])] 20 ?_
        simp only [sy, xisC, sxI, xgI, xgL, xgR, xent, xargs0, p1i, p2i, p1l, p2l, pli, p1r, pir, piir, plir, pvr, pdup, pdup2, pret, xjmp, xcon, xfd, xcl_, xcall, xbr, xsw, xtsw, xst1, xst2, xkill, xpush, xcat, xcl, xar, xkd, xrf, xmask, mR, mL, List.getElem?_cons_zero, List.getElem?_cons_succ, List.lookup_nil, List.lookup_cons, Nat.reduceAdd, Nat.reduceSub, Nat.reduceLeDiff, Nat.reduceEqDiff, Nat.reduceBEq, List.length_cons, List.length_nil, List.replicate, List.append_nil, List.nil_append, List.cons_append, List.set_cons_zero, List.set_cons_succ, List.take_succ_cons, List.take_zero, List.drop_succ_cons, List.drop_zero, List.reverse_cons, List.reverse_nil, List.map_cons, List.map_nil, List.sum_cons, List.sum_nil, decide_true, decide_false, and_self, and_true, true_and, true_or, or_true, Fin.isValue, Fin.val_zero, Fin.val_one, Fin.val_two, Fin.reduceFinMk, Nat.reduceMod, Option.some.injEq, Sum.inl.injEq, Sum.inr.injEq, Prod.mk.injEq, eq_self, reduceCtorEq, imp_self, implies_true, Nat.zero_add, Nat.add_zero, Nat.zero_le, Int.reduceEq, Int.reduceLT, Int.reduceLE, Int.reduceNeg, not_true, not_false_iff, false_imp_iff, true_imp_iff, forall_const, or_self, or_false, false_or, and_false, false_and, ↓reduceIte, z_0, z_1, z_f1, z_f2, z_f3, Int.reduceToNat, Int.reduceAdd, ct_X4_text, mi_X4_text, l3]
        refine st_X4_text [(18, [true, true, false, false]), (22, [true, true, false, false])] 20 ?_
        simp only [sy, xisC, sxI, xgI, xgL, xgR, xent, xargs0, p1i, p2i, p1l, p2l, pli, p1r, pir, piir, plir, pvr, pdup, pdup2, pret, xjmp, xcon, xfd, xcl_, xcall, xbr, xsw, xtsw, xst1, xst2, xkill, xpush, xcat, xcl, xar, xkd, xrf, xmask, mR, mL, List.getElem?_cons_zero, List.getElem?_cons_succ, List.lookup_nil, List.lookup_cons, Nat.reduceAdd, Nat.reduceSub, Nat.reduceLeDiff, Nat.reduceEqDiff, Nat.reduceBEq, List.length_cons, List.length_nil, List.replicate, List.append_nil, List.nil_append, List.cons_append, List.set_cons_zero, List.set_cons_succ, List.take_succ_cons, List.take_zero, List.drop_succ_cons, List.drop_zero, List.reverse_cons, List.reverse_nil, List.map_cons, List.map_nil, List.sum_cons, List.sum_nil, decide_true, decide_false, and_self, and_true, true_and, true_or, or_true, Fin.isValue, Fin.val_zero, Fin.val_one, Fin.val_two, Fin.reduceFinMk, Nat.reduceMod, Option.some.injEq, Sum.inl.injEq, Sum.inr.injEq, Prod.mk.injEq, eq_self, reduceCtorEq, imp_self, implies_true, Nat.zero_add, Nat.add_zero, Nat.zero_le, Int.reduceEq, Int.reduceLT, Int.reduceLE, Int.reduceNeg, not_true, not_false_iff, false_imp_iff, true_imp_iff, forall_const, or_self, or_false, false_or, and_false, false_and, ↓reduceIte, z_0, z_1, z_f1, z_f2, z_f3, Int.reduceToNat, Int.reduceAdd, ct_X4_text, mi_X4_text, g14]
        refine st_X4_text [] 20 ?_
        simp only [sy, xisC, sxI, xgI, xgL, xgR, xent, xargs0, p1i, p2i, p1l, p2l, pli, p1r, pir, piir, plir, pvr, pdup, pdup2, pret, xjmp, xcon, xfd, xcl_, xcall, xbr, xsw, xtsw, xst1, xst2, xkill, xpush, xcat, xcl, xar, xkd, xrf, xmask, mR, mL, List.getElem?_cons_zero, List.getElem?_cons_succ, List.lookup_nil, List.lookup_cons, Nat.reduceAdd, Nat.reduceSub, Nat.reduceLeDiff, Nat.reduceEqDiff, Nat.reduceBEq, List.length_cons, List.length_nil, List.replicate, List.append_nil, List.nil_append, List.cons_append, List.set_cons_zero, List.set_cons_succ, List.take_succ_cons, List.take_zero, List.drop_succ_cons, List.drop_zero, List.reverse_cons, List.reverse_nil, List.map_cons, List.map_nil, List.sum_cons, List.sum_nil, decide_true, decide_false, and_self, and_true, true_and, true_or, or_true, Fin.isValue, Fin.val_zero, Fin.val_one, Fin.val_two, Fin.reduceFinMk, Nat.reduceMod, Option.some.injEq, Sum.inl.injEq, Sum.inr.injEq, Prod.mk.injEq, eq_self, reduceCtorEq, imp_self, implies_true, Nat.zero_add, Nat.add_zero, Nat.zero_le, Int.reduceEq, Int.reduceLT, Int.reduceLE, Int.reduceNeg, not_true, not_false_iff, false_imp_iff, true_imp_iff, forall_const, or_self, or_false, false_or, and_false, false_and, ↓reduceIte, z_0, z_1, z_f1, z_f2, z_f3, Int.reduceToNat, Int.reduceAdd, ct_X4_text, mi_X4_text]
        refine CW.mono (cl) ?_
        clear cl
        rintro _ M3 ⟨rfl, hx⟩
        have go := tail M3 hx
        clear tail hx
        refine st_X4_text [(12, [true, true, false, false])] 20 ?_
        simp only [sy, xisC, sxI, xgI, xgL, xgR, xent, xargs0, p1i, p2i, p1l, p2l, pli, p1r, pir, piir, plir, pvr, pdup, pdup2, pret, xjmp, xcon, xfd, xcl_, xcall, xbr, xsw, xtsw, xst1, xst2, xkill, xpush, xcat, xcl, xar, xkd, xrf, xmask, mR, mL, List.getElem?_cons_zero, List.getElem?_cons_succ, List.lookup_nil, List.lookup_cons, Nat.reduceAdd, Nat.reduceSub, Nat.reduceLeDiff, Nat.reduceEqDiff, Nat.reduceBEq, List.length_cons, List.length_nil, List.replicate, List.append_nil, List.nil_append, List.cons_append, List.set_cons_zero, List.set_cons_succ, List.take_succ_cons, List.take_zero, List.drop_succ_cons, List.drop_zero, List.reverse_cons, List.reverse_nil, List.map_cons, List.map_nil, List.sum_cons, List.sum_nil, decide_true, decide_false, and_self, and_true, true_and, true_or, or_true, Fin.isValue, Fin.val_zero, Fin.val_one, Fin.val_two, Fin.reduceFinMk, Nat.reduceMod, Option.some.injEq, Sum.inl.injEq, Sum.inr.injEq, Prod.mk.injEq, eq_self, reduceCtorEq, imp_self, implies_true, Nat.zero_add, Nat.add_zero, Nat.zero_le, Int.reduceEq, Int.reduceLT, Int.reduceLE, Int.reduceNeg, not_true, not_false_iff, false_imp_iff, true_imp_iff, forall_const, or_self, or_false, false_or, and_false, false_and, ↓reduceIte, z_0, z_1, z_f1, z_f2, z_f3, Int.reduceToNat, Int.reduceAdd, ct_X4_text, mi_X4_text, w]
        exact go
    · rw [if_pos q1] at hK
      have e1 : tF b n s.p = 1 := (tF_01).resolve_left q1
      have g3 : ¬ M1 22 0 16 = 0 := by rw [l3]; exact q1
      have fin := hK k M1 ⟨fun z => absurd (show (1 : Int) = 0 from z) (by decide), fun _ => ⟨l3.trans e1, l5 q1⟩, hf⟩ (fun z => absurd (show (1 : Int) = 0 from z) (by decide))
      clear hK rec'
      refine st_X4_text [(15, [true, true, false, false]), (22, [true, true, false, false])] 20 ?_
      simp only [sy, xisC, sxI, xgI, xgL, xgR, xent, xargs0, p1i, p2i, p1l, p2l, pli, p1r, pir, piir, plir, pvr, pdup, pdup2, pret, xjmp, xcon, xfd, xcl_, xcall, xbr, xsw, xtsw, xst1, xst2, xkill, xpush, xcat, xcl, xar, xkd, xrf, xmask, mR, mL, List.getElem?_cons_zero, List.getElem?_cons_succ, List.lookup_nil, List.lookup_cons, Nat.reduceAdd, Nat.reduceSub, Nat.reduceLeDiff, Nat.reduceEqDiff, Nat.reduceBEq, List.length_cons, List.length_nil, List.replicate, List.append_nil, List.nil_append, List.cons_append, List.set_cons_zero, List.set_cons_succ, List.take_succ_cons, List.take_zero, List.drop_succ_cons, List.drop_zero, List.reverse_cons, List.reverse_nil, List.map_cons, List.map_nil, List.sum_cons, List.sum_nil, decide_true, decide_false, and_self, and_true, true_and, true_or, or_true, Fin.isValue, Fin.val_zero, Fin.val_one, Fin.val_two, Fin.reduceFinMk, Nat.reduceMod, Option.some.injEq, Sum.inl.injEq, Sum.inr.injEq, Prod.mk.injEq, eq_self, reduceCtorEq, imp_self, implies_true, Nat.zero_add, Nat.add_zero, Nat.zero_le, Int.reduceEq, Int.reduceLT, Int.reduceLE, Int.reduceNeg, not_true, not_false_iff, false_imp_iff, true_imp_iff, forall_const, or_self, or_false, false_or, and_false, false_and, ↓reduceIte, z_0, z_1, z_f1, z_f2, z_f3, Int.reduceToNat, Int.reduceAdd, ct_X4_text, mi_X4_text, g3]
      exact fin

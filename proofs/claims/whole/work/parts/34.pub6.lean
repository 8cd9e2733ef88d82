/-! ===== up, faithless; dig ===== -/
theorem acc_tab : ∀ d : Nat, d < 4 → ∀ u : Nat, u < 2 ^ d → ∀ b : Nat, b < 2 → (Int32.ofInt (u : Int) ||| Int32.ofInt ((Int32.ofInt (b : Int) <<< (Int32.ofInt (d : Int) &&& 31)).toInt)).toInt = ((u + b * 2 ^ d : Nat) : Int) := by decide +kernel
theorem acc_or {d : Nat} (hd : d < 4) {a b : Int} (ha : 0 ≤ a) (ha2 : a < 2 ^ d) (hb : b = 0 ∨ b = 1) : bOr a (bShl b d) = a + b * 2 ^ d := by
  obtain ⟨u, rfl⟩ := Int.eq_ofNat_of_zero_le ha
  obtain ⟨v, rfl⟩ := Int.eq_ofNat_of_zero_le (show 0 ≤ b by omega)
  have e1 : ((2 ^ d : Nat) : Int) = (2 : Int) ^ d := by simp
  have := acc_tab d hd u (by rw [← e1] at ha2; omega) v (by omega)
  rw [bOr_def, bShl_def, this]
  simp
/-- the sum of bits g e below k -/
def sumB (g : Nat → Int) : Nat → Int
  | 0 => 0
  | k + 1 => sumB g k + g k * 2 ^ k
theorem sumB_rng {g : Nat → Int} (n : Nat) (hg : ∀ e, e < n → g e = 0 ∨ g e = 1) : ∀ k, k ≤ n → 0 ≤ sumB g k ∧ sumB g k < 2 ^ k
  | 0, _ => by simp [sumB]
  | k + 1, hk => by
    have ih := sumB_rng n hg k (by omega)
    have h2 : (2 : Int) ^ (k + 1) = 2 ^ k * 2 := Int.pow_succ 2 k
    unfold sumB
    rcases hg k (by omega) with q | q <;> rw [q] <;> omega
theorem upm_sum {nd : Nat} {N : Nat → Int} (h4 : nd ≤ 4) : sumB (fun e => N (6 * e + 5)) nd = upm nd N := by
  have e : nd = 0 ∨ nd = 1 ∨ nd = 2 ∨ nd = 3 ∨ nd = 4 := by omega
  rcases e with rfl | rfl | rfl | rfl | rfl <;> simp [sumB, upm] <;> omega
set_option maxRecDepth 100000 in
theorem c_up {M : XM} {nd : Nat} {N : Nat → Int} (h : M 24 0 = N) (hn : M 22 0 3 = nd) (hok : okN nd N) : CW mi_X4_up [xR 22 0] M (pI M (upm nd N)) := by
  have h4 := hok.1
  have hb : ∀ e, e < nd → N (6 * e + 5) = 0 ∨ N (6 * e + 5) = 1 := fun e he => (hok.2.1 e he).2.2.2.2.2
  have hr := sumB_rng (g := fun e => N (6 * e + 5)) nd hb
  have loop : ∀ (n k : Nat), k + n = nd → J_X4_up (pI M (upm nd N)) 4 [some (xR 22 0), some (xI (sumB (fun e => N (6 * e + 5)) k)), some (xI k)] [] M := by
    intro n
    induction n with
    | zero =>
      intro k hk
      have e : k = nd := by omega
      subst e
      refine st_X4_up [] 10 ?_
      simp only [sy, xisC, sxI, xgI, xgL, xgR, xent, xargs0, p1i, p2i, p1l, p2l, pli, p1r, pir, piir, plir, pvr, pdup, pdup2, pret, xjmp, xcon, xfd, xcl_, xcall, xbr, xsw, xtsw, xst1, xst2, xkill, xpush, xcat, xcl, xar, xkd, xrf, xmask, mR, mL, List.getElem?_cons_zero, List.getElem?_cons_succ, List.lookup_nil, List.lookup_cons, Nat.reduceAdd, Nat.reduceSub, Nat.reduceLeDiff, Nat.reduceEqDiff, Nat.reduceBEq, List.length_cons, List.length_nil, List.replicate, List.append_nil, List.nil_append, List.cons_append, List.set_cons_zero, List.set_cons_succ, List.take_succ_cons, List.take_zero, List.drop_succ_cons, List.drop_zero, List.reverse_cons, List.reverse_nil, List.map_cons, List.map_nil, List.sum_cons, List.sum_nil, decide_true, decide_false, and_self, and_true, true_and, true_or, or_true, Fin.isValue, Fin.val_zero, Fin.val_one, Fin.val_two, Fin.reduceFinMk, Nat.reduceMod, Option.some.injEq, Sum.inl.injEq, Sum.inr.injEq, Prod.mk.injEq, eq_self, reduceCtorEq, imp_self, implies_true, Nat.zero_add, Nat.add_zero, Nat.zero_le, Int.reduceEq, Int.reduceLT, Int.reduceLE, Int.reduceNeg, not_true, not_false_iff, false_imp_iff, true_imp_iff, forall_const, or_self, or_false, false_or, and_false, false_and, ↓reduceIte, z_0, z_1, z_f1, z_f2, z_f3, Int.reduceToNat, Int.reduceAdd, ct_X4_up, mi_X4_up, pI, hn]
      exact ⟨fun _ => upm_sum h4, fun q => absurd q (by omega)⟩
    | succ n ih =>
      intro k hk
      have i := ih (k + 1) (by omega)
      have hrk := hr k (by omega)
      have hbk := hb k (by omega)
      have es : sumB (fun e => N (6 * e + 5)) (k + 1) = sumB (fun e => N (6 * e + 5)) k + N (6 * k + 5) * 2 ^ k := rfl
      have ea := acc_or (show k < 4 by omega) hrk.1 hrk.2 hbk
      rw [← es] at ea
      generalize sumB (fun e => N (6 * e + 5)) (k + 1) = s1 at i ea
      generalize sumB (fun e => N (6 * e + 5)) k = s0 at ea
      refine st_X4_up [] 12 ?_
      simp only [sy, xisC, sxI, xgI, xgL, xgR, xent, xargs0, p1i, p2i, p1l, p2l, pli, p1r, pir, piir, plir, pvr, pdup, pdup2, pret, xjmp, xcon, xfd, xcl_, xcall, xbr, xsw, xtsw, xst1, xst2, xkill, xpush, xcat, xcl, xar, xkd, xrf, xmask, mR, mL, List.getElem?_cons_zero, List.getElem?_cons_succ, List.lookup_nil, List.lookup_cons, Nat.reduceAdd, Nat.reduceSub, Nat.reduceLeDiff, Nat.reduceEqDiff, Nat.reduceBEq, List.length_cons, List.length_nil, List.replicate, List.append_nil, List.nil_append, List.cons_append, List.set_cons_zero, List.set_cons_succ, List.take_succ_cons, List.take_zero, List.drop_succ_cons, List.drop_zero, List.reverse_cons, List.reverse_nil, List.map_cons, List.map_nil, List.sum_cons, List.sum_nil, decide_true, decide_false, and_self, and_true, true_and, true_or, or_true, Fin.isValue, Fin.val_zero, Fin.val_one, Fin.val_two, Fin.reduceFinMk, Nat.reduceMod, Option.some.injEq, Sum.inl.injEq, Sum.inr.injEq, Prod.mk.injEq, eq_self, reduceCtorEq, imp_self, implies_true, Nat.zero_add, Nat.add_zero, Nat.zero_le, Int.reduceEq, Int.reduceLT, Int.reduceLE, Int.reduceNeg, not_true, not_false_iff, false_imp_iff, true_imp_iff, forall_const, or_self, or_false, false_or, and_false, false_and, ↓reduceIte, z_0, z_1, z_f1, z_f2, z_f3, Int.reduceToNat, Int.reduceAdd, ct_X4_up, mi_X4_up, hn]
      refine ⟨fun q => absurd q (by omega), fun _ => ?_⟩
      refine CW.mono (c_of M k 5 5 rfl (by omega)) ?_
      rintro _ M1 ⟨rfl, hM1⟩; rw [hM1]; clear hM1 M1
      rw [h]
      refine st_X4_up [] 8 ?_
      simp only [sy, xisC, sxI, xgI, xgL, xgR, xent, xargs0, p1i, p2i, p1l, p2l, pli, p1r, pir, piir, plir, pvr, pdup, pdup2, pret, xjmp, xcon, xfd, xcl_, xcall, xbr, xsw, xtsw, xst1, xst2, xkill, xpush, xcat, xcl, xar, xkd, xrf, xmask, mR, mL, List.getElem?_cons_zero, List.getElem?_cons_succ, List.lookup_nil, List.lookup_cons, Nat.reduceAdd, Nat.reduceSub, Nat.reduceLeDiff, Nat.reduceEqDiff, Nat.reduceBEq, List.length_cons, List.length_nil, List.replicate, List.append_nil, List.nil_append, List.cons_append, List.set_cons_zero, List.set_cons_succ, List.take_succ_cons, List.take_zero, List.drop_succ_cons, List.drop_zero, List.reverse_cons, List.reverse_nil, List.map_cons, List.map_nil, List.sum_cons, List.sum_nil, decide_true, decide_false, and_self, and_true, true_and, true_or, or_true, Fin.isValue, Fin.val_zero, Fin.val_one, Fin.val_two, Fin.reduceFinMk, Nat.reduceMod, Option.some.injEq, Sum.inl.injEq, Sum.inr.injEq, Prod.mk.injEq, eq_self, reduceCtorEq, imp_self, implies_true, Nat.zero_add, Nat.add_zero, Nat.zero_le, Int.reduceEq, Int.reduceLT, Int.reduceLE, Int.reduceNeg, not_true, not_false_iff, false_imp_iff, true_imp_iff, forall_const, or_self, or_false, false_or, and_false, false_and, ↓reduceIte, z_0, z_1, z_f1, z_f2, z_f3, Int.reduceToNat, Int.reduceAdd, ct_X4_up, mi_X4_up]
      refine st_X4_up [] 8 ?_
      simp only [sy, xisC, sxI, xgI, xgL, xgR, xent, xargs0, p1i, p2i, p1l, p2l, pli, p1r, pir, piir, plir, pvr, pdup, pdup2, pret, xjmp, xcon, xfd, xcl_, xcall, xbr, xsw, xtsw, xst1, xst2, xkill, xpush, xcat, xcl, xar, xkd, xrf, xmask, mR, mL, List.getElem?_cons_zero, List.getElem?_cons_succ, List.lookup_nil, List.lookup_cons, Nat.reduceAdd, Nat.reduceSub, Nat.reduceLeDiff, Nat.reduceEqDiff, Nat.reduceBEq, List.length_cons, List.length_nil, List.replicate, List.append_nil, List.nil_append, List.cons_append, List.set_cons_zero, List.set_cons_succ, List.take_succ_cons, List.take_zero, List.drop_succ_cons, List.drop_zero, List.reverse_cons, List.reverse_nil, List.map_cons, List.map_nil, List.sum_cons, List.sum_nil, decide_true, decide_false, and_self, and_true, true_and, true_or, or_true, Fin.isValue, Fin.val_zero, Fin.val_one, Fin.val_two, Fin.reduceFinMk, Nat.reduceMod, Option.some.injEq, Sum.inl.injEq, Sum.inr.injEq, Prod.mk.injEq, eq_self, reduceCtorEq, imp_self, implies_true, Nat.zero_add, Nat.add_zero, Nat.zero_le, Int.reduceEq, Int.reduceLT, Int.reduceLE, Int.reduceNeg, not_true, not_false_iff, false_imp_iff, true_imp_iff, forall_const, or_self, or_false, false_or, and_false, false_and, ↓reduceIte, z_0, z_1, z_f1, z_f2, z_f3, Int.reduceToNat, Int.reduceAdd, ct_X4_up, mi_X4_up]
      rw [ea]
      refine st_X4_up [(4, [true, true, true])] 8 ?_
      simp only [sy, xisC, sxI, xgI, xgL, xgR, xent, xargs0, p1i, p2i, p1l, p2l, pli, p1r, pir, piir, plir, pvr, pdup, pdup2, pret, xjmp, xcon, xfd, xcl_, xcall, xbr, xsw, xtsw, xst1, xst2, xkill, xpush, xcat, xcl, xar, xkd, xrf, xmask, mR, mL, List.getElem?_cons_zero, List.getElem?_cons_succ, List.lookup_nil, List.lookup_cons, Nat.reduceAdd, Nat.reduceSub, Nat.reduceLeDiff, Nat.reduceEqDiff, Nat.reduceBEq, List.length_cons, List.length_nil, List.replicate, List.append_nil, List.nil_append, List.cons_append, List.set_cons_zero, List.set_cons_succ, List.take_succ_cons, List.take_zero, List.drop_succ_cons, List.drop_zero, List.reverse_cons, List.reverse_nil, List.map_cons, List.map_nil, List.sum_cons, List.sum_nil, decide_true, decide_false, and_self, and_true, true_and, true_or, or_true, Fin.isValue, Fin.val_zero, Fin.val_one, Fin.val_two, Fin.reduceFinMk, Nat.reduceMod, Option.some.injEq, Sum.inl.injEq, Sum.inr.injEq, Prod.mk.injEq, eq_self, reduceCtorEq, imp_self, implies_true, Nat.zero_add, Nat.add_zero, Nat.zero_le, Int.reduceEq, Int.reduceLT, Int.reduceLE, Int.reduceNeg, not_true, not_false_iff, false_imp_iff, true_imp_iff, forall_const, or_self, or_false, false_or, and_false, false_and, ↓reduceIte, z_0, z_1, z_f1, z_f2, z_f3, Int.reduceToNat, Int.reduceAdd, ct_X4_up, mi_X4_up]
      rw [w32_id (by omega) (by omega)]
      exact i
  refine in_X4_up (Nat.le_of_ble_eq_true rfl) ?_
  refine st_X4_up [(4, [true, true, true])] 8 ?_
  simp only [sy, xisC, sxI, xgI, xgL, xgR, xent, xargs0, p1i, p2i, p1l, p2l, pli, p1r, pir, piir, plir, pvr, pdup, pdup2, pret, xjmp, xcon, xfd, xcl_, xcall, xbr, xsw, xtsw, xst1, xst2, xkill, xpush, xcat, xcl, xar, xkd, xrf, xmask, mR, mL, List.getElem?_cons_zero, List.getElem?_cons_succ, List.lookup_nil, List.lookup_cons, Nat.reduceAdd, Nat.reduceSub, Nat.reduceLeDiff, Nat.reduceEqDiff, Nat.reduceBEq, List.length_cons, List.length_nil, List.replicate, List.append_nil, List.nil_append, List.cons_append, List.set_cons_zero, List.set_cons_succ, List.take_succ_cons, List.take_zero, List.drop_succ_cons, List.drop_zero, List.reverse_cons, List.reverse_nil, List.map_cons, List.map_nil, List.sum_cons, List.sum_nil, decide_true, decide_false, and_self, and_true, true_and, true_or, or_true, Fin.isValue, Fin.val_zero, Fin.val_one, Fin.val_two, Fin.reduceFinMk, Nat.reduceMod, Option.some.injEq, Sum.inl.injEq, Sum.inr.injEq, Prod.mk.injEq, eq_self, reduceCtorEq, imp_self, implies_true, Nat.zero_add, Nat.add_zero, Nat.zero_le, Int.reduceEq, Int.reduceLT, Int.reduceLE, Int.reduceNeg, not_true, not_false_iff, false_imp_iff, true_imp_iff, forall_const, or_self, or_false, false_or, and_false, false_and, ↓reduceIte, z_0, z_1, z_f1, z_f2, z_f3, Int.reduceToNat, Int.reduceAdd, ct_X4_up, mi_X4_up]
  exact loop nd 0 (by omega)
theorem digs_cg {nd : Nat} {w w' : Nat → Bool} {N : Nat → Int} (hw : ∀ d, d < nd → w d = w' d) : ∀ n, n ≤ nd → digs nd w n N = digs nd w' n N
  | 0, _ => rfl
  | n + 1, hn => by
    unfold digs
    rw [digs_cg hw n (by omega), hw n (by omega)]
theorem feet_cg {nd : Nat} {w w' : Nat → Bool} {N : Nat → Int} (hw : ∀ d, d < nd → w d = w' d) : ∀ n, feetW nd w n N = feetW nd w' n N
  | 0 => rfl
  | n + 1 => by
    show footW nd w (feetW nd w n N) = footW nd w' (feetW nd w' n N)
    rw [feet_cg hw n]
    unfold footW
    rw [digs_cg hw nd (Nat.le_refl _)]
theorem wb15 : ∀ d, d < 4 → wb 15 d = true := by decide +kernel
theorem feet15 {nd : Nat} {N : Nat → Int} (h4 : nd ≤ 4) (n : Nat) : feetW nd (wb 15) n N = feetW nd al n N := feet_cg (fun d hd => wb15 d (by omega)) n
theorem foot15 {nd : Nat} {N : Nat → Int} (h4 : nd ≤ 4) : footW nd (wb 15) N = footW nd al N := feet15 h4 1
set_option maxRecDepth 100000 in
theorem c_settles (M : XM) : CW mi_X4_settles [xR 22 0] M (fun r M' => r = none ∧ (∀ k, M' 23 0 k = if k < 71 then M 24 0 k else M 23 0 k) ∧ (∀ t i, ¬ (t = 23 ∧ i = 0) → M' t i = M t i)) := by
  have loop : ∀ (n k : Nat) (M1 : XM), k + n = 71 → (∀ j, M1 23 0 j = if j < k then M 24 0 j else M 23 0 j) → (∀ t i, ¬ (t = 23 ∧ i = 0) → M1 t i = M t i) → J_X4_settles (fun r M' => r = none ∧ (∀ k, M' 23 0 k = if k < 71 then M 24 0 k else M 23 0 k) ∧ (∀ t i, ¬ (t = 23 ∧ i = 0) → M' t i = M t i)) 2 [some (xR 22 0), some (xI k)] [] M1 := by
    intro n
    induction n with
    | zero =>
      intro k M1 hk h1 hf1
      have e : k = 71 := by omega
      subst e
      refine st_X4_settles [] 8 ?_
      simp only [sy, xisC, sxI, xgI, xgL, xgR, xent, xargs0, p1i, p2i, p1l, p2l, pli, p1r, pir, piir, plir, pvr, pdup, pdup2, pret, xjmp, xcon, xfd, xcl_, xcall, xbr, xsw, xtsw, xst1, xst2, xkill, xpush, xcat, xcl, xar, xkd, xrf, xmask, mR, mL, List.getElem?_cons_zero, List.getElem?_cons_succ, List.lookup_nil, List.lookup_cons, Nat.reduceAdd, Nat.reduceSub, Nat.reduceLeDiff, Nat.reduceEqDiff, Nat.reduceBEq, List.length_cons, List.length_nil, List.replicate, List.append_nil, List.nil_append, List.cons_append, List.set_cons_zero, List.set_cons_succ, List.take_succ_cons, List.take_zero, List.drop_succ_cons, List.drop_zero, List.reverse_cons, List.reverse_nil, List.map_cons, List.map_nil, List.sum_cons, List.sum_nil, decide_true, decide_false, and_self, and_true, true_and, true_or, or_true, Fin.isValue, Fin.val_zero, Fin.val_one, Fin.val_two, Fin.reduceFinMk, Nat.reduceMod, Option.some.injEq, Sum.inl.injEq, Sum.inr.injEq, Prod.mk.injEq, eq_self, reduceCtorEq, imp_self, implies_true, Nat.zero_add, Nat.add_zero, Nat.zero_le, Int.reduceEq, Int.reduceLT, Int.reduceLE, Int.reduceNeg, not_true, not_false_iff, false_imp_iff, true_imp_iff, forall_const, or_self, or_false, false_or, and_false, false_and, ↓reduceIte, z_0, z_1, z_f1, z_f2, z_f3, Int.reduceToNat, Int.reduceAdd, ct_X4_settles, mi_X4_settles]
      exact ⟨fun _ => ⟨h1, hf1⟩, fun q => absurd q (by omega)⟩
    | succ n ih =>
      intro k M1 hk h1 hf1
      have w : w32 ((k : Int) + 1) = (k + 1 : Nat) := by rw [w32_id (by omega) (by omega)]; rfl
      have f24 : M1 24 0 = M 24 0 := hf1 24 0 (by decide)
      refine st_X4_settles [(2, [true, true])] 20 ?_
      simp only [sy, xisC, sxI, xgI, xgL, xgR, xent, xargs0, p1i, p2i, p1l, p2l, pli, p1r, pir, piir, plir, pvr, pdup, pdup2, pret, xjmp, xcon, xfd, xcl_, xcall, xbr, xsw, xtsw, xst1, xst2, xkill, xpush, xcat, xcl, xar, xkd, xrf, xmask, mR, mL, List.getElem?_cons_zero, List.getElem?_cons_succ, List.lookup_nil, List.lookup_cons, Nat.reduceAdd, Nat.reduceSub, Nat.reduceLeDiff, Nat.reduceEqDiff, Nat.reduceBEq, List.length_cons, List.length_nil, List.replicate, List.append_nil, List.nil_append, List.cons_append, List.set_cons_zero, List.set_cons_succ, List.take_succ_cons, List.take_zero, List.drop_succ_cons, List.drop_zero, List.reverse_cons, List.reverse_nil, List.map_cons, List.map_nil, List.sum_cons, List.sum_nil, decide_true, decide_false, and_self, and_true, true_and, true_or, or_true, Fin.isValue, Fin.val_zero, Fin.val_one, Fin.val_two, Fin.reduceFinMk, Nat.reduceMod, Option.some.injEq, Sum.inl.injEq, Sum.inr.injEq, Prod.mk.injEq, eq_self, reduceCtorEq, imp_self, implies_true, Nat.zero_add, Nat.add_zero, Nat.zero_le, Int.reduceEq, Int.reduceLT, Int.reduceLE, Int.reduceNeg, not_true, not_false_iff, false_imp_iff, true_imp_iff, forall_const, or_self, or_false, false_or, and_false, false_and, ↓reduceIte, z_0, z_1, z_f1, z_f2, z_f3, Int.reduceToNat, Int.reduceAdd, ct_X4_settles, mi_X4_settles, Int.toNat_natCast, w, f24]
      refine ⟨fun q => absurd q (by omega), fun _ => ⟨by omega, by omega, ih (k + 1) _ (by omega) (fun j => ?_) (fun t i hn => ?_)⟩⟩
      · rw [xup_s, h1 j]
        by_cases hj : j = k
        · subst hj
          rw [if_pos rfl, if_pos (by omega)]
        · rw [if_neg hj]
          by_cases hl : j < k
          · rw [if_pos hl, if_pos (by omega)]
          · rw [if_neg hl, if_neg (by omega)]
      · by_cases ht : t = 23
        · subst ht
          rw [xup_i (fun q => hn ⟨rfl, q⟩)]
          exact hf1 _ _ hn
        · rw [xup_t ht]
          exact hf1 _ _ hn
  refine in_X4_settles (Nat.le_of_ble_eq_true rfl) ?_
  refine st_X4_settles [(2, [true, true])] 4 ?_
  simp only [sy, xisC, sxI, xgI, xgL, xgR, xent, xargs0, p1i, p2i, p1l, p2l, pli, p1r, pir, piir, plir, pvr, pdup, pdup2, pret, xjmp, xcon, xfd, xcl_, xcall, xbr, xsw, xtsw, xst1, xst2, xkill, xpush, xcat, xcl, xar, xkd, xrf, xmask, mR, mL, List.getElem?_cons_zero, List.getElem?_cons_succ, List.lookup_nil, List.lookup_cons, Nat.reduceAdd, Nat.reduceSub, Nat.reduceLeDiff, Nat.reduceEqDiff, Nat.reduceBEq, List.length_cons, List.length_nil, List.replicate, List.append_nil, List.nil_append, List.cons_append, List.set_cons_zero, List.set_cons_succ, List.take_succ_cons, List.take_zero, List.drop_succ_cons, List.drop_zero, List.reverse_cons, List.reverse_nil, List.map_cons, List.map_nil, List.sum_cons, List.sum_nil, decide_true, decide_false, and_self, and_true, true_and, true_or, or_true, Fin.isValue, Fin.val_zero, Fin.val_one, Fin.val_two, Fin.reduceFinMk, Nat.reduceMod, Option.some.injEq, Sum.inl.injEq, Sum.inr.injEq, Prod.mk.injEq, eq_self, reduceCtorEq, imp_self, implies_true, Nat.zero_add, Nat.add_zero, Nat.zero_le, Int.reduceEq, Int.reduceLT, Int.reduceLE, Int.reduceNeg, not_true, not_false_iff, false_imp_iff, true_imp_iff, forall_const, or_self, or_false, false_or, and_false, false_and, ↓reduceIte, z_0, z_1, z_f1, z_f2, z_f3, Int.reduceToNat, Int.reduceAdd, ct_X4_settles, mi_X4_settles]
  exact loop 71 0 M (by omega) (fun j => by rw [if_neg (by omega)]) (fun _ _ _ => rfl)
/-- the model's memory with another state -/
def setST (m : XM) (N : Nat → Int) : XM := fun t i k => if t = 23 ∧ i = 0 then (if k < 71 then N k else m 23 0 k) else m t i k
theorem sST_t {m : XM} {N : Nat → Int} {t : Nat} (h : t ≠ 23) : setST m N t = m t := by
  funext i k
  unfold setST
  rw [if_neg (fun q => h q.1)]
theorem sST_k {m : XM} {N : Nat → Int} {k : Nat} : setST m N 23 0 k = if k < 71 then N k else m 23 0 k := by
  unfold setST
  simp
theorem InvX_sST {X X' m : XM} {N : Nat → Int} (h : InvX X m) (hX : frG 0 X X') (hN : ∀ nd : Nat, m 22 0 3 = nd → okN nd N ∧ RG X' 0 nd N) (hR : rk (m 23 0) ≤ 8 → rk N ≤ 8) : InvX X' (setST m N) := by
  refine InvX_N h hX (fun t q => by rw [sST_t q]) (fun k q => by rw [sST_k, if_neg (by omega)]) (fun nd e _ _ => ?_) (fun q => by rw [rk_cg (N := N) (fun k a b => by rw [sST_k, if_pos (by omega)])]; exact hR q)
  obtain ⟨a, b⟩ := hN nd e
  have hk : ∀ k, k < 71 → setST m N 23 0 k = N k := fun k hk => by rw [sST_k, if_pos hk]
  exact ⟨okN_cg a hk, RG_cg a b hk⟩
theorem PM_sST {m M2 : XM} {N : Nat → Int} (h : ∀ k, M2 23 0 k = if k < 71 then N k else m 23 0 k) (hp : ∀ t, 22 ≤ t → t ≠ 23 → t ≠ 24 → M2 t 0 = m t 0) : PM (setST m N) M2 := by
  refine ⟨funext fun k => by rw [h, sST_k], ?_, ?_, ?_, ?_, ?_, ?_, ?_, ?_, ?_⟩
  · rw [sST_t (by decide)]; exact hp 25 (by decide) (by decide) (by decide)
  · rw [sST_t (by decide)]; exact hp 28 (by decide) (by decide) (by decide)
  · rw [sST_t (by decide)]; exact hp 33 (by decide) (by decide) (by decide)
  · rw [sST_t (by decide)]; exact hp 34 (by decide) (by decide) (by decide)
  · rw [sST_t (by decide)]; exact hp 35 (by decide) (by decide) (by decide)
  · rw [sST_t (by decide), hp 22 (by decide) (by decide) (by decide)]
  · rw [sST_t (by decide), hp 22 (by decide) (by decide) (by decide)]
  · rw [sST_t (by decide), hp 22 (by decide) (by decide) (by decide)]
  · rw [sST_t (by decide), hp 22 (by decide) (by decide) (by decide)]
set_option maxRecDepth 100000 in
theorem m_dig {M : XM} {nd : Nat} (hn : M 22 0 3 = nd) (ok : okN nd (M 23 0)) (n : Nat) (h20 : n ≤ 20) (hf : M 23 0 24 + n ≤ 999) : CW mi_X4_dig [xR 22 0, xI n] M (fun r M2 => r = some (xI (upm nd (feetW nd al n (stN M)))) ∧ loS M M2 ∧ (∀ k, M2 23 0 k = if k < 71 then feetW nd al n (stN M) k else M 23 0 k) ∧ (∀ t, 22 ≤ t → t ≠ 23 → t ≠ 24 → M2 t 0 = M t 0)) := by
  have okS := st_ok ok
  have h24 := ok.2.2.1
  have w1 : w32 (M 23 0 24 + (n : Int)) = M 23 0 24 + n := w32_id (by omega) (by omega)
  have ci := c_in M n 0 20
  rw [if_pos ⟨by omega, by omega⟩] at ci
  refine in_X4_dig (Nat.le_of_ble_eq_true rfl) ?_
  refine st_X4_dig [] 10 ?_
  simp only [sy, xisC, sxI, xgI, xgL, xgR, xent, xargs0, p1i, p2i, p1l, p2l, pli, p1r, pir, piir, plir, pvr, pdup, pdup2, pret, xjmp, xcon, xfd, xcl_, xcall, xbr, xsw, xtsw, xst1, xst2, xkill, xpush, xcat, xcl, xar, xkd, xrf, xmask, mR, mL, List.getElem?_cons_zero, List.getElem?_cons_succ, List.lookup_nil, List.lookup_cons, Nat.reduceAdd, Nat.reduceSub, Nat.reduceLeDiff, Nat.reduceEqDiff, Nat.reduceBEq, List.length_cons, List.length_nil, List.replicate, List.append_nil, List.nil_append, List.cons_append, List.set_cons_zero, List.set_cons_succ, List.take_succ_cons, List.take_zero, List.drop_succ_cons, List.drop_zero, List.reverse_cons, List.reverse_nil, List.map_cons, List.map_nil, List.sum_cons, List.sum_nil, decide_true, decide_false, and_self, and_true, true_and, true_or, or_true, Fin.isValue, Fin.val_zero, Fin.val_one, Fin.val_two, Fin.reduceFinMk, Nat.reduceMod, Option.some.injEq, Sum.inl.injEq, Sum.inr.injEq, Prod.mk.injEq, eq_self, reduceCtorEq, imp_self, implies_true, Nat.zero_add, Nat.add_zero, Nat.zero_le, Int.reduceEq, Int.reduceLT, Int.reduceLE, Int.reduceNeg, not_true, not_false_iff, false_imp_iff, true_imp_iff, forall_const, or_self, or_false, false_or, and_false, false_and, ↓reduceIte, z_0, z_1, z_f1, z_f2, z_f3, Int.reduceToNat, Int.reduceAdd, ct_X4_dig, mi_X4_dig]
  refine CW.mono (ci) ?_
  rintro _ M1 ⟨rfl, hM1⟩; rw [hM1]; clear hM1 M1
  refine st_X4_dig [] 20 ?_
  simp only [sy, xisC, sxI, xgI, xgL, xgR, xent, xargs0, p1i, p2i, p1l, p2l, pli, p1r, pir, piir, plir, pvr, pdup, pdup2, pret, xjmp, xcon, xfd, xcl_, xcall, xbr, xsw, xtsw, xst1, xst2, xkill, xpush, xcat, xcl, xar, xkd, xrf, xmask, mR, mL, List.getElem?_cons_zero, List.getElem?_cons_succ, List.lookup_nil, List.lookup_cons, Nat.reduceAdd, Nat.reduceSub, Nat.reduceLeDiff, Nat.reduceEqDiff, Nat.reduceBEq, List.length_cons, List.length_nil, List.replicate, List.append_nil, List.nil_append, List.cons_append, List.set_cons_zero, List.set_cons_succ, List.take_succ_cons, List.take_zero, List.drop_succ_cons, List.drop_zero, List.reverse_cons, List.reverse_nil, List.map_cons, List.map_nil, List.sum_cons, List.sum_nil, decide_true, decide_false, and_self, and_true, true_and, true_or, or_true, Fin.isValue, Fin.val_zero, Fin.val_one, Fin.val_two, Fin.reduceFinMk, Nat.reduceMod, Option.some.injEq, Sum.inl.injEq, Sum.inr.injEq, Prod.mk.injEq, eq_self, reduceCtorEq, imp_self, implies_true, Nat.zero_add, Nat.add_zero, Nat.zero_le, Int.reduceEq, Int.reduceLT, Int.reduceLE, Int.reduceNeg, not_true, not_false_iff, false_imp_iff, true_imp_iff, forall_const, or_self, or_false, false_or, and_false, false_and, ↓reduceIte, z_0, z_1, z_f1, z_f2, z_f3, Int.reduceToNat, Int.reduceAdd, ct_X4_dig, mi_X4_dig, n1z, w1]
  refine ⟨by omega, fun _ => ?_, fun q => absurd q (by omega)⟩
  refine CW.mono (c_starts2 M) ?_
  rintro _ M1 ⟨rfl, e1, f1⟩
  refine st_X4_dig [] 10 ?_
  simp only [sy, xisC, sxI, xgI, xgL, xgR, xent, xargs0, p1i, p2i, p1l, p2l, pli, p1r, pir, piir, plir, pvr, pdup, pdup2, pret, xjmp, xcon, xfd, xcl_, xcall, xbr, xsw, xtsw, xst1, xst2, xkill, xpush, xcat, xcl, xar, xkd, xrf, xmask, mR, mL, List.getElem?_cons_zero, List.getElem?_cons_succ, List.lookup_nil, List.lookup_cons, Nat.reduceAdd, Nat.reduceSub, Nat.reduceLeDiff, Nat.reduceEqDiff, Nat.reduceBEq, List.length_cons, List.length_nil, List.replicate, List.append_nil, List.nil_append, List.cons_append, List.set_cons_zero, List.set_cons_succ, List.take_succ_cons, List.take_zero, List.drop_succ_cons, List.drop_zero, List.reverse_cons, List.reverse_nil, List.map_cons, List.map_nil, List.sum_cons, List.sum_nil, decide_true, decide_false, and_self, and_true, true_and, true_or, or_true, Fin.isValue, Fin.val_zero, Fin.val_one, Fin.val_two, Fin.reduceFinMk, Nat.reduceMod, Option.some.injEq, Sum.inl.injEq, Sum.inr.injEq, Prod.mk.injEq, eq_self, reduceCtorEq, imp_self, implies_true, Nat.zero_add, Nat.add_zero, Nat.zero_le, Int.reduceEq, Int.reduceLT, Int.reduceLE, Int.reduceNeg, not_true, not_false_iff, false_imp_iff, true_imp_iff, forall_const, or_self, or_false, false_or, and_false, false_and, ↓reduceIte, z_0, z_1, z_f1, z_f2, z_f3, Int.reduceToNat, Int.reduceAdd, ct_X4_dig, mi_X4_dig]
  refine CW.mono (c_feetGo e1 (by rw [f1 22 0 (by decide)]; exact hn) okS n (by omega)) ?_
  rintro _ M2 ⟨rfl, e2, f2⟩
  refine st_X4_dig [] 10 ?_
  simp only [sy, xisC, sxI, xgI, xgL, xgR, xent, xargs0, p1i, p2i, p1l, p2l, pli, p1r, pir, piir, plir, pvr, pdup, pdup2, pret, xjmp, xcon, xfd, xcl_, xcall, xbr, xsw, xtsw, xst1, xst2, xkill, xpush, xcat, xcl, xar, xkd, xrf, xmask, mR, mL, List.getElem?_cons_zero, List.getElem?_cons_succ, List.lookup_nil, List.lookup_cons, Nat.reduceAdd, Nat.reduceSub, Nat.reduceLeDiff, Nat.reduceEqDiff, Nat.reduceBEq, List.length_cons, List.length_nil, List.replicate, List.append_nil, List.nil_append, List.cons_append, List.set_cons_zero, List.set_cons_succ, List.take_succ_cons, List.take_zero, List.drop_succ_cons, List.drop_zero, List.reverse_cons, List.reverse_nil, List.map_cons, List.map_nil, List.sum_cons, List.sum_nil, decide_true, decide_false, and_self, and_true, true_and, true_or, or_true, Fin.isValue, Fin.val_zero, Fin.val_one, Fin.val_two, Fin.reduceFinMk, Nat.reduceMod, Option.some.injEq, Sum.inl.injEq, Sum.inr.injEq, Prod.mk.injEq, eq_self, reduceCtorEq, imp_self, implies_true, Nat.zero_add, Nat.add_zero, Nat.zero_le, Int.reduceEq, Int.reduceLT, Int.reduceLE, Int.reduceNeg, not_true, not_false_iff, false_imp_iff, true_imp_iff, forall_const, or_self, or_false, false_or, and_false, false_and, ↓reduceIte, z_0, z_1, z_f1, z_f2, z_f3, Int.reduceToNat, Int.reduceAdd, ct_X4_dig, mi_X4_dig]
  refine CW.mono (c_settles M2) ?_
  rintro _ M3 ⟨rfl, e3, f3⟩
  have f12 := frN_tr f1 f2
  refine st_X4_dig [] 10 ?_
  simp only [sy, xisC, sxI, xgI, xgL, xgR, xent, xargs0, p1i, p2i, p1l, p2l, pli, p1r, pir, piir, plir, pvr, pdup, pdup2, pret, xjmp, xcon, xfd, xcl_, xcall, xbr, xsw, xtsw, xst1, xst2, xkill, xpush, xcat, xcl, xar, xkd, xrf, xmask, mR, mL, List.getElem?_cons_zero, List.getElem?_cons_succ, List.lookup_nil, List.lookup_cons, Nat.reduceAdd, Nat.reduceSub, Nat.reduceLeDiff, Nat.reduceEqDiff, Nat.reduceBEq, List.length_cons, List.length_nil, List.replicate, List.append_nil, List.nil_append, List.cons_append, List.set_cons_zero, List.set_cons_succ, List.take_succ_cons, List.take_zero, List.drop_succ_cons, List.drop_zero, List.reverse_cons, List.reverse_nil, List.map_cons, List.map_nil, List.sum_cons, List.sum_nil, decide_true, decide_false, and_self, and_true, true_and, true_or, or_true, Fin.isValue, Fin.val_zero, Fin.val_one, Fin.val_two, Fin.reduceFinMk, Nat.reduceMod, Option.some.injEq, Sum.inl.injEq, Sum.inr.injEq, Prod.mk.injEq, eq_self, reduceCtorEq, imp_self, implies_true, Nat.zero_add, Nat.add_zero, Nat.zero_le, Int.reduceEq, Int.reduceLT, Int.reduceLE, Int.reduceNeg, not_true, not_false_iff, false_imp_iff, true_imp_iff, forall_const, or_self, or_false, false_or, and_false, false_and, ↓reduceIte, z_0, z_1, z_f1, z_f2, z_f3, Int.reduceToNat, Int.reduceAdd, ct_X4_dig, mi_X4_dig]
  refine CW.mono (c_up (M := M3) (N := feetW nd al n (stN M)) (by rw [f3 24 0 (by decide)]; exact e2) (by rw [f3 22 0 (by decide), f12 22 0 (by decide)]; exact hn) (ok_feetW okS n)) ?_
  rintro _ M1 ⟨rfl, hM1⟩; rw [hM1]; clear hM1 M1
  refine st_X4_dig [] 10 ?_
  simp only [sy, xisC, sxI, xgI, xgL, xgR, xent, xargs0, p1i, p2i, p1l, p2l, pli, p1r, pir, piir, plir, pvr, pdup, pdup2, pret, xjmp, xcon, xfd, xcl_, xcall, xbr, xsw, xtsw, xst1, xst2, xkill, xpush, xcat, xcl, xar, xkd, xrf, xmask, mR, mL, List.getElem?_cons_zero, List.getElem?_cons_succ, List.lookup_nil, List.lookup_cons, Nat.reduceAdd, Nat.reduceSub, Nat.reduceLeDiff, Nat.reduceEqDiff, Nat.reduceBEq, List.length_cons, List.length_nil, List.replicate, List.append_nil, List.nil_append, List.cons_append, List.set_cons_zero, List.set_cons_succ, List.take_succ_cons, List.take_zero, List.drop_succ_cons, List.drop_zero, List.reverse_cons, List.reverse_nil, List.map_cons, List.map_nil, List.sum_cons, List.sum_nil, decide_true, decide_false, and_self, and_true, true_and, true_or, or_true, Fin.isValue, Fin.val_zero, Fin.val_one, Fin.val_two, Fin.reduceFinMk, Nat.reduceMod, Option.some.injEq, Sum.inl.injEq, Sum.inr.injEq, Prod.mk.injEq, eq_self, reduceCtorEq, imp_self, implies_true, Nat.zero_add, Nat.add_zero, Nat.zero_le, Int.reduceEq, Int.reduceLT, Int.reduceLE, Int.reduceNeg, not_true, not_false_iff, false_imp_iff, true_imp_iff, forall_const, or_self, or_false, false_or, and_false, false_and, ↓reduceIte, z_0, z_1, z_f1, z_f2, z_f3, Int.reduceToNat, Int.reduceAdd, ct_X4_dig, mi_X4_dig]
  refine ⟨fun t ht => funext fun i => by rw [f3 t i (by omega), f12 t i (by omega)], fun k => ?_, fun t h22 h23 h24' => by rw [f3 t 0 (by omega), f12 t 0 (by omega)]⟩
  rw [e3 k, e2, f12 23 0 (by decide)]

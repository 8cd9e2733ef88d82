/-! ===== one digger's foot in the class ===== -/
def nxF (c h : Int) : Int := if h = 0 then (if c % 8 < 7 then c + 1 else -1) else if h = 1 then (if c < 56 then c + 8 else -1) else if h = 2 then (if 0 < c % 8 then c - 1 else -1) else if 8 ≤ c then c - 8 else -1
theorem isC_xy {n : Int} (h : isC n) : ∃ x y : Nat, x < 8 ∧ y < 8 ∧ n = 10 * (x : Int) + y := by
  unfold isC at h
  exact ⟨(n / 10).toNat, (n % 10).toNat, by omega, by omega, by omega⟩
theorem goF_in {N : Nat → Int} {n h : Int} {x' y' : Nat} (hX : n / 10 + (if h = 1 then 1 else if h = 3 then -1 else 0) = (x' : Int)) (hY : n % 10 + (if h = 0 then 1 else if h = 2 then -1 else 0) = (y' : Int)) (h1 : x' < 8) (h2 : y' < 8) : goF N n h = if tb (N (25 + x')) y' = false then 10 * (x' : Int) + y' else -1 := by
  unfold goF
  simp only [hX, hY, Int.toNat_natCast]
  by_cases hb : tb (N (25 + x')) y' = false
  · rw [if_pos hb, if_pos ⟨by omega, by omega, by omega, by omega, hb⟩]
  · rw [if_neg hb, if_neg (fun q => hb q.2.2.2.2)]
theorem goF_out {N : Nat → Int} {n h X Y : Int} (hX : n / 10 + (if h = 1 then 1 else if h = 3 then -1 else 0) = X) (hY : n % 10 + (if h = 0 then 1 else if h = 2 then -1 else 0) = Y) (hn : ¬ (0 ≤ X ∧ X ≤ 7 ∧ 0 ≤ Y ∧ Y ≤ 7)) : goF N n h = -1 := by
  unfold goF
  simp only [hX, hY]
  rw [if_neg]
  rintro ⟨a, b, c, d, -⟩
  exact hn ⟨a, b, c, d⟩
theorem go_lem {N : Nat → Int} {z n h : Int} (hC : isC n) (h0 : 0 ≤ h) (h4 : h < 4) (hr : ∀ x y, x < 8 → y < 8 → lb z (8 * x + y) = tb (N (25 + x)) y) :
    (nxF (nc n) h < 0 → goF N n h = -1) ∧ (0 ≤ nxF (nc n) h → nxF (nc n) h < 64 ∧ (lb z (nxF (nc n) h).toNat = true → goF N n h = -1) ∧ (lb z (nxF (nc n) h).toNat = false → goF N n h = cn (nxF (nc n) h))) := by
  obtain ⟨x, y, hx, hy, rfl⟩ := isC_xy hC
  have e1 : (10 * (x : Int) + y) / 10 = x := by omega
  have e2 : (10 * (x : Int) + y) % 10 = y := by omega
  have e3 : nc (10 * (x : Int) + y) = 8 * x + y := by unfold nc; rw [e1, e2]
  have key : ∀ (x' y' : Nat), x' < 8 → y' < 8 → nxF (8 * (x : Int) + y) h = 8 * (x' : Int) + y' → (10 * (x : Int) + y) / 10 + (if h = 1 then 1 else if h = 3 then -1 else 0) = (x' : Int) → (10 * (x : Int) + y) % 10 + (if h = 0 then 1 else if h = 2 then -1 else 0) = (y' : Int) →
      (nxF (nc (10 * (x : Int) + y)) h < 0 → goF N (10 * (x : Int) + y) h = -1) ∧ (0 ≤ nxF (nc (10 * (x : Int) + y)) h → nxF (nc (10 * (x : Int) + y)) h < 64 ∧ (lb z (nxF (nc (10 * (x : Int) + y)) h).toNat = true → goF N (10 * (x : Int) + y) h = -1) ∧ (lb z (nxF (nc (10 * (x : Int) + y)) h).toNat = false → goF N (10 * (x : Int) + y) h = cn (nxF (nc (10 * (x : Int) + y)) h))) := by
    intro x' y' h1 h2 h3 h5 h6
    rw [e3, h3, goF_in h5 h6 h1 h2, show (8 * (x' : Int) + y').toNat = 8 * x' + y' by omega, hr x' y' h1 h2]
    refine ⟨fun q => by omega, fun _ => ⟨by omega, fun q => by rw [q]; rfl, fun q => ?_⟩⟩
    rw [if_pos q]
    unfold cn
    omega
  have key2 : ∀ X Y : Int, nxF (8 * (x : Int) + y) h = -1 → (10 * (x : Int) + y) / 10 + (if h = 1 then 1 else if h = 3 then -1 else 0) = X → (10 * (x : Int) + y) % 10 + (if h = 0 then 1 else if h = 2 then -1 else 0) = Y → ¬ (0 ≤ X ∧ X ≤ 7 ∧ 0 ≤ Y ∧ Y ≤ 7) →
      (nxF (nc (10 * (x : Int) + y)) h < 0 → goF N (10 * (x : Int) + y) h = -1) ∧ (0 ≤ nxF (nc (10 * (x : Int) + y)) h → nxF (nc (10 * (x : Int) + y)) h < 64 ∧ (lb z (nxF (nc (10 * (x : Int) + y)) h).toNat = true → goF N (10 * (x : Int) + y) h = -1) ∧ (lb z (nxF (nc (10 * (x : Int) + y)) h).toNat = false → goF N (10 * (x : Int) + y) h = cn (nxF (nc (10 * (x : Int) + y)) h))) := by
    intro X Y h3 h5 h6 h7
    rw [e3, h3, goF_out h5 h6 h7]
    exact ⟨fun _ => rfl, fun q => by omega⟩
  rw [e1, e2] at key key2
  have eh : h = 0 ∨ h = 1 ∨ h = 2 ∨ h = 3 := by omega
  rcases eh with rfl | rfl | rfl | rfl
  · by_cases hq : y < 7
    · exact key x (y + 1) hx (by omega) (by unfold nxF; simp only [↓reduceIte]; omega) (by simp) (by simp)
    · exact key2 _ _ (by unfold nxF; simp only [↓reduceIte]; omega) rfl rfl (by simp; omega)
  · by_cases hq : x < 7
    · exact key (x + 1) y (by omega) hy (by unfold nxF; simp; omega) (by simp) (by simp)
    · exact key2 _ _ (by unfold nxF; simp; omega) rfl rfl (by simp; omega)
  · by_cases hq : 0 < y
    · exact key x (y - 1) hx (by omega) (by unfold nxF; simp; omega) (by simp) (by simp; omega)
    · exact key2 _ _ (by unfold nxF; simp; omega) rfl rfl (by simp; omega)
  · by_cases hq : 0 < x
    · exact key (x - 1) y (by omega) hy (by unfold nxF; simp; omega) (by simp; omega) (by simp)
    · exact key2 _ _ (by unfold nxF; simp; omega) rfl rfl (by simp; omega)
/-- the class's heading to a cell is the document's -/
theorem head_lem {a b : Int} (ha : isC a) (hb : isC b) : (if nc a / 8 ≠ nc b / 8 then (if nc a < nc b then 1 else 3) else if nc a = nc b then -1 else if nc a < nc b then 0 else 2) = headF a b := by
  unfold isC at ha hb
  unfold nc headF
  omega
theorem headF_rng (a b : Int) : -1 ≤ headF a b ∧ headF a b < 4 := by
  unfold headF
  repeat' split
  all_goals omega
theorem goF_isC {N : Nat → Int} {n h : Int} (hq : 0 ≤ goF N n h) : isC (goF N n h) := by
  unfold goF at hq ⊢
  dsimp only at hq ⊢
  generalize n / 10 + (if h = 1 then 1 else if h = 3 then -1 else 0) = X at hq ⊢
  generalize n % 10 + (if h = 0 then 1 else if h = 2 then -1 else 0) = Y at hq ⊢
  by_cases hc : 0 ≤ X ∧ X ≤ 7 ∧ 0 ≤ Y ∧ Y ≤ 7 ∧ tb (N (25 + X.toNat)) Y.toNat = false
  · rw [if_pos hc]
    unfold isC
    omega
  · rw [if_neg hc] at hq
    omega
set_option maxRecDepth 100000 in
theorem c_isRock (M : XM) (i : Fin 5) (c : Nat) (hc : c < 64) : CW mi_X0_isRock [xR 1 i, xI c] M (pI M (if lb (M 1 i 7) c then 1 else 0)) := by
  refine in_X0_isRock (Nat.le_of_ble_eq_true rfl) ?_
  refine st_X0_isRock [] 6 ?_
  simp only [sy, xisC, sxI, xgI, xgL, xgR, xent, xargs0, p1i, p2i, p1l, p2l, pli, p1r, pir, piir, plir, pvr, pdup, pdup2, pret, xjmp, xcon, xfd, xcl_, xcall, xbr, xsw, xtsw, xst1, xst2, xkill, xpush, xcat, xcl, xar, xkd, xrf, xmask, mR, mL, List.getElem?_cons_zero, List.getElem?_cons_succ, List.lookup_nil, List.lookup_cons, Nat.reduceAdd, Nat.reduceSub, Nat.reduceLeDiff, Nat.reduceEqDiff, Nat.reduceBEq, List.length_cons, List.length_nil, List.replicate, List.append_nil, List.nil_append, List.cons_append, List.set_cons_zero, List.set_cons_succ, List.take_succ_cons, List.take_zero, List.drop_succ_cons, List.drop_zero, List.reverse_cons, List.reverse_nil, List.map_cons, List.map_nil, List.sum_cons, List.sum_nil, decide_true, decide_false, and_self, and_true, true_and, true_or, or_true, Fin.isValue, Fin.val_zero, Fin.val_one, Fin.val_two, Fin.reduceFinMk, Nat.reduceMod, Option.some.injEq, Sum.inl.injEq, Sum.inr.injEq, Prod.mk.injEq, eq_self, reduceCtorEq, imp_self, implies_true, Nat.zero_add, Nat.add_zero, Nat.zero_le, Int.reduceEq, Int.reduceLT, Int.reduceLE, Int.reduceNeg, not_true, not_false_iff, false_imp_iff, true_imp_iff, forall_const, or_self, or_false, false_or, and_false, false_and, ↓reduceIte, z_0, z_1, z_f1, z_f2, z_f3, ct_X0_isRock, mi_X0_isRock]
  refine st_X0_isRock [] 6 ?_
  simp only [sy, xisC, sxI, xgI, xgL, xgR, xent, xargs0, p1i, p2i, p1l, p2l, pli, p1r, pir, piir, plir, pvr, pdup, pdup2, pret, xjmp, xcon, xfd, xcl_, xcall, xbr, xsw, xtsw, xst1, xst2, xkill, xpush, xcat, xcl, xar, xkd, xrf, xmask, mR, mL, List.getElem?_cons_zero, List.getElem?_cons_succ, List.lookup_nil, List.lookup_cons, Nat.reduceAdd, Nat.reduceSub, Nat.reduceLeDiff, Nat.reduceEqDiff, Nat.reduceBEq, List.length_cons, List.length_nil, List.replicate, List.append_nil, List.nil_append, List.cons_append, List.set_cons_zero, List.set_cons_succ, List.take_succ_cons, List.take_zero, List.drop_succ_cons, List.drop_zero, List.reverse_cons, List.reverse_nil, List.map_cons, List.map_nil, List.sum_cons, List.sum_nil, decide_true, decide_false, and_self, and_true, true_and, true_or, or_true, Fin.isValue, Fin.val_zero, Fin.val_one, Fin.val_two, Fin.reduceFinMk, Nat.reduceMod, Option.some.injEq, Sum.inl.injEq, Sum.inr.injEq, Prod.mk.injEq, eq_self, reduceCtorEq, imp_self, implies_true, Nat.zero_add, Nat.add_zero, Nat.zero_le, Int.reduceEq, Int.reduceLT, Int.reduceLE, Int.reduceNeg, not_true, not_false_iff, false_imp_iff, true_imp_iff, forall_const, or_self, or_false, false_or, and_false, false_and, ↓reduceIte, z_0, z_1, z_f1, z_f2, z_f3, ct_X0_isRock, mi_X0_isRock]
  rw [l_bit _ hc]
  refine st_X0_isRock [] 30 ?_
  simp only [sy, xisC, sxI, xgI, xgL, xgR, xent, xargs0, p1i, p2i, p1l, p2l, pli, p1r, pir, piir, plir, pvr, pdup, pdup2, pret, xjmp, xcon, xfd, xcl_, xcall, xbr, xsw, xtsw, xst1, xst2, xkill, xpush, xcat, xcl, xar, xkd, xrf, xmask, mR, mL, List.getElem?_cons_zero, List.getElem?_cons_succ, List.lookup_nil, List.lookup_cons, Nat.reduceAdd, Nat.reduceSub, Nat.reduceLeDiff, Nat.reduceEqDiff, Nat.reduceBEq, List.length_cons, List.length_nil, List.replicate, List.append_nil, List.nil_append, List.cons_append, List.set_cons_zero, List.set_cons_succ, List.take_succ_cons, List.take_zero, List.drop_succ_cons, List.drop_zero, List.reverse_cons, List.reverse_nil, List.map_cons, List.map_nil, List.sum_cons, List.sum_nil, decide_true, decide_false, and_self, and_true, true_and, true_or, or_true, Fin.isValue, Fin.val_zero, Fin.val_one, Fin.val_two, Fin.reduceFinMk, Nat.reduceMod, Option.some.injEq, Sum.inl.injEq, Sum.inr.injEq, Prod.mk.injEq, eq_self, reduceCtorEq, imp_self, implies_true, Nat.zero_add, Nat.add_zero, Nat.zero_le, Int.reduceEq, Int.reduceLT, Int.reduceLE, Int.reduceNeg, not_true, not_false_iff, false_imp_iff, true_imp_iff, forall_const, or_self, or_false, false_or, and_false, false_and, ↓reduceIte, z_0, z_1, z_f1, z_f2, z_f3, ct_X0_isRock, mi_X0_isRock, pI, lcmpz]
  cases lb (M 1 i 7) c <;> simp
theorem RG_isUp {M : XM} {i : Fin 5} {nd d : Nat} {N : Nat → Int} (h : RG M i nd N) (hok : okN nd N) (hd : d < nd) : CW mi_X0_isUp [xR 1 i, xI d] M (pI M (N (6 * d + 5))) := by
  have h1 := upm_rng hok
  have h2 := upm_bit hok hd
  rw [← h.2.1] at h1 h2
  have h3 := c_isUp M i d h1.1 h1.2 (Nat.lt_of_lt_of_le hd hok.1)
  rw [h2] at h3
  exact h3
set_option maxRecDepth 100000 in
theorem c_rests {M : XM} {i : Fin 5} {nd d : Nat} {N : Nat → Int} (h : RG M i nd N) (hok : okN nd N) (hd : d < nd) : CW mi_X0_rests [xR 1 i, xI d] M (pI M (if N (6 * d + 5) = 0 ∧ 0 < N (6 * d + 4) then 0 else 1)) := by
  have h4 : d < 4 := Nat.lt_of_lt_of_le hd hok.1
  have hf := (hok.2.1 d hd).2.2.2.2.1
  have hu := (hok.2.1 d hd).2.2.2.2.2
  have hg := (h.2.2.2.2.2.1 d hd).2.2.2.2
  refine in_X0_rests (Nat.le_of_ble_eq_true rfl) ?_
  refine st_X0_rests [] 6 ?_
  simp only [sy, xisC, sxI, xgI, xgL, xgR, xent, xargs0, p1i, p2i, p1l, p2l, pli, p1r, pir, piir, plir, pvr, pdup, pdup2, pret, xjmp, xcon, xfd, xcl_, xcall, xbr, xsw, xtsw, xst1, xst2, xkill, xpush, xcat, xcl, xar, xkd, xrf, xmask, mR, mL, List.getElem?_cons_zero, List.getElem?_cons_succ, List.lookup_nil, List.lookup_cons, Nat.reduceAdd, Nat.reduceSub, Nat.reduceLeDiff, Nat.reduceEqDiff, Nat.reduceBEq, List.length_cons, List.length_nil, List.replicate, List.append_nil, List.nil_append, List.cons_append, List.set_cons_zero, List.set_cons_succ, List.take_succ_cons, List.take_zero, List.drop_succ_cons, List.drop_zero, List.reverse_cons, List.reverse_nil, List.map_cons, List.map_nil, List.sum_cons, List.sum_nil, decide_true, decide_false, and_self, and_true, true_and, true_or, or_true, Fin.isValue, Fin.val_zero, Fin.val_one, Fin.val_two, Fin.reduceFinMk, Nat.reduceMod, Option.some.injEq, Sum.inl.injEq, Sum.inr.injEq, Prod.mk.injEq, eq_self, reduceCtorEq, imp_self, implies_true, Nat.zero_add, Nat.add_zero, Nat.zero_le, Int.reduceEq, Int.reduceLT, Int.reduceLE, Int.reduceNeg, not_true, not_false_iff, false_imp_iff, true_imp_iff, forall_const, or_self, or_false, false_or, and_false, false_and, ↓reduceIte, z_0, z_1, z_f1, z_f2, z_f3, ct_X0_rests, mi_X0_rests]
  refine CW.mono (RG_isUp h hok hd) ?_
  rintro _ _ ⟨rfl, rfl⟩
  refine st_X0_rests [] 30 ?_
  simp only [sy, xisC, sxI, xgI, xgL, xgR, xent, xargs0, p1i, p2i, p1l, p2l, pli, p1r, pir, piir, plir, pvr, pdup, pdup2, pret, xjmp, xcon, xfd, xcl_, xcall, xbr, xsw, xtsw, xst1, xst2, xkill, xpush, xcat, xcl, xar, xkd, xrf, xmask, mR, mL, List.getElem?_cons_zero, List.getElem?_cons_succ, List.lookup_nil, List.lookup_cons, Nat.reduceAdd, Nat.reduceSub, Nat.reduceLeDiff, Nat.reduceEqDiff, Nat.reduceBEq, List.length_cons, List.length_nil, List.replicate, List.append_nil, List.nil_append, List.cons_append, List.set_cons_zero, List.set_cons_succ, List.take_succ_cons, List.take_zero, List.drop_succ_cons, List.drop_zero, List.reverse_cons, List.reverse_nil, List.map_cons, List.map_nil, List.sum_cons, List.sum_nil, decide_true, decide_false, and_self, and_true, true_and, true_or, or_true, Fin.isValue, Fin.val_zero, Fin.val_one, Fin.val_two, Fin.reduceFinMk, Nat.reduceMod, Option.some.injEq, Sum.inl.injEq, Sum.inr.injEq, Prod.mk.injEq, eq_self, reduceCtorEq, imp_self, implies_true, Nat.zero_add, Nat.add_zero, Nat.zero_le, Int.reduceEq, Int.reduceLT, Int.reduceLE, Int.reduceNeg, not_true, not_false_iff, false_imp_iff, true_imp_iff, forall_const, or_self, or_false, false_or, and_false, false_and, ↓reduceIte, z_0, z_1, z_f1, z_f2, z_f3, ct_X0_rests, mi_X0_rests, pI, Int.toNat_natCast, hg]
  omega

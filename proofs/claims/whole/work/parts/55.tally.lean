/-! ===== look ===== -/
def wyF (nd d : Nat) (N : Nat → Int) : Nat → Nat → Nat → Int
  | 0, _, _ => 0
  | k + 1, n, p => wyF nd d N k n p + (if soA nd d N k = 1 ∧ (feetW nd al n (nu N (6 * d + 2) (cn k)) (6 * d + 1)).toNat = p then 1 else 0)
theorem wy_s {nd d : Nat} {N : Nat → Int} {k n p : Nat} : wyF nd d N (k + 1) n p = wyF nd d N k n p + (if soA nd d N k = 1 ∧ (feetW nd al n (nu N (6 * d + 2) (cn k)) (6 * d + 1)).toNat = p then 1 else 0) := rfl
theorem wy_rng {nd d : Nat} {N : Nat → Int} {n p : Nat} : ∀ k, 0 ≤ wyF nd d N k n p ∧ wyF nd d N k n p ≤ k
  | 0 => by show (0 : Int) ≤ 0 ∧ (0 : Int) ≤ _; omega
  | k + 1 => by
    have ih := wy_rng (nd := nd) (d := d) (N := N) (n := n) (p := p) k
    rw [wy_s]
    split <;> omega
theorem wy_no {nd d : Nat} {N : Nat → Int} (hok : okN nd N) (hd : d < nd) {n p : Nat} (hp : 8 ≤ p % 10) : ∀ k, k ≤ 64 → wyF nd d N k n p = 0
  | 0, _ => rfl
  | k + 1, hk => by
    have oka := ok_aim hok hd (a := (k : Int)) (by omega) (by omega)
    have hC := ((ok_feetW (who := al) oka n).2.1 d hd).2.1
    unfold isC at hC
    rw [wy_s, wy_no hok hd hp k (by omega), if_neg (by omega)]
    rfl
def mcG (t : Nat → Int) : Nat → Int
  | 0 => 0
  | c + 1 => if mcG t c < t c then t c else mcG t c
theorem mc_s {t : Nat → Int} {c : Nat} : mcG t (c + 1) = if mcG t c < t c then t c else mcG t c := rfl
theorem mc_0 {t : Nat → Int} : ∀ c, 0 ≤ mcG t c
  | 0 => Int.le_refl 0
  | c + 1 => by
    have ih := mc_0 (t := t) c
    rw [mc_s]
    split <;> omega
theorem mc_cg {t t' : Nat → Int} : ∀ c, (∀ j, j < c → t' j = t j) → mcG t' c = mcG t c
  | 0, _ => rfl
  | c + 1, h => by rw [mc_s, mc_s, mc_cg c (fun j hj => h j (by omega)), h c (by omega)]
theorem mc_eq {t : Nat → Int} (hz : ∀ p, 8 ≤ p % 10 → t p = 0) : mcG t 80 = mcG (fun c => t (cn c).toNat) 64 := by
  have row : ∀ x j : Nat, j ≤ 8 → mcG t (10 * x) = mcG (fun c => t (cn c).toNat) (8 * x) → mcG t (10 * x + j) = mcG (fun c => t (cn c).toNat) (8 * x + j) := by
    intro x j
    induction j with
    | zero => intro _ h; exact h
    | succ j ih =>
      intro hj h
      have ih := ih (by omega) h
      rw [show 10 * x + (j + 1) = 10 * x + j + 1 from rfl, show 8 * x + (j + 1) = 8 * x + j + 1 from rfl, mc_s, mc_s, ih]
      rw [show (cn ((8 * x + j : Nat) : Int)).toNat = 10 * x + j by unfold cn; omega]
  have nxt : ∀ x : Nat, mcG t (10 * x) = mcG (fun c => t (cn c).toNat) (8 * x) → mcG t (10 * (x + 1)) = mcG (fun c => t (cn c).toNat) (8 * (x + 1)) := by
    intro x h
    have h8 := row x 8 (Nat.le_refl _) h
    have p0 := mc_0 (t := t) (10 * x + 8)
    rw [show 10 * (x + 1) = 10 * x + 8 + 1 + 1 by omega, mc_s, mc_s, hz (10 * x + 8) (by omega), hz (10 * x + 8 + 1) (by omega), if_neg (by omega), if_neg (by omega), h8]
    rfl
  have a0 : mcG t (10 * 0) = mcG (fun c => t (cn c).toNat) (8 * 0) := rfl
  exact nxt 7 (nxt 6 (nxt 5 (nxt 4 (nxt 3 (nxt 2 (nxt 1 (nxt 0 a0)))))))
def lkF (nd d : Nat) (N : Nat → Int) : Nat → Int × Int
  | 0 => (-4, fcF nd d N 64)
  | n + 1 => if mcG (wyF nd d N 64 n) 80 < (lkF nd d N n).2 then ((n : Int), mcG (wyF nd d N 64 n) 80) else lkF nd d N n
theorem lk_s {nd d : Nat} {N : Nat → Int} {n : Nat} : lkF nd d N (n + 1) = if mcG (wyF nd d N 64 n) 80 < (lkF nd d N n).2 then ((n : Int), mcG (wyF nd d N 64 n) 80) else lkF nd d N n := rfl
set_option maxRecDepth 100000 in
theorem c_most {M : XM} {n : Nat} (hn : n ≤ 20) (t : Nat → Int) (ht : ∀ c, c < 64 → M 20 0 (64 * n + c) = t c) : CW mi_X3_mostInOneCell [xR 0 0, xI n] M (pI M (mcG t 64)) := by
  have loop : ∀ (m c : Nat), c + m = 64 → J_X3_mostInOneCell (pI M (mcG t 64)) 4 [some (xR 0 0), some (xI n), some (xI (mcG t c)), some (xI c)] [] M := by
    intro m
    induction m with
    | zero =>
      intro c hc
      have e : c = 64 := by omega
      subst e
      refine st_X3_mostInOneCell [(7, [true, true, true, true])] 10 ?_
      simp only [sy, xisC, sxI, xgI, xgL, xgR, xent, xargs0, p1i, p2i, p1l, p2l, pli, p1r, pir, piir, plir, pvr, pdup, pdup2, pret, xjmp, xcon, xfd, xcl_, xcall, xbr, xsw, xtsw, xst1, xst2, xkill, xpush, xcat, xcl, xar, xkd, xrf, xmask, mR, mL, List.getElem?_cons_zero, List.getElem?_cons_succ, List.lookup_nil, List.lookup_cons, Nat.reduceAdd, Nat.reduceSub, Nat.reduceLeDiff, Nat.reduceEqDiff, Nat.reduceBEq, List.length_cons, List.length_nil, List.replicate, List.append_nil, List.nil_append, List.cons_append, List.set_cons_zero, List.set_cons_succ, List.take_succ_cons, List.take_zero, List.drop_succ_cons, List.drop_zero, List.reverse_cons, List.reverse_nil, List.map_cons, List.map_nil, List.sum_cons, List.sum_nil, decide_true, decide_false, and_self, and_true, true_and, true_or, or_true, Fin.isValue, Fin.val_zero, Fin.val_one, Fin.val_two, Fin.reduceFinMk, Nat.reduceMod, Option.some.injEq, Sum.inl.injEq, Sum.inr.injEq, Prod.mk.injEq, eq_self, reduceCtorEq, imp_self, implies_true, Nat.zero_add, Nat.add_zero, Nat.zero_le, Int.reduceEq, Int.reduceLT, Int.reduceLE, Int.reduceNeg, not_true, not_false_iff, false_imp_iff, true_imp_iff, forall_const, or_self, or_false, false_or, and_false, false_and, ↓reduceIte, z_0, z_1, z_f1, z_f2, z_f3, Int.reduceToNat, Int.reduceAdd, ct_X3_mostInOneCell, mi_X3_mostInOneCell, pI]
      try exact fun q => absurd q (by omega)
    | succ m ih =>
      intro c hc
      have g := ht c (by omega)
      have w2 : w32 ((c : Int) + 1) = (c + 1 : Nat) := by rw [w32_id (by omega) (by omega)]; rfl
      have a1 : w32 ((n : Int) * 64) = 64 * n := by rw [w32_id (by omega) (by omega)]; omega
      have a2 : w32 (64 * (n : Int) + c) = 64 * n + c := w32_id (by omega) (by omega)
      have a3 : (64 * (n : Int) + c).toNat = 64 * n + c := by omega
      have ih := ih (c + 1) (by omega)
      generalize mcG t 64 = zz at ih ⊢
      rw [mc_s] at ih
      refine st_X3_mostInOneCell [(16, [true, true, true, true])] 20 ?_
      simp only [sy, xisC, sxI, xgI, xgL, xgR, xent, xargs0, p1i, p2i, p1l, p2l, pli, p1r, pir, piir, plir, pvr, pdup, pdup2, pret, xjmp, xcon, xfd, xcl_, xcall, xbr, xsw, xtsw, xst1, xst2, xkill, xpush, xcat, xcl, xar, xkd, xrf, xmask, mR, mL, List.getElem?_cons_zero, List.getElem?_cons_succ, List.lookup_nil, List.lookup_cons, Nat.reduceAdd, Nat.reduceSub, Nat.reduceLeDiff, Nat.reduceEqDiff, Nat.reduceBEq, List.length_cons, List.length_nil, List.replicate, List.append_nil, List.nil_append, List.cons_append, List.set_cons_zero, List.set_cons_succ, List.take_succ_cons, List.take_zero, List.drop_succ_cons, List.drop_zero, List.reverse_cons, List.reverse_nil, List.map_cons, List.map_nil, List.sum_cons, List.sum_nil, decide_true, decide_false, and_self, and_true, true_and, true_or, or_true, Fin.isValue, Fin.val_zero, Fin.val_one, Fin.val_two, Fin.reduceFinMk, Nat.reduceMod, Option.some.injEq, Sum.inl.injEq, Sum.inr.injEq, Prod.mk.injEq, eq_self, reduceCtorEq, imp_self, implies_true, Nat.zero_add, Nat.add_zero, Nat.zero_le, Int.reduceEq, Int.reduceLT, Int.reduceLE, Int.reduceNeg, not_true, not_false_iff, false_imp_iff, true_imp_iff, forall_const, or_self, or_false, false_or, and_false, false_and, ↓reduceIte, z_0, z_1, z_f1, z_f2, z_f3, Int.reduceToNat, Int.reduceAdd, ct_X3_mostInOneCell, mi_X3_mostInOneCell, a1, a2, a3, g]
      refine ⟨fun q => absurd q (by omega), fun _ => ⟨by omega, ?_⟩⟩
      refine J_mxT ?_
      refine st_X3_mostInOneCell [(4, [true, true, true, true])] 20 ?_
      simp only [sy, xisC, sxI, xgI, xgL, xgR, xent, xargs0, p1i, p2i, p1l, p2l, pli, p1r, pir, piir, plir, pvr, pdup, pdup2, pret, xjmp, xcon, xfd, xcl_, xcall, xbr, xsw, xtsw, xst1, xst2, xkill, xpush, xcat, xcl, xar, xkd, xrf, xmask, mR, mL, List.getElem?_cons_zero, List.getElem?_cons_succ, List.lookup_nil, List.lookup_cons, Nat.reduceAdd, Nat.reduceSub, Nat.reduceLeDiff, Nat.reduceEqDiff, Nat.reduceBEq, List.length_cons, List.length_nil, List.replicate, List.append_nil, List.nil_append, List.cons_append, List.set_cons_zero, List.set_cons_succ, List.take_succ_cons, List.take_zero, List.drop_succ_cons, List.drop_zero, List.reverse_cons, List.reverse_nil, List.map_cons, List.map_nil, List.sum_cons, List.sum_nil, decide_true, decide_false, and_self, and_true, true_and, true_or, or_true, Fin.isValue, Fin.val_zero, Fin.val_one, Fin.val_two, Fin.reduceFinMk, Nat.reduceMod, Option.some.injEq, Sum.inl.injEq, Sum.inr.injEq, Prod.mk.injEq, eq_self, reduceCtorEq, imp_self, implies_true, Nat.zero_add, Nat.add_zero, Nat.zero_le, Int.reduceEq, Int.reduceLT, Int.reduceLE, Int.reduceNeg, not_true, not_false_iff, false_imp_iff, true_imp_iff, forall_const, or_self, or_false, false_or, and_false, false_and, ↓reduceIte, z_0, z_1, z_f1, z_f2, z_f3, Int.reduceToNat, Int.reduceAdd, ct_X3_mostInOneCell, mi_X3_mostInOneCell, w2]
      exact ih
  refine in_X3_mostInOneCell (Nat.le_of_ble_eq_true rfl) ?_
  refine st_X3_mostInOneCell [(4, [true, true, true, true])] 8 ?_
  simp only [sy, xisC, sxI, xgI, xgL, xgR, xent, xargs0, p1i, p2i, p1l, p2l, pli, p1r, pir, piir, plir, pvr, pdup, pdup2, pret, xjmp, xcon, xfd, xcl_, xcall, xbr, xsw, xtsw, xst1, xst2, xkill, xpush, xcat, xcl, xar, xkd, xrf, xmask, mR, mL, List.getElem?_cons_zero, List.getElem?_cons_succ, List.lookup_nil, List.lookup_cons, Nat.reduceAdd, Nat.reduceSub, Nat.reduceLeDiff, Nat.reduceEqDiff, Nat.reduceBEq, List.length_cons, List.length_nil, List.replicate, List.append_nil, List.nil_append, List.cons_append, List.set_cons_zero, List.set_cons_succ, List.take_succ_cons, List.take_zero, List.drop_succ_cons, List.drop_zero, List.reverse_cons, List.reverse_nil, List.map_cons, List.map_nil, List.sum_cons, List.sum_nil, decide_true, decide_false, and_self, and_true, true_and, true_or, or_true, Fin.isValue, Fin.val_zero, Fin.val_one, Fin.val_two, Fin.reduceFinMk, Nat.reduceMod, Option.some.injEq, Sum.inl.injEq, Sum.inr.injEq, Prod.mk.injEq, eq_self, reduceCtorEq, imp_self, implies_true, Nat.zero_add, Nat.add_zero, Nat.zero_le, Int.reduceEq, Int.reduceLT, Int.reduceLE, Int.reduceNeg, not_true, not_false_iff, false_imp_iff, true_imp_iff, forall_const, or_self, or_false, false_or, and_false, false_and, ↓reduceIte, z_0, z_1, z_f1, z_f2, z_f3, Int.reduceToNat, Int.reduceAdd, ct_X3_mostInOneCell, mi_X3_mostInOneCell]
  exact loop 64 0 rfl
theorem clo_aim {who : Nat → Bool} {nd d : Nat} {N : Nat → Int} {v : Int} (h : clo who nd N) : clo who nd (nu N (6 * d + 2) v) := clo_cg h (fun e he => nu_k (by omega))
set_option maxRecDepth 100000 in
theorem c_tallyAims {M : XM} {nd d : Nat} {N : Nat → Int} (rg : RG M 0 nd N) (hok : okN nd N) (hd : d < nd) : CW mi_X3_tallyAims [xR 0 0, xI d] M (fun r M' => r = some (xI (fcF nd d N 64)) ∧ frQ M M' ∧ ∀ n c : Nat, n ≤ 20 → c < 64 → M' 20 0 (64 * n + c) = wyF nd d N 64 n (cn c).toNat) := by
  have h4 := hok.1
  have rgq : ∀ M3, frQ M M3 → RG M3 0 nd N := fun M3 f3 => RG_fr rg (fun t a b => f3 t 0 (by rintro ⟨-, -, q | q⟩ <;> exact absurd q (by decide)) (by omega) (by omega) (by omega))
  have loop : ∀ (w : Int), 0 ≤ w → w < 16 → wb w d = true → clo (wb w) nd N → ∀ (m k : Nat) (M3 : XM), k + m = 64 → frQ M M3 → (∀ n c : Nat, n ≤ 20 → c < 64 → M3 20 0 (64 * n + c) = wyF nd d N k n (cn c).toNat) → ∀ x : Option XV, J_X3_tallyAims (fun r M' => r = some (xI (fcF nd d N 64)) ∧ frQ M M' ∧ ∀ n c : Nat, n ≤ 20 → c < 64 → M' 20 0 (64 * n + c) = wyF nd d N 64 n (cn c).toNat) 23 [some (xR 0 0), some (xI d), some (xI w), some (xI (fcF nd d N k)), some (xI k), x] [] M3 := by
    intro w w0 w1 hw hcl m
    induction m with
    | zero =>
      intro k M3 hk f3 t3 x
      have e : k = 64 := by omega
      subst e
      refine st_X3_tallyAims [(26, [true, true, true, true, true, true])] 20 ?_
      simp only [sy, xisC, sxI, xgI, xgL, xgR, xent, xargs0, p1i, p2i, p1l, p2l, pli, p1r, pir, piir, plir, pvr, pdup, pdup2, pret, xjmp, xcon, xfd, xcl_, xcall, xbr, xsw, xtsw, xst1, xst2, xkill, xpush, xcat, xcl, xar, xkd, xrf, xmask, mR, mL, List.getElem?_cons_zero, List.getElem?_cons_succ, List.lookup_nil, List.lookup_cons, Nat.reduceAdd, Nat.reduceSub, Nat.reduceLeDiff, Nat.reduceEqDiff, Nat.reduceBEq, List.length_cons, List.length_nil, List.replicate, List.append_nil, List.nil_append, List.cons_append, List.set_cons_zero, List.set_cons_succ, List.take_succ_cons, List.take_zero, List.drop_succ_cons, List.drop_zero, List.reverse_cons, List.reverse_nil, List.map_cons, List.map_nil, List.sum_cons, List.sum_nil, decide_true, decide_false, and_self, and_true, true_and, true_or, or_true, Fin.isValue, Fin.val_zero, Fin.val_one, Fin.val_two, Fin.reduceFinMk, Nat.reduceMod, Option.some.injEq, Sum.inl.injEq, Sum.inr.injEq, Prod.mk.injEq, eq_self, reduceCtorEq, imp_self, implies_true, Nat.zero_add, Nat.add_zero, Nat.zero_le, Int.reduceEq, Int.reduceLT, Int.reduceLE, Int.reduceNeg, not_true, not_false_iff, false_imp_iff, true_imp_iff, forall_const, or_self, or_false, false_or, and_false, false_and, ↓reduceIte, z_0, z_1, z_f1, z_f2, z_f3, Int.reduceToNat, Int.reduceAdd, ct_X3_tallyAims, mi_X3_tallyAims]
      refine ⟨fun _ => ⟨f3, t3⟩, fun q => absurd q (by omega)⟩
    | succ m ih =>
      intro k M3 hk f3 t3 x
      have hs : soA nd d N k = 0 ∨ soA nd d N k = 1 := so_01 _
      have fi := (fc_inv (nd := nd) (d := d) (N := N) k (by omega)).1
      have w2 : w32 ((k : Int) + 1) = (k + 1 : Nat) := by rw [w32_id (by omega) (by omega)]; rfl
      have oka := ok_aim hok hd (a := (k : Int)) (by omega) (by omega)
      have hcla := clo_aim (d := d) (v := cn (k : Int)) hcl
      have ih := ih (k + 1)
      rw [show fcF nd d N (k + 1) = fcF nd d N k + soA nd d N k from rfl] at ih
      generalize fcF nd d N 64 = zz at ih ⊢
      generalize fcF nd d N k = fc at ih fi ⊢
      refine st_X3_tallyAims [] 20 ?_
      simp only [sy, xisC, sxI, xgI, xgL, xgR, xent, xargs0, p1i, p2i, p1l, p2l, pli, p1r, pir, piir, plir, pvr, pdup, pdup2, pret, xjmp, xcon, xfd, xcl_, xcall, xbr, xsw, xtsw, xst1, xst2, xkill, xpush, xcat, xcl, xar, xkd, xrf, xmask, mR, mL, List.getElem?_cons_zero, List.getElem?_cons_succ, List.lookup_nil, List.lookup_cons, Nat.reduceAdd, Nat.reduceSub, Nat.reduceLeDiff, Nat.reduceEqDiff, Nat.reduceBEq, List.length_cons, List.length_nil, List.replicate, List.append_nil, List.nil_append, List.cons_append, List.set_cons_zero, List.set_cons_succ, List.take_succ_cons, List.take_zero, List.drop_succ_cons, List.drop_zero, List.reverse_cons, List.reverse_nil, List.map_cons, List.map_nil, List.sum_cons, List.sum_nil, decide_true, decide_false, and_self, and_true, true_and, true_or, or_true, Fin.isValue, Fin.val_zero, Fin.val_one, Fin.val_two, Fin.reduceFinMk, Nat.reduceMod, Option.some.injEq, Sum.inl.injEq, Sum.inr.injEq, Prod.mk.injEq, eq_self, reduceCtorEq, imp_self, implies_true, Nat.zero_add, Nat.add_zero, Nat.zero_le, Int.reduceEq, Int.reduceLT, Int.reduceLE, Int.reduceNeg, not_true, not_false_iff, false_imp_iff, true_imp_iff, forall_const, or_self, or_false, false_or, and_false, false_and, ↓reduceIte, z_0, z_1, z_f1, z_f2, z_f3, Int.reduceToNat, Int.reduceAdd, ct_X3_tallyAims, mi_X3_tallyAims]
      refine ⟨fun q => absurd q (by omega), fun _ => ?_⟩
      refine CW.mono (c_aimFits (rgq M3 f3) hok hd k (by omega)) ?_
      rintro _ M4 ⟨rfl, f4⟩
      have f4' := frQ_G f3 f4 (Or.inl rfl)
      have t4 : ∀ n c : Nat, n ≤ 20 → c < 64 → M4 20 0 (64 * n + c) = wyF nd d N k n (cn c).toNat := fun n c a b => by rw [f4 20 0 (by omega)]; exact t3 n c a b
      rcases hs with hs | hs
      · rw [hs, Int.add_zero] at ih
        rw [hs]
        refine st_X3_tallyAims [(32, [true, true, true, true, true, true]), (64, [true, true, true, true, true, true])] 20 ?_
        simp only [sy, xisC, sxI, xgI, xgL, xgR, xent, xargs0, p1i, p2i, p1l, p2l, pli, p1r, pir, piir, plir, pvr, pdup, pdup2, pret, xjmp, xcon, xfd, xcl_, xcall, xbr, xsw, xtsw, xst1, xst2, xkill, xpush, xcat, xcl, xar, xkd, xrf, xmask, mR, mL, List.getElem?_cons_zero, List.getElem?_cons_succ, List.lookup_nil, List.lookup_cons, Nat.reduceAdd, Nat.reduceSub, Nat.reduceLeDiff, Nat.reduceEqDiff, Nat.reduceBEq, List.length_cons, List.length_nil, List.replicate, List.append_nil, List.nil_append, List.cons_append, List.set_cons_zero, List.set_cons_succ, List.take_succ_cons, List.take_zero, List.drop_succ_cons, List.drop_zero, List.reverse_cons, List.reverse_nil, List.map_cons, List.map_nil, List.sum_cons, List.sum_nil, decide_true, decide_false, and_self, and_true, true_and, true_or, or_true, Fin.isValue, Fin.val_zero, Fin.val_one, Fin.val_two, Fin.reduceFinMk, Nat.reduceMod, Option.some.injEq, Sum.inl.injEq, Sum.inr.injEq, Prod.mk.injEq, eq_self, reduceCtorEq, imp_self, implies_true, Nat.zero_add, Nat.add_zero, Nat.zero_le, Int.reduceEq, Int.reduceLT, Int.reduceLE, Int.reduceNeg, not_true, not_false_iff, false_imp_iff, true_imp_iff, forall_const, or_self, or_false, false_or, and_false, false_and, ↓reduceIte, z_0, z_1, z_f1, z_f2, z_f3, Int.reduceToNat, Int.reduceAdd, ct_X3_tallyAims, mi_X3_tallyAims]
        refine st_X3_tallyAims [(23, [true, true, true, true, true, true])] 20 ?_
        simp only [sy, xisC, sxI, xgI, xgL, xgR, xent, xargs0, p1i, p2i, p1l, p2l, pli, p1r, pir, piir, plir, pvr, pdup, pdup2, pret, xjmp, xcon, xfd, xcl_, xcall, xbr, xsw, xtsw, xst1, xst2, xkill, xpush, xcat, xcl, xar, xkd, xrf, xmask, mR, mL, List.getElem?_cons_zero, List.getElem?_cons_succ, List.lookup_nil, List.lookup_cons, Nat.reduceAdd, Nat.reduceSub, Nat.reduceLeDiff, Nat.reduceEqDiff, Nat.reduceBEq, List.length_cons, List.length_nil, List.replicate, List.append_nil, List.nil_append, List.cons_append, List.set_cons_zero, List.set_cons_succ, List.take_succ_cons, List.take_zero, List.drop_succ_cons, List.drop_zero, List.reverse_cons, List.reverse_nil, List.map_cons, List.map_nil, List.sum_cons, List.sum_nil, decide_true, decide_false, and_self, and_true, true_and, true_or, or_true, Fin.isValue, Fin.val_zero, Fin.val_one, Fin.val_two, Fin.reduceFinMk, Nat.reduceMod, Option.some.injEq, Sum.inl.injEq, Sum.inr.injEq, Prod.mk.injEq, eq_self, reduceCtorEq, imp_self, implies_true, Nat.zero_add, Nat.add_zero, Nat.zero_le, Int.reduceEq, Int.reduceLT, Int.reduceLE, Int.reduceNeg, not_true, not_false_iff, false_imp_iff, true_imp_iff, forall_const, or_self, or_false, false_or, and_false, false_and, ↓reduceIte, z_0, z_1, z_f1, z_f2, z_f3, Int.reduceToNat, Int.reduceAdd, ct_X3_tallyAims, mi_X3_tallyAims, w2]
        refine ih M4 (by omega) f4' (fun n c a b => ?_) _
        rw [t4 n c a b, wy_s, hs, if_neg (fun z => absurd z.1 (by decide)), Int.add_zero]
      · rw [hs] at ih
        rw [hs]
        have w3 : w32 (fc + 1) = fc + 1 := w32_id (by omega) (by omega)
        have inner : ∀ (m' n : Nat) (M5 : XM), n + m' = 21 → RG M5 1 nd (feetW nd (wb w) n (nu N (6 * d + 2) (cn k))) → frQ M M5 → (∀ n' c : Nat, n' < n → c < 64 → M5 20 0 (64 * n' + c) = wyF nd d N (k + 1) n' (cn c).toNat) → (∀ n' c : Nat, n ≤ n' → n' ≤ 20 → c < 64 → M5 20 0 (64 * n' + c) = wyF nd d N k n' (cn c).toNat) → J_X3_tallyAims (fun r M' => r = some (xI zz) ∧ frQ M M' ∧ ∀ n c : Nat, n ≤ 20 → c < 64 → M' 20 0 (64 * n + c) = wyF nd d N 64 n (cn c).toNat) 39 [some (xR 0 0), some (xI d), some (xI w), some (xI (fc + 1)), some (xI k), some (xI n)] [] M5 := by
          intro m'
          induction m' with
          | zero =>
            intro n M5 hn r5 f5 u5 v5
            have e : n = 21 := by omega
            subst e
            have ih := ih M5 (by omega) f5 (fun n c a b => u5 n c (by omega) b) (some (xI ((21 : Nat) : Int)))
            refine st_X3_tallyAims [(42, [true, true, true, true, true, true]), (64, [true, true, true, true, true, true])] 20 ?_
            simp only [sy, xisC, sxI, xgI, xgL, xgR, xent, xargs0, p1i, p2i, p1l, p2l, pli, p1r, pir, piir, plir, pvr, pdup, pdup2, pret, xjmp, xcon, xfd, xcl_, xcall, xbr, xsw, xtsw, xst1, xst2, xkill, xpush, xcat, xcl, xar, xkd, xrf, xmask, mR, mL, List.getElem?_cons_zero, List.getElem?_cons_succ, List.lookup_nil, List.lookup_cons, Nat.reduceAdd, Nat.reduceSub, Nat.reduceLeDiff, Nat.reduceEqDiff, Nat.reduceBEq, List.length_cons, List.length_nil, List.replicate, List.append_nil, List.nil_append, List.cons_append, List.set_cons_zero, List.set_cons_succ, List.take_succ_cons, List.take_zero, List.drop_succ_cons, List.drop_zero, List.reverse_cons, List.reverse_nil, List.map_cons, List.map_nil, List.sum_cons, List.sum_nil, decide_true, decide_false, and_self, and_true, true_and, true_or, or_true, Fin.isValue, Fin.val_zero, Fin.val_one, Fin.val_two, Fin.reduceFinMk, Nat.reduceMod, Option.some.injEq, Sum.inl.injEq, Sum.inr.injEq, Prod.mk.injEq, eq_self, reduceCtorEq, imp_self, implies_true, Nat.zero_add, Nat.add_zero, Nat.zero_le, Int.reduceEq, Int.reduceLT, Int.reduceLE, Int.reduceNeg, not_true, not_false_iff, false_imp_iff, true_imp_iff, forall_const, or_self, or_false, false_or, and_false, false_and, ↓reduceIte, z_0, z_1, z_f1, z_f2, z_f3, Int.reduceToNat, Int.reduceAdd, ct_X3_tallyAims, mi_X3_tallyAims]
            refine ⟨fun _ => ?_, fun q => absurd q (by omega)⟩
            refine st_X3_tallyAims [(23, [true, true, true, true, true, true])] 20 ?_
            simp only [sy, xisC, sxI, xgI, xgL, xgR, xent, xargs0, p1i, p2i, p1l, p2l, pli, p1r, pir, piir, plir, pvr, pdup, pdup2, pret, xjmp, xcon, xfd, xcl_, xcall, xbr, xsw, xtsw, xst1, xst2, xkill, xpush, xcat, xcl, xar, xkd, xrf, xmask, mR, mL, List.getElem?_cons_zero, List.getElem?_cons_succ, List.lookup_nil, List.lookup_cons, Nat.reduceAdd, Nat.reduceSub, Nat.reduceLeDiff, Nat.reduceEqDiff, Nat.reduceBEq, List.length_cons, List.length_nil, List.replicate, List.append_nil, List.nil_append, List.cons_append, List.set_cons_zero, List.set_cons_succ, List.take_succ_cons, List.take_zero, List.drop_succ_cons, List.drop_zero, List.reverse_cons, List.reverse_nil, List.map_cons, List.map_nil, List.sum_cons, List.sum_nil, decide_true, decide_false, and_self, and_true, true_and, true_or, or_true, Fin.isValue, Fin.val_zero, Fin.val_one, Fin.val_two, Fin.reduceFinMk, Nat.reduceMod, Option.some.injEq, Sum.inl.injEq, Sum.inr.injEq, Prod.mk.injEq, eq_self, reduceCtorEq, imp_self, implies_true, Nat.zero_add, Nat.add_zero, Nat.zero_le, Int.reduceEq, Int.reduceLT, Int.reduceLE, Int.reduceNeg, not_true, not_false_iff, false_imp_iff, true_imp_iff, forall_const, or_self, or_false, false_or, and_false, false_and, ↓reduceIte, z_0, z_1, z_f1, z_f2, z_f3, Int.reduceToNat, Int.reduceAdd, ct_X3_tallyAims, mi_X3_tallyAims, w2]
            exact ih
          | succ m' ih2 =>
            intro n M5 hn r5 f5 u5 v5
            have okn := ok_feetW (who := wb w) oka n
            have ga := (r5.2.2.2.2.2.1 d hd).2.1
            rw [(ag_feet oka hcla n).1.1 d hd hw 1 (by decide)] at ga
            have hC := ((ok_feetW (who := al) oka n).2.1 d hd).2.1
            obtain ⟨xx, yy, hx, hy, ec⟩ := isC_xy hC
            have hv : ∀ c : Nat, c < 64 → wyF nd d N (k + 1) n (cn c).toNat = wyF nd d N k n (cn c).toNat + (if c = 8 * xx + yy then 1 else 0) := fun c hc => by
              rw [wy_s, hs, ec]
              congr 1
              by_cases q : c = 8 * xx + yy
              · rw [if_pos q, if_pos ⟨rfl, by unfold cn; omega⟩]
              · rw [if_neg q, if_neg (fun z => q (by have := z.2; unfold cn at this; omega))]
            rw [ec, show nc (10 * (xx : Int) + yy) = ((8 * xx + yy : Nat) : Int) by unfold nc; omega] at ga
            have gt := v5 n (8 * xx + yy) (Nat.le_refl _) (by omega) (by omega)
            have rt := wy_rng (nd := nd) (d := d) (N := N) (n := n) (p := (cn ((8 * xx + yy : Nat) : Int)).toNat) k
            have hvv := hv (8 * xx + yy) (by omega)
            rw [if_pos rfl] at hvv
            rw [← gt] at hvv rt
            generalize HV : M5 20 0 (64 * n + (8 * xx + yy)) = tv at hvv rt gt
            have w4 : w32 ((n : Int) + 1) = (n + 1 : Nat) := by rw [w32_id (by omega) (by omega)]; rfl
            have a1 : w32 ((n : Int) * 64) = 64 * n := by rw [w32_id (by omega) (by omega)]; omega
            have a2 : w32 (64 * (n : Int) + ((8 * xx + yy : Nat) : Int)) = 64 * n + ((8 * xx + yy : Nat) : Int) := w32_id (by omega) (by omega)
            have a3 : (64 * (n : Int) + ((8 * xx + yy : Nat) : Int)).toNat = 64 * n + (8 * xx + yy) := by omega
            have a4 : w32 (tv + 1) = tv + 1 := w32_id (by omega) (by omega)
            refine st_X3_tallyAims [(53, [true, true, true, true, true, true])] 20 ?_
            simp only [sy, xisC, sxI, xgI, xgL, xgR, xent, xargs0, p1i, p2i, p1l, p2l, pli, p1r, pir, piir, plir, pvr, pdup, pdup2, pret, xjmp, xcon, xfd, xcl_, xcall, xbr, xsw, xtsw, xst1, xst2, xkill, xpush, xcat, xcl, xar, xkd, xrf, xmask, mR, mL, List.getElem?_cons_zero, List.getElem?_cons_succ, List.lookup_nil, List.lookup_cons, Nat.reduceAdd, Nat.reduceSub, Nat.reduceLeDiff, Nat.reduceEqDiff, Nat.reduceBEq, List.length_cons, List.length_nil, List.replicate, List.append_nil, List.nil_append, List.cons_append, List.set_cons_zero, List.set_cons_succ, List.take_succ_cons, List.take_zero, List.drop_succ_cons, List.drop_zero, List.reverse_cons, List.reverse_nil, List.map_cons, List.map_nil, List.sum_cons, List.sum_nil, decide_true, decide_false, and_self, and_true, true_and, true_or, or_true, Fin.isValue, Fin.val_zero, Fin.val_one, Fin.val_two, Fin.reduceFinMk, Nat.reduceMod, Option.some.injEq, Sum.inl.injEq, Sum.inr.injEq, Prod.mk.injEq, eq_self, reduceCtorEq, imp_self, implies_true, Nat.zero_add, Nat.add_zero, Nat.zero_le, Int.reduceEq, Int.reduceLT, Int.reduceLE, Int.reduceNeg, not_true, not_false_iff, false_imp_iff, true_imp_iff, forall_const, or_self, or_false, false_or, and_false, false_and, ↓reduceIte, z_0, z_1, z_f1, z_f2, z_f3, Int.reduceToNat, Int.reduceAdd, ct_X3_tallyAims, mi_X3_tallyAims, a1, a2, ga, Int.toNat_natCast]
            refine ⟨fun q => absurd q (by omega), fun _ => ⟨by omega, ?_⟩⟩
            refine st_X3_tallyAims [(57, [true, true, true, true, true, true])] 20 ?_
            simp only [sy, xisC, sxI, xgI, xgL, xgR, xent, xargs0, p1i, p2i, p1l, p2l, pli, p1r, pir, piir, plir, pvr, pdup, pdup2, pret, xjmp, xcon, xfd, xcl_, xcall, xbr, xsw, xtsw, xst1, xst2, xkill, xpush, xcat, xcl, xar, xkd, xrf, xmask, mR, mL, List.getElem?_cons_zero, List.getElem?_cons_succ, List.lookup_nil, List.lookup_cons, Nat.reduceAdd, Nat.reduceSub, Nat.reduceLeDiff, Nat.reduceEqDiff, Nat.reduceBEq, List.length_cons, List.length_nil, List.replicate, List.append_nil, List.nil_append, List.cons_append, List.set_cons_zero, List.set_cons_succ, List.take_succ_cons, List.take_zero, List.drop_succ_cons, List.drop_zero, List.reverse_cons, List.reverse_nil, List.map_cons, List.map_nil, List.sum_cons, List.sum_nil, decide_true, decide_false, and_self, and_true, true_and, true_or, or_true, Fin.isValue, Fin.val_zero, Fin.val_one, Fin.val_two, Fin.reduceFinMk, Nat.reduceMod, Option.some.injEq, Sum.inl.injEq, Sum.inr.injEq, Prod.mk.injEq, eq_self, reduceCtorEq, imp_self, implies_true, Nat.zero_add, Nat.add_zero, Nat.zero_le, Int.reduceEq, Int.reduceLT, Int.reduceLE, Int.reduceNeg, not_true, not_false_iff, false_imp_iff, true_imp_iff, forall_const, or_self, or_false, false_or, and_false, false_and, ↓reduceIte, z_0, z_1, z_f1, z_f2, z_f3, Int.reduceToNat, Int.reduceAdd, ct_X3_tallyAims, mi_X3_tallyAims, a3, HV, a4]
            refine ⟨by omega, ?_⟩
            refine st_X3_tallyAims [] 20 ?_
            simp only [sy, xisC, sxI, xgI, xgL, xgR, xent, xargs0, p1i, p2i, p1l, p2l, pli, p1r, pir, piir, plir, pvr, pdup, pdup2, pret, xjmp, xcon, xfd, xcl_, xcall, xbr, xsw, xtsw, xst1, xst2, xkill, xpush, xcat, xcl, xar, xkd, xrf, xmask, mR, mL, List.getElem?_cons_zero, List.getElem?_cons_succ, List.lookup_nil, List.lookup_cons, Nat.reduceAdd, Nat.reduceSub, Nat.reduceLeDiff, Nat.reduceEqDiff, Nat.reduceBEq, List.length_cons, List.length_nil, List.replicate, List.append_nil, List.nil_append, List.cons_append, List.set_cons_zero, List.set_cons_succ, List.take_succ_cons, List.take_zero, List.drop_succ_cons, List.drop_zero, List.reverse_cons, List.reverse_nil, List.map_cons, List.map_nil, List.sum_cons, List.sum_nil, decide_true, decide_false, and_self, and_true, true_and, true_or, or_true, Fin.isValue, Fin.val_zero, Fin.val_one, Fin.val_two, Fin.reduceFinMk, Nat.reduceMod, Option.some.injEq, Sum.inl.injEq, Sum.inr.injEq, Prod.mk.injEq, eq_self, reduceCtorEq, imp_self, implies_true, Nat.zero_add, Nat.add_zero, Nat.zero_le, Int.reduceEq, Int.reduceLT, Int.reduceLE, Int.reduceNeg, not_true, not_false_iff, false_imp_iff, true_imp_iff, forall_const, or_self, or_false, false_or, and_false, false_and, ↓reduceIte, z_0, z_1, z_f1, z_f2, z_f3, Int.reduceToNat, Int.reduceAdd, ct_X3_tallyAims, mi_X3_tallyAims, a3]
            refine ⟨by omega, ?_⟩
            have r6 : RG (xup M5 20 0 (64 * n + (8 * xx + yy)) (tv + 1)) 1 nd (feetW nd (wb w) n (nu N (6 * d + 2) (cn k))) := RG_fr r5 (fun t a c => by rw [xup_t (by omega)])
            refine CW.mono (c_goFoot r6 okn w w0 w1) ?_
            rintro _ M7 ⟨rfl, r7, f7⟩
            refine st_X3_tallyAims [(39, [true, true, true, true, true, true])] 20 ?_
            simp only [sy, xisC, sxI, xgI, xgL, xgR, xent, xargs0, p1i, p2i, p1l, p2l, pli, p1r, pir, piir, plir, pvr, pdup, pdup2, pret, xjmp, xcon, xfd, xcl_, xcall, xbr, xsw, xtsw, xst1, xst2, xkill, xpush, xcat, xcl, xar, xkd, xrf, xmask, mR, mL, List.getElem?_cons_zero, List.getElem?_cons_succ, List.lookup_nil, List.lookup_cons, Nat.reduceAdd, Nat.reduceSub, Nat.reduceLeDiff, Nat.reduceEqDiff, Nat.reduceBEq, List.length_cons, List.length_nil, List.replicate, List.append_nil, List.nil_append, List.cons_append, List.set_cons_zero, List.set_cons_succ, List.take_succ_cons, List.take_zero, List.drop_succ_cons, List.drop_zero, List.reverse_cons, List.reverse_nil, List.map_cons, List.map_nil, List.sum_cons, List.sum_nil, decide_true, decide_false, and_self, and_true, true_and, true_or, or_true, Fin.isValue, Fin.val_zero, Fin.val_one, Fin.val_two, Fin.reduceFinMk, Nat.reduceMod, Option.some.injEq, Sum.inl.injEq, Sum.inr.injEq, Prod.mk.injEq, eq_self, reduceCtorEq, imp_self, implies_true, Nat.zero_add, Nat.add_zero, Nat.zero_le, Int.reduceEq, Int.reduceLT, Int.reduceLE, Int.reduceNeg, not_true, not_false_iff, false_imp_iff, true_imp_iff, forall_const, or_self, or_false, false_or, and_false, false_and, ↓reduceIte, z_0, z_1, z_f1, z_f2, z_f3, Int.reduceToNat, Int.reduceAdd, ct_X3_tallyAims, mi_X3_tallyAims, w4]
            refine ih2 (n + 1) M7 (by omega) r7 (frQ_G (frQ_up f5 (by omega)) f7 (Or.inl rfl)) (fun n' c a b => ?_) (fun n' c a a' b => ?_)
            · rw [f7 20 0 (by omega), xup_s]
              by_cases q : n' = n
              · subst q
                rw [hv c b]
                by_cases q2 : c = 8 * xx + yy
                · subst q2; rw [if_pos rfl, if_pos rfl, ← gt]
                · rw [if_neg (by omega), if_neg q2, Int.add_zero]; exact v5 n' c (Nat.le_refl _) (by omega) b
              · rw [if_neg (by omega)]; exact u5 n' c (by omega) b
            · rw [f7 20 0 (by omega), xup_s, if_neg (by omega)]; exact v5 n' c (by omega) a' b
        refine st_X3_tallyAims [(32, [true, true, true, true, true, true])] 20 ?_
        simp only [sy, xisC, sxI, xgI, xgL, xgR, xent, xargs0, p1i, p2i, p1l, p2l, pli, p1r, pir, piir, plir, pvr, pdup, pdup2, pret, xjmp, xcon, xfd, xcl_, xcall, xbr, xsw, xtsw, xst1, xst2, xkill, xpush, xcat, xcl, xar, xkd, xrf, xmask, mR, mL, List.getElem?_cons_zero, List.getElem?_cons_succ, List.lookup_nil, List.lookup_cons, Nat.reduceAdd, Nat.reduceSub, Nat.reduceLeDiff, Nat.reduceEqDiff, Nat.reduceBEq, List.length_cons, List.length_nil, List.replicate, List.append_nil, List.nil_append, List.cons_append, List.set_cons_zero, List.set_cons_succ, List.take_succ_cons, List.take_zero, List.drop_succ_cons, List.drop_zero, List.reverse_cons, List.reverse_nil, List.map_cons, List.map_nil, List.sum_cons, List.sum_nil, decide_true, decide_false, and_self, and_true, true_and, true_or, or_true, Fin.isValue, Fin.val_zero, Fin.val_one, Fin.val_two, Fin.reduceFinMk, Nat.reduceMod, Option.some.injEq, Sum.inl.injEq, Sum.inr.injEq, Prod.mk.injEq, eq_self, reduceCtorEq, imp_self, implies_true, Nat.zero_add, Nat.add_zero, Nat.zero_le, Int.reduceEq, Int.reduceLT, Int.reduceLE, Int.reduceNeg, not_true, not_false_iff, false_imp_iff, true_imp_iff, forall_const, or_self, or_false, false_or, and_false, false_and, ↓reduceIte, z_0, z_1, z_f1, z_f2, z_f3, Int.reduceToNat, Int.reduceAdd, ct_X3_tallyAims, mi_X3_tallyAims, n1z]
        refine st_X3_tallyAims [] 20 ?_
        simp only [sy, xisC, sxI, xgI, xgL, xgR, xent, xargs0, p1i, p2i, p1l, p2l, pli, p1r, pir, piir, plir, pvr, pdup, pdup2, pret, xjmp, xcon, xfd, xcl_, xcall, xbr, xsw, xtsw, xst1, xst2, xkill, xpush, xcat, xcl, xar, xkd, xrf, xmask, mR, mL, List.getElem?_cons_zero, List.getElem?_cons_succ, List.lookup_nil, List.lookup_cons, Nat.reduceAdd, Nat.reduceSub, Nat.reduceLeDiff, Nat.reduceEqDiff, Nat.reduceBEq, List.length_cons, List.length_nil, List.replicate, List.append_nil, List.nil_append, List.cons_append, List.set_cons_zero, List.set_cons_succ, List.take_succ_cons, List.take_zero, List.drop_succ_cons, List.drop_zero, List.reverse_cons, List.reverse_nil, List.map_cons, List.map_nil, List.sum_cons, List.sum_nil, decide_true, decide_false, and_self, and_true, true_and, true_or, or_true, Fin.isValue, Fin.val_zero, Fin.val_one, Fin.val_two, Fin.reduceFinMk, Nat.reduceMod, Option.some.injEq, Sum.inl.injEq, Sum.inr.injEq, Prod.mk.injEq, eq_self, reduceCtorEq, imp_self, implies_true, Nat.zero_add, Nat.add_zero, Nat.zero_le, Int.reduceEq, Int.reduceLT, Int.reduceLE, Int.reduceNeg, not_true, not_false_iff, false_imp_iff, true_imp_iff, forall_const, or_self, or_false, false_or, and_false, false_and, ↓reduceIte, z_0, z_1, z_f1, z_f2, z_f3, Int.reduceToNat, Int.reduceAdd, ct_X3_tallyAims, mi_X3_tallyAims, w3]
        refine CW.mono (c_tryAim (rgq M4 f4') hok hd k (by omega)) ?_
        rintro _ M5 ⟨rfl, r5, f5⟩
        refine st_X3_tallyAims [(39, [true, true, true, true, true, true])] 20 ?_
        simp only [sy, xisC, sxI, xgI, xgL, xgR, xent, xargs0, p1i, p2i, p1l, p2l, pli, p1r, pir, piir, plir, pvr, pdup, pdup2, pret, xjmp, xcon, xfd, xcl_, xcall, xbr, xsw, xtsw, xst1, xst2, xkill, xpush, xcat, xcl, xar, xkd, xrf, xmask, mR, mL, List.getElem?_cons_zero, List.getElem?_cons_succ, List.lookup_nil, List.lookup_cons, Nat.reduceAdd, Nat.reduceSub, Nat.reduceLeDiff, Nat.reduceEqDiff, Nat.reduceBEq, List.length_cons, List.length_nil, List.replicate, List.append_nil, List.nil_append, List.cons_append, List.set_cons_zero, List.set_cons_succ, List.take_succ_cons, List.take_zero, List.drop_succ_cons, List.drop_zero, List.reverse_cons, List.reverse_nil, List.map_cons, List.map_nil, List.sum_cons, List.sum_nil, decide_true, decide_false, and_self, and_true, true_and, true_or, or_true, Fin.isValue, Fin.val_zero, Fin.val_one, Fin.val_two, Fin.reduceFinMk, Nat.reduceMod, Option.some.injEq, Sum.inl.injEq, Sum.inr.injEq, Prod.mk.injEq, eq_self, reduceCtorEq, imp_self, implies_true, Nat.zero_add, Nat.add_zero, Nat.zero_le, Int.reduceEq, Int.reduceLT, Int.reduceLE, Int.reduceNeg, not_true, not_false_iff, false_imp_iff, true_imp_iff, forall_const, or_self, or_false, false_or, and_false, false_and, ↓reduceIte, z_0, z_1, z_f1, z_f2, z_f3, Int.reduceToNat, Int.reduceAdd, ct_X3_tallyAims, mi_X3_tallyAims]
        exact inner 21 0 M5 rfl r5 (frQ_G f4' f5 (Or.inl rfl)) (fun n' c a => absurd a (by omega)) (fun n' c _ a b => by rw [f5 20 0 (by omega)]; exact t4 n' c a b)
  have clr : ∀ (m k : Nat) (M3 : XM), k + m = 1344 → frQ M M3 → (∀ j, j < k → M3 20 0 j = 0) → J_X3_tallyAims (fun r M' => r = some (xI (fcF nd d N 64)) ∧ frQ M M' ∧ ∀ n c : Nat, n ≤ 20 → c < 64 → M' 20 0 (64 * n + c) = wyF nd d N 64 n (cn c).toNat) 2 [some (xR 0 0), some (xI d), some (xI k), none, none, none] [] M3 := by
    intro m
    induction m with
    | zero =>
      intro k M3 hk f3 z3
      have e : k = 1344 := by omega
      subst e
      refine st_X3_tallyAims [(7, [true, true, true, true, true, true]), (14, [true, true, true, true, true, true])] 20 ?_
      simp only [sy, xisC, sxI, xgI, xgL, xgR, xent, xargs0, p1i, p2i, p1l, p2l, pli, p1r, pir, piir, plir, pvr, pdup, pdup2, pret, xjmp, xcon, xfd, xcl_, xcall, xbr, xsw, xtsw, xst1, xst2, xkill, xpush, xcat, xcl, xar, xkd, xrf, xmask, mR, mL, List.getElem?_cons_zero, List.getElem?_cons_succ, List.lookup_nil, List.lookup_cons, Nat.reduceAdd, Nat.reduceSub, Nat.reduceLeDiff, Nat.reduceEqDiff, Nat.reduceBEq, List.length_cons, List.length_nil, List.replicate, List.append_nil, List.nil_append, List.cons_append, List.set_cons_zero, List.set_cons_succ, List.take_succ_cons, List.take_zero, List.drop_succ_cons, List.drop_zero, List.reverse_cons, List.reverse_nil, List.map_cons, List.map_nil, List.sum_cons, List.sum_nil, decide_true, decide_false, and_self, and_true, true_and, true_or, or_true, Fin.isValue, Fin.val_zero, Fin.val_one, Fin.val_two, Fin.reduceFinMk, Nat.reduceMod, Option.some.injEq, Sum.inl.injEq, Sum.inr.injEq, Prod.mk.injEq, eq_self, reduceCtorEq, imp_self, implies_true, Nat.zero_add, Nat.add_zero, Nat.zero_le, Int.reduceEq, Int.reduceLT, Int.reduceLE, Int.reduceNeg, not_true, not_false_iff, false_imp_iff, true_imp_iff, forall_const, or_self, or_false, false_or, and_false, false_and, ↓reduceIte, z_0, z_1, z_f1, z_f2, z_f3, Int.reduceToNat, Int.reduceAdd, ct_X3_tallyAims, mi_X3_tallyAims]
      refine ⟨fun _ => ?_, fun q => absurd q (by omega)⟩
      refine st_X3_tallyAims [] 20 ?_
      simp only [sy, xisC, sxI, xgI, xgL, xgR, xent, xargs0, p1i, p2i, p1l, p2l, pli, p1r, pir, piir, plir, pvr, pdup, pdup2, pret, xjmp, xcon, xfd, xcl_, xcall, xbr, xsw, xtsw, xst1, xst2, xkill, xpush, xcat, xcl, xar, xkd, xrf, xmask, mR, mL, List.getElem?_cons_zero, List.getElem?_cons_succ, List.lookup_nil, List.lookup_cons, Nat.reduceAdd, Nat.reduceSub, Nat.reduceLeDiff, Nat.reduceEqDiff, Nat.reduceBEq, List.length_cons, List.length_nil, List.replicate, List.append_nil, List.nil_append, List.cons_append, List.set_cons_zero, List.set_cons_succ, List.take_succ_cons, List.take_zero, List.drop_succ_cons, List.drop_zero, List.reverse_cons, List.reverse_nil, List.map_cons, List.map_nil, List.sum_cons, List.sum_nil, decide_true, decide_false, and_self, and_true, true_and, true_or, or_true, Fin.isValue, Fin.val_zero, Fin.val_one, Fin.val_two, Fin.reduceFinMk, Nat.reduceMod, Option.some.injEq, Sum.inl.injEq, Sum.inr.injEq, Prod.mk.injEq, eq_self, reduceCtorEq, imp_self, implies_true, Nat.zero_add, Nat.add_zero, Nat.zero_le, Int.reduceEq, Int.reduceLT, Int.reduceLE, Int.reduceNeg, not_true, not_false_iff, false_imp_iff, true_imp_iff, forall_const, or_self, or_false, false_or, and_false, false_and, ↓reduceIte, z_0, z_1, z_f1, z_f2, z_f3, Int.reduceToNat, Int.reduceAdd, ct_X3_tallyAims, mi_X3_tallyAims]
      refine CW.mono (c_bearingOn (rgq M3 f3) hok hd) ?_
      rintro _ M5 ⟨w, rfl, hM5, w0, w1, hw, hcl⟩
      rw [hM5]; clear hM5 M5
      have lp := loop w w0 w1 hw hcl 64 0 M3 rfl f3 (fun n c a b => by rw [z3 _ (by omega)]; rfl) none
      rw [show fcF nd d N 0 = 0 from rfl] at lp
      generalize fcF nd d N 64 = zz at lp ⊢
      refine st_X3_tallyAims [(23, [true, true, true, true, true, true])] 20 ?_
      simp only [sy, xisC, sxI, xgI, xgL, xgR, xent, xargs0, p1i, p2i, p1l, p2l, pli, p1r, pir, piir, plir, pvr, pdup, pdup2, pret, xjmp, xcon, xfd, xcl_, xcall, xbr, xsw, xtsw, xst1, xst2, xkill, xpush, xcat, xcl, xar, xkd, xrf, xmask, mR, mL, List.getElem?_cons_zero, List.getElem?_cons_succ, List.lookup_nil, List.lookup_cons, Nat.reduceAdd, Nat.reduceSub, Nat.reduceLeDiff, Nat.reduceEqDiff, Nat.reduceBEq, List.length_cons, List.length_nil, List.replicate, List.append_nil, List.nil_append, List.cons_append, List.set_cons_zero, List.set_cons_succ, List.take_succ_cons, List.take_zero, List.drop_succ_cons, List.drop_zero, List.reverse_cons, List.reverse_nil, List.map_cons, List.map_nil, List.sum_cons, List.sum_nil, decide_true, decide_false, and_self, and_true, true_and, true_or, or_true, Fin.isValue, Fin.val_zero, Fin.val_one, Fin.val_two, Fin.reduceFinMk, Nat.reduceMod, Option.some.injEq, Sum.inl.injEq, Sum.inr.injEq, Prod.mk.injEq, eq_self, reduceCtorEq, imp_self, implies_true, Nat.zero_add, Nat.add_zero, Nat.zero_le, Int.reduceEq, Int.reduceLT, Int.reduceLE, Int.reduceNeg, not_true, not_false_iff, false_imp_iff, true_imp_iff, forall_const, or_self, or_false, false_or, and_false, false_and, ↓reduceIte, z_0, z_1, z_f1, z_f2, z_f3, Int.reduceToNat, Int.reduceAdd, ct_X3_tallyAims, mi_X3_tallyAims]
      exact lp
    | succ m ih =>
      intro k M3 hk f3 z3
      have w2 : w32 ((k : Int) + 1) = (k + 1 : Nat) := by rw [w32_id (by omega) (by omega)]; rfl
      have ih := ih (k + 1) (xup M3 20 0 k 0) (by omega) (frQ_up f3 (by omega)) (fun j hj => by
        rw [xup_s]
        by_cases q : j = k
        · rw [if_pos q]
        · rw [if_neg q]; exact z3 j (by omega))
      generalize fcF nd d N 64 = zz at ih ⊢
      refine st_X3_tallyAims [(2, [true, true, true, true, true, true])] 20 ?_
      simp only [sy, xisC, sxI, xgI, xgL, xgR, xent, xargs0, p1i, p2i, p1l, p2l, pli, p1r, pir, piir, plir, pvr, pdup, pdup2, pret, xjmp, xcon, xfd, xcl_, xcall, xbr, xsw, xtsw, xst1, xst2, xkill, xpush, xcat, xcl, xar, xkd, xrf, xmask, mR, mL, List.getElem?_cons_zero, List.getElem?_cons_succ, List.lookup_nil, List.lookup_cons, Nat.reduceAdd, Nat.reduceSub, Nat.reduceLeDiff, Nat.reduceEqDiff, Nat.reduceBEq, List.length_cons, List.length_nil, List.replicate, List.append_nil, List.nil_append, List.cons_append, List.set_cons_zero, List.set_cons_succ, List.take_succ_cons, List.take_zero, List.drop_succ_cons, List.drop_zero, List.reverse_cons, List.reverse_nil, List.map_cons, List.map_nil, List.sum_cons, List.sum_nil, decide_true, decide_false, and_self, and_true, true_and, true_or, or_true, Fin.isValue, Fin.val_zero, Fin.val_one, Fin.val_two, Fin.reduceFinMk, Nat.reduceMod, Option.some.injEq, Sum.inl.injEq, Sum.inr.injEq, Prod.mk.injEq, eq_self, reduceCtorEq, imp_self, implies_true, Nat.zero_add, Nat.add_zero, Nat.zero_le, Int.reduceEq, Int.reduceLT, Int.reduceLE, Int.reduceNeg, not_true, not_false_iff, false_imp_iff, true_imp_iff, forall_const, or_self, or_false, false_or, and_false, false_and, ↓reduceIte, z_0, z_1, z_f1, z_f2, z_f3, Int.reduceToNat, Int.reduceAdd, ct_X3_tallyAims, mi_X3_tallyAims, w2, Int.toNat_natCast]
      exact ⟨fun q => absurd q (by omega), fun _ => ⟨by omega, ih⟩⟩
  refine in_X3_tallyAims (Nat.le_of_ble_eq_true rfl) ?_
  refine st_X3_tallyAims [(2, [true, true, true, true, true, true])] 8 ?_
  simp only [sy, xisC, sxI, xgI, xgL, xgR, xent, xargs0, p1i, p2i, p1l, p2l, pli, p1r, pir, piir, plir, pvr, pdup, pdup2, pret, xjmp, xcon, xfd, xcl_, xcall, xbr, xsw, xtsw, xst1, xst2, xkill, xpush, xcat, xcl, xar, xkd, xrf, xmask, mR, mL, List.getElem?_cons_zero, List.getElem?_cons_succ, List.lookup_nil, List.lookup_cons, Nat.reduceAdd, Nat.reduceSub, Nat.reduceLeDiff, Nat.reduceEqDiff, Nat.reduceBEq, List.length_cons, List.length_nil, List.replicate, List.append_nil, List.nil_append, List.cons_append, List.set_cons_zero, List.set_cons_succ, List.take_succ_cons, List.take_zero, List.drop_succ_cons, List.drop_zero, List.reverse_cons, List.reverse_nil, List.map_cons, List.map_nil, List.sum_cons, List.sum_nil, decide_true, decide_false, and_self, and_true, true_and, true_or, or_true, Fin.isValue, Fin.val_zero, Fin.val_one, Fin.val_two, Fin.reduceFinMk, Nat.reduceMod, Option.some.injEq, Sum.inl.injEq, Sum.inr.injEq, Prod.mk.injEq, eq_self, reduceCtorEq, imp_self, implies_true, Nat.zero_add, Nat.add_zero, Nat.zero_le, Int.reduceEq, Int.reduceLT, Int.reduceLE, Int.reduceNeg, not_true, not_false_iff, false_imp_iff, true_imp_iff, forall_const, or_self, or_false, false_or, and_false, false_and, ↓reduceIte, z_0, z_1, z_f1, z_f2, z_f3, Int.reduceToNat, Int.reduceAdd, ct_X3_tallyAims, mi_X3_tallyAims]
  exact clr 1344 0 M rfl frQ_rf (fun j hj => absurd hj (by omega))

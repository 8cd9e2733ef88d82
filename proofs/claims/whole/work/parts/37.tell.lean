/-! ===== public methods: tell, see ===== -/
theorem okN_addw {nd n : Nat} {N : Nat → Int} {p q r : Int} (h : okN nd N) (hn : N 33 = n) (h6 : n < 6) (hp : (0 ≤ p ∧ p ≤ 20)) (hq : (0 ≤ q ∧ q < nd)) (hr : isC r) : okN nd (nu (nu (nu (nu N (34 + 3 * n) p) (34 + 3 * n + 1) q) (34 + 3 * n + 2) r) 33 ((n : Int) + 1)) := by
  obtain ⟨h1, h2, h3, h4, h5, h6', h7, h8⟩ := h
  refine ⟨h1, fun e he => ?_, ?_, fun x hx => ?_, ?_, fun j hj => ?_, ?_, fun j hj => ?_⟩
  · have h9 := h2 e he
    unfold okD at h9 ⊢
    have k : ∀ f, f < 6 → (nu (nu (nu (nu N (34 + 3 * n) p) (34 + 3 * n + 1) q) (34 + 3 * n + 2) r) 33 ((n : Int) + 1)) (6 * e + f) = N (6 * e + f) := fun f hf => by rw [nu_k (by omega), nu_k (by omega), nu_k (by omega), nu_k (by omega)]
    rw [show (nu (nu (nu (nu N (34 + 3 * n) p) (34 + 3 * n + 1) q) (34 + 3 * n + 2) r) 33 ((n : Int) + 1)) (6 * e) = N (6 * e) from k 0 (by decide), k 1 (by decide), k 2 (by decide), k 3 (by decide), k 4 (by decide), k 5 (by decide)]
    exact h9
  · rw [nu_k (by omega), nu_k (by omega), nu_k (by omega), nu_k (by omega)]; exact h3
  · rw [nu_k (by omega), nu_k (by omega), nu_k (by omega), nu_k (by omega)]; exact h4 x hx
  · rw [nu_e]; omega
  · rw [nu_e] at hj
    by_cases hjn : j = n
    · subst hjn
      rw [nu_k (by omega), nu_k (by omega), nu_k (by omega), nu_e, nu_k (by omega), nu_k (by omega), nu_e, nu_k (by omega), nu_e]
      exact ⟨hp, hq, hr⟩
    · rw [nu_k (by omega), nu_k (by omega), nu_k (by omega), nu_k (by omega), nu_k (by omega), nu_k (by omega), nu_k (by omega), nu_k (by omega), nu_k (by omega), nu_k (by omega), nu_k (by omega), nu_k (by omega)]
      exact h6' j (by omega)
  · rw [nu_k (by omega), nu_k (by omega), nu_k (by omega), nu_k (by omega)]; exact h7
  · rw [nu_k (by omega), nu_k (by omega), nu_k (by omega), nu_k (by omega)] at hj
    rw [nu_k (by omega), nu_k (by omega), nu_k (by omega), nu_k (by omega), nu_k (by omega), nu_k (by omega), nu_k (by omega), nu_k (by omega), nu_k (by omega), nu_k (by omega), nu_k (by omega), nu_k (by omega)]
    exact h8 j hj
theorem RG_addw {M : XM} {i : Fin 5} {nd n : Nat} {N : Nat → Int} {p q r : Int} (hok : okN nd N) (h : RG M i nd N) (hn : N 33 = n) (h6 : n < 6) : RG (xup (xup (xup (xup M 7 i n p) 8 i n q) 9 i n (nc r)) 1 i 9 ((n : Int) + 1)) i nd (nu (nu (nu (nu N (34 + 3 * n) p) (34 + 3 * n + 1) q) (34 + 3 * n + 2) r) 33 ((n : Int) + 1)) := by
  obtain ⟨a1, a2, a3, a4, a5, a6, a7, a8, a9⟩ := h
  have h4 := hok.1
  have h33 := hok.2.2.2.2.1
  have h52 := hok.2.2.2.2.2.2.1
  refine ⟨?_, ?_, ?_, ?_, ?_, fun d hd => ?_, fun x y hx hy => ?_, fun j hj => ?_, fun j hj => ?_⟩
  · rw [xup_k (by decide), xup_t (by decide), xup_t (by decide), xup_t (by decide)]; exact a1
  · rw [xup_k (by decide), xup_t (by decide), xup_t (by decide), xup_t (by decide)]
    have u : ∀ k, k < 24 → (nu (nu (nu (nu N (34 + 3 * n) p) (34 + 3 * n + 1) q) (34 + 3 * n + 2) r) 33 ((n : Int) + 1)) k = N k := fun k hk => by rw [nu_k (by omega), nu_k (by omega), nu_k (by omega), nu_k (by omega)]
    unfold upm
    rw [u 5 (by decide), u 11 (by decide), u 17 (by decide), u 23 (by decide)]
    exact a2
  · rw [xup_k (by decide), xup_t (by decide), xup_t (by decide), xup_t (by decide), nu_k (by omega), nu_k (by omega), nu_k (by omega), nu_k (by omega)]; exact a3
  · rw [xup_e, nu_e]
  · rw [xup_k (by decide), xup_t (by decide), xup_t (by decide), xup_t (by decide), nu_k (by omega), nu_k (by omega), nu_k (by omega), nu_k (by omega)]; exact a5
  · have x7 : ∀ t, t ≠ 7 → t ≠ 8 → t ≠ 9 → t ≠ 1 → (xup (xup (xup (xup M 7 i n p) 8 i n q) 9 i n (nc r)) 1 i 9 ((n : Int) + 1)) t = M t := fun t u1 u2 u3 u4 => by rw [xup_t u4, xup_t u3, xup_t u2, xup_t u1]
    have u : ∀ k, k < 24 → (nu (nu (nu (nu N (34 + 3 * n) p) (34 + 3 * n + 1) q) (34 + 3 * n + 2) r) 33 ((n : Int) + 1)) k = N k := fun k hk => by rw [nu_k (by omega), nu_k (by omega), nu_k (by omega), nu_k (by omega)]
    rw [x7 2 (by decide) (by decide) (by decide) (by decide), x7 3 (by decide) (by decide) (by decide) (by decide), x7 4 (by decide) (by decide) (by decide) (by decide), x7 5 (by decide) (by decide) (by decide) (by decide), x7 6 (by decide) (by decide) (by decide) (by decide), u _ (by omega), u _ (by omega), u _ (by omega), u _ (by omega), u _ (by omega)]
    exact a6 d hd
  · rw [xup_k (by decide), xup_t (by decide), xup_t (by decide), xup_t (by decide), nu_k (by omega), nu_k (by omega), nu_k (by omega), nu_k (by omega)]
    exact a7 x y hx hy
  · rw [nu_e] at hj
    have x1 : ∀ t, t ≠ 1 → (xup (xup (xup (xup M 7 i n p) 8 i n q) 9 i n (nc r)) 1 i 9 ((n : Int) + 1)) t = (xup (xup (xup M 7 i n p) 8 i n q) 9 i n (nc r)) t := fun t u => xup_t u
    rw [x1 7 (by decide), x1 8 (by decide), x1 9 (by decide)]
    by_cases hjn : j = n
    · subst hjn
      rw [nu_k (by omega), nu_k (by omega), nu_k (by omega), nu_e, nu_k (by omega), nu_k (by omega), nu_e, nu_k (by omega), nu_e]
      refine ⟨?_, ?_, ?_⟩
      · rw [xup_t (by decide), xup_t (by decide), xup_e]
      · rw [xup_t (by decide), xup_e]
      · rw [xup_e]
    · rw [nu_k (by omega), nu_k (by omega), nu_k (by omega), nu_k (by omega), nu_k (by omega), nu_k (by omega), nu_k (by omega), nu_k (by omega), nu_k (by omega), nu_k (by omega), nu_k (by omega), nu_k (by omega)]
      refine ⟨?_, ?_, ?_⟩
      · rw [xup_t (by decide), xup_t (by decide), xup_k hjn]; exact (a8 j (by omega)).1
      · rw [xup_t (by decide), xup_k hjn, xup_t (by decide)]; exact (a8 j (by omega)).2.1
      · rw [xup_k hjn, xup_t (by decide), xup_t (by decide)]; exact (a8 j (by omega)).2.2
  · rw [nu_k (by omega), nu_k (by omega), nu_k (by omega), nu_k (by omega)] at hj
    have x7 : ∀ t, t ≠ 7 → t ≠ 8 → t ≠ 9 → t ≠ 1 → (xup (xup (xup (xup M 7 i n p) 8 i n q) 9 i n (nc r)) 1 i 9 ((n : Int) + 1)) t = M t := fun t u1 u2 u3 u4 => by rw [xup_t u4, xup_t u3, xup_t u2, xup_t u1]
    rw [x7 10 (by decide) (by decide) (by decide) (by decide), x7 11 (by decide) (by decide) (by decide) (by decide), x7 12 (by decide) (by decide) (by decide) (by decide), nu_k (by omega), nu_k (by omega), nu_k (by omega), nu_k (by omega), nu_k (by omega), nu_k (by omega), nu_k (by omega), nu_k (by omega), nu_k (by omega), nu_k (by omega), nu_k (by omega), nu_k (by omega)]
    exact a9 j hj
set_option maxRecDepth 100000 in
theorem c_addWord {M : XM} {i : Fin 5} {n : Nat} (p q r : Int) (hn : M 1 i 9 = n) (h6 : n < 6) : CW mi_X0_addWord [xR 1 i, xI p, xI q, xI r] M (fun r' M' => r' = none ∧ M' = xup (xup (xup (xup M 7 i n p) 8 i n q) 9 i n r) 1 i 9 ((n : Int) + 1)) := by
  have w1 : w32 ((n : Int) + 1) = (n : Int) + 1 := w32_id (by omega) (by omega)
  refine in_X0_addWord (Nat.le_of_ble_eq_true rfl) ?_
  refine st_X0_addWord [(10, [true, true, true, true])] 20 ?_
  simp only [sy, xisC, sxI, xgI, xgL, xgR, xent, xargs0, p1i, p2i, p1l, p2l, pli, p1r, pir, piir, plir, pvr, pdup, pdup2, pret, xjmp, xcon, xfd, xcl_, xcall, xbr, xsw, xtsw, xst1, xst2, xkill, xpush, xcat, xcl, xar, xkd, xrf, xmask, mR, mL, List.getElem?_cons_zero, List.getElem?_cons_succ, List.lookup_nil, List.lookup_cons, Nat.reduceAdd, Nat.reduceSub, Nat.reduceLeDiff, Nat.reduceEqDiff, Nat.reduceBEq, List.length_cons, List.length_nil, List.replicate, List.append_nil, List.nil_append, List.cons_append, List.set_cons_zero, List.set_cons_succ, List.take_succ_cons, List.take_zero, List.drop_succ_cons, List.drop_zero, List.reverse_cons, List.reverse_nil, List.map_cons, List.map_nil, List.sum_cons, List.sum_nil, decide_true, decide_false, and_self, and_true, true_and, true_or, or_true, Fin.isValue, Fin.val_zero, Fin.val_one, Fin.val_two, Fin.reduceFinMk, Nat.reduceMod, Option.some.injEq, Sum.inl.injEq, Sum.inr.injEq, Prod.mk.injEq, eq_self, reduceCtorEq, imp_self, implies_true, Nat.zero_add, Nat.add_zero, Nat.zero_le, Int.reduceEq, Int.reduceLT, Int.reduceLE, Int.reduceNeg, not_true, not_false_iff, false_imp_iff, true_imp_iff, forall_const, or_self, or_false, false_or, and_false, false_and, ↓reduceIte, z_0, z_1, z_f1, z_f2, z_f3, Int.reduceToNat, Int.reduceAdd, ct_X0_addWord, mi_X0_addWord, hn, Int.toNat_natCast]
  refine ⟨fun q => absurd q (by omega), fun _ => ⟨by omega, ?_⟩⟩
  have g1 : xup M 7 i n p 1 i 9 = n := by rw [xup_t (by decide)]; exact hn
  generalize xup M 7 i n p = Ma at g1 ⊢
  refine st_X0_addWord [(16, [true, true, true, true])] 20 ?_
  simp only [sy, xisC, sxI, xgI, xgL, xgR, xent, xargs0, p1i, p2i, p1l, p2l, pli, p1r, pir, piir, plir, pvr, pdup, pdup2, pret, xjmp, xcon, xfd, xcl_, xcall, xbr, xsw, xtsw, xst1, xst2, xkill, xpush, xcat, xcl, xar, xkd, xrf, xmask, mR, mL, List.getElem?_cons_zero, List.getElem?_cons_succ, List.lookup_nil, List.lookup_cons, Nat.reduceAdd, Nat.reduceSub, Nat.reduceLeDiff, Nat.reduceEqDiff, Nat.reduceBEq, List.length_cons, List.length_nil, List.replicate, List.append_nil, List.nil_append, List.cons_append, List.set_cons_zero, List.set_cons_succ, List.take_succ_cons, List.take_zero, List.drop_succ_cons, List.drop_zero, List.reverse_cons, List.reverse_nil, List.map_cons, List.map_nil, List.sum_cons, List.sum_nil, decide_true, decide_false, and_self, and_true, true_and, true_or, or_true, Fin.isValue, Fin.val_zero, Fin.val_one, Fin.val_two, Fin.reduceFinMk, Nat.reduceMod, Option.some.injEq, Sum.inl.injEq, Sum.inr.injEq, Prod.mk.injEq, eq_self, reduceCtorEq, imp_self, implies_true, Nat.zero_add, Nat.add_zero, Nat.zero_le, Int.reduceEq, Int.reduceLT, Int.reduceLE, Int.reduceNeg, not_true, not_false_iff, false_imp_iff, true_imp_iff, forall_const, or_self, or_false, false_or, and_false, false_and, ↓reduceIte, z_0, z_1, z_f1, z_f2, z_f3, Int.reduceToNat, Int.reduceAdd, ct_X0_addWord, mi_X0_addWord, g1, Int.toNat_natCast]
  refine ⟨by omega, ?_⟩
  have g2 : xup Ma 8 i n q 1 i 9 = n := by rw [xup_t (by decide)]; exact g1
  generalize xup Ma 8 i n q = Mb at g2 ⊢
  refine st_X0_addWord [(22, [true, true, true, true])] 20 ?_
  simp only [sy, xisC, sxI, xgI, xgL, xgR, xent, xargs0, p1i, p2i, p1l, p2l, pli, p1r, pir, piir, plir, pvr, pdup, pdup2, pret, xjmp, xcon, xfd, xcl_, xcall, xbr, xsw, xtsw, xst1, xst2, xkill, xpush, xcat, xcl, xar, xkd, xrf, xmask, mR, mL, List.getElem?_cons_zero, List.getElem?_cons_succ, List.lookup_nil, List.lookup_cons, Nat.reduceAdd, Nat.reduceSub, Nat.reduceLeDiff, Nat.reduceEqDiff, Nat.reduceBEq, List.length_cons, List.length_nil, List.replicate, List.append_nil, List.nil_append, List.cons_append, List.set_cons_zero, List.set_cons_succ, List.take_succ_cons, List.take_zero, List.drop_succ_cons, List.drop_zero, List.reverse_cons, List.reverse_nil, List.map_cons, List.map_nil, List.sum_cons, List.sum_nil, decide_true, decide_false, and_self, and_true, true_and, true_or, or_true, Fin.isValue, Fin.val_zero, Fin.val_one, Fin.val_two, Fin.reduceFinMk, Nat.reduceMod, Option.some.injEq, Sum.inl.injEq, Sum.inr.injEq, Prod.mk.injEq, eq_self, reduceCtorEq, imp_self, implies_true, Nat.zero_add, Nat.add_zero, Nat.zero_le, Int.reduceEq, Int.reduceLT, Int.reduceLE, Int.reduceNeg, not_true, not_false_iff, false_imp_iff, true_imp_iff, forall_const, or_self, or_false, false_or, and_false, false_and, ↓reduceIte, z_0, z_1, z_f1, z_f2, z_f3, Int.reduceToNat, Int.reduceAdd, ct_X0_addWord, mi_X0_addWord, g2, Int.toNat_natCast]
  refine ⟨by omega, ?_⟩
  have g3 : xup Mb 9 i n r 1 i 9 = n := by rw [xup_t (by decide)]; exact g2
  generalize xup Mb 9 i n r = Mc at g3 ⊢
  refine st_X0_addWord [] 20 ?_
  simp only [sy, xisC, sxI, xgI, xgL, xgR, xent, xargs0, p1i, p2i, p1l, p2l, pli, p1r, pir, piir, plir, pvr, pdup, pdup2, pret, xjmp, xcon, xfd, xcl_, xcall, xbr, xsw, xtsw, xst1, xst2, xkill, xpush, xcat, xcl, xar, xkd, xrf, xmask, mR, mL, List.getElem?_cons_zero, List.getElem?_cons_succ, List.lookup_nil, List.lookup_cons, Nat.reduceAdd, Nat.reduceSub, Nat.reduceLeDiff, Nat.reduceEqDiff, Nat.reduceBEq, List.length_cons, List.length_nil, List.replicate, List.append_nil, List.nil_append, List.cons_append, List.set_cons_zero, List.set_cons_succ, List.take_succ_cons, List.take_zero, List.drop_succ_cons, List.drop_zero, List.reverse_cons, List.reverse_nil, List.map_cons, List.map_nil, List.sum_cons, List.sum_nil, decide_true, decide_false, and_self, and_true, true_and, true_or, or_true, Fin.isValue, Fin.val_zero, Fin.val_one, Fin.val_two, Fin.reduceFinMk, Nat.reduceMod, Option.some.injEq, Sum.inl.injEq, Sum.inr.injEq, Prod.mk.injEq, eq_self, reduceCtorEq, imp_self, implies_true, Nat.zero_add, Nat.add_zero, Nat.zero_le, Int.reduceEq, Int.reduceLT, Int.reduceLE, Int.reduceNeg, not_true, not_false_iff, false_imp_iff, true_imp_iff, forall_const, or_self, or_false, false_or, and_false, false_and, ↓reduceIte, z_0, z_1, z_f1, z_f2, z_f3, Int.reduceToNat, Int.reduceAdd, ct_X0_addWord, mi_X0_addWord, g3, w1]
theorem okN_adds {nd n : Nat} {N : Nat → Int} {p q r : Int} (h : okN nd N) (hn : N 52 = n) (h6 : n < 6) (hp : (0 ≤ p ∧ p < nd)) (hq : (0 ≤ q ∧ q ≤ 20)) (hr : isC r) : okN nd (nu (nu (nu (nu N (53 + 3 * n) p) (53 + 3 * n + 1) q) (53 + 3 * n + 2) r) 52 ((n : Int) + 1)) := by
  obtain ⟨h1, h2, h3, h4, h5, h6', h7, h8⟩ := h
  refine ⟨h1, fun e he => ?_, ?_, fun x hx => ?_, ?_, fun j hj => ?_, ?_, fun j hj => ?_⟩
  · have h9 := h2 e he
    unfold okD at h9 ⊢
    have k : ∀ f, f < 6 → (nu (nu (nu (nu N (53 + 3 * n) p) (53 + 3 * n + 1) q) (53 + 3 * n + 2) r) 52 ((n : Int) + 1)) (6 * e + f) = N (6 * e + f) := fun f hf => by rw [nu_k (by omega), nu_k (by omega), nu_k (by omega), nu_k (by omega)]
    rw [show (nu (nu (nu (nu N (53 + 3 * n) p) (53 + 3 * n + 1) q) (53 + 3 * n + 2) r) 52 ((n : Int) + 1)) (6 * e) = N (6 * e) from k 0 (by decide), k 1 (by decide), k 2 (by decide), k 3 (by decide), k 4 (by decide), k 5 (by decide)]
    exact h9
  · rw [nu_k (by omega), nu_k (by omega), nu_k (by omega), nu_k (by omega)]; exact h3
  · rw [nu_k (by omega), nu_k (by omega), nu_k (by omega), nu_k (by omega)]; exact h4 x hx
  · rw [nu_k (by omega), nu_k (by omega), nu_k (by omega), nu_k (by omega)]; exact h5
  · rw [nu_k (by omega), nu_k (by omega), nu_k (by omega), nu_k (by omega)] at hj
    rw [nu_k (by omega), nu_k (by omega), nu_k (by omega), nu_k (by omega), nu_k (by omega), nu_k (by omega), nu_k (by omega), nu_k (by omega), nu_k (by omega), nu_k (by omega), nu_k (by omega), nu_k (by omega)]
    exact h6' j hj
  · rw [nu_e]; omega
  · rw [nu_e] at hj
    by_cases hjn : j = n
    · subst hjn
      rw [nu_k (by omega), nu_k (by omega), nu_k (by omega), nu_e, nu_k (by omega), nu_k (by omega), nu_e, nu_k (by omega), nu_e]
      exact ⟨hp, hq, hr⟩
    · rw [nu_k (by omega), nu_k (by omega), nu_k (by omega), nu_k (by omega), nu_k (by omega), nu_k (by omega), nu_k (by omega), nu_k (by omega), nu_k (by omega), nu_k (by omega), nu_k (by omega), nu_k (by omega)]
      exact h8 j (by omega)
theorem RG_adds {M : XM} {i : Fin 5} {nd n : Nat} {N : Nat → Int} {p q r : Int} (hok : okN nd N) (h : RG M i nd N) (hn : N 52 = n) (h6 : n < 6) : RG (xup (xup (xup (xup M 10 i n p) 11 i n q) 12 i n (nc r)) 1 i 13 ((n : Int) + 1)) i nd (nu (nu (nu (nu N (53 + 3 * n) p) (53 + 3 * n + 1) q) (53 + 3 * n + 2) r) 52 ((n : Int) + 1)) := by
  obtain ⟨a1, a2, a3, a4, a5, a6, a7, a8, a9⟩ := h
  have h4 := hok.1
  have h33 := hok.2.2.2.2.1
  have h52 := hok.2.2.2.2.2.2.1
  refine ⟨?_, ?_, ?_, ?_, ?_, fun d hd => ?_, fun x y hx hy => ?_, fun j hj => ?_, fun j hj => ?_⟩
  · rw [xup_k (by decide), xup_t (by decide), xup_t (by decide), xup_t (by decide)]; exact a1
  · rw [xup_k (by decide), xup_t (by decide), xup_t (by decide), xup_t (by decide)]
    have u : ∀ k, k < 24 → (nu (nu (nu (nu N (53 + 3 * n) p) (53 + 3 * n + 1) q) (53 + 3 * n + 2) r) 52 ((n : Int) + 1)) k = N k := fun k hk => by rw [nu_k (by omega), nu_k (by omega), nu_k (by omega), nu_k (by omega)]
    unfold upm
    rw [u 5 (by decide), u 11 (by decide), u 17 (by decide), u 23 (by decide)]
    exact a2
  · rw [xup_k (by decide), xup_t (by decide), xup_t (by decide), xup_t (by decide), nu_k (by omega), nu_k (by omega), nu_k (by omega), nu_k (by omega)]; exact a3
  · rw [xup_k (by decide), xup_t (by decide), xup_t (by decide), xup_t (by decide), nu_k (by omega), nu_k (by omega), nu_k (by omega), nu_k (by omega)]; exact a4
  · rw [xup_e, nu_e]
  · have x7 : ∀ t, t ≠ 10 → t ≠ 11 → t ≠ 12 → t ≠ 1 → (xup (xup (xup (xup M 10 i n p) 11 i n q) 12 i n (nc r)) 1 i 13 ((n : Int) + 1)) t = M t := fun t u1 u2 u3 u4 => by rw [xup_t u4, xup_t u3, xup_t u2, xup_t u1]
    have u : ∀ k, k < 24 → (nu (nu (nu (nu N (53 + 3 * n) p) (53 + 3 * n + 1) q) (53 + 3 * n + 2) r) 52 ((n : Int) + 1)) k = N k := fun k hk => by rw [nu_k (by omega), nu_k (by omega), nu_k (by omega), nu_k (by omega)]
    rw [x7 2 (by decide) (by decide) (by decide) (by decide), x7 3 (by decide) (by decide) (by decide) (by decide), x7 4 (by decide) (by decide) (by decide) (by decide), x7 5 (by decide) (by decide) (by decide) (by decide), x7 6 (by decide) (by decide) (by decide) (by decide), u _ (by omega), u _ (by omega), u _ (by omega), u _ (by omega), u _ (by omega)]
    exact a6 d hd
  · rw [xup_k (by decide), xup_t (by decide), xup_t (by decide), xup_t (by decide), nu_k (by omega), nu_k (by omega), nu_k (by omega), nu_k (by omega)]
    exact a7 x y hx hy
  · rw [nu_k (by omega), nu_k (by omega), nu_k (by omega), nu_k (by omega)] at hj
    have x7 : ∀ t, t ≠ 10 → t ≠ 11 → t ≠ 12 → t ≠ 1 → (xup (xup (xup (xup M 10 i n p) 11 i n q) 12 i n (nc r)) 1 i 13 ((n : Int) + 1)) t = M t := fun t u1 u2 u3 u4 => by rw [xup_t u4, xup_t u3, xup_t u2, xup_t u1]
    rw [x7 7 (by decide) (by decide) (by decide) (by decide), x7 8 (by decide) (by decide) (by decide) (by decide), x7 9 (by decide) (by decide) (by decide) (by decide), nu_k (by omega), nu_k (by omega), nu_k (by omega), nu_k (by omega), nu_k (by omega), nu_k (by omega), nu_k (by omega), nu_k (by omega), nu_k (by omega), nu_k (by omega), nu_k (by omega), nu_k (by omega)]
    exact a8 j hj
  · rw [nu_e] at hj
    have x1 : ∀ t, t ≠ 1 → (xup (xup (xup (xup M 10 i n p) 11 i n q) 12 i n (nc r)) 1 i 13 ((n : Int) + 1)) t = (xup (xup (xup M 10 i n p) 11 i n q) 12 i n (nc r)) t := fun t u => xup_t u
    rw [x1 10 (by decide), x1 11 (by decide), x1 12 (by decide)]
    by_cases hjn : j = n
    · subst hjn
      rw [nu_k (by omega), nu_k (by omega), nu_k (by omega), nu_e, nu_k (by omega), nu_k (by omega), nu_e, nu_k (by omega), nu_e]
      refine ⟨?_, ?_, ?_⟩
      · rw [xup_t (by decide), xup_t (by decide), xup_e]
      · rw [xup_t (by decide), xup_e]
      · rw [xup_e]
    · rw [nu_k (by omega), nu_k (by omega), nu_k (by omega), nu_k (by omega), nu_k (by omega), nu_k (by omega), nu_k (by omega), nu_k (by omega), nu_k (by omega), nu_k (by omega), nu_k (by omega), nu_k (by omega)]
      refine ⟨?_, ?_, ?_⟩
      · rw [xup_t (by decide), xup_t (by decide), xup_k hjn]; exact (a9 j (by omega)).1
      · rw [xup_t (by decide), xup_k hjn, xup_t (by decide)]; exact (a9 j (by omega)).2.1
      · rw [xup_k hjn, xup_t (by decide), xup_t (by decide)]; exact (a9 j (by omega)).2.2
set_option maxRecDepth 100000 in
theorem c_addSeen {M : XM} {i : Fin 5} {n : Nat} (p q r : Int) (hn : M 1 i 13 = n) (h6 : n < 6) : CW mi_X0_addSeen [xR 1 i, xI p, xI q, xI r] M (fun r' M' => r' = none ∧ M' = xup (xup (xup (xup M 10 i n p) 11 i n q) 12 i n r) 1 i 13 ((n : Int) + 1)) := by
  have w1 : w32 ((n : Int) + 1) = (n : Int) + 1 := w32_id (by omega) (by omega)
  refine in_X0_addSeen (Nat.le_of_ble_eq_true rfl) ?_
  refine st_X0_addSeen [(10, [true, true, true, true])] 20 ?_
  simp only [sy, xisC, sxI, xgI, xgL, xgR, xent, xargs0, p1i, p2i, p1l, p2l, pli, p1r, pir, piir, plir, pvr, pdup, pdup2, pret, xjmp, xcon, xfd, xcl_, xcall, xbr, xsw, xtsw, xst1, xst2, xkill, xpush, xcat, xcl, xar, xkd, xrf, xmask, mR, mL, List.getElem?_cons_zero, List.getElem?_cons_succ, List.lookup_nil, List.lookup_cons, Nat.reduceAdd, Nat.reduceSub, Nat.reduceLeDiff, Nat.reduceEqDiff, Nat.reduceBEq, List.length_cons, List.length_nil, List.replicate, List.append_nil, List.nil_append, List.cons_append, List.set_cons_zero, List.set_cons_succ, List.take_succ_cons, List.take_zero, List.drop_succ_cons, List.drop_zero, List.reverse_cons, List.reverse_nil, List.map_cons, List.map_nil, List.sum_cons, List.sum_nil, decide_true, decide_false, and_self, and_true, true_and, true_or, or_true, Fin.isValue, Fin.val_zero, Fin.val_one, Fin.val_two, Fin.reduceFinMk, Nat.reduceMod, Option.some.injEq, Sum.inl.injEq, Sum.inr.injEq, Prod.mk.injEq, eq_self, reduceCtorEq, imp_self, implies_true, Nat.zero_add, Nat.add_zero, Nat.zero_le, Int.reduceEq, Int.reduceLT, Int.reduceLE, Int.reduceNeg, not_true, not_false_iff, false_imp_iff, true_imp_iff, forall_const, or_self, or_false, false_or, and_false, false_and, ↓reduceIte, z_0, z_1, z_f1, z_f2, z_f3, Int.reduceToNat, Int.reduceAdd, ct_X0_addSeen, mi_X0_addSeen, hn, Int.toNat_natCast]
  refine ⟨fun q => absurd q (by omega), fun _ => ⟨by omega, ?_⟩⟩
  have g1 : xup M 10 i n p 1 i 13 = n := by rw [xup_t (by decide)]; exact hn
  generalize xup M 10 i n p = Ma at g1 ⊢
  refine st_X0_addSeen [(16, [true, true, true, true])] 20 ?_
  simp only [sy, xisC, sxI, xgI, xgL, xgR, xent, xargs0, p1i, p2i, p1l, p2l, pli, p1r, pir, piir, plir, pvr, pdup, pdup2, pret, xjmp, xcon, xfd, xcl_, xcall, xbr, xsw, xtsw, xst1, xst2, xkill, xpush, xcat, xcl, xar, xkd, xrf, xmask, mR, mL, List.getElem?_cons_zero, List.getElem?_cons_succ, List.lookup_nil, List.lookup_cons, Nat.reduceAdd, Nat.reduceSub, Nat.reduceLeDiff, Nat.reduceEqDiff, Nat.reduceBEq, List.length_cons, List.length_nil, List.replicate, List.append_nil, List.nil_append, List.cons_append, List.set_cons_zero, List.set_cons_succ, List.take_succ_cons, List.take_zero, List.drop_succ_cons, List.drop_zero, List.reverse_cons, List.reverse_nil, List.map_cons, List.map_nil, List.sum_cons, List.sum_nil, decide_true, decide_false, and_self, and_true, true_and, true_or, or_true, Fin.isValue, Fin.val_zero, Fin.val_one, Fin.val_two, Fin.reduceFinMk, Nat.reduceMod, Option.some.injEq, Sum.inl.injEq, Sum.inr.injEq, Prod.mk.injEq, eq_self, reduceCtorEq, imp_self, implies_true, Nat.zero_add, Nat.add_zero, Nat.zero_le, Int.reduceEq, Int.reduceLT, Int.reduceLE, Int.reduceNeg, not_true, not_false_iff, false_imp_iff, true_imp_iff, forall_const, or_self, or_false, false_or, and_false, false_and, ↓reduceIte, z_0, z_1, z_f1, z_f2, z_f3, Int.reduceToNat, Int.reduceAdd, ct_X0_addSeen, mi_X0_addSeen, g1, Int.toNat_natCast]
  refine ⟨by omega, ?_⟩
  have g2 : xup Ma 11 i n q 1 i 13 = n := by rw [xup_t (by decide)]; exact g1
  generalize xup Ma 11 i n q = Mb at g2 ⊢
  refine st_X0_addSeen [(22, [true, true, true, true])] 20 ?_
  simp only [sy, xisC, sxI, xgI, xgL, xgR, xent, xargs0, p1i, p2i, p1l, p2l, pli, p1r, pir, piir, plir, pvr, pdup, pdup2, pret, xjmp, xcon, xfd, xcl_, xcall, xbr, xsw, xtsw, xst1, xst2, xkill, xpush, xcat, xcl, xar, xkd, xrf, xmask, mR, mL, List.getElem?_cons_zero, List.getElem?_cons_succ, List.lookup_nil, List.lookup_cons, Nat.reduceAdd, Nat.reduceSub, Nat.reduceLeDiff, Nat.reduceEqDiff, Nat.reduceBEq, List.length_cons, List.length_nil, List.replicate, List.append_nil, List.nil_append, List.cons_append, List.set_cons_zero, List.set_cons_succ, List.take_succ_cons, List.take_zero, List.drop_succ_cons, List.drop_zero, List.reverse_cons, List.reverse_nil, List.map_cons, List.map_nil, List.sum_cons, List.sum_nil, decide_true, decide_false, and_self, and_true, true_and, true_or, or_true, Fin.isValue, Fin.val_zero, Fin.val_one, Fin.val_two, Fin.reduceFinMk, Nat.reduceMod, Option.some.injEq, Sum.inl.injEq, Sum.inr.injEq, Prod.mk.injEq, eq_self, reduceCtorEq, imp_self, implies_true, Nat.zero_add, Nat.add_zero, Nat.zero_le, Int.reduceEq, Int.reduceLT, Int.reduceLE, Int.reduceNeg, not_true, not_false_iff, false_imp_iff, true_imp_iff, forall_const, or_self, or_false, false_or, and_false, false_and, ↓reduceIte, z_0, z_1, z_f1, z_f2, z_f3, Int.reduceToNat, Int.reduceAdd, ct_X0_addSeen, mi_X0_addSeen, g2, Int.toNat_natCast]
  refine ⟨by omega, ?_⟩
  have g3 : xup Mb 12 i n r 1 i 13 = n := by rw [xup_t (by decide)]; exact g2
  generalize xup Mb 12 i n r = Mc at g3 ⊢
  refine st_X0_addSeen [] 20 ?_
  simp only [sy, xisC, sxI, xgI, xgL, xgR, xent, xargs0, p1i, p2i, p1l, p2l, pli, p1r, pir, piir, plir, pvr, pdup, pdup2, pret, xjmp, xcon, xfd, xcl_, xcall, xbr, xsw, xtsw, xst1, xst2, xkill, xpush, xcat, xcl, xar, xkd, xrf, xmask, mR, mL, List.getElem?_cons_zero, List.getElem?_cons_succ, List.lookup_nil, List.lookup_cons, Nat.reduceAdd, Nat.reduceSub, Nat.reduceLeDiff, Nat.reduceEqDiff, Nat.reduceBEq, List.length_cons, List.length_nil, List.replicate, List.append_nil, List.nil_append, List.cons_append, List.set_cons_zero, List.set_cons_succ, List.take_succ_cons, List.take_zero, List.drop_succ_cons, List.drop_zero, List.reverse_cons, List.reverse_nil, List.map_cons, List.map_nil, List.sum_cons, List.sum_nil, decide_true, decide_false, and_self, and_true, true_and, true_or, or_true, Fin.isValue, Fin.val_zero, Fin.val_one, Fin.val_two, Fin.reduceFinMk, Nat.reduceMod, Option.some.injEq, Sum.inl.injEq, Sum.inr.injEq, Prod.mk.injEq, eq_self, reduceCtorEq, imp_self, implies_true, Nat.zero_add, Nat.add_zero, Nat.zero_le, Int.reduceEq, Int.reduceLT, Int.reduceLE, Int.reduceNeg, not_true, not_false_iff, false_imp_iff, true_imp_iff, forall_const, or_self, or_false, false_or, and_false, false_and, ↓reduceIte, z_0, z_1, z_f1, z_f2, z_f3, Int.reduceToNat, Int.reduceAdd, ct_X0_addSeen, mi_X0_addSeen, g3, w1]

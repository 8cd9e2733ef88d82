/-! ===== the class and the model side by side ===== -/
theorem okN_cg {nd : Nat} {N N' : Nat → Int} (h : okN nd N) (he : ∀ k, k < 71 → N' k = N k) : okN nd N' := by
  obtain ⟨h1, h2, h3, h4, h5, h6, h7, h8⟩ := h
  refine ⟨h1, fun e hx => ?_, ?_, fun x hx => ?_, ?_, fun j hj => ?_, ?_, fun j hj => ?_⟩
  · have h9 := h2 e hx
    unfold okD at h9 ⊢
    rw [he _ (by omega), he _ (by omega), he _ (by omega), he _ (by omega), he _ (by omega), he _ (by omega)]
    exact h9
  · rw [he _ (by omega)]; exact h3
  · rw [he _ (by omega)]; exact h4 x hx
  · rw [he _ (by omega)]; exact h5
  · rw [he _ (by omega)] at hj
    rw [he _ (by omega), he _ (by omega), he _ (by omega)]
    exact h6 j hj
  · rw [he _ (by omega)]; exact h7
  · rw [he _ (by omega)] at hj
    rw [he _ (by omega), he _ (by omega), he _ (by omega)]
    exact h8 j hj
theorem RG_cg {M : XM} {i : Fin 5} {nd : Nat} {N N' : Nat → Int} (hok : okN nd N) (h : RG M i nd N) (he : ∀ k, k < 71 → N' k = N k) : RG M i nd N' := by
  obtain ⟨a1, a2, a3, a4, a5, a6, a7, a8, a9⟩ := h
  have h4 := hok.1
  have h33 := hok.2.2.2.2.1
  have h52 := hok.2.2.2.2.2.2.1
  refine ⟨a1, ?_, by rw [he _ (by omega)]; exact a3, by rw [he _ (by omega)]; exact a4, by rw [he _ (by omega)]; exact a5, fun d hd => ?_, fun x y hx hy => ?_, fun j hj => ?_, fun j hj => ?_⟩
  · unfold upm
    rw [he 5 (by omega), he 11 (by omega), he 17 (by omega), he 23 (by omega)]
    exact a2
  · rw [he _ (by omega), he _ (by omega), he _ (by omega), he _ (by omega), he _ (by omega)]
    exact a6 d hd
  · rw [he _ (by omega)]
    exact a7 x y hx hy
  · rw [he _ (by omega)] at hj
    rw [he _ (by omega), he _ (by omega), he _ (by omega)]
    exact a8 j hj
  · rw [he _ (by omega)] at hj
    rw [he _ (by omega), he _ (by omega), he _ (by omega)]
    exact a9 j hj
theorem RG_fr {M M' : XM} {i : Fin 5} {nd : Nat} {N : Nat → Int} (h : RG M i nd N) (hf : ∀ t, 1 ≤ t → t ≤ 12 → M' t i = M t i) : RG M' i nd N := by
  unfold RG
  rw [hf 1 (by decide) (by decide), hf 2 (by decide) (by decide), hf 3 (by decide) (by decide), hf 4 (by decide) (by decide), hf 5 (by decide) (by decide), hf 6 (by decide) (by decide), hf 7 (by decide) (by decide), hf 8 (by decide) (by decide), hf 9 (by decide) (by decide), hf 10 (by decide) (by decide), hf 11 (by decide) (by decide), hf 12 (by decide) (by decide)]
  exact h
/-- how many rocks -/
def b2 (b : Bool) : Int := if b then 1 else 0
def rk1 (n : Int) : Int := b2 (tb n 0) + b2 (tb n 1) + b2 (tb n 2) + b2 (tb n 3) + b2 (tb n 4) + b2 (tb n 5) + b2 (tb n 6) + b2 (tb n 7)
def rk (N : Nat → Int) : Int := rk1 (N 25) + rk1 (N 26) + rk1 (N 27) + rk1 (N 28) + rk1 (N 29) + rk1 (N 30) + rk1 (N 31) + rk1 (N 32)
theorem rk_cg {N N' : Nat → Int} (h : ∀ k, 25 ≤ k → k < 33 → N' k = N k) : rk N' = rk N := by
  unfold rk
  rw [h 25 (by decide) (by decide), h 26 (by decide) (by decide), h 27 (by decide) (by decide), h 28 (by decide) (by decide), h 29 (by decide) (by decide), h 30 (by decide) (by decide), h 31 (by decide) (by decide), h 32 (by decide) (by decide)]
def rkI (N K : Nat → Int) : Prop := rk N ≤ 8 ∧ (K 0 = 1 → rk (fun j => N (71 * (0 + 1) + j)) ≤ 8) ∧ (K 1 = 1 → rk (fun j => N (71 * (1 + 1) + j)) ≤ 8)
def im (m : XM) (k : Nat) : Nat → Int := fun j => m 23 0 (71 * (k + 1) + j)
/-- the class's part of X stands for the model's part of m -/
def InvX (X m : XM) : Prop := ∃ nd : Nat, m 22 0 3 = nd ∧ okN nd (m 23 0) ∧ RG X 0 nd (m 23 0) ∧
  ((m 25 0 0 = 0 ∨ m 25 0 0 = 1) ∧ (m 25 0 1 = 0 ∨ m 25 0 1 = 1) ∧ X 0 0 5 = m 25 0 0 + 2 * m 25 0 1) ∧
  (m 25 0 0 = 1 → okN nd (im m 0) ∧ RG X 3 nd (im m 0)) ∧ (m 25 0 1 = 1 → okN nd (im m 1) ∧ RG X 4 nd (im m 1)) ∧
  (X 13 0 1 = m 22 0 11 ∧ (0 ≤ m 22 0 11 ∧ m 22 0 11 ≤ 160) ∧ ∀ j : Nat, (j : Int) < m 22 0 11 → X 14 0 j = m 28 0 j ∧ 0 ≤ m 28 0 j ∧ m 28 0 j < 128) ∧
  (X 0 0 8 = m 22 0 16 ∧ X 0 0 9 = m 22 0 28) ∧
  (∀ k : Nat, k < 4 → (X 16 0 k = -1 ∧ m 33 0 k = -4) ∨ (X 16 0 k = m 33 0 k ∧ (0 ≤ m 33 0 k ∧ m 33 0 k ≤ 2) ∧ X 17 0 k = m 34 0 k ∧ (0 ≤ m 34 0 k ∧ m 34 0 k ≤ 40) ∧ ∀ j : Nat, (j : Int) < m 34 0 k → X 18 0 (40 * k + j) = m 35 0 (40 * k + j))) ∧ rkI (m 23 0) (m 25 0)
/-- what lasts of the class, of the model -/
def PX (X X' : XM) : Prop := X' 0 = X 0 ∧ (∀ t j, 1 ≤ t → t ≤ 12 → j ≠ 1 → j ≠ 2 → X' t j = X t j) ∧ (∀ t, 13 ≤ t → t ≤ 18 → X' t = X t)
def PM (m m' : XM) : Prop := m' 23 0 = m 23 0 ∧ m' 25 0 = m 25 0 ∧ m' 28 0 = m 28 0 ∧ m' 33 0 = m 33 0 ∧ m' 34 0 = m 34 0 ∧ m' 35 0 = m 35 0 ∧ m' 22 0 3 = m 22 0 3 ∧ m' 22 0 11 = m 22 0 11 ∧ m' 22 0 16 = m 22 0 16 ∧ m' 22 0 28 = m 22 0 28
/-- a method of the class leaves the model, and the other way round -/
def hiS (M M' : XM) : Prop := ∀ t, 22 ≤ t → M' t = M t
def loS (M M' : XM) : Prop := ∀ t, t ≤ 21 → M' t = M t
theorem PX_rf {X : XM} : PX X X := ⟨rfl, fun _ _ _ _ _ _ => rfl, fun _ _ _ => rfl⟩
theorem PM_rf {m : XM} : PM m m := ⟨rfl, rfl, rfl, rfl, rfl, rfl, rfl, rfl, rfl, rfl⟩
theorem PM_tr {m m' m'' : XM} (h : PM m m') (h' : PM m' m'') : PM m m'' := by
  obtain ⟨a1, a2, a3, a4, a5, a6, a7, a8, a9, a10⟩ := h
  obtain ⟨b1, b2, b3, b4, b5, b6, b7, b8, b9, b10⟩ := h'
  exact ⟨b1.trans a1, b2.trans a2, b3.trans a3, b4.trans a4, b5.trans a5, b6.trans a6, b7.trans a7, b8.trans a8, b9.trans a9, b10.trans a10⟩
theorem InvX_X {X X' m : XM} (h : InvX X m) (hp : PX X X') : InvX X' m := by
  obtain ⟨nd, h1, h2, h3, h4, h5, h6, h7, h8, h9⟩ := h
  obtain ⟨p0, p1, p2⟩ := hp
  refine ⟨nd, h1, h2, RG_fr h3 (fun t a b => p1 t 0 a b (by decide) (by decide)), by rw [p0]; exact h4, fun q => ⟨(h5 q).1, RG_fr (h5 q).2 (fun t a b => p1 t 3 a b (by decide) (by decide))⟩, fun q => ⟨(h6 q).1, RG_fr (h6 q).2 (fun t a b => p1 t 4 a b (by decide) (by decide))⟩, by rw [p2 13 (by decide) (by decide), p2 14 (by decide) (by decide)]; exact h7, by rw [p0]; exact h8, by rw [p2 16 (by decide) (by decide), p2 17 (by decide) (by decide), p2 18 (by decide) (by decide)]; exact h9⟩
theorem InvX_m {X m m' : XM} (h : InvX X m) (hp : PM m m') : InvX X m' := by
  obtain ⟨p1, p2, p3, p4, p5, p6, p7, p8, p9, p10⟩ := hp
  unfold InvX im
  rw [p1, p2, p3, p4, p5, p6, p7, p8, p9, p10]
  exact h
theorem PX_lo {X X' : XM} (h : loS X X') : PX X X' := ⟨h 0 (by decide), fun t _ _ b _ _ => congrFun (h t (by omega)) _, fun t _ b => h t (by omega)⟩
theorem PX_G {X X' : XM} {i : Fin 5} (h : frG i X X') (hi : i = 1 ∨ i = 2) : PX X X' := by
  refine ⟨funext fun j => h 0 j (by omega), fun t j a b h1 h2 => h t j ?_, fun t a b => funext fun j => h t j (by omega)⟩
  rintro ⟨-, -, rfl⟩
  rcases hi with q | q
  · exact h1 q
  · exact h2 q
theorem hi_G {X X' : XM} {i : Fin 5} (h : frG i X X') : hiS X X' := fun t ht => funext fun j => h t j (by omega)
theorem lo_N {X X' : XM} (h : frN X X') : loS X X' := fun t ht => funext fun j => h t j (by omega)
theorem PM_N {X X' : XM} (h : frN X X') : PM X X' := ⟨h 23 0 (by omega), h 25 0 (by omega), h 28 0 (by omega), h 33 0 (by omega), h 34 0 (by omega), h 35 0 (by omega), by rw [h 22 0 (by omega)], by rw [h 22 0 (by omega)], by rw [h 22 0 (by omega)], by rw [h 22 0 (by omega)]⟩
set_option maxRecDepth 100000 in
theorem c_starts (M : XM) : CW mi_X4_starts [xR 22 0] M (fun r M' => r = none ∧ (∀ k, k < 71 → M' 24 0 k = M 23 0 k) ∧ frN M M') := by
  have loop : ∀ (n k : Nat) (M1 : XM), k + n = 71 → (∀ j, j < k → M1 24 0 j = M 23 0 j) → frN M M1 → J_X4_starts (fun r M' => r = none ∧ (∀ k, k < 71 → M' 24 0 k = M 23 0 k) ∧ frN M M') 2 [some (xR 22 0), some (xI k)] [] M1 := by
    intro n
    induction n with
    | zero =>
      intro k M1 hk h1 hf1
      have e : k = 71 := by omega
      subst e
      refine st_X4_starts [] 8 ?_
      simp only [sy, xisC, sxI, xgI, xgL, xgR, xent, xargs0, p1i, p2i, p1l, p2l, pli, p1r, pir, piir, plir, pvr, pdup, pdup2, pret, xjmp, xcon, xfd, xcl_, xcall, xbr, xsw, xtsw, xst1, xst2, xkill, xpush, xcat, xcl, xar, xkd, xrf, xmask, mR, mL, List.getElem?_cons_zero, List.getElem?_cons_succ, List.lookup_nil, List.lookup_cons, Nat.reduceAdd, Nat.reduceSub, Nat.reduceLeDiff, Nat.reduceEqDiff, Nat.reduceBEq, List.length_cons, List.length_nil, List.replicate, List.append_nil, List.nil_append, List.cons_append, List.set_cons_zero, List.set_cons_succ, List.take_succ_cons, List.take_zero, List.drop_succ_cons, List.drop_zero, List.reverse_cons, List.reverse_nil, List.map_cons, List.map_nil, List.sum_cons, List.sum_nil, decide_true, decide_false, and_self, and_true, true_and, true_or, or_true, Fin.isValue, Fin.val_zero, Fin.val_one, Fin.val_two, Fin.reduceFinMk, Nat.reduceMod, Option.some.injEq, Sum.inl.injEq, Sum.inr.injEq, Prod.mk.injEq, eq_self, reduceCtorEq, imp_self, implies_true, Nat.zero_add, Nat.add_zero, Nat.zero_le, Int.reduceEq, Int.reduceLT, Int.reduceLE, Int.reduceNeg, not_true, not_false_iff, false_imp_iff, true_imp_iff, forall_const, or_self, or_false, false_or, and_false, false_and, ↓reduceIte, z_0, z_1, z_f1, z_f2, z_f3, Int.reduceToNat, Int.reduceAdd, ct_X4_starts, mi_X4_starts]
      exact ⟨fun _ => ⟨h1, hf1⟩, fun q => absurd q (by omega)⟩
    | succ n ih =>
      intro k M1 hk h1 hf1
      have w : w32 ((k : Int) + 1) = (k + 1 : Nat) := by rw [w32_id (by omega) (by omega)]; rfl
      have f23 : M1 23 0 = M 23 0 := hf1 23 0 (by decide)
      refine st_X4_starts [(2, [true, true])] 20 ?_
      simp only [sy, xisC, sxI, xgI, xgL, xgR, xent, xargs0, p1i, p2i, p1l, p2l, pli, p1r, pir, piir, plir, pvr, pdup, pdup2, pret, xjmp, xcon, xfd, xcl_, xcall, xbr, xsw, xtsw, xst1, xst2, xkill, xpush, xcat, xcl, xar, xkd, xrf, xmask, mR, mL, List.getElem?_cons_zero, List.getElem?_cons_succ, List.lookup_nil, List.lookup_cons, Nat.reduceAdd, Nat.reduceSub, Nat.reduceLeDiff, Nat.reduceEqDiff, Nat.reduceBEq, List.length_cons, List.length_nil, List.replicate, List.append_nil, List.nil_append, List.cons_append, List.set_cons_zero, List.set_cons_succ, List.take_succ_cons, List.take_zero, List.drop_succ_cons, List.drop_zero, List.reverse_cons, List.reverse_nil, List.map_cons, List.map_nil, List.sum_cons, List.sum_nil, decide_true, decide_false, and_self, and_true, true_and, true_or, or_true, Fin.isValue, Fin.val_zero, Fin.val_one, Fin.val_two, Fin.reduceFinMk, Nat.reduceMod, Option.some.injEq, Sum.inl.injEq, Sum.inr.injEq, Prod.mk.injEq, eq_self, reduceCtorEq, imp_self, implies_true, Nat.zero_add, Nat.add_zero, Nat.zero_le, Int.reduceEq, Int.reduceLT, Int.reduceLE, Int.reduceNeg, not_true, not_false_iff, false_imp_iff, true_imp_iff, forall_const, or_self, or_false, false_or, and_false, false_and, ↓reduceIte, z_0, z_1, z_f1, z_f2, z_f3, Int.reduceToNat, Int.reduceAdd, ct_X4_starts, mi_X4_starts, Int.toNat_natCast, w, f23]
      refine ⟨fun q => absurd q (by omega), fun _ => ⟨by omega, by omega, ih (k + 1) _ (by omega) (fun j hj => ?_) (frN_up hf1)⟩⟩
      rw [xup_s]
      split
      · rename_i e; rw [e]
      · exact h1 j (by omega)
  refine in_X4_starts (Nat.le_of_ble_eq_true rfl) ?_
  refine st_X4_starts [(2, [true, true])] 4 ?_
  simp only [sy, xisC, sxI, xgI, xgL, xgR, xent, xargs0, p1i, p2i, p1l, p2l, pli, p1r, pir, piir, plir, pvr, pdup, pdup2, pret, xjmp, xcon, xfd, xcl_, xcall, xbr, xsw, xtsw, xst1, xst2, xkill, xpush, xcat, xcl, xar, xkd, xrf, xmask, mR, mL, List.getElem?_cons_zero, List.getElem?_cons_succ, List.lookup_nil, List.lookup_cons, Nat.reduceAdd, Nat.reduceSub, Nat.reduceLeDiff, Nat.reduceEqDiff, Nat.reduceBEq, List.length_cons, List.length_nil, List.replicate, List.append_nil, List.nil_append, List.cons_append, List.set_cons_zero, List.set_cons_succ, List.take_succ_cons, List.take_zero, List.drop_succ_cons, List.drop_zero, List.reverse_cons, List.reverse_nil, List.map_cons, List.map_nil, List.sum_cons, List.sum_nil, decide_true, decide_false, and_self, and_true, true_and, true_or, or_true, Fin.isValue, Fin.val_zero, Fin.val_one, Fin.val_two, Fin.reduceFinMk, Nat.reduceMod, Option.some.injEq, Sum.inl.injEq, Sum.inr.injEq, Prod.mk.injEq, eq_self, reduceCtorEq, imp_self, implies_true, Nat.zero_add, Nat.add_zero, Nat.zero_le, Int.reduceEq, Int.reduceLT, Int.reduceLE, Int.reduceNeg, not_true, not_false_iff, false_imp_iff, true_imp_iff, forall_const, or_self, or_false, false_or, and_false, false_and, ↓reduceIte, z_0, z_1, z_f1, z_f2, z_f3, Int.reduceToNat, Int.reduceAdd, ct_X4_starts, mi_X4_starts]
  exact loop 71 0 M (by omega) (fun j hj => absurd hj (by omega)) frN_rf
/-- both sides of a public method: they answer alike, and stand side by side again -/
def PUB (mc mm : XMI) (as : List XV) (M : XM) : Prop := CW mc (xR 0 0 :: as) M (fun r M1 => ∃ z : Int, r = some (xI z) ∧ CW mm (xR 22 0 :: as) M1 (fun r2 M2 => r2 = some (xI z) ∧ InvX M2 M2))
theorem PUB_of {mc mm : XMI} {as : List XV} {M m : XM} (z : Int) (hc : CW mc (xR 0 0 :: as) M (fun r M1 => r = some (xI z) ∧ hiS M M1 ∧ InvX M1 m)) (hm : ∀ M1, hiS M M1 → CW mm (xR 22 0 :: as) M1 (fun r M2 => r = some (xI z) ∧ loS M1 M2 ∧ PM m M2)) : PUB mc mm as M := by
  refine CW.mono hc ?_
  rintro r M1 ⟨rfl, h1, h2⟩
  refine ⟨z, rfl, CW.mono (hm M1 h1) ?_⟩
  rintro r M2 ⟨rfl, h3, h4⟩
  exact ⟨rfl, InvX_m (InvX_X h2 (PX_lo h3)) h4⟩
theorem PM_hi {m M1 M2 : XM} (h : hiS m M1) (h' : PM M1 M2) : PM m M2 := by
  refine PM_tr ?_ h'
  exact ⟨by rw [h 23 (by decide)], by rw [h 25 (by decide)], by rw [h 28 (by decide)], by rw [h 33 (by decide)], by rw [h 34 (by decide)], by rw [h 35 (by decide)], by rw [h 22 (by decide)], by rw [h 22 (by decide)], by rw [h 22 (by decide)], by rw [h 22 (by decide)]⟩
theorem hi_rf {M : XM} : hiS M M := fun _ _ => rfl
theorem lo_rf {M : XM} : loS M M := fun _ _ => rfl
theorem hi_tr {M M' M'' : XM} (h : hiS M M') (h' : hiS M' M'') : hiS M M'' := fun t ht => (h' t ht).trans (h t ht)
theorem lo_tr {M M' M'' : XM} (h : loS M M') (h' : loS M' M'') : loS M M'' := fun t ht => (h' t ht).trans (h t ht)
theorem hi_up {M M' : XM} {t : Nat} {i : Fin 5} {k : Nat} {v : Int} (h : hiS M M') (ht : t < 22) : hiS M (xup M' t i k v) := fun t' h' => (xup_t (by omega)).trans (h t' h')
theorem lo_up {M M' : XM} {t : Nat} {i : Fin 5} {k : Nat} {v : Int} (h : loS M M') (ht : 21 < t) : loS M (xup M' t i k v) := fun t' h' => (xup_t (by omega)).trans (h t' h')
set_option maxRecDepth 100000 in
theorem p_fault {M : XM} (h : InvX M M) : PUB mi_X3_fault mi_X4_fault [] M := by
  have e := h
  obtain ⟨nd, -, -, -, -, -, -, -, h8, -⟩ := e
  refine PUB_of (m := M) (M 22 0 16) ?_ (fun M1 h1 => ?_)
  · refine in_X3_fault (Nat.le_of_ble_eq_true rfl) ?_
    refine st_X3_fault [] 8 ?_
    simp only [sy, xisC, sxI, xgI, xgL, xgR, xent, xargs0, p1i, p2i, p1l, p2l, pli, p1r, pir, piir, plir, pvr, pdup, pdup2, pret, xjmp, xcon, xfd, xcl_, xcall, xbr, xsw, xtsw, xst1, xst2, xkill, xpush, xcat, xcl, xar, xkd, xrf, xmask, mR, mL, List.getElem?_cons_zero, List.getElem?_cons_succ, List.lookup_nil, List.lookup_cons, Nat.reduceAdd, Nat.reduceSub, Nat.reduceLeDiff, Nat.reduceEqDiff, Nat.reduceBEq, List.length_cons, List.length_nil, List.replicate, List.append_nil, List.nil_append, List.cons_append, List.set_cons_zero, List.set_cons_succ, List.take_succ_cons, List.take_zero, List.drop_succ_cons, List.drop_zero, List.reverse_cons, List.reverse_nil, List.map_cons, List.map_nil, List.sum_cons, List.sum_nil, decide_true, decide_false, and_self, and_true, true_and, true_or, or_true, Fin.isValue, Fin.val_zero, Fin.val_one, Fin.val_two, Fin.reduceFinMk, Nat.reduceMod, Option.some.injEq, Sum.inl.injEq, Sum.inr.injEq, Prod.mk.injEq, eq_self, reduceCtorEq, imp_self, implies_true, Nat.zero_add, Nat.add_zero, Nat.zero_le, Int.reduceEq, Int.reduceLT, Int.reduceLE, Int.reduceNeg, not_true, not_false_iff, false_imp_iff, true_imp_iff, forall_const, or_self, or_false, false_or, and_false, false_and, ↓reduceIte, z_0, z_1, z_f1, z_f2, z_f3, Int.reduceToNat, Int.reduceAdd, ct_X3_fault, mi_X3_fault]
    exact ⟨h8.1, hi_rf, h⟩
  · have g : M1 22 0 16 = M 22 0 16 := by rw [h1 22 (by decide)]
    refine in_X4_fault (Nat.le_of_ble_eq_true rfl) ?_
    refine st_X4_fault [] 8 ?_
    simp only [sy, xisC, sxI, xgI, xgL, xgR, xent, xargs0, p1i, p2i, p1l, p2l, pli, p1r, pir, piir, plir, pvr, pdup, pdup2, pret, xjmp, xcon, xfd, xcl_, xcall, xbr, xsw, xtsw, xst1, xst2, xkill, xpush, xcat, xcl, xar, xkd, xrf, xmask, mR, mL, List.getElem?_cons_zero, List.getElem?_cons_succ, List.lookup_nil, List.lookup_cons, Nat.reduceAdd, Nat.reduceSub, Nat.reduceLeDiff, Nat.reduceEqDiff, Nat.reduceBEq, List.length_cons, List.length_nil, List.replicate, List.append_nil, List.nil_append, List.cons_append, List.set_cons_zero, List.set_cons_succ, List.take_succ_cons, List.take_zero, List.drop_succ_cons, List.drop_zero, List.reverse_cons, List.reverse_nil, List.map_cons, List.map_nil, List.sum_cons, List.sum_nil, decide_true, decide_false, and_self, and_true, true_and, true_or, or_true, Fin.isValue, Fin.val_zero, Fin.val_one, Fin.val_two, Fin.reduceFinMk, Nat.reduceMod, Option.some.injEq, Sum.inl.injEq, Sum.inr.injEq, Prod.mk.injEq, eq_self, reduceCtorEq, imp_self, implies_true, Nat.zero_add, Nat.add_zero, Nat.zero_le, Int.reduceEq, Int.reduceLT, Int.reduceLE, Int.reduceNeg, not_true, not_false_iff, false_imp_iff, true_imp_iff, forall_const, or_self, or_false, false_or, and_false, false_and, ↓reduceIte, z_0, z_1, z_f1, z_f2, z_f3, Int.reduceToNat, Int.reduceAdd, ct_X4_fault, mi_X4_fault, g]
    exact ⟨lo_rf, PM_hi h1 PM_rf⟩
set_option maxRecDepth 100000 in
theorem p_torn {M : XM} (h : InvX M M) : PUB mi_X3_torn mi_X4_torn [] M := by
  have e := h
  obtain ⟨nd, -, -, -, -, -, -, -, h8, -⟩ := e
  refine PUB_of (m := M) (M 22 0 28) ?_ (fun M1 h1 => ?_)
  · refine in_X3_torn (Nat.le_of_ble_eq_true rfl) ?_
    refine st_X3_torn [] 8 ?_
    simp only [sy, xisC, sxI, xgI, xgL, xgR, xent, xargs0, p1i, p2i, p1l, p2l, pli, p1r, pir, piir, plir, pvr, pdup, pdup2, pret, xjmp, xcon, xfd, xcl_, xcall, xbr, xsw, xtsw, xst1, xst2, xkill, xpush, xcat, xcl, xar, xkd, xrf, xmask, mR, mL, List.getElem?_cons_zero, List.getElem?_cons_succ, List.lookup_nil, List.lookup_cons, Nat.reduceAdd, Nat.reduceSub, Nat.reduceLeDiff, Nat.reduceEqDiff, Nat.reduceBEq, List.length_cons, List.length_nil, List.replicate, List.append_nil, List.nil_append, List.cons_append, List.set_cons_zero, List.set_cons_succ, List.take_succ_cons, List.take_zero, List.drop_succ_cons, List.drop_zero, List.reverse_cons, List.reverse_nil, List.map_cons, List.map_nil, List.sum_cons, List.sum_nil, decide_true, decide_false, and_self, and_true, true_and, true_or, or_true, Fin.isValue, Fin.val_zero, Fin.val_one, Fin.val_two, Fin.reduceFinMk, Nat.reduceMod, Option.some.injEq, Sum.inl.injEq, Sum.inr.injEq, Prod.mk.injEq, eq_self, reduceCtorEq, imp_self, implies_true, Nat.zero_add, Nat.add_zero, Nat.zero_le, Int.reduceEq, Int.reduceLT, Int.reduceLE, Int.reduceNeg, not_true, not_false_iff, false_imp_iff, true_imp_iff, forall_const, or_self, or_false, false_or, and_false, false_and, ↓reduceIte, z_0, z_1, z_f1, z_f2, z_f3, Int.reduceToNat, Int.reduceAdd, ct_X3_torn, mi_X3_torn]
    exact ⟨h8.2, hi_rf, h⟩
  · have g : M1 22 0 28 = M 22 0 28 := by rw [h1 22 (by decide)]
    refine in_X4_torn (Nat.le_of_ble_eq_true rfl) ?_
    refine st_X4_torn [] 8 ?_
    simp only [sy, xisC, sxI, xgI, xgL, xgR, xent, xargs0, p1i, p2i, p1l, p2l, pli, p1r, pir, piir, plir, pvr, pdup, pdup2, pret, xjmp, xcon, xfd, xcl_, xcall, xbr, xsw, xtsw, xst1, xst2, xkill, xpush, xcat, xcl, xar, xkd, xrf, xmask, mR, mL, List.getElem?_cons_zero, List.getElem?_cons_succ, List.lookup_nil, List.lookup_cons, Nat.reduceAdd, Nat.reduceSub, Nat.reduceLeDiff, Nat.reduceEqDiff, Nat.reduceBEq, List.length_cons, List.length_nil, List.replicate, List.append_nil, List.nil_append, List.cons_append, List.set_cons_zero, List.set_cons_succ, List.take_succ_cons, List.take_zero, List.drop_succ_cons, List.drop_zero, List.reverse_cons, List.reverse_nil, List.map_cons, List.map_nil, List.sum_cons, List.sum_nil, decide_true, decide_false, and_self, and_true, true_and, true_or, or_true, Fin.isValue, Fin.val_zero, Fin.val_one, Fin.val_two, Fin.reduceFinMk, Nat.reduceMod, Option.some.injEq, Sum.inl.injEq, Sum.inr.injEq, Prod.mk.injEq, eq_self, reduceCtorEq, imp_self, implies_true, Nat.zero_add, Nat.add_zero, Nat.zero_le, Int.reduceEq, Int.reduceLT, Int.reduceLE, Int.reduceNeg, not_true, not_false_iff, false_imp_iff, true_imp_iff, forall_const, or_self, or_false, false_or, and_false, false_and, ↓reduceIte, z_0, z_1, z_f1, z_f2, z_f3, Int.reduceToNat, Int.reduceAdd, ct_X4_torn, mi_X4_torn, g]
    exact ⟨lo_rf, PM_hi h1 PM_rf⟩

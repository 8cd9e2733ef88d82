/-! ===== the outline; ring ===== -/
def pL (M : XM) (z : Int) : Option XV → XM → Prop := fun r M' => r = some (xL z) ∧ M' = M
def frQ (M M' : XM) : Prop := ∀ (t : Nat) (j : Fin 5), ¬ (1 ≤ t ∧ t ≤ 12 ∧ (j = 1 ∨ j = 2)) → t ≠ 19 → t ≠ 20 → t ≠ 21 → M' t j = M t j
theorem frQ_rf {M : XM} : frQ M M := fun _ _ _ _ _ _ => rfl
theorem frQ_G {M M1 M2 : XM} {i : Fin 5} (h : frQ M M1) (h' : frG i M1 M2) (hi : i = 1 ∨ i = 2) : frQ M M2 := fun t j hn a b c => (h' t j (fun q => hn ⟨q.1, q.2.1, q.2.2 ▸ hi⟩)).trans (h t j hn a b c)
theorem frQ_up {M M1 : XM} {t k : Nat} {v : Int} (h : frQ M M1) (ht : t = 19 ∨ t = 20 ∨ t = 21) : frQ M (xup M1 t 0 k v) := fun t' j hn a b c => by
  rw [xup_t (by omega)]
  exact h t' j hn a b c
theorem hi_Q {M M1 : XM} (h : frQ M M1) : hiS M M1 := fun t ht => funext fun j => h t j (by omega) (by omega) (by omega) (by omega)
theorem InvX_Q {M M1 : XM} (h : InvX M M) (hf : frQ M M1) : InvX M1 M := InvX_X h ⟨funext fun j => hf 0 j (by omega) (by decide) (by decide) (by decide), fun t j h1 h2 h3 h4 => hf t j (by rintro ⟨-, -, q | q⟩ <;> contradiction) (by omega) (by omega) (by omega), fun t h1 h2 => funext fun j => hf t j (by omega) (by omega) (by omega) (by omega)⟩
/-- what a question leaves of the model -/
def frS (M M' : XM) : Prop := ∀ (t : Nat) (j : Fin 5), t ≠ 24 → t ≠ 29 → t ≠ 30 → t ≠ 31 → M' t j = M t j
theorem frS_rf {M : XM} : frS M M := fun _ _ _ _ _ _ => rfl
theorem frS_N {M M1 M2 : XM} (h : frS M M1) (h' : frN M1 M2) : frS M M2 := fun t j a b c d => (h' t j (fun q => a q.1)).trans (h t j a b c d)
theorem frS_up {M M1 : XM} {t k : Nat} {v : Int} (h : frS M M1) (ht : t = 24 ∨ t = 29 ∨ t = 30 ∨ t = 31) : frS M (xup M1 t 0 k v) := fun t' j a b c d => by
  rw [xup_t (by omega)]
  exact h t' j a b c d
theorem lo_S {M M1 : XM} (h : frS M M1) : loS M M1 := fun t ht => funext fun j => h t j (by omega) (by omega) (by omega) (by omega)
theorem PM_S {X X' : XM} (h : frS X X') : PM X X' := ⟨h 23 0 (by decide) (by decide) (by decide) (by decide), h 25 0 (by decide) (by decide) (by decide) (by decide), h 28 0 (by decide) (by decide) (by decide) (by decide), h 33 0 (by decide) (by decide) (by decide) (by decide), h 34 0 (by decide) (by decide) (by decide) (by decide), h 35 0 (by decide) (by decide) (by decide) (by decide), by rw [h 22 0 (by decide) (by decide) (by decide) (by decide)], by rw [h 22 0 (by decide) (by decide) (by decide) (by decide)], by rw [h 22 0 (by decide) (by decide) (by decide) (by decide)], by rw [h 22 0 (by decide) (by decide) (by decide) (by decide)]⟩
/-! the outline -/
theorem L_id {n : Nat} (h : n < 9223372036854775808) : (lN n).toInt = n := by rw [L_w, w64_id (by omega) (by omega)]
theorem bs2 : ∀ a : Nat, a < 64 → bShl (a : Int) 2 = ((4 * a : Nat) : Int) := by
  simp only [bShl_def]
  decide +kernel
theorem ou_step {z a g : Int} (z0 : 0 ≤ z) (z1 : z < 1099511627776) (a0 : 0 ≤ a) (a1 : a < 64) (g0 : 0 ≤ g) (g1 : g < 4) : lOr (lOr (lShl z 8) (bShl a 2)) g = z * 256 + 4 * a + g := by
  obtain ⟨z, rfl⟩ := Int.eq_ofNat_of_zero_le z0
  obtain ⟨a, rfl⟩ := Int.eq_ofNat_of_zero_le a0
  obtain ⟨g, rfl⟩ := Int.eq_ofNat_of_zero_le g0
  have e1 := Nat.two_pow_add_eq_or_of_lt (i := 8) (b := 4 * a) (by omega) z
  have e2 := Nat.two_pow_add_eq_or_of_lt (i := 2) (b := g) (by omega) (64 * z + a)
  rw [bs2 a (by omega), lShl_def, ofL, show Int32.ofInt 8 = nI 8 from rfl, wb_shl z (by decide), lOr_def (lN _).toInt, o64, ofL, wb_or (by omega) (by omega), Nat.mul_comm z, ← e1, lOr_def, o64, ofL, wb_or (by omega) (by omega)]
  rw [show 2 ^ 8 * z + 4 * a = 2 ^ 2 * (64 * z + a) by omega, ← e2, L_id (by omega)]
  omega
def byF (N : Nat → Int) (e : Nat) : Int := 4 * nc (N (6 * e + 1)) + N (6 * e + 3)
def ouF (nd : Nat) (N : Nat → Int) : Nat → Int
  | 0 => upm nd N
  | k + 1 => ouF nd N k * 256 + byF N k
theorem by_rng {nd : Nat} {N : Nat → Int} (hok : okN nd N) {e : Nat} (he : e < nd) : 0 ≤ byF N e ∧ byF N e < 256 := by
  have h := hok.2.1 e he
  have h1 := nc_rng h.2.1
  have h3 := h.2.2.2.1
  unfold byF
  omega
theorem upm_inj {nd : Nat} {N N' : Nat → Int} (hok : okN nd N) (hok' : okN nd N') : upm nd N = upm nd N' ↔ ∀ e, e < nd → N (6 * e + 5) = N' (6 * e + 5) := by
  have h4 := hok.1
  have hd := fun d hd => (hok.2.1 d hd).2.2.2.2.2
  have hd' := fun d hd => (hok'.2.1 d hd).2.2.2.2.2
  have : nd = 0 ∨ nd = 1 ∨ nd = 2 ∨ nd = 3 ∨ nd = 4 := by omega
  unfold upm
  rcases this with rfl | rfl | rfl | rfl | rfl
  · simp
  · have a0 := hd 0 (by decide); have b0 := hd' 0 (by decide)
    constructor
    · intro h e he
      have : e = 0 := by omega
      subst this
      simp at a0 b0 h ⊢; omega
    · intro h
      have c0 := h 0 (by decide)
      simp at c0 ⊢; omega
  · have a0 := hd 0 (by decide); have b0 := hd' 0 (by decide); have a1 := hd 1 (by decide); have b1 := hd' 1 (by decide)
    constructor
    · intro h e he
      have : e = 0 ∨ e = 1 := by omega
      rcases this with rfl | rfl <;> simp at a0 b0 a1 b1 h ⊢ <;> omega
    · intro h
      have c0 := h 0 (by decide); have c1 := h 1 (by decide)
      simp at c0 c1 ⊢; omega
  · have a0 := hd 0 (by decide); have b0 := hd' 0 (by decide); have a1 := hd 1 (by decide); have b1 := hd' 1 (by decide); have a2 := hd 2 (by decide); have b2 := hd' 2 (by decide)
    constructor
    · intro h e he
      have : e = 0 ∨ e = 1 ∨ e = 2 := by omega
      rcases this with rfl | rfl | rfl <;> simp at a0 b0 a1 b1 a2 b2 h ⊢ <;> omega
    · intro h
      have c0 := h 0 (by decide); have c1 := h 1 (by decide); have c2 := h 2 (by decide)
      simp at c0 c1 c2 ⊢; omega
  · have a0 := hd 0 (by decide); have b0 := hd' 0 (by decide); have a1 := hd 1 (by decide); have b1 := hd' 1 (by decide); have a2 := hd 2 (by decide); have b2 := hd' 2 (by decide); have a3 := hd 3 (by decide); have b3 := hd' 3 (by decide)
    constructor
    · intro h e he
      have : e = 0 ∨ e = 1 ∨ e = 2 ∨ e = 3 := by omega
      rcases this with rfl | rfl | rfl | rfl <;> simp at a0 b0 a1 b1 a2 b2 a3 b3 h ⊢ <;> omega
    · intro h
      have c0 := h 0 (by decide); have c1 := h 1 (by decide); have c2 := h 2 (by decide); have c3 := h 3 (by decide)
      simp at c0 c1 c2 c3 ⊢; omega
theorem ou_rng {nd : Nat} {N : Nat → Int} (hok : okN nd N) : 0 ≤ ouF nd N 0 ∧ ouF nd N 0 < 16 ∧ (1 ≤ nd → 0 ≤ ouF nd N 1 ∧ ouF nd N 1 < 4096) ∧ (2 ≤ nd → 0 ≤ ouF nd N 2 ∧ ouF nd N 2 < 1048576) ∧ (3 ≤ nd → 0 ≤ ouF nd N 3 ∧ ouF nd N 3 < 268435456) := by
  have h0 := upm_rng hok
  have hb := fun e he => by_rng hok (e := e) he
  have e0 : ouF nd N 0 = upm nd N := rfl
  have e1 : ouF nd N 1 = ouF nd N 0 * 256 + byF N 0 := rfl
  have e2 : ouF nd N 2 = ouF nd N 1 * 256 + byF N 1 := rfl
  have e3 : ouF nd N 3 = ouF nd N 2 * 256 + byF N 2 := rfl
  refine ⟨by omega, by omega, fun q => ?_, fun q => ?_, fun q => ?_⟩
  · have := hb 0 (by omega); omega
  · have := hb 0 (by omega); have := hb 1 (by omega); omega
  · have := hb 0 (by omega); have := hb 1 (by omega); have := hb 2 (by omega); omega
theorem ou_r {nd : Nat} {N : Nat → Int} (hok : okN nd N) {k : Nat} (hk : k < nd) : 0 ≤ ouF nd N k ∧ ouF nd N k < 268435456 := by
  have h := ou_rng hok
  have h4 := hok.1
  have : k = 0 ∨ k = 1 ∨ k = 2 ∨ k = 3 := by omega
  rcases this with rfl | rfl | rfl | rfl
  · omega
  · have := h.2.2.1 (by omega); omega
  · have := h.2.2.2.1 (by omega); omega
  · have := h.2.2.2.2 (by omega); omega
theorem ou_inj {nd : Nat} {N N' : Nat → Int} (hok : okN nd N) (hok' : okN nd N') : ∀ k, k ≤ nd → (ouF nd N k = ouF nd N' k ↔ upm nd N = upm nd N' ∧ ∀ e, e < k → byF N e = byF N' e)
  | 0, _ => ⟨fun h => ⟨h, fun e he => absurd he (by omega)⟩, fun h => h.1⟩
  | k + 1, hk => by
    have ih := ou_inj hok hok' k (by omega)
    have b1 := by_rng hok (e := k) (by omega)
    have b2 := by_rng hok' (e := k) (by omega)
    have e1 : ouF nd N (k + 1) = ouF nd N k * 256 + byF N k := rfl
    have e2 : ouF nd N' (k + 1) = ouF nd N' k * 256 + byF N' k := rfl
    rw [e1, e2]
    constructor
    · intro h
      have q := ih.mp (by omega)
      refine ⟨q.1, fun e he => ?_⟩
      by_cases a : e = k
      · subst a; omega
      · exact q.2 e (by omega)
    · rintro ⟨h1, h2⟩
      have q := ih.mpr ⟨h1, fun e he => h2 e (by omega)⟩
      have := h2 k (by omega)
      omega
/-- what the model writes of a digger -/
def tzF (N : Nat → Int) (e : Nat) : Int := 8 * N (6 * e + 1) + 2 * N (6 * e + 3) + N (6 * e + 5)
theorem tz_iff {nd : Nat} {N N' : Nat → Int} (hok : okN nd N) (hok' : okN nd N') {e : Nat} (he : e < nd) : tzF N e = tzF N' e ↔ byF N e = byF N' e ∧ N (6 * e + 5) = N' (6 * e + 5) := by
  obtain ⟨-, hc, -, hh, -, hu⟩ := hok.2.1 e he
  obtain ⟨-, hc', -, hh', -, hu'⟩ := hok'.2.1 e he
  obtain ⟨x, y, hx, hy, ec⟩ := isC_xy hc
  obtain ⟨x', y', hx', hy', ec'⟩ := isC_xy hc'
  unfold tzF byF nc
  rw [ec, ec']
  omega
theorem ou_tz {nd : Nat} {N N' : Nat → Int} (hok : okN nd N) (hok' : okN nd N') : ouF nd N nd = ouF nd N' nd ↔ ∀ e, e < nd → tzF N e = tzF N' e := by
  rw [ou_inj hok hok' nd (Nat.le_refl _), upm_inj hok hok']
  constructor
  · intro h e he
    exact (tz_iff hok hok' he).mpr ⟨h.2 e he, h.1 e he⟩
  · intro h
    exact ⟨fun e he => ((tz_iff hok hok' he).mp (h e he)).2, fun e he => ((tz_iff hok hok' he).mp (h e he)).1⟩
set_option maxRecDepth 100000 in
theorem c_outline {M : XM} {i : Fin 5} {nd : Nat} {N : Nat → Int} (h : RG M i nd N) (hok : okN nd N) : CW mi_X0_outline [xR 1 i] M (pL M (ouF nd N nd)) := by
  have h4 := hok.1
  have g0 := h.1
  have gu := h.2.1
  have loop : ∀ (m k : Nat), k + m = nd → J_X0_outline (pL M (ouF nd N nd)) 6 [some (xR 1 i), some (xL (ouF nd N k)), none, some (xI k)] [] M := by
    intro m
    induction m with
    | zero =>
      intro k hk
      have e : k = nd := by omega
      subst e
      refine st_X0_outline [(10, [true, true, true, true])] 10 ?_
      simp only [sy, xisC, sxI, xgI, xgL, xgR, xent, xargs0, p1i, p2i, p1l, p2l, pli, p1r, pir, piir, plir, pvr, pdup, pdup2, pret, xjmp, xcon, xfd, xcl_, xcall, xbr, xsw, xtsw, xst1, xst2, xkill, xpush, xcat, xcl, xar, xkd, xrf, xmask, mR, mL, List.getElem?_cons_zero, List.getElem?_cons_succ, List.lookup_nil, List.lookup_cons, Nat.reduceAdd, Nat.reduceSub, Nat.reduceLeDiff, Nat.reduceEqDiff, Nat.reduceBEq, List.length_cons, List.length_nil, List.replicate, List.append_nil, List.nil_append, List.cons_append, List.set_cons_zero, List.set_cons_succ, List.take_succ_cons, List.take_zero, List.drop_succ_cons, List.drop_zero, List.reverse_cons, List.reverse_nil, List.map_cons, List.map_nil, List.sum_cons, List.sum_nil, decide_true, decide_false, and_self, and_true, true_and, true_or, or_true, Fin.isValue, Fin.val_zero, Fin.val_one, Fin.val_two, Fin.reduceFinMk, Nat.reduceMod, Option.some.injEq, Sum.inl.injEq, Sum.inr.injEq, Prod.mk.injEq, eq_self, reduceCtorEq, imp_self, implies_true, Nat.zero_add, Nat.add_zero, Nat.zero_le, Int.reduceEq, Int.reduceLT, Int.reduceLE, Int.reduceNeg, not_true, not_false_iff, false_imp_iff, true_imp_iff, forall_const, or_self, or_false, false_or, and_false, false_and, ↓reduceIte, z_0, z_1, z_f1, z_f2, z_f3, Int.reduceToNat, Int.reduceAdd, ct_X0_outline, mi_X0_outline, pL, g0]
      try exact fun q => absurd q (by omega)
    | succ m ih =>
      intro k hk
      have i' := ih (k + 1) (by omega)
      have gd := h.2.2.2.2.2.1 k (by omega)
      have ga := gd.2.1
      have gh := gd.2.2.2.1
      have hd := hok.2.1 k (by omega)
      have hc := nc_rng hd.2.1
      have hr := ou_r hok (k := k) (by omega)
      have w2 : w32 ((k : Int) + 1) = (k + 1 : Nat) := by rw [w32_id (by omega) (by omega)]; rfl
      have es := ou_step hr.1 (by omega) hc.1 (by omega) hd.2.2.2.1.1 hd.2.2.2.1.2
      rw [show ouF nd N (k + 1) = ouF nd N k * 256 + (4 * nc (N (6 * k + 1)) + N (6 * k + 3)) from rfl, ← Int.add_assoc, ← es] at i'
      generalize ouF nd N k = z at i' ⊢
      generalize nc (N (6 * k + 1)) = a at i' ga
      generalize N (6 * k + 3) = b at i' gh
      refine st_X0_outline [] 20 ?_
      simp only [sy, xisC, sxI, xgI, xgL, xgR, xent, xargs0, p1i, p2i, p1l, p2l, pli, p1r, pir, piir, plir, pvr, pdup, pdup2, pret, xjmp, xcon, xfd, xcl_, xcall, xbr, xsw, xtsw, xst1, xst2, xkill, xpush, xcat, xcl, xar, xkd, xrf, xmask, mR, mL, List.getElem?_cons_zero, List.getElem?_cons_succ, List.lookup_nil, List.lookup_cons, Nat.reduceAdd, Nat.reduceSub, Nat.reduceLeDiff, Nat.reduceEqDiff, Nat.reduceBEq, List.length_cons, List.length_nil, List.replicate, List.append_nil, List.nil_append, List.cons_append, List.set_cons_zero, List.set_cons_succ, List.take_succ_cons, List.take_zero, List.drop_succ_cons, List.drop_zero, List.reverse_cons, List.reverse_nil, List.map_cons, List.map_nil, List.sum_cons, List.sum_nil, decide_true, decide_false, and_self, and_true, true_and, true_or, or_true, Fin.isValue, Fin.val_zero, Fin.val_one, Fin.val_two, Fin.reduceFinMk, Nat.reduceMod, Option.some.injEq, Sum.inl.injEq, Sum.inr.injEq, Prod.mk.injEq, eq_self, reduceCtorEq, imp_self, implies_true, Nat.zero_add, Nat.add_zero, Nat.zero_le, Int.reduceEq, Int.reduceLT, Int.reduceLE, Int.reduceNeg, not_true, not_false_iff, false_imp_iff, true_imp_iff, forall_const, or_self, or_false, false_or, and_false, false_and, ↓reduceIte, z_0, z_1, z_f1, z_f2, z_f3, Int.reduceToNat, Int.reduceAdd, ct_X0_outline, mi_X0_outline, g0]
      refine ⟨fun q => absurd q (by omega), fun _ => ?_⟩
      refine st_X0_outline [] 20 ?_
      simp only [sy, xisC, sxI, xgI, xgL, xgR, xent, xargs0, p1i, p2i, p1l, p2l, pli, p1r, pir, piir, plir, pvr, pdup, pdup2, pret, xjmp, xcon, xfd, xcl_, xcall, xbr, xsw, xtsw, xst1, xst2, xkill, xpush, xcat, xcl, xar, xkd, xrf, xmask, mR, mL, List.getElem?_cons_zero, List.getElem?_cons_succ, List.lookup_nil, List.lookup_cons, Nat.reduceAdd, Nat.reduceSub, Nat.reduceLeDiff, Nat.reduceEqDiff, Nat.reduceBEq, List.length_cons, List.length_nil, List.replicate, List.append_nil, List.nil_append, List.cons_append, List.set_cons_zero, List.set_cons_succ, List.take_succ_cons, List.take_zero, List.drop_succ_cons, List.drop_zero, List.reverse_cons, List.reverse_nil, List.map_cons, List.map_nil, List.sum_cons, List.sum_nil, decide_true, decide_false, and_self, and_true, true_and, true_or, or_true, Fin.isValue, Fin.val_zero, Fin.val_one, Fin.val_two, Fin.reduceFinMk, Nat.reduceMod, Option.some.injEq, Sum.inl.injEq, Sum.inr.injEq, Prod.mk.injEq, eq_self, reduceCtorEq, imp_self, implies_true, Nat.zero_add, Nat.add_zero, Nat.zero_le, Int.reduceEq, Int.reduceLT, Int.reduceLE, Int.reduceNeg, not_true, not_false_iff, false_imp_iff, true_imp_iff, forall_const, or_self, or_false, false_or, and_false, false_and, ↓reduceIte, z_0, z_1, z_f1, z_f2, z_f3, Int.reduceToNat, Int.reduceAdd, ct_X0_outline, mi_X0_outline, ga, Int.toNat_natCast]
      refine ⟨by omega, ?_⟩
      refine st_X0_outline [] 20 ?_
      simp only [sy, xisC, sxI, xgI, xgL, xgR, xent, xargs0, p1i, p2i, p1l, p2l, pli, p1r, pir, piir, plir, pvr, pdup, pdup2, pret, xjmp, xcon, xfd, xcl_, xcall, xbr, xsw, xtsw, xst1, xst2, xkill, xpush, xcat, xcl, xar, xkd, xrf, xmask, mR, mL, List.getElem?_cons_zero, List.getElem?_cons_succ, List.lookup_nil, List.lookup_cons, Nat.reduceAdd, Nat.reduceSub, Nat.reduceLeDiff, Nat.reduceEqDiff, Nat.reduceBEq, List.length_cons, List.length_nil, List.replicate, List.append_nil, List.nil_append, List.cons_append, List.set_cons_zero, List.set_cons_succ, List.take_succ_cons, List.take_zero, List.drop_succ_cons, List.drop_zero, List.reverse_cons, List.reverse_nil, List.map_cons, List.map_nil, List.sum_cons, List.sum_nil, decide_true, decide_false, and_self, and_true, true_and, true_or, or_true, Fin.isValue, Fin.val_zero, Fin.val_one, Fin.val_two, Fin.reduceFinMk, Nat.reduceMod, Option.some.injEq, Sum.inl.injEq, Sum.inr.injEq, Prod.mk.injEq, eq_self, reduceCtorEq, imp_self, implies_true, Nat.zero_add, Nat.add_zero, Nat.zero_le, Int.reduceEq, Int.reduceLT, Int.reduceLE, Int.reduceNeg, not_true, not_false_iff, false_imp_iff, true_imp_iff, forall_const, or_self, or_false, false_or, and_false, false_and, ↓reduceIte, z_0, z_1, z_f1, z_f2, z_f3, Int.reduceToNat, Int.reduceAdd, ct_X0_outline, mi_X0_outline]
      refine st_X0_outline [] 20 ?_
      simp only [sy, xisC, sxI, xgI, xgL, xgR, xent, xargs0, p1i, p2i, p1l, p2l, pli, p1r, pir, piir, plir, pvr, pdup, pdup2, pret, xjmp, xcon, xfd, xcl_, xcall, xbr, xsw, xtsw, xst1, xst2, xkill, xpush, xcat, xcl, xar, xkd, xrf, xmask, mR, mL, List.getElem?_cons_zero, List.getElem?_cons_succ, List.lookup_nil, List.lookup_cons, Nat.reduceAdd, Nat.reduceSub, Nat.reduceLeDiff, Nat.reduceEqDiff, Nat.reduceBEq, List.length_cons, List.length_nil, List.replicate, List.append_nil, List.nil_append, List.cons_append, List.set_cons_zero, List.set_cons_succ, List.take_succ_cons, List.take_zero, List.drop_succ_cons, List.drop_zero, List.reverse_cons, List.reverse_nil, List.map_cons, List.map_nil, List.sum_cons, List.sum_nil, decide_true, decide_false, and_self, and_true, true_and, true_or, or_true, Fin.isValue, Fin.val_zero, Fin.val_one, Fin.val_two, Fin.reduceFinMk, Nat.reduceMod, Option.some.injEq, Sum.inl.injEq, Sum.inr.injEq, Prod.mk.injEq, eq_self, reduceCtorEq, imp_self, implies_true, Nat.zero_add, Nat.add_zero, Nat.zero_le, Int.reduceEq, Int.reduceLT, Int.reduceLE, Int.reduceNeg, not_true, not_false_iff, false_imp_iff, true_imp_iff, forall_const, or_self, or_false, false_or, and_false, false_and, ↓reduceIte, z_0, z_1, z_f1, z_f2, z_f3, Int.reduceToNat, Int.reduceAdd, ct_X0_outline, mi_X0_outline, gh, Int.toNat_natCast]
      refine ⟨by omega, ?_⟩
      refine st_X0_outline [(6, [true, true, true, true])] 20 ?_
      simp only [sy, xisC, sxI, xgI, xgL, xgR, xent, xargs0, p1i, p2i, p1l, p2l, pli, p1r, pir, piir, plir, pvr, pdup, pdup2, pret, xjmp, xcon, xfd, xcl_, xcall, xbr, xsw, xtsw, xst1, xst2, xkill, xpush, xcat, xcl, xar, xkd, xrf, xmask, mR, mL, List.getElem?_cons_zero, List.getElem?_cons_succ, List.lookup_nil, List.lookup_cons, Nat.reduceAdd, Nat.reduceSub, Nat.reduceLeDiff, Nat.reduceEqDiff, Nat.reduceBEq, List.length_cons, List.length_nil, List.replicate, List.append_nil, List.nil_append, List.cons_append, List.set_cons_zero, List.set_cons_succ, List.take_succ_cons, List.take_zero, List.drop_succ_cons, List.drop_zero, List.reverse_cons, List.reverse_nil, List.map_cons, List.map_nil, List.sum_cons, List.sum_nil, decide_true, decide_false, and_self, and_true, true_and, true_or, or_true, Fin.isValue, Fin.val_zero, Fin.val_one, Fin.val_two, Fin.reduceFinMk, Nat.reduceMod, Option.some.injEq, Sum.inl.injEq, Sum.inr.injEq, Prod.mk.injEq, eq_self, reduceCtorEq, imp_self, implies_true, Nat.zero_add, Nat.add_zero, Nat.zero_le, Int.reduceEq, Int.reduceLT, Int.reduceLE, Int.reduceNeg, not_true, not_false_iff, false_imp_iff, true_imp_iff, forall_const, or_self, or_false, false_or, and_false, false_and, ↓reduceIte, z_0, z_1, z_f1, z_f2, z_f3, Int.reduceToNat, Int.reduceAdd, ct_X0_outline, mi_X0_outline, w2]
      exact i'
  refine in_X0_outline (Nat.le_of_ble_eq_true rfl) ?_
  refine st_X0_outline [(6, [true, true, true, true])] 8 ?_
  simp only [sy, xisC, sxI, xgI, xgL, xgR, xent, xargs0, p1i, p2i, p1l, p2l, pli, p1r, pir, piir, plir, pvr, pdup, pdup2, pret, xjmp, xcon, xfd, xcl_, xcall, xbr, xsw, xtsw, xst1, xst2, xkill, xpush, xcat, xcl, xar, xkd, xrf, xmask, mR, mL, List.getElem?_cons_zero, List.getElem?_cons_succ, List.lookup_nil, List.lookup_cons, Nat.reduceAdd, Nat.reduceSub, Nat.reduceLeDiff, Nat.reduceEqDiff, Nat.reduceBEq, List.length_cons, List.length_nil, List.replicate, List.append_nil, List.nil_append, List.cons_append, List.set_cons_zero, List.set_cons_succ, List.take_succ_cons, List.take_zero, List.drop_succ_cons, List.drop_zero, List.reverse_cons, List.reverse_nil, List.map_cons, List.map_nil, List.sum_cons, List.sum_nil, decide_true, decide_false, and_self, and_true, true_and, true_or, or_true, Fin.isValue, Fin.val_zero, Fin.val_one, Fin.val_two, Fin.reduceFinMk, Nat.reduceMod, Option.some.injEq, Sum.inl.injEq, Sum.inr.injEq, Prod.mk.injEq, eq_self, reduceCtorEq, imp_self, implies_true, Nat.zero_add, Nat.add_zero, Nat.zero_le, Int.reduceEq, Int.reduceLT, Int.reduceLE, Int.reduceNeg, not_true, not_false_iff, false_imp_iff, true_imp_iff, forall_const, or_self, or_false, false_or, and_false, false_and, ↓reduceIte, z_0, z_1, z_f1, z_f2, z_f3, Int.reduceToNat, Int.reduceAdd, ct_X0_outline, mi_X0_outline, gu]
  exact loop nd 0 (by omega)
/-! again -/
def agF (T : Nat → Int) (j i : Nat) : Nat → Int
  | 0 => 1
  | k + 1 => if agF T j i k = 1 ∧ T (4 * j + k) = T (4 * i + k) then 1 else 0
theorem agF_01 (T : Nat → Int) (j i : Nat) : ∀ k, agF T j i k = 0 ∨ agF T j i k = 1
  | 0 => Or.inr rfl
  | k + 1 => by unfold agF; split <;> simp
theorem agF_iff {T : Nat → Int} {j i : Nat} : ∀ k, agF T j i k = 1 ↔ ∀ e, e < k → T (4 * j + e) = T (4 * i + e)
  | 0 => ⟨fun _ e he => absurd he (by omega), fun _ => rfl⟩
  | k + 1 => by
    have ih := agF_iff (T := T) (j := j) (i := i) k
    rw [show agF T j i (k + 1) = if agF T j i k = 1 ∧ T (4 * j + k) = T (4 * i + k) then 1 else 0 from rfl]
    constructor
    · intro h e he
      by_cases q : agF T j i k = 1 ∧ T (4 * j + k) = T (4 * i + k)
      · by_cases a : e = k
        · subst a; exact q.2
        · exact ih.mp q.1 e (by omega)
      · rw [if_neg q] at h; exact absurd h (by decide)
    · intro h
      rw [if_pos ⟨ih.mpr (fun e he => h e (by omega)), h k (by omega)⟩]
theorem agF_cg {T T' : Nat → Int} {j i : Nat} : ∀ k, (∀ e, e < k → T' (4 * j + e) = T (4 * j + e) ∧ T' (4 * i + e) = T (4 * i + e)) → agF T' j i k = agF T j i k
  | 0, _ => rfl
  | k + 1, h => by
    unfold agF
    rw [agF_cg k (fun e he => h e (by omega)), (h k (by omega)).1, (h k (by omega)).2]
set_option maxRecDepth 100000 in
theorem m_isAgain {M : XM} {nd : Nat} (hn : M 22 0 3 = nd) (h4 : nd ≤ 4) (j i : Nat) (hj : j ≤ 40) (hi : i ≤ 40) : CW mi_X4_isAgain [xR 22 0, xI j, xI i] M (pI M (agF (M 29 0) j i nd)) := by
  have loop : ∀ (n k : Nat), k + n = nd → J_X4_isAgain (pI M (agF (M 29 0) j i nd)) 4 [some (xR 22 0), some (xI j), some (xI i), some (xI (agF (M 29 0) j i k)), some (xI k)] [] M := by
    intro n
    induction n with
    | zero =>
      intro k hk
      have e : k = nd := by omega
      subst e
      refine st_X4_isAgain [(8, [true, true, true, true, true])] 10 ?_
      simp only [sy, xisC, sxI, xgI, xgL, xgR, xent, xargs0, p1i, p2i, p1l, p2l, pli, p1r, pir, piir, plir, pvr, pdup, pdup2, pret, xjmp, xcon, xfd, xcl_, xcall, xbr, xsw, xtsw, xst1, xst2, xkill, xpush, xcat, xcl, xar, xkd, xrf, xmask, mR, mL, List.getElem?_cons_zero, List.getElem?_cons_succ, List.lookup_nil, List.lookup_cons, Nat.reduceAdd, Nat.reduceSub, Nat.reduceLeDiff, Nat.reduceEqDiff, Nat.reduceBEq, List.length_cons, List.length_nil, List.replicate, List.append_nil, List.nil_append, List.cons_append, List.set_cons_zero, List.set_cons_succ, List.take_succ_cons, List.take_zero, List.drop_succ_cons, List.drop_zero, List.reverse_cons, List.reverse_nil, List.map_cons, List.map_nil, List.sum_cons, List.sum_nil, decide_true, decide_false, and_self, and_true, true_and, true_or, or_true, Fin.isValue, Fin.val_zero, Fin.val_one, Fin.val_two, Fin.reduceFinMk, Nat.reduceMod, Option.some.injEq, Sum.inl.injEq, Sum.inr.injEq, Prod.mk.injEq, eq_self, reduceCtorEq, imp_self, implies_true, Nat.zero_add, Nat.add_zero, Nat.zero_le, Int.reduceEq, Int.reduceLT, Int.reduceLE, Int.reduceNeg, not_true, not_false_iff, false_imp_iff, true_imp_iff, forall_const, or_self, or_false, false_or, and_false, false_and, ↓reduceIte, z_0, z_1, z_f1, z_f2, z_f3, Int.reduceToNat, Int.reduceAdd, ct_X4_isAgain, mi_X4_isAgain, pI, hn]
      exact ⟨fun _ => agF_01 _ _ _ _, fun q => absurd q (by omega)⟩
    | succ n ih =>
      intro k hk
      have i' := ih (k + 1) (by omega)
      have w2 : w32 ((k : Int) + 1) = (k + 1 : Nat) := by rw [w32_id (by omega) (by omega)]; rfl
      have w3 : w32 (4 * (j : Int)) = 4 * j := w32_id (by omega) (by omega)
      have w4 : w32 (4 * (j : Int) + k) = 4 * j + k := w32_id (by omega) (by omega)
      have t4 : (4 * (j : Int) + k).toNat = 4 * j + k := by omega
      have w5 : w32 (4 * (i : Int)) = 4 * i := w32_id (by omega) (by omega)
      have w6 : w32 (4 * (i : Int) + k) = 4 * i + k := w32_id (by omega) (by omega)
      have t6 : (4 * (i : Int) + k).toNat = 4 * i + k := by omega
      have es : agF (M 29 0) j i (k + 1) = if agF (M 29 0) j i k = 1 ∧ M 29 0 (4 * j + k) = M 29 0 (4 * i + k) then 1 else 0 := rfl
      rcases agF_01 (M 29 0) j i k with q | q
      · rw [q] at es ⊢
        rw [if_neg (fun a => absurd a.1 (by decide))] at es
        rw [es] at i'
        refine st_X4_isAgain [(29, [true, true, true, true, true])] 20 ?_
        simp only [sy, xisC, sxI, xgI, xgL, xgR, xent, xargs0, p1i, p2i, p1l, p2l, pli, p1r, pir, piir, plir, pvr, pdup, pdup2, pret, xjmp, xcon, xfd, xcl_, xcall, xbr, xsw, xtsw, xst1, xst2, xkill, xpush, xcat, xcl, xar, xkd, xrf, xmask, mR, mL, List.getElem?_cons_zero, List.getElem?_cons_succ, List.lookup_nil, List.lookup_cons, Nat.reduceAdd, Nat.reduceSub, Nat.reduceLeDiff, Nat.reduceEqDiff, Nat.reduceBEq, List.length_cons, List.length_nil, List.replicate, List.append_nil, List.nil_append, List.cons_append, List.set_cons_zero, List.set_cons_succ, List.take_succ_cons, List.take_zero, List.drop_succ_cons, List.drop_zero, List.reverse_cons, List.reverse_nil, List.map_cons, List.map_nil, List.sum_cons, List.sum_nil, decide_true, decide_false, and_self, and_true, true_and, true_or, or_true, Fin.isValue, Fin.val_zero, Fin.val_one, Fin.val_two, Fin.reduceFinMk, Nat.reduceMod, Option.some.injEq, Sum.inl.injEq, Sum.inr.injEq, Prod.mk.injEq, eq_self, reduceCtorEq, imp_self, implies_true, Nat.zero_add, Nat.add_zero, Nat.zero_le, Int.reduceEq, Int.reduceLT, Int.reduceLE, Int.reduceNeg, not_true, not_false_iff, false_imp_iff, true_imp_iff, forall_const, or_self, or_false, false_or, and_false, false_and, ↓reduceIte, z_0, z_1, z_f1, z_f2, z_f3, Int.reduceToNat, Int.reduceAdd, ct_X4_isAgain, mi_X4_isAgain, hn]
        refine ⟨fun q => absurd q (by omega), fun _ => ?_⟩
        refine st_X4_isAgain [(4, [true, true, true, true, true])] 20 ?_
        simp only [sy, xisC, sxI, xgI, xgL, xgR, xent, xargs0, p1i, p2i, p1l, p2l, pli, p1r, pir, piir, plir, pvr, pdup, pdup2, pret, xjmp, xcon, xfd, xcl_, xcall, xbr, xsw, xtsw, xst1, xst2, xkill, xpush, xcat, xcl, xar, xkd, xrf, xmask, mR, mL, List.getElem?_cons_zero, List.getElem?_cons_succ, List.lookup_nil, List.lookup_cons, Nat.reduceAdd, Nat.reduceSub, Nat.reduceLeDiff, Nat.reduceEqDiff, Nat.reduceBEq, List.length_cons, List.length_nil, List.replicate, List.append_nil, List.nil_append, List.cons_append, List.set_cons_zero, List.set_cons_succ, List.take_succ_cons, List.take_zero, List.drop_succ_cons, List.drop_zero, List.reverse_cons, List.reverse_nil, List.map_cons, List.map_nil, List.sum_cons, List.sum_nil, decide_true, decide_false, and_self, and_true, true_and, true_or, or_true, Fin.isValue, Fin.val_zero, Fin.val_one, Fin.val_two, Fin.reduceFinMk, Nat.reduceMod, Option.some.injEq, Sum.inl.injEq, Sum.inr.injEq, Prod.mk.injEq, eq_self, reduceCtorEq, imp_self, implies_true, Nat.zero_add, Nat.add_zero, Nat.zero_le, Int.reduceEq, Int.reduceLT, Int.reduceLE, Int.reduceNeg, not_true, not_false_iff, false_imp_iff, true_imp_iff, forall_const, or_self, or_false, false_or, and_false, false_and, ↓reduceIte, z_0, z_1, z_f1, z_f2, z_f3, Int.reduceToNat, Int.reduceAdd, ct_X4_isAgain, mi_X4_isAgain, w2]
        exact i'
      · rw [q] at es ⊢
        by_cases q2 : M 29 0 (4 * j + k) = M 29 0 (4 * i + k)
        · rw [if_pos ⟨rfl, q2⟩] at es
          rw [es] at i'
          refine st_X4_isAgain [(27, [true, true, true, true, true])] 25 ?_
          simp only [sy, xisC, sxI, xgI, xgL, xgR, xent, xargs0, p1i, p2i, p1l, p2l, pli, p1r, pir, piir, plir, pvr, pdup, pdup2, pret, xjmp, xcon, xfd, xcl_, xcall, xbr, xsw, xtsw, xst1, xst2, xkill, xpush, xcat, xcl, xar, xkd, xrf, xmask, mR, mL, List.getElem?_cons_zero, List.getElem?_cons_succ, List.lookup_nil, List.lookup_cons, Nat.reduceAdd, Nat.reduceSub, Nat.reduceLeDiff, Nat.reduceEqDiff, Nat.reduceBEq, List.length_cons, List.length_nil, List.replicate, List.append_nil, List.nil_append, List.cons_append, List.set_cons_zero, List.set_cons_succ, List.take_succ_cons, List.take_zero, List.drop_succ_cons, List.drop_zero, List.reverse_cons, List.reverse_nil, List.map_cons, List.map_nil, List.sum_cons, List.sum_nil, decide_true, decide_false, and_self, and_true, true_and, true_or, or_true, Fin.isValue, Fin.val_zero, Fin.val_one, Fin.val_two, Fin.reduceFinMk, Nat.reduceMod, Option.some.injEq, Sum.inl.injEq, Sum.inr.injEq, Prod.mk.injEq, eq_self, reduceCtorEq, imp_self, implies_true, Nat.zero_add, Nat.add_zero, Nat.zero_le, Int.reduceEq, Int.reduceLT, Int.reduceLE, Int.reduceNeg, not_true, not_false_iff, false_imp_iff, true_imp_iff, forall_const, or_self, or_false, false_or, and_false, false_and, ↓reduceIte, z_0, z_1, z_f1, z_f2, z_f3, Int.reduceToNat, Int.reduceAdd, ct_X4_isAgain, mi_X4_isAgain, hn, w3, w4, t4, w5, w6, t6, q2, n1z]
          refine ⟨fun q => absurd q (by omega), fun _ => ⟨by omega, by omega, ?_⟩⟩
          refine st_X4_isAgain [(4, [true, true, true, true, true])] 20 ?_
          simp only [sy, xisC, sxI, xgI, xgL, xgR, xent, xargs0, p1i, p2i, p1l, p2l, pli, p1r, pir, piir, plir, pvr, pdup, pdup2, pret, xjmp, xcon, xfd, xcl_, xcall, xbr, xsw, xtsw, xst1, xst2, xkill, xpush, xcat, xcl, xar, xkd, xrf, xmask, mR, mL, List.getElem?_cons_zero, List.getElem?_cons_succ, List.lookup_nil, List.lookup_cons, Nat.reduceAdd, Nat.reduceSub, Nat.reduceLeDiff, Nat.reduceEqDiff, Nat.reduceBEq, List.length_cons, List.length_nil, List.replicate, List.append_nil, List.nil_append, List.cons_append, List.set_cons_zero, List.set_cons_succ, List.take_succ_cons, List.take_zero, List.drop_succ_cons, List.drop_zero, List.reverse_cons, List.reverse_nil, List.map_cons, List.map_nil, List.sum_cons, List.sum_nil, decide_true, decide_false, and_self, and_true, true_and, true_or, or_true, Fin.isValue, Fin.val_zero, Fin.val_one, Fin.val_two, Fin.reduceFinMk, Nat.reduceMod, Option.some.injEq, Sum.inl.injEq, Sum.inr.injEq, Prod.mk.injEq, eq_self, reduceCtorEq, imp_self, implies_true, Nat.zero_add, Nat.add_zero, Nat.zero_le, Int.reduceEq, Int.reduceLT, Int.reduceLE, Int.reduceNeg, not_true, not_false_iff, false_imp_iff, true_imp_iff, forall_const, or_self, or_false, false_or, and_false, false_and, ↓reduceIte, z_0, z_1, z_f1, z_f2, z_f3, Int.reduceToNat, Int.reduceAdd, ct_X4_isAgain, mi_X4_isAgain, w2]
          exact i'
        · rw [if_neg (fun a => q2 a.2)] at es
          rw [es] at i'
          refine st_X4_isAgain [(29, [true, true, true, true, true])] 25 ?_
          simp only [sy, xisC, sxI, xgI, xgL, xgR, xent, xargs0, p1i, p2i, p1l, p2l, pli, p1r, pir, piir, plir, pvr, pdup, pdup2, pret, xjmp, xcon, xfd, xcl_, xcall, xbr, xsw, xtsw, xst1, xst2, xkill, xpush, xcat, xcl, xar, xkd, xrf, xmask, mR, mL, List.getElem?_cons_zero, List.getElem?_cons_succ, List.lookup_nil, List.lookup_cons, Nat.reduceAdd, Nat.reduceSub, Nat.reduceLeDiff, Nat.reduceEqDiff, Nat.reduceBEq, List.length_cons, List.length_nil, List.replicate, List.append_nil, List.nil_append, List.cons_append, List.set_cons_zero, List.set_cons_succ, List.take_succ_cons, List.take_zero, List.drop_succ_cons, List.drop_zero, List.reverse_cons, List.reverse_nil, List.map_cons, List.map_nil, List.sum_cons, List.sum_nil, decide_true, decide_false, and_self, and_true, true_and, true_or, or_true, Fin.isValue, Fin.val_zero, Fin.val_one, Fin.val_two, Fin.reduceFinMk, Nat.reduceMod, Option.some.injEq, Sum.inl.injEq, Sum.inr.injEq, Prod.mk.injEq, eq_self, reduceCtorEq, imp_self, implies_true, Nat.zero_add, Nat.add_zero, Nat.zero_le, Int.reduceEq, Int.reduceLT, Int.reduceLE, Int.reduceNeg, not_true, not_false_iff, false_imp_iff, true_imp_iff, forall_const, or_self, or_false, false_or, and_false, false_and, ↓reduceIte, z_0, z_1, z_f1, z_f2, z_f3, Int.reduceToNat, Int.reduceAdd, ct_X4_isAgain, mi_X4_isAgain, hn, w3, w4, t4, w5, w6, t6, q2, n1z]
          refine ⟨fun q => absurd q (by omega), fun _ => ⟨by omega, by omega, ?_⟩⟩
          refine st_X4_isAgain [(4, [true, true, true, true, true])] 20 ?_
          simp only [sy, xisC, sxI, xgI, xgL, xgR, xent, xargs0, p1i, p2i, p1l, p2l, pli, p1r, pir, piir, plir, pvr, pdup, pdup2, pret, xjmp, xcon, xfd, xcl_, xcall, xbr, xsw, xtsw, xst1, xst2, xkill, xpush, xcat, xcl, xar, xkd, xrf, xmask, mR, mL, List.getElem?_cons_zero, List.getElem?_cons_succ, List.lookup_nil, List.lookup_cons, Nat.reduceAdd, Nat.reduceSub, Nat.reduceLeDiff, Nat.reduceEqDiff, Nat.reduceBEq, List.length_cons, List.length_nil, List.replicate, List.append_nil, List.nil_append, List.cons_append, List.set_cons_zero, List.set_cons_succ, List.take_succ_cons, List.take_zero, List.drop_succ_cons, List.drop_zero, List.reverse_cons, List.reverse_nil, List.map_cons, List.map_nil, List.sum_cons, List.sum_nil, decide_true, decide_false, and_self, and_true, true_and, true_or, or_true, Fin.isValue, Fin.val_zero, Fin.val_one, Fin.val_two, Fin.reduceFinMk, Nat.reduceMod, Option.some.injEq, Sum.inl.injEq, Sum.inr.injEq, Prod.mk.injEq, eq_self, reduceCtorEq, imp_self, implies_true, Nat.zero_add, Nat.add_zero, Nat.zero_le, Int.reduceEq, Int.reduceLT, Int.reduceLE, Int.reduceNeg, not_true, not_false_iff, false_imp_iff, true_imp_iff, forall_const, or_self, or_false, false_or, and_false, false_and, ↓reduceIte, z_0, z_1, z_f1, z_f2, z_f3, Int.reduceToNat, Int.reduceAdd, ct_X4_isAgain, mi_X4_isAgain, w2]
          exact i'
  refine in_X4_isAgain (Nat.le_of_ble_eq_true rfl) ?_
  refine st_X4_isAgain [(4, [true, true, true, true, true])] 8 ?_
  simp only [sy, xisC, sxI, xgI, xgL, xgR, xent, xargs0, p1i, p2i, p1l, p2l, pli, p1r, pir, piir, plir, pvr, pdup, pdup2, pret, xjmp, xcon, xfd, xcl_, xcall, xbr, xsw, xtsw, xst1, xst2, xkill, xpush, xcat, xcl, xar, xkd, xrf, xmask, mR, mL, List.getElem?_cons_zero, List.getElem?_cons_succ, List.lookup_nil, List.lookup_cons, Nat.reduceAdd, Nat.reduceSub, Nat.reduceLeDiff, Nat.reduceEqDiff, Nat.reduceBEq, List.length_cons, List.length_nil, List.replicate, List.append_nil, List.nil_append, List.cons_append, List.set_cons_zero, List.set_cons_succ, List.take_succ_cons, List.take_zero, List.drop_succ_cons, List.drop_zero, List.reverse_cons, List.reverse_nil, List.map_cons, List.map_nil, List.sum_cons, List.sum_nil, decide_true, decide_false, and_self, and_true, true_and, true_or, or_true, Fin.isValue, Fin.val_zero, Fin.val_one, Fin.val_two, Fin.reduceFinMk, Nat.reduceMod, Option.some.injEq, Sum.inl.injEq, Sum.inr.injEq, Prod.mk.injEq, eq_self, reduceCtorEq, imp_self, implies_true, Nat.zero_add, Nat.add_zero, Nat.zero_le, Int.reduceEq, Int.reduceLT, Int.reduceLE, Int.reduceNeg, not_true, not_false_iff, false_imp_iff, true_imp_iff, forall_const, or_self, or_false, false_or, and_false, false_and, ↓reduceIte, z_0, z_1, z_f1, z_f2, z_f3, Int.reduceToNat, Int.reduceAdd, ct_X4_isAgain, mi_X4_isAgain]
  exact loop nd 0 (by omega)
/-! ring -/
def trF (nd : Nat) (N : Nat → Int) (k : Nat) : Int := tzF (feetW nd al (k / 4) N) (k % 4)
theorem tr_e {nd : Nat} {N : Nat → Int} {j e : Nat} (he : e < 4) : trF nd N (4 * j + e) = tzF (feetW nd al j N) e := by
  unfold trF
  rw [show (4 * j + e) / 4 = j by omega, show (4 * j + e) % 4 = e by omega]
theorem ou_ag {nd : Nat} {N : Nat → Int} (hok : okN nd N) (j i : Nat) : ouF nd (feetW nd al j N) nd = ouF nd (feetW nd al i N) nd ↔ agF (trF nd N) j i nd = 1 := by
  have h4 := hok.1
  rw [ou_tz (ok_feetW hok j) (ok_feetW hok i), agF_iff]
  constructor
  · intro h e he
    rw [tr_e (by omega), tr_e (by omega)]
    exact h e he
  · intro h e he
    have := h e he
    rw [tr_e (by omega), tr_e (by omega)] at this
    exact this
def rjF (nd : Nat) (N : Nat → Int) (i : Nat) : Nat → Nat → Int
  | 0, _ => -1
  | m + 1, j => if agF (trF nd N) j i nd = 1 then (j : Int) else rjF nd N i m (j + 1)
def riF (w : Int) (i : Nat) (nx r : Int) : Int := if r = -1 then nx else if w = 0 then (i : Int) else r
def rgF (nd : Nat) (N : Nat → Int) (w : Int) : Nat → Nat → Int
  | 0, _ => -4
  | m + 1, i => riF w i (rgF nd N w m (i + 1)) (rjF nd N i i 0)
theorem rg_s {nd : Nat} {N : Nat → Int} {w : Int} {m i : Nat} : rgF nd N w (m + 1) i = riF w i (rgF nd N w m (i + 1)) (rjF nd N i i 0) := rfl
theorem lc_eq {a b : Int} (h : a = b) : lcmpz a b = 0 := by subst h; unfold lcmpz; rw [if_neg (by omega), if_pos rfl]
theorem lc_ne {a b : Int} (h : ¬ a = b) : ¬ lcmpz a b = 0 := by
  unfold lcmpz
  split
  · decide
  · decide
set_option maxRecDepth 100000 in
theorem p_ring {M : XM} (h : InvX M M) (w : Int) : PUB mi_X3_ring mi_X4_ring [xI w] M := by
  have e := h
  obtain ⟨nd, hn, ok, rg, -, -, -, -, -, -⟩ := e
  have g0 := rg.1
  have h4 := ok.1
  have okS := st_ok ok
  by_cases c1 : 0 ≤ w ∧ w ≤ 1
  · refine PUB_of (m := M) (rgF nd (stN M) w 40 1) ?_ (fun M1 h1 => ?_)
    · refine in_X3_ring (Nat.le_of_ble_eq_true rfl) ?_
      refine st_X3_ring [] 20 ?_
      simp only [sy, xisC, sxI, xgI, xgL, xgR, xent, xargs0, p1i, p2i, p1l, p2l, pli, p1r, pir, piir, plir, pvr, pdup, pdup2, pret, xjmp, xcon, xfd, xcl_, xcall, xbr, xsw, xtsw, xst1, xst2, xkill, xpush, xcat, xcl, xar, xkd, xrf, xmask, mR, mL, List.getElem?_cons_zero, List.getElem?_cons_succ, List.lookup_nil, List.lookup_cons, Nat.reduceAdd, Nat.reduceSub, Nat.reduceLeDiff, Nat.reduceEqDiff, Nat.reduceBEq, List.length_cons, List.length_nil, List.replicate, List.append_nil, List.nil_append, List.cons_append, List.set_cons_zero, List.set_cons_succ, List.take_succ_cons, List.take_zero, List.drop_succ_cons, List.drop_zero, List.reverse_cons, List.reverse_nil, List.map_cons, List.map_nil, List.sum_cons, List.sum_nil, decide_true, decide_false, and_self, and_true, true_and, true_or, or_true, Fin.isValue, Fin.val_zero, Fin.val_one, Fin.val_two, Fin.reduceFinMk, Nat.reduceMod, Option.some.injEq, Sum.inl.injEq, Sum.inr.injEq, Prod.mk.injEq, eq_self, reduceCtorEq, imp_self, implies_true, Nat.zero_add, Nat.add_zero, Nat.zero_le, Int.reduceEq, Int.reduceLT, Int.reduceLE, Int.reduceNeg, not_true, not_false_iff, false_imp_iff, true_imp_iff, forall_const, or_self, or_false, false_or, and_false, false_and, ↓reduceIte, z_0, z_1, z_f1, z_f2, z_f3, Int.reduceToNat, Int.reduceAdd, ct_X3_ring, mi_X3_ring]
      refine CW.mono (c_within M w 0 1) ?_
      rintro _ M1 ⟨rfl, hM1⟩; rw [hM1]; clear hM1 M1
      rw [if_pos c1]
      refine st_X3_ring [(7, [true, true, true, true])] 20 ?_
      simp only [sy, xisC, sxI, xgI, xgL, xgR, xent, xargs0, p1i, p2i, p1l, p2l, pli, p1r, pir, piir, plir, pvr, pdup, pdup2, pret, xjmp, xcon, xfd, xcl_, xcall, xbr, xsw, xtsw, xst1, xst2, xkill, xpush, xcat, xcl, xar, xkd, xrf, xmask, mR, mL, List.getElem?_cons_zero, List.getElem?_cons_succ, List.lookup_nil, List.lookup_cons, Nat.reduceAdd, Nat.reduceSub, Nat.reduceLeDiff, Nat.reduceEqDiff, Nat.reduceBEq, List.length_cons, List.length_nil, List.replicate, List.append_nil, List.nil_append, List.cons_append, List.set_cons_zero, List.set_cons_succ, List.take_succ_cons, List.take_zero, List.drop_succ_cons, List.drop_zero, List.reverse_cons, List.reverse_nil, List.map_cons, List.map_nil, List.sum_cons, List.sum_nil, decide_true, decide_false, and_self, and_true, true_and, true_or, or_true, Fin.isValue, Fin.val_zero, Fin.val_one, Fin.val_two, Fin.reduceFinMk, Nat.reduceMod, Option.some.injEq, Sum.inl.injEq, Sum.inr.injEq, Prod.mk.injEq, eq_self, reduceCtorEq, imp_self, implies_true, Nat.zero_add, Nat.add_zero, Nat.zero_le, Int.reduceEq, Int.reduceLT, Int.reduceLE, Int.reduceNeg, not_true, not_false_iff, false_imp_iff, true_imp_iff, forall_const, or_self, or_false, false_or, and_false, false_and, ↓reduceIte, z_0, z_1, z_f1, z_f2, z_f3, Int.reduceToNat, Int.reduceAdd, ct_X3_ring, mi_X3_ring, n1z]
      refine st_X3_ring [] 20 ?_
      simp only [sy, xisC, sxI, xgI, xgL, xgR, xent, xargs0, p1i, p2i, p1l, p2l, pli, p1r, pir, piir, plir, pvr, pdup, pdup2, pret, xjmp, xcon, xfd, xcl_, xcall, xbr, xsw, xtsw, xst1, xst2, xkill, xpush, xcat, xcl, xar, xkd, xrf, xmask, mR, mL, List.getElem?_cons_zero, List.getElem?_cons_succ, List.lookup_nil, List.lookup_cons, Nat.reduceAdd, Nat.reduceSub, Nat.reduceLeDiff, Nat.reduceEqDiff, Nat.reduceBEq, List.length_cons, List.length_nil, List.replicate, List.append_nil, List.nil_append, List.cons_append, List.set_cons_zero, List.set_cons_succ, List.take_succ_cons, List.take_zero, List.drop_succ_cons, List.drop_zero, List.reverse_cons, List.reverse_nil, List.map_cons, List.map_nil, List.sum_cons, List.sum_nil, decide_true, decide_false, and_self, and_true, true_and, true_or, or_true, Fin.isValue, Fin.val_zero, Fin.val_one, Fin.val_two, Fin.reduceFinMk, Nat.reduceMod, Option.some.injEq, Sum.inl.injEq, Sum.inr.injEq, Prod.mk.injEq, eq_self, reduceCtorEq, imp_self, implies_true, Nat.zero_add, Nat.add_zero, Nat.zero_le, Int.reduceEq, Int.reduceLT, Int.reduceLE, Int.reduceNeg, not_true, not_false_iff, false_imp_iff, true_imp_iff, forall_const, or_self, or_false, false_or, and_false, false_and, ↓reduceIte, z_0, z_1, z_f1, z_f2, z_f3, Int.reduceToNat, Int.reduceAdd, ct_X3_ring, mi_X3_ring]
      refine CW.mono (c_try ok rg) ?_
      rintro _ M1 ⟨rfl, r1, f1⟩
      have loop : ∀ (m k : Nat) (M3 : XM), k + m = 40 → RG M3 1 nd (feetW nd al k (stN M)) → (∀ j, j ≤ k → M3 19 0 j = ouF nd (feetW nd al j (stN M)) nd) → frQ M M3 → ∀ b : Option XV, J_X3_ring (fun r M1 => r = some (xI (rgF nd (stN M) w m (k + 1))) ∧ hiS M M1 ∧ InvX M1 M) 21 [some (xR 0 0), some (xI w), some (xI ((k + 1 : Nat) : Int)), b] [] M3 := by
        intro m
        induction m with
        | zero =>
          intro k M3 hk r3 t3 f3 b
          have e : k = 40 := by omega
          subst e
          refine st_X3_ring [(24, [true, true, true, true])] 20 ?_
          simp only [sy, xisC, sxI, xgI, xgL, xgR, xent, xargs0, p1i, p2i, p1l, p2l, pli, p1r, pir, piir, plir, pvr, pdup, pdup2, pret, xjmp, xcon, xfd, xcl_, xcall, xbr, xsw, xtsw, xst1, xst2, xkill, xpush, xcat, xcl, xar, xkd, xrf, xmask, mR, mL, List.getElem?_cons_zero, List.getElem?_cons_succ, List.lookup_nil, List.lookup_cons, Nat.reduceAdd, Nat.reduceSub, Nat.reduceLeDiff, Nat.reduceEqDiff, Nat.reduceBEq, List.length_cons, List.length_nil, List.replicate, List.append_nil, List.nil_append, List.cons_append, List.set_cons_zero, List.set_cons_succ, List.take_succ_cons, List.take_zero, List.drop_succ_cons, List.drop_zero, List.reverse_cons, List.reverse_nil, List.map_cons, List.map_nil, List.sum_cons, List.sum_nil, decide_true, decide_false, and_self, and_true, true_and, true_or, or_true, Fin.isValue, Fin.val_zero, Fin.val_one, Fin.val_two, Fin.reduceFinMk, Nat.reduceMod, Option.some.injEq, Sum.inl.injEq, Sum.inr.injEq, Prod.mk.injEq, eq_self, reduceCtorEq, imp_self, implies_true, Nat.zero_add, Nat.add_zero, Nat.zero_le, Int.reduceEq, Int.reduceLT, Int.reduceLE, Int.reduceNeg, not_true, not_false_iff, false_imp_iff, true_imp_iff, forall_const, or_self, or_false, false_or, and_false, false_and, ↓reduceIte, z_0, z_1, z_f1, z_f2, z_f3, Int.reduceToNat, Int.reduceAdd, ct_X3_ring, mi_X3_ring]
          refine ⟨fun _ => ⟨rfl, hi_Q f3, InvX_Q h f3⟩, fun q => absurd q (by omega)⟩
        | succ m ih =>
          intro k M3 hk r3 t3 f3 b
          have okk := ok_feetW (who := al) okS k
          have w2 : w32 (((k + 1 : Nat) : Int) + 1) = ((k + 1 + 1 : Nat) : Int) := by rw [w32_id (by omega) (by omega)]; rfl
          rw [show rgF nd (stN M) w (m + 1) (k + 1) = riF w (k + 1) (rgF nd (stN M) w m (k + 1 + 1)) (rjF nd (stN M) (k + 1) (k + 1) 0) from rfl]
          refine st_X3_ring [] 20 ?_
          simp only [sy, xisC, sxI, xgI, xgL, xgR, xent, xargs0, p1i, p2i, p1l, p2l, pli, p1r, pir, piir, plir, pvr, pdup, pdup2, pret, xjmp, xcon, xfd, xcl_, xcall, xbr, xsw, xtsw, xst1, xst2, xkill, xpush, xcat, xcl, xar, xkd, xrf, xmask, mR, mL, List.getElem?_cons_zero, List.getElem?_cons_succ, List.lookup_nil, List.lookup_cons, Nat.reduceAdd, Nat.reduceSub, Nat.reduceLeDiff, Nat.reduceEqDiff, Nat.reduceBEq, List.length_cons, List.length_nil, List.replicate, List.append_nil, List.nil_append, List.cons_append, List.set_cons_zero, List.set_cons_succ, List.take_succ_cons, List.take_zero, List.drop_succ_cons, List.drop_zero, List.reverse_cons, List.reverse_nil, List.map_cons, List.map_nil, List.sum_cons, List.sum_nil, decide_true, decide_false, and_self, and_true, true_and, true_or, or_true, Fin.isValue, Fin.val_zero, Fin.val_one, Fin.val_two, Fin.reduceFinMk, Nat.reduceMod, Option.some.injEq, Sum.inl.injEq, Sum.inr.injEq, Prod.mk.injEq, eq_self, reduceCtorEq, imp_self, implies_true, Nat.zero_add, Nat.add_zero, Nat.zero_le, Int.reduceEq, Int.reduceLT, Int.reduceLE, Int.reduceNeg, not_true, not_false_iff, false_imp_iff, true_imp_iff, forall_const, or_self, or_false, false_or, and_false, false_and, ↓reduceIte, z_0, z_1, z_f1, z_f2, z_f3, Int.reduceToNat, Int.reduceAdd, ct_X3_ring, mi_X3_ring]
          refine ⟨fun q => absurd q (by omega), fun _ => ?_⟩
          refine CW.mono (c_goFoot r3 okk 15 (by decide) (by decide)) ?_
          rintro _ M4 ⟨rfl, r4, f4⟩
          rw [foot15 h4] at r4
          have r4 : RG M4 1 nd (feetW nd al (k + 1) (stN M)) := r4
          have f4' := frQ_G f3 f4 (Or.inl rfl)
          have t4 : ∀ j, j ≤ k → M4 19 0 j = ouF nd (feetW nd al j (stN M)) nd := fun j hj => by rw [f4 19 0 (by omega)]; exact t3 j hj
          have ok1 := ok_feetW (who := al) okS (k + 1)
          refine st_X3_ring [] 20 ?_
          simp only [sy, xisC, sxI, xgI, xgL, xgR, xent, xargs0, p1i, p2i, p1l, p2l, pli, p1r, pir, piir, plir, pvr, pdup, pdup2, pret, xjmp, xcon, xfd, xcl_, xcall, xbr, xsw, xtsw, xst1, xst2, xkill, xpush, xcat, xcl, xar, xkd, xrf, xmask, mR, mL, List.getElem?_cons_zero, List.getElem?_cons_succ, List.lookup_nil, List.lookup_cons, Nat.reduceAdd, Nat.reduceSub, Nat.reduceLeDiff, Nat.reduceEqDiff, Nat.reduceBEq, List.length_cons, List.length_nil, List.replicate, List.append_nil, List.nil_append, List.cons_append, List.set_cons_zero, List.set_cons_succ, List.take_succ_cons, List.take_zero, List.drop_succ_cons, List.drop_zero, List.reverse_cons, List.reverse_nil, List.map_cons, List.map_nil, List.sum_cons, List.sum_nil, decide_true, decide_false, and_self, and_true, true_and, true_or, or_true, Fin.isValue, Fin.val_zero, Fin.val_one, Fin.val_two, Fin.reduceFinMk, Nat.reduceMod, Option.some.injEq, Sum.inl.injEq, Sum.inr.injEq, Prod.mk.injEq, eq_self, reduceCtorEq, imp_self, implies_true, Nat.zero_add, Nat.add_zero, Nat.zero_le, Int.reduceEq, Int.reduceLT, Int.reduceLE, Int.reduceNeg, not_true, not_false_iff, false_imp_iff, true_imp_iff, forall_const, or_self, or_false, false_or, and_false, false_and, ↓reduceIte, z_0, z_1, z_f1, z_f2, z_f3, Int.reduceToNat, Int.reduceAdd, ct_X3_ring, mi_X3_ring]
          refine CW.mono (c_outline r4 ok1) ?_
          rintro _ M5 ⟨rfl, hM5⟩; rw [hM5]; clear hM5 M5
          refine st_X3_ring [(37, [true, true, true, true])] 20 ?_
          simp only [sy, xisC, sxI, xgI, xgL, xgR, xent, xargs0, p1i, p2i, p1l, p2l, pli, p1r, pir, piir, plir, pvr, pdup, pdup2, pret, xjmp, xcon, xfd, xcl_, xcall, xbr, xsw, xtsw, xst1, xst2, xkill, xpush, xcat, xcl, xar, xkd, xrf, xmask, mR, mL, List.getElem?_cons_zero, List.getElem?_cons_succ, List.lookup_nil, List.lookup_cons, Nat.reduceAdd, Nat.reduceSub, Nat.reduceLeDiff, Nat.reduceEqDiff, Nat.reduceBEq, List.length_cons, List.length_nil, List.replicate, List.append_nil, List.nil_append, List.cons_append, List.set_cons_zero, List.set_cons_succ, List.take_succ_cons, List.take_zero, List.drop_succ_cons, List.drop_zero, List.reverse_cons, List.reverse_nil, List.map_cons, List.map_nil, List.sum_cons, List.sum_nil, decide_true, decide_false, and_self, and_true, true_and, true_or, or_true, Fin.isValue, Fin.val_zero, Fin.val_one, Fin.val_two, Fin.reduceFinMk, Nat.reduceMod, Option.some.injEq, Sum.inl.injEq, Sum.inr.injEq, Prod.mk.injEq, eq_self, reduceCtorEq, imp_self, implies_true, Nat.zero_add, Nat.add_zero, Nat.zero_le, Int.reduceEq, Int.reduceLT, Int.reduceLE, Int.reduceNeg, not_true, not_false_iff, false_imp_iff, true_imp_iff, forall_const, or_self, or_false, false_or, and_false, false_and, ↓reduceIte, z_0, z_1, z_f1, z_f2, z_f3, Int.reduceToNat, Int.reduceAdd, ct_X3_ring, mi_X3_ring, Int.toNat_natCast]
          refine ⟨by omega, ?_⟩
          have r5 : RG (xup M4 19 0 (k + 1) (ouF nd (feetW nd al (k + 1) (stN M)) nd)) 1 nd (feetW nd al (k + 1) (stN M)) := RG_fr r4 (fun t a c => by rw [xup_t (by omega)])
          have t5 : ∀ j, j ≤ k + 1 → xup M4 19 0 (k + 1) (ouF nd (feetW nd al (k + 1) (stN M)) nd) 19 0 j = ouF nd (feetW nd al j (stN M)) nd := fun j hj => by
            rw [xup_s]
            by_cases q : j = k + 1
            · rw [if_pos q, q]
            · rw [if_neg q]; exact t4 j (by omega)
          have f5 := frQ_up (k := k + 1) (v := ouF nd (feetW nd al (k + 1) (stN M)) nd) f4' (Or.inl rfl)
          generalize xup M4 19 0 (k + 1) (ouF nd (feetW nd al (k + 1) (stN M)) nd) = M5 at r5 t5 f5 ⊢
          have ih := ih (k + 1) M5 (by omega) r5 t5 f5
          have inner : ∀ (m' j : Nat), j + m' = k + 1 → J_X3_ring (fun r M1 => r = some (xI (riF w (k + 1) (rgF nd (stN M) w m (k + 1 + 1)) (rjF nd (stN M) (k + 1) m' j))) ∧ hiS M M1 ∧ InvX M1 M) 37 [some (xR 0 0), some (xI w), some (xI ((k + 1 : Nat) : Int)), some (xI j)] [] M5 := by
            intro m'
            induction m' with
            | zero =>
              intro j hj
              have e : j = k + 1 := by omega
              subst e
              rw [show riF w (k + 1) (rgF nd (stN M) w m (k + 1 + 1)) (rjF nd (stN M) (k + 1) 0 (k + 1)) = rgF nd (stN M) w m (k + 1 + 1) from if_pos rfl]
              generalize rgF nd (stN M) w m (k + 1 + 1) = zz at ih ⊢
              refine st_X3_ring [(21, [true, true, true, true]), (40, [true, true, true, true])] 20 ?_
              simp only [sy, xisC, sxI, xgI, xgL, xgR, xent, xargs0, p1i, p2i, p1l, p2l, pli, p1r, pir, piir, plir, pvr, pdup, pdup2, pret, xjmp, xcon, xfd, xcl_, xcall, xbr, xsw, xtsw, xst1, xst2, xkill, xpush, xcat, xcl, xar, xkd, xrf, xmask, mR, mL, List.getElem?_cons_zero, List.getElem?_cons_succ, List.lookup_nil, List.lookup_cons, Nat.reduceAdd, Nat.reduceSub, Nat.reduceLeDiff, Nat.reduceEqDiff, Nat.reduceBEq, List.length_cons, List.length_nil, List.replicate, List.append_nil, List.nil_append, List.cons_append, List.set_cons_zero, List.set_cons_succ, List.take_succ_cons, List.take_zero, List.drop_succ_cons, List.drop_zero, List.reverse_cons, List.reverse_nil, List.map_cons, List.map_nil, List.sum_cons, List.sum_nil, decide_true, decide_false, and_self, and_true, true_and, true_or, or_true, Fin.isValue, Fin.val_zero, Fin.val_one, Fin.val_two, Fin.reduceFinMk, Nat.reduceMod, Option.some.injEq, Sum.inl.injEq, Sum.inr.injEq, Prod.mk.injEq, eq_self, reduceCtorEq, imp_self, implies_true, Nat.zero_add, Nat.add_zero, Nat.zero_le, Int.reduceEq, Int.reduceLT, Int.reduceLE, Int.reduceNeg, not_true, not_false_iff, false_imp_iff, true_imp_iff, forall_const, or_self, or_false, false_or, and_false, false_and, ↓reduceIte, z_0, z_1, z_f1, z_f2, z_f3, Int.reduceToNat, Int.reduceAdd, ct_X3_ring, mi_X3_ring, w2]
              exact ⟨fun _ => ih _, fun q => absurd q (by omega)⟩
            | succ m' ih2 =>
              intro j hj
              have i2 := ih2 (j + 1) (by omega)
              have w3 : w32 ((j : Int) + 1) = (j + 1 : Nat) := by rw [w32_id (by omega) (by omega)]; rfl
              have hag := ou_ag okS j (k + 1)
              rw [← t5 j (by omega), ← t5 (k + 1) (by omega)] at hag
              rw [show rjF nd (stN M) (k + 1) (m' + 1) j = if agF (trF nd (stN M)) j (k + 1) nd = 1 then (j : Int) else rjF nd (stN M) (k + 1) m' (j + 1) from rfl]
              by_cases q : agF (trF nd (stN M)) j (k + 1) nd = 1
              · have hl := lc_eq (hag.mpr q)
                rw [if_pos q, show riF w (k + 1) (rgF nd (stN M) w m (k + 1 + 1)) j = if w = 0 then ((k + 1 : Nat) : Int) else j from if_neg (by omega)]
                refine st_X3_ring [(50, [true, true, true, true])] 20 ?_
                simp only [sy, xisC, sxI, xgI, xgL, xgR, xent, xargs0, p1i, p2i, p1l, p2l, pli, p1r, pir, piir, plir, pvr, pdup, pdup2, pret, xjmp, xcon, xfd, xcl_, xcall, xbr, xsw, xtsw, xst1, xst2, xkill, xpush, xcat, xcl, xar, xkd, xrf, xmask, mR, mL, List.getElem?_cons_zero, List.getElem?_cons_succ, List.lookup_nil, List.lookup_cons, Nat.reduceAdd, Nat.reduceSub, Nat.reduceLeDiff, Nat.reduceEqDiff, Nat.reduceBEq, List.length_cons, List.length_nil, List.replicate, List.append_nil, List.nil_append, List.cons_append, List.set_cons_zero, List.set_cons_succ, List.take_succ_cons, List.take_zero, List.drop_succ_cons, List.drop_zero, List.reverse_cons, List.reverse_nil, List.map_cons, List.map_nil, List.sum_cons, List.sum_nil, decide_true, decide_false, and_self, and_true, true_and, true_or, or_true, Fin.isValue, Fin.val_zero, Fin.val_one, Fin.val_two, Fin.reduceFinMk, Nat.reduceMod, Option.some.injEq, Sum.inl.injEq, Sum.inr.injEq, Prod.mk.injEq, eq_self, reduceCtorEq, imp_self, implies_true, Nat.zero_add, Nat.add_zero, Nat.zero_le, Int.reduceEq, Int.reduceLT, Int.reduceLE, Int.reduceNeg, not_true, not_false_iff, false_imp_iff, true_imp_iff, forall_const, or_self, or_false, false_or, and_false, false_and, ↓reduceIte, z_0, z_1, z_f1, z_f2, z_f3, Int.reduceToNat, Int.reduceAdd, ct_X3_ring, mi_X3_ring, hl, Int.toNat_natCast]
                refine ⟨fun q => absurd q (by omega), fun _ => ⟨by omega, by omega, ?_⟩⟩
                by_cases q0 : w = 0
                · rw [if_pos q0]
                  refine st_X3_ring [] 20 ?_
                  simp only [sy, xisC, sxI, xgI, xgL, xgR, xent, xargs0, p1i, p2i, p1l, p2l, pli, p1r, pir, piir, plir, pvr, pdup, pdup2, pret, xjmp, xcon, xfd, xcl_, xcall, xbr, xsw, xtsw, xst1, xst2, xkill, xpush, xcat, xcl, xar, xkd, xrf, xmask, mR, mL, List.getElem?_cons_zero, List.getElem?_cons_succ, List.lookup_nil, List.lookup_cons, Nat.reduceAdd, Nat.reduceSub, Nat.reduceLeDiff, Nat.reduceEqDiff, Nat.reduceBEq, List.length_cons, List.length_nil, List.replicate, List.append_nil, List.nil_append, List.cons_append, List.set_cons_zero, List.set_cons_succ, List.take_succ_cons, List.take_zero, List.drop_succ_cons, List.drop_zero, List.reverse_cons, List.reverse_nil, List.map_cons, List.map_nil, List.sum_cons, List.sum_nil, decide_true, decide_false, and_self, and_true, true_and, true_or, or_true, Fin.isValue, Fin.val_zero, Fin.val_one, Fin.val_two, Fin.reduceFinMk, Nat.reduceMod, Option.some.injEq, Sum.inl.injEq, Sum.inr.injEq, Prod.mk.injEq, eq_self, reduceCtorEq, imp_self, implies_true, Nat.zero_add, Nat.add_zero, Nat.zero_le, Int.reduceEq, Int.reduceLT, Int.reduceLE, Int.reduceNeg, not_true, not_false_iff, false_imp_iff, true_imp_iff, forall_const, or_self, or_false, false_or, and_false, false_and, ↓reduceIte, z_0, z_1, z_f1, z_f2, z_f3, Int.reduceToNat, Int.reduceAdd, ct_X3_ring, mi_X3_ring, q0]
                  exact ⟨hi_Q f5, InvX_Q h f5⟩
                · rw [if_neg q0]
                  refine st_X3_ring [] 20 ?_
                  simp only [sy, xisC, sxI, xgI, xgL, xgR, xent, xargs0, p1i, p2i, p1l, p2l, pli, p1r, pir, piir, plir, pvr, pdup, pdup2, pret, xjmp, xcon, xfd, xcl_, xcall, xbr, xsw, xtsw, xst1, xst2, xkill, xpush, xcat, xcl, xar, xkd, xrf, xmask, mR, mL, List.getElem?_cons_zero, List.getElem?_cons_succ, List.lookup_nil, List.lookup_cons, Nat.reduceAdd, Nat.reduceSub, Nat.reduceLeDiff, Nat.reduceEqDiff, Nat.reduceBEq, List.length_cons, List.length_nil, List.replicate, List.append_nil, List.nil_append, List.cons_append, List.set_cons_zero, List.set_cons_succ, List.take_succ_cons, List.take_zero, List.drop_succ_cons, List.drop_zero, List.reverse_cons, List.reverse_nil, List.map_cons, List.map_nil, List.sum_cons, List.sum_nil, decide_true, decide_false, and_self, and_true, true_and, true_or, or_true, Fin.isValue, Fin.val_zero, Fin.val_one, Fin.val_two, Fin.reduceFinMk, Nat.reduceMod, Option.some.injEq, Sum.inl.injEq, Sum.inr.injEq, Prod.mk.injEq, eq_self, reduceCtorEq, imp_self, implies_true, Nat.zero_add, Nat.add_zero, Nat.zero_le, Int.reduceEq, Int.reduceLT, Int.reduceLE, Int.reduceNeg, not_true, not_false_iff, false_imp_iff, true_imp_iff, forall_const, or_self, or_false, false_or, and_false, false_and, ↓reduceIte, z_0, z_1, z_f1, z_f2, z_f3, Int.reduceToNat, Int.reduceAdd, ct_X3_ring, mi_X3_ring, q0]
                  exact ⟨hi_Q f5, InvX_Q h f5⟩
              · have hl := lc_ne (fun a => q (hag.mp a))
                rw [if_neg q]
                generalize riF w (k + 1) (rgF nd (stN M) w m (k + 1 + 1)) (rjF nd (stN M) (k + 1) m' (j + 1)) = zz at i2 ⊢
                refine st_X3_ring [(37, [true, true, true, true])] 20 ?_
                simp only [sy, xisC, sxI, xgI, xgL, xgR, xent, xargs0, p1i, p2i, p1l, p2l, pli, p1r, pir, piir, plir, pvr, pdup, pdup2, pret, xjmp, xcon, xfd, xcl_, xcall, xbr, xsw, xtsw, xst1, xst2, xkill, xpush, xcat, xcl, xar, xkd, xrf, xmask, mR, mL, List.getElem?_cons_zero, List.getElem?_cons_succ, List.lookup_nil, List.lookup_cons, Nat.reduceAdd, Nat.reduceSub, Nat.reduceLeDiff, Nat.reduceEqDiff, Nat.reduceBEq, List.length_cons, List.length_nil, List.replicate, List.append_nil, List.nil_append, List.cons_append, List.set_cons_zero, List.set_cons_succ, List.take_succ_cons, List.take_zero, List.drop_succ_cons, List.drop_zero, List.reverse_cons, List.reverse_nil, List.map_cons, List.map_nil, List.sum_cons, List.sum_nil, decide_true, decide_false, and_self, and_true, true_and, true_or, or_true, Fin.isValue, Fin.val_zero, Fin.val_one, Fin.val_two, Fin.reduceFinMk, Nat.reduceMod, Option.some.injEq, Sum.inl.injEq, Sum.inr.injEq, Prod.mk.injEq, eq_self, reduceCtorEq, imp_self, implies_true, Nat.zero_add, Nat.add_zero, Nat.zero_le, Int.reduceEq, Int.reduceLT, Int.reduceLE, Int.reduceNeg, not_true, not_false_iff, false_imp_iff, true_imp_iff, forall_const, or_self, or_false, false_or, and_false, false_and, ↓reduceIte, z_0, z_1, z_f1, z_f2, z_f3, Int.reduceToNat, Int.reduceAdd, ct_X3_ring, mi_X3_ring, hl, w3, Int.toNat_natCast]
                exact ⟨fun q => absurd q (by omega), fun _ => ⟨by omega, by omega, i2⟩⟩
          exact inner (k + 1) 0 (by omega)
      refine st_X3_ring [] 20 ?_
      simp only [sy, xisC, sxI, xgI, xgL, xgR, xent, xargs0, p1i, p2i, p1l, p2l, pli, p1r, pir, piir, plir, pvr, pdup, pdup2, pret, xjmp, xcon, xfd, xcl_, xcall, xbr, xsw, xtsw, xst1, xst2, xkill, xpush, xcat, xcl, xar, xkd, xrf, xmask, mR, mL, List.getElem?_cons_zero, List.getElem?_cons_succ, List.lookup_nil, List.lookup_cons, Nat.reduceAdd, Nat.reduceSub, Nat.reduceLeDiff, Nat.reduceEqDiff, Nat.reduceBEq, List.length_cons, List.length_nil, List.replicate, List.append_nil, List.nil_append, List.cons_append, List.set_cons_zero, List.set_cons_succ, List.take_succ_cons, List.take_zero, List.drop_succ_cons, List.drop_zero, List.reverse_cons, List.reverse_nil, List.map_cons, List.map_nil, List.sum_cons, List.sum_nil, decide_true, decide_false, and_self, and_true, true_and, true_or, or_true, Fin.isValue, Fin.val_zero, Fin.val_one, Fin.val_two, Fin.reduceFinMk, Nat.reduceMod, Option.some.injEq, Sum.inl.injEq, Sum.inr.injEq, Prod.mk.injEq, eq_self, reduceCtorEq, imp_self, implies_true, Nat.zero_add, Nat.add_zero, Nat.zero_le, Int.reduceEq, Int.reduceLT, Int.reduceLE, Int.reduceNeg, not_true, not_false_iff, false_imp_iff, true_imp_iff, forall_const, or_self, or_false, false_or, and_false, false_and, ↓reduceIte, z_0, z_1, z_f1, z_f2, z_f3, Int.reduceToNat, Int.reduceAdd, ct_X3_ring, mi_X3_ring]
      refine CW.mono (c_outline r1 okS) ?_
      rintro _ M5 ⟨rfl, hM5⟩; rw [hM5]; clear hM5 M5
      refine st_X3_ring [(21, [true, true, true, true])] 20 ?_
      simp only [sy, xisC, sxI, xgI, xgL, xgR, xent, xargs0, p1i, p2i, p1l, p2l, pli, p1r, pir, piir, plir, pvr, pdup, pdup2, pret, xjmp, xcon, xfd, xcl_, xcall, xbr, xsw, xtsw, xst1, xst2, xkill, xpush, xcat, xcl, xar, xkd, xrf, xmask, mR, mL, List.getElem?_cons_zero, List.getElem?_cons_succ, List.lookup_nil, List.lookup_cons, Nat.reduceAdd, Nat.reduceSub, Nat.reduceLeDiff, Nat.reduceEqDiff, Nat.reduceBEq, List.length_cons, List.length_nil, List.replicate, List.append_nil, List.nil_append, List.cons_append, List.set_cons_zero, List.set_cons_succ, List.take_succ_cons, List.take_zero, List.drop_succ_cons, List.drop_zero, List.reverse_cons, List.reverse_nil, List.map_cons, List.map_nil, List.sum_cons, List.sum_nil, decide_true, decide_false, and_self, and_true, true_and, true_or, or_true, Fin.isValue, Fin.val_zero, Fin.val_one, Fin.val_two, Fin.reduceFinMk, Nat.reduceMod, Option.some.injEq, Sum.inl.injEq, Sum.inr.injEq, Prod.mk.injEq, eq_self, reduceCtorEq, imp_self, implies_true, Nat.zero_add, Nat.add_zero, Nat.zero_le, Int.reduceEq, Int.reduceLT, Int.reduceLE, Int.reduceNeg, not_true, not_false_iff, false_imp_iff, true_imp_iff, forall_const, or_self, or_false, false_or, and_false, false_and, ↓reduceIte, z_0, z_1, z_f1, z_f2, z_f3, Int.reduceToNat, Int.reduceAdd, ct_X3_ring, mi_X3_ring]
      try refine ⟨by omega, ?_⟩
      refine loop 40 0 _ rfl (RG_fr r1 (fun t a c => by rw [xup_t (by omega)])) (fun j hj => ?_) (frQ_up (frQ_G frQ_rf f1 (Or.inl rfl)) (Or.inl rfl)) _
      have : j = 0 := by omega
      subst this
      rw [xup_e]
      rfl
    · refine in_X4_ring (Nat.le_of_ble_eq_true rfl) ?_
      refine st_X4_ring [] 20 ?_
      simp only [sy, xisC, sxI, xgI, xgL, xgR, xent, xargs0, p1i, p2i, p1l, p2l, pli, p1r, pir, piir, plir, pvr, pdup, pdup2, pret, xjmp, xcon, xfd, xcl_, xcall, xbr, xsw, xtsw, xst1, xst2, xkill, xpush, xcat, xcl, xar, xkd, xrf, xmask, mR, mL, List.getElem?_cons_zero, List.getElem?_cons_succ, List.lookup_nil, List.lookup_cons, Nat.reduceAdd, Nat.reduceSub, Nat.reduceLeDiff, Nat.reduceEqDiff, Nat.reduceBEq, List.length_cons, List.length_nil, List.replicate, List.append_nil, List.nil_append, List.cons_append, List.set_cons_zero, List.set_cons_succ, List.take_succ_cons, List.take_zero, List.drop_succ_cons, List.drop_zero, List.reverse_cons, List.reverse_nil, List.map_cons, List.map_nil, List.sum_cons, List.sum_nil, decide_true, decide_false, and_self, and_true, true_and, true_or, or_true, Fin.isValue, Fin.val_zero, Fin.val_one, Fin.val_two, Fin.reduceFinMk, Nat.reduceMod, Option.some.injEq, Sum.inl.injEq, Sum.inr.injEq, Prod.mk.injEq, eq_self, reduceCtorEq, imp_self, implies_true, Nat.zero_add, Nat.add_zero, Nat.zero_le, Int.reduceEq, Int.reduceLT, Int.reduceLE, Int.reduceNeg, not_true, not_false_iff, false_imp_iff, true_imp_iff, forall_const, or_self, or_false, false_or, and_false, false_and, ↓reduceIte, z_0, z_1, z_f1, z_f2, z_f3, Int.reduceToNat, Int.reduceAdd, ct_X4_ring, mi_X4_ring]
      refine CW.mono (c_isPart M1 w) ?_
      rintro _ M1 ⟨rfl, hM1⟩; rw [hM1]; clear hM1 M1
      rw [if_pos c1]
      refine st_X4_ring [(5, [true, true, true, true])] 20 ?_
      simp only [sy, xisC, sxI, xgI, xgL, xgR, xent, xargs0, p1i, p2i, p1l, p2l, pli, p1r, pir, piir, plir, pvr, pdup, pdup2, pret, xjmp, xcon, xfd, xcl_, xcall, xbr, xsw, xtsw, xst1, xst2, xkill, xpush, xcat, xcl, xar, xkd, xrf, xmask, mR, mL, List.getElem?_cons_zero, List.getElem?_cons_succ, List.lookup_nil, List.lookup_cons, Nat.reduceAdd, Nat.reduceSub, Nat.reduceLeDiff, Nat.reduceEqDiff, Nat.reduceBEq, List.length_cons, List.length_nil, List.replicate, List.append_nil, List.nil_append, List.cons_append, List.set_cons_zero, List.set_cons_succ, List.take_succ_cons, List.take_zero, List.drop_succ_cons, List.drop_zero, List.reverse_cons, List.reverse_nil, List.map_cons, List.map_nil, List.sum_cons, List.sum_nil, decide_true, decide_false, and_self, and_true, true_and, true_or, or_true, Fin.isValue, Fin.val_zero, Fin.val_one, Fin.val_two, Fin.reduceFinMk, Nat.reduceMod, Option.some.injEq, Sum.inl.injEq, Sum.inr.injEq, Prod.mk.injEq, eq_self, reduceCtorEq, imp_self, implies_true, Nat.zero_add, Nat.add_zero, Nat.zero_le, Int.reduceEq, Int.reduceLT, Int.reduceLE, Int.reduceNeg, not_true, not_false_iff, false_imp_iff, true_imp_iff, forall_const, or_self, or_false, false_or, and_false, false_and, ↓reduceIte, z_0, z_1, z_f1, z_f2, z_f3, Int.reduceToNat, Int.reduceAdd, ct_X4_ring, mi_X4_ring, n1z]
      refine st_X4_ring [] 20 ?_
      simp only [sy, xisC, sxI, xgI, xgL, xgR, xent, xargs0, p1i, p2i, p1l, p2l, pli, p1r, pir, piir, plir, pvr, pdup, pdup2, pret, xjmp, xcon, xfd, xcl_, xcall, xbr, xsw, xtsw, xst1, xst2, xkill, xpush, xcat, xcl, xar, xkd, xrf, xmask, mR, mL, List.getElem?_cons_zero, List.getElem?_cons_succ, List.lookup_nil, List.lookup_cons, Nat.reduceAdd, Nat.reduceSub, Nat.reduceLeDiff, Nat.reduceEqDiff, Nat.reduceBEq, List.length_cons, List.length_nil, List.replicate, List.append_nil, List.nil_append, List.cons_append, List.set_cons_zero, List.set_cons_succ, List.take_succ_cons, List.take_zero, List.drop_succ_cons, List.drop_zero, List.reverse_cons, List.reverse_nil, List.map_cons, List.map_nil, List.sum_cons, List.sum_nil, decide_true, decide_false, and_self, and_true, true_and, true_or, or_true, Fin.isValue, Fin.val_zero, Fin.val_one, Fin.val_two, Fin.reduceFinMk, Nat.reduceMod, Option.some.injEq, Sum.inl.injEq, Sum.inr.injEq, Prod.mk.injEq, eq_self, reduceCtorEq, imp_self, implies_true, Nat.zero_add, Nat.add_zero, Nat.zero_le, Int.reduceEq, Int.reduceLT, Int.reduceLE, Int.reduceNeg, not_true, not_false_iff, false_imp_iff, true_imp_iff, forall_const, or_self, or_false, false_or, and_false, false_and, ↓reduceIte, z_0, z_1, z_f1, z_f2, z_f3, Int.reduceToNat, Int.reduceAdd, ct_X4_ring, mi_X4_ring]
      refine CW.mono (c_starts2 M1) ?_
      rintro _ M2 ⟨rfl, e2, f2⟩
      rw [stN_hi h1] at e2
      have hn3 : ∀ M3, frS M1 M3 → M3 22 0 3 = nd := fun M3 f3 => by rw [f3 22 0 (by decide) (by decide) (by decide) (by decide), h1 22 (by decide)]; exact hn
      have loop : ∀ (m k : Nat) (M3 : XM), k + m = 41 → M3 24 0 = feetW nd al k (stN M) → (∀ j e, j < k → e < nd → M3 29 0 (4 * j + e) = trF nd (stN M) (4 * j + e)) → frS M1 M3 → ∀ b : Option XV, J_X4_ring (fun r M2 => r = some (xI (rgF nd (stN M) w m k)) ∧ loS M1 M2 ∧ PM M M2) 9 [some (xR 22 0), some (xI w), some (xI k), b] [] M3 := by
        intro m
        induction m with
        | zero =>
          intro k M3 hk e3 t3 f3 b
          have e : k = 41 := by omega
          subst e
          refine st_X4_ring [(12, [true, true, true, true])] 20 ?_
          simp only [sy, xisC, sxI, xgI, xgL, xgR, xent, xargs0, p1i, p2i, p1l, p2l, pli, p1r, pir, piir, plir, pvr, pdup, pdup2, pret, xjmp, xcon, xfd, xcl_, xcall, xbr, xsw, xtsw, xst1, xst2, xkill, xpush, xcat, xcl, xar, xkd, xrf, xmask, mR, mL, List.getElem?_cons_zero, List.getElem?_cons_succ, List.lookup_nil, List.lookup_cons, Nat.reduceAdd, Nat.reduceSub, Nat.reduceLeDiff, Nat.reduceEqDiff, Nat.reduceBEq, List.length_cons, List.length_nil, List.replicate, List.append_nil, List.nil_append, List.cons_append, List.set_cons_zero, List.set_cons_succ, List.take_succ_cons, List.take_zero, List.drop_succ_cons, List.drop_zero, List.reverse_cons, List.reverse_nil, List.map_cons, List.map_nil, List.sum_cons, List.sum_nil, decide_true, decide_false, and_self, and_true, true_and, true_or, or_true, Fin.isValue, Fin.val_zero, Fin.val_one, Fin.val_two, Fin.reduceFinMk, Nat.reduceMod, Option.some.injEq, Sum.inl.injEq, Sum.inr.injEq, Prod.mk.injEq, eq_self, reduceCtorEq, imp_self, implies_true, Nat.zero_add, Nat.add_zero, Nat.zero_le, Int.reduceEq, Int.reduceLT, Int.reduceLE, Int.reduceNeg, not_true, not_false_iff, false_imp_iff, true_imp_iff, forall_const, or_self, or_false, false_or, and_false, false_and, ↓reduceIte, z_0, z_1, z_f1, z_f2, z_f3, Int.reduceToNat, Int.reduceAdd, ct_X4_ring, mi_X4_ring]
          refine ⟨fun _ => ⟨rfl, lo_S f3, PM_hi h1 (PM_S f3)⟩, fun q => absurd q (by omega)⟩
        | succ m ih =>
          intro k M3 hk e3 t3 f3 b
          have okk := ok_feetW (who := al) okS k
          have w2 : w32 ((k : Int) + 1) = (k + 1 : Nat) := by rw [w32_id (by omega) (by omega)]; rfl
          rw [show rgF nd (stN M) w (m + 1) k = riF w k (rgF nd (stN M) w m (k + 1)) (rjF nd (stN M) k k 0) from rfl]
          have cmp : ∀ M5, M5 24 0 = feetW nd al k (stN M) → (∀ j e, j < k + 1 → e < nd → M5 29 0 (4 * j + e) = trF nd (stN M) (4 * j + e)) → frS M1 M5 → ∀ (m' j : Nat), j + m' = k → J_X4_ring (fun r M2 => r = some (xI (riF w k (rgF nd (stN M) w m (k + 1)) (rjF nd (stN M) k m' j))) ∧ loS M1 M2 ∧ PM M M2) 48 [some (xR 22 0), some (xI w), some (xI k), some (xI j)] [] M5 := by
            intro M5 e5 t5 f5 m'
            induction m' with
            | zero =>
              intro j hj
              have e : j = k := by omega
              subst e
              rw [show riF w j (rgF nd (stN M) w m (j + 1)) (rjF nd (stN M) j 0 j) = rgF nd (stN M) w m (j + 1) from if_pos rfl]
              refine st_X4_ring [(51, [true, true, true, true])] 20 ?_
              simp only [sy, xisC, sxI, xgI, xgL, xgR, xent, xargs0, p1i, p2i, p1l, p2l, pli, p1r, pir, piir, plir, pvr, pdup, pdup2, pret, xjmp, xcon, xfd, xcl_, xcall, xbr, xsw, xtsw, xst1, xst2, xkill, xpush, xcat, xcl, xar, xkd, xrf, xmask, mR, mL, List.getElem?_cons_zero, List.getElem?_cons_succ, List.lookup_nil, List.lookup_cons, Nat.reduceAdd, Nat.reduceSub, Nat.reduceLeDiff, Nat.reduceEqDiff, Nat.reduceBEq, List.length_cons, List.length_nil, List.replicate, List.append_nil, List.nil_append, List.cons_append, List.set_cons_zero, List.set_cons_succ, List.take_succ_cons, List.take_zero, List.drop_succ_cons, List.drop_zero, List.reverse_cons, List.reverse_nil, List.map_cons, List.map_nil, List.sum_cons, List.sum_nil, decide_true, decide_false, and_self, and_true, true_and, true_or, or_true, Fin.isValue, Fin.val_zero, Fin.val_one, Fin.val_two, Fin.reduceFinMk, Nat.reduceMod, Option.some.injEq, Sum.inl.injEq, Sum.inr.injEq, Prod.mk.injEq, eq_self, reduceCtorEq, imp_self, implies_true, Nat.zero_add, Nat.add_zero, Nat.zero_le, Int.reduceEq, Int.reduceLT, Int.reduceLE, Int.reduceNeg, not_true, not_false_iff, false_imp_iff, true_imp_iff, forall_const, or_self, or_false, false_or, and_false, false_and, ↓reduceIte, z_0, z_1, z_f1, z_f2, z_f3, Int.reduceToNat, Int.reduceAdd, ct_X4_ring, mi_X4_ring]
              refine ⟨fun _ => ?_, fun q => absurd q (by omega)⟩
              refine CW.mono (c_footGoes e5 (hn3 M5 f5) okk) ?_
              rintro _ M6 ⟨rfl, e6, f6⟩
              have ih := ih (j + 1) M6 (by omega) e6 (fun a b c d => by rw [f6 29 0 (by omega)]; exact t5 a b c d) (frS_N f5 f6)
              generalize rgF nd (stN M) w m (j + 1) = zz at ih ⊢
              refine st_X4_ring [(9, [true, true, true, true])] 20 ?_
              simp only [sy, xisC, sxI, xgI, xgL, xgR, xent, xargs0, p1i, p2i, p1l, p2l, pli, p1r, pir, piir, plir, pvr, pdup, pdup2, pret, xjmp, xcon, xfd, xcl_, xcall, xbr, xsw, xtsw, xst1, xst2, xkill, xpush, xcat, xcl, xar, xkd, xrf, xmask, mR, mL, List.getElem?_cons_zero, List.getElem?_cons_succ, List.lookup_nil, List.lookup_cons, Nat.reduceAdd, Nat.reduceSub, Nat.reduceLeDiff, Nat.reduceEqDiff, Nat.reduceBEq, List.length_cons, List.length_nil, List.replicate, List.append_nil, List.nil_append, List.cons_append, List.set_cons_zero, List.set_cons_succ, List.take_succ_cons, List.take_zero, List.drop_succ_cons, List.drop_zero, List.reverse_cons, List.reverse_nil, List.map_cons, List.map_nil, List.sum_cons, List.sum_nil, decide_true, decide_false, and_self, and_true, true_and, true_or, or_true, Fin.isValue, Fin.val_zero, Fin.val_one, Fin.val_two, Fin.reduceFinMk, Nat.reduceMod, Option.some.injEq, Sum.inl.injEq, Sum.inr.injEq, Prod.mk.injEq, eq_self, reduceCtorEq, imp_self, implies_true, Nat.zero_add, Nat.add_zero, Nat.zero_le, Int.reduceEq, Int.reduceLT, Int.reduceLE, Int.reduceNeg, not_true, not_false_iff, false_imp_iff, true_imp_iff, forall_const, or_self, or_false, false_or, and_false, false_and, ↓reduceIte, z_0, z_1, z_f1, z_f2, z_f3, Int.reduceToNat, Int.reduceAdd, ct_X4_ring, mi_X4_ring, w2]
              exact ih _
            | succ m' ih2 =>
              intro j hj
              have i2 := ih2 (j + 1) (by omega)
              have w3 : w32 ((j : Int) + 1) = (j + 1 : Nat) := by rw [w32_id (by omega) (by omega)]; rfl
              have ca := m_isAgain (hn3 M5 f5) h4 j k (by omega) (by omega)
              rw [agF_cg (T := trF nd (stN M)) nd (fun e he => ⟨t5 j e (by omega) he, t5 k e (by omega) he⟩)] at ca
              rw [show rjF nd (stN M) k (m' + 1) j = if agF (trF nd (stN M)) j k nd = 1 then (j : Int) else rjF nd (stN M) k m' (j + 1) from rfl]
              by_cases q : agF (trF nd (stN M)) j k nd = 1
              · rw [if_pos q, show riF w k (rgF nd (stN M) w m (k + 1)) j = if w = 0 then (k : Int) else j from if_neg (by omega)]
                rw [q] at ca
                refine st_X4_ring [] 20 ?_
                simp only [sy, xisC, sxI, xgI, xgL, xgR, xent, xargs0, p1i, p2i, p1l, p2l, pli, p1r, pir, piir, plir, pvr, pdup, pdup2, pret, xjmp, xcon, xfd, xcl_, xcall, xbr, xsw, xtsw, xst1, xst2, xkill, xpush, xcat, xcl, xar, xkd, xrf, xmask, mR, mL, List.getElem?_cons_zero, List.getElem?_cons_succ, List.lookup_nil, List.lookup_cons, Nat.reduceAdd, Nat.reduceSub, Nat.reduceLeDiff, Nat.reduceEqDiff, Nat.reduceBEq, List.length_cons, List.length_nil, List.replicate, List.append_nil, List.nil_append, List.cons_append, List.set_cons_zero, List.set_cons_succ, List.take_succ_cons, List.take_zero, List.drop_succ_cons, List.drop_zero, List.reverse_cons, List.reverse_nil, List.map_cons, List.map_nil, List.sum_cons, List.sum_nil, decide_true, decide_false, and_self, and_true, true_and, true_or, or_true, Fin.isValue, Fin.val_zero, Fin.val_one, Fin.val_two, Fin.reduceFinMk, Nat.reduceMod, Option.some.injEq, Sum.inl.injEq, Sum.inr.injEq, Prod.mk.injEq, eq_self, reduceCtorEq, imp_self, implies_true, Nat.zero_add, Nat.add_zero, Nat.zero_le, Int.reduceEq, Int.reduceLT, Int.reduceLE, Int.reduceNeg, not_true, not_false_iff, false_imp_iff, true_imp_iff, forall_const, or_self, or_false, false_or, and_false, false_and, ↓reduceIte, z_0, z_1, z_f1, z_f2, z_f3, Int.reduceToNat, Int.reduceAdd, ct_X4_ring, mi_X4_ring]
                refine ⟨fun q => absurd q (by omega), fun _ => ?_⟩
                refine CW.mono (ca) ?_
                rintro _ M1 ⟨rfl, hM1⟩; rw [hM1]; clear hM1 M1
                by_cases q0 : w = 0
                · rw [if_pos q0]
                  refine st_X4_ring [] 20 ?_
                  simp only [sy, xisC, sxI, xgI, xgL, xgR, xent, xargs0, p1i, p2i, p1l, p2l, pli, p1r, pir, piir, plir, pvr, pdup, pdup2, pret, xjmp, xcon, xfd, xcl_, xcall, xbr, xsw, xtsw, xst1, xst2, xkill, xpush, xcat, xcl, xar, xkd, xrf, xmask, mR, mL, List.getElem?_cons_zero, List.getElem?_cons_succ, List.lookup_nil, List.lookup_cons, Nat.reduceAdd, Nat.reduceSub, Nat.reduceLeDiff, Nat.reduceEqDiff, Nat.reduceBEq, List.length_cons, List.length_nil, List.replicate, List.append_nil, List.nil_append, List.cons_append, List.set_cons_zero, List.set_cons_succ, List.take_succ_cons, List.take_zero, List.drop_succ_cons, List.drop_zero, List.reverse_cons, List.reverse_nil, List.map_cons, List.map_nil, List.sum_cons, List.sum_nil, decide_true, decide_false, and_self, and_true, true_and, true_or, or_true, Fin.isValue, Fin.val_zero, Fin.val_one, Fin.val_two, Fin.reduceFinMk, Nat.reduceMod, Option.some.injEq, Sum.inl.injEq, Sum.inr.injEq, Prod.mk.injEq, eq_self, reduceCtorEq, imp_self, implies_true, Nat.zero_add, Nat.add_zero, Nat.zero_le, Int.reduceEq, Int.reduceLT, Int.reduceLE, Int.reduceNeg, not_true, not_false_iff, false_imp_iff, true_imp_iff, forall_const, or_self, or_false, false_or, and_false, false_and, ↓reduceIte, z_0, z_1, z_f1, z_f2, z_f3, Int.reduceToNat, Int.reduceAdd, ct_X4_ring, mi_X4_ring, q0, n1z]
                  exact ⟨lo_S f5, PM_hi h1 (PM_S f5)⟩
                · rw [if_neg q0]
                  refine st_X4_ring [] 20 ?_
                  simp only [sy, xisC, sxI, xgI, xgL, xgR, xent, xargs0, p1i, p2i, p1l, p2l, pli, p1r, pir, piir, plir, pvr, pdup, pdup2, pret, xjmp, xcon, xfd, xcl_, xcall, xbr, xsw, xtsw, xst1, xst2, xkill, xpush, xcat, xcl, xar, xkd, xrf, xmask, mR, mL, List.getElem?_cons_zero, List.getElem?_cons_succ, List.lookup_nil, List.lookup_cons, Nat.reduceAdd, Nat.reduceSub, Nat.reduceLeDiff, Nat.reduceEqDiff, Nat.reduceBEq, List.length_cons, List.length_nil, List.replicate, List.append_nil, List.nil_append, List.cons_append, List.set_cons_zero, List.set_cons_succ, List.take_succ_cons, List.take_zero, List.drop_succ_cons, List.drop_zero, List.reverse_cons, List.reverse_nil, List.map_cons, List.map_nil, List.sum_cons, List.sum_nil, decide_true, decide_false, and_self, and_true, true_and, true_or, or_true, Fin.isValue, Fin.val_zero, Fin.val_one, Fin.val_two, Fin.reduceFinMk, Nat.reduceMod, Option.some.injEq, Sum.inl.injEq, Sum.inr.injEq, Prod.mk.injEq, eq_self, reduceCtorEq, imp_self, implies_true, Nat.zero_add, Nat.add_zero, Nat.zero_le, Int.reduceEq, Int.reduceLT, Int.reduceLE, Int.reduceNeg, not_true, not_false_iff, false_imp_iff, true_imp_iff, forall_const, or_self, or_false, false_or, and_false, false_and, ↓reduceIte, z_0, z_1, z_f1, z_f2, z_f3, Int.reduceToNat, Int.reduceAdd, ct_X4_ring, mi_X4_ring, q0, n1z]
                  exact ⟨lo_S f5, PM_hi h1 (PM_S f5)⟩
              · have q' : agF (trF nd (stN M)) j k nd = 0 := (agF_01 _ _ _ _).resolve_right q
                rw [if_neg q]
                rw [q'] at ca
                generalize riF w k (rgF nd (stN M) w m (k + 1)) (rjF nd (stN M) k m' (j + 1)) = zz at i2 ⊢
                refine st_X4_ring [] 20 ?_
                simp only [sy, xisC, sxI, xgI, xgL, xgR, xent, xargs0, p1i, p2i, p1l, p2l, pli, p1r, pir, piir, plir, pvr, pdup, pdup2, pret, xjmp, xcon, xfd, xcl_, xcall, xbr, xsw, xtsw, xst1, xst2, xkill, xpush, xcat, xcl, xar, xkd, xrf, xmask, mR, mL, List.getElem?_cons_zero, List.getElem?_cons_succ, List.lookup_nil, List.lookup_cons, Nat.reduceAdd, Nat.reduceSub, Nat.reduceLeDiff, Nat.reduceEqDiff, Nat.reduceBEq, List.length_cons, List.length_nil, List.replicate, List.append_nil, List.nil_append, List.cons_append, List.set_cons_zero, List.set_cons_succ, List.take_succ_cons, List.take_zero, List.drop_succ_cons, List.drop_zero, List.reverse_cons, List.reverse_nil, List.map_cons, List.map_nil, List.sum_cons, List.sum_nil, decide_true, decide_false, and_self, and_true, true_and, true_or, or_true, Fin.isValue, Fin.val_zero, Fin.val_one, Fin.val_two, Fin.reduceFinMk, Nat.reduceMod, Option.some.injEq, Sum.inl.injEq, Sum.inr.injEq, Prod.mk.injEq, eq_self, reduceCtorEq, imp_self, implies_true, Nat.zero_add, Nat.add_zero, Nat.zero_le, Int.reduceEq, Int.reduceLT, Int.reduceLE, Int.reduceNeg, not_true, not_false_iff, false_imp_iff, true_imp_iff, forall_const, or_self, or_false, false_or, and_false, false_and, ↓reduceIte, z_0, z_1, z_f1, z_f2, z_f3, Int.reduceToNat, Int.reduceAdd, ct_X4_ring, mi_X4_ring]
                refine ⟨fun q => absurd q (by omega), fun _ => ?_⟩
                refine CW.mono (ca) ?_
                rintro _ M1 ⟨rfl, hM1⟩; rw [hM1]; clear hM1 M1
                refine st_X4_ring [(48, [true, true, true, true])] 20 ?_
                simp only [sy, xisC, sxI, xgI, xgL, xgR, xent, xargs0, p1i, p2i, p1l, p2l, pli, p1r, pir, piir, plir, pvr, pdup, pdup2, pret, xjmp, xcon, xfd, xcl_, xcall, xbr, xsw, xtsw, xst1, xst2, xkill, xpush, xcat, xcl, xar, xkd, xrf, xmask, mR, mL, List.getElem?_cons_zero, List.getElem?_cons_succ, List.lookup_nil, List.lookup_cons, Nat.reduceAdd, Nat.reduceSub, Nat.reduceLeDiff, Nat.reduceEqDiff, Nat.reduceBEq, List.length_cons, List.length_nil, List.replicate, List.append_nil, List.nil_append, List.cons_append, List.set_cons_zero, List.set_cons_succ, List.take_succ_cons, List.take_zero, List.drop_succ_cons, List.drop_zero, List.reverse_cons, List.reverse_nil, List.map_cons, List.map_nil, List.sum_cons, List.sum_nil, decide_true, decide_false, and_self, and_true, true_and, true_or, or_true, Fin.isValue, Fin.val_zero, Fin.val_one, Fin.val_two, Fin.reduceFinMk, Nat.reduceMod, Option.some.injEq, Sum.inl.injEq, Sum.inr.injEq, Prod.mk.injEq, eq_self, reduceCtorEq, imp_self, implies_true, Nat.zero_add, Nat.add_zero, Nat.zero_le, Int.reduceEq, Int.reduceLT, Int.reduceLE, Int.reduceNeg, not_true, not_false_iff, false_imp_iff, true_imp_iff, forall_const, or_self, or_false, false_or, and_false, false_and, ↓reduceIte, z_0, z_1, z_f1, z_f2, z_f3, Int.reduceToNat, Int.reduceAdd, ct_X4_ring, mi_X4_ring, w3]
                exact i2
          have cmp := fun M5 e5 t5 f5 => cmp M5 e5 t5 f5 k 0 (Nat.zero_add k)
          generalize riF w k (rgF nd (stN M) w m (k + 1)) (rjF nd (stN M) k k 0) = zz at cmp ⊢
          have wr : ∀ (m' d : Nat) (M5 : XM), d + m' = nd → M5 24 0 = feetW nd al k (stN M) → (∀ j e, j < k → e < nd → M5 29 0 (4 * j + e) = trF nd (stN M) (4 * j + e)) → (∀ e, e < d → M5 29 0 (4 * k + e) = trF nd (stN M) (4 * k + e)) → frS M1 M5 → J_X4_ring (fun r M2 => r = some (xI (zz)) ∧ loS M1 M2 ∧ PM M M2) 14 [some (xR 22 0), some (xI w), some (xI k), some (xI d)] [] M5 := by
            intro m'
            induction m' with
            | zero =>
              intro d M5 hd e5 t5 u5 f5
              have e : d = nd := by omega
              subst e
              have c := cmp M5 e5 (fun j e hj he => by
                by_cases q : j = k
                · subst q; exact u5 e he
                · exact t5 j e (by omega) he) f5
              have n5 := hn3 M5 f5
              refine st_X4_ring [(18, [true, true, true, true]), (48, [true, true, true, true])] 20 ?_
              simp only [sy, xisC, sxI, xgI, xgL, xgR, xent, xargs0, p1i, p2i, p1l, p2l, pli, p1r, pir, piir, plir, pvr, pdup, pdup2, pret, xjmp, xcon, xfd, xcl_, xcall, xbr, xsw, xtsw, xst1, xst2, xkill, xpush, xcat, xcl, xar, xkd, xrf, xmask, mR, mL, List.getElem?_cons_zero, List.getElem?_cons_succ, List.lookup_nil, List.lookup_cons, Nat.reduceAdd, Nat.reduceSub, Nat.reduceLeDiff, Nat.reduceEqDiff, Nat.reduceBEq, List.length_cons, List.length_nil, List.replicate, List.append_nil, List.nil_append, List.cons_append, List.set_cons_zero, List.set_cons_succ, List.take_succ_cons, List.take_zero, List.drop_succ_cons, List.drop_zero, List.reverse_cons, List.reverse_nil, List.map_cons, List.map_nil, List.sum_cons, List.sum_nil, decide_true, decide_false, and_self, and_true, true_and, true_or, or_true, Fin.isValue, Fin.val_zero, Fin.val_one, Fin.val_two, Fin.reduceFinMk, Nat.reduceMod, Option.some.injEq, Sum.inl.injEq, Sum.inr.injEq, Prod.mk.injEq, eq_self, reduceCtorEq, imp_self, implies_true, Nat.zero_add, Nat.add_zero, Nat.zero_le, Int.reduceEq, Int.reduceLT, Int.reduceLE, Int.reduceNeg, not_true, not_false_iff, false_imp_iff, true_imp_iff, forall_const, or_self, or_false, false_or, and_false, false_and, ↓reduceIte, z_0, z_1, z_f1, z_f2, z_f3, Int.reduceToNat, Int.reduceAdd, ct_X4_ring, mi_X4_ring, n5]
              exact ⟨fun _ => c, fun q => absurd q (by omega)⟩
            | succ m' ih2 =>
              intro d M5 hd e5 t5 u5 f5
              have n5 := hn3 M5 f5
              have hD := okk.2.1 d (by omega)
              obtain ⟨-, hc, -, hh, -, hu⟩ := hD
              unfold isC at hc
              have w3 : w32 ((d : Int) + 1) = (d + 1 : Nat) := by rw [w32_id (by omega) (by omega)]; rfl
              have a1 : w32 (4 * (k : Int)) = 4 * k := w32_id (by omega) (by omega)
              have a2 : w32 (4 * (k : Int) + d) = 4 * k + d := w32_id (by omega) (by omega)
              have a3 : (4 * (k : Int) + d).toNat = 4 * k + d := by omega
              have go : J_X4_ring (fun r M2 => r = some (xI (zz)) ∧ loS M1 M2 ∧ PM M M2) 14 [some (xR 22 0), some (xI w), some (xI k), some (xI ((d + 1 : Nat) : Int))] [] (xup M5 29 0 (4 * k + d) (tzF (feetW nd al k (stN M)) d)) := by
                refine ih2 (d + 1) _ (by omega) (by rw [xup_t (by decide)]; exact e5) (fun j e hj he => by rw [xup_k (by omega)]; exact t5 j e hj he) (fun e he => ?_) (frS_up f5 (by omega))
                rw [xup_s]
                by_cases q : e = d
                · subst q; rw [if_pos rfl, tr_e (by omega)]
                · rw [if_neg (by omega)]; exact u5 e (by omega)
              unfold tzF at go
              refine st_X4_ring [] 20 ?_
              simp only [sy, xisC, sxI, xgI, xgL, xgR, xent, xargs0, p1i, p2i, p1l, p2l, pli, p1r, pir, piir, plir, pvr, pdup, pdup2, pret, xjmp, xcon, xfd, xcl_, xcall, xbr, xsw, xtsw, xst1, xst2, xkill, xpush, xcat, xcl, xar, xkd, xrf, xmask, mR, mL, List.getElem?_cons_zero, List.getElem?_cons_succ, List.lookup_nil, List.lookup_cons, Nat.reduceAdd, Nat.reduceSub, Nat.reduceLeDiff, Nat.reduceEqDiff, Nat.reduceBEq, List.length_cons, List.length_nil, List.replicate, List.append_nil, List.nil_append, List.cons_append, List.set_cons_zero, List.set_cons_succ, List.take_succ_cons, List.take_zero, List.drop_succ_cons, List.drop_zero, List.reverse_cons, List.reverse_nil, List.map_cons, List.map_nil, List.sum_cons, List.sum_nil, decide_true, decide_false, and_self, and_true, true_and, true_or, or_true, Fin.isValue, Fin.val_zero, Fin.val_one, Fin.val_two, Fin.reduceFinMk, Nat.reduceMod, Option.some.injEq, Sum.inl.injEq, Sum.inr.injEq, Prod.mk.injEq, eq_self, reduceCtorEq, imp_self, implies_true, Nat.zero_add, Nat.add_zero, Nat.zero_le, Int.reduceEq, Int.reduceLT, Int.reduceLE, Int.reduceNeg, not_true, not_false_iff, false_imp_iff, true_imp_iff, forall_const, or_self, or_false, false_or, and_false, false_and, ↓reduceIte, z_0, z_1, z_f1, z_f2, z_f3, Int.reduceToNat, Int.reduceAdd, ct_X4_ring, mi_X4_ring, n5, a1, a2]
              refine ⟨fun q => absurd q (by omega), fun _ => ?_⟩
              refine CW.mono (c_of M5 d 1 1 rfl (by omega)) ?_
              rintro _ M1 ⟨rfl, hM1⟩; rw [hM1]; clear hM1 M1
              rw [e5]
              generalize feetW nd al k (stN M) (6 * d + 1) = vc at hc go ⊢
              generalize HH : feetW nd al k (stN M) (6 * d + 3) = vh at hh go
              generalize HU : feetW nd al k (stN M) (6 * d + 5) = vu at hu go
              have b1 : w32 (8 * vc) = 8 * vc := w32_id (by omega) (by omega)
              have b2 : w32 (2 * vh) = 2 * vh := w32_id (by omega) (by omega)
              have b3 : w32 (8 * vc + 2 * vh) = 8 * vc + 2 * vh := w32_id (by omega) (by omega)
              have b4 : w32 (8 * vc + 2 * vh + vu) = 8 * vc + 2 * vh + vu := w32_id (by omega) (by omega)
              refine st_X4_ring [] 20 ?_
              simp only [sy, xisC, sxI, xgI, xgL, xgR, xent, xargs0, p1i, p2i, p1l, p2l, pli, p1r, pir, piir, plir, pvr, pdup, pdup2, pret, xjmp, xcon, xfd, xcl_, xcall, xbr, xsw, xtsw, xst1, xst2, xkill, xpush, xcat, xcl, xar, xkd, xrf, xmask, mR, mL, List.getElem?_cons_zero, List.getElem?_cons_succ, List.lookup_nil, List.lookup_cons, Nat.reduceAdd, Nat.reduceSub, Nat.reduceLeDiff, Nat.reduceEqDiff, Nat.reduceBEq, List.length_cons, List.length_nil, List.replicate, List.append_nil, List.nil_append, List.cons_append, List.set_cons_zero, List.set_cons_succ, List.take_succ_cons, List.take_zero, List.drop_succ_cons, List.drop_zero, List.reverse_cons, List.reverse_nil, List.map_cons, List.map_nil, List.sum_cons, List.sum_nil, decide_true, decide_false, and_self, and_true, true_and, true_or, or_true, Fin.isValue, Fin.val_zero, Fin.val_one, Fin.val_two, Fin.reduceFinMk, Nat.reduceMod, Option.some.injEq, Sum.inl.injEq, Sum.inr.injEq, Prod.mk.injEq, eq_self, reduceCtorEq, imp_self, implies_true, Nat.zero_add, Nat.add_zero, Nat.zero_le, Int.reduceEq, Int.reduceLT, Int.reduceLE, Int.reduceNeg, not_true, not_false_iff, false_imp_iff, true_imp_iff, forall_const, or_self, or_false, false_or, and_false, false_and, ↓reduceIte, z_0, z_1, z_f1, z_f2, z_f3, Int.reduceToNat, Int.reduceAdd, ct_X4_ring, mi_X4_ring, b1]
              refine CW.mono (c_of M5 d 3 3 rfl (by omega)) ?_
              rintro _ M1 ⟨rfl, hM1⟩; rw [hM1]; clear hM1 M1
              rw [e5, HH]
              refine st_X4_ring [] 20 ?_
              simp only [sy, xisC, sxI, xgI, xgL, xgR, xent, xargs0, p1i, p2i, p1l, p2l, pli, p1r, pir, piir, plir, pvr, pdup, pdup2, pret, xjmp, xcon, xfd, xcl_, xcall, xbr, xsw, xtsw, xst1, xst2, xkill, xpush, xcat, xcl, xar, xkd, xrf, xmask, mR, mL, List.getElem?_cons_zero, List.getElem?_cons_succ, List.lookup_nil, List.lookup_cons, Nat.reduceAdd, Nat.reduceSub, Nat.reduceLeDiff, Nat.reduceEqDiff, Nat.reduceBEq, List.length_cons, List.length_nil, List.replicate, List.append_nil, List.nil_append, List.cons_append, List.set_cons_zero, List.set_cons_succ, List.take_succ_cons, List.take_zero, List.drop_succ_cons, List.drop_zero, List.reverse_cons, List.reverse_nil, List.map_cons, List.map_nil, List.sum_cons, List.sum_nil, decide_true, decide_false, and_self, and_true, true_and, true_or, or_true, Fin.isValue, Fin.val_zero, Fin.val_one, Fin.val_two, Fin.reduceFinMk, Nat.reduceMod, Option.some.injEq, Sum.inl.injEq, Sum.inr.injEq, Prod.mk.injEq, eq_self, reduceCtorEq, imp_self, implies_true, Nat.zero_add, Nat.add_zero, Nat.zero_le, Int.reduceEq, Int.reduceLT, Int.reduceLE, Int.reduceNeg, not_true, not_false_iff, false_imp_iff, true_imp_iff, forall_const, or_self, or_false, false_or, and_false, false_and, ↓reduceIte, z_0, z_1, z_f1, z_f2, z_f3, Int.reduceToNat, Int.reduceAdd, ct_X4_ring, mi_X4_ring, b2, b3]
              refine CW.mono (c_of M5 d 5 5 rfl (by omega)) ?_
              rintro _ M1 ⟨rfl, hM1⟩; rw [hM1]; clear hM1 M1
              rw [e5, HU]
              refine st_X4_ring [(14, [true, true, true, true])] 20 ?_
              simp only [sy, xisC, sxI, xgI, xgL, xgR, xent, xargs0, p1i, p2i, p1l, p2l, pli, p1r, pir, piir, plir, pvr, pdup, pdup2, pret, xjmp, xcon, xfd, xcl_, xcall, xbr, xsw, xtsw, xst1, xst2, xkill, xpush, xcat, xcl, xar, xkd, xrf, xmask, mR, mL, List.getElem?_cons_zero, List.getElem?_cons_succ, List.lookup_nil, List.lookup_cons, Nat.reduceAdd, Nat.reduceSub, Nat.reduceLeDiff, Nat.reduceEqDiff, Nat.reduceBEq, List.length_cons, List.length_nil, List.replicate, List.append_nil, List.nil_append, List.cons_append, List.set_cons_zero, List.set_cons_succ, List.take_succ_cons, List.take_zero, List.drop_succ_cons, List.drop_zero, List.reverse_cons, List.reverse_nil, List.map_cons, List.map_nil, List.sum_cons, List.sum_nil, decide_true, decide_false, and_self, and_true, true_and, true_or, or_true, Fin.isValue, Fin.val_zero, Fin.val_one, Fin.val_two, Fin.reduceFinMk, Nat.reduceMod, Option.some.injEq, Sum.inl.injEq, Sum.inr.injEq, Prod.mk.injEq, eq_self, reduceCtorEq, imp_self, implies_true, Nat.zero_add, Nat.add_zero, Nat.zero_le, Int.reduceEq, Int.reduceLT, Int.reduceLE, Int.reduceNeg, not_true, not_false_iff, false_imp_iff, true_imp_iff, forall_const, or_self, or_false, false_or, and_false, false_and, ↓reduceIte, z_0, z_1, z_f1, z_f2, z_f3, Int.reduceToNat, Int.reduceAdd, ct_X4_ring, mi_X4_ring, b4, a3, w3]
              exact ⟨by omega, go⟩
          refine st_X4_ring [(14, [true, true, true, true])] 20 ?_
          simp only [sy, xisC, sxI, xgI, xgL, xgR, xent, xargs0, p1i, p2i, p1l, p2l, pli, p1r, pir, piir, plir, pvr, pdup, pdup2, pret, xjmp, xcon, xfd, xcl_, xcall, xbr, xsw, xtsw, xst1, xst2, xkill, xpush, xcat, xcl, xar, xkd, xrf, xmask, mR, mL, List.getElem?_cons_zero, List.getElem?_cons_succ, List.lookup_nil, List.lookup_cons, Nat.reduceAdd, Nat.reduceSub, Nat.reduceLeDiff, Nat.reduceEqDiff, Nat.reduceBEq, List.length_cons, List.length_nil, List.replicate, List.append_nil, List.nil_append, List.cons_append, List.set_cons_zero, List.set_cons_succ, List.take_succ_cons, List.take_zero, List.drop_succ_cons, List.drop_zero, List.reverse_cons, List.reverse_nil, List.map_cons, List.map_nil, List.sum_cons, List.sum_nil, decide_true, decide_false, and_self, and_true, true_and, true_or, or_true, Fin.isValue, Fin.val_zero, Fin.val_one, Fin.val_two, Fin.reduceFinMk, Nat.reduceMod, Option.some.injEq, Sum.inl.injEq, Sum.inr.injEq, Prod.mk.injEq, eq_self, reduceCtorEq, imp_self, implies_true, Nat.zero_add, Nat.add_zero, Nat.zero_le, Int.reduceEq, Int.reduceLT, Int.reduceLE, Int.reduceNeg, not_true, not_false_iff, false_imp_iff, true_imp_iff, forall_const, or_self, or_false, false_or, and_false, false_and, ↓reduceIte, z_0, z_1, z_f1, z_f2, z_f3, Int.reduceToNat, Int.reduceAdd, ct_X4_ring, mi_X4_ring]
          refine ⟨fun q => absurd q (by omega), fun _ => ?_⟩
          exact wr nd 0 M3 (by omega) e3 t3 (fun e he => absurd he (by omega)) f3
      refine st_X4_ring [(9, [true, true, true, true])] 20 ?_
      simp only [sy, xisC, sxI, xgI, xgL, xgR, xent, xargs0, p1i, p2i, p1l, p2l, pli, p1r, pir, piir, plir, pvr, pdup, pdup2, pret, xjmp, xcon, xfd, xcl_, xcall, xbr, xsw, xtsw, xst1, xst2, xkill, xpush, xcat, xcl, xar, xkd, xrf, xmask, mR, mL, List.getElem?_cons_zero, List.getElem?_cons_succ, List.lookup_nil, List.lookup_cons, Nat.reduceAdd, Nat.reduceSub, Nat.reduceLeDiff, Nat.reduceEqDiff, Nat.reduceBEq, List.length_cons, List.length_nil, List.replicate, List.append_nil, List.nil_append, List.cons_append, List.set_cons_zero, List.set_cons_succ, List.take_succ_cons, List.take_zero, List.drop_succ_cons, List.drop_zero, List.reverse_cons, List.reverse_nil, List.map_cons, List.map_nil, List.sum_cons, List.sum_nil, decide_true, decide_false, and_self, and_true, true_and, true_or, or_true, Fin.isValue, Fin.val_zero, Fin.val_one, Fin.val_two, Fin.reduceFinMk, Nat.reduceMod, Option.some.injEq, Sum.inl.injEq, Sum.inr.injEq, Prod.mk.injEq, eq_self, reduceCtorEq, imp_self, implies_true, Nat.zero_add, Nat.add_zero, Nat.zero_le, Int.reduceEq, Int.reduceLT, Int.reduceLE, Int.reduceNeg, not_true, not_false_iff, false_imp_iff, true_imp_iff, forall_const, or_self, or_false, false_or, and_false, false_and, ↓reduceIte, z_0, z_1, z_f1, z_f2, z_f3, Int.reduceToNat, Int.reduceAdd, ct_X4_ring, mi_X4_ring]
      have lp := loop 41 0 M2 rfl e2 (fun j e hj => absurd hj (by omega)) (frS_N frS_rf f2) none
      rw [rg_s (m := 40) (i := 0), show riF w 0 (rgF nd (stN M) w 40 (0 + 1)) (rjF nd (stN M) 0 0 0) = rgF nd (stN M) w 40 1 from if_pos rfl] at lp
      exact lp
  · refine PUB_of (m := M) (-1) ?_ (fun M1 h1 => ?_)
    · refine in_X3_ring (Nat.le_of_ble_eq_true rfl) ?_
      refine st_X3_ring [] 20 ?_
      simp only [sy, xisC, sxI, xgI, xgL, xgR, xent, xargs0, p1i, p2i, p1l, p2l, pli, p1r, pir, piir, plir, pvr, pdup, pdup2, pret, xjmp, xcon, xfd, xcl_, xcall, xbr, xsw, xtsw, xst1, xst2, xkill, xpush, xcat, xcl, xar, xkd, xrf, xmask, mR, mL, List.getElem?_cons_zero, List.getElem?_cons_succ, List.lookup_nil, List.lookup_cons, Nat.reduceAdd, Nat.reduceSub, Nat.reduceLeDiff, Nat.reduceEqDiff, Nat.reduceBEq, List.length_cons, List.length_nil, List.replicate, List.append_nil, List.nil_append, List.cons_append, List.set_cons_zero, List.set_cons_succ, List.take_succ_cons, List.take_zero, List.drop_succ_cons, List.drop_zero, List.reverse_cons, List.reverse_nil, List.map_cons, List.map_nil, List.sum_cons, List.sum_nil, decide_true, decide_false, and_self, and_true, true_and, true_or, or_true, Fin.isValue, Fin.val_zero, Fin.val_one, Fin.val_two, Fin.reduceFinMk, Nat.reduceMod, Option.some.injEq, Sum.inl.injEq, Sum.inr.injEq, Prod.mk.injEq, eq_self, reduceCtorEq, imp_self, implies_true, Nat.zero_add, Nat.add_zero, Nat.zero_le, Int.reduceEq, Int.reduceLT, Int.reduceLE, Int.reduceNeg, not_true, not_false_iff, false_imp_iff, true_imp_iff, forall_const, or_self, or_false, false_or, and_false, false_and, ↓reduceIte, z_0, z_1, z_f1, z_f2, z_f3, Int.reduceToNat, Int.reduceAdd, ct_X3_ring, mi_X3_ring]
      refine CW.mono (c_within M w 0 1) ?_
      rintro _ M1 ⟨rfl, hM1⟩; rw [hM1]; clear hM1 M1
      rw [if_neg c1]
      refine st_X3_ring [(7, [true, true, true, true])] 20 ?_
      simp only [sy, xisC, sxI, xgI, xgL, xgR, xent, xargs0, p1i, p2i, p1l, p2l, pli, p1r, pir, piir, plir, pvr, pdup, pdup2, pret, xjmp, xcon, xfd, xcl_, xcall, xbr, xsw, xtsw, xst1, xst2, xkill, xpush, xcat, xcl, xar, xkd, xrf, xmask, mR, mL, List.getElem?_cons_zero, List.getElem?_cons_succ, List.lookup_nil, List.lookup_cons, Nat.reduceAdd, Nat.reduceSub, Nat.reduceLeDiff, Nat.reduceEqDiff, Nat.reduceBEq, List.length_cons, List.length_nil, List.replicate, List.append_nil, List.nil_append, List.cons_append, List.set_cons_zero, List.set_cons_succ, List.take_succ_cons, List.take_zero, List.drop_succ_cons, List.drop_zero, List.reverse_cons, List.reverse_nil, List.map_cons, List.map_nil, List.sum_cons, List.sum_nil, decide_true, decide_false, and_self, and_true, true_and, true_or, or_true, Fin.isValue, Fin.val_zero, Fin.val_one, Fin.val_two, Fin.reduceFinMk, Nat.reduceMod, Option.some.injEq, Sum.inl.injEq, Sum.inr.injEq, Prod.mk.injEq, eq_self, reduceCtorEq, imp_self, implies_true, Nat.zero_add, Nat.add_zero, Nat.zero_le, Int.reduceEq, Int.reduceLT, Int.reduceLE, Int.reduceNeg, not_true, not_false_iff, false_imp_iff, true_imp_iff, forall_const, or_self, or_false, false_or, and_false, false_and, ↓reduceIte, z_0, z_1, z_f1, z_f2, z_f3, Int.reduceToNat, Int.reduceAdd, ct_X3_ring, mi_X3_ring, n1z]
      exact ⟨hi_rf, h⟩
    · refine in_X4_ring (Nat.le_of_ble_eq_true rfl) ?_
      refine st_X4_ring [] 20 ?_
      simp only [sy, xisC, sxI, xgI, xgL, xgR, xent, xargs0, p1i, p2i, p1l, p2l, pli, p1r, pir, piir, plir, pvr, pdup, pdup2, pret, xjmp, xcon, xfd, xcl_, xcall, xbr, xsw, xtsw, xst1, xst2, xkill, xpush, xcat, xcl, xar, xkd, xrf, xmask, mR, mL, List.getElem?_cons_zero, List.getElem?_cons_succ, List.lookup_nil, List.lookup_cons, Nat.reduceAdd, Nat.reduceSub, Nat.reduceLeDiff, Nat.reduceEqDiff, Nat.reduceBEq, List.length_cons, List.length_nil, List.replicate, List.append_nil, List.nil_append, List.cons_append, List.set_cons_zero, List.set_cons_succ, List.take_succ_cons, List.take_zero, List.drop_succ_cons, List.drop_zero, List.reverse_cons, List.reverse_nil, List.map_cons, List.map_nil, List.sum_cons, List.sum_nil, decide_true, decide_false, and_self, and_true, true_and, true_or, or_true, Fin.isValue, Fin.val_zero, Fin.val_one, Fin.val_two, Fin.reduceFinMk, Nat.reduceMod, Option.some.injEq, Sum.inl.injEq, Sum.inr.injEq, Prod.mk.injEq, eq_self, reduceCtorEq, imp_self, implies_true, Nat.zero_add, Nat.add_zero, Nat.zero_le, Int.reduceEq, Int.reduceLT, Int.reduceLE, Int.reduceNeg, not_true, not_false_iff, false_imp_iff, true_imp_iff, forall_const, or_self, or_false, false_or, and_false, false_and, ↓reduceIte, z_0, z_1, z_f1, z_f2, z_f3, Int.reduceToNat, Int.reduceAdd, ct_X4_ring, mi_X4_ring]
      refine CW.mono (c_isPart M1 w) ?_
      rintro _ M1 ⟨rfl, hM1⟩; rw [hM1]; clear hM1 M1
      rw [if_neg c1]
      refine st_X4_ring [(5, [true, true, true, true])] 20 ?_
      simp only [sy, xisC, sxI, xgI, xgL, xgR, xent, xargs0, p1i, p2i, p1l, p2l, pli, p1r, pir, piir, plir, pvr, pdup, pdup2, pret, xjmp, xcon, xfd, xcl_, xcall, xbr, xsw, xtsw, xst1, xst2, xkill, xpush, xcat, xcl, xar, xkd, xrf, xmask, mR, mL, List.getElem?_cons_zero, List.getElem?_cons_succ, List.lookup_nil, List.lookup_cons, Nat.reduceAdd, Nat.reduceSub, Nat.reduceLeDiff, Nat.reduceEqDiff, Nat.reduceBEq, List.length_cons, List.length_nil, List.replicate, List.append_nil, List.nil_append, List.cons_append, List.set_cons_zero, List.set_cons_succ, List.take_succ_cons, List.take_zero, List.drop_succ_cons, List.drop_zero, List.reverse_cons, List.reverse_nil, List.map_cons, List.map_nil, List.sum_cons, List.sum_nil, decide_true, decide_false, and_self, and_true, true_and, true_or, or_true, Fin.isValue, Fin.val_zero, Fin.val_one, Fin.val_two, Fin.reduceFinMk, Nat.reduceMod, Option.some.injEq, Sum.inl.injEq, Sum.inr.injEq, Prod.mk.injEq, eq_self, reduceCtorEq, imp_self, implies_true, Nat.zero_add, Nat.add_zero, Nat.zero_le, Int.reduceEq, Int.reduceLT, Int.reduceLE, Int.reduceNeg, not_true, not_false_iff, false_imp_iff, true_imp_iff, forall_const, or_self, or_false, false_or, and_false, false_and, ↓reduceIte, z_0, z_1, z_f1, z_f2, z_f3, Int.reduceToNat, Int.reduceAdd, ct_X4_ring, mi_X4_ring, n1z]
      exact ⟨lo_rf, PM_of_hi h1⟩

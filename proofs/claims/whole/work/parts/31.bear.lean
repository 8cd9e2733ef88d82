/-! ===== Ground.bearingOn ===== -/
theorem wb_nat (v e : Nat) : wb (v : Int) e = decide (v / 2 ^ e % 2 = 1) := by
  unfold wb
  have h : ((v : Int) / 2 ^ e % 2) = ((v / 2 ^ e % 2 : Nat) : Int) := by simp
  rw [h]
  exact decide_eq_decide.mpr (by omega)
theorem wb_tab : ∀ u : Nat, u < 16 → ∀ k : Nat, k < 4 → (if u / 2 ^ k % 2 = 0 then u + 2 ^ k else u) < 16 ∧ ∀ e : Nat, e < 4 → decide ((if u / 2 ^ k % 2 = 0 then u + 2 ^ k else u) / 2 ^ e % 2 = 1) = (decide (u / 2 ^ e % 2 = 1) || decide (e = k)) := by decide +kernel
theorem wb_set {w : Int} (h0 : 0 ≤ w) (h1 : w < 16) {k : Nat} (hk : k < 4) : 0 ≤ bOr w (2 ^ k) ∧ bOr w (2 ^ k) < 16 ∧ ∀ e : Nat, e < 4 → wb (bOr w (2 ^ k)) e = (wb w e || decide (e = k)) := by
  obtain ⟨u, rfl⟩ := Int.eq_ofNat_of_zero_le h0
  have hu : u < 16 := by omega
  have h2 := or_4 u hu k hk
  have e1 : ((2 ^ k : Nat) : Int) = (2 : Int) ^ k := by simp
  rw [e1] at h2
  obtain ⟨h3, h4⟩ := wb_tab u hu k hk
  rw [h2]
  refine ⟨by omega, by omega, fun e he => ?_⟩
  rw [wb_nat, wb_nat]
  exact h4 e he
theorem wb_one {k : Nat} (hk : k < 4) : 0 ≤ (2 : Int) ^ k ∧ (2 : Int) ^ k < 16 ∧ ∀ e : Nat, e < 4 → wb ((2 : Int) ^ k) e = decide (e = k) := by
  have h : k = 0 ∨ k = 1 ∨ k = 2 ∨ k = 3 := by omega
  have key : ∀ k : Nat, k < 4 → ∀ e : Nat, e < 4 → decide (2 ^ k / 2 ^ e % 2 = 1) = decide (e = k) := by decide +kernel
  have e1 : ((2 ^ k : Nat) : Int) = (2 : Int) ^ k := by simp
  refine ⟨?_, ?_, fun e he => ?_⟩
  · rcases h with rfl | rfl | rfl | rfl <;> decide
  · rcases h with rfl | rfl | rfl | rfl <;> decide
  · rw [← e1, wb_nat]
    exact key k hk e he
theorem mod_s {d j nd : Nat} : ((d + j) % nd + 1) % nd = (d + (j + 1)) % nd := by
  rw [Nat.mod_add_mod, Nat.add_assoc]
set_option maxRecDepth 100000 in
theorem c_bearingOn {M : XM} {i : Fin 5} {nd d : Nat} {N : Nat → Int} (h : RG M i nd N) (hok : okN nd N) (hd : d < nd) : CW mi_X0_bearingOn [xR 1 i, xI d] M (fun r M' => ∃ w : Int, r = some (xI w) ∧ M' = M ∧ 0 ≤ w ∧ w < 16 ∧ wb w d = true ∧ clo (wb w) nd N) := by
  have h4 := hok.1
  have g0 := h.1
  have loop : ∀ (n k : Nat) (w : Int), k + n = nd → 0 ≤ w → w < 16 → (∀ e, e < 4 → (wb w e = true ↔ ∃ j, j ≤ k ∧ e = (d + j) % nd)) → (∀ j, j < k → N (6 * ((d + j) % nd)) = 2) → J_X0_bearingOn (fun r M' => ∃ w : Int, r = some (xI w) ∧ M' = M ∧ 0 ≤ w ∧ w < 16 ∧ wb w d = true ∧ clo (wb w) nd N) 8 [some (xR 1 i), some (xI d), some (xI w), some (xI ((d + k) % nd : Nat)), some (xI k)] [] M := by
    intro n
    induction n with
    | zero =>
      intro k w hk w0 w1 hw hj
      have e : k = nd := by omega
      subst e
      refine st_X0_bearingOn [] 8 ?_
      simp only [sy, xisC, sxI, xgI, xgL, xgR, xent, xargs0, p1i, p2i, p1l, p2l, pli, p1r, pir, piir, plir, pvr, pdup, pdup2, pret, xjmp, xcon, xfd, xcl_, xcall, xbr, xsw, xtsw, xst1, xst2, xkill, xpush, xcat, xcl, xar, xkd, xrf, xmask, mR, mL, List.getElem?_cons_zero, List.getElem?_cons_succ, List.lookup_nil, List.lookup_cons, Nat.reduceAdd, Nat.reduceSub, Nat.reduceLeDiff, Nat.reduceEqDiff, Nat.reduceBEq, List.length_cons, List.length_nil, List.replicate, List.append_nil, List.nil_append, List.cons_append, List.set_cons_zero, List.set_cons_succ, List.take_succ_cons, List.take_zero, List.drop_succ_cons, List.drop_zero, List.reverse_cons, List.reverse_nil, List.map_cons, List.map_nil, List.sum_cons, List.sum_nil, decide_true, decide_false, and_self, and_true, true_and, true_or, or_true, Fin.isValue, Fin.val_zero, Fin.val_one, Fin.val_two, Fin.reduceFinMk, Nat.reduceMod, Option.some.injEq, Sum.inl.injEq, Sum.inr.injEq, Prod.mk.injEq, eq_self, reduceCtorEq, imp_self, implies_true, Nat.zero_add, Nat.add_zero, Nat.zero_le, Int.reduceEq, Int.reduceLT, Int.reduceLE, Int.reduceNeg, not_true, not_false_iff, false_imp_iff, true_imp_iff, forall_const, or_self, or_false, false_or, and_false, false_and, ↓reduceIte, z_0, z_1, z_f1, z_f2, z_f3, Int.reduceToNat, Int.reduceAdd, ct_X0_bearingOn, mi_X0_bearingOn, g0]
      refine ⟨fun _ => ⟨w, rfl, w0, w1, (hw d (by omega)).mpr ⟨0, by omega, (Nat.mod_eq_of_lt hd).symm⟩, fun e he _ _ _ => ?_⟩, fun q => absurd q (by omega)⟩
      have hx : (e + 1) % k < k := Nat.mod_lt _ (by omega)
      refine (hw _ (by omega)).mpr ⟨((e + 1) % k + k - d) % k, Nat.le_of_lt (Nat.mod_lt _ (by omega)), ?_⟩
      rw [Nat.add_mod_mod, show d + ((e + 1) % k + k - d) = (e + 1) % k + k by omega, Nat.add_mod_right, Nat.mod_mod]
    | succ n ih =>
      intro k w hk w0 w1 hw hj
      have he : (d + k) % nd < nd := Nat.mod_lt _ (by omega)
      have hd0 : wb w d = true := (hw d (by omega)).mpr ⟨0, by omega, (Nat.mod_eq_of_lt hd).symm⟩
      have gk := (h.2.2.2.2.2.1 _ he).1
      have hms : ((d + k) % nd + 1) % nd = (d + (k + 1)) % nd := mod_s
      have cb := c_behind M i ((d + k) % nd) nd he h4 g0
      rw [hms] at cb
      generalize hone : (d + k) % nd = one at he gk cb
      have hms2 : (one + 1) % nd = (d + (k + 1)) % nd := by rw [← hone]; exact hms
      refine st_X0_bearingOn [] 20 ?_
      simp only [sy, xisC, sxI, xgI, xgL, xgR, xent, xargs0, p1i, p2i, p1l, p2l, pli, p1r, pir, piir, plir, pvr, pdup, pdup2, pret, xjmp, xcon, xfd, xcl_, xcall, xbr, xsw, xtsw, xst1, xst2, xkill, xpush, xcat, xcl, xar, xkd, xrf, xmask, mR, mL, List.getElem?_cons_zero, List.getElem?_cons_succ, List.lookup_nil, List.lookup_cons, Nat.reduceAdd, Nat.reduceSub, Nat.reduceLeDiff, Nat.reduceEqDiff, Nat.reduceBEq, List.length_cons, List.length_nil, List.replicate, List.append_nil, List.nil_append, List.cons_append, List.set_cons_zero, List.set_cons_succ, List.take_succ_cons, List.take_zero, List.drop_succ_cons, List.drop_zero, List.reverse_cons, List.reverse_nil, List.map_cons, List.map_nil, List.sum_cons, List.sum_nil, decide_true, decide_false, and_self, and_true, true_and, true_or, or_true, Fin.isValue, Fin.val_zero, Fin.val_one, Fin.val_two, Fin.reduceFinMk, Nat.reduceMod, Option.some.injEq, Sum.inl.injEq, Sum.inr.injEq, Prod.mk.injEq, eq_self, reduceCtorEq, imp_self, implies_true, Nat.zero_add, Nat.add_zero, Nat.zero_le, Int.reduceEq, Int.reduceLT, Int.reduceLE, Int.reduceNeg, not_true, not_false_iff, false_imp_iff, true_imp_iff, forall_const, or_self, or_false, false_or, and_false, false_and, ↓reduceIte, z_0, z_1, z_f1, z_f2, z_f3, Int.reduceToNat, Int.reduceAdd, ct_X0_bearingOn, mi_X0_bearingOn, g0, Int.toNat_natCast, gk]
      refine ⟨fun q => absurd q (by omega), fun _ => ⟨by omega, fun hne => ?_, fun heq => ?_⟩⟩
      · refine ⟨w, rfl, w0, w1, hd0, fun e he' hwe h2 _ => ?_⟩
        obtain ⟨j, hjk, rfl⟩ := (hw e (by omega)).mp hwe
        rw [mod_s]
        refine (hw _ (by have := Nat.mod_lt (d + (j + 1)) (show 0 < nd by omega); omega)).mpr ⟨j + 1, ?_, rfl⟩
        rcases Nat.lt_or_ge j k with q | q
        · omega
        · have : j = k := by omega
          subst this
          rw [hone] at h2
          exact absurd h2 hne
      · refine CW.mono (cb) ?_
        rintro _ M1 ⟨rfl, hM1⟩; rw [hM1]; clear hM1 M1
        have hnx : (d + (k + 1)) % nd < 4 := by have := Nat.mod_lt (d + (k + 1)) (show 0 < nd by omega); omega
        obtain ⟨s0, s1, s2⟩ := wb_set w0 w1 hnx
        have hpw := pw_4 _ hnx
        have ihn := ih (k + 1) (bOr w (2 ^ ((d + (k + 1)) % nd))) (by omega) s0 s1 (fun e he' => by
          rw [s2 e he', Bool.or_eq_true, decide_eq_true_eq, hw e he']
          constructor
          · rintro (⟨j, a, b⟩ | q)
            · exact ⟨j, by omega, b⟩
            · exact ⟨k + 1, by omega, q⟩
          · rintro ⟨j, a, b⟩
            rcases Nat.lt_or_ge k j with q | q
            · have : j = k + 1 := by omega
              subst this
              exact Or.inr b
            · exact Or.inl ⟨j, by omega, b⟩) (fun j hjk => by
          rcases Nat.lt_or_ge j k with q | q
          · exact hj j q
          · have : j = k := by omega
            subst this
            rw [hone]
            exact heq)
        generalize (d + (k + 1)) % nd = nx at hnx s0 s1 s2 hpw ihn
        refine st_X0_bearingOn [] 8 ?_
        simp only [sy, xisC, sxI, xgI, xgL, xgR, xent, xargs0, p1i, p2i, p1l, p2l, pli, p1r, pir, piir, plir, pvr, pdup, pdup2, pret, xjmp, xcon, xfd, xcl_, xcall, xbr, xsw, xtsw, xst1, xst2, xkill, xpush, xcat, xcl, xar, xkd, xrf, xmask, mR, mL, List.getElem?_cons_zero, List.getElem?_cons_succ, List.lookup_nil, List.lookup_cons, Nat.reduceAdd, Nat.reduceSub, Nat.reduceLeDiff, Nat.reduceEqDiff, Nat.reduceBEq, List.length_cons, List.length_nil, List.replicate, List.append_nil, List.nil_append, List.cons_append, List.set_cons_zero, List.set_cons_succ, List.take_succ_cons, List.take_zero, List.drop_succ_cons, List.drop_zero, List.reverse_cons, List.reverse_nil, List.map_cons, List.map_nil, List.sum_cons, List.sum_nil, decide_true, decide_false, and_self, and_true, true_and, true_or, or_true, Fin.isValue, Fin.val_zero, Fin.val_one, Fin.val_two, Fin.reduceFinMk, Nat.reduceMod, Option.some.injEq, Sum.inl.injEq, Sum.inr.injEq, Prod.mk.injEq, eq_self, reduceCtorEq, imp_self, implies_true, Nat.zero_add, Nat.add_zero, Nat.zero_le, Int.reduceEq, Int.reduceLT, Int.reduceLE, Int.reduceNeg, not_true, not_false_iff, false_imp_iff, true_imp_iff, forall_const, or_self, or_false, false_or, and_false, false_and, ↓reduceIte, z_0, z_1, z_f1, z_f2, z_f3, Int.reduceToNat, Int.reduceAdd, ct_X0_bearingOn, mi_X0_bearingOn]
        rw [hpw]
        refine st_X0_bearingOn [] 8 ?_
        simp only [sy, xisC, sxI, xgI, xgL, xgR, xent, xargs0, p1i, p2i, p1l, p2l, pli, p1r, pir, piir, plir, pvr, pdup, pdup2, pret, xjmp, xcon, xfd, xcl_, xcall, xbr, xsw, xtsw, xst1, xst2, xkill, xpush, xcat, xcl, xar, xkd, xrf, xmask, mR, mL, List.getElem?_cons_zero, List.getElem?_cons_succ, List.lookup_nil, List.lookup_cons, Nat.reduceAdd, Nat.reduceSub, Nat.reduceLeDiff, Nat.reduceEqDiff, Nat.reduceBEq, List.length_cons, List.length_nil, List.replicate, List.append_nil, List.nil_append, List.cons_append, List.set_cons_zero, List.set_cons_succ, List.take_succ_cons, List.take_zero, List.drop_succ_cons, List.drop_zero, List.reverse_cons, List.reverse_nil, List.map_cons, List.map_nil, List.sum_cons, List.sum_nil, decide_true, decide_false, and_self, and_true, true_and, true_or, or_true, Fin.isValue, Fin.val_zero, Fin.val_one, Fin.val_two, Fin.reduceFinMk, Nat.reduceMod, Option.some.injEq, Sum.inl.injEq, Sum.inr.injEq, Prod.mk.injEq, eq_self, reduceCtorEq, imp_self, implies_true, Nat.zero_add, Nat.add_zero, Nat.zero_le, Int.reduceEq, Int.reduceLT, Int.reduceLE, Int.reduceNeg, not_true, not_false_iff, false_imp_iff, true_imp_iff, forall_const, or_self, or_false, false_or, and_false, false_and, ↓reduceIte, z_0, z_1, z_f1, z_f2, z_f3, Int.reduceToNat, Int.reduceAdd, ct_X0_bearingOn, mi_X0_bearingOn]
        refine st_X0_bearingOn [(8, [true, true, true, true, true])] 8 ?_
        simp only [sy, xisC, sxI, xgI, xgL, xgR, xent, xargs0, p1i, p2i, p1l, p2l, pli, p1r, pir, piir, plir, pvr, pdup, pdup2, pret, xjmp, xcon, xfd, xcl_, xcall, xbr, xsw, xtsw, xst1, xst2, xkill, xpush, xcat, xcl, xar, xkd, xrf, xmask, mR, mL, List.getElem?_cons_zero, List.getElem?_cons_succ, List.lookup_nil, List.lookup_cons, Nat.reduceAdd, Nat.reduceSub, Nat.reduceLeDiff, Nat.reduceEqDiff, Nat.reduceBEq, List.length_cons, List.length_nil, List.replicate, List.append_nil, List.nil_append, List.cons_append, List.set_cons_zero, List.set_cons_succ, List.take_succ_cons, List.take_zero, List.drop_succ_cons, List.drop_zero, List.reverse_cons, List.reverse_nil, List.map_cons, List.map_nil, List.sum_cons, List.sum_nil, decide_true, decide_false, and_self, and_true, true_and, true_or, or_true, Fin.isValue, Fin.val_zero, Fin.val_one, Fin.val_two, Fin.reduceFinMk, Nat.reduceMod, Option.some.injEq, Sum.inl.injEq, Sum.inr.injEq, Prod.mk.injEq, eq_self, reduceCtorEq, imp_self, implies_true, Nat.zero_add, Nat.add_zero, Nat.zero_le, Int.reduceEq, Int.reduceLT, Int.reduceLE, Int.reduceNeg, not_true, not_false_iff, false_imp_iff, true_imp_iff, forall_const, or_self, or_false, false_or, and_false, false_and, ↓reduceIte, z_0, z_1, z_f1, z_f2, z_f3, Int.reduceToNat, Int.reduceAdd, ct_X0_bearingOn, mi_X0_bearingOn]
        rw [w32_id (by omega) (by omega)]
        exact ihn
  obtain ⟨o0, o1, o2⟩ := wb_one (show d < 4 by omega)
  have hpw := pw_4 d (by omega)
  have l0 := loop nd 0 (2 ^ d) (by omega) o0 o1 (fun e he => by
    rw [o2 e he, decide_eq_true_eq]
    constructor
    · rintro rfl
      exact ⟨0, Nat.le_refl _, (Nat.mod_eq_of_lt hd).symm⟩
    · rintro ⟨j, a, b⟩
      have : j = 0 := by omega
      subst this
      rw [b]
      exact Nat.mod_eq_of_lt hd) (fun j hj => absurd hj (by omega))
  rw [Nat.add_zero, Nat.mod_eq_of_lt hd] at l0
  refine in_X0_bearingOn (Nat.le_of_ble_eq_true rfl) ?_
  refine st_X0_bearingOn [] 8 ?_
  simp only [sy, xisC, sxI, xgI, xgL, xgR, xent, xargs0, p1i, p2i, p1l, p2l, pli, p1r, pir, piir, plir, pvr, pdup, pdup2, pret, xjmp, xcon, xfd, xcl_, xcall, xbr, xsw, xtsw, xst1, xst2, xkill, xpush, xcat, xcl, xar, xkd, xrf, xmask, mR, mL, List.getElem?_cons_zero, List.getElem?_cons_succ, List.lookup_nil, List.lookup_cons, Nat.reduceAdd, Nat.reduceSub, Nat.reduceLeDiff, Nat.reduceEqDiff, Nat.reduceBEq, List.length_cons, List.length_nil, List.replicate, List.append_nil, List.nil_append, List.cons_append, List.set_cons_zero, List.set_cons_succ, List.take_succ_cons, List.take_zero, List.drop_succ_cons, List.drop_zero, List.reverse_cons, List.reverse_nil, List.map_cons, List.map_nil, List.sum_cons, List.sum_nil, decide_true, decide_false, and_self, and_true, true_and, true_or, or_true, Fin.isValue, Fin.val_zero, Fin.val_one, Fin.val_two, Fin.reduceFinMk, Nat.reduceMod, Option.some.injEq, Sum.inl.injEq, Sum.inr.injEq, Prod.mk.injEq, eq_self, reduceCtorEq, imp_self, implies_true, Nat.zero_add, Nat.add_zero, Nat.zero_le, Int.reduceEq, Int.reduceLT, Int.reduceLE, Int.reduceNeg, not_true, not_false_iff, false_imp_iff, true_imp_iff, forall_const, or_self, or_false, false_or, and_false, false_and, ↓reduceIte, z_0, z_1, z_f1, z_f2, z_f3, Int.reduceToNat, Int.reduceAdd, ct_X0_bearingOn, mi_X0_bearingOn]
  rw [hpw]
  refine st_X0_bearingOn [(8, [true, true, true, true, true])] 8 ?_
  simp only [sy, xisC, sxI, xgI, xgL, xgR, xent, xargs0, p1i, p2i, p1l, p2l, pli, p1r, pir, piir, plir, pvr, pdup, pdup2, pret, xjmp, xcon, xfd, xcl_, xcall, xbr, xsw, xtsw, xst1, xst2, xkill, xpush, xcat, xcl, xar, xkd, xrf, xmask, mR, mL, List.getElem?_cons_zero, List.getElem?_cons_succ, List.lookup_nil, List.lookup_cons, Nat.reduceAdd, Nat.reduceSub, Nat.reduceLeDiff, Nat.reduceEqDiff, Nat.reduceBEq, List.length_cons, List.length_nil, List.replicate, List.append_nil, List.nil_append, List.cons_append, List.set_cons_zero, List.set_cons_succ, List.take_succ_cons, List.take_zero, List.drop_succ_cons, List.drop_zero, List.reverse_cons, List.reverse_nil, List.map_cons, List.map_nil, List.sum_cons, List.sum_nil, decide_true, decide_false, and_self, and_true, true_and, true_or, or_true, Fin.isValue, Fin.val_zero, Fin.val_one, Fin.val_two, Fin.reduceFinMk, Nat.reduceMod, Option.some.injEq, Sum.inl.injEq, Sum.inr.injEq, Prod.mk.injEq, eq_self, reduceCtorEq, imp_self, implies_true, Nat.zero_add, Nat.add_zero, Nat.zero_le, Int.reduceEq, Int.reduceLT, Int.reduceLE, Int.reduceNeg, not_true, not_false_iff, false_imp_iff, true_imp_iff, forall_const, or_self, or_false, false_or, and_false, false_and, ↓reduceIte, z_0, z_1, z_f1, z_f2, z_f3, Int.reduceToNat, Int.reduceAdd, ct_X0_bearingOn, mi_X0_bearingOn]
  exact l0

/-! ===== the row keeps its bounds; Ground.goFoot, goFeet ===== -/
def sb (N N' : Nat → Int) : Prop := ∀ k, 24 ≤ k → N' k = N k
theorem sb_tr {N N' N'' : Nat → Int} (h : sb N N') (h' : sb N' N'') : sb N N'' := fun k hk => (h' k hk).trans (h k hk)
theorem sb_nu {N : Nat → Int} {d f : Nat} {v : Int} (hd : d < 4) (hf : f < 6) : sb N (nu N (6 * d + f) v) := fun k hk => nu_k (by omega)
theorem ok_step {nd d : Nat} {N : Nat → Int} (hok : okN nd N) (hd : d < nd) : okN nd (stepF N d) ∧ sb N (stepF N d) := by
  have h4 : d < 4 := Nat.lt_of_lt_of_le hd hok.1
  obtain ⟨hk, ha, hm, hh, hfa, -⟩ := hok.2.1 d hd
  unfold stepF
  split
  · rename_i hq
    exact ⟨okN_f hok h4 (by decide) ⟨by omega, fun _ => goF_isC hq, by omega, by omega, by omega, by omega⟩, sb_nu h4 (by decide)⟩
  · exact ⟨okN_f hok h4 (by decide) ⟨by omega, by omega, by omega, by omega, by omega, by omega⟩, sb_nu h4 (by decide)⟩
theorem ok_turn {nd d : Nat} {N : Nat → Int} (hok : okN nd N) (hd : d < nd) : okN nd (turnF nd N d) ∧ sb N (turnF nd N d) := by
  have h4 : d < 4 := Nat.lt_of_lt_of_le hd hok.1
  have hr := headF_rng (N (6 * d + 1)) (wantF nd N d)
  unfold turnF
  generalize headF (N (6 * d + 1)) (wantF nd N d) = q at hr ⊢
  split
  · split
    · exact ok_step hok hd
    · exact ⟨okN_f hok h4 (by decide) ⟨by omega, by omega, by omega, by omega, by omega, by omega⟩, sb_nu h4 (by decide)⟩
  · have h1 : okN nd (nu N (6 * d + 3) (if N (6 * d) = 1 then (q + 1) % 4 else q)) := okN_f hok h4 (by decide) ⟨by omega, by omega, by omega, fun _ => by split <;> omega, by omega, by omega⟩
    have h2 := ok_step h1 hd
    exact ⟨h2.1, sb_tr (sb_nu h4 (by decide)) h2.2⟩
theorem ok_dig1 {nd d : Nat} {N : Nat → Int} (hok : okN nd N) (hd : d < nd) (hf : 0 < N (6 * d + 4)) : okN nd (dig1 nd N d) ∧ sb N (dig1 nd N d) := by
  have h4 : d < 4 := Nat.lt_of_lt_of_le hd hok.1
  obtain ⟨hk, ha, hm, hh, hfa, -⟩ := hok.2.1 d hd
  have h1 : okN nd (nu N (6 * d + 4) (N (6 * d + 4) - 1)) := okN_f hok h4 (by decide) ⟨by omega, by omega, by omega, by omega, by omega, by omega⟩
  rw [dig1_eq hd]
  split
  · have h2 := ok_step h1 hd
    exact ⟨h2.1, sb_tr (sb_nu h4 (by decide)) h2.2⟩
  · have h2 := ok_turn h1 hd
    exact ⟨h2.1, sb_tr (sb_nu h4 (by decide)) h2.2⟩
theorem ok_wc1 {nd j : Nat} {N : Nat → Int} (hok : okN nd N) (hj : (j : Int) < N 33) : okN nd (wc1 N j) ∧ sb N (wc1 N j) := by
  obtain ⟨-, h2, h3⟩ := hok.2.2.2.2.2.1 j hj
  have h4 := hok.1
  unfold wc1
  split
  · have hd : (N (34 + 3 * j + 1)).toNat < 4 := by omega
    exact ⟨okN_f hok hd (by decide) ⟨by omega, by omega, fun _ => h3, by omega, by omega, by omega⟩, sb_nu hd (by decide)⟩
  · exact ⟨hok, fun _ _ => rfl⟩
theorem ok_wcs {nd : Nat} {N : Nat → Int} (hok : okN nd N) : ∀ n : Nat, (n : Int) ≤ N 33 → okN nd (wcs n N) ∧ sb N (wcs n N)
  | 0, _ => ⟨hok, fun _ _ => rfl⟩
  | n + 1, hn => by
    obtain ⟨h1, h2⟩ := ok_wcs hok n (by omega)
    have h3 := ok_wc1 h1 (j := n) (by rw [h2 33 (by decide)]; omega)
    exact ⟨h3.1, sb_tr h2 h3.2⟩
theorem ok_words {nd : Nat} {N : Nat → Int} (hok : okN nd N) : okN nd (wordsF N) ∧ sb N (wordsF N) := ok_wcs hok _ (by have := hok.2.2.2.2.1; omega)
theorem ok_digs {nd : Nat} {who : Nat → Bool} {N : Nat → Int} (hok : okN nd N) : ∀ n : Nat, n ≤ nd → okN nd (digs nd who n N) ∧ sb N (digs nd who n N)
  | 0, _ => ⟨hok, fun _ _ => rfl⟩
  | n + 1, hn => by
    obtain ⟨h1, h2⟩ := ok_digs (who := who) hok n (by omega)
    unfold digs
    split
    · rename_i hq
      have h3 := ok_dig1 h1 (show n < nd by omega) hq.2.2
      exact ⟨h3.1, sb_tr h2 h3.2⟩
    · exact ⟨h1, h2⟩
theorem okN_foot {nd : Nat} {N : Nat → Int} (h : okN nd N) {v : Int} (hv : 0 ≤ v ∧ v ≤ 999) : okN nd (nu N 24 v) := by
  obtain ⟨h1, h2, h3, h4, h5, h6, h7, h8⟩ := h
  refine ⟨h1, fun e he => ?_, by rw [nu_e]; exact hv, fun x hx => ?_, ?_, fun j hj => ?_, ?_, fun j hj => ?_⟩
  · have h9 := h2 e he
    unfold okD at h9 ⊢
    rw [nu_k (by omega), nu_k (by omega), nu_k (by omega), nu_k (by omega), nu_k (by omega), nu_k (by omega)]
    exact h9
  · rw [nu_k (by omega)]; exact h4 x hx
  · rw [nu_k (by omega)]; exact h5
  · rw [nu_k (by omega)] at hj
    rw [nu_k (by omega), nu_k (by omega), nu_k (by omega)]
    exact h6 j hj
  · rw [nu_k (by omega)]; exact h7
  · rw [nu_k (by omega)] at hj
    rw [nu_k (by omega), nu_k (by omega), nu_k (by omega)]
    exact h8 j hj
theorem ok_footW {nd : Nat} {who : Nat → Bool} {N : Nat → Int} (hok : okN nd N) : okN nd (footW nd who N) := by
  have h1 := (ok_digs (who := who) (ok_words hok).1 nd (Nat.le_refl _)).1
  have h2 := h1.2.2.1
  unfold footW
  exact okN_foot h1 (by split <;> omega)
theorem ok_feetW {nd : Nat} {who : Nat → Bool} {N : Nat → Int} (hok : okN nd N) : ∀ n, okN nd (feetW nd who n N)
  | 0 => hok
  | n + 1 => ok_footW (ok_feetW hok n)
/-- who of a mask -/
def wb (w : Int) (d : Nat) : Bool := decide (w / 2 ^ d % 2 = 1)
set_option maxRecDepth 100000 in
theorem f_54 {M : XM} {i : Fin 5} {nd : Nat} {N : Nat → Int} {w : Int} {K : Option XV → XM → Prop} (h : RG M i nd N) (hok : okN nd N) (hK : ∀ M', RG M' i nd (nu N 24 (if N 24 < 999 then N 24 + 1 else N 24)) → frG i M M' → K none M') (L : List (Option XV)) : J_X0_goFoot K 54 (some (xR 1 i) :: L) [] M := by
  have h1 := hok.2.2.1
  have g1 := h.2.2.1
  refine st_X0_goFoot [] 20 ?_
  simp only [sy, xisC, sxI, xgI, xgL, xgR, xent, xargs0, p1i, p2i, p1l, p2l, pli, p1r, pir, piir, plir, pvr, pdup, pdup2, pret, xjmp, xcon, xfd, xcl_, xcall, xbr, xsw, xtsw, xst1, xst2, xkill, xpush, xcat, xcl, xar, xkd, xrf, xmask, mR, mL, List.getElem?_cons_zero, List.getElem?_cons_succ, List.lookup_nil, List.lookup_cons, Nat.reduceAdd, Nat.reduceSub, Nat.reduceLeDiff, Nat.reduceEqDiff, Nat.reduceBEq, List.length_cons, List.length_nil, List.replicate, List.append_nil, List.nil_append, List.cons_append, List.set_cons_zero, List.set_cons_succ, List.take_succ_cons, List.take_zero, List.drop_succ_cons, List.drop_zero, List.reverse_cons, List.reverse_nil, List.map_cons, List.map_nil, List.sum_cons, List.sum_nil, decide_true, decide_false, and_self, and_true, true_and, true_or, or_true, Fin.isValue, Fin.val_zero, Fin.val_one, Fin.val_two, Fin.reduceFinMk, Nat.reduceMod, Option.some.injEq, Sum.inl.injEq, Sum.inr.injEq, Prod.mk.injEq, eq_self, reduceCtorEq, imp_self, implies_true, Nat.zero_add, Nat.add_zero, Nat.zero_le, Int.reduceEq, Int.reduceLT, Int.reduceLE, Int.reduceNeg, not_true, not_false_iff, false_imp_iff, true_imp_iff, forall_const, or_self, or_false, false_or, and_false, false_and, ↓reduceIte, z_0, z_1, z_f1, z_f2, z_f3, ct_X0_goFoot, mi_X0_goFoot, g1]
  refine ⟨fun hq => ?_, fun hq => ?_⟩
  · rw [if_neg hq] at hK
    refine hK M ?_ frG_rf
    have : nu N 24 (N 24) = N := by
      funext k
      unfold nu
      split
      · rename_i e; rw [e]
      · rfl
    rw [this]
    exact h
  · rw [if_pos hq] at hK
    rw [w32_id (by omega) (by omega)]
    exact hK _ (RG_foot h hok.1) (frG_up frG_rf (by decide) (by decide))
set_option maxRecDepth 100000 in
theorem f_35 {i : Fin 5} {nd : Nat} {N : Nat → Int} {w : Int} {K : Option XV → XM → Prop} (hok : okN nd N) (hw0 : 0 ≤ w) (hw : w < 16) : ∀ (n d : Nat) (M : XM), d + n = nd → RG M i nd (digs nd (wb w) d N) → (∀ M', RG M' i nd (nu (digs nd (wb w) nd N) 24 (if digs nd (wb w) nd N 24 < 999 then digs nd (wb w) nd N 24 + 1 else digs nd (wb w) nd N 24)) → frG i M M' → K none M') → J_X0_goFoot K 35 [some (xR 1 i), some (xI w), some (xI d)] [] M := by
  intro n
  induction n with
  | zero =>
    intro d M hdn h hK
    have hd : d = nd := by omega
    subst hd
    have gn := h.1
    have hokd := (ok_digs (who := wb w) hok d (Nat.le_refl _)).1
    refine st_X0_goFoot [(54, [true, false, false])] 4 ?_
    simp only [sy, xisC, sxI, xgI, xgL, xgR, xent, xargs0, p1i, p2i, p1l, p2l, pli, p1r, pir, piir, plir, pvr, pdup, pdup2, pret, xjmp, xcon, xfd, xcl_, xcall, xbr, xsw, xtsw, xst1, xst2, xkill, xpush, xcat, xcl, xar, xkd, xrf, xmask, mR, mL, List.getElem?_cons_zero, List.getElem?_cons_succ, List.lookup_nil, List.lookup_cons, Nat.reduceAdd, Nat.reduceSub, Nat.reduceLeDiff, Nat.reduceEqDiff, Nat.reduceBEq, List.length_cons, List.length_nil, List.replicate, List.append_nil, List.nil_append, List.cons_append, List.set_cons_zero, List.set_cons_succ, List.take_succ_cons, List.take_zero, List.drop_succ_cons, List.drop_zero, List.reverse_cons, List.reverse_nil, List.map_cons, List.map_nil, List.sum_cons, List.sum_nil, decide_true, decide_false, and_self, and_true, true_and, true_or, or_true, Fin.isValue, Fin.val_zero, Fin.val_one, Fin.val_two, Fin.reduceFinMk, Nat.reduceMod, Option.some.injEq, Sum.inl.injEq, Sum.inr.injEq, Prod.mk.injEq, eq_self, reduceCtorEq, imp_self, implies_true, Nat.zero_add, Nat.add_zero, Nat.zero_le, Int.reduceEq, Int.reduceLT, Int.reduceLE, Int.reduceNeg, not_true, not_false_iff, false_imp_iff, true_imp_iff, forall_const, or_self, or_false, false_or, and_false, false_and, ↓reduceIte, z_0, z_1, z_f1, z_f2, z_f3, ct_X0_goFoot, mi_X0_goFoot, gn]
    refine ⟨fun _ => f_54 (w := w) h hokd hK _, fun hq => absurd hq (by omega)⟩
  | succ n ih =>
    intro d M hdn h hK
    have hd : d < nd := by omega
    have h4 : d < 4 := Nat.lt_of_lt_of_le hd hok.1
    have gn := h.1
    have hokd := (ok_digs (who := wb w) hok d (Nat.le_of_lt hd)).1
    have next : ∀ M', RG M' i nd (digs nd (wb w) (d + 1) N) → frG i M M' → J_X0_goFoot K 52 [some (xR 1 i), some (xI w), some (xI d)] [] M' := by
      intro M' hR' hf'
      refine st_X0_goFoot [(35, [true, true, true])] 4 ?_
      simp only [sy, xisC, sxI, xgI, xgL, xgR, xent, xargs0, p1i, p2i, p1l, p2l, pli, p1r, pir, piir, plir, pvr, pdup, pdup2, pret, xjmp, xcon, xfd, xcl_, xcall, xbr, xsw, xtsw, xst1, xst2, xkill, xpush, xcat, xcl, xar, xkd, xrf, xmask, mR, mL, List.getElem?_cons_zero, List.getElem?_cons_succ, List.lookup_nil, List.lookup_cons, Nat.reduceAdd, Nat.reduceSub, Nat.reduceLeDiff, Nat.reduceEqDiff, Nat.reduceBEq, List.length_cons, List.length_nil, List.replicate, List.append_nil, List.nil_append, List.cons_append, List.set_cons_zero, List.set_cons_succ, List.take_succ_cons, List.take_zero, List.drop_succ_cons, List.drop_zero, List.reverse_cons, List.reverse_nil, List.map_cons, List.map_nil, List.sum_cons, List.sum_nil, decide_true, decide_false, and_self, and_true, true_and, true_or, or_true, Fin.isValue, Fin.val_zero, Fin.val_one, Fin.val_two, Fin.reduceFinMk, Nat.reduceMod, Option.some.injEq, Sum.inl.injEq, Sum.inr.injEq, Prod.mk.injEq, eq_self, reduceCtorEq, imp_self, implies_true, Nat.zero_add, Nat.add_zero, Nat.zero_le, Int.reduceEq, Int.reduceLT, Int.reduceLE, Int.reduceNeg, not_true, not_false_iff, false_imp_iff, true_imp_iff, forall_const, or_self, or_false, false_or, and_false, false_and, ↓reduceIte, z_0, z_1, z_f1, z_f2, z_f3, ct_X0_goFoot, mi_X0_goFoot]
      rw [w32_id (by omega) (by omega)]
      exact ih (d + 1) M' (by omega) hR' (fun M'' q1 q2 => hK M'' q1 (frG_tr hf' q2))
    refine st_X0_goFoot [] 7 ?_
    simp only [sy, xisC, sxI, xgI, xgL, xgR, xent, xargs0, p1i, p2i, p1l, p2l, pli, p1r, pir, piir, plir, pvr, pdup, pdup2, pret, xjmp, xcon, xfd, xcl_, xcall, xbr, xsw, xtsw, xst1, xst2, xkill, xpush, xcat, xcl, xar, xkd, xrf, xmask, mR, mL, List.getElem?_cons_zero, List.getElem?_cons_succ, List.lookup_nil, List.lookup_cons, Nat.reduceAdd, Nat.reduceSub, Nat.reduceLeDiff, Nat.reduceEqDiff, Nat.reduceBEq, List.length_cons, List.length_nil, List.replicate, List.append_nil, List.nil_append, List.cons_append, List.set_cons_zero, List.set_cons_succ, List.take_succ_cons, List.take_zero, List.drop_succ_cons, List.drop_zero, List.reverse_cons, List.reverse_nil, List.map_cons, List.map_nil, List.sum_cons, List.sum_nil, decide_true, decide_false, and_self, and_true, true_and, true_or, or_true, Fin.isValue, Fin.val_zero, Fin.val_one, Fin.val_two, Fin.reduceFinMk, Nat.reduceMod, Option.some.injEq, Sum.inl.injEq, Sum.inr.injEq, Prod.mk.injEq, eq_self, reduceCtorEq, imp_self, implies_true, Nat.zero_add, Nat.add_zero, Nat.zero_le, Int.reduceEq, Int.reduceLT, Int.reduceLE, Int.reduceNeg, not_true, not_false_iff, false_imp_iff, true_imp_iff, forall_const, or_self, or_false, false_or, and_false, false_and, ↓reduceIte, z_0, z_1, z_f1, z_f2, z_f3, ct_X0_goFoot, mi_X0_goFoot, gn]
    refine ⟨fun hq => absurd hd (by omega), fun hq => ?_⟩
    refine st_X0_goFoot [] 4 ?_
    simp only [sy, xisC, sxI, xgI, xgL, xgR, xent, xargs0, p1i, p2i, p1l, p2l, pli, p1r, pir, piir, plir, pvr, pdup, pdup2, pret, xjmp, xcon, xfd, xcl_, xcall, xbr, xsw, xtsw, xst1, xst2, xkill, xpush, xcat, xcl, xar, xkd, xrf, xmask, mR, mL, List.getElem?_cons_zero, List.getElem?_cons_succ, List.lookup_nil, List.lookup_cons, Nat.reduceAdd, Nat.reduceSub, Nat.reduceLeDiff, Nat.reduceEqDiff, Nat.reduceBEq, List.length_cons, List.length_nil, List.replicate, List.append_nil, List.nil_append, List.cons_append, List.set_cons_zero, List.set_cons_succ, List.take_succ_cons, List.take_zero, List.drop_succ_cons, List.drop_zero, List.reverse_cons, List.reverse_nil, List.map_cons, List.map_nil, List.sum_cons, List.sum_nil, decide_true, decide_false, and_self, and_true, true_and, true_or, or_true, Fin.isValue, Fin.val_zero, Fin.val_one, Fin.val_two, Fin.reduceFinMk, Nat.reduceMod, Option.some.injEq, Sum.inl.injEq, Sum.inr.injEq, Prod.mk.injEq, eq_self, reduceCtorEq, imp_self, implies_true, Nat.zero_add, Nat.add_zero, Nat.zero_le, Int.reduceEq, Int.reduceLT, Int.reduceLE, Int.reduceNeg, not_true, not_false_iff, false_imp_iff, true_imp_iff, forall_const, or_self, or_false, false_or, and_false, false_and, ↓reduceIte, z_0, z_1, z_f1, z_f2, z_f3, ct_X0_goFoot, mi_X0_goFoot]
    rw [bit_z hw0 (by omega) (by omega)]
    refine st_X0_goFoot [(52, [true, true, true])] 4 ?_
    simp only [sy, xisC, sxI, xgI, xgL, xgR, xent, xargs0, p1i, p2i, p1l, p2l, pli, p1r, pir, piir, plir, pvr, pdup, pdup2, pret, xjmp, xcon, xfd, xcl_, xcall, xbr, xsw, xtsw, xst1, xst2, xkill, xpush, xcat, xcl, xar, xkd, xrf, xmask, mR, mL, List.getElem?_cons_zero, List.getElem?_cons_succ, List.lookup_nil, List.lookup_cons, Nat.reduceAdd, Nat.reduceSub, Nat.reduceLeDiff, Nat.reduceEqDiff, Nat.reduceBEq, List.length_cons, List.length_nil, List.replicate, List.append_nil, List.nil_append, List.cons_append, List.set_cons_zero, List.set_cons_succ, List.take_succ_cons, List.take_zero, List.drop_succ_cons, List.drop_zero, List.reverse_cons, List.reverse_nil, List.map_cons, List.map_nil, List.sum_cons, List.sum_nil, decide_true, decide_false, and_self, and_true, true_and, true_or, or_true, Fin.isValue, Fin.val_zero, Fin.val_one, Fin.val_two, Fin.reduceFinMk, Nat.reduceMod, Option.some.injEq, Sum.inl.injEq, Sum.inr.injEq, Prod.mk.injEq, eq_self, reduceCtorEq, imp_self, implies_true, Nat.zero_add, Nat.add_zero, Nat.zero_le, Int.reduceEq, Int.reduceLT, Int.reduceLE, Int.reduceNeg, not_true, not_false_iff, false_imp_iff, true_imp_iff, forall_const, or_self, or_false, false_or, and_false, false_and, ↓reduceIte, z_0, z_1, z_f1, z_f2, z_f3, ct_X0_goFoot, mi_X0_goFoot]
    have hwb : wb w d = decide (w / 2 ^ d % 2 = 1) := rfl
    have hb2 : w / 2 ^ d % 2 = 0 ∨ w / 2 ^ d % 2 = 1 := by omega
    generalize w / 2 ^ d % 2 = b at hwb hb2 ⊢
    refine ⟨fun hb => next M ?_ frG_rf, fun hb => ?_⟩
    · have e : digs nd (wb w) (d + 1) N = digs nd (wb w) d N := by
        show (if _ then _ else _) = _
        rw [if_neg]
        rintro ⟨q, -⟩
        rw [hwb] at q
        have := of_decide_eq_true q
        omega
      rw [e]
      exact h
    · have hb1 : b = 1 := by omega
      have hwt : wb w d = true := by rw [hwb, hb1]; rfl
      refine CW.mono (c_rests h hokd hd) ?_
      rintro _ M1 ⟨rfl, hM1⟩; rw [hM1]; clear hM1 M1
      have ed : digs nd (wb w) (d + 1) N = if wb w d = true ∧ digs nd (wb w) d N (6 * d + 5) = 0 ∧ 0 < digs nd (wb w) d N (6 * d + 4) then dig1 nd (digs nd (wb w) d N) d else digs nd (wb w) d N := rfl
      by_cases hq2 : digs nd (wb w) d N (6 * d + 5) = 0 ∧ 0 < digs nd (wb w) d N (6 * d + 4)
      · rw [if_pos ⟨hwt, hq2⟩] at ed
        rw [if_pos hq2]
        refine st_X0_goFoot [(52, [true, true, true])] 6 ?_
        simp only [sy, xisC, sxI, xgI, xgL, xgR, xent, xargs0, p1i, p2i, p1l, p2l, pli, p1r, pir, piir, plir, pvr, pdup, pdup2, pret, xjmp, xcon, xfd, xcl_, xcall, xbr, xsw, xtsw, xst1, xst2, xkill, xpush, xcat, xcl, xar, xkd, xrf, xmask, mR, mL, List.getElem?_cons_zero, List.getElem?_cons_succ, List.lookup_nil, List.lookup_cons, Nat.reduceAdd, Nat.reduceSub, Nat.reduceLeDiff, Nat.reduceEqDiff, Nat.reduceBEq, List.length_cons, List.length_nil, List.replicate, List.append_nil, List.nil_append, List.cons_append, List.set_cons_zero, List.set_cons_succ, List.take_succ_cons, List.take_zero, List.drop_succ_cons, List.drop_zero, List.reverse_cons, List.reverse_nil, List.map_cons, List.map_nil, List.sum_cons, List.sum_nil, decide_true, decide_false, and_self, and_true, true_and, true_or, or_true, Fin.isValue, Fin.val_zero, Fin.val_one, Fin.val_two, Fin.reduceFinMk, Nat.reduceMod, Option.some.injEq, Sum.inl.injEq, Sum.inr.injEq, Prod.mk.injEq, eq_self, reduceCtorEq, imp_self, implies_true, Nat.zero_add, Nat.add_zero, Nat.zero_le, Int.reduceEq, Int.reduceLT, Int.reduceLE, Int.reduceNeg, not_true, not_false_iff, false_imp_iff, true_imp_iff, forall_const, or_self, or_false, false_or, and_false, false_and, ↓reduceIte, z_0, z_1, z_f1, z_f2, z_f3, ct_X0_goFoot, mi_X0_goFoot]
        refine CW.mono (c_goOne h hokd hd hq2.2 hq2.1) ?_
        rintro _ M1 ⟨rfl, hR1, hf1⟩
        refine st_X0_goFoot [] 0 ?_
        simp only [sy, xisC, sxI, xgI, xgL, xgR, xent, xargs0, p1i, p2i, p1l, p2l, pli, p1r, pir, piir, plir, pvr, pdup, pdup2, pret, xjmp, xcon, xfd, xcl_, xcall, xbr, xsw, xtsw, xst1, xst2, xkill, xpush, xcat, xcl, xar, xkd, xrf, xmask, mR, mL, List.getElem?_cons_zero, List.getElem?_cons_succ, List.lookup_nil, List.lookup_cons, Nat.reduceAdd, Nat.reduceSub, Nat.reduceLeDiff, Nat.reduceEqDiff, Nat.reduceBEq, List.length_cons, List.length_nil, List.replicate, List.append_nil, List.nil_append, List.cons_append, List.set_cons_zero, List.set_cons_succ, List.take_succ_cons, List.take_zero, List.drop_succ_cons, List.drop_zero, List.reverse_cons, List.reverse_nil, List.map_cons, List.map_nil, List.sum_cons, List.sum_nil, decide_true, decide_false, and_self, and_true, true_and, true_or, or_true, Fin.isValue, Fin.val_zero, Fin.val_one, Fin.val_two, Fin.reduceFinMk, Nat.reduceMod, Option.some.injEq, Sum.inl.injEq, Sum.inr.injEq, Prod.mk.injEq, eq_self, reduceCtorEq, imp_self, implies_true, Nat.zero_add, Nat.add_zero, Nat.zero_le, Int.reduceEq, Int.reduceLT, Int.reduceLE, Int.reduceNeg, not_true, not_false_iff, false_imp_iff, true_imp_iff, forall_const, or_self, or_false, false_or, and_false, false_and, ↓reduceIte, z_0, z_1, z_f1, z_f2, z_f3, ct_X0_goFoot, mi_X0_goFoot]
        exact next M1 (by rw [ed]; exact hR1) hf1
      · rw [if_neg (fun q => hq2 q.2)] at ed
        rw [if_neg hq2]
        refine st_X0_goFoot [(52, [true, true, true])] 6 ?_
        simp only [sy, xisC, sxI, xgI, xgL, xgR, xent, xargs0, p1i, p2i, p1l, p2l, pli, p1r, pir, piir, plir, pvr, pdup, pdup2, pret, xjmp, xcon, xfd, xcl_, xcall, xbr, xsw, xtsw, xst1, xst2, xkill, xpush, xcat, xcl, xar, xkd, xrf, xmask, mR, mL, List.getElem?_cons_zero, List.getElem?_cons_succ, List.lookup_nil, List.lookup_cons, Nat.reduceAdd, Nat.reduceSub, Nat.reduceLeDiff, Nat.reduceEqDiff, Nat.reduceBEq, List.length_cons, List.length_nil, List.replicate, List.append_nil, List.nil_append, List.cons_append, List.set_cons_zero, List.set_cons_succ, List.take_succ_cons, List.take_zero, List.drop_succ_cons, List.drop_zero, List.reverse_cons, List.reverse_nil, List.map_cons, List.map_nil, List.sum_cons, List.sum_nil, decide_true, decide_false, and_self, and_true, true_and, true_or, or_true, Fin.isValue, Fin.val_zero, Fin.val_one, Fin.val_two, Fin.reduceFinMk, Nat.reduceMod, Option.some.injEq, Sum.inl.injEq, Sum.inr.injEq, Prod.mk.injEq, eq_self, reduceCtorEq, imp_self, implies_true, Nat.zero_add, Nat.add_zero, Nat.zero_le, Int.reduceEq, Int.reduceLT, Int.reduceLE, Int.reduceNeg, not_true, not_false_iff, false_imp_iff, true_imp_iff, forall_const, or_self, or_false, false_or, and_false, false_and, ↓reduceIte, z_0, z_1, z_f1, z_f2, z_f3, ct_X0_goFoot, mi_X0_goFoot]
        exact next M (by rw [ed]; exact h) frG_rf
theorem wcs_s {n : Nat} {N : Nat → Int} : wcs (n + 1) N = wc1 (wcs n N) n := rfl
set_option maxRecDepth 100000 in
theorem f_2 {i : Fin 5} {nd : Nat} {N : Nat → Int} {w : Int} {K : Option XV → XM → Prop} (hok : okN nd N) (hw0 : 0 ≤ w) (hw : w < 16) : ∀ (n j : Nat) (M : XM), (j : Int) + n = N 33 → RG M i nd (wcs j N) → (∀ M', RG M' i nd (footW nd (wb w) N) → frG i M M' → K none M') → J_X0_goFoot K 2 [some (xR 1 i), some (xI w), some (xI j)] [] M := by
  intro n
  induction n with
  | zero =>
    intro j M hjn h hK
    have hj : (j : Int) = N 33 := by omega
    obtain ⟨hokj, hsb⟩ := ok_wcs hok j (by omega)
    have gn := h.2.2.2.1
    rw [hsb 33 (by decide), ← hj] at gn
    have hwF : wcs j N = wordsF N := by unfold wordsF; rw [← hj, Int.toNat_natCast]
    rw [hwF] at h
    refine st_X0_goFoot [(35, [true, true, true])] 8 ?_
    simp only [sy, xisC, sxI, xgI, xgL, xgR, xent, xargs0, p1i, p2i, p1l, p2l, pli, p1r, pir, piir, plir, pvr, pdup, pdup2, pret, xjmp, xcon, xfd, xcl_, xcall, xbr, xsw, xtsw, xst1, xst2, xkill, xpush, xcat, xcl, xar, xkd, xrf, xmask, mR, mL, List.getElem?_cons_zero, List.getElem?_cons_succ, List.lookup_nil, List.lookup_cons, Nat.reduceAdd, Nat.reduceSub, Nat.reduceLeDiff, Nat.reduceEqDiff, Nat.reduceBEq, List.length_cons, List.length_nil, List.replicate, List.append_nil, List.nil_append, List.cons_append, List.set_cons_zero, List.set_cons_succ, List.take_succ_cons, List.take_zero, List.drop_succ_cons, List.drop_zero, List.reverse_cons, List.reverse_nil, List.map_cons, List.map_nil, List.sum_cons, List.sum_nil, decide_true, decide_false, and_self, and_true, true_and, true_or, or_true, Fin.isValue, Fin.val_zero, Fin.val_one, Fin.val_two, Fin.reduceFinMk, Nat.reduceMod, Option.some.injEq, Sum.inl.injEq, Sum.inr.injEq, Prod.mk.injEq, eq_self, reduceCtorEq, imp_self, implies_true, Nat.zero_add, Nat.add_zero, Nat.zero_le, Int.reduceEq, Int.reduceLT, Int.reduceLE, Int.reduceNeg, not_true, not_false_iff, false_imp_iff, true_imp_iff, forall_const, or_self, or_false, false_or, and_false, false_and, ↓reduceIte, z_0, z_1, z_f1, z_f2, z_f3, ct_X0_goFoot, mi_X0_goFoot, gn]
    refine ⟨fun _ => ?_, fun hq => absurd hq (by omega)⟩
    exact f_35 (ok_words hok).1 hw0 hw nd 0 M (by omega) h hK
  | succ n ih =>
    intro j M hjn h hK
    obtain ⟨hokj, hsb⟩ := ok_wcs hok j (by omega)
    have gn := h.2.2.2.1
    have h33 := hok.2.2.2.2.1
    have hj6 : j < 6 := by omega
    rw [hsb 33 (by decide)] at gn
    have hjl : (j : Int) < wcs j N 33 := by rw [hsb 33 (by decide)]; omega
    obtain ⟨gw1, gw2, gw3⟩ := h.2.2.2.2.2.2.2.1 j hjl
    obtain ⟨o1, o2, o3⟩ := hokj.2.2.2.2.2.1 j hjl
    have gf := h.2.2.1
    have hn4 := hok.1
    have next : ∀ M', RG M' i nd (wcs (j + 1) N) → frG i M M' → J_X0_goFoot K 31 [some (xR 1 i), some (xI w), some (xI j)] [] M' := by
      intro M' hR' hf'
      refine st_X0_goFoot [(2, [true, true, true])] 4 ?_
      simp only [sy, xisC, sxI, xgI, xgL, xgR, xent, xargs0, p1i, p2i, p1l, p2l, pli, p1r, pir, piir, plir, pvr, pdup, pdup2, pret, xjmp, xcon, xfd, xcl_, xcall, xbr, xsw, xtsw, xst1, xst2, xkill, xpush, xcat, xcl, xar, xkd, xrf, xmask, mR, mL, List.getElem?_cons_zero, List.getElem?_cons_succ, List.lookup_nil, List.lookup_cons, Nat.reduceAdd, Nat.reduceSub, Nat.reduceLeDiff, Nat.reduceEqDiff, Nat.reduceBEq, List.length_cons, List.length_nil, List.replicate, List.append_nil, List.nil_append, List.cons_append, List.set_cons_zero, List.set_cons_succ, List.take_succ_cons, List.take_zero, List.drop_succ_cons, List.drop_zero, List.reverse_cons, List.reverse_nil, List.map_cons, List.map_nil, List.sum_cons, List.sum_nil, decide_true, decide_false, and_self, and_true, true_and, true_or, or_true, Fin.isValue, Fin.val_zero, Fin.val_one, Fin.val_two, Fin.reduceFinMk, Nat.reduceMod, Option.some.injEq, Sum.inl.injEq, Sum.inr.injEq, Prod.mk.injEq, eq_self, reduceCtorEq, imp_self, implies_true, Nat.zero_add, Nat.add_zero, Nat.zero_le, Int.reduceEq, Int.reduceLT, Int.reduceLE, Int.reduceNeg, not_true, not_false_iff, false_imp_iff, true_imp_iff, forall_const, or_self, or_false, false_or, and_false, false_and, ↓reduceIte, z_0, z_1, z_f1, z_f2, z_f3, ct_X0_goFoot, mi_X0_goFoot]
      rw [w32_id (by omega) (by omega)]
      exact ih (j + 1) M' (by omega) hR' (fun M'' q1 q2 => hK M'' q1 (frG_tr hf' q2))
    rw [wcs_s] at next
    unfold wc1 at next
    generalize wcs j N = N1 at h hokj hsb hjl gw1 gw2 gw3 o1 o2 o3 gf next
    obtain ⟨e, he⟩ := Int.eq_ofNat_of_zero_le o2.1
    rw [he, Int.toNat_natCast] at next
    rw [he] at gw2 o2
    refine st_X0_goFoot [(31, [true, true, true])] 20 ?_
    simp only [sy, xisC, sxI, xgI, xgL, xgR, xent, xargs0, p1i, p2i, p1l, p2l, pli, p1r, pir, piir, plir, pvr, pdup, pdup2, pret, xjmp, xcon, xfd, xcl_, xcall, xbr, xsw, xtsw, xst1, xst2, xkill, xpush, xcat, xcl, xar, xkd, xrf, xmask, mR, mL, List.getElem?_cons_zero, List.getElem?_cons_succ, List.lookup_nil, List.lookup_cons, Nat.reduceAdd, Nat.reduceSub, Nat.reduceLeDiff, Nat.reduceEqDiff, Nat.reduceBEq, List.length_cons, List.length_nil, List.replicate, List.append_nil, List.nil_append, List.cons_append, List.set_cons_zero, List.set_cons_succ, List.take_succ_cons, List.take_zero, List.drop_succ_cons, List.drop_zero, List.reverse_cons, List.reverse_nil, List.map_cons, List.map_nil, List.sum_cons, List.sum_nil, decide_true, decide_false, and_self, and_true, true_and, true_or, or_true, Fin.isValue, Fin.val_zero, Fin.val_one, Fin.val_two, Fin.reduceFinMk, Nat.reduceMod, Option.some.injEq, Sum.inl.injEq, Sum.inr.injEq, Prod.mk.injEq, eq_self, reduceCtorEq, imp_self, implies_true, Nat.zero_add, Nat.add_zero, Nat.zero_le, Int.reduceEq, Int.reduceLT, Int.reduceLE, Int.reduceNeg, not_true, not_false_iff, false_imp_iff, true_imp_iff, forall_const, or_self, or_false, false_or, and_false, false_and, ↓reduceIte, z_0, z_1, z_f1, z_f2, z_f3, ct_X0_goFoot, mi_X0_goFoot, gn, gf, gw1, gw2, Int.toNat_natCast]
    refine ⟨fun hq => absurd hq (by omega), fun _ => ⟨by omega, fun hne => ?_, fun heq => ⟨by omega, ?_⟩⟩⟩
    · rw [if_neg (fun q => hne q.1)] at next
      exact next M h frG_rf
    · have hed : e < nd := by omega
      refine CW.mono (RG_isUp h hokj hed) ?_
      rintro _ M1 ⟨rfl, hM1⟩; rw [hM1]; clear hM1 M1
      by_cases hup : N1 (6 * e + 5) = 0
      · rw [if_pos ⟨heq, hup⟩] at next
        rw [hup]
        refine st_X0_goFoot [(31, [true, true, true])] 20 ?_
        simp only [sy, xisC, sxI, xgI, xgL, xgR, xent, xargs0, p1i, p2i, p1l, p2l, pli, p1r, pir, piir, plir, pvr, pdup, pdup2, pret, xjmp, xcon, xfd, xcl_, xcall, xbr, xsw, xtsw, xst1, xst2, xkill, xpush, xcat, xcl, xar, xkd, xrf, xmask, mR, mL, List.getElem?_cons_zero, List.getElem?_cons_succ, List.lookup_nil, List.lookup_cons, Nat.reduceAdd, Nat.reduceSub, Nat.reduceLeDiff, Nat.reduceEqDiff, Nat.reduceBEq, List.length_cons, List.length_nil, List.replicate, List.append_nil, List.nil_append, List.cons_append, List.set_cons_zero, List.set_cons_succ, List.take_succ_cons, List.take_zero, List.drop_succ_cons, List.drop_zero, List.reverse_cons, List.reverse_nil, List.map_cons, List.map_nil, List.sum_cons, List.sum_nil, decide_true, decide_false, and_self, and_true, true_and, true_or, or_true, Fin.isValue, Fin.val_zero, Fin.val_one, Fin.val_two, Fin.reduceFinMk, Nat.reduceMod, Option.some.injEq, Sum.inl.injEq, Sum.inr.injEq, Prod.mk.injEq, eq_self, reduceCtorEq, imp_self, implies_true, Nat.zero_add, Nat.add_zero, Nat.zero_le, Int.reduceEq, Int.reduceLT, Int.reduceLE, Int.reduceNeg, not_true, not_false_iff, false_imp_iff, true_imp_iff, forall_const, or_self, or_false, false_or, and_false, false_and, ↓reduceIte, z_0, z_1, z_f1, z_f2, z_f3, ct_X0_goFoot, mi_X0_goFoot, gw2, gw3, Int.toNat_natCast]
        repeat refine ⟨by omega, ?_⟩
        exact next _ (RG_aim h (by omega)) (frG_up frG_rf (by decide) (by decide))
      · rw [if_neg (fun q => hup q.2)] at next
        refine st_X0_goFoot [(31, [true, true, true])] 20 ?_
        simp only [sy, xisC, sxI, xgI, xgL, xgR, xent, xargs0, p1i, p2i, p1l, p2l, pli, p1r, pir, piir, plir, pvr, pdup, pdup2, pret, xjmp, xcon, xfd, xcl_, xcall, xbr, xsw, xtsw, xst1, xst2, xkill, xpush, xcat, xcl, xar, xkd, xrf, xmask, mR, mL, List.getElem?_cons_zero, List.getElem?_cons_succ, List.lookup_nil, List.lookup_cons, Nat.reduceAdd, Nat.reduceSub, Nat.reduceLeDiff, Nat.reduceEqDiff, Nat.reduceBEq, List.length_cons, List.length_nil, List.replicate, List.append_nil, List.nil_append, List.cons_append, List.set_cons_zero, List.set_cons_succ, List.take_succ_cons, List.take_zero, List.drop_succ_cons, List.drop_zero, List.reverse_cons, List.reverse_nil, List.map_cons, List.map_nil, List.sum_cons, List.sum_nil, decide_true, decide_false, and_self, and_true, true_and, true_or, or_true, Fin.isValue, Fin.val_zero, Fin.val_one, Fin.val_two, Fin.reduceFinMk, Nat.reduceMod, Option.some.injEq, Sum.inl.injEq, Sum.inr.injEq, Prod.mk.injEq, eq_self, reduceCtorEq, imp_self, implies_true, Nat.zero_add, Nat.add_zero, Nat.zero_le, Int.reduceEq, Int.reduceLT, Int.reduceLE, Int.reduceNeg, not_true, not_false_iff, false_imp_iff, true_imp_iff, forall_const, or_self, or_false, false_or, and_false, false_and, ↓reduceIte, z_0, z_1, z_f1, z_f2, z_f3, ct_X0_goFoot, mi_X0_goFoot]
        exact ⟨fun _ => next M h frG_rf, fun q => absurd q hup⟩
set_option maxRecDepth 100000 in
theorem c_goFoot {M : XM} {i : Fin 5} {nd : Nat} {N : Nat → Int} (h : RG M i nd N) (hok : okN nd N) (w : Int) (hw0 : 0 ≤ w) (hw : w < 16) : CW mi_X0_goFoot [xR 1 i, xI w] M (fun r M' => r = none ∧ RG M' i nd (footW nd (wb w) N) ∧ frG i M M') := by
  have h33 := hok.2.2.2.2.1
  refine in_X0_goFoot (Nat.le_of_ble_eq_true rfl) ?_
  refine st_X0_goFoot [(2, [true, true, true])] 4 ?_
  simp only [sy, xisC, sxI, xgI, xgL, xgR, xent, xargs0, p1i, p2i, p1l, p2l, pli, p1r, pir, piir, plir, pvr, pdup, pdup2, pret, xjmp, xcon, xfd, xcl_, xcall, xbr, xsw, xtsw, xst1, xst2, xkill, xpush, xcat, xcl, xar, xkd, xrf, xmask, mR, mL, List.getElem?_cons_zero, List.getElem?_cons_succ, List.lookup_nil, List.lookup_cons, Nat.reduceAdd, Nat.reduceSub, Nat.reduceLeDiff, Nat.reduceEqDiff, Nat.reduceBEq, List.length_cons, List.length_nil, List.replicate, List.append_nil, List.nil_append, List.cons_append, List.set_cons_zero, List.set_cons_succ, List.take_succ_cons, List.take_zero, List.drop_succ_cons, List.drop_zero, List.reverse_cons, List.reverse_nil, List.map_cons, List.map_nil, List.sum_cons, List.sum_nil, decide_true, decide_false, and_self, and_true, true_and, true_or, or_true, Fin.isValue, Fin.val_zero, Fin.val_one, Fin.val_two, Fin.reduceFinMk, Nat.reduceMod, Option.some.injEq, Sum.inl.injEq, Sum.inr.injEq, Prod.mk.injEq, eq_self, reduceCtorEq, imp_self, implies_true, Nat.zero_add, Nat.add_zero, Nat.zero_le, Int.reduceEq, Int.reduceLT, Int.reduceLE, Int.reduceNeg, not_true, not_false_iff, false_imp_iff, true_imp_iff, forall_const, or_self, or_false, false_or, and_false, false_and, ↓reduceIte, z_0, z_1, z_f1, z_f2, z_f3, ct_X0_goFoot, mi_X0_goFoot]
  exact f_2 hok hw0 hw (N 33).toNat 0 M (by omega) h (fun M' q1 q2 => ⟨rfl, q1, q2⟩)
set_option maxRecDepth 100000 in
theorem c_goFeet {M : XM} {i : Fin 5} {nd : Nat} {N : Nat → Int} (h : RG M i nd N) (hok : okN nd N) (w : Int) (hw0 : 0 ≤ w) (hw : w < 16) (n : Nat) (hn : n < 1000) : CW mi_X0_goFeet [xR 1 i, xI n, xI w] M (fun r M' => r = none ∧ RG M' i nd (feetW nd (wb w) n N) ∧ frG i M M') := by
  have loop : ∀ (m k : Nat) (M1 : XM), k + m = n → RG M1 i nd (feetW nd (wb w) k N) → frG i M M1 → J_X0_goFeet (fun r M' => r = none ∧ RG M' i nd (feetW nd (wb w) n N) ∧ frG i M M') 2 [some (xR 1 i), some (xI n), some (xI w), some (xI k)] [] M1 := by
    intro m
    induction m with
    | zero =>
      intro k M1 hk h1 hf1
      have hkn : k = n := by omega
      subst hkn
      refine st_X0_goFeet [] 8 ?_
      simp only [sy, xisC, sxI, xgI, xgL, xgR, xent, xargs0, p1i, p2i, p1l, p2l, pli, p1r, pir, piir, plir, pvr, pdup, pdup2, pret, xjmp, xcon, xfd, xcl_, xcall, xbr, xsw, xtsw, xst1, xst2, xkill, xpush, xcat, xcl, xar, xkd, xrf, xmask, mR, mL, List.getElem?_cons_zero, List.getElem?_cons_succ, List.lookup_nil, List.lookup_cons, Nat.reduceAdd, Nat.reduceSub, Nat.reduceLeDiff, Nat.reduceEqDiff, Nat.reduceBEq, List.length_cons, List.length_nil, List.replicate, List.append_nil, List.nil_append, List.cons_append, List.set_cons_zero, List.set_cons_succ, List.take_succ_cons, List.take_zero, List.drop_succ_cons, List.drop_zero, List.reverse_cons, List.reverse_nil, List.map_cons, List.map_nil, List.sum_cons, List.sum_nil, decide_true, decide_false, and_self, and_true, true_and, true_or, or_true, Fin.isValue, Fin.val_zero, Fin.val_one, Fin.val_two, Fin.reduceFinMk, Nat.reduceMod, Option.some.injEq, Sum.inl.injEq, Sum.inr.injEq, Prod.mk.injEq, eq_self, reduceCtorEq, imp_self, implies_true, Nat.zero_add, Nat.add_zero, Nat.zero_le, Int.reduceEq, Int.reduceLT, Int.reduceLE, Int.reduceNeg, not_true, not_false_iff, false_imp_iff, true_imp_iff, forall_const, or_self, or_false, false_or, and_false, false_and, ↓reduceIte, z_0, z_1, z_f1, z_f2, z_f3, ct_X0_goFeet, mi_X0_goFeet]
      exact ⟨fun _ => ⟨h1, hf1⟩, fun q => absurd q (by omega)⟩
    | succ m ih =>
      intro k M1 hk h1 hf1
      refine st_X0_goFeet [] 8 ?_
      simp only [sy, xisC, sxI, xgI, xgL, xgR, xent, xargs0, p1i, p2i, p1l, p2l, pli, p1r, pir, piir, plir, pvr, pdup, pdup2, pret, xjmp, xcon, xfd, xcl_, xcall, xbr, xsw, xtsw, xst1, xst2, xkill, xpush, xcat, xcl, xar, xkd, xrf, xmask, mR, mL, List.getElem?_cons_zero, List.getElem?_cons_succ, List.lookup_nil, List.lookup_cons, Nat.reduceAdd, Nat.reduceSub, Nat.reduceLeDiff, Nat.reduceEqDiff, Nat.reduceBEq, List.length_cons, List.length_nil, List.replicate, List.append_nil, List.nil_append, List.cons_append, List.set_cons_zero, List.set_cons_succ, List.take_succ_cons, List.take_zero, List.drop_succ_cons, List.drop_zero, List.reverse_cons, List.reverse_nil, List.map_cons, List.map_nil, List.sum_cons, List.sum_nil, decide_true, decide_false, and_self, and_true, true_and, true_or, or_true, Fin.isValue, Fin.val_zero, Fin.val_one, Fin.val_two, Fin.reduceFinMk, Nat.reduceMod, Option.some.injEq, Sum.inl.injEq, Sum.inr.injEq, Prod.mk.injEq, eq_self, reduceCtorEq, imp_self, implies_true, Nat.zero_add, Nat.add_zero, Nat.zero_le, Int.reduceEq, Int.reduceLT, Int.reduceLE, Int.reduceNeg, not_true, not_false_iff, false_imp_iff, true_imp_iff, forall_const, or_self, or_false, false_or, and_false, false_and, ↓reduceIte, z_0, z_1, z_f1, z_f2, z_f3, ct_X0_goFeet, mi_X0_goFeet]
      refine ⟨fun q => absurd q (by omega), fun _ => ?_⟩
      refine CW.mono (c_goFoot h1 (ok_feetW hok k) w hw0 hw) ?_
      rintro _ M2 ⟨rfl, hR2, hf2⟩
      refine st_X0_goFeet [(2, [true, true, true, true])] 8 ?_
      simp only [sy, xisC, sxI, xgI, xgL, xgR, xent, xargs0, p1i, p2i, p1l, p2l, pli, p1r, pir, piir, plir, pvr, pdup, pdup2, pret, xjmp, xcon, xfd, xcl_, xcall, xbr, xsw, xtsw, xst1, xst2, xkill, xpush, xcat, xcl, xar, xkd, xrf, xmask, mR, mL, List.getElem?_cons_zero, List.getElem?_cons_succ, List.lookup_nil, List.lookup_cons, Nat.reduceAdd, Nat.reduceSub, Nat.reduceLeDiff, Nat.reduceEqDiff, Nat.reduceBEq, List.length_cons, List.length_nil, List.replicate, List.append_nil, List.nil_append, List.cons_append, List.set_cons_zero, List.set_cons_succ, List.take_succ_cons, List.take_zero, List.drop_succ_cons, List.drop_zero, List.reverse_cons, List.reverse_nil, List.map_cons, List.map_nil, List.sum_cons, List.sum_nil, decide_true, decide_false, and_self, and_true, true_and, true_or, or_true, Fin.isValue, Fin.val_zero, Fin.val_one, Fin.val_two, Fin.reduceFinMk, Nat.reduceMod, Option.some.injEq, Sum.inl.injEq, Sum.inr.injEq, Prod.mk.injEq, eq_self, reduceCtorEq, imp_self, implies_true, Nat.zero_add, Nat.add_zero, Nat.zero_le, Int.reduceEq, Int.reduceLT, Int.reduceLE, Int.reduceNeg, not_true, not_false_iff, false_imp_iff, true_imp_iff, forall_const, or_self, or_false, false_or, and_false, false_and, ↓reduceIte, z_0, z_1, z_f1, z_f2, z_f3, ct_X0_goFeet, mi_X0_goFeet]
      rw [w32_id (by omega) (by omega)]
      exact ih (k + 1) M2 (by omega) hR2 (frG_tr hf1 hf2)
  refine in_X0_goFeet (Nat.le_of_ble_eq_true rfl) ?_
  refine st_X0_goFeet [(2, [true, true, true, true])] 4 ?_
  simp only [sy, xisC, sxI, xgI, xgL, xgR, xent, xargs0, p1i, p2i, p1l, p2l, pli, p1r, pir, piir, plir, pvr, pdup, pdup2, pret, xjmp, xcon, xfd, xcl_, xcall, xbr, xsw, xtsw, xst1, xst2, xkill, xpush, xcat, xcl, xar, xkd, xrf, xmask, mR, mL, List.getElem?_cons_zero, List.getElem?_cons_succ, List.lookup_nil, List.lookup_cons, Nat.reduceAdd, Nat.reduceSub, Nat.reduceLeDiff, Nat.reduceEqDiff, Nat.reduceBEq, List.length_cons, List.length_nil, List.replicate, List.append_nil, List.nil_append, List.cons_append, List.set_cons_zero, List.set_cons_succ, List.take_succ_cons, List.take_zero, List.drop_succ_cons, List.drop_zero, List.reverse_cons, List.reverse_nil, List.map_cons, List.map_nil, List.sum_cons, List.sum_nil, decide_true, decide_false, and_self, and_true, true_and, true_or, or_true, Fin.isValue, Fin.val_zero, Fin.val_one, Fin.val_two, Fin.reduceFinMk, Nat.reduceMod, Option.some.injEq, Sum.inl.injEq, Sum.inr.injEq, Prod.mk.injEq, eq_self, reduceCtorEq, imp_self, implies_true, Nat.zero_add, Nat.add_zero, Nat.zero_le, Int.reduceEq, Int.reduceLT, Int.reduceLE, Int.reduceNeg, not_true, not_false_iff, false_imp_iff, true_imp_iff, forall_const, or_self, or_false, false_or, and_false, false_and, ↓reduceIte, z_0, z_1, z_f1, z_f2, z_f3, ct_X0_goFeet, mi_X0_goFeet]
  exact loop n 0 M (by omega) h frG_rf

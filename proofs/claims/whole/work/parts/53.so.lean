/-! ===== Math.max; as it was seen ===== -/
theorem mx_nm : Lib.Math.max.name = yJ9_max_7cf53 := rfl
theorem mx_cd : Lib.Math.max.code = cJ9_max_7cf53 := by decide +kernel
theorem J_mmax {i : XMI} {ct : List XE} {K : Option XV → XM → Prop} {k pc : Nat} {L : List (Option XV)} {r : List XV} {M : XM} {a b : Int} {idx : Nat} (hpc : xpc ct k = pc) (hn : xpc ct (k + 1) = pc + 3) (hd : decode (mC i) pc = .ok (.invokestatic idx, 3)) (hsum : (r.map xcat).sum ≤ 8) (hF : 1 ≤ mF i) (hO : 21 ≤ mO i) (hl : .methodLink (mOwn i) idx yJ9_max_7cf53 ∈ xgt) (hst : .static yJ9_max_7cf53 ∈ xgt) (hini : .initialized "java/lang/Math" ∈ xgt) (hcd : .code yJ9_max_7cf53 cJ9_max_7cf53 2 (some .int) ∈ xgt) (h : J i ct K (k + 1) L (xI (if a < b then b else a) :: r) M) : J i ct K k L (xI b :: xI a :: r) M := by
  intro p l e R s m args below meth c D ρ cy aK aV A Z hC hX RM RL H locs ls rs hM hP hS hL hR
  obtain ⟨w1, rs1, rfl, ⟨y, rfl, hy⟩, w2, rs2, rfl, ⟨x, rfl, hx⟩, hR⟩ := hR
  obtain ⟨lv, hl0, -⟩ := id hL
  have hts := hC.2.2.2.2.1
  rw [hpc]
  refine va_mmax hC.1 hC.2.1 (by rw [hC.2.2.1]; exact hl0.1.symm) hC.2.2.2.1 (by rw [mx_nm]; exact hts _ hl) (by rw [mx_nm]; exact hts _ hst) (hts _ hini) (by rw [mx_nm, mx_cd]; exact hts _ hcd) (Nat.le_trans hF hC.2.2.2.2.2.1.1) (by rw [xSR_sum _ _ hR]; have := hC.2.2.2.2.2.1.2; omega) (Nat.zero_le _) (Nat.zero_le _) hd ?_
  rw [← hn]
  refine h p l e R s m args below meth c D ρ cy aK aV A Z hC hX RM RL H locs ls _ hM hP hS hL ⟨_, _, rfl, ⟨_, rfl, ?_⟩, hR⟩
  rw [← hx, ← hy]
  by_cases q : x < y
  · rw [if_pos q, if_pos (Int32.lt_iff_toInt_lt.mp q)]
  · rw [if_neg q, if_neg (fun z => q (Int32.lt_iff_toInt_lt.mpr z))]
theorem J_mxS {K : Option XV → XM → Prop} {L : List (Option XV)} {M : XM} {a b : Int} (h : J_X0_goesAsSeen K 14 L [xI (if a < b then b else a)] M) : J_X0_goesAsSeen K 13 L [xI b, xI a] M :=
  J_mmax (pc := 19) (idx := 128) rfl rfl (by decide +kernel) (by decide) (by decide) (by decide) (xck_in (p := (3, 140)) (by decide +kernel) rfl) (xck_in (p := (3, 141)) (by decide +kernel) rfl) (xck_in (p := (1, 12)) (by decide +kernel) rfl) (xck_in (p := (3, 142)) (by decide +kernel) rfl) h
theorem J_mxT {K : Option XV → XM → Prop} {L : List (Option XV)} {M : XM} {a b : Int} (h : J_X3_mostInOneCell K 17 L [xI (if a < b then b else a)] M) : J_X3_mostInOneCell K 16 L [xI b, xI a] M :=
  J_mmax (pc := 22) (idx := 267) rfl rfl (by decide +kernel) (by decide) (by decide) (by decide) (xck_in (p := (3, 163)) (by decide +kernel) rfl) (xck_in (p := (3, 141)) (by decide +kernel) rfl) (xck_in (p := (1, 12)) (by decide +kernel) rfl) (xck_in (p := (3, 142)) (by decide +kernel) rfl) h
/-! as it was seen -/
def soK (nd : Nat) (N : Nat → Int) : Nat → Int
  | 0 => 1
  | j + 1 => if soK nd N j = 1 ∧ feetW nd al (N (53 + 3 * j + 1)).toNat N (6 * (N (53 + 3 * j)).toNat + 1) = N (53 + 3 * j + 2) then 1 else 0
theorem so_01 {nd : Nat} {N : Nat → Int} : ∀ k, soK nd N k = 0 ∨ soK nd N k = 1
  | 0 => Or.inr rfl
  | k + 1 => by unfold soK; split <;> simp
theorem so_iff {nd : Nat} {N : Nat → Int} : ∀ k, soK nd N k = 1 ↔ ∀ j, j < k → feetW nd al (N (53 + 3 * j + 1)).toNat N (6 * (N (53 + 3 * j)).toNat + 1) = N (53 + 3 * j + 2)
  | 0 => ⟨fun _ j hj => absurd hj (by omega), fun _ => rfl⟩
  | k + 1 => by
    have ih := so_iff (nd := nd) (N := N) k
    rw [show soK nd N (k + 1) = if soK nd N k = 1 ∧ feetW nd al (N (53 + 3 * k + 1)).toNat N (6 * (N (53 + 3 * k)).toNat + 1) = N (53 + 3 * k + 2) then 1 else 0 from rfl]
    constructor
    · intro h j hj
      by_cases q : soK nd N k = 1 ∧ feetW nd al (N (53 + 3 * k + 1)).toNat N (6 * (N (53 + 3 * k)).toNat + 1) = N (53 + 3 * k + 2)
      · by_cases a : j = k
        · subst a; exact q.2
        · exact ih.mp q.1 j (by omega)
      · rw [if_neg q] at h; exact absurd h (by decide)
    · intro h
      rw [if_pos ⟨ih.mpr (fun j hj => h j (by omega)), h k (by omega)⟩]
def asK (N : Nat → Int) (n : Int) : Nat → Int
  | 0 => 1
  | j + 1 => if asK N n j = 1 ∧ (N (53 + 3 * j + 1) = n → N (6 * (N (53 + 3 * j)).toNat + 1) = N (53 + 3 * j + 2)) then 1 else 0
theorem as_01 {N : Nat → Int} {n : Int} : ∀ k, asK N n k = 0 ∨ asK N n k = 1
  | 0 => Or.inr rfl
  | k + 1 => by unfold asK; split <;> simp
theorem as_iff {N : Nat → Int} {n : Int} : ∀ k, asK N n k = 1 ↔ ∀ j, j < k → N (53 + 3 * j + 1) = n → N (6 * (N (53 + 3 * j)).toNat + 1) = N (53 + 3 * j + 2)
  | 0 => ⟨fun _ j hj => absurd hj (by omega), fun _ => rfl⟩
  | k + 1 => by
    have ih := as_iff (N := N) (n := n) k
    rw [show asK N n (k + 1) = if asK N n k = 1 ∧ (N (53 + 3 * k + 1) = n → N (6 * (N (53 + 3 * k)).toNat + 1) = N (53 + 3 * k + 2)) then 1 else 0 from rfl]
    constructor
    · intro h j hj
      by_cases q : asK N n k = 1 ∧ (N (53 + 3 * k + 1) = n → N (6 * (N (53 + 3 * k)).toNat + 1) = N (53 + 3 * k + 2))
      · by_cases a : j = k
        · subst a; exact q.2
        · exact ih.mp q.1 j (by omega)
      · rw [if_neg q] at h; exact absurd h (by decide)
    · intro h
      rw [if_pos ⟨ih.mpr (fun j hj => h j (by omega)), h k (by omega)⟩]
set_option maxRecDepth 100000 in
theorem c_isAsSeen {M : XM} {i : Fin 5} {nd : Nat} {N : Nat → Int} (h : RG M i nd N) (hok : okN nd N) (n : Int) : CW mi_X0_isAsSeen [xR 1 i, xI n] M (pI M (asK N n (N 52).toNat)) := by
  have h4 := hok.1
  have gs := h.2.2.2.2.1
  have h52 := hok.2.2.2.2.2.2.1
  have hsj := hok.2.2.2.2.2.2.2
  have loop : ∀ (m j : Nat), j + m = (N 52).toNat → asK N n j = 1 → J_X0_isAsSeen (pI M (asK N n (N 52).toNat)) 2 [some (xR 1 i), some (xI n), some (xI j)] [] M := by
    intro m
    induction m with
    | zero =>
      intro j hj ha
      have e : j = (N 52).toNat := by omega
      have e' : N 52 = (j : Int) := by omega
      rw [← e, ha]
      refine st_X0_isAsSeen [(6, [true, true, true])] 10 ?_
      simp only [sy, xisC, sxI, xgI, xgL, xgR, xent, xargs0, p1i, p2i, p1l, p2l, pli, p1r, pir, piir, plir, pvr, pdup, pdup2, pret, xjmp, xcon, xfd, xcl_, xcall, xbr, xsw, xtsw, xst1, xst2, xkill, xpush, xcat, xcl, xar, xkd, xrf, xmask, mR, mL, List.getElem?_cons_zero, List.getElem?_cons_succ, List.lookup_nil, List.lookup_cons, Nat.reduceAdd, Nat.reduceSub, Nat.reduceLeDiff, Nat.reduceEqDiff, Nat.reduceBEq, List.length_cons, List.length_nil, List.replicate, List.append_nil, List.nil_append, List.cons_append, List.set_cons_zero, List.set_cons_succ, List.take_succ_cons, List.take_zero, List.drop_succ_cons, List.drop_zero, List.reverse_cons, List.reverse_nil, List.map_cons, List.map_nil, List.sum_cons, List.sum_nil, decide_true, decide_false, and_self, and_true, true_and, true_or, or_true, Fin.isValue, Fin.val_zero, Fin.val_one, Fin.val_two, Fin.reduceFinMk, Nat.reduceMod, Option.some.injEq, Sum.inl.injEq, Sum.inr.injEq, Prod.mk.injEq, eq_self, reduceCtorEq, imp_self, implies_true, Nat.zero_add, Nat.add_zero, Nat.zero_le, Int.reduceEq, Int.reduceLT, Int.reduceLE, Int.reduceNeg, not_true, not_false_iff, false_imp_iff, true_imp_iff, forall_const, or_self, or_false, false_or, and_false, false_and, ↓reduceIte, z_0, z_1, z_f1, z_f2, z_f3, Int.reduceToNat, Int.reduceAdd, ct_X0_isAsSeen, mi_X0_isAsSeen, pI, gs, e']
      try exact fun q => absurd q (by omega)
    | succ m ih =>
      intro j hj ha
      have hj' : (j : Int) < N 52 := by omega
      obtain ⟨hg, hf, hC⟩ := hsj j hj'
      obtain ⟨r10, r11, r12⟩ := h.2.2.2.2.2.2.2.2 j hj'
      have hdg : (N (53 + 3 * j)).toNat < nd := by omega
      have ga := (h.2.2.2.2.2.1 _ hdg).2.1
      have hA := (hok.2.1 _ hdg).2.1
      have w2 : w32 ((j : Int) + 1) = (j + 1 : Nat) := by rw [w32_id (by omega) (by omega)]; rfl
      have es : asK N n (j + 1) = if asK N n j = 1 ∧ (N (53 + 3 * j + 1) = n → N (6 * (N (53 + 3 * j)).toNat + 1) = N (53 + 3 * j + 2)) then 1 else 0 := rfl
      have inj := fun q => nc_inj hA hC q
      have hz : ∀ (q1 : N (53 + 3 * j + 1) = n) (q2 : ¬ N (6 * (N (53 + 3 * j)).toNat + 1) = N (53 + 3 * j + 2)), asK N n (N 52).toNat = 0 := fun q1 q2 => (as_01 _).resolve_right (fun a => q2 ((as_iff _).mp a j (by omega) q1))
      generalize HA : N (6 * (N (53 + 3 * j)).toNat + 1) = a at es ga hA inj hz
      generalize N (53 + 3 * j + 2) = cc at es r12 hC inj hz
      generalize N (53 + 3 * j + 1) = ff at es r11 hf hz
      generalize N (53 + 3 * j) = gg at r10 hg ga hdg HA
      by_cases q1 : ff = n
      · by_cases q2 : a = cc
        · rw [if_pos ⟨ha, fun _ => q2⟩] at es
          have i' := ih (j + 1) (by omega) es
          subst q1 q2
          generalize asK N ff (N 52).toNat = zz at i' ⊢
          generalize nc a = na at ga r12
          refine st_X0_isAsSeen [(2, [true, true, true])] 30 ?_
          simp only [sy, xisC, sxI, xgI, xgL, xgR, xent, xargs0, p1i, p2i, p1l, p2l, pli, p1r, pir, piir, plir, pvr, pdup, pdup2, pret, xjmp, xcon, xfd, xcl_, xcall, xbr, xsw, xtsw, xst1, xst2, xkill, xpush, xcat, xcl, xar, xkd, xrf, xmask, mR, mL, List.getElem?_cons_zero, List.getElem?_cons_succ, List.lookup_nil, List.lookup_cons, Nat.reduceAdd, Nat.reduceSub, Nat.reduceLeDiff, Nat.reduceEqDiff, Nat.reduceBEq, List.length_cons, List.length_nil, List.replicate, List.append_nil, List.nil_append, List.cons_append, List.set_cons_zero, List.set_cons_succ, List.take_succ_cons, List.take_zero, List.drop_succ_cons, List.drop_zero, List.reverse_cons, List.reverse_nil, List.map_cons, List.map_nil, List.sum_cons, List.sum_nil, decide_true, decide_false, and_self, and_true, true_and, true_or, or_true, Fin.isValue, Fin.val_zero, Fin.val_one, Fin.val_two, Fin.reduceFinMk, Nat.reduceMod, Option.some.injEq, Sum.inl.injEq, Sum.inr.injEq, Prod.mk.injEq, eq_self, reduceCtorEq, imp_self, implies_true, Nat.zero_add, Nat.add_zero, Nat.zero_le, Int.reduceEq, Int.reduceLT, Int.reduceLE, Int.reduceNeg, not_true, not_false_iff, false_imp_iff, true_imp_iff, forall_const, or_self, or_false, false_or, and_false, false_and, ↓reduceIte, z_0, z_1, z_f1, z_f2, z_f3, Int.reduceToNat, Int.reduceAdd, ct_X0_isAsSeen, mi_X0_isAsSeen, gs, r10, r11, r12, ga, w2, Int.toNat_natCast]
          exact ⟨fun q => absurd q (by omega), fun _ => ⟨by omega, by omega, by omega, by omega, i'⟩⟩
        · have q3 : ¬ nc a = nc cc := fun z => q2 (inj z)
          have z0 := hz q1 q2
          subst q1
          rw [z0]
          generalize nc a = na at ga q3
          generalize nc cc = nb at r12 q3
          refine st_X0_isAsSeen [] 30 ?_
          simp only [sy, xisC, sxI, xgI, xgL, xgR, xent, xargs0, p1i, p2i, p1l, p2l, pli, p1r, pir, piir, plir, pvr, pdup, pdup2, pret, xjmp, xcon, xfd, xcl_, xcall, xbr, xsw, xtsw, xst1, xst2, xkill, xpush, xcat, xcl, xar, xkd, xrf, xmask, mR, mL, List.getElem?_cons_zero, List.getElem?_cons_succ, List.lookup_nil, List.lookup_cons, Nat.reduceAdd, Nat.reduceSub, Nat.reduceLeDiff, Nat.reduceEqDiff, Nat.reduceBEq, List.length_cons, List.length_nil, List.replicate, List.append_nil, List.nil_append, List.cons_append, List.set_cons_zero, List.set_cons_succ, List.take_succ_cons, List.take_zero, List.drop_succ_cons, List.drop_zero, List.reverse_cons, List.reverse_nil, List.map_cons, List.map_nil, List.sum_cons, List.sum_nil, decide_true, decide_false, and_self, and_true, true_and, true_or, or_true, Fin.isValue, Fin.val_zero, Fin.val_one, Fin.val_two, Fin.reduceFinMk, Nat.reduceMod, Option.some.injEq, Sum.inl.injEq, Sum.inr.injEq, Prod.mk.injEq, eq_self, reduceCtorEq, imp_self, implies_true, Nat.zero_add, Nat.add_zero, Nat.zero_le, Int.reduceEq, Int.reduceLT, Int.reduceLE, Int.reduceNeg, not_true, not_false_iff, false_imp_iff, true_imp_iff, forall_const, or_self, or_false, false_or, and_false, false_and, ↓reduceIte, z_0, z_1, z_f1, z_f2, z_f3, Int.reduceToNat, Int.reduceAdd, ct_X0_isAsSeen, mi_X0_isAsSeen, pI, gs, r10, r11, r12, ga, q3, Int.toNat_natCast]
          exact ⟨fun q => absurd q (by omega), fun _ => ⟨by omega, by omega, by omega, by omega⟩⟩
      · rw [if_pos ⟨ha, fun z => absurd z q1⟩] at es
        have i' := ih (j + 1) (by omega) es
        generalize asK N n (N 52).toNat = zz at i' ⊢
        refine st_X0_isAsSeen [(2, [true, true, true])] 30 ?_
        simp only [sy, xisC, sxI, xgI, xgL, xgR, xent, xargs0, p1i, p2i, p1l, p2l, pli, p1r, pir, piir, plir, pvr, pdup, pdup2, pret, xjmp, xcon, xfd, xcl_, xcall, xbr, xsw, xtsw, xst1, xst2, xkill, xpush, xcat, xcl, xar, xkd, xrf, xmask, mR, mL, List.getElem?_cons_zero, List.getElem?_cons_succ, List.lookup_nil, List.lookup_cons, Nat.reduceAdd, Nat.reduceSub, Nat.reduceLeDiff, Nat.reduceEqDiff, Nat.reduceBEq, List.length_cons, List.length_nil, List.replicate, List.append_nil, List.nil_append, List.cons_append, List.set_cons_zero, List.set_cons_succ, List.take_succ_cons, List.take_zero, List.drop_succ_cons, List.drop_zero, List.reverse_cons, List.reverse_nil, List.map_cons, List.map_nil, List.sum_cons, List.sum_nil, decide_true, decide_false, and_self, and_true, true_and, true_or, or_true, Fin.isValue, Fin.val_zero, Fin.val_one, Fin.val_two, Fin.reduceFinMk, Nat.reduceMod, Option.some.injEq, Sum.inl.injEq, Sum.inr.injEq, Prod.mk.injEq, eq_self, reduceCtorEq, imp_self, implies_true, Nat.zero_add, Nat.add_zero, Nat.zero_le, Int.reduceEq, Int.reduceLT, Int.reduceLE, Int.reduceNeg, not_true, not_false_iff, false_imp_iff, true_imp_iff, forall_const, or_self, or_false, false_or, and_false, false_and, ↓reduceIte, z_0, z_1, z_f1, z_f2, z_f3, Int.reduceToNat, Int.reduceAdd, ct_X0_isAsSeen, mi_X0_isAsSeen, gs, r11, q1, w2, Int.toNat_natCast]
        exact ⟨fun q => absurd q (by omega), fun _ => ⟨by omega, i'⟩⟩
  refine in_X0_isAsSeen (Nat.le_of_ble_eq_true rfl) ?_
  refine st_X0_isAsSeen [(2, [true, true, true])] 8 ?_
  simp only [sy, xisC, sxI, xgI, xgL, xgR, xent, xargs0, p1i, p2i, p1l, p2l, pli, p1r, pir, piir, plir, pvr, pdup, pdup2, pret, xjmp, xcon, xfd, xcl_, xcall, xbr, xsw, xtsw, xst1, xst2, xkill, xpush, xcat, xcl, xar, xkd, xrf, xmask, mR, mL, List.getElem?_cons_zero, List.getElem?_cons_succ, List.lookup_nil, List.lookup_cons, Nat.reduceAdd, Nat.reduceSub, Nat.reduceLeDiff, Nat.reduceEqDiff, Nat.reduceBEq, List.length_cons, List.length_nil, List.replicate, List.append_nil, List.nil_append, List.cons_append, List.set_cons_zero, List.set_cons_succ, List.take_succ_cons, List.take_zero, List.drop_succ_cons, List.drop_zero, List.reverse_cons, List.reverse_nil, List.map_cons, List.map_nil, List.sum_cons, List.sum_nil, decide_true, decide_false, and_self, and_true, true_and, true_or, or_true, Fin.isValue, Fin.val_zero, Fin.val_one, Fin.val_two, Fin.reduceFinMk, Nat.reduceMod, Option.some.injEq, Sum.inl.injEq, Sum.inr.injEq, Prod.mk.injEq, eq_self, reduceCtorEq, imp_self, implies_true, Nat.zero_add, Nat.add_zero, Nat.zero_le, Int.reduceEq, Int.reduceLT, Int.reduceLE, Int.reduceNeg, not_true, not_false_iff, false_imp_iff, true_imp_iff, forall_const, or_self, or_false, false_or, and_false, false_and, ↓reduceIte, z_0, z_1, z_f1, z_f2, z_f3, Int.reduceToNat, Int.reduceAdd, ct_X0_isAsSeen, mi_X0_isAsSeen]
  exact loop _ 0 (Nat.zero_add _) rfl
def mxF (N : Nat → Int) : Nat → Int
  | 0 => -1
  | j + 1 => if mxF N j < N (53 + 3 * j + 1) then N (53 + 3 * j + 1) else mxF N j
theorem mx_b {N : Nat → Int} {s : Nat} (hf : ∀ j, j < s → 0 ≤ N (53 + 3 * j + 1) ∧ N (53 + 3 * j + 1) ≤ 20) : ∀ k, k ≤ s → (-1 ≤ mxF N k ∧ mxF N k ≤ 20) ∧ ∀ j, j < k → N (53 + 3 * j + 1) ≤ mxF N k
  | 0, _ => ⟨⟨by show (-1 : Int) ≤ -1; decide, by show (-1 : Int) ≤ 20; decide⟩, fun j hj => absurd hj (by omega)⟩
  | k + 1, hk => by
    obtain ⟨i1, i2⟩ := mx_b hf k (by omega)
    have h1 := hf k (by omega)
    rw [show mxF N (k + 1) = if mxF N k < N (53 + 3 * k + 1) then N (53 + 3 * k + 1) else mxF N k from rfl]
    split
    · refine ⟨by omega, fun j hj => ?_⟩
      by_cases q : j = k
      · subst q; omega
      · have := i2 j (by omega); omega
    · refine ⟨by omega, fun j hj => ?_⟩
      by_cases q : j = k
      · subst q; omega
      · exact i2 j (by omega)
set_option maxRecDepth 100000 in
theorem c_goesAsSeen {M : XM} {i : Fin 5} {nd : Nat} {N : Nat → Int} (h : RG M i nd N) (hok : okN nd N) : CW mi_X0_goesAsSeen [xR 1 i] M (fun r M' => r = some (xI (soK nd N (N 52).toNat)) ∧ frG i M M') := by
  have h4 := hok.1
  have h52 := hok.2.2.2.2.2.2.1
  have gs := h.2.2.2.2.1
  have hsj := hok.2.2.2.2.2.2.2
  have hmx := mx_b (N := N) (s := (N 52).toNat) (fun j hj => (hsj j (by omega)).2.1)
  obtain ⟨bl, bf⟩ := hmx _ (Nat.le_refl _)
  have walk : ∀ (m n : Nat) (M3 : XM), n + m = (mxF N (N 52).toNat + 1).toNat → RG M3 i nd (feetW nd al n N) → frG i M M3 → (∀ j, j < (N 52).toNat → N (53 + 3 * j + 1) < n → feetW nd al (N (53 + 3 * j + 1)).toNat N (6 * (N (53 + 3 * j)).toNat + 1) = N (53 + 3 * j + 2)) → J_X0_goesAsSeen (fun r M' => r = some (xI (soK nd N (N 52).toNat)) ∧ frG i M M') 19 [some (xR 1 i), some (xI (mxF N (N 52).toNat)), some (xI n)] [] M3 := by
    intro m
    induction m with
    | zero =>
      intro n M3 hn r3 f3 hp
      have e : soK nd N (N 52).toNat = 1 := (so_iff _).mpr (fun j hj => hp j hj (by have := bf j hj; omega))
      rw [e]
      generalize mxF N (N 52).toNat = la at hn bl
      refine st_X0_goesAsSeen [(22, [true, true, true])] 10 ?_
      simp only [sy, xisC, sxI, xgI, xgL, xgR, xent, xargs0, p1i, p2i, p1l, p2l, pli, p1r, pir, piir, plir, pvr, pdup, pdup2, pret, xjmp, xcon, xfd, xcl_, xcall, xbr, xsw, xtsw, xst1, xst2, xkill, xpush, xcat, xcl, xar, xkd, xrf, xmask, mR, mL, List.getElem?_cons_zero, List.getElem?_cons_succ, List.lookup_nil, List.lookup_cons, Nat.reduceAdd, Nat.reduceSub, Nat.reduceLeDiff, Nat.reduceEqDiff, Nat.reduceBEq, List.length_cons, List.length_nil, List.replicate, List.append_nil, List.nil_append, List.cons_append, List.set_cons_zero, List.set_cons_succ, List.take_succ_cons, List.take_zero, List.drop_succ_cons, List.drop_zero, List.reverse_cons, List.reverse_nil, List.map_cons, List.map_nil, List.sum_cons, List.sum_nil, decide_true, decide_false, and_self, and_true, true_and, true_or, or_true, Fin.isValue, Fin.val_zero, Fin.val_one, Fin.val_two, Fin.reduceFinMk, Nat.reduceMod, Option.some.injEq, Sum.inl.injEq, Sum.inr.injEq, Prod.mk.injEq, eq_self, reduceCtorEq, imp_self, implies_true, Nat.zero_add, Nat.add_zero, Nat.zero_le, Int.reduceEq, Int.reduceLT, Int.reduceLE, Int.reduceNeg, not_true, not_false_iff, false_imp_iff, true_imp_iff, forall_const, or_self, or_false, false_or, and_false, false_and, ↓reduceIte, z_0, z_1, z_f1, z_f2, z_f3, Int.reduceToNat, Int.reduceAdd, ct_X0_goesAsSeen, mi_X0_goesAsSeen]
      exact ⟨fun _ => f3, fun q => absurd q (by omega)⟩
    | succ m ih =>
      intro n M3 hn r3 f3 hp
      have okn := ok_feetW (who := al) hok n
      have w2 : w32 ((n : Int) + 1) = (n + 1 : Nat) := by rw [w32_id (by omega) (by omega)]; rfl
      have cs := c_isAsSeen r3 okn (n : Int)
      have hk : ∀ k, 25 ≤ k → feetW nd al n N k = N k := fun k hk => rk_feet hok hk n
      rw [hk 52 (by decide)] at cs
      have ai := as_iff (N := feetW nd al n N) (n := (n : Int)) (N 52).toNat
      refine st_X0_goesAsSeen [] 20 ?_
      simp only [sy, xisC, sxI, xgI, xgL, xgR, xent, xargs0, p1i, p2i, p1l, p2l, pli, p1r, pir, piir, plir, pvr, pdup, pdup2, pret, xjmp, xcon, xfd, xcl_, xcall, xbr, xsw, xtsw, xst1, xst2, xkill, xpush, xcat, xcl, xar, xkd, xrf, xmask, mR, mL, List.getElem?_cons_zero, List.getElem?_cons_succ, List.lookup_nil, List.lookup_cons, Nat.reduceAdd, Nat.reduceSub, Nat.reduceLeDiff, Nat.reduceEqDiff, Nat.reduceBEq, List.length_cons, List.length_nil, List.replicate, List.append_nil, List.nil_append, List.cons_append, List.set_cons_zero, List.set_cons_succ, List.take_succ_cons, List.take_zero, List.drop_succ_cons, List.drop_zero, List.reverse_cons, List.reverse_nil, List.map_cons, List.map_nil, List.sum_cons, List.sum_nil, decide_true, decide_false, and_self, and_true, true_and, true_or, or_true, Fin.isValue, Fin.val_zero, Fin.val_one, Fin.val_two, Fin.reduceFinMk, Nat.reduceMod, Option.some.injEq, Sum.inl.injEq, Sum.inr.injEq, Prod.mk.injEq, eq_self, reduceCtorEq, imp_self, implies_true, Nat.zero_add, Nat.add_zero, Nat.zero_le, Int.reduceEq, Int.reduceLT, Int.reduceLE, Int.reduceNeg, not_true, not_false_iff, false_imp_iff, true_imp_iff, forall_const, or_self, or_false, false_or, and_false, false_and, ↓reduceIte, z_0, z_1, z_f1, z_f2, z_f3, Int.reduceToNat, Int.reduceAdd, ct_X0_goesAsSeen, mi_X0_goesAsSeen]
      refine ⟨fun q => absurd q (by omega), fun _ => ?_⟩
      refine CW.mono (cs) ?_
      rintro _ M1 ⟨rfl, hM1⟩; rw [hM1]; clear hM1 M1
      rcases as_01 (N := feetW nd al n N) (n := (n : Int)) (N 52).toNat with q | q
      · have z0 : soK nd N (N 52).toNat = 0 := (so_01 _).resolve_right (fun a => by
          have := ai.mpr (fun j hj hf => by
            rw [hk _ (by omega)] at hf
            rw [hk (53 + 3 * j) (by omega), hk (53 + 3 * j + 2) (by omega)]
            have := (so_iff _).mp a j hj
            rw [hf, Int.toNat_natCast] at this
            exact this)
          omega)
        rw [q, z0]
        refine st_X0_goesAsSeen [] 20 ?_
        simp only [sy, xisC, sxI, xgI, xgL, xgR, xent, xargs0, p1i, p2i, p1l, p2l, pli, p1r, pir, piir, plir, pvr, pdup, pdup2, pret, xjmp, xcon, xfd, xcl_, xcall, xbr, xsw, xtsw, xst1, xst2, xkill, xpush, xcat, xcl, xar, xkd, xrf, xmask, mR, mL, List.getElem?_cons_zero, List.getElem?_cons_succ, List.lookup_nil, List.lookup_cons, Nat.reduceAdd, Nat.reduceSub, Nat.reduceLeDiff, Nat.reduceEqDiff, Nat.reduceBEq, List.length_cons, List.length_nil, List.replicate, List.append_nil, List.nil_append, List.cons_append, List.set_cons_zero, List.set_cons_succ, List.take_succ_cons, List.take_zero, List.drop_succ_cons, List.drop_zero, List.reverse_cons, List.reverse_nil, List.map_cons, List.map_nil, List.sum_cons, List.sum_nil, decide_true, decide_false, and_self, and_true, true_and, true_or, or_true, Fin.isValue, Fin.val_zero, Fin.val_one, Fin.val_two, Fin.reduceFinMk, Nat.reduceMod, Option.some.injEq, Sum.inl.injEq, Sum.inr.injEq, Prod.mk.injEq, eq_self, reduceCtorEq, imp_self, implies_true, Nat.zero_add, Nat.add_zero, Nat.zero_le, Int.reduceEq, Int.reduceLT, Int.reduceLE, Int.reduceNeg, not_true, not_false_iff, false_imp_iff, true_imp_iff, forall_const, or_self, or_false, false_or, and_false, false_and, ↓reduceIte, z_0, z_1, z_f1, z_f2, z_f3, Int.reduceToNat, Int.reduceAdd, ct_X0_goesAsSeen, mi_X0_goesAsSeen]
        exact f3
      · rw [q]
        have ai := ai.mp q
        have ih := ih (n + 1)
        generalize soK nd N (N 52).toNat = zz at ih ⊢
        generalize HL : mxF N (N 52).toNat = la at ih hn bl ⊢
        refine st_X0_goesAsSeen [] 20 ?_
        simp only [sy, xisC, sxI, xgI, xgL, xgR, xent, xargs0, p1i, p2i, p1l, p2l, pli, p1r, pir, piir, plir, pvr, pdup, pdup2, pret, xjmp, xcon, xfd, xcl_, xcall, xbr, xsw, xtsw, xst1, xst2, xkill, xpush, xcat, xcl, xar, xkd, xrf, xmask, mR, mL, List.getElem?_cons_zero, List.getElem?_cons_succ, List.lookup_nil, List.lookup_cons, Nat.reduceAdd, Nat.reduceSub, Nat.reduceLeDiff, Nat.reduceEqDiff, Nat.reduceBEq, List.length_cons, List.length_nil, List.replicate, List.append_nil, List.nil_append, List.cons_append, List.set_cons_zero, List.set_cons_succ, List.take_succ_cons, List.take_zero, List.drop_succ_cons, List.drop_zero, List.reverse_cons, List.reverse_nil, List.map_cons, List.map_nil, List.sum_cons, List.sum_nil, decide_true, decide_false, and_self, and_true, true_and, true_or, or_true, Fin.isValue, Fin.val_zero, Fin.val_one, Fin.val_two, Fin.reduceFinMk, Nat.reduceMod, Option.some.injEq, Sum.inl.injEq, Sum.inr.injEq, Prod.mk.injEq, eq_self, reduceCtorEq, imp_self, implies_true, Nat.zero_add, Nat.add_zero, Nat.zero_le, Int.reduceEq, Int.reduceLT, Int.reduceLE, Int.reduceNeg, not_true, not_false_iff, false_imp_iff, true_imp_iff, forall_const, or_self, or_false, false_or, and_false, false_and, ↓reduceIte, z_0, z_1, z_f1, z_f2, z_f3, Int.reduceToNat, Int.reduceAdd, ct_X0_goesAsSeen, mi_X0_goesAsSeen, n1z]
        refine CW.mono (c_goFoot r3 okn 15 (by decide) (by decide)) ?_
        rintro _ M4 ⟨rfl, r4, f4⟩
        rw [foot15 h4] at r4
        refine st_X0_goesAsSeen [(19, [true, true, true])] 20 ?_
        simp only [sy, xisC, sxI, xgI, xgL, xgR, xent, xargs0, p1i, p2i, p1l, p2l, pli, p1r, pir, piir, plir, pvr, pdup, pdup2, pret, xjmp, xcon, xfd, xcl_, xcall, xbr, xsw, xtsw, xst1, xst2, xkill, xpush, xcat, xcl, xar, xkd, xrf, xmask, mR, mL, List.getElem?_cons_zero, List.getElem?_cons_succ, List.lookup_nil, List.lookup_cons, Nat.reduceAdd, Nat.reduceSub, Nat.reduceLeDiff, Nat.reduceEqDiff, Nat.reduceBEq, List.length_cons, List.length_nil, List.replicate, List.append_nil, List.nil_append, List.cons_append, List.set_cons_zero, List.set_cons_succ, List.take_succ_cons, List.take_zero, List.drop_succ_cons, List.drop_zero, List.reverse_cons, List.reverse_nil, List.map_cons, List.map_nil, List.sum_cons, List.sum_nil, decide_true, decide_false, and_self, and_true, true_and, true_or, or_true, Fin.isValue, Fin.val_zero, Fin.val_one, Fin.val_two, Fin.reduceFinMk, Nat.reduceMod, Option.some.injEq, Sum.inl.injEq, Sum.inr.injEq, Prod.mk.injEq, eq_self, reduceCtorEq, imp_self, implies_true, Nat.zero_add, Nat.add_zero, Nat.zero_le, Int.reduceEq, Int.reduceLT, Int.reduceLE, Int.reduceNeg, not_true, not_false_iff, false_imp_iff, true_imp_iff, forall_const, or_self, or_false, false_or, and_false, false_and, ↓reduceIte, z_0, z_1, z_f1, z_f2, z_f3, Int.reduceToNat, Int.reduceAdd, ct_X0_goesAsSeen, mi_X0_goesAsSeen, w2]
        refine ih M4 (by omega) r4 (frG_tr f3 f4) (fun j hj hf => ?_)
        by_cases e : N (53 + 3 * j + 1) = n
        · have := ai j hj (by rw [hk _ (by omega)]; exact e)
          rw [hk (53 + 3 * j) (by omega), hk (53 + 3 * j + 2) (by omega)] at this
          rw [e, Int.toNat_natCast]
          exact this
        · exact hp j hj (by omega)
  have loop : ∀ (m j : Nat), j + m = (N 52).toNat → J_X0_goesAsSeen (fun r M' => r = some (xI (soK nd N (N 52).toNat)) ∧ frG i M M') 4 [some (xR 1 i), some (xI (mxF N j)), some (xI j)] [] M := by
    intro m
    induction m with
    | zero =>
      intro j hj
      have e : j = (N 52).toNat := by omega
      have e' : N 52 = (j : Int) := by omega
      have wk := walk _ 0 M (Nat.zero_add _) h frG_rf (fun j hj hf => absurd hf (by have := (hsj j (by omega)).2.1; omega))
      rw [← e] at wk ⊢
      generalize soK nd N j = zz at wk ⊢
      refine st_X0_goesAsSeen [(8, [true, true, true]), (19, [true, true, true])] 10 ?_
      simp only [sy, xisC, sxI, xgI, xgL, xgR, xent, xargs0, p1i, p2i, p1l, p2l, pli, p1r, pir, piir, plir, pvr, pdup, pdup2, pret, xjmp, xcon, xfd, xcl_, xcall, xbr, xsw, xtsw, xst1, xst2, xkill, xpush, xcat, xcl, xar, xkd, xrf, xmask, mR, mL, List.getElem?_cons_zero, List.getElem?_cons_succ, List.lookup_nil, List.lookup_cons, Nat.reduceAdd, Nat.reduceSub, Nat.reduceLeDiff, Nat.reduceEqDiff, Nat.reduceBEq, List.length_cons, List.length_nil, List.replicate, List.append_nil, List.nil_append, List.cons_append, List.set_cons_zero, List.set_cons_succ, List.take_succ_cons, List.take_zero, List.drop_succ_cons, List.drop_zero, List.reverse_cons, List.reverse_nil, List.map_cons, List.map_nil, List.sum_cons, List.sum_nil, decide_true, decide_false, and_self, and_true, true_and, true_or, or_true, Fin.isValue, Fin.val_zero, Fin.val_one, Fin.val_two, Fin.reduceFinMk, Nat.reduceMod, Option.some.injEq, Sum.inl.injEq, Sum.inr.injEq, Prod.mk.injEq, eq_self, reduceCtorEq, imp_self, implies_true, Nat.zero_add, Nat.add_zero, Nat.zero_le, Int.reduceEq, Int.reduceLT, Int.reduceLE, Int.reduceNeg, not_true, not_false_iff, false_imp_iff, true_imp_iff, forall_const, or_self, or_false, false_or, and_false, false_and, ↓reduceIte, z_0, z_1, z_f1, z_f2, z_f3, Int.reduceToNat, Int.reduceAdd, ct_X0_goesAsSeen, mi_X0_goesAsSeen, gs, e']
      try exact ⟨fun _ => wk, fun q => absurd q (by omega)⟩
    | succ m ih =>
      intro j hj
      have hj' : (j : Int) < N 52 := by omega
      obtain ⟨r10, r11, r12⟩ := h.2.2.2.2.2.2.2.2 j hj'
      have w2 : w32 ((j : Int) + 1) = (j + 1 : Nat) := by rw [w32_id (by omega) (by omega)]; rfl
      have ih := ih (j + 1) (by omega)
      rw [show mxF N (j + 1) = if mxF N j < N (53 + 3 * j + 1) then N (53 + 3 * j + 1) else mxF N j from rfl] at ih
      generalize soK nd N (N 52).toNat = zz at ih ⊢
      refine st_X0_goesAsSeen [(13, [true, true, true])] 20 ?_
      simp only [sy, xisC, sxI, xgI, xgL, xgR, xent, xargs0, p1i, p2i, p1l, p2l, pli, p1r, pir, piir, plir, pvr, pdup, pdup2, pret, xjmp, xcon, xfd, xcl_, xcall, xbr, xsw, xtsw, xst1, xst2, xkill, xpush, xcat, xcl, xar, xkd, xrf, xmask, mR, mL, List.getElem?_cons_zero, List.getElem?_cons_succ, List.lookup_nil, List.lookup_cons, Nat.reduceAdd, Nat.reduceSub, Nat.reduceLeDiff, Nat.reduceEqDiff, Nat.reduceBEq, List.length_cons, List.length_nil, List.replicate, List.append_nil, List.nil_append, List.cons_append, List.set_cons_zero, List.set_cons_succ, List.take_succ_cons, List.take_zero, List.drop_succ_cons, List.drop_zero, List.reverse_cons, List.reverse_nil, List.map_cons, List.map_nil, List.sum_cons, List.sum_nil, decide_true, decide_false, and_self, and_true, true_and, true_or, or_true, Fin.isValue, Fin.val_zero, Fin.val_one, Fin.val_two, Fin.reduceFinMk, Nat.reduceMod, Option.some.injEq, Sum.inl.injEq, Sum.inr.injEq, Prod.mk.injEq, eq_self, reduceCtorEq, imp_self, implies_true, Nat.zero_add, Nat.add_zero, Nat.zero_le, Int.reduceEq, Int.reduceLT, Int.reduceLE, Int.reduceNeg, not_true, not_false_iff, false_imp_iff, true_imp_iff, forall_const, or_self, or_false, false_or, and_false, false_and, ↓reduceIte, z_0, z_1, z_f1, z_f2, z_f3, Int.reduceToNat, Int.reduceAdd, ct_X0_goesAsSeen, mi_X0_goesAsSeen, gs, r11, Int.toNat_natCast]
      refine ⟨fun q => absurd q (by omega), fun _ => ⟨by omega, ?_⟩⟩
      refine J_mxS ?_
      refine st_X0_goesAsSeen [(4, [true, true, true])] 20 ?_
      simp only [sy, xisC, sxI, xgI, xgL, xgR, xent, xargs0, p1i, p2i, p1l, p2l, pli, p1r, pir, piir, plir, pvr, pdup, pdup2, pret, xjmp, xcon, xfd, xcl_, xcall, xbr, xsw, xtsw, xst1, xst2, xkill, xpush, xcat, xcl, xar, xkd, xrf, xmask, mR, mL, List.getElem?_cons_zero, List.getElem?_cons_succ, List.lookup_nil, List.lookup_cons, Nat.reduceAdd, Nat.reduceSub, Nat.reduceLeDiff, Nat.reduceEqDiff, Nat.reduceBEq, List.length_cons, List.length_nil, List.replicate, List.append_nil, List.nil_append, List.cons_append, List.set_cons_zero, List.set_cons_succ, List.take_succ_cons, List.take_zero, List.drop_succ_cons, List.drop_zero, List.reverse_cons, List.reverse_nil, List.map_cons, List.map_nil, List.sum_cons, List.sum_nil, decide_true, decide_false, and_self, and_true, true_and, true_or, or_true, Fin.isValue, Fin.val_zero, Fin.val_one, Fin.val_two, Fin.reduceFinMk, Nat.reduceMod, Option.some.injEq, Sum.inl.injEq, Sum.inr.injEq, Prod.mk.injEq, eq_self, reduceCtorEq, imp_self, implies_true, Nat.zero_add, Nat.add_zero, Nat.zero_le, Int.reduceEq, Int.reduceLT, Int.reduceLE, Int.reduceNeg, not_true, not_false_iff, false_imp_iff, true_imp_iff, forall_const, or_self, or_false, false_or, and_false, false_and, ↓reduceIte, z_0, z_1, z_f1, z_f2, z_f3, Int.reduceToNat, Int.reduceAdd, ct_X0_goesAsSeen, mi_X0_goesAsSeen, w2]
      exact ih
  refine in_X0_goesAsSeen (Nat.le_of_ble_eq_true rfl) ?_
  refine st_X0_goesAsSeen [(4, [true, true, true])] 8 ?_
  simp only [sy, xisC, sxI, xgI, xgL, xgR, xent, xargs0, p1i, p2i, p1l, p2l, pli, p1r, pir, piir, plir, pvr, pdup, pdup2, pret, xjmp, xcon, xfd, xcl_, xcall, xbr, xsw, xtsw, xst1, xst2, xkill, xpush, xcat, xcl, xar, xkd, xrf, xmask, mR, mL, List.getElem?_cons_zero, List.getElem?_cons_succ, List.lookup_nil, List.lookup_cons, Nat.reduceAdd, Nat.reduceSub, Nat.reduceLeDiff, Nat.reduceEqDiff, Nat.reduceBEq, List.length_cons, List.length_nil, List.replicate, List.append_nil, List.nil_append, List.cons_append, List.set_cons_zero, List.set_cons_succ, List.take_succ_cons, List.take_zero, List.drop_succ_cons, List.drop_zero, List.reverse_cons, List.reverse_nil, List.map_cons, List.map_nil, List.sum_cons, List.sum_nil, decide_true, decide_false, and_self, and_true, true_and, true_or, or_true, Fin.isValue, Fin.val_zero, Fin.val_one, Fin.val_two, Fin.reduceFinMk, Nat.reduceMod, Option.some.injEq, Sum.inl.injEq, Sum.inr.injEq, Prod.mk.injEq, eq_self, reduceCtorEq, imp_self, implies_true, Nat.zero_add, Nat.add_zero, Nat.zero_le, Int.reduceEq, Int.reduceLT, Int.reduceLE, Int.reduceNeg, not_true, not_false_iff, false_imp_iff, true_imp_iff, forall_const, or_self, or_false, false_or, and_false, false_and, ↓reduceIte, z_0, z_1, z_f1, z_f2, z_f3, Int.reduceToNat, Int.reduceAdd, ct_X0_goesAsSeen, mi_X0_goesAsSeen]
  exact loop _ 0 (Nat.zero_add _)
/-! the model -/
set_option maxRecDepth 100000 in
theorem m_isSo {M : XM} {nd : Nat} {N : Nat → Int} (h : M 24 0 = N) (hn : M 22 0 3 = nd) (hok : okN nd N) (hs : ∀ k, 52 ≤ k → k < 71 → M 23 0 k = N k) : CW mi_X4_isSo [xR 22 0] M (fun r M' => r = some (xI (soK nd N (N 52).toNat)) ∧ frS M M' ∧ (∀ n e, n ≤ 20 → e < nd → M' 31 0 (4 * n + e) = feetW nd al n N (6 * e + 1))) := by
  have h4 := hok.1
  have h52 := hok.2.2.2.2.2.2.1
  have hsj := hok.2.2.2.2.2.2.2
  have hn3 : ∀ M3, frS M M3 → M3 22 0 3 = nd := fun M3 f3 => by rw [f3 22 0 (by decide) (by decide) (by decide) (by decide)]; exact hn
  have hs3 : ∀ M3, frS M M3 → ∀ k, 52 ≤ k → k < 71 → M3 23 0 k = N k := fun M3 f3 k a b => by rw [f3 23 0 (by decide) (by decide) (by decide) (by decide)]; exact hs k a b
  have look : ∀ (M3 : XM), frS M M3 → (∀ n e, n ≤ 20 → e < nd → M3 31 0 (4 * n + e) = feetW nd al n N (6 * e + 1)) → ∀ (m j : Nat), j + m = (N 52).toNat → ∀ x : Option XV, J_X4_isSo (fun r M' => r = some (xI (soK nd N (N 52).toNat)) ∧ frS M M' ∧ (∀ n e, n ≤ 20 → e < nd → M' 31 0 (4 * n + e) = feetW nd al n N (6 * e + 1))) 33 [some (xR 22 0), some (xI (soK nd N j)), some (xI j), x] [] M3 := by
    intro M3 f3 t3 m
    have g52 := hs3 M3 f3 52 (by decide) (by decide)
    induction m with
    | zero =>
      intro j hj x
      have e : j = (N 52).toNat := by omega
      have e' : N 52 = (j : Int) := by omega
      have s01 := so_01 (nd := nd) (N := N) j
      rw [← e]
      refine st_X4_isSo [(39, [true, true, true, true])] 20 ?_
      simp only [sy, xisC, sxI, xgI, xgL, xgR, xent, xargs0, p1i, p2i, p1l, p2l, pli, p1r, pir, piir, plir, pvr, pdup, pdup2, pret, xjmp, xcon, xfd, xcl_, xcall, xbr, xsw, xtsw, xst1, xst2, xkill, xpush, xcat, xcl, xar, xkd, xrf, xmask, mR, mL, List.getElem?_cons_zero, List.getElem?_cons_succ, List.lookup_nil, List.lookup_cons, Nat.reduceAdd, Nat.reduceSub, Nat.reduceLeDiff, Nat.reduceEqDiff, Nat.reduceBEq, List.length_cons, List.length_nil, List.replicate, List.append_nil, List.nil_append, List.cons_append, List.set_cons_zero, List.set_cons_succ, List.take_succ_cons, List.take_zero, List.drop_succ_cons, List.drop_zero, List.reverse_cons, List.reverse_nil, List.map_cons, List.map_nil, List.sum_cons, List.sum_nil, decide_true, decide_false, and_self, and_true, true_and, true_or, or_true, Fin.isValue, Fin.val_zero, Fin.val_one, Fin.val_two, Fin.reduceFinMk, Nat.reduceMod, Option.some.injEq, Sum.inl.injEq, Sum.inr.injEq, Prod.mk.injEq, eq_self, reduceCtorEq, imp_self, implies_true, Nat.zero_add, Nat.add_zero, Nat.zero_le, Int.reduceEq, Int.reduceLT, Int.reduceLE, Int.reduceNeg, not_true, not_false_iff, false_imp_iff, true_imp_iff, forall_const, or_self, or_false, false_or, and_false, false_and, ↓reduceIte, z_0, z_1, z_f1, z_f2, z_f3, Int.reduceToNat, Int.reduceAdd, ct_X4_isSo, mi_X4_isSo, g52, e']
      try exact ⟨by omega, fun _ => ⟨s01, f3, t3⟩, fun q => absurd q (by omega)⟩
      try exact ⟨fun _ => ⟨s01, f3, t3⟩, fun q => absurd q (by omega)⟩
    | succ m ih =>
      intro j hj x
      have hj' : (j : Int) < N 52 := by omega
      obtain ⟨hg, hf, hC⟩ := hsj j hj'
      have w2 : w32 ((j : Int) + 1) = (j + 1 : Nat) := by rw [w32_id (by omega) (by omega)]; rfl
      have a1 : w32 (3 * (j : Int)) = 3 * j := w32_id (by omega) (by omega)
      have a2 : w32 (53 + 3 * (j : Int)) = 53 + 3 * j := w32_id (by omega) (by omega)
      have a3 : w32 (53 + 3 * (j : Int) + 1) = 53 + 3 * j + 1 := w32_id (by omega) (by omega)
      have a4 : w32 (53 + 3 * (j : Int) + 2) = 53 + 3 * j + 2 := w32_id (by omega) (by omega)
      have b2 : (53 + 3 * (j : Int)).toNat = 53 + 3 * j := by omega
      have b3 : (53 + 3 * (j : Int) + 1).toNat = 53 + 3 * j + 1 := by omega
      have b4 : (53 + 3 * (j : Int) + 2).toNat = 53 + 3 * j + 2 := by omega
      have g0 := hs3 M3 f3 (53 + 3 * j) (by omega) (by omega)
      have g1 := hs3 M3 f3 (53 + 3 * j + 1) (by omega) (by omega)
      have g2 := hs3 M3 f3 (53 + 3 * j + 2) (by omega) (by omega)
      have tt := t3 (N (53 + 3 * j + 1)).toNat (N (53 + 3 * j)).toNat (by omega) (by omega)
      have es : soK nd N (j + 1) = if soK nd N j = 1 ∧ feetW nd al (N (53 + 3 * j + 1)).toNat N (6 * (N (53 + 3 * j)).toNat + 1) = N (53 + 3 * j + 2) then 1 else 0 := rfl
      have ih := ih (j + 1) (by omega)
      rw [es, ← tt] at ih
      have c1 : w32 (4 * N (53 + 3 * j + 1)) = 4 * N (53 + 3 * j + 1) := w32_id (by omega) (by omega)
      have c2 : w32 (4 * N (53 + 3 * j + 1) + N (53 + 3 * j)) = 4 * N (53 + 3 * j + 1) + N (53 + 3 * j) := w32_id (by omega) (by omega)
      have c3 : (4 * N (53 + 3 * j + 1) + N (53 + 3 * j)).toNat = 4 * (N (53 + 3 * j + 1)).toNat + (N (53 + 3 * j)).toNat := by omega
      generalize soK nd N (N 52).toNat = zz at ih ⊢
      clear es
      generalize HV : M3 31 0 (4 * (N (53 + 3 * j + 1)).toNat + (N (53 + 3 * j)).toNat) = vv at ih tt
      have e0 : ∀ y : Option XV, J_X4_isSo (fun r M' => r = some (xI zz) ∧ frS M M' ∧ (∀ n e, n ≤ 20 → e < nd → M' 31 0 (4 * n + e) = feetW nd al n N (6 * e + 1))) 33 [some (xR 22 0), some (xI 0), some (xI ((j + 1 : Nat) : Int)), y] [] M3 → J_X4_isSo (fun r M' => r = some (xI zz) ∧ frS M M' ∧ (∀ n e, n ≤ 20 → e < nd → M' 31 0 (4 * n + e) = feetW nd al n N (6 * e + 1))) 72 [some (xR 22 0), some (xI (soK nd N j)), some (xI j), y] [] M3 := by
        intro y hy
        refine st_X4_isSo [(33, [true, true, true, true])] 20 ?_
        simp only [sy, xisC, sxI, xgI, xgL, xgR, xent, xargs0, p1i, p2i, p1l, p2l, pli, p1r, pir, piir, plir, pvr, pdup, pdup2, pret, xjmp, xcon, xfd, xcl_, xcall, xbr, xsw, xtsw, xst1, xst2, xkill, xpush, xcat, xcl, xar, xkd, xrf, xmask, mR, mL, List.getElem?_cons_zero, List.getElem?_cons_succ, List.lookup_nil, List.lookup_cons, Nat.reduceAdd, Nat.reduceSub, Nat.reduceLeDiff, Nat.reduceEqDiff, Nat.reduceBEq, List.length_cons, List.length_nil, List.replicate, List.append_nil, List.nil_append, List.cons_append, List.set_cons_zero, List.set_cons_succ, List.take_succ_cons, List.take_zero, List.drop_succ_cons, List.drop_zero, List.reverse_cons, List.reverse_nil, List.map_cons, List.map_nil, List.sum_cons, List.sum_nil, decide_true, decide_false, and_self, and_true, true_and, true_or, or_true, Fin.isValue, Fin.val_zero, Fin.val_one, Fin.val_two, Fin.reduceFinMk, Nat.reduceMod, Option.some.injEq, Sum.inl.injEq, Sum.inr.injEq, Prod.mk.injEq, eq_self, reduceCtorEq, imp_self, implies_true, Nat.zero_add, Nat.add_zero, Nat.zero_le, Int.reduceEq, Int.reduceLT, Int.reduceLE, Int.reduceNeg, not_true, not_false_iff, false_imp_iff, true_imp_iff, forall_const, or_self, or_false, false_or, and_false, false_and, ↓reduceIte, z_0, z_1, z_f1, z_f2, z_f3, Int.reduceToNat, Int.reduceAdd, ct_X4_isSo, mi_X4_isSo, w2]
        exact hy
      rcases so_01 (nd := nd) (N := N) j with q | q
      · rw [if_neg (by rw [q]; rintro ⟨a, -⟩; exact absurd a (by decide))] at ih
        have e0 := e0 (some (xI (53 + 3 * (j : Int)))) (ih _)
        rw [q] at e0 ⊢
        refine st_X4_isSo [(45, [true, true, true, true])] 20 ?_
        simp only [sy, xisC, sxI, xgI, xgL, xgR, xent, xargs0, p1i, p2i, p1l, p2l, pli, p1r, pir, piir, plir, pvr, pdup, pdup2, pret, xjmp, xcon, xfd, xcl_, xcall, xbr, xsw, xtsw, xst1, xst2, xkill, xpush, xcat, xcl, xar, xkd, xrf, xmask, mR, mL, List.getElem?_cons_zero, List.getElem?_cons_succ, List.lookup_nil, List.lookup_cons, Nat.reduceAdd, Nat.reduceSub, Nat.reduceLeDiff, Nat.reduceEqDiff, Nat.reduceBEq, List.length_cons, List.length_nil, List.replicate, List.append_nil, List.nil_append, List.cons_append, List.set_cons_zero, List.set_cons_succ, List.take_succ_cons, List.take_zero, List.drop_succ_cons, List.drop_zero, List.reverse_cons, List.reverse_nil, List.map_cons, List.map_nil, List.sum_cons, List.sum_nil, decide_true, decide_false, and_self, and_true, true_and, true_or, or_true, Fin.isValue, Fin.val_zero, Fin.val_one, Fin.val_two, Fin.reduceFinMk, Nat.reduceMod, Option.some.injEq, Sum.inl.injEq, Sum.inr.injEq, Prod.mk.injEq, eq_self, reduceCtorEq, imp_self, implies_true, Nat.zero_add, Nat.add_zero, Nat.zero_le, Int.reduceEq, Int.reduceLT, Int.reduceLE, Int.reduceNeg, not_true, not_false_iff, false_imp_iff, true_imp_iff, forall_const, or_self, or_false, false_or, and_false, false_and, ↓reduceIte, z_0, z_1, z_f1, z_f2, z_f3, Int.reduceToNat, Int.reduceAdd, ct_X4_isSo, mi_X4_isSo, g52, a1, a2]
        refine ⟨by omega, fun q => absurd q (by omega), fun _ => ?_⟩
        refine st_X4_isSo [(72, [true, true, true, true])] 20 ?_
        simp only [sy, xisC, sxI, xgI, xgL, xgR, xent, xargs0, p1i, p2i, p1l, p2l, pli, p1r, pir, piir, plir, pvr, pdup, pdup2, pret, xjmp, xcon, xfd, xcl_, xcall, xbr, xsw, xtsw, xst1, xst2, xkill, xpush, xcat, xcl, xar, xkd, xrf, xmask, mR, mL, List.getElem?_cons_zero, List.getElem?_cons_succ, List.lookup_nil, List.lookup_cons, Nat.reduceAdd, Nat.reduceSub, Nat.reduceLeDiff, Nat.reduceEqDiff, Nat.reduceBEq, List.length_cons, List.length_nil, List.replicate, List.append_nil, List.nil_append, List.cons_append, List.set_cons_zero, List.set_cons_succ, List.take_succ_cons, List.take_zero, List.drop_succ_cons, List.drop_zero, List.reverse_cons, List.reverse_nil, List.map_cons, List.map_nil, List.sum_cons, List.sum_nil, decide_true, decide_false, and_self, and_true, true_and, true_or, or_true, Fin.isValue, Fin.val_zero, Fin.val_one, Fin.val_two, Fin.reduceFinMk, Nat.reduceMod, Option.some.injEq, Sum.inl.injEq, Sum.inr.injEq, Prod.mk.injEq, eq_self, reduceCtorEq, imp_self, implies_true, Nat.zero_add, Nat.add_zero, Nat.zero_le, Int.reduceEq, Int.reduceLT, Int.reduceLE, Int.reduceNeg, not_true, not_false_iff, false_imp_iff, true_imp_iff, forall_const, or_self, or_false, false_or, and_false, false_and, ↓reduceIte, z_0, z_1, z_f1, z_f2, z_f3, Int.reduceToNat, Int.reduceAdd, ct_X4_isSo, mi_X4_isSo]
        exact e0
      · rw [q] at ih e0 ⊢
        by_cases q2 : vv = N (53 + 3 * j + 2)
        · rw [if_pos ⟨rfl, q2⟩] at ih
          refine st_X4_isSo [(45, [true, true, true, true])] 20 ?_
          simp only [sy, xisC, sxI, xgI, xgL, xgR, xent, xargs0, p1i, p2i, p1l, p2l, pli, p1r, pir, piir, plir, pvr, pdup, pdup2, pret, xjmp, xcon, xfd, xcl_, xcall, xbr, xsw, xtsw, xst1, xst2, xkill, xpush, xcat, xcl, xar, xkd, xrf, xmask, mR, mL, List.getElem?_cons_zero, List.getElem?_cons_succ, List.lookup_nil, List.lookup_cons, Nat.reduceAdd, Nat.reduceSub, Nat.reduceLeDiff, Nat.reduceEqDiff, Nat.reduceBEq, List.length_cons, List.length_nil, List.replicate, List.append_nil, List.nil_append, List.cons_append, List.set_cons_zero, List.set_cons_succ, List.take_succ_cons, List.take_zero, List.drop_succ_cons, List.drop_zero, List.reverse_cons, List.reverse_nil, List.map_cons, List.map_nil, List.sum_cons, List.sum_nil, decide_true, decide_false, and_self, and_true, true_and, true_or, or_true, Fin.isValue, Fin.val_zero, Fin.val_one, Fin.val_two, Fin.reduceFinMk, Nat.reduceMod, Option.some.injEq, Sum.inl.injEq, Sum.inr.injEq, Prod.mk.injEq, eq_self, reduceCtorEq, imp_self, implies_true, Nat.zero_add, Nat.add_zero, Nat.zero_le, Int.reduceEq, Int.reduceLT, Int.reduceLE, Int.reduceNeg, not_true, not_false_iff, false_imp_iff, true_imp_iff, forall_const, or_self, or_false, false_or, and_false, false_and, ↓reduceIte, z_0, z_1, z_f1, z_f2, z_f3, Int.reduceToNat, Int.reduceAdd, ct_X4_isSo, mi_X4_isSo, g52, a1, a2]
          refine ⟨by omega, fun q => absurd q (by omega), fun _ => ?_⟩
          refine st_X4_isSo [(70, [true, true, true, true])] 40 ?_
          simp only [sy, xisC, sxI, xgI, xgL, xgR, xent, xargs0, p1i, p2i, p1l, p2l, pli, p1r, pir, piir, plir, pvr, pdup, pdup2, pret, xjmp, xcon, xfd, xcl_, xcall, xbr, xsw, xtsw, xst1, xst2, xkill, xpush, xcat, xcl, xar, xkd, xrf, xmask, mR, mL, List.getElem?_cons_zero, List.getElem?_cons_succ, List.lookup_nil, List.lookup_cons, Nat.reduceAdd, Nat.reduceSub, Nat.reduceLeDiff, Nat.reduceEqDiff, Nat.reduceBEq, List.length_cons, List.length_nil, List.replicate, List.append_nil, List.nil_append, List.cons_append, List.set_cons_zero, List.set_cons_succ, List.take_succ_cons, List.take_zero, List.drop_succ_cons, List.drop_zero, List.reverse_cons, List.reverse_nil, List.map_cons, List.map_nil, List.sum_cons, List.sum_nil, decide_true, decide_false, and_self, and_true, true_and, true_or, or_true, Fin.isValue, Fin.val_zero, Fin.val_one, Fin.val_two, Fin.reduceFinMk, Nat.reduceMod, Option.some.injEq, Sum.inl.injEq, Sum.inr.injEq, Prod.mk.injEq, eq_self, reduceCtorEq, imp_self, implies_true, Nat.zero_add, Nat.add_zero, Nat.zero_le, Int.reduceEq, Int.reduceLT, Int.reduceLE, Int.reduceNeg, not_true, not_false_iff, false_imp_iff, true_imp_iff, forall_const, or_self, or_false, false_or, and_false, false_and, ↓reduceIte, z_0, z_1, z_f1, z_f2, z_f3, Int.reduceToNat, Int.reduceAdd, ct_X4_isSo, mi_X4_isSo, n1z, a3, a4, b2, b3, b4, g0, g1, g2, c1, c2, c3, HV, q2]
          refine ⟨by omega, by omega, by omega, by omega, ?_⟩
          refine st_X4_isSo [(33, [true, true, true, true])] 20 ?_
          simp only [sy, xisC, sxI, xgI, xgL, xgR, xent, xargs0, p1i, p2i, p1l, p2l, pli, p1r, pir, piir, plir, pvr, pdup, pdup2, pret, xjmp, xcon, xfd, xcl_, xcall, xbr, xsw, xtsw, xst1, xst2, xkill, xpush, xcat, xcl, xar, xkd, xrf, xmask, mR, mL, List.getElem?_cons_zero, List.getElem?_cons_succ, List.lookup_nil, List.lookup_cons, Nat.reduceAdd, Nat.reduceSub, Nat.reduceLeDiff, Nat.reduceEqDiff, Nat.reduceBEq, List.length_cons, List.length_nil, List.replicate, List.append_nil, List.nil_append, List.cons_append, List.set_cons_zero, List.set_cons_succ, List.take_succ_cons, List.take_zero, List.drop_succ_cons, List.drop_zero, List.reverse_cons, List.reverse_nil, List.map_cons, List.map_nil, List.sum_cons, List.sum_nil, decide_true, decide_false, and_self, and_true, true_and, true_or, or_true, Fin.isValue, Fin.val_zero, Fin.val_one, Fin.val_two, Fin.reduceFinMk, Nat.reduceMod, Option.some.injEq, Sum.inl.injEq, Sum.inr.injEq, Prod.mk.injEq, eq_self, reduceCtorEq, imp_self, implies_true, Nat.zero_add, Nat.add_zero, Nat.zero_le, Int.reduceEq, Int.reduceLT, Int.reduceLE, Int.reduceNeg, not_true, not_false_iff, false_imp_iff, true_imp_iff, forall_const, or_self, or_false, false_or, and_false, false_and, ↓reduceIte, z_0, z_1, z_f1, z_f2, z_f3, Int.reduceToNat, Int.reduceAdd, ct_X4_isSo, mi_X4_isSo, w2]
          exact ih _
        · rw [if_neg (fun a => q2 a.2)] at ih
          refine st_X4_isSo [(45, [true, true, true, true])] 20 ?_
          simp only [sy, xisC, sxI, xgI, xgL, xgR, xent, xargs0, p1i, p2i, p1l, p2l, pli, p1r, pir, piir, plir, pvr, pdup, pdup2, pret, xjmp, xcon, xfd, xcl_, xcall, xbr, xsw, xtsw, xst1, xst2, xkill, xpush, xcat, xcl, xar, xkd, xrf, xmask, mR, mL, List.getElem?_cons_zero, List.getElem?_cons_succ, List.lookup_nil, List.lookup_cons, Nat.reduceAdd, Nat.reduceSub, Nat.reduceLeDiff, Nat.reduceEqDiff, Nat.reduceBEq, List.length_cons, List.length_nil, List.replicate, List.append_nil, List.nil_append, List.cons_append, List.set_cons_zero, List.set_cons_succ, List.take_succ_cons, List.take_zero, List.drop_succ_cons, List.drop_zero, List.reverse_cons, List.reverse_nil, List.map_cons, List.map_nil, List.sum_cons, List.sum_nil, decide_true, decide_false, and_self, and_true, true_and, true_or, or_true, Fin.isValue, Fin.val_zero, Fin.val_one, Fin.val_two, Fin.reduceFinMk, Nat.reduceMod, Option.some.injEq, Sum.inl.injEq, Sum.inr.injEq, Prod.mk.injEq, eq_self, reduceCtorEq, imp_self, implies_true, Nat.zero_add, Nat.add_zero, Nat.zero_le, Int.reduceEq, Int.reduceLT, Int.reduceLE, Int.reduceNeg, not_true, not_false_iff, false_imp_iff, true_imp_iff, forall_const, or_self, or_false, false_or, and_false, false_and, ↓reduceIte, z_0, z_1, z_f1, z_f2, z_f3, Int.reduceToNat, Int.reduceAdd, ct_X4_isSo, mi_X4_isSo, g52, a1, a2]
          refine ⟨by omega, fun q => absurd q (by omega), fun _ => ?_⟩
          refine st_X4_isSo [(72, [true, true, true, true])] 40 ?_
          simp only [sy, xisC, sxI, xgI, xgL, xgR, xent, xargs0, p1i, p2i, p1l, p2l, pli, p1r, pir, piir, plir, pvr, pdup, pdup2, pret, xjmp, xcon, xfd, xcl_, xcall, xbr, xsw, xtsw, xst1, xst2, xkill, xpush, xcat, xcl, xar, xkd, xrf, xmask, mR, mL, List.getElem?_cons_zero, List.getElem?_cons_succ, List.lookup_nil, List.lookup_cons, Nat.reduceAdd, Nat.reduceSub, Nat.reduceLeDiff, Nat.reduceEqDiff, Nat.reduceBEq, List.length_cons, List.length_nil, List.replicate, List.append_nil, List.nil_append, List.cons_append, List.set_cons_zero, List.set_cons_succ, List.take_succ_cons, List.take_zero, List.drop_succ_cons, List.drop_zero, List.reverse_cons, List.reverse_nil, List.map_cons, List.map_nil, List.sum_cons, List.sum_nil, decide_true, decide_false, and_self, and_true, true_and, true_or, or_true, Fin.isValue, Fin.val_zero, Fin.val_one, Fin.val_two, Fin.reduceFinMk, Nat.reduceMod, Option.some.injEq, Sum.inl.injEq, Sum.inr.injEq, Prod.mk.injEq, eq_self, reduceCtorEq, imp_self, implies_true, Nat.zero_add, Nat.add_zero, Nat.zero_le, Int.reduceEq, Int.reduceLT, Int.reduceLE, Int.reduceNeg, not_true, not_false_iff, false_imp_iff, true_imp_iff, forall_const, or_self, or_false, false_or, and_false, false_and, ↓reduceIte, z_0, z_1, z_f1, z_f2, z_f3, Int.reduceToNat, Int.reduceAdd, ct_X4_isSo, mi_X4_isSo, n1z, a3, a4, b2, b3, b4, g0, g1, g2, c1, c2, c3, HV, q2]
          refine ⟨by omega, by omega, by omega, by omega, ?_⟩
          exact e0 _ (ih _)
  have recd : ∀ (m n : Nat) (M3 : XM), n + m = 21 → M3 24 0 = feetW nd al n N → (∀ j e, j < n → e < nd → M3 31 0 (4 * j + e) = feetW nd al j N (6 * e + 1)) → frS M M3 → ∀ x y : Option XV, J_X4_isSo (fun r M' => r = some (xI (soK nd N (N 52).toNat)) ∧ frS M M' ∧ (∀ n e, n ≤ 20 → e < nd → M' 31 0 (4 * n + e) = feetW nd al n N (6 * e + 1))) 2 [some (xR 22 0), some (xI n), x, y] [] M3 := by
    intro m
    induction m with
    | zero =>
      intro n M3 hm e3 t3 f3 x y
      have e : n = 21 := by omega
      subst e
      have lk := look M3 f3 (fun a b c d => t3 a b (by omega) d) _ 0 (Nat.zero_add _) y
      rw [show soK nd N 0 = 1 from rfl] at lk
      generalize soK nd N (N 52).toNat = zz at lk ⊢
      refine st_X4_isSo [(5, [true, true, true, true]), (33, [true, true, true, true])] 20 ?_
      simp only [sy, xisC, sxI, xgI, xgL, xgR, xent, xargs0, p1i, p2i, p1l, p2l, pli, p1r, pir, piir, plir, pvr, pdup, pdup2, pret, xjmp, xcon, xfd, xcl_, xcall, xbr, xsw, xtsw, xst1, xst2, xkill, xpush, xcat, xcl, xar, xkd, xrf, xmask, mR, mL, List.getElem?_cons_zero, List.getElem?_cons_succ, List.lookup_nil, List.lookup_cons, Nat.reduceAdd, Nat.reduceSub, Nat.reduceLeDiff, Nat.reduceEqDiff, Nat.reduceBEq, List.length_cons, List.length_nil, List.replicate, List.append_nil, List.nil_append, List.cons_append, List.set_cons_zero, List.set_cons_succ, List.take_succ_cons, List.take_zero, List.drop_succ_cons, List.drop_zero, List.reverse_cons, List.reverse_nil, List.map_cons, List.map_nil, List.sum_cons, List.sum_nil, decide_true, decide_false, and_self, and_true, true_and, true_or, or_true, Fin.isValue, Fin.val_zero, Fin.val_one, Fin.val_two, Fin.reduceFinMk, Nat.reduceMod, Option.some.injEq, Sum.inl.injEq, Sum.inr.injEq, Prod.mk.injEq, eq_self, reduceCtorEq, imp_self, implies_true, Nat.zero_add, Nat.add_zero, Nat.zero_le, Int.reduceEq, Int.reduceLT, Int.reduceLE, Int.reduceNeg, not_true, not_false_iff, false_imp_iff, true_imp_iff, forall_const, or_self, or_false, false_or, and_false, false_and, ↓reduceIte, z_0, z_1, z_f1, z_f2, z_f3, Int.reduceToNat, Int.reduceAdd, ct_X4_isSo, mi_X4_isSo]
      try exact lk
      try exact ⟨fun _ => lk, fun q => absurd q (by omega)⟩
    | succ m ih =>
      intro n M3 hm e3 t3 f3 x y
      have okn := ok_feetW (who := al) hok n
      have w2 : w32 ((n : Int) + 1) = (n + 1 : Nat) := by rw [w32_id (by omega) (by omega)]; rfl
      have ih := ih (n + 1)
      generalize soK nd N (N 52).toNat = zz at ih ⊢
      have wr : ∀ (m' d : Nat) (M5 : XM), d + m' = nd → M5 24 0 = feetW nd al n N → (∀ j e, j < n → e < nd → M5 31 0 (4 * j + e) = feetW nd al j N (6 * e + 1)) → (∀ e, e < d → M5 31 0 (4 * n + e) = feetW nd al n N (6 * e + 1)) → frS M M5 → J_X4_isSo (fun r M' => r = some (xI zz) ∧ frS M M' ∧ (∀ n e, n ≤ 20 → e < nd → M' 31 0 (4 * n + e) = feetW nd al n N (6 * e + 1))) 7 [some (xR 22 0), some (xI n), some (xI d), y] [] M5 := by
        intro m'
        induction m' with
        | zero =>
          intro d M5 hd e5 t5 u5 f5
          have e : d = nd := by omega
          subst e
          have n5 := hn3 M5 f5
          refine st_X4_isSo [(11, [true, true, true, true])] 20 ?_
          simp only [sy, xisC, sxI, xgI, xgL, xgR, xent, xargs0, p1i, p2i, p1l, p2l, pli, p1r, pir, piir, plir, pvr, pdup, pdup2, pret, xjmp, xcon, xfd, xcl_, xcall, xbr, xsw, xtsw, xst1, xst2, xkill, xpush, xcat, xcl, xar, xkd, xrf, xmask, mR, mL, List.getElem?_cons_zero, List.getElem?_cons_succ, List.lookup_nil, List.lookup_cons, Nat.reduceAdd, Nat.reduceSub, Nat.reduceLeDiff, Nat.reduceEqDiff, Nat.reduceBEq, List.length_cons, List.length_nil, List.replicate, List.append_nil, List.nil_append, List.cons_append, List.set_cons_zero, List.set_cons_succ, List.take_succ_cons, List.take_zero, List.drop_succ_cons, List.drop_zero, List.reverse_cons, List.reverse_nil, List.map_cons, List.map_nil, List.sum_cons, List.sum_nil, decide_true, decide_false, and_self, and_true, true_and, true_or, or_true, Fin.isValue, Fin.val_zero, Fin.val_one, Fin.val_two, Fin.reduceFinMk, Nat.reduceMod, Option.some.injEq, Sum.inl.injEq, Sum.inr.injEq, Prod.mk.injEq, eq_self, reduceCtorEq, imp_self, implies_true, Nat.zero_add, Nat.add_zero, Nat.zero_le, Int.reduceEq, Int.reduceLT, Int.reduceLE, Int.reduceNeg, not_true, not_false_iff, false_imp_iff, true_imp_iff, forall_const, or_self, or_false, false_or, and_false, false_and, ↓reduceIte, z_0, z_1, z_f1, z_f2, z_f3, Int.reduceToNat, Int.reduceAdd, ct_X4_isSo, mi_X4_isSo, n5]
          refine ⟨fun _ => ?_, fun q => absurd q (by omega)⟩
          refine CW.mono (c_footGoes e5 n5 okn) ?_
          rintro _ M6 ⟨rfl, e6, f6⟩
          refine st_X4_isSo [(2, [true, true, true, true])] 20 ?_
          simp only [sy, xisC, sxI, xgI, xgL, xgR, xent, xargs0, p1i, p2i, p1l, p2l, pli, p1r, pir, piir, plir, pvr, pdup, pdup2, pret, xjmp, xcon, xfd, xcl_, xcall, xbr, xsw, xtsw, xst1, xst2, xkill, xpush, xcat, xcl, xar, xkd, xrf, xmask, mR, mL, List.getElem?_cons_zero, List.getElem?_cons_succ, List.lookup_nil, List.lookup_cons, Nat.reduceAdd, Nat.reduceSub, Nat.reduceLeDiff, Nat.reduceEqDiff, Nat.reduceBEq, List.length_cons, List.length_nil, List.replicate, List.append_nil, List.nil_append, List.cons_append, List.set_cons_zero, List.set_cons_succ, List.take_succ_cons, List.take_zero, List.drop_succ_cons, List.drop_zero, List.reverse_cons, List.reverse_nil, List.map_cons, List.map_nil, List.sum_cons, List.sum_nil, decide_true, decide_false, and_self, and_true, true_and, true_or, or_true, Fin.isValue, Fin.val_zero, Fin.val_one, Fin.val_two, Fin.reduceFinMk, Nat.reduceMod, Option.some.injEq, Sum.inl.injEq, Sum.inr.injEq, Prod.mk.injEq, eq_self, reduceCtorEq, imp_self, implies_true, Nat.zero_add, Nat.add_zero, Nat.zero_le, Int.reduceEq, Int.reduceLT, Int.reduceLE, Int.reduceNeg, not_true, not_false_iff, false_imp_iff, true_imp_iff, forall_const, or_self, or_false, false_or, and_false, false_and, ↓reduceIte, z_0, z_1, z_f1, z_f2, z_f3, Int.reduceToNat, Int.reduceAdd, ct_X4_isSo, mi_X4_isSo, w2]
          refine ih M6 (by omega) e6 (fun j e hj he => ?_) (frS_N f5 f6) _ _
          rw [f6 31 0 (by omega)]
          by_cases q : j = n
          · subst q; exact u5 e he
          · exact t5 j e (by omega) he
        | succ m' ih2 =>
          intro d M5 hd e5 t5 u5 f5
          have n5 := hn3 M5 f5
          have w3 : w32 ((d : Int) + 1) = (d + 1 : Nat) := by rw [w32_id (by omega) (by omega)]; rfl
          have a1 : w32 (4 * (n : Int)) = 4 * n := w32_id (by omega) (by omega)
          have a2 : w32 (4 * (n : Int) + d) = 4 * n + d := w32_id (by omega) (by omega)
          have a3 : (4 * (n : Int) + d).toNat = 4 * n + d := by omega
          have go := ih2 (d + 1) (xup M5 31 0 (4 * n + d) (feetW nd al n N (6 * d + 1))) (by omega) (by rw [xup_t (by decide)]; exact e5) (fun j e hj he => by rw [xup_k (by omega)]; exact t5 j e hj he) (fun e he => by
            rw [xup_s]
            by_cases q : e = d
            · subst q; rw [if_pos rfl]
            · rw [if_neg (by omega)]; exact u5 e (by omega)) (frS_up f5 (by omega))
          refine st_X4_isSo [] 20 ?_
          simp only [sy, xisC, sxI, xgI, xgL, xgR, xent, xargs0, p1i, p2i, p1l, p2l, pli, p1r, pir, piir, plir, pvr, pdup, pdup2, pret, xjmp, xcon, xfd, xcl_, xcall, xbr, xsw, xtsw, xst1, xst2, xkill, xpush, xcat, xcl, xar, xkd, xrf, xmask, mR, mL, List.getElem?_cons_zero, List.getElem?_cons_succ, List.lookup_nil, List.lookup_cons, Nat.reduceAdd, Nat.reduceSub, Nat.reduceLeDiff, Nat.reduceEqDiff, Nat.reduceBEq, List.length_cons, List.length_nil, List.replicate, List.append_nil, List.nil_append, List.cons_append, List.set_cons_zero, List.set_cons_succ, List.take_succ_cons, List.take_zero, List.drop_succ_cons, List.drop_zero, List.reverse_cons, List.reverse_nil, List.map_cons, List.map_nil, List.sum_cons, List.sum_nil, decide_true, decide_false, and_self, and_true, true_and, true_or, or_true, Fin.isValue, Fin.val_zero, Fin.val_one, Fin.val_two, Fin.reduceFinMk, Nat.reduceMod, Option.some.injEq, Sum.inl.injEq, Sum.inr.injEq, Prod.mk.injEq, eq_self, reduceCtorEq, imp_self, implies_true, Nat.zero_add, Nat.add_zero, Nat.zero_le, Int.reduceEq, Int.reduceLT, Int.reduceLE, Int.reduceNeg, not_true, not_false_iff, false_imp_iff, true_imp_iff, forall_const, or_self, or_false, false_or, and_false, false_and, ↓reduceIte, z_0, z_1, z_f1, z_f2, z_f3, Int.reduceToNat, Int.reduceAdd, ct_X4_isSo, mi_X4_isSo, n5, a1, a2]
          refine ⟨fun q => absurd q (by omega), fun _ => ?_⟩
          refine CW.mono (c_of M5 d 1 1 rfl (by omega)) ?_
          rintro _ M1 ⟨rfl, hM1⟩; rw [hM1]; clear hM1 M1
          rw [e5]
          refine st_X4_isSo [(7, [true, true, true, true])] 20 ?_
          simp only [sy, xisC, sxI, xgI, xgL, xgR, xent, xargs0, p1i, p2i, p1l, p2l, pli, p1r, pir, piir, plir, pvr, pdup, pdup2, pret, xjmp, xcon, xfd, xcl_, xcall, xbr, xsw, xtsw, xst1, xst2, xkill, xpush, xcat, xcl, xar, xkd, xrf, xmask, mR, mL, List.getElem?_cons_zero, List.getElem?_cons_succ, List.lookup_nil, List.lookup_cons, Nat.reduceAdd, Nat.reduceSub, Nat.reduceLeDiff, Nat.reduceEqDiff, Nat.reduceBEq, List.length_cons, List.length_nil, List.replicate, List.append_nil, List.nil_append, List.cons_append, List.set_cons_zero, List.set_cons_succ, List.take_succ_cons, List.take_zero, List.drop_succ_cons, List.drop_zero, List.reverse_cons, List.reverse_nil, List.map_cons, List.map_nil, List.sum_cons, List.sum_nil, decide_true, decide_false, and_self, and_true, true_and, true_or, or_true, Fin.isValue, Fin.val_zero, Fin.val_one, Fin.val_two, Fin.reduceFinMk, Nat.reduceMod, Option.some.injEq, Sum.inl.injEq, Sum.inr.injEq, Prod.mk.injEq, eq_self, reduceCtorEq, imp_self, implies_true, Nat.zero_add, Nat.add_zero, Nat.zero_le, Int.reduceEq, Int.reduceLT, Int.reduceLE, Int.reduceNeg, not_true, not_false_iff, false_imp_iff, true_imp_iff, forall_const, or_self, or_false, false_or, and_false, false_and, ↓reduceIte, z_0, z_1, z_f1, z_f2, z_f3, Int.reduceToNat, Int.reduceAdd, ct_X4_isSo, mi_X4_isSo, a3, w3]
          exact ⟨by omega, go⟩
      refine st_X4_isSo [(7, [true, true, true, true])] 20 ?_
      simp only [sy, xisC, sxI, xgI, xgL, xgR, xent, xargs0, p1i, p2i, p1l, p2l, pli, p1r, pir, piir, plir, pvr, pdup, pdup2, pret, xjmp, xcon, xfd, xcl_, xcall, xbr, xsw, xtsw, xst1, xst2, xkill, xpush, xcat, xcl, xar, xkd, xrf, xmask, mR, mL, List.getElem?_cons_zero, List.getElem?_cons_succ, List.lookup_nil, List.lookup_cons, Nat.reduceAdd, Nat.reduceSub, Nat.reduceLeDiff, Nat.reduceEqDiff, Nat.reduceBEq, List.length_cons, List.length_nil, List.replicate, List.append_nil, List.nil_append, List.cons_append, List.set_cons_zero, List.set_cons_succ, List.take_succ_cons, List.take_zero, List.drop_succ_cons, List.drop_zero, List.reverse_cons, List.reverse_nil, List.map_cons, List.map_nil, List.sum_cons, List.sum_nil, decide_true, decide_false, and_self, and_true, true_and, true_or, or_true, Fin.isValue, Fin.val_zero, Fin.val_one, Fin.val_two, Fin.reduceFinMk, Nat.reduceMod, Option.some.injEq, Sum.inl.injEq, Sum.inr.injEq, Prod.mk.injEq, eq_self, reduceCtorEq, imp_self, implies_true, Nat.zero_add, Nat.add_zero, Nat.zero_le, Int.reduceEq, Int.reduceLT, Int.reduceLE, Int.reduceNeg, not_true, not_false_iff, false_imp_iff, true_imp_iff, forall_const, or_self, or_false, false_or, and_false, false_and, ↓reduceIte, z_0, z_1, z_f1, z_f2, z_f3, Int.reduceToNat, Int.reduceAdd, ct_X4_isSo, mi_X4_isSo]
      refine ⟨fun q => absurd q (by omega), fun _ => ?_⟩
      exact wr nd 0 M3 (by omega) e3 t3 (fun e he => absurd he (by omega)) f3
  refine in_X4_isSo (Nat.le_of_ble_eq_true rfl) ?_
  refine st_X4_isSo [(2, [true, true, true, true])] 8 ?_
  simp only [sy, xisC, sxI, xgI, xgL, xgR, xent, xargs0, p1i, p2i, p1l, p2l, pli, p1r, pir, piir, plir, pvr, pdup, pdup2, pret, xjmp, xcon, xfd, xcl_, xcall, xbr, xsw, xtsw, xst1, xst2, xkill, xpush, xcat, xcl, xar, xkd, xrf, xmask, mR, mL, List.getElem?_cons_zero, List.getElem?_cons_succ, List.lookup_nil, List.lookup_cons, Nat.reduceAdd, Nat.reduceSub, Nat.reduceLeDiff, Nat.reduceEqDiff, Nat.reduceBEq, List.length_cons, List.length_nil, List.replicate, List.append_nil, List.nil_append, List.cons_append, List.set_cons_zero, List.set_cons_succ, List.take_succ_cons, List.take_zero, List.drop_succ_cons, List.drop_zero, List.reverse_cons, List.reverse_nil, List.map_cons, List.map_nil, List.sum_cons, List.sum_nil, decide_true, decide_false, and_self, and_true, true_and, true_or, or_true, Fin.isValue, Fin.val_zero, Fin.val_one, Fin.val_two, Fin.reduceFinMk, Nat.reduceMod, Option.some.injEq, Sum.inl.injEq, Sum.inr.injEq, Prod.mk.injEq, eq_self, reduceCtorEq, imp_self, implies_true, Nat.zero_add, Nat.add_zero, Nat.zero_le, Int.reduceEq, Int.reduceLT, Int.reduceLE, Int.reduceNeg, not_true, not_false_iff, false_imp_iff, true_imp_iff, forall_const, or_self, or_false, false_or, and_false, false_and, ↓reduceIte, z_0, z_1, z_f1, z_f2, z_f3, Int.reduceToNat, Int.reduceAdd, ct_X4_isSo, mi_X4_isSo]
  exact recd 21 0 M rfl h (fun j e hj => absurd hj (by omega)) frS_rf _ _
theorem gl_so {P N : Nat → Int} {nd : Nat} (hok : okN nd N) : ∀ k : Nat, (k : Int) ≤ N 52 → soK nd (gl P N) k = soK nd N k
  | 0, _ => rfl
  | k + 1, hk => by
    have h4 := hok.1
    have h52 := hok.2.2.2.2.2.2.1
    have hg := (hok.2.2.2.2.2.2.2 k (by omega)).1
    unfold soK
    rw [gl_so hok k (by omega), gl_k (k := 53 + 3 * k) (by omega), gl_k (k := 53 + 3 * k + 1) (by omega), gl_k (k := 53 + 3 * k + 2) (by omega), gl_feet hok, gl_k (by omega)]

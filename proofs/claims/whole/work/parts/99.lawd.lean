/-! ===== the law: its start ===== -/
theorem k_rotP {D : va_G} {cl : List vw_C} {x : Nat × va_E} {w1 : va_W} {H : Heap} (h : va_P D cl (w1 ++ [x]) H) : va_P D cl (x :: w1) H := by
  intro k q hq
  have hm := List.mem_of_getElem? hq
  have hm2 : q ∈ w1 ++ [x] := by
    simp only [List.mem_append, List.mem_cons, List.not_mem_nil, or_false] at hm ⊢
    rcases hm with a | a
    · exact Or.inr a
    · exact Or.inl a
  obtain ⟨k2, hk2⟩ := List.getElem?_of_mem hm2
  exact h k2 q hk2
theorem k_rotD {A : Nat → Prop} {x : Nat × va_E} {w1 : va_W} (h : va_D A (w1 ++ [x])) : va_D A (x :: w1) := by
  have key : ∀ (k : Nat) (q : Nat × va_E), (x :: w1)[k]? = some q → k ≤ w1.length ∧ (w1 ++ [x])[if k = 0 then w1.length else k - 1]? = some q := by
    intro k q hq
    cases k with
    | zero =>
      rw [List.getElem?_cons_zero] at hq
      refine ⟨by omega, ?_⟩
      rw [if_pos rfl]
      simp [hq]
    | succ k =>
      rw [List.getElem?_cons_succ] at hq
      have hk := (List.getElem?_eq_some_iff.mp hq).1
      refine ⟨by omega, ?_⟩
      rw [if_neg (by omega), Nat.add_sub_cancel, List.getElem?_append_left hk]
      exact hq
  refine ⟨fun a b p q ha hb e => ?_, fun k q hq => h.2 _ q (key k q hq).2⟩
  have := h.1 _ _ p q (key a p ha).2 (key b q hb).2 e
  have h1 := (key a p ha).1
  have h2 := (key b q hb).1
  split at this <;> split at this <;> omega
abbrev gv_1 : Jvm.Cond := Jvm.Cond.and given_1 narrow_1
def tmS (i : Nat) : Term := .string RX2 (xtx i).1
theorem gv_ex : ∀ i, i < 7 → Cond.exactly (tmS i) "java/lang/String" ∈ flatC gv_1 := by decide +kernel
theorem gv_co : ∀ i, i < 7 → Cond.eq (.field (tmS i) "java/lang/String" "coder" "B") (.int 0) ∈ flatC gv_1 := by decide +kernel
theorem gv_ar : ∀ i, i < 7 → Cond.arrayOf (.field (tmS i) "java/lang/String" "value" "[B") .byte ∈ flatC gv_1 := by decide +kernel
theorem gv_le : ∀ i, i < 7 → Cond.eq (.length (.field (tmS i) "java/lang/String" "value" "[B")) (.int (Int32.ofNat (xtl_len.getD i 0))) ∈ flatC gv_1 := by decide +kernel
theorem gv_el : ∀ i, i < 7 → ∀ j, j < xtl_len.getD i 0 → Cond.eq (.elem (.field (tmS i) "java/lang/String" "value" "[B") (.int (Int32.ofNat j))) (.int ((xtl_byt.getD i []).getD j 0)) ∈ flatC gv_1 := by decide +kernel
theorem gv_ne : ∀ i, i < 7 → ∀ j, j < 7 → i ≠ j → Cond.not (Cond.eq (tmS i) (tmS j)) ∈ flatC gv_1 ∨ Cond.not (Cond.eq (tmS j) (tmS i)) ∈ flatC gv_1 := by decide +kernel
theorem gv_sr : ∀ i, i < 7 → Cond.stringRef RX2 (xtx i).1 (xtx i).2 ∈ lw_tbl := by decide +kernel
theorem xln_31 : ∀ i, i < 7 → xtl_len.getD i 0 < 2 ^ 31 := by decide +kernel
theorem gv_nest : ∀ w ∈ xnest ++ knest, w ∈ lw_tbl ∧ w.onTables = true := by decide +kernel
/-- what the statement gives of the start -/
theorem l_E {p : Program} {s : State} {m : MethodId} {meth : Method} {c : Code} {b L : Nat} {xs : Nat → Int32} (C0 : lw_At p s m meth c b L xs) : ∃ aK aV : Nat → Nat, kE (lA s) aK aV s s.heap := by
  obtain ⟨hx, hb, hr, hml, hown, hts, hX, hbl, hlocks, hgv⟩ := C0
  have hs := flat_of_before _ hgv
  have hA : ∀ a : Nat, a < s.heap.size → ¬ (lA s) a := fun a h => Nat.not_le.mpr h
  obtain ⟨aK, aV, hS, hev⟩ := vk_Sof (N := 7) (tm := tmS) (len := xtl_len) (byt := xtl_byt) (A := lA s) xln_31 (fun i hi => hs _ (gv_ex i hi)) (fun i hi => hs _ (gv_co i hi)) (fun i hi => hs _ (gv_ar i hi)) (fun i hi => hs _ (gv_le i hi)) (fun i hi j hj => hs _ (gv_el i hi j hj)) (fun i j hi hj hij => (gv_ne i hi j hj hij).imp (hs _) (hs _)) hA
  refine ⟨aK, aV, ⟨fun w hw => ?_, fun i hi => vk_R.of (hts _ (gv_sr i hi)) (hev i hi), hS, ?_, ?_⟩, fun w hw => ?_⟩
  · obtain ⟨h1, h2⟩ := gv_nest w (List.mem_append_left _ hw)
    exact va_Nw.of h2 (hts w h1)
  · exact va_Zof (hts (.laysStatic "java/lang/String" "COMPACT_STRINGS" "Z") (by decide +kernel)) (hts (.initialized "java/lang/String") (by decide +kernel)) (va_eqi (hs (Cond.eq (.static "java/lang/String" "COMPACT_STRINGS" "Z") (.int 1)) (by decide +kernel))) hA
  · exact va_Zqof (hts (.laysStatic "jdk/internal/util/Preconditions" "SIOOBE_FORMATTER" "Ljava/util/function/BiFunction;") (by decide +kernel)) (hts (.initialized "jdk/internal/util/Preconditions") (by decide +kernel)) (hs (Cond.isRef (.static "jdk/internal/util/Preconditions" "SIOOBE_FORMATTER" "Ljava/util/function/BiFunction;")) (by decide +kernel)) hA
  · obtain ⟨h1, h2⟩ := gv_nest w (List.mem_append_right _ hw)
    exact va_Nw.of h2 (hts w h1)
theorem l_arr {s : State} {args : Array Value} {ty : FieldType} (h : (Cond.arrayClass ty).before args s = true) : ∃ cA : ClassId, ArrOfT s cA ty ∧ s.vm.findClass ("[" ++ ty.toString) = some cA := by
  obtain ⟨cA, kA, comp, h1, h2, h3⟩ := Cond.arrayClass_spec h
  exact ⟨cA, fun n z => ⟨fun k h => (by cases h), kA, h2, comp, h3⟩, h1⟩
theorem l_K {p : Program} {s : State} {m : MethodId} {meth : Method} {c : Code} {b L : Nat} {xs : Nat → Int32} (C0 : lw_At p s m meth c b L xs) : ∃ (D : va_G) (cy : Nat → ClassId), va_K D vwCl (xtys cy) s := by
  obtain ⟨hx, hb, hr, hml, hown, hts, hX, hbl, hlocks, hgv⟩ := C0
  have htx : ∀ w ∈ xgt, w.before #[Value.ref b] s = true := fun w hw => hts w (List.mem_filter.mp hw).1
  obtain ⟨c0, i0, k0⟩ := u_known (C := xC 0) (T := xT 0) (N := xN 0) (n := 17) htx (xin (by decide)) (hts (.instantiable RX0 17) (by decide +kernel))
  obtain ⟨c1, i1, k1⟩ := u_known (C := xC 1) (T := xT 1) (N := xN 1) (n := 3) htx (xin (by decide)) (hts (.instantiable RX1 3) (by decide +kernel))
  obtain ⟨c2, i2, k2⟩ := u_known (C := xC 2) (T := xT 2) (N := xN 2) (n := 7) htx (xin (by decide)) (hts (.instantiable RX2 7) (by decide +kernel))
  obtain ⟨c3, i3, k3⟩ := u_known (C := xC 3) (T := xT 3) (N := xN 3) (n := 13) htx (xin (by decide)) (hts (.instantiable RX3 13) (by decide +kernel))
  obtain ⟨c4, i4, k4⟩ := u_known (C := xC 4) (T := xT 4) (N := xN 4) (n := 30) htx (xin (by decide)) (hts (.instantiable RX4 30) (by decide +kernel))
  obtain ⟨y0, a0, f0⟩ := l_arr (hts (.arrayClass .int) (by decide +kernel))
  obtain ⟨y1, a1, f1⟩ := l_arr (hts (.arrayClass .boolean) (by decide +kernel))
  obtain ⟨y2, a2, f2⟩ := l_arr (hts (.arrayClass .byte) (by decide +kernel))
  obtain ⟨y3, a3, f3⟩ := l_arr (hts (.arrayClass .long) (by decide +kernel))
  refine ⟨(fun k => match k with
    | 0 => c0
    | 1 => c1
    | 2 => c2
    | 3 => c3
    | _ => c4, fun k => match k with
    | 0 => i0
    | 1 => i1
    | 2 => i2
    | 3 => i3
    | _ => i4), fun j => match j with
    | 0 => y0
    | 1 => y1
    | 2 => y2
    | _ => y3, fun k q hq => ?_, fun k q hq => ?_⟩
  · match k, hq with
    | 0, hq => cases hq; exact k0
    | 1, hq => cases hq; exact k1
    | 2, hq => cases hq; exact k2
    | 3, hq => cases hq; exact k3
    | 4, hq => cases hq; exact k4
    | k + 5, hq => simp [vwCl] at hq
  · match k, hq with
    | 0, hq => cases hq; exact ⟨a0, f0⟩
    | 1, hq => cases hq; exact ⟨a1, f1⟩
    | 2, hq => cases hq; exact ⟨a2, f2⟩
    | 3, hq => cases hq; exact ⟨a3, f3⟩
    | k + 4, hq => simp [xtys] at hq
-- ===== YOUR PART BEGINS =====
set_option maxRecDepth 100000 in
theorem whole_start {p : Program} {e : Env} {s : State} {m : MethodId} {below : List Frame} {meth : Method} {c : Code} (l : Launch) {b L : Nat} {xs : Nat → Int32} (hL : L ≤ 320) (C0 : lw_At p s m meth c b L xs) : W p l e room_1 s m #[Value.ref b] below meth c s.heap [] 0 0 (lw_Z below #[Value.ref b] s) (entryFrame m ([Value.ref b] : List Value).toArray 4) := by
  obtain ⟨aK, aV, hE⟩ := l_E C0
  obtain ⟨D, cy, hK⟩ := l_K C0
  obtain ⟨hx, hb, hr, hml, hown, hts, hX, hbl, hlocks, hgv⟩ := id C0
  have htx : ∀ w ∈ xgt, w.before #[Value.ref b] s = true := fun w hw => hts w (List.mem_filter.mp hw).1
  have hA : ∀ q : Nat, s.heap.size ≤ q → (lA s) q := fun _ h => h
  have hS : va_S (lA s) s.heap s.heap [] := va_S.rf
  have hP : va_P D vwCl [] s.heap := fun k q h => by simp at h
  have hD : va_D (lA s) [] := ⟨fun i j p q h => by simp at h, fun k q h => by simp at h⟩
  have hl := lv_entry ([.ref b]) (n := 4) (Nat.le_of_ble_eq_true rfl)
  rw [lg_entry_eq]
  generalize (lg_sl ([.ref b]) ++ List.replicate (4 - (lg_sl ([.ref b])).length) Slot.unset).toArray = ls at hl ⊢
  have hl : lv_has ls 4 [(0, .ref b)] := hl
  refine va_new (ci := 3) (fs := kf3) (C := xC 3) (T := xT 3) (N := xN 3) hx hb htx (xin (by decide)) (xty 3) (xty_ok (by decide)) hown (htx (.classLink R_law 7 RX3) (xck_in (p := (1, 13)) (by decide +kernel) rfl)) (htx (.instantiable RX3 13) (xck_in (p := (1, 14)) (by decide +kernel) rfl)) (htx (.initialized RX3) (xck_in (p := (1, 1)) (by decide +kernel) rfl)) hK hP hD hS hA (xcl_vw (by decide)) (by decide) (Nat.le_of_ble_eq_true rfl) (Nat.le_of_ble_eq_true rfl) (show decode code 0 = .ok (.new 7, 3) by decide +kernel) (fun q0 H hP hD hS => ?_)
  have hP : va_P D vwCl [(q0, .inr (3, kf3))] H := hP
  have hD : va_D (lA s) [(q0, .inr (3, kf3))] := hD
  refine lv_dup hx hb (show decode code 3 = .ok (.dup, 1) by decide +kernel) rfl ?_
  have hsub := va_A_sub hD hS hA
  refine k_cont (va_runI (n := 0) (As := []) (b := q0) (rest := [.ref q0]) ⟨hx, hb, hml, hown, htx⟩ (k_class l D cy aK aV H.size q0) ⟨callB_of 0 htx (mW_good mg_a) rfl rfl rfl (htx (.initialized RX3) (xck_in (p := (1, 1)) (by decide +kernel) rfl)) (htx (.methodLink R_law 9 yX3_init) (xck_in (p := (1, 15)) (by decide +kernel) rfl)) ⟨mg_a.2.1, mg_a.2.2, by decide +kernel⟩ ⟨Nat.le_of_ble_eq_true rfl, Nat.le_of_ble_eq_true rfl⟩, rfl, htx (.instanceMethod yX3_init) (xck_in (p := (1, 16)) (by decide +kernel) rfl)⟩ ⟨kPc_blind, kPc_of hK hD hE hsub hP hS⟩ rfl rfl hl.1 rfl (lv_room (Nat.le_of_ble_eq_true rfl)) (show decode code 4 = .ok (.invokespecial 9, 3) by decide +kernel) ⟨Nat.le_of_ble_eq_true rfl, Nat.le_of_ble_eq_true rfl⟩) hS hsub hsub (fun w1 H1 locs1 hw hP1 hD1 _ hS1 => ?_)
  obtain ⟨ρ, hρ, rfl⟩ := hw
  have hD1 : va_D (lA s) (xwsC ρ cy) := hD1.weaken (fun k q _ h => hsub q.1 h)
  refine lv_astore_n (lv' := [(1, .ref q0), (0, .ref b)]) hx hb (show decode code 7 = .ok (.astore_n 1, 1) by decide +kernel) rfl hl (by decide) rfl (fun ls hl => ?_)
  refine va_new (ci := 4) (fs := kf4) (C := xC 4) (T := xT 4) (N := xN 4) hx hb htx (xin (by decide)) (xty 4) (xty_ok (by decide)) hown (htx (.classLink R_law 10 RX4) (xck_in (p := (4, 7)) (by decide +kernel) rfl)) (htx (.instantiable RX4 30) (xck_in (p := (4, 8)) (by decide +kernel) rfl)) (htx (.initialized RX4) (xck_in (p := (1, 5)) (by decide +kernel) rfl)) hK hP1 hD1 hS1 hA (xcl_vw (by decide)) (by decide) (Nat.le_of_ble_eq_true rfl) (Nat.le_of_ble_eq_true rfl) (show decode code 8 = .ok (.new 10, 3) by decide +kernel) (fun q1 H2 hP2 hD2 hS2 => ?_)
  have hP2 : va_P D vwCl ((q1, .inr (4, kf4)) :: xwsC ρ cy) H2 := k_rotP hP2
  have hD2 : va_D (lA s) ((q1, .inr (4, kf4)) :: xwsC ρ cy) := k_rotD hD2
  refine lv_dup hx hb (show decode code 11 = .ok (.dup, 1) by decide +kernel) rfl ?_
  have hsub2 := va_A_sub hD2 hS2 hA
  refine k_cont (va_runI (n := 0) (As := []) (b := q1) (rest := [.ref q1]) ⟨hx, hb, hml, hown, htx⟩ (k_model l D cy aK aV H2.size q1 ρ) ⟨callB_of 0 htx (mW_good mg_m) rfl rfl rfl (htx (.initialized RX4) (xck_in (p := (1, 5)) (by decide +kernel) rfl)) (htx (.methodLink R_law 12 yX4_init) (xck_in (p := (4, 9)) (by decide +kernel) rfl)) ⟨mg_m.2.1, mg_m.2.2, by decide +kernel⟩ ⟨Nat.le_of_ble_eq_true rfl, Nat.le_of_ble_eq_true rfl⟩, rfl, htx (.instanceMethod yX4_init) (xck_in (p := (4, 10)) (by decide +kernel) rfl)⟩ ⟨kPc_blind, kPc_of hK hD2 hE hsub2 hP2 hS2⟩ rfl rfl hl.1 rfl (lv_room (Nat.le_of_ble_eq_true rfl)) (show decode code 12 = .ok (.invokespecial 12, 3) by decide +kernel) ⟨Nat.le_of_ble_eq_true rfl, Nat.le_of_ble_eq_true rfl⟩) hS2 hsub2 hsub2 (fun w3 H3 locs3 hw hP3 hD3 _ hS3 => ?_)
  obtain ⟨ρ', RM, RL, e0, e22, inv, rfl⟩ := hw
  have hD3 : va_D (lA s) (xws ρ' cy RM RL) := hD3.weaken (fun k q _ h => hsub2 q.1 h)
  have hDa : ∀ RM RL, va_D (lA s) (xws ρ' cy RM RL) := fun RM' RL' => xD_all hD3 (fun r hr => by obtain ⟨q, -, hq⟩ := xat (ρ := ρ') (cy := cy) (RM := RM) (RL := RL) hr; exact hD3.2 q _ hq)
  refine lv_astore_n (lv' := [(2, .ref q1), (1, .ref q0), (0, .ref b)]) hx hb (show decode code 15 = .ok (.astore_n 2, 1) by decide +kernel) rfl hl (by decide) rfl (fun ls hl => ?_)
  refine lv_iconst hx hb (show decode code 16 = .ok (.iconst 0, 1) by decide +kernel) (v := Int32.ofInt ((0 : Nat) : Int)) rfl ?_
  refine lv_istore_n (lv' := [(3, .int (Int32.ofInt ((0 : Nat) : Int))), (2, .ref q1), (1, .ref q0), (0, .ref b)]) hx hb (show decode code 17 = .ok (.istore_n 3, 1) by decide +kernel) rfl hl (by decide) rfl (fun ls hl => ?_)
  have hl : lv_has ls 4 (lV ρ' b 0) := by
    unfold lV
    rw [e22, e0, hρ]
    exact hl
  exact law_loop ⟨C0, hL, hK, hE.1, hDa⟩ (L + 5) 0 RM RL H3 locs3 ls (by omega) (by omega) hl inv hP3 hS3
-- ===== YOUR PART ENDS =====

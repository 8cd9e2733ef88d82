/-! ===== texts: a line by its name ===== -/
theorem mg_nam : xgood mi_X2_nameOf := ⟨(xck_in (p := (1, 237)) (by decide +kernel) rfl), by decide, by decide⟩
theorem mg_spl : xgood mi_X2_isSpelled := ⟨(xck_in (p := (2, 8)) (by decide +kernel) rfl), by decide, by decide⟩
theorem mg_lin : xgood mi_X2_lineNamed := ⟨(xck_in (p := (1, 234)) (by decide +kernel) rfl), by decide, by decide⟩
theorem s_nam (l : Launch) (D : va_G) (ρ : Nat → Fin 5 → Nat) (cy : Nat → ClassId) (aK aV : Nat → Nat) (RM : Nat → Fin 5 → Nat → Int32) (RL : Nat → Fin 5 → Nat → Int64) (sz : Nat) {k : Nat} (hk : k < 7) : SM l D ρ cy aK aV RM RL sz mi_X2_nameOf [.int (Int32.ofNat k)] (some (.ref (aK k))) := by
  refine SM.intro (by decide +kernel) rfl (Nat.le_of_ble_eq_true rfl) ?_
  intro p e R s m args below meth c A Z ls hC hX hl hP
  have hE := hC.2.2.2.2.2.2.2.2.1
  refine lv_iload_n hC.1 hC.2.1 (show decode cX2_nameOf 0 = .ok (.iload_n 0, 1) by decide +kernel) rfl (lv_at hl 0 rfl) ?_
  have hc : k = 0 ∨ k = 1 ∨ k = 2 ∨ k = 3 ∨ k = 4 ∨ k = 5 ∨ k = 6 := by omega
  have hsw : decode cX2_nameOf 1 = .ok (.tableswitch 57 0 5 #[39, 42, 45, 48, 51, 54], 39) := by decide +kernel
  rcases hc with rfl | rfl | rfl | rfl | rfl | rfl | rfl
  · refine lv_tableIn hC.1 hC.2.1 hsw (by decide) (by decide) (off := 39) (by decide) (tgt := 40) rfl ?_
    refine va_ldcS hC.1 hC.2.1 hC.2.2.2.1 (hE.2.1 0 (by decide)) (show decode cX2_nameOf 40 = .ok (.ldc 83, 2) by decide +kernel) ?_
    exact (hX s.heap [] ls 42 hP va_S.rf).2.2 (aK 0) "java/lang/String" rfl rfl (show decode cX2_nameOf 42 = .ok (.areturn, 1) by decide +kernel)
  · refine lv_tableIn hC.1 hC.2.1 hsw (by decide) (by decide) (off := 42) (by decide) (tgt := 43) rfl ?_
    refine va_ldcS hC.1 hC.2.1 hC.2.2.2.1 (hE.2.1 1 (by decide)) (show decode cX2_nameOf 43 = .ok (.ldc 85, 2) by decide +kernel) ?_
    exact (hX s.heap [] ls 45 hP va_S.rf).2.2 (aK 1) "java/lang/String" rfl rfl (show decode cX2_nameOf 45 = .ok (.areturn, 1) by decide +kernel)
  · refine lv_tableIn hC.1 hC.2.1 hsw (by decide) (by decide) (off := 45) (by decide) (tgt := 46) rfl ?_
    refine va_ldcS hC.1 hC.2.1 hC.2.2.2.1 (hE.2.1 2 (by decide)) (show decode cX2_nameOf 46 = .ok (.ldc 87, 2) by decide +kernel) ?_
    exact (hX s.heap [] ls 48 hP va_S.rf).2.2 (aK 2) "java/lang/String" rfl rfl (show decode cX2_nameOf 48 = .ok (.areturn, 1) by decide +kernel)
  · refine lv_tableIn hC.1 hC.2.1 hsw (by decide) (by decide) (off := 48) (by decide) (tgt := 49) rfl ?_
    refine va_ldcS hC.1 hC.2.1 hC.2.2.2.1 (hE.2.1 3 (by decide)) (show decode cX2_nameOf 49 = .ok (.ldc 89, 2) by decide +kernel) ?_
    exact (hX s.heap [] ls 51 hP va_S.rf).2.2 (aK 3) "java/lang/String" rfl rfl (show decode cX2_nameOf 51 = .ok (.areturn, 1) by decide +kernel)
  · refine lv_tableIn hC.1 hC.2.1 hsw (by decide) (by decide) (off := 51) (by decide) (tgt := 52) rfl ?_
    refine va_ldcS hC.1 hC.2.1 hC.2.2.2.1 (hE.2.1 4 (by decide)) (show decode cX2_nameOf 52 = .ok (.ldc 91, 2) by decide +kernel) ?_
    exact (hX s.heap [] ls 54 hP va_S.rf).2.2 (aK 4) "java/lang/String" rfl rfl (show decode cX2_nameOf 54 = .ok (.areturn, 1) by decide +kernel)
  · refine lv_tableIn hC.1 hC.2.1 hsw (by decide) (by decide) (off := 54) (by decide) (tgt := 55) rfl ?_
    refine va_ldcS hC.1 hC.2.1 hC.2.2.2.1 (hE.2.1 5 (by decide)) (show decode cX2_nameOf 55 = .ok (.ldc 93, 2) by decide +kernel) ?_
    exact (hX s.heap [] ls 57 hP va_S.rf).2.2 (aK 5) "java/lang/String" rfl rfl (show decode cX2_nameOf 57 = .ok (.areturn, 1) by decide +kernel)
  · refine lv_tableOut hC.1 hC.2.1 hsw (by decide) (tgt := 58) rfl ?_
    refine va_ldcS hC.1 hC.2.1 hC.2.2.2.1 (hE.2.1 6 (by decide)) (show decode cX2_nameOf 58 = .ok (.ldc 95, 2) by decide +kernel) ?_
    exact (hX s.heap [] ls 60 hP va_S.rf).2.2 (aK 6) "java/lang/String" rfl rfl (show decode cX2_nameOf 60 = .ok (.areturn, 1) by decide +kernel)
/-- the token is this name -/
abbrev spP (b : Nat → Int) (s e k : Nat) : Prop := (e : Int) - s = xln k ∧ ∀ j, j < xln k → b (s + j) = (xby k j).toInt
theorem nx5 : ∀ j, j < 7 → Int32.ofNat j + Int32.ofInt 1 = Int32.ofNat (j + 1) ∧ (Int32.ofNat j).toInt = (j : Int) := by decide +kernel
theorem s_spl (l : Launch) (D : va_G) (ρ : Nat → Fin 5 → Nat) (cy : Nat → ClassId) (aK aV : Nat → Nat) (RM : Nat → Fin 5 → Nat → Int32) (RL : Nat → Fin 5 → Nat → Int64) (sz : Nat) {k s0 e0 : Nat} {b : Nat → Int} (hk : k < 7) (hse : s0 ≤ e0) (hen : e0 ≤ 160) (h2 : (RM 13 0 2).toInt = s0) (h4 : (RM 13 0 4).toInt = e0) (hb : ∀ j, (RM 14 0 j).toInt = b j) : SM l D ρ cy aK aV RM RL sz mi_X2_isSpelled [.ref (ρ 13 0), .ref (aK k)] (some (.int (if spP b s0 e0 k then 1 else 0))) := by
  obtain ⟨v1, v2, v3⟩ := xln_v k hk
  have hdif : (RM 13 0 4 - RM 13 0 2).toInt = (e0 : Int) - s0 := by rw [t32_sub, h2, h4, w32_id (by omega) (by omega)]
  refine SM.intro (by decide +kernel) rfl (Nat.le_of_ble_eq_true rfl) ?_
  intro p e R s m args below meth c A Z ls hC hX hl hP
  have hts := hC.2.2.2.2.1
  have hE := hC.2.2.2.2.2.2.2.2.1
  have in13 : ((13, 0) : XR) ∈ xtl := by decide
  have in14 : ((14, 0) : XR) ∈ xtl := by decide
  have loop : ∀ (q j : Nat) (H : Heap) (locs : List Loc) (ls : Array Slot), j + q = xln k → (∀ a, a < j → b (s0 + a) = (xby k a).toInt) → (e0 : Int) - s0 = xln k → lv_has ls 3 [(2, .int (Int32.ofNat j)), (0, .ref (ρ 13 0)), (1, .ref (aK k))] → va_P D vwCl (xws ρ cy RM RL) H → va_S A s.heap H locs → W p l e R s m args below meth c H locs 0 0 Z (F0 m 20 ls []) := by
    intro q
    induction q with
    | zero =>
      intro j H locs ls hq hj hd hl hP hS
      have ej : j = xln k := by omega
      refine lv_iload_n hC.1 hC.2.1 (show decode cX2_isSpelled 20 = .ok (.iload_n 2, 1) by decide +kernel) rfl (lv_at hl 0 rfl) ?_
      refine lv_aload_n hC.1 hC.2.1 (show decode cX2_isSpelled 21 = .ok (.aload_n 1, 1) by decide +kernel) rfl (lv_at hl 2 rfl) ?_
      refine s_cV (ra := []) (rest := [.int (Int32.ofNat j)]) (n := 0) (C := RJ0) hC (s_len l D ρ cy aK aV RM RL _ hk) mg_len (by decide) (by decide) (by decide +kernel) rfl (xck_in (p := (2, 10)) (by decide +kernel) rfl) (xck_in (p := (1, 6)) (by decide +kernel) rfl) (xck_in (p := (2, 9)) (by decide +kernel) rfl) (xck_in (p := (2, 11)) (by decide +kernel) rfl) (vk_recv hE.2.2.1 hk hS) hP hS hl (by show 1 ≤ 8; decide) (show decode cX2_isSpelled 22 = .ok (.invokevirtual 97, 3) by decide +kernel) (fun H1 locs1 hP1 hS1 => ?_)
      refine lv_icmp_ge hC.1 hC.2.1 (show decode cX2_isSpelled 25 = .ok (.if_icmp .ge 30, 3) by decide +kernel) (tgt := 55) rfl (fun _ => ?_) (fun z => absurd (show Int32.ofNat j ≥ Int32.ofNat (xln k) by rw [ej]; exact Int32.le_refl _) z)
      refine lv_iconst hC.1 hC.2.1 (show decode cX2_isSpelled 55 = .ok (.iconst 1, 1) by decide +kernel) (v := 1) (by decide) ?_
      refine (hX H1 locs1 ls 56 hP1 hS1).2.1 1 .boolean ?_ rfl (by decide) (show decode cX2_isSpelled 56 = .ok (.ireturn, 1) by decide +kernel)
      rw [if_pos ⟨hd, fun a ha => hj a (by omega)⟩]
    | succ q ih =>
      intro j H locs ls hq hj hd hl hP hS
      obtain ⟨n1, n2⟩ := nx5 j (by omega)
      have hlt : ¬ Int32.ofNat j ≥ Int32.ofNat (xln k) := fun z => by
        have := Int32.le_iff_toInt_le.mp z
        rw [n2, v1] at this
        omega
      have hsum : (RM 13 0 2 + Int32.ofNat j).toInt = (s0 + j : Nat) := by rw [t32_add, h2, n2, w32_id (by omega) (by omega)]; omega
      refine lv_iload_n hC.1 hC.2.1 (show decode cX2_isSpelled 20 = .ok (.iload_n 2, 1) by decide +kernel) rfl (lv_at hl 0 rfl) ?_
      refine lv_aload_n hC.1 hC.2.1 (show decode cX2_isSpelled 21 = .ok (.aload_n 1, 1) by decide +kernel) rfl (lv_at hl 2 rfl) ?_
      refine s_cV (ra := []) (rest := [.int (Int32.ofNat j)]) (n := 0) (C := RJ0) hC (s_len l D ρ cy aK aV RM RL _ hk) mg_len (by decide) (by decide) (by decide +kernel) rfl (xck_in (p := (2, 10)) (by decide +kernel) rfl) (xck_in (p := (1, 6)) (by decide +kernel) rfl) (xck_in (p := (2, 9)) (by decide +kernel) rfl) (xck_in (p := (2, 11)) (by decide +kernel) rfl) (vk_recv hE.2.2.1 hk hS) hP hS hl (by show 1 ≤ 8; decide) (show decode cX2_isSpelled 22 = .ok (.invokevirtual 97, 3) by decide +kernel) (fun H1 locs1 hP1 hS1 => ?_)
      refine lv_icmp_ge hC.1 hC.2.1 (show decode cX2_isSpelled 25 = .ok (.if_icmp .ge 30, 3) by decide +kernel) (tgt := 55) rfl (fun z => absurd z hlt) (fun _ => ?_)
      refine lv_aload_n hC.1 hC.2.1 (show decode cX2_isSpelled 28 = .ok (.aload_n 0, 1) by decide +kernel) rfl (lv_at hl 1 rfl) ?_
      refine s_getR (t := 13) (j := 0) (c0 := 2) (f := 0) hC hP1 in13 rfl (by decide) (by decide) (by decide) (by decide) (xck_in (p := (1, 103)) (by decide +kernel) rfl) (show decode cX2_isSpelled 29 = .ok (.getfield 11, 3) by decide +kernel) ?_
      refine lv_aload_n hC.1 hC.2.1 (show decode cX2_isSpelled 32 = .ok (.aload_n 0, 1) by decide +kernel) rfl (lv_at hl 1 rfl) ?_
      refine s_getI (t := 13) (j := 0) (c0 := 2) (f := 2) hC hP1 in13 rfl rfl (by decide) (by decide) (xck_in (p := (1, 106)) (by decide +kernel) rfl) (show decode cX2_isSpelled 33 = .ok (.getfield 19, 3) by decide +kernel) ?_
      refine lv_iload_n hC.1 hC.2.1 (show decode cX2_isSpelled 36 = .ok (.iload_n 2, 1) by decide +kernel) rfl (lv_at hl 0 rfl) ?_
      refine lv_iadd hC.1 hC.2.1 (show decode cX2_isSpelled 37 = .ok (.iadd, 1) by decide +kernel) ?_
      refine s_bald (t := 14) (j := 0) (N := 160) hC hP1 in14 rfl (by rw [hsum]; omega) (show decode cX2_isSpelled 38 = .ok (.baload, 1) by decide +kernel) ?_
      rw [hsum, Int.toNat_natCast]
      refine lv_aload_n hC.1 hC.2.1 (show decode cX2_isSpelled 39 = .ok (.aload_n 1, 1) by decide +kernel) rfl (lv_at hl 2 rfl) ?_
      refine lv_iload_n hC.1 hC.2.1 (show decode cX2_isSpelled 40 = .ok (.iload_n 2, 1) by decide +kernel) rfl (lv_at hl 0 rfl) ?_
      refine s_cV (ra := [.int (Int32.ofNat j)]) (rest := [.int (RM 14 0 (s0 + j))]) (n := 1) (C := RJ0) hC (s_cha l D ρ cy aK aV RM RL _ hk (by rw [n2]; omega) (by rw [n2]; omega)) mg_cha (by decide) (by decide) (by decide +kernel) rfl (xck_in (p := (2, 20)) (by decide +kernel) rfl) (xck_in (p := (1, 6)) (by decide +kernel) rfl) (xck_in (p := (2, 19)) (by decide +kernel) rfl) (xck_in (p := (2, 21)) (by decide +kernel) rfl) (vk_recv hE.2.2.1 hk hS1) hP1 hS1 hl (by show 1 ≤ 8; decide) (show decode cX2_isSpelled 41 = .ok (.invokevirtual 101, 3) by decide +kernel) (fun H2 locs2 hP2 hS2 => ?_)
      rw [n2, Int.toNat_natCast]
      refine lv_icmp_eq hC.1 hC.2.1 (show decode cX2_isSpelled 44 = .ok (.if_icmp .eq 5, 3) by decide +kernel) (tgt := 49) rfl (fun z => ?_) (fun z => ?_)
      · refine lv_iinc hC.1 hC.2.1 (show decode cX2_isSpelled 49 = .ok (.iinc 2 1, 3) by decide +kernel) hl (k := 0) rfl n1 (by decide) rfl (fun ls' hl' => ?_)
        refine lv_goto hC.1 hC.2.1 (show decode cX2_isSpelled 52 = .ok (.goto (-32), 3) by decide +kernel) (tgt := 20) rfl ?_
        refine ih (j + 1) H2 locs2 ls' (by omega) (fun a ha => ?_) hd hl' hP2 hS2
        by_cases y : a = j
        · subst y
          rw [← hb, z]
        · exact hj a (by omega)
      · refine lv_iconst hC.1 hC.2.1 (show decode cX2_isSpelled 47 = .ok (.iconst 0, 1) by decide +kernel) (v := 0) (by decide) ?_
        refine (hX H2 locs2 ls 48 hP2 hS2).2.1 0 .boolean ?_ rfl (by decide) (show decode cX2_isSpelled 48 = .ok (.ireturn, 1) by decide +kernel)
        rw [if_neg]
        rintro ⟨-, y⟩
        have := y j (by omega)
        rw [← hb] at this
        exact z (Int32.toInt_inj.mp this)
  refine lv_aload_n hC.1 hC.2.1 (show decode cX2_isSpelled 0 = .ok (.aload_n 0, 1) by decide +kernel) rfl (lv_at hl 0 rfl) ?_
  refine s_getI (t := 13) (j := 0) (c0 := 2) (f := 4) hC hP in13 rfl rfl (by decide) (by decide) (xck_in (p := (1, 110)) (by decide +kernel) rfl) (show decode cX2_isSpelled 1 = .ok (.getfield 25, 3) by decide +kernel) ?_
  refine lv_aload_n hC.1 hC.2.1 (show decode cX2_isSpelled 4 = .ok (.aload_n 0, 1) by decide +kernel) rfl (lv_at hl 0 rfl) ?_
  refine s_getI (t := 13) (j := 0) (c0 := 2) (f := 2) hC hP in13 rfl rfl (by decide) (by decide) (xck_in (p := (1, 106)) (by decide +kernel) rfl) (show decode cX2_isSpelled 5 = .ok (.getfield 19, 3) by decide +kernel) ?_
  refine lv_isub hC.1 hC.2.1 (show decode cX2_isSpelled 8 = .ok (.isub, 1) by decide +kernel) ?_
  refine lv_aload_n hC.1 hC.2.1 (show decode cX2_isSpelled 9 = .ok (.aload_n 1, 1) by decide +kernel) rfl (lv_at hl 1 rfl) ?_
  refine s_cV (ra := []) (rest := [.int (RM 13 0 4 - RM 13 0 2)]) (n := 0) (C := RJ0) hC (s_len l D ρ cy aK aV RM RL _ hk) mg_len (by decide) (by decide) (by decide +kernel) rfl (xck_in (p := (2, 10)) (by decide +kernel) rfl) (xck_in (p := (1, 6)) (by decide +kernel) rfl) (xck_in (p := (2, 9)) (by decide +kernel) rfl) (xck_in (p := (2, 11)) (by decide +kernel) rfl) (vk_recv hE.2.2.1 hk va_S.rf) hP va_S.rf hl (by show 1 ≤ 8; decide) (show decode cX2_isSpelled 10 = .ok (.invokevirtual 97, 3) by decide +kernel) (fun H1 locs1 hP1 hS1 => ?_)
  refine lv_icmp_eq hC.1 hC.2.1 (show decode cX2_isSpelled 13 = .ok (.if_icmp .eq 5, 3) by decide +kernel) (tgt := 18) rfl (fun z => ?_) (fun z => ?_)
  · refine lv_iconst hC.1 hC.2.1 (show decode cX2_isSpelled 18 = .ok (.iconst 0, 1) by decide +kernel) (v := Int32.ofNat 0) (by decide) ?_
    refine lv_istore_n hC.1 hC.2.1 (show decode cX2_isSpelled 19 = .ok (.istore_n 2, 1) by decide +kernel) rfl hl (by decide) rfl (fun ls' hl' => ?_)
    refine loop (xln k) 0 H1 locs1 ls' (by omega) (fun a ha => absurd ha (by omega)) ?_ hl' hP1 hS1
    rw [← hdif, z, v1]
  · refine lv_iconst hC.1 hC.2.1 (show decode cX2_isSpelled 16 = .ok (.iconst 0, 1) by decide +kernel) (v := 0) (by decide) ?_
    refine (hX H1 locs1 ls 17 hP1 hS1).2.1 0 .boolean ?_ rfl (by decide) (show decode cX2_isSpelled 17 = .ok (.ireturn, 1) by decide +kernel)
    rw [if_neg]
    rintro ⟨y, -⟩
    rw [← hdif, ← v1] at y
    exact z (Int32.toInt_inj.mp y)
theorem s_lin (l : Launch) (D : va_G) (ρ : Nat → Fin 5 → Nat) (cy : Nat → ClassId) (aK aV : Nat → Nat) (RM : Nat → Fin 5 → Nat → Int32) (RL : Nat → Fin 5 → Nat → Int64) (sz : Nat) {s0 e0 : Nat} {b : Nat → Int} {z : Int} (hz : -1 ≤ z ∧ z < 7) (hse : s0 ≤ e0) (hen : e0 ≤ 160) (h2 : (RM 13 0 2).toInt = s0) (h4 : (RM 13 0 4).toInt = e0) (hb : ∀ j, (RM 14 0 j).toInt = b j) (r1 : ∀ k, k < 7 → spP b s0 e0 k → (∀ a, a < k → ¬ spP b s0 e0 a) → z = k) (r2 : (∀ a, a < 7 → ¬ spP b s0 e0 a) → z = -1) : SM l D ρ cy aK aV RM RL sz mi_X2_lineNamed [.ref (ρ 13 0)] (some (.int (Int32.ofInt z))) := by
  refine SM.intro (by decide +kernel) rfl (Nat.le_of_ble_eq_true rfl) ?_
  intro p e R s m args below meth c A Z ls hC hX hl hP
  have hts := hC.2.2.2.2.1
  have in13 : ((13, 0) : XR) ∈ xtl := by decide
  have recv : ∀ (H : Heap), va_P D vwCl (xws ρ cy RM RL) H → ∃ cell : Cell, H[ρ 13 0]? = some cell ∧ cell.vm.isStatics = false ∧ s.vm.findClass RX2 = some cell.cls := by
    intro H hP
    obtain ⟨q0, -, hq0⟩ := xat (ρ := ρ) (cy := cy) (RM := RM) (RL := RL) in13
    rw [xcell_obj (c := 2) rfl] at hq0
    exact va_recv hC.2.2.2.2.2.2.1 hP (xcl_vw (c := 2) (by decide)) hq0
  have loop : ∀ (q k : Nat) (H : Heap) (locs : List Loc) (ls : Array Slot), k + q = 7 → (∀ a, a < k → ¬ spP b s0 e0 a) → lv_has ls 2 [(1, .int (Int32.ofNat k)), (0, .ref (ρ 13 0))] → va_P D vwCl (xws ρ cy RM RL) H → va_S A s.heap H locs → W p l e R s m args below meth c H locs 0 0 Z (F0 m 2 ls []) := by
    intro q
    induction q with
    | zero =>
      intro k H locs ls hq hj hl hP hS
      have ek : k = 7 := by omega
      subst ek
      refine lv_iload_n hC.1 hC.2.1 (show decode cX2_lineNamed 2 = .ok (.iload_n 1, 1) by decide +kernel) rfl (lv_at hl 0 rfl) ?_
      refine lv_bipush hC.1 hC.2.1 (show decode cX2_lineNamed 3 = .ok (.bipush 7, 2) by decide +kernel) (v := 7) (by decide) ?_
      refine lv_icmp_ge hC.1 hC.2.1 (show decode cX2_lineNamed 5 = .ok (.if_icmp .ge 22, 3) by decide +kernel) (tgt := 27) rfl (fun _ => ?_) (fun y => absurd (show Int32.ofNat 7 ≥ 7 by decide) y)
      refine lv_iconst hC.1 hC.2.1 (show decode cX2_lineNamed 27 = .ok (.iconst (-1), 1) by decide +kernel) (v := -1) (by decide) ?_
      refine (hX H locs ls 28 hP hS).2.1 (-1) .int ?_ rfl rfl (show decode cX2_lineNamed 28 = .ok (.ireturn, 1) by decide +kernel)
      rw [r2 hj]
      rfl
    | succ q ih =>
      intro k H locs ls hq hj hl hP hS
      have hk : k < 7 := by omega
      obtain ⟨n1, n2⟩ := nx5 k hk
      refine lv_iload_n hC.1 hC.2.1 (show decode cX2_lineNamed 2 = .ok (.iload_n 1, 1) by decide +kernel) rfl (lv_at hl 0 rfl) ?_
      refine lv_bipush hC.1 hC.2.1 (show decode cX2_lineNamed 3 = .ok (.bipush 7, 2) by decide +kernel) (v := 7) (by decide) ?_
      refine lv_icmp_ge hC.1 hC.2.1 (show decode cX2_lineNamed 5 = .ok (.if_icmp .ge 22, 3) by decide +kernel) (tgt := 27) rfl (fun y => ?_) (fun _ => ?_)
      · have := Int32.le_iff_toInt_le.mp y
        rw [n2, show (7 : Int32).toInt = 7 by decide] at this
        omega
      · refine lv_aload_n hC.1 hC.2.1 (show decode cX2_lineNamed 8 = .ok (.aload_n 0, 1) by decide +kernel) rfl (lv_at hl 1 rfl) ?_
        refine lv_iload_n hC.1 hC.2.1 (show decode cX2_lineNamed 9 = .ok (.iload_n 1, 1) by decide +kernel) rfl (lv_at hl 0 rfl) ?_
        refine s_cS (ra := [.int (Int32.ofNat k)]) (rest := [.ref (ρ 13 0)]) (n := 1) hC (s_nam l D ρ cy aK aV RM RL _ hk) mg_nam (by decide) (by decide) (by decide +kernel) rfl (xck_in (p := (1, 236)) (by decide +kernel) rfl) (xck_in (p := (1, 3)) (by decide +kernel) rfl) (xck_in (p := (1, 235)) (by decide +kernel) rfl) hP hS hl (by show 1 ≤ 8; decide) (show decode cX2_lineNamed 10 = .ok (.invokestatic 75, 3) by decide +kernel) (fun H1 locs1 hP1 hS1 => ?_)
        refine s_cV (ra := [.ref (aK k)]) (rest := []) (n := 1) (C := RX2) hC (s_spl l D ρ cy aK aV RM RL _ hk hse hen h2 h4 hb) mg_spl (by decide) (by decide) (by decide +kernel) rfl (xck_in (p := (2, 7)) (by decide +kernel) rfl) (xck_in (p := (1, 3)) (by decide +kernel) rfl) (xck_in (p := (2, 5)) (by decide +kernel) rfl) (xck_in (p := (0, 3)) (by decide +kernel) rfl) (recv H1 hP1) hP1 hS1 hl (by show 0 ≤ 8; decide) (show decode cX2_lineNamed 13 = .ok (.invokevirtual 79, 3) by decide +kernel) (fun H2 locs2 hP2 hS2 => ?_)
        by_cases y : spP b s0 e0 k
        · rw [if_pos y]
          refine lv_if_eq hC.1 hC.2.1 (show decode cX2_lineNamed 16 = .ok (.ifCond .eq 5, 3) by decide +kernel) (tgt := 21) rfl (fun q => absurd q (by decide)) (fun _ => ?_)
          refine lv_iload_n hC.1 hC.2.1 (show decode cX2_lineNamed 19 = .ok (.iload_n 1, 1) by decide +kernel) rfl (lv_at hl 0 rfl) ?_
          refine (hX H2 locs2 ls 20 hP2 hS2).2.1 _ .int ?_ rfl rfl (show decode cX2_lineNamed 20 = .ok (.ireturn, 1) by decide +kernel)
          rw [r1 k hk y hj]
          rfl
        · rw [if_neg y]
          refine lv_if_eq hC.1 hC.2.1 (show decode cX2_lineNamed 16 = .ok (.ifCond .eq 5, 3) by decide +kernel) (tgt := 21) rfl (fun _ => ?_) (fun q => absurd rfl q)
          refine lv_iinc hC.1 hC.2.1 (show decode cX2_lineNamed 21 = .ok (.iinc 1 1, 3) by decide +kernel) hl (k := 0) rfl n1 (by decide) rfl (fun ls' hl' => ?_)
          refine lv_goto hC.1 hC.2.1 (show decode cX2_lineNamed 24 = .ok (.goto (-22), 3) by decide +kernel) (tgt := 2) rfl ?_
          refine ih (k + 1) H2 locs2 ls' (by omega) (fun a ha => ?_) hl' hP2 hS2
          by_cases x : a = k
          · subst x; exact y
          · exact hj a (by omega)
  refine lv_iconst hC.1 hC.2.1 (show decode cX2_lineNamed 0 = .ok (.iconst 0, 1) by decide +kernel) (v := Int32.ofNat 0) (by decide) ?_
  refine lv_istore_n hC.1 hC.2.1 (show decode cX2_lineNamed 1 = .ok (.istore_n 1, 1) by decide +kernel) rfl hl (by decide) rfl (fun ls' hl' => ?_)
  exact loop 7 0 s.heap [] ls' (by omega) (fun a ha => absurd ha (by omega)) hl' hP va_S.rf

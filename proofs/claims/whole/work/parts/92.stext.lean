/-! ===== texts: length and charAt ===== -/
def ms_coder : XMI := (RJ0, yJ0_coder_7d493, cJ0_coder_7d493, 1, (some .byte), 0, 0)
theorem mg_coder : xgood ms_coder := ⟨(xck_in (p := (2, 16)) (by decide +kernel) rfl), by decide, by decide⟩
def ms_len : XMI := (RJ0, yJ0_length_8abf5, cJ0_length_8abf5, 1, (some .int), 1, 20)
theorem mg_len : xgood ms_len := ⟨(xck_in (p := (2, 12)) (by decide +kernel) rfl), by decide, by decide⟩
def ms_lat : XMI := (RJ0, yJ0_isLatin1_aae02, cJ0_isLatin1_aae02, 1, (some .boolean), 0, 0)
theorem mg_lat : xgood ms_lat := ⟨(xck_in (p := (2, 26)) (by decide +kernel) rfl), by decide, by decide⟩
def ms_pck : XMI := (RJ3, yJ3_checkIndex_8e157, cJ3_checkIndex_8e157, 3, (some .int), 0, 0)
theorem mg_pck : xgood ms_pck := ⟨(xck_in (p := (2, 37)) (by decide +kernel) rfl), by decide, by decide⟩
def ms_ick : XMI := (RJ0, yJ0_checkIndex_df160, cJ0_checkIndex_df160, 2, none, 1, 22)
theorem mg_ick : xgood ms_ick := ⟨(xck_in (p := (2, 32)) (by decide +kernel) rfl), by decide, by decide⟩
def ms_lch : XMI := (RJ1, yJ1_charAt_3b067, cJ1_charAt_3b067, 2, (some .char), 2, 43)
theorem mg_lch : xgood ms_lch := ⟨(xck_in (p := (2, 29)) (by decide +kernel) rfl), by decide, by decide⟩
def ms_cha : XMI := (RJ0, yJ0_charAt_5068e, cJ0_charAt_5068e, 2, (some .char), 3, 64)
theorem mg_cha : xgood ms_cha := ⟨(xck_in (p := (2, 22)) (by decide +kernel) rfl), by decide, by decide⟩
def xln (i : Nat) : Nat := xtl_len.getD i 0
def xby (i j : Nat) : Int32 := (xtl_byt.getD i []).getD j 0
theorem s_coder (l : Launch) (D : va_G) (ρ : Nat → Fin 5 → Nat) (cy : Nat → ClassId) (aK aV : Nat → Nat) (RM : Nat → Fin 5 → Nat → Int32) (RL : Nat → Fin 5 → Nat → Int64) (sz : Nat) {i : Nat} (hi : i < 7) : SM l D ρ cy aK aV RM RL sz ms_coder [.ref (aK i)] (some (.int 0)) := by
  refine SM.intro (by decide +kernel) rfl (Nat.le_of_ble_eq_true rfl) ?_
  intro p e R s m args below meth c A Z ls hC hX hl hP
  have hts := hC.2.2.2.2.1
  have hE := hC.2.2.2.2.2.2.2.2.1
  refine va_gets hC.1 hC.2.1 (C := "java/lang/String") hE.2.2.2.1 va_S.rf hC.2.2.2.1 (hts _ (xck_in (p := (2, 17)) (by decide +kernel) rfl)) (fun _ h => h) (show decode cJ0_coder_7d493 0 = .ok (.getstatic 38, 3) by decide +kernel) ?_
  refine lv_if_eq hC.1 hC.2.1 (show decode cJ0_coder_7d493 3 = .ok (.ifCond .eq 10, 3) by decide +kernel) (tgt := 13) rfl (fun q => absurd q (by decide)) (fun _ => ?_)
  refine lv_aload_n hC.1 hC.2.1 (show decode cJ0_coder_7d493 6 = .ok (.aload_n 0, 1) by decide +kernel) rfl (lv_at hl 0 rfl) ?_
  refine vk_getf hC.1 hC.2.1 (hE.2.2.1.1 i hi).2.1 va_S.rf hC.2.2.2.1 (hts _ (xck_in (p := (6, 8)) (by decide +kernel) rfl)) (fun _ h => h) (show decode cJ0_coder_7d493 7 = .ok (.getfield 15, 3) by decide +kernel) ?_
  refine lv_goto hC.1 hC.2.1 (show decode cJ0_coder_7d493 10 = .ok (.goto 4, 3) by decide +kernel) (tgt := 14) rfl ?_
  exact (hX s.heap [] ls 14 hP va_S.rf).2.1 0 .byte rfl rfl (by decide) (show decode cJ0_coder_7d493 14 = .ok (.ireturn, 1) by decide +kernel)
theorem s_lat (l : Launch) (D : va_G) (ρ : Nat → Fin 5 → Nat) (cy : Nat → ClassId) (aK aV : Nat → Nat) (RM : Nat → Fin 5 → Nat → Int32) (RL : Nat → Fin 5 → Nat → Int64) (sz : Nat) {i : Nat} (hi : i < 7) : SM l D ρ cy aK aV RM RL sz ms_lat [.ref (aK i)] (some (.int 1)) := by
  refine SM.intro (by decide +kernel) rfl (Nat.le_of_ble_eq_true rfl) ?_
  intro p e R s m args below meth c A Z ls hC hX hl hP
  have hts := hC.2.2.2.2.1
  have hE := hC.2.2.2.2.2.2.2.2.1
  refine va_gets hC.1 hC.2.1 (C := "java/lang/String") hE.2.2.2.1 va_S.rf hC.2.2.2.1 (hts _ (xck_in (p := (2, 17)) (by decide +kernel) rfl)) (fun _ h => h) (show decode cJ0_isLatin1_aae02 0 = .ok (.getstatic 38, 3) by decide +kernel) ?_
  refine lv_if_eq hC.1 hC.2.1 (show decode cJ0_isLatin1_aae02 3 = .ok (.ifCond .eq 14, 3) by decide +kernel) (tgt := 17) rfl (fun q => absurd q (by decide)) (fun _ => ?_)
  refine lv_aload_n hC.1 hC.2.1 (show decode cJ0_isLatin1_aae02 6 = .ok (.aload_n 0, 1) by decide +kernel) rfl (lv_at hl 0 rfl) ?_
  refine vk_getf hC.1 hC.2.1 (hE.2.2.1.1 i hi).2.1 va_S.rf hC.2.2.2.1 (hts _ (xck_in (p := (6, 8)) (by decide +kernel) rfl)) (fun _ h => h) (show decode cJ0_isLatin1_aae02 7 = .ok (.getfield 15, 3) by decide +kernel) ?_
  refine lv_if_ne hC.1 hC.2.1 (show decode cJ0_isLatin1_aae02 10 = .ok (.ifCond .ne 7, 3) by decide +kernel) (tgt := 17) rfl (fun q => absurd rfl q) (fun _ => ?_)
  refine lv_iconst hC.1 hC.2.1 (show decode cJ0_isLatin1_aae02 13 = .ok (.iconst 1, 1) by decide +kernel) (v := 1) (by decide) ?_
  refine lv_goto hC.1 hC.2.1 (show decode cJ0_isLatin1_aae02 14 = .ok (.goto 4, 3) by decide +kernel) (tgt := 18) rfl ?_
  exact (hX s.heap [] ls 18 hP va_S.rf).2.1 1 .boolean rfl rfl (by decide) (show decode cJ0_isLatin1_aae02 18 = .ok (.ireturn, 1) by decide +kernel)
theorem xln_s : ∀ i, i < 7 → Int32.ofNat (xtl_len.getD i 0) >>> ((0 : Int32) &&& 31) = Int32.ofNat (xln i) := by decide +kernel
theorem s_len (l : Launch) (D : va_G) (ρ : Nat → Fin 5 → Nat) (cy : Nat → ClassId) (aK aV : Nat → Nat) (RM : Nat → Fin 5 → Nat → Int32) (RL : Nat → Fin 5 → Nat → Int64) (sz : Nat) {i : Nat} (hi : i < 7) : SM l D ρ cy aK aV RM RL sz ms_len [.ref (aK i)] (some (.int (Int32.ofNat (xln i)))) := by
  refine SM.intro (by decide +kernel) rfl (Nat.le_of_ble_eq_true rfl) ?_
  intro p e R s m args below meth c A Z ls hC hX hl hP
  have hts := hC.2.2.2.2.1
  have hE := hC.2.2.2.2.2.2.2.2.1
  refine lv_aload_n hC.1 hC.2.1 (show decode cJ0_length_8abf5 0 = .ok (.aload_n 0, 1) by decide +kernel) rfl (lv_at hl 0 rfl) ?_
  refine vk_getf hC.1 hC.2.1 (hE.2.2.1.1 i hi).2.2.1 va_S.rf hC.2.2.2.1 (hts _ (xck_in (p := (6, 7)) (by decide +kernel) rfl)) (fun _ h => h) (show decode cJ0_length_8abf5 1 = .ok (.getfield 9, 3) by decide +kernel) ?_
  refine va_tlen hC.1 hC.2.1 (hE.2.2.1.1 i hi).2.2.2 va_S.rf rfl (show decode cJ0_length_8abf5 4 = .ok (.arraylength, 1) by decide +kernel) ?_
  refine lv_aload_n hC.1 hC.2.1 (show decode cJ0_length_8abf5 5 = .ok (.aload_n 0, 1) by decide +kernel) rfl (lv_at hl 0 rfl) ?_
  refine s_cV (ra := []) (n := 0) (C := RJ0) hC (s_coder l D ρ cy aK aV RM RL _ hi) mg_coder (by decide) (by decide) (by decide +kernel) rfl (xck_in (p := (2, 14)) (by decide +kernel) rfl) (xck_in (p := (1, 6)) (by decide +kernel) rfl) (xck_in (p := (2, 13)) (by decide +kernel) rfl) (xck_in (p := (2, 15)) (by decide +kernel) rfl) (vk_recv hE.2.2.1 hi va_S.rf) hP va_S.rf hl (by show 1 ≤ 8; decide) (show decode cJ0_length_8abf5 6 = .ok (.invokevirtual 335, 3) by decide +kernel) (fun H1 locs1 hP1 hS1 => ?_)
  refine lv_ishr hC.1 hC.2.1 (show decode cJ0_length_8abf5 9 = .ok (.ishr, 1) by decide +kernel) ?_
  rw [xln_s i hi]
  exact (hX H1 locs1 ls 10 hP1 hS1).2.1 _ .int rfl rfl rfl (show decode cJ0_length_8abf5 10 = .ok (.ireturn, 1) by decide +kernel)
theorem s_pck (l : Launch) (D : va_G) (ρ : Nat → Fin 5 → Nat) (cy : Nat → ClassId) (aK aV : Nat → Nat) (RM : Nat → Fin 5 → Nat → Int32) (RL : Nat → Fin 5 → Nat → Int64) (sz : Nat) {x n : Int32} {v : Value} (hv : v = .null ∨ ∃ t, v = .ref t) (h0 : ¬ x < 0) (h1 : x < n) : SM l D ρ cy aK aV RM RL sz ms_pck [.int x, .int n, v] (some (.int x)) := by
  have hn : (lg_sl [.int x, .int n, v]).length ≤ 3 := by rcases hv with rfl | ⟨t, rfl⟩ <;> exact Nat.le_of_ble_eq_true rfl
  refine SM.intro (by decide +kernel) rfl hn ?_
  intro p e R s m args below meth c A Z ls hC hX hl hP
  refine lv_iload_n hC.1 hC.2.1 (show decode cJ3_checkIndex_8e157 0 = .ok (.iload_n 0, 1) by decide +kernel) rfl (lv_at hl 0 rfl) ?_
  refine lv_if_lt hC.1 hC.2.1 (show decode cJ3_checkIndex_8e157 1 = .ok (.ifCond .lt 8, 3) by decide +kernel) (tgt := 9) rfl (fun q => absurd q h0) (fun _ => ?_)
  refine lv_iload_n hC.1 hC.2.1 (show decode cJ3_checkIndex_8e157 4 = .ok (.iload_n 0, 1) by decide +kernel) rfl (lv_at hl 0 rfl) ?_
  refine lv_iload_n hC.1 hC.2.1 (show decode cJ3_checkIndex_8e157 5 = .ok (.iload_n 1, 1) by decide +kernel) rfl (lv_at hl 1 rfl) ?_
  refine lv_icmp_lt hC.1 hC.2.1 (show decode cJ3_checkIndex_8e157 6 = .ok (.if_icmp .lt 10, 3) by decide +kernel) (tgt := 16) rfl (fun _ => ?_) (fun q => absurd h1 q)
  refine lv_iload_n hC.1 hC.2.1 (show decode cJ3_checkIndex_8e157 16 = .ok (.iload_n 0, 1) by decide +kernel) rfl (lv_at hl 0 rfl) ?_
  exact (hX s.heap [] ls 17 hP va_S.rf).2.1 x .int rfl rfl rfl (show decode cJ3_checkIndex_8e157 17 = .ok (.ireturn, 1) by decide +kernel)
theorem s_ick (l : Launch) (D : va_G) (ρ : Nat → Fin 5 → Nat) (cy : Nat → ClassId) (aK aV : Nat → Nat) (RM : Nat → Fin 5 → Nat → Int32) (RL : Nat → Fin 5 → Nat → Int64) (sz : Nat) {x n : Int32} (h0 : ¬ x < 0) (h1 : x < n) : SM l D ρ cy aK aV RM RL sz ms_ick [.int x, .int n] none := by
  refine SM.intro (by decide +kernel) rfl (Nat.le_of_ble_eq_true rfl) ?_
  intro p e R s m args below meth c A Z ls hC hX hl hP
  have hts := hC.2.2.2.2.1
  have hE := hC.2.2.2.2.2.2.2.2.1
  refine lv_iload_n hC.1 hC.2.1 (show decode cJ0_checkIndex_df160 0 = .ok (.iload_n 0, 1) by decide +kernel) rfl (lv_at hl 0 rfl) ?_
  refine lv_iload_n hC.1 hC.2.1 (show decode cJ0_checkIndex_df160 1 = .ok (.iload_n 1, 1) by decide +kernel) rfl (lv_at hl 1 rfl) ?_
  rcases hE.2.2.2.2 with hz | ⟨t, hz⟩
  · refine va_gets hC.1 hC.2.1 (C := "jdk/internal/util/Preconditions") hz va_S.rf hC.2.2.2.1 (hts _ (xck_in (p := (2, 33)) (by decide +kernel) rfl)) (fun _ h => h) (show decode cJ0_checkIndex_df160 2 = .ok (.getstatic 1053, 3) by decide +kernel) ?_
    refine s_cS (ra := [.int x, .int n, .null]) (rest := []) (n := 3) hC (s_pck l D ρ cy aK aV RM RL _ (Or.inl rfl) h0 h1) mg_pck (by decide) (by decide) (by decide +kernel) rfl (xck_in (p := (2, 36)) (by decide +kernel) rfl) (xck_in (p := (1, 8)) (by decide +kernel) rfl) (xck_in (p := (2, 35)) (by decide +kernel) rfl) hP va_S.rf hl (by show 0 ≤ 8; decide) (show decode cJ0_checkIndex_df160 5 = .ok (.invokestatic 1059, 3) by decide +kernel) (fun H1 locs1 hP1 hS1 => ?_)
    refine lv_pop hC.1 hC.2.1 (show decode cJ0_checkIndex_df160 8 = .ok (.pop, 1) by decide +kernel) rfl ?_
    exact (hX H1 locs1 ls 9 hP1 hS1).1 rfl rfl (show decode cJ0_checkIndex_df160 9 = .ok (.return_, 1) by decide +kernel)
  · refine va_gets hC.1 hC.2.1 (C := "jdk/internal/util/Preconditions") hz va_S.rf hC.2.2.2.1 (hts _ (xck_in (p := (2, 33)) (by decide +kernel) rfl)) (fun _ h => h) (show decode cJ0_checkIndex_df160 2 = .ok (.getstatic 1053, 3) by decide +kernel) ?_
    refine s_cS (ra := [.int x, .int n, .ref t]) (rest := []) (n := 3) hC (s_pck l D ρ cy aK aV RM RL _ (Or.inr ⟨t, rfl⟩) h0 h1) mg_pck (by decide) (by decide) (by decide +kernel) rfl (xck_in (p := (2, 36)) (by decide +kernel) rfl) (xck_in (p := (1, 8)) (by decide +kernel) rfl) (xck_in (p := (2, 35)) (by decide +kernel) rfl) hP va_S.rf hl (by show 0 ≤ 8; decide) (show decode cJ0_checkIndex_df160 5 = .ok (.invokestatic 1059, 3) by decide +kernel) (fun H1 locs1 hP1 hS1 => ?_)
    refine lv_pop hC.1 hC.2.1 (show decode cJ0_checkIndex_df160 8 = .ok (.pop, 1) by decide +kernel) rfl ?_
    exact (hX H1 locs1 ls 9 hP1 hS1).1 rfl rfl (show decode cJ0_checkIndex_df160 9 = .ok (.return_, 1) by decide +kernel)
theorem xln_v : ∀ i, i < 7 → (Int32.ofNat (xln i)).toInt = (xln i : Int) ∧ xln i ≤ 5 ∧ 4 ≤ xln i := by decide +kernel
theorem xby_c : ∀ i, i < 7 → ∀ j, j < 5 → ((xby i j &&& (Int16.ofInt 255).toInt32).toUInt32 % 65536).toInt32 = xby i j ∧ narrow .char (.int (xby i j)) = .int (xby i j) ∧ 0 ≤ (xby i j).toInt := by decide +kernel
theorem s_lch (l : Launch) (D : va_G) (ρ : Nat → Fin 5 → Nat) (cy : Nat → ClassId) (aK aV : Nat → Nat) (RM : Nat → Fin 5 → Nat → Int32) (RL : Nat → Fin 5 → Nat → Int64) (sz : Nat) {i : Nat} {x : Int32} (hi : i < 7) (h0 : 0 ≤ x.toInt) (h1 : x.toInt < xln i) : SM l D ρ cy aK aV RM RL sz ms_lch [.ref (aV i), .int x] (some (.int (xby i x.toInt.toNat))) := by
  obtain ⟨v1, v2, -⟩ := xln_v i hi
  obtain ⟨y1, y2, -⟩ := xby_c i hi x.toInt.toNat (by omega)
  have g0 : ¬ x < 0 := fun q => by
    have := Int32.lt_iff_toInt_lt.mp q
    rw [Int32.toInt_zero] at this
    omega
  have g1 : x < Int32.ofNat (xln i) := Int32.lt_iff_toInt_lt.mpr (by rw [v1]; exact h1)
  refine SM.intro (by decide +kernel) rfl (Nat.le_of_ble_eq_true rfl) ?_
  intro p e R s m args below meth c A Z ls hC hX hl hP
  have hts := hC.2.2.2.2.1
  have hE := hC.2.2.2.2.2.2.2.2.1
  refine lv_iload_n hC.1 hC.2.1 (show decode cJ1_charAt_3b067 0 = .ok (.iload_n 1, 1) by decide +kernel) rfl (lv_at hl 1 rfl) ?_
  refine lv_aload_n hC.1 hC.2.1 (show decode cJ1_charAt_3b067 1 = .ok (.aload_n 0, 1) by decide +kernel) rfl (lv_at hl 0 rfl) ?_
  refine va_tlen hC.1 hC.2.1 (hE.2.2.1.1 i hi).2.2.2 va_S.rf rfl (show decode cJ1_charAt_3b067 2 = .ok (.arraylength, 1) by decide +kernel) ?_
  refine s_cS (ra := [.int x, .int (Int32.ofNat (xln i))]) (rest := []) (n := 2) hC (s_ick l D ρ cy aK aV RM RL _ g0 g1) mg_ick (by decide) (by decide) (by decide +kernel) rfl (xck_in (p := (2, 31)) (by decide +kernel) rfl) (xck_in (p := (1, 6)) (by decide +kernel) rfl) (xck_in (p := (2, 30)) (by decide +kernel) rfl) hP va_S.rf hl (by show 0 ≤ 8; decide) (show decode cJ1_charAt_3b067 3 = .ok (.invokestatic 9, 3) by decide +kernel) (fun H1 locs1 hP1 hS1 => ?_)
  refine lv_aload_n hC.1 hC.2.1 (show decode cJ1_charAt_3b067 6 = .ok (.aload_n 0, 1) by decide +kernel) rfl (lv_at hl 0 rfl) ?_
  refine lv_iload_n hC.1 hC.2.1 (show decode cJ1_charAt_3b067 7 = .ok (.iload_n 1, 1) by decide +kernel) rfl (lv_at hl 1 rfl) ?_
  refine va_tb hC.1 hC.2.1 (hE.2.2.1.1 i hi).2.2.2 hS1 (x_in ⟨h0, h1⟩) rfl (show decode cJ1_charAt_3b067 8 = .ok (.baload, 1) by decide +kernel) ?_
  refine lv_sipush hC.1 hC.2.1 (show decode cJ1_charAt_3b067 9 = .ok (.sipush 255, 3) by decide +kernel) rfl ?_
  refine lv_iand hC.1 hC.2.1 (show decode cJ1_charAt_3b067 12 = .ok (.iand, 1) by decide +kernel) ?_
  refine lv_i2c hC.1 hC.2.1 (show decode cJ1_charAt_3b067 13 = .ok (.i2c, 1) by decide +kernel) y1 ?_
  exact (hX H1 locs1 ls 14 hP1 hS1).2.1 _ .char rfl rfl y2 (show decode cJ1_charAt_3b067 14 = .ok (.ireturn, 1) by decide +kernel)
theorem s_cha (l : Launch) (D : va_G) (ρ : Nat → Fin 5 → Nat) (cy : Nat → ClassId) (aK aV : Nat → Nat) (RM : Nat → Fin 5 → Nat → Int32) (RL : Nat → Fin 5 → Nat → Int64) (sz : Nat) {i : Nat} {x : Int32} (hi : i < 7) (h0 : 0 ≤ x.toInt) (h1 : x.toInt < xln i) : SM l D ρ cy aK aV RM RL sz ms_cha [.ref (aK i), .int x] (some (.int (xby i x.toInt.toNat))) := by
  obtain ⟨v1, v2, -⟩ := xln_v i hi
  obtain ⟨y1, y2, -⟩ := xby_c i hi x.toInt.toNat (by omega)
  refine SM.intro (by decide +kernel) rfl (Nat.le_of_ble_eq_true rfl) ?_
  intro p e R s m args below meth c A Z ls hC hX hl hP
  have hts := hC.2.2.2.2.1
  have hE := hC.2.2.2.2.2.2.2.2.1
  refine lv_aload_n hC.1 hC.2.1 (show decode cJ0_charAt_5068e 0 = .ok (.aload_n 0, 1) by decide +kernel) rfl (lv_at hl 0 rfl) ?_
  refine s_cV (ra := []) (rest := []) (n := 0) (C := RJ0) hC (s_lat l D ρ cy aK aV RM RL _ hi) mg_lat (by decide) (by decide) (by decide +kernel) rfl (xck_in (p := (2, 24)) (by decide +kernel) rfl) (xck_in (p := (1, 6)) (by decide +kernel) rfl) (xck_in (p := (2, 23)) (by decide +kernel) rfl) (xck_in (p := (2, 25)) (by decide +kernel) rfl) (vk_recv hE.2.2.1 hi va_S.rf) hP va_S.rf hl (by show 0 ≤ 8; decide) (show decode cJ0_charAt_5068e 1 = .ok (.invokevirtual 492, 3) by decide +kernel) (fun H1 locs1 hP1 hS1 => ?_)
  refine lv_if_eq hC.1 hC.2.1 (show decode cJ0_charAt_5068e 4 = .ok (.ifCond .eq 12, 3) by decide +kernel) (tgt := 16) rfl (fun q => absurd q (by decide)) (fun _ => ?_)
  refine lv_aload_n hC.1 hC.2.1 (show decode cJ0_charAt_5068e 7 = .ok (.aload_n 0, 1) by decide +kernel) rfl (lv_at hl 0 rfl) ?_
  refine vk_getf hC.1 hC.2.1 (hE.2.2.1.1 i hi).2.2.1 hS1 hC.2.2.2.1 (hts _ (xck_in (p := (6, 7)) (by decide +kernel) rfl)) (fun _ h => h) (show decode cJ0_charAt_5068e 8 = .ok (.getfield 9, 3) by decide +kernel) ?_
  refine lv_iload_n hC.1 hC.2.1 (show decode cJ0_charAt_5068e 11 = .ok (.iload_n 1, 1) by decide +kernel) rfl (lv_at hl 1 rfl) ?_
  refine s_cS (ra := [.ref (aV i), .int x]) (rest := []) (n := 2) hC (s_lch l D ρ cy aK aV RM RL _ hi h0 h1) mg_lch (by decide) (by decide) (by decide +kernel) rfl (xck_in (p := (2, 28)) (by decide +kernel) rfl) (xck_in (p := (1, 7)) (by decide +kernel) rfl) (xck_in (p := (2, 27)) (by decide +kernel) rfl) hP1 hS1 hl (by show 0 ≤ 8; decide) (show decode cJ0_charAt_5068e 12 = .ok (.invokestatic 495, 3) by decide +kernel) (fun H2 locs2 hP2 hS2 => ?_)
  exact (hX H2 locs2 ls 15 hP2 hS2).2.1 _ .char rfl rfl y2 (show decode cJ0_charAt_5068e 15 = .ok (.ireturn, 1) by decide +kernel)

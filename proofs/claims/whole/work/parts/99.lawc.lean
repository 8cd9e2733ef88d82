/-! ===== the law: its loop ===== -/
section LC
variable {p : Program} {l : Launch} {e : Env} {s : State} {m : MethodId} {below : List Frame} {meth : Method} {c : Code} {H : Heap} {locs : List Loc} {D : va_G} {ρ : Nat → Fin 5 → Nat} {cy : Nat → ClassId} {aK aV : Nat → Nat} {RM : Nat → Fin 5 → Nat → Int32} {RL : Nat → Fin 5 → Nat → Int64} {b L i : Nat} {xs : Nat → Int32} {ls : Array Slot} {Z : State → Prop}
set_option maxRecDepth 100000 in
theorem law_loop (hC : lCtx p s m meth c b L xs D ρ cy aK aV) : ∀ (q i : Nat) (RM : Nat → Fin 5 → Nat → Int32) (RL : Nat → Fin 5 → Nat → Int64) (H : Heap) (locs : List Loc) (ls : Array Slot), L + 5 ≤ i + q → i ≤ L + 5 → lv_has ls 4 (lV ρ b i) → InvX (xabs RM RL) (xabs RM RL) → va_P D vwCl (xws ρ cy RM RL) H → va_S (lA s) s.heap H locs → W p l e room_1 s m #[Value.ref b] below meth c H locs 85 5155 (lw_Z below #[Value.ref b] s) (F0 m 18 ls []) := by
  obtain ⟨⟨hx, hb, hr, hml, hown, hts, hX, hbl, hlocks, hgv⟩, hL, hK, hE, hDa⟩ := id hC
  have hL5 : (Int32.ofNat L - 5).toInt = (L : Int) - 5 := by
    rw [t32_sub, show Int32.ofNat L = Int32.ofInt (L : Int) from rfl, t32_of (by omega) (by omega), show (5 : Int32).toInt = 5 by decide, w32_id (by omega) (by omega)]
  have go : ∀ (i : Nat) (H : Heap) (locs : List Loc) (ls : Array Slot), i ≤ L + 5 → lv_has ls 4 (lV ρ b i) → va_S (lA s) s.heap H locs → (i + 5 ≤ L → W p l e room_1 s m #[Value.ref b] below meth c H locs 85 5155 (lw_Z below #[Value.ref b] s) (F0 m 26 ls [])) → W p l e room_1 s m #[Value.ref b] below meth c H locs 85 5155 (lw_Z below #[Value.ref b] s) (F0 m 18 ls []) := by
    intro i H locs ls hi hl hS k
    have ei : (Int32.ofInt (i : Int)).toInt = i := t32_of (by omega) (by omega)
    refine lv_iload_n hx hb (show decode code 18 = .ok (.iload_n 3, 1) by decide +kernel) rfl (lv_at hl 0 rfl) ?_
    refine lv_aload_n hx hb (show decode code 19 = .ok (.aload_n 0, 1) by decide +kernel) rfl (lv_at hl 3 rfl) ?_
    refine va_slen hx hb hX hbl (Nat.not_le.mpr hbl) hS (show decode code 20 = .ok (.arraylength, 1) by decide +kernel) ?_
    refine lv_iconst hx hb (show decode code 21 = .ok (.iconst 5, 1) by decide +kernel) (v := 5) (by decide) ?_
    refine lv_isub hx hb (show decode code 22 = .ok (.isub, 1) by decide +kernel) ?_
    refine lv_icmp_gt hx hb (show decode code 23 = .ok (.if_icmp .gt 1368, 3) by decide +kernel) (tgt := 1391) rfl (fun _ => ?_) (fun z => ?_)
    · refine lv_iconst hx hb (show decode code 1391 = .ok (.iconst 1, 1) by decide +kernel) (v := 1) (by decide) ?_
      refine va_forget (fun q hq => hS.2.2 q hq) ?_
      exact lw_ret hx hb hr hlocks (show decode code 1392 = .ok (.ireturn, 1) by decide +kernel)
    · refine k ?_
      have z' : ¬ (Int32.ofNat L - 5) < Int32.ofInt (i : Int) := z
      have := Int32.le_iff_toInt_le.mp (Int32.not_lt.mp z')
      rw [ei, hL5] at this
      omega
  intro q
  induction q with
  | zero =>
    intro i RM RL H locs ls hq hi hl inv hP hS
    exact go i H locs ls hi hl hS (fun h => absurd h (by omega))
  | succ q ih =>
    intro i RM RL H locs ls hq hi hl inv hP hS
    refine go i H locs ls hi hl hS (fun h5 => ?_)
    have ei : (Int32.ofInt (i : Int)).toInt = i := t32_of (by omega) (by omega)
    have nx : ∀ (RM : Nat → Fin 5 → Nat → Int32) (RL : Nat → Fin 5 → Nat → Int64) (H : Heap) (locs : List Loc), InvX (xabs RM RL) (xabs RM RL) → va_P D vwCl (xws ρ cy RM RL) H → va_S (lA s) s.heap H locs → W p l e room_1 s m #[Value.ref b] below meth c H locs 85 5155 (lw_Z below #[Value.ref b] s) (F0 m 1385 ls []) := by
      intro RM RL H locs inv hP hS
      refine lv_iinc hx hb (show decode code 1385 = .ok (.iinc 3 5, 3) by decide +kernel) (v := Int32.ofInt ((i + 5 : Nat) : Int)) (lv' := lV ρ b (i + 5)) hl (k := 0) rfl (Int32.toInt_inj.mp (by rw [t32_add, ei, show (Int32.ofInt 5).toInt = 5 by decide, w32_id (by omega) (by omega), t32_of (by omega) (by omega)]; omega)) (by decide) rfl (fun ls' hl' => ?_)
      refine lv_goto hx hb (show decode code 1388 = .ok (.goto (-1370), 3) by decide +kernel) (tgt := 18) rfl ?_
      exact ih (i + 5) RM RL H locs ls' (by omega) (by omega) hl' inv hP hS
    refine lv_aload_n hx hb (show decode code 26 = .ok (.aload_n 0, 1) by decide +kernel) rfl (lv_at hl 3 rfl) ?_
    refine lv_iload_n hx hb (show decode code 27 = .ok (.iload_n 3, 1) by decide +kernel) rfl (lv_at hl 0 rfl) ?_
    refine va_sld hx hb hX hbl (Nat.not_le.mpr hbl) hS (x_in (by rw [ei]; omega)) (show decode code 28 = .ok (.iaload, 1) by decide +kernel) ?_
    refine lv_bipush hx hb (show decode code 29 = .ok (.bipush 63, 2) by decide +kernel) (v := 63) (by decide) ?_
    refine lv_iand hx hb (show decode code 31 = .ok (.iand, 1) by decide +kernel) ?_
    refine lv_topi (fun v _ => ?_)
    have hsw : decode code 32 = .ok (.tableswitch 1353 0 36 #[164, 187, 210, 223, 236, 259, 292, 315, 348, 391, 440, 483, 506, 529, 562, 595, 628, 661, 684, 737, 770, 803, 836, 890, 934, 977, 1000, 1033, 1056, 1089, 1132, 1155, 1178, 1221, 1264, 1317, 1330], 164) := by decide +kernel
    by_cases hv : v.toInt < 0 ∨ 36 < v.toInt
    · exact lv_tableOut hx hb hsw hv (tgt := 1385) rfl (nx RM RL H locs inv hP hS)
    · have v1 : ¬ v.toInt < 0 := fun z => hv (Or.inl z)
      have v2 : ¬ 36 < v.toInt := fun z => hv (Or.inr z)
      obtain ⟨k, hk⟩ := Int.eq_ofNat_of_zero_le (Int.not_lt.mp v1)
      have hk : v.toInt = (k : Int) := hk
      have hk36 : k ≤ 36 := by omega
      have hc : k = 0 ∨ k = 1 ∨ k = 2 ∨ k = 3 ∨ k = 4 ∨ k = 5 ∨ k = 6 ∨ k = 7 ∨ k = 8 ∨ k = 9 ∨ k = 10 ∨ k = 11 ∨ k = 12 ∨ k = 13 ∨ k = 14 ∨ k = 15 ∨ k = 16 ∨ k = 17 ∨ k = 18 ∨ k = 19 ∨ k = 20 ∨ k = 21 ∨ k = 22 ∨ k = 23 ∨ k = 24 ∨ k = 25 ∨ k = 26 ∨ k = 27 ∨ k = 28 ∨ k = 29 ∨ k = 30 ∨ k = 31 ∨ k = 32 ∨ k = 33 ∨ k = 34 ∨ k = 35 ∨ k = 36 := by omega
      rcases hc with rfl | rfl | rfl | rfl | rfl | rfl | rfl | rfl | rfl | rfl | rfl | rfl | rfl | rfl | rfl | rfl | rfl | rfl | rfl | rfl | rfl | rfl | rfl | rfl | rfl | rfl | rfl | rfl | rfl | rfl | rfl | rfl | rfl | rfl | rfl | rfl | rfl
      · exact lv_tableIn hx hb hsw v1 v2 (off := 164) (by rw [hk]; rfl) (tgt := 196) rfl (la_0 hC hl h5 inv hP hS nx)
      · exact lv_tableIn hx hb hsw v1 v2 (off := 187) (by rw [hk]; rfl) (tgt := 219) rfl (la_1 hC hl h5 inv hP hS nx)
      · exact lv_tableIn hx hb hsw v1 v2 (off := 210) (by rw [hk]; rfl) (tgt := 242) rfl (la_2 hC hl h5 inv hP hS nx)
      · exact lv_tableIn hx hb hsw v1 v2 (off := 223) (by rw [hk]; rfl) (tgt := 255) rfl (la_3 hC hl h5 inv hP hS nx)
      · exact lv_tableIn hx hb hsw v1 v2 (off := 236) (by rw [hk]; rfl) (tgt := 268) rfl (la_4 hC hl h5 inv hP hS nx)
      · exact lv_tableIn hx hb hsw v1 v2 (off := 259) (by rw [hk]; rfl) (tgt := 291) rfl (la_5 hC hl h5 inv hP hS nx)
      · exact lv_tableIn hx hb hsw v1 v2 (off := 292) (by rw [hk]; rfl) (tgt := 324) rfl (la_6 hC hl h5 inv hP hS nx)
      · exact lv_tableIn hx hb hsw v1 v2 (off := 315) (by rw [hk]; rfl) (tgt := 347) rfl (la_7 hC hl h5 inv hP hS nx)
      · exact lv_tableIn hx hb hsw v1 v2 (off := 348) (by rw [hk]; rfl) (tgt := 380) rfl (la_8 hC hl h5 inv hP hS nx)
      · exact lv_tableIn hx hb hsw v1 v2 (off := 391) (by rw [hk]; rfl) (tgt := 423) rfl (la_9 hC hl h5 inv hP hS nx)
      · exact lv_tableIn hx hb hsw v1 v2 (off := 440) (by rw [hk]; rfl) (tgt := 472) rfl (la_10 hC hl h5 inv hP hS nx)
      · exact lv_tableIn hx hb hsw v1 v2 (off := 483) (by rw [hk]; rfl) (tgt := 515) rfl (la_11 hC hl h5 inv hP hS nx)
      · exact lv_tableIn hx hb hsw v1 v2 (off := 506) (by rw [hk]; rfl) (tgt := 538) rfl (la_12 hC hl h5 inv hP hS nx)
      · exact lv_tableIn hx hb hsw v1 v2 (off := 529) (by rw [hk]; rfl) (tgt := 561) rfl (la_13 hC hl h5 inv hP hS nx)
      · exact lv_tableIn hx hb hsw v1 v2 (off := 562) (by rw [hk]; rfl) (tgt := 594) rfl (la_14 hC hl h5 inv hP hS nx)
      · exact lv_tableIn hx hb hsw v1 v2 (off := 595) (by rw [hk]; rfl) (tgt := 627) rfl (la_15 hC hl h5 inv hP hS nx)
      · exact lv_tableIn hx hb hsw v1 v2 (off := 628) (by rw [hk]; rfl) (tgt := 660) rfl (la_16 hC hl h5 inv hP hS nx)
      · exact lv_tableIn hx hb hsw v1 v2 (off := 661) (by rw [hk]; rfl) (tgt := 693) rfl (la_17 hC hl h5 inv hP hS nx)
      · exact lv_tableIn hx hb hsw v1 v2 (off := 684) (by rw [hk]; rfl) (tgt := 716) rfl (la_18 hC hl h5 inv hP hS nx)
      · exact lv_tableIn hx hb hsw v1 v2 (off := 737) (by rw [hk]; rfl) (tgt := 769) rfl (la_19 hC hl h5 inv hP hS nx)
      · exact lv_tableIn hx hb hsw v1 v2 (off := 770) (by rw [hk]; rfl) (tgt := 802) rfl (la_20 hC hl h5 inv hP hS nx)
      · exact lv_tableIn hx hb hsw v1 v2 (off := 803) (by rw [hk]; rfl) (tgt := 835) rfl (la_21 hC hl h5 inv hP hS nx)
      · exact lv_tableIn hx hb hsw v1 v2 (off := 836) (by rw [hk]; rfl) (tgt := 868) rfl (la_22 hC hl h5 inv hP hS nx)
      · exact lv_tableIn hx hb hsw v1 v2 (off := 890) (by rw [hk]; rfl) (tgt := 922) rfl (la_23 hC hl h5 inv hP hS nx)
      · exact lv_tableIn hx hb hsw v1 v2 (off := 934) (by rw [hk]; rfl) (tgt := 966) rfl (la_24 hC hl h5 inv hP hS nx)
      · exact lv_tableIn hx hb hsw v1 v2 (off := 977) (by rw [hk]; rfl) (tgt := 1009) rfl (la_25 hC hl h5 inv hP hS nx)
      · exact lv_tableIn hx hb hsw v1 v2 (off := 1000) (by rw [hk]; rfl) (tgt := 1032) rfl (la_26 hC hl h5 inv hP hS nx)
      · exact lv_tableIn hx hb hsw v1 v2 (off := 1033) (by rw [hk]; rfl) (tgt := 1065) rfl (la_27 hC hl h5 inv hP hS nx)
      · exact lv_tableIn hx hb hsw v1 v2 (off := 1056) (by rw [hk]; rfl) (tgt := 1088) rfl (la_28 hC hl h5 inv hP hS nx)
      · exact lv_tableIn hx hb hsw v1 v2 (off := 1089) (by rw [hk]; rfl) (tgt := 1121) rfl (la_29 hC hl h5 inv hP hS nx)
      · exact lv_tableIn hx hb hsw v1 v2 (off := 1132) (by rw [hk]; rfl) (tgt := 1164) rfl (la_30 hC hl h5 inv hP hS nx)
      · exact lv_tableIn hx hb hsw v1 v2 (off := 1155) (by rw [hk]; rfl) (tgt := 1187) rfl (la_31 hC hl h5 inv hP hS nx)
      · exact lv_tableIn hx hb hsw v1 v2 (off := 1178) (by rw [hk]; rfl) (tgt := 1210) rfl (la_32 hC hl h5 inv hP hS nx)
      · exact lv_tableIn hx hb hsw v1 v2 (off := 1221) (by rw [hk]; rfl) (tgt := 1253) rfl (la_33 hC hl h5 inv hP hS nx)
      · exact lv_tableIn hx hb hsw v1 v2 (off := 1264) (by rw [hk]; rfl) (tgt := 1296) rfl (la_34 hC hl h5 inv hP hS nx)
      · exact lv_tableIn hx hb hsw v1 v2 (off := 1317) (by rw [hk]; rfl) (tgt := 1349) rfl (la_35 hC hl h5 inv hP hS nx)
      · exact lv_tableIn hx hb hsw v1 v2 (off := 1330) (by rw [hk]; rfl) (tgt := 1362) rfl (la_36 hC hl h5 inv hP hS nx)
end LC

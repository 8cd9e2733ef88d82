/-! ===== the law: its calls ===== -/
section LB
variable {p : Program} {l : Launch} {e : Env} {s : State} {m : MethodId} {below : List Frame} {meth : Method} {c : Code} {H : Heap} {locs : List Loc} {D : va_G} {ρ : Nat → Fin 5 → Nat} {cy : Nat → ClassId} {aK aV : Nat → Nat} {RM : Nat → Fin 5 → Nat → Int32} {RL : Nat → Fin 5 → Nat → Int64} {b L i : Nat} {xs : Nat → Int32} {ls : Array Slot} {Z : State → Prop}
set_option maxRecDepth 100000 in
theorem la_0 (hC : lCtx p s m meth c b L xs D ρ cy aK aV) (hl : lv_has ls 4 (lV ρ b i)) (hi : i + 5 ≤ L) (inv : InvX (xabs RM RL) (xabs RM RL)) (hP : va_P D vwCl (xws ρ cy RM RL) H) (hS : va_S (lA s) s.heap H locs) (nx : ∀ (RM : Nat → Fin 5 → Nat → Int32) (RL : Nat → Fin 5 → Nat → Int64) (H : Heap) (locs : List Loc), InvX (xabs RM RL) (xabs RM RL) → va_P D vwCl (xws ρ cy RM RL) H → va_S (lA s) s.heap H locs → W p l e room_1 s m #[Value.ref b] below meth c H locs 85 5155 Z (F0 m 1385 ls [])) : W p l e room_1 s m #[Value.ref b] below meth c H locs 85 5155 Z (F0 m 196 ls []) := by
  refine l_case (mc := mi_X3_feed) (mm := mi_X4_feed) (ra := [.int (xs (i + 1))]) (n := 1) (pcA := 202) (pcB := 211) (idx1 := 13) (idx2 := 17) (off := 1171) hC hl hP hS nx (p_feed inv (xs (i + 1)).toInt) ⟨_, _, rfl, ⟨_, rfl, rfl⟩, rfl⟩ rfl (by decide) (by decide) (by decide +kernel) (xck_in (p := (1, 189)) (by decide +kernel) rfl) (xck_in (p := (1, 1)) (by decide +kernel) rfl) (xck_in (p := (1, 188)) (by decide +kernel) rfl) (xck_in (p := (1, 190)) (by decide +kernel) rfl) (by decide) (by decide) (by decide +kernel) (xck_in (p := (4, 113)) (by decide +kernel) rfl) (xck_in (p := (1, 5)) (by decide +kernel) rfl) (xck_in (p := (4, 112)) (by decide +kernel) rfl) (xck_in (p := (4, 114)) (by decide +kernel) rfl) ⟨by decide +kernel, by decide +kernel, by decide +kernel, by decide +kernel, by decide +kernel⟩ (by decide) ?_ ?_
  · intro H locs st hS k
    refine l_arg hC hS hl 1 (by omega) (show dArg 197 1 from ⟨by decide +kernel, by decide +kernel, by decide +kernel, by decide +kernel, by decide +kernel⟩) ?_
    exact k
  · intro H locs st hS k
    refine l_arg hC hS hl 1 (by omega) (show dArg 206 1 from ⟨by decide +kernel, by decide +kernel, by decide +kernel, by decide +kernel, by decide +kernel⟩) ?_
    exact k
set_option maxRecDepth 100000 in
theorem la_1 (hC : lCtx p s m meth c b L xs D ρ cy aK aV) (hl : lv_has ls 4 (lV ρ b i)) (hi : i + 5 ≤ L) (inv : InvX (xabs RM RL) (xabs RM RL)) (hP : va_P D vwCl (xws ρ cy RM RL) H) (hS : va_S (lA s) s.heap H locs) (nx : ∀ (RM : Nat → Fin 5 → Nat → Int32) (RL : Nat → Fin 5 → Nat → Int64) (H : Heap) (locs : List Loc), InvX (xabs RM RL) (xabs RM RL) → va_P D vwCl (xws ρ cy RM RL) H → va_S (lA s) s.heap H locs → W p l e room_1 s m #[Value.ref b] below meth c H locs 85 5155 Z (F0 m 1385 ls [])) : W p l e room_1 s m #[Value.ref b] below meth c H locs 85 5155 Z (F0 m 219 ls []) := by
  refine l_case (mc := mi_X3_end) (mm := mi_X4_end) (ra := [.int (xs (i + 1))]) (n := 1) (pcA := 225) (pcB := 234) (idx1 := 18) (idx2 := 21) (off := 1148) hC hl hP hS nx (p_end inv (xs (i + 1)).toInt) ⟨_, _, rfl, ⟨_, rfl, rfl⟩, rfl⟩ rfl (by decide) (by decide) (by decide +kernel) (xck_in (p := (1, 200)) (by decide +kernel) rfl) (xck_in (p := (1, 1)) (by decide +kernel) rfl) (xck_in (p := (1, 199)) (by decide +kernel) rfl) (xck_in (p := (1, 201)) (by decide +kernel) rfl) (by decide) (by decide) (by decide +kernel) (xck_in (p := (4, 121)) (by decide +kernel) rfl) (xck_in (p := (1, 5)) (by decide +kernel) rfl) (xck_in (p := (4, 120)) (by decide +kernel) rfl) (xck_in (p := (4, 122)) (by decide +kernel) rfl) ⟨by decide +kernel, by decide +kernel, by decide +kernel, by decide +kernel, by decide +kernel⟩ (by decide) ?_ ?_
  · intro H locs st hS k
    refine l_arg hC hS hl 1 (by omega) (show dArg 220 1 from ⟨by decide +kernel, by decide +kernel, by decide +kernel, by decide +kernel, by decide +kernel⟩) ?_
    exact k
  · intro H locs st hS k
    refine l_arg hC hS hl 1 (by omega) (show dArg 229 1 from ⟨by decide +kernel, by decide +kernel, by decide +kernel, by decide +kernel, by decide +kernel⟩) ?_
    exact k
set_option maxRecDepth 100000 in
theorem la_2 (hC : lCtx p s m meth c b L xs D ρ cy aK aV) (hl : lv_has ls 4 (lV ρ b i)) (hi : i + 5 ≤ L) (inv : InvX (xabs RM RL) (xabs RM RL)) (hP : va_P D vwCl (xws ρ cy RM RL) H) (hS : va_S (lA s) s.heap H locs) (nx : ∀ (RM : Nat → Fin 5 → Nat → Int32) (RL : Nat → Fin 5 → Nat → Int64) (H : Heap) (locs : List Loc), InvX (xabs RM RL) (xabs RM RL) → va_P D vwCl (xws ρ cy RM RL) H → va_S (lA s) s.heap H locs → W p l e room_1 s m #[Value.ref b] below meth c H locs 85 5155 Z (F0 m 1385 ls [])) : W p l e room_1 s m #[Value.ref b] below meth c H locs 85 5155 Z (F0 m 242 ls []) := by
  refine l_case (mc := mi_X3_text) (mm := mi_X4_text) (ra := []) (n := 0) (pcA := 243) (pcB := 247) (idx1 := 22) (idx2 := 26) (off := 1135) hC hl hP hS nx (p_textC inv) rfl rfl (by decide) (by decide) (by decide +kernel) (xck_in (p := (1, 204)) (by decide +kernel) rfl) (xck_in (p := (1, 1)) (by decide +kernel) rfl) (xck_in (p := (1, 203)) (by decide +kernel) rfl) (xck_in (p := (1, 205)) (by decide +kernel) rfl) (by decide) (by decide) (by decide +kernel) (xck_in (p := (4, 125)) (by decide +kernel) rfl) (xck_in (p := (1, 5)) (by decide +kernel) rfl) (xck_in (p := (4, 124)) (by decide +kernel) rfl) (xck_in (p := (4, 126)) (by decide +kernel) rfl) ⟨by decide +kernel, by decide +kernel, by decide +kernel, by decide +kernel, by decide +kernel⟩ (by decide) ?_ ?_
  · intro H locs st hS k
    exact k
  · intro H locs st hS k
    exact k
set_option maxRecDepth 100000 in
theorem la_3 (hC : lCtx p s m meth c b L xs D ρ cy aK aV) (hl : lv_has ls 4 (lV ρ b i)) (hi : i + 5 ≤ L) (inv : InvX (xabs RM RL) (xabs RM RL)) (hP : va_P D vwCl (xws ρ cy RM RL) H) (hS : va_S (lA s) s.heap H locs) (nx : ∀ (RM : Nat → Fin 5 → Nat → Int32) (RL : Nat → Fin 5 → Nat → Int64) (H : Heap) (locs : List Loc), InvX (xabs RM RL) (xabs RM RL) → va_P D vwCl (xws ρ cy RM RL) H → va_S (lA s) s.heap H locs → W p l e room_1 s m #[Value.ref b] below meth c H locs 85 5155 Z (F0 m 1385 ls [])) : W p l e room_1 s m #[Value.ref b] below meth c H locs 85 5155 Z (F0 m 255 ls []) := by
  refine l_case (mc := mi_X3_fault) (mm := mi_X4_fault) (ra := []) (n := 0) (pcA := 256) (pcB := 260) (idx1 := 27) (idx2 := 30) (off := 1122) hC hl hP hS nx (p_fault inv) rfl rfl (by decide) (by decide) (by decide +kernel) (xck_in (p := (2, 136)) (by decide +kernel) rfl) (xck_in (p := (1, 1)) (by decide +kernel) rfl) (xck_in (p := (2, 135)) (by decide +kernel) rfl) (xck_in (p := (2, 137)) (by decide +kernel) rfl) (by decide) (by decide) (by decide +kernel) (xck_in (p := (4, 204)) (by decide +kernel) rfl) (xck_in (p := (1, 5)) (by decide +kernel) rfl) (xck_in (p := (4, 203)) (by decide +kernel) rfl) (xck_in (p := (4, 205)) (by decide +kernel) rfl) ⟨by decide +kernel, by decide +kernel, by decide +kernel, by decide +kernel, by decide +kernel⟩ (by decide) ?_ ?_
  · intro H locs st hS k
    exact k
  · intro H locs st hS k
    exact k
set_option maxRecDepth 100000 in
theorem la_4 (hC : lCtx p s m meth c b L xs D ρ cy aK aV) (hl : lv_has ls 4 (lV ρ b i)) (hi : i + 5 ≤ L) (inv : InvX (xabs RM RL) (xabs RM RL)) (hP : va_P D vwCl (xws ρ cy RM RL) H) (hS : va_S (lA s) s.heap H locs) (nx : ∀ (RM : Nat → Fin 5 → Nat → Int32) (RL : Nat → Fin 5 → Nat → Int64) (H : Heap) (locs : List Loc), InvX (xabs RM RL) (xabs RM RL) → va_P D vwCl (xws ρ cy RM RL) H → va_S (lA s) s.heap H locs → W p l e room_1 s m #[Value.ref b] below meth c H locs 85 5155 Z (F0 m 1385 ls [])) : W p l e room_1 s m #[Value.ref b] below meth c H locs 85 5155 Z (F0 m 268 ls []) := by
  refine l_case (mc := mi_X3_rule) (mm := mi_X4_rule) (ra := [.int (xs (i + 1))]) (n := 1) (pcA := 274) (pcB := 283) (idx1 := 31) (idx2 := 34) (off := 1099) hC hl hP hS nx (p_rule inv (xs (i + 1)).toInt) ⟨_, _, rfl, ⟨_, rfl, rfl⟩, rfl⟩ rfl (by decide) (by decide) (by decide +kernel) (xck_in (p := (2, 140)) (by decide +kernel) rfl) (xck_in (p := (1, 1)) (by decide +kernel) rfl) (xck_in (p := (2, 139)) (by decide +kernel) rfl) (xck_in (p := (2, 141)) (by decide +kernel) rfl) (by decide) (by decide) (by decide +kernel) (xck_in (p := (4, 208)) (by decide +kernel) rfl) (xck_in (p := (1, 5)) (by decide +kernel) rfl) (xck_in (p := (4, 207)) (by decide +kernel) rfl) (xck_in (p := (4, 209)) (by decide +kernel) rfl) ⟨by decide +kernel, by decide +kernel, by decide +kernel, by decide +kernel, by decide +kernel⟩ (by decide) ?_ ?_
  · intro H locs st hS k
    refine l_arg hC hS hl 1 (by omega) (show dArg 269 1 from ⟨by decide +kernel, by decide +kernel, by decide +kernel, by decide +kernel, by decide +kernel⟩) ?_
    exact k
  · intro H locs st hS k
    refine l_arg hC hS hl 1 (by omega) (show dArg 278 1 from ⟨by decide +kernel, by decide +kernel, by decide +kernel, by decide +kernel, by decide +kernel⟩) ?_
    exact k
set_option maxRecDepth 100000 in
theorem la_5 (hC : lCtx p s m meth c b L xs D ρ cy aK aV) (hl : lv_has ls 4 (lV ρ b i)) (hi : i + 5 ≤ L) (inv : InvX (xabs RM RL) (xabs RM RL)) (hP : va_P D vwCl (xws ρ cy RM RL) H) (hS : va_S (lA s) s.heap H locs) (nx : ∀ (RM : Nat → Fin 5 → Nat → Int32) (RL : Nat → Fin 5 → Nat → Int64) (H : Heap) (locs : List Loc), InvX (xabs RM RL) (xabs RM RL) → va_P D vwCl (xws ρ cy RM RL) H → va_S (lA s) s.heap H locs → W p l e room_1 s m #[Value.ref b] below meth c H locs 85 5155 Z (F0 m 1385 ls [])) : W p l e room_1 s m #[Value.ref b] below meth c H locs 85 5155 Z (F0 m 291 ls []) := by
  refine l_case (mc := mi_X3_digger) (mm := mi_X4_digger) (ra := [.int (xs (i + 1)), .int (xs (i + 2))]) (n := 2) (pcA := 302) (pcB := 316) (idx1 := 35) (idx2 := 39) (off := 1066) hC hl hP hS nx (p_digger inv (xs (i + 1)).toInt (xs (i + 2)).toInt) ⟨_, _, rfl, ⟨_, rfl, rfl⟩, ⟨_, _, rfl, ⟨_, rfl, rfl⟩, rfl⟩⟩ rfl (by decide) (by decide) (by decide +kernel) (xck_in (p := (2, 149)) (by decide +kernel) rfl) (xck_in (p := (1, 1)) (by decide +kernel) rfl) (xck_in (p := (2, 148)) (by decide +kernel) rfl) (xck_in (p := (2, 150)) (by decide +kernel) rfl) (by decide) (by decide) (by decide +kernel) (xck_in (p := (4, 238)) (by decide +kernel) rfl) (xck_in (p := (1, 5)) (by decide +kernel) rfl) (xck_in (p := (4, 237)) (by decide +kernel) rfl) (xck_in (p := (4, 239)) (by decide +kernel) rfl) ⟨by decide +kernel, by decide +kernel, by decide +kernel, by decide +kernel, by decide +kernel⟩ (by decide) ?_ ?_
  · intro H locs st hS k
    refine l_arg hC hS hl 1 (by omega) (show dArg 292 1 from ⟨by decide +kernel, by decide +kernel, by decide +kernel, by decide +kernel, by decide +kernel⟩) ?_
    refine l_arg hC hS hl 2 (by omega) (show dArg 297 2 from ⟨by decide +kernel, by decide +kernel, by decide +kernel, by decide +kernel, by decide +kernel⟩) ?_
    exact k
  · intro H locs st hS k
    refine l_arg hC hS hl 1 (by omega) (show dArg 306 1 from ⟨by decide +kernel, by decide +kernel, by decide +kernel, by decide +kernel, by decide +kernel⟩) ?_
    refine l_arg hC hS hl 2 (by omega) (show dArg 311 2 from ⟨by decide +kernel, by decide +kernel, by decide +kernel, by decide +kernel, by decide +kernel⟩) ?_
    exact k
set_option maxRecDepth 100000 in
theorem la_6 (hC : lCtx p s m meth c b L xs D ρ cy aK aV) (hl : lv_has ls 4 (lV ρ b i)) (hi : i + 5 ≤ L) (inv : InvX (xabs RM RL) (xabs RM RL)) (hP : va_P D vwCl (xws ρ cy RM RL) H) (hS : va_S (lA s) s.heap H locs) (nx : ∀ (RM : Nat → Fin 5 → Nat → Int32) (RL : Nat → Fin 5 → Nat → Int64) (H : Heap) (locs : List Loc), InvX (xabs RM RL) (xabs RM RL) → va_P D vwCl (xws ρ cy RM RL) H → va_S (lA s) s.heap H locs → W p l e room_1 s m #[Value.ref b] below meth c H locs 85 5155 Z (F0 m 1385 ls [])) : W p l e room_1 s m #[Value.ref b] below meth c H locs 85 5155 Z (F0 m 324 ls []) := by
  refine l_case (mc := mi_X3_rock) (mm := mi_X4_rock) (ra := [.int (xs (i + 1))]) (n := 1) (pcA := 330) (pcB := 339) (idx1 := 40) (idx2 := 43) (off := 1043) hC hl hP hS nx (p_rock inv (xs (i + 1)).toInt (i32_rng _).2) ⟨_, _, rfl, ⟨_, rfl, rfl⟩, rfl⟩ rfl (by decide) (by decide) (by decide +kernel) (xck_in (p := (2, 168)) (by decide +kernel) rfl) (xck_in (p := (1, 1)) (by decide +kernel) rfl) (xck_in (p := (2, 167)) (by decide +kernel) rfl) (xck_in (p := (2, 169)) (by decide +kernel) rfl) (by decide) (by decide) (by decide +kernel) (xck_in (p := (5, 7)) (by decide +kernel) rfl) (xck_in (p := (1, 5)) (by decide +kernel) rfl) (xck_in (p := (5, 6)) (by decide +kernel) rfl) (xck_in (p := (5, 8)) (by decide +kernel) rfl) ⟨by decide +kernel, by decide +kernel, by decide +kernel, by decide +kernel, by decide +kernel⟩ (by decide) ?_ ?_
  · intro H locs st hS k
    refine l_arg hC hS hl 1 (by omega) (show dArg 325 1 from ⟨by decide +kernel, by decide +kernel, by decide +kernel, by decide +kernel, by decide +kernel⟩) ?_
    exact k
  · intro H locs st hS k
    refine l_arg hC hS hl 1 (by omega) (show dArg 334 1 from ⟨by decide +kernel, by decide +kernel, by decide +kernel, by decide +kernel, by decide +kernel⟩) ?_
    exact k
set_option maxRecDepth 100000 in
theorem la_7 (hC : lCtx p s m meth c b L xs D ρ cy aK aV) (hl : lv_has ls 4 (lV ρ b i)) (hi : i + 5 ≤ L) (inv : InvX (xabs RM RL) (xabs RM RL)) (hP : va_P D vwCl (xws ρ cy RM RL) H) (hS : va_S (lA s) s.heap H locs) (nx : ∀ (RM : Nat → Fin 5 → Nat → Int32) (RL : Nat → Fin 5 → Nat → Int64) (H : Heap) (locs : List Loc), InvX (xabs RM RL) (xabs RM RL) → va_P D vwCl (xws ρ cy RM RL) H → va_S (lA s) s.heap H locs → W p l e room_1 s m #[Value.ref b] below meth c H locs 85 5155 Z (F0 m 1385 ls [])) : W p l e room_1 s m #[Value.ref b] below meth c H locs 85 5155 Z (F0 m 347 ls []) := by
  refine l_case (mc := mi_X3_word) (mm := mi_X4_word) (ra := [.int (xs (i + 1)), .int (xs (i + 2))]) (n := 2) (pcA := 358) (pcB := 372) (idx1 := 44) (idx2 := 47) (off := 1010) hC hl hP hS nx (p_word inv (xs (i + 1)).toInt (xs (i + 2)).toInt) ⟨_, _, rfl, ⟨_, rfl, rfl⟩, ⟨_, _, rfl, ⟨_, rfl, rfl⟩, rfl⟩⟩ rfl (by decide) (by decide) (by decide +kernel) (xck_in (p := (2, 174)) (by decide +kernel) rfl) (xck_in (p := (1, 1)) (by decide +kernel) rfl) (xck_in (p := (2, 173)) (by decide +kernel) rfl) (xck_in (p := (2, 175)) (by decide +kernel) rfl) (by decide) (by decide) (by decide +kernel) (xck_in (p := (5, 15)) (by decide +kernel) rfl) (xck_in (p := (1, 5)) (by decide +kernel) rfl) (xck_in (p := (5, 14)) (by decide +kernel) rfl) (xck_in (p := (5, 16)) (by decide +kernel) rfl) ⟨by decide +kernel, by decide +kernel, by decide +kernel, by decide +kernel, by decide +kernel⟩ (by decide) ?_ ?_
  · intro H locs st hS k
    refine l_arg hC hS hl 1 (by omega) (show dArg 348 1 from ⟨by decide +kernel, by decide +kernel, by decide +kernel, by decide +kernel, by decide +kernel⟩) ?_
    refine l_arg hC hS hl 2 (by omega) (show dArg 353 2 from ⟨by decide +kernel, by decide +kernel, by decide +kernel, by decide +kernel, by decide +kernel⟩) ?_
    exact k
  · intro H locs st hS k
    refine l_arg hC hS hl 1 (by omega) (show dArg 362 1 from ⟨by decide +kernel, by decide +kernel, by decide +kernel, by decide +kernel, by decide +kernel⟩) ?_
    refine l_arg hC hS hl 2 (by omega) (show dArg 367 2 from ⟨by decide +kernel, by decide +kernel, by decide +kernel, by decide +kernel, by decide +kernel⟩) ?_
    exact k
set_option maxRecDepth 100000 in
theorem la_8 (hC : lCtx p s m meth c b L xs D ρ cy aK aV) (hl : lv_has ls 4 (lV ρ b i)) (hi : i + 5 ≤ L) (inv : InvX (xabs RM RL) (xabs RM RL)) (hP : va_P D vwCl (xws ρ cy RM RL) H) (hS : va_S (lA s) s.heap H locs) (nx : ∀ (RM : Nat → Fin 5 → Nat → Int32) (RL : Nat → Fin 5 → Nat → Int64) (H : Heap) (locs : List Loc), InvX (xabs RM RL) (xabs RM RL) → va_P D vwCl (xws ρ cy RM RL) H → va_S (lA s) s.heap H locs → W p l e room_1 s m #[Value.ref b] below meth c H locs 85 5155 Z (F0 m 1385 ls [])) : W p l e room_1 s m #[Value.ref b] below meth c H locs 85 5155 Z (F0 m 380 ls []) := by
  refine l_case (mc := mi_X3_alter) (mm := mi_X4_alter) (ra := [.int (xs (i + 1)), .int (xs (i + 2)), .int (xs (i + 3))]) (n := 3) (pcA := 396) (pcB := 415) (idx1 := 48) (idx2 := 52) (off := 967) hC hl hP hS nx (p_alter inv (xs (i + 1)).toInt (xs (i + 2)).toInt (xs (i + 3)).toInt (i32_rng _).2) ⟨_, _, rfl, ⟨_, rfl, rfl⟩, ⟨_, _, rfl, ⟨_, rfl, rfl⟩, ⟨_, _, rfl, ⟨_, rfl, rfl⟩, rfl⟩⟩⟩ rfl (by decide) (by decide) (by decide +kernel) (xck_in (p := (2, 179)) (by decide +kernel) rfl) (xck_in (p := (1, 1)) (by decide +kernel) rfl) (xck_in (p := (2, 178)) (by decide +kernel) rfl) (xck_in (p := (2, 180)) (by decide +kernel) rfl) (by decide) (by decide) (by decide +kernel) (xck_in (p := (5, 20)) (by decide +kernel) rfl) (xck_in (p := (1, 5)) (by decide +kernel) rfl) (xck_in (p := (5, 19)) (by decide +kernel) rfl) (xck_in (p := (5, 21)) (by decide +kernel) rfl) ⟨by decide +kernel, by decide +kernel, by decide +kernel, by decide +kernel, by decide +kernel⟩ (by decide) ?_ ?_
  · intro H locs st hS k
    refine l_arg hC hS hl 1 (by omega) (show dArg 381 1 from ⟨by decide +kernel, by decide +kernel, by decide +kernel, by decide +kernel, by decide +kernel⟩) ?_
    refine l_arg hC hS hl 2 (by omega) (show dArg 386 2 from ⟨by decide +kernel, by decide +kernel, by decide +kernel, by decide +kernel, by decide +kernel⟩) ?_
    refine l_arg hC hS hl 3 (by omega) (show dArg 391 3 from ⟨by decide +kernel, by decide +kernel, by decide +kernel, by decide +kernel, by decide +kernel⟩) ?_
    exact k
  · intro H locs st hS k
    refine l_arg hC hS hl 1 (by omega) (show dArg 400 1 from ⟨by decide +kernel, by decide +kernel, by decide +kernel, by decide +kernel, by decide +kernel⟩) ?_
    refine l_arg hC hS hl 2 (by omega) (show dArg 405 2 from ⟨by decide +kernel, by decide +kernel, by decide +kernel, by decide +kernel, by decide +kernel⟩) ?_
    refine l_arg hC hS hl 3 (by omega) (show dArg 410 3 from ⟨by decide +kernel, by decide +kernel, by decide +kernel, by decide +kernel, by decide +kernel⟩) ?_
    exact k
set_option maxRecDepth 100000 in
theorem la_9 (hC : lCtx p s m meth c b L xs D ρ cy aK aV) (hl : lv_has ls 4 (lV ρ b i)) (hi : i + 5 ≤ L) (inv : InvX (xabs RM RL) (xabs RM RL)) (hP : va_P D vwCl (xws ρ cy RM RL) H) (hS : va_S (lA s) s.heap H locs) (nx : ∀ (RM : Nat → Fin 5 → Nat → Int32) (RL : Nat → Fin 5 → Nat → Int64) (H : Heap) (locs : List Loc), InvX (xabs RM RL) (xabs RM RL) → va_P D vwCl (xws ρ cy RM RL) H → va_S (lA s) s.heap H locs → W p l e room_1 s m #[Value.ref b] below meth c H locs 85 5155 Z (F0 m 1385 ls [])) : W p l e room_1 s m #[Value.ref b] below meth c H locs 85 5155 Z (F0 m 423 ls []) := by
  refine l_case (mc := mi_X3_stone) (mm := mi_X4_stone) (ra := [.int (xs (i + 1)), .int ((if xs (i + 2) = 0 then (0 : Int32) else 1))]) (n := 2) (pcA := 442) (pcB := 464) (idx1 := 53) (idx2 := 57) (off := 918) hC hl hP hS nx (p_stone inv (xs (i + 1)).toInt ((if xs (i + 2) = 0 then (0 : Int32) else 1)).toInt (i32_rng _).2) ⟨_, _, rfl, ⟨_, rfl, rfl⟩, ⟨_, _, rfl, ⟨_, rfl, rfl⟩, rfl⟩⟩ rfl (by decide) (by decide) (by decide +kernel) (xck_in (p := (2, 194)) (by decide +kernel) rfl) (xck_in (p := (1, 1)) (by decide +kernel) rfl) (xck_in (p := (2, 193)) (by decide +kernel) rfl) (xck_in (p := (2, 195)) (by decide +kernel) rfl) (by decide) (by decide) (by decide +kernel) (xck_in (p := (5, 37)) (by decide +kernel) rfl) (xck_in (p := (1, 5)) (by decide +kernel) rfl) (xck_in (p := (5, 36)) (by decide +kernel) rfl) (xck_in (p := (5, 38)) (by decide +kernel) rfl) ⟨by decide +kernel, by decide +kernel, by decide +kernel, by decide +kernel, by decide +kernel⟩ (by decide) ?_ ?_
  · intro H locs st hS k
    refine l_arg hC hS hl 1 (by omega) (show dArg 424 1 from ⟨by decide +kernel, by decide +kernel, by decide +kernel, by decide +kernel, by decide +kernel⟩) ?_
    refine l_arg hC hS hl 2 (by omega) (show dArg 429 2 from ⟨by decide +kernel, by decide +kernel, by decide +kernel, by decide +kernel, by decide +kernel⟩) ?_
    by_cases y : xs (i + 2) = 0
    · rw [if_pos y] at k
      refine lv_if_eq hC.1.1 hC.1.2.1 (show decode code 434 = .ok (.ifCond .eq 7, 3) by decide +kernel) (tgt := 441) rfl (fun _ => ?_) (fun z => absurd y z)
      refine lv_iconst hC.1.1 hC.1.2.1 (show decode code 441 = .ok (.iconst 0, 1) by decide +kernel) (v := 0) (by decide) ?_
      exact k
    · rw [if_neg y] at k
      refine lv_if_eq hC.1.1 hC.1.2.1 (show decode code 434 = .ok (.ifCond .eq 7, 3) by decide +kernel) (tgt := 441) rfl (fun z => absurd z y) (fun _ => ?_)
      refine lv_iconst hC.1.1 hC.1.2.1 (show decode code 437 = .ok (.iconst 1, 1) by decide +kernel) (v := 1) (by decide) ?_
      refine lv_goto hC.1.1 hC.1.2.1 (show decode code 438 = .ok (.goto 4, 3) by decide +kernel) (tgt := 442) rfl ?_
      exact k
  · intro H locs st hS k
    refine l_arg hC hS hl 1 (by omega) (show dArg 446 1 from ⟨by decide +kernel, by decide +kernel, by decide +kernel, by decide +kernel, by decide +kernel⟩) ?_
    refine l_arg hC hS hl 2 (by omega) (show dArg 451 2 from ⟨by decide +kernel, by decide +kernel, by decide +kernel, by decide +kernel, by decide +kernel⟩) ?_
    by_cases y : xs (i + 2) = 0
    · rw [if_pos y] at k
      refine lv_if_eq hC.1.1 hC.1.2.1 (show decode code 456 = .ok (.ifCond .eq 7, 3) by decide +kernel) (tgt := 463) rfl (fun _ => ?_) (fun z => absurd y z)
      refine lv_iconst hC.1.1 hC.1.2.1 (show decode code 463 = .ok (.iconst 0, 1) by decide +kernel) (v := 0) (by decide) ?_
      exact k
    · rw [if_neg y] at k
      refine lv_if_eq hC.1.1 hC.1.2.1 (show decode code 456 = .ok (.ifCond .eq 7, 3) by decide +kernel) (tgt := 463) rfl (fun z => absurd z y) (fun _ => ?_)
      refine lv_iconst hC.1.1 hC.1.2.1 (show decode code 459 = .ok (.iconst 1, 1) by decide +kernel) (v := 1) (by decide) ?_
      refine lv_goto hC.1.1 hC.1.2.1 (show decode code 460 = .ok (.goto 4, 3) by decide +kernel) (tgt := 464) rfl ?_
      exact k
set_option maxRecDepth 100000 in
theorem la_10 (hC : lCtx p s m meth c b L xs D ρ cy aK aV) (hl : lv_has ls 4 (lV ρ b i)) (hi : i + 5 ≤ L) (inv : InvX (xabs RM RL) (xabs RM RL)) (hP : va_P D vwCl (xws ρ cy RM RL) H) (hS : va_S (lA s) s.heap H locs) (nx : ∀ (RM : Nat → Fin 5 → Nat → Int32) (RL : Nat → Fin 5 → Nat → Int64) (H : Heap) (locs : List Loc), InvX (xabs RM RL) (xabs RM RL) → va_P D vwCl (xws ρ cy RM RL) H → va_S (lA s) s.heap H locs → W p l e room_1 s m #[Value.ref b] below meth c H locs 85 5155 Z (F0 m 1385 ls [])) : W p l e room_1 s m #[Value.ref b] below meth c H locs 85 5155 Z (F0 m 472 ls []) := by
  refine l_case (mc := mi_X3_tell) (mm := mi_X4_tell) (ra := [.int (xs (i + 1)), .int (xs (i + 2)), .int (xs (i + 3))]) (n := 3) (pcA := 488) (pcB := 507) (idx1 := 58) (idx2 := 61) (off := 875) hC hl hP hS nx (p_tell inv (xs (i + 1)).toInt (xs (i + 2)).toInt (xs (i + 3)).toInt (i32_rng _).2) ⟨_, _, rfl, ⟨_, rfl, rfl⟩, ⟨_, _, rfl, ⟨_, rfl, rfl⟩, ⟨_, _, rfl, ⟨_, rfl, rfl⟩, rfl⟩⟩⟩ rfl (by decide) (by decide) (by decide +kernel) (xck_in (p := (2, 203)) (by decide +kernel) rfl) (xck_in (p := (1, 1)) (by decide +kernel) rfl) (xck_in (p := (2, 202)) (by decide +kernel) rfl) (xck_in (p := (2, 204)) (by decide +kernel) rfl) (by decide) (by decide) (by decide +kernel) (xck_in (p := (5, 45)) (by decide +kernel) rfl) (xck_in (p := (1, 5)) (by decide +kernel) rfl) (xck_in (p := (5, 44)) (by decide +kernel) rfl) (xck_in (p := (5, 46)) (by decide +kernel) rfl) ⟨by decide +kernel, by decide +kernel, by decide +kernel, by decide +kernel, by decide +kernel⟩ (by decide) ?_ ?_
  · intro H locs st hS k
    refine l_arg hC hS hl 1 (by omega) (show dArg 473 1 from ⟨by decide +kernel, by decide +kernel, by decide +kernel, by decide +kernel, by decide +kernel⟩) ?_
    refine l_arg hC hS hl 2 (by omega) (show dArg 478 2 from ⟨by decide +kernel, by decide +kernel, by decide +kernel, by decide +kernel, by decide +kernel⟩) ?_
    refine l_arg hC hS hl 3 (by omega) (show dArg 483 3 from ⟨by decide +kernel, by decide +kernel, by decide +kernel, by decide +kernel, by decide +kernel⟩) ?_
    exact k
  · intro H locs st hS k
    refine l_arg hC hS hl 1 (by omega) (show dArg 492 1 from ⟨by decide +kernel, by decide +kernel, by decide +kernel, by decide +kernel, by decide +kernel⟩) ?_
    refine l_arg hC hS hl 2 (by omega) (show dArg 497 2 from ⟨by decide +kernel, by decide +kernel, by decide +kernel, by decide +kernel, by decide +kernel⟩) ?_
    refine l_arg hC hS hl 3 (by omega) (show dArg 502 3 from ⟨by decide +kernel, by decide +kernel, by decide +kernel, by decide +kernel, by decide +kernel⟩) ?_
    exact k
set_option maxRecDepth 100000 in
theorem la_11 (hC : lCtx p s m meth c b L xs D ρ cy aK aV) (hl : lv_has ls 4 (lV ρ b i)) (hi : i + 5 ≤ L) (inv : InvX (xabs RM RL) (xabs RM RL)) (hP : va_P D vwCl (xws ρ cy RM RL) H) (hS : va_S (lA s) s.heap H locs) (nx : ∀ (RM : Nat → Fin 5 → Nat → Int32) (RL : Nat → Fin 5 → Nat → Int64) (H : Heap) (locs : List Loc), InvX (xabs RM RL) (xabs RM RL) → va_P D vwCl (xws ρ cy RM RL) H → va_S (lA s) s.heap H locs → W p l e room_1 s m #[Value.ref b] below meth c H locs 85 5155 Z (F0 m 1385 ls [])) : W p l e room_1 s m #[Value.ref b] below meth c H locs 85 5155 Z (F0 m 515 ls []) := by
  refine l_case (mc := mi_X3_hush) (mm := mi_X4_hush) (ra := [.int (xs (i + 1))]) (n := 1) (pcA := 521) (pcB := 530) (idx1 := 62) (idx2 := 65) (off := 852) hC hl hP hS nx (p_hush inv (xs (i + 1)).toInt) ⟨_, _, rfl, ⟨_, rfl, rfl⟩, rfl⟩ rfl (by decide) (by decide) (by decide +kernel) (xck_in (p := (2, 208)) (by decide +kernel) rfl) (xck_in (p := (1, 1)) (by decide +kernel) rfl) (xck_in (p := (2, 207)) (by decide +kernel) rfl) (xck_in (p := (2, 209)) (by decide +kernel) rfl) (by decide) (by decide) (by decide +kernel) (xck_in (p := (5, 50)) (by decide +kernel) rfl) (xck_in (p := (1, 5)) (by decide +kernel) rfl) (xck_in (p := (5, 49)) (by decide +kernel) rfl) (xck_in (p := (5, 51)) (by decide +kernel) rfl) ⟨by decide +kernel, by decide +kernel, by decide +kernel, by decide +kernel, by decide +kernel⟩ (by decide) ?_ ?_
  · intro H locs st hS k
    refine l_arg hC hS hl 1 (by omega) (show dArg 516 1 from ⟨by decide +kernel, by decide +kernel, by decide +kernel, by decide +kernel, by decide +kernel⟩) ?_
    exact k
  · intro H locs st hS k
    refine l_arg hC hS hl 1 (by omega) (show dArg 525 1 from ⟨by decide +kernel, by decide +kernel, by decide +kernel, by decide +kernel, by decide +kernel⟩) ?_
    exact k
set_option maxRecDepth 100000 in
theorem la_12 (hC : lCtx p s m meth c b L xs D ρ cy aK aV) (hl : lv_has ls 4 (lV ρ b i)) (hi : i + 5 ≤ L) (inv : InvX (xabs RM RL) (xabs RM RL)) (hP : va_P D vwCl (xws ρ cy RM RL) H) (hS : va_S (lA s) s.heap H locs) (nx : ∀ (RM : Nat → Fin 5 → Nat → Int32) (RL : Nat → Fin 5 → Nat → Int64) (H : Heap) (locs : List Loc), InvX (xabs RM RL) (xabs RM RL) → va_P D vwCl (xws ρ cy RM RL) H → va_S (lA s) s.heap H locs → W p l e room_1 s m #[Value.ref b] below meth c H locs 85 5155 Z (F0 m 1385 ls [])) : W p l e room_1 s m #[Value.ref b] below meth c H locs 85 5155 Z (F0 m 538 ls []) := by
  refine l_case (mc := mi_X3_dig) (mm := mi_X4_dig) (ra := [.int (xs (i + 1))]) (n := 1) (pcA := 544) (pcB := 553) (idx1 := 66) (idx2 := 69) (off := 829) hC hl hP hS nx (p_dig inv (xs (i + 1)).toInt) ⟨_, _, rfl, ⟨_, rfl, rfl⟩, rfl⟩ rfl (by decide) (by decide) (by decide +kernel) (xck_in (p := (2, 212)) (by decide +kernel) rfl) (xck_in (p := (1, 1)) (by decide +kernel) rfl) (xck_in (p := (2, 211)) (by decide +kernel) rfl) (xck_in (p := (2, 213)) (by decide +kernel) rfl) (by decide) (by decide) (by decide +kernel) (xck_in (p := (5, 54)) (by decide +kernel) rfl) (xck_in (p := (1, 5)) (by decide +kernel) rfl) (xck_in (p := (5, 53)) (by decide +kernel) rfl) (xck_in (p := (5, 55)) (by decide +kernel) rfl) ⟨by decide +kernel, by decide +kernel, by decide +kernel, by decide +kernel, by decide +kernel⟩ (by decide) ?_ ?_
  · intro H locs st hS k
    refine l_arg hC hS hl 1 (by omega) (show dArg 539 1 from ⟨by decide +kernel, by decide +kernel, by decide +kernel, by decide +kernel, by decide +kernel⟩) ?_
    exact k
  · intro H locs st hS k
    refine l_arg hC hS hl 1 (by omega) (show dArg 548 1 from ⟨by decide +kernel, by decide +kernel, by decide +kernel, by decide +kernel, by decide +kernel⟩) ?_
    exact k
set_option maxRecDepth 100000 in
theorem la_13 (hC : lCtx p s m meth c b L xs D ρ cy aK aV) (hl : lv_has ls 4 (lV ρ b i)) (hi : i + 5 ≤ L) (inv : InvX (xabs RM RL) (xabs RM RL)) (hP : va_P D vwCl (xws ρ cy RM RL) H) (hS : va_S (lA s) s.heap H locs) (nx : ∀ (RM : Nat → Fin 5 → Nat → Int32) (RL : Nat → Fin 5 → Nat → Int64) (H : Heap) (locs : List Loc), InvX (xabs RM RL) (xabs RM RL) → va_P D vwCl (xws ρ cy RM RL) H → va_S (lA s) s.heap H locs → W p l e room_1 s m #[Value.ref b] below meth c H locs 85 5155 Z (F0 m 1385 ls [])) : W p l e room_1 s m #[Value.ref b] below meth c H locs 85 5155 Z (F0 m 561 ls []) := by
  refine l_case (mc := mi_X3_runs) (mm := mi_X4_runs) (ra := [.int (xs (i + 1)), .int (xs (i + 2))]) (n := 2) (pcA := 572) (pcB := 586) (idx1 := 70) (idx2 := 73) (off := 796) hC hl hP hS nx (p_runs inv (xs (i + 1)).toInt (xs (i + 2)).toInt) ⟨_, _, rfl, ⟨_, rfl, rfl⟩, ⟨_, _, rfl, ⟨_, rfl, rfl⟩, rfl⟩⟩ rfl (by decide) (by decide) (by decide +kernel) (xck_in (p := (3, 5)) (by decide +kernel) rfl) (xck_in (p := (1, 1)) (by decide +kernel) rfl) (xck_in (p := (3, 4)) (by decide +kernel) rfl) (xck_in (p := (3, 6)) (by decide +kernel) rfl) (by decide) (by decide) (by decide +kernel) (xck_in (p := (5, 91)) (by decide +kernel) rfl) (xck_in (p := (1, 5)) (by decide +kernel) rfl) (xck_in (p := (5, 90)) (by decide +kernel) rfl) (xck_in (p := (5, 92)) (by decide +kernel) rfl) ⟨by decide +kernel, by decide +kernel, by decide +kernel, by decide +kernel, by decide +kernel⟩ (by decide) ?_ ?_
  · intro H locs st hS k
    refine l_arg hC hS hl 1 (by omega) (show dArg 562 1 from ⟨by decide +kernel, by decide +kernel, by decide +kernel, by decide +kernel, by decide +kernel⟩) ?_
    refine l_arg hC hS hl 2 (by omega) (show dArg 567 2 from ⟨by decide +kernel, by decide +kernel, by decide +kernel, by decide +kernel, by decide +kernel⟩) ?_
    exact k
  · intro H locs st hS k
    refine l_arg hC hS hl 1 (by omega) (show dArg 576 1 from ⟨by decide +kernel, by decide +kernel, by decide +kernel, by decide +kernel, by decide +kernel⟩) ?_
    refine l_arg hC hS hl 2 (by omega) (show dArg 581 2 from ⟨by decide +kernel, by decide +kernel, by decide +kernel, by decide +kernel, by decide +kernel⟩) ?_
    exact k
set_option maxRecDepth 100000 in
theorem la_14 (hC : lCtx p s m meth c b L xs D ρ cy aK aV) (hl : lv_has ls 4 (lV ρ b i)) (hi : i + 5 ≤ L) (inv : InvX (xabs RM RL) (xabs RM RL)) (hP : va_P D vwCl (xws ρ cy RM RL) H) (hS : va_S (lA s) s.heap H locs) (nx : ∀ (RM : Nat → Fin 5 → Nat → Int32) (RL : Nat → Fin 5 → Nat → Int64) (H : Heap) (locs : List Loc), InvX (xabs RM RL) (xabs RM RL) → va_P D vwCl (xws ρ cy RM RL) H → va_S (lA s) s.heap H locs → W p l e room_1 s m #[Value.ref b] below meth c H locs 85 5155 Z (F0 m 1385 ls [])) : W p l e room_1 s m #[Value.ref b] below meth c H locs 85 5155 Z (F0 m 594 ls []) := by
  refine l_case (mc := mi_X3_ahead) (mm := mi_X4_ahead) (ra := [.int (xs (i + 1)), .int (xs (i + 2))]) (n := 2) (pcA := 605) (pcB := 619) (idx1 := 74) (idx2 := 77) (off := 763) hC hl hP hS nx (p_ahead inv (xs (i + 1)).toInt (xs (i + 2)).toInt) ⟨_, _, rfl, ⟨_, rfl, rfl⟩, ⟨_, _, rfl, ⟨_, rfl, rfl⟩, rfl⟩⟩ rfl (by decide) (by decide) (by decide +kernel) (xck_in (p := (3, 18)) (by decide +kernel) rfl) (xck_in (p := (1, 1)) (by decide +kernel) rfl) (xck_in (p := (3, 17)) (by decide +kernel) rfl) (xck_in (p := (3, 19)) (by decide +kernel) rfl) (by decide) (by decide) (by decide +kernel) (xck_in (p := (5, 103)) (by decide +kernel) rfl) (xck_in (p := (1, 5)) (by decide +kernel) rfl) (xck_in (p := (5, 102)) (by decide +kernel) rfl) (xck_in (p := (5, 104)) (by decide +kernel) rfl) ⟨by decide +kernel, by decide +kernel, by decide +kernel, by decide +kernel, by decide +kernel⟩ (by decide) ?_ ?_
  · intro H locs st hS k
    refine l_arg hC hS hl 1 (by omega) (show dArg 595 1 from ⟨by decide +kernel, by decide +kernel, by decide +kernel, by decide +kernel, by decide +kernel⟩) ?_
    refine l_arg hC hS hl 2 (by omega) (show dArg 600 2 from ⟨by decide +kernel, by decide +kernel, by decide +kernel, by decide +kernel, by decide +kernel⟩) ?_
    exact k
  · intro H locs st hS k
    refine l_arg hC hS hl 1 (by omega) (show dArg 609 1 from ⟨by decide +kernel, by decide +kernel, by decide +kernel, by decide +kernel, by decide +kernel⟩) ?_
    refine l_arg hC hS hl 2 (by omega) (show dArg 614 2 from ⟨by decide +kernel, by decide +kernel, by decide +kernel, by decide +kernel, by decide +kernel⟩) ?_
    exact k
set_option maxRecDepth 100000 in
theorem la_15 (hC : lCtx p s m meth c b L xs D ρ cy aK aV) (hl : lv_has ls 4 (lV ρ b i)) (hi : i + 5 ≤ L) (inv : InvX (xabs RM RL) (xabs RM RL)) (hP : va_P D vwCl (xws ρ cy RM RL) H) (hS : va_S (lA s) s.heap H locs) (nx : ∀ (RM : Nat → Fin 5 → Nat → Int32) (RL : Nat → Fin 5 → Nat → Int64) (H : Heap) (locs : List Loc), InvX (xabs RM RL) (xabs RM RL) → va_P D vwCl (xws ρ cy RM RL) H → va_S (lA s) s.heap H locs → W p l e room_1 s m #[Value.ref b] below meth c H locs 85 5155 Z (F0 m 1385 ls [])) : W p l e room_1 s m #[Value.ref b] below meth c H locs 85 5155 Z (F0 m 627 ls []) := by
  refine l_case (mc := mi_X3_reaches) (mm := mi_X4_reaches) (ra := [.int (xs (i + 1)), .int (xs (i + 2))]) (n := 2) (pcA := 638) (pcB := 652) (idx1 := 78) (idx2 := 81) (off := 730) hC hl hP hS nx (p_reaches inv (xs (i + 1)).toInt (xs (i + 2)).toInt (i32_rng _).2) ⟨_, _, rfl, ⟨_, rfl, rfl⟩, ⟨_, _, rfl, ⟨_, rfl, rfl⟩, rfl⟩⟩ rfl (by decide) (by decide) (by decide +kernel) (xck_in (p := (3, 26)) (by decide +kernel) rfl) (xck_in (p := (1, 1)) (by decide +kernel) rfl) (xck_in (p := (3, 25)) (by decide +kernel) rfl) (xck_in (p := (3, 27)) (by decide +kernel) rfl) (by decide) (by decide) (by decide +kernel) (xck_in (p := (5, 107)) (by decide +kernel) rfl) (xck_in (p := (1, 5)) (by decide +kernel) rfl) (xck_in (p := (5, 106)) (by decide +kernel) rfl) (xck_in (p := (5, 108)) (by decide +kernel) rfl) ⟨by decide +kernel, by decide +kernel, by decide +kernel, by decide +kernel, by decide +kernel⟩ (by decide) ?_ ?_
  · intro H locs st hS k
    refine l_arg hC hS hl 1 (by omega) (show dArg 628 1 from ⟨by decide +kernel, by decide +kernel, by decide +kernel, by decide +kernel, by decide +kernel⟩) ?_
    refine l_arg hC hS hl 2 (by omega) (show dArg 633 2 from ⟨by decide +kernel, by decide +kernel, by decide +kernel, by decide +kernel, by decide +kernel⟩) ?_
    exact k
  · intro H locs st hS k
    refine l_arg hC hS hl 1 (by omega) (show dArg 642 1 from ⟨by decide +kernel, by decide +kernel, by decide +kernel, by decide +kernel, by decide +kernel⟩) ?_
    refine l_arg hC hS hl 2 (by omega) (show dArg 647 2 from ⟨by decide +kernel, by decide +kernel, by decide +kernel, by decide +kernel, by decide +kernel⟩) ?_
    exact k
set_option maxRecDepth 100000 in
theorem la_16 (hC : lCtx p s m meth c b L xs D ρ cy aK aV) (hl : lv_has ls 4 (lV ρ b i)) (hi : i + 5 ≤ L) (inv : InvX (xabs RM RL) (xabs RM RL)) (hP : va_P D vwCl (xws ρ cy RM RL) H) (hS : va_S (lA s) s.heap H locs) (nx : ∀ (RM : Nat → Fin 5 → Nat → Int32) (RL : Nat → Fin 5 → Nat → Int64) (H : Heap) (locs : List Loc), InvX (xabs RM RL) (xabs RM RL) → va_P D vwCl (xws ρ cy RM RL) H → va_S (lA s) s.heap H locs → W p l e room_1 s m #[Value.ref b] below meth c H locs 85 5155 Z (F0 m 1385 ls [])) : W p l e room_1 s m #[Value.ref b] below meth c H locs 85 5155 Z (F0 m 660 ls []) := by
  refine l_case (mc := mi_X3_meet) (mm := mi_X4_meet) (ra := [.int (xs (i + 1)), .int (xs (i + 2))]) (n := 2) (pcA := 671) (pcB := 685) (idx1 := 82) (idx2 := 85) (off := 697) hC hl hP hS nx (p_meet inv (xs (i + 1)).toInt (xs (i + 2)).toInt) ⟨_, _, rfl, ⟨_, rfl, rfl⟩, ⟨_, _, rfl, ⟨_, rfl, rfl⟩, rfl⟩⟩ rfl (by decide) (by decide) (by decide +kernel) (xck_in (p := (3, 35)) (by decide +kernel) rfl) (xck_in (p := (1, 1)) (by decide +kernel) rfl) (xck_in (p := (3, 34)) (by decide +kernel) rfl) (xck_in (p := (3, 36)) (by decide +kernel) rfl) (by decide) (by decide) (by decide +kernel) (xck_in (p := (5, 115)) (by decide +kernel) rfl) (xck_in (p := (1, 5)) (by decide +kernel) rfl) (xck_in (p := (5, 114)) (by decide +kernel) rfl) (xck_in (p := (5, 116)) (by decide +kernel) rfl) ⟨by decide +kernel, by decide +kernel, by decide +kernel, by decide +kernel, by decide +kernel⟩ (by decide) ?_ ?_
  · intro H locs st hS k
    refine l_arg hC hS hl 1 (by omega) (show dArg 661 1 from ⟨by decide +kernel, by decide +kernel, by decide +kernel, by decide +kernel, by decide +kernel⟩) ?_
    refine l_arg hC hS hl 2 (by omega) (show dArg 666 2 from ⟨by decide +kernel, by decide +kernel, by decide +kernel, by decide +kernel, by decide +kernel⟩) ?_
    exact k
  · intro H locs st hS k
    refine l_arg hC hS hl 1 (by omega) (show dArg 675 1 from ⟨by decide +kernel, by decide +kernel, by decide +kernel, by decide +kernel, by decide +kernel⟩) ?_
    refine l_arg hC hS hl 2 (by omega) (show dArg 680 2 from ⟨by decide +kernel, by decide +kernel, by decide +kernel, by decide +kernel, by decide +kernel⟩) ?_
    exact k
set_option maxRecDepth 100000 in
theorem la_17 (hC : lCtx p s m meth c b L xs D ρ cy aK aV) (hl : lv_has ls 4 (lV ρ b i)) (hi : i + 5 ≤ L) (inv : InvX (xabs RM RL) (xabs RM RL)) (hP : va_P D vwCl (xws ρ cy RM RL) H) (hS : va_S (lA s) s.heap H locs) (nx : ∀ (RM : Nat → Fin 5 → Nat → Int32) (RL : Nat → Fin 5 → Nat → Int64) (H : Heap) (locs : List Loc), InvX (xabs RM RL) (xabs RM RL) → va_P D vwCl (xws ρ cy RM RL) H → va_S (lA s) s.heap H locs → W p l e room_1 s m #[Value.ref b] below meth c H locs 85 5155 Z (F0 m 1385 ls [])) : W p l e room_1 s m #[Value.ref b] below meth c H locs 85 5155 Z (F0 m 693 ls []) := by
  refine l_case (mc := mi_X3_ring) (mm := mi_X4_ring) (ra := [.int (xs (i + 1))]) (n := 1) (pcA := 699) (pcB := 708) (idx1 := 86) (idx2 := 89) (off := 674) hC hl hP hS nx (p_ring inv (xs (i + 1)).toInt) ⟨_, _, rfl, ⟨_, rfl, rfl⟩, rfl⟩ rfl (by decide) (by decide) (by decide +kernel) (xck_in (p := (3, 40)) (by decide +kernel) rfl) (xck_in (p := (1, 1)) (by decide +kernel) rfl) (xck_in (p := (3, 39)) (by decide +kernel) rfl) (xck_in (p := (3, 41)) (by decide +kernel) rfl) (by decide) (by decide) (by decide +kernel) (xck_in (p := (5, 119)) (by decide +kernel) rfl) (xck_in (p := (1, 5)) (by decide +kernel) rfl) (xck_in (p := (5, 118)) (by decide +kernel) rfl) (xck_in (p := (5, 120)) (by decide +kernel) rfl) ⟨by decide +kernel, by decide +kernel, by decide +kernel, by decide +kernel, by decide +kernel⟩ (by decide) ?_ ?_
  · intro H locs st hS k
    refine l_arg hC hS hl 1 (by omega) (show dArg 694 1 from ⟨by decide +kernel, by decide +kernel, by decide +kernel, by decide +kernel, by decide +kernel⟩) ?_
    exact k
  · intro H locs st hS k
    refine l_arg hC hS hl 1 (by omega) (show dArg 703 1 from ⟨by decide +kernel, by decide +kernel, by decide +kernel, by decide +kernel, by decide +kernel⟩) ?_
    exact k
set_option maxRecDepth 100000 in
theorem la_18 (hC : lCtx p s m meth c b L xs D ρ cy aK aV) (hl : lv_has ls 4 (lV ρ b i)) (hi : i + 5 ≤ L) (inv : InvX (xabs RM RL) (xabs RM RL)) (hP : va_P D vwCl (xws ρ cy RM RL) H) (hS : va_S (lA s) s.heap H locs) (nx : ∀ (RM : Nat → Fin 5 → Nat → Int32) (RL : Nat → Fin 5 → Nat → Int64) (H : Heap) (locs : List Loc), InvX (xabs RM RL) (xabs RM RL) → va_P D vwCl (xws ρ cy RM RL) H → va_S (lA s) s.heap H locs → W p l e room_1 s m #[Value.ref b] below meth c H locs 85 5155 Z (F0 m 1385 ls [])) : W p l e room_1 s m #[Value.ref b] below meth c H locs 85 5155 Z (F0 m 716 ls []) := by
  refine l_case (mc := mi_X3_aim) (mm := mi_X4_aim) (ra := [.int (xs (i + 1)), .int (xs (i + 2)), .int (xs (i + 3)), .int (xs (i + 4))]) (n := 4) (pcA := 737) (pcB := 761) (idx1 := 90) (idx2 := 94) (off := 621) hC hl hP hS nx (p_aim inv (xs (i + 1)).toInt (xs (i + 2)).toInt (xs (i + 3)).toInt (xs (i + 4)).toInt (i32_rng _).2) ⟨_, _, rfl, ⟨_, rfl, rfl⟩, ⟨_, _, rfl, ⟨_, rfl, rfl⟩, ⟨_, _, rfl, ⟨_, rfl, rfl⟩, ⟨_, _, rfl, ⟨_, rfl, rfl⟩, rfl⟩⟩⟩⟩ rfl (by decide) (by decide) (by decide +kernel) (xck_in (p := (3, 48)) (by decide +kernel) rfl) (xck_in (p := (1, 1)) (by decide +kernel) rfl) (xck_in (p := (3, 47)) (by decide +kernel) rfl) (xck_in (p := (3, 49)) (by decide +kernel) rfl) (by decide) (by decide) (by decide +kernel) (xck_in (p := (5, 130)) (by decide +kernel) rfl) (xck_in (p := (1, 5)) (by decide +kernel) rfl) (xck_in (p := (5, 129)) (by decide +kernel) rfl) (xck_in (p := (5, 131)) (by decide +kernel) rfl) ⟨by decide +kernel, by decide +kernel, by decide +kernel, by decide +kernel, by decide +kernel⟩ (by decide) ?_ ?_
  · intro H locs st hS k
    refine l_arg hC hS hl 1 (by omega) (show dArg 717 1 from ⟨by decide +kernel, by decide +kernel, by decide +kernel, by decide +kernel, by decide +kernel⟩) ?_
    refine l_arg hC hS hl 2 (by omega) (show dArg 722 2 from ⟨by decide +kernel, by decide +kernel, by decide +kernel, by decide +kernel, by decide +kernel⟩) ?_
    refine l_arg hC hS hl 3 (by omega) (show dArg 727 3 from ⟨by decide +kernel, by decide +kernel, by decide +kernel, by decide +kernel, by decide +kernel⟩) ?_
    refine l_arg hC hS hl 4 (by omega) (show dArg 732 4 from ⟨by decide +kernel, by decide +kernel, by decide +kernel, by decide +kernel, by decide +kernel⟩) ?_
    exact k
  · intro H locs st hS k
    refine l_arg hC hS hl 1 (by omega) (show dArg 741 1 from ⟨by decide +kernel, by decide +kernel, by decide +kernel, by decide +kernel, by decide +kernel⟩) ?_
    refine l_arg hC hS hl 2 (by omega) (show dArg 746 2 from ⟨by decide +kernel, by decide +kernel, by decide +kernel, by decide +kernel, by decide +kernel⟩) ?_
    refine l_arg hC hS hl 3 (by omega) (show dArg 751 3 from ⟨by decide +kernel, by decide +kernel, by decide +kernel, by decide +kernel, by decide +kernel⟩) ?_
    refine l_arg hC hS hl 4 (by omega) (show dArg 756 4 from ⟨by decide +kernel, by decide +kernel, by decide +kernel, by decide +kernel, by decide +kernel⟩) ?_
    exact k
set_option maxRecDepth 100000 in
theorem la_19 (hC : lCtx p s m meth c b L xs D ρ cy aK aV) (hl : lv_has ls 4 (lV ρ b i)) (hi : i + 5 ≤ L) (inv : InvX (xabs RM RL) (xabs RM RL)) (hP : va_P D vwCl (xws ρ cy RM RL) H) (hS : va_S (lA s) s.heap H locs) (nx : ∀ (RM : Nat → Fin 5 → Nat → Int32) (RL : Nat → Fin 5 → Nat → Int64) (H : Heap) (locs : List Loc), InvX (xabs RM RL) (xabs RM RL) → va_P D vwCl (xws ρ cy RM RL) H → va_S (lA s) s.heap H locs → W p l e room_1 s m #[Value.ref b] below meth c H locs 85 5155 Z (F0 m 1385 ls [])) : W p l e room_1 s m #[Value.ref b] below meth c H locs 85 5155 Z (F0 m 769 ls []) := by
  refine l_case (mc := mi_X3_words) (mm := mi_X4_words) (ra := [.int (xs (i + 1)), .int (xs (i + 2))]) (n := 2) (pcA := 780) (pcB := 794) (idx1 := 95) (idx2 := 98) (off := 588) hC hl hP hS nx (p_words inv (xs (i + 1)).toInt (xs (i + 2)).toInt (i32_rng _).2) ⟨_, _, rfl, ⟨_, rfl, rfl⟩, ⟨_, _, rfl, ⟨_, rfl, rfl⟩, rfl⟩⟩ rfl (by decide) (by decide) (by decide +kernel) (xck_in (p := (3, 57)) (by decide +kernel) rfl) (xck_in (p := (1, 1)) (by decide +kernel) rfl) (xck_in (p := (3, 56)) (by decide +kernel) rfl) (xck_in (p := (3, 58)) (by decide +kernel) rfl) (by decide) (by decide) (by decide +kernel) (xck_in (p := (5, 141)) (by decide +kernel) rfl) (xck_in (p := (1, 5)) (by decide +kernel) rfl) (xck_in (p := (5, 140)) (by decide +kernel) rfl) (xck_in (p := (5, 142)) (by decide +kernel) rfl) ⟨by decide +kernel, by decide +kernel, by decide +kernel, by decide +kernel, by decide +kernel⟩ (by decide) ?_ ?_
  · intro H locs st hS k
    refine l_arg hC hS hl 1 (by omega) (show dArg 770 1 from ⟨by decide +kernel, by decide +kernel, by decide +kernel, by decide +kernel, by decide +kernel⟩) ?_
    refine l_arg hC hS hl 2 (by omega) (show dArg 775 2 from ⟨by decide +kernel, by decide +kernel, by decide +kernel, by decide +kernel, by decide +kernel⟩) ?_
    exact k
  · intro H locs st hS k
    refine l_arg hC hS hl 1 (by omega) (show dArg 784 1 from ⟨by decide +kernel, by decide +kernel, by decide +kernel, by decide +kernel, by decide +kernel⟩) ?_
    refine l_arg hC hS hl 2 (by omega) (show dArg 789 2 from ⟨by decide +kernel, by decide +kernel, by decide +kernel, by decide +kernel, by decide +kernel⟩) ?_
    exact k
set_option maxRecDepth 100000 in
theorem la_20 (hC : lCtx p s m meth c b L xs D ρ cy aK aV) (hl : lv_has ls 4 (lV ρ b i)) (hi : i + 5 ≤ L) (inv : InvX (xabs RM RL) (xabs RM RL)) (hP : va_P D vwCl (xws ρ cy RM RL) H) (hS : va_S (lA s) s.heap H locs) (nx : ∀ (RM : Nat → Fin 5 → Nat → Int32) (RL : Nat → Fin 5 → Nat → Int64) (H : Heap) (locs : List Loc), InvX (xabs RM RL) (xabs RM RL) → va_P D vwCl (xws ρ cy RM RL) H → va_S (lA s) s.heap H locs → W p l e room_1 s m #[Value.ref b] below meth c H locs 85 5155 Z (F0 m 1385 ls [])) : W p l e room_1 s m #[Value.ref b] below meth c H locs 85 5155 Z (F0 m 802 ls []) := by
  refine l_case (mc := mi_X3_spread) (mm := mi_X4_spread) (ra := [.int (xs (i + 1)), .int (xs (i + 2))]) (n := 2) (pcA := 813) (pcB := 827) (idx1 := 99) (idx2 := 102) (off := 555) hC hl hP hS nx (p_spread inv (xs (i + 1)).toInt (xs (i + 2)).toInt) ⟨_, _, rfl, ⟨_, rfl, rfl⟩, ⟨_, _, rfl, ⟨_, rfl, rfl⟩, rfl⟩⟩ rfl (by decide) (by decide) (by decide +kernel) (xck_in (p := (3, 74)) (by decide +kernel) rfl) (xck_in (p := (1, 1)) (by decide +kernel) rfl) (xck_in (p := (3, 73)) (by decide +kernel) rfl) (xck_in (p := (3, 75)) (by decide +kernel) rfl) (by decide) (by decide) (by decide +kernel) (xck_in (p := (5, 153)) (by decide +kernel) rfl) (xck_in (p := (1, 5)) (by decide +kernel) rfl) (xck_in (p := (5, 152)) (by decide +kernel) rfl) (xck_in (p := (5, 154)) (by decide +kernel) rfl) ⟨by decide +kernel, by decide +kernel, by decide +kernel, by decide +kernel, by decide +kernel⟩ (by decide) ?_ ?_
  · intro H locs st hS k
    refine l_arg hC hS hl 1 (by omega) (show dArg 803 1 from ⟨by decide +kernel, by decide +kernel, by decide +kernel, by decide +kernel, by decide +kernel⟩) ?_
    refine l_arg hC hS hl 2 (by omega) (show dArg 808 2 from ⟨by decide +kernel, by decide +kernel, by decide +kernel, by decide +kernel, by decide +kernel⟩) ?_
    exact k
  · intro H locs st hS k
    refine l_arg hC hS hl 1 (by omega) (show dArg 817 1 from ⟨by decide +kernel, by decide +kernel, by decide +kernel, by decide +kernel, by decide +kernel⟩) ?_
    refine l_arg hC hS hl 2 (by omega) (show dArg 822 2 from ⟨by decide +kernel, by decide +kernel, by decide +kernel, by decide +kernel, by decide +kernel⟩) ?_
    exact k
set_option maxRecDepth 100000 in
theorem la_21 (hC : lCtx p s m meth c b L xs D ρ cy aK aV) (hl : lv_has ls 4 (lV ρ b i)) (hi : i + 5 ≤ L) (inv : InvX (xabs RM RL) (xabs RM RL)) (hP : va_P D vwCl (xws ρ cy RM RL) H) (hS : va_S (lA s) s.heap H locs) (nx : ∀ (RM : Nat → Fin 5 → Nat → Int32) (RL : Nat → Fin 5 → Nat → Int64) (H : Heap) (locs : List Loc), InvX (xabs RM RL) (xabs RM RL) → va_P D vwCl (xws ρ cy RM RL) H → va_S (lA s) s.heap H locs → W p l e room_1 s m #[Value.ref b] below meth c H locs 85 5155 Z (F0 m 1385 ls [])) : W p l e room_1 s m #[Value.ref b] below meth c H locs 85 5155 Z (F0 m 835 ls []) := by
  refine l_case (mc := mi_X3_block) (mm := mi_X4_block) (ra := [.int (xs (i + 1)), .int (xs (i + 2))]) (n := 2) (pcA := 846) (pcB := 860) (idx1 := 103) (idx2 := 106) (off := 522) hC hl hP hS nx (p_block inv (xs (i + 1)).toInt (xs (i + 2)).toInt (i32_rng _).2) ⟨_, _, rfl, ⟨_, rfl, rfl⟩, ⟨_, _, rfl, ⟨_, rfl, rfl⟩, rfl⟩⟩ rfl (by decide) (by decide) (by decide +kernel) (xck_in (p := (3, 78)) (by decide +kernel) rfl) (xck_in (p := (1, 1)) (by decide +kernel) rfl) (xck_in (p := (3, 77)) (by decide +kernel) rfl) (xck_in (p := (3, 79)) (by decide +kernel) rfl) (by decide) (by decide) (by decide +kernel) (xck_in (p := (5, 157)) (by decide +kernel) rfl) (xck_in (p := (1, 5)) (by decide +kernel) rfl) (xck_in (p := (5, 156)) (by decide +kernel) rfl) (xck_in (p := (5, 158)) (by decide +kernel) rfl) ⟨by decide +kernel, by decide +kernel, by decide +kernel, by decide +kernel, by decide +kernel⟩ (by decide) ?_ ?_
  · intro H locs st hS k
    refine l_arg hC hS hl 1 (by omega) (show dArg 836 1 from ⟨by decide +kernel, by decide +kernel, by decide +kernel, by decide +kernel, by decide +kernel⟩) ?_
    refine l_arg hC hS hl 2 (by omega) (show dArg 841 2 from ⟨by decide +kernel, by decide +kernel, by decide +kernel, by decide +kernel, by decide +kernel⟩) ?_
    exact k
  · intro H locs st hS k
    refine l_arg hC hS hl 1 (by omega) (show dArg 850 1 from ⟨by decide +kernel, by decide +kernel, by decide +kernel, by decide +kernel, by decide +kernel⟩) ?_
    refine l_arg hC hS hl 2 (by omega) (show dArg 855 2 from ⟨by decide +kernel, by decide +kernel, by decide +kernel, by decide +kernel, by decide +kernel⟩) ?_
    exact k
set_option maxRecDepth 100000 in
theorem la_22 (hC : lCtx p s m meth c b L xs D ρ cy aK aV) (hl : lv_has ls 4 (lV ρ b i)) (hi : i + 5 ≤ L) (inv : InvX (xabs RM RL) (xabs RM RL)) (hP : va_P D vwCl (xws ρ cy RM RL) H) (hS : va_S (lA s) s.heap H locs) (nx : ∀ (RM : Nat → Fin 5 → Nat → Int32) (RL : Nat → Fin 5 → Nat → Int64) (H : Heap) (locs : List Loc), InvX (xabs RM RL) (xabs RM RL) → va_P D vwCl (xws ρ cy RM RL) H → va_S (lA s) s.heap H locs → W p l e room_1 s m #[Value.ref b] below meth c H locs 85 5155 Z (F0 m 1385 ls [])) : W p l e room_1 s m #[Value.ref b] below meth c H locs 85 5155 Z (F0 m 868 ls []) := by
  refine l_caseL (mc := mi_X3_luck) (mm := mi_X4_luck) (ra := [.int (xs (i + 1)), .int (xs (i + 2)), .int (xs (i + 3)), .int (xs (i + 4))]) (n := 4) (pcA := 889) (pcB := 913) (idx1 := 107) (idx2 := 111) (off := 468) hC hl hP hS nx (p_luck inv (xs (i + 1)).toInt (xs (i + 2)).toInt (xs (i + 3)).toInt (xs (i + 4)).toInt) ⟨_, _, rfl, ⟨_, rfl, rfl⟩, ⟨_, _, rfl, ⟨_, rfl, rfl⟩, ⟨_, _, rfl, ⟨_, rfl, rfl⟩, ⟨_, _, rfl, ⟨_, rfl, rfl⟩, rfl⟩⟩⟩⟩ rfl (by decide) (by decide) (by decide +kernel) (xck_in (p := (3, 82)) (by decide +kernel) rfl) (xck_in (p := (1, 1)) (by decide +kernel) rfl) (xck_in (p := (3, 81)) (by decide +kernel) rfl) (xck_in (p := (3, 83)) (by decide +kernel) rfl) (by decide) (by decide) (by decide +kernel) (xck_in (p := (5, 161)) (by decide +kernel) rfl) (xck_in (p := (1, 5)) (by decide +kernel) rfl) (xck_in (p := (5, 160)) (by decide +kernel) rfl) (xck_in (p := (5, 162)) (by decide +kernel) rfl) ⟨by decide +kernel, by decide +kernel, by decide +kernel, by decide +kernel, by decide +kernel, by decide +kernel⟩ (by decide) ?_ ?_
  · intro H locs st hS k
    refine l_arg hC hS hl 1 (by omega) (show dArg 869 1 from ⟨by decide +kernel, by decide +kernel, by decide +kernel, by decide +kernel, by decide +kernel⟩) ?_
    refine l_arg hC hS hl 2 (by omega) (show dArg 874 2 from ⟨by decide +kernel, by decide +kernel, by decide +kernel, by decide +kernel, by decide +kernel⟩) ?_
    refine l_arg hC hS hl 3 (by omega) (show dArg 879 3 from ⟨by decide +kernel, by decide +kernel, by decide +kernel, by decide +kernel, by decide +kernel⟩) ?_
    refine l_arg hC hS hl 4 (by omega) (show dArg 884 4 from ⟨by decide +kernel, by decide +kernel, by decide +kernel, by decide +kernel, by decide +kernel⟩) ?_
    exact k
  · intro H locs st hS k
    refine l_arg hC hS hl 1 (by omega) (show dArg 893 1 from ⟨by decide +kernel, by decide +kernel, by decide +kernel, by decide +kernel, by decide +kernel⟩) ?_
    refine l_arg hC hS hl 2 (by omega) (show dArg 898 2 from ⟨by decide +kernel, by decide +kernel, by decide +kernel, by decide +kernel, by decide +kernel⟩) ?_
    refine l_arg hC hS hl 3 (by omega) (show dArg 903 3 from ⟨by decide +kernel, by decide +kernel, by decide +kernel, by decide +kernel, by decide +kernel⟩) ?_
    refine l_arg hC hS hl 4 (by omega) (show dArg 908 4 from ⟨by decide +kernel, by decide +kernel, by decide +kernel, by decide +kernel, by decide +kernel⟩) ?_
    exact k
set_option maxRecDepth 100000 in
theorem la_23 (hC : lCtx p s m meth c b L xs D ρ cy aK aV) (hl : lv_has ls 4 (lV ρ b i)) (hi : i + 5 ≤ L) (inv : InvX (xabs RM RL) (xabs RM RL)) (hP : va_P D vwCl (xws ρ cy RM RL) H) (hS : va_S (lA s) s.heap H locs) (nx : ∀ (RM : Nat → Fin 5 → Nat → Int32) (RL : Nat → Fin 5 → Nat → Int64) (H : Heap) (locs : List Loc), InvX (xabs RM RL) (xabs RM RL) → va_P D vwCl (xws ρ cy RM RL) H → va_S (lA s) s.heap H locs → W p l e room_1 s m #[Value.ref b] below meth c H locs 85 5155 Z (F0 m 1385 ls [])) : W p l e room_1 s m #[Value.ref b] below meth c H locs 85 5155 Z (F0 m 922 ls []) := by
  refine l_caseL (mc := mi_X3_mean) (mm := mi_X4_mean) (ra := [.int (xs (i + 1)), .int (xs (i + 2)), .int (xs (i + 3))]) (n := 3) (pcA := 938) (pcB := 957) (idx1 := 112) (idx2 := 116) (off := 424) hC hl hP hS nx (p_mean inv (xs (i + 1)).toInt (xs (i + 2)).toInt (xs (i + 3)).toInt) ⟨_, _, rfl, ⟨_, rfl, rfl⟩, ⟨_, _, rfl, ⟨_, rfl, rfl⟩, ⟨_, _, rfl, ⟨_, rfl, rfl⟩, rfl⟩⟩⟩ rfl (by decide) (by decide) (by decide +kernel) (xck_in (p := (3, 113)) (by decide +kernel) rfl) (xck_in (p := (1, 1)) (by decide +kernel) rfl) (xck_in (p := (3, 112)) (by decide +kernel) rfl) (xck_in (p := (3, 114)) (by decide +kernel) rfl) (by decide) (by decide) (by decide +kernel) (xck_in (p := (5, 177)) (by decide +kernel) rfl) (xck_in (p := (1, 5)) (by decide +kernel) rfl) (xck_in (p := (5, 176)) (by decide +kernel) rfl) (xck_in (p := (5, 178)) (by decide +kernel) rfl) ⟨by decide +kernel, by decide +kernel, by decide +kernel, by decide +kernel, by decide +kernel, by decide +kernel⟩ (by decide) ?_ ?_
  · intro H locs st hS k
    refine l_arg hC hS hl 1 (by omega) (show dArg 923 1 from ⟨by decide +kernel, by decide +kernel, by decide +kernel, by decide +kernel, by decide +kernel⟩) ?_
    refine l_arg hC hS hl 2 (by omega) (show dArg 928 2 from ⟨by decide +kernel, by decide +kernel, by decide +kernel, by decide +kernel, by decide +kernel⟩) ?_
    refine l_arg hC hS hl 3 (by omega) (show dArg 933 3 from ⟨by decide +kernel, by decide +kernel, by decide +kernel, by decide +kernel, by decide +kernel⟩) ?_
    exact k
  · intro H locs st hS k
    refine l_arg hC hS hl 1 (by omega) (show dArg 942 1 from ⟨by decide +kernel, by decide +kernel, by decide +kernel, by decide +kernel, by decide +kernel⟩) ?_
    refine l_arg hC hS hl 2 (by omega) (show dArg 947 2 from ⟨by decide +kernel, by decide +kernel, by decide +kernel, by decide +kernel, by decide +kernel⟩) ?_
    refine l_arg hC hS hl 3 (by omega) (show dArg 952 3 from ⟨by decide +kernel, by decide +kernel, by decide +kernel, by decide +kernel, by decide +kernel⟩) ?_
    exact k
set_option maxRecDepth 100000 in
theorem la_24 (hC : lCtx p s m meth c b L xs D ρ cy aK aV) (hl : lv_has ls 4 (lV ρ b i)) (hi : i + 5 ≤ L) (inv : InvX (xabs RM RL) (xabs RM RL)) (hP : va_P D vwCl (xws ρ cy RM RL) H) (hS : va_S (lA s) s.heap H locs) (nx : ∀ (RM : Nat → Fin 5 → Nat → Int32) (RL : Nat → Fin 5 → Nat → Int64) (H : Heap) (locs : List Loc), InvX (xabs RM RL) (xabs RM RL) → va_P D vwCl (xws ρ cy RM RL) H → va_S (lA s) s.heap H locs → W p l e room_1 s m #[Value.ref b] below meth c H locs 85 5155 Z (F0 m 1385 ls [])) : W p l e room_1 s m #[Value.ref b] below meth c H locs 85 5155 Z (F0 m 966 ls []) := by
  refine l_case (mc := mi_X3_see) (mm := mi_X4_see) (ra := [.int (xs (i + 1)), .int (xs (i + 2)), .int (xs (i + 3))]) (n := 3) (pcA := 982) (pcB := 1001) (idx1 := 117) (idx2 := 120) (off := 381) hC hl hP hS nx (p_see inv (xs (i + 1)).toInt (xs (i + 2)).toInt (xs (i + 3)).toInt (i32_rng _).2) ⟨_, _, rfl, ⟨_, rfl, rfl⟩, ⟨_, _, rfl, ⟨_, rfl, rfl⟩, ⟨_, _, rfl, ⟨_, rfl, rfl⟩, rfl⟩⟩⟩ rfl (by decide) (by decide) (by decide +kernel) (xck_in (p := (3, 117)) (by decide +kernel) rfl) (xck_in (p := (1, 1)) (by decide +kernel) rfl) (xck_in (p := (3, 116)) (by decide +kernel) rfl) (xck_in (p := (3, 118)) (by decide +kernel) rfl) (by decide) (by decide) (by decide +kernel) (xck_in (p := (5, 181)) (by decide +kernel) rfl) (xck_in (p := (1, 5)) (by decide +kernel) rfl) (xck_in (p := (5, 180)) (by decide +kernel) rfl) (xck_in (p := (5, 182)) (by decide +kernel) rfl) ⟨by decide +kernel, by decide +kernel, by decide +kernel, by decide +kernel, by decide +kernel⟩ (by decide) ?_ ?_
  · intro H locs st hS k
    refine l_arg hC hS hl 1 (by omega) (show dArg 967 1 from ⟨by decide +kernel, by decide +kernel, by decide +kernel, by decide +kernel, by decide +kernel⟩) ?_
    refine l_arg hC hS hl 2 (by omega) (show dArg 972 2 from ⟨by decide +kernel, by decide +kernel, by decide +kernel, by decide +kernel, by decide +kernel⟩) ?_
    refine l_arg hC hS hl 3 (by omega) (show dArg 977 3 from ⟨by decide +kernel, by decide +kernel, by decide +kernel, by decide +kernel, by decide +kernel⟩) ?_
    exact k
  · intro H locs st hS k
    refine l_arg hC hS hl 1 (by omega) (show dArg 986 1 from ⟨by decide +kernel, by decide +kernel, by decide +kernel, by decide +kernel, by decide +kernel⟩) ?_
    refine l_arg hC hS hl 2 (by omega) (show dArg 991 2 from ⟨by decide +kernel, by decide +kernel, by decide +kernel, by decide +kernel, by decide +kernel⟩) ?_
    refine l_arg hC hS hl 3 (by omega) (show dArg 996 3 from ⟨by decide +kernel, by decide +kernel, by decide +kernel, by decide +kernel, by decide +kernel⟩) ?_
    exact k
set_option maxRecDepth 100000 in
theorem la_25 (hC : lCtx p s m meth c b L xs D ρ cy aK aV) (hl : lv_has ls 4 (lV ρ b i)) (hi : i + 5 ≤ L) (inv : InvX (xabs RM RL) (xabs RM RL)) (hP : va_P D vwCl (xws ρ cy RM RL) H) (hS : va_S (lA s) s.heap H locs) (nx : ∀ (RM : Nat → Fin 5 → Nat → Int32) (RL : Nat → Fin 5 → Nat → Int64) (H : Heap) (locs : List Loc), InvX (xabs RM RL) (xabs RM RL) → va_P D vwCl (xws ρ cy RM RL) H → va_S (lA s) s.heap H locs → W p l e room_1 s m #[Value.ref b] below meth c H locs 85 5155 Z (F0 m 1385 ls [])) : W p l e room_1 s m #[Value.ref b] below meth c H locs 85 5155 Z (F0 m 1009 ls []) := by
  refine l_case (mc := mi_X3_forget) (mm := mi_X4_forget) (ra := [.int (xs (i + 1))]) (n := 1) (pcA := 1015) (pcB := 1024) (idx1 := 121) (idx2 := 124) (off := 358) hC hl hP hS nx (p_forget inv (xs (i + 1)).toInt) ⟨_, _, rfl, ⟨_, rfl, rfl⟩, rfl⟩ rfl (by decide) (by decide) (by decide +kernel) (xck_in (p := (3, 125)) (by decide +kernel) rfl) (xck_in (p := (1, 1)) (by decide +kernel) rfl) (xck_in (p := (3, 124)) (by decide +kernel) rfl) (xck_in (p := (3, 126)) (by decide +kernel) rfl) (by decide) (by decide) (by decide +kernel) (xck_in (p := (5, 185)) (by decide +kernel) rfl) (xck_in (p := (1, 5)) (by decide +kernel) rfl) (xck_in (p := (5, 184)) (by decide +kernel) rfl) (xck_in (p := (5, 186)) (by decide +kernel) rfl) ⟨by decide +kernel, by decide +kernel, by decide +kernel, by decide +kernel, by decide +kernel⟩ (by decide) ?_ ?_
  · intro H locs st hS k
    refine l_arg hC hS hl 1 (by omega) (show dArg 1010 1 from ⟨by decide +kernel, by decide +kernel, by decide +kernel, by decide +kernel, by decide +kernel⟩) ?_
    exact k
  · intro H locs st hS k
    refine l_arg hC hS hl 1 (by omega) (show dArg 1019 1 from ⟨by decide +kernel, by decide +kernel, by decide +kernel, by decide +kernel, by decide +kernel⟩) ?_
    exact k
set_option maxRecDepth 100000 in
theorem la_26 (hC : lCtx p s m meth c b L xs D ρ cy aK aV) (hl : lv_has ls 4 (lV ρ b i)) (hi : i + 5 ≤ L) (inv : InvX (xabs RM RL) (xabs RM RL)) (hP : va_P D vwCl (xws ρ cy RM RL) H) (hS : va_S (lA s) s.heap H locs) (nx : ∀ (RM : Nat → Fin 5 → Nat → Int32) (RL : Nat → Fin 5 → Nat → Int64) (H : Heap) (locs : List Loc), InvX (xabs RM RL) (xabs RM RL) → va_P D vwCl (xws ρ cy RM RL) H → va_S (lA s) s.heap H locs → W p l e room_1 s m #[Value.ref b] below meth c H locs 85 5155 Z (F0 m 1385 ls [])) : W p l e room_1 s m #[Value.ref b] below meth c H locs 85 5155 Z (F0 m 1032 ls []) := by
  refine l_case (mc := mi_X3_aims) (mm := mi_X4_aims) (ra := [.int (xs (i + 1)), .int (xs (i + 2))]) (n := 2) (pcA := 1043) (pcB := 1057) (idx1 := 125) (idx2 := 128) (off := 325) hC hl hP hS nx (p_aims inv (xs (i + 1)).toInt (xs (i + 2)).toInt) ⟨_, _, rfl, ⟨_, rfl, rfl⟩, ⟨_, _, rfl, ⟨_, rfl, rfl⟩, rfl⟩⟩ rfl (by decide) (by decide) (by decide +kernel) (xck_in (p := (3, 129)) (by decide +kernel) rfl) (xck_in (p := (1, 1)) (by decide +kernel) rfl) (xck_in (p := (3, 128)) (by decide +kernel) rfl) (xck_in (p := (3, 130)) (by decide +kernel) rfl) (by decide) (by decide) (by decide +kernel) (xck_in (p := (5, 189)) (by decide +kernel) rfl) (xck_in (p := (1, 5)) (by decide +kernel) rfl) (xck_in (p := (5, 188)) (by decide +kernel) rfl) (xck_in (p := (5, 190)) (by decide +kernel) rfl) ⟨by decide +kernel, by decide +kernel, by decide +kernel, by decide +kernel, by decide +kernel⟩ (by decide) ?_ ?_
  · intro H locs st hS k
    refine l_arg hC hS hl 1 (by omega) (show dArg 1033 1 from ⟨by decide +kernel, by decide +kernel, by decide +kernel, by decide +kernel, by decide +kernel⟩) ?_
    refine l_arg hC hS hl 2 (by omega) (show dArg 1038 2 from ⟨by decide +kernel, by decide +kernel, by decide +kernel, by decide +kernel, by decide +kernel⟩) ?_
    exact k
  · intro H locs st hS k
    refine l_arg hC hS hl 1 (by omega) (show dArg 1047 1 from ⟨by decide +kernel, by decide +kernel, by decide +kernel, by decide +kernel, by decide +kernel⟩) ?_
    refine l_arg hC hS hl 2 (by omega) (show dArg 1052 2 from ⟨by decide +kernel, by decide +kernel, by decide +kernel, by decide +kernel, by decide +kernel⟩) ?_
    exact k
set_option maxRecDepth 100000 in
theorem la_27 (hC : lCtx p s m meth c b L xs D ρ cy aK aV) (hl : lv_has ls 4 (lV ρ b i)) (hi : i + 5 ≤ L) (inv : InvX (xabs RM RL) (xabs RM RL)) (hP : va_P D vwCl (xws ρ cy RM RL) H) (hS : va_S (lA s) s.heap H locs) (nx : ∀ (RM : Nat → Fin 5 → Nat → Int32) (RL : Nat → Fin 5 → Nat → Int64) (H : Heap) (locs : List Loc), InvX (xabs RM RL) (xabs RM RL) → va_P D vwCl (xws ρ cy RM RL) H → va_S (lA s) s.heap H locs → W p l e room_1 s m #[Value.ref b] below meth c H locs 85 5155 Z (F0 m 1385 ls [])) : W p l e room_1 s m #[Value.ref b] below meth c H locs 85 5155 Z (F0 m 1065 ls []) := by
  refine l_case (mc := mi_X3_kinds) (mm := mi_X4_kinds) (ra := [.int (xs (i + 1))]) (n := 1) (pcA := 1071) (pcB := 1080) (idx1 := 129) (idx2 := 132) (off := 302) hC hl hP hS nx (p_kinds inv (xs (i + 1)).toInt) ⟨_, _, rfl, ⟨_, rfl, rfl⟩, rfl⟩ rfl (by decide) (by decide) (by decide +kernel) (xck_in (p := (3, 148)) (by decide +kernel) rfl) (xck_in (p := (1, 1)) (by decide +kernel) rfl) (xck_in (p := (3, 147)) (by decide +kernel) rfl) (xck_in (p := (3, 149)) (by decide +kernel) rfl) (by decide) (by decide) (by decide +kernel) (xck_in (p := (5, 197)) (by decide +kernel) rfl) (xck_in (p := (1, 5)) (by decide +kernel) rfl) (xck_in (p := (5, 196)) (by decide +kernel) rfl) (xck_in (p := (5, 198)) (by decide +kernel) rfl) ⟨by decide +kernel, by decide +kernel, by decide +kernel, by decide +kernel, by decide +kernel⟩ (by decide) ?_ ?_
  · intro H locs st hS k
    refine l_arg hC hS hl 1 (by omega) (show dArg 1066 1 from ⟨by decide +kernel, by decide +kernel, by decide +kernel, by decide +kernel, by decide +kernel⟩) ?_
    exact k
  · intro H locs st hS k
    refine l_arg hC hS hl 1 (by omega) (show dArg 1075 1 from ⟨by decide +kernel, by decide +kernel, by decide +kernel, by decide +kernel, by decide +kernel⟩) ?_
    exact k
set_option maxRecDepth 100000 in
theorem la_28 (hC : lCtx p s m meth c b L xs D ρ cy aK aV) (hl : lv_has ls 4 (lV ρ b i)) (hi : i + 5 ≤ L) (inv : InvX (xabs RM RL) (xabs RM RL)) (hP : va_P D vwCl (xws ρ cy RM RL) H) (hS : va_S (lA s) s.heap H locs) (nx : ∀ (RM : Nat → Fin 5 → Nat → Int32) (RL : Nat → Fin 5 → Nat → Int64) (H : Heap) (locs : List Loc), InvX (xabs RM RL) (xabs RM RL) → va_P D vwCl (xws ρ cy RM RL) H → va_S (lA s) s.heap H locs → W p l e room_1 s m #[Value.ref b] below meth c H locs 85 5155 Z (F0 m 1385 ls [])) : W p l e room_1 s m #[Value.ref b] below meth c H locs 85 5155 Z (F0 m 1088 ls []) := by
  refine l_case (mc := mi_X3_look) (mm := mi_X4_look) (ra := [.int (xs (i + 1)), .int (xs (i + 2))]) (n := 2) (pcA := 1099) (pcB := 1113) (idx1 := 133) (idx2 := 136) (off := 269) hC hl hP hS nx (p_look inv (xs (i + 1)).toInt (xs (i + 2)).toInt) ⟨_, _, rfl, ⟨_, rfl, rfl⟩, ⟨_, _, rfl, ⟨_, rfl, rfl⟩, rfl⟩⟩ rfl (by decide) (by decide) (by decide +kernel) (xck_in (p := (3, 152)) (by decide +kernel) rfl) (xck_in (p := (1, 1)) (by decide +kernel) rfl) (xck_in (p := (3, 151)) (by decide +kernel) rfl) (xck_in (p := (3, 153)) (by decide +kernel) rfl) (by decide) (by decide) (by decide +kernel) (xck_in (p := (5, 201)) (by decide +kernel) rfl) (xck_in (p := (1, 5)) (by decide +kernel) rfl) (xck_in (p := (5, 200)) (by decide +kernel) rfl) (xck_in (p := (5, 202)) (by decide +kernel) rfl) ⟨by decide +kernel, by decide +kernel, by decide +kernel, by decide +kernel, by decide +kernel⟩ (by decide) ?_ ?_
  · intro H locs st hS k
    refine l_arg hC hS hl 1 (by omega) (show dArg 1089 1 from ⟨by decide +kernel, by decide +kernel, by decide +kernel, by decide +kernel, by decide +kernel⟩) ?_
    refine l_arg hC hS hl 2 (by omega) (show dArg 1094 2 from ⟨by decide +kernel, by decide +kernel, by decide +kernel, by decide +kernel, by decide +kernel⟩) ?_
    exact k
  · intro H locs st hS k
    refine l_arg hC hS hl 1 (by omega) (show dArg 1103 1 from ⟨by decide +kernel, by decide +kernel, by decide +kernel, by decide +kernel, by decide +kernel⟩) ?_
    refine l_arg hC hS hl 2 (by omega) (show dArg 1108 2 from ⟨by decide +kernel, by decide +kernel, by decide +kernel, by decide +kernel, by decide +kernel⟩) ?_
    exact k
set_option maxRecDepth 100000 in
theorem la_29 (hC : lCtx p s m meth c b L xs D ρ cy aK aV) (hl : lv_has ls 4 (lV ρ b i)) (hi : i + 5 ≤ L) (inv : InvX (xabs RM RL) (xabs RM RL)) (hP : va_P D vwCl (xws ρ cy RM RL) H) (hS : va_S (lA s) s.heap H locs) (nx : ∀ (RM : Nat → Fin 5 → Nat → Int32) (RL : Nat → Fin 5 → Nat → Int64) (H : Heap) (locs : List Loc), InvX (xabs RM RL) (xabs RM RL) → va_P D vwCl (xws ρ cy RM RL) H → va_S (lA s) s.heap H locs → W p l e room_1 s m #[Value.ref b] below meth c H locs 85 5155 Z (F0 m 1385 ls [])) : W p l e room_1 s m #[Value.ref b] below meth c H locs 85 5155 Z (F0 m 1121 ls []) := by
  refine l_case (mc := mi_X3_drift) (mm := mi_X4_drift) (ra := [.int (xs (i + 1)), .int (xs (i + 2)), .int (xs (i + 3))]) (n := 3) (pcA := 1137) (pcB := 1156) (idx1 := 137) (idx2 := 140) (off := 226) hC hl hP hS nx (p_drift inv (xs (i + 1)).toInt (xs (i + 2)).toInt (xs (i + 3)).toInt) ⟨_, _, rfl, ⟨_, rfl, rfl⟩, ⟨_, _, rfl, ⟨_, rfl, rfl⟩, ⟨_, _, rfl, ⟨_, rfl, rfl⟩, rfl⟩⟩⟩ rfl (by decide) (by decide) (by decide +kernel) (xck_in (p := (3, 165)) (by decide +kernel) rfl) (xck_in (p := (1, 1)) (by decide +kernel) rfl) (xck_in (p := (3, 164)) (by decide +kernel) rfl) (xck_in (p := (3, 166)) (by decide +kernel) rfl) (by decide) (by decide) (by decide +kernel) (xck_in (p := (5, 205)) (by decide +kernel) rfl) (xck_in (p := (1, 5)) (by decide +kernel) rfl) (xck_in (p := (5, 204)) (by decide +kernel) rfl) (xck_in (p := (5, 206)) (by decide +kernel) rfl) ⟨by decide +kernel, by decide +kernel, by decide +kernel, by decide +kernel, by decide +kernel⟩ (by decide) ?_ ?_
  · intro H locs st hS k
    refine l_arg hC hS hl 1 (by omega) (show dArg 1122 1 from ⟨by decide +kernel, by decide +kernel, by decide +kernel, by decide +kernel, by decide +kernel⟩) ?_
    refine l_arg hC hS hl 2 (by omega) (show dArg 1127 2 from ⟨by decide +kernel, by decide +kernel, by decide +kernel, by decide +kernel, by decide +kernel⟩) ?_
    refine l_arg hC hS hl 3 (by omega) (show dArg 1132 3 from ⟨by decide +kernel, by decide +kernel, by decide +kernel, by decide +kernel, by decide +kernel⟩) ?_
    exact k
  · intro H locs st hS k
    refine l_arg hC hS hl 1 (by omega) (show dArg 1141 1 from ⟨by decide +kernel, by decide +kernel, by decide +kernel, by decide +kernel, by decide +kernel⟩) ?_
    refine l_arg hC hS hl 2 (by omega) (show dArg 1146 2 from ⟨by decide +kernel, by decide +kernel, by decide +kernel, by decide +kernel, by decide +kernel⟩) ?_
    refine l_arg hC hS hl 3 (by omega) (show dArg 1151 3 from ⟨by decide +kernel, by decide +kernel, by decide +kernel, by decide +kernel, by decide +kernel⟩) ?_
    exact k
set_option maxRecDepth 100000 in
theorem la_30 (hC : lCtx p s m meth c b L xs D ρ cy aK aV) (hl : lv_has ls 4 (lV ρ b i)) (hi : i + 5 ≤ L) (inv : InvX (xabs RM RL) (xabs RM RL)) (hP : va_P D vwCl (xws ρ cy RM RL) H) (hS : va_S (lA s) s.heap H locs) (nx : ∀ (RM : Nat → Fin 5 → Nat → Int32) (RL : Nat → Fin 5 → Nat → Int64) (H : Heap) (locs : List Loc), InvX (xabs RM RL) (xabs RM RL) → va_P D vwCl (xws ρ cy RM RL) H → va_S (lA s) s.heap H locs → W p l e room_1 s m #[Value.ref b] below meth c H locs 85 5155 Z (F0 m 1385 ls [])) : W p l e room_1 s m #[Value.ref b] below meth c H locs 85 5155 Z (F0 m 1164 ls []) := by
  refine l_case (mc := mi_X3_keep) (mm := mi_X4_keep) (ra := [.int (xs (i + 1))]) (n := 1) (pcA := 1170) (pcB := 1179) (idx1 := 141) (idx2 := 144) (off := 203) hC hl hP hS nx (p_keep inv (xs (i + 1)).toInt) ⟨_, _, rfl, ⟨_, rfl, rfl⟩, rfl⟩ rfl (by decide) (by decide) (by decide +kernel) (xck_in (p := (3, 174)) (by decide +kernel) rfl) (xck_in (p := (1, 1)) (by decide +kernel) rfl) (xck_in (p := (3, 173)) (by decide +kernel) rfl) (xck_in (p := (3, 175)) (by decide +kernel) rfl) (by decide) (by decide) (by decide +kernel) (xck_in (p := (5, 211)) (by decide +kernel) rfl) (xck_in (p := (1, 5)) (by decide +kernel) rfl) (xck_in (p := (5, 210)) (by decide +kernel) rfl) (xck_in (p := (5, 212)) (by decide +kernel) rfl) ⟨by decide +kernel, by decide +kernel, by decide +kernel, by decide +kernel, by decide +kernel⟩ (by decide) ?_ ?_
  · intro H locs st hS k
    refine l_arg hC hS hl 1 (by omega) (show dArg 1165 1 from ⟨by decide +kernel, by decide +kernel, by decide +kernel, by decide +kernel, by decide +kernel⟩) ?_
    exact k
  · intro H locs st hS k
    refine l_arg hC hS hl 1 (by omega) (show dArg 1174 1 from ⟨by decide +kernel, by decide +kernel, by decide +kernel, by decide +kernel, by decide +kernel⟩) ?_
    exact k
set_option maxRecDepth 100000 in
theorem la_31 (hC : lCtx p s m meth c b L xs D ρ cy aK aV) (hl : lv_has ls 4 (lV ρ b i)) (hi : i + 5 ≤ L) (inv : InvX (xabs RM RL) (xabs RM RL)) (hP : va_P D vwCl (xws ρ cy RM RL) H) (hS : va_S (lA s) s.heap H locs) (nx : ∀ (RM : Nat → Fin 5 → Nat → Int32) (RL : Nat → Fin 5 → Nat → Int64) (H : Heap) (locs : List Loc), InvX (xabs RM RL) (xabs RM RL) → va_P D vwCl (xws ρ cy RM RL) H → va_S (lA s) s.heap H locs → W p l e room_1 s m #[Value.ref b] below meth c H locs 85 5155 Z (F0 m 1385 ls [])) : W p l e room_1 s m #[Value.ref b] below meth c H locs 85 5155 Z (F0 m 1187 ls []) := by
  refine l_case (mc := mi_X3_back) (mm := mi_X4_back) (ra := [.int (xs (i + 1))]) (n := 1) (pcA := 1193) (pcB := 1202) (idx1 := 145) (idx2 := 148) (off := 180) hC hl hP hS nx (p_back inv (xs (i + 1)).toInt) ⟨_, _, rfl, ⟨_, rfl, rfl⟩, rfl⟩ rfl (by decide) (by decide) (by decide +kernel) (xck_in (p := (3, 182)) (by decide +kernel) rfl) (xck_in (p := (1, 1)) (by decide +kernel) rfl) (xck_in (p := (3, 181)) (by decide +kernel) rfl) (xck_in (p := (3, 183)) (by decide +kernel) rfl) (by decide) (by decide) (by decide +kernel) (xck_in (p := (5, 219)) (by decide +kernel) rfl) (xck_in (p := (1, 5)) (by decide +kernel) rfl) (xck_in (p := (5, 218)) (by decide +kernel) rfl) (xck_in (p := (5, 220)) (by decide +kernel) rfl) ⟨by decide +kernel, by decide +kernel, by decide +kernel, by decide +kernel, by decide +kernel⟩ (by decide) ?_ ?_
  · intro H locs st hS k
    refine l_arg hC hS hl 1 (by omega) (show dArg 1188 1 from ⟨by decide +kernel, by decide +kernel, by decide +kernel, by decide +kernel, by decide +kernel⟩) ?_
    exact k
  · intro H locs st hS k
    refine l_arg hC hS hl 1 (by omega) (show dArg 1197 1 from ⟨by decide +kernel, by decide +kernel, by decide +kernel, by decide +kernel, by decide +kernel⟩) ?_
    exact k
set_option maxRecDepth 100000 in
theorem la_32 (hC : lCtx p s m meth c b L xs D ρ cy aK aV) (hl : lv_has ls 4 (lV ρ b i)) (hi : i + 5 ≤ L) (inv : InvX (xabs RM RL) (xabs RM RL)) (hP : va_P D vwCl (xws ρ cy RM RL) H) (hS : va_S (lA s) s.heap H locs) (nx : ∀ (RM : Nat → Fin 5 → Nat → Int32) (RL : Nat → Fin 5 → Nat → Int64) (H : Heap) (locs : List Loc), InvX (xabs RM RL) (xabs RM RL) → va_P D vwCl (xws ρ cy RM RL) H → va_S (lA s) s.heap H locs → W p l e room_1 s m #[Value.ref b] below meth c H locs 85 5155 Z (F0 m 1385 ls [])) : W p l e room_1 s m #[Value.ref b] below meth c H locs 85 5155 Z (F0 m 1210 ls []) := by
  refine l_case (mc := mi_X3_sheet) (mm := mi_X4_sheet) (ra := [.int (xs (i + 1)), .int (xs (i + 2)), .int (xs (i + 3))]) (n := 3) (pcA := 1226) (pcB := 1245) (idx1 := 149) (idx2 := 152) (off := 137) hC hl hP hS nx (p_sheet inv (xs (i + 1)).toInt (xs (i + 2)).toInt (xs (i + 3)).toInt) ⟨_, _, rfl, ⟨_, rfl, rfl⟩, ⟨_, _, rfl, ⟨_, rfl, rfl⟩, ⟨_, _, rfl, ⟨_, rfl, rfl⟩, rfl⟩⟩⟩ rfl (by decide) (by decide) (by decide +kernel) (xck_in (p := (3, 186)) (by decide +kernel) rfl) (xck_in (p := (1, 1)) (by decide +kernel) rfl) (xck_in (p := (3, 185)) (by decide +kernel) rfl) (xck_in (p := (3, 187)) (by decide +kernel) rfl) (by decide) (by decide) (by decide +kernel) (xck_in (p := (5, 223)) (by decide +kernel) rfl) (xck_in (p := (1, 5)) (by decide +kernel) rfl) (xck_in (p := (5, 222)) (by decide +kernel) rfl) (xck_in (p := (5, 224)) (by decide +kernel) rfl) ⟨by decide +kernel, by decide +kernel, by decide +kernel, by decide +kernel, by decide +kernel⟩ (by decide) ?_ ?_
  · intro H locs st hS k
    refine l_arg hC hS hl 1 (by omega) (show dArg 1211 1 from ⟨by decide +kernel, by decide +kernel, by decide +kernel, by decide +kernel, by decide +kernel⟩) ?_
    refine l_arg hC hS hl 2 (by omega) (show dArg 1216 2 from ⟨by decide +kernel, by decide +kernel, by decide +kernel, by decide +kernel, by decide +kernel⟩) ?_
    refine l_arg hC hS hl 3 (by omega) (show dArg 1221 3 from ⟨by decide +kernel, by decide +kernel, by decide +kernel, by decide +kernel, by decide +kernel⟩) ?_
    exact k
  · intro H locs st hS k
    refine l_arg hC hS hl 1 (by omega) (show dArg 1230 1 from ⟨by decide +kernel, by decide +kernel, by decide +kernel, by decide +kernel, by decide +kernel⟩) ?_
    refine l_arg hC hS hl 2 (by omega) (show dArg 1235 2 from ⟨by decide +kernel, by decide +kernel, by decide +kernel, by decide +kernel, by decide +kernel⟩) ?_
    refine l_arg hC hS hl 3 (by omega) (show dArg 1240 3 from ⟨by decide +kernel, by decide +kernel, by decide +kernel, by decide +kernel, by decide +kernel⟩) ?_
    exact k
set_option maxRecDepth 100000 in
theorem la_33 (hC : lCtx p s m meth c b L xs D ρ cy aK aV) (hl : lv_has ls 4 (lV ρ b i)) (hi : i + 5 ≤ L) (inv : InvX (xabs RM RL) (xabs RM RL)) (hP : va_P D vwCl (xws ρ cy RM RL) H) (hS : va_S (lA s) s.heap H locs) (nx : ∀ (RM : Nat → Fin 5 → Nat → Int32) (RL : Nat → Fin 5 → Nat → Int64) (H : Heap) (locs : List Loc), InvX (xabs RM RL) (xabs RM RL) → va_P D vwCl (xws ρ cy RM RL) H → va_S (lA s) s.heap H locs → W p l e room_1 s m #[Value.ref b] below meth c H locs 85 5155 Z (F0 m 1385 ls [])) : W p l e room_1 s m #[Value.ref b] below meth c H locs 85 5155 Z (F0 m 1253 ls []) := by
  refine l_case (mc := mi_X3_lay) (mm := mi_X4_lay) (ra := [.int (xs (i + 1)), .int (xs (i + 2)), .int (xs (i + 3))]) (n := 3) (pcA := 1269) (pcB := 1288) (idx1 := 153) (idx2 := 156) (off := 94) hC hl hP hS nx (p_lay inv (xs (i + 1)).toInt (xs (i + 2)).toInt (xs (i + 3)).toInt) ⟨_, _, rfl, ⟨_, rfl, rfl⟩, ⟨_, _, rfl, ⟨_, rfl, rfl⟩, ⟨_, _, rfl, ⟨_, rfl, rfl⟩, rfl⟩⟩⟩ rfl (by decide) (by decide) (by decide +kernel) (xck_in (p := (3, 201)) (by decide +kernel) rfl) (xck_in (p := (1, 1)) (by decide +kernel) rfl) (xck_in (p := (3, 200)) (by decide +kernel) rfl) (xck_in (p := (3, 202)) (by decide +kernel) rfl) (by decide) (by decide) (by decide +kernel) (xck_in (p := (5, 230)) (by decide +kernel) rfl) (xck_in (p := (1, 5)) (by decide +kernel) rfl) (xck_in (p := (5, 229)) (by decide +kernel) rfl) (xck_in (p := (5, 231)) (by decide +kernel) rfl) ⟨by decide +kernel, by decide +kernel, by decide +kernel, by decide +kernel, by decide +kernel⟩ (by decide) ?_ ?_
  · intro H locs st hS k
    refine l_arg hC hS hl 1 (by omega) (show dArg 1254 1 from ⟨by decide +kernel, by decide +kernel, by decide +kernel, by decide +kernel, by decide +kernel⟩) ?_
    refine l_arg hC hS hl 2 (by omega) (show dArg 1259 2 from ⟨by decide +kernel, by decide +kernel, by decide +kernel, by decide +kernel, by decide +kernel⟩) ?_
    refine l_arg hC hS hl 3 (by omega) (show dArg 1264 3 from ⟨by decide +kernel, by decide +kernel, by decide +kernel, by decide +kernel, by decide +kernel⟩) ?_
    exact k
  · intro H locs st hS k
    refine l_arg hC hS hl 1 (by omega) (show dArg 1273 1 from ⟨by decide +kernel, by decide +kernel, by decide +kernel, by decide +kernel, by decide +kernel⟩) ?_
    refine l_arg hC hS hl 2 (by omega) (show dArg 1278 2 from ⟨by decide +kernel, by decide +kernel, by decide +kernel, by decide +kernel, by decide +kernel⟩) ?_
    refine l_arg hC hS hl 3 (by omega) (show dArg 1283 3 from ⟨by decide +kernel, by decide +kernel, by decide +kernel, by decide +kernel, by decide +kernel⟩) ?_
    exact k
set_option maxRecDepth 100000 in
theorem la_34 (hC : lCtx p s m meth c b L xs D ρ cy aK aV) (hl : lv_has ls 4 (lV ρ b i)) (hi : i + 5 ≤ L) (inv : InvX (xabs RM RL) (xabs RM RL)) (hP : va_P D vwCl (xws ρ cy RM RL) H) (hS : va_S (lA s) s.heap H locs) (nx : ∀ (RM : Nat → Fin 5 → Nat → Int32) (RL : Nat → Fin 5 → Nat → Int64) (H : Heap) (locs : List Loc), InvX (xabs RM RL) (xabs RM RL) → va_P D vwCl (xws ρ cy RM RL) H → va_S (lA s) s.heap H locs → W p l e room_1 s m #[Value.ref b] below meth c H locs 85 5155 Z (F0 m 1385 ls [])) : W p l e room_1 s m #[Value.ref b] below meth c H locs 85 5155 Z (F0 m 1296 ls []) := by
  refine l_case (mc := mi_X3_read) (mm := mi_X4_read) (ra := [.int (xs (i + 1)), .int (xs (i + 2)), .int (xs (i + 3)), .int (xs (i + 4))]) (n := 4) (pcA := 1317) (pcB := 1341) (idx1 := 157) (idx2 := 160) (off := 41) hC hl hP hS nx (p_read inv (xs (i + 1)).toInt (xs (i + 2)).toInt (xs (i + 3)).toInt (xs (i + 4)).toInt (i32_rng _).1 (i32_rng _).2) ⟨_, _, rfl, ⟨_, rfl, rfl⟩, ⟨_, _, rfl, ⟨_, rfl, rfl⟩, ⟨_, _, rfl, ⟨_, rfl, rfl⟩, ⟨_, _, rfl, ⟨_, rfl, rfl⟩, rfl⟩⟩⟩⟩ rfl (by decide) (by decide) (by decide +kernel) (xck_in (p := (3, 217)) (by decide +kernel) rfl) (xck_in (p := (1, 1)) (by decide +kernel) rfl) (xck_in (p := (3, 216)) (by decide +kernel) rfl) (xck_in (p := (3, 218)) (by decide +kernel) rfl) (by decide) (by decide) (by decide +kernel) (xck_in (p := (5, 234)) (by decide +kernel) rfl) (xck_in (p := (1, 5)) (by decide +kernel) rfl) (xck_in (p := (5, 233)) (by decide +kernel) rfl) (xck_in (p := (5, 235)) (by decide +kernel) rfl) ⟨by decide +kernel, by decide +kernel, by decide +kernel, by decide +kernel, by decide +kernel⟩ (by decide) ?_ ?_
  · intro H locs st hS k
    refine l_arg hC hS hl 1 (by omega) (show dArg 1297 1 from ⟨by decide +kernel, by decide +kernel, by decide +kernel, by decide +kernel, by decide +kernel⟩) ?_
    refine l_arg hC hS hl 2 (by omega) (show dArg 1302 2 from ⟨by decide +kernel, by decide +kernel, by decide +kernel, by decide +kernel, by decide +kernel⟩) ?_
    refine l_arg hC hS hl 3 (by omega) (show dArg 1307 3 from ⟨by decide +kernel, by decide +kernel, by decide +kernel, by decide +kernel, by decide +kernel⟩) ?_
    refine l_arg hC hS hl 4 (by omega) (show dArg 1312 4 from ⟨by decide +kernel, by decide +kernel, by decide +kernel, by decide +kernel, by decide +kernel⟩) ?_
    exact k
  · intro H locs st hS k
    refine l_arg hC hS hl 1 (by omega) (show dArg 1321 1 from ⟨by decide +kernel, by decide +kernel, by decide +kernel, by decide +kernel, by decide +kernel⟩) ?_
    refine l_arg hC hS hl 2 (by omega) (show dArg 1326 2 from ⟨by decide +kernel, by decide +kernel, by decide +kernel, by decide +kernel, by decide +kernel⟩) ?_
    refine l_arg hC hS hl 3 (by omega) (show dArg 1331 3 from ⟨by decide +kernel, by decide +kernel, by decide +kernel, by decide +kernel, by decide +kernel⟩) ?_
    refine l_arg hC hS hl 4 (by omega) (show dArg 1336 4 from ⟨by decide +kernel, by decide +kernel, by decide +kernel, by decide +kernel, by decide +kernel⟩) ?_
    exact k
set_option maxRecDepth 100000 in
theorem la_35 (hC : lCtx p s m meth c b L xs D ρ cy aK aV) (hl : lv_has ls 4 (lV ρ b i)) (hi : i + 5 ≤ L) (inv : InvX (xabs RM RL) (xabs RM RL)) (hP : va_P D vwCl (xws ρ cy RM RL) H) (hS : va_S (lA s) s.heap H locs) (nx : ∀ (RM : Nat → Fin 5 → Nat → Int32) (RL : Nat → Fin 5 → Nat → Int64) (H : Heap) (locs : List Loc), InvX (xabs RM RL) (xabs RM RL) → va_P D vwCl (xws ρ cy RM RL) H → va_S (lA s) s.heap H locs → W p l e room_1 s m #[Value.ref b] below meth c H locs 85 5155 Z (F0 m 1385 ls [])) : W p l e room_1 s m #[Value.ref b] below meth c H locs 85 5155 Z (F0 m 1349 ls []) := by
  refine l_case (mc := mi_X3_torn) (mm := mi_X4_torn) (ra := []) (n := 0) (pcA := 1350) (pcB := 1354) (idx1 := 161) (idx2 := 164) (off := 28) hC hl hP hS nx (p_torn inv) rfl rfl (by decide) (by decide) (by decide +kernel) (xck_in (p := (3, 235)) (by decide +kernel) rfl) (xck_in (p := (1, 1)) (by decide +kernel) rfl) (xck_in (p := (3, 234)) (by decide +kernel) rfl) (xck_in (p := (3, 236)) (by decide +kernel) rfl) (by decide) (by decide) (by decide +kernel) (xck_in (p := (6, 0)) (by decide +kernel) rfl) (xck_in (p := (1, 5)) (by decide +kernel) rfl) (xck_in (p := (5, 239)) (by decide +kernel) rfl) (xck_in (p := (6, 1)) (by decide +kernel) rfl) ⟨by decide +kernel, by decide +kernel, by decide +kernel, by decide +kernel, by decide +kernel⟩ (by decide) ?_ ?_
  · intro H locs st hS k
    exact k
  · intro H locs st hS k
    exact k
set_option maxRecDepth 100000 in
theorem la_36 (hC : lCtx p s m meth c b L xs D ρ cy aK aV) (hl : lv_has ls 4 (lV ρ b i)) (hi : i + 5 ≤ L) (inv : InvX (xabs RM RL) (xabs RM RL)) (hP : va_P D vwCl (xws ρ cy RM RL) H) (hS : va_S (lA s) s.heap H locs) (nx : ∀ (RM : Nat → Fin 5 → Nat → Int32) (RL : Nat → Fin 5 → Nat → Int64) (H : Heap) (locs : List Loc), InvX (xabs RM RL) (xabs RM RL) → va_P D vwCl (xws ρ cy RM RL) H → va_S (lA s) s.heap H locs → W p l e room_1 s m #[Value.ref b] below meth c H locs 85 5155 Z (F0 m 1385 ls [])) : W p l e room_1 s m #[Value.ref b] below meth c H locs 85 5155 Z (F0 m 1362 ls []) := by
  refine l_case (mc := mi_X3_count) (mm := mi_X4_count) (ra := [.int (xs (i + 1))]) (n := 1) (pcA := 1368) (pcB := 1377) (idx1 := 165) (idx2 := 168) (off := 5) hC hl hP hS nx (p_count inv (xs (i + 1)).toInt) ⟨_, _, rfl, ⟨_, rfl, rfl⟩, rfl⟩ rfl (by decide) (by decide) (by decide +kernel) (xck_in (p := (3, 239)) (by decide +kernel) rfl) (xck_in (p := (1, 1)) (by decide +kernel) rfl) (xck_in (p := (3, 238)) (by decide +kernel) rfl) (xck_in (p := (4, 0)) (by decide +kernel) rfl) (by decide) (by decide) (by decide +kernel) (xck_in (p := (6, 4)) (by decide +kernel) rfl) (xck_in (p := (1, 5)) (by decide +kernel) rfl) (xck_in (p := (6, 3)) (by decide +kernel) rfl) (xck_in (p := (6, 5)) (by decide +kernel) rfl) ⟨by decide +kernel, by decide +kernel, by decide +kernel, by decide +kernel, by decide +kernel⟩ (by decide) ?_ ?_
  · intro H locs st hS k
    refine l_arg hC hS hl 1 (by omega) (show dArg 1363 1 from ⟨by decide +kernel, by decide +kernel, by decide +kernel, by decide +kernel, by decide +kernel⟩) ?_
    exact k
  · intro H locs st hS k
    refine l_arg hC hS hl 1 (by omega) (show dArg 1372 1 from ⟨by decide +kernel, by decide +kernel, by decide +kernel, by decide +kernel, by decide +kernel⟩) ?_
    exact k
end LB

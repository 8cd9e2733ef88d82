/-! ===== constructors: a ground, a tape, sheets ===== -/
def f16 : Nat → Int32 := upd (upd (upd (upd (fun _ => 0) 0 (-1)) 1 (-1)) 2 (-1)) 3 (-1)
def f33 : Nat → Int32 := upd (upd (upd (upd (fun _ => 0) 0 (-4)) 1 (-4)) 2 (-4)) 3 (-4)
def RM0 : Nat → Fin 5 → Nat → Int32 := fun t _ => match t with
  | 13 => fun k => match k with
    | 5 => 4
    | _ => 0
  | 16 => f16
  | 33 => f33
  | _ => fun _ => 0
def RL0 : Nat → Fin 5 → Nat → Int64 := fun _ _ _ => 0
def kW (ts : List Nat) (a : Nat → Nat) (cy : Nat → ClassId) : va_W := ts.map (fun t => (a t, xcell (fun t _ => a t) cy RM0 RL0 (t, (0 : Fin 5))))
def ms_g : XMI := (RX0, yX0_init, cX0_init, 1, none, 1, 12)
theorem mg_g : xgood ms_g := ⟨(xck_in (p := (1, 25)) (by decide +kernel) rfl), by decide, by decide⟩
def ms_t : XMI := (RX2, yX2_init, cX2_init, 1, none, 1, 12)
theorem mg_t : xgood ms_t := ⟨(xck_in (p := (1, 101)) (by decide +kernel) rfl), by decide, by decide⟩
def ms_s : XMI := (RX1, yX1_init, cX1_init, 2, none, 1, 12)
theorem mg_s : xgood ms_s := ⟨(xck_in (p := (1, 133)) (by decide +kernel) rfl), by decide, by decide⟩
def ms_a : XMI := (RX3, yX3_init, cX3_init, 1, none, 2, 33)
theorem mg_a : xgood ms_a := ⟨(xck_in (p := (1, 17)) (by decide +kernel) rfl), by decide, by decide⟩
def ms_m : XMI := (RX4, yX4_init, cX4_init, 2, none, 1, 21)
theorem mg_m : xgood ms_m := ⟨(xck_in (p := (4, 11)) (by decide +kernel) rfl), by decide, by decide⟩
def kf0 : List Value := [.int 0, .null, .null, .null, .null, .null, .int 0, .long 0, .int 0, .int 0, .null, .null, .null, .int 0, .null, .null, .null]
def kf1 : List Value := [.null, .null, .null]
def kf2 : List Value := [.null, .int 0, .int 0, .int 0, .int 0, .int 0, .int 0]
def kf3 : List Value := [.null, .null, .null, .null, .null, .int 0, .null, .null, .int 0, .int 0, .null, .null, .null]
def kf4 : List Value := [.null, .null, .null, .int 0, .null, .int 0, .int 0, .int 0, .null, .int 0, .null, .int 0, .int 0, .int 0, .int 0, .int 0, .int 0, .int 0, .null, .null, .long 0, .long 0, .long 0, .null, .null, .null, .null, .null, .int 0, .null]
set_option maxRecDepth 100000 in
theorem k_ground (l : Launch) (D : va_G) (cy : Nat → ClassId) (aK aV : Nat → Nat) (sz h : Nat) : KM l D cy aK aV sz ms_g 11 56 h [(h, .inr (0, kf0))] (fun w => ∃ a : Nat → Nat, a 1 = h ∧ w = kW [1, 2, 3, 4, 5, 6, 7, 8, 9, 10, 11, 12] a cy) := by
  refine KM.intro (by decide +kernel) rfl rfl (by decide) rfl ?_
  intro p e s m args below meth c A Z ls hC hX hl hP hD
  have hS : va_S A s.heap s.heap [] := va_S.rf
  have H0 : s.heap = s.heap := rfl
  have hP : va_P D vwCl ((h, .inr (0, [.int 0, .null, .null, .null, .null, .null, .int 0, .long 0, .int 0, .int 0, .null, .null, .null, .int 0, .null, .null, .null])) :: []) s.heap := hP
  have hD : va_D A ((h, .inr (0, [.int 0, .null, .null, .null, .null, .null, .int 0, .long 0, .int 0, .int 0, .null, .null, .null, .int 0, .null, .null, .null])) :: []) := hD
  refine lv_aload_n hC.1 hC.2.1 (show decode cX0_init 0 = .ok (.aload_n 0, 1) by decide +kernel) rfl (lv_at hl 0 rfl) ?_
  refine k_obj0 hC (xck_in (p := (1, 26)) (by decide +kernel) rfl) hl (Nat.le_of_ble_eq_true rfl) (Nat.le_of_ble_eq_true rfl) (show decode cX0_init 1 = .ok (.invokespecial 3, 3) by decide +kernel) ?_
  refine lv_aload_n hC.1 hC.2.1 (show decode cX0_init 4 = .ok (.aload_n 0, 1) by decide +kernel) rfl (lv_at hl 0 rfl) ?_
  refine lv_iconst hC.1 hC.2.1 (show decode cX0_init 5 = .ok (.iconst 0, 1) by decide +kernel) (v := 0) (by decide) ?_
  refine k_put (v := .int 0) hC hP hD hS (by decide) 0 (by decide) rfl (xck_in (p := (1, 27)) (by decide +kernel) rfl) rfl rfl (Nat.le_of_ble_eq_true rfl) (show decode cX0_init 6 = .ok (.putfield 9, 3) by decide +kernel) (fun H locs hP hD hS => ?_)
  have hP : va_P D vwCl ((h, .inr (0, [.int 0, .null, .null, .null, .null, .null, .int 0, .long 0, .int 0, .int 0, .null, .null, .null, .int 0, .null, .null, .null])) :: []) H := hP
  have hD : va_D A ((h, .inr (0, [.int 0, .null, .null, .null, .null, .null, .int 0, .long 0, .int 0, .int 0, .null, .null, .null, .int 0, .null, .null, .null])) :: []) := hD
  refine lv_aload_n hC.1 hC.2.1 (show decode cX0_init 9 = .ok (.aload_n 0, 1) by decide +kernel) rfl (lv_at hl 0 rfl) ?_
  refine lv_iconst hC.1 hC.2.1 (show decode cX0_init 10 = .ok (.iconst 4, 1) by decide +kernel) (v := 4) (by decide) ?_
  refine k_arr (ty := .int) (j := 0) (N := 4) (a0 := (4, .inl (fun _ => 0))) hC hP hD hS rfl rfl (fun _ _ => rfl) (xck_in (p := (1, 96)) (by decide +kernel) rfl) (fun _ => rfl) (by decide) (by decide) (by decide) (Nat.le_of_ble_eq_true rfl) (Nat.le_of_ble_eq_true rfl) (by decide) 1 (by decide) rfl (xck_in (p := (1, 30)) (by decide +kernel) rfl) (fun _ => rfl) (fun _ => rfl) (Nat.le_of_ble_eq_true rfl) (show decode cX0_init 11 = .ok (.newarray .int, 2) by decide +kernel) (show decode cX0_init 13 = .ok (.putfield 15, 3) by decide +kernel) (fun q0 H locs hP hD hS => ?_)
  have hP : va_P D vwCl ((h, .inr (0, [.int 0, .ref q0, .null, .null, .null, .null, .int 0, .long 0, .int 0, .int 0, .null, .null, .null, .int 0, .null, .null, .null])) :: [(q0, .inl (cy 0, 4, .inl (fun _ => 0)))]) H := hP
  have hD : va_D A ((h, .inr (0, [.int 0, .ref q0, .null, .null, .null, .null, .int 0, .long 0, .int 0, .int 0, .null, .null, .null, .int 0, .null, .null, .null])) :: [(q0, .inl (cy 0, 4, .inl (fun _ => 0)))]) := hD
  refine lv_aload_n hC.1 hC.2.1 (show decode cX0_init 16 = .ok (.aload_n 0, 1) by decide +kernel) rfl (lv_at hl 0 rfl) ?_
  refine lv_iconst hC.1 hC.2.1 (show decode cX0_init 17 = .ok (.iconst 4, 1) by decide +kernel) (v := 4) (by decide) ?_
  refine k_arr (ty := .int) (j := 0) (N := 4) (a0 := (4, .inl (fun _ => 0))) hC hP hD hS rfl rfl (fun _ _ => rfl) (xck_in (p := (1, 96)) (by decide +kernel) rfl) (fun _ => rfl) (by decide) (by decide) (by decide) (Nat.le_of_ble_eq_true rfl) (Nat.le_of_ble_eq_true rfl) (by decide) 2 (by decide) rfl (xck_in (p := (1, 32)) (by decide +kernel) rfl) (fun _ => rfl) (fun _ => rfl) (Nat.le_of_ble_eq_true rfl) (show decode cX0_init 18 = .ok (.newarray .int, 2) by decide +kernel) (show decode cX0_init 20 = .ok (.putfield 19, 3) by decide +kernel) (fun q1 H locs hP hD hS => ?_)
  have hP : va_P D vwCl ((h, .inr (0, [.int 0, .ref q0, .ref q1, .null, .null, .null, .int 0, .long 0, .int 0, .int 0, .null, .null, .null, .int 0, .null, .null, .null])) :: [(q0, .inl (cy 0, 4, .inl (fun _ => 0))), (q1, .inl (cy 0, 4, .inl (fun _ => 0)))]) H := hP
  have hD : va_D A ((h, .inr (0, [.int 0, .ref q0, .ref q1, .null, .null, .null, .int 0, .long 0, .int 0, .int 0, .null, .null, .null, .int 0, .null, .null, .null])) :: [(q0, .inl (cy 0, 4, .inl (fun _ => 0))), (q1, .inl (cy 0, 4, .inl (fun _ => 0)))]) := hD
  refine lv_aload_n hC.1 hC.2.1 (show decode cX0_init 23 = .ok (.aload_n 0, 1) by decide +kernel) rfl (lv_at hl 0 rfl) ?_
  refine lv_iconst hC.1 hC.2.1 (show decode cX0_init 24 = .ok (.iconst 4, 1) by decide +kernel) (v := 4) (by decide) ?_
  refine k_arr (ty := .int) (j := 0) (N := 4) (a0 := (4, .inl (fun _ => 0))) hC hP hD hS rfl rfl (fun _ _ => rfl) (xck_in (p := (1, 96)) (by decide +kernel) rfl) (fun _ => rfl) (by decide) (by decide) (by decide) (Nat.le_of_ble_eq_true rfl) (Nat.le_of_ble_eq_true rfl) (by decide) 3 (by decide) rfl (xck_in (p := (1, 34)) (by decide +kernel) rfl) (fun _ => rfl) (fun _ => rfl) (Nat.le_of_ble_eq_true rfl) (show decode cX0_init 25 = .ok (.newarray .int, 2) by decide +kernel) (show decode cX0_init 27 = .ok (.putfield 22, 3) by decide +kernel) (fun q2 H locs hP hD hS => ?_)
  have hP : va_P D vwCl ((h, .inr (0, [.int 0, .ref q0, .ref q1, .ref q2, .null, .null, .int 0, .long 0, .int 0, .int 0, .null, .null, .null, .int 0, .null, .null, .null])) :: [(q0, .inl (cy 0, 4, .inl (fun _ => 0))), (q1, .inl (cy 0, 4, .inl (fun _ => 0))), (q2, .inl (cy 0, 4, .inl (fun _ => 0)))]) H := hP
  have hD : va_D A ((h, .inr (0, [.int 0, .ref q0, .ref q1, .ref q2, .null, .null, .int 0, .long 0, .int 0, .int 0, .null, .null, .null, .int 0, .null, .null, .null])) :: [(q0, .inl (cy 0, 4, .inl (fun _ => 0))), (q1, .inl (cy 0, 4, .inl (fun _ => 0))), (q2, .inl (cy 0, 4, .inl (fun _ => 0)))]) := hD
  refine lv_aload_n hC.1 hC.2.1 (show decode cX0_init 30 = .ok (.aload_n 0, 1) by decide +kernel) rfl (lv_at hl 0 rfl) ?_
  refine lv_iconst hC.1 hC.2.1 (show decode cX0_init 31 = .ok (.iconst 4, 1) by decide +kernel) (v := 4) (by decide) ?_
  refine k_arr (ty := .int) (j := 0) (N := 4) (a0 := (4, .inl (fun _ => 0))) hC hP hD hS rfl rfl (fun _ _ => rfl) (xck_in (p := (1, 96)) (by decide +kernel) rfl) (fun _ => rfl) (by decide) (by decide) (by decide) (Nat.le_of_ble_eq_true rfl) (Nat.le_of_ble_eq_true rfl) (by decide) 4 (by decide) rfl (xck_in (p := (1, 36)) (by decide +kernel) rfl) (fun _ => rfl) (fun _ => rfl) (Nat.le_of_ble_eq_true rfl) (show decode cX0_init 32 = .ok (.newarray .int, 2) by decide +kernel) (show decode cX0_init 34 = .ok (.putfield 25, 3) by decide +kernel) (fun q3 H locs hP hD hS => ?_)
  have hP : va_P D vwCl ((h, .inr (0, [.int 0, .ref q0, .ref q1, .ref q2, .ref q3, .null, .int 0, .long 0, .int 0, .int 0, .null, .null, .null, .int 0, .null, .null, .null])) :: [(q0, .inl (cy 0, 4, .inl (fun _ => 0))), (q1, .inl (cy 0, 4, .inl (fun _ => 0))), (q2, .inl (cy 0, 4, .inl (fun _ => 0))), (q3, .inl (cy 0, 4, .inl (fun _ => 0)))]) H := hP
  have hD : va_D A ((h, .inr (0, [.int 0, .ref q0, .ref q1, .ref q2, .ref q3, .null, .int 0, .long 0, .int 0, .int 0, .null, .null, .null, .int 0, .null, .null, .null])) :: [(q0, .inl (cy 0, 4, .inl (fun _ => 0))), (q1, .inl (cy 0, 4, .inl (fun _ => 0))), (q2, .inl (cy 0, 4, .inl (fun _ => 0))), (q3, .inl (cy 0, 4, .inl (fun _ => 0)))]) := hD
  refine lv_aload_n hC.1 hC.2.1 (show decode cX0_init 37 = .ok (.aload_n 0, 1) by decide +kernel) rfl (lv_at hl 0 rfl) ?_
  refine lv_iconst hC.1 hC.2.1 (show decode cX0_init 38 = .ok (.iconst 4, 1) by decide +kernel) (v := 4) (by decide) ?_
  refine k_arr (ty := .int) (j := 0) (N := 4) (a0 := (4, .inl (fun _ => 0))) hC hP hD hS rfl rfl (fun _ _ => rfl) (xck_in (p := (1, 96)) (by decide +kernel) rfl) (fun _ => rfl) (by decide) (by decide) (by decide) (Nat.le_of_ble_eq_true rfl) (Nat.le_of_ble_eq_true rfl) (by decide) 5 (by decide) rfl (xck_in (p := (1, 38)) (by decide +kernel) rfl) (fun _ => rfl) (fun _ => rfl) (Nat.le_of_ble_eq_true rfl) (show decode cX0_init 39 = .ok (.newarray .int, 2) by decide +kernel) (show decode cX0_init 41 = .ok (.putfield 28, 3) by decide +kernel) (fun q4 H locs hP hD hS => ?_)
  have hP : va_P D vwCl ((h, .inr (0, [.int 0, .ref q0, .ref q1, .ref q2, .ref q3, .ref q4, .int 0, .long 0, .int 0, .int 0, .null, .null, .null, .int 0, .null, .null, .null])) :: [(q0, .inl (cy 0, 4, .inl (fun _ => 0))), (q1, .inl (cy 0, 4, .inl (fun _ => 0))), (q2, .inl (cy 0, 4, .inl (fun _ => 0))), (q3, .inl (cy 0, 4, .inl (fun _ => 0))), (q4, .inl (cy 0, 4, .inl (fun _ => 0)))]) H := hP
  have hD : va_D A ((h, .inr (0, [.int 0, .ref q0, .ref q1, .ref q2, .ref q3, .ref q4, .int 0, .long 0, .int 0, .int 0, .null, .null, .null, .int 0, .null, .null, .null])) :: [(q0, .inl (cy 0, 4, .inl (fun _ => 0))), (q1, .inl (cy 0, 4, .inl (fun _ => 0))), (q2, .inl (cy 0, 4, .inl (fun _ => 0))), (q3, .inl (cy 0, 4, .inl (fun _ => 0))), (q4, .inl (cy 0, 4, .inl (fun _ => 0)))]) := hD
  refine lv_aload_n hC.1 hC.2.1 (show decode cX0_init 44 = .ok (.aload_n 0, 1) by decide +kernel) rfl (lv_at hl 0 rfl) ?_
  refine lv_iconst hC.1 hC.2.1 (show decode cX0_init 45 = .ok (.iconst 0, 1) by decide +kernel) (v := 0) (by decide) ?_
  refine k_put (v := .int 0) hC hP hD hS (by decide) 6 (by decide) rfl (xck_in (p := (1, 40)) (by decide +kernel) rfl) rfl rfl (Nat.le_of_ble_eq_true rfl) (show decode cX0_init 46 = .ok (.putfield 31, 3) by decide +kernel) (fun H locs hP hD hS => ?_)
  have hP : va_P D vwCl ((h, .inr (0, [.int 0, .ref q0, .ref q1, .ref q2, .ref q3, .ref q4, .int 0, .long 0, .int 0, .int 0, .null, .null, .null, .int 0, .null, .null, .null])) :: [(q0, .inl (cy 0, 4, .inl (fun _ => 0))), (q1, .inl (cy 0, 4, .inl (fun _ => 0))), (q2, .inl (cy 0, 4, .inl (fun _ => 0))), (q3, .inl (cy 0, 4, .inl (fun _ => 0))), (q4, .inl (cy 0, 4, .inl (fun _ => 0)))]) H := hP
  have hD : va_D A ((h, .inr (0, [.int 0, .ref q0, .ref q1, .ref q2, .ref q3, .ref q4, .int 0, .long 0, .int 0, .int 0, .null, .null, .null, .int 0, .null, .null, .null])) :: [(q0, .inl (cy 0, 4, .inl (fun _ => 0))), (q1, .inl (cy 0, 4, .inl (fun _ => 0))), (q2, .inl (cy 0, 4, .inl (fun _ => 0))), (q3, .inl (cy 0, 4, .inl (fun _ => 0))), (q4, .inl (cy 0, 4, .inl (fun _ => 0)))]) := hD
  refine lv_aload_n hC.1 hC.2.1 (show decode cX0_init 49 = .ok (.aload_n 0, 1) by decide +kernel) rfl (lv_at hl 0 rfl) ?_
  refine lv_lconst hC.1 hC.2.1 (show decode cX0_init 50 = .ok (.lconst 0, 1) by decide +kernel) (v := 0) (by decide) ?_
  refine k_put (v := .long 0) hC hP hD hS (by decide) 7 (by decide) rfl (xck_in (p := (1, 42)) (by decide +kernel) rfl) rfl rfl (Nat.le_of_ble_eq_true rfl) (show decode cX0_init 51 = .ok (.putfield 34, 3) by decide +kernel) (fun H locs hP hD hS => ?_)
  have hP : va_P D vwCl ((h, .inr (0, [.int 0, .ref q0, .ref q1, .ref q2, .ref q3, .ref q4, .int 0, .long 0, .int 0, .int 0, .null, .null, .null, .int 0, .null, .null, .null])) :: [(q0, .inl (cy 0, 4, .inl (fun _ => 0))), (q1, .inl (cy 0, 4, .inl (fun _ => 0))), (q2, .inl (cy 0, 4, .inl (fun _ => 0))), (q3, .inl (cy 0, 4, .inl (fun _ => 0))), (q4, .inl (cy 0, 4, .inl (fun _ => 0)))]) H := hP
  have hD : va_D A ((h, .inr (0, [.int 0, .ref q0, .ref q1, .ref q2, .ref q3, .ref q4, .int 0, .long 0, .int 0, .int 0, .null, .null, .null, .int 0, .null, .null, .null])) :: [(q0, .inl (cy 0, 4, .inl (fun _ => 0))), (q1, .inl (cy 0, 4, .inl (fun _ => 0))), (q2, .inl (cy 0, 4, .inl (fun _ => 0))), (q3, .inl (cy 0, 4, .inl (fun _ => 0))), (q4, .inl (cy 0, 4, .inl (fun _ => 0)))]) := hD
  refine lv_aload_n hC.1 hC.2.1 (show decode cX0_init 54 = .ok (.aload_n 0, 1) by decide +kernel) rfl (lv_at hl 0 rfl) ?_
  refine lv_iconst hC.1 hC.2.1 (show decode cX0_init 55 = .ok (.iconst 0, 1) by decide +kernel) (v := 0) (by decide) ?_
  refine k_put (v := .int 0) hC hP hD hS (by decide) 8 (by decide) rfl (xck_in (p := (1, 45)) (by decide +kernel) rfl) rfl rfl (Nat.le_of_ble_eq_true rfl) (show decode cX0_init 56 = .ok (.putfield 38, 3) by decide +kernel) (fun H locs hP hD hS => ?_)
  have hP : va_P D vwCl ((h, .inr (0, [.int 0, .ref q0, .ref q1, .ref q2, .ref q3, .ref q4, .int 0, .long 0, .int 0, .int 0, .null, .null, .null, .int 0, .null, .null, .null])) :: [(q0, .inl (cy 0, 4, .inl (fun _ => 0))), (q1, .inl (cy 0, 4, .inl (fun _ => 0))), (q2, .inl (cy 0, 4, .inl (fun _ => 0))), (q3, .inl (cy 0, 4, .inl (fun _ => 0))), (q4, .inl (cy 0, 4, .inl (fun _ => 0)))]) H := hP
  have hD : va_D A ((h, .inr (0, [.int 0, .ref q0, .ref q1, .ref q2, .ref q3, .ref q4, .int 0, .long 0, .int 0, .int 0, .null, .null, .null, .int 0, .null, .null, .null])) :: [(q0, .inl (cy 0, 4, .inl (fun _ => 0))), (q1, .inl (cy 0, 4, .inl (fun _ => 0))), (q2, .inl (cy 0, 4, .inl (fun _ => 0))), (q3, .inl (cy 0, 4, .inl (fun _ => 0))), (q4, .inl (cy 0, 4, .inl (fun _ => 0)))]) := hD
  refine lv_aload_n hC.1 hC.2.1 (show decode cX0_init 59 = .ok (.aload_n 0, 1) by decide +kernel) rfl (lv_at hl 0 rfl) ?_
  refine lv_iconst hC.1 hC.2.1 (show decode cX0_init 60 = .ok (.iconst 0, 1) by decide +kernel) (v := 0) (by decide) ?_
  refine k_put (v := .int 0) hC hP hD hS (by decide) 9 (by decide) rfl (xck_in (p := (1, 47)) (by decide +kernel) rfl) rfl rfl (Nat.le_of_ble_eq_true rfl) (show decode cX0_init 61 = .ok (.putfield 41, 3) by decide +kernel) (fun H locs hP hD hS => ?_)
  have hP : va_P D vwCl ((h, .inr (0, [.int 0, .ref q0, .ref q1, .ref q2, .ref q3, .ref q4, .int 0, .long 0, .int 0, .int 0, .null, .null, .null, .int 0, .null, .null, .null])) :: [(q0, .inl (cy 0, 4, .inl (fun _ => 0))), (q1, .inl (cy 0, 4, .inl (fun _ => 0))), (q2, .inl (cy 0, 4, .inl (fun _ => 0))), (q3, .inl (cy 0, 4, .inl (fun _ => 0))), (q4, .inl (cy 0, 4, .inl (fun _ => 0)))]) H := hP
  have hD : va_D A ((h, .inr (0, [.int 0, .ref q0, .ref q1, .ref q2, .ref q3, .ref q4, .int 0, .long 0, .int 0, .int 0, .null, .null, .null, .int 0, .null, .null, .null])) :: [(q0, .inl (cy 0, 4, .inl (fun _ => 0))), (q1, .inl (cy 0, 4, .inl (fun _ => 0))), (q2, .inl (cy 0, 4, .inl (fun _ => 0))), (q3, .inl (cy 0, 4, .inl (fun _ => 0))), (q4, .inl (cy 0, 4, .inl (fun _ => 0)))]) := hD
  refine lv_aload_n hC.1 hC.2.1 (show decode cX0_init 64 = .ok (.aload_n 0, 1) by decide +kernel) rfl (lv_at hl 0 rfl) ?_
  refine lv_bipush hC.1 hC.2.1 (show decode cX0_init 65 = .ok (.bipush 6, 2) by decide +kernel) (v := 6) (by decide) ?_
  refine k_arr (ty := .int) (j := 0) (N := 6) (a0 := (6, .inl (fun _ => 0))) hC hP hD hS rfl rfl (fun _ _ => rfl) (xck_in (p := (1, 96)) (by decide +kernel) rfl) (fun _ => rfl) (by decide) (by decide) (by decide) (Nat.le_of_ble_eq_true rfl) (Nat.le_of_ble_eq_true rfl) (by decide) 10 (by decide) rfl (xck_in (p := (1, 50)) (by decide +kernel) rfl) (fun _ => rfl) (fun _ => rfl) (Nat.le_of_ble_eq_true rfl) (show decode cX0_init 67 = .ok (.newarray .int, 2) by decide +kernel) (show decode cX0_init 69 = .ok (.putfield 44, 3) by decide +kernel) (fun q5 H locs hP hD hS => ?_)
  have hP : va_P D vwCl ((h, .inr (0, [.int 0, .ref q0, .ref q1, .ref q2, .ref q3, .ref q4, .int 0, .long 0, .int 0, .int 0, .ref q5, .null, .null, .int 0, .null, .null, .null])) :: [(q0, .inl (cy 0, 4, .inl (fun _ => 0))), (q1, .inl (cy 0, 4, .inl (fun _ => 0))), (q2, .inl (cy 0, 4, .inl (fun _ => 0))), (q3, .inl (cy 0, 4, .inl (fun _ => 0))), (q4, .inl (cy 0, 4, .inl (fun _ => 0))), (q5, .inl (cy 0, 6, .inl (fun _ => 0)))]) H := hP
  have hD : va_D A ((h, .inr (0, [.int 0, .ref q0, .ref q1, .ref q2, .ref q3, .ref q4, .int 0, .long 0, .int 0, .int 0, .ref q5, .null, .null, .int 0, .null, .null, .null])) :: [(q0, .inl (cy 0, 4, .inl (fun _ => 0))), (q1, .inl (cy 0, 4, .inl (fun _ => 0))), (q2, .inl (cy 0, 4, .inl (fun _ => 0))), (q3, .inl (cy 0, 4, .inl (fun _ => 0))), (q4, .inl (cy 0, 4, .inl (fun _ => 0))), (q5, .inl (cy 0, 6, .inl (fun _ => 0)))]) := hD
  refine lv_aload_n hC.1 hC.2.1 (show decode cX0_init 72 = .ok (.aload_n 0, 1) by decide +kernel) rfl (lv_at hl 0 rfl) ?_
  refine lv_bipush hC.1 hC.2.1 (show decode cX0_init 73 = .ok (.bipush 6, 2) by decide +kernel) (v := 6) (by decide) ?_
  refine k_arr (ty := .int) (j := 0) (N := 6) (a0 := (6, .inl (fun _ => 0))) hC hP hD hS rfl rfl (fun _ _ => rfl) (xck_in (p := (1, 96)) (by decide +kernel) rfl) (fun _ => rfl) (by decide) (by decide) (by decide) (Nat.le_of_ble_eq_true rfl) (Nat.le_of_ble_eq_true rfl) (by decide) 11 (by decide) rfl (xck_in (p := (1, 52)) (by decide +kernel) rfl) (fun _ => rfl) (fun _ => rfl) (Nat.le_of_ble_eq_true rfl) (show decode cX0_init 75 = .ok (.newarray .int, 2) by decide +kernel) (show decode cX0_init 77 = .ok (.putfield 47, 3) by decide +kernel) (fun q6 H locs hP hD hS => ?_)
  have hP : va_P D vwCl ((h, .inr (0, [.int 0, .ref q0, .ref q1, .ref q2, .ref q3, .ref q4, .int 0, .long 0, .int 0, .int 0, .ref q5, .ref q6, .null, .int 0, .null, .null, .null])) :: [(q0, .inl (cy 0, 4, .inl (fun _ => 0))), (q1, .inl (cy 0, 4, .inl (fun _ => 0))), (q2, .inl (cy 0, 4, .inl (fun _ => 0))), (q3, .inl (cy 0, 4, .inl (fun _ => 0))), (q4, .inl (cy 0, 4, .inl (fun _ => 0))), (q5, .inl (cy 0, 6, .inl (fun _ => 0))), (q6, .inl (cy 0, 6, .inl (fun _ => 0)))]) H := hP
  have hD : va_D A ((h, .inr (0, [.int 0, .ref q0, .ref q1, .ref q2, .ref q3, .ref q4, .int 0, .long 0, .int 0, .int 0, .ref q5, .ref q6, .null, .int 0, .null, .null, .null])) :: [(q0, .inl (cy 0, 4, .inl (fun _ => 0))), (q1, .inl (cy 0, 4, .inl (fun _ => 0))), (q2, .inl (cy 0, 4, .inl (fun _ => 0))), (q3, .inl (cy 0, 4, .inl (fun _ => 0))), (q4, .inl (cy 0, 4, .inl (fun _ => 0))), (q5, .inl (cy 0, 6, .inl (fun _ => 0))), (q6, .inl (cy 0, 6, .inl (fun _ => 0)))]) := hD
  refine lv_aload_n hC.1 hC.2.1 (show decode cX0_init 80 = .ok (.aload_n 0, 1) by decide +kernel) rfl (lv_at hl 0 rfl) ?_
  refine lv_bipush hC.1 hC.2.1 (show decode cX0_init 81 = .ok (.bipush 6, 2) by decide +kernel) (v := 6) (by decide) ?_
  refine k_arr (ty := .int) (j := 0) (N := 6) (a0 := (6, .inl (fun _ => 0))) hC hP hD hS rfl rfl (fun _ _ => rfl) (xck_in (p := (1, 96)) (by decide +kernel) rfl) (fun _ => rfl) (by decide) (by decide) (by decide) (Nat.le_of_ble_eq_true rfl) (Nat.le_of_ble_eq_true rfl) (by decide) 12 (by decide) rfl (xck_in (p := (1, 54)) (by decide +kernel) rfl) (fun _ => rfl) (fun _ => rfl) (Nat.le_of_ble_eq_true rfl) (show decode cX0_init 83 = .ok (.newarray .int, 2) by decide +kernel) (show decode cX0_init 85 = .ok (.putfield 50, 3) by decide +kernel) (fun q7 H locs hP hD hS => ?_)
  have hP : va_P D vwCl ((h, .inr (0, [.int 0, .ref q0, .ref q1, .ref q2, .ref q3, .ref q4, .int 0, .long 0, .int 0, .int 0, .ref q5, .ref q6, .ref q7, .int 0, .null, .null, .null])) :: [(q0, .inl (cy 0, 4, .inl (fun _ => 0))), (q1, .inl (cy 0, 4, .inl (fun _ => 0))), (q2, .inl (cy 0, 4, .inl (fun _ => 0))), (q3, .inl (cy 0, 4, .inl (fun _ => 0))), (q4, .inl (cy 0, 4, .inl (fun _ => 0))), (q5, .inl (cy 0, 6, .inl (fun _ => 0))), (q6, .inl (cy 0, 6, .inl (fun _ => 0))), (q7, .inl (cy 0, 6, .inl (fun _ => 0)))]) H := hP
  have hD : va_D A ((h, .inr (0, [.int 0, .ref q0, .ref q1, .ref q2, .ref q3, .ref q4, .int 0, .long 0, .int 0, .int 0, .ref q5, .ref q6, .ref q7, .int 0, .null, .null, .null])) :: [(q0, .inl (cy 0, 4, .inl (fun _ => 0))), (q1, .inl (cy 0, 4, .inl (fun _ => 0))), (q2, .inl (cy 0, 4, .inl (fun _ => 0))), (q3, .inl (cy 0, 4, .inl (fun _ => 0))), (q4, .inl (cy 0, 4, .inl (fun _ => 0))), (q5, .inl (cy 0, 6, .inl (fun _ => 0))), (q6, .inl (cy 0, 6, .inl (fun _ => 0))), (q7, .inl (cy 0, 6, .inl (fun _ => 0)))]) := hD
  refine lv_aload_n hC.1 hC.2.1 (show decode cX0_init 88 = .ok (.aload_n 0, 1) by decide +kernel) rfl (lv_at hl 0 rfl) ?_
  refine lv_iconst hC.1 hC.2.1 (show decode cX0_init 89 = .ok (.iconst 0, 1) by decide +kernel) (v := 0) (by decide) ?_
  refine k_put (v := .int 0) hC hP hD hS (by decide) 13 (by decide) rfl (xck_in (p := (1, 56)) (by decide +kernel) rfl) rfl rfl (Nat.le_of_ble_eq_true rfl) (show decode cX0_init 90 = .ok (.putfield 53, 3) by decide +kernel) (fun H locs hP hD hS => ?_)
  have hP : va_P D vwCl ((h, .inr (0, [.int 0, .ref q0, .ref q1, .ref q2, .ref q3, .ref q4, .int 0, .long 0, .int 0, .int 0, .ref q5, .ref q6, .ref q7, .int 0, .null, .null, .null])) :: [(q0, .inl (cy 0, 4, .inl (fun _ => 0))), (q1, .inl (cy 0, 4, .inl (fun _ => 0))), (q2, .inl (cy 0, 4, .inl (fun _ => 0))), (q3, .inl (cy 0, 4, .inl (fun _ => 0))), (q4, .inl (cy 0, 4, .inl (fun _ => 0))), (q5, .inl (cy 0, 6, .inl (fun _ => 0))), (q6, .inl (cy 0, 6, .inl (fun _ => 0))), (q7, .inl (cy 0, 6, .inl (fun _ => 0)))]) H := hP
  have hD : va_D A ((h, .inr (0, [.int 0, .ref q0, .ref q1, .ref q2, .ref q3, .ref q4, .int 0, .long 0, .int 0, .int 0, .ref q5, .ref q6, .ref q7, .int 0, .null, .null, .null])) :: [(q0, .inl (cy 0, 4, .inl (fun _ => 0))), (q1, .inl (cy 0, 4, .inl (fun _ => 0))), (q2, .inl (cy 0, 4, .inl (fun _ => 0))), (q3, .inl (cy 0, 4, .inl (fun _ => 0))), (q4, .inl (cy 0, 4, .inl (fun _ => 0))), (q5, .inl (cy 0, 6, .inl (fun _ => 0))), (q6, .inl (cy 0, 6, .inl (fun _ => 0))), (q7, .inl (cy 0, 6, .inl (fun _ => 0)))]) := hD
  refine lv_aload_n hC.1 hC.2.1 (show decode cX0_init 93 = .ok (.aload_n 0, 1) by decide +kernel) rfl (lv_at hl 0 rfl) ?_
  refine lv_bipush hC.1 hC.2.1 (show decode cX0_init 94 = .ok (.bipush 6, 2) by decide +kernel) (v := 6) (by decide) ?_
  refine k_arr (ty := .int) (j := 0) (N := 6) (a0 := (6, .inl (fun _ => 0))) hC hP hD hS rfl rfl (fun _ _ => rfl) (xck_in (p := (1, 96)) (by decide +kernel) rfl) (fun _ => rfl) (by decide) (by decide) (by decide) (Nat.le_of_ble_eq_true rfl) (Nat.le_of_ble_eq_true rfl) (by decide) 14 (by decide) rfl (xck_in (p := (1, 58)) (by decide +kernel) rfl) (fun _ => rfl) (fun _ => rfl) (Nat.le_of_ble_eq_true rfl) (show decode cX0_init 96 = .ok (.newarray .int, 2) by decide +kernel) (show decode cX0_init 98 = .ok (.putfield 56, 3) by decide +kernel) (fun q8 H locs hP hD hS => ?_)
  have hP : va_P D vwCl ((h, .inr (0, [.int 0, .ref q0, .ref q1, .ref q2, .ref q3, .ref q4, .int 0, .long 0, .int 0, .int 0, .ref q5, .ref q6, .ref q7, .int 0, .ref q8, .null, .null])) :: [(q0, .inl (cy 0, 4, .inl (fun _ => 0))), (q1, .inl (cy 0, 4, .inl (fun _ => 0))), (q2, .inl (cy 0, 4, .inl (fun _ => 0))), (q3, .inl (cy 0, 4, .inl (fun _ => 0))), (q4, .inl (cy 0, 4, .inl (fun _ => 0))), (q5, .inl (cy 0, 6, .inl (fun _ => 0))), (q6, .inl (cy 0, 6, .inl (fun _ => 0))), (q7, .inl (cy 0, 6, .inl (fun _ => 0))), (q8, .inl (cy 0, 6, .inl (fun _ => 0)))]) H := hP
  have hD : va_D A ((h, .inr (0, [.int 0, .ref q0, .ref q1, .ref q2, .ref q3, .ref q4, .int 0, .long 0, .int 0, .int 0, .ref q5, .ref q6, .ref q7, .int 0, .ref q8, .null, .null])) :: [(q0, .inl (cy 0, 4, .inl (fun _ => 0))), (q1, .inl (cy 0, 4, .inl (fun _ => 0))), (q2, .inl (cy 0, 4, .inl (fun _ => 0))), (q3, .inl (cy 0, 4, .inl (fun _ => 0))), (q4, .inl (cy 0, 4, .inl (fun _ => 0))), (q5, .inl (cy 0, 6, .inl (fun _ => 0))), (q6, .inl (cy 0, 6, .inl (fun _ => 0))), (q7, .inl (cy 0, 6, .inl (fun _ => 0))), (q8, .inl (cy 0, 6, .inl (fun _ => 0)))]) := hD
  refine lv_aload_n hC.1 hC.2.1 (show decode cX0_init 101 = .ok (.aload_n 0, 1) by decide +kernel) rfl (lv_at hl 0 rfl) ?_
  refine lv_bipush hC.1 hC.2.1 (show decode cX0_init 102 = .ok (.bipush 6, 2) by decide +kernel) (v := 6) (by decide) ?_
  refine k_arr (ty := .int) (j := 0) (N := 6) (a0 := (6, .inl (fun _ => 0))) hC hP hD hS rfl rfl (fun _ _ => rfl) (xck_in (p := (1, 96)) (by decide +kernel) rfl) (fun _ => rfl) (by decide) (by decide) (by decide) (Nat.le_of_ble_eq_true rfl) (Nat.le_of_ble_eq_true rfl) (by decide) 15 (by decide) rfl (xck_in (p := (1, 59)) (by decide +kernel) rfl) (fun _ => rfl) (fun _ => rfl) (Nat.le_of_ble_eq_true rfl) (show decode cX0_init 104 = .ok (.newarray .int, 2) by decide +kernel) (show decode cX0_init 106 = .ok (.putfield 59, 3) by decide +kernel) (fun q9 H locs hP hD hS => ?_)
  have hP : va_P D vwCl ((h, .inr (0, [.int 0, .ref q0, .ref q1, .ref q2, .ref q3, .ref q4, .int 0, .long 0, .int 0, .int 0, .ref q5, .ref q6, .ref q7, .int 0, .ref q8, .ref q9, .null])) :: [(q0, .inl (cy 0, 4, .inl (fun _ => 0))), (q1, .inl (cy 0, 4, .inl (fun _ => 0))), (q2, .inl (cy 0, 4, .inl (fun _ => 0))), (q3, .inl (cy 0, 4, .inl (fun _ => 0))), (q4, .inl (cy 0, 4, .inl (fun _ => 0))), (q5, .inl (cy 0, 6, .inl (fun _ => 0))), (q6, .inl (cy 0, 6, .inl (fun _ => 0))), (q7, .inl (cy 0, 6, .inl (fun _ => 0))), (q8, .inl (cy 0, 6, .inl (fun _ => 0))), (q9, .inl (cy 0, 6, .inl (fun _ => 0)))]) H := hP
  have hD : va_D A ((h, .inr (0, [.int 0, .ref q0, .ref q1, .ref q2, .ref q3, .ref q4, .int 0, .long 0, .int 0, .int 0, .ref q5, .ref q6, .ref q7, .int 0, .ref q8, .ref q9, .null])) :: [(q0, .inl (cy 0, 4, .inl (fun _ => 0))), (q1, .inl (cy 0, 4, .inl (fun _ => 0))), (q2, .inl (cy 0, 4, .inl (fun _ => 0))), (q3, .inl (cy 0, 4, .inl (fun _ => 0))), (q4, .inl (cy 0, 4, .inl (fun _ => 0))), (q5, .inl (cy 0, 6, .inl (fun _ => 0))), (q6, .inl (cy 0, 6, .inl (fun _ => 0))), (q7, .inl (cy 0, 6, .inl (fun _ => 0))), (q8, .inl (cy 0, 6, .inl (fun _ => 0))), (q9, .inl (cy 0, 6, .inl (fun _ => 0)))]) := hD
  refine lv_aload_n hC.1 hC.2.1 (show decode cX0_init 109 = .ok (.aload_n 0, 1) by decide +kernel) rfl (lv_at hl 0 rfl) ?_
  refine lv_bipush hC.1 hC.2.1 (show decode cX0_init 110 = .ok (.bipush 6, 2) by decide +kernel) (v := 6) (by decide) ?_
  refine k_arr (ty := .int) (j := 0) (N := 6) (a0 := (6, .inl (fun _ => 0))) hC hP hD hS rfl rfl (fun _ _ => rfl) (xck_in (p := (1, 96)) (by decide +kernel) rfl) (fun _ => rfl) (by decide) (by decide) (by decide) (Nat.le_of_ble_eq_true rfl) (Nat.le_of_ble_eq_true rfl) (by decide) 16 (by decide) rfl (xck_in (p := (1, 60)) (by decide +kernel) rfl) (fun _ => rfl) (fun _ => rfl) (Nat.le_of_ble_eq_true rfl) (show decode cX0_init 112 = .ok (.newarray .int, 2) by decide +kernel) (show decode cX0_init 114 = .ok (.putfield 62, 3) by decide +kernel) (fun q10 H locs hP hD hS => ?_)
  have hP : va_P D vwCl ((h, .inr (0, [.int 0, .ref q0, .ref q1, .ref q2, .ref q3, .ref q4, .int 0, .long 0, .int 0, .int 0, .ref q5, .ref q6, .ref q7, .int 0, .ref q8, .ref q9, .ref q10])) :: [(q0, .inl (cy 0, 4, .inl (fun _ => 0))), (q1, .inl (cy 0, 4, .inl (fun _ => 0))), (q2, .inl (cy 0, 4, .inl (fun _ => 0))), (q3, .inl (cy 0, 4, .inl (fun _ => 0))), (q4, .inl (cy 0, 4, .inl (fun _ => 0))), (q5, .inl (cy 0, 6, .inl (fun _ => 0))), (q6, .inl (cy 0, 6, .inl (fun _ => 0))), (q7, .inl (cy 0, 6, .inl (fun _ => 0))), (q8, .inl (cy 0, 6, .inl (fun _ => 0))), (q9, .inl (cy 0, 6, .inl (fun _ => 0))), (q10, .inl (cy 0, 6, .inl (fun _ => 0)))]) H := hP
  have hD : va_D A ((h, .inr (0, [.int 0, .ref q0, .ref q1, .ref q2, .ref q3, .ref q4, .int 0, .long 0, .int 0, .int 0, .ref q5, .ref q6, .ref q7, .int 0, .ref q8, .ref q9, .ref q10])) :: [(q0, .inl (cy 0, 4, .inl (fun _ => 0))), (q1, .inl (cy 0, 4, .inl (fun _ => 0))), (q2, .inl (cy 0, 4, .inl (fun _ => 0))), (q3, .inl (cy 0, 4, .inl (fun _ => 0))), (q4, .inl (cy 0, 4, .inl (fun _ => 0))), (q5, .inl (cy 0, 6, .inl (fun _ => 0))), (q6, .inl (cy 0, 6, .inl (fun _ => 0))), (q7, .inl (cy 0, 6, .inl (fun _ => 0))), (q8, .inl (cy 0, 6, .inl (fun _ => 0))), (q9, .inl (cy 0, 6, .inl (fun _ => 0))), (q10, .inl (cy 0, 6, .inl (fun _ => 0)))]) := hD
  refine hX (kW [1, 2, 3, 4, 5, 6, 7, 8, 9, 10, 11, 12] (fun t => match t with
    | 1 => h
    | 2 => q0
    | 3 => q1
    | 4 => q2
    | 5 => q3
    | 6 => q4
    | 7 => q5
    | 8 => q6
    | 9 => q7
    | 10 => q8
    | 11 => q9
    | _ => q10) cy) H locs ls 117 _ _ ⟨_, rfl, rfl⟩ hP hD hS ?_ ?_ (show decode cX0_init 117 = .ok (.return_, 1) by decide +kernel)
  · exact Nat.le_of_ble_eq_true rfl
  · exact Nat.le_of_ble_eq_true rfl
set_option maxRecDepth 100000 in
theorem k_tape (l : Launch) (D : va_G) (cy : Nat → ClassId) (aK aV : Nat → Nat) (sz h : Nat) : KM l D cy aK aV sz ms_t 1 160 h [(h, .inr (2, kf2))] (fun w => ∃ a : Nat → Nat, a 13 = h ∧ w = kW [13, 14] a cy) := by
  refine KM.intro (by decide +kernel) rfl rfl (by decide) rfl ?_
  intro p e s m args below meth c A Z ls hC hX hl hP hD
  have hS : va_S A s.heap s.heap [] := va_S.rf
  have H0 : s.heap = s.heap := rfl
  have hP : va_P D vwCl ((h, .inr (2, [.null, .int 0, .int 0, .int 0, .int 0, .int 0, .int 0])) :: []) s.heap := hP
  have hD : va_D A ((h, .inr (2, [.null, .int 0, .int 0, .int 0, .int 0, .int 0, .int 0])) :: []) := hD
  refine lv_aload_n hC.1 hC.2.1 (show decode cX2_init 0 = .ok (.aload_n 0, 1) by decide +kernel) rfl (lv_at hl 0 rfl) ?_
  refine k_obj0 hC (xck_in (p := (1, 102)) (by decide +kernel) rfl) hl (Nat.le_of_ble_eq_true rfl) (Nat.le_of_ble_eq_true rfl) (show decode cX2_init 1 = .ok (.invokespecial 3, 3) by decide +kernel) ?_
  refine lv_aload_n hC.1 hC.2.1 (show decode cX2_init 4 = .ok (.aload_n 0, 1) by decide +kernel) rfl (lv_at hl 0 rfl) ?_
  refine lv_sipush hC.1 hC.2.1 (show decode cX2_init 5 = .ok (.sipush 160, 3) by decide +kernel) (v := 160) (by decide) ?_
  refine k_arr (ty := .byte) (j := 2) (N := 160) (a0 := (160, .inl (fun _ => 0))) hC hP hD hS rfl rfl (fun _ _ => rfl) (xck_in (p := (1, 128)) (by decide +kernel) rfl) (fun _ => rfl) (by decide) (by decide) (by decide) (Nat.le_of_ble_eq_true rfl) (Nat.le_of_ble_eq_true rfl) (by decide) 0 (by decide) rfl (xck_in (p := (1, 103)) (by decide +kernel) rfl) (fun _ => rfl) (fun _ => rfl) (Nat.le_of_ble_eq_true rfl) (show decode cX2_init 8 = .ok (.newarray .byte, 2) by decide +kernel) (show decode cX2_init 10 = .ok (.putfield 11, 3) by decide +kernel) (fun q0 H locs hP hD hS => ?_)
  have hP : va_P D vwCl ((h, .inr (2, [.ref q0, .int 0, .int 0, .int 0, .int 0, .int 0, .int 0])) :: [(q0, .inl (cy 2, 160, .inl (fun _ => 0)))]) H := hP
  have hD : va_D A ((h, .inr (2, [.ref q0, .int 0, .int 0, .int 0, .int 0, .int 0, .int 0])) :: [(q0, .inl (cy 2, 160, .inl (fun _ => 0)))]) := hD
  refine lv_aload_n hC.1 hC.2.1 (show decode cX2_init 13 = .ok (.aload_n 0, 1) by decide +kernel) rfl (lv_at hl 0 rfl) ?_
  refine lv_iconst hC.1 hC.2.1 (show decode cX2_init 14 = .ok (.iconst 0, 1) by decide +kernel) (v := 0) (by decide) ?_
  refine k_put (v := .int 0) hC hP hD hS (by decide) 1 (by decide) rfl (xck_in (p := (1, 104)) (by decide +kernel) rfl) rfl rfl (Nat.le_of_ble_eq_true rfl) (show decode cX2_init 15 = .ok (.putfield 15, 3) by decide +kernel) (fun H locs hP hD hS => ?_)
  have hP : va_P D vwCl ((h, .inr (2, [.ref q0, .int 0, .int 0, .int 0, .int 0, .int 0, .int 0])) :: [(q0, .inl (cy 2, 160, .inl (fun _ => 0)))]) H := hP
  have hD : va_D A ((h, .inr (2, [.ref q0, .int 0, .int 0, .int 0, .int 0, .int 0, .int 0])) :: [(q0, .inl (cy 2, 160, .inl (fun _ => 0)))]) := hD
  refine lv_aload_n hC.1 hC.2.1 (show decode cX2_init 18 = .ok (.aload_n 0, 1) by decide +kernel) rfl (lv_at hl 0 rfl) ?_
  refine lv_iconst hC.1 hC.2.1 (show decode cX2_init 19 = .ok (.iconst 0, 1) by decide +kernel) (v := 0) (by decide) ?_
  refine k_put (v := .int 0) hC hP hD hS (by decide) 2 (by decide) rfl (xck_in (p := (1, 106)) (by decide +kernel) rfl) rfl rfl (Nat.le_of_ble_eq_true rfl) (show decode cX2_init 20 = .ok (.putfield 19, 3) by decide +kernel) (fun H locs hP hD hS => ?_)
  have hP : va_P D vwCl ((h, .inr (2, [.ref q0, .int 0, .int 0, .int 0, .int 0, .int 0, .int 0])) :: [(q0, .inl (cy 2, 160, .inl (fun _ => 0)))]) H := hP
  have hD : va_D A ((h, .inr (2, [.ref q0, .int 0, .int 0, .int 0, .int 0, .int 0, .int 0])) :: [(q0, .inl (cy 2, 160, .inl (fun _ => 0)))]) := hD
  refine lv_aload_n hC.1 hC.2.1 (show decode cX2_init 23 = .ok (.aload_n 0, 1) by decide +kernel) rfl (lv_at hl 0 rfl) ?_
  refine lv_iconst hC.1 hC.2.1 (show decode cX2_init 24 = .ok (.iconst 0, 1) by decide +kernel) (v := 0) (by decide) ?_
  refine k_put (v := .int 0) hC hP hD hS (by decide) 3 (by decide) rfl (xck_in (p := (1, 108)) (by decide +kernel) rfl) rfl rfl (Nat.le_of_ble_eq_true rfl) (show decode cX2_init 25 = .ok (.putfield 22, 3) by decide +kernel) (fun H locs hP hD hS => ?_)
  have hP : va_P D vwCl ((h, .inr (2, [.ref q0, .int 0, .int 0, .int 0, .int 0, .int 0, .int 0])) :: [(q0, .inl (cy 2, 160, .inl (fun _ => 0)))]) H := hP
  have hD : va_D A ((h, .inr (2, [.ref q0, .int 0, .int 0, .int 0, .int 0, .int 0, .int 0])) :: [(q0, .inl (cy 2, 160, .inl (fun _ => 0)))]) := hD
  refine lv_aload_n hC.1 hC.2.1 (show decode cX2_init 28 = .ok (.aload_n 0, 1) by decide +kernel) rfl (lv_at hl 0 rfl) ?_
  refine lv_iconst hC.1 hC.2.1 (show decode cX2_init 29 = .ok (.iconst 0, 1) by decide +kernel) (v := 0) (by decide) ?_
  refine k_put (v := .int 0) hC hP hD hS (by decide) 4 (by decide) rfl (xck_in (p := (1, 110)) (by decide +kernel) rfl) rfl rfl (Nat.le_of_ble_eq_true rfl) (show decode cX2_init 30 = .ok (.putfield 25, 3) by decide +kernel) (fun H locs hP hD hS => ?_)
  have hP : va_P D vwCl ((h, .inr (2, [.ref q0, .int 0, .int 0, .int 0, .int 0, .int 0, .int 0])) :: [(q0, .inl (cy 2, 160, .inl (fun _ => 0)))]) H := hP
  have hD : va_D A ((h, .inr (2, [.ref q0, .int 0, .int 0, .int 0, .int 0, .int 0, .int 0])) :: [(q0, .inl (cy 2, 160, .inl (fun _ => 0)))]) := hD
  refine lv_aload_n hC.1 hC.2.1 (show decode cX2_init 33 = .ok (.aload_n 0, 1) by decide +kernel) rfl (lv_at hl 0 rfl) ?_
  refine lv_iconst hC.1 hC.2.1 (show decode cX2_init 34 = .ok (.iconst 4, 1) by decide +kernel) (v := 4) (by decide) ?_
  refine k_put (v := .int 4) hC hP hD hS (by decide) 5 (by decide) rfl (xck_in (p := (1, 111)) (by decide +kernel) rfl) rfl rfl (Nat.le_of_ble_eq_true rfl) (show decode cX2_init 35 = .ok (.putfield 28, 3) by decide +kernel) (fun H locs hP hD hS => ?_)
  have hP : va_P D vwCl ((h, .inr (2, [.ref q0, .int 0, .int 0, .int 0, .int 0, .int 4, .int 0])) :: [(q0, .inl (cy 2, 160, .inl (fun _ => 0)))]) H := hP
  have hD : va_D A ((h, .inr (2, [.ref q0, .int 0, .int 0, .int 0, .int 0, .int 4, .int 0])) :: [(q0, .inl (cy 2, 160, .inl (fun _ => 0)))]) := hD
  refine lv_aload_n hC.1 hC.2.1 (show decode cX2_init 38 = .ok (.aload_n 0, 1) by decide +kernel) rfl (lv_at hl 0 rfl) ?_
  refine lv_iconst hC.1 hC.2.1 (show decode cX2_init 39 = .ok (.iconst 0, 1) by decide +kernel) (v := 0) (by decide) ?_
  refine k_put (v := .int 0) hC hP hD hS (by decide) 6 (by decide) rfl (xck_in (p := (1, 112)) (by decide +kernel) rfl) rfl rfl (Nat.le_of_ble_eq_true rfl) (show decode cX2_init 40 = .ok (.putfield 31, 3) by decide +kernel) (fun H locs hP hD hS => ?_)
  have hP : va_P D vwCl ((h, .inr (2, [.ref q0, .int 0, .int 0, .int 0, .int 0, .int 4, .int 0])) :: [(q0, .inl (cy 2, 160, .inl (fun _ => 0)))]) H := hP
  have hD : va_D A ((h, .inr (2, [.ref q0, .int 0, .int 0, .int 0, .int 0, .int 4, .int 0])) :: [(q0, .inl (cy 2, 160, .inl (fun _ => 0)))]) := hD
  refine hX (kW [13, 14] (fun t => match t with
    | 13 => h
    | _ => q0) cy) H locs ls 43 _ _ ⟨_, rfl, rfl⟩ hP hD hS ?_ ?_ (show decode cX2_init 43 = .ok (.return_, 1) by decide +kernel)
  · exact Nat.le_of_ble_eq_true rfl
  · exact Nat.le_of_ble_eq_true rfl
set_option maxRecDepth 100000 in
theorem k_sheets (l : Launch) (D : va_G) (cy : Nat → ClassId) (aK aV : Nat → Nat) (sz h : Nat) : KM l D cy aK aV sz ms_s 3 168 h [(h, .inr (1, kf1))] (fun w => ∃ a : Nat → Nat, a 15 = h ∧ w = kW [15, 16, 17, 18] a cy) := by
  refine KM.intro (by decide +kernel) rfl rfl (by decide) rfl ?_
  intro p e s m args below meth c A Z ls hC hX hl hP hD
  have hS : va_S A s.heap s.heap [] := va_S.rf
  have H0 : s.heap = s.heap := rfl
  have hP : va_P D vwCl ((h, .inr (1, [.null, .null, .null])) :: []) s.heap := hP
  have hD : va_D A ((h, .inr (1, [.null, .null, .null])) :: []) := hD
  refine lv_aload_n hC.1 hC.2.1 (show decode cX1_init 0 = .ok (.aload_n 0, 1) by decide +kernel) rfl (lv_at hl 0 rfl) ?_
  refine k_obj0 hC (xck_in (p := (1, 134)) (by decide +kernel) rfl) hl (Nat.le_of_ble_eq_true rfl) (Nat.le_of_ble_eq_true rfl) (show decode cX1_init 1 = .ok (.invokespecial 1, 3) by decide +kernel) ?_
  refine lv_aload_n hC.1 hC.2.1 (show decode cX1_init 4 = .ok (.aload_n 0, 1) by decide +kernel) rfl (lv_at hl 0 rfl) ?_
  refine lv_iconst hC.1 hC.2.1 (show decode cX1_init 5 = .ok (.iconst 4, 1) by decide +kernel) (v := 4) (by decide) ?_
  refine k_arr (ty := .int) (j := 0) (N := 4) (a0 := (4, .inl (fun _ => 0))) hC hP hD hS rfl rfl (fun _ _ => rfl) (xck_in (p := (1, 96)) (by decide +kernel) rfl) (fun _ => rfl) (by decide) (by decide) (by decide) (Nat.le_of_ble_eq_true rfl) (Nat.le_of_ble_eq_true rfl) (by decide) 0 (by decide) rfl (xck_in (p := (1, 135)) (by decide +kernel) rfl) (fun _ => rfl) (fun _ => rfl) (Nat.le_of_ble_eq_true rfl) (show decode cX1_init 6 = .ok (.newarray .int, 2) by decide +kernel) (show decode cX1_init 8 = .ok (.putfield 9, 3) by decide +kernel) (fun q0 H locs hP hD hS => ?_)
  have hP : va_P D vwCl ((h, .inr (1, [.ref q0, .null, .null])) :: [(q0, .inl (cy 0, 4, .inl (fun _ => 0)))]) H := hP
  have hD : va_D A ((h, .inr (1, [.ref q0, .null, .null])) :: [(q0, .inl (cy 0, 4, .inl (fun _ => 0)))]) := hD
  refine lv_aload_n hC.1 hC.2.1 (show decode cX1_init 11 = .ok (.aload_n 0, 1) by decide +kernel) rfl (lv_at hl 0 rfl) ?_
  refine lv_iconst hC.1 hC.2.1 (show decode cX1_init 12 = .ok (.iconst 4, 1) by decide +kernel) (v := 4) (by decide) ?_
  refine k_arr (ty := .int) (j := 0) (N := 4) (a0 := (4, .inl (fun _ => 0))) hC hP hD hS rfl rfl (fun _ _ => rfl) (xck_in (p := (1, 96)) (by decide +kernel) rfl) (fun _ => rfl) (by decide) (by decide) (by decide) (Nat.le_of_ble_eq_true rfl) (Nat.le_of_ble_eq_true rfl) (by decide) 1 (by decide) rfl (xck_in (p := (1, 136)) (by decide +kernel) rfl) (fun _ => rfl) (fun _ => rfl) (Nat.le_of_ble_eq_true rfl) (show decode cX1_init 13 = .ok (.newarray .int, 2) by decide +kernel) (show decode cX1_init 15 = .ok (.putfield 13, 3) by decide +kernel) (fun q1 H locs hP hD hS => ?_)
  have hP : va_P D vwCl ((h, .inr (1, [.ref q0, .ref q1, .null])) :: [(q0, .inl (cy 0, 4, .inl (fun _ => 0))), (q1, .inl (cy 0, 4, .inl (fun _ => 0)))]) H := hP
  have hD : va_D A ((h, .inr (1, [.ref q0, .ref q1, .null])) :: [(q0, .inl (cy 0, 4, .inl (fun _ => 0))), (q1, .inl (cy 0, 4, .inl (fun _ => 0)))]) := hD
  refine lv_aload_n hC.1 hC.2.1 (show decode cX1_init 18 = .ok (.aload_n 0, 1) by decide +kernel) rfl (lv_at hl 0 rfl) ?_
  refine lv_sipush hC.1 hC.2.1 (show decode cX1_init 19 = .ok (.sipush 160, 3) by decide +kernel) (v := 160) (by decide) ?_
  refine k_arr (ty := .int) (j := 0) (N := 160) (a0 := (160, .inl (fun _ => 0))) hC hP hD hS rfl rfl (fun _ _ => rfl) (xck_in (p := (1, 96)) (by decide +kernel) rfl) (fun _ => rfl) (by decide) (by decide) (by decide) (Nat.le_of_ble_eq_true rfl) (Nat.le_of_ble_eq_true rfl) (by decide) 2 (by decide) rfl (xck_in (p := (1, 138)) (by decide +kernel) rfl) (fun _ => rfl) (fun _ => rfl) (Nat.le_of_ble_eq_true rfl) (show decode cX1_init 22 = .ok (.newarray .int, 2) by decide +kernel) (show decode cX1_init 24 = .ok (.putfield 16, 3) by decide +kernel) (fun q2 H locs hP hD hS => ?_)
  have hP : va_P D vwCl ((h, .inr (1, [.ref q0, .ref q1, .ref q2])) :: [(q0, .inl (cy 0, 4, .inl (fun _ => 0))), (q1, .inl (cy 0, 4, .inl (fun _ => 0))), (q2, .inl (cy 0, 160, .inl (fun _ => 0)))]) H := hP
  have hD : va_D A ((h, .inr (1, [.ref q0, .ref q1, .ref q2])) :: [(q0, .inl (cy 0, 4, .inl (fun _ => 0))), (q1, .inl (cy 0, 4, .inl (fun _ => 0))), (q2, .inl (cy 0, 160, .inl (fun _ => 0)))]) := hD
  refine lv_iconst hC.1 hC.2.1 (show decode cX1_init 27 = .ok (.iconst 0, 1) by decide +kernel) (v := 0) (by decide) ?_
  refine lv_istore_n (lv' := [(1, .int 0), (0, .ref h)]) hC.1 hC.2.1 (show decode cX1_init 28 = .ok (.istore_n 1, 1) by decide +kernel) rfl hl (by decide) rfl (fun ls hl => ?_)
  refine lv_iload_n hC.1 hC.2.1 (show decode cX1_init 29 = .ok (.iload_n 1, 1) by decide +kernel) rfl (lv_at hl 0 rfl) ?_
  refine lv_iconst hC.1 hC.2.1 (show decode cX1_init 30 = .ok (.iconst 4, 1) by decide +kernel) (v := 4) (by decide) ?_
  refine lv_icmp_ge hC.1 hC.2.1 (show decode cX1_init 31 = .ok (.if_icmp .ge 16, 3) by decide +kernel) (tgt := 47) rfl (fun z => absurd z (by decide)) (fun _ => ?_)
  refine lv_aload_n hC.1 hC.2.1 (show decode cX1_init 34 = .ok (.aload_n 0, 1) by decide +kernel) rfl (lv_at hl 1 rfl) ?_
  refine va_get (ws := ((h, .inr (1, [.ref q0, .ref q1, .ref q2])) :: [(q0, .inl (cy 0, 4, .inl (fun _ => 0))), (q1, .inl (cy 0, 4, .inl (fun _ => 0))), (q2, .inl (cy 0, 160, .inl (fun _ => 0)))])) (C := xC 1) (T := xT 1) (N := xN 1) (v := .ref q0) hC.1 hC.2.1 hC.2.2.2.2.1 (xin (by decide)) hC.2.2.2.1 hC.2.2.2.2.2.2.1 hP 0 rfl (xcl_vw (c := 1) (by decide)) 0 (by decide) (hC.2.2.2.2.1 _ (xck_in (p := (1, 135)) (by decide +kernel) rfl)) (fun _ h9 => h9) rfl (show decode cX1_init 35 = .ok (.getfield 9, 3) by decide +kernel) ?_
  refine lv_iload_n hC.1 hC.2.1 (show decode cX1_init 38 = .ok (.iload_n 1, 1) by decide +kernel) rfl (lv_at hl 0 rfl) ?_
  refine lv_iconst hC.1 hC.2.1 (show decode cX1_init 39 = .ok (.iconst (-1), 1) by decide +kernel) (v := -1) (by decide) ?_
  refine va_iast hC.1 hC.2.1 hC.2.2.2.2.2.2.1 hP hD hS 1 0 rfl rfl (x_in (by decide)) (show decode cX1_init 40 = .ok (.iastore, 1) by decide +kernel) (fun H locs hP hD hS => ?_)
  have hP : va_P D vwCl ((h, .inr (1, [.ref q0, .ref q1, .ref q2])) :: [(q0, .inl (cy 0, 4, .inl (upd (fun _ => 0) 0 (-1)))), (q1, .inl (cy 0, 4, .inl (fun _ => 0))), (q2, .inl (cy 0, 160, .inl (fun _ => 0)))]) H := hP
  have hD : va_D A ((h, .inr (1, [.ref q0, .ref q1, .ref q2])) :: [(q0, .inl (cy 0, 4, .inl (upd (fun _ => 0) 0 (-1)))), (q1, .inl (cy 0, 4, .inl (fun _ => 0))), (q2, .inl (cy 0, 160, .inl (fun _ => 0)))]) := hD
  refine lv_iinc hC.1 hC.2.1 (show decode cX1_init 41 = .ok (.iinc 1 1, 3) by decide +kernel) (v := 1) (lv' := [(1, .int 1), (0, .ref h)]) hl (k := 0) rfl (by decide) (by decide) rfl (fun ls hl => ?_)
  refine lv_goto hC.1 hC.2.1 (show decode cX1_init 44 = .ok (.goto (-15), 3) by decide +kernel) (tgt := 29) rfl ?_
  refine lv_iload_n hC.1 hC.2.1 (show decode cX1_init 29 = .ok (.iload_n 1, 1) by decide +kernel) rfl (lv_at hl 0 rfl) ?_
  refine lv_iconst hC.1 hC.2.1 (show decode cX1_init 30 = .ok (.iconst 4, 1) by decide +kernel) (v := 4) (by decide) ?_
  refine lv_icmp_ge hC.1 hC.2.1 (show decode cX1_init 31 = .ok (.if_icmp .ge 16, 3) by decide +kernel) (tgt := 47) rfl (fun z => absurd z (by decide)) (fun _ => ?_)
  refine lv_aload_n hC.1 hC.2.1 (show decode cX1_init 34 = .ok (.aload_n 0, 1) by decide +kernel) rfl (lv_at hl 1 rfl) ?_
  refine va_get (ws := ((h, .inr (1, [.ref q0, .ref q1, .ref q2])) :: [(q0, .inl (cy 0, 4, .inl (upd (fun _ => 0) 0 (-1)))), (q1, .inl (cy 0, 4, .inl (fun _ => 0))), (q2, .inl (cy 0, 160, .inl (fun _ => 0)))])) (C := xC 1) (T := xT 1) (N := xN 1) (v := .ref q0) hC.1 hC.2.1 hC.2.2.2.2.1 (xin (by decide)) hC.2.2.2.1 hC.2.2.2.2.2.2.1 hP 0 rfl (xcl_vw (c := 1) (by decide)) 0 (by decide) (hC.2.2.2.2.1 _ (xck_in (p := (1, 135)) (by decide +kernel) rfl)) (fun _ h9 => h9) rfl (show decode cX1_init 35 = .ok (.getfield 9, 3) by decide +kernel) ?_
  refine lv_iload_n hC.1 hC.2.1 (show decode cX1_init 38 = .ok (.iload_n 1, 1) by decide +kernel) rfl (lv_at hl 0 rfl) ?_
  refine lv_iconst hC.1 hC.2.1 (show decode cX1_init 39 = .ok (.iconst (-1), 1) by decide +kernel) (v := -1) (by decide) ?_
  refine va_iast hC.1 hC.2.1 hC.2.2.2.2.2.2.1 hP hD hS 1 0 rfl rfl (x_in (by decide)) (show decode cX1_init 40 = .ok (.iastore, 1) by decide +kernel) (fun H locs hP hD hS => ?_)
  have hP : va_P D vwCl ((h, .inr (1, [.ref q0, .ref q1, .ref q2])) :: [(q0, .inl (cy 0, 4, .inl (upd (upd (fun _ => 0) 0 (-1)) 1 (-1)))), (q1, .inl (cy 0, 4, .inl (fun _ => 0))), (q2, .inl (cy 0, 160, .inl (fun _ => 0)))]) H := hP
  have hD : va_D A ((h, .inr (1, [.ref q0, .ref q1, .ref q2])) :: [(q0, .inl (cy 0, 4, .inl (upd (upd (fun _ => 0) 0 (-1)) 1 (-1)))), (q1, .inl (cy 0, 4, .inl (fun _ => 0))), (q2, .inl (cy 0, 160, .inl (fun _ => 0)))]) := hD
  refine lv_iinc hC.1 hC.2.1 (show decode cX1_init 41 = .ok (.iinc 1 1, 3) by decide +kernel) (v := 2) (lv' := [(1, .int 2), (0, .ref h)]) hl (k := 0) rfl (by decide) (by decide) rfl (fun ls hl => ?_)
  refine lv_goto hC.1 hC.2.1 (show decode cX1_init 44 = .ok (.goto (-15), 3) by decide +kernel) (tgt := 29) rfl ?_
  refine lv_iload_n hC.1 hC.2.1 (show decode cX1_init 29 = .ok (.iload_n 1, 1) by decide +kernel) rfl (lv_at hl 0 rfl) ?_
  refine lv_iconst hC.1 hC.2.1 (show decode cX1_init 30 = .ok (.iconst 4, 1) by decide +kernel) (v := 4) (by decide) ?_
  refine lv_icmp_ge hC.1 hC.2.1 (show decode cX1_init 31 = .ok (.if_icmp .ge 16, 3) by decide +kernel) (tgt := 47) rfl (fun z => absurd z (by decide)) (fun _ => ?_)
  refine lv_aload_n hC.1 hC.2.1 (show decode cX1_init 34 = .ok (.aload_n 0, 1) by decide +kernel) rfl (lv_at hl 1 rfl) ?_
  refine va_get (ws := ((h, .inr (1, [.ref q0, .ref q1, .ref q2])) :: [(q0, .inl (cy 0, 4, .inl (upd (upd (fun _ => 0) 0 (-1)) 1 (-1)))), (q1, .inl (cy 0, 4, .inl (fun _ => 0))), (q2, .inl (cy 0, 160, .inl (fun _ => 0)))])) (C := xC 1) (T := xT 1) (N := xN 1) (v := .ref q0) hC.1 hC.2.1 hC.2.2.2.2.1 (xin (by decide)) hC.2.2.2.1 hC.2.2.2.2.2.2.1 hP 0 rfl (xcl_vw (c := 1) (by decide)) 0 (by decide) (hC.2.2.2.2.1 _ (xck_in (p := (1, 135)) (by decide +kernel) rfl)) (fun _ h9 => h9) rfl (show decode cX1_init 35 = .ok (.getfield 9, 3) by decide +kernel) ?_
  refine lv_iload_n hC.1 hC.2.1 (show decode cX1_init 38 = .ok (.iload_n 1, 1) by decide +kernel) rfl (lv_at hl 0 rfl) ?_
  refine lv_iconst hC.1 hC.2.1 (show decode cX1_init 39 = .ok (.iconst (-1), 1) by decide +kernel) (v := -1) (by decide) ?_
  refine va_iast hC.1 hC.2.1 hC.2.2.2.2.2.2.1 hP hD hS 1 0 rfl rfl (x_in (by decide)) (show decode cX1_init 40 = .ok (.iastore, 1) by decide +kernel) (fun H locs hP hD hS => ?_)
  have hP : va_P D vwCl ((h, .inr (1, [.ref q0, .ref q1, .ref q2])) :: [(q0, .inl (cy 0, 4, .inl (upd (upd (upd (fun _ => 0) 0 (-1)) 1 (-1)) 2 (-1)))), (q1, .inl (cy 0, 4, .inl (fun _ => 0))), (q2, .inl (cy 0, 160, .inl (fun _ => 0)))]) H := hP
  have hD : va_D A ((h, .inr (1, [.ref q0, .ref q1, .ref q2])) :: [(q0, .inl (cy 0, 4, .inl (upd (upd (upd (fun _ => 0) 0 (-1)) 1 (-1)) 2 (-1)))), (q1, .inl (cy 0, 4, .inl (fun _ => 0))), (q2, .inl (cy 0, 160, .inl (fun _ => 0)))]) := hD
  refine lv_iinc hC.1 hC.2.1 (show decode cX1_init 41 = .ok (.iinc 1 1, 3) by decide +kernel) (v := 3) (lv' := [(1, .int 3), (0, .ref h)]) hl (k := 0) rfl (by decide) (by decide) rfl (fun ls hl => ?_)
  refine lv_goto hC.1 hC.2.1 (show decode cX1_init 44 = .ok (.goto (-15), 3) by decide +kernel) (tgt := 29) rfl ?_
  refine lv_iload_n hC.1 hC.2.1 (show decode cX1_init 29 = .ok (.iload_n 1, 1) by decide +kernel) rfl (lv_at hl 0 rfl) ?_
  refine lv_iconst hC.1 hC.2.1 (show decode cX1_init 30 = .ok (.iconst 4, 1) by decide +kernel) (v := 4) (by decide) ?_
  refine lv_icmp_ge hC.1 hC.2.1 (show decode cX1_init 31 = .ok (.if_icmp .ge 16, 3) by decide +kernel) (tgt := 47) rfl (fun z => absurd z (by decide)) (fun _ => ?_)
  refine lv_aload_n hC.1 hC.2.1 (show decode cX1_init 34 = .ok (.aload_n 0, 1) by decide +kernel) rfl (lv_at hl 1 rfl) ?_
  refine va_get (ws := ((h, .inr (1, [.ref q0, .ref q1, .ref q2])) :: [(q0, .inl (cy 0, 4, .inl (upd (upd (upd (fun _ => 0) 0 (-1)) 1 (-1)) 2 (-1)))), (q1, .inl (cy 0, 4, .inl (fun _ => 0))), (q2, .inl (cy 0, 160, .inl (fun _ => 0)))])) (C := xC 1) (T := xT 1) (N := xN 1) (v := .ref q0) hC.1 hC.2.1 hC.2.2.2.2.1 (xin (by decide)) hC.2.2.2.1 hC.2.2.2.2.2.2.1 hP 0 rfl (xcl_vw (c := 1) (by decide)) 0 (by decide) (hC.2.2.2.2.1 _ (xck_in (p := (1, 135)) (by decide +kernel) rfl)) (fun _ h9 => h9) rfl (show decode cX1_init 35 = .ok (.getfield 9, 3) by decide +kernel) ?_
  refine lv_iload_n hC.1 hC.2.1 (show decode cX1_init 38 = .ok (.iload_n 1, 1) by decide +kernel) rfl (lv_at hl 0 rfl) ?_
  refine lv_iconst hC.1 hC.2.1 (show decode cX1_init 39 = .ok (.iconst (-1), 1) by decide +kernel) (v := -1) (by decide) ?_
  refine va_iast hC.1 hC.2.1 hC.2.2.2.2.2.2.1 hP hD hS 1 0 rfl rfl (x_in (by decide)) (show decode cX1_init 40 = .ok (.iastore, 1) by decide +kernel) (fun H locs hP hD hS => ?_)
  have hP : va_P D vwCl ((h, .inr (1, [.ref q0, .ref q1, .ref q2])) :: [(q0, .inl (cy 0, 4, .inl (upd (upd (upd (upd (fun _ => 0) 0 (-1)) 1 (-1)) 2 (-1)) 3 (-1)))), (q1, .inl (cy 0, 4, .inl (fun _ => 0))), (q2, .inl (cy 0, 160, .inl (fun _ => 0)))]) H := hP
  have hD : va_D A ((h, .inr (1, [.ref q0, .ref q1, .ref q2])) :: [(q0, .inl (cy 0, 4, .inl (upd (upd (upd (upd (fun _ => 0) 0 (-1)) 1 (-1)) 2 (-1)) 3 (-1)))), (q1, .inl (cy 0, 4, .inl (fun _ => 0))), (q2, .inl (cy 0, 160, .inl (fun _ => 0)))]) := hD
  refine lv_iinc hC.1 hC.2.1 (show decode cX1_init 41 = .ok (.iinc 1 1, 3) by decide +kernel) (v := 4) (lv' := [(1, .int 4), (0, .ref h)]) hl (k := 0) rfl (by decide) (by decide) rfl (fun ls hl => ?_)
  refine lv_goto hC.1 hC.2.1 (show decode cX1_init 44 = .ok (.goto (-15), 3) by decide +kernel) (tgt := 29) rfl ?_
  refine lv_iload_n hC.1 hC.2.1 (show decode cX1_init 29 = .ok (.iload_n 1, 1) by decide +kernel) rfl (lv_at hl 0 rfl) ?_
  refine lv_iconst hC.1 hC.2.1 (show decode cX1_init 30 = .ok (.iconst 4, 1) by decide +kernel) (v := 4) (by decide) ?_
  refine lv_icmp_ge hC.1 hC.2.1 (show decode cX1_init 31 = .ok (.if_icmp .ge 16, 3) by decide +kernel) (tgt := 47) rfl (fun _ => ?_) (fun z => absurd (by decide) z)
  refine hX (kW [15, 16, 17, 18] (fun t => match t with
    | 15 => h
    | 16 => q0
    | 17 => q1
    | _ => q2) cy) H locs ls 47 _ _ ⟨_, rfl, rfl⟩ hP hD hS ?_ ?_ (show decode cX1_init 47 = .ok (.return_, 1) by decide +kernel)
  · exact Nat.le_of_ble_eq_true rfl
  · exact Nat.le_of_ble_eq_true rfl

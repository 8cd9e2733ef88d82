/-! ===== fields, rows, switches, calls ===== -/
set_option maxRecDepth 100000 in
theorem xin0 : ∀ w ∈ u_ws RX0 TX0 17, w ∈ lw_tbl ∧ goodWord w = true := by decide +kernel
set_option maxRecDepth 100000 in
theorem xin1 : ∀ w ∈ u_ws RX1 TX1 3, w ∈ lw_tbl ∧ goodWord w = true := by decide +kernel
set_option maxRecDepth 100000 in
theorem xin2 : ∀ w ∈ u_ws RX2 TX2 7, w ∈ lw_tbl ∧ goodWord w = true := by decide +kernel
set_option maxRecDepth 100000 in
theorem xin3 : ∀ w ∈ u_ws RX3 TX3 13, w ∈ lw_tbl ∧ goodWord w = true := by decide +kernel
set_option maxRecDepth 100000 in
theorem xin4 : ∀ w ∈ u_ws RX4 TX4 30, w ∈ lw_tbl ∧ goodWord w = true := by decide +kernel
theorem xin {c : Nat} (h : c < 5) : ∀ w ∈ u_ws (xC c) (xT c) (xN c), w ∈ xgt := by
  intro w hw
  match c, h, hw with
  | 0, _, hw => exact xgt_in (xin0 w hw).1 (xin0 w hw).2
  | 1, _, hw => exact xgt_in (xin1 w hw).1 (xin1 w hw).2
  | 2, _, hw => exact xgt_in (xin2 w hw).1 (xin2 w hw).2
  | 3, _, hw => exact xgt_in (xin3 w hw).1 (xin3 w hw).2
  | 4, _, hw => exact xgt_in (xin4 w hw).1 (xin4 w hw).2
def xty (c : Nat) : Nat → FieldType := match c with
  | 0 => tyX0
  | 1 => tyX1
  | 2 => tyX2
  | 3 => tyX3
  | _ => tyX4
theorem xty_ok {c : Nat} (h : c < 5) : ∀ k, k < xN c → parseFieldDescriptor (xT c k).2.2.1 = some (xty c k) := by
  match c, h with
  | 0, _ => exact tyX0_ok
  | 1, _ => exact tyX1_ok
  | 2, _ => exact tyX2_ok
  | 3, _ => exact tyX3_ok
  | 4, _ => exact tyX4_ok
theorem xnm {c : Nat} (h : c < 5) : ∀ a, a < xN c → ∀ b, b < xN c → a ≠ b → (xT c a).2.1 ≠ (xT c b).2.1 := by
  match c, h with
  | 0, _ => exact nmX0
  | 1, _ => exact nmX1
  | 2, _ => exact nmX2
  | 3, _ => exact nmX3
  | 4, _ => exact nmX4
theorem xty_0 : ∀ c, c < 5 → ∀ k, k < xN c → xkd c k = 0 → xty c k = .int := by decide +kernel
theorem xty_1 : ∀ c, c < 5 → ∀ k, k < xN c → xkd c k = 1 → xty c k = .long := by decide +kernel
theorem J_getI {i : XMI} {ct : List XE} {K : Option XV → XM → Prop} {k pc : Nat} {L : List (Option XV)} {r : List XV} {M : XM} {t : Nat} {j : Fin 5} {c0 f idx : Nat} (hc : xcl t = some c0) (hk : xkd c0 f = 0) (ho : c0 < 5) (hf : f < xN c0) (hl : .fieldLink (mOwn i) idx (xT c0 f).1 (xT c0 f).2.1 (xT c0 f).2.2.1 ∈ xgt) (hpc : xpc ct k = pc) (hn : xpc ct (k + 1) = pc + 3) (hd : decode (mC i) pc = .ok (.getfield idx, 3)) (h : J i ct K (k + 1) L (xI (M t j f) :: r) M) : J i ct K k L (xR t j :: r) M := by
  intro p l e R s m args below meth c D ρ cy aK aV A Z hC hX RM RL H locs ls rs hM hP hS hL hR
  rw [hpc]
  obtain ⟨w, rs2, rfl, ⟨rfl, hin⟩, hR⟩ := hR
  obtain ⟨q0, hq0, hq⟩ := xat (ρ := ρ) (cy := cy) (RM := RM) (RL := RL) hin
  rw [xcell_obj hc] at hq
  refine va_get (ws := xws ρ cy RM RL) (C := xC c0) (T := xT c0) (N := xN c0) (v := .int (RM t j f)) hC.1 hC.2.1 hC.2.2.2.2.1 (xin ho) hC.2.2.2.1 hC.2.2.2.2.2.2.1 hP q0 hq (xcl_vw ho) f hf (hC.2.2.2.2.1 _ hl) (fun _ h9 => h9) (by rw [List.getElem?_map, List.getElem?_range hf]; simp [xfv, xci_cl hc, hk]) hd ?_
  rw [← hn]
  exact h p l e R s m args below meth c D ρ cy aK aV A Z hC hX RM RL H locs ls _ hM hP hS hL ⟨_, _, rfl, ⟨_, rfl, by rw [← hM]; simp [xabs, xisL_obj hc hk]⟩, hR⟩
theorem J_getL {i : XMI} {ct : List XE} {K : Option XV → XM → Prop} {k pc : Nat} {L : List (Option XV)} {r : List XV} {M : XM} {t : Nat} {j : Fin 5} {c0 f idx : Nat} (hc : xcl t = some c0) (hk : xkd c0 f = 1) (ho : c0 < 5) (hf : f < xN c0) (hl : .fieldLink (mOwn i) idx (xT c0 f).1 (xT c0 f).2.1 (xT c0 f).2.2.1 ∈ xgt) (hpc : xpc ct k = pc) (hn : xpc ct (k + 1) = pc + 3) (hd : decode (mC i) pc = .ok (.getfield idx, 3)) (h : J i ct K (k + 1) L (xL (M t j f) :: r) M) : J i ct K k L (xR t j :: r) M := by
  intro p l e R s m args below meth c D ρ cy aK aV A Z hC hX RM RL H locs ls rs hM hP hS hL hR
  rw [hpc]
  obtain ⟨w, rs2, rfl, ⟨rfl, hin⟩, hR⟩ := hR
  obtain ⟨q0, hq0, hq⟩ := xat (ρ := ρ) (cy := cy) (RM := RM) (RL := RL) hin
  rw [xcell_obj hc] at hq
  refine va_get (ws := xws ρ cy RM RL) (C := xC c0) (T := xT c0) (N := xN c0) (v := .long (RL t j f)) hC.1 hC.2.1 hC.2.2.2.2.1 (xin ho) hC.2.2.2.1 hC.2.2.2.2.2.2.1 hP q0 hq (xcl_vw ho) f hf (hC.2.2.2.2.1 _ hl) (fun _ h9 => h9) (by rw [List.getElem?_map, List.getElem?_range hf]; simp [xfv, xci_cl hc, hk]) hd ?_
  rw [← hn]
  exact h p l e R s m args below meth c D ρ cy aK aV A Z hC hX RM RL H locs ls _ hM hP hS hL ⟨_, _, rfl, ⟨_, rfl, by rw [← hM]; simp [xabs, xisL_obj hc hk]⟩, hR⟩
theorem J_getR {i : XMI} {ct : List XE} {K : Option XV → XM → Prop} {k pc : Nat} {L : List (Option XV)} {r : List XV} {M : XM} {t : Nat} {j : Fin 5} {c0 f idx : Nat} (hc : xcl t = some c0) (hk0 : xkd c0 f ≠ 0) (hk1 : xkd c0 f ≠ 1) (ho : c0 < 5) (hf : f < xN c0) (hl : .fieldLink (mOwn i) idx (xT c0 f).1 (xT c0 f).2.1 (xT c0 f).2.2.1 ∈ xgt) (hpc : xpc ct k = pc) (hn : xpc ct (k + 1) = pc + 3) (hd : decode (mC i) pc = .ok (.getfield idx, 3)) (h : J i ct K (k + 1) L (Sum.inr (Sum.inr (xrf t j f)) :: r) M) : J i ct K k L (xR t j :: r) M := by
  intro p l e R s m args below meth c D ρ cy aK aV A Z hC hX RM RL H locs ls rs hM hP hS hL hR
  rw [hpc]
  obtain ⟨w, rs2, rfl, ⟨rfl, hin⟩, hR⟩ := hR
  obtain ⟨q0, hq0, hq⟩ := xat (ρ := ρ) (cy := cy) (RM := RM) (RL := RL) hin
  rw [xcell_obj hc] at hq
  have hne : t ≠ 14 := by rintro rfl; cases hc
  have hrin := xrf_in (t, j) hin f (List.mem_range.mpr (Nat.lt_of_lt_of_le hf (xN_le c0))) hne (xar_cl hc) (by rw [xci_cl hc]; exact hf) (by rw [xci_cl hc]; exact hk0) (by rw [xci_cl hc]; exact hk1)
  refine va_get (ws := xws ρ cy RM RL) (C := xC c0) (T := xT c0) (N := xN c0) (v := .ref (ρ (xrf t j f).1 (xrf t j f).2)) hC.1 hC.2.1 hC.2.2.2.2.1 (xin ho) hC.2.2.2.1 hC.2.2.2.2.2.2.1 hP q0 hq (xcl_vw ho) f hf (hC.2.2.2.2.1 _ hl) (fun _ h9 => h9) (by
    rw [List.getElem?_map, List.getElem?_range hf]
    simp only [Option.map_some, xfv, xci_cl hc] <;> split <;> first | rfl | (rename_i q; exact absurd q hk0) | (rename_i q; exact absurd q hk1)) hd ?_
  rw [← hn]
  exact h p l e R s m args below meth c D ρ cy aK aV A Z hC hX RM RL H locs ls _ hM hP hS hL ⟨_, _, rfl, ⟨rfl, hrin⟩, hR⟩
theorem J_putI {i : XMI} {ct : List XE} {K : Option XV → XM → Prop} {k pc : Nat} {L : List (Option XV)} {r : List XV} {M : XM} {t : Nat} {j : Fin 5} {c0 f idx : Nat} {z : Int} (hc : xcl t = some c0) (hk : xkd c0 f = 0) (ho : c0 < 5) (hf : f < xN c0) (hfin : (xT c0 f).2.2.2 = false) (hl : .fieldLink (mOwn i) idx (xT c0 f).1 (xT c0 f).2.1 (xT c0 f).2.2.1 ∈ xgt) (hpc : xpc ct k = pc) (hn : xpc ct (k + 1) = pc + 3) (hd : decode (mC i) pc = .ok (.putfield idx, 3)) (h : J i ct K (k + 1) L r (xup M t j f z)) : J i ct K k L (xI z :: xR t j :: r) M := by
  intro p l e R s m args below meth c D ρ cy aK aV A Z hC hX RM RL H locs ls rs hM hP hS hL hR
  rw [hpc]
  obtain ⟨w0, rs0, rfl, ⟨x, rfl, hx⟩, w, rs2, rfl, ⟨rfl, hin⟩, hR⟩ := hR
  obtain ⟨q0, hq0, hq⟩ := xat (ρ := ρ) (cy := cy) (RM := RM) (RL := RL) hin
  rw [xcell_obj hc] at hq
  have hD := hC.2.2.2.2.2.2.2.1 RM RL
  refine va_put (ws := xws ρ cy RM RL) (C := xC c0) (T := xT c0) (N := xN c0) (v := .int x) (ty := .int) hC.1 hC.2.1 hC.2.2.2.2.1 (xin ho) (xty c0) (xty_ok ho) (xnm ho) hC.2.2.2.1 hC.2.2.2.2.2.2.1 hP hD hS q0 hq (xcl_vw ho) f hf (hC.2.2.2.2.1 _ hl) (fun _ h9 => h9) hfin (by rw [xty_ok ho f hf, xty_0 c0 ho f hf hk]) rfl rfl (by simp; exact hf) hd (fun H1 locs1 hP1 hD1 hS1 => ?_)
  rw [← hn]
  have e1 : (xws ρ cy RM RL).set q0 (ρ t j, .inr (c0, ((List.range (xN c0)).map (xfv ρ RM RL t j)).set f (.int x))) = xws ρ cy (rupI RM t j f x) RL := by
    refine xset (r := (t, j)) hq0 (fun y hy => rupI_ne hy) (fun y hy => rfl) ?_
    rw [xcell_obj hc, xfv_I hc hf hk]
  rw [e1] at hP1
  exact h p l e R s m args below meth c D ρ cy aK aV A Z hC hX (rupI RM t j f x) RL H1 locs1 ls _ (by rw [xabs_I (by rw [xisL_obj hc hk]; rfl), hM, hx]) hP1 hS1 hL hR
theorem J_putL {i : XMI} {ct : List XE} {K : Option XV → XM → Prop} {k pc : Nat} {L : List (Option XV)} {r : List XV} {M : XM} {t : Nat} {j : Fin 5} {c0 f idx : Nat} {z : Int} (hc : xcl t = some c0) (hk : xkd c0 f = 1) (ho : c0 < 5) (hf : f < xN c0) (hfin : (xT c0 f).2.2.2 = false) (hl : .fieldLink (mOwn i) idx (xT c0 f).1 (xT c0 f).2.1 (xT c0 f).2.2.1 ∈ xgt) (hpc : xpc ct k = pc) (hn : xpc ct (k + 1) = pc + 3) (hd : decode (mC i) pc = .ok (.putfield idx, 3)) (h : J i ct K (k + 1) L r (xup M t j f z)) : J i ct K k L (xL z :: xR t j :: r) M := by
  intro p l e R s m args below meth c D ρ cy aK aV A Z hC hX RM RL H locs ls rs hM hP hS hL hR
  rw [hpc]
  obtain ⟨w0, rs0, rfl, ⟨x, rfl, hx⟩, w, rs2, rfl, ⟨rfl, hin⟩, hR⟩ := hR
  obtain ⟨q0, hq0, hq⟩ := xat (ρ := ρ) (cy := cy) (RM := RM) (RL := RL) hin
  rw [xcell_obj hc] at hq
  have hD := hC.2.2.2.2.2.2.2.1 RM RL
  refine va_put (ws := xws ρ cy RM RL) (C := xC c0) (T := xT c0) (N := xN c0) (v := .long x) (ty := .long) hC.1 hC.2.1 hC.2.2.2.2.1 (xin ho) (xty c0) (xty_ok ho) (xnm ho) hC.2.2.2.1 hC.2.2.2.2.2.2.1 hP hD hS q0 hq (xcl_vw ho) f hf (hC.2.2.2.2.1 _ hl) (fun _ h9 => h9) hfin (by rw [xty_ok ho f hf, xty_1 c0 ho f hf hk]) rfl rfl (by simp; exact hf) hd (fun H1 locs1 hP1 hD1 hS1 => ?_)
  rw [← hn]
  have e1 : (xws ρ cy RM RL).set q0 (ρ t j, .inr (c0, ((List.range (xN c0)).map (xfv ρ RM RL t j)).set f (.long x))) = xws ρ cy RM (rupL RL t j f x) := by
    refine xset (r := (t, j)) hq0 (fun y hy => rfl) (fun y hy => rupL_ne hy) ?_
    rw [xcell_obj hc, xfv_L hc hf hk]
  rw [e1] at hP1
  exact h p l e R s m args below meth c D ρ cy aK aV A Z hC hX RM (rupL RL t j f x) H1 locs1 ls _ (by rw [xabs_L (by rw [xisL_obj hc hk]; rfl), hM, hx]) hP1 hS1 hL hR
theorem J_iald {i : XMI} {ct : List XE} {K : Option XV → XM → Prop} {k pc : Nat} {L : List (Option XV)} {r : List XV} {M : XM} {t : Nat} {j : Fin 5} {n : Nat} {a : Int} (ha : xar t = some (0, n)) (hi : 0 ≤ a ∧ a < (n : Int)) (hpc : xpc ct k = pc) (hn : xpc ct (k + 1) = pc + 1) (hd : decode (mC i) pc = .ok (.iaload, 1)) (h : J i ct K (k + 1) L (xI (M t j a.toNat) :: r) M) : J i ct K k L (xI a :: xR t j :: r) M := by
  intro p l e R s m args below meth c D ρ cy aK aV A Z hC hX RM RL H locs ls rs hM hP hS hL hR
  rw [hpc]
  obtain ⟨w0, rs0, rfl, ⟨x, rfl, hx⟩, w, rs2, rfl, ⟨rfl, hin⟩, hR⟩ := hR
  obtain ⟨q0, hq0, hq⟩ := xat (ρ := ρ) (cy := cy) (RM := RM) (RL := RL) hin
  rw [xcell_row ha (by decide)] at hq
  subst hx
  refine va_iald (ws := xws ρ cy RM RL) hC.1 hC.2.1 hC.2.2.2.2.2.2.1 hP q0 0 hq rfl (x_in hi) hd ?_
  rw [← hn]
  exact h p l e R s m args below meth c D ρ cy aK aV A Z hC hX RM RL H locs ls _ hM hP hS hL ⟨_, _, rfl, ⟨_, rfl, by rw [← hM]; unfold xabs; rw [xisL_row ha (by decide)]; rfl⟩, hR⟩
theorem J_zald {i : XMI} {ct : List XE} {K : Option XV → XM → Prop} {k pc : Nat} {L : List (Option XV)} {r : List XV} {M : XM} {t : Nat} {j : Fin 5} {n : Nat} {a : Int} (ha : xar t = some (1, n)) (hi : 0 ≤ a ∧ a < (n : Int)) (hpc : xpc ct k = pc) (hn : xpc ct (k + 1) = pc + 1) (hd : decode (mC i) pc = .ok (.baload, 1)) (h : J i ct K (k + 1) L (xI (M t j a.toNat) :: r) M) : J i ct K k L (xI a :: xR t j :: r) M := by
  intro p l e R s m args below meth c D ρ cy aK aV A Z hC hX RM RL H locs ls rs hM hP hS hL hR
  rw [hpc]
  obtain ⟨w0, rs0, rfl, ⟨x, rfl, hx⟩, w, rs2, rfl, ⟨rfl, hin⟩, hR⟩ := hR
  obtain ⟨q0, hq0, hq⟩ := xat (ρ := ρ) (cy := cy) (RM := RM) (RL := RL) hin
  rw [xcell_row ha (by decide)] at hq
  subst hx
  refine va_zald (ws := xws ρ cy RM RL) hC.1 hC.2.1 hC.2.2.2.2.2.2.1 hP q0 1 hq rfl (x_in hi) hd ?_
  rw [← hn]
  exact h p l e R s m args below meth c D ρ cy aK aV A Z hC hX RM RL H locs ls _ hM hP hS hL ⟨_, _, rfl, ⟨_, rfl, by rw [← hM]; unfold xabs; rw [xisL_row ha (by decide)]; rfl⟩, hR⟩
theorem J_bald {i : XMI} {ct : List XE} {K : Option XV → XM → Prop} {k pc : Nat} {L : List (Option XV)} {r : List XV} {M : XM} {t : Nat} {j : Fin 5} {n : Nat} {a : Int} (ha : xar t = some (2, n)) (hi : 0 ≤ a ∧ a < (n : Int)) (hpc : xpc ct k = pc) (hn : xpc ct (k + 1) = pc + 1) (hd : decode (mC i) pc = .ok (.baload, 1)) (h : J i ct K (k + 1) L (xI (M t j a.toNat) :: r) M) : J i ct K k L (xI a :: xR t j :: r) M := by
  intro p l e R s m args below meth c D ρ cy aK aV A Z hC hX RM RL H locs ls rs hM hP hS hL hR
  rw [hpc]
  obtain ⟨w0, rs0, rfl, ⟨x, rfl, hx⟩, w, rs2, rfl, ⟨rfl, hin⟩, hR⟩ := hR
  obtain ⟨q0, hq0, hq⟩ := xat (ρ := ρ) (cy := cy) (RM := RM) (RL := RL) hin
  rw [xcell_row ha (by decide)] at hq
  subst hx
  refine va_bald (ws := xws ρ cy RM RL) hC.1 hC.2.1 hC.2.2.2.2.2.2.1 hP q0 2 hq rfl (x_in hi) hd ?_
  rw [← hn]
  exact h p l e R s m args below meth c D ρ cy aK aV A Z hC hX RM RL H locs ls _ hM hP hS hL ⟨_, _, rfl, ⟨_, rfl, by rw [← hM]; unfold xabs; rw [xisL_row ha (by decide)]; rfl⟩, hR⟩
theorem J_lald {i : XMI} {ct : List XE} {K : Option XV → XM → Prop} {k pc : Nat} {L : List (Option XV)} {r : List XV} {M : XM} {t : Nat} {j : Fin 5} {n : Nat} {a : Int} (ha : xar t = some (3, n)) (hi : 0 ≤ a ∧ a < (n : Int)) (hpc : xpc ct k = pc) (hn : xpc ct (k + 1) = pc + 1) (hd : decode (mC i) pc = .ok (.laload, 1)) (h : J i ct K (k + 1) L (xL (M t j a.toNat) :: r) M) : J i ct K k L (xI a :: xR t j :: r) M := by
  intro p l e R s m args below meth c D ρ cy aK aV A Z hC hX RM RL H locs ls rs hM hP hS hL hR
  rw [hpc]
  obtain ⟨w0, rs0, rfl, ⟨x, rfl, hx⟩, w, rs2, rfl, ⟨rfl, hin⟩, hR⟩ := hR
  obtain ⟨q0, hq0, hq⟩ := xat (ρ := ρ) (cy := cy) (RM := RM) (RL := RL) hin
  rw [xcell_rowL ha] at hq
  subst hx
  refine va_lald (ws := xws ρ cy RM RL) hC.1 hC.2.1 hC.2.2.2.2.2.2.1 hP q0 3 hq rfl (x_in hi) hd ?_
  rw [← hn]
  exact h p l e R s m args below meth c D ρ cy aK aV A Z hC hX RM RL H locs ls _ hM hP hS hL ⟨_, _, rfl, ⟨_, rfl, by rw [← hM]; unfold xabs; rw [xisL_rowL ha]; rfl⟩, hR⟩
theorem J_iast {i : XMI} {ct : List XE} {K : Option XV → XM → Prop} {k pc : Nat} {L : List (Option XV)} {r : List XV} {M : XM} {t : Nat} {j : Fin 5} {n : Nat} {b z : Int} (ha : xar t = some (0, n)) (hi : 0 ≤ b ∧ b < (n : Int)) (hpc : xpc ct k = pc) (hn : xpc ct (k + 1) = pc + 1) (hd : decode (mC i) pc = .ok (.iastore, 1)) (h : J i ct K (k + 1) L r (xup M t j b.toNat z)) : J i ct K k L (xI z :: xI b :: xR t j :: r) M := by
  intro p l e R s m args below meth c D ρ cy aK aV A Z hC hX RM RL H locs ls rs hM hP hS hL hR
  rw [hpc]
  obtain ⟨wz, rsz, rfl, ⟨x, rfl, hx⟩, w0, rs0, rfl, ⟨a, rfl, ha0⟩, w, rs2, rfl, ⟨rfl, hin⟩, hR⟩ := hR
  obtain ⟨q0, hq0, hq⟩ := xat (ρ := ρ) (cy := cy) (RM := RM) (RL := RL) hin
  rw [xcell_row ha (by decide)] at hq
  subst ha0
  have hD := hC.2.2.2.2.2.2.2.1 RM RL
  refine va_iast (ws := xws ρ cy RM RL) hC.1 hC.2.1 hC.2.2.2.2.2.2.1 hP hD hS q0 0 hq rfl (x_in hi) hd (fun H1 locs1 hP1 hD1 hS1 => ?_)
  rw [← hn]
  have e1 : (xws ρ cy RM RL).set q0 (ρ t j, .inl (cy 0, n, .inl (upd (RM t j) a.toNatClampNeg (x)))) = xws ρ cy (rupI RM t j a.toInt.toNat (x)) RL := by
    refine xset (r := (t, j)) hq0 (fun y hy => rupI_ne hy) (fun y hy => rfl) ?_
    rw [xcell_row ha (by decide)]
    congr 4
    funext y
    simp only [upd, rupI, true_and]
    rfl
  rw [e1] at hP1
  exact h p l e R s m args below meth c D ρ cy aK aV A Z hC hX (rupI RM t j a.toInt.toNat (x)) RL H1 locs1 ls _ (by rw [xabs_I (xisL_row ha (by decide)), hM, ← hx]) hP1 hS1 hL hR
theorem J_zast {i : XMI} {ct : List XE} {K : Option XV → XM → Prop} {k pc : Nat} {L : List (Option XV)} {r : List XV} {M : XM} {t : Nat} {j : Fin 5} {n : Nat} {b z : Int} (ha : xar t = some (1, n)) (hi : 0 ≤ b ∧ b < (n : Int)) (hpc : xpc ct k = pc) (hn : xpc ct (k + 1) = pc + 1) (hd : decode (mC i) pc = .ok (.bastore, 1)) (h : J i ct K (k + 1) L r (xup M t j b.toNat (bAnd z 1))) : J i ct K k L (xI z :: xI b :: xR t j :: r) M := by
  intro p l e R s m args below meth c D ρ cy aK aV A Z hC hX RM RL H locs ls rs hM hP hS hL hR
  rw [hpc]
  obtain ⟨wz, rsz, rfl, ⟨x, rfl, hx⟩, w0, rs0, rfl, ⟨a, rfl, ha0⟩, w, rs2, rfl, ⟨rfl, hin⟩, hR⟩ := hR
  obtain ⟨q0, hq0, hq⟩ := xat (ρ := ρ) (cy := cy) (RM := RM) (RL := RL) hin
  rw [xcell_row ha (by decide)] at hq
  subst ha0
  have hD := hC.2.2.2.2.2.2.2.1 RM RL
  refine va_zast (ws := xws ρ cy RM RL) hC.1 hC.2.1 hC.2.2.2.2.2.2.1 hP hD hS q0 1 hq rfl (x_in hi) hd (fun H1 locs1 hP1 hD1 hS1 => ?_)
  rw [← hn]
  have e1 : (xws ρ cy RM RL).set q0 (ρ t j, .inl (cy 1, n, .inl (upd (RM t j) a.toNatClampNeg (vp_nar .boolean x)))) = xws ρ cy (rupI RM t j a.toInt.toNat (vp_nar .boolean x)) RL := by
    refine xset (r := (t, j)) hq0 (fun y hy => rupI_ne hy) (fun y hy => rfl) ?_
    rw [xcell_row ha (by decide)]
    congr 4
    funext y
    simp only [upd, rupI, true_and]
    rfl
  rw [e1] at hP1
  exact h p l e R s m args below meth c D ρ cy aK aV A Z hC hX (rupI RM t j a.toInt.toNat (vp_nar .boolean x)) RL H1 locs1 ls _ (by rw [xabs_I (xisL_row ha (by decide)), hM, ← hx]; rw [bAnd_def, o32]; rfl) hP1 hS1 hL hR
theorem J_bast {i : XMI} {ct : List XE} {K : Option XV → XM → Prop} {k pc : Nat} {L : List (Option XV)} {r : List XV} {M : XM} {t : Nat} {j : Fin 5} {n : Nat} {b z : Int} (ha : xar t = some (2, n)) (hi : 0 ≤ b ∧ b < (n : Int)) (hpc : xpc ct k = pc) (hn : xpc ct (k + 1) = pc + 1) (hd : decode (mC i) pc = .ok (.bastore, 1)) (h : J i ct K (k + 1) L r (xup M t j b.toNat (bByte z))) : J i ct K k L (xI z :: xI b :: xR t j :: r) M := by
  intro p l e R s m args below meth c D ρ cy aK aV A Z hC hX RM RL H locs ls rs hM hP hS hL hR
  rw [hpc]
  obtain ⟨wz, rsz, rfl, ⟨x, rfl, hx⟩, w0, rs0, rfl, ⟨a, rfl, ha0⟩, w, rs2, rfl, ⟨rfl, hin⟩, hR⟩ := hR
  obtain ⟨q0, hq0, hq⟩ := xat (ρ := ρ) (cy := cy) (RM := RM) (RL := RL) hin
  rw [xcell_row ha (by decide)] at hq
  subst ha0
  have hD := hC.2.2.2.2.2.2.2.1 RM RL
  refine va_bast (ws := xws ρ cy RM RL) hC.1 hC.2.1 hC.2.2.2.2.2.2.1 hP hD hS q0 2 hq rfl (x_in hi) hd (fun H1 locs1 hP1 hD1 hS1 => ?_)
  rw [← hn]
  have e1 : (xws ρ cy RM RL).set q0 (ρ t j, .inl (cy 2, n, .inl (upd (RM t j) a.toNatClampNeg (vp_nar .byte x)))) = xws ρ cy (rupI RM t j a.toInt.toNat (vp_nar .byte x)) RL := by
    refine xset (r := (t, j)) hq0 (fun y hy => rupI_ne hy) (fun y hy => rfl) ?_
    rw [xcell_row ha (by decide)]
    congr 4
    funext y
    simp only [upd, rupI, true_and]
    rfl
  rw [e1] at hP1
  exact h p l e R s m args below meth c D ρ cy aK aV A Z hC hX (rupI RM t j a.toInt.toNat (vp_nar .byte x)) RL H1 locs1 ls _ (by rw [xabs_I (xisL_row ha (by decide)), hM, ← hx]; rw [bByte_def, o32]; rfl) hP1 hS1 hL hR
theorem J_last {i : XMI} {ct : List XE} {K : Option XV → XM → Prop} {k pc : Nat} {L : List (Option XV)} {r : List XV} {M : XM} {t : Nat} {j : Fin 5} {n : Nat} {b z : Int} (ha : xar t = some (3, n)) (hi : 0 ≤ b ∧ b < (n : Int)) (hpc : xpc ct k = pc) (hn : xpc ct (k + 1) = pc + 1) (hd : decode (mC i) pc = .ok (.lastore, 1)) (h : J i ct K (k + 1) L r (xup M t j b.toNat z)) : J i ct K k L (xL z :: xI b :: xR t j :: r) M := by
  intro p l e R s m args below meth c D ρ cy aK aV A Z hC hX RM RL H locs ls rs hM hP hS hL hR
  rw [hpc]
  obtain ⟨wz, rsz, rfl, ⟨x, rfl, hx⟩, w0, rs0, rfl, ⟨a, rfl, ha0⟩, w, rs2, rfl, ⟨rfl, hin⟩, hR⟩ := hR
  obtain ⟨q0, hq0, hq⟩ := xat (ρ := ρ) (cy := cy) (RM := RM) (RL := RL) hin
  rw [xcell_rowL ha] at hq
  subst ha0
  have hD := hC.2.2.2.2.2.2.2.1 RM RL
  refine va_last (ws := xws ρ cy RM RL) hC.1 hC.2.1 hC.2.2.2.2.2.2.1 hP hD hS q0 3 hq rfl (x_in hi) hd (fun H1 locs1 hP1 hD1 hS1 => ?_)
  rw [← hn]
  have e1 : (xws ρ cy RM RL).set q0 (ρ t j, .inl (cy 3, n, .inr (.inl (vp_updL (RL t j) a.toNatClampNeg (x))))) = xws ρ cy RM (rupL RL t j a.toInt.toNat (x)) := by
    refine xset (r := (t, j)) hq0 (fun y hy => rfl) (fun y hy => rupL_ne hy) ?_
    rw [xcell_rowL ha]
    congr 5
    funext y
    simp only [vp_updL, rupL, true_and]
    rfl
  rw [e1] at hP1
  exact h p l e R s m args below meth c D ρ cy aK aV A Z hC hX RM (rupL RL t j a.toInt.toNat (x)) H1 locs1 ls _ (by rw [xabs_L (xisL_rowL ha), hM, ← hx]) hP1 hS1 hL hR
theorem J_alen {i : XMI} {ct : List XE} {K : Option XV → XM → Prop} {k pc : Nat} {L : List (Option XV)} {r : List XV} {M : XM} {t : Nat} {j : Fin 5} {ty n : Nat} (ha : xar t = some (ty, n)) (hty : ty < 4) (hsm : n < 2147483648) (hpc : xpc ct k = pc) (hn : xpc ct (k + 1) = pc + 1) (hd : decode (mC i) pc = .ok (.arraylength, 1)) (h : J i ct K (k + 1) L (xI (n : Nat) :: r) M) : J i ct K k L (xR t j :: r) M := by
  intro p l e R s m args below meth c D ρ cy aK aV A Z hC hX RM RL H locs ls rs hM hP hS hL hR
  rw [hpc]
  obtain ⟨w, rs2, rfl, ⟨rfl, hin⟩, hR⟩ := hR
  obtain ⟨q0, hq0, hq⟩ := xat (ρ := ρ) (cy := cy) (RM := RM) (RL := RL) hin
  have ht : ∃ ft, (xtys cy)[ty]? = some (cy ty, ft) := by
    match ty, hty with
    | 0, _ => exact ⟨_, rfl⟩
    | 1, _ => exact ⟨_, rfl⟩
    | 2, _ => exact ⟨_, rfl⟩
    | 3, _ => exact ⟨_, rfl⟩
  obtain ⟨ft, hft⟩ := ht
  have hcell : ∃ u, xcell ρ cy RM RL (t, j) = .inl (cy ty, n, u) := by
    unfold xcell
    simp only [ha]
    exact ⟨_, rfl⟩
  obtain ⟨u, hu⟩ := hcell
  rw [hu] at hq
  refine va_alen (ws := xws ρ cy RM RL) hC.1 hC.2.1 hC.2.2.2.2.2.2.1 hP q0 ty hq hft rfl hd ?_
  rw [← hn]
  exact h p l e R s m args below meth c D ρ cy aK aV A Z hC hX RM RL H locs ls _ hM hP hS hL ⟨_, _, rfl, ⟨_, rfl, nI_toInt hsm⟩, hR⟩
theorem okSw_at {ct : List XE} {pc : Nat} {f : Nat → Prop} {d : Nat} : ∀ (os : List Int) (ts : List Nat) (lo z : Int), okSw ct pc os ts = true → xsw ts d lo z f → ((z < lo ∨ lo + (os.length : Int) ≤ z) → f d) ∧ (lo ≤ z → z < lo + (os.length : Int) → ∃ (o : Int) (t : Nat), os[(z - lo).toNat]? = some o ∧ (pc : Int) + o = (xpc ct t : Int) ∧ f t)
  | [], [], lo, z, _, h => ⟨fun _ => h, fun h1 h2 => by simp at h2; omega⟩
  | [], _ :: _, _, _, h, _ => by simp [okSw] at h
  | _ :: _, [], _, _, h, _ => by simp [okSw] at h
  | o :: os, t :: ts, lo, z, hk, h => by
    simp only [okSw, Bool.and_eq_true] at hk
    obtain ⟨h1, h2⟩ := h
    have hj := of_decide_eq_true hk.1
    refine ⟨fun hz => ?_, fun hz1 hz2 => ?_⟩
    · have hne : ¬ z = lo := by
        rintro rfl
        rcases hz with hz | hz
        · omega
        · simp only [List.length_cons] at hz; omega
      refine (okSw_at os ts (lo + 1) z hk.2 (h2 hne)).1 ?_
      simp only [List.length_cons] at hz
      omega
    · by_cases hzl : z = lo
      · subst hzl
        exact ⟨o, t, by simp, hj, h1 rfl⟩
      · obtain ⟨o', t', a1, a2, a3⟩ := (okSw_at os ts (lo + 1) z hk.2 (h2 hzl)).2 (by omega) (by simp only [List.length_cons] at hz2; omega)
        refine ⟨o', t', ?_, a2, a3⟩
        rw [show (z - lo).toNat = (z - (lo + 1)).toNat + 1 by omega, List.getElem?_cons_succ]
        exact a1
theorem J_tsw {i : XMI} {ct : List XE} {K : Option XV → XM → Prop} {k pc : Nat} {L : List (Option XV)} {r : List XV} {M : XM} {a d lo hi : Int} {offs : Array Int} {t len : Nat} {ts : List Nat} (hpc : xpc ct k = pc) (hj : (pc : Int) + d = (xpc ct t : Int)) (hs : okSw ct pc offs.toList ts = true) (hh : hi + 1 = lo + (offs.toList.length : Int)) (hd : decode (mC i) pc = .ok (.tableswitch d lo hi offs, len)) (h : xsw ts t lo a (fun t => J i ct K t L r M)) : J i ct K k L (xI a :: r) M := by
  intro p l e R s m args below meth c D ρ cy aK aV A Z hC hX RM RL H locs ls rs hM hP hS hL hR
  rw [hpc]
  obtain ⟨w, rs2, rfl, ⟨x, rfl, hx⟩, hR⟩ := hR
  obtain ⟨h1, h2⟩ := okSw_at offs.toList ts lo a hs h
  by_cases hz : a < lo ∨ hi < a
  · exact lv_tableOut hC.1 hC.2.1 hd (by rw [hx]; exact hz) hj (h1 (by omega) p l e R s m args below meth c D ρ cy aK aV A Z hC hX RM RL H locs ls _ hM hP hS hL hR)
  · obtain ⟨o, t', a1, a2, a3⟩ := h2 (by omega) (by omega)
    exact lv_tableIn hC.1 hC.2.1 hd (by rw [hx]; omega) (by rw [hx]; omega) (by rw [hx, ← Array.getElem?_toList]; exact a1) a2 (a3 p l e R s m args below meth c D ρ cy aK aV A Z hC hX RM RL H locs ls _ hM hP hS hL hR)
/-! calls -/
theorem xSR_app {ρ : Nat → Fin 5 → Nat} : ∀ (a : List XV) (ra : List Value) (b : List XV) (rb : List Value), xSR ρ a ra → xSR ρ b rb → xSR ρ (a ++ b) (ra ++ rb)
  | [], ra, b, rb, h, hb => by cases h; exact hb
  | v :: a, ra, b, rb, h, hb => by
    obtain ⟨w, ws, rfl, hv, h⟩ := h
    exact ⟨w, ws ++ rb, rfl, hv, xSR_app a ws b rb h hb⟩
theorem xSR_rev {ρ : Nat → Fin 5 → Nat} : ∀ (a : List XV) (ra : List Value), xSR ρ a ra → xSR ρ a.reverse ra.reverse
  | [], ra, h => by cases h; exact rfl
  | v :: a, ra, h => by
    obtain ⟨w, ws, rfl, hv, h⟩ := h
    rw [List.reverse_cons, List.reverse_cons]
    exact xSR_app _ _ _ _ (xSR_rev a ws h) ⟨w, [], rfl, hv, rfl⟩
theorem xSR_len {ρ : Nat → Fin 5 → Nat} : ∀ (a : List XV) (ra : List Value), xSR ρ a ra → ra.length = a.length
  | [], ra, h => by cases h; rfl
  | v :: a, ra, h => by
    obtain ⟨w, ws, rfl, hv, h⟩ := h
    simp [xSR_len a ws h]
theorem xSR_td {ρ : Nat → Fin 5 → Nat} : ∀ (n : Nat) (a : List XV) (ra : List Value), xSR ρ a ra → xSR ρ (a.take n) (ra.take n) ∧ xSR ρ (a.drop n) (ra.drop n)
  | 0, a, ra, h => ⟨rfl, h⟩
  | n + 1, [], ra, h => by cases h; exact ⟨rfl, rfl⟩
  | n + 1, v :: a, ra, h => by
    obtain ⟨w, ws, rfl, hv, h⟩ := h
    have ih := xSR_td n a ws h
    exact ⟨⟨w, ws.take n, rfl, hv, ih.1⟩, ih.2⟩
theorem xSR_sum {ρ : Nat → Fin 5 → Nat} : ∀ (a : List XV) (ra : List Value), xSR ρ a ra → (ra.map fun v => v.category).sum = (a.map xcat).sum
  | [], ra, h => by cases h; rfl
  | v :: a, ra, h => by
    obtain ⟨w, ws, rfl, hv, h⟩ := h
    simp only [List.map_cons, List.sum_cons, xSR_sum a ws h, xcat_rel hv]
theorem xcall_sp {ρ : Nat → Fin 5 → Nat} {n : Nat} {st : List XV} {rs : List Value} (hn : n ≤ st.length) (h : xSR ρ st rs) : ∃ ra rr, rs = ra.reverse ++ rr ∧ xSR ρ (st.take n).reverse ra ∧ xSR ρ (st.drop n) rr ∧ ra.length = n := by
  obtain ⟨h1, h2⟩ := xSR_td n st rs h
  refine ⟨(rs.take n).reverse, rs.drop n, by rw [List.reverse_reverse, List.take_append_drop], xSR_rev _ _ h1, h2, ?_⟩
  rw [List.length_reverse, xSR_len _ _ h1, List.length_take]
  omega
theorem xPc_blind {D : va_G} {ρ : Nat → Fin 5 → Nat} {cy : Nat → ClassId} {aK aV : Nat → Nat} {RM : Nat → Fin 5 → Nat → Int32} {RL : Nat → Fin 5 → Nat → Int64} {sz : Nat} {ra : List Value} : FrameBlind (xPc D ρ cy aK aV RM RL sz ra) := by
  intro a U g mk q
  obtain ⟨q0, q1, qP, qK, qD, qE⟩ := q
  exact ⟨q0, q1, qP, va_K.moved (u := U) (U := U.calling g mk a) (Vm.Alike.refl U.vm) qK, qD, qE.same rfl⟩
theorem xA_sub {ρ : Nat → Fin 5 → Nat} {cy : Nat → ClassId} {A : Nat → Prop} {s : State} {H : Heap} {locs : List Loc} {RM : Nat → Fin 5 → Nat → Int32} {RL : Nat → Fin 5 → Nat → Int64} (hD : va_D A (xws ρ cy RM RL)) (hS : va_S A s.heap H locs) (hA : ∀ q, s.heap.size ≤ q → A q) : ∀ q, xA ρ H.size q → A q := by
  rintro q (⟨r, hr, rfl⟩ | hq)
  · obtain ⟨q0, -, hq⟩ := xat (ρ := ρ) (cy := cy) (RM := RM) (RL := RL) hr
    exact hD.2 q0 _ hq
  · exact hA q (Nat.le_trans hS.1 hq)
theorem xPc_of {D : va_G} {ρ : Nat → Fin 5 → Nat} {cy : Nat → ClassId} {aK aV : Nat → Nat} {A : Nat → Prop} {RM : Nat → Fin 5 → Nat → Int32} {RL : Nat → Fin 5 → Nat → Int64} {s : State} {H : Heap} {locs : List Loc} {ra : List Value} (hK : va_K D vwCl (xtys cy) s) (hD : va_D A (xws ρ cy RM RL)) (hE : xE A aK aV s s.heap) (hA : ∀ q, s.heap.size ≤ q → A q) (hP : va_P D vwCl (xws ρ cy RM RL) H) (hS : va_S A s.heap H locs) : ∀ U : State, U.heap = H → s.WarmedH U.vm → xPc D ρ cy aK aV RM RL H.size ra ra.toArray U := by
  intro U hU hW
  refine ⟨rfl, by rw [hU], by rw [hU]; exact hP, va_K.moved hW.alike hK, hD.weaken (fun _ _ _ _ => trivial), ?_⟩
  rw [hU]
  exact ((hE.kept hS.2.1).narrow (xA_sub hD hS hA)).warm hW
theorem x_cont {p : Program} {l : Launch} {e : Env} {R : Room} {s : State} {m : MethodId} {args : Array Value} {below : List Frame} {meth : Method} {c : Code} {H : Heap} {locs : List Loc} {Z : State → Prop} {D : va_G} {ρ : Nat → Fin 5 → Nat} {cy : Nat → ClassId} {A A1 free : Nat → Prop} {Q : Option XV → XM → Prop} {pc : Nat} {ls : Array Slot} {st0 rest : List Value} {a : Array Value} (hr : va_Run p l e R s m args below meth c H locs 0 0 0 0 (F0 m pc ls st0) rest (xQc D ρ cy A1 Q a) free) (hS : va_S A s.heap H locs) (hA : ∀ q, A1 q → A q) (hf : ∀ q, free q → A q)
    (kk : ∀ (r : Option XV) (v : Option Value) (RM : Nat → Fin 5 → Nat → Int32) (RL : Nat → Fin 5 → Nat → Int64) (H1 : Heap) (locs1 : List Loc), xOR ρ r v → Q r (xabs RM RL) → va_P D vwCl (xws ρ cy RM RL) H1 → va_S A s.heap H1 locs1 → W p l e R s m args below meth c H1 locs1 0 0 Z (F0 m (pc + 3) ls (v.toList ++ rest))) : W p l e R s m args below meth c H locs 0 0 Z (F0 m pc ls st0) := by
  intro T hT X
  obtain ⟨v, st₀, t, T', L, h0, X', hL, e1, e2, ⟨⟨r, v', RM, RL, hv, hor, hq, hP⟩, hz, hk⟩, st⟩ := hr T hT X
  cases hv
  rw [h0] at hz hk
  obtain ⟨t2, a1, b1⟩ := kk r v RM RL T'.heap (locs ++ L) hor hq (by rw [e1]; exact hP)
    ⟨Nat.le_trans hS.1 (by rw [e1]; exact hz), fun q h1 h2 => by rw [e1, hk q (Nat.lt_of_lt_of_le h1 hS.1) (fun z => h2 (hA q z))]; exact hS.2.1 q h1 h2, fun q hq => by
      rcases List.mem_append.mp hq with h | h
      · exact hS.2.2 q h
      · exact hf _ (hL q h)⟩ T' rfl X'
  exact ⟨t2, st t2 a1, b1⟩
theorem mW_good {i' : XMI} (h : xgood i') : GoodIn xgt (mW i') := by
  intro w hw
  rcases List.mem_cons.mp hw with rfl | hw
  · exact xgt_self _ h.1
  · exact xgt_self _ hw
theorem xpush_SR {ρ : Nat → Fin 5 → Nat} {v : Option XV} {w : Option Value} {r : List XV} {rr : List Value} (h : xOR ρ v w) (hr : xSR ρ r rr) : xSR ρ (xpush v r) (w.toList ++ rr) := by
  cases v with
  | none => cases h; exact hr
  | some u => obtain ⟨x, rfl, hx⟩ := h; exact ⟨x, rr, rfl, hx, hr⟩
theorem J_cS {i : XMI} {ct : List XE} {K : Option XV → XM → Prop} {k pc : Nat} {L : List (Option XV)} {st : List XV} {M : XM} {i' : XMI} {n idx : Nat} (hn0 : n ≤ st.length) (hsum : ((st.drop n).map xcat).sum ≤ 8) (hF : mF i' + 1 ≤ mF i) (hO : 8 + (mL i' + 11) + mO i' ≤ mO i) (hdesc : (parseMethodDescriptor (mY i').desc).map (fun d => d.parameters.length) = some n) (hst : .static (mY i') ∈ xgt) (hini : .initialized (mY i').cls ∈ xgt) (hl : .methodLink (mOwn i) idx (mY i') ∈ xgt) (hpc : xpc ct k = pc) (hn : xpc ct (k + 1) = pc + 3) (hd : decode (mC i) pc = .ok (.invokestatic idx, 3)) (h : CW i' (st.take n).reverse M fun v M' => J i ct K (k + 1) L (xpush v (st.drop n)) M') : J i ct K k L st M := by
  intro p l e R s m args below meth c D ρ cy aK aV A Z hC hX RM RL H locs ls rs hM hP hS hL hR
  rw [hpc]
  obtain ⟨ra, rr, rfl, hra, hrr, hlen⟩ := xcall_sp hn0 hR
  have hD := hC.2.2.2.2.2.2.2.1 RM RL
  have hts := hC.2.2.2.2.1
  have hsub := xA_sub hD hS hC.2.2.2.2.2.2.2.2.2
  have hm := h.2 l D ρ cy aK aV RM RL H.size ra hM hra
  obtain ⟨lv, hl0, -⟩ := id hL
  refine x_cont (va_runS (n := n) (rest := rr) ⟨hC.1, hC.2.1, hC.2.2.1, hC.2.2.2.1, hts⟩ hm ⟨callB_of n hts (mW_good h.1) rfl rfl rfl (hts _ hini) (hts _ hl) ⟨h.1.2.1, h.1.2.2, hdesc⟩ ⟨Nat.le_trans hF hC.2.2.2.2.2.1.1, Nat.le_trans hO hC.2.2.2.2.2.1.2⟩, hts _ hst⟩ ⟨xPc_blind, xPc_of hC.2.2.2.2.2.2.1 hD hC.2.2.2.2.2.2.2.2.1 hC.2.2.2.2.2.2.2.2.2 hP hS⟩ rfl hlen hl0.1 rfl (lv_room (by rw [xSR_sum _ _ hrr]; exact hsum)) hd ⟨Nat.zero_le _, Nat.zero_le _⟩) hS hsub hsub (fun v w RM' RL' H1 locs1 hor hq hP1 hS1 => ?_)
  rw [← hn]
  exact hq p l e R s m args below meth c D ρ cy aK aV A Z hC hX RM' RL' H1 locs1 ls _ rfl hP1 hS1 hL (xpush_SR hor hrr)
theorem J_cN {i : XMI} {ct : List XE} {K : Option XV → XM → Prop} {k pc : Nat} {L : List (Option XV)} {st : List XV} {M : XM} {i' : XMI} {n idx : Nat} (hn0 : n ≤ st.length) (hsum : ((st.drop n).map xcat).sum ≤ 8) (hF : mF i' + 1 ≤ mF i) (hO : 8 + (mL i' + 11) + mO i' ≤ mO i) (hdesc : (parseMethodDescriptor (mY i').desc).map (fun d => d.parameters.length) = some n) (hst : .static (mY i') ∈ xgt) (hini : .initialized (mY i').cls ∈ xgt) (hl : .methodLinkNest (mOwn i) idx (mY i') RX3 ∈ xnest) (hpc : xpc ct k = pc) (hn : xpc ct (k + 1) = pc + 3) (hd : decode (mC i) pc = .ok (.invokestatic idx, 3)) (h : CW i' (st.take n).reverse M fun v M' => J i ct K (k + 1) L (xpush v (st.drop n)) M') : J i ct K k L st M := by
  intro p l e R s m args below meth c D ρ cy aK aV A Z hC hX RM RL H locs ls rs hM hP hS hL hR
  rw [hpc]
  obtain ⟨ra, rr, rfl, hra, hrr, hlen⟩ := xcall_sp hn0 hR
  have hD := hC.2.2.2.2.2.2.2.1 RM RL
  have hts := hC.2.2.2.2.1
  have hsub := xA_sub hD hS hC.2.2.2.2.2.2.2.2.2
  have hm := h.2 l D ρ cy aK aV RM RL H.size ra hM hra
  obtain ⟨lv, hl0, -⟩ := id hL
  refine x_cont (va_runSN (n := n) (rest := rr) ⟨hC.1, hC.2.1, hC.2.2.1, hC.2.2.2.1, hts⟩ hm ⟨va_cnB n hts (mW_good h.1) rfl rfl rfl (hC.2.2.2.2.2.2.2.2.1.1 _ hl) (hts _ hini) ⟨h.1.2.1, h.1.2.2, hdesc⟩ ⟨Nat.le_trans hF hC.2.2.2.2.2.1.1, Nat.le_trans hO hC.2.2.2.2.2.1.2⟩, hts _ hst, trivial⟩ ⟨xPc_blind, xPc_of hC.2.2.2.2.2.2.1 hD hC.2.2.2.2.2.2.2.2.1 hC.2.2.2.2.2.2.2.2.2 hP hS⟩ rfl hlen hl0.1 rfl (lv_room (by rw [xSR_sum _ _ hrr]; exact hsum)) hd ⟨Nat.zero_le _, Nat.zero_le _⟩) hS hsub hsub (fun v w RM' RL' H1 locs1 hor hq hP1 hS1 => ?_)
  rw [← hn]
  exact hq p l e R s m args below meth c D ρ cy aK aV A Z hC hX RM' RL' H1 locs1 ls _ rfl hP1 hS1 hL (xpush_SR hor hrr)
theorem J_cV {i : XMI} {ct : List XE} {K : Option XV → XM → Prop} {k pc : Nat} {L : List (Option XV)} {st : List XV} {M : XM} {i' : XMI} {n idx : Nat} {t : Nat} {j : Fin 5} {as' : List XV} {c0 : Nat} (hn0 : n + 1 ≤ st.length) (hsum : ((st.drop (n + 1)).map xcat).sum ≤ 8) (has : (st.take (n + 1)).reverse = xR t j :: as') (hc : xcl t = some c0) (ho : c0 < 5) (hF : mF i' + 1 ≤ mF i) (hO : 8 + (mL i' + 11) + mO i' ≤ mO i) (hdesc : (parseMethodDescriptor (mY i').desc).map (fun d => d.parameters.length) = some n) (hcls : (mY i').cls = xC c0) (hin : .instanceMethod (mY i') ∈ xgt) (hini : .initialized (mY i').cls ∈ xgt) (hl : .methodLink (mOwn i) idx (mY i') ∈ xgt) (hsel : .selects (xC c0) (mY i') (mY i') ∈ xgt) (hpc : xpc ct k = pc) (hn : xpc ct (k + 1) = pc + 3) (hd : decode (mC i) pc = .ok (.invokevirtual idx, 3)) (h : CW i' (xR t j :: as') M fun v M' => J i ct K (k + 1) L (xpush v (st.drop (n + 1))) M') : J i ct K k L st M := by
  intro p l e R s m args below meth c D ρ cy aK aV A Z hC hX RM RL H locs ls rs hM hP hS hL hR
  rw [hpc]
  obtain ⟨ra, rr, rfl, hra, hrr, hlen⟩ := xcall_sp hn0 hR
  rw [has] at hra
  have hD := hC.2.2.2.2.2.2.2.1 RM RL
  have hts := hC.2.2.2.2.1
  have hsub := xA_sub hD hS hC.2.2.2.2.2.2.2.2.2
  have hm := h.2 l D ρ cy aK aV RM RL H.size ra hM hra
  obtain ⟨w, ra', rfl, ⟨rfl, hrin⟩, hra'⟩ := hra
  obtain ⟨lv, hl0, -⟩ := id hL
  obtain ⟨q0, -, hq0⟩ := xat (ρ := ρ) (cy := cy) (RM := RM) (RL := RL) hrin
  rw [xcell_obj hc] at hq0
  refine x_cont (va_runV (n := n) (As := ra') (b := ρ t j) (C := xC c0) (rest := rr) ⟨hC.1, hC.2.1, hC.2.2.1, hC.2.2.2.1, hts⟩ hm ⟨callB_of n hts (mW_good h.1) rfl rfl rfl (hts _ hini) (hts _ hl) ⟨h.1.2.1, h.1.2.2, hdesc⟩ ⟨Nat.le_trans hF hC.2.2.2.2.2.1.1, Nat.le_trans hO hC.2.2.2.2.2.1.2⟩, hts _ hin, hts _ hsel⟩ ⟨xPc_blind, va_recv hC.2.2.2.2.2.2.1 hP (xcl_vw ho) hq0, xPc_of hC.2.2.2.2.2.2.1 hD hC.2.2.2.2.2.2.2.2.1 hC.2.2.2.2.2.2.2.2.2 hP hS⟩ rfl (by simpa using hlen) hl0.1 (by simp) (lv_room (by rw [xSR_sum _ _ hrr]; exact hsum)) hd ⟨Nat.zero_le _, Nat.zero_le _⟩) hS hsub hsub (fun v w RM' RL' H1 locs1 hor hq hP1 hS1 => ?_)
  rw [← hn]
  exact hq p l e R s m args below meth c D ρ cy aK aV A Z hC hX RM' RL' H1 locs1 ls _ rfl hP1 hS1 hL (xpush_SR hor hrr)

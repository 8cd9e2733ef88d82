/-! ===== constructors: the model; the start ===== -/
section WC
variable {p : Program} {l : Launch} {e : Env} {R : Room} {s : State} {m : MethodId} {args : Array Value} {below : List Frame} {meth : Method} {c : Code} {H : Heap} {locs : List Loc} {Z : State → Prop} {D : va_G} {ρ : Nat → Fin 5 → Nat} {cy : Nat → ClassId} {aK aV : Nat → Nat} {A : Nat → Prop} {RM : Nat → Fin 5 → Nat → Int32} {RL : Nat → Fin 5 → Nat → Int64} {i' : XMI} {pc idx n cells slots nL : Nat} {ls : Array Slot} {rest : List Value} {cc : ByteArray} {own : String}
theorem w_cont {A1 free : Nat → Prop} {Q : Option XV → XM → Prop} {st0 : List Value} {a : Array Value} (hr : va_Run p l e R s m args below meth c H locs cells slots 0 0 (F0 m pc ls st0) rest (xQc D ρ cy A1 Q a) free) (hS : va_S A s.heap H locs) (hA : ∀ q, A1 q → A q) (hf : ∀ q, free q → A q)
    (kk : ∀ (r : Option XV) (v : Option Value) (RM : Nat → Fin 5 → Nat → Int32) (RL : Nat → Fin 5 → Nat → Int64) (H1 : Heap) (locs1 : List Loc), xOR ρ r v → Q r (xabs RM RL) → va_P D vwCl (xws ρ cy RM RL) H1 → va_S A s.heap H1 locs1 → W p l e R s m args below meth c H1 locs1 cells slots Z (F0 m (pc + 3) ls (v.toList ++ rest))) : W p l e R s m args below meth c H locs cells slots Z (F0 m pc ls st0) := by
  intro T hT X
  obtain ⟨v, st₀, t, T', L, h0, X', hL, e1, e2, ⟨⟨r, v', RM, RL, hv, hor, hq, hP⟩, hz, hk⟩, st⟩ := hr T hT X
  cases hv
  rw [h0] at hz hk
  obtain ⟨t2, a1, b1⟩ := kk r v RM RL T'.heap (locs ++ L) hor hq (by rw [e1]; exact hP)
    ⟨Nat.le_trans hS.1 (by rw [e1]; exact hz), fun q h1 h2 => by rw [e1, hk q (Nat.lt_of_lt_of_le h1 hS.1) (fun z => h2 (hA q z))]; exact hS.2.1 q h1 h2, fun q hq => by
      rcases List.mem_append.mp hq with h | h
      · exact hS.2.2 q h
      · exact hf _ (hL q h)⟩ T' rfl X'
  exact ⟨t2, st t2 a1, b1⟩
theorem w_cV {M : XM} {Q : Option XV → XM → Prop} {t c0 : Nat} {j : Fin 5} {as' : List XV} {ra : List Value} (hx : p.tables.exec = Jvm.exec) (hb : c.code = cc) (hml : c.maxLocals = nL) (hown : s.vm.findClass own = some m.cls) (hts : ∀ w ∈ xgt, w.before args s = true) (hK : va_K D vwCl (xtys cy) s) (hE : xE A aK aV s s.heap) (hA : ∀ q, s.heap.size ≤ q → A q) (h : CW i' (xR t j :: as') M Q) (hM : xabs RM RL = M) (hP : va_P D vwCl (xws ρ cy RM RL) H) (hD : va_D A (xws ρ cy RM RL)) (hS : va_S A s.heap H locs) (hra : xSR ρ as' ra) (hrin : (t, j) ∈ xtl) (hc : xcl t = some c0) (ho : c0 < 5) (hF : mF i' + 1 ≤ R.frames) (hO : 8 + (mL i' + 11) + mO i' ≤ R.locals) (hdesc : (parseMethodDescriptor (mY i').desc).map (fun d => d.parameters.length) = some n) (hlen : ra.length = n) (hin : .instanceMethod (mY i') ∈ xgt) (hini : .initialized (mY i').cls ∈ xgt) (hl : .methodLink own idx (mY i') ∈ xgt) (hsel : .selects (xC c0) (mY i') (mY i') ∈ xgt) (hsz : ls.size = nL) (hsum : (rest.map fun v => v.category).sum ≤ 8) (hcells : cells ≤ R.cells) (hslots : slots ≤ R.slots) (hd : decode cc pc = .ok (.invokevirtual idx, 3))
    (kk : ∀ (r : Option XV) (v : Option Value) (RM : Nat → Fin 5 → Nat → Int32) (RL : Nat → Fin 5 → Nat → Int64) (H1 : Heap) (locs1 : List Loc), xOR ρ r v → Q r (xabs RM RL) → va_P D vwCl (xws ρ cy RM RL) H1 → va_S A s.heap H1 locs1 → W p l e R s m args below meth c H1 locs1 cells slots Z (F0 m (pc + 3) ls (v.toList ++ rest))) : W p l e R s m args below meth c H locs cells slots Z (F0 m pc ls (ra.reverse ++ .ref (ρ t j) :: rest)) := by
  have hsub := xA_sub hD hS hA
  have hm := h.2 l D ρ cy aK aV RM RL H.size (.ref (ρ t j) :: ra) hM ⟨_, _, rfl, ⟨rfl, hrin⟩, hra⟩
  obtain ⟨q0, -, hq0⟩ := xat (ρ := ρ) (cy := cy) (RM := RM) (RL := RL) hrin
  rw [xcell_obj hc] at hq0
  exact w_cont (va_runV (n := n) (As := ra) (b := ρ t j) (C := xC c0) (rest := rest) ⟨hx, hb, hml, hown, hts⟩ hm ⟨callB_of n hts (mW_good h.1) rfl rfl rfl (hts _ hini) (hts _ hl) ⟨h.1.2.1, h.1.2.2, hdesc⟩ ⟨hF, hO⟩, hts _ hin, hts _ hsel⟩ ⟨xPc_blind, va_recv hK hP (xcl_vw ho) hq0, xPc_of hK hD hE hA hP hS⟩ rfl hlen hsz rfl (lv_room hsum) hd ⟨hcells, hslots⟩) hS hsub hsub kk
end WC
theorem k_midP {D : va_G} {cl : List vw_C} {x : Nat × va_E} {w1 w2 : va_W} {H : Heap} (h : va_P D cl (x :: (w1 ++ w2)) H) : va_P D cl (w1 ++ x :: w2) H := by
  intro k q hq
  have hm := List.mem_of_getElem? hq
  have hm2 : q ∈ x :: (w1 ++ w2) := by
    simp only [List.mem_append, List.mem_cons] at hm ⊢
    rcases hm with a | a | a
    · exact Or.inr (Or.inl a)
    · exact Or.inl a
    · exact Or.inr (Or.inr a)
  obtain ⟨k2, hk2⟩ := List.getElem?_of_mem hm2
  exact h k2 q hk2
theorem k_midD {A : Nat → Prop} {x : Nat × va_E} {w1 w2 : va_W} (h : va_D A (x :: (w1 ++ w2))) : va_D A (w1 ++ x :: w2) := by
  have key : ∀ (k : Nat) (q : Nat × va_E), (w1 ++ x :: w2)[k]? = some q → (x :: (w1 ++ w2))[if k < w1.length then k + 1 else if k = w1.length then 0 else k]? = some q := by
    intro k q hq
    by_cases h1 : k < w1.length
    · rw [if_pos h1, List.getElem?_cons_succ, List.getElem?_append_left h1]
      rw [List.getElem?_append_left h1] at hq
      exact hq
    · rw [if_neg h1]
      rw [List.getElem?_append_right (by omega)] at hq
      by_cases h2 : k = w1.length
      · rw [if_pos h2, List.getElem?_cons_zero]
        rw [h2, Nat.sub_self, List.getElem?_cons_zero] at hq
        exact hq
      · rw [if_neg h2]
        obtain ⟨d, rfl⟩ : ∃ d, k = w1.length + 1 + d := ⟨k - w1.length - 1, by omega⟩
        rw [show w1.length + 1 + d - w1.length = d + 1 by omega, List.getElem?_cons_succ] at hq
        rw [show w1.length + 1 + d = (w1.length + d) + 1 by omega, List.getElem?_cons_succ, List.getElem?_append_right (by omega), show w1.length + d - w1.length = d by omega]
        exact hq
  refine ⟨fun a b p q ha hb e => ?_, fun k q hq => h.2 _ q (key k q hq)⟩
  have := h.1 _ _ p q (key a p ha) (key b q hb) e
  split at this <;> split at this <;> (try split at this) <;> (try split at this) <;> omega
theorem xC_tag : ∀ r ∈ xtlC, r.1 ≤ 21 := by decide +kernel
theorem xC_rf : ∀ r ∈ xtlC, ∀ k ∈ List.range 30, xar r.1 = none → (xrf r.1 r.2 k).1 ≤ 21 := by decide +kernel
theorem xC_no : ∀ r ∈ xtlC, xN (xci r.1) ≤ 30 := by decide +kernel
theorem xwsC_cg {ρ ρ' : Nat → Fin 5 → Nat} {cy : Nat → ClassId} (h : ∀ t i, t ≤ 21 → ρ' t i = ρ t i) : xtlC.map (fun r => (ρ' r.1 r.2, xcell ρ' cy RM0 RL0 r)) = xwsC ρ cy := by
  unfold xwsC
  refine List.map_congr_left (fun r hr => ?_)
  rw [h _ _ (xC_tag r hr)]
  congr 1
  unfold xcell
  split
  · rfl
  · rename_i hn
    congr 2
    refine List.map_congr_left (fun k hk => ?_)
    have hk30 : k ∈ List.range 30 := List.mem_range.mpr (Nat.lt_of_lt_of_le (List.mem_range.mp hk) (xC_no r hr))
    unfold xfv
    rw [h _ _ (xC_rf r hr k hk30 hn)]
def M00 : XM := xabs RM0 RL0
theorem f16_v : ∀ k, k < 4 → (f16 k).toInt = -1 ∧ (f33 k).toInt = -4 := by decide +kernel
theorem M00_0 : ∀ t i k, t ≠ 13 → t ≠ 16 → t ≠ 33 → M00 t i k = 0 := by
  intro t i k h1 h2 h3
  unfold M00 xabs
  split
  · rfl
  · have : RM0 t i = fun _ => 0 := by
      unfold RM0
      split
      · exact absurd rfl h1
      · exact absurd rfl h2
      · exact absurd rfl h3
      · rfl
    rw [this]
    rfl
/-- the start: both sides stand side by side -/
theorem Inv_0 {M1 M2 : XM} (a1 : M1 26 0 = D0 (M00 26 0)) (a2 : M1 22 0 5 = 0 ∧ M1 22 0 6 = 0 ∧ M1 22 0 7 = 0 ∧ M1 22 0 9 = -4) (a3 : frD M00 M1) (b1 : ∀ j, j < 71 → M2 23 0 j = KD (s0 (D0 (M00 26 0)) (M1 27 0)) j) (b2 : M2 22 0 3 = ((0 : Nat) : Int)) (b3 : M2 25 0 0 = 0) (b4 : M2 25 0 1 = 0) (b5 : frE M1 M2) : InvX M2 M2 := by
  have h0 : ∀ k, k < 71 → D0 (M00 26 0) k = 0 := fun k hk => if_pos hk
  have pi := PI_0 h0 (M1 27 0)
  have en : enF (s0 (D0 (M00 26 0)) (M1 27 0)) = 0 := rfl
  have okk : okN 0 (KD (s0 (D0 (M00 26 0)) (M1 27 0))) := KD_ok pi en
  have n0 : ∀ j, j < 71 → M2 23 0 j = 0 := fun j hj => by
    rw [b1 j hj]
    unfold KD
    rw [if_neg (by show ¬ (j < 24 ∧ j % 6 = 4 ∧ j / 6 < 0); omega)]
    exact h0 j hj
  have cls : ∀ t i k, t ≤ 21 → M2 t i k = M00 t i k := fun t i k ht => by rw [b5.1 t i (by omega) (by omega) (by omega), a3.1 t i (by omega) (by omega)]
  have z : ∀ t i k, t ≤ 21 → t ≠ 13 → t ≠ 16 → M2 t i k = 0 := fun t i k ht h1 h2 => by rw [cls t i k ht]; exact M00_0 t i k h1 h2 (by omega)
  have m22 : ∀ k, k ≠ 3 → k ≠ 5 → k ≠ 6 → k ≠ 7 → k ≠ 9 → M2 22 0 k = 0 := fun k h3 h5 h6 h7 h9 => by rw [b5.2 k h3, a3.2 k h5 h6 h7 h9]; exact M00_0 22 0 k (by decide) (by decide) (by decide)
  refine ⟨0, b2, okN_cg okk b1, ⟨?_, ?_, ?_, ?_, ?_, fun d hd => absurd hd (by omega), fun x y hx hy => ?_, fun j hj => ?_, fun j hj => ?_⟩, ⟨Or.inl b3, Or.inl b4, ?_⟩, fun a => absurd a (by rw [b3]; decide), fun a => absurd a (by rw [b4]; decide), ⟨?_, ?_, fun j hj => ?_⟩, ⟨?_, ?_⟩, fun k hk => Or.inl ⟨?_, ?_⟩, ⟨?_, fun a => absurd a (by rw [b3]; decide), fun a => absurd a (by rw [b4]; decide)⟩⟩
  · rw [z 1 0 0 (by decide) (by decide) (by decide)]; rfl
  · rw [z 1 0 6 (by decide) (by decide) (by decide)]; rfl
  · rw [z 1 0 8 (by decide) (by decide) (by decide), n0 24 (by decide)]
  · rw [z 1 0 9 (by decide) (by decide) (by decide), n0 33 (by decide)]
  · rw [z 1 0 13 (by decide) (by decide) (by decide), n0 52 (by decide)]
  · rw [z 1 0 7 (by decide) (by decide) (by decide), n0 (25 + x) (by omega), lb_0]
    exact (Nat.zero_testBit y).symm
  · rw [n0 33 (by decide)] at hj; omega
  · rw [n0 52 (by decide)] at hj; omega
  · rw [z 0 0 5 (by decide) (by decide) (by decide), b3, b4]; rfl
  · rw [m22 11 (by decide) (by decide) (by decide) (by decide) (by decide), cls 13 0 1 (by decide)]; rfl
  · rw [m22 11 (by decide) (by decide) (by decide) (by decide) (by decide)]; decide
  · rw [m22 11 (by decide) (by decide) (by decide) (by decide) (by decide)] at hj; omega
  · rw [m22 16 (by decide) (by decide) (by decide) (by decide) (by decide), z 0 0 8 (by decide) (by decide) (by decide)]
  · rw [m22 28 (by decide) (by decide) (by decide) (by decide) (by decide), z 0 0 9 (by decide) (by decide) (by decide)]
  · rw [cls 16 0 k (by decide)]; exact (f16_v k hk).1
  · rw [b5.1 33 0 (by decide) (by decide) (by decide), a3.1 33 0 (by decide) (by decide)]; exact (f16_v k hk).2
  · rw [rk_cg (N := fun _ => 0) (fun k a b => n0 k (by omega)), rk_0]; decide
def ro4 (ρ : Nat → Fin 5 → Nat) (h : Nat) (qs : List Nat) : Nat → Fin 5 → Nat := fun t i => match t with
  | 22 => h
  | 23 => qs.getD 0 0
  | 24 => qs.getD 1 0
  | 25 => qs.getD 2 0
  | 26 => qs.getD 3 0
  | 27 => qs.getD 4 0
  | 28 => qs.getD 5 0
  | 29 => qs.getD 6 0
  | 30 => qs.getD 7 0
  | 31 => qs.getD 8 0
  | 32 => qs.getD 9 0
  | 33 => qs.getD 10 0
  | 34 => qs.getD 11 0
  | 35 => qs.getD 12 0
  | 36 => qs.getD 13 0
  | _ => ρ t i
theorem ro4_c {ρ : Nat → Fin 5 → Nat} {h : Nat} {qs : List Nat} : ∀ t i, t ≤ 21 → ro4 ρ h qs t i = ρ t i := by
  intro t i ht
  unfold ro4
  split <;> first | omega | rfl
set_option maxRecDepth 100000 in
theorem k_model (l : Launch) (D : va_G) (cy : Nat → ClassId) (aK aV : Nat → Nat) (sz h : Nat) (ρ : Nat → Fin 5 → Nat) : KM l D cy aK aV sz ms_m 14 2768 h ((h, .inr (4, kf4)) :: xwsC ρ cy) (fun w => ∃ (ρ' : Nat → Fin 5 → Nat) (RM : Nat → Fin 5 → Nat → Int32) (RL : Nat → Fin 5 → Nat → Int64), ρ' 0 0 = ρ 0 0 ∧ ρ' 22 0 = h ∧ InvX (xabs RM RL) (xabs RM RL) ∧ w = xws ρ' cy RM RL) := by
  refine KM.intro (by decide +kernel) rfl rfl (by decide) rfl ?_
  intro p e s m args below meth c A Z ls hC hX hl hP hD
  have hS : va_S A s.heap s.heap [] := va_S.rf
  refine lv_aload_n hC.1 hC.2.1 (show decode cX4_init 0 = .ok (.aload_n 0, 1) by decide +kernel) rfl (lv_at hl 0 rfl) ?_
  refine k_obj0 hC (xck_in (p := (4, 12)) (by decide +kernel) rfl) hl (Nat.le_of_ble_eq_true rfl) (Nat.le_of_ble_eq_true rfl) (show decode cX4_init 1 = .ok (.invokespecial 1, 3) by decide +kernel) ?_
  refine lv_aload_n hC.1 hC.2.1 (show decode cX4_init 4 = .ok (.aload_n 0, 1) by decide +kernel) rfl (lv_at hl 0 rfl) ?_
  refine lv_sipush hC.1 hC.2.1 (show decode cX4_init 5 = .ok (.sipush 213, 3) by decide +kernel) (v := 213) (by decide) ?_
  refine k_arr (ty := .int) (j := 0) (N := 213) (a0 := (213, .inl (fun _ => 0))) hC hP hD hS rfl rfl (fun _ _ => rfl) (xck_in (p := (1, 96)) (by decide +kernel) rfl) (fun _ => rfl) (by decide) (by decide) (by decide) (Nat.le_of_ble_eq_true rfl) (Nat.le_of_ble_eq_true rfl) (by decide) 0 (by decide) rfl (xck_in (p := (4, 21)) (by decide +kernel) rfl) (fun _ => rfl) (fun _ => rfl) (Nat.le_of_ble_eq_true rfl) (show decode cX4_init 8 = .ok (.newarray .int, 2) by decide +kernel) (show decode cX4_init 10 = .ok (.putfield 7, 3) by decide +kernel) (fun q0 H locs hP hD hS => ?_)
  refine lv_aload_n hC.1 hC.2.1 (show decode cX4_init 13 = .ok (.aload_n 0, 1) by decide +kernel) rfl (lv_at hl 0 rfl) ?_
  refine lv_bipush hC.1 hC.2.1 (show decode cX4_init 14 = .ok (.bipush 71, 2) by decide +kernel) (v := 71) (by decide) ?_
  refine k_arr (ty := .int) (j := 0) (N := 71) (a0 := (71, .inl (fun _ => 0))) hC hP hD hS rfl rfl (fun _ _ => rfl) (xck_in (p := (1, 96)) (by decide +kernel) rfl) (fun _ => rfl) (by decide) (by decide) (by decide) (Nat.le_of_ble_eq_true rfl) (Nat.le_of_ble_eq_true rfl) (by decide) 1 (by decide) rfl (xck_in (p := (4, 22)) (by decide +kernel) rfl) (fun _ => rfl) (fun _ => rfl) (Nat.le_of_ble_eq_true rfl) (show decode cX4_init 16 = .ok (.newarray .int, 2) by decide +kernel) (show decode cX4_init 18 = .ok (.putfield 13, 3) by decide +kernel) (fun q1 H locs hP hD hS => ?_)
  refine lv_aload_n hC.1 hC.2.1 (show decode cX4_init 21 = .ok (.aload_n 0, 1) by decide +kernel) rfl (lv_at hl 0 rfl) ?_
  refine lv_iconst hC.1 hC.2.1 (show decode cX4_init 22 = .ok (.iconst 2, 1) by decide +kernel) (v := 2) (by decide) ?_
  refine k_arr (ty := .boolean) (j := 1) (N := 2) (a0 := (2, .inl (fun _ => 0))) hC hP hD hS rfl rfl (fun _ _ => rfl) (xck_in (p := (1, 187)) (by decide +kernel) rfl) (fun _ => rfl) (by decide) (by decide) (by decide) (Nat.le_of_ble_eq_true rfl) (Nat.le_of_ble_eq_true rfl) (by decide) 2 (by decide) rfl (xck_in (p := (4, 23)) (by decide +kernel) rfl) (fun _ => rfl) (fun _ => rfl) (Nat.le_of_ble_eq_true rfl) (show decode cX4_init 23 = .ok (.newarray .boolean, 2) by decide +kernel) (show decode cX4_init 25 = .ok (.putfield 16, 3) by decide +kernel) (fun q2 H locs hP hD hS => ?_)
  refine lv_aload_n hC.1 hC.2.1 (show decode cX4_init 28 = .ok (.aload_n 0, 1) by decide +kernel) rfl (lv_at hl 0 rfl) ?_
  refine lv_bipush hC.1 hC.2.1 (show decode cX4_init 29 = .ok (.bipush 71, 2) by decide +kernel) (v := 71) (by decide) ?_
  refine k_arr (ty := .int) (j := 0) (N := 71) (a0 := (71, .inl (fun _ => 0))) hC hP hD hS rfl rfl (fun _ _ => rfl) (xck_in (p := (1, 96)) (by decide +kernel) rfl) (fun _ => rfl) (by decide) (by decide) (by decide) (Nat.le_of_ble_eq_true rfl) (Nat.le_of_ble_eq_true rfl) (by decide) 4 (by decide) rfl (xck_in (p := (4, 25)) (by decide +kernel) rfl) (fun _ => rfl) (fun _ => rfl) (Nat.le_of_ble_eq_true rfl) (show decode cX4_init 31 = .ok (.newarray .int, 2) by decide +kernel) (show decode cX4_init 33 = .ok (.putfield 20, 3) by decide +kernel) (fun q3 H locs hP hD hS => ?_)
  refine lv_aload_n hC.1 hC.2.1 (show decode cX4_init 36 = .ok (.aload_n 0, 1) by decide +kernel) rfl (lv_at hl 0 rfl) ?_
  refine lv_iconst hC.1 hC.2.1 (show decode cX4_init 37 = .ok (.iconst 4, 1) by decide +kernel) (v := 4) (by decide) ?_
  refine k_arr (ty := .int) (j := 0) (N := 4) (a0 := (4, .inl (fun _ => 0))) hC hP hD hS rfl rfl (fun _ _ => rfl) (xck_in (p := (1, 96)) (by decide +kernel) rfl) (fun _ => rfl) (by decide) (by decide) (by decide) (Nat.le_of_ble_eq_true rfl) (Nat.le_of_ble_eq_true rfl) (by decide) 8 (by decide) rfl (xck_in (p := (4, 29)) (by decide +kernel) rfl) (fun _ => rfl) (fun _ => rfl) (Nat.le_of_ble_eq_true rfl) (show decode cX4_init 38 = .ok (.newarray .int, 2) by decide +kernel) (show decode cX4_init 40 = .ok (.putfield 23, 3) by decide +kernel) (fun q4 H locs hP hD hS => ?_)
  refine lv_aload_n hC.1 hC.2.1 (show decode cX4_init 43 = .ok (.aload_n 0, 1) by decide +kernel) rfl (lv_at hl 0 rfl) ?_
  refine lv_sipush hC.1 hC.2.1 (show decode cX4_init 44 = .ok (.sipush 160, 3) by decide +kernel) (v := 160) (by decide) ?_
  refine k_arr (ty := .int) (j := 0) (N := 160) (a0 := (160, .inl (fun _ => 0))) hC hP hD hS rfl rfl (fun _ _ => rfl) (xck_in (p := (1, 96)) (by decide +kernel) rfl) (fun _ => rfl) (by decide) (by decide) (by decide) (Nat.le_of_ble_eq_true rfl) (Nat.le_of_ble_eq_true rfl) (by decide) 10 (by decide) rfl (xck_in (p := (4, 31)) (by decide +kernel) rfl) (fun _ => rfl) (fun _ => rfl) (Nat.le_of_ble_eq_true rfl) (show decode cX4_init 47 = .ok (.newarray .int, 2) by decide +kernel) (show decode cX4_init 49 = .ok (.putfield 26, 3) by decide +kernel) (fun q5 H locs hP hD hS => ?_)
  refine lv_aload_n hC.1 hC.2.1 (show decode cX4_init 52 = .ok (.aload_n 0, 1) by decide +kernel) rfl (lv_at hl 0 rfl) ?_
  refine lv_sipush hC.1 hC.2.1 (show decode cX4_init 53 = .ok (.sipush 164, 3) by decide +kernel) (v := 164) (by decide) ?_
  refine k_arr (ty := .int) (j := 0) (N := 164) (a0 := (164, .inl (fun _ => 0))) hC hP hD hS rfl rfl (fun _ _ => rfl) (xck_in (p := (1, 96)) (by decide +kernel) rfl) (fun _ => rfl) (by decide) (by decide) (by decide) (Nat.le_of_ble_eq_true rfl) (Nat.le_of_ble_eq_true rfl) (by decide) 18 (by decide) rfl (xck_in (p := (4, 39)) (by decide +kernel) rfl) (fun _ => rfl) (fun _ => rfl) (Nat.le_of_ble_eq_true rfl) (show decode cX4_init 56 = .ok (.newarray .int, 2) by decide +kernel) (show decode cX4_init 58 = .ok (.putfield 29, 3) by decide +kernel) (fun q6 H locs hP hD hS => ?_)
  refine lv_aload_n hC.1 hC.2.1 (show decode cX4_init 61 = .ok (.aload_n 0, 1) by decide +kernel) rfl (lv_at hl 0 rfl) ?_
  refine lv_bipush hC.1 hC.2.1 (show decode cX4_init 62 = .ok (.bipush 80, 2) by decide +kernel) (v := 80) (by decide) ?_
  refine k_arr (ty := .boolean) (j := 1) (N := 80) (a0 := (80, .inl (fun _ => 0))) hC hP hD hS rfl rfl (fun _ _ => rfl) (xck_in (p := (1, 187)) (by decide +kernel) rfl) (fun _ => rfl) (by decide) (by decide) (by decide) (Nat.le_of_ble_eq_true rfl) (Nat.le_of_ble_eq_true rfl) (by decide) 19 (by decide) rfl (xck_in (p := (4, 40)) (by decide +kernel) rfl) (fun _ => rfl) (fun _ => rfl) (Nat.le_of_ble_eq_true rfl) (show decode cX4_init 64 = .ok (.newarray .boolean, 2) by decide +kernel) (show decode cX4_init 66 = .ok (.putfield 32, 3) by decide +kernel) (fun q7 H locs hP hD hS => ?_)
  refine lv_aload_n hC.1 hC.2.1 (show decode cX4_init 69 = .ok (.aload_n 0, 1) by decide +kernel) rfl (lv_at hl 0 rfl) ?_
  refine lv_bipush hC.1 hC.2.1 (show decode cX4_init 70 = .ok (.bipush 84, 2) by decide +kernel) (v := 84) (by decide) ?_
  refine k_arr (ty := .int) (j := 0) (N := 84) (a0 := (84, .inl (fun _ => 0))) hC hP hD hS rfl rfl (fun _ _ => rfl) (xck_in (p := (1, 96)) (by decide +kernel) rfl) (fun _ => rfl) (by decide) (by decide) (by decide) (Nat.le_of_ble_eq_true rfl) (Nat.le_of_ble_eq_true rfl) (by decide) 23 (by decide) rfl (xck_in (p := (4, 44)) (by decide +kernel) rfl) (fun _ => rfl) (fun _ => rfl) (Nat.le_of_ble_eq_true rfl) (show decode cX4_init 72 = .ok (.newarray .int, 2) by decide +kernel) (show decode cX4_init 74 = .ok (.putfield 35, 3) by decide +kernel) (fun q8 H locs hP hD hS => ?_)
  refine lv_aload_n hC.1 hC.2.1 (show decode cX4_init 77 = .ok (.aload_n 0, 1) by decide +kernel) rfl (lv_at hl 0 rfl) ?_
  refine lv_sipush hC.1 hC.2.1 (show decode cX4_init 78 = .ok (.sipush 1680, 3) by decide +kernel) (v := 1680) (by decide) ?_
  refine k_arr (ty := .int) (j := 0) (N := 1680) (a0 := (1680, .inl (fun _ => 0))) hC hP hD hS rfl rfl (fun _ _ => rfl) (xck_in (p := (1, 96)) (by decide +kernel) rfl) (fun _ => rfl) (by decide) (by decide) (by decide) (Nat.le_of_ble_eq_true rfl) (Nat.le_of_ble_eq_true rfl) (by decide) 24 (by decide) rfl (xck_in (p := (4, 45)) (by decide +kernel) rfl) (fun _ => rfl) (fun _ => rfl) (Nat.le_of_ble_eq_true rfl) (show decode cX4_init 81 = .ok (.newarray .int, 2) by decide +kernel) (show decode cX4_init 83 = .ok (.putfield 38, 3) by decide +kernel) (fun q9 H locs hP hD hS => ?_)
  refine lv_aload_n hC.1 hC.2.1 (show decode cX4_init 86 = .ok (.aload_n 0, 1) by decide +kernel) rfl (lv_at hl 0 rfl) ?_
  refine lv_iconst hC.1 hC.2.1 (show decode cX4_init 87 = .ok (.iconst 4, 1) by decide +kernel) (v := 4) (by decide) ?_
  refine k_arr (ty := .int) (j := 0) (N := 4) (a0 := (4, .inl (fun _ => 0))) hC hP hD hS rfl rfl (fun _ _ => rfl) (xck_in (p := (1, 96)) (by decide +kernel) rfl) (fun _ => rfl) (by decide) (by decide) (by decide) (Nat.le_of_ble_eq_true rfl) (Nat.le_of_ble_eq_true rfl) (by decide) 25 (by decide) rfl (xck_in (p := (4, 46)) (by decide +kernel) rfl) (fun _ => rfl) (fun _ => rfl) (Nat.le_of_ble_eq_true rfl) (show decode cX4_init 88 = .ok (.newarray .int, 2) by decide +kernel) (show decode cX4_init 90 = .ok (.putfield 41, 3) by decide +kernel) (fun q10 H locs hP hD hS => ?_)
  refine lv_aload_n hC.1 hC.2.1 (show decode cX4_init 93 = .ok (.aload_n 0, 1) by decide +kernel) rfl (lv_at hl 0 rfl) ?_
  refine lv_iconst hC.1 hC.2.1 (show decode cX4_init 94 = .ok (.iconst 4, 1) by decide +kernel) (v := 4) (by decide) ?_
  refine k_arr (ty := .int) (j := 0) (N := 4) (a0 := (4, .inl (fun _ => 0))) hC hP hD hS rfl rfl (fun _ _ => rfl) (xck_in (p := (1, 96)) (by decide +kernel) rfl) (fun _ => rfl) (by decide) (by decide) (by decide) (Nat.le_of_ble_eq_true rfl) (Nat.le_of_ble_eq_true rfl) (by decide) 26 (by decide) rfl (xck_in (p := (4, 47)) (by decide +kernel) rfl) (fun _ => rfl) (fun _ => rfl) (Nat.le_of_ble_eq_true rfl) (show decode cX4_init 95 = .ok (.newarray .int, 2) by decide +kernel) (show decode cX4_init 97 = .ok (.putfield 44, 3) by decide +kernel) (fun q11 H locs hP hD hS => ?_)
  refine lv_aload_n hC.1 hC.2.1 (show decode cX4_init 100 = .ok (.aload_n 0, 1) by decide +kernel) rfl (lv_at hl 0 rfl) ?_
  refine lv_sipush hC.1 hC.2.1 (show decode cX4_init 101 = .ok (.sipush 160, 3) by decide +kernel) (v := 160) (by decide) ?_
  refine k_arr (ty := .int) (j := 0) (N := 160) (a0 := (160, .inl (fun _ => 0))) hC hP hD hS rfl rfl (fun _ _ => rfl) (xck_in (p := (1, 96)) (by decide +kernel) rfl) (fun _ => rfl) (by decide) (by decide) (by decide) (Nat.le_of_ble_eq_true rfl) (Nat.le_of_ble_eq_true rfl) (by decide) 27 (by decide) rfl (xck_in (p := (4, 48)) (by decide +kernel) rfl) (fun _ => rfl) (fun _ => rfl) (Nat.le_of_ble_eq_true rfl) (show decode cX4_init 104 = .ok (.newarray .int, 2) by decide +kernel) (show decode cX4_init 106 = .ok (.putfield 47, 3) by decide +kernel) (fun q12 H locs hP hD hS => ?_)
  refine lv_aload_n hC.1 hC.2.1 (show decode cX4_init 109 = .ok (.aload_n 0, 1) by decide +kernel) rfl (lv_at hl 0 rfl) ?_
  refine lv_bipush hC.1 hC.2.1 (show decode cX4_init 110 = .ok (.bipush 71, 2) by decide +kernel) (v := 71) (by decide) ?_
  refine k_arr (ty := .int) (j := 0) (N := 71) (a0 := (71, .inl (fun _ => 0))) hC hP hD hS rfl rfl (fun _ _ => rfl) (xck_in (p := (1, 96)) (by decide +kernel) rfl) (fun _ => rfl) (by decide) (by decide) (by decide) (Nat.le_of_ble_eq_true rfl) (Nat.le_of_ble_eq_true rfl) (by decide) 29 (by decide) rfl (xck_in (p := (4, 50)) (by decide +kernel) rfl) (fun _ => rfl) (fun _ => rfl) (Nat.le_of_ble_eq_true rfl) (show decode cX4_init 112 = .ok (.newarray .int, 2) by decide +kernel) (show decode cX4_init 114 = .ok (.putfield 50, 3) by decide +kernel) (fun q13 H locs hP hD hS => ?_)
  refine lv_iconst hC.1 hC.2.1 (show decode cX4_init 117 = .ok (.iconst 0, 1) by decide +kernel) (v := 0) (by decide) ?_
  refine lv_istore_n (lv' := [(1, .int 0), (0, .ref h)]) hC.1 hC.2.1 (show decode cX4_init 118 = .ok (.istore_n 1, 1) by decide +kernel) rfl hl (by decide) rfl (fun ls hl => ?_)
  simp only [List.append_assoc, List.cons_append, List.nil_append] at hP hD
  have hP : va_P D vwCl ((h, .inr (4, [.ref q0, .ref q1, .ref q2, .int 0, .ref q3, .int 0, .int 0, .int 0, .ref q4, .int 0, .ref q5, .int 0, .int 0, .int 0, .int 0, .int 0, .int 0, .int 0, .ref q6, .ref q7, .long 0, .long 0, .long 0, .ref q8, .ref q9, .ref q10, .ref q11, .ref q12, .int 0, .ref q13])) :: (xwsC ρ cy ++ [(q0, .inl (cy 0, 213, .inl (fun _ => 0))), (q1, .inl (cy 0, 71, .inl (fun _ => 0))), (q2, .inl (cy 1, 2, .inl (fun _ => 0))), (q3, .inl (cy 0, 71, .inl (fun _ => 0))), (q4, .inl (cy 0, 4, .inl (fun _ => 0))), (q5, .inl (cy 0, 160, .inl (fun _ => 0))), (q6, .inl (cy 0, 164, .inl (fun _ => 0))), (q7, .inl (cy 1, 80, .inl (fun _ => 0))), (q8, .inl (cy 0, 84, .inl (fun _ => 0))), (q9, .inl (cy 0, 1680, .inl (fun _ => 0))), (q10, .inl (cy 0, 4, .inl (fun _ => 0))), (q11, .inl (cy 0, 4, .inl (fun _ => 0))), (q12, .inl (cy 0, 160, .inl (fun _ => 0))), (q13, .inl (cy 0, 71, .inl (fun _ => 0)))])) H := hP
  have hD : va_D A ((h, .inr (4, [.ref q0, .ref q1, .ref q2, .int 0, .ref q3, .int 0, .int 0, .int 0, .ref q4, .int 0, .ref q5, .int 0, .int 0, .int 0, .int 0, .int 0, .int 0, .int 0, .ref q6, .ref q7, .long 0, .long 0, .long 0, .ref q8, .ref q9, .ref q10, .ref q11, .ref q12, .int 0, .ref q13])) :: (xwsC ρ cy ++ [(q0, .inl (cy 0, 213, .inl (fun _ => 0))), (q1, .inl (cy 0, 71, .inl (fun _ => 0))), (q2, .inl (cy 1, 2, .inl (fun _ => 0))), (q3, .inl (cy 0, 71, .inl (fun _ => 0))), (q4, .inl (cy 0, 4, .inl (fun _ => 0))), (q5, .inl (cy 0, 160, .inl (fun _ => 0))), (q6, .inl (cy 0, 164, .inl (fun _ => 0))), (q7, .inl (cy 1, 80, .inl (fun _ => 0))), (q8, .inl (cy 0, 84, .inl (fun _ => 0))), (q9, .inl (cy 0, 1680, .inl (fun _ => 0))), (q10, .inl (cy 0, 4, .inl (fun _ => 0))), (q11, .inl (cy 0, 4, .inl (fun _ => 0))), (q12, .inl (cy 0, 160, .inl (fun _ => 0))), (q13, .inl (cy 0, 71, .inl (fun _ => 0)))])) := hD
  refine lv_iload_n hC.1 hC.2.1 (show decode cX4_init 119 = .ok (.iload_n 1, 1) by decide +kernel) rfl (lv_at hl 0 rfl) ?_
  refine lv_iconst hC.1 hC.2.1 (show decode cX4_init 120 = .ok (.iconst 4, 1) by decide +kernel) (v := 4) (by decide) ?_
  refine lv_icmp_ge hC.1 hC.2.1 (show decode cX4_init 121 = .ok (.if_icmp .ge 17, 3) by decide +kernel) (tgt := 138) rfl (fun z => absurd z (by decide)) (fun _ => ?_)
  refine lv_aload_n hC.1 hC.2.1 (show decode cX4_init 124 = .ok (.aload_n 0, 1) by decide +kernel) rfl (lv_at hl 1 rfl) ?_
  refine va_get (ws := ((h, .inr (4, [.ref q0, .ref q1, .ref q2, .int 0, .ref q3, .int 0, .int 0, .int 0, .ref q4, .int 0, .ref q5, .int 0, .int 0, .int 0, .int 0, .int 0, .int 0, .int 0, .ref q6, .ref q7, .long 0, .long 0, .long 0, .ref q8, .ref q9, .ref q10, .ref q11, .ref q12, .int 0, .ref q13])) :: (xwsC ρ cy ++ [(q0, .inl (cy 0, 213, .inl (fun _ => 0))), (q1, .inl (cy 0, 71, .inl (fun _ => 0))), (q2, .inl (cy 1, 2, .inl (fun _ => 0))), (q3, .inl (cy 0, 71, .inl (fun _ => 0))), (q4, .inl (cy 0, 4, .inl (fun _ => 0))), (q5, .inl (cy 0, 160, .inl (fun _ => 0))), (q6, .inl (cy 0, 164, .inl (fun _ => 0))), (q7, .inl (cy 1, 80, .inl (fun _ => 0))), (q8, .inl (cy 0, 84, .inl (fun _ => 0))), (q9, .inl (cy 0, 1680, .inl (fun _ => 0))), (q10, .inl (cy 0, 4, .inl (fun _ => 0))), (q11, .inl (cy 0, 4, .inl (fun _ => 0))), (q12, .inl (cy 0, 160, .inl (fun _ => 0))), (q13, .inl (cy 0, 71, .inl (fun _ => 0)))]))) (C := xC 4) (T := xT 4) (N := xN 4) (v := .ref q10) hC.1 hC.2.1 hC.2.2.2.2.1 (xin (by decide)) hC.2.2.2.1 hC.2.2.2.2.2.2.1 hP 0 rfl (xcl_vw (c := 4) (by decide)) 25 (by decide) (hC.2.2.2.2.1 _ (xck_in (p := (4, 46)) (by decide +kernel) rfl)) (fun _ h9 => h9) rfl (show decode cX4_init 125 = .ok (.getfield 41, 3) by decide +kernel) ?_
  refine lv_iload_n hC.1 hC.2.1 (show decode cX4_init 128 = .ok (.iload_n 1, 1) by decide +kernel) rfl (lv_at hl 0 rfl) ?_
  refine lv_bipush hC.1 hC.2.1 (show decode cX4_init 129 = .ok (.bipush (-4), 2) by decide +kernel) (v := -4) (by decide) ?_
  refine va_iast hC.1 hC.2.1 hC.2.2.2.2.2.2.1 hP hD hS 81 0 rfl rfl (x_in (by decide)) (show decode cX4_init 131 = .ok (.iastore, 1) by decide +kernel) (fun H locs hP hD hS => ?_)
  have hP : va_P D vwCl ((h, .inr (4, [.ref q0, .ref q1, .ref q2, .int 0, .ref q3, .int 0, .int 0, .int 0, .ref q4, .int 0, .ref q5, .int 0, .int 0, .int 0, .int 0, .int 0, .int 0, .int 0, .ref q6, .ref q7, .long 0, .long 0, .long 0, .ref q8, .ref q9, .ref q10, .ref q11, .ref q12, .int 0, .ref q13])) :: (xwsC ρ cy ++ [(q0, .inl (cy 0, 213, .inl (fun _ => 0))), (q1, .inl (cy 0, 71, .inl (fun _ => 0))), (q2, .inl (cy 1, 2, .inl (fun _ => 0))), (q3, .inl (cy 0, 71, .inl (fun _ => 0))), (q4, .inl (cy 0, 4, .inl (fun _ => 0))), (q5, .inl (cy 0, 160, .inl (fun _ => 0))), (q6, .inl (cy 0, 164, .inl (fun _ => 0))), (q7, .inl (cy 1, 80, .inl (fun _ => 0))), (q8, .inl (cy 0, 84, .inl (fun _ => 0))), (q9, .inl (cy 0, 1680, .inl (fun _ => 0))), (q10, .inl (cy 0, 4, .inl (upd (fun _ => 0) 0 (-4)))), (q11, .inl (cy 0, 4, .inl (fun _ => 0))), (q12, .inl (cy 0, 160, .inl (fun _ => 0))), (q13, .inl (cy 0, 71, .inl (fun _ => 0)))])) H := hP
  have hD : va_D A ((h, .inr (4, [.ref q0, .ref q1, .ref q2, .int 0, .ref q3, .int 0, .int 0, .int 0, .ref q4, .int 0, .ref q5, .int 0, .int 0, .int 0, .int 0, .int 0, .int 0, .int 0, .ref q6, .ref q7, .long 0, .long 0, .long 0, .ref q8, .ref q9, .ref q10, .ref q11, .ref q12, .int 0, .ref q13])) :: (xwsC ρ cy ++ [(q0, .inl (cy 0, 213, .inl (fun _ => 0))), (q1, .inl (cy 0, 71, .inl (fun _ => 0))), (q2, .inl (cy 1, 2, .inl (fun _ => 0))), (q3, .inl (cy 0, 71, .inl (fun _ => 0))), (q4, .inl (cy 0, 4, .inl (fun _ => 0))), (q5, .inl (cy 0, 160, .inl (fun _ => 0))), (q6, .inl (cy 0, 164, .inl (fun _ => 0))), (q7, .inl (cy 1, 80, .inl (fun _ => 0))), (q8, .inl (cy 0, 84, .inl (fun _ => 0))), (q9, .inl (cy 0, 1680, .inl (fun _ => 0))), (q10, .inl (cy 0, 4, .inl (upd (fun _ => 0) 0 (-4)))), (q11, .inl (cy 0, 4, .inl (fun _ => 0))), (q12, .inl (cy 0, 160, .inl (fun _ => 0))), (q13, .inl (cy 0, 71, .inl (fun _ => 0)))])) := hD
  refine lv_iinc hC.1 hC.2.1 (show decode cX4_init 132 = .ok (.iinc 1 1, 3) by decide +kernel) (v := 1) (lv' := [(1, .int 1), (0, .ref h)]) hl (k := 0) rfl (by decide) (by decide) rfl (fun ls hl => ?_)
  refine lv_goto hC.1 hC.2.1 (show decode cX4_init 135 = .ok (.goto (-16), 3) by decide +kernel) (tgt := 119) rfl ?_
  refine lv_iload_n hC.1 hC.2.1 (show decode cX4_init 119 = .ok (.iload_n 1, 1) by decide +kernel) rfl (lv_at hl 0 rfl) ?_
  refine lv_iconst hC.1 hC.2.1 (show decode cX4_init 120 = .ok (.iconst 4, 1) by decide +kernel) (v := 4) (by decide) ?_
  refine lv_icmp_ge hC.1 hC.2.1 (show decode cX4_init 121 = .ok (.if_icmp .ge 17, 3) by decide +kernel) (tgt := 138) rfl (fun z => absurd z (by decide)) (fun _ => ?_)
  refine lv_aload_n hC.1 hC.2.1 (show decode cX4_init 124 = .ok (.aload_n 0, 1) by decide +kernel) rfl (lv_at hl 1 rfl) ?_
  refine va_get (ws := ((h, .inr (4, [.ref q0, .ref q1, .ref q2, .int 0, .ref q3, .int 0, .int 0, .int 0, .ref q4, .int 0, .ref q5, .int 0, .int 0, .int 0, .int 0, .int 0, .int 0, .int 0, .ref q6, .ref q7, .long 0, .long 0, .long 0, .ref q8, .ref q9, .ref q10, .ref q11, .ref q12, .int 0, .ref q13])) :: (xwsC ρ cy ++ [(q0, .inl (cy 0, 213, .inl (fun _ => 0))), (q1, .inl (cy 0, 71, .inl (fun _ => 0))), (q2, .inl (cy 1, 2, .inl (fun _ => 0))), (q3, .inl (cy 0, 71, .inl (fun _ => 0))), (q4, .inl (cy 0, 4, .inl (fun _ => 0))), (q5, .inl (cy 0, 160, .inl (fun _ => 0))), (q6, .inl (cy 0, 164, .inl (fun _ => 0))), (q7, .inl (cy 1, 80, .inl (fun _ => 0))), (q8, .inl (cy 0, 84, .inl (fun _ => 0))), (q9, .inl (cy 0, 1680, .inl (fun _ => 0))), (q10, .inl (cy 0, 4, .inl (upd (fun _ => 0) 0 (-4)))), (q11, .inl (cy 0, 4, .inl (fun _ => 0))), (q12, .inl (cy 0, 160, .inl (fun _ => 0))), (q13, .inl (cy 0, 71, .inl (fun _ => 0)))]))) (C := xC 4) (T := xT 4) (N := xN 4) (v := .ref q10) hC.1 hC.2.1 hC.2.2.2.2.1 (xin (by decide)) hC.2.2.2.1 hC.2.2.2.2.2.2.1 hP 0 rfl (xcl_vw (c := 4) (by decide)) 25 (by decide) (hC.2.2.2.2.1 _ (xck_in (p := (4, 46)) (by decide +kernel) rfl)) (fun _ h9 => h9) rfl (show decode cX4_init 125 = .ok (.getfield 41, 3) by decide +kernel) ?_
  refine lv_iload_n hC.1 hC.2.1 (show decode cX4_init 128 = .ok (.iload_n 1, 1) by decide +kernel) rfl (lv_at hl 0 rfl) ?_
  refine lv_bipush hC.1 hC.2.1 (show decode cX4_init 129 = .ok (.bipush (-4), 2) by decide +kernel) (v := -4) (by decide) ?_
  refine va_iast hC.1 hC.2.1 hC.2.2.2.2.2.2.1 hP hD hS 81 0 rfl rfl (x_in (by decide)) (show decode cX4_init 131 = .ok (.iastore, 1) by decide +kernel) (fun H locs hP hD hS => ?_)
  have hP : va_P D vwCl ((h, .inr (4, [.ref q0, .ref q1, .ref q2, .int 0, .ref q3, .int 0, .int 0, .int 0, .ref q4, .int 0, .ref q5, .int 0, .int 0, .int 0, .int 0, .int 0, .int 0, .int 0, .ref q6, .ref q7, .long 0, .long 0, .long 0, .ref q8, .ref q9, .ref q10, .ref q11, .ref q12, .int 0, .ref q13])) :: (xwsC ρ cy ++ [(q0, .inl (cy 0, 213, .inl (fun _ => 0))), (q1, .inl (cy 0, 71, .inl (fun _ => 0))), (q2, .inl (cy 1, 2, .inl (fun _ => 0))), (q3, .inl (cy 0, 71, .inl (fun _ => 0))), (q4, .inl (cy 0, 4, .inl (fun _ => 0))), (q5, .inl (cy 0, 160, .inl (fun _ => 0))), (q6, .inl (cy 0, 164, .inl (fun _ => 0))), (q7, .inl (cy 1, 80, .inl (fun _ => 0))), (q8, .inl (cy 0, 84, .inl (fun _ => 0))), (q9, .inl (cy 0, 1680, .inl (fun _ => 0))), (q10, .inl (cy 0, 4, .inl (upd (upd (fun _ => 0) 0 (-4)) 1 (-4)))), (q11, .inl (cy 0, 4, .inl (fun _ => 0))), (q12, .inl (cy 0, 160, .inl (fun _ => 0))), (q13, .inl (cy 0, 71, .inl (fun _ => 0)))])) H := hP
  have hD : va_D A ((h, .inr (4, [.ref q0, .ref q1, .ref q2, .int 0, .ref q3, .int 0, .int 0, .int 0, .ref q4, .int 0, .ref q5, .int 0, .int 0, .int 0, .int 0, .int 0, .int 0, .int 0, .ref q6, .ref q7, .long 0, .long 0, .long 0, .ref q8, .ref q9, .ref q10, .ref q11, .ref q12, .int 0, .ref q13])) :: (xwsC ρ cy ++ [(q0, .inl (cy 0, 213, .inl (fun _ => 0))), (q1, .inl (cy 0, 71, .inl (fun _ => 0))), (q2, .inl (cy 1, 2, .inl (fun _ => 0))), (q3, .inl (cy 0, 71, .inl (fun _ => 0))), (q4, .inl (cy 0, 4, .inl (fun _ => 0))), (q5, .inl (cy 0, 160, .inl (fun _ => 0))), (q6, .inl (cy 0, 164, .inl (fun _ => 0))), (q7, .inl (cy 1, 80, .inl (fun _ => 0))), (q8, .inl (cy 0, 84, .inl (fun _ => 0))), (q9, .inl (cy 0, 1680, .inl (fun _ => 0))), (q10, .inl (cy 0, 4, .inl (upd (upd (fun _ => 0) 0 (-4)) 1 (-4)))), (q11, .inl (cy 0, 4, .inl (fun _ => 0))), (q12, .inl (cy 0, 160, .inl (fun _ => 0))), (q13, .inl (cy 0, 71, .inl (fun _ => 0)))])) := hD
  refine lv_iinc hC.1 hC.2.1 (show decode cX4_init 132 = .ok (.iinc 1 1, 3) by decide +kernel) (v := 2) (lv' := [(1, .int 2), (0, .ref h)]) hl (k := 0) rfl (by decide) (by decide) rfl (fun ls hl => ?_)
  refine lv_goto hC.1 hC.2.1 (show decode cX4_init 135 = .ok (.goto (-16), 3) by decide +kernel) (tgt := 119) rfl ?_
  refine lv_iload_n hC.1 hC.2.1 (show decode cX4_init 119 = .ok (.iload_n 1, 1) by decide +kernel) rfl (lv_at hl 0 rfl) ?_
  refine lv_iconst hC.1 hC.2.1 (show decode cX4_init 120 = .ok (.iconst 4, 1) by decide +kernel) (v := 4) (by decide) ?_
  refine lv_icmp_ge hC.1 hC.2.1 (show decode cX4_init 121 = .ok (.if_icmp .ge 17, 3) by decide +kernel) (tgt := 138) rfl (fun z => absurd z (by decide)) (fun _ => ?_)
  refine lv_aload_n hC.1 hC.2.1 (show decode cX4_init 124 = .ok (.aload_n 0, 1) by decide +kernel) rfl (lv_at hl 1 rfl) ?_
  refine va_get (ws := ((h, .inr (4, [.ref q0, .ref q1, .ref q2, .int 0, .ref q3, .int 0, .int 0, .int 0, .ref q4, .int 0, .ref q5, .int 0, .int 0, .int 0, .int 0, .int 0, .int 0, .int 0, .ref q6, .ref q7, .long 0, .long 0, .long 0, .ref q8, .ref q9, .ref q10, .ref q11, .ref q12, .int 0, .ref q13])) :: (xwsC ρ cy ++ [(q0, .inl (cy 0, 213, .inl (fun _ => 0))), (q1, .inl (cy 0, 71, .inl (fun _ => 0))), (q2, .inl (cy 1, 2, .inl (fun _ => 0))), (q3, .inl (cy 0, 71, .inl (fun _ => 0))), (q4, .inl (cy 0, 4, .inl (fun _ => 0))), (q5, .inl (cy 0, 160, .inl (fun _ => 0))), (q6, .inl (cy 0, 164, .inl (fun _ => 0))), (q7, .inl (cy 1, 80, .inl (fun _ => 0))), (q8, .inl (cy 0, 84, .inl (fun _ => 0))), (q9, .inl (cy 0, 1680, .inl (fun _ => 0))), (q10, .inl (cy 0, 4, .inl (upd (upd (fun _ => 0) 0 (-4)) 1 (-4)))), (q11, .inl (cy 0, 4, .inl (fun _ => 0))), (q12, .inl (cy 0, 160, .inl (fun _ => 0))), (q13, .inl (cy 0, 71, .inl (fun _ => 0)))]))) (C := xC 4) (T := xT 4) (N := xN 4) (v := .ref q10) hC.1 hC.2.1 hC.2.2.2.2.1 (xin (by decide)) hC.2.2.2.1 hC.2.2.2.2.2.2.1 hP 0 rfl (xcl_vw (c := 4) (by decide)) 25 (by decide) (hC.2.2.2.2.1 _ (xck_in (p := (4, 46)) (by decide +kernel) rfl)) (fun _ h9 => h9) rfl (show decode cX4_init 125 = .ok (.getfield 41, 3) by decide +kernel) ?_
  refine lv_iload_n hC.1 hC.2.1 (show decode cX4_init 128 = .ok (.iload_n 1, 1) by decide +kernel) rfl (lv_at hl 0 rfl) ?_
  refine lv_bipush hC.1 hC.2.1 (show decode cX4_init 129 = .ok (.bipush (-4), 2) by decide +kernel) (v := -4) (by decide) ?_
  refine va_iast hC.1 hC.2.1 hC.2.2.2.2.2.2.1 hP hD hS 81 0 rfl rfl (x_in (by decide)) (show decode cX4_init 131 = .ok (.iastore, 1) by decide +kernel) (fun H locs hP hD hS => ?_)
  have hP : va_P D vwCl ((h, .inr (4, [.ref q0, .ref q1, .ref q2, .int 0, .ref q3, .int 0, .int 0, .int 0, .ref q4, .int 0, .ref q5, .int 0, .int 0, .int 0, .int 0, .int 0, .int 0, .int 0, .ref q6, .ref q7, .long 0, .long 0, .long 0, .ref q8, .ref q9, .ref q10, .ref q11, .ref q12, .int 0, .ref q13])) :: (xwsC ρ cy ++ [(q0, .inl (cy 0, 213, .inl (fun _ => 0))), (q1, .inl (cy 0, 71, .inl (fun _ => 0))), (q2, .inl (cy 1, 2, .inl (fun _ => 0))), (q3, .inl (cy 0, 71, .inl (fun _ => 0))), (q4, .inl (cy 0, 4, .inl (fun _ => 0))), (q5, .inl (cy 0, 160, .inl (fun _ => 0))), (q6, .inl (cy 0, 164, .inl (fun _ => 0))), (q7, .inl (cy 1, 80, .inl (fun _ => 0))), (q8, .inl (cy 0, 84, .inl (fun _ => 0))), (q9, .inl (cy 0, 1680, .inl (fun _ => 0))), (q10, .inl (cy 0, 4, .inl (upd (upd (upd (fun _ => 0) 0 (-4)) 1 (-4)) 2 (-4)))), (q11, .inl (cy 0, 4, .inl (fun _ => 0))), (q12, .inl (cy 0, 160, .inl (fun _ => 0))), (q13, .inl (cy 0, 71, .inl (fun _ => 0)))])) H := hP
  have hD : va_D A ((h, .inr (4, [.ref q0, .ref q1, .ref q2, .int 0, .ref q3, .int 0, .int 0, .int 0, .ref q4, .int 0, .ref q5, .int 0, .int 0, .int 0, .int 0, .int 0, .int 0, .int 0, .ref q6, .ref q7, .long 0, .long 0, .long 0, .ref q8, .ref q9, .ref q10, .ref q11, .ref q12, .int 0, .ref q13])) :: (xwsC ρ cy ++ [(q0, .inl (cy 0, 213, .inl (fun _ => 0))), (q1, .inl (cy 0, 71, .inl (fun _ => 0))), (q2, .inl (cy 1, 2, .inl (fun _ => 0))), (q3, .inl (cy 0, 71, .inl (fun _ => 0))), (q4, .inl (cy 0, 4, .inl (fun _ => 0))), (q5, .inl (cy 0, 160, .inl (fun _ => 0))), (q6, .inl (cy 0, 164, .inl (fun _ => 0))), (q7, .inl (cy 1, 80, .inl (fun _ => 0))), (q8, .inl (cy 0, 84, .inl (fun _ => 0))), (q9, .inl (cy 0, 1680, .inl (fun _ => 0))), (q10, .inl (cy 0, 4, .inl (upd (upd (upd (fun _ => 0) 0 (-4)) 1 (-4)) 2 (-4)))), (q11, .inl (cy 0, 4, .inl (fun _ => 0))), (q12, .inl (cy 0, 160, .inl (fun _ => 0))), (q13, .inl (cy 0, 71, .inl (fun _ => 0)))])) := hD
  refine lv_iinc hC.1 hC.2.1 (show decode cX4_init 132 = .ok (.iinc 1 1, 3) by decide +kernel) (v := 3) (lv' := [(1, .int 3), (0, .ref h)]) hl (k := 0) rfl (by decide) (by decide) rfl (fun ls hl => ?_)
  refine lv_goto hC.1 hC.2.1 (show decode cX4_init 135 = .ok (.goto (-16), 3) by decide +kernel) (tgt := 119) rfl ?_
  refine lv_iload_n hC.1 hC.2.1 (show decode cX4_init 119 = .ok (.iload_n 1, 1) by decide +kernel) rfl (lv_at hl 0 rfl) ?_
  refine lv_iconst hC.1 hC.2.1 (show decode cX4_init 120 = .ok (.iconst 4, 1) by decide +kernel) (v := 4) (by decide) ?_
  refine lv_icmp_ge hC.1 hC.2.1 (show decode cX4_init 121 = .ok (.if_icmp .ge 17, 3) by decide +kernel) (tgt := 138) rfl (fun z => absurd z (by decide)) (fun _ => ?_)
  refine lv_aload_n hC.1 hC.2.1 (show decode cX4_init 124 = .ok (.aload_n 0, 1) by decide +kernel) rfl (lv_at hl 1 rfl) ?_
  refine va_get (ws := ((h, .inr (4, [.ref q0, .ref q1, .ref q2, .int 0, .ref q3, .int 0, .int 0, .int 0, .ref q4, .int 0, .ref q5, .int 0, .int 0, .int 0, .int 0, .int 0, .int 0, .int 0, .ref q6, .ref q7, .long 0, .long 0, .long 0, .ref q8, .ref q9, .ref q10, .ref q11, .ref q12, .int 0, .ref q13])) :: (xwsC ρ cy ++ [(q0, .inl (cy 0, 213, .inl (fun _ => 0))), (q1, .inl (cy 0, 71, .inl (fun _ => 0))), (q2, .inl (cy 1, 2, .inl (fun _ => 0))), (q3, .inl (cy 0, 71, .inl (fun _ => 0))), (q4, .inl (cy 0, 4, .inl (fun _ => 0))), (q5, .inl (cy 0, 160, .inl (fun _ => 0))), (q6, .inl (cy 0, 164, .inl (fun _ => 0))), (q7, .inl (cy 1, 80, .inl (fun _ => 0))), (q8, .inl (cy 0, 84, .inl (fun _ => 0))), (q9, .inl (cy 0, 1680, .inl (fun _ => 0))), (q10, .inl (cy 0, 4, .inl (upd (upd (upd (fun _ => 0) 0 (-4)) 1 (-4)) 2 (-4)))), (q11, .inl (cy 0, 4, .inl (fun _ => 0))), (q12, .inl (cy 0, 160, .inl (fun _ => 0))), (q13, .inl (cy 0, 71, .inl (fun _ => 0)))]))) (C := xC 4) (T := xT 4) (N := xN 4) (v := .ref q10) hC.1 hC.2.1 hC.2.2.2.2.1 (xin (by decide)) hC.2.2.2.1 hC.2.2.2.2.2.2.1 hP 0 rfl (xcl_vw (c := 4) (by decide)) 25 (by decide) (hC.2.2.2.2.1 _ (xck_in (p := (4, 46)) (by decide +kernel) rfl)) (fun _ h9 => h9) rfl (show decode cX4_init 125 = .ok (.getfield 41, 3) by decide +kernel) ?_
  refine lv_iload_n hC.1 hC.2.1 (show decode cX4_init 128 = .ok (.iload_n 1, 1) by decide +kernel) rfl (lv_at hl 0 rfl) ?_
  refine lv_bipush hC.1 hC.2.1 (show decode cX4_init 129 = .ok (.bipush (-4), 2) by decide +kernel) (v := -4) (by decide) ?_
  refine va_iast hC.1 hC.2.1 hC.2.2.2.2.2.2.1 hP hD hS 81 0 rfl rfl (x_in (by decide)) (show decode cX4_init 131 = .ok (.iastore, 1) by decide +kernel) (fun H locs hP hD hS => ?_)
  have hP : va_P D vwCl ((h, .inr (4, [.ref q0, .ref q1, .ref q2, .int 0, .ref q3, .int 0, .int 0, .int 0, .ref q4, .int 0, .ref q5, .int 0, .int 0, .int 0, .int 0, .int 0, .int 0, .int 0, .ref q6, .ref q7, .long 0, .long 0, .long 0, .ref q8, .ref q9, .ref q10, .ref q11, .ref q12, .int 0, .ref q13])) :: (xwsC ρ cy ++ [(q0, .inl (cy 0, 213, .inl (fun _ => 0))), (q1, .inl (cy 0, 71, .inl (fun _ => 0))), (q2, .inl (cy 1, 2, .inl (fun _ => 0))), (q3, .inl (cy 0, 71, .inl (fun _ => 0))), (q4, .inl (cy 0, 4, .inl (fun _ => 0))), (q5, .inl (cy 0, 160, .inl (fun _ => 0))), (q6, .inl (cy 0, 164, .inl (fun _ => 0))), (q7, .inl (cy 1, 80, .inl (fun _ => 0))), (q8, .inl (cy 0, 84, .inl (fun _ => 0))), (q9, .inl (cy 0, 1680, .inl (fun _ => 0))), (q10, .inl (cy 0, 4, .inl (upd (upd (upd (upd (fun _ => 0) 0 (-4)) 1 (-4)) 2 (-4)) 3 (-4)))), (q11, .inl (cy 0, 4, .inl (fun _ => 0))), (q12, .inl (cy 0, 160, .inl (fun _ => 0))), (q13, .inl (cy 0, 71, .inl (fun _ => 0)))])) H := hP
  have hD : va_D A ((h, .inr (4, [.ref q0, .ref q1, .ref q2, .int 0, .ref q3, .int 0, .int 0, .int 0, .ref q4, .int 0, .ref q5, .int 0, .int 0, .int 0, .int 0, .int 0, .int 0, .int 0, .ref q6, .ref q7, .long 0, .long 0, .long 0, .ref q8, .ref q9, .ref q10, .ref q11, .ref q12, .int 0, .ref q13])) :: (xwsC ρ cy ++ [(q0, .inl (cy 0, 213, .inl (fun _ => 0))), (q1, .inl (cy 0, 71, .inl (fun _ => 0))), (q2, .inl (cy 1, 2, .inl (fun _ => 0))), (q3, .inl (cy 0, 71, .inl (fun _ => 0))), (q4, .inl (cy 0, 4, .inl (fun _ => 0))), (q5, .inl (cy 0, 160, .inl (fun _ => 0))), (q6, .inl (cy 0, 164, .inl (fun _ => 0))), (q7, .inl (cy 1, 80, .inl (fun _ => 0))), (q8, .inl (cy 0, 84, .inl (fun _ => 0))), (q9, .inl (cy 0, 1680, .inl (fun _ => 0))), (q10, .inl (cy 0, 4, .inl (upd (upd (upd (upd (fun _ => 0) 0 (-4)) 1 (-4)) 2 (-4)) 3 (-4)))), (q11, .inl (cy 0, 4, .inl (fun _ => 0))), (q12, .inl (cy 0, 160, .inl (fun _ => 0))), (q13, .inl (cy 0, 71, .inl (fun _ => 0)))])) := hD
  refine lv_iinc hC.1 hC.2.1 (show decode cX4_init 132 = .ok (.iinc 1 1, 3) by decide +kernel) (v := 4) (lv' := [(1, .int 4), (0, .ref h)]) hl (k := 0) rfl (by decide) (by decide) rfl (fun ls hl => ?_)
  refine lv_goto hC.1 hC.2.1 (show decode cX4_init 135 = .ok (.goto (-16), 3) by decide +kernel) (tgt := 119) rfl ?_
  refine lv_iload_n hC.1 hC.2.1 (show decode cX4_init 119 = .ok (.iload_n 1, 1) by decide +kernel) rfl (lv_at hl 0 rfl) ?_
  refine lv_iconst hC.1 hC.2.1 (show decode cX4_init 120 = .ok (.iconst 4, 1) by decide +kernel) (v := 4) (by decide) ?_
  refine lv_icmp_ge hC.1 hC.2.1 (show decode cX4_init 121 = .ok (.if_icmp .ge 17, 3) by decide +kernel) (tgt := 138) rfl (fun _ => ?_) (fun z => absurd (by decide) z)
  have eW : xws (ro4 ρ h [q0, q1, q2, q3, q4, q5, q6, q7, q8, q9, q10, q11, q12, q13]) cy RM0 RL0 = xwsC ρ cy ++ (h, .inr (4, [.ref q0, .ref q1, .ref q2, .int 0, .ref q3, .int 0, .int 0, .int 0, .ref q4, .int 0, .ref q5, .int 0, .int 0, .int 0, .int 0, .int 0, .int 0, .int 0, .ref q6, .ref q7, .long 0, .long 0, .long 0, .ref q8, .ref q9, .ref q10, .ref q11, .ref q12, .int 0, .ref q13])) :: [(q0, .inl (cy 0, 213, .inl (fun _ => 0))), (q1, .inl (cy 0, 71, .inl (fun _ => 0))), (q2, .inl (cy 1, 2, .inl (fun _ => 0))), (q3, .inl (cy 0, 71, .inl (fun _ => 0))), (q4, .inl (cy 0, 4, .inl (fun _ => 0))), (q5, .inl (cy 0, 160, .inl (fun _ => 0))), (q6, .inl (cy 0, 164, .inl (fun _ => 0))), (q7, .inl (cy 1, 80, .inl (fun _ => 0))), (q8, .inl (cy 0, 84, .inl (fun _ => 0))), (q9, .inl (cy 0, 1680, .inl (fun _ => 0))), (q10, .inl (cy 0, 4, .inl (upd (upd (upd (upd (fun _ => 0) 0 (-4)) 1 (-4)) 2 (-4)) 3 (-4)))), (q11, .inl (cy 0, 4, .inl (fun _ => 0))), (q12, .inl (cy 0, 160, .inl (fun _ => 0))), (q13, .inl (cy 0, 71, .inl (fun _ => 0)))] := by
    unfold xws
    rw [xtl_split, List.map_append, xwsC_cg ro4_c]
    rfl
  have hP : va_P D vwCl (xws (ro4 ρ h [q0, q1, q2, q3, q4, q5, q6, q7, q8, q9, q10, q11, q12, q13]) cy RM0 RL0) H := by rw [eW]; exact k_midP hP
  have hD : va_D A (xws (ro4 ρ h [q0, q1, q2, q3, q4, q5, q6, q7, q8, q9, q10, q11, q12, q13]) cy RM0 RL0) := by rw [eW]; exact k_midD hD
  have hDa : ∀ RM RL, va_D A (xws (ro4 ρ h [q0, q1, q2, q3, q4, q5, q6, q7, q8, q9, q10, q11, q12, q13]) cy RM RL) := fun RM RL => xD_all hD (fun r hr => by obtain ⟨q0, -, hq⟩ := xat (ρ := ro4 ρ h [q0, q1, q2, q3, q4, q5, q6, q7, q8, q9, q10, q11, q12, q13]) (cy := cy) (RM := RM0) (RL := RL0) hr; exact hD.2 q0 _ hq)
  refine lv_aload_n hC.1 hC.2.1 (show decode cX4_init 138 = .ok (.aload_n 0, 1) by decide +kernel) rfl (lv_at hl 1 rfl) ?_
  refine w_cV (i' := mi_X4_firstDraft) (t := 22) (j := 0) (c0 := 4) (as' := []) (ra := []) (n := 0) (rest := []) hC.1 hC.2.1 hC.2.2.1 hC.2.2.2.1 hC.2.2.2.2.1 hC.2.2.2.2.2.2.1 hC.2.2.2.2.2.2.2.1.1 hC.2.2.2.2.2.2.2.2 (m_firstDraft M00) rfl hP (hDa _ _) hS rfl (by decide) rfl (by decide) (Nat.le_of_ble_eq_true rfl) (Nat.le_of_ble_eq_true rfl) (by decide +kernel) rfl (xck_in (p := (4, 15)) (by decide +kernel) rfl) (xck_in (p := (1, 5)) (by decide +kernel) rfl) (xck_in (p := (4, 13)) (by decide +kernel) rfl) (xck_in (p := (0, 26)) (by decide +kernel) rfl) hl.1 (Nat.le_of_ble_eq_true rfl) (Nat.le_of_ble_eq_true rfl) (Nat.le_of_ble_eq_true rfl) (show decode cX4_init 139 = .ok (.invokevirtual 53, 3) by decide +kernel) (fun r v RM RL H locs hor hq hP hS => ?_)
  obtain ⟨rfl, a1, a2, a3⟩ := hq
  cases hor
  refine lv_aload_n hC.1 hC.2.1 (show decode cX4_init 142 = .ok (.aload_n 0, 1) by decide +kernel) rfl (lv_at hl 1 rfl) ?_
  refine w_cV (i' := mi_X4_keepDraft) (t := 22) (j := 0) (c0 := 4) (as' := []) (ra := []) (n := 0) (rest := []) hC.1 hC.2.1 hC.2.2.1 hC.2.2.2.1 hC.2.2.2.2.1 hC.2.2.2.2.2.2.1 hC.2.2.2.2.2.2.2.1.1 hC.2.2.2.2.2.2.2.2 (m_keepDraft (K := fun r M2 => r = none ∧ InvX M2 M2) (s := s0 (D0 (M00 26 0)) (xabs RM RL 27 0)) (PI_0 (fun k hk => if_pos hk) _) a1 rfl a2.1 a2.2.2.1 (fun M2 b1 b2 b3 b4 b5 => ⟨rfl, Inv_0 a1 a2 a3 b1 b2 b3 b4 b5⟩)) rfl hP (hDa _ _) hS rfl (by decide) rfl (by decide) (Nat.le_of_ble_eq_true rfl) (Nat.le_of_ble_eq_true rfl) (by decide +kernel) rfl (xck_in (p := (4, 19)) (by decide +kernel) rfl) (xck_in (p := (1, 5)) (by decide +kernel) rfl) (xck_in (p := (4, 17)) (by decide +kernel) rfl) (xck_in (p := (0, 27)) (by decide +kernel) rfl) hl.1 (Nat.le_of_ble_eq_true rfl) (Nat.le_of_ble_eq_true rfl) (Nat.le_of_ble_eq_true rfl) (show decode cX4_init 143 = .ok (.invokevirtual 56, 3) by decide +kernel) (fun r v RM RL H locs hor hq hP hS => ?_)
  obtain ⟨rfl, inv⟩ := hq
  cases hor
  refine hX (xws (ro4 ρ h [q0, q1, q2, q3, q4, q5, q6, q7, q8, q9, q10, q11, q12, q13]) cy RM RL) H locs ls 146 _ _ ⟨ro4 ρ h [q0, q1, q2, q3, q4, q5, q6, q7, q8, q9, q10, q11, q12, q13], RM, RL, rfl, rfl, inv, rfl⟩ hP (hDa _ _) hS ?_ ?_ (show decode cX4_init 146 = .ok (.return_, 1) by decide +kernel)
  · exact Nat.le_of_ble_eq_true rfl
  · exact Nat.le_of_ble_eq_true rfl

/-! ===== constructors: the class ===== -/
theorem kPc_blind {D : va_G} {cy : Nat → ClassId} {aK aV : Nat → Nat} {sz : Nat} {wpre : va_W} {ra : List Value} : FrameBlind (kPc D cy aK aV sz wpre ra) := by
  intro a U g mk q
  obtain ⟨q0, q1, qP, qK, qD, qE⟩ := q
  exact ⟨q0, q1, qP, va_K.moved (u := U) (U := U.calling g mk a) (Vm.Alike.refl U.vm) qK, qD, qE.same rfl⟩
theorem kPc_of {D : va_G} {cy : Nat → ClassId} {aK aV : Nat → Nat} {A : Nat → Prop} {s : State} {H : Heap} {locs : List Loc} {wpre : va_W} {ra : List Value} (hK : va_K D vwCl (xtys cy) s) (hD : va_D A wpre) (hE : kE A aK aV s s.heap) (hsub : ∀ q, va_A wpre H.size q → A q) (hP : va_P D vwCl wpre H) (hS : va_S A s.heap H locs) : ∀ U : State, U.heap = H → s.WarmedH U.vm → kPc D cy aK aV H.size wpre ra ra.toArray U := by
  intro U hU hW
  refine ⟨rfl, by rw [hU], by rw [hU]; exact hP, va_K.moved hW.alike hK, hD.weaken (fun _ _ _ _ => trivial), ?_⟩
  rw [hU]
  exact ((hE.kept hS.2.1).narrow hsub).warm hW
theorem va_A_sub {A : Nat → Prop} {wpre : va_W} {s : State} {H : Heap} {locs : List Loc} (hD : va_D A wpre) (hS : va_S A s.heap H locs) (hA : ∀ q, s.heap.size ≤ q → A q) : ∀ q, va_A wpre H.size q → A q := by
  rintro q (⟨k, e, h⟩ | h)
  · exact hD.2 k _ h
  · exact hA q (Nat.le_trans hS.1 h)
section KN
variable {p : Program} {l : Launch} {e : Env} {R : Room} {s : State} {m : MethodId} {args : Array Value} {below : List Frame} {meth : Method} {c : Code} {H : Heap} {locs : List Loc} {Z : State → Prop} {D : va_G} {cy : Nat → ClassId} {aK aV : Nat → Nat} {A : Nat → Prop} {i i' : XMI} {pc idx n cells slots mc ms : Nat} {ls : Array Slot} {lv : List (Nat × Value)} {rest : List Value} {h ci : Nat} {fs : List Value} {wr : va_W} {post : va_W → Prop}
theorem k_cont {A1 free : Nat → Prop} {st0 : List Value} {a : Array Value} (hr : va_Run p l e R s m args below meth c H locs cells slots mc ms (F0 m pc ls st0) rest (kQc D A1 post a) free) (hS : va_S A s.heap H locs) (hA : ∀ q, A1 q → A q) (hf : ∀ q, free q → A q)
    (kk : ∀ (w : va_W) (H1 : Heap) (locs1 : List Loc), post w → va_P D vwCl w H1 → va_D A1 w → (∀ q : Nat, q < H.size → ¬ A1 q → H1[q]? = H[q]?) → va_S A s.heap H1 locs1 → W p l e R s m args below meth c H1 locs1 (cells + mc) (slots + ms) Z (F0 m (pc + 3) ls rest)) : W p l e R s m args below meth c H locs cells slots Z (F0 m pc ls st0) := by
  intro T hT X
  obtain ⟨v, st₀, t, T', L, h0, X', hL, e1, e2, ⟨⟨hv, w, hw, hP, hD⟩, hz, hk⟩, st⟩ := hr T hT X
  cases hv
  rw [h0] at hz hk
  obtain ⟨t2, a1, b1⟩ := kk w T'.heap (locs ++ L) hw (by rw [e1]; exact hP) hD (fun q h1 h2 => by rw [e1]; exact hk q h1 h2)
    ⟨Nat.le_trans hS.1 (by rw [e1]; exact hz), fun q h1 h2 => by rw [e1, hk q (Nat.lt_of_lt_of_le h1 hS.1) (fun z => h2 (hA q z))]; exact hS.2.1 q h1 h2, fun q hq => by
      rcases List.mem_append.mp hq with h | h
      · exact hS.2.2 q h
      · exact hf _ (hL q h)⟩ T' rfl X'
  exact ⟨t2, st t2 a1, b1⟩
theorem k_new {cj idxC idxI idxF : Nat} {gs : List Value} {pst : Nat → va_W → Prop} (hC : kCtx i p s m args meth c D cy aK aV A) (hP : va_P D vwCl ((h, .inr (ci, fs)) :: wr) H) (hD : va_D A ((h, .inr (ci, fs)) :: wr)) (hS : va_S A s.heap H locs) (hj : cj < 5) (hcl : .classLink (mOwn i) idxC (xC cj) ∈ xgt) (hinst : .instantiable (xC cj) (xN cj) ∈ xgt) (hini : .initialized (xC cj) ∈ xgt) (hgs : ∀ j, j < xN cj → defaultValue (xty cj j) = vp_V gs j) (hcells : cells + 1 + mc ≤ R.cells) (hslots : slots + xN cj + ms ≤ R.slots)
    (hm : ∀ (sz q : Nat), KM l D cy aK aV sz i' mc ms q [(q, .inr (cj, gs))] (pst q)) (hg : xgood i') (hret : mR i' = none) (hyc : (mY i').cls = xC cj) (hyn : (mY i').name = "<init>") (hdesc : (parseMethodDescriptor (mY i').desc).map (fun d => d.parameters.length) = some 0) (hF : mF i' + 1 ≤ R.frames) (hO : 8 + (mL i' + 11) + mO i' ≤ R.locals) (hin : .instanceMethod (mY i') ∈ xgt) (hl : .methodLink (mOwn i) idxI (mY i') ∈ xgt ∨ .methodLinkNest (mOwn i) idxI (mY i') RX3 ∈ knest)
    (hlv : lv_has ls (mL i) lv) (ho : ci < 5) (k : Nat) (hk : k < xN ci) (hown : (xT ci k).1 = mOwn i) (hlf : .fieldLink (mOwn i) idxF (xT ci k).1 (xT ci k).2.1 (xT ci k).2.2.1 ∈ xgt) (hnr : ∀ q, narrow (xty ci k) (.ref q) = .ref q) (hft : ∀ q, fits (xty ci k) (.ref q) = true) (hle : k < fs.length) (d1 : decode (mC i) pc = .ok (.new idxC, 3)) (d2 : decode (mC i) (pc + 3) = .ok (.dup, 1)) (d3 : decode (mC i) (pc + 3 + 1) = .ok (.invokespecial idxI, 3)) (d4 : decode (mC i) (pc + 3 + 1 + 3) = .ok (.putfield idxF, 3))
    (kk : ∀ (q : Nat) (w : va_W) (H1 : Heap) (locs1 : List Loc), pst q w → va_P D vwCl ((h, .inr (ci, fs.set k (.ref q))) :: (wr ++ w)) H1 → va_D A ((h, .inr (ci, fs.set k (.ref q))) :: (wr ++ w)) → va_S A s.heap H1 locs1 → W p l e R s m args below meth c H1 locs1 (cells + 1 + mc) (slots + xN cj + ms) Z (F0 m (pc + 3 + 1 + 3 + 3) ls [])) : W p l e R s m args below meth c H locs cells slots Z (F0 m pc ls [.ref h]) := by
  have hts := hC.2.2.2.2.1
  have hK := hC.2.2.2.2.2.2.1
  have hE := hC.2.2.2.2.2.2.2.1
  have hA := hC.2.2.2.2.2.2.2.2
  refine va_new (ci := cj) (fs := gs) (C := xC cj) (T := xT cj) (N := xN cj) hC.1 hC.2.1 hts (xin hj) (xty cj) (xty_ok hj) hC.2.2.2.1 (hts _ hcl) (hts _ hinst) (hts _ hini) hK hP hD hS hA (xcl_vw hj) hgs (by omega) (by omega) d1 (fun q H1 hP1 hD1 hS1 => ?_)
  refine lv_dup hC.1 hC.2.1 d2 rfl ?_
  have last : (((h, .inr (ci, fs)) :: wr : va_W) ++ [(q, .inr (cj, gs))])[((h, .inr (ci, fs)) :: wr : va_W).length]? = some (q, .inr (cj, gs)) := by simp
  have hPc : va_P D vwCl [(q, .inr (cj, gs))] H1 := by
    intro k x hx
    cases k with
    | zero => simp at hx; subst hx; exact hP1 _ _ last
    | succ k => simp at hx
  have hDc : va_D A [(q, .inr (cj, gs))] := by
    refine ⟨fun a b x y ha hb _ => ?_, fun k x hx => ?_⟩
    · cases a with
      | zero =>
        cases b with
        | zero => rfl
        | succ b => simp at hb
      | succ a => simp at ha
    · cases k with
      | zero => simp at hx; subst hx; exact hD1.2 _ _ last
      | succ k => simp at hx
  have hsub := va_A_sub hDc hS1 hA
  have hw : mW i' = Cond.code (mY i') (mC i') (mL i') none :: xgt := by rw [← hret]; rfl
  have hiniY : (Cond.initialized (mY i').cls).before args s = true := by rw [hyc]; exact hts _ hini
  have hrun : va_Run p l e R s m args below meth c H1 locs (cells + 1) (slots + xN cj) mc ms (F0 m (pc + 3 + 1) ls [.ref q, .ref q, .ref h]) [.ref q, .ref h] (kQc D (va_A [(q, .inr (cj, gs))] H1.size) (pst q) #[.ref q]) (va_A [(q, .inr (cj, gs))] H1.size) := by
    rcases hl with hl | hl
    · exact va_runI (n := 0) (As := []) (b := q) (rest := [.ref q, .ref h]) ⟨hC.1, hC.2.1, hC.2.2.1, hC.2.2.2.1, hts⟩ (hm H1.size q) ⟨callB_of 0 hts (mW_good hg) hw rfl rfl hiniY (hts _ hl) ⟨hg.2.1, hg.2.2, hdesc⟩ ⟨hF, hO⟩, hyn, hts _ hin⟩ ⟨kPc_blind, kPc_of hK hDc hE hsub hPc hS1⟩ rfl rfl hlv.1 rfl (lv_room (Nat.le_of_ble_eq_true rfl)) d3 ⟨hcells, hslots⟩
    · exact va_runIN (n := 0) (As := []) (b := q) (rest := [.ref q, .ref h]) ⟨hC.1, hC.2.1, hC.2.2.1, hC.2.2.2.1, hts⟩ (hm H1.size q) ⟨va_cnB 0 hts (mW_good hg) hw rfl rfl (hE.2 _ hl) hiniY ⟨hg.2.1, hg.2.2, hdesc⟩ ⟨hF, hO⟩, hyn, hts _ hin⟩ ⟨kPc_blind, kPc_of hK hDc hE hsub hPc hS1⟩ rfl rfl hlv.1 rfl (lv_room (Nat.le_of_ble_eq_true rfl)) d3 ⟨hcells, hslots⟩
  refine k_cont hrun hS1 hsub hsub (fun w H2 locs2 hw hP2 hD2 hk2 hS2 => ?_)
  obtain ⟨hP3, hD3⟩ := k_join hP1 hD1 hk2 hsub hP2 hD2
  exact k_put hC hP3 hD3 hS2 ho k hk hown hlf (hnr q) (hft q) hle d4 (fun H4 locs4 hP4 hD4 hS4 => kk q w H4 locs4 hw hP4 hD4 hS4)
end KN
def xtlC : List XR := (0, 0) :: (([0, 1, 2, 3, 4] : List (Fin 5)).flatMap (fun i => [1, 2, 3, 4, 5, 6, 7, 8, 9, 10, 11, 12].map (fun t => (t, i))) ++ [13, 14, 15, 16, 17, 18, 19, 20, 21].map (fun t => (t, (0 : Fin 5))))
def xtlM : List XR := [22, 23, 24, 25, 26, 27, 28, 29, 30, 31, 32, 33, 34, 35, 36].map (fun t => (t, (0 : Fin 5)))
theorem xtl_split : xtl = xtlC ++ xtlM := by decide +kernel
def xwsC (ρ : Nat → Fin 5 → Nat) (cy : Nat → ClassId) : va_W := xtlC.map (fun r => (ρ r.1 r.2, xcell ρ cy RM0 RL0 r))
def ro3 (h : Nat) (a0 a1 a2 a3 a4 at' as' : Nat → Nat) (q19 q20 q21 : Nat) : Nat → Fin 5 → Nat := fun t i => match t with
  | 0 => h
  | 13 => at' 13
  | 14 => at' 14
  | 15 => as' 15
  | 16 => as' 16
  | 17 => as' 17
  | 18 => as' 18
  | 19 => q19
  | 20 => q20
  | 21 => q21
  | _ => match i with
    | 0 => a0 t
    | 1 => a1 t
    | 2 => a2 t
    | 3 => a3 t
    | 4 => a4 t
set_option maxRecDepth 100000 in
theorem k_class (l : Launch) (D : va_G) (cy : Nat → ClassId) (aK aV : Nat → Nat) (sz h : Nat) : KM l D cy aK aV sz ms_a 69 2344 h [(h, .inr (3, kf3))] (fun w => ∃ ρ : Nat → Fin 5 → Nat, ρ 0 0 = h ∧ w = xwsC ρ cy) := by
  refine KM.intro (by decide +kernel) rfl rfl (by decide) rfl ?_
  intro p e s m args below meth c A Z ls hC hX hl hP hD
  have hS : va_S A s.heap s.heap [] := va_S.rf
  have hP : va_P D vwCl ((h, .inr (3, kf3)) :: []) s.heap := hP
  have hD : va_D A ((h, .inr (3, kf3)) :: []) := hD
  refine lv_aload_n hC.1 hC.2.1 (show decode cX3_init 0 = .ok (.aload_n 0, 1) by decide +kernel) rfl (lv_at hl 0 rfl) ?_
  refine k_obj0 hC (xck_in (p := (1, 18)) (by decide +kernel) rfl) hl (Nat.le_of_ble_eq_true rfl) (Nat.le_of_ble_eq_true rfl) (show decode cX3_init 1 = .ok (.invokespecial 1, 3) by decide +kernel) ?_
  refine lv_aload_n hC.1 hC.2.1 (show decode cX3_init 4 = .ok (.aload_n 0, 1) by decide +kernel) rfl (lv_at hl 0 rfl) ?_
  refine k_new (cj := 0) (gs := kf0) (i' := ms_g) (mc := 11) (ms := 56) (pst := fun q w => ∃ a : Nat → Nat, a 1 = q ∧ w = kW [1, 2, 3, 4, 5, 6, 7, 8, 9, 10, 11, 12] a cy) hC hP hD hS (by decide) (xck_in (p := (1, 21)) (by decide +kernel) rfl) (xck_in (p := (1, 22)) (by decide +kernel) rfl) (xck_in (p := (1, 2)) (by decide +kernel) rfl) (by decide) (Nat.le_of_ble_eq_true rfl) (Nat.le_of_ble_eq_true rfl) (fun sz q => k_ground l D cy aK aV sz q) mg_g rfl rfl rfl (by decide +kernel) (Nat.le_of_ble_eq_true rfl) (Nat.le_of_ble_eq_true rfl) (xck_in (p := (1, 24)) (by decide +kernel) rfl) (Or.inr (List.mem_of_getElem? (i := 0) rfl)) hl (by decide) 0 (by decide) rfl (xck_in (p := (1, 146)) (by decide +kernel) rfl) (fun _ => rfl) (fun _ => rfl) (Nat.le_of_ble_eq_true rfl) (show decode cX3_init 5 = .ok (.new 7, 3) by decide +kernel) (show decode cX3_init 8 = .ok (.dup, 1) by decide +kernel) (show decode cX3_init 9 = .ok (.invokespecial 9, 3) by decide +kernel) (show decode cX3_init 12 = .ok (.putfield 10, 3) by decide +kernel) (fun q w H locs hw hP hD hS => ?_)
  obtain ⟨a0, rfl, rfl⟩ := hw
  refine lv_aload_n hC.1 hC.2.1 (show decode cX3_init 15 = .ok (.aload_n 0, 1) by decide +kernel) rfl (lv_at hl 0 rfl) ?_
  refine k_new (cj := 0) (gs := kf0) (i' := ms_g) (mc := 11) (ms := 56) (pst := fun q w => ∃ a : Nat → Nat, a 1 = q ∧ w = kW [1, 2, 3, 4, 5, 6, 7, 8, 9, 10, 11, 12] a cy) hC hP hD hS (by decide) (xck_in (p := (1, 21)) (by decide +kernel) rfl) (xck_in (p := (1, 22)) (by decide +kernel) rfl) (xck_in (p := (1, 2)) (by decide +kernel) rfl) (by decide) (Nat.le_of_ble_eq_true rfl) (Nat.le_of_ble_eq_true rfl) (fun sz q => k_ground l D cy aK aV sz q) mg_g rfl rfl rfl (by decide +kernel) (Nat.le_of_ble_eq_true rfl) (Nat.le_of_ble_eq_true rfl) (xck_in (p := (1, 24)) (by decide +kernel) rfl) (Or.inr (List.mem_of_getElem? (i := 0) rfl)) hl (by decide) 1 (by decide) rfl (xck_in (p := (1, 147)) (by decide +kernel) rfl) (fun _ => rfl) (fun _ => rfl) (Nat.le_of_ble_eq_true rfl) (show decode cX3_init 16 = .ok (.new 7, 3) by decide +kernel) (show decode cX3_init 19 = .ok (.dup, 1) by decide +kernel) (show decode cX3_init 20 = .ok (.invokespecial 9, 3) by decide +kernel) (show decode cX3_init 23 = .ok (.putfield 16, 3) by decide +kernel) (fun q w H locs hw hP hD hS => ?_)
  obtain ⟨a1, rfl, rfl⟩ := hw
  refine lv_aload_n hC.1 hC.2.1 (show decode cX3_init 26 = .ok (.aload_n 0, 1) by decide +kernel) rfl (lv_at hl 0 rfl) ?_
  refine k_new (cj := 0) (gs := kf0) (i' := ms_g) (mc := 11) (ms := 56) (pst := fun q w => ∃ a : Nat → Nat, a 1 = q ∧ w = kW [1, 2, 3, 4, 5, 6, 7, 8, 9, 10, 11, 12] a cy) hC hP hD hS (by decide) (xck_in (p := (1, 21)) (by decide +kernel) rfl) (xck_in (p := (1, 22)) (by decide +kernel) rfl) (xck_in (p := (1, 2)) (by decide +kernel) rfl) (by decide) (Nat.le_of_ble_eq_true rfl) (Nat.le_of_ble_eq_true rfl) (fun sz q => k_ground l D cy aK aV sz q) mg_g rfl rfl rfl (by decide +kernel) (Nat.le_of_ble_eq_true rfl) (Nat.le_of_ble_eq_true rfl) (xck_in (p := (1, 24)) (by decide +kernel) rfl) (Or.inr (List.mem_of_getElem? (i := 0) rfl)) hl (by decide) 2 (by decide) rfl (xck_in (p := (1, 148)) (by decide +kernel) rfl) (fun _ => rfl) (fun _ => rfl) (Nat.le_of_ble_eq_true rfl) (show decode cX3_init 27 = .ok (.new 7, 3) by decide +kernel) (show decode cX3_init 30 = .ok (.dup, 1) by decide +kernel) (show decode cX3_init 31 = .ok (.invokespecial 9, 3) by decide +kernel) (show decode cX3_init 34 = .ok (.putfield 19, 3) by decide +kernel) (fun q w H locs hw hP hD hS => ?_)
  obtain ⟨a2, rfl, rfl⟩ := hw
  refine lv_aload_n hC.1 hC.2.1 (show decode cX3_init 37 = .ok (.aload_n 0, 1) by decide +kernel) rfl (lv_at hl 0 rfl) ?_
  refine k_new (cj := 0) (gs := kf0) (i' := ms_g) (mc := 11) (ms := 56) (pst := fun q w => ∃ a : Nat → Nat, a 1 = q ∧ w = kW [1, 2, 3, 4, 5, 6, 7, 8, 9, 10, 11, 12] a cy) hC hP hD hS (by decide) (xck_in (p := (1, 21)) (by decide +kernel) rfl) (xck_in (p := (1, 22)) (by decide +kernel) rfl) (xck_in (p := (1, 2)) (by decide +kernel) rfl) (by decide) (Nat.le_of_ble_eq_true rfl) (Nat.le_of_ble_eq_true rfl) (fun sz q => k_ground l D cy aK aV sz q) mg_g rfl rfl rfl (by decide +kernel) (Nat.le_of_ble_eq_true rfl) (Nat.le_of_ble_eq_true rfl) (xck_in (p := (1, 24)) (by decide +kernel) rfl) (Or.inr (List.mem_of_getElem? (i := 0) rfl)) hl (by decide) 3 (by decide) rfl (xck_in (p := (1, 149)) (by decide +kernel) rfl) (fun _ => rfl) (fun _ => rfl) (Nat.le_of_ble_eq_true rfl) (show decode cX3_init 38 = .ok (.new 7, 3) by decide +kernel) (show decode cX3_init 41 = .ok (.dup, 1) by decide +kernel) (show decode cX3_init 42 = .ok (.invokespecial 9, 3) by decide +kernel) (show decode cX3_init 45 = .ok (.putfield 22, 3) by decide +kernel) (fun q w H locs hw hP hD hS => ?_)
  obtain ⟨a3, rfl, rfl⟩ := hw
  refine lv_aload_n hC.1 hC.2.1 (show decode cX3_init 48 = .ok (.aload_n 0, 1) by decide +kernel) rfl (lv_at hl 0 rfl) ?_
  refine k_new (cj := 0) (gs := kf0) (i' := ms_g) (mc := 11) (ms := 56) (pst := fun q w => ∃ a : Nat → Nat, a 1 = q ∧ w = kW [1, 2, 3, 4, 5, 6, 7, 8, 9, 10, 11, 12] a cy) hC hP hD hS (by decide) (xck_in (p := (1, 21)) (by decide +kernel) rfl) (xck_in (p := (1, 22)) (by decide +kernel) rfl) (xck_in (p := (1, 2)) (by decide +kernel) rfl) (by decide) (Nat.le_of_ble_eq_true rfl) (Nat.le_of_ble_eq_true rfl) (fun sz q => k_ground l D cy aK aV sz q) mg_g rfl rfl rfl (by decide +kernel) (Nat.le_of_ble_eq_true rfl) (Nat.le_of_ble_eq_true rfl) (xck_in (p := (1, 24)) (by decide +kernel) rfl) (Or.inr (List.mem_of_getElem? (i := 0) rfl)) hl (by decide) 4 (by decide) rfl (xck_in (p := (1, 150)) (by decide +kernel) rfl) (fun _ => rfl) (fun _ => rfl) (Nat.le_of_ble_eq_true rfl) (show decode cX3_init 49 = .ok (.new 7, 3) by decide +kernel) (show decode cX3_init 52 = .ok (.dup, 1) by decide +kernel) (show decode cX3_init 53 = .ok (.invokespecial 9, 3) by decide +kernel) (show decode cX3_init 56 = .ok (.putfield 25, 3) by decide +kernel) (fun q w H locs hw hP hD hS => ?_)
  obtain ⟨a4, rfl, rfl⟩ := hw
  refine lv_aload_n hC.1 hC.2.1 (show decode cX3_init 59 = .ok (.aload_n 0, 1) by decide +kernel) rfl (lv_at hl 0 rfl) ?_
  refine lv_iconst hC.1 hC.2.1 (show decode cX3_init 60 = .ok (.iconst 0, 1) by decide +kernel) (v := 0) (by decide) ?_
  refine k_put (v := .int 0) hC hP hD hS (by decide) 5 (by decide) rfl (xck_in (p := (1, 151)) (by decide +kernel) rfl) rfl rfl (Nat.le_of_ble_eq_true rfl) (show decode cX3_init 61 = .ok (.putfield 28, 3) by decide +kernel) (fun H locs hP hD hS => ?_)
  refine lv_aload_n hC.1 hC.2.1 (show decode cX3_init 64 = .ok (.aload_n 0, 1) by decide +kernel) rfl (lv_at hl 0 rfl) ?_
  refine k_new (cj := 2) (gs := kf2) (i' := ms_t) (mc := 1) (ms := 160) (pst := fun q w => ∃ a : Nat → Nat, a 13 = q ∧ w = kW [13, 14] a cy) hC hP hD hS (by decide) (xck_in (p := (1, 97)) (by decide +kernel) rfl) (xck_in (p := (1, 98)) (by decide +kernel) rfl) (xck_in (p := (1, 3)) (by decide +kernel) rfl) (by decide) (Nat.le_of_ble_eq_true rfl) (Nat.le_of_ble_eq_true rfl) (fun sz q => k_tape l D cy aK aV sz q) mg_t rfl rfl rfl (by decide +kernel) (Nat.le_of_ble_eq_true rfl) (Nat.le_of_ble_eq_true rfl) (xck_in (p := (1, 100)) (by decide +kernel) rfl) (Or.inr (List.mem_of_getElem? (i := 1) rfl)) hl (by decide) 6 (by decide) rfl (xck_in (p := (1, 152)) (by decide +kernel) rfl) (fun _ => rfl) (fun _ => rfl) (Nat.le_of_ble_eq_true rfl) (show decode cX3_init 65 = .ok (.new 32, 3) by decide +kernel) (show decode cX3_init 68 = .ok (.dup, 1) by decide +kernel) (show decode cX3_init 69 = .ok (.invokespecial 34, 3) by decide +kernel) (show decode cX3_init 72 = .ok (.putfield 35, 3) by decide +kernel) (fun q w H locs hw hP hD hS => ?_)
  obtain ⟨at', rfl, rfl⟩ := hw
  refine lv_aload_n hC.1 hC.2.1 (show decode cX3_init 75 = .ok (.aload_n 0, 1) by decide +kernel) rfl (lv_at hl 0 rfl) ?_
  refine k_new (cj := 1) (gs := kf1) (i' := ms_s) (mc := 3) (ms := 168) (pst := fun q w => ∃ a : Nat → Nat, a 15 = q ∧ w = kW [15, 16, 17, 18] a cy) hC hP hD hS (by decide) (xck_in (p := (1, 129)) (by decide +kernel) rfl) (xck_in (p := (1, 130)) (by decide +kernel) rfl) (xck_in (p := (1, 4)) (by decide +kernel) rfl) (by decide) (Nat.le_of_ble_eq_true rfl) (Nat.le_of_ble_eq_true rfl) (fun sz q => k_sheets l D cy aK aV sz q) mg_s rfl rfl rfl (by decide +kernel) (Nat.le_of_ble_eq_true rfl) (Nat.le_of_ble_eq_true rfl) (xck_in (p := (1, 132)) (by decide +kernel) rfl) (Or.inl (xck_in (p := (1, 131)) (by decide +kernel) rfl)) hl (by decide) 7 (by decide) rfl (xck_in (p := (1, 153)) (by decide +kernel) rfl) (fun _ => rfl) (fun _ => rfl) (Nat.le_of_ble_eq_true rfl) (show decode cX3_init 76 = .ok (.new 39, 3) by decide +kernel) (show decode cX3_init 79 = .ok (.dup, 1) by decide +kernel) (show decode cX3_init 80 = .ok (.invokespecial 41, 3) by decide +kernel) (show decode cX3_init 83 = .ok (.putfield 42, 3) by decide +kernel) (fun q w H locs hw hP hD hS => ?_)
  obtain ⟨as', rfl, rfl⟩ := hw
  refine lv_aload_n hC.1 hC.2.1 (show decode cX3_init 86 = .ok (.aload_n 0, 1) by decide +kernel) rfl (lv_at hl 0 rfl) ?_
  refine lv_iconst hC.1 hC.2.1 (show decode cX3_init 87 = .ok (.iconst 0, 1) by decide +kernel) (v := 0) (by decide) ?_
  refine k_put (v := .int 0) hC hP hD hS (by decide) 8 (by decide) rfl (xck_in (p := (1, 154)) (by decide +kernel) rfl) rfl rfl (Nat.le_of_ble_eq_true rfl) (show decode cX3_init 88 = .ok (.putfield 46, 3) by decide +kernel) (fun H locs hP hD hS => ?_)
  refine lv_aload_n hC.1 hC.2.1 (show decode cX3_init 91 = .ok (.aload_n 0, 1) by decide +kernel) rfl (lv_at hl 0 rfl) ?_
  refine lv_iconst hC.1 hC.2.1 (show decode cX3_init 92 = .ok (.iconst 0, 1) by decide +kernel) (v := 0) (by decide) ?_
  refine k_put (v := .int 0) hC hP hD hS (by decide) 9 (by decide) rfl (xck_in (p := (1, 155)) (by decide +kernel) rfl) rfl rfl (Nat.le_of_ble_eq_true rfl) (show decode cX3_init 93 = .ok (.putfield 49, 3) by decide +kernel) (fun H locs hP hD hS => ?_)
  refine lv_aload_n hC.1 hC.2.1 (show decode cX3_init 96 = .ok (.aload_n 0, 1) by decide +kernel) rfl (lv_at hl 0 rfl) ?_
  refine lv_bipush hC.1 hC.2.1 (show decode cX3_init 97 = .ok (.bipush 41, 2) by decide +kernel) (v := 41) (by decide) ?_
  refine k_arr (ty := .long) (j := 3) (N := 41) (a0 := (41, .inr (.inl (fun _ => 0)))) hC hP hD hS rfl rfl (fun _ _ => rfl) (xck_in (p := (1, 186)) (by decide +kernel) rfl) (fun _ => rfl) (by decide) (by decide) (by decide) (Nat.le_of_ble_eq_true rfl) (Nat.le_of_ble_eq_true rfl) (by decide) 10 (by decide) rfl (xck_in (p := (1, 156)) (by decide +kernel) rfl) (fun _ => rfl) (fun _ => rfl) (Nat.le_of_ble_eq_true rfl) (show decode cX3_init 99 = .ok (.newarray .long, 2) by decide +kernel) (show decode cX3_init 101 = .ok (.putfield 52, 3) by decide +kernel) (fun q19 H locs hP hD hS => ?_)
  refine lv_aload_n hC.1 hC.2.1 (show decode cX3_init 104 = .ok (.aload_n 0, 1) by decide +kernel) rfl (lv_at hl 0 rfl) ?_
  refine lv_sipush hC.1 hC.2.1 (show decode cX3_init 105 = .ok (.sipush 1344, 3) by decide +kernel) (v := 1344) (by decide) ?_
  refine k_arr (ty := .int) (j := 0) (N := 1344) (a0 := (1344, .inl (fun _ => 0))) hC hP hD hS rfl rfl (fun _ _ => rfl) (xck_in (p := (1, 96)) (by decide +kernel) rfl) (fun _ => rfl) (by decide) (by decide) (by decide) (Nat.le_of_ble_eq_true rfl) (Nat.le_of_ble_eq_true rfl) (by decide) 11 (by decide) rfl (xck_in (p := (1, 157)) (by decide +kernel) rfl) (fun _ => rfl) (fun _ => rfl) (Nat.le_of_ble_eq_true rfl) (show decode cX3_init 108 = .ok (.newarray .int, 2) by decide +kernel) (show decode cX3_init 110 = .ok (.putfield 56, 3) by decide +kernel) (fun q20 H locs hP hD hS => ?_)
  refine lv_aload_n hC.1 hC.2.1 (show decode cX3_init 113 = .ok (.aload_n 0, 1) by decide +kernel) rfl (lv_at hl 0 rfl) ?_
  refine lv_sipush hC.1 hC.2.1 (show decode cX3_init 114 = .ok (.sipush 256, 3) by decide +kernel) (v := 256) (by decide) ?_
  refine k_arr (ty := .boolean) (j := 1) (N := 256) (a0 := (256, .inl (fun _ => 0))) hC hP hD hS rfl rfl (fun _ _ => rfl) (xck_in (p := (1, 187)) (by decide +kernel) rfl) (fun _ => rfl) (by decide) (by decide) (by decide) (Nat.le_of_ble_eq_true rfl) (Nat.le_of_ble_eq_true rfl) (by decide) 12 (by decide) rfl (xck_in (p := (1, 158)) (by decide +kernel) rfl) (fun _ => rfl) (fun _ => rfl) (Nat.le_of_ble_eq_true rfl) (show decode cX3_init 117 = .ok (.newarray .boolean, 2) by decide +kernel) (show decode cX3_init 119 = .ok (.putfield 60, 3) by decide +kernel) (fun q21 H locs hP hD hS => ?_)
  refine hX (xwsC (ro3 h a0 a1 a2 a3 a4 at' as' q19 q20 q21) cy) H locs ls 122 _ _ ⟨_, rfl, rfl⟩ hP hD hS ?_ ?_ (show decode cX3_init 122 = .ok (.return_, 1) by decide +kernel)
  · exact Nat.le_of_ble_eq_true rfl
  · exact Nat.le_of_ble_eq_true rfl

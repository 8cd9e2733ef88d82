/-! ===== texts: rules for the methods that hold one ===== -/
def sQ (D : va_G) (ρ : Nat → Fin 5 → Nat) (cy : Nat → ClassId) (A : Nat → Prop) (RM : Nat → Fin 5 → Nat → Int32) (RL : Nat → Fin 5 → Nat → Int64) (w : Option Value) : Array Value → State → Outcome → State → Prop := fun _ st oc t => (oc = .returned w ∧ va_P D vwCl (xws ρ cy RM RL) t.heap) ∧ va_F A st t
/-- a method that answers w and changes nothing -/
def SM (l : Launch) (D : va_G) (ρ : Nat → Fin 5 → Nat) (cy : Nat → ClassId) (aK aV : Nat → Nat) (RM : Nat → Fin 5 → Nat → Int32) (RL : Nat → Fin 5 → Nat → Int64) (sz : Nat) (i : XMI) (ra : List Value) (w : Option Value) : Prop := Met l (mY i) (mW i) (mRm i) (xPc D ρ cy aK aV RM RL sz ra) (sQ D ρ cy (xA ρ sz) RM RL w) 0 0 (xA ρ sz)
/-- where it returns -/
def sX (i : XMI) (w : Option Value) (p : Program) (l : Launch) (e : Env) (R : Room) (s : State) (m : MethodId) (args : Array Value) (below : List Frame) (meth : Method) (c : Code) (D : va_G) (ρ : Nat → Fin 5 → Nat) (cy : Nat → ClassId) (A : Nat → Prop) (RM : Nat → Fin 5 → Nat → Int32) (RL : Nat → Fin 5 → Nat → Int64) (Z : State → Prop) : Prop :=
  ∀ (H : Heap) (locs : List Loc) (ls : Array Slot) (pc : Nat), va_P D vwCl (xws ρ cy RM RL) H → va_S A s.heap H locs →
    (w = none → mR i = none → decode (mC i) pc = .ok (.return_, 1) → W p l e R s m args below meth c H locs 0 0 Z (F0 m pc ls [])) ∧
    (∀ (x : Int32) (ty : FieldType), w = some (.int x) → mR i = some ty → narrow ty (.int x) = .int x → decode (mC i) pc = .ok (.ireturn, 1) → W p l e R s m args below meth c H locs 0 0 Z (F0 m pc ls [.int x])) ∧
    (∀ (a : Nat) (nm : String), w = some (.ref a) → mR i = some (.object nm) → decode (mC i) pc = .ok (.areturn, 1) → W p l e R s m args below meth c H locs 0 0 Z (F0 m pc ls [.ref a]))
theorem SM.intro {l : Launch} {D : va_G} {ρ : Nat → Fin 5 → Nat} {cy : Nat → ClassId} {aK aV : Nat → Nat} {RM : Nat → Fin 5 → Nat → Int32} {RL : Nat → Fin 5 → Nat → Int64} {sz : Nat} {i : XMI} {ra : List Value} {w : Option Value} (hpl : plainName (mY i).cls = true) (hown : (mY i).cls = mOwn i) (hn : (lg_sl ra).length ≤ mL i)
    (body : ∀ (p : Program) (e : Env) (R : Room) (s : State) (m : MethodId) (args : Array Value) (below : List Frame) (meth : Method) (c : Code) (A : Nat → Prop) (Z : State → Prop) (ls : Array Slot), xCtx i p l R s m args meth c D ρ cy aK aV A → sX i w p l e R s m args below meth c D ρ cy A RM RL Z → lv_has ls (mL i) (lv_args 0 ra) → va_P D vwCl (xws ρ cy RM RL) s.heap → W p l e R s m args below meth c s.heap [] 0 0 Z (F0 m 0 ls [])) : SM l D ρ cy aK aV RM RL sz i ra w := by
  unfold SM
  refine Met.ofW (cc := mC i) (maxL := mL i) (ret := mR i) hpl rfl ?_
  intro p e s m args below meth c s₁ B hml hv
  obtain ⟨rfl, hsz, hP, hK, hD0, hE⟩ := hv
  have hx := B.exec
  have hb := B.bytes
  have hr := B.returns
  have hts := atoms_spec (ws := mW i) B.pre
  have hownC : s.vm.findClass (mY i).cls = some m.cls := findClass_of_methodNamed B.named
  have hlocks := B.notSynchronized
  subst hsz
  have hl := lv_entry ra (n := mL i) hn
  rw [lg_entry_eq]
  generalize (lg_sl ra ++ List.replicate (mL i - (lg_sl ra).length) Slot.unset).toArray = ls at hl ⊢
  have hA : ∀ r ∈ xtl, xA ρ s.heap.size (ρ r.1 r.2) := fun r hr => Or.inl ⟨r, hr, rfl⟩
  refine body p e (headSpec (mW i) (mRm i)).room s m _ below meth c (xA ρ s.heap.size) (MQ below (sQ D ρ cy (xA ρ s.heap.size) RM RL w) ra.toArray s 0 0 (xA ρ s.heap.size)) ls
    ⟨hx, hb, hml, by rw [← hown]; exact hownC, fun w hw => hts w (List.mem_cons_of_mem _ hw), ⟨Nat.le_refl _, Nat.le_refl _⟩, hK, fun RM' RL' => xD_all hD0 hA, hE, fun q hq => Or.inr hq⟩ ?_ hl hP
  intro H locs ls' pc hP' hS'
  refine ⟨fun h1 h2 h3 => ?_, fun x ty h1 h2 h3 h4 => ?_, fun a nm h1 h2 h3 => ?_⟩
  · exact W.vret hx hb (hr.trans h2) (fun t ht hWm => ⟨⟨by rw [h1], by rw [ht]; exact hP'⟩, hS'.F ht⟩) hS'.2.2 h3
  · exact W.zret hx hb (hr.trans h2) h3 (fun t ht hWm => ⟨⟨by rw [h1], by rw [ht]; exact hP'⟩, hS'.F ht⟩) hS'.2.2 h4
  · exact W.aret hx hb (hr.trans h2) (Or.inl ⟨nm, rfl⟩) (Or.inr ⟨_, rfl⟩) (fun t ht hWm => ⟨⟨by rw [h1], by rw [ht]; exact hP'⟩, hS'.F ht⟩) hS'.2.2 h3
section SR
variable {p : Program} {l : Launch} {e : Env} {R : Room} {s : State} {m : MethodId} {args : Array Value} {below : List Frame} {meth : Method} {c : Code} {H : Heap} {locs : List Loc} {Z : State → Prop} {D : va_G} {ρ : Nat → Fin 5 → Nat} {cy : Nat → ClassId} {aK aV : Nat → Nat} {A : Nat → Prop} {RM : Nat → Fin 5 → Nat → Int32} {RL : Nat → Fin 5 → Nat → Int64} {i i' : XMI} {pc idx n : Nat} {ls : Array Slot} {lv : List (Nat × Value)} {ra rest : List Value} {w : Option Value}
theorem s_cont {A1 free : Nat → Prop} {st0 : List Value} {a : Array Value} (hr : va_Run p l e R s m args below meth c H locs 0 0 0 0 (F0 m pc ls st0) rest (sQ D ρ cy A1 RM RL w a) free) (hS : va_S A s.heap H locs) (hA : ∀ q, A1 q → A q) (hf : ∀ q, free q → A q)
    (kk : ∀ (H1 : Heap) (locs1 : List Loc), va_P D vwCl (xws ρ cy RM RL) H1 → va_S A s.heap H1 locs1 → W p l e R s m args below meth c H1 locs1 0 0 Z (F0 m (pc + 3) ls (w.toList ++ rest))) : W p l e R s m args below meth c H locs 0 0 Z (F0 m pc ls st0) := by
  intro T hT X
  obtain ⟨v, st₀, t, T', L, h0, X', hL, e1, e2, ⟨⟨hv, hP⟩, hz, hk⟩, st⟩ := hr T hT X
  cases hv
  rw [h0] at hz hk
  obtain ⟨t2, a1, b1⟩ := kk T'.heap (locs ++ L) (by rw [e1]; exact hP)
    ⟨Nat.le_trans hS.1 (by rw [e1]; exact hz), fun q h1 h2 => by rw [e1, hk q (Nat.lt_of_lt_of_le h1 hS.1) (fun z => h2 (hA q z))]; exact hS.2.1 q h1 h2, fun q hq => by
      rcases List.mem_append.mp hq with h | h
      · exact hS.2.2 q h
      · exact hf _ (hL q h)⟩ T' rfl X'
  exact ⟨t2, st t2 a1, b1⟩
theorem s_cS (hC : xCtx i p l R s m args meth c D ρ cy aK aV A) (hm : SM l D ρ cy aK aV RM RL H.size i' ra w) (hg : xgood i') (hF : mF i' + 1 ≤ mF i) (hO : 8 + (mL i' + 11) + mO i' ≤ mO i) (hdesc : (parseMethodDescriptor (mY i').desc).map (fun d => d.parameters.length) = some n) (hlen : ra.length = n) (hst : .static (mY i') ∈ xgt) (hini : .initialized (mY i').cls ∈ xgt) (hl : .methodLink (mOwn i) idx (mY i') ∈ xgt) (hP : va_P D vwCl (xws ρ cy RM RL) H) (hS : va_S A s.heap H locs) (hlv : lv_has ls (mL i) lv) (hsum : (rest.map fun v => v.category).sum ≤ 8) (hd : decode (mC i) pc = .ok (.invokestatic idx, 3))
    (kk : ∀ (H1 : Heap) (locs1 : List Loc), va_P D vwCl (xws ρ cy RM RL) H1 → va_S A s.heap H1 locs1 → W p l e R s m args below meth c H1 locs1 0 0 Z (F0 m (pc + 3) ls (w.toList ++ rest))) : W p l e R s m args below meth c H locs 0 0 Z (F0 m pc ls (ra.reverse ++ rest)) := by
  have hD := hC.2.2.2.2.2.2.2.1 RM RL
  have hts := hC.2.2.2.2.1
  have hsub := xA_sub hD hS hC.2.2.2.2.2.2.2.2.2
  exact s_cont (va_runS (n := n) (rest := rest) ⟨hC.1, hC.2.1, hC.2.2.1, hC.2.2.2.1, hts⟩ hm ⟨callB_of n hts (mW_good hg) rfl rfl rfl (hts _ hini) (hts _ hl) ⟨hg.2.1, hg.2.2, hdesc⟩ ⟨Nat.le_trans hF hC.2.2.2.2.2.1.1, Nat.le_trans hO hC.2.2.2.2.2.1.2⟩, hts _ hst⟩ ⟨xPc_blind, xPc_of hC.2.2.2.2.2.2.1 hD hC.2.2.2.2.2.2.2.2.1 hC.2.2.2.2.2.2.2.2.2 hP hS⟩ rfl hlen hlv.1 rfl (lv_room hsum) hd ⟨Nat.zero_le _, Nat.zero_le _⟩) hS hsub hsub kk
theorem s_cV {b : Nat} {C : String} (hC : xCtx i p l R s m args meth c D ρ cy aK aV A) (hm : SM l D ρ cy aK aV RM RL H.size i' (.ref b :: ra) w) (hg : xgood i') (hF : mF i' + 1 ≤ mF i) (hO : 8 + (mL i' + 11) + mO i' ≤ mO i) (hdesc : (parseMethodDescriptor (mY i').desc).map (fun d => d.parameters.length) = some n) (hlen : ra.length = n) (hin : .instanceMethod (mY i') ∈ xgt) (hini : .initialized (mY i').cls ∈ xgt) (hl : .methodLink (mOwn i) idx (mY i') ∈ xgt) (hsel : .selects C (mY i') (mY i') ∈ xgt) (hrecv : ∃ cell : Cell, H[b]? = some cell ∧ cell.vm.isStatics = false ∧ s.vm.findClass C = some cell.cls) (hP : va_P D vwCl (xws ρ cy RM RL) H) (hS : va_S A s.heap H locs) (hlv : lv_has ls (mL i) lv) (hsum : (rest.map fun v => v.category).sum ≤ 8) (hd : decode (mC i) pc = .ok (.invokevirtual idx, 3))
    (kk : ∀ (H1 : Heap) (locs1 : List Loc), va_P D vwCl (xws ρ cy RM RL) H1 → va_S A s.heap H1 locs1 → W p l e R s m args below meth c H1 locs1 0 0 Z (F0 m (pc + 3) ls (w.toList ++ rest))) : W p l e R s m args below meth c H locs 0 0 Z (F0 m pc ls (ra.reverse ++ .ref b :: rest)) := by
  have hD := hC.2.2.2.2.2.2.2.1 RM RL
  have hts := hC.2.2.2.2.1
  have hsub := xA_sub hD hS hC.2.2.2.2.2.2.2.2.2
  exact s_cont (va_runV (n := n) (As := ra) (b := b) (C := C) (rest := rest) ⟨hC.1, hC.2.1, hC.2.2.1, hC.2.2.2.1, hts⟩ hm ⟨callB_of n hts (mW_good hg) rfl rfl rfl (hts _ hini) (hts _ hl) ⟨hg.2.1, hg.2.2, hdesc⟩ ⟨Nat.le_trans hF hC.2.2.2.2.2.1.1, Nat.le_trans hO hC.2.2.2.2.2.1.2⟩, hts _ hin, hts _ hsel⟩ ⟨xPc_blind, hrecv, xPc_of hC.2.2.2.2.2.2.1 hD hC.2.2.2.2.2.2.2.2.1 hC.2.2.2.2.2.2.2.2.2 hP hS⟩ rfl hlen hlv.1 rfl (lv_room hsum) hd ⟨Nat.zero_le _, Nat.zero_le _⟩) hS hsub hsub kk
theorem s_getI {t : Nat} {j : Fin 5} {c0 f : Nat} (hC : xCtx i p l R s m args meth c D ρ cy aK aV A) (hP : va_P D vwCl (xws ρ cy RM RL) H) (hin : (t, j) ∈ xtl) (hc : xcl t = some c0) (hk : xkd c0 f = 0) (ho : c0 < 5) (hf : f < xN c0) (hl : .fieldLink (mOwn i) idx (xT c0 f).1 (xT c0 f).2.1 (xT c0 f).2.2.1 ∈ xgt) (hd : decode (mC i) pc = .ok (.getfield idx, 3)) (k : W p l e R s m args below meth c H locs 0 0 Z (F0 m (pc + 3) ls (.int (RM t j f) :: rest))) : W p l e R s m args below meth c H locs 0 0 Z (F0 m pc ls (.ref (ρ t j) :: rest)) := by
  obtain ⟨q0, hq0, hq⟩ := xat (ρ := ρ) (cy := cy) (RM := RM) (RL := RL) hin
  rw [xcell_obj hc] at hq
  exact va_get (ws := xws ρ cy RM RL) (C := xC c0) (T := xT c0) (N := xN c0) (v := .int (RM t j f)) hC.1 hC.2.1 hC.2.2.2.2.1 (xin ho) hC.2.2.2.1 hC.2.2.2.2.2.2.1 hP q0 hq (xcl_vw ho) f hf (hC.2.2.2.2.1 _ hl) (fun _ h9 => h9) (by rw [List.getElem?_map, List.getElem?_range hf]; simp [xfv, xci_cl hc, hk]) hd k
theorem s_getR {t : Nat} {j : Fin 5} {c0 f : Nat} (hC : xCtx i p l R s m args meth c D ρ cy aK aV A) (hP : va_P D vwCl (xws ρ cy RM RL) H) (hin : (t, j) ∈ xtl) (hc : xcl t = some c0) (hk0 : xkd c0 f ≠ 0) (hk1 : xkd c0 f ≠ 1) (ho : c0 < 5) (hf : f < xN c0) (hl : .fieldLink (mOwn i) idx (xT c0 f).1 (xT c0 f).2.1 (xT c0 f).2.2.1 ∈ xgt) (hd : decode (mC i) pc = .ok (.getfield idx, 3)) (k : W p l e R s m args below meth c H locs 0 0 Z (F0 m (pc + 3) ls (.ref (ρ (xrf t j f).1 (xrf t j f).2) :: rest))) : W p l e R s m args below meth c H locs 0 0 Z (F0 m pc ls (.ref (ρ t j) :: rest)) := by
  obtain ⟨q0, hq0, hq⟩ := xat (ρ := ρ) (cy := cy) (RM := RM) (RL := RL) hin
  rw [xcell_obj hc] at hq
  exact va_get (ws := xws ρ cy RM RL) (C := xC c0) (T := xT c0) (N := xN c0) (v := .ref (ρ (xrf t j f).1 (xrf t j f).2)) hC.1 hC.2.1 hC.2.2.2.2.1 (xin ho) hC.2.2.2.1 hC.2.2.2.2.2.2.1 hP q0 hq (xcl_vw ho) f hf (hC.2.2.2.2.1 _ hl) (fun _ h9 => h9) (by
    rw [List.getElem?_map, List.getElem?_range hf]
    simp only [Option.map_some, xfv, xci_cl hc] <;> split <;> first | rfl | (rename_i q; exact absurd q hk0) | (rename_i q; exact absurd q hk1)) hd k
theorem s_bald {t : Nat} {j : Fin 5} {N : Nat} {x : Int32} (hC : xCtx i p l R s m args meth c D ρ cy aK aV A) (hP : va_P D vwCl (xws ρ cy RM RL) H) (hin : (t, j) ∈ xtl) (ha : xar t = some (2, N)) (hi : 0 ≤ x.toInt ∧ x.toInt < (N : Int)) (hd : decode (mC i) pc = .ok (.baload, 1)) (k : W p l e R s m args below meth c H locs 0 0 Z (F0 m (pc + 1) ls (.int (RM t j x.toInt.toNat) :: rest))) : W p l e R s m args below meth c H locs 0 0 Z (F0 m pc ls (.int x :: .ref (ρ t j) :: rest)) := by
  obtain ⟨q0, hq0, hq⟩ := xat (ρ := ρ) (cy := cy) (RM := RM) (RL := RL) hin
  rw [xcell_row ha (by decide)] at hq
  exact va_bald (ws := xws ρ cy RM RL) hC.1 hC.2.1 hC.2.2.2.2.2.2.1 hP q0 2 hq rfl (x_in hi) hd k
end SR
/-- a method of the class that holds no text, by such a walk -/
theorem CW_of {i : XMI} {M : XM} {z : Int} (hg : xgood i) (x : Int32) (hx : x.toInt = z) (h : ∀ (l : Launch) (D : va_G) (ρ : Nat → Fin 5 → Nat) (cy : Nat → ClassId) (aK aV : Nat → Nat) (RM : Nat → Fin 5 → Nat → Int32) (RL : Nat → Fin 5 → Nat → Int64) (sz : Nat), xabs RM RL = M → SM l D ρ cy aK aV RM RL sz i [.ref (ρ 13 0)] (some (.int x))) : CW i [xR 13 0] M (pI M z) := by
  refine ⟨hg, fun l D ρ cy aK aV RM RL sz ra hM hs => ?_⟩
  obtain ⟨w, ws, rfl, ⟨rfl, -⟩, rfl⟩ := hs
  have hm := h l D ρ cy aK aV RM RL sz hM
  intro p e ha hc hk s m args below hf hfit hP hK
  obtain ⟨t, o, h1, h2, h3, ⟨⟨⟨q1, q2⟩, q5⟩, q6⟩⟩ := hm p e ha hc hk s m args below hf hfit hP hK
  exact ⟨t, o, h1, h2, h3, ⟨⟨⟨some (xI z), some (.int x), RM, RL, q1, ⟨_, rfl, x, rfl, hx⟩, ⟨rfl, hM⟩, q2⟩, q5⟩, q6⟩⟩

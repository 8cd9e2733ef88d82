/-! ===== methods, contracts, the judgement at an instruction ===== -/
/-- own class, name, code, locals, what it answers, frames and locals of its room -/
abbrev XMI : Type := String × MethodName × ByteArray × Nat × Option FieldType × Nat × Nat
abbrev XCI : Type := XMI × Nat × Nat × Bool × List (Nat × Nat)
abbrev XI : Type := (Nat × Nat × (Nat × Nat)) ⊕ (XCI ⊕ (List Nat ⊕ (Int × (Nat × Nat))))
abbrev XE : Type := Nat × Instr × Nat × XI
abbrev mOwn (i : XMI) : String := i.1
abbrev mY (i : XMI) : MethodName := i.2.1
abbrev mC (i : XMI) : ByteArray := i.2.2.1
abbrev mL (i : XMI) : Nat := i.2.2.2.1
abbrev mR (i : XMI) : Option FieldType := i.2.2.2.2.1
abbrev mF (i : XMI) : Nat := i.2.2.2.2.2.1
abbrev mO (i : XMI) : Nat := i.2.2.2.2.2.2
def mW (i : XMI) : List Jvm.Cond := .code (mY i) (mC i) (mL i) (mR i) :: xgt
def mRm (i : XMI) : Room := { frames := mF i, cells := 0, slots := 0, locals := mO i }
/-- the words between nest mates; the seven texts -/
def xnest : List Jvm.Cond := [.methodLinkNest RX0 74 yX3_numberOf RX3, .methodLinkNest RX0 89 yX3_cellOf RX3, .methodLinkNest RX0 92 yX3_within RX3, .methodLinkNest RX2 148 yX3_cellOf RX3, .methodLinkNest RX1 19 yX3_within RX3]
def xtx (i : Nat) : Nat × String := match i with
  | 0 => (83, "plain")
  | 1 => (85, "cynic")
  | 2 => (87, "lover")
  | 3 => (89, "guard")
  | 4 => (91, "rock")
  | 5 => (93, "faith")
  | _ => (95, "word")
def xtl_len : List Nat := [5, 5, 5, 5, 4, 5, 4]
def xtl_byt : List (List Int32) := [[112, 108, 97, 105, 110], [99, 121, 110, 105, 99], [108, 111, 118, 101, 114], [103, 117, 97, 114, 100], [114, 111, 99, 107], [102, 97, 105, 116, 104], [119, 111, 114, 100]]
def xE (A : Nat → Prop) (aK aV : Nat → Nat) (U : State) (H : Heap) : Prop :=
  (∀ w ∈ xnest, va_Nw w U) ∧ (∀ i : Nat, i < 7 → vk_R RX2 (xtx i).1 (xtx i).2 (aK i) U) ∧ vk_S 7 xtl_len xtl_byt aK aV A U H ∧ va_Z "java/lang/String" "COMPACT_STRINGS" "Z" (.int 1) A U H ∧ va_Zq "jdk/internal/util/Preconditions" "SIOOBE_FORMATTER" "Ljava/util/function/BiFunction;" A U H
theorem xE.narrow {A B : Nat → Prop} {aK aV : Nat → Nat} {U : State} {H : Heap} (h : xE A aK aV U H) (hAB : ∀ q, B q → A q) : xE B aK aV U H :=
  ⟨h.1, h.2.1, h.2.2.1.narrow hAB, h.2.2.2.1.narrow hAB, h.2.2.2.2.narrow hAB⟩
theorem xE.kept {A : Nat → Prop} {aK aV : Nat → Nat} {U : State} {H H1 : Heap} (h : xE A aK aV U H) (hq : ∀ a : Nat, a < H.size → ¬ A a → H1[a]? = H[a]?) : xE A aK aV U H1 :=
  ⟨h.1, h.2.1, h.2.2.1.kept hq, h.2.2.2.1.kept hq, h.2.2.2.2.kept hq⟩
theorem xE.same {A : Nat → Prop} {aK aV : Nat → Nat} {u U : State} {H : Heap} (h : xE A aK aV u H) (hv : U.vm = u.vm) : xE A aK aV U H := by
  have ha : u.vm.Alike U.vm := by rw [hv]; exact Vm.Alike.refl _
  refine ⟨fun w hw => ?_, fun i hi => (h.2.1 i hi).same hv, h.2.2.1.moved ha, h.2.2.2.1.moved ha, h.2.2.2.2.moved ha⟩
  have hw2 := hw
  unfold xnest at hw2
  simp only [List.mem_cons, List.not_mem_nil, or_false] at hw2
  rcases hw2 with rfl | rfl | rfl | rfl | rfl <;> exact va_Nw.same rfl hv.symm (h.1 _ hw)
theorem xE.warm {A : Nat → Prop} {aK aV : Nat → Nat} {s U : State} {H : Heap} (h : xE A aK aV s H) (hW : s.WarmedH U.vm) : xE A aK aV U H := by
  refine ⟨fun w hw => ?_, fun i hi => (h.2.1 i hi).warm hW, h.2.2.1.moved hW.alike, h.2.2.2.1.moved hW.alike, h.2.2.2.2.moved hW.alike⟩
  have hw2 := hw
  unfold xnest at hw2
  simp only [List.mem_cons, List.not_mem_nil, or_false] at hw2
  rcases hw2 with rfl | rfl | rfl | rfl | rfl <;> exact va_Nw.warmM hW (h.1 _ hw)
/-- a method's start -/
def xPc (D : va_G) (ρ : Nat → Fin 5 → Nat) (cy : Nat → ClassId) (aK aV : Nat → Nat) (RM : Nat → Fin 5 → Nat → Int32) (RL : Nat → Fin 5 → Nat → Int64) (sz : Nat) (ra : List Value) : Array Value → State → Prop :=
  va_Pc ra (fun U => U.heap.size = sz ∧ va_P D vwCl (xws ρ cy RM RL) U.heap ∧ va_K D vwCl (xtys cy) U ∧ va_D (fun _ => True) (xws ρ cy RM RL) ∧ xE (xA ρ sz) aK aV U U.heap)
/-- a method's end -/
def xQc (D : va_G) (ρ : Nat → Fin 5 → Nat) (cy : Nat → ClassId) (A : Nat → Prop) (Q : Option XV → XM → Prop) : Array Value → State → Outcome → State → Prop := fun _ st oc t =>
  (∃ (r : Option XV) (v : Option Value) (RM : Nat → Fin 5 → Nat → Int32) (RL : Nat → Fin 5 → Nat → Int64), oc = .returned v ∧ xOR ρ r v ∧ Q r (xabs RM RL) ∧ va_P D vwCl (xws ρ cy RM RL) t.heap) ∧ va_F A st t
def xgood (i : XMI) : Prop := .code (mY i) (mC i) (mL i) (mR i) ∈ xgt ∧ (mY i).cls ≠ "java/lang/invoke/MethodHandle" ∧ (mY i).cls ≠ "java/lang/invoke/VarHandle"
/-- THE CONTRACT: called with these arguments in this memory, the method returns, and its answer and the memory behind it are as Q says -/
def CW (i : XMI) (as : List XV) (M : XM) (Q : Option XV → XM → Prop) : Prop := xgood i ∧
  ∀ (l : Launch) (D : va_G) (ρ : Nat → Fin 5 → Nat) (cy : Nat → ClassId) (aK aV : Nat → Nat) (RM : Nat → Fin 5 → Nat → Int32) (RL : Nat → Fin 5 → Nat → Int64) (sz : Nat) (ra : List Value), xabs RM RL = M → xSR ρ as ra →
    Met l (mY i) (mW i) (mRm i) (xPc D ρ cy aK aV RM RL sz ra) (xQc D ρ cy (xA ρ sz) Q) 0 0 (xA ρ sz)
/-- the standing of a method's body -/
def xCtx (i : XMI) (p : Program) (l : Launch) (R : Room) (s : State) (m : MethodId) (args : Array Value) (meth : Method) (c : Code) (D : va_G) (ρ : Nat → Fin 5 → Nat) (cy : Nat → ClassId) (aK aV : Nat → Nat) (A : Nat → Prop) : Prop :=
  p.tables.exec = Jvm.exec ∧ c.code = mC i ∧ c.maxLocals = mL i ∧ s.vm.findClass (mOwn i) = some m.cls ∧ (∀ w ∈ xgt, w.before args s = true) ∧ (mF i ≤ R.frames ∧ mO i ≤ R.locals) ∧ va_K D vwCl (xtys cy) s ∧ (∀ RM RL, va_D A (xws ρ cy RM RL)) ∧ xE A aK aV s s.heap ∧ (∀ q, s.heap.size ≤ q → A q)
/-- what must hold where the method returns -/
def xExit (i : XMI) (K : Option XV → XM → Prop) (p : Program) (l : Launch) (e : Env) (R : Room) (s : State) (m : MethodId) (args : Array Value) (below : List Frame) (meth : Method) (c : Code) (D : va_G) (ρ : Nat → Fin 5 → Nat) (cy : Nat → ClassId) (A : Nat → Prop) (Z : State → Prop) : Prop :=
  ∀ (r : Option XV) (RM : Nat → Fin 5 → Nat → Int32) (RL : Nat → Fin 5 → Nat → Int64) (H : Heap) (locs : List Loc) (ls : Array Slot) (pc : Nat), K r (xabs RM RL) → va_P D vwCl (xws ρ cy RM RL) H → va_S A s.heap H locs →
    (r = none → mR i = none → decode (mC i) pc = .ok (.return_, 1) → W p l e R s m args below meth c H locs 0 0 Z (F0 m pc ls [])) ∧
    (∀ (x : Int32) (ty : FieldType), r = some (xI x.toInt) → mR i = some ty → narrow ty (.int x) = .int x → decode (mC i) pc = .ok (.ireturn, 1) → W p l e R s m args below meth c H locs 0 0 Z (F0 m pc ls [.int x])) ∧
    (∀ (x : Int64), r = some (xL x.toInt) → mR i = some .long → decode (mC i) pc = .ok (.lreturn, 1) → W p l e R s m args below meth c H locs 0 0 Z (F0 m pc ls [.long x])) ∧
    (∀ (q : XR) (nm : String), r = some (.inr (.inr q)) → q ∈ xtl → mR i = some (.object nm) → decode (mC i) pc = .ok (.areturn, 1) → W p l e R s m args below meth c H locs 0 0 Z (F0 m pc ls [.ref (ρ q.1 q.2)]))
def xpc (ct : List XE) (k : Nat) : Nat := match ct[k]? with
  | some e => e.1
  | none => 0
/-- THE JUDGEMENT: at instruction k with these locals, stack and memory the method goes on to an end as K says -/
def J (i : XMI) (ct : List XE) (K : Option XV → XM → Prop) (k : Nat) (L : List (Option XV)) (st : List XV) (M : XM) : Prop :=
  ∀ (p : Program) (l : Launch) (e : Env) (R : Room) (s : State) (m : MethodId) (args : Array Value) (below : List Frame) (meth : Method) (c : Code) (D : va_G) (ρ : Nat → Fin 5 → Nat) (cy : Nat → ClassId) (aK aV : Nat → Nat) (A : Nat → Prop) (Z : State → Prop),
    xCtx i p l R s m args meth c D ρ cy aK aV A → xExit i K p l e R s m args below meth c D ρ cy A Z →
    ∀ (RM : Nat → Fin 5 → Nat → Int32) (RL : Nat → Fin 5 → Nat → Int64) (H : Heap) (locs : List Loc) (ls : Array Slot) (rs : List Value), xabs RM RL = M → va_P D vwCl (xws ρ cy RM RL) H → va_S A s.heap H locs → xLR ρ (mL i) L ls → xSR ρ st rs →
      W p l e R s m args below meth c H locs 0 0 Z (F0 m (xpc ct k) ls rs)
theorem CW.mono {i : XMI} {as : List XV} {M : XM} {Q Q' : Option XV → XM → Prop} (h : CW i as M Q) (hq : ∀ r M', Q r M' → Q' r M') : CW i as M Q' := by
  refine ⟨h.1, fun l D ρ cy aK aV RM RL sz ra hM hs => ?_⟩
  have hm := h.2 l D ρ cy aK aV RM RL sz ra hM hs
  intro p e ha hc hk s m args below hf hfit hP hK
  obtain ⟨t, o, h1, h2, h3, ⟨⟨⟨r, v, RM', RL', q1, q2, q3, q4⟩, q5⟩, q6⟩⟩ := hm p e ha hc hk s m args below hf hfit hP hK
  exact ⟨t, o, h1, h2, h3, ⟨⟨⟨r, v, RM', RL', q1, q2, hq _ _ q3, q4⟩, q5⟩, q6⟩⟩
/-- the locals as the arguments lay them -/
def xargs0 : List XV → List (Option XV)
  | [] => []
  | .inl z :: vs => some (.inl z) :: xargs0 vs
  | .inr (.inl z) :: vs => some (.inr (.inl z)) :: none :: xargs0 vs
  | .inr (.inr q) :: vs => some (.inr (.inr q)) :: xargs0 vs
def xent (n : Nat) (as : List XV) : List (Option XV) := xargs0 as ++ List.replicate (n - (xargs0 as).length) none
theorem xLR_args {ρ : Nat → Fin 5 → Nat} : ∀ (as : List XV) (ra : List Value) (j k : Nat) (v : XV), xSR ρ as ra → (xargs0 as)[k]? = some (some v) → ∃ w, (j + k, w) ∈ lv_args j ra ∧ vrel ρ v w
  | [], ra, j, k, v, _, h => by simp [xargs0] at h
  | a :: as, ra, j, k, v, hs, h => by
    obtain ⟨w, ws, rfl, hv, hs⟩ := hs
    match a, hv with
    | .inl z, hv =>
      obtain ⟨x, rfl, hx⟩ := hv
      match k with
      | 0 =>
        simp [xargs0] at h
        subst h
        exact ⟨.int x, by simp [lv_args], x, rfl, hx⟩
      | k + 1 =>
        simp only [xargs0, List.getElem?_cons_succ] at h
        obtain ⟨w, h1, h2⟩ := xLR_args as ws (j + 1) k v hs h
        exact ⟨w, by simp only [lv_args, Value.category]; refine List.mem_cons_of_mem _ ?_; rw [show j + (k + 1) = j + 1 + k by omega]; simpa using h1, h2⟩
    | .inr (.inl z), hv =>
      obtain ⟨x, rfl, hx⟩ := hv
      match k with
      | 0 =>
        simp [xargs0] at h
        subst h
        exact ⟨.long x, by simp [lv_args], x, rfl, hx⟩
      | 1 => simp [xargs0] at h
      | k + 2 =>
        simp only [xargs0, List.getElem?_cons_succ] at h
        obtain ⟨w, h1, h2⟩ := xLR_args as ws (j + 2) k v hs h
        exact ⟨w, by simp only [lv_args, Value.category]; refine List.mem_cons_of_mem _ ?_; rw [show j + (k + 2) = j + 2 + k by omega]; simpa using h1, h2⟩
    | .inr (.inr q), hv =>
      obtain ⟨rfl, hx⟩ := hv
      match k with
      | 0 =>
        simp [xargs0] at h
        subst h
        exact ⟨.ref (ρ q.1 q.2), by simp [lv_args], rfl, hx⟩
      | k + 1 =>
        simp only [xargs0, List.getElem?_cons_succ] at h
        obtain ⟨w, h1, h2⟩ := xLR_args as ws (j + 1) k v hs h
        exact ⟨w, by simp only [lv_args, Value.category]; refine List.mem_cons_of_mem _ ?_; rw [show j + (k + 1) = j + 1 + k by omega]; simpa using h1, h2⟩
theorem xent_at {n k : Nat} {as : List XV} {v : XV} (h : (xent n as)[k]? = some (some v)) : (xargs0 as)[k]? = some (some v) := by
  unfold xent at h
  rw [List.getElem?_append] at h
  split at h
  · exact h
  · rw [List.getElem?_replicate] at h
    split at h <;> cases h
theorem xsl_len {ρ : Nat → Fin 5 → Nat} : ∀ (as : List XV) (ra : List Value), xSR ρ as ra → (lg_sl ra).length = (xargs0 as).length
  | [], ra, h => by cases h; rfl
  | a :: as, ra, hs => by
    obtain ⟨w, ws, rfl, hv, hs⟩ := hs
    have ih := xsl_len as ws hs
    match a, hv with
    | .inl z, hv => obtain ⟨x, rfl, hx⟩ := hv; simp [xargs0, lg_sl, Value.category] at ih ⊢; exact ih
    | .inr (.inl z), hv => obtain ⟨x, rfl, hx⟩ := hv; simp [xargs0, lg_sl, Value.category] at ih ⊢; exact ih
    | .inr (.inr q), hv => obtain ⟨rfl, hx⟩ := hv; simp [xargs0, lg_sl, Value.category] at ih ⊢; exact ih
theorem xD_all {A B : Nat → Prop} {ρ : Nat → Fin 5 → Nat} {cy : Nat → ClassId} {RM RM' : Nat → Fin 5 → Nat → Int32} {RL RL' : Nat → Fin 5 → Nat → Int64} (h : va_D A (xws ρ cy RM RL)) (hB : ∀ r ∈ xtl, B (ρ r.1 r.2)) : va_D B (xws ρ cy RM' RL') := by
  have key : ∀ (j : Nat) (q : Nat × va_E), (xws ρ cy RM' RL')[j]? = some q → ∃ r, xtl[j]? = some r ∧ q.1 = ρ r.1 r.2 ∧ (xws ρ cy RM RL)[j]? = some (ρ r.1 r.2, xcell ρ cy RM RL r) := by
    intro j q hq
    unfold xws at hq ⊢
    rw [List.getElem?_map] at hq ⊢
    cases hr : xtl[j]? with
    | none => rw [hr] at hq; cases hq
    | some r => rw [hr] at hq; cases hq; exact ⟨r, rfl, rfl, rfl⟩
  refine ⟨fun a b p q ha hb hpq => ?_, fun k q hk => ?_⟩
  · obtain ⟨r1, -, e1, g1⟩ := key a p ha
    obtain ⟨r2, -, e2, g2⟩ := key b q hb
    exact h.1 a b _ _ g1 g2 (by rw [← e1, ← e2]; exact hpq)
  · obtain ⟨r, g0, e1, -⟩ := key k q hk
    rw [e1]
    exact hB r (List.mem_of_getElem? g0)
/-- a contract by its body -/
theorem CW.intro {i : XMI} {as : List XV} {M : XM} {Q : Option XV → XM → Prop} (ct : List XE) (hg : xgood i) (hpl : plainName (mY i).cls = true) (hown : (mY i).cls = mOwn i) (hn : (xargs0 as).length ≤ mL i) (h0 : xpc ct 0 = 0) (h : J i ct Q 0 (xent (mL i) as) [] M) : CW i as M Q := by
  refine ⟨hg, fun l D ρ cy aK aV RM RL sz ra hM hs => ?_⟩
  refine Met.ofW (cc := mC i) (maxL := mL i) (ret := mR i) hpl rfl ?_
  intro p e s m args below meth c s₁ B hml hv
  obtain ⟨rfl, hsz, hP, hK, hD0, hE⟩ := hv
  have hx := B.exec
  have hb := B.bytes
  have hr := B.returns
  have hts := atoms_spec (ws := mW i) B.pre
  have hownC : s.vm.findClass (mY i).cls = some m.cls := findClass_of_methodNamed B.named
  have hlocks := B.notSynchronized
  subst hsz
  have hl := lv_entry ra (n := mL i) (by rw [xsl_len as ra hs]; exact hn)
  rw [lg_entry_eq]
  generalize (lg_sl ra ++ List.replicate (mL i - (lg_sl ra).length) Slot.unset).toArray = ls at hl ⊢
  have hA : ∀ r ∈ xtl, xA ρ s.heap.size (ρ r.1 r.2) := fun r hr => Or.inl ⟨r, hr, rfl⟩
  have hW := h p l e (headSpec (mW i) (mRm i)).room s m _ below meth c D ρ cy aK aV (xA ρ s.heap.size) (MQ below (xQc D ρ cy (xA ρ s.heap.size) Q) ra.toArray s 0 0 (xA ρ s.heap.size))
    ⟨hx, hb, hml, by rw [← hown]; exact hownC, fun w hw => hts w (List.mem_cons_of_mem _ hw), ⟨Nat.le_refl _, Nat.le_refl _⟩, hK, fun RM' RL' => xD_all hD0 hA, hE, fun q hq => Or.inr hq⟩ ?_ RM RL s.heap [] ls [] hM hP va_S.rf ⟨_, hl, fun k v hk => by
      obtain ⟨w, h1, h2⟩ := xLR_args as ra 0 k v hs (xent_at hk)
      exact ⟨w, by simpa using h1, h2⟩⟩ rfl
  · rw [h0] at hW
    exact hW
  · intro r RM' RL' H locs ls' pc hK' hP' hS'
    refine ⟨fun h1 h2 h3 => ?_, fun x ty h1 h2 h3 h4 => ?_, fun x h1 h2 h3 => ?_, fun q nm h1 hq h2 h3 => ?_⟩
    · exact W.vret hx hb (hr.trans h2) (fun t ht hWm => ⟨⟨r, none, RM', RL', rfl, by rw [h1]; rfl, hK', by rw [ht]; exact hP'⟩, hS'.F ht⟩) hS'.2.2 h3
    · exact W.zret hx hb (hr.trans h2) h3 (fun t ht hWm => ⟨⟨r, some (.int x), RM', RL', rfl, by rw [h1]; exact ⟨_, rfl, x, rfl, rfl⟩, hK', by rw [ht]; exact hP'⟩, hS'.F ht⟩) hS'.2.2 h4
    · exact W.lret hx hb (hr.trans h2) (fun t ht hWm => ⟨⟨r, some (.long x), RM', RL', rfl, by rw [h1]; exact ⟨_, rfl, x, rfl, rfl⟩, hK', by rw [ht]; exact hP'⟩, hS'.F ht⟩) hS'.2.2 h3
    · exact W.aret hx hb (hr.trans h2) (Or.inl ⟨nm, rfl⟩) (Or.inr ⟨_, rfl⟩) (fun t ht hWm => ⟨⟨r, some (.ref (ρ q.1 q.2)), RM', RL', rfl, by rw [h1]; exact ⟨_, rfl, rfl, hq⟩, hK', by rw [ht]; exact hP'⟩, hS'.F ht⟩) hS'.2.2 h3

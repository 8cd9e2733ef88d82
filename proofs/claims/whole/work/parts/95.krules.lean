/-! ===== constructors: rules ===== -/
def knest : List Jvm.Cond := [.methodLinkNest RX3 9 yX0_init RX3, .methodLinkNest RX3 34 yX2_init RX3]
def kE (A : Nat → Prop) (aK aV : Nat → Nat) (U : State) (H : Heap) : Prop := xE A aK aV U H ∧ ∀ w ∈ knest, va_Nw w U
theorem kE.narrow {A B : Nat → Prop} {aK aV : Nat → Nat} {U : State} {H : Heap} (h : kE A aK aV U H) (hAB : ∀ q, B q → A q) : kE B aK aV U H := ⟨h.1.narrow hAB, h.2⟩
theorem kE.kept {A : Nat → Prop} {aK aV : Nat → Nat} {U : State} {H H1 : Heap} (h : kE A aK aV U H) (hq : ∀ a : Nat, a < H.size → ¬ A a → H1[a]? = H[a]?) : kE A aK aV U H1 := ⟨h.1.kept hq, h.2⟩
theorem kE.same {A : Nat → Prop} {aK aV : Nat → Nat} {u U : State} {H : Heap} (h : kE A aK aV u H) (hv : U.vm = u.vm) : kE A aK aV U H := by
  refine ⟨h.1.same hv, fun w hw => ?_⟩
  have hw2 := hw
  unfold knest at hw2
  simp only [List.mem_cons, List.not_mem_nil, or_false] at hw2
  rcases hw2 with rfl | rfl <;> exact va_Nw.same rfl hv.symm (h.2 _ hw)
theorem kE.warm {A : Nat → Prop} {aK aV : Nat → Nat} {s U : State} {H : Heap} (h : kE A aK aV s H) (hW : s.WarmedH U.vm) : kE A aK aV U H := by
  refine ⟨h.1.warm hW, fun w hw => ?_⟩
  have hw2 := hw
  unfold knest at hw2
  simp only [List.mem_cons, List.not_mem_nil, or_false] at hw2
  rcases hw2 with rfl | rfl <;> exact va_Nw.warmM hW (h.2 _ hw)
def kRm (i : XMI) (mc ms : Nat) : Room := { frames := mF i, cells := mc, slots := ms, locals := mO i }
def kPc (D : va_G) (cy : Nat → ClassId) (aK aV : Nat → Nat) (sz : Nat) (wpre : va_W) (ra : List Value) : Array Value → State → Prop :=
  va_Pc ra (fun U => U.heap.size = sz ∧ va_P D vwCl wpre U.heap ∧ va_K D vwCl (xtys cy) U ∧ va_D (fun _ => True) wpre ∧ kE (va_A wpre sz) aK aV U U.heap)
def kQc (D : va_G) (A : Nat → Prop) (post : va_W → Prop) : Array Value → State → Outcome → State → Prop := fun _ st oc t =>
  (oc = .returned none ∧ ∃ w, post w ∧ va_P D vwCl w t.heap ∧ va_D A w) ∧ va_F A st t
/-- a constructor: from the world wpre it makes a world w with post -/
def KM (l : Launch) (D : va_G) (cy : Nat → ClassId) (aK aV : Nat → Nat) (sz : Nat) (i : XMI) (mc ms : Nat) (h : Nat) (wpre : va_W) (post : va_W → Prop) : Prop :=
  Met l (mY i) (mW i) (kRm i mc ms) (kPc D cy aK aV sz wpre [.ref h]) (kQc D (va_A wpre sz) post) mc ms (va_A wpre sz)
def kCtx (i : XMI) (p : Program) (s : State) (m : MethodId) (args : Array Value) (meth : Method) (c : Code) (D : va_G) (cy : Nat → ClassId) (aK aV : Nat → Nat) (A : Nat → Prop) : Prop :=
  p.tables.exec = Jvm.exec ∧ c.code = mC i ∧ c.maxLocals = mL i ∧ s.vm.findClass (mOwn i) = some m.cls ∧ (∀ w ∈ xgt, w.before args s = true) ∧ meth.name = "<init>" ∧ va_K D vwCl (xtys cy) s ∧ kE A aK aV s s.heap ∧ (∀ q, s.heap.size ≤ q → A q)
def kX (i : XMI) (mc ms : Nat) (post : va_W → Prop) (p : Program) (l : Launch) (e : Env) (R : Room) (s : State) (m : MethodId) (args : Array Value) (below : List Frame) (meth : Method) (c : Code) (D : va_G) (A : Nat → Prop) (Z : State → Prop) : Prop :=
  ∀ (w : va_W) (H : Heap) (locs : List Loc) (ls : Array Slot) (pc cells slots : Nat), post w → va_P D vwCl w H → va_D A w → va_S A s.heap H locs → cells ≤ mc → slots ≤ ms → decode (mC i) pc = .ok (.return_, 1) → W p l e R s m args below meth c H locs cells slots Z (F0 m pc ls [])
theorem va_D_self {D0 : Nat → Prop} {ws : va_W} {sz : Nat} (h : va_D D0 ws) : va_D (va_A ws sz) ws := ⟨h.1, fun k q hq => va_A.in hq⟩
theorem KM.intro {l : Launch} {D : va_G} {cy : Nat → ClassId} {aK aV : Nat → Nat} {sz : Nat} {i : XMI} {mc ms : Nat} {h : Nat} {wpre : va_W} {post : va_W → Prop} (hpl : plainName (mY i).cls = true) (hown : (mY i).cls = mOwn i) (hnm : (mY i).name = "<init>") (hn : 1 ≤ mL i) (hret : mR i = none)
    (body : ∀ (p : Program) (e : Env) (s : State) (m : MethodId) (args : Array Value) (below : List Frame) (meth : Method) (c : Code) (A : Nat → Prop) (Z : State → Prop) (ls : Array Slot), kCtx i p s m args meth c D cy aK aV A → kX i mc ms post p l e (kRm i mc ms) s m args below meth c D A Z → lv_has ls (mL i) [(0, .ref h)] → va_P D vwCl wpre s.heap → va_D A wpre → W p l e (kRm i mc ms) s m args below meth c s.heap [] 0 0 Z (F0 m 0 ls [])) : KM l D cy aK aV sz i mc ms h wpre post := by
  unfold KM
  refine Met.ofW (cc := mC i) (maxL := mL i) (ret := mR i) hpl rfl ?_
  intro p e s m args below meth c s₁ B hml hv
  obtain ⟨rfl, hsz, hP, hK, hD0, hE⟩ := hv
  have hx := B.exec
  have hb := B.bytes
  have hr := B.returns
  have hts := atoms_spec (ws := mW i) B.pre
  have hownC : s.vm.findClass (mY i).cls = some m.cls := findClass_of_methodNamed B.named
  have hin : meth.name = "<init>" := (name_of_methodNamed B.named B.method).1.trans hnm
  have hlocks := B.notSynchronized
  subst hsz
  have hl := lv_entry ([.ref h]) (n := mL i) hn
  rw [lg_entry_eq]
  generalize (lg_sl ([.ref h]) ++ List.replicate (mL i - (lg_sl ([.ref h])).length) Slot.unset).toArray = ls at hl ⊢
  refine body p e s m _ below meth c (va_A wpre s.heap.size) (MQ below (kQc D (va_A wpre s.heap.size) post) #[.ref h] s mc ms (va_A wpre s.heap.size)) ls
    ⟨hx, hb, hml, by rw [← hown]; exact hownC, fun w hw => hts w (List.mem_cons_of_mem _ hw), hin, hK, hE, fun q hq => Or.inr hq⟩ ?_ hl hP (va_D_self hD0)
  intro w H locs ls' pc cells slots hw hP' hD' hS' h1 h2 h3
  refine W.widen (k := mc) (n := ms) h1 h2 ?_
  exact W.vret hx hb (hr.trans hret) (fun t ht hWm => ⟨⟨rfl, w, hw, by rw [ht]; exact hP', hD'⟩, hS'.F ht⟩) hS'.2.2 h3
theorem k_join {D : va_G} {cl : List vw_C} {A : Nat → Prop} {ws w1 : va_W} {x : Nat × va_E} {H H1 : Heap} (hP : va_P D cl (ws ++ [x]) H) (hD : va_D A (ws ++ [x])) (hk : ∀ q : Nat, q < H.size → ¬ va_A [x] H.size q → H1[q]? = H[q]?) (hF : ∀ q, va_A [x] H.size q → A q) (hP1 : va_P D cl w1 H1) (hD1 : va_D (va_A [x] H.size) w1) : va_P D cl (ws ++ w1) H1 ∧ va_D A (ws ++ w1) := by
  have xat' : (ws ++ [x])[ws.length]? = some x := by simp
  have inn : ∀ (k : Nat) (q : Nat × va_E), ws[k]? = some q → (ws ++ [x])[k]? = some q := fun k q h => by
    rw [List.getElem?_append_left (List.getElem?_eq_some_iff.mp h).1]; exact h
  have apart : ∀ (k : Nat) (q : Nat × va_E), ws[k]? = some q → q.1 < H.size ∧ ¬ va_A [x] H.size q.1 := fun k q h => by
    have hl := (hP k q (inn k q h)).lt
    refine ⟨hl, fun z => ?_⟩
    rcases z with ⟨k2, e, z⟩ | z
    · have e0 : x.1 = q.1 := by
        cases k2 with
        | zero => simp at z; rw [z]
        | succ k2 => simp at z
      have := hD.1 _ _ _ _ xat' (inn k q h) e0
      have := (List.getElem?_eq_some_iff.mp h).1
      omega
    · omega
  refine ⟨va_P.app (fun k q hq => ?_) hP1, va_D.app ⟨fun a b p q ha hb e => hD.1 a b p q (inn a p ha) (inn b q hb) e, fun k q hq => hD.2 k q (inn k q hq)⟩ (hD1.weaken (fun k q _ h => hF q.1 h)) (fun a b p q ha hb e => ?_)⟩
  · obtain ⟨g1, g2⟩ := apart k q hq
    exact (hP k q (inn k q hq)).kept (hk q.1 g1 g2)
  · exact (apart a p ha).2 (by rw [e]; exact hD1.2 b q hb)
section KR
variable {p : Program} {l : Launch} {e : Env} {R : Room} {s : State} {m : MethodId} {args : Array Value} {below : List Frame} {meth : Method} {c : Code} {H : Heap} {locs : List Loc} {Z : State → Prop} {D : va_G} {cy : Nat → ClassId} {aK aV : Nat → Nat} {A : Nat → Prop} {i i' : XMI} {pc idx n cells slots : Nat} {ls : Array Slot} {lv : List (Nat × Value)} {rest : List Value} {h ci : Nat} {fs : List Value} {wr : va_W}
theorem k_obj0 (hC : kCtx i p s m args meth c D cy aK aV A) (hl : .methodLink (mOwn i) idx objectInit ∈ xgt) (hlv : lv_has ls (mL i) lv) (h1 : 1 ≤ R.frames) (h2 : 12 ≤ R.locals) (hd : decode (mC i) pc = .ok (.invokespecial idx, 3)) (k : W p l e R s m args below meth c H locs cells slots Z (F0 m (pc + 3) ls [])) : W p l e R s m args below meth c H locs cells slots Z (F0 m pc ls [.ref h]) := by
  have hts := hC.2.2.2.2.1
  refine W.objInit hC.1 hC.2.1 hC.2.2.2.1 (hts _ hl) (hts (.instanceMethod objectInit) (xck_in (p := (1, 19)) (by decide +kernel) rfl)) (hts (.code objectInit ⟨#[0xb1]⟩ 1 none) (xck_in (p := (1, 20)) (by decide +kernel) rfl)) rfl (by rw [hC.2.2.1]; exact hlv.1) rfl hd h1 h2 ?_
  exact W.eq (g2 := F0 m (pc + 3) ls []) rfl k
theorem k_put {v : Value} (hC : kCtx i p s m args meth c D cy aK aV A) (hP : va_P D vwCl ((h, .inr (ci, fs)) :: wr) H) (hD : va_D A ((h, .inr (ci, fs)) :: wr)) (hS : va_S A s.heap H locs) (ho : ci < 5) (k : Nat) (hk : k < xN ci) (hown : (xT ci k).1 = mOwn i) (hl : .fieldLink (mOwn i) idx (xT ci k).1 (xT ci k).2.1 (xT ci k).2.2.1 ∈ xgt) (hnr : narrow (xty ci k) v = v) (hft : fits (xty ci k) v = true) (hle : k < fs.length) (hd : decode (mC i) pc = .ok (.putfield idx, 3))
    (kk : ∀ (H1 : Heap) (locs1 : List Loc), va_P D vwCl ((h, .inr (ci, fs.set k v)) :: wr) H1 → va_D A ((h, .inr (ci, fs.set k v)) :: wr) → va_S A s.heap H1 locs1 → W p l e R s m args below meth c H1 locs1 cells slots Z (F0 m (pc + 3) ls rest)) : W p l e R s m args below meth c H locs cells slots Z (F0 m pc ls (v :: .ref h :: rest)) := by
  have hts := hC.2.2.2.2.1
  cases hfin : (xT ci k).2.2.2
  · exact va_put (C := xC ci) (T := xT ci) (N := xN ci) hC.1 hC.2.1 hts (xin ho) (xty ci) (xty_ok ho) (xnm ho) hC.2.2.2.1 hC.2.2.2.2.2.2.1 hP hD hS 0 rfl (xcl_vw ho) k hk (hts _ hl) (fun _ h9 => h9) hfin (xty_ok ho k hk) hnr hft hle hd kk
  · exact va_putF (C := xC ci) (T := xT ci) (N := xN ci) hC.1 hC.2.1 hts (xin ho) (xty ci) (xty_ok ho) (xnm ho) hC.2.2.2.1 hC.2.2.2.2.2.2.1 hP hD hS 0 rfl (xcl_vw ho) k hk (hts _ hl) (fun _ h9 => h9) hfin hC.2.2.2.2.2.1 hown (xty_ok ho k hk) hnr hft hle hd kk
theorem k_arr {atype : ArrayType} {ty : FieldType} {j idx2 N : Nat} {x : Int32} {a0 : vp_A} (hC : kCtx i p s m args meth c D cy aK aV A) (hP : va_P D vwCl ((h, .inr (ci, fs)) :: wr) H) (hD : va_D A ((h, .inr (ci, fs)) :: wr)) (hS : va_S A s.heap H locs) (hty : newarray.typeOf atype = ty) (hj : (xtys cy)[j]? = some (cy j, ty)) (hra : ∀ (U : State) (cA : ClassId), va_RA U cA ty = (U.vm.findClass ("[" ++ ty.toString) = some cA)) (harr : .arrayClass (newarray.typeOf atype) ∈ xgt) (ha : ∀ cA : ClassId, vp_cell cA a0 = arrV cA N (fun _ => defaultValue ty)) (hx : ¬ x < 0) (hN : x.toNatClampNeg = N) (hby : N * componentBytes ty ≤ 536870912) (hcells : cells + 1 ≤ R.cells) (hslots : slots + N ≤ R.slots)
    (ho : ci < 5) (k : Nat) (hk : k < xN ci) (hown : (xT ci k).1 = mOwn i) (hl : .fieldLink (mOwn i) idx2 (xT ci k).1 (xT ci k).2.1 (xT ci k).2.2.1 ∈ xgt) (hnr : ∀ q, narrow (xty ci k) (.ref q) = .ref q) (hft : ∀ q, fits (xty ci k) (.ref q) = true) (hle : k < fs.length) (hd1 : decode (mC i) pc = .ok (.newarray atype, 2)) (hd2 : decode (mC i) (pc + 2) = .ok (.putfield idx2, 3))
    (kk : ∀ (q : Nat) (H1 : Heap) (locs1 : List Loc), va_P D vwCl ((h, .inr (ci, fs.set k (.ref q))) :: (wr ++ [(q, .inl (cy j, a0))])) H1 → va_D A ((h, .inr (ci, fs.set k (.ref q))) :: (wr ++ [(q, .inl (cy j, a0))])) → va_S A s.heap H1 locs1 → W p l e R s m args below meth c H1 locs1 (cells + 1) (slots + N) Z (F0 m (pc + 2 + 3) ls rest)) : W p l e R s m args below meth c H locs cells slots Z (F0 m pc ls (.int x :: .ref h :: rest)) := by
  have hts := hC.2.2.2.2.1
  have hK := hC.2.2.2.2.2.2.1
  refine va_newa hC.1 hC.2.1 (hts _ harr) hty hK hP hD hS hC.2.2.2.2.2.2.2.2 ha hx hN hby hcells hslots hd1 (fun q cA H1 hK1 hP1 hD1 hS1 => ?_)
  have e1 := (hK.2 j _ hj).2
  have e2 := (hK1.2 (xtys cy).length (cA, ty) (by simp)).2
  rw [hra] at e1 e2
  have e3 : cA = cy j := Option.some.inj (e2.symm.trans e1)
  subst e3
  exact k_put hC hP1 hD1 hS1 ho k hk hown hl (hnr q) (hft q) hle hd2 (fun H2 locs2 hP2 hD2 hS2 => kk q H2 locs2 hP2 hD2 hS2)
end KR

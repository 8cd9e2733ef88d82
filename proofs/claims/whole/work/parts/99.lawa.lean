/-! ===== the law: its end, its rules ===== -/
def R_law : String := "AimTunnelLaw"
def lw_P (b : Addr) (xs : List Int32) (args : Array Value) (s : State) : Prop := args = #[.ref b] ∧ s.IntsAt b xs ∧ xs.length ≤ 320 ∧ (Jvm.Cond.and given_1 narrow_1).before args s = true
def lw_Q (_ : Array Value) (s : State) (o : Outcome) (t : State) : Prop := o = .returned (some (.int 1)) ∧ Framed s o t [] 85 5155
def lw_Z (below : List Frame) (a : Array Value) (s : State) : State → Prop := fun t => ∃ o, t.status = .running ∧ Ended t below o ∧ lw_Q a s o t
/-- the law's own end, with 1 on the stack, nothing written that was there before, its room as the claim has it -/
theorem lw_ret {p : Program} {l : Launch} {e : Env} {s : State} {m : MethodId} {below : List Frame} {meth : Method} {c : Code} {b : Nat} (hx : p.tables.exec = Jvm.exec) (hb : c.code = code) (hr : meth.sig.returnType = ret) (hlocks : meth.locks = false) {pc : Nat} {H : Heap} {ls : Array Slot} (hdg : decode code pc = .ok (.ireturn, 1)) : W p l e room_1 s m #[Value.ref b] below meth c H [] 85 5155 (lw_Z below #[Value.ref b] s) (F0 m pc ls [.int 1]) := by
  intro T hT X
  obtain ⟨fs, hret, hrun, hended, hW, hframe⟩ := X.leave (v := some (.int 1)) (hlocks := hlocks) (fun h => by rw [hr] at h; cases h)
  have hmeth' : T.vm.method? m = some meth := X.method'
  refine ⟨T.setFrames fs, ?_, .returned (some (.int 1)), hrun, hended, rfl, ⟨_, rfl⟩, hW, hframe⟩
  jvm_step X.here [X.here.top, hx, hb, hdg, hmeth', hr, ret, narrow_b1]
  (try refine ⟨rfl, ?_⟩); (try refine ⟨rfl, ?_⟩)
  first | (intro acts; rw [hret _ acts rfl rfl rfl]) | rw [hret _ _ rfl rfl rfl]
  exact Steps.refl _
/-- what holds at the law's entry: the machine, the code, the tables' words (any of lw_tbl by 'hts w (by decide +kernel)'), the script of L ints xs at the cell b, what the Statement gives of the start (any of its parts by flat_of_before) -/
def lw_At (p : Program) (s : State) (m : MethodId) (meth : Method) (c : Code) (b L : Nat) (xs : Nat → Int32) : Prop :=
  p.tables.exec = Jvm.exec ∧ c.code = code ∧ meth.sig.returnType = ret ∧ c.maxLocals = 4 ∧ s.vm.findClass R_law = some m.cls ∧ (∀ w ∈ lw_tbl, w.before #[Value.ref b] s = true) ∧ va_X b L xs s s.heap ∧ b < s.heap.size ∧ meth.locks = false ∧ (Jvm.Cond.and given_1 narrow_1).before #[Value.ref b] s = true
/-- what is new -/
abbrev lA (s : State) : Nat → Prop := fun q => s.heap.size ≤ q
def lCtx (p : Program) (s : State) (m : MethodId) (meth : Method) (c : Code) (b L : Nat) (xs : Nat → Int32) (D : va_G) (ρ : Nat → Fin 5 → Nat) (cy : Nat → ClassId) (aK aV : Nat → Nat) : Prop :=
  lw_At p s m meth c b L xs ∧ L ≤ 320 ∧ va_K D vwCl (xtys cy) s ∧ xE (lA s) aK aV s s.heap ∧ ∀ RM RL, va_D (lA s) (xws ρ cy RM RL)
def dArg (pc : Nat) (k : Int) : Prop := decode code pc = .ok (.aload_n 0, 1) ∧ decode code (pc + 1) = .ok (.iload_n 3, 1) ∧ decode code (pc + 2) = .ok (.iconst k, 1) ∧ decode code (pc + 3) = .ok (.iadd, 1) ∧ decode code (pc + 4) = .ok (.iaload, 1)
abbrev lV (ρ : Nat → Fin 5 → Nat) (b i : Nat) : List (Nat × Value) := [(3, .int (Int32.ofInt i)), (2, .ref (ρ 22 0)), (1, .ref (ρ 0 0)), (0, .ref b)]
section LR
variable {p : Program} {l : Launch} {e : Env} {s : State} {m : MethodId} {below : List Frame} {meth : Method} {c : Code} {H : Heap} {locs : List Loc} {D : va_G} {ρ : Nat → Fin 5 → Nat} {cy : Nat → ClassId} {aK aV : Nat → Nat} {RM : Nat → Fin 5 → Nat → Int32} {RL : Nat → Fin 5 → Nat → Int64} {b L i pc cells slots : Nat} {xs : Nat → Int32} {ls : Array Slot} {st : List Value} {Z : State → Prop}
theorem l_arg (hC : lCtx p s m meth c b L xs D ρ cy aK aV) (hS : va_S (lA s) s.heap H locs) (hl : lv_has ls 4 (lV ρ b i)) (k : Nat) (hk : i + k < L) (hd : dArg pc k) (kk : W p l e room_1 s m #[Value.ref b] below meth c H locs cells slots Z (F0 m (pc + 5) ls (.int (xs (i + k)) :: st))) : W p l e room_1 s m #[Value.ref b] below meth c H locs cells slots Z (F0 m pc ls st) := by
  obtain ⟨⟨hx, hb, hr, hml, hown, hts, hX, hbl, hlocks, hgv⟩, hL, -⟩ := hC
  obtain ⟨d1, d2, d3, d4, d5⟩ := hd
  have e1 : (Int32.ofInt (i : Int) + Int32.ofInt (k : Int)).toInt = ((i + k : Nat) : Int) := by rw [t32_add, t32_of (by omega) (by omega), t32_of (by omega) (by omega), w32_id (by omega) (by omega)]; omega
  refine lv_aload_n hx hb d1 rfl (lv_at hl 3 rfl) ?_
  refine lv_iload_n hx hb d2 rfl (lv_at hl 0 rfl) ?_
  refine lv_iconst hx hb d3 rfl ?_
  refine lv_iadd hx hb d4 ?_
  refine va_sld hx hb hX hbl (Nat.not_le.mpr hbl) hS (x_in (by rw [e1]; omega)) d5 ?_
  rw [x_cl, e1, Int.toNat_natCast]
  exact kk
/-- both sides of a call, and on -/
theorem l_case {mc mm : XMI} {as : List XV} {ra : List Value} {n pcA pcB idx1 idx2 : Nat} {off : Int} (hC : lCtx p s m meth c b L xs D ρ cy aK aV) (hl : lv_has ls 4 (lV ρ b i)) (hP : va_P D vwCl (xws ρ cy RM RL) H) (hS : va_S (lA s) s.heap H locs)
    (nx : ∀ (RM : Nat → Fin 5 → Nat → Int32) (RL : Nat → Fin 5 → Nat → Int64) (H : Heap) (locs : List Loc), InvX (xabs RM RL) (xabs RM RL) → va_P D vwCl (xws ρ cy RM RL) H → va_S (lA s) s.heap H locs → W p l e room_1 s m #[Value.ref b] below meth c H locs 85 5155 Z (F0 m 1385 ls []))
    (pub : PUB mc mm as (xabs RM RL)) (hra : xSR ρ as ra) (hlen : ra.length = n)
    (hF1 : mF mc + 1 ≤ 11) (hO1 : 8 + (mL mc + 11) + mO mc ≤ 386) (hde1 : (parseMethodDescriptor (mY mc).desc).map (fun d => d.parameters.length) = some n) (hin1 : .instanceMethod (mY mc) ∈ xgt) (hini1 : .initialized (mY mc).cls ∈ xgt) (hl1 : .methodLink R_law idx1 (mY mc) ∈ xgt) (hs1 : .selects (xC 3) (mY mc) (mY mc) ∈ xgt)
    (hF2 : mF mm + 1 ≤ 11) (hO2 : 8 + (mL mm + 11) + mO mm ≤ 386) (hde2 : (parseMethodDescriptor (mY mm).desc).map (fun d => d.parameters.length) = some n) (hin2 : .instanceMethod (mY mm) ∈ xgt) (hini2 : .initialized (mY mm).cls ∈ xgt) (hl2 : .methodLink R_law idx2 (mY mm) ∈ xgt) (hs2 : .selects (xC 4) (mY mm) (mY mm) ∈ xgt)
    (dd : decode code pc = .ok (.aload_n 1, 1) ∧ decode code pcA = .ok (.invokevirtual idx1, 3) ∧ decode code (pcA + 3) = .ok (.aload_n 2, 1) ∧ decode code pcB = .ok (.invokevirtual idx2, 3) ∧ decode code (pcB + 3) = .ok (.if_icmp .eq off, 3)) (hoff : ((pcB + 3 : Nat) : Int) + off = 1385)
    (push1 : ∀ (H : Heap) (locs : List Loc) (st : List Value), va_S (lA s) s.heap H locs → W p l e room_1 s m #[Value.ref b] below meth c H locs 85 5155 Z (F0 m pcA ls (ra.reverse ++ st)) → W p l e room_1 s m #[Value.ref b] below meth c H locs 85 5155 Z (F0 m (pc + 1) ls st))
    (push2 : ∀ (H : Heap) (locs : List Loc) (st : List Value), va_S (lA s) s.heap H locs → W p l e room_1 s m #[Value.ref b] below meth c H locs 85 5155 Z (F0 m pcB ls (ra.reverse ++ st)) → W p l e room_1 s m #[Value.ref b] below meth c H locs 85 5155 Z (F0 m (pcA + 3 + 1) ls st)) : W p l e room_1 s m #[Value.ref b] below meth c H locs 85 5155 Z (F0 m pc ls []) := by
  obtain ⟨⟨hx, hb, hr, hml, hown, hts, hX, hbl, hlocks, hgv⟩, hL, hK, hE, hDa⟩ := hC
  obtain ⟨d1, d2, d3, d4, d5⟩ := dd
  have htx : ∀ w ∈ xgt, w.before #[Value.ref b] s = true := fun w hw => hts w (List.mem_filter.mp hw).1
  refine lv_aload_n hx hb d1 rfl (lv_at hl 2 rfl) ?_
  refine push1 H locs _ hS ?_
  refine w_cV (rest := []) (t := 0) (j := 0) (c0 := 3) hx hb hml hown htx hK hE (fun q h => h) pub rfl hP (hDa _ _) hS hra (by decide) rfl (by decide) hF1 hO1 hde1 hlen hin1 hini1 hl1 hs1 hl.1 (by show 0 ≤ 8; decide) (by decide) (by decide) d2 (fun r v RM1 RL1 H1 locs1 hor hq hP1 hS1 => ?_)
  obtain ⟨z, rfl, hm⟩ := hq
  obtain ⟨v1, rfl, y1, rfl, hy1⟩ := hor
  refine lv_aload_n hx hb d3 rfl (lv_at hl 1 rfl) ?_
  refine push2 H1 locs1 _ hS1 ?_
  refine w_cV (rest := [.int y1]) (t := 22) (j := 0) (c0 := 4) hx hb hml hown htx hK hE (fun q h => h) hm rfl hP1 (hDa _ _) hS1 hra (by decide) rfl (by decide) hF2 hO2 hde2 hlen hin2 hini2 hl2 hs2 hl.1 (by show 1 ≤ 8; decide) (by decide) (by decide) d4 (fun r v RM2 RL2 H2 locs2 hor hq hP2 hS2 => ?_)
  obtain ⟨rfl, inv⟩ := hq
  obtain ⟨v2, rfl, y2, rfl, hy2⟩ := hor
  refine lv_icmp_eq hx hb d5 (tgt := 1385) hoff (fun _ => nx RM2 RL2 H2 locs2 inv hP2 hS2) (fun q => absurd (Int32.toInt_inj.mp (hy1.trans hy2.symm)) q)
theorem l_caseL {mc mm : XMI} {as : List XV} {ra : List Value} {n pcA pcB idx1 idx2 : Nat} {off : Int} (hC : lCtx p s m meth c b L xs D ρ cy aK aV) (hl : lv_has ls 4 (lV ρ b i)) (hP : va_P D vwCl (xws ρ cy RM RL) H) (hS : va_S (lA s) s.heap H locs)
    (nx : ∀ (RM : Nat → Fin 5 → Nat → Int32) (RL : Nat → Fin 5 → Nat → Int64) (H : Heap) (locs : List Loc), InvX (xabs RM RL) (xabs RM RL) → va_P D vwCl (xws ρ cy RM RL) H → va_S (lA s) s.heap H locs → W p l e room_1 s m #[Value.ref b] below meth c H locs 85 5155 Z (F0 m 1385 ls []))
    (pub : PUBL mc mm as (xabs RM RL)) (hra : xSR ρ as ra) (hlen : ra.length = n)
    (hF1 : mF mc + 1 ≤ 11) (hO1 : 8 + (mL mc + 11) + mO mc ≤ 386) (hde1 : (parseMethodDescriptor (mY mc).desc).map (fun d => d.parameters.length) = some n) (hin1 : .instanceMethod (mY mc) ∈ xgt) (hini1 : .initialized (mY mc).cls ∈ xgt) (hl1 : .methodLink R_law idx1 (mY mc) ∈ xgt) (hs1 : .selects (xC 3) (mY mc) (mY mc) ∈ xgt)
    (hF2 : mF mm + 1 ≤ 11) (hO2 : 8 + (mL mm + 11) + mO mm ≤ 386) (hde2 : (parseMethodDescriptor (mY mm).desc).map (fun d => d.parameters.length) = some n) (hin2 : .instanceMethod (mY mm) ∈ xgt) (hini2 : .initialized (mY mm).cls ∈ xgt) (hl2 : .methodLink R_law idx2 (mY mm) ∈ xgt) (hs2 : .selects (xC 4) (mY mm) (mY mm) ∈ xgt)
    (dd : decode code pc = .ok (.aload_n 1, 1) ∧ decode code pcA = .ok (.invokevirtual idx1, 3) ∧ decode code (pcA + 3) = .ok (.aload_n 2, 1) ∧ decode code pcB = .ok (.invokevirtual idx2, 3) ∧ decode code (pcB + 3) = .ok (.lcmp, 1) ∧ decode code (pcB + 3 + 1) = .ok (.ifCond .eq off, 3)) (hoff : ((pcB + 3 + 1 : Nat) : Int) + off = 1385)
    (push1 : ∀ (H : Heap) (locs : List Loc) (st : List Value), va_S (lA s) s.heap H locs → W p l e room_1 s m #[Value.ref b] below meth c H locs 85 5155 Z (F0 m pcA ls (ra.reverse ++ st)) → W p l e room_1 s m #[Value.ref b] below meth c H locs 85 5155 Z (F0 m (pc + 1) ls st))
    (push2 : ∀ (H : Heap) (locs : List Loc) (st : List Value), va_S (lA s) s.heap H locs → W p l e room_1 s m #[Value.ref b] below meth c H locs 85 5155 Z (F0 m pcB ls (ra.reverse ++ st)) → W p l e room_1 s m #[Value.ref b] below meth c H locs 85 5155 Z (F0 m (pcA + 3 + 1) ls st)) : W p l e room_1 s m #[Value.ref b] below meth c H locs 85 5155 Z (F0 m pc ls []) := by
  obtain ⟨⟨hx, hb, hr, hml, hown, hts, hX, hbl, hlocks, hgv⟩, hL, hK, hE, hDa⟩ := hC
  obtain ⟨d1, d2, d3, d4, d5, d6⟩ := dd
  have htx : ∀ w ∈ xgt, w.before #[Value.ref b] s = true := fun w hw => hts w (List.mem_filter.mp hw).1
  refine lv_aload_n hx hb d1 rfl (lv_at hl 2 rfl) ?_
  refine push1 H locs _ hS ?_
  refine w_cV (rest := []) (t := 0) (j := 0) (c0 := 3) hx hb hml hown htx hK hE (fun q h => h) pub rfl hP (hDa _ _) hS hra (by decide) rfl (by decide) hF1 hO1 hde1 hlen hin1 hini1 hl1 hs1 hl.1 (by show 0 ≤ 8; decide) (by decide) (by decide) d2 (fun r v RM1 RL1 H1 locs1 hor hq hP1 hS1 => ?_)
  obtain ⟨z, rfl, hm⟩ := hq
  obtain ⟨v1, rfl, y1, rfl, hy1⟩ := hor
  refine lv_aload_n hx hb d3 rfl (lv_at hl 1 rfl) ?_
  refine push2 H1 locs1 _ hS1 ?_
  refine w_cV (rest := [.long y1]) (t := 22) (j := 0) (c0 := 4) hx hb hml hown htx hK hE (fun q h => h) hm rfl hP1 (hDa _ _) hS1 hra (by decide) rfl (by decide) hF2 hO2 hde2 hlen hin2 hini2 hl2 hs2 hl.1 (by show 2 ≤ 8; decide) (by decide) (by decide) d4 (fun r v RM2 RL2 H2 locs2 hor hq hP2 hS2 => ?_)
  obtain ⟨rfl, inv⟩ := hq
  obtain ⟨v2, rfl, y2, rfl, hy2⟩ := hor
  refine W.lcmp hx hb d5 ?_
  have ey : y1 = y2 := Int64.toInt_inj.mp (hy1.trans hy2.symm)
  have e0 : lg_cmp y1 y2 = 0 := by
    have := x_lcmp y1 y2
    rw [ey] at this ⊢
    have h0 : lcmpz y2.toInt y2.toInt = 0 := by unfold lcmpz; rw [if_neg (by omega), if_pos rfl]
    rw [h0] at this
    exact Int32.toInt_inj.mp this
  rw [e0]
  exact lv_if_eq hx hb d6 (tgt := 1385) hoff (fun _ => nx RM2 RL2 H2 locs2 inv hP2 hS2) (fun q => absurd rfl q)
end LR

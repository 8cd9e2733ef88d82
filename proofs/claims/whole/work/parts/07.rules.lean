/-! ===== each step of the abstract machine is the machine's ===== -/
theorem J_2i {i : XMI} {ct : List XE} {K : Option XV → XM → Prop} {k pc : Nat} {L : List (Option XV)} {r : List XV} {M : XM} {a b : Int} (f : Int32 → Int32 → Int32) {g : Int → Int → Int} (hpc : xpc ct k = pc) (hn : xpc ct (k + 1) = pc + 1) (hW : ∀ {p : Program} {l : Launch} {e : Env} {R : Room} {s : State} {m : MethodId} {args : Array Value} {below : List Frame} {meth : Method} {c : Code} {H : Heap} {locs : List Loc} {cells slots : Nat} {Q : State → Prop} {ls : Array Slot} {rest : List Value} (x : Int32) (y : Int32), x.toInt = a → y.toInt = b → p.tables.exec = Jvm.exec → c.code = mC i → W p l e R s m args below meth c H locs cells slots Q (F0 m (pc + 1) ls (.int (f x y) :: rest)) → W p l e R s m args below meth c H locs cells slots Q (F0 m pc ls (.int y :: .int x :: rest))) (hf : ∀ (x : Int32) (y : Int32), (f x y).toInt = g x.toInt y.toInt) (h : J i ct K (k + 1) L (xI (g a b) :: r) M) : J i ct K k L (xI b :: xI a :: r) M := by
  intro p l e R s m args below meth c D ρ cy aK aV A Z hC hX RM RL H locs ls rs hM hP hS hL hR
  obtain ⟨w1, rs1, rfl, ⟨y, rfl, hy⟩, w2, rs2, rfl, ⟨x, rfl, hx⟩, hR⟩ := hR
  rw [hpc]
  refine hW x y hx hy hC.1 hC.2.1 ?_
  rw [← hn]
  exact h p l e R s m args below meth c D ρ cy aK aV A Z hC hX RM RL H locs ls _ hM hP hS hL ⟨_, _, rfl, ⟨_, rfl, by rw [hf, hx, hy]⟩, hR⟩
theorem J_2l {i : XMI} {ct : List XE} {K : Option XV → XM → Prop} {k pc : Nat} {L : List (Option XV)} {r : List XV} {M : XM} {a b : Int} (f : Int64 → Int64 → Int64) {g : Int → Int → Int} (hpc : xpc ct k = pc) (hn : xpc ct (k + 1) = pc + 1) (hW : ∀ {p : Program} {l : Launch} {e : Env} {R : Room} {s : State} {m : MethodId} {args : Array Value} {below : List Frame} {meth : Method} {c : Code} {H : Heap} {locs : List Loc} {cells slots : Nat} {Q : State → Prop} {ls : Array Slot} {rest : List Value} (x : Int64) (y : Int64), x.toInt = a → y.toInt = b → p.tables.exec = Jvm.exec → c.code = mC i → W p l e R s m args below meth c H locs cells slots Q (F0 m (pc + 1) ls (.long (f x y) :: rest)) → W p l e R s m args below meth c H locs cells slots Q (F0 m pc ls (.long y :: .long x :: rest))) (hf : ∀ (x : Int64) (y : Int64), (f x y).toInt = g x.toInt y.toInt) (h : J i ct K (k + 1) L (xL (g a b) :: r) M) : J i ct K k L (xL b :: xL a :: r) M := by
  intro p l e R s m args below meth c D ρ cy aK aV A Z hC hX RM RL H locs ls rs hM hP hS hL hR
  obtain ⟨w1, rs1, rfl, ⟨y, rfl, hy⟩, w2, rs2, rfl, ⟨x, rfl, hx⟩, hR⟩ := hR
  rw [hpc]
  refine hW x y hx hy hC.1 hC.2.1 ?_
  rw [← hn]
  exact h p l e R s m args below meth c D ρ cy aK aV A Z hC hX RM RL H locs ls _ hM hP hS hL ⟨_, _, rfl, ⟨_, rfl, by rw [hf, hx, hy]⟩, hR⟩
theorem J_2c {i : XMI} {ct : List XE} {K : Option XV → XM → Prop} {k pc : Nat} {L : List (Option XV)} {r : List XV} {M : XM} {a b : Int} (f : Int64 → Int64 → Int32) {g : Int → Int → Int} (hpc : xpc ct k = pc) (hn : xpc ct (k + 1) = pc + 1) (hW : ∀ {p : Program} {l : Launch} {e : Env} {R : Room} {s : State} {m : MethodId} {args : Array Value} {below : List Frame} {meth : Method} {c : Code} {H : Heap} {locs : List Loc} {cells slots : Nat} {Q : State → Prop} {ls : Array Slot} {rest : List Value} (x : Int64) (y : Int64), x.toInt = a → y.toInt = b → p.tables.exec = Jvm.exec → c.code = mC i → W p l e R s m args below meth c H locs cells slots Q (F0 m (pc + 1) ls (.int (f x y) :: rest)) → W p l e R s m args below meth c H locs cells slots Q (F0 m pc ls (.long y :: .long x :: rest))) (hf : ∀ (x : Int64) (y : Int64), (f x y).toInt = g x.toInt y.toInt) (h : J i ct K (k + 1) L (xI (g a b) :: r) M) : J i ct K k L (xL b :: xL a :: r) M := by
  intro p l e R s m args below meth c D ρ cy aK aV A Z hC hX RM RL H locs ls rs hM hP hS hL hR
  obtain ⟨w1, rs1, rfl, ⟨y, rfl, hy⟩, w2, rs2, rfl, ⟨x, rfl, hx⟩, hR⟩ := hR
  rw [hpc]
  refine hW x y hx hy hC.1 hC.2.1 ?_
  rw [← hn]
  exact h p l e R s m args below meth c D ρ cy aK aV A Z hC hX RM RL H locs ls _ hM hP hS hL ⟨_, _, rfl, ⟨_, rfl, by rw [hf, hx, hy]⟩, hR⟩
theorem J_li {i : XMI} {ct : List XE} {K : Option XV → XM → Prop} {k pc : Nat} {L : List (Option XV)} {r : List XV} {M : XM} {a b : Int} (f : Int64 → Int32 → Int64) {g : Int → Int → Int} (hpc : xpc ct k = pc) (hn : xpc ct (k + 1) = pc + 1) (hW : ∀ {p : Program} {l : Launch} {e : Env} {R : Room} {s : State} {m : MethodId} {args : Array Value} {below : List Frame} {meth : Method} {c : Code} {H : Heap} {locs : List Loc} {cells slots : Nat} {Q : State → Prop} {ls : Array Slot} {rest : List Value} (x : Int64) (y : Int32), x.toInt = a → y.toInt = b → p.tables.exec = Jvm.exec → c.code = mC i → W p l e R s m args below meth c H locs cells slots Q (F0 m (pc + 1) ls (.long (f x y) :: rest)) → W p l e R s m args below meth c H locs cells slots Q (F0 m pc ls (.int y :: .long x :: rest))) (hf : ∀ (x : Int64) (y : Int32), (f x y).toInt = g x.toInt y.toInt) (h : J i ct K (k + 1) L (xL (g a b) :: r) M) : J i ct K k L (xI b :: xL a :: r) M := by
  intro p l e R s m args below meth c D ρ cy aK aV A Z hC hX RM RL H locs ls rs hM hP hS hL hR
  obtain ⟨w1, rs1, rfl, ⟨y, rfl, hy⟩, w2, rs2, rfl, ⟨x, rfl, hx⟩, hR⟩ := hR
  rw [hpc]
  refine hW x y hx hy hC.1 hC.2.1 ?_
  rw [← hn]
  exact h p l e R s m args below meth c D ρ cy aK aV A Z hC hX RM RL H locs ls _ hM hP hS hL ⟨_, _, rfl, ⟨_, rfl, by rw [hf, hx, hy]⟩, hR⟩
theorem J_1il {i : XMI} {ct : List XE} {K : Option XV → XM → Prop} {k pc : Nat} {L : List (Option XV)} {r : List XV} {M : XM} {a : Int} (f : Int32 → Int64) {g : Int → Int} (hpc : xpc ct k = pc) (hn : xpc ct (k + 1) = pc + 1) (hW : ∀ {p : Program} {l : Launch} {e : Env} {R : Room} {s : State} {m : MethodId} {args : Array Value} {below : List Frame} {meth : Method} {c : Code} {H : Heap} {locs : List Loc} {cells slots : Nat} {Q : State → Prop} {ls : Array Slot} {rest : List Value} (x : Int32), p.tables.exec = Jvm.exec → c.code = mC i → W p l e R s m args below meth c H locs cells slots Q (F0 m (pc + 1) ls (.long (f x) :: rest)) → W p l e R s m args below meth c H locs cells slots Q (F0 m pc ls (.int x :: rest))) (hf : ∀ (x : Int32), (f x).toInt = g x.toInt) (h : J i ct K (k + 1) L (xL (g a) :: r) M) : J i ct K k L (xI a :: r) M := by
  intro p l e R s m args below meth c D ρ cy aK aV A Z hC hX RM RL H locs ls rs hM hP hS hL hR
  obtain ⟨w2, rs2, rfl, ⟨x, rfl, hx⟩, hR⟩ := hR
  rw [hpc]
  refine hW x hC.1 hC.2.1 ?_
  rw [← hn]
  exact h p l e R s m args below meth c D ρ cy aK aV A Z hC hX RM RL H locs ls _ hM hP hS hL ⟨_, _, rfl, ⟨_, rfl, by rw [hf, hx]⟩, hR⟩
theorem J_1li {i : XMI} {ct : List XE} {K : Option XV → XM → Prop} {k pc : Nat} {L : List (Option XV)} {r : List XV} {M : XM} {a : Int} (f : Int64 → Int32) {g : Int → Int} (hpc : xpc ct k = pc) (hn : xpc ct (k + 1) = pc + 1) (hW : ∀ {p : Program} {l : Launch} {e : Env} {R : Room} {s : State} {m : MethodId} {args : Array Value} {below : List Frame} {meth : Method} {c : Code} {H : Heap} {locs : List Loc} {cells slots : Nat} {Q : State → Prop} {ls : Array Slot} {rest : List Value} (x : Int64), p.tables.exec = Jvm.exec → c.code = mC i → W p l e R s m args below meth c H locs cells slots Q (F0 m (pc + 1) ls (.int (f x) :: rest)) → W p l e R s m args below meth c H locs cells slots Q (F0 m pc ls (.long x :: rest))) (hf : ∀ (x : Int64), (f x).toInt = g x.toInt) (h : J i ct K (k + 1) L (xI (g a) :: r) M) : J i ct K k L (xL a :: r) M := by
  intro p l e R s m args below meth c D ρ cy aK aV A Z hC hX RM RL H locs ls rs hM hP hS hL hR
  obtain ⟨w2, rs2, rfl, ⟨x, rfl, hx⟩, hR⟩ := hR
  rw [hpc]
  refine hW x hC.1 hC.2.1 ?_
  rw [← hn]
  exact h p l e R s m args below meth c D ρ cy aK aV A Z hC hX RM RL H locs ls _ hM hP hS hL ⟨_, _, rfl, ⟨_, rfl, by rw [hf, hx]⟩, hR⟩
theorem J_1ii {i : XMI} {ct : List XE} {K : Option XV → XM → Prop} {k pc : Nat} {L : List (Option XV)} {r : List XV} {M : XM} {a : Int} (f : Int32 → Int32) {g : Int → Int} (hpc : xpc ct k = pc) (hn : xpc ct (k + 1) = pc + 1) (hW : ∀ {p : Program} {l : Launch} {e : Env} {R : Room} {s : State} {m : MethodId} {args : Array Value} {below : List Frame} {meth : Method} {c : Code} {H : Heap} {locs : List Loc} {cells slots : Nat} {Q : State → Prop} {ls : Array Slot} {rest : List Value} (x : Int32), p.tables.exec = Jvm.exec → c.code = mC i → W p l e R s m args below meth c H locs cells slots Q (F0 m (pc + 1) ls (.int (f x) :: rest)) → W p l e R s m args below meth c H locs cells slots Q (F0 m pc ls (.int x :: rest))) (hf : ∀ (x : Int32), (f x).toInt = g x.toInt) (h : J i ct K (k + 1) L (xI (g a) :: r) M) : J i ct K k L (xI a :: r) M := by
  intro p l e R s m args below meth c D ρ cy aK aV A Z hC hX RM RL H locs ls rs hM hP hS hL hR
  obtain ⟨w2, rs2, rfl, ⟨x, rfl, hx⟩, hR⟩ := hR
  rw [hpc]
  refine hW x hC.1 hC.2.1 ?_
  rw [← hn]
  exact h p l e R s m args below meth c D ρ cy aK aV A Z hC hX RM RL H locs ls _ hM hP hS hL ⟨_, _, rfl, ⟨_, rfl, by rw [hf, hx]⟩, hR⟩
theorem J_pi {i : XMI} {ct : List XE} {K : Option XV → XM → Prop} {k pc : Nat} {L : List (Option XV)} {r : List XV} {M : XM} {z : Int} {n : Nat} (x : Int32) (hx : x.toInt = z) (hpc : xpc ct k = pc) (hn : xpc ct (k + 1) = pc + n) (hW : ∀ {p : Program} {l : Launch} {e : Env} {R : Room} {s : State} {m : MethodId} {args : Array Value} {below : List Frame} {meth : Method} {c : Code} {H : Heap} {locs : List Loc} {cells slots : Nat} {Q : State → Prop} {ls : Array Slot} {rest : List Value}, p.tables.exec = Jvm.exec → c.code = mC i → s.vm.findClass (mOwn i) = some m.cls → (∀ w ∈ xgt, w.before args s = true) → W p l e R s m args below meth c H locs cells slots Q (F0 m (pc + n) ls (.int x :: rest)) → W p l e R s m args below meth c H locs cells slots Q (F0 m pc ls (rest))) (h : J i ct K (k + 1) L (xI z :: r) M) : J i ct K k L r M := by
  intro p l e R s m args below meth c D ρ cy aK aV A Z hC hX RM RL H locs ls rs hM hP hS hL hR
  rw [hpc]
  refine hW hC.1 hC.2.1 hC.2.2.2.1 hC.2.2.2.2.1 ?_
  rw [← hn]
  exact h p l e R s m args below meth c D ρ cy aK aV A Z hC hX RM RL H locs ls _ hM hP hS hL ⟨_, _, rfl, ⟨_, rfl, hx⟩, hR⟩
theorem J_pl {i : XMI} {ct : List XE} {K : Option XV → XM → Prop} {k pc : Nat} {L : List (Option XV)} {r : List XV} {M : XM} {z : Int} {n : Nat} (x : Int64) (hx : x.toInt = z) (hpc : xpc ct k = pc) (hn : xpc ct (k + 1) = pc + n) (hW : ∀ {p : Program} {l : Launch} {e : Env} {R : Room} {s : State} {m : MethodId} {args : Array Value} {below : List Frame} {meth : Method} {c : Code} {H : Heap} {locs : List Loc} {cells slots : Nat} {Q : State → Prop} {ls : Array Slot} {rest : List Value}, p.tables.exec = Jvm.exec → c.code = mC i → s.vm.findClass (mOwn i) = some m.cls → (∀ w ∈ xgt, w.before args s = true) → W p l e R s m args below meth c H locs cells slots Q (F0 m (pc + n) ls (.long x :: rest)) → W p l e R s m args below meth c H locs cells slots Q (F0 m pc ls (rest))) (h : J i ct K (k + 1) L (xL z :: r) M) : J i ct K k L r M := by
  intro p l e R s m args below meth c D ρ cy aK aV A Z hC hX RM RL H locs ls rs hM hP hS hL hR
  rw [hpc]
  refine hW hC.1 hC.2.1 hC.2.2.2.1 hC.2.2.2.2.1 ?_
  rw [← hn]
  exact h p l e R s m args below meth c D ρ cy aK aV A Z hC hX RM RL H locs ls _ hM hP hS hL ⟨_, _, rfl, ⟨_, rfl, hx⟩, hR⟩
theorem J_ldi {i : XMI} {ct : List XE} {K : Option XV → XM → Prop} {k pc : Nat} {L : List (Option XV)} {r : List XV} {M : XM} {z : Int} {n j : Nat} (hz : L[j]? = some (some (xI z))) (hpc : xpc ct k = pc) (hn : xpc ct (k + 1) = pc + n) (hW : ∀ {p : Program} {l : Launch} {e : Env} {R : Room} {s : State} {m : MethodId} {args : Array Value} {below : List Frame} {meth : Method} {c : Code} {H : Heap} {locs : List Loc} {cells slots : Nat} {Q : State → Prop} {ls : Array Slot} {rest : List Value} (x : Int32), p.tables.exec = Jvm.exec → c.code = mC i → ls[j]? = some (.val (.int x)) → W p l e R s m args below meth c H locs cells slots Q (F0 m (pc + n) ls (.int x :: rest)) → W p l e R s m args below meth c H locs cells slots Q (F0 m pc ls (rest))) (h : J i ct K (k + 1) L (xI z :: r) M) : J i ct K k L r M := by
  intro p l e R s m args below meth c D ρ cy aK aV A Z hC hX RM RL H locs ls rs hM hP hS hL hR
  rw [hpc]
  obtain ⟨lv, hl, hl2⟩ := id hL
  obtain ⟨w, hw, x, rfl, hx⟩ := hl2 j _ hz
  refine hW x hC.1 hC.2.1 (hl.2.2 _ hw) ?_
  rw [← hn]
  exact h p l e R s m args below meth c D ρ cy aK aV A Z hC hX RM RL H locs ls _ hM hP hS hL ⟨_, _, rfl, ⟨x, rfl, hx⟩, hR⟩
theorem J_ldl {i : XMI} {ct : List XE} {K : Option XV → XM → Prop} {k pc : Nat} {L : List (Option XV)} {r : List XV} {M : XM} {z : Int} {n j : Nat} (hz : L[j]? = some (some (xL z))) (hpc : xpc ct k = pc) (hn : xpc ct (k + 1) = pc + n) (hW : ∀ {p : Program} {l : Launch} {e : Env} {R : Room} {s : State} {m : MethodId} {args : Array Value} {below : List Frame} {meth : Method} {c : Code} {H : Heap} {locs : List Loc} {cells slots : Nat} {Q : State → Prop} {ls : Array Slot} {rest : List Value} (x : Int64), p.tables.exec = Jvm.exec → c.code = mC i → ls[j]? = some (.val (.long x)) → W p l e R s m args below meth c H locs cells slots Q (F0 m (pc + n) ls (.long x :: rest)) → W p l e R s m args below meth c H locs cells slots Q (F0 m pc ls (rest))) (h : J i ct K (k + 1) L (xL z :: r) M) : J i ct K k L r M := by
  intro p l e R s m args below meth c D ρ cy aK aV A Z hC hX RM RL H locs ls rs hM hP hS hL hR
  rw [hpc]
  obtain ⟨lv, hl, hl2⟩ := id hL
  obtain ⟨w, hw, x, rfl, hx⟩ := hl2 j _ hz
  refine hW x hC.1 hC.2.1 (hl.2.2 _ hw) ?_
  rw [← hn]
  exact h p l e R s m args below meth c D ρ cy aK aV A Z hC hX RM RL H locs ls _ hM hP hS hL ⟨_, _, rfl, ⟨x, rfl, hx⟩, hR⟩
theorem J_lda {i : XMI} {ct : List XE} {K : Option XV → XM → Prop} {k pc : Nat} {L : List (Option XV)} {r : List XV} {M : XM} {q : XR} {n j : Nat} (hz : L[j]? = some (some (.inr (.inr q)))) (hpc : xpc ct k = pc) (hn : xpc ct (k + 1) = pc + n) (hW : ∀ {p : Program} {l : Launch} {e : Env} {R : Room} {s : State} {m : MethodId} {args : Array Value} {below : List Frame} {meth : Method} {c : Code} {H : Heap} {locs : List Loc} {cells slots : Nat} {Q : State → Prop} {ls : Array Slot} {rest : List Value} (x : Nat), p.tables.exec = Jvm.exec → c.code = mC i → ls[j]? = some (.val (.ref x)) → W p l e R s m args below meth c H locs cells slots Q (F0 m (pc + n) ls (.ref x :: rest)) → W p l e R s m args below meth c H locs cells slots Q (F0 m pc ls (rest))) (h : J i ct K (k + 1) L (.inr (.inr q) :: r) M) : J i ct K k L r M := by
  intro p l e R s m args below meth c D ρ cy aK aV A Z hC hX RM RL H locs ls rs hM hP hS hL hR
  rw [hpc]
  obtain ⟨lv, hl, hl2⟩ := id hL
  obtain ⟨w, hw, rfl, hx⟩ := hl2 j _ hz
  refine hW _ hC.1 hC.2.1 (hl.2.2 _ hw) ?_
  rw [← hn]
  exact h p l e R s m args below meth c D ρ cy aK aV A Z hC hX RM RL H locs ls _ hM hP hS hL ⟨_, _, rfl, ⟨rfl, hx⟩, hR⟩
theorem J_sti {i : XMI} {ct : List XE} {K : Option XV → XM → Prop} {k pc : Nat} {L : List (Option XV)} {r : List XV} {M : XM} {z : Int} {n j : Nat} (hpc : xpc ct k = pc) (hn : xpc ct (k + 1) = pc + n) (hW : ∀ {p : Program} {l : Launch} {e : Env} {R : Room} {s : State} {m : MethodId} {args : Array Value} {below : List Frame} {meth : Method} {c : Code} {H : Heap} {locs : List Loc} {cells slots : Nat} {Q : State → Prop} {ls : Array Slot} {rest : List Value} (x : Int32) (lv : List (Nat × Value)), p.tables.exec = Jvm.exec → c.code = mC i → lv_has ls (mL i) lv → (∀ ls', lv_has ls' (mL i) ((j, Value.int x) :: lv.filter (fun q => !(q.1 == j) && !(q.1 + 1 == j && q.2.category == 2))) → W p l e R s m args below meth c H locs cells slots Q (F0 m (pc + n) ls' (rest))) → W p l e R s m args below meth c H locs cells slots Q (F0 m pc ls (Value.int x :: rest))) (h : J i ct K (k + 1) (xst1 L j (xI z)) r M) : J i ct K k L (xI z :: r) M := by
  intro p l e R s m args below meth c D ρ cy aK aV A Z hC hX RM RL H locs ls rs hM hP hS hL hR
  rw [hpc]
  obtain ⟨w2, rs2, rfl, ⟨x, rfl, hx⟩, hR⟩ := hR
  obtain ⟨lv, hl, hl2⟩ := hL
  refine hW x lv hC.1 hC.2.1 hl (fun ls' hl' => ?_)
  rw [← hn]
  exact h p l e R s m args below meth c D ρ cy aK aV A Z hC hX RM RL H locs ls' _ hM hP hS ⟨_, hl', xLR_st1 hl2 ⟨x, rfl, hx⟩⟩ hR
theorem J_stl {i : XMI} {ct : List XE} {K : Option XV → XM → Prop} {k pc : Nat} {L : List (Option XV)} {r : List XV} {M : XM} {z : Int} {n j : Nat} (hpc : xpc ct k = pc) (hn : xpc ct (k + 1) = pc + n) (hW : ∀ {p : Program} {l : Launch} {e : Env} {R : Room} {s : State} {m : MethodId} {args : Array Value} {below : List Frame} {meth : Method} {c : Code} {H : Heap} {locs : List Loc} {cells slots : Nat} {Q : State → Prop} {ls : Array Slot} {rest : List Value} (x : Int64) (lv : List (Nat × Value)), p.tables.exec = Jvm.exec → c.code = mC i → lv_has ls (mL i) lv → (∀ ls', lv_has ls' (mL i) ((j, Value.long x) :: lv.filter (fun q => !(q.1 == j) && (!(q.1 == j + 1) && !(q.1 + 1 == j && q.2.category == 2)))) → W p l e R s m args below meth c H locs cells slots Q (F0 m (pc + n) ls' (rest))) → W p l e R s m args below meth c H locs cells slots Q (F0 m pc ls (Value.long x :: rest))) (h : J i ct K (k + 1) (xst2 L j (xL z)) r M) : J i ct K k L (xL z :: r) M := by
  intro p l e R s m args below meth c D ρ cy aK aV A Z hC hX RM RL H locs ls rs hM hP hS hL hR
  rw [hpc]
  obtain ⟨w2, rs2, rfl, ⟨x, rfl, hx⟩, hR⟩ := hR
  obtain ⟨lv, hl, hl2⟩ := hL
  refine hW x lv hC.1 hC.2.1 hl (fun ls' hl' => ?_)
  rw [← hn]
  exact h p l e R s m args below meth c D ρ cy aK aV A Z hC hX RM RL H locs ls' _ hM hP hS ⟨_, hl', xLR_st2 hl2 ⟨x, rfl, hx⟩⟩ hR
theorem J_inc {i : XMI} {ct : List XE} {K : Option XV → XM → Prop} {k pc : Nat} {L : List (Option XV)} {r : List XV} {M : XM} {z d : Int} {j : Nat} (hz : L[j]? = some (some (xI z))) (hj : j < mL i) (hr1 : -2147483648 ≤ d) (hr2 : d < 2147483648) (hpc : xpc ct k = pc) (hn : xpc ct (k + 1) = pc + 3) (hd : decode (mC i) pc = .ok (.iinc j d, 3)) (h : J i ct K (k + 1) (xst1 L j (xI (w32 (z + d)))) r M) : J i ct K k L r M := by
  intro p l e R s m args below meth c D ρ cy aK aV A Z hC hX RM RL H locs ls rs hM hP hS hL hR
  rw [hpc]
  obtain ⟨lv, hl, hl2⟩ := hL
  obtain ⟨w, hw, x, rfl, hx⟩ := hl2 j _ hz
  obtain ⟨kk, hkk⟩ := List.getElem?_of_mem hw
  refine lv_iinc hC.1 hC.2.1 hd hl hkk rfl hj rfl (fun ls' hl' => ?_)
  rw [← hn]
  exact h p l e R s m args below meth c D ρ cy aK aV A Z hC hX RM RL H locs ls' _ hM hP hS ⟨_, hl', xLR_st1 hl2 ⟨_, rfl, by rw [t32_add, t32_of hr1 hr2, hx]⟩⟩ hR
theorem xcat_rel {ρ : Nat → Fin 5 → Nat} {v : XV} {w : Value} (h : vrel ρ v w) : w.category = xcat v := by
  match v, h with
  | .inl z, h => obtain ⟨x, rfl, -⟩ := h; rfl
  | .inr (.inl z), h => obtain ⟨x, rfl, -⟩ := h; rfl
  | .inr (.inr q), h => obtain ⟨rfl, -⟩ := h; rfl
theorem J_dup {i : XMI} {ct : List XE} {K : Option XV → XM → Prop} {k pc : Nat} {L : List (Option XV)} {r : List XV} {M : XM} {v : XV} (hv : xcat v = 1) (hpc : xpc ct k = pc) (hn : xpc ct (k + 1) = pc + 1) (hd : decode (mC i) pc = .ok (.dup, 1)) (h : J i ct K (k + 1) L (v :: v :: r) M) : J i ct K k L (v :: r) M := by
  intro p l e R s m args below meth c D ρ cy aK aV A Z hC hX RM RL H locs ls rs hM hP hS hL hR
  rw [hpc]
  obtain ⟨w, rs2, rfl, hw, hR⟩ := hR
  refine lv_dup hC.1 hC.2.1 hd ((xcat_rel hw).trans hv) ?_
  rw [← hn]
  exact h p l e R s m args below meth c D ρ cy aK aV A Z hC hX RM RL H locs ls _ hM hP hS hL ⟨_, _, rfl, hw, _, _, rfl, hw, hR⟩
theorem J_dup2 {i : XMI} {ct : List XE} {K : Option XV → XM → Prop} {k pc : Nat} {L : List (Option XV)} {r : List XV} {M : XM} {u v : XV} (hu : xcat u = 1) (hv : xcat v = 1) (hpc : xpc ct k = pc) (hn : xpc ct (k + 1) = pc + 1) (hd : decode (mC i) pc = .ok (.dup2, 1)) (h : J i ct K (k + 1) L (u :: v :: u :: v :: r) M) : J i ct K k L (u :: v :: r) M := by
  intro p l e R s m args below meth c D ρ cy aK aV A Z hC hX RM RL H locs ls rs hM hP hS hL hR
  rw [hpc]
  obtain ⟨w, rs2, rfl, hw, w', rs3, rfl, hw', hR⟩ := hR
  refine lv_dup2_11 hC.1 hC.2.1 hd ((xcat_rel hw).trans hu) ((xcat_rel hw').trans hv) ?_
  rw [← hn]
  exact h p l e R s m args below meth c D ρ cy aK aV A Z hC hX RM RL H locs ls _ hM hP hS hL ⟨_, _, rfl, hw, _, _, rfl, hw', _, _, rfl, hw, _, _, rfl, hw', hR⟩
theorem J_dup2l {i : XMI} {ct : List XE} {K : Option XV → XM → Prop} {k pc : Nat} {L : List (Option XV)} {r : List XV} {M : XM} {z : Int} (hpc : xpc ct k = pc) (hn : xpc ct (k + 1) = pc + 1) (hd : decode (mC i) pc = .ok (.dup2, 1)) (h : J i ct K (k + 1) L (xL z :: xL z :: r) M) : J i ct K k L (xL z :: r) M := by
  intro p l e R s m args below meth c D ρ cy aK aV A Z hC hX RM RL H locs ls rs hM hP hS hL hR
  rw [hpc]
  obtain ⟨w, rs2, rfl, ⟨x, rfl, hx⟩, hR⟩ := hR
  refine lv_dup2_2 hC.1 hC.2.1 hd rfl ?_
  rw [← hn]
  exact h p l e R s m args below meth c D ρ cy aK aV A Z hC hX RM RL H locs ls _ hM hP hS hL ⟨_, _, rfl, ⟨x, rfl, hx⟩, _, _, rfl, ⟨x, rfl, hx⟩, hR⟩
theorem J_goto {i : XMI} {ct : List XE} {K : Option XV → XM → Prop} {k pc : Nat} {L : List (Option XV)} {r : List XV} {M : XM} {t : Nat} {off : Int} (hpc : xpc ct k = pc) (ht : (pc : Int) + off = (xpc ct t : Int)) (hd : decode (mC i) pc = .ok (.goto off, 3)) (h : J i ct K t L r M) : J i ct K k L r M := by
  intro p l e R s m args below meth c D ρ cy aK aV A Z hC hX RM RL H locs ls rs hM hP hS hL hR
  rw [hpc]
  exact lv_goto hC.1 hC.2.1 hd ht (h p l e R s m args below meth c D ρ cy aK aV A Z hC hX RM RL H locs ls _ hM hP hS hL hR)
theorem J_if_eq {i : XMI} {ct : List XE} {K : Option XV → XM → Prop} {k pc : Nat} {L : List (Option XV)} {r : List XV} {M : XM} {a : Int} {t : Nat} {off : Int} (hpc : xpc ct k = pc) (hn : xpc ct (k + 1) = pc + 3) (ht : (pc : Int) + off = (xpc ct t : Int)) (hd : decode (mC i) pc = .ok (.ifCond .eq off, 3)) (h : xbr .eq a 0 (J i ct K t L r M) (J i ct K (k + 1) L r M)) : J i ct K k L (xI a :: r) M := by
  intro p l e R s m args below meth c D ρ cy aK aV A Z hC hX RM RL H locs ls rs hM hP hS hL hR
  rw [hpc]
  obtain ⟨w, rs2, rfl, ⟨x, rfl, hx⟩, hR⟩ := hR
  obtain ⟨h1, h2⟩ := h
  refine lv_if_eq hC.1 hC.2.1 hd ht (fun q => h1 (by subst hx; simp only [← Int32.toInt_inj, Int32.lt_iff_toInt_lt, Int32.le_iff_toInt_le, Int32.toInt_zero, ge_iff_le, gt_iff_lt, ne_eq] at q; omega) p l e R s m args below meth c D ρ cy aK aV A Z hC hX RM RL H locs ls _ hM hP hS hL hR) (fun q => ?_)
  rw [← hn]
  exact h2 (by subst hx; simp only [← Int32.toInt_inj, Int32.lt_iff_toInt_lt, Int32.le_iff_toInt_le, Int32.toInt_zero, ge_iff_le, gt_iff_lt, ne_eq] at q; omega) p l e R s m args below meth c D ρ cy aK aV A Z hC hX RM RL H locs ls _ hM hP hS hL hR
theorem J_ic_eq {i : XMI} {ct : List XE} {K : Option XV → XM → Prop} {k pc : Nat} {L : List (Option XV)} {r : List XV} {M : XM} {a b : Int} {t : Nat} {off : Int} (hpc : xpc ct k = pc) (hn : xpc ct (k + 1) = pc + 3) (ht : (pc : Int) + off = (xpc ct t : Int)) (hd : decode (mC i) pc = .ok (.if_icmp .eq off, 3)) (h : xbr .eq a b (J i ct K t L r M) (J i ct K (k + 1) L r M)) : J i ct K k L (xI b :: xI a :: r) M := by
  intro p l e R s m args below meth c D ρ cy aK aV A Z hC hX RM RL H locs ls rs hM hP hS hL hR
  rw [hpc]
  obtain ⟨w, rs2, rfl, ⟨y, rfl, hy⟩, w', rs3, rfl, ⟨x, rfl, hx⟩, hR⟩ := hR
  obtain ⟨h1, h2⟩ := h
  refine lv_icmp_eq hC.1 hC.2.1 hd ht (fun q => h1 (by subst hx; subst hy; simp only [← Int32.toInt_inj, Int32.lt_iff_toInt_lt, Int32.le_iff_toInt_le, ge_iff_le, gt_iff_lt, ne_eq] at q; omega) p l e R s m args below meth c D ρ cy aK aV A Z hC hX RM RL H locs ls _ hM hP hS hL hR) (fun q => ?_)
  rw [← hn]
  exact h2 (by subst hx; subst hy; simp only [← Int32.toInt_inj, Int32.lt_iff_toInt_lt, Int32.le_iff_toInt_le, ge_iff_le, gt_iff_lt, ne_eq] at q; omega) p l e R s m args below meth c D ρ cy aK aV A Z hC hX RM RL H locs ls _ hM hP hS hL hR
theorem J_if_ne {i : XMI} {ct : List XE} {K : Option XV → XM → Prop} {k pc : Nat} {L : List (Option XV)} {r : List XV} {M : XM} {a : Int} {t : Nat} {off : Int} (hpc : xpc ct k = pc) (hn : xpc ct (k + 1) = pc + 3) (ht : (pc : Int) + off = (xpc ct t : Int)) (hd : decode (mC i) pc = .ok (.ifCond .ne off, 3)) (h : xbr .ne a 0 (J i ct K t L r M) (J i ct K (k + 1) L r M)) : J i ct K k L (xI a :: r) M := by
  intro p l e R s m args below meth c D ρ cy aK aV A Z hC hX RM RL H locs ls rs hM hP hS hL hR
  rw [hpc]
  obtain ⟨w, rs2, rfl, ⟨x, rfl, hx⟩, hR⟩ := hR
  obtain ⟨h1, h2⟩ := h
  refine lv_if_ne hC.1 hC.2.1 hd ht (fun q => h1 (by subst hx; simp only [← Int32.toInt_inj, Int32.lt_iff_toInt_lt, Int32.le_iff_toInt_le, Int32.toInt_zero, ge_iff_le, gt_iff_lt, ne_eq] at q; omega) p l e R s m args below meth c D ρ cy aK aV A Z hC hX RM RL H locs ls _ hM hP hS hL hR) (fun q => ?_)
  rw [← hn]
  exact h2 (by subst hx; simp only [← Int32.toInt_inj, Int32.lt_iff_toInt_lt, Int32.le_iff_toInt_le, Int32.toInt_zero, ge_iff_le, gt_iff_lt, ne_eq] at q; omega) p l e R s m args below meth c D ρ cy aK aV A Z hC hX RM RL H locs ls _ hM hP hS hL hR
theorem J_ic_ne {i : XMI} {ct : List XE} {K : Option XV → XM → Prop} {k pc : Nat} {L : List (Option XV)} {r : List XV} {M : XM} {a b : Int} {t : Nat} {off : Int} (hpc : xpc ct k = pc) (hn : xpc ct (k + 1) = pc + 3) (ht : (pc : Int) + off = (xpc ct t : Int)) (hd : decode (mC i) pc = .ok (.if_icmp .ne off, 3)) (h : xbr .ne a b (J i ct K t L r M) (J i ct K (k + 1) L r M)) : J i ct K k L (xI b :: xI a :: r) M := by
  intro p l e R s m args below meth c D ρ cy aK aV A Z hC hX RM RL H locs ls rs hM hP hS hL hR
  rw [hpc]
  obtain ⟨w, rs2, rfl, ⟨y, rfl, hy⟩, w', rs3, rfl, ⟨x, rfl, hx⟩, hR⟩ := hR
  obtain ⟨h1, h2⟩ := h
  refine lv_icmp_ne hC.1 hC.2.1 hd ht (fun q => h1 (by subst hx; subst hy; simp only [← Int32.toInt_inj, Int32.lt_iff_toInt_lt, Int32.le_iff_toInt_le, ge_iff_le, gt_iff_lt, ne_eq] at q; omega) p l e R s m args below meth c D ρ cy aK aV A Z hC hX RM RL H locs ls _ hM hP hS hL hR) (fun q => ?_)
  rw [← hn]
  exact h2 (by subst hx; subst hy; simp only [← Int32.toInt_inj, Int32.lt_iff_toInt_lt, Int32.le_iff_toInt_le, ge_iff_le, gt_iff_lt, ne_eq] at q; omega) p l e R s m args below meth c D ρ cy aK aV A Z hC hX RM RL H locs ls _ hM hP hS hL hR
theorem J_if_lt {i : XMI} {ct : List XE} {K : Option XV → XM → Prop} {k pc : Nat} {L : List (Option XV)} {r : List XV} {M : XM} {a : Int} {t : Nat} {off : Int} (hpc : xpc ct k = pc) (hn : xpc ct (k + 1) = pc + 3) (ht : (pc : Int) + off = (xpc ct t : Int)) (hd : decode (mC i) pc = .ok (.ifCond .lt off, 3)) (h : xbr .lt a 0 (J i ct K t L r M) (J i ct K (k + 1) L r M)) : J i ct K k L (xI a :: r) M := by
  intro p l e R s m args below meth c D ρ cy aK aV A Z hC hX RM RL H locs ls rs hM hP hS hL hR
  rw [hpc]
  obtain ⟨w, rs2, rfl, ⟨x, rfl, hx⟩, hR⟩ := hR
  obtain ⟨h1, h2⟩ := h
  refine lv_if_lt hC.1 hC.2.1 hd ht (fun q => h1 (by subst hx; simp only [← Int32.toInt_inj, Int32.lt_iff_toInt_lt, Int32.le_iff_toInt_le, Int32.toInt_zero, ge_iff_le, gt_iff_lt, ne_eq] at q; omega) p l e R s m args below meth c D ρ cy aK aV A Z hC hX RM RL H locs ls _ hM hP hS hL hR) (fun q => ?_)
  rw [← hn]
  exact h2 (by subst hx; simp only [← Int32.toInt_inj, Int32.lt_iff_toInt_lt, Int32.le_iff_toInt_le, Int32.toInt_zero, ge_iff_le, gt_iff_lt, ne_eq] at q; omega) p l e R s m args below meth c D ρ cy aK aV A Z hC hX RM RL H locs ls _ hM hP hS hL hR
theorem J_ic_lt {i : XMI} {ct : List XE} {K : Option XV → XM → Prop} {k pc : Nat} {L : List (Option XV)} {r : List XV} {M : XM} {a b : Int} {t : Nat} {off : Int} (hpc : xpc ct k = pc) (hn : xpc ct (k + 1) = pc + 3) (ht : (pc : Int) + off = (xpc ct t : Int)) (hd : decode (mC i) pc = .ok (.if_icmp .lt off, 3)) (h : xbr .lt a b (J i ct K t L r M) (J i ct K (k + 1) L r M)) : J i ct K k L (xI b :: xI a :: r) M := by
  intro p l e R s m args below meth c D ρ cy aK aV A Z hC hX RM RL H locs ls rs hM hP hS hL hR
  rw [hpc]
  obtain ⟨w, rs2, rfl, ⟨y, rfl, hy⟩, w', rs3, rfl, ⟨x, rfl, hx⟩, hR⟩ := hR
  obtain ⟨h1, h2⟩ := h
  refine lv_icmp_lt hC.1 hC.2.1 hd ht (fun q => h1 (by subst hx; subst hy; simp only [← Int32.toInt_inj, Int32.lt_iff_toInt_lt, Int32.le_iff_toInt_le, ge_iff_le, gt_iff_lt, ne_eq] at q; omega) p l e R s m args below meth c D ρ cy aK aV A Z hC hX RM RL H locs ls _ hM hP hS hL hR) (fun q => ?_)
  rw [← hn]
  exact h2 (by subst hx; subst hy; simp only [← Int32.toInt_inj, Int32.lt_iff_toInt_lt, Int32.le_iff_toInt_le, ge_iff_le, gt_iff_lt, ne_eq] at q; omega) p l e R s m args below meth c D ρ cy aK aV A Z hC hX RM RL H locs ls _ hM hP hS hL hR
theorem J_if_ge {i : XMI} {ct : List XE} {K : Option XV → XM → Prop} {k pc : Nat} {L : List (Option XV)} {r : List XV} {M : XM} {a : Int} {t : Nat} {off : Int} (hpc : xpc ct k = pc) (hn : xpc ct (k + 1) = pc + 3) (ht : (pc : Int) + off = (xpc ct t : Int)) (hd : decode (mC i) pc = .ok (.ifCond .ge off, 3)) (h : xbr .ge a 0 (J i ct K t L r M) (J i ct K (k + 1) L r M)) : J i ct K k L (xI a :: r) M := by
  intro p l e R s m args below meth c D ρ cy aK aV A Z hC hX RM RL H locs ls rs hM hP hS hL hR
  rw [hpc]
  obtain ⟨w, rs2, rfl, ⟨x, rfl, hx⟩, hR⟩ := hR
  obtain ⟨h1, h2⟩ := h
  refine lv_if_ge hC.1 hC.2.1 hd ht (fun q => h1 (by subst hx; simp only [← Int32.toInt_inj, Int32.lt_iff_toInt_lt, Int32.le_iff_toInt_le, Int32.toInt_zero, ge_iff_le, gt_iff_lt, ne_eq] at q; omega) p l e R s m args below meth c D ρ cy aK aV A Z hC hX RM RL H locs ls _ hM hP hS hL hR) (fun q => ?_)
  rw [← hn]
  exact h2 (by subst hx; simp only [← Int32.toInt_inj, Int32.lt_iff_toInt_lt, Int32.le_iff_toInt_le, Int32.toInt_zero, ge_iff_le, gt_iff_lt, ne_eq] at q; omega) p l e R s m args below meth c D ρ cy aK aV A Z hC hX RM RL H locs ls _ hM hP hS hL hR
theorem J_ic_ge {i : XMI} {ct : List XE} {K : Option XV → XM → Prop} {k pc : Nat} {L : List (Option XV)} {r : List XV} {M : XM} {a b : Int} {t : Nat} {off : Int} (hpc : xpc ct k = pc) (hn : xpc ct (k + 1) = pc + 3) (ht : (pc : Int) + off = (xpc ct t : Int)) (hd : decode (mC i) pc = .ok (.if_icmp .ge off, 3)) (h : xbr .ge a b (J i ct K t L r M) (J i ct K (k + 1) L r M)) : J i ct K k L (xI b :: xI a :: r) M := by
  intro p l e R s m args below meth c D ρ cy aK aV A Z hC hX RM RL H locs ls rs hM hP hS hL hR
  rw [hpc]
  obtain ⟨w, rs2, rfl, ⟨y, rfl, hy⟩, w', rs3, rfl, ⟨x, rfl, hx⟩, hR⟩ := hR
  obtain ⟨h1, h2⟩ := h
  refine lv_icmp_ge hC.1 hC.2.1 hd ht (fun q => h1 (by subst hx; subst hy; simp only [← Int32.toInt_inj, Int32.lt_iff_toInt_lt, Int32.le_iff_toInt_le, ge_iff_le, gt_iff_lt, ne_eq] at q; omega) p l e R s m args below meth c D ρ cy aK aV A Z hC hX RM RL H locs ls _ hM hP hS hL hR) (fun q => ?_)
  rw [← hn]
  exact h2 (by subst hx; subst hy; simp only [← Int32.toInt_inj, Int32.lt_iff_toInt_lt, Int32.le_iff_toInt_le, ge_iff_le, gt_iff_lt, ne_eq] at q; omega) p l e R s m args below meth c D ρ cy aK aV A Z hC hX RM RL H locs ls _ hM hP hS hL hR
theorem J_if_gt {i : XMI} {ct : List XE} {K : Option XV → XM → Prop} {k pc : Nat} {L : List (Option XV)} {r : List XV} {M : XM} {a : Int} {t : Nat} {off : Int} (hpc : xpc ct k = pc) (hn : xpc ct (k + 1) = pc + 3) (ht : (pc : Int) + off = (xpc ct t : Int)) (hd : decode (mC i) pc = .ok (.ifCond .gt off, 3)) (h : xbr .gt a 0 (J i ct K t L r M) (J i ct K (k + 1) L r M)) : J i ct K k L (xI a :: r) M := by
  intro p l e R s m args below meth c D ρ cy aK aV A Z hC hX RM RL H locs ls rs hM hP hS hL hR
  rw [hpc]
  obtain ⟨w, rs2, rfl, ⟨x, rfl, hx⟩, hR⟩ := hR
  obtain ⟨h1, h2⟩ := h
  refine lv_if_gt hC.1 hC.2.1 hd ht (fun q => h1 (by subst hx; simp only [← Int32.toInt_inj, Int32.lt_iff_toInt_lt, Int32.le_iff_toInt_le, Int32.toInt_zero, ge_iff_le, gt_iff_lt, ne_eq] at q; omega) p l e R s m args below meth c D ρ cy aK aV A Z hC hX RM RL H locs ls _ hM hP hS hL hR) (fun q => ?_)
  rw [← hn]
  exact h2 (by subst hx; simp only [← Int32.toInt_inj, Int32.lt_iff_toInt_lt, Int32.le_iff_toInt_le, Int32.toInt_zero, ge_iff_le, gt_iff_lt, ne_eq] at q; omega) p l e R s m args below meth c D ρ cy aK aV A Z hC hX RM RL H locs ls _ hM hP hS hL hR
theorem J_ic_gt {i : XMI} {ct : List XE} {K : Option XV → XM → Prop} {k pc : Nat} {L : List (Option XV)} {r : List XV} {M : XM} {a b : Int} {t : Nat} {off : Int} (hpc : xpc ct k = pc) (hn : xpc ct (k + 1) = pc + 3) (ht : (pc : Int) + off = (xpc ct t : Int)) (hd : decode (mC i) pc = .ok (.if_icmp .gt off, 3)) (h : xbr .gt a b (J i ct K t L r M) (J i ct K (k + 1) L r M)) : J i ct K k L (xI b :: xI a :: r) M := by
  intro p l e R s m args below meth c D ρ cy aK aV A Z hC hX RM RL H locs ls rs hM hP hS hL hR
  rw [hpc]
  obtain ⟨w, rs2, rfl, ⟨y, rfl, hy⟩, w', rs3, rfl, ⟨x, rfl, hx⟩, hR⟩ := hR
  obtain ⟨h1, h2⟩ := h
  refine lv_icmp_gt hC.1 hC.2.1 hd ht (fun q => h1 (by subst hx; subst hy; simp only [← Int32.toInt_inj, Int32.lt_iff_toInt_lt, Int32.le_iff_toInt_le, ge_iff_le, gt_iff_lt, ne_eq] at q; omega) p l e R s m args below meth c D ρ cy aK aV A Z hC hX RM RL H locs ls _ hM hP hS hL hR) (fun q => ?_)
  rw [← hn]
  exact h2 (by subst hx; subst hy; simp only [← Int32.toInt_inj, Int32.lt_iff_toInt_lt, Int32.le_iff_toInt_le, ge_iff_le, gt_iff_lt, ne_eq] at q; omega) p l e R s m args below meth c D ρ cy aK aV A Z hC hX RM RL H locs ls _ hM hP hS hL hR
theorem J_if_le {i : XMI} {ct : List XE} {K : Option XV → XM → Prop} {k pc : Nat} {L : List (Option XV)} {r : List XV} {M : XM} {a : Int} {t : Nat} {off : Int} (hpc : xpc ct k = pc) (hn : xpc ct (k + 1) = pc + 3) (ht : (pc : Int) + off = (xpc ct t : Int)) (hd : decode (mC i) pc = .ok (.ifCond .le off, 3)) (h : xbr .le a 0 (J i ct K t L r M) (J i ct K (k + 1) L r M)) : J i ct K k L (xI a :: r) M := by
  intro p l e R s m args below meth c D ρ cy aK aV A Z hC hX RM RL H locs ls rs hM hP hS hL hR
  rw [hpc]
  obtain ⟨w, rs2, rfl, ⟨x, rfl, hx⟩, hR⟩ := hR
  obtain ⟨h1, h2⟩ := h
  refine lv_if_le hC.1 hC.2.1 hd ht (fun q => h1 (by subst hx; simp only [← Int32.toInt_inj, Int32.lt_iff_toInt_lt, Int32.le_iff_toInt_le, Int32.toInt_zero, ge_iff_le, gt_iff_lt, ne_eq] at q; omega) p l e R s m args below meth c D ρ cy aK aV A Z hC hX RM RL H locs ls _ hM hP hS hL hR) (fun q => ?_)
  rw [← hn]
  exact h2 (by subst hx; simp only [← Int32.toInt_inj, Int32.lt_iff_toInt_lt, Int32.le_iff_toInt_le, Int32.toInt_zero, ge_iff_le, gt_iff_lt, ne_eq] at q; omega) p l e R s m args below meth c D ρ cy aK aV A Z hC hX RM RL H locs ls _ hM hP hS hL hR
theorem J_ic_le {i : XMI} {ct : List XE} {K : Option XV → XM → Prop} {k pc : Nat} {L : List (Option XV)} {r : List XV} {M : XM} {a b : Int} {t : Nat} {off : Int} (hpc : xpc ct k = pc) (hn : xpc ct (k + 1) = pc + 3) (ht : (pc : Int) + off = (xpc ct t : Int)) (hd : decode (mC i) pc = .ok (.if_icmp .le off, 3)) (h : xbr .le a b (J i ct K t L r M) (J i ct K (k + 1) L r M)) : J i ct K k L (xI b :: xI a :: r) M := by
  intro p l e R s m args below meth c D ρ cy aK aV A Z hC hX RM RL H locs ls rs hM hP hS hL hR
  rw [hpc]
  obtain ⟨w, rs2, rfl, ⟨y, rfl, hy⟩, w', rs3, rfl, ⟨x, rfl, hx⟩, hR⟩ := hR
  obtain ⟨h1, h2⟩ := h
  refine lv_icmp_le hC.1 hC.2.1 hd ht (fun q => h1 (by subst hx; subst hy; simp only [← Int32.toInt_inj, Int32.lt_iff_toInt_lt, Int32.le_iff_toInt_le, ge_iff_le, gt_iff_lt, ne_eq] at q; omega) p l e R s m args below meth c D ρ cy aK aV A Z hC hX RM RL H locs ls _ hM hP hS hL hR) (fun q => ?_)
  rw [← hn]
  exact h2 (by subst hx; subst hy; simp only [← Int32.toInt_inj, Int32.lt_iff_toInt_lt, Int32.le_iff_toInt_le, ge_iff_le, gt_iff_lt, ne_eq] at q; omega) p l e R s m args below meth c D ρ cy aK aV A Z hC hX RM RL H locs ls _ hM hP hS hL hR

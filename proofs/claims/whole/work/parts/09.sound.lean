/-! ===== the abstract machine is sound ===== -/
theorem J_weak {i : XMI} {ct : List XE} {K : Option XV → XM → Prop} {k : Nat} {L L' : List (Option XV)} {st : List XV} {M : XM} (hL : ∀ (j : Nat) (v : XV), L'[j]? = some (some v) → L[j]? = some (some v)) (h : J i ct K k L' st M) : J i ct K k L st M := by
  intro p l e R s m args below meth c D ρ cy aK aV A Z hC hX RM RL H locs ls rs hM hP hS hL0 hR
  obtain ⟨lv, hl, hl2⟩ := hL0
  exact h p l e R s m args below meth c D ρ cy aK aV A Z hC hX RM RL H locs ls rs hM hP hS ⟨lv, hl, fun j v hj => hl2 j v (hL j v hj)⟩ hR
theorem xmask_at : ∀ (b : List Bool) (L : List (Option XV)) (j : Nat) (v : XV), (xmask b L)[j]? = some (some v) → L[j]? = some (some v)
  | [], L, j, v, h => by simp [xmask] at h
  | true :: b, [], j, v, h => by simp [xmask] at h
  | false :: b, [], j, v, h => by simp [xmask] at h
  | true :: b, u :: L, 0, v, h => by simpa [xmask] using h
  | true :: b, u :: L, j + 1, v, h => by simp only [xmask, List.getElem?_cons_succ] at h ⊢; exact xmask_at b L j v h
  | false :: b, u :: L, 0, v, h => by simp [xmask] at h
  | false :: b, u :: L, j + 1, v, h => by simp only [xmask, List.getElem?_cons_succ] at h ⊢; exact xmask_at b L j v h
theorem J_retV {i : XMI} {ct : List XE} {K : Option XV → XM → Prop} {k pc : Nat} {L : List (Option XV)} {M : XM} (hr : mR i = none) (hpc : xpc ct k = pc) (hd : decode (mC i) pc = .ok (.return_, 1)) (h : K none M) : J i ct K k L [] M := by
  intro p l e R s m args below meth c D ρ cy aK aV A Z hC hX RM RL H locs ls rs hM hP hS hL0 hR
  cases hR
  rw [hpc]
  subst hM
  exact (hX none RM RL H locs ls pc h hP hS).1 rfl hr hd
theorem J_retI {i : XMI} {ct : List XE} {K : Option XV → XM → Prop} {k pc : Nat} {L : List (Option XV)} {M : XM} {z : Int} (ty : FieldType) (hr : mR i = some ty) (hz : ∀ x : Int32, x.toInt = z → narrow ty (.int x) = .int x) (hpc : xpc ct k = pc) (hd : decode (mC i) pc = .ok (.ireturn, 1)) (h : K (some (xI z)) M) : J i ct K k L [xI z] M := by
  intro p l e R s m args below meth c D ρ cy aK aV A Z hC hX RM RL H locs ls rs hM hP hS hL0 hR
  obtain ⟨w, rs2, rfl, ⟨x, rfl, hx⟩, hR⟩ := hR
  cases hR
  rw [hpc]
  subst hM
  exact (hX _ RM RL H locs ls pc h hP hS).2.1 x ty (by rw [hx]) hr (hz x hx) hd
theorem J_retL {i : XMI} {ct : List XE} {K : Option XV → XM → Prop} {k pc : Nat} {L : List (Option XV)} {M : XM} {z : Int} (hr : mR i = some .long) (hpc : xpc ct k = pc) (hd : decode (mC i) pc = .ok (.lreturn, 1)) (h : K (some (xL z)) M) : J i ct K k L [xL z] M := by
  intro p l e R s m args below meth c D ρ cy aK aV A Z hC hX RM RL H locs ls rs hM hP hS hL0 hR
  obtain ⟨w, rs2, rfl, ⟨x, rfl, hx⟩, hR⟩ := hR
  cases hR
  rw [hpc]
  subst hM
  exact (hX _ RM RL H locs ls pc h hP hS).2.2.1 x (by rw [hx]) hr hd
theorem J_retA {i : XMI} {ct : List XE} {K : Option XV → XM → Prop} {k pc : Nat} {L : List (Option XV)} {M : XM} {q : XR} {nm : String} (hr : mR i = some (.object nm)) (hpc : xpc ct k = pc) (hd : decode (mC i) pc = .ok (.areturn, 1)) (h : K (some (.inr (.inr q))) M) : J i ct K k L [.inr (.inr q)] M := by
  intro p l e R s m args below meth c D ρ cy aK aV A Z hC hX RM RL H locs ls rs hM hP hS hL0 hR
  obtain ⟨w, rs2, rfl, ⟨rfl, hx⟩, hR⟩ := hR
  cases hR
  rw [hpc]
  subst hM
  exact (hX _ RM RL H locs ls pc h hP hS).2.2.2 q nm rfl hx hr hd
theorem z01 (x : Int32) (h : x.toInt = 0 ∨ x.toInt = 1) : narrow .boolean (.int x) = .int x := by
  have : x = 0 ∨ x = 1 := by
    rcases h with h | h
    · left; exact Int32.toInt_inj.mp h
    · right; exact Int32.toInt_inj.mp h
  rcases this with rfl | rfl <;> rfl
theorem xck_mem {p : Nat × Nat} {w : Jvm.Cond} (h : xck p w = true) (g : goodWord w = true) : w ∈ xgt := xck_in h g

theorem s_iadd {i : XMI} {ct : List XE} {K : Option XV → XM → Prop} {nx : Nat → List (Option XV) → List XV → XM → Prop} {k : Nat} {L : List (Option XV)} {st : List XV} {M : XM} {pc len : Nat} {x : XI}  (ok : okI i ct k (pc, .iadd, len, x) = true) (hnx : ∀ k' L' st' M', nx k' L' st' M' → J i ct K k' L' st' M') (hpc : xpc ct k = pc) (h : sxI i K nx (.iadd) x k L st M) : J i ct K k L st M := by
  simp only [okI, Bool.and_eq_true, decide_eq_true_eq, xnxt] at ok
  obtain ⟨hd, hn, rfl⟩ := ok
  unfold sxI at h
  dsimp only at h
  unfold p2i at h
  split at h
  case h_2 => exact h.elim
  exact J_2i (g := fun a b => w32 (a + b)) (fun x y => x + y) hpc hn (fun x y _ _ hx hb kk => lv_iadd hx hb hd kk) t32_add (hnx _ _ _ _ h)

theorem s_isub {i : XMI} {ct : List XE} {K : Option XV → XM → Prop} {nx : Nat → List (Option XV) → List XV → XM → Prop} {k : Nat} {L : List (Option XV)} {st : List XV} {M : XM} {pc len : Nat} {x : XI}  (ok : okI i ct k (pc, .isub, len, x) = true) (hnx : ∀ k' L' st' M', nx k' L' st' M' → J i ct K k' L' st' M') (hpc : xpc ct k = pc) (h : sxI i K nx (.isub) x k L st M) : J i ct K k L st M := by
  simp only [okI, Bool.and_eq_true, decide_eq_true_eq, xnxt] at ok
  obtain ⟨hd, hn, rfl⟩ := ok
  unfold sxI at h
  dsimp only at h
  unfold p2i at h
  split at h
  case h_2 => exact h.elim
  exact J_2i (g := fun a b => w32 (a - b)) (fun x y => x - y) hpc hn (fun x y _ _ hx hb kk => lv_isub hx hb hd kk) t32_sub (hnx _ _ _ _ h)

theorem s_imul {i : XMI} {ct : List XE} {K : Option XV → XM → Prop} {nx : Nat → List (Option XV) → List XV → XM → Prop} {k : Nat} {L : List (Option XV)} {st : List XV} {M : XM} {pc len : Nat} {x : XI}  (ok : okI i ct k (pc, .imul, len, x) = true) (hnx : ∀ k' L' st' M', nx k' L' st' M' → J i ct K k' L' st' M') (hpc : xpc ct k = pc) (h : sxI i K nx (.imul) x k L st M) : J i ct K k L st M := by
  simp only [okI, Bool.and_eq_true, decide_eq_true_eq, xnxt] at ok
  obtain ⟨hd, hn, rfl⟩ := ok
  unfold sxI at h
  dsimp only at h
  unfold p2i at h
  split at h
  case h_2 => exact h.elim
  exact J_2i (g := fun a b => w32 (a * b)) (fun x y => x * y) hpc hn (fun x y _ _ hx hb kk => lv_imul hx hb hd kk) t32_mul (hnx _ _ _ _ h)

theorem s_iand {i : XMI} {ct : List XE} {K : Option XV → XM → Prop} {nx : Nat → List (Option XV) → List XV → XM → Prop} {k : Nat} {L : List (Option XV)} {st : List XV} {M : XM} {pc len : Nat} {x : XI}  (ok : okI i ct k (pc, .iand, len, x) = true) (hnx : ∀ k' L' st' M', nx k' L' st' M' → J i ct K k' L' st' M') (hpc : xpc ct k = pc) (h : sxI i K nx (.iand) x k L st M) : J i ct K k L st M := by
  simp only [okI, Bool.and_eq_true, decide_eq_true_eq, xnxt] at ok
  obtain ⟨hd, hn, rfl⟩ := ok
  unfold sxI at h
  dsimp only at h
  unfold p2i at h
  split at h
  case h_2 => exact h.elim
  exact J_2i (g := bAnd) (fun x y => x &&& y) hpc hn (fun x y _ _ hx hb kk => lv_iand hx hb hd kk) (fun x y => by rw [bAnd_def, o32, o32]) (hnx _ _ _ _ h)

theorem s_ior {i : XMI} {ct : List XE} {K : Option XV → XM → Prop} {nx : Nat → List (Option XV) → List XV → XM → Prop} {k : Nat} {L : List (Option XV)} {st : List XV} {M : XM} {pc len : Nat} {x : XI}  (ok : okI i ct k (pc, .ior, len, x) = true) (hnx : ∀ k' L' st' M', nx k' L' st' M' → J i ct K k' L' st' M') (hpc : xpc ct k = pc) (h : sxI i K nx (.ior) x k L st M) : J i ct K k L st M := by
  simp only [okI, Bool.and_eq_true, decide_eq_true_eq, xnxt] at ok
  obtain ⟨hd, hn, rfl⟩ := ok
  unfold sxI at h
  dsimp only at h
  unfold p2i at h
  split at h
  case h_2 => exact h.elim
  exact J_2i (g := bOr) (fun x y => x ||| y) hpc hn (fun x y _ _ hx hb kk => lv_ior hx hb hd kk) (fun x y => by rw [bOr_def, o32, o32]) (hnx _ _ _ _ h)

theorem s_ixor {i : XMI} {ct : List XE} {K : Option XV → XM → Prop} {nx : Nat → List (Option XV) → List XV → XM → Prop} {k : Nat} {L : List (Option XV)} {st : List XV} {M : XM} {pc len : Nat} {x : XI}  (ok : okI i ct k (pc, .ixor, len, x) = true) (hnx : ∀ k' L' st' M', nx k' L' st' M' → J i ct K k' L' st' M') (hpc : xpc ct k = pc) (h : sxI i K nx (.ixor) x k L st M) : J i ct K k L st M := by
  simp only [okI, Bool.and_eq_true, decide_eq_true_eq, xnxt] at ok
  obtain ⟨hd, hn, rfl⟩ := ok
  unfold sxI at h
  dsimp only at h
  unfold p2i at h
  split at h
  case h_2 => exact h.elim
  exact J_2i (g := bXor) (fun x y => x ^^^ y) hpc hn (fun x y _ _ hx hb kk => lv_ixor hx hb hd kk) (fun x y => by rw [bXor_def, o32, o32]) (hnx _ _ _ _ h)

theorem s_ishl {i : XMI} {ct : List XE} {K : Option XV → XM → Prop} {nx : Nat → List (Option XV) → List XV → XM → Prop} {k : Nat} {L : List (Option XV)} {st : List XV} {M : XM} {pc len : Nat} {x : XI}  (ok : okI i ct k (pc, .ishl, len, x) = true) (hnx : ∀ k' L' st' M', nx k' L' st' M' → J i ct K k' L' st' M') (hpc : xpc ct k = pc) (h : sxI i K nx (.ishl) x k L st M) : J i ct K k L st M := by
  simp only [okI, Bool.and_eq_true, decide_eq_true_eq, xnxt] at ok
  obtain ⟨hd, hn, rfl⟩ := ok
  unfold sxI at h
  dsimp only at h
  unfold p2i at h
  split at h
  case h_2 => exact h.elim
  exact J_2i (g := bShl) (fun x y => x <<< (y &&& 31)) hpc hn (fun x y _ _ hx hb kk => lv_ishl hx hb hd kk) (fun x y => by rw [bShl_def, o32, o32]) (hnx _ _ _ _ h)

theorem s_ishr {i : XMI} {ct : List XE} {K : Option XV → XM → Prop} {nx : Nat → List (Option XV) → List XV → XM → Prop} {k : Nat} {L : List (Option XV)} {st : List XV} {M : XM} {pc len : Nat} {x : XI}  (ok : okI i ct k (pc, .ishr, len, x) = true) (hnx : ∀ k' L' st' M', nx k' L' st' M' → J i ct K k' L' st' M') (hpc : xpc ct k = pc) (h : sxI i K nx (.ishr) x k L st M) : J i ct K k L st M := by
  simp only [okI, Bool.and_eq_true, decide_eq_true_eq, xnxt] at ok
  obtain ⟨hd, hn, rfl⟩ := ok
  unfold sxI at h
  dsimp only at h
  unfold p2i at h
  split at h
  case h_2 => exact h.elim
  exact J_2i (g := bShr) (fun x y => x >>> (y &&& 31)) hpc hn (fun x y _ _ hx hb kk => lv_ishr hx hb hd kk) (fun x y => by rw [bShr_def, o32, o32]) (hnx _ _ _ _ h)

theorem s_iushr {i : XMI} {ct : List XE} {K : Option XV → XM → Prop} {nx : Nat → List (Option XV) → List XV → XM → Prop} {k : Nat} {L : List (Option XV)} {st : List XV} {M : XM} {pc len : Nat} {x : XI}  (ok : okI i ct k (pc, .iushr, len, x) = true) (hnx : ∀ k' L' st' M', nx k' L' st' M' → J i ct K k' L' st' M') (hpc : xpc ct k = pc) (h : sxI i K nx (.iushr) x k L st M) : J i ct K k L st M := by
  simp only [okI, Bool.and_eq_true, decide_eq_true_eq, xnxt] at ok
  obtain ⟨hd, hn, rfl⟩ := ok
  unfold sxI at h
  dsimp only at h
  unfold p2i at h
  split at h
  case h_2 => exact h.elim
  exact J_2i (g := bUshr) (fun x y => (x.toUInt32 >>> (y.toUInt32 &&& Int32.toUInt32 31)).toInt32) hpc hn (fun x y _ _ hx hb kk => lv_iushr hx hb hd rfl kk) (fun x y => by rw [bUshr_def, o32, o32]) (hnx _ _ _ _ h)

theorem s_idiv {i : XMI} {ct : List XE} {K : Option XV → XM → Prop} {nx : Nat → List (Option XV) → List XV → XM → Prop} {k : Nat} {L : List (Option XV)} {st : List XV} {M : XM} {pc len : Nat} {x : XI}  (ok : okI i ct k (pc, .idiv, len, x) = true) (hnx : ∀ k' L' st' M', nx k' L' st' M' → J i ct K k' L' st' M') (hpc : xpc ct k = pc) (h : sxI i K nx (.idiv) x k L st M) : J i ct K k L st M := by
  simp only [okI, Bool.and_eq_true, decide_eq_true_eq, xnxt] at ok
  obtain ⟨hd, hn, rfl⟩ := ok
  unfold sxI at h
  dsimp only at h
  unfold p2i at h
  split at h
  case h_2 => exact h.elim
  exact J_2i (g := fun a b => w32 (a.tdiv b)) (fun x y => x / y) hpc hn (fun x y _ hy hx hb kk => lv_idiv hx hb hd (by rintro rfl; exact h.1 hy.symm) kk) t32_div (hnx _ _ _ _ h.2)

theorem s_irem {i : XMI} {ct : List XE} {K : Option XV → XM → Prop} {nx : Nat → List (Option XV) → List XV → XM → Prop} {k : Nat} {L : List (Option XV)} {st : List XV} {M : XM} {pc len : Nat} {x : XI}  (ok : okI i ct k (pc, .irem, len, x) = true) (hnx : ∀ k' L' st' M', nx k' L' st' M' → J i ct K k' L' st' M') (hpc : xpc ct k = pc) (h : sxI i K nx (.irem) x k L st M) : J i ct K k L st M := by
  simp only [okI, Bool.and_eq_true, decide_eq_true_eq, xnxt] at ok
  obtain ⟨hd, hn, rfl⟩ := ok
  unfold sxI at h
  dsimp only at h
  unfold p2i at h
  split at h
  case h_2 => exact h.elim
  exact J_2i (g := fun a b => a.tmod b) (fun x y => x - x / y * y) hpc hn (fun x y _ hy hx hb kk => lv_irem hx hb hd (by rintro rfl; exact h.1 hy.symm) kk) t32_rem (hnx _ _ _ _ h.2)

theorem s_ladd {i : XMI} {ct : List XE} {K : Option XV → XM → Prop} {nx : Nat → List (Option XV) → List XV → XM → Prop} {k : Nat} {L : List (Option XV)} {st : List XV} {M : XM} {pc len : Nat} {x : XI}  (ok : okI i ct k (pc, .ladd, len, x) = true) (hnx : ∀ k' L' st' M', nx k' L' st' M' → J i ct K k' L' st' M') (hpc : xpc ct k = pc) (h : sxI i K nx (.ladd) x k L st M) : J i ct K k L st M := by
  simp only [okI, Bool.and_eq_true, decide_eq_true_eq, xnxt] at ok
  obtain ⟨hd, hn, rfl⟩ := ok
  unfold sxI at h
  dsimp only at h
  unfold p2l at h
  split at h
  case h_2 => exact h.elim
  exact J_2l (g := fun a b => w64 (a + b)) (fun x y => x + y) hpc hn (fun x y _ _ hx hb kk => lv_ladd hx hb hd kk) t64_add (hnx _ _ _ _ h)

theorem s_lsub {i : XMI} {ct : List XE} {K : Option XV → XM → Prop} {nx : Nat → List (Option XV) → List XV → XM → Prop} {k : Nat} {L : List (Option XV)} {st : List XV} {M : XM} {pc len : Nat} {x : XI}  (ok : okI i ct k (pc, .lsub, len, x) = true) (hnx : ∀ k' L' st' M', nx k' L' st' M' → J i ct K k' L' st' M') (hpc : xpc ct k = pc) (h : sxI i K nx (.lsub) x k L st M) : J i ct K k L st M := by
  simp only [okI, Bool.and_eq_true, decide_eq_true_eq, xnxt] at ok
  obtain ⟨hd, hn, rfl⟩ := ok
  unfold sxI at h
  dsimp only at h
  unfold p2l at h
  split at h
  case h_2 => exact h.elim
  exact J_2l (g := fun a b => w64 (a - b)) (fun x y => x - y) hpc hn (fun x y _ _ hx hb kk => lv_lsub hx hb hd kk) t64_sub (hnx _ _ _ _ h)

theorem s_lmul {i : XMI} {ct : List XE} {K : Option XV → XM → Prop} {nx : Nat → List (Option XV) → List XV → XM → Prop} {k : Nat} {L : List (Option XV)} {st : List XV} {M : XM} {pc len : Nat} {x : XI}  (ok : okI i ct k (pc, .lmul, len, x) = true) (hnx : ∀ k' L' st' M', nx k' L' st' M' → J i ct K k' L' st' M') (hpc : xpc ct k = pc) (h : sxI i K nx (.lmul) x k L st M) : J i ct K k L st M := by
  simp only [okI, Bool.and_eq_true, decide_eq_true_eq, xnxt] at ok
  obtain ⟨hd, hn, rfl⟩ := ok
  unfold sxI at h
  dsimp only at h
  unfold p2l at h
  split at h
  case h_2 => exact h.elim
  exact J_2l (g := fun a b => w64 (a * b)) (fun x y => x * y) hpc hn (fun x y _ _ hx hb kk => lv_lmul hx hb hd kk) t64_mul (hnx _ _ _ _ h)

theorem s_land {i : XMI} {ct : List XE} {K : Option XV → XM → Prop} {nx : Nat → List (Option XV) → List XV → XM → Prop} {k : Nat} {L : List (Option XV)} {st : List XV} {M : XM} {pc len : Nat} {x : XI}  (ok : okI i ct k (pc, .land, len, x) = true) (hnx : ∀ k' L' st' M', nx k' L' st' M' → J i ct K k' L' st' M') (hpc : xpc ct k = pc) (h : sxI i K nx (.land) x k L st M) : J i ct K k L st M := by
  simp only [okI, Bool.and_eq_true, decide_eq_true_eq, xnxt] at ok
  obtain ⟨hd, hn, rfl⟩ := ok
  unfold sxI at h
  dsimp only at h
  unfold p2l at h
  split at h
  case h_2 => exact h.elim
  exact J_2l (g := lAnd) (fun x y => x &&& y) hpc hn (fun x y _ _ hx hb kk => lv_land hx hb hd kk) (fun x y => by rw [lAnd_def, o64, o64]) (hnx _ _ _ _ h)

theorem s_lor {i : XMI} {ct : List XE} {K : Option XV → XM → Prop} {nx : Nat → List (Option XV) → List XV → XM → Prop} {k : Nat} {L : List (Option XV)} {st : List XV} {M : XM} {pc len : Nat} {x : XI}  (ok : okI i ct k (pc, .lor, len, x) = true) (hnx : ∀ k' L' st' M', nx k' L' st' M' → J i ct K k' L' st' M') (hpc : xpc ct k = pc) (h : sxI i K nx (.lor) x k L st M) : J i ct K k L st M := by
  simp only [okI, Bool.and_eq_true, decide_eq_true_eq, xnxt] at ok
  obtain ⟨hd, hn, rfl⟩ := ok
  unfold sxI at h
  dsimp only at h
  unfold p2l at h
  split at h
  case h_2 => exact h.elim
  exact J_2l (g := lOr) (fun x y => x ||| y) hpc hn (fun x y _ _ hx hb kk => lv_lor hx hb hd kk) (fun x y => by rw [lOr_def, o64, o64]) (hnx _ _ _ _ h)

theorem s_lxor {i : XMI} {ct : List XE} {K : Option XV → XM → Prop} {nx : Nat → List (Option XV) → List XV → XM → Prop} {k : Nat} {L : List (Option XV)} {st : List XV} {M : XM} {pc len : Nat} {x : XI}  (ok : okI i ct k (pc, .lxor, len, x) = true) (hnx : ∀ k' L' st' M', nx k' L' st' M' → J i ct K k' L' st' M') (hpc : xpc ct k = pc) (h : sxI i K nx (.lxor) x k L st M) : J i ct K k L st M := by
  simp only [okI, Bool.and_eq_true, decide_eq_true_eq, xnxt] at ok
  obtain ⟨hd, hn, rfl⟩ := ok
  unfold sxI at h
  dsimp only at h
  unfold p2l at h
  split at h
  case h_2 => exact h.elim
  exact J_2l (g := lXor) (fun x y => x ^^^ y) hpc hn (fun x y _ _ hx hb kk => lv_lxor hx hb hd kk) (fun x y => by rw [lXor_def, o64, o64]) (hnx _ _ _ _ h)

theorem s_ldiv {i : XMI} {ct : List XE} {K : Option XV → XM → Prop} {nx : Nat → List (Option XV) → List XV → XM → Prop} {k : Nat} {L : List (Option XV)} {st : List XV} {M : XM} {pc len : Nat} {x : XI}  (ok : okI i ct k (pc, .ldiv, len, x) = true) (hnx : ∀ k' L' st' M', nx k' L' st' M' → J i ct K k' L' st' M') (hpc : xpc ct k = pc) (h : sxI i K nx (.ldiv) x k L st M) : J i ct K k L st M := by
  simp only [okI, Bool.and_eq_true, decide_eq_true_eq, xnxt] at ok
  obtain ⟨hd, hn, rfl⟩ := ok
  unfold sxI at h
  dsimp only at h
  unfold p2l at h
  split at h
  case h_2 => exact h.elim
  exact J_2l (g := fun a b => w64 (a.tdiv b)) (fun x y => x / y) hpc hn (fun x y _ hy hx hb kk => lv_ldiv hx hb hd (by rintro rfl; exact h.1 hy.symm) kk) t64_div (hnx _ _ _ _ h.2)

theorem s_lrem {i : XMI} {ct : List XE} {K : Option XV → XM → Prop} {nx : Nat → List (Option XV) → List XV → XM → Prop} {k : Nat} {L : List (Option XV)} {st : List XV} {M : XM} {pc len : Nat} {x : XI}  (ok : okI i ct k (pc, .lrem, len, x) = true) (hnx : ∀ k' L' st' M', nx k' L' st' M' → J i ct K k' L' st' M') (hpc : xpc ct k = pc) (h : sxI i K nx (.lrem) x k L st M) : J i ct K k L st M := by
  simp only [okI, Bool.and_eq_true, decide_eq_true_eq, xnxt] at ok
  obtain ⟨hd, hn, rfl⟩ := ok
  unfold sxI at h
  dsimp only at h
  unfold p2l at h
  split at h
  case h_2 => exact h.elim
  exact J_2l (g := fun a b => a.tmod b) (fun x y => x - x / y * y) hpc hn (fun x y _ hy hx hb kk => lv_lrem hx hb hd (by rintro rfl; exact h.1 hy.symm) kk) t64_rem (hnx _ _ _ _ h.2)

theorem s_lshl {i : XMI} {ct : List XE} {K : Option XV → XM → Prop} {nx : Nat → List (Option XV) → List XV → XM → Prop} {k : Nat} {L : List (Option XV)} {st : List XV} {M : XM} {pc len : Nat} {x : XI}  (ok : okI i ct k (pc, .lshl, len, x) = true) (hnx : ∀ k' L' st' M', nx k' L' st' M' → J i ct K k' L' st' M') (hpc : xpc ct k = pc) (h : sxI i K nx (.lshl) x k L st M) : J i ct K k L st M := by
  simp only [okI, Bool.and_eq_true, decide_eq_true_eq, xnxt] at ok
  obtain ⟨hd, hn, rfl⟩ := ok
  unfold sxI at h
  dsimp only at h
  unfold pli at h
  split at h
  case h_2 => exact h.elim
  exact J_li (g := lShl) (fun x y => x <<< (y.toInt64 &&& 63)) hpc hn (fun x y _ _ hx hb kk => lv_lshl hx hb hd rfl kk) (fun x y => by rw [lShl_def, o64, o32]) (hnx _ _ _ _ h)

theorem s_lushr {i : XMI} {ct : List XE} {K : Option XV → XM → Prop} {nx : Nat → List (Option XV) → List XV → XM → Prop} {k : Nat} {L : List (Option XV)} {st : List XV} {M : XM} {pc len : Nat} {x : XI}  (ok : okI i ct k (pc, .lushr, len, x) = true) (hnx : ∀ k' L' st' M', nx k' L' st' M' → J i ct K k' L' st' M') (hpc : xpc ct k = pc) (h : sxI i K nx (.lushr) x k L st M) : J i ct K k L st M := by
  simp only [okI, Bool.and_eq_true, decide_eq_true_eq, xnxt] at ok
  obtain ⟨hd, hn, rfl⟩ := ok
  unfold sxI at h
  dsimp only at h
  unfold pli at h
  split at h
  case h_2 => exact h.elim
  exact J_li (g := lUshr) (fun x y => (x.toUInt64 >>> (y.toInt64.toUInt64 &&& Int64.toUInt64 63)).toInt64) hpc hn (fun x y _ _ hx hb kk => lv_lushr hx hb hd rfl kk) (fun x y => by rw [lUshr_def, o64, o32]) (hnx _ _ _ _ h)

theorem s_lcmp {i : XMI} {ct : List XE} {K : Option XV → XM → Prop} {nx : Nat → List (Option XV) → List XV → XM → Prop} {k : Nat} {L : List (Option XV)} {st : List XV} {M : XM} {pc len : Nat} {x : XI}  (ok : okI i ct k (pc, .lcmp, len, x) = true) (hnx : ∀ k' L' st' M', nx k' L' st' M' → J i ct K k' L' st' M') (hpc : xpc ct k = pc) (h : sxI i K nx (.lcmp) x k L st M) : J i ct K k L st M := by
  simp only [okI, Bool.and_eq_true, decide_eq_true_eq, xnxt] at ok
  obtain ⟨hd, hn, rfl⟩ := ok
  unfold sxI at h
  dsimp only at h
  unfold p2l at h
  split at h
  case h_2 => exact h.elim
  exact J_2c (g := lcmpz) lg_cmp hpc hn (fun x y _ _ hx hb kk => W.lcmp hx hb hd kk) x_lcmp (hnx _ _ _ _ h)

theorem s_i2l {i : XMI} {ct : List XE} {K : Option XV → XM → Prop} {nx : Nat → List (Option XV) → List XV → XM → Prop} {k : Nat} {L : List (Option XV)} {st : List XV} {M : XM} {pc len : Nat} {x : XI}  (ok : okI i ct k (pc, .i2l, len, x) = true) (hnx : ∀ k' L' st' M', nx k' L' st' M' → J i ct K k' L' st' M') (hpc : xpc ct k = pc) (h : sxI i K nx (.i2l) x k L st M) : J i ct K k L st M := by
  simp only [okI, Bool.and_eq_true, decide_eq_true_eq, xnxt] at ok
  obtain ⟨hd, hn, rfl⟩ := ok
  unfold sxI at h
  dsimp only at h
  unfold p1i at h
  split at h
  case h_2 => exact h.elim
  exact J_1il (g := fun a => a) (fun x => x.toInt64) hpc hn (fun x hx hb kk => lv_i2l hx hb hd rfl kk) x_i2l (hnx _ _ _ _ h)

theorem s_l2i {i : XMI} {ct : List XE} {K : Option XV → XM → Prop} {nx : Nat → List (Option XV) → List XV → XM → Prop} {k : Nat} {L : List (Option XV)} {st : List XV} {M : XM} {pc len : Nat} {x : XI}  (ok : okI i ct k (pc, .l2i, len, x) = true) (hnx : ∀ k' L' st' M', nx k' L' st' M' → J i ct K k' L' st' M') (hpc : xpc ct k = pc) (h : sxI i K nx (.l2i) x k L st M) : J i ct K k L st M := by
  simp only [okI, Bool.and_eq_true, decide_eq_true_eq, xnxt] at ok
  obtain ⟨hd, hn, rfl⟩ := ok
  unfold sxI at h
  dsimp only at h
  unfold p1l at h
  split at h
  case h_2 => exact h.elim
  exact J_1li (g := w32) (fun x => x.toInt32) hpc hn (fun x hx hb kk => lv_l2i hx hb hd rfl kk) x_l2i (hnx _ _ _ _ h)

theorem s_i2b {i : XMI} {ct : List XE} {K : Option XV → XM → Prop} {nx : Nat → List (Option XV) → List XV → XM → Prop} {k : Nat} {L : List (Option XV)} {st : List XV} {M : XM} {pc len : Nat} {x : XI}  (ok : okI i ct k (pc, .i2b, len, x) = true) (hnx : ∀ k' L' st' M', nx k' L' st' M' → J i ct K k' L' st' M') (hpc : xpc ct k = pc) (h : sxI i K nx (.i2b) x k L st M) : J i ct K k L st M := by
  simp only [okI, Bool.and_eq_true, decide_eq_true_eq, xnxt] at ok
  obtain ⟨hd, hn, rfl⟩ := ok
  unfold sxI at h
  dsimp only at h
  unfold p1i at h
  split at h
  case h_2 => exact h.elim
  exact J_1ii (g := bByte) (fun x => x.toInt8.toInt32) hpc hn (fun x hx hb kk => lv_i2b hx hb hd rfl kk) (fun x => by rw [bByte_def, o32]) (hnx _ _ _ _ h)

theorem s_i2s {i : XMI} {ct : List XE} {K : Option XV → XM → Prop} {nx : Nat → List (Option XV) → List XV → XM → Prop} {k : Nat} {L : List (Option XV)} {st : List XV} {M : XM} {pc len : Nat} {x : XI}  (ok : okI i ct k (pc, .i2s, len, x) = true) (hnx : ∀ k' L' st' M', nx k' L' st' M' → J i ct K k' L' st' M') (hpc : xpc ct k = pc) (h : sxI i K nx (.i2s) x k L st M) : J i ct K k L st M := by
  simp only [okI, Bool.and_eq_true, decide_eq_true_eq, xnxt] at ok
  obtain ⟨hd, hn, rfl⟩ := ok
  unfold sxI at h
  dsimp only at h
  unfold p1i at h
  split at h
  case h_2 => exact h.elim
  exact J_1ii (g := bShort) (fun x => x.toInt16.toInt32) hpc hn (fun x hx hb kk => lv_i2s hx hb hd rfl kk) (fun x => by rw [bShort_def, o32]) (hnx _ _ _ _ h)

theorem s_iconst {i : XMI} {ct : List XE} {K : Option XV → XM → Prop} {nx : Nat → List (Option XV) → List XV → XM → Prop} {k : Nat} {L : List (Option XV)} {st : List XV} {M : XM} {pc len : Nat} {x : XI} {n : Int} (ok : okI i ct k (pc, .iconst n, len, x) = true) (hnx : ∀ k' L' st' M', nx k' L' st' M' → J i ct K k' L' st' M') (hpc : xpc ct k = pc) (h : sxI i K nx (.iconst n) x k L st M) : J i ct K k L st M := by
  simp only [okI, Bool.and_eq_true, decide_eq_true_eq, xnxt] at ok
  obtain ⟨hd, hn, rfl, h1, h2⟩ := ok
  exact J_pi (Int32.ofInt n) (t32_of h1 h2) hpc hn (fun hx hb _ _ kk => lv_iconst hx hb hd rfl kk) (hnx _ _ _ _ h)

theorem s_bipush {i : XMI} {ct : List XE} {K : Option XV → XM → Prop} {nx : Nat → List (Option XV) → List XV → XM → Prop} {k : Nat} {L : List (Option XV)} {st : List XV} {M : XM} {pc len : Nat} {x : XI} {n : Int} (ok : okI i ct k (pc, .bipush n, len, x) = true) (hnx : ∀ k' L' st' M', nx k' L' st' M' → J i ct K k' L' st' M') (hpc : xpc ct k = pc) (h : sxI i K nx (.bipush n) x k L st M) : J i ct K k L st M := by
  simp only [okI, Bool.and_eq_true, decide_eq_true_eq, xnxt] at ok
  obtain ⟨hd, hn, rfl, h1, h2⟩ := ok
  exact J_pi (Int8.ofInt n).toInt32 (t8_of h1 h2) hpc hn (fun hx hb _ _ kk => lv_bipush hx hb hd rfl kk) (hnx _ _ _ _ h)

theorem s_sipush {i : XMI} {ct : List XE} {K : Option XV → XM → Prop} {nx : Nat → List (Option XV) → List XV → XM → Prop} {k : Nat} {L : List (Option XV)} {st : List XV} {M : XM} {pc len : Nat} {x : XI} {n : Int} (ok : okI i ct k (pc, .sipush n, len, x) = true) (hnx : ∀ k' L' st' M', nx k' L' st' M' → J i ct K k' L' st' M') (hpc : xpc ct k = pc) (h : sxI i K nx (.sipush n) x k L st M) : J i ct K k L st M := by
  simp only [okI, Bool.and_eq_true, decide_eq_true_eq, xnxt] at ok
  obtain ⟨hd, hn, rfl, h1, h2⟩ := ok
  exact J_pi (Int16.ofInt n).toInt32 (t16_of h1 h2) hpc hn (fun hx hb _ _ kk => lv_sipush hx hb hd rfl kk) (hnx _ _ _ _ h)

theorem s_lconst {i : XMI} {ct : List XE} {K : Option XV → XM → Prop} {nx : Nat → List (Option XV) → List XV → XM → Prop} {k : Nat} {L : List (Option XV)} {st : List XV} {M : XM} {pc len : Nat} {x : XI} {n : Fin 2} (ok : okI i ct k (pc, .lconst n, len, x) = true) (hnx : ∀ k' L' st' M', nx k' L' st' M' → J i ct K k' L' st' M') (hpc : xpc ct k = pc) (h : sxI i K nx (.lconst n) x k L st M) : J i ct K k L st M := by
  simp only [okI, Bool.and_eq_true, decide_eq_true_eq, xnxt] at ok
  obtain ⟨hd, hn, rfl⟩ := ok
  unfold sxI at h
  dsimp only at h
  exact J_pl (Int64.ofNat (n : Nat)) (by match n with | 0 => rfl | 1 => rfl) hpc hn (fun hx hb _ _ kk => lv_lconst hx hb hd rfl kk) (hnx _ _ _ _ h)

theorem s_ldc {i : XMI} {ct : List XE} {K : Option XV → XM → Prop} {nx : Nat → List (Option XV) → List XV → XM → Prop} {k : Nat} {L : List (Option XV)} {st : List XV} {M : XM} {pc len : Nat} {x : XI} {c : Nat} (ok : okI i ct k (pc, .ldc c, len, x) = true) (hnx : ∀ k' L' st' M', nx k' L' st' M' → J i ct K k' L' st' M') (hpc : xpc ct k = pc) (h : sxI i K nx (.ldc c) x k L st M) : J i ct K k L st M := by
  unfold sxI at h
  dsimp only at h
  unfold xcon at h
  split at h
  case h_2 => exact h.elim
  simp only [okI, Bool.and_eq_true, decide_eq_true_eq, xnxt] at ok
  obtain ⟨hd, ⟨hn, rfl, h1, h2⟩, hw⟩ := ok
  exact J_pi (Int32.ofInt _) (t32_of h1 h2) hpc hn (fun hx hb ho ht kk => lv_ldc hx hb ho (ht _ (xck_in hw rfl)) hd kk) (hnx _ _ _ _ h)

theorem s_ldc_w {i : XMI} {ct : List XE} {K : Option XV → XM → Prop} {nx : Nat → List (Option XV) → List XV → XM → Prop} {k : Nat} {L : List (Option XV)} {st : List XV} {M : XM} {pc len : Nat} {x : XI} {c : Nat} (ok : okI i ct k (pc, .ldc_w c, len, x) = true) (hnx : ∀ k' L' st' M', nx k' L' st' M' → J i ct K k' L' st' M') (hpc : xpc ct k = pc) (h : sxI i K nx (.ldc_w c) x k L st M) : J i ct K k L st M := by
  unfold sxI at h
  dsimp only at h
  unfold xcon at h
  split at h
  case h_2 => exact h.elim
  simp only [okI, Bool.and_eq_true, decide_eq_true_eq, xnxt] at ok
  obtain ⟨hd, ⟨hn, rfl, h1, h2⟩, hw⟩ := ok
  exact J_pi (Int32.ofInt _) (t32_of h1 h2) hpc hn (fun hx hb ho ht kk => lv_ldcw hx hb ho (ht _ (xck_in hw rfl)) hd kk) (hnx _ _ _ _ h)

theorem s_ldc2_w {i : XMI} {ct : List XE} {K : Option XV → XM → Prop} {nx : Nat → List (Option XV) → List XV → XM → Prop} {k : Nat} {L : List (Option XV)} {st : List XV} {M : XM} {pc len : Nat} {x : XI} {c : Nat} (ok : okI i ct k (pc, .ldc2_w c, len, x) = true) (hnx : ∀ k' L' st' M', nx k' L' st' M' → J i ct K k' L' st' M') (hpc : xpc ct k = pc) (h : sxI i K nx (.ldc2_w c) x k L st M) : J i ct K k L st M := by
  unfold sxI at h
  dsimp only at h
  unfold xcon at h
  split at h
  case h_2 => exact h.elim
  simp only [okI, Bool.and_eq_true, decide_eq_true_eq, xnxt] at ok
  obtain ⟨hd, ⟨hn, rfl, h1, h2⟩, hw⟩ := ok
  exact J_pl (Int64.ofInt _) (t64_of h1 h2) hpc hn (fun hx hb ho ht kk => lv_ldc2 hx hb ho (ht _ (xck_in hw rfl)) hd kk) (hnx _ _ _ _ h)

theorem s_iload {i : XMI} {ct : List XE} {K : Option XV → XM → Prop} {nx : Nat → List (Option XV) → List XV → XM → Prop} {k : Nat} {L : List (Option XV)} {st : List XV} {M : XM} {pc len : Nat} {x : XI} {n : Nat} (ok : okI i ct k (pc, .iload n, len, x) = true) (hnx : ∀ k' L' st' M', nx k' L' st' M' → J i ct K k' L' st' M') (hpc : xpc ct k = pc) (h : sxI i K nx (.iload n) x k L st M) : J i ct K k L st M := by
  unfold sxI at h
  dsimp only at h
  unfold xgI at h
  split at h
  case h_2 => exact h.elim
  rename_i hz
  simp only [okI, Bool.and_eq_true, decide_eq_true_eq, xnxt] at ok
  obtain ⟨hd, hn, rfl⟩ := ok
  exact J_ldi hz hpc hn (fun x hx hb hl kk => lv_iload hx hb hd hl kk) (hnx _ _ _ _ h)

theorem s_iload_n {i : XMI} {ct : List XE} {K : Option XV → XM → Prop} {nx : Nat → List (Option XV) → List XV → XM → Prop} {k : Nat} {L : List (Option XV)} {st : List XV} {M : XM} {pc len : Nat} {x : XI} {n : Fin 4} (ok : okI i ct k (pc, .iload_n n, len, x) = true) (hnx : ∀ k' L' st' M', nx k' L' st' M' → J i ct K k' L' st' M') (hpc : xpc ct k = pc) (h : sxI i K nx (.iload_n n) x k L st M) : J i ct K k L st M := by
  unfold sxI at h
  dsimp only at h
  unfold xgI at h
  split at h
  case h_2 => exact h.elim
  rename_i hz
  simp only [okI, Bool.and_eq_true, decide_eq_true_eq, xnxt] at ok
  obtain ⟨hd, hn, rfl⟩ := ok
  exact J_ldi hz hpc hn (fun x hx hb hl kk => lv_iload_n hx hb hd rfl hl kk) (hnx _ _ _ _ h)

theorem s_lload {i : XMI} {ct : List XE} {K : Option XV → XM → Prop} {nx : Nat → List (Option XV) → List XV → XM → Prop} {k : Nat} {L : List (Option XV)} {st : List XV} {M : XM} {pc len : Nat} {x : XI} {n : Nat} (ok : okI i ct k (pc, .lload n, len, x) = true) (hnx : ∀ k' L' st' M', nx k' L' st' M' → J i ct K k' L' st' M') (hpc : xpc ct k = pc) (h : sxI i K nx (.lload n) x k L st M) : J i ct K k L st M := by
  unfold sxI at h
  dsimp only at h
  unfold xgL at h
  split at h
  case h_2 => exact h.elim
  rename_i hz
  simp only [okI, Bool.and_eq_true, decide_eq_true_eq, xnxt] at ok
  obtain ⟨hd, hn, rfl⟩ := ok
  exact J_ldl hz hpc hn (fun x hx hb hl kk => lv_lload hx hb hd hl kk) (hnx _ _ _ _ h)

theorem s_lload_n {i : XMI} {ct : List XE} {K : Option XV → XM → Prop} {nx : Nat → List (Option XV) → List XV → XM → Prop} {k : Nat} {L : List (Option XV)} {st : List XV} {M : XM} {pc len : Nat} {x : XI} {n : Fin 4} (ok : okI i ct k (pc, .lload_n n, len, x) = true) (hnx : ∀ k' L' st' M', nx k' L' st' M' → J i ct K k' L' st' M') (hpc : xpc ct k = pc) (h : sxI i K nx (.lload_n n) x k L st M) : J i ct K k L st M := by
  unfold sxI at h
  dsimp only at h
  unfold xgL at h
  split at h
  case h_2 => exact h.elim
  rename_i hz
  simp only [okI, Bool.and_eq_true, decide_eq_true_eq, xnxt] at ok
  obtain ⟨hd, hn, rfl⟩ := ok
  exact J_ldl hz hpc hn (fun x hx hb hl kk => lv_lload_n hx hb hd rfl hl kk) (hnx _ _ _ _ h)

theorem s_aload {i : XMI} {ct : List XE} {K : Option XV → XM → Prop} {nx : Nat → List (Option XV) → List XV → XM → Prop} {k : Nat} {L : List (Option XV)} {st : List XV} {M : XM} {pc len : Nat} {x : XI} {n : Nat} (ok : okI i ct k (pc, .aload n, len, x) = true) (hnx : ∀ k' L' st' M', nx k' L' st' M' → J i ct K k' L' st' M') (hpc : xpc ct k = pc) (h : sxI i K nx (.aload n) x k L st M) : J i ct K k L st M := by
  unfold sxI at h
  dsimp only at h
  unfold xgR at h
  split at h
  case h_2 => exact h.elim
  rename_i hz
  simp only [okI, Bool.and_eq_true, decide_eq_true_eq, xnxt] at ok
  obtain ⟨hd, hn, rfl⟩ := ok
  exact J_lda hz hpc hn (fun x hx hb hl kk => lv_aload hx hb hd hl kk) (hnx _ _ _ _ h)

theorem s_aload_n {i : XMI} {ct : List XE} {K : Option XV → XM → Prop} {nx : Nat → List (Option XV) → List XV → XM → Prop} {k : Nat} {L : List (Option XV)} {st : List XV} {M : XM} {pc len : Nat} {x : XI} {n : Fin 4} (ok : okI i ct k (pc, .aload_n n, len, x) = true) (hnx : ∀ k' L' st' M', nx k' L' st' M' → J i ct K k' L' st' M') (hpc : xpc ct k = pc) (h : sxI i K nx (.aload_n n) x k L st M) : J i ct K k L st M := by
  unfold sxI at h
  dsimp only at h
  unfold xgR at h
  split at h
  case h_2 => exact h.elim
  rename_i hz
  simp only [okI, Bool.and_eq_true, decide_eq_true_eq, xnxt] at ok
  obtain ⟨hd, hn, rfl⟩ := ok
  exact J_lda hz hpc hn (fun x hx hb hl kk => lv_aload_n hx hb hd rfl hl kk) (hnx _ _ _ _ h)

theorem s_istore {i : XMI} {ct : List XE} {K : Option XV → XM → Prop} {nx : Nat → List (Option XV) → List XV → XM → Prop} {k : Nat} {L : List (Option XV)} {st : List XV} {M : XM} {pc len : Nat} {x : XI} {n : Nat} (ok : okI i ct k (pc, .istore n, len, x) = true) (hnx : ∀ k' L' st' M', nx k' L' st' M' → J i ct K k' L' st' M') (hpc : xpc ct k = pc) (h : sxI i K nx (.istore n) x k L st M) : J i ct K k L st M := by
  unfold sxI at h
  dsimp only at h
  unfold p1i at h
  split at h
  case h_2 => exact h.elim
  simp only [okI, Bool.and_eq_true, decide_eq_true_eq, xnxt] at ok
  obtain ⟨hd, hn, rfl, hlt⟩ := ok
  exact J_sti hpc hn (fun x lv hx hb hl kk => lv_istore hx hb hd hl hlt rfl kk) (hnx _ _ _ _ h)

theorem s_istore_n {i : XMI} {ct : List XE} {K : Option XV → XM → Prop} {nx : Nat → List (Option XV) → List XV → XM → Prop} {k : Nat} {L : List (Option XV)} {st : List XV} {M : XM} {pc len : Nat} {x : XI} {n : Fin 4} (ok : okI i ct k (pc, .istore_n n, len, x) = true) (hnx : ∀ k' L' st' M', nx k' L' st' M' → J i ct K k' L' st' M') (hpc : xpc ct k = pc) (h : sxI i K nx (.istore_n n) x k L st M) : J i ct K k L st M := by
  unfold sxI at h
  dsimp only at h
  unfold p1i at h
  split at h
  case h_2 => exact h.elim
  simp only [okI, Bool.and_eq_true, decide_eq_true_eq, xnxt] at ok
  obtain ⟨hd, hn, rfl, hlt⟩ := ok
  exact J_sti hpc hn (fun x lv hx hb hl kk => lv_istore_n hx hb hd rfl hl hlt rfl kk) (hnx _ _ _ _ h)

theorem s_lstore {i : XMI} {ct : List XE} {K : Option XV → XM → Prop} {nx : Nat → List (Option XV) → List XV → XM → Prop} {k : Nat} {L : List (Option XV)} {st : List XV} {M : XM} {pc len : Nat} {x : XI} {n : Nat} (ok : okI i ct k (pc, .lstore n, len, x) = true) (hnx : ∀ k' L' st' M', nx k' L' st' M' → J i ct K k' L' st' M') (hpc : xpc ct k = pc) (h : sxI i K nx (.lstore n) x k L st M) : J i ct K k L st M := by
  unfold sxI at h
  dsimp only at h
  unfold p1l at h
  split at h
  case h_2 => exact h.elim
  simp only [okI, Bool.and_eq_true, decide_eq_true_eq, xnxt] at ok
  obtain ⟨hd, hn, rfl, hlt⟩ := ok
  exact J_stl hpc hn (fun x lv hx hb hl kk => lv_lstore hx hb hd hl hlt rfl kk) (hnx _ _ _ _ h)

theorem s_lstore_n {i : XMI} {ct : List XE} {K : Option XV → XM → Prop} {nx : Nat → List (Option XV) → List XV → XM → Prop} {k : Nat} {L : List (Option XV)} {st : List XV} {M : XM} {pc len : Nat} {x : XI} {n : Fin 4} (ok : okI i ct k (pc, .lstore_n n, len, x) = true) (hnx : ∀ k' L' st' M', nx k' L' st' M' → J i ct K k' L' st' M') (hpc : xpc ct k = pc) (h : sxI i K nx (.lstore_n n) x k L st M) : J i ct K k L st M := by
  unfold sxI at h
  dsimp only at h
  unfold p1l at h
  split at h
  case h_2 => exact h.elim
  simp only [okI, Bool.and_eq_true, decide_eq_true_eq, xnxt] at ok
  obtain ⟨hd, hn, rfl, hlt⟩ := ok
  exact J_stl hpc hn (fun x lv hx hb hl kk => lv_lstore_n hx hb hd rfl hl hlt rfl kk) (hnx _ _ _ _ h)

theorem s_iinc {i : XMI} {ct : List XE} {K : Option XV → XM → Prop} {nx : Nat → List (Option XV) → List XV → XM → Prop} {k : Nat} {L : List (Option XV)} {st : List XV} {M : XM} {pc len : Nat} {x : XI} {n : Nat} {d : Int} (ok : okI i ct k (pc, .iinc n d, len, x) = true) (hnx : ∀ k' L' st' M', nx k' L' st' M' → J i ct K k' L' st' M') (hpc : xpc ct k = pc) (h : sxI i K nx (.iinc n d) x k L st M) : J i ct K k L st M := by
  unfold sxI at h
  dsimp only at h
  unfold xgI at h
  split at h
  case h_2 => exact h.elim
  rename_i hz
  simp only [okI, Bool.and_eq_true, decide_eq_true_eq, xnxt] at ok
  obtain ⟨hd, hn, rfl, hlt, h1, h2⟩ := ok
  exact J_inc hz hlt h1 h2 hpc hn hd (hnx _ _ _ _ h)

theorem s_dup {i : XMI} {ct : List XE} {K : Option XV → XM → Prop} {nx : Nat → List (Option XV) → List XV → XM → Prop} {k : Nat} {L : List (Option XV)} {st : List XV} {M : XM} {pc len : Nat} {x : XI}  (ok : okI i ct k (pc, .dup, len, x) = true) (hnx : ∀ k' L' st' M', nx k' L' st' M' → J i ct K k' L' st' M') (hpc : xpc ct k = pc) (h : sxI i K nx (.dup) x k L st M) : J i ct K k L st M := by
  simp only [okI, Bool.and_eq_true, decide_eq_true_eq, xnxt] at ok
  obtain ⟨hd, hn, rfl⟩ := ok
  unfold sxI at h
  dsimp only at h
  unfold pdup at h
  split at h
  case h_3 => exact h.elim
  · exact J_dup rfl hpc hn hd (hnx _ _ _ _ h)
  · exact J_dup rfl hpc hn hd (hnx _ _ _ _ h)

theorem s_dup2 {i : XMI} {ct : List XE} {K : Option XV → XM → Prop} {nx : Nat → List (Option XV) → List XV → XM → Prop} {k : Nat} {L : List (Option XV)} {st : List XV} {M : XM} {pc len : Nat} {x : XI}  (ok : okI i ct k (pc, .dup2, len, x) = true) (hnx : ∀ k' L' st' M', nx k' L' st' M' → J i ct K k' L' st' M') (hpc : xpc ct k = pc) (h : sxI i K nx (.dup2) x k L st M) : J i ct K k L st M := by
  simp only [okI, Bool.and_eq_true, decide_eq_true_eq, xnxt] at ok
  obtain ⟨hd, hn, rfl⟩ := ok
  unfold sxI at h
  dsimp only at h
  unfold pdup2 at h
  split at h
  case h_4 => exact h.elim
  · exact J_dup2 rfl rfl hpc hn hd (hnx _ _ _ _ h)
  · exact J_dup2 rfl rfl hpc hn hd (hnx _ _ _ _ h)
  · exact J_dup2l hpc hn hd (hnx _ _ _ _ h)

theorem s_goto {i : XMI} {ct : List XE} {K : Option XV → XM → Prop} {nx : Nat → List (Option XV) → List XV → XM → Prop} {k : Nat} {L : List (Option XV)} {st : List XV} {M : XM} {pc len : Nat} {x : XI} {off : Int} (ok : okI i ct k (pc, .goto off, len, x) = true) (hnx : ∀ k' L' st' M', nx k' L' st' M' → J i ct K k' L' st' M') (hpc : xpc ct k = pc) (h : sxI i K nx (.goto off) x k L st M) : J i ct K k L st M := by
  unfold sxI at h
  dsimp only at h
  unfold xjmp at h
  split at h
  case h_2 => exact h.elim
  simp only [okI, Bool.and_eq_true, decide_eq_true_eq, xnxt, okJ] at ok
  obtain ⟨hd, hj, rfl⟩ := ok
  exact J_goto hpc hj hd (hnx _ _ _ _ h)

theorem xbr_mono {c : Jvm.ClassFile.Cond} {a b : Int} {t f t' f' : Prop} (ht : t → t') (hf : f → f') (h : xbr c a b t f) : xbr c a b t' f' := by
  cases c <;> exact ⟨fun q => ht (h.1 q), fun q => hf (h.2 q)⟩
theorem s_ifCond {i : XMI} {ct : List XE} {K : Option XV → XM → Prop} {nx : Nat → List (Option XV) → List XV → XM → Prop} {k : Nat} {L : List (Option XV)} {st : List XV} {M : XM} {pc len : Nat} {x : XI} {c : Jvm.ClassFile.Cond} {off : Int} (ok : okI i ct k (pc, .ifCond c off, len, x) = true) (hnx : ∀ k' L' st' M', nx k' L' st' M' → J i ct K k' L' st' M') (hpc : xpc ct k = pc) (h : sxI i K nx (.ifCond c off) x k L st M) : J i ct K k L st M := by
  unfold sxI at h
  dsimp only at h
  unfold xjmp at h
  split at h
  case h_2 => exact h.elim
  unfold p1i at h
  split at h
  case h_2 => exact h.elim
  simp only [okI, Bool.and_eq_true, decide_eq_true_eq, xnxt, okJ] at ok
  obtain ⟨hd, ⟨hn, hj⟩, rfl⟩ := ok
  have hb : xbr c _ _ _ _ := xbr_mono (fun q => hnx _ _ _ _ q) (fun q => hnx _ _ _ _ q) h
  cases c with
  | eq => exact J_if_eq hpc hn hj hd hb
  | ne => exact J_if_ne hpc hn hj hd hb
  | lt => exact J_if_lt hpc hn hj hd hb
  | ge => exact J_if_ge hpc hn hj hd hb
  | gt => exact J_if_gt hpc hn hj hd hb
  | le => exact J_if_le hpc hn hj hd hb

theorem s_if_icmp {i : XMI} {ct : List XE} {K : Option XV → XM → Prop} {nx : Nat → List (Option XV) → List XV → XM → Prop} {k : Nat} {L : List (Option XV)} {st : List XV} {M : XM} {pc len : Nat} {x : XI} {c : Jvm.ClassFile.Cond} {off : Int} (ok : okI i ct k (pc, .if_icmp c off, len, x) = true) (hnx : ∀ k' L' st' M', nx k' L' st' M' → J i ct K k' L' st' M') (hpc : xpc ct k = pc) (h : sxI i K nx (.if_icmp c off) x k L st M) : J i ct K k L st M := by
  unfold sxI at h
  dsimp only at h
  unfold xjmp at h
  split at h
  case h_2 => exact h.elim
  unfold p2i at h
  split at h
  case h_2 => exact h.elim
  simp only [okI, Bool.and_eq_true, decide_eq_true_eq, xnxt, okJ] at ok
  obtain ⟨hd, ⟨hn, hj⟩, rfl⟩ := ok
  have hb : xbr c _ _ _ _ := xbr_mono (fun q => hnx _ _ _ _ q) (fun q => hnx _ _ _ _ q) h
  cases c with
  | eq => exact J_ic_eq hpc hn hj hd hb
  | ne => exact J_ic_ne hpc hn hj hd hb
  | lt => exact J_ic_lt hpc hn hj hd hb
  | ge => exact J_ic_ge hpc hn hj hd hb
  | gt => exact J_ic_gt hpc hn hj hd hb
  | le => exact J_ic_le hpc hn hj hd hb

theorem xsw_mono {d : Nat} {z : Int} {f g : Nat → Prop} (hf : ∀ t, f t → g t) : ∀ (ts : List Nat) (lo : Int), xsw ts d lo z f → xsw ts d lo z g
  | [], _, h => hf _ h
  | _ :: ts, lo, h => ⟨fun q => hf _ (h.1 q), fun q => xsw_mono hf ts (lo + 1) (h.2 q)⟩
theorem s_tableswitch {i : XMI} {ct : List XE} {K : Option XV → XM → Prop} {nx : Nat → List (Option XV) → List XV → XM → Prop} {k : Nat} {L : List (Option XV)} {st : List XV} {M : XM} {pc len : Nat} {x : XI} {d lo hi : Int} {offs : Array Int} (ok : okI i ct k (pc, .tableswitch d lo hi offs, len, x) = true) (hnx : ∀ k' L' st' M', nx k' L' st' M' → J i ct K k' L' st' M') (hpc : xpc ct k = pc) (h : sxI i K nx (.tableswitch d lo hi offs) x k L st M) : J i ct K k L st M := by
  unfold sxI at h
  dsimp only at h
  unfold p1i at h
  split at h
  case h_2 => exact h.elim
  unfold xtsw at h
  split at h
  case h_2 => exact h.elim
  simp only [okI, Bool.and_eq_true, decide_eq_true_eq, xnxt, okJ] at ok
  obtain ⟨hd, ⟨hj, hs⟩, hh⟩ := ok
  exact J_tsw hpc hj hs hh hd (xsw_mono (fun t q => hnx _ _ _ _ q) _ _ h)

theorem s_getfield {i : XMI} {ct : List XE} {K : Option XV → XM → Prop} {nx : Nat → List (Option XV) → List XV → XM → Prop} {k : Nat} {L : List (Option XV)} {st : List XV} {M : XM} {pc len : Nat} {x : XI} {idx : Nat} (ok : okI i ct k (pc, .getfield idx, len, x) = true) (hnx : ∀ k' L' st' M', nx k' L' st' M' → J i ct K k' L' st' M') (hpc : xpc ct k = pc) (h : sxI i K nx (.getfield idx) x k L st M) : J i ct K k L st M := by
  unfold sxI at h
  dsimp only at h
  unfold xfd at h
  split at h
  case h_2 => exact h.elim
  unfold p1r at h
  split at h
  case h_2 => exact h.elim
  split at h
  case h_2 => exact h.elim
  rename_i hcl
  have hc := of_decide_eq_true hcl
  simp only [okI, Bool.and_eq_true, decide_eq_true_eq, xnxt] at ok
  obtain ⟨hd, ⟨hn, rfl, hf, ho⟩, hw⟩ := ok
  have hl := xck_in hw rfl
  split at h
  · rename_i hk; exact J_getI hc hk ho hf hl hpc hn hd (hnx _ _ _ _ h)
  · rename_i hk; exact J_getL hc hk ho hf hl hpc hn hd (hnx _ _ _ _ h)
  · rename_i h0 h1; exact J_getR hc h0 h1 ho hf hl hpc hn hd (hnx _ _ _ _ h)

theorem s_putfield {i : XMI} {ct : List XE} {K : Option XV → XM → Prop} {nx : Nat → List (Option XV) → List XV → XM → Prop} {k : Nat} {L : List (Option XV)} {st : List XV} {M : XM} {pc len : Nat} {x : XI} {idx : Nat} (ok : okI i ct k (pc, .putfield idx, len, x) = true) (hnx : ∀ k' L' st' M', nx k' L' st' M' → J i ct K k' L' st' M') (hpc : xpc ct k = pc) (h : sxI i K nx (.putfield idx) x k L st M) : J i ct K k L st M := by
  unfold sxI at h
  dsimp only at h
  unfold xfd at h
  split at h
  case h_2 => exact h.elim
  unfold pvr at h
  split at h
  case h_3 => exact h.elim
  · split at h
    case h_2 => exact h.elim
    rename_i hcl
    obtain ⟨hc, hk⟩ := of_decide_eq_true hcl
    simp only [okI, Bool.and_eq_true, decide_eq_true_eq, xnxt] at ok
    obtain ⟨hd, ⟨hn, rfl, hf, ho, hfin⟩, hw⟩ := ok
    exact J_putI hc hk ho hf hfin (xck_in hw rfl) hpc hn hd (hnx _ _ _ _ h)
  · split at h
    case h_2 => exact h.elim
    rename_i hcl
    obtain ⟨hc, hk⟩ := of_decide_eq_true hcl
    simp only [okI, Bool.and_eq_true, decide_eq_true_eq, xnxt] at ok
    obtain ⟨hd, ⟨hn, rfl, hf, ho, hfin⟩, hw⟩ := ok
    exact J_putL hc hk ho hf hfin (xck_in hw rfl) hpc hn hd (hnx _ _ _ _ h)

theorem s_iaload {i : XMI} {ct : List XE} {K : Option XV → XM → Prop} {nx : Nat → List (Option XV) → List XV → XM → Prop} {k : Nat} {L : List (Option XV)} {st : List XV} {M : XM} {pc len : Nat} {x : XI}  (ok : okI i ct k (pc, .iaload, len, x) = true) (hnx : ∀ k' L' st' M', nx k' L' st' M' → J i ct K k' L' st' M') (hpc : xpc ct k = pc) (h : sxI i K nx (.iaload) x k L st M) : J i ct K k L st M := by
  simp only [okI, Bool.and_eq_true, decide_eq_true_eq, xnxt] at ok
  obtain ⟨hd, hn, rfl⟩ := ok
  unfold sxI at h
  dsimp only at h
  unfold pir at h
  split at h
  case h_2 => exact h.elim
  split at h
  case h_2 => exact h.elim
  · rename_i ha; exact J_iald ha h.1 hpc hn hd (hnx _ _ _ _ h.2)

theorem s_laload {i : XMI} {ct : List XE} {K : Option XV → XM → Prop} {nx : Nat → List (Option XV) → List XV → XM → Prop} {k : Nat} {L : List (Option XV)} {st : List XV} {M : XM} {pc len : Nat} {x : XI}  (ok : okI i ct k (pc, .laload, len, x) = true) (hnx : ∀ k' L' st' M', nx k' L' st' M' → J i ct K k' L' st' M') (hpc : xpc ct k = pc) (h : sxI i K nx (.laload) x k L st M) : J i ct K k L st M := by
  simp only [okI, Bool.and_eq_true, decide_eq_true_eq, xnxt] at ok
  obtain ⟨hd, hn, rfl⟩ := ok
  unfold sxI at h
  dsimp only at h
  unfold pir at h
  split at h
  case h_2 => exact h.elim
  split at h
  case h_2 => exact h.elim
  · rename_i ha; exact J_lald ha h.1 hpc hn hd (hnx _ _ _ _ h.2)

theorem s_iastore {i : XMI} {ct : List XE} {K : Option XV → XM → Prop} {nx : Nat → List (Option XV) → List XV → XM → Prop} {k : Nat} {L : List (Option XV)} {st : List XV} {M : XM} {pc len : Nat} {x : XI}  (ok : okI i ct k (pc, .iastore, len, x) = true) (hnx : ∀ k' L' st' M', nx k' L' st' M' → J i ct K k' L' st' M') (hpc : xpc ct k = pc) (h : sxI i K nx (.iastore) x k L st M) : J i ct K k L st M := by
  simp only [okI, Bool.and_eq_true, decide_eq_true_eq, xnxt] at ok
  obtain ⟨hd, hn, rfl⟩ := ok
  unfold sxI at h
  dsimp only at h
  unfold piir at h
  split at h
  case h_2 => exact h.elim
  split at h
  case h_2 => exact h.elim
  · rename_i ha; exact J_iast ha h.1 hpc hn hd (hnx _ _ _ _ h.2)

theorem s_lastore {i : XMI} {ct : List XE} {K : Option XV → XM → Prop} {nx : Nat → List (Option XV) → List XV → XM → Prop} {k : Nat} {L : List (Option XV)} {st : List XV} {M : XM} {pc len : Nat} {x : XI}  (ok : okI i ct k (pc, .lastore, len, x) = true) (hnx : ∀ k' L' st' M', nx k' L' st' M' → J i ct K k' L' st' M') (hpc : xpc ct k = pc) (h : sxI i K nx (.lastore) x k L st M) : J i ct K k L st M := by
  simp only [okI, Bool.and_eq_true, decide_eq_true_eq, xnxt] at ok
  obtain ⟨hd, hn, rfl⟩ := ok
  unfold sxI at h
  dsimp only at h
  unfold plir at h
  split at h
  case h_2 => exact h.elim
  split at h
  case h_2 => exact h.elim
  · rename_i ha; exact J_last ha h.1 hpc hn hd (hnx _ _ _ _ h.2)

theorem s_baload {i : XMI} {ct : List XE} {K : Option XV → XM → Prop} {nx : Nat → List (Option XV) → List XV → XM → Prop} {k : Nat} {L : List (Option XV)} {st : List XV} {M : XM} {pc len : Nat} {x : XI}  (ok : okI i ct k (pc, .baload, len, x) = true) (hnx : ∀ k' L' st' M', nx k' L' st' M' → J i ct K k' L' st' M') (hpc : xpc ct k = pc) (h : sxI i K nx (.baload) x k L st M) : J i ct K k L st M := by
  simp only [okI, Bool.and_eq_true, decide_eq_true_eq, xnxt] at ok
  obtain ⟨hd, hn, rfl⟩ := ok
  unfold sxI at h
  dsimp only at h
  unfold pir at h
  split at h
  case h_2 => exact h.elim
  split at h
  case h_3 => exact h.elim
  · rename_i ha; exact J_zald ha h.1 hpc hn hd (hnx _ _ _ _ h.2)
  · rename_i ha; exact J_bald ha h.1 hpc hn hd (hnx _ _ _ _ h.2)

theorem s_bastore {i : XMI} {ct : List XE} {K : Option XV → XM → Prop} {nx : Nat → List (Option XV) → List XV → XM → Prop} {k : Nat} {L : List (Option XV)} {st : List XV} {M : XM} {pc len : Nat} {x : XI}  (ok : okI i ct k (pc, .bastore, len, x) = true) (hnx : ∀ k' L' st' M', nx k' L' st' M' → J i ct K k' L' st' M') (hpc : xpc ct k = pc) (h : sxI i K nx (.bastore) x k L st M) : J i ct K k L st M := by
  simp only [okI, Bool.and_eq_true, decide_eq_true_eq, xnxt] at ok
  obtain ⟨hd, hn, rfl⟩ := ok
  unfold sxI at h
  dsimp only at h
  unfold piir at h
  split at h
  case h_2 => exact h.elim
  split at h
  case h_3 => exact h.elim
  · rename_i ha; exact J_zast ha h.1 hpc hn hd (hnx _ _ _ _ h.2)
  · rename_i ha; exact J_bast ha h.1 hpc hn hd (hnx _ _ _ _ h.2)

theorem xar_sm {t ty n : Nat} (h : xar t = some (ty, n)) : ty < 4 ∧ n < 2147483648 := by
  unfold xar at h
  split at h <;> cases h <;> decide
theorem s_arraylength {i : XMI} {ct : List XE} {K : Option XV → XM → Prop} {nx : Nat → List (Option XV) → List XV → XM → Prop} {k : Nat} {L : List (Option XV)} {st : List XV} {M : XM} {pc len : Nat} {x : XI}  (ok : okI i ct k (pc, .arraylength, len, x) = true) (hnx : ∀ k' L' st' M', nx k' L' st' M' → J i ct K k' L' st' M') (hpc : xpc ct k = pc) (h : sxI i K nx (.arraylength) x k L st M) : J i ct K k L st M := by
  simp only [okI, Bool.and_eq_true, decide_eq_true_eq, xnxt] at ok
  obtain ⟨hd, hn, rfl⟩ := ok
  unfold sxI at h
  dsimp only at h
  unfold p1r at h
  split at h
  case h_2 => exact h.elim
  split at h
  case h_2 => exact h.elim
  rename_i ha
  exact J_alen ha (xar_sm ha).1 (xar_sm ha).2 hpc hn hd (hnx _ _ _ _ h)

theorem s_invokestatic {i : XMI} {ct : List XE} {K : Option XV → XM → Prop} {nx : Nat → List (Option XV) → List XV → XM → Prop} {k : Nat} {L : List (Option XV)} {st : List XV} {M : XM} {pc len : Nat} {x : XI} {idx : Nat} (ok : okI i ct k (pc, .invokestatic idx, len, x) = true) (hnx : ∀ k' L' st' M', nx k' L' st' M' → J i ct K k' L' st' M') (hpc : xpc ct k = pc) (h : sxI i K nx (.invokestatic idx) x k L st M) : J i ct K k L st M := by
  unfold sxI at h
  dsimp only at h
  unfold xcl_ at h
  split at h
  case h_2 => exact h.elim
  rename_i i' n c0 rest0
  obtain ⟨nest, ps⟩ := rest0
  unfold xcall at h
  split at h
  case h_2 => exact h.elim
  rename_i hdec
  obtain ⟨hn0, hsum⟩ := of_decide_eq_true hdec
  simp only [okI, okC, Bool.and_eq_true, decide_eq_true_eq, xnxt] at ok
  obtain ⟨hd, ⟨⟨⟨⟨⟨hn, rfl⟩, hF, hO⟩, hdesc⟩, hst⟩, hini⟩, hl⟩ := ok
  cases nest with
  | false => exact J_cS hn0 hsum hF hO hdesc (xck_in hst rfl) (xck_in hini rfl) (xck_in hl rfl) hpc hn hd (h.mono fun r M' q => hnx _ _ _ _ q)
  | true => exact J_cN hn0 hsum hF hO hdesc (xck_in hst rfl) (xck_in hini rfl) (of_decide_eq_true hl) hpc hn hd (h.mono fun r M' q => hnx _ _ _ _ q)

theorem s_invokevirtual {i : XMI} {ct : List XE} {K : Option XV → XM → Prop} {nx : Nat → List (Option XV) → List XV → XM → Prop} {k : Nat} {L : List (Option XV)} {st : List XV} {M : XM} {pc len : Nat} {x : XI} {idx : Nat} (ok : okI i ct k (pc, .invokevirtual idx, len, x) = true) (hnx : ∀ k' L' st' M', nx k' L' st' M' → J i ct K k' L' st' M') (hpc : xpc ct k = pc) (h : sxI i K nx (.invokevirtual idx) x k L st M) : J i ct K k L st M := by
  unfold sxI at h
  dsimp only at h
  unfold xcl_ at h
  split at h
  case h_2 => exact h.elim
  rename_i i' n c0 rest0
  obtain ⟨nest, ps⟩ := rest0
  unfold xcall at h
  split at h
  case h_2 => exact h.elim
  rename_i hdec
  obtain ⟨hn0, hsum⟩ := of_decide_eq_true hdec
  split at h
  case h_2 => exact h.elim
  rename_i has
  split at h
  case h_2 => exact h.elim
  rename_i hcl
  have hc := of_decide_eq_true hcl
  simp only [okI, okC, Bool.and_eq_true, decide_eq_true_eq, xnxt] at ok
  obtain ⟨hd, ⟨⟨⟨⟨⟨⟨hn, rfl, hcls, ho⟩, hF, hO⟩, hdesc⟩, hl⟩, hin⟩, hini⟩, hsel⟩ := ok
  exact J_cV hn0 hsum has hc ho hF hO hdesc hcls (xck_in hin rfl) (xck_in hini rfl) (xck_in hl rfl) (xck_in hsel rfl) hpc hn hd (h.mono fun r M' q => hnx _ _ _ _ q)

theorem s_return_ {i : XMI} {ct : List XE} {K : Option XV → XM → Prop} {nx : Nat → List (Option XV) → List XV → XM → Prop} {k : Nat} {L : List (Option XV)} {st : List XV} {M : XM} {pc len : Nat} {x : XI}  (ok : okI i ct k (pc, .return_, len, x) = true) (hnx : ∀ k' L' st' M', nx k' L' st' M' → J i ct K k' L' st' M') (hpc : xpc ct k = pc) (h : sxI i K nx (.return_) x k L st M) : J i ct K k L st M := by
  simp only [okI, Bool.and_eq_true, decide_eq_true_eq, xnxt] at ok
  obtain ⟨hd, rfl⟩ := ok
  unfold sxI at h
  dsimp only at h
  split at h
  case h_2 => exact h.elim
  rename_i hr
  split at h
  case h_2 => exact h.elim
  exact J_retV hr hpc hd h

theorem s_ireturn {i : XMI} {ct : List XE} {K : Option XV → XM → Prop} {nx : Nat → List (Option XV) → List XV → XM → Prop} {k : Nat} {L : List (Option XV)} {st : List XV} {M : XM} {pc len : Nat} {x : XI}  (ok : okI i ct k (pc, .ireturn, len, x) = true) (hnx : ∀ k' L' st' M', nx k' L' st' M' → J i ct K k' L' st' M') (hpc : xpc ct k = pc) (h : sxI i K nx (.ireturn) x k L st M) : J i ct K k L st M := by
  simp only [okI, Bool.and_eq_true, decide_eq_true_eq, xnxt] at ok
  obtain ⟨hd, rfl⟩ := ok
  unfold sxI at h
  dsimp only at h
  unfold pret at h
  split at h
  case h_2 => exact h.elim
  split at h
  case h_2 => exact h.elim
  split at h
  case h_3 => exact h.elim
  · rename_i hr; exact J_retI .int hr (fun _ _ => rfl) hpc hd h
  · rename_i hr; exact J_retI .boolean hr (fun x hx => z01 x (by rw [hx]; exact h.1)) hpc hd h.2

theorem s_lreturn {i : XMI} {ct : List XE} {K : Option XV → XM → Prop} {nx : Nat → List (Option XV) → List XV → XM → Prop} {k : Nat} {L : List (Option XV)} {st : List XV} {M : XM} {pc len : Nat} {x : XI}  (ok : okI i ct k (pc, .lreturn, len, x) = true) (hnx : ∀ k' L' st' M', nx k' L' st' M' → J i ct K k' L' st' M') (hpc : xpc ct k = pc) (h : sxI i K nx (.lreturn) x k L st M) : J i ct K k L st M := by
  simp only [okI, Bool.and_eq_true, decide_eq_true_eq, xnxt] at ok
  obtain ⟨hd, rfl⟩ := ok
  unfold sxI at h
  dsimp only at h
  unfold pret at h
  split at h
  case h_2 => exact h.elim
  split at h
  case h_2 => exact h.elim
  split at h
  case h_2 => exact h.elim
  rename_i hr
  exact J_retL hr hpc hd h

theorem s_areturn {i : XMI} {ct : List XE} {K : Option XV → XM → Prop} {nx : Nat → List (Option XV) → List XV → XM → Prop} {k : Nat} {L : List (Option XV)} {st : List XV} {M : XM} {pc len : Nat} {x : XI}  (ok : okI i ct k (pc, .areturn, len, x) = true) (hnx : ∀ k' L' st' M', nx k' L' st' M' → J i ct K k' L' st' M') (hpc : xpc ct k = pc) (h : sxI i K nx (.areturn) x k L st M) : J i ct K k L st M := by
  simp only [okI, Bool.and_eq_true, decide_eq_true_eq, xnxt] at ok
  obtain ⟨hd, rfl⟩ := ok
  unfold sxI at h
  dsimp only at h
  unfold pret at h
  split at h
  case h_2 => exact h.elim
  split at h
  case h_2 => exact h.elim
  split at h
  case h_2 => exact h.elim
  rename_i hr
  exact J_retA hr hpc hd h

theorem sxI_ok {i : XMI} {ct : List XE} {K : Option XV → XM → Prop} {nx : Nat → List (Option XV) → List XV → XM → Prop} {k : Nat} {L : List (Option XV)} {st : List XV} {M : XM} {e : XE} (hok : okAll i ct 0 ct = true) (he : ct[k]? = some e) (hnx : ∀ k' L' st' M', nx k' L' st' M' → J i ct K k' L' st' M') (h : sxI i K nx e.2.1 e.2.2.2 k L st M) : J i ct K k L st M := by
  have ok := okAll_at ct 0 k e hok he
  rw [Nat.zero_add] at ok
  have hpc : xpc ct k = e.1 := by unfold xpc; rw [he]
  obtain ⟨pc, ins, len, x⟩ := e
  dsimp only at h hpc
  cases ins with
  | iconst n => exact s_iconst ok hnx hpc h
  | bipush n => exact s_bipush ok hnx hpc h
  | sipush n => exact s_sipush ok hnx hpc h
  | lconst n => exact s_lconst ok hnx hpc h
  | ldc n => exact s_ldc ok hnx hpc h
  | ldc_w n => exact s_ldc_w ok hnx hpc h
  | ldc2_w n => exact s_ldc2_w ok hnx hpc h
  | iload n => exact s_iload ok hnx hpc h
  | iload_n n => exact s_iload_n ok hnx hpc h
  | lload n => exact s_lload ok hnx hpc h
  | lload_n n => exact s_lload_n ok hnx hpc h
  | aload n => exact s_aload ok hnx hpc h
  | aload_n n => exact s_aload_n ok hnx hpc h
  | istore n => exact s_istore ok hnx hpc h
  | istore_n n => exact s_istore_n ok hnx hpc h
  | lstore n => exact s_lstore ok hnx hpc h
  | lstore_n n => exact s_lstore_n ok hnx hpc h
  | iinc n d => exact s_iinc ok hnx hpc h
  | iadd => exact s_iadd ok hnx hpc h
  | isub => exact s_isub ok hnx hpc h
  | imul => exact s_imul ok hnx hpc h
  | idiv => exact s_idiv ok hnx hpc h
  | irem => exact s_irem ok hnx hpc h
  | iand => exact s_iand ok hnx hpc h
  | ior => exact s_ior ok hnx hpc h
  | ixor => exact s_ixor ok hnx hpc h
  | ishl => exact s_ishl ok hnx hpc h
  | ishr => exact s_ishr ok hnx hpc h
  | iushr => exact s_iushr ok hnx hpc h
  | ladd => exact s_ladd ok hnx hpc h
  | lsub => exact s_lsub ok hnx hpc h
  | lmul => exact s_lmul ok hnx hpc h
  | ldiv => exact s_ldiv ok hnx hpc h
  | lrem => exact s_lrem ok hnx hpc h
  | land => exact s_land ok hnx hpc h
  | lor => exact s_lor ok hnx hpc h
  | lxor => exact s_lxor ok hnx hpc h
  | lshl => exact s_lshl ok hnx hpc h
  | lushr => exact s_lushr ok hnx hpc h
  | lcmp => exact s_lcmp ok hnx hpc h
  | i2l => exact s_i2l ok hnx hpc h
  | l2i => exact s_l2i ok hnx hpc h
  | i2b => exact s_i2b ok hnx hpc h
  | i2s => exact s_i2s ok hnx hpc h
  | dup => exact s_dup ok hnx hpc h
  | dup2 => exact s_dup2 ok hnx hpc h
  | goto o => exact s_goto ok hnx hpc h
  | ifCond c o => exact s_ifCond ok hnx hpc h
  | if_icmp c o => exact s_if_icmp ok hnx hpc h
  | tableswitch a b c d => exact s_tableswitch ok hnx hpc h
  | getfield n => exact s_getfield ok hnx hpc h
  | putfield n => exact s_putfield ok hnx hpc h
  | iaload => exact s_iaload ok hnx hpc h
  | baload => exact s_baload ok hnx hpc h
  | laload => exact s_laload ok hnx hpc h
  | iastore => exact s_iastore ok hnx hpc h
  | bastore => exact s_bastore ok hnx hpc h
  | lastore => exact s_lastore ok hnx hpc h
  | arraylength => exact s_arraylength ok hnx hpc h
  | invokestatic n => exact s_invokestatic ok hnx hpc h
  | invokevirtual n => exact s_invokevirtual ok hnx hpc h
  | return_ => exact s_return_ ok hnx hpc h
  | ireturn => exact s_ireturn ok hnx hpc h
  | lreturn => exact s_lreturn ok hnx hpc h
  | areturn => exact s_areturn ok hnx hpc h
  | _ => exact h.elim
theorem sx_ok {i : XMI} {ct : List XE} {K : Option XV → XM → Prop} (hok : okAll i ct 0 ct = true) (cuts : List (Nat × List Bool)) : ∀ (n k : Nat) (L : List (Option XV)) (st : List XV) (M : XM), sx i ct K cuts n k L st M → J i ct K k L st M
  | 0, _, _, _, _, h => h
  | n + 1, k, L, st, M, h => by
    unfold sx at h
    split at h
    case h_2 => exact h.elim
    rename_i e he
    refine sxI_ok hok he (fun k' L' st' M' q => ?_) h
    split at q
    · exact J_weak (xmask_at _ _) q
    · exact sx_ok hok cuts n _ _ _ _ q

/-! ===== what a foot does, on the model's own row N of 71 places, nd diggers ===== -/
def nu (N : Nat → Int) (k : Nat) (v : Int) : Nat → Int := fun j => if j = k then v else N j
theorem nu_e {N : Nat → Int} {k : Nat} {v : Int} : nu N k v k = v := by simp [nu]
theorem nu_k {N : Nat → Int} {k j : Nat} {v : Int} (h : j ≠ k) : nu N k v j = N j := by simp [nu, h]
/-- bit y of a number that isn't below 0 -/
def tb (n : Int) (y : Nat) : Bool := n.toNat.testBit y
/-- bit c of a long -/
def lb (z : Int) (c : Nat) : Bool := (Int64.ofInt z).toBitVec.getLsbD c
def wc1 (N : Nat → Int) (j : Nat) : Nat → Int := if N (34 + 3 * j) = N 24 ∧ N (6 * (N (34 + 3 * j + 1)).toNat + 5) = 0 then nu N (6 * (N (34 + 3 * j + 1)).toNat + 2) (N (34 + 3 * j + 2)) else N
def wcs : Nat → (Nat → Int) → (Nat → Int)
  | 0, N => N
  | n + 1, N => wc1 (wcs n N) n
def wordsF (N : Nat → Int) : Nat → Int := wcs (N 33).toNat N
def wantF (nd : Nat) (N : Nat → Int) (d : Nat) : Int := if N (6 * d) = 2 ∧ 1 < nd then N (6 * ((d + 1) % nd) + 1) else N (6 * d + 2)
/-- the heading to b from a, both cells; -1: there -/
def headF (a b : Int) : Int := if a / 10 < b / 10 then 1 else if b / 10 < a / 10 then 3 else if a % 10 < b % 10 then 0 else if b % 10 < a % 10 then 2 else -1
/-- one on by a heading; -1: the ground ends, or a rock -/
def goF (N : Nat → Int) (c h : Int) : Int :=
  let x := c / 10 + (if h = 1 then 1 else if h = 3 then -1 else 0)
  let y := c % 10 + (if h = 0 then 1 else if h = 2 then -1 else 0)
  if 0 ≤ x ∧ x ≤ 7 ∧ 0 ≤ y ∧ y ≤ 7 ∧ tb (N (25 + x.toNat)) y.toNat = false then 10 * x + y else -1
def stepF (N : Nat → Int) (d : Nat) : Nat → Int :=
  if 0 ≤ goF N (N (6 * d + 1)) (N (6 * d + 3)) then nu N (6 * d + 1) (goF N (N (6 * d + 1)) (N (6 * d + 3))) else nu N (6 * d + 3) ((N (6 * d + 3) + 1) % 4)
/-- a digger who isn't up and has faith -/
def dig1 (nd : Nat) (N : Nat → Int) (d : Nat) : Nat → Int :=
  let N1 := nu N (6 * d + 4) (N (6 * d + 4) - 1)
  if N (6 * d) = 3 then stepF N1 d
  else if headF (N (6 * d + 1)) (wantF nd N d) < 0 then
    if N (6 * d) = 2 then stepF N1 d else nu N1 (6 * d + 5) 1
  else stepF (nu N1 (6 * d + 3) (if N (6 * d) = 1 then (headF (N (6 * d + 1)) (wantF nd N d) + 1) % 4 else headF (N (6 * d + 1)) (wantF nd N d))) d
/-- those of who -/
def digs (nd : Nat) (who : Nat → Bool) : Nat → (Nat → Int) → (Nat → Int)
  | 0, N => N
  | d + 1, N => if who d = true ∧ digs nd who d N (6 * d + 5) = 0 ∧ 0 < digs nd who d N (6 * d + 4) then dig1 nd (digs nd who d N) d else digs nd who d N
def footW (nd : Nat) (who : Nat → Bool) (N : Nat → Int) : Nat → Int :=
  nu (digs nd who nd (wordsF N)) 24 (if digs nd who nd (wordsF N) 24 < 999 then digs nd who nd (wordsF N) 24 + 1 else digs nd who nd (wordsF N) 24)
def feetW (nd : Nat) (who : Nat → Bool) : Nat → (Nat → Int) → (Nat → Int)
  | 0, N => N
  | n + 1, N => footW nd who (feetW nd who n N)
/-! what holds of N -/
def okD (N : Nat → Int) (d : Nat) : Prop := (0 ≤ N (6 * d) ∧ N (6 * d) < 4) ∧ isC (N (6 * d + 1)) ∧ isC (N (6 * d + 2)) ∧ (0 ≤ N (6 * d + 3) ∧ N (6 * d + 3) < 4) ∧ (0 ≤ N (6 * d + 4) ∧ N (6 * d + 4) ≤ 40) ∧ (N (6 * d + 5) = 0 ∨ N (6 * d + 5) = 1)
def okN (nd : Nat) (N : Nat → Int) : Prop := nd ≤ 4 ∧ (∀ d, d < nd → okD N d) ∧ (0 ≤ N 24 ∧ N 24 ≤ 999) ∧ (∀ x, x < 8 → 0 ≤ N (25 + x) ∧ N (25 + x) < 256) ∧
  (0 ≤ N 33 ∧ N 33 ≤ 6) ∧ (∀ j : Nat, (j : Int) < N 33 → (0 ≤ N (34 + 3 * j) ∧ N (34 + 3 * j) ≤ 20) ∧ (0 ≤ N (34 + 3 * j + 1) ∧ N (34 + 3 * j + 1) < nd) ∧ isC (N (34 + 3 * j + 2))) ∧
  (0 ≤ N 52 ∧ N 52 ≤ 6) ∧ (∀ j : Nat, (j : Int) < N 52 → (0 ≤ N (53 + 3 * j) ∧ N (53 + 3 * j) < nd) ∧ (0 ≤ N (53 + 3 * j + 1) ∧ N (53 + 3 * j + 1) ≤ 20) ∧ isC (N (53 + 3 * j + 2)))
/-- a change within the diggers' places -/
theorem okN_nu {nd : Nat} {N : Nat → Int} (h : okN nd N) {d f : Nat} {v : Int} (hd : d < 4) (hf : f < 6) (hv : d < nd → okD (nu N (6 * d + f) v) d) : okN nd (nu N (6 * d + f) v) := by
  obtain ⟨h1, h2, h3, h4, h5, h6, h7, h8⟩ := h
  refine ⟨h1, fun e he => ?_, ?_, fun x hx => ?_, ?_, fun j hj => ?_, ?_, fun j hj => ?_⟩
  · by_cases hq : e = d
    · subst hq
      exact hv he
    · have h9 := h2 e he
      unfold okD at h9 ⊢
      rw [nu_k (by omega), nu_k (by omega), nu_k (by omega), nu_k (by omega), nu_k (by omega), nu_k (by omega)]
      exact h9
  · rw [nu_k (by omega)]; exact h3
  · rw [nu_k (by omega)]; exact h4 x hx
  · rw [nu_k (by omega)]; exact h5
  · rw [nu_k (by omega)] at hj
    rw [nu_k (by omega), nu_k (by omega), nu_k (by omega)]
    exact h6 j hj
  · rw [nu_k (by omega)]; exact h7
  · rw [nu_k (by omega)] at hj
    rw [nu_k (by omega), nu_k (by omega), nu_k (by omega)]
    exact h8 j hj
theorem okD_nu {N : Nat → Int} {d f : Nat} {v : Int} (h : okD N d) (hf : f < 6) (hv : (f = 0 → 0 ≤ v ∧ v < 4) ∧ (f = 1 → isC v) ∧ (f = 2 → isC v) ∧ (f = 3 → 0 ≤ v ∧ v < 4) ∧ (f = 4 → 0 ≤ v ∧ v ≤ 40) ∧ (f = 5 → v = 0 ∨ v = 1)) : okD (nu N (6 * d + f) v) d := by
  obtain ⟨h0, h1, h2, h3, h4, h5⟩ := h
  obtain ⟨v0, v1, v2, v3, v4, v5⟩ := hv
  unfold okD nu
  have e : f = 0 ∨ f = 1 ∨ f = 2 ∨ f = 3 ∨ f = 4 ∨ f = 5 := by omega
  rcases e with rfl | rfl | rfl | rfl | rfl | rfl
  · simpa [h1, h2, h3, h4, h5] using v0 rfl
  · simpa [h0, h2, h3, h4, h5] using v1 rfl
  · simpa [h0, h1, h3, h4, h5] using v2 rfl
  · simpa [h0, h1, h2, h4, h5] using v3 rfl
  · simpa [h0, h1, h2, h3, h5] using v4 rfl
  · simpa [h0, h1, h2, h3, h4] using v5 rfl
theorem okN_f {nd : Nat} {N : Nat → Int} (h : okN nd N) {d f : Nat} {v : Int} (hd : d < 4) (hf : f < 6) (hv : (f = 0 → 0 ≤ v ∧ v < 4) ∧ (f = 1 → isC v) ∧ (f = 2 → isC v) ∧ (f = 3 → 0 ≤ v ∧ v < 4) ∧ (f = 4 → 0 ≤ v ∧ v ≤ 40) ∧ (f = 5 → v = 0 ∨ v = 1)) : okN nd (nu N (6 * d + f) v) :=
  okN_nu h hd hf (fun hdn => okD_nu (h.2.1 d hdn) hf hv)
/-! the class's ground and the row -/
def upm (nd : Nat) (N : Nat → Int) : Int := (if 0 < nd then N 5 else 0) + (if 1 < nd then 2 * N 11 else 0) + (if 2 < nd then 4 * N 17 else 0) + (if 3 < nd then 8 * N 23 else 0)
def RG (M : XM) (i : Fin 5) (nd : Nat) (N : Nat → Int) : Prop :=
  M 1 i 0 = nd ∧ M 1 i 6 = upm nd N ∧ M 1 i 8 = N 24 ∧ M 1 i 9 = N 33 ∧ M 1 i 13 = N 52 ∧
  (∀ d, d < nd → M 2 i d = N (6 * d) ∧ M 3 i d = nc (N (6 * d + 1)) ∧ M 4 i d = nc (N (6 * d + 2)) ∧ M 5 i d = N (6 * d + 3) ∧ M 6 i d = N (6 * d + 4)) ∧
  (∀ x y, x < 8 → y < 8 → lb (M 1 i 7) (8 * x + y) = tb (N (25 + x)) y) ∧
  (∀ j : Nat, (j : Int) < N 33 → M 7 i j = N (34 + 3 * j) ∧ M 8 i j = N (34 + 3 * j + 1) ∧ M 9 i j = nc (N (34 + 3 * j + 2))) ∧
  (∀ j : Nat, (j : Int) < N 52 → M 10 i j = N (53 + 3 * j) ∧ M 11 i j = N (53 + 3 * j + 1) ∧ M 12 i j = nc (N (53 + 3 * j + 2)))
def frG (i : Fin 5) (M M' : XM) : Prop := ∀ (t : Nat) (j : Fin 5), ¬ (1 ≤ t ∧ t ≤ 12 ∧ j = i) → M' t j = M t j
theorem frG_rf {i : Fin 5} {M : XM} : frG i M M := fun _ _ _ => rfl
theorem frG_up {i : Fin 5} {M M' : XM} (h : frG i M M') {t k : Nat} {v : Int} (h1 : 1 ≤ t) (h2 : t ≤ 12) : frG i M (xup M' t i k v) := by
  intro t' j hn
  by_cases ht : t' = t
  · subst ht
    rw [xup_i (fun q => hn ⟨h1, h2, q⟩)]
    exact h _ _ hn
  · rw [xup_t ht]
    exact h _ _ hn
theorem frG_tr {i : Fin 5} {M M' M'' : XM} (h : frG i M M') (h' : frG i M' M'') : frG i M M'' := fun t j hn => (h' t j hn).trans (h t j hn)
theorem upm_nu {nd : Nat} {N : Nat → Int} {d f : Nat} {v : Int} (hf : f < 5) : upm nd (nu N (6 * d + f) v) = upm nd N := by
  unfold upm
  rw [nu_k (by omega), nu_k (by omega), nu_k (by omega), nu_k (by omega)]
theorem upm_rng {nd : Nat} {N : Nat → Int} (h : okN nd N) : 0 ≤ upm nd N ∧ upm nd N < 16 := by
  have h0 := h.2.1 0
  have h1 := h.2.1 1
  have h2 := h.2.1 2
  have h3 := h.2.1 3
  unfold okD at h0 h1 h2 h3
  simp only [Nat.reduceMul, Nat.reduceAdd] at h0 h1 h2 h3
  unfold upm
  constructor <;> ((repeat' split) <;> omega)
theorem upm_bit {nd : Nat} {N : Nat → Int} (h : okN nd N) {d : Nat} (hd : d < nd) : upm nd N / 2 ^ d % 2 = N (6 * d + 5) := by
  have h0 := h.2.1 0
  have h1 := h.2.1 1
  have h2 := h.2.1 2
  have h3 := h.2.1 3
  have h4 := h.1
  unfold okD at h0 h1 h2 h3
  simp only [Nat.reduceMul, Nat.reduceAdd] at h0 h1 h2 h3
  have e : d = 0 ∨ d = 1 ∨ d = 2 ∨ d = 3 := by omega
  unfold upm
  rcases e with rfl | rfl | rfl | rfl <;> simp only [Nat.reduceMul, Nat.reduceAdd, Int.reducePow] <;> ((repeat' split) <;> omega)
theorem upm_set {nd : Nat} {N : Nat → Int} (h : okN nd N) {d : Nat} (hd : d < nd) (h5 : N (6 * d + 5) = 0) : upm nd (nu N (6 * d + 5) 1) = upm nd N + 2 ^ d := by
  have h4 := h.1
  have e : d = 0 ∨ d = 1 ∨ d = 2 ∨ d = 3 := by omega
  unfold upm nu
  rcases e with rfl | rfl | rfl | rfl <;> simp at h5 ⊢ <;> ((repeat' split) <;> omega)
theorem RG_kind {M : XM} {i : Fin 5} {nd : Nat} {N : Nat → Int} (h : RG M i nd N) {e : Nat} {v : Int} (he4 : e < 4) : RG (xup M 2 i e (v)) i nd (nu N (6 * e + 0) v) := by
  have hu : upm nd (nu N (6 * e + 0) v) = upm nd N := upm_nu (by decide)
  obtain ⟨a1, a2, a3, a4, a5, a6, a7, a8, a9⟩ := h
  have he := he4
  · refine ⟨?_, ?_, ?_, ?_, ?_, fun d hd => ?_, fun x y hx hy => ?_, fun j hj => ?_, fun j hj => ?_⟩
    · rw [xup_t (by decide)]; exact a1
    · rw [xup_t (by decide), hu]; exact a2
    · rw [xup_t (by decide), nu_k (by omega)]; exact a3
    · rw [xup_t (by decide), nu_k (by omega)]; exact a4
    · rw [xup_t (by decide), nu_k (by omega)]; exact a5
    · obtain ⟨b0, b1, b2, b3, b4⟩ := a6 d hd
      refine ⟨?_, ?_, ?_, ?_, ?_⟩
      · by_cases hq : d = e
        · subst hq
          rw [xup_e]; exact (nu_e (k := 6 * d)).symm
        · rw [xup_k hq, nu_k (by omega)]
          exact b0
      · rw [xup_t (by decide), nu_k (by omega)]
        exact b1
      · rw [xup_t (by decide), nu_k (by omega)]
        exact b2
      · rw [xup_t (by decide), nu_k (by omega)]
        exact b3
      · rw [xup_t (by decide), nu_k (by omega)]
        exact b4
    · rw [xup_t (by decide), nu_k (by omega)]
      exact a7 x y hx hy
    · rw [nu_k (by omega)] at hj
      rw [xup_t (by decide), xup_t (by decide), xup_t (by decide), nu_k (by omega), nu_k (by omega), nu_k (by omega)]
      exact a8 j hj
    · rw [nu_k (by omega)] at hj
      rw [xup_t (by decide), xup_t (by decide), xup_t (by decide), nu_k (by omega), nu_k (by omega), nu_k (by omega)]
      exact a9 j hj
theorem RG_at {M : XM} {i : Fin 5} {nd : Nat} {N : Nat → Int} (h : RG M i nd N) {e : Nat} {v : Int} (he4 : e < 4) : RG (xup M 3 i e (nc v)) i nd (nu N (6 * e + 1) v) := by
  have hu : upm nd (nu N (6 * e + 1) v) = upm nd N := upm_nu (by decide)
  obtain ⟨a1, a2, a3, a4, a5, a6, a7, a8, a9⟩ := h
  have he := he4
  · refine ⟨?_, ?_, ?_, ?_, ?_, fun d hd => ?_, fun x y hx hy => ?_, fun j hj => ?_, fun j hj => ?_⟩
    · rw [xup_t (by decide)]; exact a1
    · rw [xup_t (by decide), hu]; exact a2
    · rw [xup_t (by decide), nu_k (by omega)]; exact a3
    · rw [xup_t (by decide), nu_k (by omega)]; exact a4
    · rw [xup_t (by decide), nu_k (by omega)]; exact a5
    · obtain ⟨b0, b1, b2, b3, b4⟩ := a6 d hd
      refine ⟨?_, ?_, ?_, ?_, ?_⟩
      · rw [xup_t (by decide), nu_k (by omega)]
        exact b0
      · by_cases hq : d = e
        · subst hq
          rw [xup_e, nu_e]
        · rw [xup_k hq, nu_k (by omega)]
          exact b1
      · rw [xup_t (by decide), nu_k (by omega)]
        exact b2
      · rw [xup_t (by decide), nu_k (by omega)]
        exact b3
      · rw [xup_t (by decide), nu_k (by omega)]
        exact b4
    · rw [xup_t (by decide), nu_k (by omega)]
      exact a7 x y hx hy
    · rw [nu_k (by omega)] at hj
      rw [xup_t (by decide), xup_t (by decide), xup_t (by decide), nu_k (by omega), nu_k (by omega), nu_k (by omega)]
      exact a8 j hj
    · rw [nu_k (by omega)] at hj
      rw [xup_t (by decide), xup_t (by decide), xup_t (by decide), nu_k (by omega), nu_k (by omega), nu_k (by omega)]
      exact a9 j hj
theorem RG_aim {M : XM} {i : Fin 5} {nd : Nat} {N : Nat → Int} (h : RG M i nd N) {e : Nat} {v : Int} (he4 : e < 4) : RG (xup M 4 i e (nc v)) i nd (nu N (6 * e + 2) v) := by
  have hu : upm nd (nu N (6 * e + 2) v) = upm nd N := upm_nu (by decide)
  obtain ⟨a1, a2, a3, a4, a5, a6, a7, a8, a9⟩ := h
  have he := he4
  · refine ⟨?_, ?_, ?_, ?_, ?_, fun d hd => ?_, fun x y hx hy => ?_, fun j hj => ?_, fun j hj => ?_⟩
    · rw [xup_t (by decide)]; exact a1
    · rw [xup_t (by decide), hu]; exact a2
    · rw [xup_t (by decide), nu_k (by omega)]; exact a3
    · rw [xup_t (by decide), nu_k (by omega)]; exact a4
    · rw [xup_t (by decide), nu_k (by omega)]; exact a5
    · obtain ⟨b0, b1, b2, b3, b4⟩ := a6 d hd
      refine ⟨?_, ?_, ?_, ?_, ?_⟩
      · rw [xup_t (by decide), nu_k (by omega)]
        exact b0
      · rw [xup_t (by decide), nu_k (by omega)]
        exact b1
      · by_cases hq : d = e
        · subst hq
          rw [xup_e, nu_e]
        · rw [xup_k hq, nu_k (by omega)]
          exact b2
      · rw [xup_t (by decide), nu_k (by omega)]
        exact b3
      · rw [xup_t (by decide), nu_k (by omega)]
        exact b4
    · rw [xup_t (by decide), nu_k (by omega)]
      exact a7 x y hx hy
    · rw [nu_k (by omega)] at hj
      rw [xup_t (by decide), xup_t (by decide), xup_t (by decide), nu_k (by omega), nu_k (by omega), nu_k (by omega)]
      exact a8 j hj
    · rw [nu_k (by omega)] at hj
      rw [xup_t (by decide), xup_t (by decide), xup_t (by decide), nu_k (by omega), nu_k (by omega), nu_k (by omega)]
      exact a9 j hj
theorem RG_head {M : XM} {i : Fin 5} {nd : Nat} {N : Nat → Int} (h : RG M i nd N) {e : Nat} {v : Int} (he4 : e < 4) : RG (xup M 5 i e (v)) i nd (nu N (6 * e + 3) v) := by
  have hu : upm nd (nu N (6 * e + 3) v) = upm nd N := upm_nu (by decide)
  obtain ⟨a1, a2, a3, a4, a5, a6, a7, a8, a9⟩ := h
  have he := he4
  · refine ⟨?_, ?_, ?_, ?_, ?_, fun d hd => ?_, fun x y hx hy => ?_, fun j hj => ?_, fun j hj => ?_⟩
    · rw [xup_t (by decide)]; exact a1
    · rw [xup_t (by decide), hu]; exact a2
    · rw [xup_t (by decide), nu_k (by omega)]; exact a3
    · rw [xup_t (by decide), nu_k (by omega)]; exact a4
    · rw [xup_t (by decide), nu_k (by omega)]; exact a5
    · obtain ⟨b0, b1, b2, b3, b4⟩ := a6 d hd
      refine ⟨?_, ?_, ?_, ?_, ?_⟩
      · rw [xup_t (by decide), nu_k (by omega)]
        exact b0
      · rw [xup_t (by decide), nu_k (by omega)]
        exact b1
      · rw [xup_t (by decide), nu_k (by omega)]
        exact b2
      · by_cases hq : d = e
        · subst hq
          rw [xup_e, nu_e]
        · rw [xup_k hq, nu_k (by omega)]
          exact b3
      · rw [xup_t (by decide), nu_k (by omega)]
        exact b4
    · rw [xup_t (by decide), nu_k (by omega)]
      exact a7 x y hx hy
    · rw [nu_k (by omega)] at hj
      rw [xup_t (by decide), xup_t (by decide), xup_t (by decide), nu_k (by omega), nu_k (by omega), nu_k (by omega)]
      exact a8 j hj
    · rw [nu_k (by omega)] at hj
      rw [xup_t (by decide), xup_t (by decide), xup_t (by decide), nu_k (by omega), nu_k (by omega), nu_k (by omega)]
      exact a9 j hj
theorem RG_faith {M : XM} {i : Fin 5} {nd : Nat} {N : Nat → Int} (h : RG M i nd N) {e : Nat} {v : Int} (he4 : e < 4) : RG (xup M 6 i e (v)) i nd (nu N (6 * e + 4) v) := by
  have hu : upm nd (nu N (6 * e + 4) v) = upm nd N := upm_nu (by decide)
  obtain ⟨a1, a2, a3, a4, a5, a6, a7, a8, a9⟩ := h
  have he := he4
  · refine ⟨?_, ?_, ?_, ?_, ?_, fun d hd => ?_, fun x y hx hy => ?_, fun j hj => ?_, fun j hj => ?_⟩
    · rw [xup_t (by decide)]; exact a1
    · rw [xup_t (by decide), hu]; exact a2
    · rw [xup_t (by decide), nu_k (by omega)]; exact a3
    · rw [xup_t (by decide), nu_k (by omega)]; exact a4
    · rw [xup_t (by decide), nu_k (by omega)]; exact a5
    · obtain ⟨b0, b1, b2, b3, b4⟩ := a6 d hd
      refine ⟨?_, ?_, ?_, ?_, ?_⟩
      · rw [xup_t (by decide), nu_k (by omega)]
        exact b0
      · rw [xup_t (by decide), nu_k (by omega)]
        exact b1
      · rw [xup_t (by decide), nu_k (by omega)]
        exact b2
      · rw [xup_t (by decide), nu_k (by omega)]
        exact b3
      · by_cases hq : d = e
        · subst hq
          rw [xup_e, nu_e]
        · rw [xup_k hq, nu_k (by omega)]
          exact b4
    · rw [xup_t (by decide), nu_k (by omega)]
      exact a7 x y hx hy
    · rw [nu_k (by omega)] at hj
      rw [xup_t (by decide), xup_t (by decide), xup_t (by decide), nu_k (by omega), nu_k (by omega), nu_k (by omega)]
      exact a8 j hj
    · rw [nu_k (by omega)] at hj
      rw [xup_t (by decide), xup_t (by decide), xup_t (by decide), nu_k (by omega), nu_k (by omega), nu_k (by omega)]
      exact a9 j hj
theorem RG_up {M : XM} {i : Fin 5} {nd : Nat} {N : Nat → Int} (h : RG M i nd N) {e : Nat} {v : Int} (he : e < 4) : RG (xup M 1 i 6 (upm nd (nu N (6 * e + 5) v))) i nd (nu N (6 * e + 5) v) := by
  obtain ⟨a1, a2, a3, a4, a5, a6, a7, a8, a9⟩ := h
  refine ⟨?_, ?_, ?_, ?_, ?_, fun d hd => ?_, fun x y hx hy => ?_, fun j hj => ?_, fun j hj => ?_⟩
  · rw [xup_k (by decide)]; exact a1
  · rw [xup_e]
  · rw [xup_k (by decide), nu_k (by omega)]; exact a3
  · rw [xup_k (by decide), nu_k (by omega)]; exact a4
  · rw [xup_k (by decide), nu_k (by omega)]; exact a5
  · rw [xup_t (by decide), xup_t (by decide), xup_t (by decide), xup_t (by decide), xup_t (by decide), nu_k (by omega), nu_k (by omega), nu_k (by omega), nu_k (by omega), nu_k (by omega)]
    exact a6 d hd
  · rw [xup_k (by decide), nu_k (by omega)]
    exact a7 x y hx hy
  · rw [nu_k (by omega)] at hj
    rw [xup_t (by decide), xup_t (by decide), xup_t (by decide), nu_k (by omega), nu_k (by omega), nu_k (by omega)]
    exact a8 j hj
  · rw [nu_k (by omega)] at hj
    rw [xup_t (by decide), xup_t (by decide), xup_t (by decide), nu_k (by omega), nu_k (by omega), nu_k (by omega)]
    exact a9 j hj
theorem RG_foot {M : XM} {i : Fin 5} {nd : Nat} {N : Nat → Int} (h : RG M i nd N) (h4 : nd ≤ 4) {v : Int} : RG (xup M 1 i 8 v) i nd (nu N 24 v) := by
  obtain ⟨a1, a2, a3, a4, a5, a6, a7, a8, a9⟩ := h
  refine ⟨?_, ?_, ?_, ?_, ?_, fun d hd => ?_, fun x y hx hy => ?_, fun j hj => ?_, fun j hj => ?_⟩
  · rw [xup_k (by decide)]; exact a1
  · rw [xup_k (by decide)]; unfold upm; rw [nu_k (by decide), nu_k (by decide), nu_k (by decide), nu_k (by decide)]; exact a2
  · rw [xup_e, nu_e]
  · rw [xup_k (by decide), nu_k (by decide)]; exact a4
  · rw [xup_k (by decide), nu_k (by decide)]; exact a5
  · rw [xup_t (by decide), xup_t (by decide), xup_t (by decide), xup_t (by decide), xup_t (by decide), nu_k (by omega), nu_k (by omega), nu_k (by omega), nu_k (by omega), nu_k (by omega)]
    exact a6 d hd
  · rw [xup_k (by decide), nu_k (by omega)]
    exact a7 x y hx hy
  · rw [nu_k (by decide)] at hj
    rw [xup_t (by decide), xup_t (by decide), xup_t (by decide), nu_k (by omega), nu_k (by omega), nu_k (by omega)]
    exact a8 j hj
  · rw [nu_k (by decide)] at hj
    rw [xup_t (by decide), xup_t (by decide), xup_t (by decide), nu_k (by omega), nu_k (by omega), nu_k (by omega)]
    exact a9 j hj

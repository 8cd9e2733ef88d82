/-! ===== only those who bear on him need to move ===== -/
def agS (d : Nat) (N N' : Nat → Int) : Prop := (∀ f, f < 6 → N' (6 * d + f) = N (6 * d + f)) ∧ (∀ x, x < 8 → N' (25 + x) = N (25 + x))
theorem agS_nu {d f : Nat} {N N' : Nat → Int} {v : Int} (h : agS d N N') (hd : d < 4) (hf : f < 6) : agS d (nu N (6 * d + f) v) (nu N' (6 * d + f) v) := by
  refine ⟨fun g hg => ?_, fun x hx => ?_⟩
  · unfold nu
    split
    · rfl
    · exact h.1 g hg
  · rw [nu_k (by omega), nu_k (by omega)]
    exact h.2 x hx
theorem goF_cg {N N' : Nat → Int} {c q : Int} (h : ∀ x, x < 8 → N' (25 + x) = N (25 + x)) : goF N' c q = goF N c q := by
  unfold goF
  dsimp only
  generalize c / 10 + (if q = 1 then 1 else if q = 3 then -1 else 0) = X
  generalize c % 10 + (if q = 0 then 1 else if q = 2 then -1 else 0) = Y
  by_cases hX : 0 ≤ X ∧ X ≤ 7
  · rw [h X.toNat (by omega)]
  · rw [if_neg (fun q => hX ⟨q.1, q.2.1⟩), if_neg (fun q => hX ⟨q.1, q.2.1⟩)]
theorem agS_step {d : Nat} {N N' : Nat → Int} (h : agS d N N') (hd : d < 4) : agS d (stepF N d) (stepF N' d) := by
  unfold stepF
  rw [goF_cg h.2, h.1 1 (by decide), h.1 3 (by decide)]
  split
  · exact agS_nu h hd (by decide)
  · exact agS_nu h hd (by decide)
theorem agS_turn {nd d : Nat} {N N' : Nat → Int} (h : agS d N N') (hd : d < 4) (hw : wantF nd N' d = wantF nd N d) : agS d (turnF nd N d) (turnF nd N' d) := by
  have h0 : N' (6 * d) = N (6 * d) := h.1 0 (by decide)
  unfold turnF
  rw [hw, h.1 1 (by decide), h0]
  split
  · split
    · exact agS_step h hd
    · exact agS_nu h hd (by decide)
  · exact agS_step (agS_nu h hd (by decide)) hd
theorem want_nu {nd d : Nat} {N : Nat → Int} {v : Int} (hd : d < nd) : wantF nd (nu N (6 * d + 4) v) d = wantF nd N d := by
  unfold wantF
  rw [nu_k (by omega), nu_k (by omega), nu_k (by omega)]
theorem agS_dig {nd d : Nat} {N N' : Nat → Int} (h : agS d N N') (hd : d < nd) (h4 : nd ≤ 4) (hw : wantF nd N' d = wantF nd N d) : agS d (dig1 nd N d) (dig1 nd N' d) := by
  have h0 : N' (6 * d) = N (6 * d) := h.1 0 (by decide)
  have hn : agS d (nu N (6 * d + 4) (N (6 * d + 4) - 1)) (nu N' (6 * d + 4) (N' (6 * d + 4) - 1)) := by
    rw [h.1 4 (by decide)]
    exact agS_nu h (by omega) (by decide)
  rw [dig1_eq hd, dig1_eq hd, h0]
  split
  · exact agS_step hn (by omega)
  · exact agS_turn hn (by omega) (by rw [want_nu hd, want_nu hd]; exact hw)
/-- a digger's foot touches his own places alone, and not his kind or aim -/
def own1 (d : Nat) (N N' : Nat → Int) : Prop := ∀ k, k ≠ 6 * d + 1 → k ≠ 6 * d + 3 → k ≠ 6 * d + 4 → k ≠ 6 * d + 5 → N' k = N k
theorem own_tr {d : Nat} {N N' N'' : Nat → Int} (h : own1 d N N') (h' : own1 d N' N'') : own1 d N N'' := fun k a b c e => (h' k a b c e).trans (h k a b c e)
theorem own_step {d : Nat} {N : Nat → Int} : own1 d N (stepF N d) := by
  intro k a b c e
  unfold stepF
  split
  · exact nu_k a
  · exact nu_k b
theorem own_turn {nd d : Nat} {N : Nat → Int} : own1 d N (turnF nd N d) := by
  unfold turnF
  split
  · split
    · exact own_step
    · exact fun k a b c e => nu_k e
  · exact own_tr (fun k a b c e => nu_k b) own_step
theorem own_dig {nd d : Nat} {N : Nat → Int} (hd : d < nd) : own1 d N (dig1 nd N d) := by
  rw [dig1_eq hd]
  split
  · exact own_tr (fun k a b c e => nu_k c) own_step
  · exact own_tr (fun k a b c e => nu_k c) own_turn
/-- two rows agree on those of who, on all kinds, and on all that is no digger's -/
def ag (who : Nat → Bool) (nd : Nat) (N N' : Nat → Int) : Prop := (∀ e, e < nd → who e = true → ∀ f, f < 6 → N' (6 * e + f) = N (6 * e + f)) ∧ (∀ e, e < nd → N' (6 * e) = N (6 * e)) ∧ sb N N'
def clo (who : Nat → Bool) (nd : Nat) (N : Nat → Int) : Prop := ∀ e, e < nd → who e = true → N (6 * e) = 2 → 1 < nd → who ((e + 1) % nd) = true
theorem ag_rf {who : Nat → Bool} {nd : Nat} {N : Nat → Int} : ag who nd N N := ⟨fun _ _ _ _ _ => rfl, fun _ _ => rfl, fun _ _ => rfl⟩
theorem ag_wc1 {who : Nat → Bool} {nd j : Nat} {N N' : Nat → Int} (h : ag who nd N N') (h4 : nd ≤ 4) (hd : 0 ≤ N (34 + 3 * j + 1) ∧ N (34 + 3 * j + 1) < nd) : ag who nd (wc1 N j) (wc1 N' j) := by
  obtain ⟨h1, h2, h3⟩ := h
  unfold wc1
  rw [h3 (34 + 3 * j) (by omega), h3 24 (by decide), h3 (34 + 3 * j + 1) (by omega), h3 (34 + 3 * j + 2) (by omega)]
  generalize hD : (N (34 + 3 * j + 1)).toNat = D
  have hD4 : D < nd := by omega
  have key : ∀ (A A' : Nat → Int), (A = N ∨ A = nu N (6 * D + 2) (N (34 + 3 * j + 2))) → (A' = N' ∨ A' = nu N' (6 * D + 2) (N (34 + 3 * j + 2))) → (who D = true → (A = N ↔ A' = N') ∨ (∀ f, f < 6 → A' (6 * D + f) = A (6 * D + f))) → True := fun _ _ _ _ _ => trivial
  have base : ∀ (b b' : Bool), (who D = true → b = b') → ag who nd (if b then nu N (6 * D + 2) (N (34 + 3 * j + 2)) else N) (if b' then nu N' (6 * D + 2) (N (34 + 3 * j + 2)) else N') := by
    intro b b' hb
    refine ⟨fun e he hw f hf => ?_, fun e he => ?_, fun k hk => ?_⟩
    · by_cases hq : e = D
      · subst hq
        rw [← hb hw]
        cases b
        · exact h1 e he hw f hf
        · simp only [if_true]
          unfold nu
          split
          · rfl
          · exact h1 e he hw f hf
      · have n1 : 6 * e + f ≠ 6 * D + 2 := by omega
        cases b <;> cases b' <;> simp only [if_true, Bool.false_eq_true, if_false, nu_k n1] <;> exact h1 e he hw f hf
    · have n1 : 6 * e ≠ 6 * D + 2 := by omega
      cases b <;> cases b' <;> simp only [if_true, Bool.false_eq_true, if_false, nu_k n1] <;> exact h2 e he
    · have n1 : k ≠ 6 * D + 2 := by omega
      cases b <;> cases b' <;> simp only [if_true, Bool.false_eq_true, if_false, nu_k n1] <;> exact h3 k hk
  have := base (decide (N (34 + 3 * j) = N 24 ∧ N (6 * D + 5) = 0)) (decide (N (34 + 3 * j) = N 24 ∧ N' (6 * D + 5) = 0)) (fun hw => by rw [h1 D hD4 hw 5 (by decide)])
  simpa only [decide_eq_true_eq] using this
theorem ag_wcs {who : Nat → Bool} {nd : Nat} {N N' : Nat → Int} (h : ag who nd N N') (hok : okN nd N) : ∀ n : Nat, (n : Int) ≤ N 33 → ag who nd (wcs n N) (wcs n N')
  | 0, _ => h
  | n + 1, hn => by
    have ih := ag_wcs h hok n (by omega)
    obtain ⟨o1, o2⟩ := ok_wcs hok n (by omega)
    have hw := (o1.2.2.2.2.2.1 n (by rw [o2 33 (by decide)]; omega)).2.1
    exact ag_wc1 ih hok.1 hw
theorem kind_wcs {nd : Nat} {N : Nat → Int} (hok : okN nd N) : ∀ n : Nat, (n : Int) ≤ N 33 → ∀ e, wcs n N (6 * e) = N (6 * e)
  | 0, _, e => rfl
  | n + 1, hn, e => by
    have ih := kind_wcs hok n (by omega) e
    show wc1 (wcs n N) n (6 * e) = _
    unfold wc1
    split
    · rw [nu_k (by omega)]
      exact ih
    · exact ih
theorem clo_cg {who : Nat → Bool} {nd : Nat} {N N' : Nat → Int} (h : clo who nd N) (hk : ∀ e, e < nd → N' (6 * e) = N (6 * e)) : clo who nd N' := fun e he hw h2 h1 => h e he hw (by rw [← hk e he]; exact h2) h1
theorem ag_digs {who : Nat → Bool} {nd : Nat} {N N' : Nat → Int} (h4 : nd ≤ 4) (h : ag who nd N N') (hc : clo who nd N) : ∀ n, n ≤ nd → ag who nd (digs nd al n N) (digs nd who n N') ∧ (∀ e, e < nd → digs nd al n N (6 * e) = N (6 * e))
  | 0, _ => ⟨h, fun _ _ => rfl⟩
  | d + 1, hn => by
    obtain ⟨⟨i1, i2, i3⟩, ik⟩ := ag_digs h4 h hc d (by omega)
    have hd : d < nd := by omega
    unfold digs
    generalize digs nd al d N = A at i1 i2 i3 ik ⊢
    generalize digs nd who d N' = A' at i1 i2 i3 ⊢
    by_cases hw : who d = true
    · have e5 := i1 d hd hw 5 (by decide)
      have e4 := i1 d hd hw 4 (by decide)
      rw [e5, e4]
      by_cases hq : A (6 * d + 5) = 0 ∧ 0 < A (6 * d + 4)
      · rw [if_pos ⟨rfl, hq⟩, if_pos ⟨hw, hq⟩]
        have hS : agS d A A' := ⟨i1 d hd hw, fun x hx => i3 _ (by omega)⟩
        have hwant : wantF nd A' d = wantF nd A d := by
          unfold wantF
          rw [i2 d hd, i1 d hd hw 2 (by decide)]
          by_cases hl : A (6 * d) = 2 ∧ 1 < nd
          · rw [if_pos hl, if_pos hl]
            exact i1 _ (Nat.mod_lt _ (by omega)) (hc d hd hw (by rw [← ik d hd]; exact hl.1) hl.2) 1 (by decide)
          · rw [if_neg hl, if_neg hl]
        have hres := agS_dig hS hd h4 hwant
        have o1 := own_dig (N := A) hd
        have o2 := own_dig (N := A') hd
        refine ⟨⟨fun e he hwe f hf => ?_, fun e he => ?_, fun k hk => ?_⟩, fun e he => ?_⟩
        · by_cases heq : e = d
          · subst heq
            exact hres.1 f hf
          · rw [o1 _ (by omega) (by omega) (by omega) (by omega), o2 _ (by omega) (by omega) (by omega) (by omega)]
            exact i1 e he hwe f hf
        · rw [o1 _ (by omega) (by omega) (by omega) (by omega), o2 _ (by omega) (by omega) (by omega) (by omega)]
          exact i2 e he
        · rw [o1 _ (by omega) (by omega) (by omega) (by omega), o2 _ (by omega) (by omega) (by omega) (by omega)]
          exact i3 k hk
        · rw [o1 _ (by omega) (by omega) (by omega) (by omega)]
          exact ik e he
      · rw [if_neg (fun q => hq q.2), if_neg (fun q => hq q.2)]
        exact ⟨⟨i1, i2, i3⟩, ik⟩
    · rw [if_neg (fun q : who d = true ∧ _ => hw q.1)]
      split
      · have o1 := own_dig (N := A) hd
        refine ⟨⟨fun e he hwe f hf => ?_, fun e he => ?_, fun k hk => ?_⟩, fun e he => ?_⟩
        · have : e ≠ d := fun q => hw (q ▸ hwe)
          rw [o1 _ (by omega) (by omega) (by omega) (by omega)]
          exact i1 e he hwe f hf
        · rw [o1 _ (by omega) (by omega) (by omega) (by omega)]
          exact i2 e he
        · rw [o1 _ (by omega) (by omega) (by omega) (by omega)]
          exact i3 k hk
        · rw [o1 _ (by omega) (by omega) (by omega) (by omega)]
          exact ik e he
      · exact ⟨⟨i1, i2, i3⟩, ik⟩
theorem ag_foot {who : Nat → Bool} {nd : Nat} {N N' : Nat → Int} (hok : okN nd N) (h : ag who nd N N') (hc : clo who nd N) : ag who nd (footW nd al N) (footW nd who N') ∧ (∀ e, e < nd → footW nd al N (6 * e) = N (6 * e)) := by
  have h33 := hok.2.2.2.2.1
  have hn : (((N 33).toNat : Nat) : Int) ≤ N 33 := by omega
  have w1 := ag_wcs h hok (N 33).toNat hn
  have k1 := kind_wcs hok (N 33).toNat hn
  have w2 : ag who nd (wordsF N) (wordsF N') := by
    unfold wordsF
    rw [h.2.2 33 (by decide)]
    exact w1
  have k2 : ∀ e, wordsF N (6 * e) = N (6 * e) := k1
  obtain ⟨⟨a1, a2, a3⟩, a4⟩ := ag_digs hok.1 w2 (clo_cg hc (fun e _ => k2 e)) nd (Nat.le_refl _)
  have h4 := hok.1
  unfold footW
  rw [a3 24 (by decide)]
  refine ⟨⟨fun e he hw f hf => ?_, fun e he => ?_, fun k hk => ?_⟩, fun e he => ?_⟩
  · rw [nu_k (by omega), nu_k (by omega)]
    exact a1 e he hw f hf
  · rw [nu_k (by omega), nu_k (by omega)]
    exact a2 e he
  · unfold nu
    split
    · rfl
    · exact a3 k hk
  · rw [nu_k (by omega), a4 e he, k2]
theorem ag_feet {who : Nat → Bool} {nd : Nat} {N : Nat → Int} (hok : okN nd N) (hc : clo who nd N) : ∀ n, ag who nd (feetW nd al n N) (feetW nd who n N) ∧ (∀ e, e < nd → feetW nd al n N (6 * e) = N (6 * e))
  | 0 => ⟨ag_rf, fun _ _ => rfl⟩
  | n + 1 => by
    obtain ⟨i1, i2⟩ := ag_feet hok hc n
    obtain ⟨j1, j2⟩ := ag_foot (ok_feetW hok n) i1 (clo_cg hc i2)
    exact ⟨j1, fun e he => (j2 e he).trans (i2 e he)⟩

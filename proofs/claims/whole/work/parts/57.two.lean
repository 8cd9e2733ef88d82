/-! ===== two words: what a first word may leave ===== -/
theorem nu_cm {N : Nat → Int} {j k : Nat} {u v : Int} (h : j ≠ k) : nu (nu N j u) k v = nu (nu N k v) j u := by
  funext i
  unfold nu
  by_cases a : i = j
  · subst a; simp [h]
  · by_cases b : i = k
    · simp [b]
      intro q; exact absurd (b ▸ q ▸ b) (fun _ => h q.symm)
    · simp [a, b]
theorem nu_nu {N : Nat → Int} {k : Nat} {u v : Int} : nu (nu N k u) k v = nu N k v := by
  funext i
  unfold nu
  by_cases a : i = k <;> simp [a]
/-! faith -/
theorem step_4 {N : Nat → Int} {d : Nat} : stepF N d (6 * d + 4) = N (6 * d + 4) := by
  unfold stepF
  split <;> rw [nu_k (by omega)]
theorem dig_4 {nd d : Nat} {N : Nat → Int} : dig1 nd N d (6 * d + 4) = N (6 * d + 4) - 1 := by
  unfold dig1
  split
  · rw [step_4, nu_e]
  · split
    · split
      · rw [step_4, nu_e]
      · rw [nu_k (by omega), nu_e]
    · rw [step_4, nu_k (by omega), nu_e]
theorem fth_foot {nd d : Nat} {N : Nat → Int} (hok : okN nd N) (hd : d < nd) (hr : N (6 * d + 5) = 0 ∧ 0 < N (6 * d + 4)) : footW nd al N (6 * d + 4) = N (6 * d + 4) - 1 := by
  have h33 := hok.2.2.2.2.1
  have h4 := hok.1
  have hw : ∀ f, f < 6 → f ≠ 2 → wordsF N (6 * d + f) = N (6 * d + f) := fun f hf h2 => wcs_f hok hf h2 _ (by omega)
  have lo : ∀ n, n ≤ d → ∀ f, f < 6 → f ≠ 2 → digs nd al n (wordsF N) (6 * d + f) = N (6 * d + f) := by
    intro n
    induction n with
    | zero => exact fun _ f hf h2 => hw f hf h2
    | succ n ih =>
      intro hn f hf h2
      have i := ih (by omega)
      unfold digs
      split
      · rw [own_dig (show n < nd by omega) _ (by omega) (by omega) (by omega) (by omega)]
        exact i f hf h2
      · exact i f hf h2
  have hi : ∀ m, d + 1 + m ≤ nd → digs nd al (d + 1 + m) (wordsF N) (6 * d + 4) = N (6 * d + 4) - 1 := by
    intro m
    induction m with
    | zero =>
      intro _
      have l := lo d (Nat.le_refl _)
      show (if al d = true ∧ digs nd al d (wordsF N) (6 * d + 5) = 0 ∧ 0 < digs nd al d (wordsF N) (6 * d + 4) then dig1 nd (digs nd al d (wordsF N)) d else digs nd al d (wordsF N)) (6 * d + 4) = _
      rw [if_pos ⟨rfl, by rw [l 5 (by decide) (by decide), l 4 (by decide) (by decide)]; exact hr⟩, dig_4, l 4 (by decide) (by decide)]
    | succ m ih =>
      intro hm
      have i := ih (by omega)
      show (if al (d + 1 + m) = true ∧ digs nd al (d + 1 + m) (wordsF N) (6 * (d + 1 + m) + 5) = 0 ∧ 0 < digs nd al (d + 1 + m) (wordsF N) (6 * (d + 1 + m) + 4) then dig1 nd (digs nd al (d + 1 + m) (wordsF N)) (d + 1 + m) else digs nd al (d + 1 + m) (wordsF N)) (6 * d + 4) = _
      split
      · rw [own_dig (show d + 1 + m < nd by omega) _ (by omega) (by omega) (by omega) (by omega)]
        exact i
      · exact i
  unfold footW
  rw [nu_k (by omega)]
  have := hi (nd - (d + 1)) (by omega)
  rw [show d + 1 + (nd - (d + 1)) = nd by omega] at this
  exact this
def lv (d : Nat) (X : Nat → Int) : Prop := X (6 * d + 5) = 0 ∧ 0 < X (6 * d + 4)
theorem lv_back {nd d : Nat} {N : Nat → Int} (hok : okN nd N) (hd : d < nd) (h : lv d (footW nd al N)) : lv d N := by
  by_cases q : lv d N
  · exact q
  · unfold lv at h q ⊢
    rw [rest_foot (f := 5) hok hd q (by decide) (by decide), rest_foot (f := 4) hok hd q (by decide) (by decide)] at h
    exact absurd h q
theorem fth_k {nd d : Nat} {N : Nat → Int} (hok : okN nd N) (hd : d < nd) : ∀ k, lv d (feetW nd al k N) → feetW nd al k N (6 * d + 4) = N (6 * d + 4) - k
  | 0, _ => by show N (6 * d + 4) = _; simp
  | k + 1, h => by
    have h1 : lv d (feetW nd al k N) := lv_back (ok_feetW hok k) hd h
    have ih := fth_k hok hd k h1
    show footW nd al (feetW nd al k N) (6 * d + 4) = _
    rw [fth_foot (ok_feetW hok k) hd h1, ih]
    omega
/-! agreement, on both sides by all feet -/
theorem clo_al {nd : Nat} {N : Nat → Int} : clo al nd N := fun _ _ _ _ _ => rfl
theorem ag_feet2 {who : Nat → Bool} {nd : Nat} {N N' : Nat → Int} (hok : okN nd N) (h : ag who nd N N') (hc : clo who nd N) : ∀ n, ag who nd (feetW nd al n N) (feetW nd who n N') ∧ (∀ e, e < nd → feetW nd al n N (6 * e) = N (6 * e))
  | 0 => ⟨h, fun _ _ => rfl⟩
  | n + 1 => by
    obtain ⟨i1, i2⟩ := ag_feet2 hok h hc n
    obtain ⟨j1, j2⟩ := ag_foot (ok_feetW hok n) i1 (clo_cg hc i2)
    exact ⟨j1, fun e he => (j2 e he).trans (i2 e he)⟩
theorem ag_feet3 {who : Nat → Bool} {nd : Nat} {N N' : Nat → Int} (hok : okN nd N) (hok' : okN nd N') (h : ag who nd N N') (hc : clo who nd N) (n : Nat) : ag who nd (feetW nd al n N) (feetW nd al n N') := by
  have hc' : clo who nd N' := clo_cg hc (fun e he => h.2.1 e he)
  obtain ⟨a1, -⟩ := ag_feet2 hok h hc n
  obtain ⟨b1, -⟩ := ag_feet hok' hc' n
  refine ⟨fun e he hw f hf => ?_, fun e he => ?_, fun k hk => ?_⟩
  · rw [← b1.1 e he hw f hf]; exact a1.1 e he hw f hf
  · rw [← b1.2.1 e he]; exact a1.2.1 e he
  · rw [← b1.2.2 k hk]; exact a1.2.2 k hk
theorem ft_cg {nd d : Nat} {c : Int} {N N' : Nat → Int} (h : ∀ n, feetW nd al n N' (6 * d + 1) = feetW nd al n N (6 * d + 1)) : ∀ m n, ftF nd d c N' m n = ftF nd d c N m n
  | 0, _ => rfl
  | m + 1, n => by rw [ft_s, ft_s, h n, ft_cg h m]
theorem ft_ag {who : Nat → Bool} {nd d : Nat} {c : Int} {N N' : Nat → Int} (hok : okN nd N) (hok' : okN nd N') (h : ag who nd N N') (hc : clo who nd N) (hd : d < nd) (hw : who d = true) (m n : Nat) : ftF nd d c N' m n = ftF nd d c N m n :=
  ft_cg (fun n => (ag_feet3 hok hok' h hc n).1 d hd hw 1 (by decide)) m n
theorem ag_nu2 {who : Nat → Bool} {nd d : Nat} {N N' : Nat → Int} {v : Int} (h : ag who nd N N') (hd : d < nd) (h4 : nd ≤ 4) : ag who nd (nu N (6 * d + 2) v) (nu N' (6 * d + 2) v) := by
  refine ⟨fun e he hw f hf => ?_, fun e he => ?_, fun k hk => ?_⟩
  · unfold nu
    split
    · rfl
    · exact h.1 e he hw f hf
  · rw [nu_k (by omega), nu_k (by omega)]; exact h.2.1 e he
  · rw [nu_k (by omega), nu_k (by omega)]; exact h.2.2 k hk
/-! feet behind feet -/
theorem feet_add {nd : Nat} {who : Nat → Bool} {N : Nat → Int} (k : Nat) : ∀ n, feetW nd who n (feetW nd who k N) = feetW nd who (k + n) N
  | 0 => rfl
  | n + 1 => by
    show footW nd who (feetW nd who n (feetW nd who k N)) = footW nd who (feetW nd who (k + n) N)
    rw [feet_add k n]
theorem ft_none {nd d : Nat} {c : Int} {N : Nat → Int} : ∀ m n, ftF nd d c N m n = -4 ↔ ∀ j, j < m → feetW nd al (n + j) N (6 * d + 1) ≠ c
  | 0, _ => ⟨fun _ j hj => absurd hj (by omega), fun _ => rfl⟩
  | m + 1, n => by
    rw [ft_s]
    constructor
    · intro h j hj
      by_cases q : feetW nd al n N (6 * d + 1) = c
      · rw [if_pos q] at h; omega
      · rw [if_neg q] at h
        by_cases z : j = 0
        · subst z; exact q
        · have := (ft_none m (n + 1)).mp h (j - 1) (by omega)
          rw [show n + 1 + (j - 1) = n + j by omega] at this
          exact this
    · intro h
      have h00 := h 0 (by omega)
      rw [Nat.add_zero] at h00
      rw [if_neg h00]
      refine (ft_none m (n + 1)).mpr (fun j hj => ?_)
      have := h (j + 1) (by omega)
      rw [show n + (j + 1) = n + 1 + j by omega] at this
      exact this
theorem ft_sh {nd d : Nat} {c : Int} {N : Nat → Int} {k m M' : Nat} (h : ftF nd d c N M' 0 = -4) (hk : k + m ≤ M') : ftF nd d c (feetW nd al k N) m 0 = -4 := by
  rw [ft_none] at h ⊢
  intro j hj
  rw [feet_add]
  have := h (k + j) (by omega)
  rw [show 0 + (k + j) = k + (0 + j) by omega] at this
  exact this
/-! a lover who digs toward another doesn't mind his aim -/
theorem lo_step {X : Nat → Int} {d e : Nat} {v : Int} (hd : d < 4) (he : e < 4) : stepF (nu X (6 * d + 2) v) e = nu (stepF X e) (6 * d + 2) v := by
  unfold stepF
  rw [nu_k (by omega), nu_k (by omega), goF_cg (N := X) (fun x hx => nu_k (by omega))]
  split <;> rw [nu_cm (by omega)]
theorem lo_want {X : Nat → Int} {nd d e : Nat} {v : Int} (hd : d < nd) (he : e < nd) (h2 : X (6 * d) = 2) (h1 : 1 < nd) : wantF nd (nu X (6 * d + 2) v) e = wantF nd X e := by
  unfold wantF
  rw [nu_k (by omega), nu_k (by omega)]
  by_cases q : e = d
  · subst q
    rw [if_pos ⟨h2, h1⟩, if_pos ⟨h2, h1⟩]
  · rw [nu_k (by omega)]
theorem lo_dig {X : Nat → Int} {nd d e : Nat} {v : Int} (h4 : nd ≤ 4) (hd : d < nd) (he : e < nd) (h2 : X (6 * d) = 2) (h1 : 1 < nd) : dig1 nd (nu X (6 * d + 2) v) e = nu (dig1 nd X e) (6 * d + 2) v := by
  unfold dig1
  simp only []
  rw [lo_want hd he h2 h1, nu_k (k := 6 * d + 2) (j := 6 * e) (by omega), nu_k (k := 6 * d + 2) (j := 6 * e + 1) (by omega), nu_k (k := 6 * d + 2) (j := 6 * e + 4) (by omega), nu_cm (k := 6 * e + 4) (by omega)]
  rw [lo_step (by omega) (by omega), nu_cm (k := 6 * e + 5) (by omega), nu_cm (k := 6 * e + 3) (by omega), lo_step (by omega) (by omega)]
  split
  · rfl
  · split
    · split <;> rfl
    · rfl
theorem lo_wc1 {X : Nat → Int} {d j : Nat} {v : Int} (hj : j < 6) (hd : d < 4) : ∃ v', wc1 (nu X (6 * d + 2) v) j = nu (wc1 X j) (6 * d + 2) v' := by
  unfold wc1
  rw [nu_k (k := 6 * d + 2) (j := 34 + 3 * j) (by omega), nu_k (k := 6 * d + 2) (j := 24) (by omega), nu_k (k := 6 * d + 2) (j := 34 + 3 * j + 1) (by omega), nu_k (k := 6 * d + 2) (j := 34 + 3 * j + 2) (by omega), nu_k (by omega)]
  split
  · by_cases q : (X (34 + 3 * j + 1)).toNat = d
    · rw [q]
      exact ⟨X (34 + 3 * j + 2), by rw [nu_nu, nu_nu]⟩
    · exact ⟨v, by rw [nu_cm (by omega)]⟩
  · exact ⟨v, rfl⟩
theorem lo_wcs {X : Nat → Int} {d : Nat} (hd : d < 4) : ∀ n, n ≤ 6 → ∀ v, ∃ v', wcs n (nu X (6 * d + 2) v) = nu (wcs n X) (6 * d + 2) v'
  | 0, _, v => ⟨v, rfl⟩
  | n + 1, hn, v => by
    obtain ⟨u, hu⟩ := lo_wcs (X := X) hd n (by omega) v
    show ∃ v', wc1 (wcs n (nu X (6 * d + 2) v)) n = nu (wc1 (wcs n X) n) (6 * d + 2) v'
    rw [hu]
    exact lo_wc1 (by omega) hd
theorem lo_digs {X : Nat → Int} {nd d : Nat} {v : Int} (h4 : nd ≤ 4) (hd : d < nd) (h2 : X (6 * d) = 2) (h1 : 1 < nd) : ∀ n, n ≤ nd → digs nd al n (nu X (6 * d + 2) v) = nu (digs nd al n X) (6 * d + 2) v
  | 0, _ => rfl
  | n + 1, hn => by
    have ih := lo_digs (v := v) h4 hd h2 h1 n (by omega)
    have hk := (ag_digs h4 (ag_rf (who := al) (N := X)) clo_al n (by omega)).2 d hd
    unfold digs
    rw [ih, nu_k (by omega), nu_k (by omega), lo_dig h4 hd (by omega) (by rw [hk]; exact h2) h1]
    split <;> rfl
theorem lo_foot {X : Nat → Int} {nd d : Nat} (hok : okN nd X) (hd : d < nd) (h2 : X (6 * d) = 2) (h1 : 1 < nd) (v : Int) : ∃ v', footW nd al (nu X (6 * d + 2) v) = nu (footW nd al X) (6 * d + 2) v' := by
  have h4 := hok.1
  have h33 := hok.2.2.2.2.1
  obtain ⟨u, hu⟩ := lo_wcs (X := X) (show d < 4 by omega) (X 33).toNat (by omega) v
  have hw : wordsF (nu X (6 * d + 2) v) = nu (wordsF X) (6 * d + 2) u := by
    unfold wordsF
    rw [nu_k (by omega)]
    exact hu
  have hk : wordsF X (6 * d) = 2 := by
    have := wcs_f (d := d) (f := 0) hok (by decide) (by decide) (X 33).toNat (by omega)
    exact this.trans h2
  unfold footW
  rw [hw, lo_digs h4 hd hk h1 nd (Nat.le_refl _), nu_k (by omega), nu_cm (by omega)]
  exact ⟨u, rfl⟩
theorem lo_feet {X : Nat → Int} {nd d : Nat} (hok : okN nd X) (hd : d < nd) (h2 : X (6 * d) = 2) (h1 : 1 < nd) (v : Int) : ∀ n, ∃ v', feetW nd al n (nu X (6 * d + 2) v) = nu (feetW nd al n X) (6 * d + 2) v'
  | 0 => ⟨v, rfl⟩
  | n + 1 => by
    obtain ⟨u, hu⟩ := lo_feet hok hd h2 h1 v n
    have hk := (ag_feet (who := al) hok clo_al n).2 d hd
    show ∃ v', footW nd al (feetW nd al n (nu X (6 * d + 2) v)) = nu (footW nd al (feetW nd al n X)) (6 * d + 2) v'
    rw [hu]
    exact lo_foot (ok_feetW hok n) hd (by rw [hk]; exact h2) h1 u
theorem lo_ft {X : Nat → Int} {nd d : Nat} {c : Int} (hok : okN nd X) (hd : d < nd) (h2 : X (6 * d) = 2) (h1 : 1 < nd) (v : Int) (m n : Nat) : ftF nd d c (nu X (6 * d + 2) v) m n = ftF nd d c X m n := by
  refine ft_cg (fun n => ?_) m n
  obtain ⟨u, hu⟩ := lo_feet hok hd h2 h1 v n
  rw [hu, nu_k (by omega)]
/-! whether a second word leads -/
def ldP (nd d : Nat) (c : Int) (X : Nat → Int) (m : Nat) : Prop := ∃ b : Nat, b < 64 ∧ ftF nd d c (nu X (6 * d + 2) (cn b)) m 0 ≠ -4
theorem ld_ag {who : Nat → Bool} {nd d m : Nat} {c : Int} {N N' : Nat → Int} (hok : okN nd N) (hok' : okN nd N') (h : ag who nd N N') (hc : clo who nd N) (hd : d < nd) (hw : who d = true) : ldP nd d c N' m ↔ ldP nd d c N m := by
  have h4 := hok.1
  have e : ∀ b : Nat, b < 64 → ftF nd d c (nu N' (6 * d + 2) (cn b)) m 0 = ftF nd d c (nu N (6 * d + 2) (cn b)) m 0 := fun b hb =>
    ft_ag (ok_aim hok hd (a := (b : Int)) (by omega) (by omega)) (ok_aim hok' hd (a := (b : Int)) (by omega) (by omega)) (ag_nu2 h hd h4) (clo_cg hc (fun e he => nu_k (by omega))) hd hw m 0
  constructor
  · rintro ⟨b, hb, q⟩
    exact ⟨b, hb, by rw [← e b hb]; exact q⟩
  · rintro ⟨b, hb, q⟩
    exact ⟨b, hb, by rw [e b hb]; exact q⟩
theorem ded {nd d m k : Nat} {c : Int} {N : Nat → Int} (hok : okN nd N) (hd : d < nd) {a a' : Nat} (ha : a < 64) (ha' : a' < 64) (h0 : ∀ a, a < 64 → ftF nd d c (nu N (6 * d + 2) (cn (a : Nat))) 21 0 = -4) (hm : k + m ≤ 21)
    (l : lv d (feetW nd al k (nu N (6 * d + 2) (cn a)))) (l' : lv d (feetW nd al k (nu N (6 * d + 2) (cn a'))))
    (e1 : feetW nd al k (nu N (6 * d + 2) (cn a)) (6 * d + 1) = feetW nd al k (nu N (6 * d + 2) (cn a')) (6 * d + 1)) (e3 : feetW nd al k (nu N (6 * d + 2) (cn a)) (6 * d + 3) = feetW nd al k (nu N (6 * d + 2) (cn a')) (6 * d + 3))
    (h : ldP nd d c (feetW nd al k (nu N (6 * d + 2) (cn a))) m) : ldP nd d c (feetW nd al k (nu N (6 * d + 2) (cn a'))) m := by
  have h4 := hok.1
  have oka := ok_aim hok hd (a := (a : Int)) (by omega) (by omega)
  have oka' := ok_aim hok hd (a := (a' : Int)) (by omega) (by omega)
  have k1 : ∀ e, e < nd → feetW nd al k (nu N (6 * d + 2) (cn a)) (6 * e) = N (6 * e) := fun e he => ((ag_feet (who := al) oka clo_al k).2 e he).trans (nu_k (by omega))
  have k2 : ∀ e, e < nd → feetW nd al k (nu N (6 * d + 2) (cn a')) (6 * e) = N (6 * e) := fun e he => ((ag_feet (who := al) oka' clo_al k).2 e he).trans (nu_k (by omega))
  have oS := ok_feetW (who := al) oka k
  have oS' := ok_feetW (who := al) oka' k
  by_cases q : N (6 * d) = 2 ∧ 1 < nd
  · obtain ⟨b, hb, hq⟩ := h
    rw [lo_ft oS hd ((k1 d hd).trans q.1) q.2, ft_sh (h0 a ha) hm] at hq
    exact absurd rfl hq
  · have f1 := fth_k oka hd k l
    have f2 := fth_k oka' hd k l'
    have s0 : ag (fun _ => false) nd (nu N (6 * d + 2) (cn a)) (nu N (6 * d + 2) (cn a')) := ⟨fun e _ hw => absurd hw Bool.false_ne_true, fun e he => by rw [nu_k (by omega), nu_k (by omega)], fun j hj => by rw [nu_k (by omega), nu_k (by omega)]⟩
    have s1 := ag_feet3 oka oka' s0 (fun _ _ hw => absurd hw Bool.false_ne_true) k
    have g : ag (fun e => decide (e = d)) nd (feetW nd al k (nu N (6 * d + 2) (cn a))) (nu (feetW nd al k (nu N (6 * d + 2) (cn a'))) (6 * d + 2) (feetW nd al k (nu N (6 * d + 2) (cn a)) (6 * d + 2))) := by
      refine ⟨fun e he hw f hf => ?_, fun e he => ?_, fun j hj => ?_⟩
      · have : e = d := of_decide_eq_true hw
        subst this
        have : f = 0 ∨ f = 1 ∨ f = 2 ∨ f = 3 ∨ f = 4 ∨ f = 5 := by omega
        rcases this with rfl | rfl | rfl | rfl | rfl | rfl
        · rw [nu_k (by omega)]; exact (k2 e he).trans (k1 e he).symm
        · rw [nu_k (by omega)]; exact e1.symm
        · rw [nu_e]
        · rw [nu_k (by omega)]; exact e3.symm
        · rw [nu_k (by omega), f1, f2, nu_k (by omega), nu_k (by omega)]
        · rw [nu_k (by omega)]; exact l'.1.trans l.1.symm
      · rw [nu_k (by omega)]; exact (k2 e he).trans (k1 e he).symm
      · rw [nu_k (by omega)]; exact s1.2.2 j hj
    have hC2 := (oS.2.1 d hd).2.2.1
    have oS2 : okN nd (nu (feetW nd al k (nu N (6 * d + 2) (cn a'))) (6 * d + 2) (feetW nd al k (nu N (6 * d + 2) (cn a)) (6 * d + 2))) := okN_f oS' (by omega) (by decide) ⟨by omega, by omega, fun _ => hC2, by omega, by omega, by omega⟩
    have hcl : clo (fun e => decide (e = d)) nd (feetW nd al k (nu N (6 * d + 2) (cn a))) := by
      intro e he hw h2 h1
      have : e = d := of_decide_eq_true hw
      subst this
      exact absurd ⟨(k1 e he).symm.trans h2, h1⟩ q
    have := (ld_ag (c := c) (m := m) oS oS2 g hcl hd (decide_eq_true rfl)).mpr h
    obtain ⟨b, hb, hq⟩ := this
    rw [nu_nu] at hq
    exact ⟨b, hb, hq⟩

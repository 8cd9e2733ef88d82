/-! ===== lineNamed's contract ===== -/
theorem sp_5 {b : Nat → Int} {n s e k : Nat} {c1 c2 c3 c4 c5 : Int} (he : e ≤ n) (hl : xln k = 5) (h0 : (xby k 0).toInt = c1) (h1 : (xby k 1).toInt = c2) (h2 : (xby k 2).toInt = c3) (h3 : (xby k 3).toInt = c4) (h4 : (xby k 4).toInt = c5) (hc : c5 ≠ 0) : (isP b n s e 5 c1 c2 c3 ∧ enP b n s c4 c5) ↔ spP b s e k := by
  unfold spP
  rw [hl]
  constructor
  · rintro ⟨⟨a0, a1, a2, a3⟩, a4, a5⟩
    have a5 := a5.resolve_left hc
    rw [bt_in (by omega)] at a1 a2 a3 a4 a5
    refine ⟨a0, fun j hj => ?_⟩
    have hj' : j = 0 ∨ j = 1 ∨ j = 2 ∨ j = 3 ∨ j = 4 := by omega
    rcases hj' with rfl | rfl | rfl | rfl | rfl
    · rw [h0]; exact a1
    · rw [h1]; exact a2
    · rw [h2]; exact a3
    · rw [h3]; exact a4
    · rw [h4]; exact a5
  · rintro ⟨a0, a⟩
    have a0' : (e : Int) - s = 5 := a0
    have b0 := a 0 (by omega)
    have b1 := a 1 (by omega)
    have b2 := a 2 (by omega)
    have b3 := a 3 (by omega)
    have b4 := a 4 (by omega)
    rw [h0] at b0
    rw [h1] at b1
    rw [h2] at b2
    rw [h3] at b3
    rw [h4] at b4
    exact ⟨⟨a0, by rw [bt_in (by omega)]; exact b0, by rw [bt_in (by omega)]; exact b1, by rw [bt_in (by omega)]; exact b2⟩, by rw [bt_in (by omega)]; exact b3, Or.inr (by rw [bt_in (by omega)]; exact b4)⟩
theorem sp_4 {b : Nat → Int} {n s e k : Nat} {c1 c2 c3 c4 : Int} (he : e ≤ n) (hl : xln k = 4) (h0 : (xby k 0).toInt = c1) (h1 : (xby k 1).toInt = c2) (h2 : (xby k 2).toInt = c3) (h3 : (xby k 3).toInt = c4) : (isP b n s e 4 c1 c2 c3 ∧ enP b n s c4 0) ↔ spP b s e k := by
  unfold spP
  rw [hl]
  constructor
  · rintro ⟨⟨a0, a1, a2, a3⟩, a4, a5⟩
    rw [bt_in (by omega)] at a1 a2 a3 a4
    refine ⟨a0, fun j hj => ?_⟩
    have hj' : j = 0 ∨ j = 1 ∨ j = 2 ∨ j = 3 := by omega
    rcases hj' with rfl | rfl | rfl | rfl
    · rw [h0]; exact a1
    · rw [h1]; exact a2
    · rw [h2]; exact a3
    · rw [h3]; exact a4
  · rintro ⟨a0, a⟩
    have a0' : (e : Int) - s = 4 := a0
    have b0 := a 0 (by omega)
    have b1 := a 1 (by omega)
    have b2 := a 2 (by omega)
    have b3 := a 3 (by omega)
    rw [h0] at b0
    rw [h1] at b1
    rw [h2] at b2
    rw [h3] at b3
    exact ⟨⟨a0, by rw [bt_in (by omega)]; exact b0, by rw [bt_in (by omega)]; exact b1, by rw [bt_in (by omega)]; exact b2⟩, by rw [bt_in (by omega)]; exact b3, Or.inl rfl⟩
theorem ln_sp {b : Nat → Int} {n s e : Nat} (he : e ≤ n) : (∀ k : Nat, k < 7 → spP b s e k → (∀ a, a < k → ¬ spP b s e a) → lnZ b n s e = k) ∧ ((∀ a, a < 7 → ¬ spP b s e a) → lnZ b n s e = -1) := by
  have e0 : (isP b n s e 5 112 108 97 ∧ enP b n s 105 110) ↔ spP b s e 0 := sp_5 he (by decide) (by decide) (by decide) (by decide) (by decide) (by decide) (by decide)
  have e1 : (isP b n s e 5 99 121 110 ∧ enP b n s 105 99) ↔ spP b s e 1 := sp_5 he (by decide) (by decide) (by decide) (by decide) (by decide) (by decide) (by decide)
  have e2 : (isP b n s e 5 108 111 118 ∧ enP b n s 101 114) ↔ spP b s e 2 := sp_5 he (by decide) (by decide) (by decide) (by decide) (by decide) (by decide) (by decide)
  have e3 : (isP b n s e 5 103 117 97 ∧ enP b n s 114 100) ↔ spP b s e 3 := sp_5 he (by decide) (by decide) (by decide) (by decide) (by decide) (by decide) (by decide)
  have e4 : (isP b n s e 4 114 111 99 ∧ enP b n s 107 0) ↔ spP b s e 4 := sp_4 he (by decide) (by decide) (by decide) (by decide) (by decide)
  have e5 : (isP b n s e 5 102 97 105 ∧ enP b n s 116 104) ↔ spP b s e 5 := sp_5 he (by decide) (by decide) (by decide) (by decide) (by decide) (by decide) (by decide)
  have e6 : (isP b n s e 4 119 111 114 ∧ enP b n s 100 0) ↔ spP b s e 6 := sp_4 he (by decide) (by decide) (by decide) (by decide) (by decide)
  refine ⟨fun k hk hs hn => ?_, fun hn => ?_⟩
  · have hc : k = 0 ∨ k = 1 ∨ k = 2 ∨ k = 3 ∨ k = 4 ∨ k = 5 ∨ k = 6 := by omega
    unfold lnZ
    rcases hc with rfl | rfl | rfl | rfl | rfl | rfl | rfl
    · rw [if_pos (e0.mpr hs)]; rfl
    · rw [if_neg (fun z => hn 0 (by decide) (e0.mp z)), if_pos (e1.mpr hs)]; rfl
    · rw [if_neg (fun z => hn 0 (by decide) (e0.mp z)), if_neg (fun z => hn 1 (by decide) (e1.mp z)), if_pos (e2.mpr hs)]; rfl
    · rw [if_neg (fun z => hn 0 (by decide) (e0.mp z)), if_neg (fun z => hn 1 (by decide) (e1.mp z)), if_neg (fun z => hn 2 (by decide) (e2.mp z)), if_pos (e3.mpr hs)]; rfl
    · rw [if_neg (fun z => hn 0 (by decide) (e0.mp z)), if_neg (fun z => hn 1 (by decide) (e1.mp z)), if_neg (fun z => hn 2 (by decide) (e2.mp z)), if_neg (fun z => hn 3 (by decide) (e3.mp z)), if_pos (e4.mpr hs)]; rfl
    · rw [if_neg (fun z => hn 0 (by decide) (e0.mp z)), if_neg (fun z => hn 1 (by decide) (e1.mp z)), if_neg (fun z => hn 2 (by decide) (e2.mp z)), if_neg (fun z => hn 3 (by decide) (e3.mp z)), if_neg (fun z => hn 4 (by decide) (e4.mp z)), if_pos (e5.mpr hs)]; rfl
    · rw [if_neg (fun z => hn 0 (by decide) (e0.mp z)), if_neg (fun z => hn 1 (by decide) (e1.mp z)), if_neg (fun z => hn 2 (by decide) (e2.mp z)), if_neg (fun z => hn 3 (by decide) (e3.mp z)), if_neg (fun z => hn 4 (by decide) (e4.mp z)), if_neg (fun z => hn 5 (by decide) (e5.mp z)), if_pos (e6.mpr hs)]; rfl
  · unfold lnZ
    rw [if_neg (fun z => hn 0 (by decide) (e0.mp z)), if_neg (fun z => hn 1 (by decide) (e1.mp z)), if_neg (fun z => hn 2 (by decide) (e2.mp z)), if_neg (fun z => hn 3 (by decide) (e3.mp z)), if_neg (fun z => hn 4 (by decide) (e4.mp z)), if_neg (fun z => hn 5 (by decide) (e5.mp z)), if_neg (fun z => hn 6 (by decide) (e6.mp z))]
theorem lnZ_r {b : Nat → Int} {n s e : Nat} : -1 ≤ lnZ b n s e ∧ lnZ b n s e < 7 := by
  unfold lnZ
  repeat' split
  all_goals omega
theorem c_lineNamed (b : Nat → Int) (n : Nat) (hn : n ≤ 160) (_ : ∀ j, j < n → 0 ≤ b j ∧ b j < 128) : LNA b n := by
  intro M p hp _ hb _ h2 h4
  have t := tE_n (b := b) hp
  obtain ⟨r1, r2⟩ := ln_sp (b := b) (n := n) (s := tS b n p) (e := tE b n p) t.2.1
  have hz := lnZ_r (b := b) (n := n) (s := tS b n p) (e := tE b n p)
  refine CW_of mg_lin (Int32.ofInt (lnZ b n (tS b n p) (tE b n p))) (t32_of (by omega) (by omega)) (fun l D ρ cy aK aV RM RL sz hM => ?_)
  refine s_lin l D ρ cy aK aV RM RL sz hz t.1 (by omega) ?_ ?_ (fun j => ?_) r1 r2
  · rw [← h2, ← hM]; rfl
  · rw [← h4, ← hM]; rfl
  · rw [← hb, ← hM]; rfl
theorem p_textC {M : XM} (h : InvX M M) : PUB mi_X3_text mi_X4_text [] M := p_text M h c_lineNamed

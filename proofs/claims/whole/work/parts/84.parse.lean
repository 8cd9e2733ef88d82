/-! ===== the text as a whole: what is read of it ===== -/
abbrev PS : Type := Nat × Nat × (Nat → Int) × (Nat → Int) × (Nat → Int) × Int × Int × Int
abbrev PS.p (s : PS) : Nat := s.1
abbrev PS.dd (s : PS) : Nat := s.2.1
abbrev PS.D (s : PS) : Nat → Int := s.2.2.1
abbrev PS.fz (s : PS) : Nat → Int := s.2.2.2.1
abbrev PS.fm (s : PS) : Nat → Int := s.2.2.2.2.1
abbrev PS.ft (s : PS) : Int := s.2.2.2.2.2.1
abbrev PS.dr (s : PS) : Int := s.2.2.2.2.2.2.1
abbrev PS.hi (s : PS) : Int := s.2.2.2.2.2.2.2
noncomputable def stp (b : Nat → Int) (n : Nat) (s : PS) : PS := ⟨liP b n s.p, liN b n s.p s.dd, liD b n s.p s.dd s.D, liZ b n s.p s.fz, liZ b n s.p s.fm, liB b n s.p s.ft, liR b n s.p s.dr, liH b n s.p s.hi⟩
/-- the lines, one after the other: fault and place, how many, what they told -/
noncomputable def rn (b : Nat → Int) (n : Nat) : Nat → Nat → PS → (Int × Nat) × Nat × PS
  | 0, k, s => ((0, 0), k, s)
  | f + 1, k, s => if tF b n s.p ≠ 0 then ((1, tS b n s.p), k, s) else if tK b n s.p = 4 then ((0, tS b n s.p), k, s) else if (liF b n s.p s.dd s.D s.ft).1 ≠ 0 then (liF b n s.p s.dd s.D s.ft, k, s) else rn b n f (k + 1) (stp b n s)
/-- a digger stands in a rock -/
def inR (D : Nat → Int) : Nat → Bool
  | 0 => false
  | k + 1 => inR D k || tb (D (25 + xOf (D (6 * k + 1)))) (yOf (D (6 * k + 1)))
def enF (s : PS) : Int := if ¬ s.hi < s.dd then 6 else if inR s.D s.dd = true then 7 else 0
def PI (s : PS) : Prop := (s.dd ≤ 4 ∧ (∀ x, x < 8 → 0 ≤ s.D (25 + x) ∧ s.D (25 + x) < 256) ∧ (0 ≤ s.D 33 ∧ s.D 33 ≤ 6) ∧ s.dr = rk s.D ∧ (0 ≤ s.dr ∧ s.dr ≤ 8) ∧ (0 ≤ s.ft ∧ s.ft < 16)) ∧
  (∀ d, d < s.dd → (0 ≤ s.D (6 * d) ∧ s.D (6 * d) < 4) ∧ isC (s.D (6 * d + 1)) ∧ isC (s.D (6 * d + 2))) ∧
  (∀ d, d < 4 → s.D (6 * d + 3) = 0 ∧ s.D (6 * d + 5) = 0) ∧ (s.D 24 = 0 ∧ s.D 52 = 0) ∧
  (∀ j : Nat, (j : Int) < s.D 33 → (0 ≤ s.D (34 + 3 * j) ∧ s.D (34 + 3 * j) ≤ 20) ∧ (0 ≤ s.D (34 + 3 * j + 1) ∧ s.D (34 + 3 * j + 1) < 4) ∧ isC (s.D (34 + 3 * j + 2))) ∧
  (∀ d, d < 4 → (wb s.ft d = true → s.fz d = s.fm d ∧ 0 ≤ s.fz d ∧ s.fz d ≤ 40) ∧ (wb s.ft d = false → s.fz d = 20)) ∧
  (∀ c : Nat, c ≤ 4 → (s.hi < c ↔ (∀ d, c ≤ d → d < 4 → wb s.ft d = false) ∧ ∀ j : Nat, (j : Int) < s.D 33 → s.D (34 + 3 * j + 1) < c))
theorem so_r1 : ∀ n : Nat, n < 256 → ∀ y : Nat, y < 8 → tb n y = false → rk1 (soN n y) = rk1 n + 1 := by decide +kernel
theorem rk_so {D : Nat → Int} (h : ∀ x, x < 8 → 0 ≤ D (25 + x) ∧ D (25 + x) < 256) {x y : Nat} (hx : x < 8) (hy : y < 8) (ht : tb (D (25 + x)) y = false) : rk (srF D x y 1) = rk D + 1 := by
  have hh := h x hx
  obtain ⟨m, hm⟩ := Int.eq_ofNat_of_zero_le hh.1
  rw [hm] at ht
  have e := so_r1 m (by omega) y hy ht
  have es : srF D x y 1 = nu D (25 + x) (soN m y) := by
    unfold srF srV
    rw [if_neg n1z, hm, Int.toNat_natCast]
  rw [es]
  have hm' : D (25 + x) = (m : Int) := hm
  have c : x = 0 ∨ x = 1 ∨ x = 2 ∨ x = 3 ∨ x = 4 ∨ x = 5 ∨ x = 6 ∨ x = 7 := by omega
  unfold rk
  rcases c with rfl | rfl | rfl | rfl | rfl | rfl | rfl | rfl
  all_goals
    simp only [Nat.reduceAdd] at hm' ⊢
    simp only [nu_e, nu_k (show (25 : Nat) ≠ 26 by decide), nu, Nat.reduceEqDiff, if_false, if_true, hm', e]
    omega
theorem tE_gt {b : Nat → Int} {n p : Nat} (hp : p ≤ n) (h : tK b n p = 1 ∨ tK b n p = 3) : p + 1 ≤ tE b n p := by
  have skr := sk_r (b := b) (n - p) p rfl hp
  have lt : sk b n p < n := by
    by_cases q : sk b n p < n
    · exact q
    · have : tK b n p = 4 := cl_out q
      omega
  have e : tE b n p = (if tK b n p = 3 then sk b n p + 1 else if tK b n p = 1 ∨ tK b n p = 2 then ru b n (tK b n p) (sk b n p) else sk b n p) := rfl
  rw [e]
  rcases h with h | h
  · rw [if_neg (by omega), if_pos (Or.inl h), h, ru_y (by decide) (show clF (bt b n (sk b n p)) = 1 from h)]
    have r := ru_r (b := b) (k := 1) (by decide) (n - (sk b n p + 1)) (sk b n p + 1) rfl (by omega)
    omega
  · rw [if_pos h]
    omega
theorem bdQ_n {b : Nat → Int} {n p : Nat} (hp : p ≤ n) : tE b n p ≤ bdQ b n p ∧ bdQ b n p ≤ n := by
  have p1 := tE_n (b := b) hp
  have p2 := tE_n (b := b) p1.2.1
  have p3 := tE_n (b := b) p2.2.1
  have p4 := tE_n (b := b) p3.2.1
  unfold bdQ
  repeat' split
  all_goals omega
/-- a line without a fault -/
theorem li_ok {b : Nat → Int} {n p dd : Nat} {D : Nat → Int} {ft : Int} (h : (liF b n p dd D ft).1 = 0) : ¬ lnL b n p < 0 ∧ fuZ dd D (lnL b n p) = 0 ∧ (bdF b n p D ft).1 = 0 ∧ tkZ b n (bdQ b n p) 3 = 0 := by
  have q0 : ¬ lnL b n p < 0 := fun q => by
    unfold liF at h
    rw [if_pos q] at h
    exact absurd (show (2 : Int) = 0 from h) (by decide)
  have qf : ¬ fuZ dd D (lnL b n p) = 1 := fun q => by
    unfold liF at h
    rw [if_neg q0, if_pos q] at h
    exact absurd (show (5 : Int) = 0 from h) (by decide)
  rw [li_bd q0 qf] at h
  have z : (bdF b n p D ft).1 = 0 := by
    by_cases z : (bdF b n p D ft).1 = 0
    · exact z
    · rw [if_pos z] at h; exact absurd h z
  rw [if_neg (fun a => a z)] at h
  exact ⟨q0, (fu_01 dd D _).resolve_right qf, z, h⟩
theorem li_p {b : Nat → Int} {n p dd : Nat} {D : Nat → Int} {ft : Int} (hp : p ≤ n) (h : (liF b n p dd D ft).1 = 0) : p + 2 ≤ liP b n p ∧ liP b n p ≤ n := by
  obtain ⟨q0, -, -, q3⟩ := li_ok h
  have k1 : tK b n p = 1 := by
    by_cases k : tK b n p = 1
    · exact k
    · unfold lnL at q0
      rw [if_neg k] at q0
      exact absurd (by decide) q0
  have k3 : tK b n (bdQ b n p) = 3 := by
    unfold tkZ at q3
    by_cases z : tF b n (bdQ b n p) = 0
    · rw [if_neg (fun a => a z)] at q3
      by_cases k : tK b n (bdQ b n p) = 3
      · exact k
      · rw [if_neg k] at q3; exact absurd q3 (by decide)
    · rw [if_pos z] at q3; exact absurd q3 (by decide)
  have g1 := tE_gt hp (Or.inl k1)
  obtain ⟨g2, g3⟩ := bdQ_n (b := b) hp
  have g4 := tE_gt g3 (Or.inr k3)
  have g5 := (tE_n (b := b) g3).2.1
  rw [bdQ_P]
  omega
theorem mx_lt {hi v : Int} {c : Nat} : (if hi < v then v else hi) < (c : Int) ↔ hi < c ∧ v < c := by
  split <;> omega
theorem PI_dig {s : PS} (h : PI s) (hd : s.dd < 4) {l c1 c2 : Int} (hl : 0 ≤ l ∧ l < 4) (h1 : isC c1) (h2 : isC c2) (p' : Nat) : PI ⟨p', s.dd + 1, dgD s.D s.dd l c1 c2, s.fz, s.fm, s.ft, s.dr, s.hi⟩ := by
  obtain ⟨⟨a1, a2, a3, a4, a5, a6⟩, b1, b2, b3, b4, b5, b6⟩ := h
  have e : ∀ j, 24 ≤ j → dgD s.D s.dd l c1 c2 j = s.D j := fun j hj => dg_k (by omega)
  have e0 : dgD s.D s.dd l c1 c2 (6 * s.dd) = l := by unfold dgD; rw [nu_k (by omega), nu_k (by omega), Nat.add_zero, nu_e]
  have e1 : dgD s.D s.dd l c1 c2 (6 * s.dd + 1) = c1 := by unfold dgD; rw [nu_k (by omega), nu_e]
  have e2 : dgD s.D s.dd l c1 c2 (6 * s.dd + 2) = c2 := by unfold dgD; rw [nu_e]
  refine ⟨⟨by show s.dd + 1 ≤ 4; omega, fun x hx => ?_, ?_, ?_, a5, a6⟩, fun d hx => ?_, fun d hx => ?_, ?_, fun j hj => ?_, b5, fun c hc => ?_⟩
  · show 0 ≤ dgD s.D s.dd l c1 c2 (25 + x) ∧ dgD s.D s.dd l c1 c2 (25 + x) < 256
    rw [e _ (by omega)]; exact a2 x hx
  · show 0 ≤ dgD s.D s.dd l c1 c2 33 ∧ dgD s.D s.dd l c1 c2 33 ≤ 6
    rw [e _ (by omega)]; exact a3
  · show s.dr = rk (dgD s.D s.dd l c1 c2)
    rw [rk_cg (fun k x1 x2 => e k (by omega))]; exact a4
  · have hx : d < s.dd + 1 := hx
    show (0 ≤ dgD s.D s.dd l c1 c2 (6 * d) ∧ dgD s.D s.dd l c1 c2 (6 * d) < 4) ∧ isC (dgD s.D s.dd l c1 c2 (6 * d + 1)) ∧ isC (dgD s.D s.dd l c1 c2 (6 * d + 2))
    by_cases q : d = s.dd
    · subst q
      rw [e0, e1, e2]
      exact ⟨hl, h1, h2⟩
    · rw [dg_k (by omega), dg_k (by omega), dg_k (by omega)]
      exact b1 d (by omega)
  · show dgD s.D s.dd l c1 c2 (6 * d + 3) = 0 ∧ dgD s.D s.dd l c1 c2 (6 * d + 5) = 0
    rw [dg_k (by omega), dg_k (by omega)]
    exact b2 d hx
  · show dgD s.D s.dd l c1 c2 24 = 0 ∧ dgD s.D s.dd l c1 c2 52 = 0
    rw [e _ (by omega), e _ (by omega)]
    exact b3
  · have hj : (j : Int) < dgD s.D s.dd l c1 c2 33 := hj
    rw [e _ (by omega)] at hj
    show (0 ≤ dgD s.D s.dd l c1 c2 (34 + 3 * j) ∧ dgD s.D s.dd l c1 c2 (34 + 3 * j) ≤ 20) ∧ (0 ≤ dgD s.D s.dd l c1 c2 (34 + 3 * j + 1) ∧ dgD s.D s.dd l c1 c2 (34 + 3 * j + 1) < 4) ∧ isC (dgD s.D s.dd l c1 c2 (34 + 3 * j + 2))
    rw [e _ (by omega), e _ (by omega), e _ (by omega)]
    exact b4 j hj
  · show s.hi < c ↔ (∀ d, c ≤ d → d < 4 → wb s.ft d = false) ∧ ∀ j : Nat, (j : Int) < dgD s.D s.dd l c1 c2 33 → dgD s.D s.dd l c1 c2 (34 + 3 * j + 1) < c
    rw [e 33 (by omega)]
    rw [b6 c hc]
    constructor
    · rintro ⟨x, y⟩
      exact ⟨x, fun j hj => by rw [e _ (by omega)]; exact y j hj⟩
    · rintro ⟨x, y⟩
      exact ⟨x, fun j hj => by have := y j hj; rw [e _ (by omega)] at this; exact this⟩
theorem PI_rock {s : PS} (h : PI s) {x y : Nat} (hx : x < 8) (hy : y < 8) (ht : tb (s.D (25 + x)) y = false) (hr : rk s.D < 8) (p' : Nat) : PI ⟨p', s.dd, srF s.D x y 1, s.fz, s.fm, s.ft, s.dr + 1, s.hi⟩ := by
  obtain ⟨⟨a1, a2, a3, a4, a5, a6⟩, b1, b2, b3, b4, b5, b6⟩ := h
  have er := rk_so a2 hx hy ht
  have hh := a2 x hx
  obtain ⟨m, hm⟩ := Int.eq_ofNat_of_zero_le hh.1
  have es : srF s.D x y 1 = nu s.D (25 + x) (soN m y) := by
    unfold srF srV
    rw [if_neg n1z, hm, Int.toNat_natCast]
  have e : ∀ j, j < 25 ∨ 33 ≤ j → srF s.D x y 1 j = s.D j := fun j hj => by rw [es, nu_k (by omega)]
  have hs := (so_r m (by omega) y hy).1
  refine ⟨⟨a1, fun x' hx' => ?_, ?_, ?_, ?_, a6⟩, fun d hx => ?_, fun d hx => ?_, ?_, fun j hj => ?_, b5, fun c hc => ?_⟩
  · show 0 ≤ srF s.D x y 1 (25 + x') ∧ srF s.D x y 1 (25 + x') < 256
    by_cases q : x' = x
    · subst q
      rw [es, nu_e]
      omega
    · rw [es, nu_k (by omega)]
      exact a2 x' hx'
  · show 0 ≤ srF s.D x y 1 33 ∧ srF s.D x y 1 33 ≤ 6
    rw [e _ (by omega)]; exact a3
  · show s.dr + 1 = rk (srF s.D x y 1)
    rw [er, a4]
  · show 0 ≤ s.dr + 1 ∧ s.dr + 1 ≤ 8
    omega
  · have hx : d < s.dd := hx
    show (0 ≤ srF s.D _ y 1 (6 * d) ∧ srF s.D _ y 1 (6 * d) < 4) ∧ isC (srF s.D _ y 1 (6 * d + 1)) ∧ isC (srF s.D _ y 1 (6 * d + 2))
    rw [e _ (by omega), e _ (by omega), e _ (by omega)]
    exact b1 d (by omega)
  · show srF s.D _ y 1 (6 * d + 3) = 0 ∧ srF s.D _ y 1 (6 * d + 5) = 0
    rw [e _ (by omega), e _ (by omega)]
    exact b2 d hx
  · show srF s.D _ y 1 24 = 0 ∧ srF s.D _ y 1 52 = 0
    rw [e _ (by omega), e _ (by omega)]
    exact b3
  · have hj : (j : Int) < srF s.D x y 1 33 := hj
    rw [e _ (by omega)] at hj
    show (0 ≤ srF s.D _ y 1 (34 + 3 * j) ∧ srF s.D _ y 1 (34 + 3 * j) ≤ 20) ∧ (0 ≤ srF s.D _ y 1 (34 + 3 * j + 1) ∧ srF s.D _ y 1 (34 + 3 * j + 1) < 4) ∧ isC (srF s.D _ y 1 (34 + 3 * j + 2))
    rw [e _ (by omega), e _ (by omega), e _ (by omega)]
    exact b4 j hj
  · show s.hi < c ↔ (∀ d, c ≤ d → d < 4 → wb s.ft d = false) ∧ ∀ j : Nat, (j : Int) < srF s.D x y 1 33 → srF s.D x y 1 (34 + 3 * j + 1) < c
    rw [e 33 (by omega)]
    rw [b6 c hc]
    constructor
    · rintro ⟨x, y⟩
      exact ⟨x, fun j hj => by rw [e _ (by omega)]; exact y j hj⟩
    · rintro ⟨x, y⟩
      exact ⟨x, fun j hj => by have := y j hj; rw [e _ (by omega)] at this; exact this⟩
theorem PI_faith {s : PS} (h : PI s) {v w : Int} (hv : 0 ≤ v ∧ v ≤ 3) (hw : 0 ≤ w ∧ w ≤ 40) (p' : Nat) : PI ⟨p', s.dd, s.D, nu s.fz v.toNat w, nu s.fm v.toNat w, bOr s.ft (bShl 1 v), s.dr, (if s.hi < v then v else s.hi)⟩ := by
  obtain ⟨⟨a1, a2, a3, a4, a5, a6⟩, b1, b2, b3, b4, b5, b6⟩ := h
  obtain ⟨d0, hd0⟩ := Int.eq_ofNat_of_zero_le hv.1
  subst hd0
  rw [Int.toNat_natCast, pw_4 d0 (by omega)]
  obtain ⟨c1, c2, c3⟩ := wb_set a6.1 a6.2 (k := d0) (by omega)
  refine ⟨⟨a1, a2, a3, a4, a5, ⟨c1, c2⟩⟩, b1, b2, b3, b4, fun d hd => ?_, fun c hc => ?_⟩
  · show (wb (bOr s.ft (2 ^ d0)) d = true → nu s.fz d0 w d = nu s.fm d0 w d ∧ 0 ≤ nu s.fz d0 w d ∧ nu s.fz d0 w d ≤ 40) ∧ (wb (bOr s.ft (2 ^ d0)) d = false → nu s.fz d0 w d = 20)
    rw [c3 d hd]
    by_cases q : d = d0
    · subst q
      rw [nu_e, nu_e]
      exact ⟨fun _ => ⟨rfl, hw⟩, fun z => by rw [decide_eq_true (Eq.refl d), Bool.or_true] at z; exact absurd z (by decide)⟩
    · rw [nu_k q, nu_k q, decide_eq_false q, Bool.or_false]
      exact b5 d hd
  · show (if s.hi < (d0 : Int) then (d0 : Int) else s.hi) < c ↔ (∀ d, c ≤ d → d < 4 → wb (bOr s.ft (2 ^ d0)) d = false) ∧ ∀ j : Nat, (j : Int) < s.D 33 → s.D (34 + 3 * j + 1) < c
    rw [mx_lt, b6 c hc]
    constructor
    · rintro ⟨⟨x, y⟩, z⟩
      refine ⟨fun d hcd hd => ?_, y⟩
      rw [c3 d hd, x d hcd hd, decide_eq_false (by omega)]
      rfl
    · rintro ⟨x, y⟩
      refine ⟨⟨fun d hcd hd => ?_, y⟩, ?_⟩
      · have := x d hcd hd
        rw [c3 d hd] at this
        exact (Bool.or_eq_false_iff.mp this).1
      · by_cases z : (d0 : Int) < c
        · exact z
        · have := x d0 (by omega) (by omega)
          rw [c3 d0 (by omega), decide_eq_true (Eq.refl d0), Bool.or_true] at this
          exact absurd this (by decide)
theorem PI_word {s : PS} (h : PI s) (h6 : s.D 33 < 6) {f v c0 : Int} (hf : 0 ≤ f ∧ f ≤ 20) (hv : 0 ≤ v ∧ v ≤ 3) (hc0 : isC c0) (p' : Nat) : PI ⟨p', s.dd, woD s.D f v c0, s.fz, s.fm, s.ft, s.dr, (if s.hi < v then v else s.hi)⟩ := by
  obtain ⟨⟨a1, a2, a3, a4, a5, a6⟩, b1, b2, b3, b4, b5, b6⟩ := h
  obtain ⟨w, hw⟩ := Int.eq_ofNat_of_zero_le a3.1
  have tw : (s.D 33).toNat = w := by omega
  have eD : woD s.D f v c0 = nu (nu (nu (nu s.D (34 + 3 * w) f) (34 + 3 * w + 1) v) (34 + 3 * w + 2) c0) 33 (s.D 33 + 1) := by unfold woD; rw [tw]
  rw [eD]
  generalize HE : nu (nu (nu (nu s.D (34 + 3 * w) f) (34 + 3 * w + 1) v) (34 + 3 * w + 2) c0) 33 (s.D 33 + 1) = E
  have e : ∀ j, j ≠ 33 → j < 34 + 3 * w ∨ 52 ≤ j → E j = s.D j := fun j h1 h2 => by rw [← HE, nu_k (by omega), nu_k (by omega), nu_k (by omega), nu_k (by omega)]
  have e33 : E 33 = s.D 33 + 1 := by rw [← HE, nu_e]
  have e0 : E (34 + 3 * w) = f := by rw [← HE, nu_k (by omega), nu_k (by omega), nu_k (by omega), nu_e]
  have e1 : E (34 + 3 * w + 1) = v := by rw [← HE, nu_k (by omega), nu_k (by omega), nu_e]
  have e2 : E (34 + 3 * w + 2) = c0 := by rw [← HE, nu_k (by omega), nu_e]
  refine ⟨⟨a1, fun x' hx' => ?_, ?_, ?_, a5, a6⟩, fun d hx => ?_, fun d hx => ?_, ?_, fun j hj => ?_, b5, fun c hc => ?_⟩
  · show 0 ≤ E (25 + x') ∧ E (25 + x') < 256
    rw [e _ (by omega) (by omega)]; exact a2 x' hx'
  · show 0 ≤ E 33 ∧ E 33 ≤ 6
    omega
  · show s.dr = rk E
    rw [rk_cg (fun k x1 x2 => e k (by omega) (by omega))]; exact a4
  · have hx : d < s.dd := hx
    show (0 ≤ E (6 * d) ∧ E (6 * d) < 4) ∧ isC (E (6 * d + 1)) ∧ isC (E (6 * d + 2))
    rw [e _ (by omega) (by omega), e _ (by omega) (by omega), e _ (by omega) (by omega)]
    exact b1 d (by omega)
  · show E (6 * d + 3) = 0 ∧ E (6 * d + 5) = 0
    rw [e _ (by omega) (by omega), e _ (by omega) (by omega)]
    exact b2 d hx
  · show E 24 = 0 ∧ E 52 = 0
    rw [e _ (by omega) (by omega), e _ (by omega) (by omega)]
    exact b3
  · have hj : (j : Int) < E 33 := hj
    show (0 ≤ E (34 + 3 * j) ∧ E (34 + 3 * j) ≤ 20) ∧ (0 ≤ E (34 + 3 * j + 1) ∧ E (34 + 3 * j + 1) < 4) ∧ isC (E (34 + 3 * j + 2))
    by_cases q : j = w
    · subst q
      rw [e0, e1, e2]
      exact ⟨hf, by omega, hc0⟩
    · rw [e _ (by omega) (by omega), e _ (by omega) (by omega), e _ (by omega) (by omega)]
      exact b4 j (by omega)
  · show (if s.hi < v then v else s.hi) < c ↔ (∀ d, c ≤ d → d < 4 → wb s.ft d = false) ∧ ∀ j : Nat, (j : Int) < E 33 → E (34 + 3 * j + 1) < c
    rw [mx_lt, b6 c hc, e33]
    constructor
    · rintro ⟨⟨x, y⟩, z⟩
      refine ⟨x, fun j hj => ?_⟩
      by_cases q : j = w
      · subst q; rw [e1]; exact z
      · rw [e _ (by omega) (by omega)]; exact y j (by omega)
    · rintro ⟨x, y⟩
      refine ⟨⟨x, fun j hj => ?_⟩, ?_⟩
      · have := y j (by omega)
        rw [e _ (by omega) (by omega)] at this
        exact this
      · have := y w (by omega)
        rw [e1] at this
        exact this
theorem PI_stp {b : Nat → Int} {n : Nat} {s : PS} (hp : s.p ≤ n) (h : PI s) (ok : (liF b n s.p s.dd s.D s.ft).1 = 0) : PI (stp b n s) := by
  obtain ⟨q0, qf, qb, -⟩ := li_ok ok
  have lr := ln_r (b := b) (n := n) (p := s.p)
  have p1 := (tE_n (b := b) hp).2.1
  have p2 := (tE_n (b := b) p1).2.1
  have p3 := (tE_n (b := b) p2).2.1
  unfold fuZ at qf
  unfold bdF at qb
  unfold stp liN liD liZ liB liR liH
  generalize lnL b n s.p = l at q0 qf qb lr ⊢
  generalize tE b n s.p = q at p1 p2 p3 qb ⊢
  by_cases q4 : l < 4
  · have n4 : ¬ l = 4 := by omega
    have n5 : ¬ l = 5 := by omega
    have n6 : ¬ l = 6 := by omega
    simp only [if_pos q4, if_neg n4, if_neg n5, if_neg n6] at qf qb ⊢
    have hd4 : s.dd < 4 := by
      by_cases z : s.dd < 4
      · exact z
      · rw [if_neg z] at qf; exact absurd qf (by decide)
    unfold d2F at qb
    have c1 : ceZ b n q = 0 := by
      by_cases z : ceZ b n q = 0
      · exact z
      · rw [if_pos z] at qb; exact absurd qb z
    rw [if_neg (fun a => a c1)] at qb
    exact PI_dig h hd4 (by omega) (ce_C c1) (ce_C qb) _
  · by_cases q5 : l = 4
    · have n5 : ¬ l = 5 := by omega
      have n6 : ¬ l = 6 := by omega
      simp only [if_neg q4, if_pos q5, if_neg n5, if_neg n6] at qf qb ⊢
      have hr8 : rk s.D < 8 := by
        by_cases z : rk s.D < 8
        · exact z
        · rw [if_neg z] at qf; exact absurd qf (by decide)
      unfold r1F at qb
      have c1 : ceZ b n q = 0 := by
        by_cases z : ceZ b n q = 0
        · exact z
        · rw [if_pos z] at qb; exact absurd qb z
      rw [if_neg (fun a => a c1)] at qb
      have ht : tb (s.D (25 + xOf (tV b n q))) (yOf (tV b n q)) = false := by
        cases z : tb (s.D (25 + xOf (tV b n q))) (yOf (tV b n q))
        · rfl
        · rw [z, if_pos rfl] at qb; exact absurd qb (by decide)
      obtain ⟨hx, hy, -, -⟩ := xy_of (ce_C c1)
      exact PI_rock h hx hy ht hr8 _
    · by_cases q6 : l = 5
      · have n6 : ¬ l = 6 := by omega
        simp only [if_neg q4, if_neg q5, if_pos q6, if_neg n6] at qf qb ⊢
        unfold a1F at qb
        have c1 : nuZ b n q 3 = 0 := by
          by_cases z : nuZ b n q 3 = 0
          · exact z
          · rw [if_pos z] at qb; exact absurd qb z
        rw [if_neg (fun a => a c1)] at qb
        have c2 : bAnd (bShr s.ft (tV b n q)) 1 = 0 := by
          by_cases z : bAnd (bShr s.ft (tV b n q)) 1 = 0
          · exact z
          · rw [if_pos z] at qb; exact absurd (show (4 : Int) = 0 from qb) (by decide)
        rw [if_neg (fun a => a c2)] at qb
        exact PI_faith h (nu_V p1 c1) (nu_V p2 qb) _
      · have l6 : l = 6 := by omega
        simp only [if_neg q4, if_neg q5, if_neg q6, if_pos l6] at qf qb ⊢
        have h6 : s.D 33 < 6 := by
          by_cases z : s.D 33 < 6
          · exact z
          · rw [if_neg z] at qf; exact absurd qf (by decide)
        unfold w1F at qb
        have c1 : nuZ b n q 20 = 0 := by
          by_cases z : nuZ b n q 20 = 0
          · exact z
          · rw [if_pos z] at qb; exact absurd qb z
        rw [if_neg (fun a => a c1)] at qb
        have c2 : nuZ b n (tE b n q) 3 = 0 := by
          by_cases z : nuZ b n (tE b n q) 3 = 0
          · exact z
          · rw [if_pos z] at qb; exact absurd qb z
        rw [if_neg (fun a => a c2)] at qb
        exact PI_word h h6 (nu_V p1 c1) (nu_V p2 c2) (ce_C qb) _

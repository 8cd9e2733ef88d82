/-! ===== how many bits a long has ===== -/
def sB (f : Nat → Nat) : Nat → Nat → Nat
  | 0, _ => 0
  | l + 1, n => f (n % 256) + 256 * sB f l (n / 256)
def cB (k : Nat) : Nat → Nat
  | 0 => 0
  | l + 1 => k + 256 * cB k l
def tB (f : Nat → Nat) : Nat → Nat → Nat
  | 0, _ => 0
  | l + 1, n => f (n % 256) + tB f l (n / 256)
theorem and_spl {x k K : Nat} (hk : k < 256) : x &&& (k + 256 * K) = (x % 256 &&& k) + 256 * (x / 256 &&& K) := by
  have e1 := Nat.and_mod_two_pow (a := x) (b := k + 256 * K) (n := 8)
  have e2 := Nat.and_div_two_pow (a := x) (b := k + 256 * K) (n := 8)
  rw [show (2 : Nat) ^ 8 = 256 from rfl] at e1 e2
  rw [show (k + 256 * K) % 256 = k by omega] at e1
  rw [show (k + 256 * K) / 256 = K by omega] at e2
  rw [← e1, ← e2]
  omega
def pf1 (b : Nat) : Nat := b - (b / 2 &&& 85)
def pf2 (b : Nat) : Nat := (b &&& 51) + (b / 4 &&& 51)
def pf3 (b : Nat) : Nat := pf2 (pf1 b) % 16 + pf2 (pf1 b) / 16
theorem pt1 : ∀ b, b < 256 → pf1 b + (b / 2 &&& 85) = b := by decide +kernel
theorem pt2 : ∀ b, b < 128 → ∀ c, c < 2 → (b + 128 * c) &&& 85 = b &&& 85 := by decide +kernel
theorem pt3 : ∀ b, b < 64 → ∀ c, c < 4 → (b + 64 * c) &&& 51 = b &&& 51 := by decide +kernel
theorem pt4 : ∀ b, b < 256 → pf1 b < 256 ∧ pf2 (pf1 b) % 16 ≤ 4 ∧ pf2 (pf1 b) / 16 ≤ 4 ∧ pf3 b ≤ 8 := by decide +kernel
theorem pt5 : ∀ b, b < 256 → pf3 b = b % 2 + b / 2 % 2 + b / 4 % 2 + b / 8 % 2 + b / 16 % 2 + b / 32 % 2 + b / 64 % 2 + b / 128 % 2 := by decide +kernel
theorem ps1 : ∀ l n, n < 256 ^ l → n = sB pf1 l n + (n / 2 &&& cB 85 l)
  | 0, n, h => by
    have : n = 0 := by simpa using h
    subst this
    rfl
  | l + 1, n, h => by
    rw [Nat.pow_succ] at h
    have ih := ps1 l (n / 256) (by omega)
    have e : n / 2 &&& cB 85 (l + 1) = (n % 256 / 2 &&& 85) + 256 * (n / 256 / 2 &&& cB 85 l) := by
      show n / 2 &&& (85 + 256 * cB 85 l) = _
      rw [and_spl (by decide), show n / 2 % 256 = n % 256 / 2 + 128 * (n / 256 % 2) by omega, pt2 _ (by omega) _ (by omega), show n / 2 / 256 = n / 256 / 2 by omega]
    rw [e]
    have h2 := pt1 (n % 256) (by omega)
    show n = (pf1 (n % 256) + 256 * sB pf1 l (n / 256)) + _
    omega
theorem ps2 : ∀ l x, (x &&& cB 51 l) + (x / 4 &&& cB 51 l) = sB pf2 l x
  | 0, x => by simp [cB, sB]
  | l + 1, x => by
    have ih := ps2 l (x / 256)
    have e1 : x &&& cB 51 (l + 1) = (x % 256 &&& 51) + 256 * (x / 256 &&& cB 51 l) := and_spl (by decide)
    have e2 : x / 4 &&& cB 51 (l + 1) = (x % 256 / 4 &&& 51) + 256 * (x / 256 / 4 &&& cB 51 l) := by
      show x / 4 &&& (51 + 256 * cB 51 l) = _
      rw [and_spl (by decide), show x / 4 % 256 = x % 256 / 4 + 64 * (x / 256 % 4) by omega, pt3 _ (by omega) _ (by omega), show x / 4 / 256 = x / 256 / 4 by omega]
    rw [e1, e2]
    show _ = pf2 (x % 256) + 256 * sB pf2 l (x / 256)
    rw [← ih]
    unfold pf2
    omega
theorem ps3 {f : Nat → Nat} (hf : ∀ b, b < 256 → f b % 16 ≤ 4 ∧ f b / 16 ≤ 4) : ∀ l n, ((sB f l n + sB f l n / 16) &&& cB 15 l) = sB (fun b => f b % 16 + f b / 16) l n ∧ sB f l n % 16 ≤ 4
  | 0, n => by simp [cB, sB]
  | l + 1, n => by
    obtain ⟨ih, hm⟩ := ps3 hf l (n / 256)
    have hb := hf (n % 256) (by omega)
    have e0 : sB f (l + 1) n = f (n % 256) + 256 * sB f l (n / 256) := rfl
    rw [e0]
    show ((_ &&& (15 + 256 * cB 15 l)) = (f (n % 256) % 16 + f (n % 256) / 16) + 256 * sB (fun b => f b % 16 + f b / 16) l (n / 256)) ∧ _
    generalize sB (fun b => f b % 16 + f b / 16) l (n / 256) = r at ih ⊢
    generalize sB f l (n / 256) = m at ih hm ⊢
    generalize f (n % 256) = b at hb ⊢
    refine ⟨?_, by omega⟩
    rw [and_spl (by decide), show (b + 256 * m + (b + 256 * m) / 16) / 256 = m + m / 16 by omega, ih]
    have e4 := Nat.and_two_pow_sub_one_eq_mod ((b + 256 * m + (b + 256 * m) / 16) % 256) 4
    rw [show (2 : Nat) ^ 4 - 1 = 15 from rfl, show (2 : Nat) ^ 4 = 16 from rfl] at e4
    rw [e4]
    omega
theorem sB_cp {f g : Nat → Nat} (hf : ∀ b, b < 256 → f b < 256) : ∀ l n, sB g l (sB f l n) = sB (fun b => g (f b)) l n
  | 0, _ => rfl
  | l + 1, n => by
    have hb := hf (n % 256) (by omega)
    show g ((f (n % 256) + 256 * sB f l (n / 256)) % 256) + 256 * sB g l ((f (n % 256) + 256 * sB f l (n / 256)) / 256) = g (f (n % 256)) + 256 * sB (fun b => g (f b)) l (n / 256)
    rw [show (f (n % 256) + 256 * sB f l (n / 256)) % 256 = f (n % 256) by omega, show (f (n % 256) + 256 * sB f l (n / 256)) / 256 = sB f l (n / 256) by omega, sB_cp hf l]
theorem p8a {p0 p1 p2 y2 y3 : Nat} (h0 : p0 ≤ 8) (h1 : p1 ≤ 8) (h2 : p2 ≤ 8) : (p0 + 256 * (p1 + 256 * y2) + (p1 + 256 * (p2 + 256 * y3))) / 65536 = y2 + y3 := by omega
theorem p8b {q0 q1 q2 q3 r0 r1 r2 r3 y z : Nat} (h0 : q0 ≤ 16) (h1 : q1 ≤ 16) (h2 : q2 ≤ 16) (h3 : q3 ≤ 16) (g0 : r0 ≤ 16) (g1 : r1 ≤ 16) (g2 : r2 ≤ 16) (g3 : r3 ≤ 16) : (q0 + 256 * (q1 + 256 * (q2 + 256 * (q3 + 256 * y))) + (r0 + 256 * (r1 + 256 * (r2 + 256 * (r3 + 256 * z))))) / 4294967296 = y + z := by
  have e : q0 + 256 * (q1 + 256 * (q2 + 256 * (q3 + 256 * y))) + (r0 + 256 * (r1 + 256 * (r2 + 256 * (r3 + 256 * z)))) = (q0 + r0 + 256 * (q1 + r1) + 65536 * (q2 + r2) + 16777216 * (q3 + r3)) + 4294967296 * (y + z) := by omega
  have l : q0 + r0 + 256 * (q1 + r1) + 65536 * (q2 + r2) + 16777216 * (q3 + r3) < 4294967296 := by omega
  rw [e]
  generalize q0 + r0 + 256 * (q1 + r1) + 65536 * (q2 + r2) + 16777216 * (q3 + r3) = u at l ⊢
  omega
theorem p8c {s K : Nat} (h : s ≤ 64) : (s + 256 * K) % 128 = s := by omega
theorem p8d (p0 p1 p2 p3 p4 p5 p6 p7 : Nat) (h0 : p0 ≤ 8) (h1 : p1 ≤ 8) (h2 : p2 ≤ 8) (h3 : p3 ≤ 8) (h4 : p4 ≤ 8) (h5 : p5 ≤ 8) (h6 : p6 ≤ 8) (h7 : p7 ≤ 8) : p0 + 256 * (p1 + 256 * (p2 + 256 * (p3 + 256 * (p4 + 256 * (p5 + 256 * (p6 + 256 * (p7 + 256 * 0))))))) < 1000000000000000000 := by omega
theorem ps8 (p0 p1 p2 p3 p4 p5 p6 p7 : Nat) (h0 : p0 ≤ 8) (h1 : p1 ≤ 8) (h2 : p2 ≤ 8) (h3 : p3 ≤ 8) (h4 : p4 ≤ 8) (h5 : p5 ≤ 8) (h6 : p6 ≤ 8) (h7 : p7 ≤ 8) (x a b c : Nat) (hx : x = p0 + 256 * (p1 + 256 * (p2 + 256 * (p3 + 256 * (p4 + 256 * (p5 + 256 * (p6 + 256 * (p7 + 256 * 0)))))))) (ha : a = x + x / 256) (hb : b = a + a / 65536) (hc : c = b + b / 4294967296) : c % 128 = p0 + (p1 + (p2 + (p3 + (p4 + (p5 + (p6 + (p7 + 0))))))) ∧ x < 2 ^ 61 ∧ a < 2 ^ 62 ∧ b < 2 ^ 63 := by
  have hl := p8d p0 p1 p2 p3 p4 p5 p6 p7 h0 h1 h2 h3 h4 h5 h6 h7
  rw [← hx] at hl
  have bx : x < 2 ^ 61 ∧ a < 2 ^ 62 ∧ b < 2 ^ 63 := by clear hx hc; omega
  refine ⟨?_, bx⟩
  clear hl bx
  rw [show p7 + 256 * 0 = p7 from rfl] at hx
  generalize e6 : p6 + 256 * p7 = y6 at hx
  generalize e5 : p5 + 256 * y6 = y5 at hx
  generalize e4 : p4 + 256 * y5 = y4 at hx
  generalize e3 : p3 + 256 * y4 = y3 at hx
  generalize e2 : p2 + 256 * y3 = y2 at hx
  have d1 : x / 256 = p1 + 256 * y2 := by clear ha hb hc e2 e3 e4 e5 e6; omega
  rw [d1, hx] at ha
  have d2 : a / 65536 = y2 + y3 := by rw [ha]; clear ha hb hc d1; rw [← e2]; exact p8a h0 h1 h2
  rw [d2] at hb
  have d3 : a = (p0 + p1) + 256 * ((p1 + p2) + 256 * ((p2 + p3) + 256 * ((p3 + p4) + 256 * (y4 + y5)))) := by rw [ha, ← e2, ← e3, ← e4]; clear ha hb hc d1 d2 hx e2 e3 e4 e5 e6; omega
  have d4 : y2 + y3 = (p2 + p3) + 256 * ((p3 + p4) + 256 * ((p4 + p5) + 256 * ((p5 + p6) + 256 * (y6 + p7)))) := by rw [← e2, ← e3, ← e4, ← e5, ← e6]; clear ha hb hc d1 d2 d3 hx e2 e3 e4 e5 e6; omega
  have d5 : b / 4294967296 = (y4 + y5) + (y6 + p7) := by rw [hb, d3, d4]; clear ha hb hc d1 d2 d3 d4 hx e2 e3 e4 e5 e6; exact p8b (by omega) (by omega) (by omega) (by omega) (by omega) (by omega) (by omega) (by omega)
  rw [d5, hb, d3, d4] at hc
  have d6 : c = (p0 + p1 + p2 + p3 + p4 + p5 + p6 + p7) + 256 * (((p1 + p2) + 256 * ((p2 + p3) + 256 * ((p3 + p4) + 256 * (y4 + y5)))) + ((p3 + p4) + 256 * ((p4 + p5) + 256 * ((p5 + p6) + 256 * (y6 + p7)))) + y5 + y6 + p7) := by rw [hc]; clear ha hb hc d1 d2 d3 d4 d5 hx e2 e3; omega
  rw [d6, p8c (by clear ha hb hc d1 d2 d3 d4 d5 d6 hx e2 e3 e4 e5 e6; omega)]
  clear ha hb hc d1 d2 d3 d4 d5 d6 hx e2 e3 e4 e5 e6
  omega
/-! longs by naturals -/
theorem L_and {a b : Nat} (ha : a < 2 ^ 64) (hb : b < 2 ^ 64) : lAnd (lN a).toInt (lN b).toInt = (lN (a &&& b)).toInt := by rw [lAnd_def, o64, o64, wb_and ha hb]
theorem L_shr {a k : Nat} (ha : a < 2 ^ 64) (hk : k < 64) : lUshr (lN a).toInt (k : Int) = (lN (a / 2 ^ k)).toInt := by rw [lUshr_def, o64, ofI, wb_shr ha hk]
theorem L_add (a b : Nat) : w64 ((lN a).toInt + (lN b).toInt) = (lN (a + b)).toInt := by
  rw [← t64_add]
  congr 1
  apply wb_inj
  rw [Int64.toBitVec_add, wb_tb, wb_tb, wb_tb, BitVec.ofNat_add]
theorem L_sub {a b : Nat} (h : b ≤ a) : w64 ((lN a).toInt - (lN b).toInt) = (lN (a - b)).toInt := by
  obtain ⟨c, rfl⟩ : ∃ c, a = c + b := ⟨a - b, by omega⟩
  rw [← t64_sub, Nat.add_sub_cancel]
  congr 1
  apply wb_inj
  rw [Int64.toBitVec_sub, wb_tb, wb_tb, wb_tb, BitVec.ofNat_add, BitVec.add_sub_cancel]
theorem L_w (a : Nat) : (lN a).toInt = w64 a := by
  rw [w64_bmod]
  exact BitVec.toInt_ofNat' a
theorem I_w (a : Nat) : (nI a).toInt = w32 a := by
  rw [w32_bmod]
  exact BitVec.toInt_ofNat' a
theorem L_127 (a : Nat) : bAnd (w32 (lN a).toInt) 127 = (a % 128 : Nat) := by
  rw [L_w]
  have hz := w32_def (w64 a)
  have hw := w64_def a
  have hr : (Int32.ofInt (w32 (w64 a))).toInt = w32 (w64 a) := t32_of (by omega) (by omega)
  obtain ⟨n, hn, he⟩ := wb_of32 (Int32.ofInt (w32 (w64 a)))
  rw [he, I_w, w32_def n] at hr
  have e4 := Nat.and_two_pow_sub_one_eq_mod n 7
  rw [show (2 : Nat) ^ 7 - 1 = 127 from rfl, show (2 : Nat) ^ 7 = 128 from rfl] at e4
  rw [bAnd_def, he, show Int32.ofInt 127 = nI 127 from rfl, z_nxand, e4, nI_toInt (by omega)]
  omega
theorem L_of (z : Int) : w64 z = (Int64.ofInt z).toInt := by
  rw [w64_bmod, Int64.toInt_ofInt]
/-! the count -/
noncomputable def lc1 (z : Int) : Int := w64 (z - lAnd (lUshr z 1) 6148914691236517205)
noncomputable def lc2 (z : Int) : Int := w64 (lAnd z 3689348814741910323 + lAnd (lUshr z 2) 3689348814741910323)
noncomputable def lc3 (z : Int) : Int := lAnd (w64 (z + lUshr z 4)) 1085102592571150095
noncomputable def lc4 (z : Int) : Int := w64 (z + lUshr z 8)
noncomputable def lc5 (z : Int) : Int := w64 (z + lUshr z 16)
noncomputable def lc6 (z : Int) : Int := w64 (z + lUshr z 32)
noncomputable def lc7 (z : Int) : Int := bAnd (w32 z) 127
theorem sB_lt {f : Nat → Nat} (hf : ∀ b, b < 256 → f b < 256) : ∀ l n, sB f l n < 256 ^ l
  | 0, _ => Nat.zero_lt_one
  | l + 1, n => by
    have h1 := hf (n % 256) (by omega)
    have h2 := sB_lt hf l (n / 256)
    show f (n % 256) + 256 * sB f l (n / 256) < _
    rw [Nat.pow_succ]
    omega
theorem lc_val {z : Int} {n : Nat} (hn : n < 2 ^ 64) (he : Int64.ofInt z = lN n) : lc7 (lc6 (lc5 (lc4 (lc3 (lc2 (lc1 z)))))) = (tB pf3 8 n : Nat) := by
  have c1 : (6148914691236517205 : Int) = (lN (cB 85 8)).toInt := by decide +kernel
  have c2 : (3689348814741910323 : Int) = (lN (cB 51 8)).toInt := by decide +kernel
  have c3 : (1085102592571150095 : Int) = (lN (cB 15 8)).toInt := by decide +kernel
  have hz : w64 z = (lN n).toInt := by rw [L_of, he]
  have k1 : cB 85 8 < 2 ^ 64 := by decide
  have k2 : cB 51 8 < 2 ^ 64 := by decide
  have k3 : cB 15 8 < 2 ^ 64 := by decide
  have p1 := ps1 8 n (by have : (256 : Nat) ^ 8 = 2 ^ 64 := by decide
                         omega)
  have e1 : lc1 z = (lN (sB pf1 8 n)).toInt := by
    unfold lc1
    have a1 : lAnd (lUshr z 1) 6148914691236517205 = (lN (n / 2 &&& cB 85 8)).toInt := by
      rw [c1, show lUshr z 1 = (lN (n / 2)).toInt from ?_, L_and (by omega) k1]
      rw [lUshr_def, he, show Int32.ofInt 1 = nI 1 from rfl, wb_shr hn (by decide)]
    have a2 : w64 (z - (lN (n / 2 &&& cB 85 8)).toInt) = w64 (w64 z - (lN (n / 2 &&& cB 85 8)).toInt) := by
      rw [w64_def, w64_def (w64 z - _), w64_def z]
      omega
    rw [a1, a2, hz, L_sub (by omega)]
    congr 2
    omega
  have l1 : sB pf1 8 n < 2 ^ 64 := by
    have := sB_lt (fun b hb => (pt4 b hb).1) 8 n
    exact this
  have e2 : lc2 (lc1 z) = (lN (sB (fun b => pf2 (pf1 b)) 8 n)).toInt := by
    rw [e1, ← sB_cp (fun b hb => (pt4 b hb).1) 8 n]
    generalize sB pf1 8 n = x at l1 ⊢
    unfold lc2
    have a1 := L_shr (k := 2) l1 (by decide)
    rw [show ((2 : Nat) : Int) = 2 from rfl] at a1
    rw [c2, a1, L_and l1 k2, L_and (by omega) k2, L_add, show (2 : Nat) ^ 2 = 4 from rfl, ps2]
  have l2 : sB (fun b => pf2 (pf1 b)) 8 n < 2 ^ 63 := by
    have h : ∀ b, b < 256 → pf2 (pf1 b) ≤ 68 := by decide +kernel
    have h7 : ∀ l m, 3 * sB (fun b => pf2 (pf1 b)) l m + 1 ≤ 256 ^ l := by
      intro l
      induction l with
      | zero => intro m; exact Nat.le_refl 1
      | succ l ih =>
        intro m
        have h1 := h (m % 256) (by omega)
        have h2 := ih (m / 256)
        show 3 * (pf2 (pf1 (m % 256)) + 256 * sB (fun b => pf2 (pf1 b)) l (m / 256)) + 1 ≤ _
        rw [Nat.pow_succ]
        generalize sB (fun b => pf2 (pf1 b)) l (m / 256) = s at h2 ⊢
        generalize 256 ^ l = P at h2 ⊢
        generalize pf2 (pf1 (m % 256)) = t at h1 ⊢
        omega
    have h8 := h7 8 n
    generalize sB (fun b => pf2 (pf1 b)) 8 n = s at h8 ⊢
    rw [show (256 : Nat) ^ 8 = 18446744073709551616 by decide] at h8
    rw [show (2 : Nat) ^ 63 = 9223372036854775808 by decide]
    omega
  have p3 := (ps3 (f := fun b => pf2 (pf1 b)) (fun b hb => ⟨(pt4 b hb).2.1, (pt4 b hb).2.2.1⟩) 8 n).1
  have e3 : lc3 (lc2 (lc1 z)) = (lN (sB pf3 8 n)).toInt := by
    rw [e2]
    generalize sB (fun b => pf2 (pf1 b)) 8 n = x at l2 p3 ⊢
    unfold lc3
    have a1 := L_shr (a := x) (k := 4) (by omega) (by decide)
    rw [show ((4 : Nat) : Int) = 4 from rfl] at a1
    rw [c3, a1, L_add, L_and (by omega) k3, show (2 : Nat) ^ 4 = 16 from rfl, p3]
    rfl
  have hp : ∀ b, pf3 (b % 256) ≤ 8 := fun b => (pt4 (b % 256) (by omega)).2.2.2
  have q := ps8 _ _ _ _ _ _ _ _ (hp n) (hp (n / 256)) (hp (n / 256 / 256)) (hp (n / 256 / 256 / 256)) (hp (n / 256 / 256 / 256 / 256)) (hp (n / 256 / 256 / 256 / 256 / 256)) (hp (n / 256 / 256 / 256 / 256 / 256 / 256)) (hp (n / 256 / 256 / 256 / 256 / 256 / 256 / 256)) (sB pf3 8 n) _ _ _ rfl rfl rfl rfl
  rw [e3]
  have et : tB pf3 8 n = pf3 (n % 256) + (pf3 (n / 256 % 256) + (pf3 (n / 256 / 256 % 256) + (pf3 (n / 256 / 256 / 256 % 256) + (pf3 (n / 256 / 256 / 256 / 256 % 256) + (pf3 (n / 256 / 256 / 256 / 256 / 256 % 256) + (pf3 (n / 256 / 256 / 256 / 256 / 256 / 256 % 256) + (pf3 (n / 256 / 256 / 256 / 256 / 256 / 256 / 256 % 256) + 0))))))) := rfl
  rw [et]
  generalize sB pf3 8 n = x at q ⊢
  obtain ⟨q1, q2, q3, q4⟩ := q
  have a1 := L_shr (a := x) (k := 8) (by omega) (by decide)
  have a2 := L_shr (a := x + x / 256) (k := 16) (by omega) (by decide)
  have a3 := L_shr (a := x + x / 256 + (x + x / 256) / 65536) (k := 32) (by omega) (by decide)
  rw [show ((8 : Nat) : Int) = 8 from rfl, show (2 : Nat) ^ 8 = 256 from rfl] at a1
  rw [show ((16 : Nat) : Int) = 16 from rfl, show (2 : Nat) ^ 16 = 65536 from rfl] at a2
  rw [show ((32 : Nat) : Int) = 32 from rfl, show (2 : Nat) ^ 32 = 4294967296 from rfl] at a3
  unfold lc7 lc6 lc5 lc4
  rw [a1, L_add, a2, L_add, a3, L_add, L_127, q1]
theorem sumZ_sh (g : Nat → Int) : ∀ k m, sumZ g (m + k) = sumZ g m + sumZ (fun c => g (m + c)) k
  | 0, m => by simp [sumZ]
  | k + 1, m => by
    show sumZ g (m + k) + g (m + k) = sumZ g m + (sumZ (fun c => g (m + c)) k + g (m + k))
    rw [sumZ_sh g k m]
    omega
theorem sumZ_cg {f g : Nat → Int} : ∀ k, (∀ c, c < k → f c = g c) → sumZ f k = sumZ g k
  | 0, _ => rfl
  | k + 1, h => by
    show sumZ f k + f k = sumZ g k + g k
    rw [sumZ_cg k (fun c hc => h c (by omega)), h k (by omega)]
theorem tB_sum : ∀ l n, ((tB pf3 l n : Nat) : Int) = sumZ (fun c => b2 (n.testBit c)) (8 * l)
  | 0, _ => rfl
  | l + 1, n => by
    have e : 8 * (l + 1) = 8 + 8 * l := by omega
    rw [e, sumZ_sh]
    have e2 : sumZ (fun c => b2 (n.testBit (8 + c))) (8 * l) = sumZ (fun c => b2 ((n / 256).testBit c)) (8 * l) := by
      refine sumZ_cg _ (fun c _ => ?_)
      rw [show (n / 256).testBit c = n.testBit (c + 8) from Nat.testBit_div_two_pow (n := 8) n c, Nat.add_comm]
    rw [e2, ← tB_sum l (n / 256)]
    show (((pf3 (n % 256) + tB pf3 l (n / 256) : Nat)) : Int) = (0 + b2 (n.testBit 0) + b2 (n.testBit 1) + b2 (n.testBit 2) + b2 (n.testBit 3) + b2 (n.testBit 4) + b2 (n.testBit 5) + b2 (n.testBit 6) + b2 (n.testBit 7)) + _
    have hb : ∀ c, b2 (n.testBit c) = ((n / 2 ^ c % 2 : Nat) : Int) := by
      intro c
      rw [Nat.testBit_eq_decide_div_mod_eq]
      unfold b2
      rcases Nat.mod_two_eq_zero_or_one (n / 2 ^ c) with h | h <;> rw [h] <;> rfl
    rw [pt5 _ (by omega), hb, hb, hb, hb, hb, hb, hb, hb]
    simp only [Nat.reducePow, Nat.div_one]
    omega
theorem lc_sum (z : Int) : lc7 (lc6 (lc5 (lc4 (lc3 (lc2 (lc1 z)))))) = sumZ (fun c => b2 (lb z c)) 64 := by
  obtain ⟨n, hn, he⟩ := wb_of (Int64.ofInt z)
  rw [lc_val hn he, tB_sum]
  refine sumZ_cg _ (fun c hc => ?_)
  unfold lb
  rw [he, lb_nat, decide_eq_true (by omega), Bool.true_and]
set_option maxRecDepth 100000 in
theorem c_lbitCount (M : XM) (z : Int) : CW mi_J13_bitCount_95d88 [xL z] M (pI M (sumZ (fun c => b2 (lb z c)) 64)) := by
  rw [← lc_sum]
  have e1 : w64 (z - lAnd (lUshr z 1) 6148914691236517205) = lc1 z := rfl
  generalize lc1 z = z1 at e1 ⊢
  have e2 : w64 (lAnd z1 3689348814741910323 + lAnd (lUshr z1 2) 3689348814741910323) = lc2 z1 := rfl
  generalize lc2 z1 = z2 at e2 ⊢
  have e3 : lAnd (w64 (z2 + lUshr z2 4)) 1085102592571150095 = lc3 z2 := rfl
  generalize lc3 z2 = z3 at e3 ⊢
  have e4 : w64 (z3 + lUshr z3 8) = lc4 z3 := rfl
  generalize lc4 z3 = z4 at e4 ⊢
  have e5 : w64 (z4 + lUshr z4 16) = lc5 z4 := rfl
  generalize lc5 z4 = z5 at e5 ⊢
  have e6 : w64 (z5 + lUshr z5 32) = lc6 z5 := rfl
  generalize lc6 z5 = z6 at e6 ⊢
  have e7 : bAnd (w32 z6) 127 = lc7 z6 := rfl
  generalize lc7 z6 = z7 at e7 ⊢
  refine in_J13_bitCount_95d88 (Nat.le_of_ble_eq_true rfl) ?_
  refine st_J13_bitCount_95d88 [] 20 ?_
  simp only [sy, xisC, sxI, xgI, xgL, xgR, xent, xargs0, p1i, p2i, p1l, p2l, pli, p1r, pir, piir, plir, pvr, pdup, pdup2, pret, xjmp, xcon, xfd, xcl_, xcall, xbr, xsw, xtsw, xst1, xst2, xkill, xpush, xcat, xcl, xar, xkd, xrf, xmask, mR, mL, List.getElem?_cons_zero, List.getElem?_cons_succ, List.lookup_nil, List.lookup_cons, Nat.reduceAdd, Nat.reduceSub, Nat.reduceLeDiff, Nat.reduceEqDiff, Nat.reduceBEq, List.length_cons, List.length_nil, List.replicate, List.append_nil, List.nil_append, List.cons_append, List.set_cons_zero, List.set_cons_succ, List.take_succ_cons, List.take_zero, List.drop_succ_cons, List.drop_zero, List.reverse_cons, List.reverse_nil, List.map_cons, List.map_nil, List.sum_cons, List.sum_nil, decide_true, decide_false, and_self, and_true, true_and, true_or, or_true, Fin.isValue, Fin.val_zero, Fin.val_one, Fin.val_two, Fin.reduceFinMk, Nat.reduceMod, Option.some.injEq, Sum.inl.injEq, Sum.inr.injEq, Prod.mk.injEq, eq_self, reduceCtorEq, imp_self, implies_true, Nat.zero_add, Nat.add_zero, Nat.zero_le, Int.reduceEq, Int.reduceLT, Int.reduceLE, Int.reduceNeg, not_true, not_false_iff, false_imp_iff, true_imp_iff, forall_const, or_self, or_false, false_or, and_false, false_and, ↓reduceIte, z_0, z_1, z_f1, z_f2, z_f3, Int.reduceToNat, Int.reduceAdd, ct_J13_bitCount_95d88, mi_J13_bitCount_95d88]
  refine st_J13_bitCount_95d88 [] 20 ?_
  simp only [sy, xisC, sxI, xgI, xgL, xgR, xent, xargs0, p1i, p2i, p1l, p2l, pli, p1r, pir, piir, plir, pvr, pdup, pdup2, pret, xjmp, xcon, xfd, xcl_, xcall, xbr, xsw, xtsw, xst1, xst2, xkill, xpush, xcat, xcl, xar, xkd, xrf, xmask, mR, mL, List.getElem?_cons_zero, List.getElem?_cons_succ, List.lookup_nil, List.lookup_cons, Nat.reduceAdd, Nat.reduceSub, Nat.reduceLeDiff, Nat.reduceEqDiff, Nat.reduceBEq, List.length_cons, List.length_nil, List.replicate, List.append_nil, List.nil_append, List.cons_append, List.set_cons_zero, List.set_cons_succ, List.take_succ_cons, List.take_zero, List.drop_succ_cons, List.drop_zero, List.reverse_cons, List.reverse_nil, List.map_cons, List.map_nil, List.sum_cons, List.sum_nil, decide_true, decide_false, and_self, and_true, true_and, true_or, or_true, Fin.isValue, Fin.val_zero, Fin.val_one, Fin.val_two, Fin.reduceFinMk, Nat.reduceMod, Option.some.injEq, Sum.inl.injEq, Sum.inr.injEq, Prod.mk.injEq, eq_self, reduceCtorEq, imp_self, implies_true, Nat.zero_add, Nat.add_zero, Nat.zero_le, Int.reduceEq, Int.reduceLT, Int.reduceLE, Int.reduceNeg, not_true, not_false_iff, false_imp_iff, true_imp_iff, forall_const, or_self, or_false, false_or, and_false, false_and, ↓reduceIte, z_0, z_1, z_f1, z_f2, z_f3, Int.reduceToNat, Int.reduceAdd, ct_J13_bitCount_95d88, mi_J13_bitCount_95d88]
  refine st_J13_bitCount_95d88 [] 20 ?_
  simp only [sy, xisC, sxI, xgI, xgL, xgR, xent, xargs0, p1i, p2i, p1l, p2l, pli, p1r, pir, piir, plir, pvr, pdup, pdup2, pret, xjmp, xcon, xfd, xcl_, xcall, xbr, xsw, xtsw, xst1, xst2, xkill, xpush, xcat, xcl, xar, xkd, xrf, xmask, mR, mL, List.getElem?_cons_zero, List.getElem?_cons_succ, List.lookup_nil, List.lookup_cons, Nat.reduceAdd, Nat.reduceSub, Nat.reduceLeDiff, Nat.reduceEqDiff, Nat.reduceBEq, List.length_cons, List.length_nil, List.replicate, List.append_nil, List.nil_append, List.cons_append, List.set_cons_zero, List.set_cons_succ, List.take_succ_cons, List.take_zero, List.drop_succ_cons, List.drop_zero, List.reverse_cons, List.reverse_nil, List.map_cons, List.map_nil, List.sum_cons, List.sum_nil, decide_true, decide_false, and_self, and_true, true_and, true_or, or_true, Fin.isValue, Fin.val_zero, Fin.val_one, Fin.val_two, Fin.reduceFinMk, Nat.reduceMod, Option.some.injEq, Sum.inl.injEq, Sum.inr.injEq, Prod.mk.injEq, eq_self, reduceCtorEq, imp_self, implies_true, Nat.zero_add, Nat.add_zero, Nat.zero_le, Int.reduceEq, Int.reduceLT, Int.reduceLE, Int.reduceNeg, not_true, not_false_iff, false_imp_iff, true_imp_iff, forall_const, or_self, or_false, false_or, and_false, false_and, ↓reduceIte, z_0, z_1, z_f1, z_f2, z_f3, Int.reduceToNat, Int.reduceAdd, ct_J13_bitCount_95d88, mi_J13_bitCount_95d88, e1]
  refine st_J13_bitCount_95d88 [] 20 ?_
  simp only [sy, xisC, sxI, xgI, xgL, xgR, xent, xargs0, p1i, p2i, p1l, p2l, pli, p1r, pir, piir, plir, pvr, pdup, pdup2, pret, xjmp, xcon, xfd, xcl_, xcall, xbr, xsw, xtsw, xst1, xst2, xkill, xpush, xcat, xcl, xar, xkd, xrf, xmask, mR, mL, List.getElem?_cons_zero, List.getElem?_cons_succ, List.lookup_nil, List.lookup_cons, Nat.reduceAdd, Nat.reduceSub, Nat.reduceLeDiff, Nat.reduceEqDiff, Nat.reduceBEq, List.length_cons, List.length_nil, List.replicate, List.append_nil, List.nil_append, List.cons_append, List.set_cons_zero, List.set_cons_succ, List.take_succ_cons, List.take_zero, List.drop_succ_cons, List.drop_zero, List.reverse_cons, List.reverse_nil, List.map_cons, List.map_nil, List.sum_cons, List.sum_nil, decide_true, decide_false, and_self, and_true, true_and, true_or, or_true, Fin.isValue, Fin.val_zero, Fin.val_one, Fin.val_two, Fin.reduceFinMk, Nat.reduceMod, Option.some.injEq, Sum.inl.injEq, Sum.inr.injEq, Prod.mk.injEq, eq_self, reduceCtorEq, imp_self, implies_true, Nat.zero_add, Nat.add_zero, Nat.zero_le, Int.reduceEq, Int.reduceLT, Int.reduceLE, Int.reduceNeg, not_true, not_false_iff, false_imp_iff, true_imp_iff, forall_const, or_self, or_false, false_or, and_false, false_and, ↓reduceIte, z_0, z_1, z_f1, z_f2, z_f3, Int.reduceToNat, Int.reduceAdd, ct_J13_bitCount_95d88, mi_J13_bitCount_95d88]
  refine st_J13_bitCount_95d88 [] 20 ?_
  simp only [sy, xisC, sxI, xgI, xgL, xgR, xent, xargs0, p1i, p2i, p1l, p2l, pli, p1r, pir, piir, plir, pvr, pdup, pdup2, pret, xjmp, xcon, xfd, xcl_, xcall, xbr, xsw, xtsw, xst1, xst2, xkill, xpush, xcat, xcl, xar, xkd, xrf, xmask, mR, mL, List.getElem?_cons_zero, List.getElem?_cons_succ, List.lookup_nil, List.lookup_cons, Nat.reduceAdd, Nat.reduceSub, Nat.reduceLeDiff, Nat.reduceEqDiff, Nat.reduceBEq, List.length_cons, List.length_nil, List.replicate, List.append_nil, List.nil_append, List.cons_append, List.set_cons_zero, List.set_cons_succ, List.take_succ_cons, List.take_zero, List.drop_succ_cons, List.drop_zero, List.reverse_cons, List.reverse_nil, List.map_cons, List.map_nil, List.sum_cons, List.sum_nil, decide_true, decide_false, and_self, and_true, true_and, true_or, or_true, Fin.isValue, Fin.val_zero, Fin.val_one, Fin.val_two, Fin.reduceFinMk, Nat.reduceMod, Option.some.injEq, Sum.inl.injEq, Sum.inr.injEq, Prod.mk.injEq, eq_self, reduceCtorEq, imp_self, implies_true, Nat.zero_add, Nat.add_zero, Nat.zero_le, Int.reduceEq, Int.reduceLT, Int.reduceLE, Int.reduceNeg, not_true, not_false_iff, false_imp_iff, true_imp_iff, forall_const, or_self, or_false, false_or, and_false, false_and, ↓reduceIte, z_0, z_1, z_f1, z_f2, z_f3, Int.reduceToNat, Int.reduceAdd, ct_J13_bitCount_95d88, mi_J13_bitCount_95d88]
  refine st_J13_bitCount_95d88 [] 20 ?_
  simp only [sy, xisC, sxI, xgI, xgL, xgR, xent, xargs0, p1i, p2i, p1l, p2l, pli, p1r, pir, piir, plir, pvr, pdup, pdup2, pret, xjmp, xcon, xfd, xcl_, xcall, xbr, xsw, xtsw, xst1, xst2, xkill, xpush, xcat, xcl, xar, xkd, xrf, xmask, mR, mL, List.getElem?_cons_zero, List.getElem?_cons_succ, List.lookup_nil, List.lookup_cons, Nat.reduceAdd, Nat.reduceSub, Nat.reduceLeDiff, Nat.reduceEqDiff, Nat.reduceBEq, List.length_cons, List.length_nil, List.replicate, List.append_nil, List.nil_append, List.cons_append, List.set_cons_zero, List.set_cons_succ, List.take_succ_cons, List.take_zero, List.drop_succ_cons, List.drop_zero, List.reverse_cons, List.reverse_nil, List.map_cons, List.map_nil, List.sum_cons, List.sum_nil, decide_true, decide_false, and_self, and_true, true_and, true_or, or_true, Fin.isValue, Fin.val_zero, Fin.val_one, Fin.val_two, Fin.reduceFinMk, Nat.reduceMod, Option.some.injEq, Sum.inl.injEq, Sum.inr.injEq, Prod.mk.injEq, eq_self, reduceCtorEq, imp_self, implies_true, Nat.zero_add, Nat.add_zero, Nat.zero_le, Int.reduceEq, Int.reduceLT, Int.reduceLE, Int.reduceNeg, not_true, not_false_iff, false_imp_iff, true_imp_iff, forall_const, or_self, or_false, false_or, and_false, false_and, ↓reduceIte, z_0, z_1, z_f1, z_f2, z_f3, Int.reduceToNat, Int.reduceAdd, ct_J13_bitCount_95d88, mi_J13_bitCount_95d88, e2]
  refine st_J13_bitCount_95d88 [] 20 ?_
  simp only [sy, xisC, sxI, xgI, xgL, xgR, xent, xargs0, p1i, p2i, p1l, p2l, pli, p1r, pir, piir, plir, pvr, pdup, pdup2, pret, xjmp, xcon, xfd, xcl_, xcall, xbr, xsw, xtsw, xst1, xst2, xkill, xpush, xcat, xcl, xar, xkd, xrf, xmask, mR, mL, List.getElem?_cons_zero, List.getElem?_cons_succ, List.lookup_nil, List.lookup_cons, Nat.reduceAdd, Nat.reduceSub, Nat.reduceLeDiff, Nat.reduceEqDiff, Nat.reduceBEq, List.length_cons, List.length_nil, List.replicate, List.append_nil, List.nil_append, List.cons_append, List.set_cons_zero, List.set_cons_succ, List.take_succ_cons, List.take_zero, List.drop_succ_cons, List.drop_zero, List.reverse_cons, List.reverse_nil, List.map_cons, List.map_nil, List.sum_cons, List.sum_nil, decide_true, decide_false, and_self, and_true, true_and, true_or, or_true, Fin.isValue, Fin.val_zero, Fin.val_one, Fin.val_two, Fin.reduceFinMk, Nat.reduceMod, Option.some.injEq, Sum.inl.injEq, Sum.inr.injEq, Prod.mk.injEq, eq_self, reduceCtorEq, imp_self, implies_true, Nat.zero_add, Nat.add_zero, Nat.zero_le, Int.reduceEq, Int.reduceLT, Int.reduceLE, Int.reduceNeg, not_true, not_false_iff, false_imp_iff, true_imp_iff, forall_const, or_self, or_false, false_or, and_false, false_and, ↓reduceIte, z_0, z_1, z_f1, z_f2, z_f3, Int.reduceToNat, Int.reduceAdd, ct_J13_bitCount_95d88, mi_J13_bitCount_95d88, e3]
  refine st_J13_bitCount_95d88 [] 20 ?_
  simp only [sy, xisC, sxI, xgI, xgL, xgR, xent, xargs0, p1i, p2i, p1l, p2l, pli, p1r, pir, piir, plir, pvr, pdup, pdup2, pret, xjmp, xcon, xfd, xcl_, xcall, xbr, xsw, xtsw, xst1, xst2, xkill, xpush, xcat, xcl, xar, xkd, xrf, xmask, mR, mL, List.getElem?_cons_zero, List.getElem?_cons_succ, List.lookup_nil, List.lookup_cons, Nat.reduceAdd, Nat.reduceSub, Nat.reduceLeDiff, Nat.reduceEqDiff, Nat.reduceBEq, List.length_cons, List.length_nil, List.replicate, List.append_nil, List.nil_append, List.cons_append, List.set_cons_zero, List.set_cons_succ, List.take_succ_cons, List.take_zero, List.drop_succ_cons, List.drop_zero, List.reverse_cons, List.reverse_nil, List.map_cons, List.map_nil, List.sum_cons, List.sum_nil, decide_true, decide_false, and_self, and_true, true_and, true_or, or_true, Fin.isValue, Fin.val_zero, Fin.val_one, Fin.val_two, Fin.reduceFinMk, Nat.reduceMod, Option.some.injEq, Sum.inl.injEq, Sum.inr.injEq, Prod.mk.injEq, eq_self, reduceCtorEq, imp_self, implies_true, Nat.zero_add, Nat.add_zero, Nat.zero_le, Int.reduceEq, Int.reduceLT, Int.reduceLE, Int.reduceNeg, not_true, not_false_iff, false_imp_iff, true_imp_iff, forall_const, or_self, or_false, false_or, and_false, false_and, ↓reduceIte, z_0, z_1, z_f1, z_f2, z_f3, Int.reduceToNat, Int.reduceAdd, ct_J13_bitCount_95d88, mi_J13_bitCount_95d88]
  refine st_J13_bitCount_95d88 [] 20 ?_
  simp only [sy, xisC, sxI, xgI, xgL, xgR, xent, xargs0, p1i, p2i, p1l, p2l, pli, p1r, pir, piir, plir, pvr, pdup, pdup2, pret, xjmp, xcon, xfd, xcl_, xcall, xbr, xsw, xtsw, xst1, xst2, xkill, xpush, xcat, xcl, xar, xkd, xrf, xmask, mR, mL, List.getElem?_cons_zero, List.getElem?_cons_succ, List.lookup_nil, List.lookup_cons, Nat.reduceAdd, Nat.reduceSub, Nat.reduceLeDiff, Nat.reduceEqDiff, Nat.reduceBEq, List.length_cons, List.length_nil, List.replicate, List.append_nil, List.nil_append, List.cons_append, List.set_cons_zero, List.set_cons_succ, List.take_succ_cons, List.take_zero, List.drop_succ_cons, List.drop_zero, List.reverse_cons, List.reverse_nil, List.map_cons, List.map_nil, List.sum_cons, List.sum_nil, decide_true, decide_false, and_self, and_true, true_and, true_or, or_true, Fin.isValue, Fin.val_zero, Fin.val_one, Fin.val_two, Fin.reduceFinMk, Nat.reduceMod, Option.some.injEq, Sum.inl.injEq, Sum.inr.injEq, Prod.mk.injEq, eq_self, reduceCtorEq, imp_self, implies_true, Nat.zero_add, Nat.add_zero, Nat.zero_le, Int.reduceEq, Int.reduceLT, Int.reduceLE, Int.reduceNeg, not_true, not_false_iff, false_imp_iff, true_imp_iff, forall_const, or_self, or_false, false_or, and_false, false_and, ↓reduceIte, z_0, z_1, z_f1, z_f2, z_f3, Int.reduceToNat, Int.reduceAdd, ct_J13_bitCount_95d88, mi_J13_bitCount_95d88, e4]
  refine st_J13_bitCount_95d88 [] 20 ?_
  simp only [sy, xisC, sxI, xgI, xgL, xgR, xent, xargs0, p1i, p2i, p1l, p2l, pli, p1r, pir, piir, plir, pvr, pdup, pdup2, pret, xjmp, xcon, xfd, xcl_, xcall, xbr, xsw, xtsw, xst1, xst2, xkill, xpush, xcat, xcl, xar, xkd, xrf, xmask, mR, mL, List.getElem?_cons_zero, List.getElem?_cons_succ, List.lookup_nil, List.lookup_cons, Nat.reduceAdd, Nat.reduceSub, Nat.reduceLeDiff, Nat.reduceEqDiff, Nat.reduceBEq, List.length_cons, List.length_nil, List.replicate, List.append_nil, List.nil_append, List.cons_append, List.set_cons_zero, List.set_cons_succ, List.take_succ_cons, List.take_zero, List.drop_succ_cons, List.drop_zero, List.reverse_cons, List.reverse_nil, List.map_cons, List.map_nil, List.sum_cons, List.sum_nil, decide_true, decide_false, and_self, and_true, true_and, true_or, or_true, Fin.isValue, Fin.val_zero, Fin.val_one, Fin.val_two, Fin.reduceFinMk, Nat.reduceMod, Option.some.injEq, Sum.inl.injEq, Sum.inr.injEq, Prod.mk.injEq, eq_self, reduceCtorEq, imp_self, implies_true, Nat.zero_add, Nat.add_zero, Nat.zero_le, Int.reduceEq, Int.reduceLT, Int.reduceLE, Int.reduceNeg, not_true, not_false_iff, false_imp_iff, true_imp_iff, forall_const, or_self, or_false, false_or, and_false, false_and, ↓reduceIte, z_0, z_1, z_f1, z_f2, z_f3, Int.reduceToNat, Int.reduceAdd, ct_J13_bitCount_95d88, mi_J13_bitCount_95d88, e5]
  refine st_J13_bitCount_95d88 [] 20 ?_
  simp only [sy, xisC, sxI, xgI, xgL, xgR, xent, xargs0, p1i, p2i, p1l, p2l, pli, p1r, pir, piir, plir, pvr, pdup, pdup2, pret, xjmp, xcon, xfd, xcl_, xcall, xbr, xsw, xtsw, xst1, xst2, xkill, xpush, xcat, xcl, xar, xkd, xrf, xmask, mR, mL, List.getElem?_cons_zero, List.getElem?_cons_succ, List.lookup_nil, List.lookup_cons, Nat.reduceAdd, Nat.reduceSub, Nat.reduceLeDiff, Nat.reduceEqDiff, Nat.reduceBEq, List.length_cons, List.length_nil, List.replicate, List.append_nil, List.nil_append, List.cons_append, List.set_cons_zero, List.set_cons_succ, List.take_succ_cons, List.take_zero, List.drop_succ_cons, List.drop_zero, List.reverse_cons, List.reverse_nil, List.map_cons, List.map_nil, List.sum_cons, List.sum_nil, decide_true, decide_false, and_self, and_true, true_and, true_or, or_true, Fin.isValue, Fin.val_zero, Fin.val_one, Fin.val_two, Fin.reduceFinMk, Nat.reduceMod, Option.some.injEq, Sum.inl.injEq, Sum.inr.injEq, Prod.mk.injEq, eq_self, reduceCtorEq, imp_self, implies_true, Nat.zero_add, Nat.add_zero, Nat.zero_le, Int.reduceEq, Int.reduceLT, Int.reduceLE, Int.reduceNeg, not_true, not_false_iff, false_imp_iff, true_imp_iff, forall_const, or_self, or_false, false_or, and_false, false_and, ↓reduceIte, z_0, z_1, z_f1, z_f2, z_f3, Int.reduceToNat, Int.reduceAdd, ct_J13_bitCount_95d88, mi_J13_bitCount_95d88, e6, e7]
  refine st_J13_bitCount_95d88 [] 20 ?_
  simp only [sy, xisC, sxI, xgI, xgL, xgR, xent, xargs0, p1i, p2i, p1l, p2l, pli, p1r, pir, piir, plir, pvr, pdup, pdup2, pret, xjmp, xcon, xfd, xcl_, xcall, xbr, xsw, xtsw, xst1, xst2, xkill, xpush, xcat, xcl, xar, xkd, xrf, xmask, mR, mL, List.getElem?_cons_zero, List.getElem?_cons_succ, List.lookup_nil, List.lookup_cons, Nat.reduceAdd, Nat.reduceSub, Nat.reduceLeDiff, Nat.reduceEqDiff, Nat.reduceBEq, List.length_cons, List.length_nil, List.replicate, List.append_nil, List.nil_append, List.cons_append, List.set_cons_zero, List.set_cons_succ, List.take_succ_cons, List.take_zero, List.drop_succ_cons, List.drop_zero, List.reverse_cons, List.reverse_nil, List.map_cons, List.map_nil, List.sum_cons, List.sum_nil, decide_true, decide_false, and_self, and_true, true_and, true_or, or_true, Fin.isValue, Fin.val_zero, Fin.val_one, Fin.val_two, Fin.reduceFinMk, Nat.reduceMod, Option.some.injEq, Sum.inl.injEq, Sum.inr.injEq, Prod.mk.injEq, eq_self, reduceCtorEq, imp_self, implies_true, Nat.zero_add, Nat.add_zero, Nat.zero_le, Int.reduceEq, Int.reduceLT, Int.reduceLE, Int.reduceNeg, not_true, not_false_iff, false_imp_iff, true_imp_iff, forall_const, or_self, or_false, false_or, and_false, false_and, ↓reduceIte, z_0, z_1, z_f1, z_f2, z_f3, Int.reduceToNat, Int.reduceAdd, ct_J13_bitCount_95d88, mi_J13_bitCount_95d88, pI]

/-! ===== memory, bits, cells: plain facts ===== -/
theorem xup_t {M : XM} {t t' : Nat} {i : Fin 5} {k : Nat} {v : Int} (h : t' ≠ t) : xup M t i k v t' = M t' := by
  funext i' k'
  unfold xup
  rw [if_neg]
  rintro ⟨h1, -⟩
  exact h h1
theorem xup_i {M : XM} {t : Nat} {i i' : Fin 5} {k : Nat} {v : Int} (h : i' ≠ i) : xup M t i k v t i' = M t i' := by
  funext k'
  unfold xup
  rw [if_neg]
  rintro ⟨-, h1, -⟩
  exact h h1
theorem xup_s {M : XM} {t : Nat} {i : Fin 5} {k k' : Nat} {v : Int} : xup M t i k v t i k' = if k' = k then v else M t i k' := by
  unfold xup
  simp
theorem xup_e {M : XM} {t : Nat} {i : Fin 5} {k : Nat} {v : Int} : xup M t i k v t i k = v := by
  unfold xup
  simp
theorem xup_k {M : XM} {t : Nat} {i : Fin 5} {k k' : Nat} {v : Int} (h : k' ≠ k) : xup M t i k v t i k' = M t i k' := by
  rw [xup_s, if_neg h]
theorem ofI (n : Nat) : Int32.ofInt (n : Int) = nI n := by
  apply Int32.toBitVec_inj.mp
  show BitVec.ofInt 32 (n : Int) = BitVec.ofNat 32 n
  simp
theorem ofL (n : Nat) : Int64.ofInt (n : Int) = lN n := by
  apply Int64.toBitVec_inj.mp
  show BitVec.ofInt 64 (n : Int) = BitVec.ofNat 64 n
  simp
theorem z_nxand (a b : Nat) : nI a &&& nI b = nI (a &&& b) := by
  apply Int32.toBitVec_inj.1
  show BitVec.ofNat 32 a &&& BitVec.ofNat 32 b = BitVec.ofNat 32 (a &&& b)
  apply BitVec.eq_of_getLsbD_eq
  intro i hi
  simp [hi]
theorem z_nxor (a b : Nat) : nI a ||| nI b = nI (a ||| b) := by
  apply Int32.toBitVec_inj.1
  show BitVec.ofNat 32 a ||| BitVec.ofNat 32 b = BitVec.ofNat 32 (a ||| b)
  apply BitVec.eq_of_getLsbD_eq
  intro i hi
  simp [hi]
theorem z_sl : ∀ n, n < 32 → ((nI n &&& 31).toBitVec.smod 32).toNat = n := by decide +kernel
theorem bAnd_nat {a b : Nat} (ha : a < 2 ^ 31) : bAnd a b = ((a &&& b : Nat) : Int) := by
  rw [bAnd_def, ofI, ofI, z_nxand, nI_toInt (Nat.lt_of_le_of_lt Nat.and_le_left ha)]
theorem bOr_nat {a b : Nat} (ha : a < 2 ^ 31) (hb : b < 2 ^ 31) : bOr a b = ((a ||| b : Nat) : Int) := by
  rw [bOr_def, ofI, ofI, z_nxor, nI_toInt (Nat.or_lt_two_pow ha hb)]
theorem bShr_nat {a k : Nat} (ha : a < 2 ^ 31) (hk : k < 32) : bShr a k = ((a / 2 ^ k : Nat) : Int) := by
  rw [bShr_def, ofI, ofI, pk_shrN ha _ k (z_sl k hk), nI_toInt (Nat.lt_of_le_of_lt (Nat.div_le_self _ _) ha)]
theorem bShl_nat {a k : Nat} (hk : k < 32) (h : a * 2 ^ k < 2 ^ 31) : bShl a k = ((a * 2 ^ k : Nat) : Int) := by
  rw [bShl_def, ofI, ofI, pk_shlN _ k (z_sl k hk) (Nat.lt_trans h (by decide)), nI_toInt h]
theorem bAnd_m {a : Int} (k : Nat) {m : Int} (hm : m = 2 ^ k - 1) (h0 : 0 ≤ a) (h1 : a < 2147483648) : bAnd a m = a % 2 ^ k := by
  obtain ⟨n, rfl⟩ := Int.eq_ofNat_of_zero_le h0
  have hp : 0 < 2 ^ k := Nat.pos_of_ne_zero (by simp)
  have e : m = ((2 ^ k - 1 : Nat) : Int) := by rw [hm, Int.ofNat_sub hp]; simp
  rw [e, bAnd_nat (by omega), Nat.and_two_pow_sub_one_eq_mod]
  simp
theorem bAnd_1 {a : Int} (h0 : 0 ≤ a) (h1 : a < 2147483648) : bAnd a 1 = a % 2 := bAnd_m 1 (by decide) h0 h1
theorem bAnd_3 {a : Int} (h0 : 0 ≤ a) (h1 : a < 2147483648) : bAnd a 3 = a % 4 := bAnd_m 2 (by decide) h0 h1
theorem bAnd_7 {a : Int} (h0 : 0 ≤ a) (h1 : a < 2147483648) : bAnd a 7 = a % 8 := bAnd_m 3 (by decide) h0 h1
theorem bShr_z {a : Int} {k : Nat} (h0 : 0 ≤ a) (h1 : a < 2147483648) (hk : k < 32) : bShr a k = a / 2 ^ k := by
  obtain ⟨n, rfl⟩ := Int.eq_ofNat_of_zero_le h0
  rw [bShr_nat (by omega) hk]
  simp
theorem bShr_3 {a : Int} (h0 : 0 ≤ a) (h1 : a < 2147483648) : bShr a 3 = a / 8 := bShr_z (k := 3) h0 h1 (by decide)
/-- bit d of a small number -/
theorem bit_z {a : Int} {d : Nat} (h0 : 0 ≤ a) (h1 : a < 2147483648) (hd : d < 31) : bAnd (bShr a d) 1 = a / 2 ^ d % 2 := by
  rw [bShr_z h0 h1 (by omega), bAnd_1]
  · exact Int.ediv_nonneg h0 (Int.le_of_lt (Int.pow_pos (by decide)))
  · exact Int.lt_of_le_of_lt (Int.ediv_le_self _ h0) h1
theorem pw_4 : ∀ d : Nat, d < 4 → bShl 1 d = 2 ^ d := by
  intro d hd
  rw [bShl_def]
  exact (by decide +kernel : ∀ d : Nat, d < 4 → (Int32.ofInt 1 <<< (Int32.ofInt (d : Int) &&& 31)).toInt = 2 ^ d) d hd
theorem or_4 : ∀ u : Nat, u < 16 → ∀ d : Nat, d < 4 → bOr u (2 ^ d : Nat) = ((if u / 2 ^ d % 2 = 0 then u + 2 ^ d else u : Nat) : Int) := by
  intro u hu d hd
  rw [bOr_def]
  exact (by decide +kernel : ∀ u : Nat, u < 16 → ∀ d : Nat, d < 4 → (Int32.ofInt (u : Int) ||| Int32.ofInt ((2 ^ d : Nat) : Int)).toInt = ((if u / 2 ^ d % 2 = 0 then u + 2 ^ d else u : Nat) : Int)) u hu d hd
/-! cells: the model names 10 x + y, the class 8 x + y -/
def isC (n : Int) : Prop := 0 ≤ n ∧ n / 10 < 8 ∧ n % 10 < 8
def nc (n : Int) : Int := 8 * (n / 10) + n % 10
def cn (c : Int) : Int := 10 * (c / 8) + c % 8
theorem nc_rng {n : Int} (h : isC n) : 0 ≤ nc n ∧ nc n < 64 := by unfold isC at h; unfold nc; omega
theorem cn_nc {n : Int} (h : isC n) : cn (nc n) = n := by unfold isC at h; unfold nc cn; omega
theorem nc_cn {c : Int} (h0 : 0 ≤ c) (h1 : c < 64) : nc (cn c) = c := by unfold nc cn; omega
theorem cn_isC {c : Int} (h0 : 0 ≤ c) (h1 : c < 64) : isC (cn c) := by unfold isC cn; omega
theorem nc_inj {a b : Int} (ha : isC a) (hb : isC b) (h : nc a = nc b) : a = b := by unfold isC at ha hb; unfold nc at h; omega
theorem td_e {a b : Int} (h : 0 ≤ a) : a.tdiv b = a / b := Int.tdiv_eq_ediv_of_nonneg h
theorem tm_e {a b : Int} (h : 0 ≤ a) : a.tmod b = a % b := Int.tmod_eq_emod_of_nonneg h
theorem z_0 : ((0 : Nat) : Int) = 0 := rfl
theorem z_1 : ((1 : Nat) : Int) = 1 := rfl
theorem z_f1 : ((1 : Fin 4) : Nat) = 1 := rfl
theorem z_f2 : ((2 : Fin 4) : Nat) = 2 := rfl
theorem z_f3 : ((3 : Fin 4) : Nat) = 3 := rfl

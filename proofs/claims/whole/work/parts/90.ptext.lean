/-! ===== text, both sides ===== -/
theorem skF_cg {b b' : Nat → Int} {n : Nat} (h : bt b n = bt b' n) : ∀ (f p : Nat), skF b n f p = skF b' n f p
  | 0, p => rfl
  | f + 1, p => by
    show (if bt b n p = 32 then skF b n f (p + 1) else p) = (if bt b' n p = 32 then skF b' n f (p + 1) else p)
    rw [h, skF_cg h f (p + 1)]
theorem ruF_cg {b b' : Nat → Int} {n : Nat} (h : bt b n = bt b' n) (k : Int) : ∀ (f p : Nat), ruF b n k f p = ruF b' n k f p
  | 0, p => rfl
  | f + 1, p => by
    show (if clF (bt b n p) = k then ruF b n k f (p + 1) else p) = (if clF (bt b' n p) = k then ruF b' n k f (p + 1) else p)
    rw [h, ruF_cg h k f (p + 1)]
theorem cg_all {b b' : Nat → Int} {n : Nat} (h : ∀ j, j < n → b j = b' j) : bt b n = bt b' n ∧ tS b n = tS b' n ∧ tK b n = tK b' n ∧ tE b n = tE b' n ∧ tF b n = tF b' n ∧ tV b n = tV b' n := by
  have hb : bt b n = bt b' n := funext fun p => by
    unfold bt
    by_cases q : p < n
    · rw [if_pos q, if_pos q]; exact h p q
    · rw [if_neg q, if_neg q]
  have hs : sk b n = sk b' n := funext fun p => by unfold sk; exact skF_cg hb _ _
  have hu : ru b n = ru b' n := funext fun k => funext fun p => by unfold ru; exact ruF_cg hb _ _ _
  have hS : tS b n = tS b' n := hs
  have hK : tK b n = tK b' n := funext fun p => by unfold tK; rw [hb, hs]
  have hE : tE b n = tE b' n := funext fun p => by unfold tE; rw [hK, hs, hu]
  have hF : tF b n = tF b' n := funext fun p => by unfold tF; rw [hK, hS, hE]
  refine ⟨hb, hS, hK, hE, hF, funext fun p => ?_⟩
  unfold tV
  rw [← hS, ← hE]
  by_cases hp : p ≤ n
  · have e := tE_n (b := b) hp
    unfold vaF
    by_cases q : tE b n p = tS b n p
    · rw [if_pos q, if_pos q]
    · rw [if_neg q, if_neg q]
      by_cases q1 : tE b n p = tS b n p + 1
      · rw [if_pos q1, if_pos q1, h _ (by omega)]
      · rw [if_neg q1, if_neg q1, h _ (by omega), h _ (by omega)]
  · have e0 : sk b n p = p := by
      unfold sk
      rw [show n - p = 0 by omega]
      rfl
    have e1 : tK b n p = 4 := by
      unfold tK
      rw [e0]
      exact cl_out (by omega)
    have e2 : tE b n p = tS b n p := by
      unfold tE tS
      rw [if_neg (by omega), if_neg (by omega)]
    unfold vaF
    rw [if_pos e2, if_pos e2]
theorem li_cg {b b' : Nat → Int} {n : Nat} (h : ∀ j, j < n → b j = b' j) : liF b n = liF b' n ∧ stp b n = stp b' n := by
  obtain ⟨hb, hS, hK, hE, hF, hV⟩ := cg_all h
  have tk : tkZ b n = tkZ b' n := funext fun p => funext fun w => by unfold tkZ; rw [hF, hK]
  have nz : nuZ b n = nuZ b' n := funext fun p => funext fun w => by unfold nuZ; rw [tk, hV]
  have ce : ceZ b n = ceZ b' n := funext fun p => by unfold ceZ; rw [tk, hV]
  have lz : lnZ b n = lnZ b' n := funext fun s => funext fun e => by
    unfold lnZ
    simp only [isP, enP, hb]
  have ll : lnL b n = lnL b' n := funext fun p => by unfold lnL; rw [hK, lz, hS, hE]
  have d1 : dgF b n = dgF b' n := funext fun p => by unfold dgF; rw [ce, hS, hE, tk]
  have d2 : rkF b n = rkF b' n := funext fun p => funext fun D => by unfold rkF; rw [ce, hS, hE, tk, hV]
  have d3 : faF b n = faF b' n := funext fun p => funext fun ft => by unfold faF; rw [nz, hS, hE, tk, hV]
  have d4 : woF b n = woF b' n := funext fun p => by unfold woF; rw [nz, ce, hS, hE, tk]
  refine ⟨funext fun p => funext fun dd => funext fun D => funext fun ft => ?_, funext fun s => ?_⟩
  · unfold liF
    rw [ll, d1, d2, d3, d4, hS, hE]
  · unfold stp liP liN liD liZ liB liR liH
    rw [ll, hE, hV]
theorem rn_cg {b b' : Nat → Int} {n : Nat} (h : ∀ j, j < n → b j = b' j) : ∀ (f k : Nat) (s : PS), rn b n f k s = rn b' n f k s
  | 0, k, s => rfl
  | f + 1, k, s => by
    obtain ⟨hb, hS, hK, hE, hF, hV⟩ := cg_all h
    obtain ⟨l1, l2⟩ := li_cg h
    show (if tF b n s.p ≠ 0 then ((1, tS b n s.p), k, s) else if tK b n s.p = 4 then ((0, tS b n s.p), k, s) else if (liF b n s.p s.dd s.D s.ft).1 ≠ 0 then (liF b n s.p s.dd s.D s.ft, k, s) else rn b n f (k + 1) (stp b n s)) = (if tF b' n s.p ≠ 0 then ((1, tS b' n s.p), k, s) else if tK b' n s.p = 4 then ((0, tS b' n s.p), k, s) else if (liF b' n s.p s.dd s.D s.ft).1 ≠ 0 then (liF b' n s.p s.dd s.D s.ft, k, s) else rn b' n f (k + 1) (stp b' n s))
    rw [hF, hK, hS, l1, l2, rn_cg h f (k + 1) (stp b' n s)]
theorem p_text (M : XM) (hI : InvX M M) (hLN : ∀ (b : Nat → Int) (n : Nat), n ≤ 160 → (∀ j, j < n → 0 ≤ b j ∧ b j < 128) → LNA b n) : PUB mi_X3_text mi_X4_text [] M := by
  obtain ⟨nd, h1, h2, h3, h4, h5, h6, h7, h8, h9, h10⟩ := hI
  obtain ⟨n, hn⟩ := Int.eq_ofNat_of_zero_le h7.2.1.1
  have hn' : M 22 0 11 = (n : Int) := hn
  have n160 : n ≤ 160 := by have := h7.2.1.2; omega
  have hl : M 13 0 1 = n := h7.1.trans hn'
  have hby : ∀ j : Nat, j < n → M 14 0 j = M 28 0 j ∧ 0 ≤ M 28 0 j ∧ M 28 0 j < 128 := fun j hj => h7.2.2 j (by omega)
  have hr : ∀ j, j < n → 0 ≤ M 14 0 j ∧ M 14 0 j < 128 := fun j hj => by rw [(hby j hj).1]; exact (hby j hj).2
  have hr2 : ∀ j, j < n → 0 ≤ M 28 0 j ∧ M 28 0 j < 128 := fun j hj => (hby j hj).2
  have d0 : ∀ k, k < 71 → D0 (M 26 0) k = 0 := fun k hk => if_pos hk
  have eR := rn_cg (fun j hj => (hby j hj).1) 161 0 (s0 (D0 (M 26 0)) (M 27 0))
  refine CW.mono (c_text rfl n160 hr hl (hLN _ n n160 hr) d0 (M 27 0)) ?_
  rintro _ M1 ⟨z, rfl, ct⟩
  rw [eR] at ct
  have kt : ∀ t i, 14 ≤ t → M1 t i = M t i := by
    by_cases q : (eT (rn (M 28 0) n 161 0 (s0 (D0 (M 26 0)) (M 27 0)))).1 = 0
    · exact (ct.2 q).2.2.2.2.2.2.2.2
    · exact (ct.1 q).2.2.2.2.2
  have mt := m_text (M := M1) (b := M 28 0) (n := n) (kt 28 0 (by decide)) n160 hr2 (by rw [kt 22 0 (by decide)]; exact hn')
  rw [kt 26 0 (by decide), kt 27 0 (by decide)] at mt
  refine ⟨z, rfl, CW.mono mt ?_⟩
  rintro _ M2 ⟨z2, rfl, m2⟩
  generalize rn (M 28 0) n 161 0 (s0 (D0 (M 26 0)) (M 27 0)) = R at ct m2
  generalize eT R = F at ct m2
  by_cases q : F.1 = 0
  · obtain ⟨x1, x2, x3, x4, x5, x6, x7, x8, x9⟩ := ct.2 q
    obtain ⟨y1, y2, y3, y4, y5, y6, y7, y8, y9⟩ := m2.2 q
    refine ⟨by rw [x1, y1], ?_⟩
    have lo : ∀ t i, t ≤ 21 → M2 t i = M1 t i := fun t i ht => y9 t i (by omega) (by omega) (by omega) (by omega) (by omega)
    have okk := KD_ok x6 x7
    have okm : okN R.2.2.dd (M2 23 0) := okN_cg okk y5
    refine ⟨R.2.2.dd, y4, okm, ?_, ⟨Or.inl y6, Or.inl y7, ?_⟩, fun a => absurd a (by rw [y6]; decide), fun a => absurd a (by rw [y7]; decide), ⟨?_, by rw [y3]; decide, fun j hj => absurd hj (by rw [y3]; omega)⟩, ⟨?_, ?_⟩, fun k hk => ?_, ?_⟩
    · exact RG_fr (RG_cg okk x8 y5) (fun t a b => lo t 0 (by omega))
    · rw [lo 0 0 (by decide), x3, y6, y7]; rfl
    · rw [lo 13 0 (by decide), x5, y3]
    · rw [lo 0 0 (by decide), x2, y2]
    · rw [lo 0 0 (by decide), x4, y8, kt 22 0 (by decide)]; exact h8.2
    · rw [lo 16 0 (by decide), lo 17 0 (by decide), lo 18 0 (by decide), kt 16 0 (by decide), kt 17 0 (by decide), kt 18 0 (by decide), y9 33 0 (by decide) (by decide) (by decide) (by decide) (by decide), y9 34 0 (by decide) (by decide) (by decide) (by decide) (by decide), y9 35 0 (by decide) (by decide) (by decide) (by decide) (by decide), kt 33 0 (by decide), kt 34 0 (by decide), kt 35 0 (by decide)]
      exact h9 k hk
    · refine ⟨?_, fun a => absurd a (by rw [y6]; decide), fun a => absurd a (by rw [y7]; decide)⟩
      rw [rk_cg (N := KD R.2.2) (fun k a b => y5 k (by omega)), rk_cg (N := R.2.2.D) (fun k a b => KD_k (by omega))]
      have := x6.1
      rw [← this.2.2.2.1]
      exact this.2.2.2.2.1.2
  · obtain ⟨x1, x2, x3, x4, x5, x6⟩ := ct.1 q
    obtain ⟨y1, y2, y3, y4, y5, y6⟩ := m2.1 q
    refine ⟨by rw [x1, y1], ?_⟩
    have lo : ∀ t i, t ≤ 21 → M2 t i = M1 t i := fun t i ht => y6 t i (by omega) (by omega) (by omega)
    have hi : ∀ t, 23 ≤ t → t ≠ 26 → t ≠ 27 → M2 t 0 = M t 0 := fun t a b c => by rw [y6 t 0 (by omega) (by omega) (by omega), kt t 0 (by omega)]
    have e23 := hi 23 (by decide) (by decide) (by decide)
    have e25 := hi 25 (by decide) (by decide) (by decide)
    have eim : ∀ k, im M2 k = im M k := fun k => by unfold im; rw [e23]
    have rgf : ∀ (i : Fin 5) (N : Nat → Int), i ≠ 1 → RG M i nd N → RG M2 i nd N := fun i N hi' r => RG_fr r (fun t a b => by rw [lo t i (by omega), x5 t i a b hi'])
    refine ⟨nd, by rw [y4, kt 22 0 (by decide)]; exact h1, by rw [e23]; exact h2, by rw [e23]; exact rgf 0 _ (by decide) h3, ?_, ?_, ?_, ⟨?_, by rw [y3]; decide, fun j hj => absurd hj (by rw [y3]; omega)⟩, ⟨?_, ?_⟩, fun k hk => ?_, ?_⟩
    · rw [e25, lo 0 0 (by decide), x3 5 (by decide)]; exact h4
    · rw [e25, eim]
      exact fun a => ⟨(h5 a).1, rgf 3 _ (by decide) (h5 a).2⟩
    · rw [e25, eim]
      exact fun a => ⟨(h6 a).1, rgf 4 _ (by decide) (h6 a).2⟩
    · rw [lo 13 0 (by decide), x4, y3]
    · rw [lo 0 0 (by decide), x2, y2]
    · rw [lo 0 0 (by decide), x3 9 (by decide), y5, kt 22 0 (by decide)]; exact h8.2
    · rw [lo 16 0 (by decide), lo 17 0 (by decide), lo 18 0 (by decide), kt 16 0 (by decide), kt 17 0 (by decide), kt 18 0 (by decide), hi 33 (by decide) (by decide) (by decide), hi 34 (by decide) (by decide) (by decide), hi 35 (by decide) (by decide) (by decide)]
      exact h9 k hk
    · rw [e23, e25]; exact h10

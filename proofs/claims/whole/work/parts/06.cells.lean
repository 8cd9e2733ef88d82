/-! ===== cells of the world, and what a store makes of it ===== -/
def rupI (RM : Nat → Fin 5 → Nat → Int32) (t : Nat) (i : Fin 5) (k : Nat) (x : Int32) : Nat → Fin 5 → Nat → Int32 := fun t' i' k' => if t' = t ∧ i' = i ∧ k' = k then x else RM t' i' k'
def rupL (RL : Nat → Fin 5 → Nat → Int64) (t : Nat) (i : Fin 5) (k : Nat) (x : Int64) : Nat → Fin 5 → Nat → Int64 := fun t' i' k' => if t' = t ∧ i' = i ∧ k' = k then x else RL t' i' k'
theorem xabs_I {RM : Nat → Fin 5 → Nat → Int32} {RL : Nat → Fin 5 → Nat → Int64} {t : Nat} {i : Fin 5} {k : Nat} {x : Int32} (h : xisL t k = false) : xabs (rupI RM t i k x) RL = xup (xabs RM RL) t i k x.toInt := by
  funext t' i' k'
  unfold xabs xup rupI
  by_cases hq : t' = t ∧ i' = i ∧ k' = k
  · obtain ⟨rfl, rfl, rfl⟩ := hq
    simp [h]
  · simp only [hq, if_false]
theorem xabs_L {RM : Nat → Fin 5 → Nat → Int32} {RL : Nat → Fin 5 → Nat → Int64} {t : Nat} {i : Fin 5} {k : Nat} {x : Int64} (h : xisL t k = true) : xabs RM (rupL RL t i k x) = xup (xabs RM RL) t i k x.toInt := by
  funext t' i' k'
  unfold xabs xup rupL
  by_cases hq : t' = t ∧ i' = i ∧ k' = k
  · obtain ⟨rfl, rfl, rfl⟩ := hq
    simp [h]
  · simp only [hq, if_false]
theorem rupI_ne {RM : Nat → Fin 5 → Nat → Int32} {t t' : Nat} {i i' : Fin 5} {k : Nat} {x : Int32} (h : (t', i') ≠ (t, i)) : rupI RM t i k x t' i' = RM t' i' := by
  funext k'
  unfold rupI
  rw [if_neg]
  rintro ⟨rfl, rfl, -⟩
  exact h rfl
theorem rupL_ne {RL : Nat → Fin 5 → Nat → Int64} {t t' : Nat} {i i' : Fin 5} {k : Nat} {x : Int64} (h : (t', i') ≠ (t, i)) : rupL RL t i k x t' i' = RL t' i' := by
  funext k'
  unfold rupL
  rw [if_neg]
  rintro ⟨rfl, rfl, -⟩
  exact h rfl
theorem xcell_I {ρ : Nat → Fin 5 → Nat} {cy : Nat → ClassId} {RM RM' : Nat → Fin 5 → Nat → Int32} {RL RL' : Nat → Fin 5 → Nat → Int64} {r : XR} (h1 : RM' r.1 r.2 = RM r.1 r.2) (h2 : RL' r.1 r.2 = RL r.1 r.2) : xcell ρ cy RM' RL' r = xcell ρ cy RM RL r := by
  have : xfv ρ RM' RL' r.1 r.2 = xfv ρ RM RL r.1 r.2 := by
    funext k
    unfold xfv
    rw [h1, h2]
  unfold xcell
  rw [this, h1, h2]
set_option maxRecDepth 20000 in
theorem xtl_nd : xtl.Nodup := by decide +kernel
theorem map_set {α β : Type} {l : List α} (hl : l.Nodup) {f g : α → β} {q : Nat} {r : α} (hr : l[q]? = some r) (h : ∀ x ∈ l, x ≠ r → g x = f x) : (l.map f).set q (g r) = l.map g := by
  apply List.ext_getElem?
  intro j
  rw [List.getElem?_set, List.getElem?_map, List.getElem?_map]
  by_cases hj : q = j
  · subst hj
    have hlt : q < (l.map f).length := by rw [List.length_map]; exact (List.getElem?_eq_some_iff.mp hr).1
    rw [if_pos rfl, if_pos hlt, hr]
    rfl
  · rw [if_neg hj]
    cases hx : l[j]? with
    | none => rfl
    | some x =>
      have hm : x ∈ l := List.mem_of_getElem? hx
      have hne : x ≠ r := by
        rintro rfl
        have e1 := List.getElem?_eq_some_iff.mp hr
        have e2 := List.getElem?_eq_some_iff.mp hx
        obtain ⟨a1, b1⟩ := e1
        obtain ⟨a2, b2⟩ := e2
        have hp := List.pairwise_iff_getElem.mp hl
        rcases Nat.lt_or_gt_of_ne hj with hlt | hlt
        · exact hp q j a1 a2 hlt (b1.trans b2.symm)
        · exact hp j q a2 a1 hlt (b2.trans b1.symm)
      simp only [Option.map_some, h x hm hne]
theorem xat {ρ : Nat → Fin 5 → Nat} {cy : Nat → ClassId} {RM : Nat → Fin 5 → Nat → Int32} {RL : Nat → Fin 5 → Nat → Int64} {r : XR} (h : r ∈ xtl) : ∃ q : Nat, xtl[q]? = some r ∧ (xws ρ cy RM RL)[q]? = some (ρ r.1 r.2, xcell ρ cy RM RL r) := by
  obtain ⟨q, hq⟩ := List.getElem?_of_mem h
  exact ⟨q, hq, by unfold xws; rw [List.getElem?_map, hq]; rfl⟩
theorem xset {ρ : Nat → Fin 5 → Nat} {cy : Nat → ClassId} {RM RM' : Nat → Fin 5 → Nat → Int32} {RL RL' : Nat → Fin 5 → Nat → Int64} {r : XR} {q : Nat} {E : va_E} (hq : xtl[q]? = some r) (h1 : ∀ x : XR, x ≠ r → RM' x.1 x.2 = RM x.1 x.2) (h2 : ∀ x : XR, x ≠ r → RL' x.1 x.2 = RL x.1 x.2) (hE : E = xcell ρ cy RM' RL' r) : (xws ρ cy RM RL).set q (ρ r.1 r.2, E) = xws ρ cy RM' RL' := by
  subst hE
  unfold xws
  exact map_set (f := fun r : XR => (ρ r.1 r.2, xcell ρ cy RM RL r)) (g := fun r : XR => (ρ r.1 r.2, xcell ρ cy RM' RL' r)) xtl_nd hq (fun x _ hx => by rw [xcell_I (h1 x hx) (h2 x hx)])
theorem xcell_row {ρ : Nat → Fin 5 → Nat} {cy : Nat → ClassId} {RM : Nat → Fin 5 → Nat → Int32} {RL : Nat → Fin 5 → Nat → Int64} {t : Nat} {i : Fin 5} {ty n : Nat} (h : xar t = some (ty, n)) (hne : ty ≠ 3) : xcell ρ cy RM RL (t, i) = .inl (cy ty, n, .inl (RM t i)) := by
  unfold xcell
  simp only [h, hne, if_false]
theorem xcell_rowL {ρ : Nat → Fin 5 → Nat} {cy : Nat → ClassId} {RM : Nat → Fin 5 → Nat → Int32} {RL : Nat → Fin 5 → Nat → Int64} {t : Nat} {i : Fin 5} {n : Nat} (h : xar t = some (3, n)) : xcell ρ cy RM RL (t, i) = .inl (cy 3, n, .inr (.inl (RL t i))) := by
  unfold xcell
  simp only [h, if_true]
theorem xar_cl {t c : Nat} (h : xcl t = some c) : xar t = none := by
  unfold xcl at h
  split at h <;> first | rfl | cases h
theorem xci_cl {t c : Nat} (h : xcl t = some c) : xci t = c := by unfold xci; rw [h]; rfl
theorem xcell_obj {ρ : Nat → Fin 5 → Nat} {cy : Nat → ClassId} {RM : Nat → Fin 5 → Nat → Int32} {RL : Nat → Fin 5 → Nat → Int64} {t : Nat} {i : Fin 5} {c : Nat} (h : xcl t = some c) : xcell ρ cy RM RL (t, i) = .inr (c, (List.range (xN c)).map (xfv ρ RM RL t i)) := by
  unfold xcell
  simp only [xar_cl h, xci_cl h]
theorem xisL_row {t k ty n : Nat} (h : xar t = some (ty, n)) (hne : ty ≠ 3) : xisL t k = false := by
  unfold xisL
  simp [h, hne]
theorem xisL_rowL {t k n : Nat} (h : xar t = some (3, n)) : xisL t k = true := by
  unfold xisL
  simp [h]
theorem xisL_obj {t k c d : Nat} (h : xcl t = some c) (hd : xkd c k = d) : xisL t k = (d == 1) := by
  unfold xisL
  simp only [xar_cl h, xci_cl h, hd]
theorem range_set {β : Type} {f g : Nat → β} {n k : Nat} (hk : k < n) (h : ∀ j, j ≠ k → g j = f j) : ((List.range n).map f).set k (g k) = (List.range n).map g :=
  map_set (List.nodup_range) (by rw [List.getElem?_range hk]) (fun x _ hx => h x hx)
theorem xfv_I {ρ : Nat → Fin 5 → Nat} {RM : Nat → Fin 5 → Nat → Int32} {RL : Nat → Fin 5 → Nat → Int64} {t : Nat} {i : Fin 5} {c k : Nat} {x : Int32} (hc : xcl t = some c) (hk : k < xN c) (h0 : xkd c k = 0) : ((List.range (xN c)).map (xfv ρ RM RL t i)).set k (.int x) = (List.range (xN c)).map (xfv ρ (rupI RM t i k x) RL t i) := by
  have e : Value.int x = xfv ρ (rupI RM t i k x) RL t i k := by
    unfold xfv
    rw [xci_cl hc, h0]
    simp [rupI]
  rw [e]
  refine range_set hk (fun j hj => ?_)
  unfold xfv rupI
  simp [hj]
theorem xfv_L {ρ : Nat → Fin 5 → Nat} {RM : Nat → Fin 5 → Nat → Int32} {RL : Nat → Fin 5 → Nat → Int64} {t : Nat} {i : Fin 5} {c k : Nat} {x : Int64} (hc : xcl t = some c) (hk : k < xN c) (h0 : xkd c k = 1) : ((List.range (xN c)).map (xfv ρ RM RL t i)).set k (.long x) = (List.range (xN c)).map (xfv ρ RM (rupL RL t i k x) t i) := by
  have e : Value.long x = xfv ρ RM (rupL RL t i k x) t i k := by
    unfold xfv
    rw [xci_cl hc, h0]
    simp [rupL]
  rw [e]
  refine range_set hk (fun j hj => ?_)
  unfold xfv rupL
  simp [hj]
set_option maxRecDepth 100000 in
theorem xrf_in : ∀ r ∈ xtl, ∀ k ∈ List.range 30, r.1 ≠ 14 → xar r.1 = none → k < xN (xci r.1) → xkd (xci r.1) k ≠ 0 → xkd (xci r.1) k ≠ 1 → xrf r.1 r.2 k ∈ xtl := by decide +kernel
theorem xN_le (c : Nat) : xN c ≤ 30 := by unfold xN; split <;> decide
/-! locals -/
theorem xkill_at {L : List (Option XV)} {i k : Nat} {v : XV} (h : (xkill L i)[k]? = some (some v)) : L[k]? = some (some v) ∧ ¬ (k + 1 = i ∧ ∃ z, v = .inr (.inl z)) := by
  unfold xkill at h
  match i with
  | 0 => exact ⟨h, fun q => by omega⟩
  | j + 1 =>
    dsimp only at h
    split at h
    · rw [List.getElem?_set] at h
      by_cases hj : j = k
      · rw [if_pos hj] at h
        split at h <;> cases h
      · rw [if_neg hj] at h
        exact ⟨h, fun q => hj (by omega)⟩
    · rename_i hne
      refine ⟨h, ?_⟩
      rintro ⟨hq, z, rfl⟩
      have : k = j := by omega
      subst this
      exact hne z h
theorem xLR_st1 {ρ : Nat → Fin 5 → Nat} {L : List (Option XV)} {lv : List (Nat × Value)} {i : Nat} {v : XV} {w : Value} (hL : ∀ (k : Nat) (v : XV), L[k]? = some (some v) → ∃ w, (k, w) ∈ lv ∧ vrel ρ v w) (hv : vrel ρ v w) : ∀ (k : Nat) (u : XV), (xst1 L i v)[k]? = some (some u) → ∃ w', (k, w') ∈ (i, w) :: lv.filter (fun q => !(q.1 == i) && !(q.1 + 1 == i && q.2.category == 2)) ∧ vrel ρ u w' := by
  intro k u h
  unfold xst1 at h
  rw [List.getElem?_set] at h
  by_cases hk : i = k
  · subst hk
    rw [if_pos rfl] at h
    split at h
    · cases h
      exact ⟨w, List.mem_cons_self, hv⟩
    · cases h
  · rw [if_neg hk] at h
    obtain ⟨h1, h2⟩ := xkill_at h
    obtain ⟨w', h3, h4⟩ := hL k u h1
    refine ⟨w', List.mem_cons_of_mem _ (List.mem_filter.mpr ⟨h3, ?_⟩), h4⟩
    have hc : k + 1 = i → w'.category ≠ 2 := by
      intro hq
      match u, h4 with
      | .inl z, h4 => obtain ⟨x, rfl, -⟩ := h4; simp [Value.category]
      | .inr (.inl z), h4 => exact absurd ⟨hq, z, rfl⟩ h2
      | .inr (.inr q), h4 => obtain ⟨rfl, -⟩ := h4; simp [Value.category]
    simp only [Bool.and_eq_true, Bool.not_eq_true', beq_eq_false_iff_ne, ne_eq, Bool.and_eq_false_iff]
    refine ⟨fun q => hk q.symm, ?_⟩
    by_cases hq : k + 1 = i
    · exact Or.inr (hc hq)
    · exact Or.inl hq
theorem xLR_st2 {ρ : Nat → Fin 5 → Nat} {L : List (Option XV)} {lv : List (Nat × Value)} {i : Nat} {v : XV} {w : Value} (hL : ∀ (k : Nat) (v : XV), L[k]? = some (some v) → ∃ w, (k, w) ∈ lv ∧ vrel ρ v w) (hv : vrel ρ v w) : ∀ (k : Nat) (u : XV), (xst2 L i v)[k]? = some (some u) → ∃ w', (k, w') ∈ (i, w) :: lv.filter (fun q => !(q.1 == i) && (!(q.1 == i + 1) && !(q.1 + 1 == i && q.2.category == 2))) ∧ vrel ρ u w' := by
  intro k u h
  unfold xst2 at h
  rw [List.getElem?_set] at h
  by_cases hk1 : i + 1 = k
  · rw [if_pos hk1] at h
    split at h <;> cases h
  · rw [if_neg hk1] at h
    obtain ⟨w', h1, h2⟩ := xLR_st1 hL hv k u h
    refine ⟨w', ?_, h2⟩
    rcases List.mem_cons.mp h1 with h3 | h3
    · rw [h3]; exact List.mem_cons_self
    · refine List.mem_cons_of_mem _ ?_
      obtain ⟨h4, h5⟩ := List.mem_filter.mp h3
      refine List.mem_filter.mpr ⟨h4, ?_⟩
      simp only [Bool.and_eq_true, Bool.not_eq_true', beq_eq_false_iff_ne, ne_eq, Bool.and_eq_false_iff] at h5 ⊢
      exact ⟨h5.1, fun q => hk1 q.symm, h5.2⟩

/-! ===== THE ABSTRACT MACHINE: values are whole numbers, a cell is a tag and an index, the memory a function ===== -/
abbrev XR : Type := Nat × Fin 5
abbrev XV : Type := Int ⊕ (Int ⊕ XR)
abbrev XM : Type := Nat → Fin 5 → Nat → Int
abbrev xI (z : Int) : XV := Sum.inl z
abbrev xL (z : Int) : XV := Sum.inr (Sum.inl z)
abbrev xR (t : Nat) (i : Fin 5) : XV := Sum.inr (Sum.inr (t, i))
theorem w32_ex : ∃ f : Int → Int, ∀ z : Int, f z = (z + 2147483648) % 4294967296 - 2147483648 := ⟨fun z => (z + 2147483648) % 4294967296 - 2147483648, fun _ => rfl⟩
noncomputable def w32 : Int → Int := Classical.choose w32_ex
theorem w32_def (z : Int) : w32 z = (z + 2147483648) % 4294967296 - 2147483648 := Classical.choose_spec w32_ex z
theorem w64_ex : ∃ f : Int → Int, ∀ z : Int, f z = (z + 9223372036854775808) % 18446744073709551616 - 9223372036854775808 := ⟨fun z => (z + 9223372036854775808) % 18446744073709551616 - 9223372036854775808, fun _ => rfl⟩
noncomputable def w64 : Int → Int := Classical.choose w64_ex
theorem w64_def (z : Int) : w64 z = (z + 9223372036854775808) % 18446744073709551616 - 9223372036854775808 := Classical.choose_spec w64_ex z
def xup (M : XM) (t : Nat) (i : Fin 5) (k : Nat) (v : Int) : XM := fun t' i' k' => if t' = t ∧ i' = i ∧ k' = k then v else M t' i' k'
theorem bAnd_ex : ∃ f : Int → Int → Int, ∀ a b : Int, f a b = (Int32.ofInt a &&& Int32.ofInt b).toInt := ⟨fun a b => (Int32.ofInt a &&& Int32.ofInt b).toInt, fun _ _ => rfl⟩
noncomputable def bAnd : Int → Int → Int := Classical.choose bAnd_ex
theorem bAnd_def (a b : Int) : bAnd a b = (Int32.ofInt a &&& Int32.ofInt b).toInt := Classical.choose_spec bAnd_ex a b
theorem bOr_ex : ∃ f : Int → Int → Int, ∀ a b : Int, f a b = (Int32.ofInt a ||| Int32.ofInt b).toInt := ⟨fun a b => (Int32.ofInt a ||| Int32.ofInt b).toInt, fun _ _ => rfl⟩
noncomputable def bOr : Int → Int → Int := Classical.choose bOr_ex
theorem bOr_def (a b : Int) : bOr a b = (Int32.ofInt a ||| Int32.ofInt b).toInt := Classical.choose_spec bOr_ex a b
theorem bXor_ex : ∃ f : Int → Int → Int, ∀ a b : Int, f a b = (Int32.ofInt a ^^^ Int32.ofInt b).toInt := ⟨fun a b => (Int32.ofInt a ^^^ Int32.ofInt b).toInt, fun _ _ => rfl⟩
noncomputable def bXor : Int → Int → Int := Classical.choose bXor_ex
theorem bXor_def (a b : Int) : bXor a b = (Int32.ofInt a ^^^ Int32.ofInt b).toInt := Classical.choose_spec bXor_ex a b
theorem bShl_ex : ∃ f : Int → Int → Int, ∀ a b : Int, f a b = (Int32.ofInt a <<< (Int32.ofInt b &&& 31)).toInt := ⟨fun a b => (Int32.ofInt a <<< (Int32.ofInt b &&& 31)).toInt, fun _ _ => rfl⟩
noncomputable def bShl : Int → Int → Int := Classical.choose bShl_ex
theorem bShl_def (a b : Int) : bShl a b = (Int32.ofInt a <<< (Int32.ofInt b &&& 31)).toInt := Classical.choose_spec bShl_ex a b
theorem bShr_ex : ∃ f : Int → Int → Int, ∀ a b : Int, f a b = (Int32.ofInt a >>> (Int32.ofInt b &&& 31)).toInt := ⟨fun a b => (Int32.ofInt a >>> (Int32.ofInt b &&& 31)).toInt, fun _ _ => rfl⟩
noncomputable def bShr : Int → Int → Int := Classical.choose bShr_ex
theorem bShr_def (a b : Int) : bShr a b = (Int32.ofInt a >>> (Int32.ofInt b &&& 31)).toInt := Classical.choose_spec bShr_ex a b
theorem bUshr_ex : ∃ f : Int → Int → Int, ∀ a b : Int, f a b = ((Int32.ofInt a).toUInt32 >>> ((Int32.ofInt b).toUInt32 &&& Int32.toUInt32 31)).toInt32.toInt := ⟨fun a b => ((Int32.ofInt a).toUInt32 >>> ((Int32.ofInt b).toUInt32 &&& Int32.toUInt32 31)).toInt32.toInt, fun _ _ => rfl⟩
noncomputable def bUshr : Int → Int → Int := Classical.choose bUshr_ex
theorem bUshr_def (a b : Int) : bUshr a b = ((Int32.ofInt a).toUInt32 >>> ((Int32.ofInt b).toUInt32 &&& Int32.toUInt32 31)).toInt32.toInt := Classical.choose_spec bUshr_ex a b
theorem lAnd_ex : ∃ f : Int → Int → Int, ∀ a b : Int, f a b = (Int64.ofInt a &&& Int64.ofInt b).toInt := ⟨fun a b => (Int64.ofInt a &&& Int64.ofInt b).toInt, fun _ _ => rfl⟩
noncomputable def lAnd : Int → Int → Int := Classical.choose lAnd_ex
theorem lAnd_def (a b : Int) : lAnd a b = (Int64.ofInt a &&& Int64.ofInt b).toInt := Classical.choose_spec lAnd_ex a b
theorem lOr_ex : ∃ f : Int → Int → Int, ∀ a b : Int, f a b = (Int64.ofInt a ||| Int64.ofInt b).toInt := ⟨fun a b => (Int64.ofInt a ||| Int64.ofInt b).toInt, fun _ _ => rfl⟩
noncomputable def lOr : Int → Int → Int := Classical.choose lOr_ex
theorem lOr_def (a b : Int) : lOr a b = (Int64.ofInt a ||| Int64.ofInt b).toInt := Classical.choose_spec lOr_ex a b
theorem lXor_ex : ∃ f : Int → Int → Int, ∀ a b : Int, f a b = (Int64.ofInt a ^^^ Int64.ofInt b).toInt := ⟨fun a b => (Int64.ofInt a ^^^ Int64.ofInt b).toInt, fun _ _ => rfl⟩
noncomputable def lXor : Int → Int → Int := Classical.choose lXor_ex
theorem lXor_def (a b : Int) : lXor a b = (Int64.ofInt a ^^^ Int64.ofInt b).toInt := Classical.choose_spec lXor_ex a b
theorem lShl_ex : ∃ f : Int → Int → Int, ∀ a b : Int, f a b = (Int64.ofInt a <<< ((Int32.ofInt b).toInt64 &&& 63)).toInt := ⟨fun a b => (Int64.ofInt a <<< ((Int32.ofInt b).toInt64 &&& 63)).toInt, fun _ _ => rfl⟩
noncomputable def lShl : Int → Int → Int := Classical.choose lShl_ex
theorem lShl_def (a b : Int) : lShl a b = (Int64.ofInt a <<< ((Int32.ofInt b).toInt64 &&& 63)).toInt := Classical.choose_spec lShl_ex a b
theorem lUshr_ex : ∃ f : Int → Int → Int, ∀ a b : Int, f a b = ((Int64.ofInt a).toUInt64 >>> ((Int32.ofInt b).toInt64.toUInt64 &&& Int64.toUInt64 63)).toInt64.toInt := ⟨fun a b => ((Int64.ofInt a).toUInt64 >>> ((Int32.ofInt b).toInt64.toUInt64 &&& Int64.toUInt64 63)).toInt64.toInt, fun _ _ => rfl⟩
noncomputable def lUshr : Int → Int → Int := Classical.choose lUshr_ex
theorem lUshr_def (a b : Int) : lUshr a b = ((Int64.ofInt a).toUInt64 >>> ((Int32.ofInt b).toInt64.toUInt64 &&& Int64.toUInt64 63)).toInt64.toInt := Classical.choose_spec lUshr_ex a b
theorem bByte_ex : ∃ f : Int → Int, ∀ a : Int, f a = (Int32.ofInt a).toInt8.toInt32.toInt := ⟨fun a => (Int32.ofInt a).toInt8.toInt32.toInt, fun _ => rfl⟩
noncomputable def bByte : Int → Int := Classical.choose bByte_ex
theorem bByte_def (a : Int) : bByte a = (Int32.ofInt a).toInt8.toInt32.toInt := Classical.choose_spec bByte_ex a
theorem bShort_ex : ∃ f : Int → Int, ∀ a : Int, f a = (Int32.ofInt a).toInt16.toInt32.toInt := ⟨fun a => (Int32.ofInt a).toInt16.toInt32.toInt, fun _ => rfl⟩
noncomputable def bShort : Int → Int := Classical.choose bShort_ex
theorem bShort_def (a : Int) : bShort a = (Int32.ofInt a).toInt16.toInt32.toInt := Classical.choose_spec bShort_ex a
def lcmpz (a b : Int) : Int := if b < a then 1 else if a = b then 0 else -1
/-! the cells: 0 AimTunnel, 1 Ground, 2..12 its rows, 13 Tape, 14 bytes, 15 Sheets, 16..18 its rows, 19 history, 20 tally, 21 tried, 22 the model, 23.. its rows -/
def xtl : List XR := (0, 0) :: (([0, 1, 2, 3, 4] : List (Fin 5)).flatMap (fun i => [1, 2, 3, 4, 5, 6, 7, 8, 9, 10, 11, 12].map (fun t => (t, i))) ++ [13, 14, 15, 16, 17, 18, 19, 20, 21, 22, 23, 24, 25, 26, 27, 28, 29, 30, 31, 32, 33, 34, 35, 36].map (fun t => (t, (0 : Fin 5))))
/-- a tag's class, by its number in vwCl -/
def xcl (t : Nat) : Option Nat := match t with
  | 0 => some 3
  | 1 => some 0
  | 13 => some 2
  | 15 => some 1
  | 22 => some 4
  | _ => none
/-- a tag's row: its sort (0 int, 1 boolean, 2 byte, 3 long), its length -/
def xar (t : Nat) : Option (Nat × Nat) := match t with
  | 2 => some (0, 4)
  | 3 => some (0, 4)
  | 4 => some (0, 4)
  | 5 => some (0, 4)
  | 6 => some (0, 4)
  | 7 => some (0, 6)
  | 8 => some (0, 6)
  | 9 => some (0, 6)
  | 10 => some (0, 6)
  | 11 => some (0, 6)
  | 12 => some (0, 6)
  | 14 => some (2, 160)
  | 16 => some (0, 4)
  | 17 => some (0, 4)
  | 18 => some (0, 160)
  | 19 => some (3, 41)
  | 20 => some (0, 1344)
  | 21 => some (1, 256)
  | 23 => some (0, 213)
  | 24 => some (0, 71)
  | 25 => some (1, 2)
  | 26 => some (0, 71)
  | 27 => some (0, 4)
  | 28 => some (0, 160)
  | 29 => some (0, 164)
  | 30 => some (1, 80)
  | 31 => some (0, 84)
  | 32 => some (0, 1680)
  | 33 => some (0, 4)
  | 34 => some (0, 4)
  | 35 => some (0, 160)
  | 36 => some (0, 71)
  | _ => none
/-- a field's sort: 0 int, 1 long, 2 a reference -/
def xkd (c k : Nat) : Nat := match c with
  | 0 => match k with
    | 0 => 0
    | 6 => 0
    | 7 => 1
    | 8 => 0
    | 9 => 0
    | 13 => 0
    | _ => 2
  | 1 => 2
  | 2 => match k with
    | 0 => 2
    | _ => 0
  | 3 => match k with
    | 5 => 0
    | 8 => 0
    | 9 => 0
    | _ => 2
  | _ => match k with
    | 3 => 0
    | 5 => 0
    | 6 => 0
    | 7 => 0
    | 9 => 0
    | 11 => 0
    | 12 => 0
    | 13 => 0
    | 14 => 0
    | 15 => 0
    | 16 => 0
    | 17 => 0
    | 20 => 1
    | 21 => 1
    | 22 => 1
    | 28 => 0
    | _ => 2
/-- what a field that is a reference holds -/
def xrf (t : Nat) (i : Fin 5) (k : Nat) : XR := match t with
  | 0 => match k with
    | 0 => (1, 0)
    | 1 => (1, 1)
    | 2 => (1, 2)
    | 3 => (1, 3)
    | 4 => (1, 4)
    | 6 => (13, 0)
    | 7 => (15, 0)
    | 10 => (19, 0)
    | 11 => (20, 0)
    | _ => (21, 0)
  | 1 => match k with
    | 1 => (2, i)
    | 2 => (3, i)
    | 3 => (4, i)
    | 4 => (5, i)
    | 5 => (6, i)
    | 10 => (7, i)
    | 11 => (8, i)
    | 12 => (9, i)
    | 14 => (10, i)
    | 15 => (11, i)
    | _ => (12, i)
  | 13 => (14, 0)
  | 15 => match k with
    | 0 => (16, 0)
    | 1 => (17, 0)
    | _ => (18, 0)
  | _ => match k with
    | 0 => (23, 0)
    | 1 => (24, 0)
    | 2 => (25, 0)
    | 4 => (26, 0)
    | 8 => (27, 0)
    | 10 => (28, 0)
    | 18 => (29, 0)
    | 19 => (30, 0)
    | 23 => (31, 0)
    | 24 => (32, 0)
    | 25 => (33, 0)
    | 26 => (34, 0)
    | 27 => (35, 0)
    | _ => (36, 0)
def xC (c : Nat) : String := match c with
  | 0 => RX0
  | 1 => RX1
  | 2 => RX2
  | 3 => RX3
  | _ => RX4
def xT (c : Nat) : u_T := match c with
  | 0 => TX0
  | 1 => TX1
  | 2 => TX2
  | 3 => TX3
  | _ => TX4
def xN (c : Nat) : Nat := match c with
  | 0 => 17
  | 1 => 3
  | 2 => 7
  | 3 => 13
  | _ => 30
theorem xcl_vw {c : Nat} (h : c < 5) : vwCl[c]? = some (xC c, xT c, xN c) := by
  match c, h with
  | 0, _ => rfl
  | 1, _ => rfl
  | 2, _ => rfl
  | 3, _ => rfl
  | 4, _ => rfl
theorem xcl_lt {t c : Nat} (h : xcl t = some c) : c < 5 := by
  unfold xcl at h
  split at h <;> cases h <;> decide
def xci (t : Nat) : Nat := (xcl t).getD 0
/-- whether a place holds a long -/
def xisL (t k : Nat) : Bool := match xar t with
  | some q => q.1 == 3
  | none => xkd (xci t) k == 1
def xfv (ρ : Nat → Fin 5 → Nat) (RM : Nat → Fin 5 → Nat → Int32) (RL : Nat → Fin 5 → Nat → Int64) (t : Nat) (i : Fin 5) (k : Nat) : Value :=
  match xkd (xci t) k with
  | 0 => .int (RM t i k)
  | 1 => .long (RL t i k)
  | _ => .ref (ρ (xrf t i k).1 (xrf t i k).2)
def xcell (ρ : Nat → Fin 5 → Nat) (cy : Nat → ClassId) (RM : Nat → Fin 5 → Nat → Int32) (RL : Nat → Fin 5 → Nat → Int64) (r : XR) : va_E :=
  match xar r.1 with
  | some q => .inl (cy q.1, q.2, if q.1 = 3 then .inr (.inl (RL r.1 r.2)) else .inl (RM r.1 r.2))
  | none => .inr (xci r.1, (List.range (xN (xci r.1))).map (xfv ρ RM RL r.1 r.2))
def xws (ρ : Nat → Fin 5 → Nat) (cy : Nat → ClassId) (RM : Nat → Fin 5 → Nat → Int32) (RL : Nat → Fin 5 → Nat → Int64) : va_W := xtl.map (fun r => (ρ r.1 r.2, xcell ρ cy RM RL r))
def xabs (RM : Nat → Fin 5 → Nat → Int32) (RL : Nat → Fin 5 → Nat → Int64) : XM := fun t i k => if xisL t k then (RL t i k).toInt else (RM t i k).toInt
def xtys (cy : Nat → ClassId) : List (ClassId × FieldType) := [(cy 0, .int), (cy 1, .boolean), (cy 2, .byte), (cy 3, .long)]
def xA (ρ : Nat → Fin 5 → Nat) (sz : Nat) : Nat → Prop := fun q => (∃ r ∈ xtl, q = ρ r.1 r.2) ∨ sz ≤ q
def vrel (ρ : Nat → Fin 5 → Nat) (v : XV) (w : Value) : Prop := match v with
  | .inl z => ∃ x : Int32, w = .int x ∧ x.toInt = z
  | .inr (.inl z) => ∃ x : Int64, w = .long x ∧ x.toInt = z
  | .inr (.inr r) => w = .ref (ρ r.1 r.2) ∧ r ∈ xtl
def xSR (ρ : Nat → Fin 5 → Nat) : List XV → List Value → Prop
  | [], ws => ws = []
  | v :: vs, ws => ∃ w ws', ws = w :: ws' ∧ vrel ρ v w ∧ xSR ρ vs ws'
def xLR (ρ : Nat → Fin 5 → Nat) (nL : Nat) (L : List (Option XV)) (ls : Array Slot) : Prop := ∃ lv, lv_has ls nL lv ∧ ∀ (k : Nat) (v : XV), L[k]? = some (some v) → ∃ w, (k, w) ∈ lv ∧ vrel ρ v w
def xOR (ρ : Nat → Fin 5 → Nat) (r : Option XV) (o : Option Value) : Prop := match r with
  | none => o = none
  | some v => ∃ w, o = some w ∧ vrel ρ v w
/-! words -/
def xw (j i : Nat) : Option Jvm.Cond := match j with
  | 0 => (k2_sels lw_privs)[i]?
  | 1 => tables_1_1[i]?
  | 2 => tables_1_2[i]?
  | 3 => tables_1_3[i]?
  | 4 => tables_1_4[i]?
  | 5 => tables_1_5[i]?
  | _ => tables_1_6[i]?
theorem xw_in {j i : Nat} {w : Jvm.Cond} (h : xw j i = some w) : w ∈ lw_tbl := by
  unfold xw at h
  unfold lw_tbl tables_1
  simp only [List.mem_append]
  split at h <;> have h := List.mem_of_getElem? h <;> simp only [h, true_or, or_true]
def xgt : List Jvm.Cond := lw_tbl.filter goodWord
theorem xgt_in {w : Jvm.Cond} (h : w ∈ lw_tbl) (g : goodWord w = true) : w ∈ xgt := List.mem_filter.mpr ⟨h, g⟩
theorem xgt_good : GoodIn lw_tbl xgt := fun w h => ⟨(List.mem_filter.mp h).1, good_of_word (List.mem_filter.mp h).2⟩
theorem xgt_self : GoodIn xgt xgt := fun w h => ⟨h, good_of_word (List.mem_filter.mp h).2⟩
def xck (p : Nat × Nat) (w : Jvm.Cond) : Bool := decide (xw p.1 p.2 = some w)
theorem xck_in {p : Nat × Nat} {w : Jvm.Cond} (h : xck p w = true) (g : goodWord w = true) : w ∈ xgt := xgt_in (xw_in (of_decide_eq_true h)) g

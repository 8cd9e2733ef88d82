/-! ===== one instruction of the abstract machine ===== -/
def p1i (st : List XV) (f : Int → List XV → Prop) : Prop := match st with
  | .inl a :: r => f a r
  | _ => False
def p2i (st : List XV) (f : Int → Int → List XV → Prop) : Prop := match st with
  | .inl b :: .inl a :: r => f a b r
  | _ => False
def p1l (st : List XV) (f : Int → List XV → Prop) : Prop := match st with
  | .inr (.inl a) :: r => f a r
  | _ => False
def p2l (st : List XV) (f : Int → Int → List XV → Prop) : Prop := match st with
  | .inr (.inl b) :: .inr (.inl a) :: r => f a b r
  | _ => False
def pli (st : List XV) (f : Int → Int → List XV → Prop) : Prop := match st with
  | .inl b :: .inr (.inl a) :: r => f a b r
  | _ => False
def p1r (st : List XV) (f : Nat → Fin 5 → List XV → Prop) : Prop := match st with
  | .inr (.inr (t, i)) :: r => f t i r
  | _ => False
def pir (st : List XV) (f : Nat → Fin 5 → Int → List XV → Prop) : Prop := match st with
  | .inl j :: .inr (.inr (t, i)) :: r => f t i j r
  | _ => False
def piir (st : List XV) (f : Nat → Fin 5 → Int → Int → List XV → Prop) : Prop := match st with
  | .inl v :: .inl j :: .inr (.inr (t, i)) :: r => f t i j v r
  | _ => False
def plir (st : List XV) (f : Nat → Fin 5 → Int → Int → List XV → Prop) : Prop := match st with
  | .inr (.inl v) :: .inl j :: .inr (.inr (t, i)) :: r => f t i j v r
  | _ => False
def pvr (st : List XV) (fi : Nat → Fin 5 → Int → List XV → Prop) (fl : Nat → Fin 5 → Int → List XV → Prop) : Prop := match st with
  | .inl v :: .inr (.inr (t, i)) :: r => fi t i v r
  | .inr (.inl v) :: .inr (.inr (t, i)) :: r => fl t i v r
  | _ => False
def pdup (st : List XV) (f : XV → List XV → Prop) : Prop := match st with
  | .inl v :: r => f (.inl v) r
  | .inr (.inr q) :: r => f (.inr (.inr q)) r
  | _ => False
def pdup2 (st : List XV) (f : List XV → Prop) : Prop := match st with
  | .inl v :: .inl w :: r => f (.inl v :: .inl w :: .inl v :: .inl w :: r)
  | .inl v :: .inr (.inr q) :: r => f (.inl v :: .inr (.inr q) :: .inl v :: .inr (.inr q) :: r)
  | .inr (.inl v) :: r => f (.inr (.inl v) :: .inr (.inl v) :: r)
  | _ => False
def pret (st : List XV) (f : XV → Prop) : Prop := match st with
  | [v] => f v
  | _ => False
def xgI (L : List (Option XV)) (i : Nat) (f : Int → Prop) : Prop := match L[i]? with
  | some (some (.inl z)) => f z
  | _ => False
def xgL (L : List (Option XV)) (i : Nat) (f : Int → Prop) : Prop := match L[i]? with
  | some (some (.inr (.inl z))) => f z
  | _ => False
def xgR (L : List (Option XV)) (i : Nat) (f : XR → Prop) : Prop := match L[i]? with
  | some (some (.inr (.inr q))) => f q
  | _ => False
/-- what lay one place before is no long any more -/
def xkill (L : List (Option XV)) (i : Nat) : List (Option XV) := match i with
  | 0 => L
  | j + 1 => match L[j]? with
    | some (some (.inr (.inl _))) => L.set j none
    | _ => L
def xst1 (L : List (Option XV)) (i : Nat) (v : XV) : List (Option XV) := (xkill L i).set i (some v)
def xst2 (L : List (Option XV)) (i : Nat) (v : XV) : List (Option XV) := ((xkill L i).set i (some v)).set (i + 1) none
def xcat (v : XV) : Nat := match v with
  | .inr (.inl _) => 2
  | _ => 1
def xpush (r : Option XV) (st : List XV) : List XV := match r with
  | some v => v :: st
  | none => st
def xcall (n : Nat) (st : List XV) (f : List XV → List XV → Prop) : Prop := match decide (n ≤ st.length ∧ ((st.drop n).map xcat).sum ≤ 8) with
  | true => f (st.take n).reverse (st.drop n)
  | false => False
def xbr (c : Jvm.ClassFile.Cond) (a b : Int) (t f : Prop) : Prop := match c with
  | .eq => (a = b → t) ∧ (¬ a = b → f)
  | .ne => (¬ a = b → t) ∧ (a = b → f)
  | .lt => (a < b → t) ∧ (¬ a < b → f)
  | .ge => (¬ a < b → t) ∧ (a < b → f)
  | .gt => (b < a → t) ∧ (¬ b < a → f)
  | .le => (¬ b < a → t) ∧ (b < a → f)
def xjmp (x : XI) (f : Nat → Prop) : Prop := match x with
  | .inr (.inr (.inl (t :: _))) => f t
  | _ => False
def xcon (x : XI) (f : Int → Prop) : Prop := match x with
  | .inr (.inr (.inr (v, _))) => f v
  | _ => False
def xfd (x : XI) (f : Nat → Nat → Prop) : Prop := match x with
  | .inl (c, k, _) => f c k
  | _ => False
def xcl_ (x : XI) (f : XMI → Nat → Nat → Prop) : Prop := match x with
  | .inr (.inl (i, n, c, _)) => f i n c
  | _ => False
/-- the jump of a switch over the numbers from lo on -/
def xsw : List Nat → Nat → Int → Int → (Nat → Prop) → Prop
  | [], d, _, _, f => f d
  | t :: ts, d, lo, z, f => (z = lo → f t) ∧ (¬ z = lo → xsw ts d (lo + 1) z f)
def xtsw (x : XI) (lo z : Int) (f : Nat → Prop) : Prop := match x with
  | .inr (.inr (.inl (d :: ts))) => xsw ts d lo z f
  | _ => False
def sxI (i : XMI) (K : Option XV → XM → Prop) (nx : Nat → List (Option XV) → List XV → XM → Prop) (ins : Instr) (x : XI) (k : Nat) (L : List (Option XV)) (st : List XV) (M : XM) : Prop :=
  match ins with
  | .iconst n => nx (k + 1) L (xI n :: st) M
  | .bipush n => nx (k + 1) L (xI n :: st) M
  | .sipush n => nx (k + 1) L (xI n :: st) M
  | .lconst n => nx (k + 1) L (xL (n : Nat) :: st) M
  | .ldc _ => xcon x fun v => nx (k + 1) L (xI v :: st) M
  | .ldc_w _ => xcon x fun v => nx (k + 1) L (xI v :: st) M
  | .ldc2_w _ => xcon x fun v => nx (k + 1) L (xL v :: st) M
  | .iload n => xgI L n fun z => nx (k + 1) L (xI z :: st) M
  | .iload_n n => xgI L n fun z => nx (k + 1) L (xI z :: st) M
  | .lload n => xgL L n fun z => nx (k + 1) L (xL z :: st) M
  | .lload_n n => xgL L n fun z => nx (k + 1) L (xL z :: st) M
  | .aload n => xgR L n fun q => nx (k + 1) L (.inr (.inr q) :: st) M
  | .aload_n n => xgR L n fun q => nx (k + 1) L (.inr (.inr q) :: st) M
  | .istore n => p1i st fun z r => nx (k + 1) (xst1 L n (xI z)) r M
  | .istore_n n => p1i st fun z r => nx (k + 1) (xst1 L n (xI z)) r M
  | .lstore n => p1l st fun z r => nx (k + 1) (xst2 L n (xL z)) r M
  | .lstore_n n => p1l st fun z r => nx (k + 1) (xst2 L n (xL z)) r M
  | .iinc n d => xgI L n fun z => nx (k + 1) (xst1 L n (xI (w32 (z + d)))) st M
  | .iadd => p2i st fun a b r => nx (k + 1) L (xI (w32 (a + b)) :: r) M
  | .isub => p2i st fun a b r => nx (k + 1) L (xI (w32 (a - b)) :: r) M
  | .imul => p2i st fun a b r => nx (k + 1) L (xI (w32 (a * b)) :: r) M
  | .idiv => p2i st fun a b r => ¬ b = 0 ∧ nx (k + 1) L (xI (w32 (a.tdiv b)) :: r) M
  | .irem => p2i st fun a b r => ¬ b = 0 ∧ nx (k + 1) L (xI (a.tmod b) :: r) M
  | .iand => p2i st fun a b r => nx (k + 1) L (xI (bAnd a b) :: r) M
  | .ior => p2i st fun a b r => nx (k + 1) L (xI (bOr a b) :: r) M
  | .ixor => p2i st fun a b r => nx (k + 1) L (xI (bXor a b) :: r) M
  | .ishl => p2i st fun a b r => nx (k + 1) L (xI (bShl a b) :: r) M
  | .ishr => p2i st fun a b r => nx (k + 1) L (xI (bShr a b) :: r) M
  | .iushr => p2i st fun a b r => nx (k + 1) L (xI (bUshr a b) :: r) M
  | .ladd => p2l st fun a b r => nx (k + 1) L (xL (w64 (a + b)) :: r) M
  | .lsub => p2l st fun a b r => nx (k + 1) L (xL (w64 (a - b)) :: r) M
  | .lmul => p2l st fun a b r => nx (k + 1) L (xL (w64 (a * b)) :: r) M
  | .ldiv => p2l st fun a b r => ¬ b = 0 ∧ nx (k + 1) L (xL (w64 (a.tdiv b)) :: r) M
  | .lrem => p2l st fun a b r => ¬ b = 0 ∧ nx (k + 1) L (xL (a.tmod b) :: r) M
  | .land => p2l st fun a b r => nx (k + 1) L (xL (lAnd a b) :: r) M
  | .lor => p2l st fun a b r => nx (k + 1) L (xL (lOr a b) :: r) M
  | .lxor => p2l st fun a b r => nx (k + 1) L (xL (lXor a b) :: r) M
  | .lshl => pli st fun a b r => nx (k + 1) L (xL (lShl a b) :: r) M
  | .lushr => pli st fun a b r => nx (k + 1) L (xL (lUshr a b) :: r) M
  | .lcmp => p2l st fun a b r => nx (k + 1) L (xI (lcmpz a b) :: r) M
  | .i2l => p1i st fun a r => nx (k + 1) L (xL a :: r) M
  | .l2i => p1l st fun a r => nx (k + 1) L (xI (w32 a) :: r) M
  | .i2b => p1i st fun a r => nx (k + 1) L (xI (bByte a) :: r) M
  | .i2s => p1i st fun a r => nx (k + 1) L (xI (bShort a) :: r) M
  | .dup => pdup st fun v r => nx (k + 1) L (v :: v :: r) M
  | .dup2 => pdup2 st fun r => nx (k + 1) L r M
  | .goto _ => xjmp x fun t => nx t L st M
  | .ifCond c _ => xjmp x fun t => p1i st fun a r => xbr c a 0 (nx t L r M) (nx (k + 1) L r M)
  | .if_icmp c _ => xjmp x fun t => p2i st fun a b r => xbr c a b (nx t L r M) (nx (k + 1) L r M)
  | .tableswitch _ lo _ _ => p1i st fun a r => xtsw x lo a fun t => nx t L r M
  | .getfield _ => xfd x fun c f => p1r st fun t j r => match decide (xcl t = some c) with
    | true => match xkd c f with
      | 0 => nx (k + 1) L (xI (M t j f) :: r) M
      | 1 => nx (k + 1) L (xL (M t j f) :: r) M
      | _ => nx (k + 1) L (.inr (.inr (xrf t j f)) :: r) M
    | false => False
  | .putfield _ => xfd x fun c f => pvr st (fun t j v r => match decide (xcl t = some c ∧ xkd c f = 0) with
      | true => nx (k + 1) L r (xup M t j f v)
      | false => False) (fun t j v r => match decide (xcl t = some c ∧ xkd c f = 1) with
      | true => nx (k + 1) L r (xup M t j f v)
      | false => False)
  | .iaload => pir st fun t j a r => match xar t with
    | some (0, n) => (0 ≤ a ∧ a < (n : Int)) ∧ nx (k + 1) L (xI (M t j a.toNat) :: r) M
    | _ => False
  | .baload => pir st fun t j a r => match xar t with
    | some (1, n) => (0 ≤ a ∧ a < (n : Int)) ∧ nx (k + 1) L (xI (M t j a.toNat) :: r) M
    | some (2, n) => (0 ≤ a ∧ a < (n : Int)) ∧ nx (k + 1) L (xI (M t j a.toNat) :: r) M
    | _ => False
  | .laload => pir st fun t j a r => match xar t with
    | some (3, n) => (0 ≤ a ∧ a < (n : Int)) ∧ nx (k + 1) L (xL (M t j a.toNat) :: r) M
    | _ => False
  | .iastore => piir st fun t j a v r => match xar t with
    | some (0, n) => (0 ≤ a ∧ a < (n : Int)) ∧ nx (k + 1) L r (xup M t j a.toNat v)
    | _ => False
  | .bastore => piir st fun t j a v r => match xar t with
    | some (1, n) => (0 ≤ a ∧ a < (n : Int)) ∧ nx (k + 1) L r (xup M t j a.toNat (bAnd v 1))
    | some (2, n) => (0 ≤ a ∧ a < (n : Int)) ∧ nx (k + 1) L r (xup M t j a.toNat (bByte v))
    | _ => False
  | .lastore => plir st fun t j a v r => match xar t with
    | some (3, n) => (0 ≤ a ∧ a < (n : Int)) ∧ nx (k + 1) L r (xup M t j a.toNat v)
    | _ => False
  | .arraylength => p1r st fun t _ r => match xar t with
    | some (_, n) => nx (k + 1) L (xI (n : Nat) :: r) M
    | _ => False
  | .invokestatic _ => xcl_ x fun i' n _ => xcall n st fun as r => CW i' as M fun v M' => nx (k + 1) L (xpush v r) M'
  | .invokevirtual _ => xcl_ x fun i' n c => xcall (n + 1) st fun as r => match as with
    | .inr (.inr (t, j)) :: as' => match decide (xcl t = some c) with
      | true => CW i' (.inr (.inr (t, j)) :: as') M fun v M' => nx (k + 1) L (xpush v r) M'
      | false => False
    | _ => False
  | .return_ => match mR i with
    | none => match st with
      | [] => K none M
      | _ => False
    | _ => False
  | .ireturn => pret st fun v => match v with
    | .inl z => match mR i with
      | some .int => K (some (xI z)) M
      | some .boolean => (z = 0 ∨ z = 1) ∧ K (some (xI z)) M
      | _ => False
    | _ => False
  | .lreturn => pret st fun v => match v with
    | .inr (.inl z) => match mR i with
      | some .long => K (some (xL z)) M
      | _ => False
    | _ => False
  | .areturn => pret st fun v => match v with
    | .inr (.inr q) => match mR i with
      | some (.object _) => K (some (.inr (.inr q))) M
      | _ => False
    | _ => False
  | _ => False
/-- instructions from k on; at a cut the judgement itself, with the locals that are kept there -/
def xmask : List Bool → List (Option XV) → List (Option XV)
  | [], _ => []
  | true :: bs, v :: vs => v :: xmask bs vs
  | false :: bs, _ :: vs => none :: xmask bs vs
  | _, [] => []
def sx (i : XMI) (ct : List XE) (K : Option XV → XM → Prop) (cuts : List (Nat × List Bool)) : Nat → Nat → List (Option XV) → List XV → XM → Prop
  | 0, k, L, st, M => J i ct K k L st M
  | n + 1, k, L, st, M => match ct[k]? with
    | some e => sxI i K (fun k' L' st' M' => match cuts.lookup k' with
      | some b => J i ct K k' (xmask b L') st' M'
      | none => sx i ct K cuts n k' L' st' M') e.2.1 e.2.2.2 k L st M
    | none => False
/-! what a table must keep -/
def xnxt (ct : List XE) (k pc n : Nat) : Bool := decide (xpc ct (k + 1) = pc + n)
def okJ (ct : List XE) (pc : Nat) (off : Int) (t : Nat) : Bool := decide ((pc : Int) + off = (xpc ct t : Int))
def okSw (ct : List XE) (pc : Nat) : List Int → List Nat → Bool
  | [], [] => true
  | o :: os, t :: ts => okJ ct pc o t && okSw ct pc os ts
  | _, _ => false
def okC (i i' : XMI) : Bool := decide (mF i' + 1 ≤ mF i) && decide (8 + (mL i' + 11) + mO i' ≤ mO i)
def okI (i : XMI) (ct : List XE) (k : Nat) (e : XE) : Bool :=
  decide (decode (mC i) e.1 = .ok (e.2.1, e.2.2.1)) && (match e.2.1, e.2.2.2 with
  | .iconst n, _ => xnxt ct k e.1 1 && decide (e.2.2.1 = 1 ∧ -2147483648 ≤ n ∧ n < 2147483648)
  | .bipush n, _ => xnxt ct k e.1 2 && decide (e.2.2.1 = 2 ∧ -128 ≤ n ∧ n < 128)
  | .sipush n, _ => xnxt ct k e.1 3 && decide (e.2.2.1 = 3 ∧ -32768 ≤ n ∧ n < 32768)
  | .ldc c, .inr (.inr (.inr (v, p))) => xnxt ct k e.1 2 && decide (e.2.2.1 = 2 ∧ -2147483648 ≤ v ∧ v < 2147483648) && xck p (.constant (mOwn i) c (Int32.ofInt v))
  | .ldc_w c, .inr (.inr (.inr (v, p))) => xnxt ct k e.1 3 && decide (e.2.2.1 = 3 ∧ -2147483648 ≤ v ∧ v < 2147483648) && xck p (.constant (mOwn i) c (Int32.ofInt v))
  | .ldc2_w c, .inr (.inr (.inr (v, p))) => xnxt ct k e.1 3 && decide (e.2.2.1 = 3 ∧ -9223372036854775808 ≤ v ∧ v < 9223372036854775808) && xck p (.constantLong (mOwn i) c (Int64.ofInt v))
  | .iload _, _ => xnxt ct k e.1 2 && decide (e.2.2.1 = 2)
  | .lload _, _ => xnxt ct k e.1 2 && decide (e.2.2.1 = 2)
  | .aload _, _ => xnxt ct k e.1 2 && decide (e.2.2.1 = 2)
  | .istore n, _ => xnxt ct k e.1 2 && decide (e.2.2.1 = 2 ∧ n < mL i)
  | .istore_n n, _ => xnxt ct k e.1 1 && decide (e.2.2.1 = 1 ∧ (n : Nat) < mL i)
  | .lstore n, _ => xnxt ct k e.1 2 && decide (e.2.2.1 = 2 ∧ n + 1 < mL i)
  | .lstore_n n, _ => xnxt ct k e.1 1 && decide (e.2.2.1 = 1 ∧ (n : Nat) + 1 < mL i)
  | .iinc n d, _ => xnxt ct k e.1 3 && decide (e.2.2.1 = 3 ∧ n < mL i ∧ -2147483648 ≤ d ∧ d < 2147483648)
  | .goto off, .inr (.inr (.inl (t :: _))) => okJ ct e.1 off t && decide (e.2.2.1 = 3)
  | .ifCond _ off, .inr (.inr (.inl (t :: _))) => xnxt ct k e.1 3 && okJ ct e.1 off t && decide (e.2.2.1 = 3)
  | .if_icmp _ off, .inr (.inr (.inl (t :: _))) => xnxt ct k e.1 3 && okJ ct e.1 off t && decide (e.2.2.1 = 3)
  | .tableswitch d lo hi offs, .inr (.inr (.inl (t :: ts))) => okJ ct e.1 d t && okSw ct e.1 offs.toList ts && decide (hi + 1 = lo + (offs.toList.length : Int))
  | .getfield c, .inl (ci, f, p) => xnxt ct k e.1 3 && decide (e.2.2.1 = 3 ∧ f < xN ci ∧ ci < 5) && xck p (.fieldLink (mOwn i) c (xT ci f).1 (xT ci f).2.1 (xT ci f).2.2.1)
  | .putfield c, .inl (ci, f, p) => xnxt ct k e.1 3 && decide (e.2.2.1 = 3 ∧ f < xN ci ∧ ci < 5 ∧ (xT ci f).2.2.2 = false) && xck p (.fieldLink (mOwn i) c (xT ci f).1 (xT ci f).2.1 (xT ci f).2.2.1)
  | .invokestatic c, .inr (.inl (i', n, _, nest, ps)) => xnxt ct k e.1 3 && decide (e.2.2.1 = 3) && okC i i' && decide ((parseMethodDescriptor (mY i').desc).map (fun d => d.parameters.length) = some n) && xck (ps.getD 1 (9, 0)) (.static (mY i')) && xck (ps.getD 2 (9, 0)) (.initialized (mY i').cls) && (match nest with
    | false => xck (ps.getD 0 (9, 0)) (.methodLink (mOwn i) c (mY i'))
    | true => decide (.methodLinkNest (mOwn i) c (mY i') RX3 ∈ xnest))
  | .invokevirtual c, .inr (.inl (i', n, ci, _, ps)) => xnxt ct k e.1 3 && decide (e.2.2.1 = 3 ∧ (mY i').cls = xC ci ∧ ci < 5) && okC i i' && decide ((parseMethodDescriptor (mY i').desc).map (fun d => d.parameters.length) = some n) && xck (ps.getD 0 (9, 0)) (.methodLink (mOwn i) c (mY i')) && xck (ps.getD 1 (9, 0)) (.instanceMethod (mY i')) && xck (ps.getD 2 (9, 0)) (.initialized (mY i').cls) && xck (ps.getD 3 (9, 0)) (.selects (xC ci) (mY i') (mY i'))
  | .return_, _ => decide (e.2.2.1 = 1)
  | .ireturn, _ => decide (e.2.2.1 = 1)
  | .lreturn, _ => decide (e.2.2.1 = 1)
  | .areturn, _ => decide (e.2.2.1 = 1)
  | _, _ => xnxt ct k e.1 1 && decide (e.2.2.1 = 1))
def okAll (i : XMI) (ct : List XE) : Nat → List XE → Bool
  | _, [] => true
  | k, e :: es => okI i ct k e && okAll i ct (k + 1) es
theorem okAll_at {i : XMI} {ct : List XE} : ∀ (es : List XE) (k j : Nat) (e : XE), okAll i ct k es = true → es[j]? = some e → okI i ct (k + j) e = true
  | [], k, j, e, _, h => by simp at h
  | a :: es, k, 0, e, h, he => by
    simp only [okAll, Bool.and_eq_true] at h
    simp at he
    subst he
    exact h.1
  | a :: es, k, j + 1, e, h, he => by
    simp only [okAll, Bool.and_eq_true] at h
    simp only [List.getElem?_cons_succ] at he
    have := okAll_at es (k + 1) j e h.2 he
    rwa [show k + 1 + j = k + (j + 1) by omega] at this

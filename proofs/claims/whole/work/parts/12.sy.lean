/-! ===== instructions up to the next call, work on bits, cut or return; Jc is the judgement, by a name that stays folded ===== -/
def xisC (ins : Instr) : Bool := match ins with
  | .invokestatic _ => true
  | .invokevirtual _ => true
  | .iand => true
  | .ior => true
  | .ixor => true
  | .ishl => true
  | .ishr => true
  | .iushr => true
  | .land => true
  | .lor => true
  | .lxor => true
  | .lshl => true
  | .lushr => true
  | _ => false
def sy (i : XMI) (ct : List XE) (K : Option XV → XM → Prop) (Jc : Nat → List (Option XV) → List XV → XM → Prop) (cuts : List (Nat × List Bool)) : Nat → Nat → List (Option XV) → List XV → XM → Prop
  | 0, k, L, st, M => Jc k L st M
  | n + 1, k, L, st, M => match ct[k]? with
    | some e => match xisC e.2.1 with
      | true => sxI i K Jc e.2.1 e.2.2.2 k L st M
      | false => sxI i K (fun k' L' st' M' => match cuts.lookup k' with
        | some b => Jc k' (xmask b L') st' M'
        | none => sy i ct K Jc cuts n k' L' st' M') e.2.1 e.2.2.2 k L st M
    | none => False
theorem sy_ok {i : XMI} {ct : List XE} {K : Option XV → XM → Prop} {Jc : Nat → List (Option XV) → List XV → XM → Prop} (hJ : Jc = J i ct K) (hok : okAll i ct 0 ct = true) (cuts : List (Nat × List Bool)) : ∀ (n k : Nat) (L : List (Option XV)) (st : List XV) (M : XM), sy i ct K Jc cuts n k L st M → Jc k L st M
  | 0, _, _, _, _, h => h
  | n + 1, k, L, st, M, h => by
    unfold sy at h
    split at h
    case h_2 => exact h.elim
    rename_i e he
    split at h
    · rw [hJ] at h ⊢
      exact sxI_ok hok he (fun k' L' st' M' q => q) h
    · have h2 : J i ct K k L st M := sxI_ok hok he (fun k' L' st' M' q => by
        split at q
        · rw [hJ] at q
          exact J_weak (xmask_at _ _) q
        · have q := sy_ok hJ hok cuts n _ _ _ _ q
          rw [hJ] at q
          exact q) h
      rw [hJ]
      exact h2

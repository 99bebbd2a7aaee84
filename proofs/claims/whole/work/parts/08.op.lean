/-! ===== the interpreter: one step as a value, runs with fuel, and runs without ===== -/
/-- what one instruction does: go on; or answer; or call a method and then go on behind it -/
abbrev Act : Type := (Nat × List Value × List Value × Hp) ⊕ (Option Value ⊕ (Nat × List Value × List Value))
def p1 : List Value → Option (Int32 × List Value)
  | .int a :: st => some (a, st)
  | _ => none
def p2 : List Value → Option (Int32 × Int32 × List Value)
  | .int b :: .int a :: st => some (b, a, st)
  | _ => none
def pa : List Value → Option (Nat × List Value)
  | .ref k :: st => some (k, st)
  | _ => none
def pia : List Value → Option (Int32 × Nat × List Value)
  | .int x :: .ref k :: st => some (x, k, st)
  | _ => none
def piia : List Value → Option (Int32 × Int32 × Nat × List Value)
  | .int u :: .int x :: .ref k :: st => some (u, x, k, st)
  | _ => none
def pl1 : List Value → Option (Int64 × List Value)
  | .long a :: st => some (a, st)
  | _ => none
def pl2 : List Value → Option (Int64 × Int64 × List Value)
  | .long b :: .long a :: st => some (b, a, st)
  | _ => none
def pv1 : List Value → Option (Value × List Value)
  | u :: st => if isIR u = true then some (u, st) else none
  | _ => none
def pv2 : List Value → Option (Value × Value × List Value)
  | u :: v :: st => if isIR u = true ∧ isIR v = true then some (u, v, st) else none
  | _ => none
def pcp : List Value → Option (Int32 × Int32 × Nat × Int32 × Nat × List Value)
  | .int n :: .int dp :: .ref k1 :: .int sp :: .ref k0 :: st => some (n, dp, k1, sp, k0, st)
  | _ => none
/-- n arguments from the stack, the last first -/
def pn (n : Nat) (st : List Value) : Option (List Value × List Value) := if n ≤ st.length ∧ (st.take n).all isIR = true then some ((st.take n).reverse, st.drop n) else none
theorem p1_e {st : List Value} {q : Int32 × List Value} (h : p1 st = some q) : st = .int q.1 :: q.2 := by
  unfold p1 at h; split at h <;> cases h; rfl
theorem p2_e {st : List Value} {q : Int32 × Int32 × List Value} (h : p2 st = some q) : st = .int q.1 :: .int q.2.1 :: q.2.2 := by
  unfold p2 at h; split at h <;> cases h; rfl
theorem pa_e {st : List Value} {q : Nat × List Value} (h : pa st = some q) : st = .ref q.1 :: q.2 := by
  unfold pa at h; split at h <;> cases h; rfl
theorem pia_e {st : List Value} {q : Int32 × Nat × List Value} (h : pia st = some q) : st = .int q.1 :: .ref q.2.1 :: q.2.2 := by
  unfold pia at h; split at h <;> cases h; rfl
theorem piia_e {st : List Value} {q : Int32 × Int32 × Nat × List Value} (h : piia st = some q) : st = .int q.1 :: .int q.2.1 :: .ref q.2.2.1 :: q.2.2.2 := by
  unfold piia at h; split at h <;> cases h; rfl
theorem pl1_e {st : List Value} {q : Int64 × List Value} (h : pl1 st = some q) : st = .long q.1 :: q.2 := by
  unfold pl1 at h; split at h <;> cases h; rfl
theorem pl2_e {st : List Value} {q : Int64 × Int64 × List Value} (h : pl2 st = some q) : st = .long q.1 :: .long q.2.1 :: q.2.2 := by
  unfold pl2 at h; split at h <;> cases h; rfl
theorem pv1_e {st : List Value} {q : Value × List Value} (h : pv1 st = some q) : st = q.1 :: q.2 ∧ isIR q.1 = true := by
  unfold pv1 at h; split at h
  · split at h <;> cases h; exact ⟨rfl, by assumption⟩
  · cases h
theorem pv2_e {st : List Value} {q : Value × Value × List Value} (h : pv2 st = some q) : st = q.1 :: q.2.1 :: q.2.2 ∧ isIR q.1 = true ∧ isIR q.2.1 = true := by
  unfold pv2 at h; split at h
  · split at h <;> cases h; exact ⟨rfl, by assumption⟩
  · cases h
theorem pcp_e {st : List Value} {q : Int32 × Int32 × Nat × Int32 × Nat × List Value} (h : pcp st = some q) : st = .int q.1 :: .int q.2.1 :: .ref q.2.2.1 :: .int q.2.2.2.1 :: .ref q.2.2.2.2.1 :: q.2.2.2.2.2 := by
  unfold pcp at h; split at h <;> cases h; rfl
theorem pn_e {n : Nat} {st : List Value} {q : List Value × List Value} (h : pn n st = some q) : st = q.1.reverse ++ q.2 ∧ q.1.length = n ∧ q.1.all isIR = true := by
  unfold pn at h
  split at h
  · rename_i hc
    cases h
    refine ⟨by simp, by simp; omega, by simpa using hc.2⟩
  · cases h
def ldI (ls : List Value) (i : Nat) : Option Int32 := match ls[i]? with
  | some (.int x) => some x
  | _ => none
def ldA (ls : List Value) (i : Nat) : Option Nat := match ls[i]? with
  | some (.ref x) => some x
  | _ => none
theorem ldI_e {ls : List Value} {i : Nat} {x : Int32} (h : ldI ls i = some x) : ls[i]? = some (.int x) := by
  unfold ldI at h; split at h <;> cases h; assumption
theorem ldA_e {ls : List Value} {i x : Nat} (h : ldA ls i = some x) : ls[i]? = some (.ref x) := by
  unfold ldA at h; split at h <;> cases h; assumption
/-- where a jump leads -/
def jmp (pc : Nat) (off : Int) : Option Nat := if 0 ≤ (pc : Int) + off then some ((pc : Int) + off).toNat else none
theorem jmp_e {pc tgt : Nat} {off : Int} (h : jmp pc off = some tgt) : (pc : Int) + off = (tgt : Int) := by
  unfold jmp at h
  split at h
  · cases h; omega
  · cases h
abbrev go1 (pc : Nat) (ls st : List Value) (h : Hp) : Option Act := some (.inl (pc, ls, st, h))
def op (y pc : Nat) (ls st : List Value) (h : Hp) (ins : Instr) (len : Nat) : Option Act := match ins with
  | .iconst n => if len = 1 then go1 (pc + 1) ls (.int (Int32.ofInt n) :: st) h else none
  | .bipush n => if len = 2 then go1 (pc + 2) ls (.int (Int8.ofInt n).toInt32 :: st) h else none
  | .sipush n => if len = 3 then go1 (pc + 3) ls (.int (Int16.ofInt n).toInt32 :: st) h else none
  | .ldc i => if len = 2 then (match cr (oc y) i with
      | some v => go1 (pc + 2) ls (.int v :: st) h
      | none => (sr (oc y) i).bind fun q => go1 (pc + 2) ls (.ref (700 + q) :: st) h) else none
  | .ldc2_w i => if len = 3 then (crl (oc y) i).bind fun v => go1 (pc + 3) ls (.long v :: st) h else none
  | .iload_n i => if len = 1 then (ldI ls i).bind fun x => go1 (pc + 1) ls (.int x :: st) h else none
  | .iload i => if len = 2 then (ldI ls i).bind fun x => go1 (pc + 2) ls (.int x :: st) h else none
  | .aload_n i => if len = 1 then (ldA ls i).bind fun x => go1 (pc + 1) ls (.ref x :: st) h else none
  | .aload i => if len = 2 then (ldA ls i).bind fun x => go1 (pc + 2) ls (.ref x :: st) h else none
  | .istore_n i => if len = 1 ∧ (i : Nat) < mL y then (p1 st).bind fun q => go1 (pc + 1) (ls.set i (.int q.1)) q.2 h else none
  | .istore i => if len = 2 ∧ i < mL y then (p1 st).bind fun q => go1 (pc + 2) (ls.set i (.int q.1)) q.2 h else none
  | .astore_n i => if len = 1 ∧ (i : Nat) < mL y then (pa st).bind fun q => go1 (pc + 1) (ls.set i (.ref q.1)) q.2 h else none
  | .astore i => if len = 2 ∧ i < mL y then (pa st).bind fun q => go1 (pc + 2) (ls.set i (.ref q.1)) q.2 h else none
  | .iinc i n => if len = 3 ∧ i < mL y then (ldI ls i).bind fun x => go1 (pc + 3) (ls.set i (.int (x + Int32.ofInt n))) st h else none
  | .iadd => if len = 1 then (p2 st).bind fun q => go1 (pc + 1) ls (.int (q.2.1 + q.1) :: q.2.2) h else none
  | .isub => if len = 1 then (p2 st).bind fun q => go1 (pc + 1) ls (.int (q.2.1 - q.1) :: q.2.2) h else none
  | .imul => if len = 1 then (p2 st).bind fun q => go1 (pc + 1) ls (.int (q.2.1 * q.1) :: q.2.2) h else none
  | .iand => if len = 1 then (p2 st).bind fun q => go1 (pc + 1) ls (.int (q.2.1 &&& q.1) :: q.2.2) h else none
  | .ixor => if len = 1 then (p2 st).bind fun q => go1 (pc + 1) ls (.int (q.2.1 ^^^ q.1) :: q.2.2) h else none
  | .ishr => if len = 1 then (p2 st).bind fun q => go1 (pc + 1) ls (.int (q.2.1 >>> (q.1 &&& 31)) :: q.2.2) h else none
  | .idiv => if len = 1 then (p2 st).bind fun q => if q.1 = 0 then none else go1 (pc + 1) ls (.int (q.2.1 / q.1) :: q.2.2) h else none
  | .irem => if len = 1 then (p2 st).bind fun q => if q.1 = 0 then none else go1 (pc + 1) ls (.int (q.2.1 % q.1) :: q.2.2) h else none
  | .ineg => if len = 1 then (p1 st).bind fun q => go1 (pc + 1) ls (.int (-q.1) :: q.2) h else none
  | .i2l => if len = 1 then (p1 st).bind fun q => go1 (pc + 1) ls (.long q.1.toInt64 :: q.2) h else none
  | .l2i => if len = 1 then (pl1 st).bind fun q => go1 (pc + 1) ls (.int q.1.toInt32 :: q.2) h else none
  | .lmul => if len = 1 then (pl2 st).bind fun q => go1 (pc + 1) ls (.long (q.2.1 * q.1) :: q.2.2) h else none
  | .ldiv => if len = 1 then (pl2 st).bind fun q => if q.1 = 0 then none else go1 (pc + 1) ls (.long (q.2.1 / q.1) :: q.2.2) h else none
  | .dup => if len = 1 then (pv1 st).bind fun q => go1 (pc + 1) ls (q.1 :: q.1 :: q.2) h else none
  | .pop => if len = 1 then (pv1 st).bind fun q => go1 (pc + 1) ls q.2 h else none
  | .dup_x1 => if len = 1 then (pv2 st).bind fun q => go1 (pc + 1) ls (q.1 :: q.2.1 :: q.1 :: q.2.2) h else none
  | .dup2 => if len = 1 then (pv2 st).bind fun q => go1 (pc + 1) ls (q.1 :: q.2.1 :: q.1 :: q.2.1 :: q.2.2) h else none
  | .ifCond o off => if len = 3 then (p1 st).bind fun q => (jmp pc off).bind fun t => if c1 o q.1 = true then go1 t ls q.2 h else go1 (pc + 3) ls q.2 h else none
  | .if_icmp o off => if len = 3 then (p2 st).bind fun q => (jmp pc off).bind fun t => if c2 o q.2.1 q.1 = true then go1 t ls q.2.2 h else go1 (pc + 3) ls q.2.2 h else none
  | .goto off => if len = 3 then (jmp pc off).bind fun t => go1 t ls st h else none
  | .tableswitch d lo hi offs => (p1 st).bind fun q => if q.1.toInt < lo ∨ hi < q.1.toInt then (jmp pc d).bind fun t => go1 t ls q.2 h else (offs[(q.1.toInt - lo).toNat]?).bind fun o => (jmp pc o).bind fun t => go1 t ls q.2 h
  | .lookupswitch d ps => (p1 st).bind fun q => if (ps.toList.zip (ps.toList.drop 1)).all (fun (a, next) => a.1 < next.1) = true then (jmp pc (Op.lookupswitch.offset ps.toList d q.1.toInt)).bind fun t => go1 t ls q.2 h else none
  | .getfield i => if len = 3 then (pa st).bind fun q => (fr (oc y) i).bind fun f => if kd q.1 = f.1 then go1 (pc + 3) ls (vl h q.1 f.2 :: q.2) h else none else none
  | .putfield i => if len = 3 then (pia st).bind fun q => (fr (oc y) i).bind fun f => if kd q.2.1 = f.1 ∧ (ft f.1 f.2 = 0 ∨ (ft f.1 f.2 = 1 ∧ (q.1 = 0 ∨ q.1 = 1))) then go1 (pc + 3) ls q.2.2 (hu h q.2.1 f.2 q.1) else none else none
  | .iaload => if len = 1 then (pia st).bind fun q => if kd q.2.1 = 9 ∧ q.1.toNatClampNeg < ln q.2.1 ∧ 0 ≤ q.1 then go1 (pc + 1) ls (.int (h q.2.1 q.1.toNatClampNeg) :: q.2.2) h else none else none
  | .baload => if len = 1 then (pia st).bind fun q => if kd q.2.1 = 10 ∧ q.1.toNatClampNeg < ln q.2.1 ∧ 0 ≤ q.1 then go1 (pc + 1) ls (.int (h q.2.1 q.1.toNatClampNeg) :: q.2.2) h else none else none
  | .aaload => if len = 1 then (pia st).bind fun q => if (11 ≤ kd q.2.1 ∧ kd q.2.1 ≤ 14) ∧ q.1.toNatClampNeg < ln q.2.1 ∧ 0 ≤ q.1 then (rf q.2.1 q.1.toNatClampNeg).bind fun k => go1 (pc + 1) ls (.ref k :: q.2.2) h else none else none
  | .iastore => if len = 1 then (piia st).bind fun q => if kd q.2.2.1 = 9 ∧ q.2.1.toNatClampNeg < ln q.2.2.1 ∧ 0 ≤ q.2.1 then go1 (pc + 1) ls q.2.2.2 (hu h q.2.2.1 q.2.1.toNatClampNeg q.1) else none else none
  | .bastore => if len = 1 then (piia st).bind fun q => if (kd q.2.2.1 = 10 ∧ q.2.1.toNatClampNeg < ln q.2.2.1 ∧ 0 ≤ q.2.1) ∧ (q.1 = 0 ∨ q.1 = 1) then go1 (pc + 1) ls q.2.2.2 (hu h q.2.2.1 q.2.1.toNatClampNeg q.1) else none else none
  | .arraylength => if len = 1 then (pa st).bind fun q => if 9 ≤ kd q.1 ∧ kd q.1 ≤ 10 then go1 (pc + 1) ls (.int (Int32.ofNat (ln q.1)) :: q.2) h else none else none
  | .invokevirtual i => if len = 3 then (match mr (oc y) i with
      | some y' => (pn (nP y') st).bind fun q => (pa q.2).bind fun r => if iS y' = false ∧ kd r.1 = oc y' ∧ oc y' < 9 ∧ r.2.length ≤ 4 ∧ (rF y' + 1 ≤ rF y ∧ 8 + (mL y' + 11) + rL y' ≤ rL y) then some (.inr (.inr (y', .ref r.1 :: q.1, r.2))) else none
      | none => (pr (oc y) i).bind fun z => if z = 0 then ((pa st).bind fun q => if 700 ≤ q.1 ∧ q.1 < 709 ∧ q.2.length ≤ 4 ∧ (2 ≤ rF y ∧ 40 ≤ rL y) then go1 (pc + 3) ls (.int (nI (sLen.getD (q.1 - 700) 0)) :: q.2) h else none)
          else if z = 1 then ((pia st).bind fun q => if 700 ≤ q.2.1 ∧ q.2.1 < 709 ∧ (q.1.toNatClampNeg < sLen.getD (q.2.1 - 700) 0 ∧ 0 ≤ q.1) ∧ q.2.2.length ≤ 4 ∧ (4 ≤ rF y ∧ 85 ≤ rL y) then go1 (pc + 3) ls (.int (sCh (q.2.1 - 700) q.1.toNatClampNeg) :: q.2.2) h else none) else none) else none
  | .invokestatic i => if len = 3 then (match mr (oc y) i with
      | some y' => (pn (nP y') st).bind fun q => if iS y' = true ∧ q.2.length ≤ 4 ∧ (rF y' + 1 ≤ rF y ∧ 8 + (mL y' + 11) + rL y' ≤ rL y) then some (.inr (.inr (y', q.1, q.2))) else none
      | none => (pr (oc y) i).bind fun z => if z = 2 then ((pcp st).bind fun q => if (kd q.2.2.2.2.1 = 9 ∧ kd q.2.2.1 = 9) ∧ (¬ q.2.2.2.1 < 0 ∧ ¬ q.2.1 < 0 ∧ ¬ q.1 < 0) ∧ (q.2.2.2.1.toNatClampNeg + q.1.toNatClampNeg ≤ ln q.2.2.2.2.1 ∧ q.2.1.toNatClampNeg + q.1.toNatClampNeg ≤ ln q.2.2.1) ∧ q.2.2.2.2.2.length ≤ 4 ∧ (1 ≤ rF y ∧ 26 ≤ rL y)
          then go1 (pc + 3) ls q.2.2.2.2.2 (hw h q.2.2.1 (va_cpy (h q.2.2.2.2.1) (h q.2.2.1) q.2.2.2.1.toNatClampNeg q.2.1.toNatClampNeg q.1.toNatClampNeg)) else none) else none) else none
  | .ireturn => if len = 1 then (match st with
      | [.int v] => if rT y = some .int ∨ (rT y = some .boolean ∧ (v = 0 ∨ v = 1)) then some (.inr (.inl (some (.int v)))) else none
      | _ => none) else none
  | .return_ => if len = 1 then (match st with
      | [] => if rT y = none then some (.inr (.inl none)) else none
      | _ => none) else none
  | .areturn => if len = 1 then (match st with
      | [.ref k] => if rT y = some (.object "java/lang/String") then some (.inr (.inl (some (.ref k)))) else none
      | _ => none) else none
  | _ => none
abbrev Res : Type := Option (Option Value × Hp)
def stepF (E : Nat → Nat → List Value → List Value → Hp → Res) (y pc : Nat) (ls st : List Value) (h : Hp) : Res := match decode (cd y) pc with
  | .ok (ins, len) => (match op y pc ls st h ins len with
      | none => none
      | some (.inl (pc', ls', st', h')) => E y pc' ls' st' h'
      | some (.inr (.inl r)) => some (r, h)
      | some (.inr (.inr (y', as, st'))) => (E y' 0 (as ++ List.replicate (mL y' - as.length) .null) [] h).bind fun q => E y (pc + 3) ls (q.1.toList ++ st') q.2)
  | .error _ => none
def exec : Nat → Nat → Nat → List Value → List Value → Hp → Res
  | 0 => fun _ _ _ _ _ => none
  | n + 1 => stepF (exec n)

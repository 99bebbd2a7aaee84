/-! ===== one instruction each, as an equation ===== -/
section XS
variable {y pc pc' : Nat} {cc : ByteArray} {ls st : List Value} {h : Hp}
noncomputable def gI (o : Option Int32) (y pc : Nat) (ls st : List Value) (h : Hp) : Res := o.bind fun x => ex y pc ls (.int x :: st) h
noncomputable def gA (o : Option Nat) (y pc : Nat) (ls st : List Value) (h : Hp) : Res := o.bind fun x => ex y pc ls (.ref x :: st) h
noncomputable def gN (o : Option Int32) (y pc : Nat) (ls : List Value) (i : Nat) (v : Int32) (st : List Value) (h : Hp) : Res := o.bind fun x => ex y pc (ls.set i (.int (x + v))) st h
noncomputable def gC (o : Res) (y pc : Nat) (ls st : List Value) : Res := o.bind fun q => ex y pc ls (q.1.toList ++ st) q.2
theorem gI_s {x : Int32} {h : Hp} : gI (some x) y pc ls st h = ex y pc ls (.int x :: st) h := rfl
theorem gA_s {x : Nat} {h : Hp} : gA (some x) y pc ls st h = ex y pc ls (.ref x :: st) h := rfl
theorem gN_s {x : Int32} {h : Hp} {i : Nat} {v : Int32} : gN (some x) y pc ls i v st h = ex y pc (ls.set i (.int (x + v))) st h := rfl
theorem gC_s {v : Value} {h : Hp} : gC (some (some v, h)) y pc ls st = ex y pc ls (v :: st) h := rfl
theorem gC_n {h : Hp} : gC (some (none, h)) y pc ls st = ex y pc ls st h := rfl
theorem ldI_z {x : Int32} {l : List Value} : ldI (.int x :: l) 0 = some x := rfl
theorem ldI_s {v : Value} {l : List Value} {i : Nat} : ldI (v :: l) (i + 1) = ldI l i := rfl
theorem ldA_z {x : Nat} {l : List Value} : ldA (.ref x :: l) 0 = some x := rfl
theorem ldA_s {v : Value} {l : List Value} {i : Nat} : ldA (v :: l) (i + 1) = ldA l i := rfl

theorem x_iconst {n : Int} {v : Int32} (hc : cd y = cc) (hd : decode cc pc = .ok (.iconst n, 1)) (hp : pc + 1 = pc') (hv : Int32.ofInt n = v) : ex y pc ls (st) h = ex y pc' ls (.int v :: st) h := by
  subst hp
  rw [ex_op hc hd]
  subst hv
  rfl

theorem x_bipush {n : Int} {v : Int32} (hc : cd y = cc) (hd : decode cc pc = .ok (.bipush n, 2)) (hp : pc + 2 = pc') (hv : (Int8.ofInt n).toInt32 = v) : ex y pc ls (st) h = ex y pc' ls (.int v :: st) h := by
  subst hp
  rw [ex_op hc hd]
  subst hv
  rfl

theorem x_sipush {n : Int} {v : Int32} (hc : cd y = cc) (hd : decode cc pc = .ok (.sipush n, 3)) (hp : pc + 3 = pc') (hv : (Int16.ofInt n).toInt32 = v) : ex y pc ls (st) h = ex y pc' ls (.int v :: st) h := by
  subst hp
  rw [ex_op hc hd]
  subst hv
  rfl

theorem x_ldc {i : Nat} {v : Int32} (hc : cd y = cc) (hd : decode cc pc = .ok (.ldc i, 2)) (hp : pc + 2 = pc') (hv : cr (oc y) i = some v) : ex y pc ls (st) h = ex y pc' ls (.int v :: st) h := by
  subst hp
  rw [ex_op hc hd]
  simp only [op, hv, if_true]

theorem x_ldcS {i q : Nat} (hc : cd y = cc) (hd : decode cc pc = .ok (.ldc i, 2)) (hp : pc + 2 = pc') (hv : cr (oc y) i = none) (hq : sr (oc y) i = some q) : ex y pc ls (st) h = ex y pc' ls (.ref (700 + q) :: st) h := by
  subst hp
  rw [ex_op hc hd]
  simp only [op, hv, hq, if_true, Option.bind_some]

theorem x_ldc2 {i : Nat} {v : Int64} (hc : cd y = cc) (hd : decode cc pc = .ok (.ldc2_w i, 3)) (hp : pc + 3 = pc') (hv : crl (oc y) i = some v) : ex y pc ls (st) h = ex y pc' ls (.long v :: st) h := by
  subst hp
  rw [ex_op hc hd]
  simp only [op, hv, if_true, Option.bind_some]

theorem x_iload_n {k : Fin 4} {i : Nat} (hc : cd y = cc) (hd : decode cc pc = .ok (.iload_n k, 1)) (hp : pc + 1 = pc') (hk : (k : Nat) = i) : ex y pc ls (st) h = gI (ldI ls i) y pc' ls st h := by
  subst hp
  rw [ex_op hc hd]
  subst hk
  cases hx : ldI ls k <;> simp only [op, hx, if_true, Option.bind_some, Option.bind_none, gI, gA]

theorem x_iload {i : Nat} (hc : cd y = cc) (hd : decode cc pc = .ok (.iload i, 2)) (hp : pc + 2 = pc') : ex y pc ls (st) h = gI (ldI ls i) y pc' ls st h := by
  subst hp
  rw [ex_op hc hd]
  cases hx : ldI ls i <;> simp only [op, hx, if_true, Option.bind_some, Option.bind_none, gI, gA]

theorem x_aload_n {k : Fin 4} {i : Nat} (hc : cd y = cc) (hd : decode cc pc = .ok (.aload_n k, 1)) (hp : pc + 1 = pc') (hk : (k : Nat) = i) : ex y pc ls (st) h = gA (ldA ls i) y pc' ls st h := by
  subst hp
  rw [ex_op hc hd]
  subst hk
  cases hx : ldA ls k <;> simp only [op, hx, if_true, Option.bind_some, Option.bind_none, gI, gA]

theorem x_aload {i : Nat} (hc : cd y = cc) (hd : decode cc pc = .ok (.aload i, 2)) (hp : pc + 2 = pc') : ex y pc ls (st) h = gA (ldA ls i) y pc' ls st h := by
  subst hp
  rw [ex_op hc hd]
  cases hx : ldA ls i <;> simp only [op, hx, if_true, Option.bind_some, Option.bind_none, gI, gA]

theorem x_istore_n {k : Fin 4} {i : Nat} {x : Int32} (hc : cd y = cc) (hd : decode cc pc = .ok (.istore_n k, 1)) (hp : pc + 1 = pc') (hk : (k : Nat) = i) (hi : i < mL y) : ex y pc ls (.int x :: st) h = ex y pc' (ls.set i (.int x)) st h := by
  subst hp
  rw [ex_op hc hd]
  subst hk
  simp only [op, hi, and_self, if_true]
  rfl

theorem x_istore {i : Nat} {x : Int32} (hc : cd y = cc) (hd : decode cc pc = .ok (.istore i, 2)) (hp : pc + 2 = pc') (hi : i < mL y) : ex y pc ls (.int x :: st) h = ex y pc' (ls.set i (.int x)) st h := by
  subst hp
  rw [ex_op hc hd]
  simp only [op, hi, and_self, if_true]
  rfl

theorem x_astore_n {k : Fin 4} {i : Nat} {x : Nat} (hc : cd y = cc) (hd : decode cc pc = .ok (.astore_n k, 1)) (hp : pc + 1 = pc') (hk : (k : Nat) = i) (hi : i < mL y) : ex y pc ls (.ref x :: st) h = ex y pc' (ls.set i (.ref x)) st h := by
  subst hp
  rw [ex_op hc hd]
  subst hk
  simp only [op, hi, and_self, if_true]
  rfl

theorem x_astore {i : Nat} {x : Nat} (hc : cd y = cc) (hd : decode cc pc = .ok (.astore i, 2)) (hp : pc + 2 = pc') (hi : i < mL y) : ex y pc ls (.ref x :: st) h = ex y pc' (ls.set i (.ref x)) st h := by
  subst hp
  rw [ex_op hc hd]
  simp only [op, hi, and_self, if_true]
  rfl

theorem x_iinc {i : Nat} {n : Int} {v : Int32} (hc : cd y = cc) (hd : decode cc pc = .ok (.iinc i n, 3)) (hp : pc + 3 = pc') (hi : i < mL y) (hv : Int32.ofInt n = v) : ex y pc ls (st) h = gN (ldI ls i) y pc' ls i v st h := by
  subst hp
  rw [ex_op hc hd]
  subst hv
  cases hx : ldI ls i <;> simp only [op, hi, hx, and_self, if_true, Option.bind_some, Option.bind_none, gN]

theorem x_iadd {a b : Int32} (hc : cd y = cc) (hd : decode cc pc = .ok (.iadd, 1)) (hp : pc + 1 = pc') : ex y pc ls (.int b :: .int a :: st) h = ex y pc' ls (.int (a + b) :: st) h := by
  subst hp
  rw [ex_op hc hd]
  rfl

theorem x_isub {a b : Int32} (hc : cd y = cc) (hd : decode cc pc = .ok (.isub, 1)) (hp : pc + 1 = pc') : ex y pc ls (.int b :: .int a :: st) h = ex y pc' ls (.int (a - b) :: st) h := by
  subst hp
  rw [ex_op hc hd]
  rfl

theorem x_imul {a b : Int32} (hc : cd y = cc) (hd : decode cc pc = .ok (.imul, 1)) (hp : pc + 1 = pc') : ex y pc ls (.int b :: .int a :: st) h = ex y pc' ls (.int (a * b) :: st) h := by
  subst hp
  rw [ex_op hc hd]
  rfl

theorem x_iand {a b : Int32} (hc : cd y = cc) (hd : decode cc pc = .ok (.iand, 1)) (hp : pc + 1 = pc') : ex y pc ls (.int b :: .int a :: st) h = ex y pc' ls (.int (a &&& b) :: st) h := by
  subst hp
  rw [ex_op hc hd]
  rfl

theorem x_ixor {a b : Int32} (hc : cd y = cc) (hd : decode cc pc = .ok (.ixor, 1)) (hp : pc + 1 = pc') : ex y pc ls (.int b :: .int a :: st) h = ex y pc' ls (.int (a ^^^ b) :: st) h := by
  subst hp
  rw [ex_op hc hd]
  rfl

theorem x_ishr {a b : Int32} (hc : cd y = cc) (hd : decode cc pc = .ok (.ishr, 1)) (hp : pc + 1 = pc') : ex y pc ls (.int b :: .int a :: st) h = ex y pc' ls (.int (a >>> (b &&& 31)) :: st) h := by
  subst hp
  rw [ex_op hc hd]
  rfl

theorem x_idiv {a b : Int32} (hc : cd y = cc) (hd : decode cc pc = .ok (.idiv, 1)) (hp : pc + 1 = pc') : ex y pc ls (.int b :: .int a :: st) h = if b = 0 then none else ex y pc' ls (.int (a / b) :: st) h := by
  subst hp
  rw [ex_op hc hd]
  by_cases hb : b = 0 <;> simp [op, p2, hb]

theorem x_irem {a b : Int32} (hc : cd y = cc) (hd : decode cc pc = .ok (.irem, 1)) (hp : pc + 1 = pc') : ex y pc ls (.int b :: .int a :: st) h = if b = 0 then none else ex y pc' ls (.int (a % b) :: st) h := by
  subst hp
  rw [ex_op hc hd]
  by_cases hb : b = 0 <;> simp [op, p2, hb]

theorem x_ineg {a : Int32} (hc : cd y = cc) (hd : decode cc pc = .ok (.ineg, 1)) (hp : pc + 1 = pc') : ex y pc ls (.int a :: st) h = ex y pc' ls (.int (-a) :: st) h := by
  subst hp
  rw [ex_op hc hd]
  rfl

theorem x_i2l {a : Int32} (hc : cd y = cc) (hd : decode cc pc = .ok (.i2l, 1)) (hp : pc + 1 = pc') : ex y pc ls (.int a :: st) h = ex y pc' ls (.long a.toInt64 :: st) h := by
  subst hp
  rw [ex_op hc hd]
  rfl

theorem x_l2i {a : Int64} (hc : cd y = cc) (hd : decode cc pc = .ok (.l2i, 1)) (hp : pc + 1 = pc') : ex y pc ls (.long a :: st) h = ex y pc' ls (.int a.toInt32 :: st) h := by
  subst hp
  rw [ex_op hc hd]
  rfl

theorem x_lmul {a b : Int64} (hc : cd y = cc) (hd : decode cc pc = .ok (.lmul, 1)) (hp : pc + 1 = pc') : ex y pc ls (.long b :: .long a :: st) h = ex y pc' ls (.long (a * b) :: st) h := by
  subst hp
  rw [ex_op hc hd]
  rfl

theorem x_ldiv {a b : Int64} (hc : cd y = cc) (hd : decode cc pc = .ok (.ldiv, 1)) (hp : pc + 1 = pc') : ex y pc ls (.long b :: .long a :: st) h = if b = 0 then none else ex y pc' ls (.long (a / b) :: st) h := by
  subst hp
  rw [ex_op hc hd]
  by_cases hb : b = 0 <;> simp [op, pl2, hb]

theorem x_dup_i {u : Int32} (hc : cd y = cc) (hd : decode cc pc = .ok (.dup, 1)) (hp : pc + 1 = pc') : ex y pc ls (.int u :: st) h = ex y pc' ls (.int u :: .int u :: st) h := by
  subst hp
  rw [ex_op hc hd]
  rfl

theorem x_pop_i {u : Int32} (hc : cd y = cc) (hd : decode cc pc = .ok (.pop, 1)) (hp : pc + 1 = pc') : ex y pc ls (.int u :: st) h = ex y pc' ls (st) h := by
  subst hp
  rw [ex_op hc hd]
  rfl

theorem x_dup_a {u : Nat} (hc : cd y = cc) (hd : decode cc pc = .ok (.dup, 1)) (hp : pc + 1 = pc') : ex y pc ls (.ref u :: st) h = ex y pc' ls (.ref u :: .ref u :: st) h := by
  subst hp
  rw [ex_op hc hd]
  rfl

theorem x_pop_a {u : Nat} (hc : cd y = cc) (hd : decode cc pc = .ok (.pop, 1)) (hp : pc + 1 = pc') : ex y pc ls (.ref u :: st) h = ex y pc' ls (st) h := by
  subst hp
  rw [ex_op hc hd]
  rfl

theorem x_dup_x1_ii {u : Int32} {v : Int32} (hc : cd y = cc) (hd : decode cc pc = .ok (.dup_x1, 1)) (hp : pc + 1 = pc') : ex y pc ls (.int u :: .int v :: st) h = ex y pc' ls (.int u :: .int v :: .int u :: st) h := by
  subst hp
  rw [ex_op hc hd]
  rfl

theorem x_dup2_ii {u : Int32} {v : Int32} (hc : cd y = cc) (hd : decode cc pc = .ok (.dup2, 1)) (hp : pc + 1 = pc') : ex y pc ls (.int u :: .int v :: st) h = ex y pc' ls (.int u :: .int v :: .int u :: .int v :: st) h := by
  subst hp
  rw [ex_op hc hd]
  rfl

theorem x_dup_x1_ia {u : Int32} {v : Nat} (hc : cd y = cc) (hd : decode cc pc = .ok (.dup_x1, 1)) (hp : pc + 1 = pc') : ex y pc ls (.int u :: .ref v :: st) h = ex y pc' ls (.int u :: .ref v :: .int u :: st) h := by
  subst hp
  rw [ex_op hc hd]
  rfl

theorem x_dup2_ia {u : Int32} {v : Nat} (hc : cd y = cc) (hd : decode cc pc = .ok (.dup2, 1)) (hp : pc + 1 = pc') : ex y pc ls (.int u :: .ref v :: st) h = ex y pc' ls (.int u :: .ref v :: .int u :: .ref v :: st) h := by
  subst hp
  rw [ex_op hc hd]
  rfl

theorem x_dup_x1_ai {u : Nat} {v : Int32} (hc : cd y = cc) (hd : decode cc pc = .ok (.dup_x1, 1)) (hp : pc + 1 = pc') : ex y pc ls (.ref u :: .int v :: st) h = ex y pc' ls (.ref u :: .int v :: .ref u :: st) h := by
  subst hp
  rw [ex_op hc hd]
  rfl

theorem x_dup2_ai {u : Nat} {v : Int32} (hc : cd y = cc) (hd : decode cc pc = .ok (.dup2, 1)) (hp : pc + 1 = pc') : ex y pc ls (.ref u :: .int v :: st) h = ex y pc' ls (.ref u :: .int v :: .ref u :: .int v :: st) h := by
  subst hp
  rw [ex_op hc hd]
  rfl

theorem x_dup_x1_aa {u : Nat} {v : Nat} (hc : cd y = cc) (hd : decode cc pc = .ok (.dup_x1, 1)) (hp : pc + 1 = pc') : ex y pc ls (.ref u :: .ref v :: st) h = ex y pc' ls (.ref u :: .ref v :: .ref u :: st) h := by
  subst hp
  rw [ex_op hc hd]
  rfl

theorem x_dup2_aa {u : Nat} {v : Nat} (hc : cd y = cc) (hd : decode cc pc = .ok (.dup2, 1)) (hp : pc + 1 = pc') : ex y pc ls (.ref u :: .ref v :: st) h = ex y pc' ls (.ref u :: .ref v :: .ref u :: .ref v :: st) h := by
  subst hp
  rw [ex_op hc hd]
  rfl

theorem x_if_eq {off : Int} {tgt : Nat} {x : Int32} (hc : cd y = cc) (hd : decode cc pc = .ok (.ifCond .eq off, 3)) (hp : pc + 3 = pc') (ht : jmp pc off = some tgt) : ex y pc ls (.int x :: st) h = if x = 0 then ex y tgt ls st h else ex y pc' ls st h := by
  subst hp
  rw [ex_op hc hd]
  by_cases hx : x = 0 <;> simp [op, p1, ht, c1, hx, Int32.not_lt, Int32.not_le]

theorem x_if_ne {off : Int} {tgt : Nat} {x : Int32} (hc : cd y = cc) (hd : decode cc pc = .ok (.ifCond .ne off, 3)) (hp : pc + 3 = pc') (ht : jmp pc off = some tgt) : ex y pc ls (.int x :: st) h = if x = 0 then ex y pc' ls st h else ex y tgt ls st h := by
  subst hp
  rw [ex_op hc hd]
  by_cases hx : x = 0 <;> simp [op, p1, ht, c1, hx, Int32.not_lt, Int32.not_le]

theorem x_if_lt {off : Int} {tgt : Nat} {x : Int32} (hc : cd y = cc) (hd : decode cc pc = .ok (.ifCond .lt off, 3)) (hp : pc + 3 = pc') (ht : jmp pc off = some tgt) : ex y pc ls (.int x :: st) h = if x < 0 then ex y tgt ls st h else ex y pc' ls st h := by
  subst hp
  rw [ex_op hc hd]
  by_cases hx : x < 0 <;> simp [op, p1, ht, c1, hx, Int32.not_lt, Int32.not_le]

theorem x_if_ge {off : Int} {tgt : Nat} {x : Int32} (hc : cd y = cc) (hd : decode cc pc = .ok (.ifCond .ge off, 3)) (hp : pc + 3 = pc') (ht : jmp pc off = some tgt) : ex y pc ls (.int x :: st) h = if x < 0 then ex y pc' ls st h else ex y tgt ls st h := by
  subst hp
  rw [ex_op hc hd]
  have e : c1 .ge x = !(decide (x < 0)) := by simp only [c1]; by_cases hx : x < 0 <;> simp [hx] <;> first | exact Int32.not_lt.mp hx | exact Int32.not_le.mpr hx
  by_cases hx : x < 0 <;> simp [op, p1, ht, e, hx]

theorem x_if_gt {off : Int} {tgt : Nat} {x : Int32} (hc : cd y = cc) (hd : decode cc pc = .ok (.ifCond .gt off, 3)) (hp : pc + 3 = pc') (ht : jmp pc off = some tgt) : ex y pc ls (.int x :: st) h = if 0 < x then ex y tgt ls st h else ex y pc' ls st h := by
  subst hp
  rw [ex_op hc hd]
  by_cases hx : 0 < x <;> simp [op, p1, ht, c1, hx, Int32.not_lt, Int32.not_le]

theorem x_if_le {off : Int} {tgt : Nat} {x : Int32} (hc : cd y = cc) (hd : decode cc pc = .ok (.ifCond .le off, 3)) (hp : pc + 3 = pc') (ht : jmp pc off = some tgt) : ex y pc ls (.int x :: st) h = if 0 < x then ex y pc' ls st h else ex y tgt ls st h := by
  subst hp
  rw [ex_op hc hd]
  have e : c1 .le x = !(decide (0 < x)) := by simp only [c1]; by_cases hx : 0 < x <;> simp [hx] <;> first | exact Int32.not_lt.mp hx | exact Int32.not_le.mpr hx
  by_cases hx : 0 < x <;> simp [op, p1, ht, e, hx]

theorem x_icmp_eq {off : Int} {tgt : Nat} {x z : Int32} (hc : cd y = cc) (hd : decode cc pc = .ok (.if_icmp .eq off, 3)) (hp : pc + 3 = pc') (ht : jmp pc off = some tgt) : ex y pc ls (.int z :: .int x :: st) h = if x = z then ex y tgt ls st h else ex y pc' ls st h := by
  subst hp
  rw [ex_op hc hd]
  by_cases hx : x = z <;> simp [op, p2, ht, c2, hx, Int32.not_lt, Int32.not_le]

theorem x_icmp_ne {off : Int} {tgt : Nat} {x z : Int32} (hc : cd y = cc) (hd : decode cc pc = .ok (.if_icmp .ne off, 3)) (hp : pc + 3 = pc') (ht : jmp pc off = some tgt) : ex y pc ls (.int z :: .int x :: st) h = if x = z then ex y pc' ls st h else ex y tgt ls st h := by
  subst hp
  rw [ex_op hc hd]
  by_cases hx : x = z <;> simp [op, p2, ht, c2, hx, Int32.not_lt, Int32.not_le]

theorem x_icmp_lt {off : Int} {tgt : Nat} {x z : Int32} (hc : cd y = cc) (hd : decode cc pc = .ok (.if_icmp .lt off, 3)) (hp : pc + 3 = pc') (ht : jmp pc off = some tgt) : ex y pc ls (.int z :: .int x :: st) h = if x < z then ex y tgt ls st h else ex y pc' ls st h := by
  subst hp
  rw [ex_op hc hd]
  by_cases hx : x < z <;> simp [op, p2, ht, c2, hx, Int32.not_lt, Int32.not_le]

theorem x_icmp_ge {off : Int} {tgt : Nat} {x z : Int32} (hc : cd y = cc) (hd : decode cc pc = .ok (.if_icmp .ge off, 3)) (hp : pc + 3 = pc') (ht : jmp pc off = some tgt) : ex y pc ls (.int z :: .int x :: st) h = if x < z then ex y pc' ls st h else ex y tgt ls st h := by
  subst hp
  rw [ex_op hc hd]
  have e : c2 .ge x z = !(decide (x < z)) := by simp only [c2]; by_cases hx : x < z <;> simp [hx] <;> first | exact Int32.not_lt.mp hx | exact Int32.not_le.mpr hx
  by_cases hx : x < z <;> simp [op, p2, ht, e, hx]

theorem x_icmp_gt {off : Int} {tgt : Nat} {x z : Int32} (hc : cd y = cc) (hd : decode cc pc = .ok (.if_icmp .gt off, 3)) (hp : pc + 3 = pc') (ht : jmp pc off = some tgt) : ex y pc ls (.int z :: .int x :: st) h = if z < x then ex y tgt ls st h else ex y pc' ls st h := by
  subst hp
  rw [ex_op hc hd]
  by_cases hx : z < x <;> simp [op, p2, ht, c2, hx, Int32.not_lt, Int32.not_le]

theorem x_icmp_le {off : Int} {tgt : Nat} {x z : Int32} (hc : cd y = cc) (hd : decode cc pc = .ok (.if_icmp .le off, 3)) (hp : pc + 3 = pc') (ht : jmp pc off = some tgt) : ex y pc ls (.int z :: .int x :: st) h = if z < x then ex y pc' ls st h else ex y tgt ls st h := by
  subst hp
  rw [ex_op hc hd]
  have e : c2 .le x z = !(decide (z < x)) := by simp only [c2]; by_cases hx : z < x <;> simp [hx] <;> first | exact Int32.not_lt.mp hx | exact Int32.not_le.mpr hx
  by_cases hx : z < x <;> simp [op, p2, ht, e, hx]

theorem x_goto {off : Int} {tgt : Nat} (hc : cd y = cc) (hd : decode cc pc = .ok (.goto off, 3)) (ht : jmp pc off = some tgt) : ex y pc ls st h = ex y tgt ls st h := by
  rw [ex_op hc hd]
  simp [op, ht]

theorem x_getf {i ci j k : Nat} (hc : cd y = cc) (hd : decode cc pc = .ok (.getfield i, 3)) (hp : pc + 3 = pc') (hf : fr (oc y) i = some (ci, j)) : ex y pc ls (.ref k :: st) h = if kd k = ci then ex y pc' ls (vl h k j :: st) h else none := by
  subst hp
  rw [ex_op hc hd]
  by_cases hk : kd k = ci <;> simp [op, pa, hf, hk]

theorem x_putf {i ci j k : Nat} {x : Int32} (hc : cd y = cc) (hd : decode cc pc = .ok (.putfield i, 3)) (hp : pc + 3 = pc') (hf : fr (oc y) i = some (ci, j)) (ht : ft ci j = 0) : ex y pc ls (.int x :: .ref k :: st) h = if kd k = ci then ex y pc' ls st (hu h k j x) else none := by
  subst hp
  rw [ex_op hc hd]
  by_cases hk : kd k = ci <;> simp [op, pia, hf, hk, ht]

theorem x_putz {i ci j k : Nat} {x : Int32} (hc : cd y = cc) (hd : decode cc pc = .ok (.putfield i, 3)) (hp : pc + 3 = pc') (hf : fr (oc y) i = some (ci, j)) (ht : ft ci j = 1) : ex y pc ls (.int x :: .ref k :: st) h = if kd k = ci ∧ (x = 0 ∨ x = 1) then ex y pc' ls st (hu h k j x) else none := by
  subst hp
  rw [ex_op hc hd]
  by_cases hk : kd k = ci
  · by_cases hx : x = 0 ∨ x = 1 <;> simp [op, pia, hf, hk, ht, hx]
  · simp [op, pia, hf, hk]

theorem x_iald {k : Nat} {x : Int32} (hc : cd y = cc) (hd : decode cc pc = .ok (.iaload, 1)) (hp : pc + 1 = pc') : ex y pc ls (.int x :: .ref k :: st) h = if kd k = 9 ∧ x.toNatClampNeg < ln k ∧ 0 ≤ x then ex y pc' ls (.int (h k x.toNatClampNeg) :: st) h else none := by
  subst hp
  rw [ex_op hc hd]
  by_cases hk : kd k = 9 ∧ x.toNatClampNeg < ln k ∧ 0 ≤ x <;> simp [op, pia, hk]

theorem x_zald {k : Nat} {x : Int32} (hc : cd y = cc) (hd : decode cc pc = .ok (.baload, 1)) (hp : pc + 1 = pc') : ex y pc ls (.int x :: .ref k :: st) h = if kd k = 10 ∧ x.toNatClampNeg < ln k ∧ 0 ≤ x then ex y pc' ls (.int (h k x.toNatClampNeg) :: st) h else none := by
  subst hp
  rw [ex_op hc hd]
  by_cases hk : kd k = 10 ∧ x.toNatClampNeg < ln k ∧ 0 ≤ x <;> simp [op, pia, hk]

theorem x_aald {k : Nat} {x : Int32} (hc : cd y = cc) (hd : decode cc pc = .ok (.aaload, 1)) (hp : pc + 1 = pc') : ex y pc ls (.int x :: .ref k :: st) h = if (11 ≤ kd k ∧ kd k ≤ 14) ∧ x.toNatClampNeg < ln k ∧ 0 ≤ x then gA (rf k x.toNatClampNeg) y pc' ls st h else none := by
  subst hp
  rw [ex_op hc hd]
  by_cases hk : (11 ≤ kd k ∧ kd k ≤ 14) ∧ x.toNatClampNeg < ln k ∧ 0 ≤ x
  · cases hr : rf k x.toNatClampNeg <;> simp [op, pia, hk, hr, gA]
  · simp [op, pia, hk]

theorem x_iast {k : Nat} {x u : Int32} (hc : cd y = cc) (hd : decode cc pc = .ok (.iastore, 1)) (hp : pc + 1 = pc') : ex y pc ls (.int u :: .int x :: .ref k :: st) h = if kd k = 9 ∧ x.toNatClampNeg < ln k ∧ 0 ≤ x then ex y pc' ls st (hu h k x.toNatClampNeg u) else none := by
  subst hp
  rw [ex_op hc hd]
  by_cases hk : kd k = 9 ∧ x.toNatClampNeg < ln k ∧ 0 ≤ x <;> simp [op, piia, hk]

theorem x_zast {k : Nat} {x u : Int32} (hc : cd y = cc) (hd : decode cc pc = .ok (.bastore, 1)) (hp : pc + 1 = pc') : ex y pc ls (.int u :: .int x :: .ref k :: st) h = if (kd k = 10 ∧ x.toNatClampNeg < ln k ∧ 0 ≤ x) ∧ (u = 0 ∨ u = 1) then ex y pc' ls st (hu h k x.toNatClampNeg u) else none := by
  subst hp
  rw [ex_op hc hd]
  by_cases hk : (kd k = 10 ∧ x.toNatClampNeg < ln k ∧ 0 ≤ x) ∧ (u = 0 ∨ u = 1) <;> simp [op, piia, hk]

theorem x_alen {k : Nat} (hc : cd y = cc) (hd : decode cc pc = .ok (.arraylength, 1)) (hp : pc + 1 = pc') : ex y pc ls (.ref k :: st) h = if 9 ≤ kd k ∧ kd k ≤ 10 then ex y pc' ls (.int (Int32.ofNat (ln k)) :: st) h else none := by
  subst hp
  rw [ex_op hc hd]
  by_cases hk : 9 ≤ kd k ∧ kd k ≤ 10 <;> simp [op, pa, hk]

theorem pn_of (as st : List Value) (hir : as.all isIR = true) : pn as.length (as.reverse ++ st) = some (as, st) := by
  unfold pn
  have e1 : (as.reverse ++ st).take as.length = as.reverse := by have := List.take_left (l₁ := as.reverse) (l₂ := st); rwa [List.length_reverse] at this
  have e2 : (as.reverse ++ st).drop as.length = st := by have := List.drop_left (l₁ := as.reverse) (l₂ := st); rwa [List.length_reverse] at this
  rw [e1, e2]
  simp [hir]
theorem x_callV {i y' k : Nat} {as : List Value} (hc : cd y = cc) (hd : decode cc pc = .ok (.invokevirtual i, 3)) (hp : pc + 3 = pc') (hm : mr (oc y) i = some y') (hn : as.length = nP y') (hir : as.all isIR = true) (hs : iS y' = false) (ho : oc y' < 9) (hroom : rF y' + 1 ≤ rF y ∧ 8 + (mL y' + 11) + rL y' ≤ rL y) :
    ex y pc ls (as.reverse ++ .ref k :: st) h = if kd k = oc y' ∧ st.length ≤ 4 then gC (ex y' 0 (.ref k :: as ++ List.replicate (mL y' - (as.length + 1)) .null) [] h) y pc' ls st else none := by
  subst hp
  rw [ex_op hc hd]
  have e : pn (nP y') (as.reverse ++ .ref k :: st) = some (as, .ref k :: st) := by rw [← hn]; exact pn_of as _ hir
  by_cases hk : kd k = oc y' ∧ st.length ≤ 4
  · simp only [op, hm, e, pa, Option.bind_some, if_true, hs, hk, ho, hroom, and_self]
    rfl
  · have : ¬ (iS y' = false ∧ kd k = oc y' ∧ oc y' < 9 ∧ st.length ≤ 4 ∧ (rF y' + 1 ≤ rF y ∧ 8 + (mL y' + 11) + rL y' ≤ rL y)) := fun q => hk ⟨q.2.1, q.2.2.2.1⟩
    simp only [op, hm, e, pa, Option.bind_some, if_true, if_neg this, if_neg hk]
theorem x_callS {i y' : Nat} {as : List Value} (hc : cd y = cc) (hd : decode cc pc = .ok (.invokestatic i, 3)) (hp : pc + 3 = pc') (hm : mr (oc y) i = some y') (hn : as.length = nP y') (hir : as.all isIR = true) (hs : iS y' = true) (hroom : rF y' + 1 ≤ rF y ∧ 8 + (mL y' + 11) + rL y' ≤ rL y) :
    ex y pc ls (as.reverse ++ st) h = if st.length ≤ 4 then gC (ex y' 0 (as ++ List.replicate (mL y' - as.length) .null) [] h) y pc' ls st else none := by
  subst hp
  rw [ex_op hc hd]
  have e : pn (nP y') (as.reverse ++ st) = some (as, st) := by rw [← hn]; exact pn_of as _ hir
  by_cases hk : st.length ≤ 4
  · simp only [op, hm, e, Option.bind_some, if_true, hs, hk, hroom, and_self]
    rfl
  · have : ¬ (iS y' = true ∧ st.length ≤ 4 ∧ (rF y' + 1 ≤ rF y ∧ 8 + (mL y' + 11) + rL y' ≤ rL y)) := fun q => hk q.2.1
    simp only [op, hm, e, Option.bind_some, if_true, if_neg this, if_neg hk]
theorem x_len {i k : Nat} (hc : cd y = cc) (hd : decode cc pc = .ok (.invokevirtual i, 3)) (hp : pc + 3 = pc') (hm : mr (oc y) i = none) (hq : pr (oc y) i = some 0) (hroom : 2 ≤ rF y ∧ 40 ≤ rL y) :
    ex y pc ls (.ref k :: st) h = if (700 ≤ k ∧ k < 709) ∧ st.length ≤ 4 then ex y pc' ls (.int (nI (sLen.getD (k - 700) 0)) :: st) h else none := by
  subst hp
  rw [ex_op hc hd]
  by_cases hk : (700 ≤ k ∧ k < 709) ∧ st.length ≤ 4
  · simp [op, hm, hq, pa, hk, hroom]
  · have : ¬ (700 ≤ k ∧ k < 709 ∧ st.length ≤ 4 ∧ (2 ≤ rF y ∧ 40 ≤ rL y)) := fun q => hk ⟨⟨q.1, q.2.1⟩, q.2.2.1⟩
    simp only [op, hm, hq, pa, Option.bind_some, if_true, if_neg this, if_neg hk]
theorem x_chr {i k : Nat} {x : Int32} (hc : cd y = cc) (hd : decode cc pc = .ok (.invokevirtual i, 3)) (hp : pc + 3 = pc') (hm : mr (oc y) i = none) (hq : pr (oc y) i = some 1) (hroom : 4 ≤ rF y ∧ 85 ≤ rL y) :
    ex y pc ls (.int x :: .ref k :: st) h = if (700 ≤ k ∧ k < 709) ∧ (x.toNatClampNeg < sLen.getD (k - 700) 0 ∧ 0 ≤ x) ∧ st.length ≤ 4 then ex y pc' ls (.int (sCh (k - 700) x.toNatClampNeg) :: st) h else none := by
  subst hp
  rw [ex_op hc hd]
  by_cases hk : (700 ≤ k ∧ k < 709) ∧ (x.toNatClampNeg < sLen.getD (k - 700) 0 ∧ 0 ≤ x) ∧ st.length ≤ 4
  · simp only [op, hm, hq, pia, Option.bind_some, if_true, Nat.one_ne_zero, if_false, hk, hroom, and_self]
  · have : ¬ (700 ≤ k ∧ k < 709 ∧ (x.toNatClampNeg < sLen.getD (k - 700) 0 ∧ 0 ≤ x) ∧ st.length ≤ 4 ∧ (4 ≤ rF y ∧ 85 ≤ rL y)) := fun q => hk ⟨⟨q.1, q.2.1⟩, q.2.2.1, q.2.2.2.1⟩
    simp only [op, hm, hq, pia, Option.bind_some, if_true, Nat.one_ne_zero, if_false, if_neg this, if_neg hk]
theorem x_copy {i k0 k1 : Nat} {sp dp n : Int32} (hc : cd y = cc) (hd : decode cc pc = .ok (.invokestatic i, 3)) (hp : pc + 3 = pc') (hm : mr (oc y) i = none) (hq : pr (oc y) i = some 2) (hroom : 1 ≤ rF y ∧ 26 ≤ rL y) :
    ex y pc ls (.int n :: .int dp :: .ref k1 :: .int sp :: .ref k0 :: st) h = if (kd k0 = 9 ∧ kd k1 = 9) ∧ (¬ sp < 0 ∧ ¬ dp < 0 ∧ ¬ n < 0) ∧ (sp.toNatClampNeg + n.toNatClampNeg ≤ ln k0 ∧ dp.toNatClampNeg + n.toNatClampNeg ≤ ln k1) ∧ st.length ≤ 4 then ex y pc' ls st (hw h k1 (va_cpy (h k0) (h k1) sp.toNatClampNeg dp.toNatClampNeg n.toNatClampNeg)) else none := by
  subst hp
  rw [ex_op hc hd]
  by_cases hk : (kd k0 = 9 ∧ kd k1 = 9) ∧ (¬ sp < 0 ∧ ¬ dp < 0 ∧ ¬ n < 0) ∧ (sp.toNatClampNeg + n.toNatClampNeg ≤ ln k0 ∧ dp.toNatClampNeg + n.toNatClampNeg ≤ ln k1) ∧ st.length ≤ 4
  · have h2 : (kd k0 = 9 ∧ kd k1 = 9) ∧ (¬ sp < 0 ∧ ¬ dp < 0 ∧ ¬ n < 0) ∧ (sp.toNatClampNeg + n.toNatClampNeg ≤ ln k0 ∧ dp.toNatClampNeg + n.toNatClampNeg ≤ ln k1) ∧ st.length ≤ 4 ∧ (1 ≤ rF y ∧ 26 ≤ rL y) := ⟨hk.1, hk.2.1, hk.2.2.1, hk.2.2.2, hroom⟩
    simp only [op, hm, hq, pcp, Option.bind_some, if_true, if_pos h2, if_pos hk]
  · have h2 : ¬ ((kd k0 = 9 ∧ kd k1 = 9) ∧ (¬ sp < 0 ∧ ¬ dp < 0 ∧ ¬ n < 0) ∧ (sp.toNatClampNeg + n.toNatClampNeg ≤ ln k0 ∧ dp.toNatClampNeg + n.toNatClampNeg ≤ ln k1) ∧ st.length ≤ 4 ∧ (1 ≤ rF y ∧ 26 ≤ rL y)) := fun q => hk ⟨q.1, q.2.1, q.2.2.1, q.2.2.2.1⟩
    simp only [op, hm, hq, pcp, Option.bind_some, if_true, if_neg h2, if_neg hk]
theorem x_iret {v : Int32} (hc : cd y = cc) (hd : decode cc pc = .ok (.ireturn, 1)) (hr : rT y = some .int) : ex y pc ls [.int v] h = some (some (.int v), h) := by
  rw [ex_op hc hd]
  simp [op, hr]
theorem x_zret {v : Int32} (hc : cd y = cc) (hd : decode cc pc = .ok (.ireturn, 1)) (hr : rT y = some .boolean) : ex y pc ls [.int v] h = if v = 0 ∨ v = 1 then some (some (.int v), h) else none := by
  rw [ex_op hc hd]
  by_cases hv : v = 0 ∨ v = 1 <;> simp [op, hr, hv]
theorem x_vret (hc : cd y = cc) (hd : decode cc pc = .ok (.return_, 1)) (hr : rT y = none) : ex y pc ls [] h = some (none, h) := by
  rw [ex_op hc hd]
  simp [op, hr]
theorem x_aret {k : Nat} (hc : cd y = cc) (hd : decode cc pc = .ok (.areturn, 1)) (hr : rT y = some (.object "java/lang/String")) : ex y pc ls [.ref k] h = some (some (.ref k), h) := by
  rw [ex_op hc hd]
  simp [op, hr]
theorem x_tbl {d lo hi : Int} {offs : Array Int} {len : Nat} {x : Int32} (hc : cd y = cc) (hd : decode cc pc = .ok (.tableswitch d lo hi offs, len)) : ex y pc ls (.int x :: st) h = if x.toInt < lo ∨ hi < x.toInt then (jmp pc d).bind fun t => ex y t ls st h else (offs[(x.toInt - lo).toNat]?).bind fun o => (jmp pc o).bind fun t => ex y t ls st h := by
  rw [ex_op hc hd]
  by_cases hx : x.toInt < lo ∨ hi < x.toInt
  · cases hj : jmp pc d <;> simp [op, p1, hx, hj]
  · cases ho : offs[(x.toInt - lo).toNat]? with
    | none => simp [op, p1, hx, ho]
    | some o => cases hj : jmp pc o <;> simp [op, p1, hx, ho, hj]
theorem x_lkp {d : Int} {ps : Array (Int × Int)} {len : Nat} {x : Int32} (hc : cd y = cc) (hd : decode cc pc = .ok (.lookupswitch d ps, len)) (hs : (ps.toList.zip (ps.toList.drop 1)).all (fun (a, next) => a.1 < next.1) = true) : ex y pc ls (.int x :: st) h = (jmp pc (Op.lookupswitch.offset ps.toList d x.toInt)).bind fun t => ex y t ls st h := by
  rw [ex_op hc hd]
  cases hj : jmp pc (Op.lookupswitch.offset ps.toList d x.toInt) <;> simp only [op, p1, hs, if_true, Option.bind_some, Option.bind_none, hj]
end XS

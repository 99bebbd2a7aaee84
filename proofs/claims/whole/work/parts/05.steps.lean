/-! ===== the judgement V: the machine, in method y at pc, with locals ls, stack st and heap h, comes to an end with the answer and heap that Φ tells ===== -/
def sLen : List Nat := [5, 5, 4, 5, 3, 4, 3, 7, 3]
def sByt : List (List Int32) := [[118, 101, 110, 116, 32], [102, 105, 108, 108, 32], [32, 105, 102, 32], [32, 97, 110, 100, 32], [105, 99, 101], [104, 101, 97, 116], [111, 117, 116], [115, 116, 97, 116, 105, 111, 110], [99, 97, 114]]
def SW (ad adV : Nat → Nat) (A : Nat → Prop) (U : State) (H : Heap) : Prop :=
  vk_S 9 sLen sByt (fun i => ad (700 + i)) adV A U H ∧ (∀ e ∈ SL, vk_R (RN e.1) e.2.1 e.2.2.2 (ad (700 + e.2.2.1)) U) ∧ va_Z "java/lang/String" "COMPACT_STRINGS" "Z" (.int 1) A U H ∧ va_Zq "jdk/internal/util/Preconditions" "SIOOBE_FORMATTER" "Ljava/util/function/BiFunction;" A U H
def Ctx (y : Nat) (p : Program) (s : State) (m : MethodId) (args : Array Value) (meth : Method) (c : Code) : Prop :=
  p.tables.exec = Jvm.exec ∧ c.code = cd y ∧ c.maxLocals = mL y ∧ meth.sig.returnType = rT y ∧ s.vm.findClass (RN (oc y)) = some m.cls ∧ (∀ w ∈ lwg, w.before args s = true) ∧ meth.locks = false
def Qy (D : va_G) (cA : Nat → ClassId) (ad : Nat → Nat) (Φ : Option Value → Hp → Prop) : Array Value → State → Outcome → State → Prop := fun _ st oc t =>
  ∃ (r : Option Value) (h' : Hp), oc = .returned (r.map (cv ad)) ∧ Φ r h' ∧ va_P D vwCl (wl cA ad h') t.heap ∧ va_F (ow ad) st t
def V (l : Launch) (D : va_G) (cA : Nat → ClassId) (ad adV : Nat → Nat) (y pc : Nat) (ls st : List Value) (h : Hp) (Φ : Option Value → Hp → Prop) : Prop :=
  ∀ (p : Program) (e : Env) (s : State) (m : MethodId) (args : Array Value) (below : List Frame) (meth : Method) (c : Code) (H : Heap) (locs : List Loc) (lsA : Array Slot),
    Ctx y p s m args meth c → va_K D vwCl (tysO cA) s → SW ad adV (ow ad) s s.heap → va_P D vwCl (wl cA ad h) H → va_D (ow ad) (wl cA ad h) → va_S (ow ad) s.heap H locs → LR (mL y) ad lsA ls →
    W p l e (rmO y) s m args below meth c H locs 0 0 (MQ below (Qy D cA ad Φ) args s 0 0 (ow ad)) (F0 m pc lsA (st.map (cv ad)))
section VRULES
variable {l : Launch} {D : va_G} {cA : Nat → ClassId} {ad adV : Nat → Nat} {y pc : Nat} {ls st : List Value} {h : Hp} {Φ : Option Value → Hp → Prop}

theorem V_iconst {n : Int} (hd : decode (cd y) pc = .ok (.iconst n, 1)) (kk : V l D cA ad adV y (pc + 1) ls (.int (Int32.ofInt n) :: st) h Φ) : V l D cA ad adV y pc ls (st) h Φ := by
  intro p e s m args below meth c H locs lsA C hK hW hP hD hS hL
  exact lv_iconst C.1 C.2.1 hd rfl (kk p e s m args below meth c H locs lsA C hK hW hP hD hS hL)

theorem V_bipush {n : Int} (hd : decode (cd y) pc = .ok (.bipush n, 2)) (kk : V l D cA ad adV y (pc + 2) ls (.int (Int8.ofInt n).toInt32 :: st) h Φ) : V l D cA ad adV y pc ls (st) h Φ := by
  intro p e s m args below meth c H locs lsA C hK hW hP hD hS hL
  exact lv_bipush C.1 C.2.1 hd rfl (kk p e s m args below meth c H locs lsA C hK hW hP hD hS hL)

theorem V_sipush {n : Int} (hd : decode (cd y) pc = .ok (.sipush n, 3)) (kk : V l D cA ad adV y (pc + 3) ls (.int (Int16.ofInt n).toInt32 :: st) h Φ) : V l D cA ad adV y pc ls (st) h Φ := by
  intro p e s m args below meth c H locs lsA C hK hW hP hD hS hL
  exact lv_sipush C.1 C.2.1 hd rfl (kk p e s m args below meth c H locs lsA C hK hW hP hD hS hL)

theorem V_iload_n {i : Fin 4} {x : Int32} (hl : ls[(i : Nat)]? = some (.int x)) (hd : decode (cd y) pc = .ok (.iload_n i, 1)) (kk : V l D cA ad adV y (pc + 1) ls (.int x :: st) h Φ) : V l D cA ad adV y pc ls (st) h Φ := by
  intro p e s m args below meth c H locs lsA C hK hW hP hD hS hL
  exact lv_iload_n C.1 C.2.1 hd rfl (hL.at hl rfl) (kk p e s m args below meth c H locs lsA C hK hW hP hD hS hL)

theorem V_iload {i : Nat} {x : Int32} (hl : ls[i]? = some (.int x)) (hd : decode (cd y) pc = .ok (.iload i, 2)) (kk : V l D cA ad adV y (pc + 2) ls (.int x :: st) h Φ) : V l D cA ad adV y pc ls (st) h Φ := by
  intro p e s m args below meth c H locs lsA C hK hW hP hD hS hL
  exact lv_iload C.1 C.2.1 hd (hL.at hl rfl) (kk p e s m args below meth c H locs lsA C hK hW hP hD hS hL)

theorem V_aload_n {i : Fin 4} {x : Nat} (hl : ls[(i : Nat)]? = some (.ref x)) (hd : decode (cd y) pc = .ok (.aload_n i, 1)) (kk : V l D cA ad adV y (pc + 1) ls (.ref x :: st) h Φ) : V l D cA ad adV y pc ls (st) h Φ := by
  intro p e s m args below meth c H locs lsA C hK hW hP hD hS hL
  exact lv_aload_n C.1 C.2.1 hd rfl (hL.at hl rfl) (kk p e s m args below meth c H locs lsA C hK hW hP hD hS hL)

theorem V_aload {i : Nat} {x : Nat} (hl : ls[i]? = some (.ref x)) (hd : decode (cd y) pc = .ok (.aload i, 2)) (kk : V l D cA ad adV y (pc + 2) ls (.ref x :: st) h Φ) : V l D cA ad adV y pc ls (st) h Φ := by
  intro p e s m args below meth c H locs lsA C hK hW hP hD hS hL
  exact lv_aload C.1 C.2.1 hd (hL.at hl rfl) (kk p e s m args below meth c H locs lsA C hK hW hP hD hS hL)

theorem V_istore_n {i : Fin 4} {x : Int32} (hi : (i : Nat) < mL y) (hd : decode (cd y) pc = .ok (.istore_n i, 1)) (kk : V l D cA ad adV y (pc + 1) (ls.set i (.int x)) st h Φ) : V l D cA ad adV y pc ls (.int x :: st) h Φ := by
  intro p e s m args below meth c H locs lsA C hK hW hP hD hS hL
  exact lv_istore_n C.1 C.2.1 hd rfl hL.2 hi rfl (fun lsB hB => kk p e s m args below meth c H locs lsB C hK hW hP hD hS (hL.set (v := .int x) rfl hi hB))

theorem V_istore {i : Nat} {x : Int32} (hi : i < mL y) (hd : decode (cd y) pc = .ok (.istore i, 2)) (kk : V l D cA ad adV y (pc + 2) (ls.set i (.int x)) st h Φ) : V l D cA ad adV y pc ls (.int x :: st) h Φ := by
  intro p e s m args below meth c H locs lsA C hK hW hP hD hS hL
  exact lv_istore C.1 C.2.1 hd hL.2 hi rfl (fun lsB hB => kk p e s m args below meth c H locs lsB C hK hW hP hD hS (hL.set (v := .int x) rfl hi hB))

theorem V_astore_n {i : Fin 4} {x : Nat} (hi : (i : Nat) < mL y) (hd : decode (cd y) pc = .ok (.astore_n i, 1)) (kk : V l D cA ad adV y (pc + 1) (ls.set i (.ref x)) st h Φ) : V l D cA ad adV y pc ls (.ref x :: st) h Φ := by
  intro p e s m args below meth c H locs lsA C hK hW hP hD hS hL
  exact lv_astore_n C.1 C.2.1 hd rfl hL.2 hi rfl (fun lsB hB => kk p e s m args below meth c H locs lsB C hK hW hP hD hS (hL.set (v := .ref x) rfl hi hB))

theorem V_astore {i : Nat} {x : Nat} (hi : i < mL y) (hd : decode (cd y) pc = .ok (.astore i, 2)) (kk : V l D cA ad adV y (pc + 2) (ls.set i (.ref x)) st h Φ) : V l D cA ad adV y pc ls (.ref x :: st) h Φ := by
  intro p e s m args below meth c H locs lsA C hK hW hP hD hS hL
  exact lv_astore C.1 C.2.1 hd hL.2 hi rfl (fun lsB hB => kk p e s m args below meth c H locs lsB C hK hW hP hD hS (hL.set (v := .ref x) rfl hi hB))

theorem V_iinc {i : Nat} {n : Int} {x : Int32} (hi : i < mL y) (hl : ls[i]? = some (.int x)) (hd : decode (cd y) pc = .ok (.iinc i n, 3)) (kk : V l D cA ad adV y (pc + 3) (ls.set i (.int (x + Int32.ofInt n))) st h Φ) : V l D cA ad adV y pc ls st h Φ := by
  intro p e s m args below meth c H locs lsA C hK hW hP hD hS hL
  obtain ⟨k, hk⟩ := List.getElem?_of_mem (lz_mem (ad := ad).mpr ⟨_, hl, rfl, rfl⟩)
  exact lv_iinc C.1 C.2.1 hd hL.2 hk rfl hi rfl (fun lsB hB => kk p e s m args below meth c H locs lsB C hK hW hP hD hS (hL.set (v := .int _) rfl hi hB))

theorem V_iadd {a b : Int32} (hd : decode (cd y) pc = .ok (.iadd, 1)) (kk : V l D cA ad adV y (pc + 1) ls (.int (a + b) :: st) h Φ) : V l D cA ad adV y pc ls (.int b :: .int a :: st) h Φ := by
  intro p e s m args below meth c H locs lsA C hK hW hP hD hS hL
  exact lv_iadd C.1 C.2.1 hd (kk p e s m args below meth c H locs lsA C hK hW hP hD hS hL)

theorem V_isub {a b : Int32} (hd : decode (cd y) pc = .ok (.isub, 1)) (kk : V l D cA ad adV y (pc + 1) ls (.int (a - b) :: st) h Φ) : V l D cA ad adV y pc ls (.int b :: .int a :: st) h Φ := by
  intro p e s m args below meth c H locs lsA C hK hW hP hD hS hL
  exact lv_isub C.1 C.2.1 hd (kk p e s m args below meth c H locs lsA C hK hW hP hD hS hL)

theorem V_imul {a b : Int32} (hd : decode (cd y) pc = .ok (.imul, 1)) (kk : V l D cA ad adV y (pc + 1) ls (.int (a * b) :: st) h Φ) : V l D cA ad adV y pc ls (.int b :: .int a :: st) h Φ := by
  intro p e s m args below meth c H locs lsA C hK hW hP hD hS hL
  exact lv_imul C.1 C.2.1 hd (kk p e s m args below meth c H locs lsA C hK hW hP hD hS hL)

theorem V_iand {a b : Int32} (hd : decode (cd y) pc = .ok (.iand, 1)) (kk : V l D cA ad adV y (pc + 1) ls (.int (a &&& b) :: st) h Φ) : V l D cA ad adV y pc ls (.int b :: .int a :: st) h Φ := by
  intro p e s m args below meth c H locs lsA C hK hW hP hD hS hL
  exact lv_iand C.1 C.2.1 hd (kk p e s m args below meth c H locs lsA C hK hW hP hD hS hL)

theorem V_ixor {a b : Int32} (hd : decode (cd y) pc = .ok (.ixor, 1)) (kk : V l D cA ad adV y (pc + 1) ls (.int (a ^^^ b) :: st) h Φ) : V l D cA ad adV y pc ls (.int b :: .int a :: st) h Φ := by
  intro p e s m args below meth c H locs lsA C hK hW hP hD hS hL
  exact lv_ixor C.1 C.2.1 hd (kk p e s m args below meth c H locs lsA C hK hW hP hD hS hL)

theorem V_ishr {a b : Int32} (hd : decode (cd y) pc = .ok (.ishr, 1)) (kk : V l D cA ad adV y (pc + 1) ls (.int (a >>> (b &&& 31)) :: st) h Φ) : V l D cA ad adV y pc ls (.int b :: .int a :: st) h Φ := by
  intro p e s m args below meth c H locs lsA C hK hW hP hD hS hL
  exact lv_ishr C.1 C.2.1 hd (kk p e s m args below meth c H locs lsA C hK hW hP hD hS hL)

theorem V_idiv {a b : Int32} (hb : ¬ b = 0) (hd : decode (cd y) pc = .ok (.idiv, 1)) (kk : V l D cA ad adV y (pc + 1) ls (.int (a / b) :: st) h Φ) : V l D cA ad adV y pc ls (.int b :: .int a :: st) h Φ := by
  intro p e s m args below meth c H locs lsA C hK hW hP hD hS hL
  exact lv_idiv C.1 C.2.1 hd hb (kk p e s m args below meth c H locs lsA C hK hW hP hD hS hL)

theorem V_irem {a b : Int32} (hb : ¬ b = 0) (hd : decode (cd y) pc = .ok (.irem, 1)) (kk : V l D cA ad adV y (pc + 1) ls (.int (a % b) :: st) h Φ) : V l D cA ad adV y pc ls (.int b :: .int a :: st) h Φ := by
  intro p e s m args below meth c H locs lsA C hK hW hP hD hS hL
  refine lv_irem C.1 C.2.1 hd hb ?_
  rw [irem_eq_mod]
  exact (kk p e s m args below meth c H locs lsA C hK hW hP hD hS hL)

theorem V_ineg {a : Int32} (hd : decode (cd y) pc = .ok (.ineg, 1)) (kk : V l D cA ad adV y (pc + 1) ls (.int (-a) :: st) h Φ) : V l D cA ad adV y pc ls (.int a :: st) h Φ := by
  intro p e s m args below meth c H locs lsA C hK hW hP hD hS hL
  exact lv_ineg C.1 C.2.1 hd (kk p e s m args below meth c H locs lsA C hK hW hP hD hS hL)

theorem V_i2l {a : Int32} (hd : decode (cd y) pc = .ok (.i2l, 1)) (kk : V l D cA ad adV y (pc + 1) ls (.long a.toInt64 :: st) h Φ) : V l D cA ad adV y pc ls (.int a :: st) h Φ := by
  intro p e s m args below meth c H locs lsA C hK hW hP hD hS hL
  exact lv_i2l C.1 C.2.1 hd rfl (kk p e s m args below meth c H locs lsA C hK hW hP hD hS hL)

theorem V_l2i {a : Int64} (hd : decode (cd y) pc = .ok (.l2i, 1)) (kk : V l D cA ad adV y (pc + 1) ls (.int a.toInt32 :: st) h Φ) : V l D cA ad adV y pc ls (.long a :: st) h Φ := by
  intro p e s m args below meth c H locs lsA C hK hW hP hD hS hL
  exact lv_l2i C.1 C.2.1 hd rfl (kk p e s m args below meth c H locs lsA C hK hW hP hD hS hL)

theorem V_lmul {a b : Int64} (hd : decode (cd y) pc = .ok (.lmul, 1)) (kk : V l D cA ad adV y (pc + 1) ls (.long (a * b) :: st) h Φ) : V l D cA ad adV y pc ls (.long b :: .long a :: st) h Φ := by
  intro p e s m args below meth c H locs lsA C hK hW hP hD hS hL
  exact lv_lmul C.1 C.2.1 hd (kk p e s m args below meth c H locs lsA C hK hW hP hD hS hL)

theorem V_ldiv {a b : Int64} (hb : ¬ b = 0) (hd : decode (cd y) pc = .ok (.ldiv, 1)) (kk : V l D cA ad adV y (pc + 1) ls (.long (a / b) :: st) h Φ) : V l D cA ad adV y pc ls (.long b :: .long a :: st) h Φ := by
  intro p e s m args below meth c H locs lsA C hK hW hP hD hS hL
  exact lv_ldiv C.1 C.2.1 hd hb (kk p e s m args below meth c H locs lsA C hK hW hP hD hS hL)

theorem V_dup {u : Value} (hu : isIR u = true) (hd : decode (cd y) pc = .ok (.dup, 1)) (kk : V l D cA ad adV y (pc + 1) ls (u :: u :: st) h Φ) : V l D cA ad adV y pc ls (u :: st) h Φ := by
  intro p e s m args below meth c H locs lsA C hK hW hP hD hS hL
  exact lv_dup C.1 C.2.1 hd (by rw [cv_cat]; exact cat_IR hu) (kk p e s m args below meth c H locs lsA C hK hW hP hD hS hL)

theorem V_pop {u : Value} (hu : isIR u = true) (hd : decode (cd y) pc = .ok (.pop, 1)) (kk : V l D cA ad adV y (pc + 1) ls st h Φ) : V l D cA ad adV y pc ls (u :: st) h Φ := by
  intro p e s m args below meth c H locs lsA C hK hW hP hD hS hL
  exact lv_pop C.1 C.2.1 hd (by rw [cv_cat]; exact cat_IR hu) (kk p e s m args below meth c H locs lsA C hK hW hP hD hS hL)

theorem V_dup_x1 {u v : Value} (hu : isIR u = true) (hv : isIR v = true) (hd : decode (cd y) pc = .ok (.dup_x1, 1)) (kk : V l D cA ad adV y (pc + 1) ls (u :: v :: u :: st) h Φ) : V l D cA ad adV y pc ls (u :: v :: st) h Φ := by
  intro p e s m args below meth c H locs lsA C hK hW hP hD hS hL
  exact lv_dup_x1 C.1 C.2.1 hd (by rw [cv_cat]; exact cat_IR hu) (by rw [cv_cat]; exact cat_IR hv) (kk p e s m args below meth c H locs lsA C hK hW hP hD hS hL)

theorem V_dup2 {u v : Value} (hu : isIR u = true) (hv : isIR v = true) (hd : decode (cd y) pc = .ok (.dup2, 1)) (kk : V l D cA ad adV y (pc + 1) ls (u :: v :: u :: v :: st) h Φ) : V l D cA ad adV y pc ls (u :: v :: st) h Φ := by
  intro p e s m args below meth c H locs lsA C hK hW hP hD hS hL
  exact lv_dup2_11 C.1 C.2.1 hd (by rw [cv_cat]; exact cat_IR hu) (by rw [cv_cat]; exact cat_IR hv) (kk p e s m args below meth c H locs lsA C hK hW hP hD hS hL)

def c1 : ClassFile.Cond → Int32 → Bool
  | .eq, x => decide (x = 0)
  | .ne, x => decide (¬ x = 0)
  | .lt, x => decide (x < 0)
  | .ge, x => decide (0 ≤ x)
  | .gt, x => decide (0 < x)
  | .le, x => decide (x ≤ 0)
def c2 : ClassFile.Cond → Int32 → Int32 → Bool
  | .eq, x, z => decide (x = z)
  | .ne, x, z => decide (¬ x = z)
  | .lt, x, z => decide (x < z)
  | .ge, x, z => decide (z ≤ x)
  | .gt, x, z => decide (z < x)
  | .le, x, z => decide (x ≤ z)

theorem V_if {o : ClassFile.Cond} {off : Int} {tgt : Nat} {x : Int32} (ht : (pc : Int) + off = (tgt : Int)) (hd : decode (cd y) pc = .ok (.ifCond o off, 3)) (kt : c1 o x = true → V l D cA ad adV y tgt ls st h Φ) (kf : c1 o x = false → V l D cA ad adV y (pc + 3) ls st h Φ) : V l D cA ad adV y pc ls (.int x :: st) h Φ := by
  intro p e s m args below meth c H locs lsA C hK hW hP hD hS hL
  cases o with
  | eq => exact lv_if_eq C.1 C.2.1 hd ht (fun q => kt (by simpa [c1] using q) p e s m args below meth c H locs lsA C hK hW hP hD hS hL) (fun q => kf (by simpa [c1] using q) p e s m args below meth c H locs lsA C hK hW hP hD hS hL)
  | ne => exact lv_if_ne C.1 C.2.1 hd ht (fun q => kt (by simpa [c1] using q) p e s m args below meth c H locs lsA C hK hW hP hD hS hL) (fun q => kf (by simpa [c1] using q) p e s m args below meth c H locs lsA C hK hW hP hD hS hL)
  | lt => exact lv_if_lt C.1 C.2.1 hd ht (fun q => kt (by simpa [c1] using q) p e s m args below meth c H locs lsA C hK hW hP hD hS hL) (fun q => kf (by simpa [c1] using q) p e s m args below meth c H locs lsA C hK hW hP hD hS hL)
  | ge => exact lv_if_ge C.1 C.2.1 hd ht (fun q => kt (by simpa [c1] using q) p e s m args below meth c H locs lsA C hK hW hP hD hS hL) (fun q => kf (by simpa [c1] using q) p e s m args below meth c H locs lsA C hK hW hP hD hS hL)
  | gt => exact lv_if_gt C.1 C.2.1 hd ht (fun q => kt (by simpa [c1] using q) p e s m args below meth c H locs lsA C hK hW hP hD hS hL) (fun q => kf (by simpa [c1] using q) p e s m args below meth c H locs lsA C hK hW hP hD hS hL)
  | le => exact lv_if_le C.1 C.2.1 hd ht (fun q => kt (by simpa [c1] using q) p e s m args below meth c H locs lsA C hK hW hP hD hS hL) (fun q => kf (by simpa [c1] using q) p e s m args below meth c H locs lsA C hK hW hP hD hS hL)

theorem V_icmp {o : ClassFile.Cond} {off : Int} {tgt : Nat} {x z : Int32} (ht : (pc : Int) + off = (tgt : Int)) (hd : decode (cd y) pc = .ok (.if_icmp o off, 3)) (kt : c2 o x z = true → V l D cA ad adV y tgt ls st h Φ) (kf : c2 o x z = false → V l D cA ad adV y (pc + 3) ls st h Φ) : V l D cA ad adV y pc ls (.int z :: .int x :: st) h Φ := by
  intro p e s m args below meth c H locs lsA C hK hW hP hD hS hL
  cases o with
  | eq => exact lv_icmp_eq C.1 C.2.1 hd ht (fun q => kt (by simpa [c2] using q) p e s m args below meth c H locs lsA C hK hW hP hD hS hL) (fun q => kf (by simpa [c2] using q) p e s m args below meth c H locs lsA C hK hW hP hD hS hL)
  | ne => exact lv_icmp_ne C.1 C.2.1 hd ht (fun q => kt (by simpa [c2] using q) p e s m args below meth c H locs lsA C hK hW hP hD hS hL) (fun q => kf (by simpa [c2] using q) p e s m args below meth c H locs lsA C hK hW hP hD hS hL)
  | lt => exact lv_icmp_lt C.1 C.2.1 hd ht (fun q => kt (by simpa [c2] using q) p e s m args below meth c H locs lsA C hK hW hP hD hS hL) (fun q => kf (by simpa [c2] using q) p e s m args below meth c H locs lsA C hK hW hP hD hS hL)
  | ge => exact lv_icmp_ge C.1 C.2.1 hd ht (fun q => kt (by simpa [c2] using q) p e s m args below meth c H locs lsA C hK hW hP hD hS hL) (fun q => kf (by simpa [c2] using q) p e s m args below meth c H locs lsA C hK hW hP hD hS hL)
  | gt => exact lv_icmp_gt C.1 C.2.1 hd ht (fun q => kt (by simpa [c2] using q) p e s m args below meth c H locs lsA C hK hW hP hD hS hL) (fun q => kf (by simpa [c2] using q) p e s m args below meth c H locs lsA C hK hW hP hD hS hL)
  | le => exact lv_icmp_le C.1 C.2.1 hd ht (fun q => kt (by simpa [c2] using q) p e s m args below meth c H locs lsA C hK hW hP hD hS hL) (fun q => kf (by simpa [c2] using q) p e s m args below meth c H locs lsA C hK hW hP hD hS hL)

theorem V_goto {off : Int} {tgt : Nat} (ht : (pc : Int) + off = (tgt : Int)) (hd : decode (cd y) pc = .ok (.goto off, 3)) (kk : V l D cA ad adV y tgt ls st h Φ) : V l D cA ad adV y pc ls st h Φ := by
  intro p e s m args below meth c H locs lsA C hK hW hP hD hS hL
  exact lv_goto C.1 C.2.1 hd ht (kk p e s m args below meth c H locs lsA C hK hW hP hD hS hL)

theorem V_tblOut {dflt lo hi : Int} {offs : Array Int} {len : Nat} {x : Int32} {tgt : Nat} (hx : x.toInt < lo ∨ hi < x.toInt) (ht : (pc : Int) + dflt = (tgt : Int)) (hd : decode (cd y) pc = .ok (.tableswitch dflt lo hi offs, len)) (kk : V l D cA ad adV y tgt ls st h Φ) : V l D cA ad adV y pc ls (.int x :: st) h Φ := by
  intro p e s m args below meth c H locs lsA C hK hW hP hD hS hL
  exact lv_tableOut C.1 C.2.1 hd hx ht (kk p e s m args below meth c H locs lsA C hK hW hP hD hS hL)

theorem V_tblIn {dflt lo hi : Int} {offs : Array Int} {len : Nat} {x : Int32} {off : Int} {tgt : Nat} (h1 : ¬ x.toInt < lo) (h2 : ¬ hi < x.toInt) (ho : offs[(x.toInt - lo).toNat]? = some off) (ht : (pc : Int) + off = (tgt : Int)) (hd : decode (cd y) pc = .ok (.tableswitch dflt lo hi offs, len)) (kk : V l D cA ad adV y tgt ls st h Φ) : V l D cA ad adV y pc ls (.int x :: st) h Φ := by
  intro p e s m args below meth c H locs lsA C hK hW hP hD hS hL
  exact lv_tableIn C.1 C.2.1 hd h1 h2 ho ht (kk p e s m args below meth c H locs lsA C hK hW hP hD hS hL)

theorem V_lookup {dflt : Int} {ps : Array (Int × Int)} {len : Nat} {x : Int32} {off : Int} {tgt : Nat} (hp : (ps.toList.zip (ps.toList.drop 1)).all (fun (a, next) => a.1 < next.1) = true) (ho : Op.lookupswitch.offset ps.toList dflt x.toInt = off) (ht : (pc : Int) + off = (tgt : Int)) (hd : decode (cd y) pc = .ok (.lookupswitch dflt ps, len)) (kk : V l D cA ad adV y tgt ls st h Φ) : V l D cA ad adV y pc ls (.int x :: st) h Φ := by
  intro p e s m args below meth c H locs lsA C hK hW hP hD hS hL
  exact lv_lookup C.1 C.2.1 hd hp ho ht (kk p e s m args below meth c H locs lsA C hK hW hP hD hS hL)

theorem fnd {α : Type} {L : List α} {f : α → Bool} {a : α} (h : L.find? f = some a) : a ∈ L ∧ f a = true := ⟨List.mem_of_find?_eq_some h, List.find?_some h⟩
theorem cr_spec {o i : Nat} {v : Int32} (hc : cr o i = some v) : Cond.constant (RN o) i v ∈ lwg := by
  unfold cr at hc
  obtain ⟨e, he, rfl⟩ := Option.map_eq_some_iff.mp hc
  obtain ⟨h1, h2⟩ := fnd he
  simp only [Bool.and_eq_true, beq_iff_eq] at h2
  rw [← h2.1, ← h2.2]
  exact CL_ok e h1
theorem crl_spec {o i : Nat} {v : Int64} (hc : crl o i = some v) : Cond.constantLong (RN o) i v ∈ lwg := by
  unfold crl at hc
  obtain ⟨e, he, rfl⟩ := Option.map_eq_some_iff.mp hc
  obtain ⟨h1, h2⟩ := fnd he
  simp only [Bool.and_eq_true, beq_iff_eq] at h2
  rw [← h2.1, ← h2.2]
  exact CLL_ok e h1
theorem fr_spec {o i ci j : Nat} (hc : fr o i = some (ci, j)) : Cond.fieldLink (RN o) i (TT ci j).1 (TT ci j).2.1 (TT ci j).2.2.1 ∈ lwg ∧ j < NF ci ∧ ci < 9 := by
  unfold fr at hc
  obtain ⟨e, he, hq⟩ := Option.map_eq_some_iff.mp hc
  obtain ⟨h1, h2⟩ := fnd he
  simp only [Bool.and_eq_true, beq_iff_eq] at h2
  obtain ⟨a, b, c, d⟩ := e
  simp only at h2 hq
  cases hq
  rw [← h2.1, ← h2.2]
  exact FL_ok _ h1

theorem V_ldc {i : Nat} {v : Int32} (hv : cr (oc y) i = some v) (hd : decode (cd y) pc = .ok (.ldc i, 2)) (kk : V l D cA ad adV y (pc + 2) ls (.int v :: st) h Φ) : V l D cA ad adV y pc ls st h Φ := by
  intro p e s m args below meth c H locs lsA C hK hW hP hD hS hL
  exact lv_ldc C.1 C.2.1 C.2.2.2.2.1 (C.2.2.2.2.2.1 _ (cr_spec hv)) hd (kk p e s m args below meth c H locs lsA C hK hW hP hD hS hL)

theorem V_ldc2 {i : Nat} {v : Int64} (hv : crl (oc y) i = some v) (hd : decode (cd y) pc = .ok (.ldc2_w i, 3)) (kk : V l D cA ad adV y (pc + 3) ls (.long v :: st) h Φ) : V l D cA ad adV y pc ls st h Φ := by
  intro p e s m args below meth c H locs lsA C hK hW hP hD hS hL
  exact lv_ldc2 C.1 C.2.1 C.2.2.2.2.1 (C.2.2.2.2.2.1 _ (crl_spec hv)) hd (kk p e s m args below meth c H locs lsA C hK hW hP hD hS hL)

theorem V_ldcS {i q : Nat} (hv : sr (oc y) i = some q) (hd : decode (cd y) pc = .ok (.ldc i, 2)) (kk : V l D cA ad adV y (pc + 2) ls (.ref (700 + q) :: st) h Φ) : V l D cA ad adV y pc ls st h Φ := by
  intro p e s m args below meth c H locs lsA C hK hW hP hD hS hL
  unfold sr at hv
  obtain ⟨e0, he, rfl⟩ := Option.map_eq_some_iff.mp hv
  obtain ⟨h1, h2⟩ := fnd he
  simp only [Bool.and_eq_true, beq_iff_eq] at h2
  have hZ := hW.2.1 e0 h1
  rw [h2.1, h2.2] at hZ
  exact va_ldcS C.1 C.2.1 C.2.2.2.2.1 hZ hd (kk p e s m args below meth c H locs lsA C hK hW hP hD hS hL)

theorem V_getf {i ci j k : Nat} (hf : fr (oc y) i = some (ci, j)) (hk : kd k = ci) (hd : decode (cd y) pc = .ok (.getfield i, 3)) (kk : V l D cA ad adV y (pc + 3) ls (vl h k j :: st) h Φ) : V l D cA ad adV y pc ls (.ref k :: st) h Φ := by
  intro p e s m args below meth c H locs lsA C hK hW hP hD hS hL
  obtain ⟨hlink, hj, hci⟩ := fr_spec hf
  obtain ⟨q, hq⟩ := Ks_in (k := k) (by omega)
  refine va_get (D := D) (ci := ci) (v := cv ad (vl h k j)) (C := RN ci) (T := TT ci) (N := NF ci) C.1 C.2.1 C.2.2.2.2.2.1 (lay_in ci hci) C.2.2.2.2.1 hK hP q (fs := (List.range (NF ci)).map (fun j => cv ad (vl h k j))) (by rw [wl_get hq, ent_obj hk hci]) (vwCl_at ci hci) j hj (C.2.2.2.2.2.1 _ hlink) (fun _ h9 => h9) (by simp [hj]) hd (kk p e s m args below meth c H locs lsA C hK hW hP hD hS hL)

theorem V_putf {i ci j k : Nat} {x : Int32} (hf : fr (oc y) i = some (ci, j)) (hk : kd k = ci) (ht : ft ci j = 0 ∨ (ft ci j = 1 ∧ (x = 0 ∨ x = 1))) (hd : decode (cd y) pc = .ok (.putfield i, 3)) (kk : V l D cA ad adV y (pc + 3) ls st (hu h k j x) Φ) : V l D cA ad adV y pc ls (.int x :: .ref k :: st) h Φ := by
  intro p e s m args below meth c H locs lsA C hK hW hP hD hS hL
  obtain ⟨hlink, hj, hci⟩ := fr_spec hf
  obtain ⟨q, hq⟩ := Ks_in (k := k) (by omega)
  obtain ⟨hfin, hty⟩ := ft_ok ci hci j hj (by omega)
  have hrf := put_ok k j (by rw [hk]; exact hci) (by rw [hk]; omega)
  have hn : narrow (tyT ci j) (.int x) = .int x ∧ fits (tyT ci j) (.int x) = true := by
    rcases ht with ht | ⟨ht, hx⟩
    · rw [hty.1 ht]
      exact ⟨rfl, rfl⟩
    · rw [hty.2 ht]
      rcases hx with rfl | rfl
      · exact ⟨by decide, by decide⟩
      · exact ⟨by decide, by decide⟩
  refine va_put (D := D) (ci := ci) (v := .int x) (ty := tyT ci j) (C := RN ci) (T := TT ci) (N := NF ci) C.1 C.2.1 C.2.2.2.2.2.1 (lay_in ci hci) (tyT ci) (ty_ok ci hci) (nm_ok ci hci) C.2.2.2.2.1 hK hP hD hS q (fs := (List.range (NF ci)).map (fun j => cv ad (vl h k j))) (by rw [wl_get hq, ent_obj hk hci]) (vwCl_at ci hci) j hj (C.2.2.2.2.2.1 _ hlink) (fun _ h9 => h9) hfin (ty_ok ci hci j hj) hn.1 hn.2 (by simpa using hj) hd (fun H1 locs1 hP1 hD1 hS1 => ?_)
  have ex : ((List.range (NF ci)).map (fun j => cv ad (vl h k j))).set j (.int x) = (List.range (NF ci)).map (fun j' => cv ad (vl (hu h k j x) k j')) := by
    refine range_set hj ?_ ?_
    · simp [vl, hrf, hu, hw, upd, cv]
    · intro i2 hi2
      have : (hu h k j x) k i2 = h k i2 := by simp [hu, hw, upd, hi2]
      simp only [vl, this]
  have e2 : (wl cA ad h).set q (ad k, .inr (ci, ((List.range (NF ci)).map (fun j => cv ad (vl h k j))).set j (.int x))) = wl cA ad (hu h k j x) := by
    rw [ex, ← ent_obj (h := hu h k j x) hk hci]
    exact wl_set hq (fun k' hk' => ent_ne hk')
  rw [e2] at hP1
  exact kk p e s m args below meth c H1 locs1 lsA C hK hW hP1 (wl_D hD) hS1 hL

theorem V_iald {k : Nat} {x : Int32} (hk : kd k = 9) (hx : vp_in x (ln k)) (hd : decode (cd y) pc = .ok (.iaload, 1)) (kk : V l D cA ad adV y (pc + 1) ls (.int (h k x.toNatClampNeg) :: st) h Φ) : V l D cA ad adV y pc ls (.int x :: .ref k :: st) h Φ := by
  intro p e s m args below meth c H locs lsA C hK hW hP hD hS hL
  obtain ⟨q, hq⟩ := Ks_in (k := k) (by omega)
  exact va_iald C.1 C.2.1 hK hP q 0 (by rw [wl_get hq, ent_num (Or.inl hk)]) (by rw [hk]; rfl) hx hd (kk p e s m args below meth c H locs lsA C hK hW hP hD hS hL)

theorem V_zald {k : Nat} {x : Int32} (hk : kd k = 10) (hx : vp_in x (ln k)) (hd : decode (cd y) pc = .ok (.baload, 1)) (kk : V l D cA ad adV y (pc + 1) ls (.int (h k x.toNatClampNeg) :: st) h Φ) : V l D cA ad adV y pc ls (.int x :: .ref k :: st) h Φ := by
  intro p e s m args below meth c H locs lsA C hK hW hP hD hS hL
  obtain ⟨q, hq⟩ := Ks_in (k := k) (by omega)
  exact va_zald C.1 C.2.1 hK hP q 1 (by rw [wl_get hq, ent_num (Or.inr hk)]) (by rw [hk]; rfl) hx hd (kk p e s m args below meth c H locs lsA C hK hW hP hD hS hL)

theorem V_iast {k : Nat} {x u : Int32} (hk : kd k = 9) (hx : vp_in x (ln k)) (hd : decode (cd y) pc = .ok (.iastore, 1)) (kk : V l D cA ad adV y (pc + 1) ls st (hu h k x.toNatClampNeg u) Φ) : V l D cA ad adV y pc ls (.int u :: .int x :: .ref k :: st) h Φ := by
  intro p e s m args below meth c H locs lsA C hK hW hP hD hS hL
  obtain ⟨q, hq⟩ := Ks_in (k := k) (by omega)
  have e2 : (wl cA ad h).set q (ad k, .inl (cA (kd k), ln k, .inl (upd (h k) x.toNatClampNeg u))) = wl cA ad (hu h k x.toNatClampNeg u) := by
    have := wl_set (cA := cA) (ad := ad) (h := h) (h' := hu h k x.toNatClampNeg u) hq (fun k' hk' => ent_ne hk')
    rw [ent_num (Or.inl hk), show (hu h k x.toNatClampNeg u) k = upd (h k) x.toNatClampNeg u from hw_self] at this
    exact this
  refine va_iast C.1 C.2.1 hK hP hD hS q 0 (by rw [wl_get hq, ent_num (Or.inl hk)]) (by rw [hk]; rfl) hx hd (fun H1 locs1 hP1 hD1 hS1 => ?_)
  rw [e2] at hP1
  exact kk p e s m args below meth c H1 locs1 lsA C hK hW hP1 (wl_D hD) hS1 hL

theorem V_zast {k : Nat} {x u : Int32} (hk : kd k = 10) (hx : vp_in x (ln k)) (hu01 : u = 0 ∨ u = 1) (hd : decode (cd y) pc = .ok (.bastore, 1)) (kk : V l D cA ad adV y (pc + 1) ls st (hu h k x.toNatClampNeg u) Φ) : V l D cA ad adV y pc ls (.int u :: .int x :: .ref k :: st) h Φ := by
  intro p e s m args below meth c H locs lsA C hK hW hP hD hS hL
  obtain ⟨q, hq⟩ := Ks_in (k := k) (by omega)
  have hnar : vp_nar .boolean u = u := by rcases hu01 with rfl | rfl <;> decide
  have e2 : (wl cA ad h).set q (ad k, .inl (cA (kd k), ln k, .inl (upd (h k) x.toNatClampNeg u))) = wl cA ad (hu h k x.toNatClampNeg u) := by
    have := wl_set (cA := cA) (ad := ad) (h := h) (h' := hu h k x.toNatClampNeg u) hq (fun k' hk' => ent_ne hk')
    rw [ent_num (Or.inr hk), show (hu h k x.toNatClampNeg u) k = upd (h k) x.toNatClampNeg u from hw_self] at this
    exact this
  refine va_zast C.1 C.2.1 hK hP hD hS q 1 (by rw [wl_get hq, ent_num (Or.inr hk)]) (by rw [hk]; rfl) hx hd (fun H1 locs1 hP1 hD1 hS1 => ?_)
  rw [hnar, e2] at hP1
  exact kk p e s m args below meth c H1 locs1 lsA C hK hW hP1 (wl_D hD) hS1 hL

theorem V_aald {k q : Nat} {x : Int32} (hk : 11 ≤ kd k ∧ kd k ≤ 14) (hx : vp_in x (ln k)) (hr : rf k x.toNatClampNeg = some q) (hd : decode (cd y) pc = .ok (.aaload, 1)) (kk : V l D cA ad adV y (pc + 1) ls (.ref q :: st) h Φ) : V l D cA ad adV y pc ls (.int x :: .ref k :: st) h Φ := by
  intro p e s m args below meth c H locs lsA C hK hW hP hD hS hL
  obtain ⟨q0, hq⟩ := Ks_in (k := k) (by omega)
  have hty : ∃ (t0 : Nat) (cn : String), (tysO cA)[t0]? = some (cA (kd k), .object cn) := by
    rcases (show kd k = 11 ∨ kd k = 12 ∨ kd k = 13 ∨ kd k = 14 by omega) with e | e | e | e <;> rw [e]
    · exact ⟨2, _, rfl⟩
    · exact ⟨3, _, rfl⟩
    · exact ⟨4, _, rfl⟩
    · exact ⟨5, _, rfl⟩
  obtain ⟨t0, cn, ht0⟩ := hty
  refine va_aldq C.1 C.2.1 hK hP q0 t0 (by rw [wl_get hq, ent_ref hk.1]) ht0 hx hd ?_
  rw [hr]
  exact (kk p e s m args below meth c H locs lsA C hK hW hP hD hS hL)

theorem V_alen {k : Nat} (hk : 9 ≤ kd k ∧ kd k ≤ 10) (hd : decode (cd y) pc = .ok (.arraylength, 1)) (kk : V l D cA ad adV y (pc + 1) ls (.int (Int32.ofNat (ln k)) :: st) h Φ) : V l D cA ad adV y pc ls (.ref k :: st) h Φ := by
  intro p e s m args below meth c H locs lsA C hK hW hP hD hS hL
  obtain ⟨q0, hq⟩ := Ks_in (k := k) (by omega)
  rcases (show kd k = 9 ∨ kd k = 10 by omega) with ex | ex
  · exact va_alen (x := (ln k, .inl (h k))) C.1 C.2.1 hK hP q0 0 (by rw [wl_get hq, ent_num (Or.inl ex)]) (by rw [ex]; rfl) rfl hd (kk p e s m args below meth c H locs lsA C hK hW hP hD hS hL)
  · exact va_alen (x := (ln k, .inl (h k))) C.1 C.2.1 hK hP q0 1 (by rw [wl_get hq, ent_num (Or.inr ex)]) (by rw [ex]; rfl) rfl hd (kk p e s m args below meth c H locs lsA C hK hW hP hD hS hL)

theorem V_iret {v : Int32} (hr : rT y = some .int) (hq : Φ (some (.int v)) h) (hd : decode (cd y) pc = .ok (.ireturn, 1)) : V l D cA ad adV y pc ls [.int v] h Φ := by
  intro p e s m args below meth c H locs lsA C hK hW hP hD hS hL
  exact W.iret C.1 C.2.1 (C.2.2.2.1.trans hr) (fun t ht hWm => ⟨some (.int v), h, rfl, hq, by rw [ht]; exact hP, hS.F ht⟩) hS.2.2 hd C.2.2.2.2.2.2

theorem V_zret {v : Int32} (hr : rT y = some .boolean) (hv : v = 0 ∨ v = 1) (hq : Φ (some (.int v)) h) (hd : decode (cd y) pc = .ok (.ireturn, 1)) : V l D cA ad adV y pc ls [.int v] h Φ := by
  intro p e s m args below meth c H locs lsA C hK hW hP hD hS hL
  exact W.zret C.1 C.2.1 (C.2.2.2.1.trans hr) (by rcases hv with rfl | rfl <;> decide) (fun t ht hWm => ⟨some (.int v), h, rfl, hq, by rw [ht]; exact hP, hS.F ht⟩) hS.2.2 hd C.2.2.2.2.2.2

theorem V_vret (hr : rT y = none) (hq : Φ none h) (hd : decode (cd y) pc = .ok (.return_, 1)) : V l D cA ad adV y pc ls [] h Φ := by
  intro p e s m args below meth c H locs lsA C hK hW hP hD hS hL
  exact W.vret C.1 C.2.1 (C.2.2.2.1.trans hr) (fun t ht hWm => ⟨none, h, rfl, hq, by rw [ht]; exact hP, hS.F ht⟩) hS.2.2 hd C.2.2.2.2.2.2

theorem V_aret {k : Nat} (hr : rT y = some (.object "java/lang/String")) (hq : Φ (some (.ref k)) h) (hd : decode (cd y) pc = .ok (.areturn, 1)) : V l D cA ad adV y pc ls [.ref k] h Φ := by
  intro p e s m args below meth c H locs lsA C hK hW hP hD hS hL
  exact W.aret C.1 C.2.1 (C.2.2.2.1.trans hr) (Or.inl ⟨_, rfl⟩) (Or.inr ⟨_, rfl⟩) (fun t ht hWm => ⟨some (.ref k), h, rfl, hq, by rw [ht]; exact hP, hS.F ht⟩) hS.2.2 hd C.2.2.2.2.2.2

end VRULES
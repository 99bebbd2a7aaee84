/-! ===== calls of the library that are steps: length, charAt of the constants, arraycopy ===== -/
theorem pr_spec {o i z : Nat} (hc : pr o i = some z) : (o, i, z) ∈ PL := by
  unfold pr at hc
  obtain ⟨e, he, hq⟩ := Option.map_eq_some_iff.mp hc
  obtain ⟨h1, h2⟩ := fnd he
  simp only [Bool.and_eq_true, beq_iff_eq] at h2
  obtain ⟨a, b, d⟩ := e
  simp only at h2 hq
  rw [← h2.1, ← h2.2, ← hq]
  exact h1
theorem PL_2 : ∀ e ∈ PL, e.2.2 = 2 → Cond.methodLink (RN e.1) e.2.1 arraycopyName ∈ lwg ∧ Cond.native arraycopyName ∈ lwg ∧ Cond.static arraycopyName ∈ lwg ∧ Cond.initialized "java/lang/System" ∈ lwg := by decide +kernel
theorem PL_0 : ∀ e ∈ PL, e.2.2 = 0 → Cond.methodLink (RN e.1) e.2.1 yJ0_length_8abf5 ∈ lwg := by decide +kernel
theorem PL_1 : ∀ e ∈ PL, e.2.2 = 1 → Cond.methodLink (RN e.1) e.2.1 yJ0_charAt_5068e ∈ lwg := by decide +kernel
theorem SW_0 : Cond.instanceMethod yJ0_length_8abf5 ∈ lwg ∧ Cond.selects RJ0 yJ0_length_8abf5 yJ0_length_8abf5 ∈ lwg ∧ Cond.initialized RJ0 ∈ lwg := by decide +kernel
theorem SW_1 : Cond.instanceMethod yJ0_charAt_5068e ∈ lwg ∧ Cond.selects RJ0 yJ0_charAt_5068e yJ0_charAt_5068e ∈ lwg ∧ Cond.initialized RJ0 ∈ lwg := by decide +kernel
abbrev kLen : Cond := Cond.code yJ0_length_8abf5 cJ0_length_8abf5 1 (some .int)
abbrev kChr : Cond := Cond.code yJ0_charAt_5068e cJ0_charAt_5068e 2 (some .char)
set_option maxRecDepth 100000 in
theorem kLen_in : kLen ∈ lwg := List.mem_filter.mpr ⟨List.mem_of_getElem? (i := 552) rfl, rfl⟩
set_option maxRecDepth 100000 in
theorem kChr_in : kChr ∈ lwg := List.mem_filter.mpr ⟨List.mem_of_getElem? (i := 562) rfl, rfl⟩
def rmLen : Room := { frames := 1, cells := 0, slots := 0, locals := 20 }
def rmChr : Room := { frames := 3, cells := 0, slots := 0, locals := 64 }
def QS (r : Int32) : Array Value → State → Outcome → State → Prop := fun _ st oc t => oc = .returned (some (.int r)) ∧ t.heap = st.heap
def PS (ad adV : Nat → Nat) (A : Nat → Prop) (as : List Value) : Array Value → State → Prop := va_Pc as (fun U => SW ad adV A U U.heap)
def sCh (i j : Nat) : Int32 := (sByt.getD i []).getD j 0
/-- the library's two methods, over the constants: proved in a part of its own -/
def StrOK (l : Launch) : Prop := ∀ (ad adV : Nat → Nat) (A : Nat → Prop) (i : Nat), i < 9 →
  Met l yJ0_length_8abf5 (kLen :: lwg) rmLen (PS ad adV A [.ref (ad (700 + i))]) (QS (nI (sLen.getD i 0))) 0 0 (fun _ => False) ∧
  ∀ x : Int32, vp_in x (sLen.getD i 0) → Met l yJ0_charAt_5068e (kChr :: lwg) rmChr (PS ad adV A [.ref (ad (700 + i)), .int x]) (QS (sCh i x.toNatClampNeg)) 0 0 (fun _ => False)
theorem PS_blind {ad adV : Nat → Nat} {A : Nat → Prop} {as : List Value} : FrameBlind (PS ad adV A as) := by
  intro a U g mk q
  exact ⟨q.1, SW.same (s := U) (U := U.calling g mk a) rfl q.2⟩
theorem good_cons {w : Cond} (hw : w ∈ lwg) : GoodIn lwg (w :: lwg) := by
  intro u hu
  rcases List.mem_cons.mp hu with rfl | h
  · exact ⟨hw, good_of_word (List.mem_filter.mp hw).2⟩
  · exact ⟨h, good_of_word (List.mem_filter.mp h).2⟩
section LIB
variable {l : Launch} {D : va_G} {cA : Nat → ClassId} {ad adV : Nat → Nat} {y pc : Nat} {ls st : List Value} {h : Hp} {Φ : Option Value → Hp → Prop}
theorem V_str {p : Program} {e : Env} {s : State} {m : MethodId} {args : Array Value} {below : List Frame} {meth : Method} {c : Code} {H : Heap} {locs : List Loc} {lsA : Array Slot} {st0 : List Value} {r : Int32} {as : Array Value}
    (C : Ctx y p s m args meth c) (hK : va_K D vwCl (tysO cA) s) (hW : SW ad adV (ow ad) s s.heap) (hP : va_P D vwCl (wl cA ad h) H) (hD : va_D (ow ad) (wl cA ad h)) (hS : va_S (ow ad) s.heap H locs) (hL : LR (mL y) ad lsA ls)
    (hr : va_Run p l e (rmO y) s m args below meth c H locs 0 0 0 0 (F0 m pc lsA st0) (st.map (cv ad)) (QS r as) (fun _ => False))
    (kk : V l D cA ad adV y (pc + 3) ls (.int r :: st) h Φ) : W p l e (rmO y) s m args below meth c H locs 0 0 (MQ below (Qy D cA ad Φ) args s 0 0 (ow ad)) (F0 m pc lsA st0) := by
  refine W_run hr (fun v st₀ t L h0 hq hvm hL2 => ?_)
  obtain ⟨hv, ht⟩ := hq
  cases hv
  have hH : t.heap = H := ht.trans h0
  rw [hH]
  have hS1 : va_S (ow ad) s.heap H (locs ++ L) := ⟨hS.1, hS.2.1, fun q hq => by
    rcases List.mem_append.mp hq with h | h
    · exact hS.2.2 q h
    · exact (hL2 q h).elim⟩
  exact kk p e s m args below meth c H (locs ++ L) lsA C hK hW hP hD hS1 hL
theorem V_len {i q : Nat} (hStr : StrOK l) (hp : pr (oc y) i = some 0) (hq : q < 9) (hst : st.length ≤ 4) (hroom : 2 ≤ rF y ∧ 40 ≤ rL y) (hd : decode (cd y) pc = .ok (.invokevirtual i, 3)) (kk : V l D cA ad adV y (pc + 3) ls (.int (nI (sLen.getD q 0)) :: st) h Φ) : V l D cA ad adV y pc ls (.ref (700 + q) :: st) h Φ := by
  intro p e s m args below meth c H locs lsA C hK hW hP hD hS hL
  have hts := C.2.2.2.2.2.1
  have hM := (hStr ad adV (ow ad) q hq).1
  have cw : CallW (rmO y) s args (RN (oc y)) RJ0 i yJ0_length_8abf5 cJ0_length_8abf5 1 (some .int) (kLen :: lwg) rmLen 0 0 0 :=
    ⟨callB_of 0 hts (good_cons kLen_in) rfl rfl rfl (hts _ SW_0.2.2) (hts _ (PL_0 _ (pr_spec hp) rfl)) (by decide +kernel) ⟨hroom.1, by show 8 + (1 + 11) + 20 ≤ _; exact hroom.2⟩, hts _ SW_0.1, hts _ SW_0.2.1⟩
  have hr := va_runV (As := []) (rest := st.map (cv ad)) (g := F0 m pc lsA ((.ref (700 + q) :: st).map (cv ad))) (b := ad (700 + q)) ⟨C.1, C.2.1, C.2.2.1, C.2.2.2.2.1, hts⟩ hM cw
    ⟨PS_blind, vk_recv (adK := fun i => ad (700 + i)) (i := q) hW.1 hq hS, fun U hU hWm => ⟨rfl, by show SW ad adV (ow ad) U U.heap; rw [hU]; exact SW.warm hWm (hW.kept hS.2.1)⟩⟩
    rfl rfl hL.2.1 rfl (lv_room (cat_sum hst)) hd ⟨Nat.le_refl _, Nat.le_refl _⟩ (locs := locs) (e := e) (below := below) (meth := meth) (cells := 0) (slots := 0)
  exact V_str C hK hW hP hD hS hL hr kk
theorem V_chr {i q : Nat} {x : Int32} (hStr : StrOK l) (hp : pr (oc y) i = some 1) (hq : q < 9) (hx : vp_in x (sLen.getD q 0)) (hst : st.length ≤ 4) (hroom : 4 ≤ rF y ∧ 85 ≤ rL y) (hd : decode (cd y) pc = .ok (.invokevirtual i, 3)) (kk : V l D cA ad adV y (pc + 3) ls (.int (sCh q x.toNatClampNeg) :: st) h Φ) : V l D cA ad adV y pc ls (.int x :: .ref (700 + q) :: st) h Φ := by
  intro p e s m args below meth c H locs lsA C hK hW hP hD hS hL
  have hts := C.2.2.2.2.2.1
  have hM := (hStr ad adV (ow ad) q hq).2 x hx
  have cw : CallW (rmO y) s args (RN (oc y)) RJ0 i yJ0_charAt_5068e cJ0_charAt_5068e 2 (some .char) (kChr :: lwg) rmChr 0 0 1 :=
    ⟨callB_of 1 hts (good_cons kChr_in) rfl rfl rfl (hts _ SW_1.2.2) (hts _ (PL_1 _ (pr_spec hp) rfl)) (by decide +kernel) ⟨hroom.1, by show 8 + (2 + 11) + 64 ≤ _; exact hroom.2⟩, hts _ SW_1.1, hts _ SW_1.2.1⟩
  have hr := va_runV (As := [.int x]) (rest := st.map (cv ad)) (g := F0 m pc lsA ((.int x :: .ref (700 + q) :: st).map (cv ad))) (b := ad (700 + q)) ⟨C.1, C.2.1, C.2.2.1, C.2.2.2.2.1, hts⟩ hM cw
    ⟨PS_blind, vk_recv (adK := fun i => ad (700 + i)) (i := q) hW.1 hq hS, fun U hU hWm => ⟨rfl, by show SW ad adV (ow ad) U U.heap; rw [hU]; exact SW.warm hWm (hW.kept hS.2.1)⟩⟩
    rfl rfl hL.2.1 rfl (lv_room (cat_sum hst)) hd ⟨Nat.le_refl _, Nat.le_refl _⟩ (locs := locs) (e := e) (below := below) (meth := meth) (cells := 0) (slots := 0)
  exact V_str C hK hW hP hD hS hL hr kk
theorem V_copy {i k0 k1 : Nat} {sp dp n : Int32} (hp : pr (oc y) i = some 2) (hk0 : kd k0 = 9) (hk1 : kd k1 = 9) (h1 : ¬ sp < 0) (h2 : ¬ dp < 0) (h3 : ¬ n < 0) (h4 : sp.toNatClampNeg + n.toNatClampNeg ≤ ln k0) (h5 : dp.toNatClampNeg + n.toNatClampNeg ≤ ln k1) (hst : st.length ≤ 4) (hroom : 1 ≤ rF y ∧ 26 ≤ rL y) (hd : decode (cd y) pc = .ok (.invokestatic i, 3))
    (kk : V l D cA ad adV y (pc + 3) ls st (hw h k1 (va_cpy (h k0) (h k1) sp.toNatClampNeg dp.toNatClampNeg n.toNatClampNeg)) Φ) : V l D cA ad adV y pc ls (.int n :: .int dp :: .ref k1 :: .int sp :: .ref k0 :: st) h Φ := by
  intro p e s m args below meth c H locs lsA C hK hW hP hD hS hL
  have hts := C.2.2.2.2.2.1
  obtain ⟨w1, w2, w3, w4⟩ := PL_2 _ (pr_spec hp) rfl
  obtain ⟨q0, hq0⟩ := Ks_in (k := k0) (by omega)
  obtain ⟨q1, hq1⟩ := Ks_in (k := k1) (by omega)
  have hc := cat_sum (ad := ad) hst
  have e2 : (wl cA ad h).set q1 (ad k1, .inl (cA (kd k1), ln k1, .inl (va_cpy (h k0) (h k1) sp.toNatClampNeg dp.toNatClampNeg n.toNatClampNeg))) = wl cA ad (hw h k1 (va_cpy (h k0) (h k1) sp.toNatClampNeg dp.toNatClampNeg n.toNatClampNeg)) := by
    have := wl_set (cA := cA) (ad := ad) (h := h) (h' := hw h k1 (va_cpy (h k0) (h k1) sp.toNatClampNeg dp.toNatClampNeg n.toNatClampNeg)) hq1 (fun k' hk' => ent_ne hk')
    rw [ent_num (Or.inl hk1), hw_self] at this
    exact this
  refine va_copyi (ty := .int) C.1 C.2.1 (C.2.2.1.trans hL.2.1.symm) C.2.2.2.2.1 (hts _ w1) (hts _ w2) (hts _ w3) (hts _ w4) hK hP hD hS q0 q1 0 0 (by rw [wl_get hq0, ent_num (Or.inl hk0)]) (by rw [wl_get hq1, ent_num (Or.inl hk1)]) (by rw [hk0]; rfl) (by rw [hk1]; rfl) rfl h1 h2 h3 h4 h5 (fun i hi => rfl) hroom.1 (by show _ + (7 + 11) ≤ rL y; have := hroom.2; omega) hd (fun H1 locs1 hP1 hD1 hS1 => ?_)
  rw [e2] at hP1
  exact kk p e s m args below meth c H1 locs1 lsA C hK hW hP1 (wl_D hD) hS1 hL
end LIB

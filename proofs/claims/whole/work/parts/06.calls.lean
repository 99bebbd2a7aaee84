/-! ===== calls ===== -/
theorem mr_spec {o i y : Nat} (hc : mr o i = some y) : y < nM ∧ Cond.methodLink (RN o) i (mN y) ∈ lwg ∧ Cond.initialized (mN y).cls ∈ lwg ∧ (if iS y then Cond.static (mN y) ∈ lwg else (Cond.instanceMethod (mN y) ∈ lwg ∧ Cond.selects (mN y).cls (mN y) (mN y) ∈ lwg)) := by
  unfold mr at hc
  obtain ⟨e, he, hq⟩ := Option.map_eq_some_iff.mp hc
  obtain ⟨h1, h2⟩ := fnd he
  simp only [Bool.and_eq_true, beq_iff_eq] at h2
  obtain ⟨a, b, d⟩ := e
  simp only at h2 hq
  cases hq
  rw [← h2.1, ← h2.2]
  exact ML_ok _ h1
abbrev wsO (y : Nat) : List Cond := Cond.code (mN y) (cd y) (mL y) (rT y) :: lwg
theorem wsO_good {y : Nat} (hy : y < nM) : GoodIn lwg (wsO y) := by
  have hc : Cond.code (mN y) (cd y) (mL y) (rT y) ∈ lwg := cd_ok y hy
  intro w hw
  rcases List.mem_cons.mp hw with rfl | h
  · exact ⟨hc, good_of_word (List.mem_filter.mp hc).2⟩
  · exact ⟨h, good_of_word (List.mem_filter.mp h).2⟩
/-- a method's start: the world of h, the strings -/
def Py (D : va_G) (cA : Nat → ClassId) (ad adV : Nat → Nat) (as : List Value) (h : Hp) : Array Value → State → Prop := va_Pc (as.map (cv ad)) (fun U => va_P D vwCl (wl cA ad h) U.heap ∧ va_K D vwCl (tysO cA) U ∧ va_D (ow ad) (wl cA ad h) ∧ SW ad adV (ow ad) U U.heap)
theorem SW.warm {ad adV : Nat → Nat} {A : Nat → Prop} {s U : State} {H : Heap} (hWm : s.WarmedH U.vm) (hW : SW ad adV A s H) : SW ad adV A U H :=
  ⟨hW.1.moved hWm.alike, fun e he => (hW.2.1 e he).warm hWm, hW.2.2.1.moved hWm.alike, hW.2.2.2.moved hWm.alike⟩
theorem SW.same {ad adV : Nat → Nat} {A : Nat → Prop} {s U : State} {H : Heap} (hv : U.vm = s.vm) (hW : SW ad adV A s H) : SW ad adV A U H :=
  ⟨hW.1.moved (by rw [hv]; exact Vm.Alike.refl _), fun e he => (hW.2.1 e he).same hv, hW.2.2.1.moved (by rw [hv]; exact Vm.Alike.refl _), hW.2.2.2.moved (by rw [hv]; exact Vm.Alike.refl _)⟩
theorem SW.kept {ad adV : Nat → Nat} {A : Nat → Prop} {s : State} {H H1 : Heap} (hW : SW ad adV A s H) (hq : ∀ a : Nat, a < H.size → ¬ A a → H1[a]? = H[a]?) : SW ad adV A s H1 :=
  ⟨hW.1.kept hq, hW.2.1, hW.2.2.1.kept hq, hW.2.2.2.kept hq⟩
section CALLS
theorem Met_ofF {l : Launch} {y : MethodName} {ws ws' : List Cond} {rm : Room} {Pc : Array Value → State → Prop} {Qc : Array Value → State → Outcome → State → Prop} {mc ms : Nat} {free : Addr → Prop} {cc : ByteArray} {maxL : Nat} {ret : Option FieldType}
    (hy : plainFor y = true) (hw : ws = Cond.code y cc maxL ret :: ws')
    (body : ∀ p e s m args below meth c s₁, BodyLoose p l y (headSpec ws rm) cc maxL ret e s m args below meth c s₁ → c.maxLocals = maxL → Pc args s →
      W p l e (headSpec ws rm).room s m args below meth c s.heap [] 0 0 (MQ below Qc args s mc ms free) (entryFrame m args maxL)) : Met l y ws rm Pc Qc mc ms free := by
  refine MetFree.of_bodySF (code := cc) (maxLocals := maxL) (ret := ret) hy ?_ ?_
  · intro args s m h hn
    obtain ⟨meth, c, h1, h2, h3, h4, h5, h6, -, -⟩ := Cond.code_spec hn (atoms_spec (ws := ws) h _ (by rw [hw]; exact List.mem_cons_self))
    exact ⟨meth, c, h1, h2, h3, h4, h5, h6⟩
  · intro p e s m args below meth c s₁ B hml hP _
    have hh0 : s₁.heap = s.heap := by rw [B.state]; rfl
    obtain ⟨t, a1, o, b1, b2, b3⟩ := body p e s m args below meth c s₁ B hml hP s₁ hh0 (Stand.of_body B)
    exact ⟨t, o, a1, b1, b2, ⟨b3.1, b3.2⟩⟩
variable {l : Launch} {D : va_G} {cA : Nat → ClassId} {ad adV : Nat → Nat} {y pc : Nat} {ls st : List Value} {h : Hp} {Φ : Option Value → Hp → Prop}
theorem met_of_V {as : List Value} (hy : y < nM) (hir : as.all isIR = true) (hn : as.length ≤ mL y) (hV : V l D cA ad adV y 0 (as ++ List.replicate (mL y - as.length) .null) [] h Φ) : Met l (mN y) (wsO y) (rmO y) (Py D cA ad adV as h) (Qy D cA ad Φ) 0 0 (ow ad) := by
  have hcls := mN_1 y hy
  have hpl := mN_4 y hy
  refine Met_ofF (cc := cd y) (maxL := mL y) (ret := rT y) hpl rfl ?_
  intro p e s m args below meth c s₁ B hml hv
  obtain ⟨rfl, hP, hK, hD, hW⟩ := hv
  have hts0 := atoms_spec (ws := wsO y) B.pre
  have hown : s.vm.findClass (mN y).cls = some m.cls := findClass_of_methodNamed B.named
  rw [hcls] at hown
  rw [lg_entry_eq]
  exact hV p e s m _ below meth c s.heap [] _ ⟨B.exec, B.bytes, hml, B.returns, hown, fun w hw => hts0 w (List.mem_cons_of_mem _ hw), B.notSynchronized⟩ hK hW hP hD va_S.rf (LR.entry hir hn)
theorem Py_blind {as : List Value} : FrameBlind (Py D cA ad adV as h) := by
  intro a U g mk q
  obtain ⟨q0, qP, qK, qD, qW⟩ := q
  exact ⟨q0, qP, va_K.moved (u := U) (U := U.calling g mk a) (Vm.Alike.refl U.vm) qK, qD, SW.same (s := U) (U := U.calling g mk a) rfl qW⟩
theorem W_run {p : Program} {e : Env} {R : Room} {s : State} {m : MethodId} {args : Array Value} {below : List Frame} {meth : Method} {c : Code} {H : Heap} {locs : List Loc} {cells slots : Nat} {Q : State → Prop} {lsA : Array Slot} {st0 rest : List Value} {Qa : State → Outcome → State → Prop} {free : Addr → Prop}
    (hr : va_Run p l e R s m args below meth c H locs cells slots 0 0 (F0 m pc lsA st0) rest Qa free)
    (kk : ∀ (v : Option Value) (st₀ t : State) (L : List Loc), st₀.heap = H → Qa st₀ (.returned v) t → s.vm.Alike t.vm → (∀ q ∈ L, free q.base) → W p l e R s m args below meth c t.heap (locs ++ L) cells slots Q (F0 m (pc + 3) lsA (v.toList ++ rest))) :
    W p l e R s m args below meth c H locs cells slots Q (F0 m pc lsA st0) := by
  intro T hT X
  obtain ⟨v, st₀, t, T', L, h0, X', hL, e1, e2, hq, st⟩ := hr T hT X
  obtain ⟨t2, a1, b1⟩ := kk v st₀ t L h0 hq (by rw [← e2]; exact X'.warmed.alike) hL T' e1 X'
  exact ⟨t2, st t2 a1, b1⟩
theorem cat_sum {st : List Value} (hs : st.length ≤ 4) : ((st.map (cv ad)).map fun v => v.category).sum ≤ 8 := by
  have : ∀ (xs : List Value), ((xs.map (cv ad)).map fun v => v.category).sum ≤ 2 * xs.length := by
    intro xs
    induction xs with
    | nil => simp
    | cons v xs ih =>
      have h1 : (cv ad v).category ≤ 2 := by rcases lv_cat (cv ad v) with h | h <;> omega
      simp only [List.map_cons, List.sum_cons, List.length_cons]
      omega
  have := this st
  omega
theorem V_after {p : Program} {e : Env} {s : State} {m : MethodId} {args : Array Value} {below : List Frame} {meth : Method} {c : Code} {H : Heap} {locs : List Loc} {lsA : Array Slot} {st0 : List Value} {Ψ : Option Value → Hp → Prop} {as : List Value}
    (C : Ctx y p s m args meth c) (hK : va_K D vwCl (tysO cA) s) (hW : SW ad adV (ow ad) s s.heap) (hD : va_D (ow ad) (wl cA ad h)) (hS : va_S (ow ad) s.heap H locs) (hL : LR (mL y) ad lsA ls)
    (hr : va_Run p l e (rmO y) s m args below meth c H locs 0 0 0 0 (F0 m pc lsA st0) (st.map (cv ad)) (Qy D cA ad Ψ as.toArray) (ow ad))
    (kk : ∀ r h', Ψ r h' → V l D cA ad adV y (pc + 3) ls (r.toList ++ st) h' Φ) : W p l e (rmO y) s m args below meth c H locs 0 0 (MQ below (Qy D cA ad Φ) args s 0 0 (ow ad)) (F0 m pc lsA st0) := by
  refine W_run hr (fun v st₀ t L h0 hq hvm hL2 => ?_)
  obtain ⟨r, h', hv, hΨ, hP1, hF⟩ := hq
  cases hv
  have hS1 : va_S (ow ad) s.heap t.heap (locs ++ L) := by
    refine ⟨Nat.le_trans hS.1 (by rw [← h0]; exact hF.1), fun q h1 h2 => ?_, fun q hq => ?_⟩
    · rw [hF.2 q (by rw [h0]; exact Nat.lt_of_lt_of_le h1 hS.1) h2, h0]
      exact hS.2.1 q h1 h2
    · rcases List.mem_append.mp hq with h | h
      · exact hS.2.2 q h
      · exact hL2 q h
  have e1 : (r.map (cv ad)).toList ++ st.map (cv ad) = (r.toList ++ st).map (cv ad) := by cases r <;> simp
  rw [e1]
  exact kk r h' hΨ p e s m args below meth c t.heap (locs ++ L) lsA C hK hW hP1 (wl_D hD) hS1 hL
theorem V_callV {i y' k : Nat} {as : List Value} {Ψ : Option Value → Hp → Prop} (hm : mr (oc y) i = some y') (hs : iS y' = false) (hk : kd k = oc y') (hn : as.length = nP y') (hir : as.all isIR = true) (hst : st.length ≤ 4) (hroom : rF y' + 1 ≤ rF y ∧ 8 + (mL y' + 11) + rL y' ≤ rL y) (hd : decode (cd y) pc = .ok (.invokevirtual i, 3)) (ho : oc y' < 9)
    (hc : V l D cA ad adV y' 0 ((.ref k :: as) ++ List.replicate (mL y' - (as.length + 1)) .null) [] h Ψ) (kk : ∀ r h', Ψ r h' → V l D cA ad adV y (pc + 3) ls (r.toList ++ st) h' Φ) : V l D cA ad adV y pc ls (as.reverse ++ .ref k :: st) h Φ := by
  intro p e s m args below meth c H locs lsA C hK hW hP hD hS hL
  obtain ⟨hy, hlink, hini, hsel⟩ := mr_spec hm
  rw [hs] at hsel
  have hcls := mN_1 y' hy
  obtain ⟨hmh, hvh⟩ := mN_2 y' hy
  have hpar := mN_3 y' hy
  have hfit := mN_5 y' hy
  rw [hs] at hfit
  have hfit : nP y' + 1 ≤ mL y' := by simpa using hfit
  have hts := C.2.2.2.2.2.1
  have hM := met_of_V (as := .ref k :: as) hy (by simpa [isIR] using hir) (by simp only [List.length_cons]; omega) hc
  obtain ⟨q, hq⟩ := Ks_in (k := k) (by omega)
  have cw : CallW (rmO y) s args (RN (oc y)) (RN (oc y')) i (mN y') (cd y') (mL y') (rT y') (wsO y') (rmO y') 0 0 (nP y') := by
    refine ⟨callB_of (nP y') hts (wsO_good hy) rfl rfl rfl (hts _ hini) (hts _ hlink) ⟨hmh, hvh, hpar⟩ hroom, hts _ hsel.1, ?_⟩
    rw [← hcls]
    exact hts _ hsel.2
  have hr := va_runV (As := as.map (cv ad)) (rest := st.map (cv ad)) (g := F0 m pc lsA ((as.reverse ++ .ref k :: st).map (cv ad))) (b := ad k) ⟨C.1, C.2.1, C.2.2.1, C.2.2.2.2.1, hts⟩ hM cw
    ⟨Py_blind, va_recv hK hP (vwCl_at _ ho) (q0 := q) (by rw [wl_get hq, ent_obj hk ho]), fun U hU hWm => ⟨rfl, by rw [hU]; exact hP, va_K.moved hWm.alike hK, hD, by rw [hU]; exact SW.warm hWm (hW.kept hS.2.1)⟩⟩
    rfl (by simpa using hn) hL.2.1 (by simp [cv]) (lv_room (cat_sum hst)) hd ⟨Nat.le_refl _, Nat.le_refl _⟩ (locs := locs) (e := e) (below := below) (meth := meth) (cells := 0) (slots := 0)
  exact V_after C hK hW hD hS hL hr kk
theorem V_callS {i y' : Nat} {as : List Value} {Ψ : Option Value → Hp → Prop} (hm : mr (oc y) i = some y') (hs : iS y' = true) (hn : as.length = nP y') (hir : as.all isIR = true) (hst : st.length ≤ 4) (hroom : rF y' + 1 ≤ rF y ∧ 8 + (mL y' + 11) + rL y' ≤ rL y) (hd : decode (cd y) pc = .ok (.invokestatic i, 3))
    (hc : V l D cA ad adV y' 0 (as ++ List.replicate (mL y' - as.length) .null) [] h Ψ) (kk : ∀ r h', Ψ r h' → V l D cA ad adV y (pc + 3) ls (r.toList ++ st) h' Φ) : V l D cA ad adV y pc ls (as.reverse ++ st) h Φ := by
  intro p e s m args below meth c H locs lsA C hK hW hP hD hS hL
  obtain ⟨hy, hlink, hini, hsel⟩ := mr_spec hm
  rw [hs] at hsel
  have hcls := mN_1 y' hy
  obtain ⟨hmh, hvh⟩ := mN_2 y' hy
  have hpar := mN_3 y' hy
  have hfit := mN_5 y' hy
  rw [hs] at hfit
  have hts := C.2.2.2.2.2.1
  have hM := met_of_V (as := as) hy hir (by simp at hfit; omega) hc
  have cw : CallB (rmO y) s args (RN (oc y)) i (mN y') (cd y') (mL y') (rT y') (wsO y') (rmO y') 0 0 (nP y') ∧ (Cond.static (mN y')).before args s = true :=
    ⟨callB_of (nP y') hts (wsO_good hy) rfl rfl rfl (hts _ hini) (hts _ hlink) ⟨hmh, hvh, hpar⟩ hroom, hts _ hsel⟩
  have hr := va_runS (As := as.map (cv ad)) (rest := st.map (cv ad)) (g := F0 m pc lsA ((as.reverse ++ st).map (cv ad))) ⟨C.1, C.2.1, C.2.2.1, C.2.2.2.2.1, hts⟩ hM cw
    ⟨Py_blind, fun U hU hWm => ⟨rfl, by rw [hU]; exact hP, va_K.moved hWm.alike hK, hD, by rw [hU]; exact SW.warm hWm (hW.kept hS.2.1)⟩⟩
    rfl (by simpa using hn) hL.2.1 (by simp) (lv_room (cat_sum hst)) hd ⟨Nat.le_refl _, Nat.le_refl _⟩ (locs := locs) (e := e) (below := below) (meth := meth) (cells := 0) (slots := 0)
  exact V_after C hK hW hD hS hL hr kk
end CALLS

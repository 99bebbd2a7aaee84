section GALLOC
variable {l : Launch} {D : va_G} {cA : Nat → ClassId} {S0 t g pc : Nat} {ls st : List Value} {G G' : List GE} {cells slots : Nat}
theorem VG_push {q pc' c' s' : Nat} {x : GE} {ew : va_E} {ad : Nat → Nat} (he : ew = eG cA ad x) (hG : G.all (bG G.length) = true) (hx : bG G.length x = true) (hls : ls.all (bV G.length) = true) (hst : st.all (bV G.length) = true) (kk : VG l D cA S0 t g pc' ls (.ref G.length :: st) (G ++ [x]) c' s' G')
    {ad0 : Nat → Nat} {n0 : Nat} {p : Program} {e : Env} {s : State} {m : MethodId} {args : Array Value} {below : List Frame} {meth : Method} {c : Code} {H1 : Heap} {locs : List Loc} {lsA : Array Slot}
    (hn : ∀ k, k < n0 → ad k = ad0 k) (h0 : n0 ≤ G.length) (C : XC g p s m args meth c) (hK : va_K D vwCl (tysO cA) s) (hX : XW cA S0 t s s.heap) (hs : S0 ≤ s.heap.size) (hP1 : va_P D vwCl (gwd cA ad G ++ [(q, ew)]) H1) (hD1 : va_D (AS S0) (gwd cA ad G ++ [(q, ew)])) (hS1 : va_S (AS S0) s.heap H1 locs) (hL : LR (gL g) ad lsA ls) :
    W p l e (rmG g) s m args below meth c H1 locs c' s' (MQ below (QG D cA S0 ad0 n0 G') args s (gMc g) (gMs g) (AS S0)) (F0 m pc' lsA (.ref q :: st.map (cv ad))) := by
  have hup : ∀ k, k < G.length → va_up ad G.length q k = ad k := fun k hk => va_up_ne ad q (by omega)
  rw [he, gw_push hG hx] at hP1 hD1
  have hst' : Value.ref q :: st.map (cv ad) = (Value.ref G.length :: st).map (cv (va_up ad G.length q)) := by
    rw [List.map_cons, st_up hup hst]
    show _ = Value.ref (va_up ad G.length q G.length) :: _
    rw [va_up_self]
  rw [hst']
  exact kk ad0 n0 _ p e s m args below meth c H1 locs lsA (fun k hk => by rw [hup k (by omega)]; exact hn k hk) (by simp; omega) C hK hX hs hP1 hD1 hS1 (LR_up hup hls hL)
theorem getD_rep {α : Type} (n j : Nat) (d : α) : (List.replicate n d).getD j d = d := by
  rw [List.getD_eq_getElem?_getD, List.getElem?_replicate]
  split <;> rfl
theorem eG_newi (kn N : Nat) (ad : Nat → Nat) : (.inl (cA kn, N, .inl (fun _ => 0)) : va_E) = eG cA ad (.inr (.inl (kn, List.replicate N 0))) := by
  show _ = Sum.inl (cA kn, (List.replicate N (0 : Int32)).length, Sum.inl (fun j => (List.replicate N (0 : Int32)).getD j 0))
  simp only [List.length_replicate, getD_rep]
theorem eG_newr (kn N : Nat) (ad : Nat → Nat) : (.inl (cA kn, N, .inr (.inr (.inr (.inr (fun _ => none))))) : va_E) = eG cA ad (.inr (.inr (kn, List.replicate N none))) := by
  show _ = Sum.inl (cA kn, (List.replicate N (none : Option Nat)).length, Sum.inr (Sum.inr (Sum.inr (Sum.inr (fun j => ((List.replicate N (none : Option Nat)).getD j none).map ad)))))
  simp only [List.length_replicate, getD_rep]
  rfl
theorem aw_in : Cond.arrayClass .int ∈ lwg ∧ Cond.arrayClass .boolean ∈ lwg := by decide +kernel
theorem VG_newi {x : Int32} {N : Nat} (hx : ¬ x < 0) (hN : x.toNatClampNeg = N) (hb : N * 4 ≤ 536870912) (hc : cells + 1 ≤ gMc g) (hsl : slots + N ≤ gMs g) (hG : G.all (bG G.length) = true) (hls : ls.all (bV G.length) = true) (hst : st.all (bV G.length) = true) (hd : decode (gCd g) pc = .ok (.newarray .int, 2))
    (kk : VG l D cA S0 t g (pc + 2) ls (.ref G.length :: st) (G ++ [.inr (.inl (9, List.replicate N 0))]) (cells + 1) (slots + N) G') : VG l D cA S0 t g pc ls (.int x :: st) G cells slots G' := by
  intro ad0 n0 ad p e s m args below meth c H locs lsA hn h0 C hK hX hs hP hD hS hL
  refine va_newa (atype := .int) (ty := .int) (a0 := (N, .inl (fun _ => 0))) C.1 C.2.1 (C.2.2.2.2.2.1 _ aw_in.1) rfl hK hP hD hS (fun q h => Nat.le_trans hs h) (fun cA => rfl) hx hN hb hc hsl hd (fun q cB H1 hK1 hP1 hD1 hS1 => ?_)
  have e1 : s.vm.findClass ("[" ++ FieldType.int.toString) = some cB := (hK1.2 6 (cB, .int) rfl).2
  have e2 : s.vm.findClass ("[" ++ FieldType.int.toString) = some (cA 9) := (hK.2 0 (cA 9, .int) rfl).2
  cases Option.some.inj (e1.symm.trans e2)
  exact VG_push (eG_newi 9 N ad) hG rfl hls hst kk hn h0 C hK hX hs hP1 hD1 hS1 hL
theorem VG_newz {x : Int32} {N : Nat} (hx : ¬ x < 0) (hN : x.toNatClampNeg = N) (hb : N * 1 ≤ 536870912) (hc : cells + 1 ≤ gMc g) (hsl : slots + N ≤ gMs g) (hG : G.all (bG G.length) = true) (hls : ls.all (bV G.length) = true) (hst : st.all (bV G.length) = true) (hd : decode (gCd g) pc = .ok (.newarray .boolean, 2))
    (kk : VG l D cA S0 t g (pc + 2) ls (.ref G.length :: st) (G ++ [.inr (.inl (10, List.replicate N 0))]) (cells + 1) (slots + N) G') : VG l D cA S0 t g pc ls (.int x :: st) G cells slots G' := by
  intro ad0 n0 ad p e s m args below meth c H locs lsA hn h0 C hK hX hs hP hD hS hL
  refine va_newa (atype := .boolean) (ty := .boolean) (a0 := (N, .inl (fun _ => 0))) C.1 C.2.1 (C.2.2.2.2.2.1 _ aw_in.2) rfl hK hP hD hS (fun q h => Nat.le_trans hs h) (fun cA => rfl) hx hN hb hc hsl hd (fun q cB H1 hK1 hP1 hD1 hS1 => ?_)
  have e1 : s.vm.findClass ("[" ++ FieldType.boolean.toString) = some cB := (hK1.2 6 (cB, .boolean) rfl).2
  have e2 : s.vm.findClass ("[" ++ FieldType.boolean.toString) = some (cA 10) := (hK.2 1 (cA 10, .boolean) rfl).2
  cases Option.some.inj (e1.symm.trans e2)
  exact VG_push (eG_newi 10 N ad) hG rfl hls hst kk hn h0 C hK hX hs hP1 hD1 hS1 hL
theorem all_rep {α : Type} {f : α → Bool} {d : α} (h : f d = true) (n : Nat) : (List.replicate n d).all f = true := by
  rw [List.all_eq_true]
  intro v hv
  rw [List.eq_of_mem_replicate hv]
  exact h
theorem VG_newr {x : Int32} {N kn ci i : Nat} (hr : (kn, ci) ∈ RK) (hlk : Cond.classLink (RN (gO g)) i (RN ci) ∈ lwg) (hx : ¬ x < 0) (hN : x.toNatClampNeg = N) (hb : N * 4 ≤ 536870912) (hc : cells + 1 ≤ gMc g) (hsl : slots + N ≤ gMs g) (hG : G.all (bG G.length) = true) (hls : ls.all (bV G.length) = true) (hst : st.all (bV G.length) = true) (hd : decode (gCd g) pc = .ok (.anewarray i, 3))
    (kk : VG l D cA S0 t g (pc + 3) ls (.ref G.length :: st) (G ++ [.inr (.inr (kn, List.replicate N none))]) (cells + 1) (slots + N) G') : VG l D cA S0 t g pc ls (.int x :: st) G cells slots G' := by
  intro ad0 n0 ad p e s m args below meth c H locs lsA hn h0 C hK hX hs hP hD hS hL
  obtain ⟨⟨t0, ht0⟩, hci, hmem⟩ := RK_ty (cA := cA) hr
  refine va_newq (C := RN ci) C.1 C.2.1 C.2.2.2.2.1 (C.2.2.2.2.2.1 _ hlk) (hX.2.2.1 ci hmem) hK hP hD hS (fun q h => Nat.le_trans hs h) hx hN hb hc hsl hd (fun q cB H1 hK1 hP1 hD1 hS1 => ?_)
  obtain ⟨-, -, -, -, -, e1⟩ := (hK1.2 6 (cB, .object (RN ci)) rfl).2
  obtain ⟨-, -, -, -, -, e2⟩ := (hK.2 t0 _ ht0).2
  cases Option.some.inj (e1.symm.trans e2)
  exact VG_push (eG_newr kn N ad) hG (all_rep rfl N) hls hst kk hn h0 C hK hX hs hP1 hD1 hS1 hL
/-- the fields of a new object -/
def dF (ci : Nat) : List Value := (List.range (NF ci)).map (fun j => if ft ci j = 2 then .null else .int 0)
theorem dF_ok : ∀ ci, ci < 9 → ∀ j, j < NF ci → defaultValue (tyT ci j) = vp_V (dF ci) j := by decide +kernel
theorem iw_in : ∀ ci, ci < 9 → Cond.instantiable (RN ci) (NF ci) ∈ lwg ∧ Cond.initialized (RN ci) ∈ lwg := by decide +kernel
theorem dF_cv (ci : Nat) (ad : Nat → Nat) : (dF ci).map (cv ad) = dF ci := by
  unfold dF
  rw [List.map_map]
  apply List.map_congr_left
  intro j _
  show cv ad (if ft ci j = 2 then .null else .int 0) = _
  split <;> rfl
theorem dF_bV (ci n : Nat) : (dF ci).all (bV n) = true := by
  rw [List.all_eq_true]
  intro v hv
  obtain ⟨j, -, rfl⟩ := List.mem_map.mp hv
  split <;> rfl
theorem VG_new {ci i : Nat} (hci : ci < 9) (hlk : Cond.classLink (RN (gO g)) i (RN ci) ∈ lwg) (hc : cells + 1 ≤ gMc g) (hsl : slots + NF ci ≤ gMs g) (hG : G.all (bG G.length) = true) (hls : ls.all (bV G.length) = true) (hst : st.all (bV G.length) = true) (hd : decode (gCd g) pc = .ok (.new i, 3))
    (kk : VG l D cA S0 t g (pc + 3) ls (.ref G.length :: st) (G ++ [.inl (ci, dF ci)]) (cells + 1) (slots + NF ci) G') : VG l D cA S0 t g pc ls st G cells slots G' := by
  intro ad0 n0 ad p e s m args below meth c H locs lsA hn h0 C hK hX hs hP hD hS hL
  have hts := C.2.2.2.2.2.1
  refine va_new (ci := ci) (fs := dF ci) (C := RN ci) (T := TT ci) (N := NF ci) C.1 C.2.1 hts (lay_in ci hci) (tyT ci) (ty_ok ci hci) C.2.2.2.2.1 (hts _ hlk) (hts _ (iw_in ci hci).1) (hts _ (iw_in ci hci).2) hK hP hD hS (fun q h => Nat.le_trans hs h) (vwCl_at ci hci) (dF_ok ci hci) hc hsl hd (fun q H1 hP1 hD1 hS1 => ?_)
  exact VG_push (x := .inl (ci, dF ci)) (by show _ = Sum.inr (ci, (dF ci).map (cv ad)); rw [dF_cv]) hG (dF_bV ci _) hls hst kk hn h0 C hK hX hs hP1 hD1 hS1 hL
/-! calls -/
def PG (D : va_G) (cA : Nat → ClassId) (S0 t : Nat) (ad : Nat → Nat) (as : List Value) (G : List GE) : Array Value → State → Prop := va_Pc (as.map (cv ad)) (fun U => va_P D vwCl (gwd cA ad G) U.heap ∧ va_K D vwCl (tysO cA) U ∧ va_D (AS S0) (gwd cA ad G) ∧ XW cA S0 t U U.heap ∧ S0 ≤ U.heap.size)
theorem PG_blind {ad : Nat → Nat} {as : List Value} : FrameBlind (PG D cA S0 t ad as G) := by
  intro a U g mk q
  obtain ⟨q0, qP, qK, qD, qX, qS⟩ := q
  exact ⟨q0, qP, va_K.moved (u := U) (U := U.calling g mk a) (Vm.Alike.refl U.vm) qK, qD, XW.same (s := U) (U := U.calling g mk a) rfl qX, qS⟩
theorem met_of_VG {as : List Value} {ad : Nat → Nat} (hg : g < 11) (hir : as.all isIR = true) (hn : as.length ≤ gL g) (hV : VG l D cA S0 t g 0 (as ++ List.replicate (gL g - as.length) .null) [] G 0 0 G') : Met l (gNm g) (wsG g) (rmG g) (PG D cA S0 t ad as G) (QG D cA S0 ad G.length G') (gMc g) (gMs g) (AS S0) := by
  obtain ⟨hcls, hpl, -, hnm, -⟩ := gN_ok g hg
  refine Met_ofF (cc := gCd g) (maxL := gL g) (ret := none) hpl rfl ?_
  intro p e s m args below meth c s₁ B hml hv
  obtain ⟨rfl, hP, hK, hD, hX, hs⟩ := hv
  have hts0 := atoms_spec (ws := wsG g) B.pre
  have hown : s.vm.findClass (gNm g).cls = some m.cls := findClass_of_methodNamed B.named
  rw [hcls] at hown
  have hname : meth.name = (gNm g).name := (name_of_methodNamed B.named B.method).1
  rw [lg_entry_eq]
  exact hV ad G.length ad p e s m _ below meth c s.heap [] _ (fun _ _ => rfl) (Nat.le_refl _) ⟨B.exec, B.bytes, hml, B.returns, hown, fun w hw => hts0 w (List.mem_cons_of_mem _ hw), B.notSynchronized, fun h => hname.trans (hnm h)⟩ hK hX hs hP hD va_S.rf (LR.entry hir hn)
theorem W_runG {p : Program} {e : Env} {R : Room} {s : State} {m : MethodId} {args : Array Value} {below : List Frame} {meth : Method} {c : Code} {H : Heap} {locs : List Loc} {cells slots mc ms : Nat} {Q : State → Prop} {lsA : Array Slot} {st0 rest : List Value} {Qa : State → Outcome → State → Prop} {free : Addr → Prop}
    (hr : va_Run p l e R s m args below meth c H locs cells slots mc ms (F0 m pc lsA st0) rest Qa free)
    (kk : ∀ (v : Option Value) (st₀ t : State) (L : List Loc), st₀.heap = H → Qa st₀ (.returned v) t → s.vm.Alike t.vm → (∀ q ∈ L, free q.base) → W p l e R s m args below meth c t.heap (locs ++ L) (cells + mc) (slots + ms) Q (F0 m (pc + 3) lsA (v.toList ++ rest))) :
    W p l e R s m args below meth c H locs cells slots Q (F0 m pc lsA st0) := by
  intro T hT X
  obtain ⟨v, st₀, t, T', L, h0, X', hL, e1, e2, hq, st⟩ := hr T hT X
  obtain ⟨t2, a1, b1⟩ := kk v st₀ t L h0 hq (by rw [← e2]; exact X'.warmed.alike) hL T' e1 X'
  exact ⟨t2, st t2 a1, b1⟩
theorem VG_after {g' : Nat} {G1 : List GE} {ad ad0 : Nat → Nat} {n0 : Nat} {p : Program} {e : Env} {s : State} {m : MethodId} {args : Array Value} {below : List Frame} {meth : Method} {c : Code} {H : Heap} {locs : List Loc} {lsA : Array Slot} {st0 : List Value} {as : Array Value}
    (hn : ∀ k, k < n0 → ad k = ad0 k) (h0 : n0 ≤ G.length) (C : XC g p s m args meth c) (hK : va_K D vwCl (tysO cA) s) (hX : XW cA S0 t s s.heap) (hs : S0 ≤ s.heap.size) (hS : va_S (AS S0) s.heap H locs) (hL : LR (gL g) ad lsA ls)
    (hG1 : G.length ≤ G1.length) (hls : ls.all (bV G.length) = true) (hst : st.all (bV G.length) = true)
    (hr : va_Run p l e (rmG g) s m args below meth c H locs cells slots (gMc g') (gMs g') (F0 m pc lsA st0) (st.map (cv ad)) (QG D cA S0 ad G.length G1 as) (AS S0))
    (kk : VG l D cA S0 t g (pc + 3) ls st G1 (cells + gMc g') (slots + gMs g') G') : W p l e (rmG g) s m args below meth c H locs cells slots (MQ below (QG D cA S0 ad0 n0 G') args s (gMc g) (gMs g) (AS S0)) (F0 m pc lsA st0) := by
  refine W_runG hr (fun v st₀ T L hh hq hvm hL2 => ?_)
  obtain ⟨hv, ad', hup, hP1, hD1, hF⟩ := hq
  cases hv
  have hS1 : va_S (AS S0) s.heap T.heap (locs ++ L) := by
    refine ⟨Nat.le_trans hS.1 (by rw [← hh]; exact hF.1), fun q h1 h2 => ?_, fun q hq => ?_⟩
    · rw [hF.2 q (by rw [hh]; exact Nat.lt_of_lt_of_le h1 hS.1) h2, hh]
      exact hS.2.1 q h1 h2
    · rcases List.mem_append.mp hq with h | h
      · exact hS.2.2 q h
      · exact hL2 q h
  show W p l e (rmG g) s m args below meth c T.heap (locs ++ L) _ _ _ (F0 m (pc + 3) lsA (st.map (cv ad)))
  rw [← st_up hup hst]
  exact kk ad0 n0 ad' p e s m args below meth c T.heap (locs ++ L) lsA (fun k hk => by rw [hup k (by omega)]; exact hn k hk) (by omega) C hK hX hs hP1 hD1 hS1 (LR_up hup hls hL)
theorem PG_at {ad : Nat → Nat} {s U : State} {as : List Value} {H : Heap} {locs : List Loc} (hU : U.heap = H) (hWm : s.WarmedH U.vm) (hK : va_K D vwCl (tysO cA) s) (hX : XW cA S0 t s s.heap) (hs : S0 ≤ s.heap.size) (hP : va_P D vwCl (gwd cA ad G) H) (hD : va_D (AS S0) (gwd cA ad G)) (hS : va_S (AS S0) s.heap H locs) : PG D cA S0 t ad as G (as.map (cv ad)).toArray U :=
  ⟨rfl, by rw [hU]; exact hP, va_K.moved hWm.alike hK, hD, by rw [hU]; exact XW.warm hWm (hX.kept hS.2.1), by rw [hU]; exact Nat.le_trans hs hS.1⟩
theorem VG_callI {i g' k : Nat} {as : List Value} {G1 : List GE} (hg' : g' < 9) (hlk : Cond.methodLink (RN (gO g)) i (gNm g') ∈ lwg ∧ Cond.instanceMethod (gNm g') ∈ lwg) (hn' : as.length = gP g') (hir : as.all isIR = true) (hfit : as.length + 1 ≤ gL g') (hst4 : st.length ≤ 4) (hroom : gF g' + 1 ≤ gF g ∧ 8 + (gL g' + 11) + gLo g' ≤ gLo g) (hcs : cells + gMc g' ≤ gMc g ∧ slots + gMs g' ≤ gMs g)
    (hd : decode (gCd g) pc = .ok (.invokespecial i, 3)) (hG1 : G.length ≤ G1.length) (hls : ls.all (bV G.length) = true) (hst : st.all (bV G.length) = true)
    (hc : VG l D cA S0 t g' 0 ((.ref k :: as) ++ List.replicate (gL g' - (as.length + 1)) .null) [] G 0 0 G1) (kk : VG l D cA S0 t g (pc + 3) ls st G1 (cells + gMc g') (slots + gMs g') G') : VG l D cA S0 t g pc ls (as.reverse ++ .ref k :: st) G cells slots G' := by
  intro ad0 n0 ad p e s m args below meth c H locs lsA hn h0 C hK hX hs hP hD hS hL
  have hts := C.2.2.2.2.2.1
  obtain ⟨-, -, hmv, hnm, hini⟩ := gN_ok g' (by omega)
  have hM := met_of_VG (as := .ref k :: as) (ad := ad) (g := g') (by omega) (by simpa [isIR] using hir) (by simpa using hfit) hc
  have cw : CallB (rmG g) s args (RN (gO g)) i (gNm g') (gCd g') (gL g') none (wsG g') (rmG g') (gMc g') (gMs g') (gP g') := callB_of (gP g') hts (wsG_good (by omega)) rfl rfl rfl (hts _ hini) (hts _ hlk.1) hmv hroom
  have hr := va_runI (As := as.map (cv ad)) (rest := st.map (cv ad)) (g := F0 m pc lsA ((as.reverse ++ .ref k :: st).map (cv ad))) (b := ad k) ⟨C.1, C.2.1, C.2.2.1, C.2.2.2.2.1, hts⟩ hM
    ⟨cw, hnm hg', hts _ hlk.2⟩
    ⟨PG_blind, fun U hU hWm => PG_at hU hWm hK hX hs hP hD hS⟩
    rfl (by simpa using hn') hL.2.1 (by simp [cv]) (lv_room (cat_sum hst4)) hd hcs (locs := locs) (e := e) (below := below) (meth := meth)
  exact VG_after hn h0 C hK hX hs hS hL hG1 hls hst hr kk
theorem VG_callN {i g' k : Nat} {as : List Value} {G1 : List GE} (hg' : g' < 9) (hlk : (gO g, i, g') ∈ NLk ∧ Cond.instanceMethod (gNm g') ∈ lwg) (hn' : as.length = gP g') (hir : as.all isIR = true) (hfit : as.length + 1 ≤ gL g') (hst4 : st.length ≤ 4) (hroom : gF g' + 1 ≤ gF g ∧ 8 + (gL g' + 11) + gLo g' ≤ gLo g) (hcs : cells + gMc g' ≤ gMc g ∧ slots + gMs g' ≤ gMs g)
    (hd : decode (gCd g) pc = .ok (.invokespecial i, 3)) (hG1 : G.length ≤ G1.length) (hls : ls.all (bV G.length) = true) (hst : st.all (bV G.length) = true)
    (hc : VG l D cA S0 t g' 0 ((.ref k :: as) ++ List.replicate (gL g' - (as.length + 1)) .null) [] G 0 0 G1) (kk : VG l D cA S0 t g (pc + 3) ls st G1 (cells + gMc g') (slots + gMs g') G') : VG l D cA S0 t g pc ls (as.reverse ++ .ref k :: st) G cells slots G' := by
  intro ad0 n0 ad p e s m args below meth c H locs lsA hn h0 C hK hX hs hP hD hS hL
  have hts := C.2.2.2.2.2.1
  obtain ⟨-, -, hmv, hnm, hini⟩ := gN_ok g' (by omega)
  have hM := met_of_VG (as := .ref k :: as) (ad := ad) (g := g') (by omega) (by simpa [isIR] using hir) (by simpa using hfit) hc
  have cw : va_CN (rmG g) s args (RN (gO g)) i (gNm g') "ColdLine" (gCd g') (gL g') none (wsG g') (rmG g') (gMc g') (gMs g') (gP g') := va_cnB (gP g') hts (wsG_good (by omega)) rfl rfl rfl (hX.1 (gO g, i, g') hlk.1) (hts _ hini) hmv hroom
  have hr := va_runIN (As := as.map (cv ad)) (rest := st.map (cv ad)) (g := F0 m pc lsA ((as.reverse ++ .ref k :: st).map (cv ad))) (b := ad k) ⟨C.1, C.2.1, C.2.2.1, C.2.2.2.2.1, hts⟩ hM
    ⟨cw, hnm hg', hts _ hlk.2⟩
    ⟨PG_blind, fun U hU hWm => PG_at hU hWm hK hX hs hP hD hS⟩
    rfl (by simpa using hn') hL.2.1 (by simp [cv]) (lv_room (cat_sum hst4)) hd hcs (locs := locs) (e := e) (below := below) (meth := meth)
  exact VG_after hn h0 C hK hX hs hS hL hG1 hls hst hr kk
theorem VG_fill {k : Nat} {v : Int32} {G1 : List GE} (hst4 : st.length ≤ 4) (hg : g = 4) (hcs : cells ≤ gMc g ∧ slots ≤ gMs g)
    (hd : decode (gCd g) pc = .ok (.invokestatic 37, 3)) (hG1 : G.length ≤ G1.length) (hls : ls.all (bV G.length) = true) (hst : st.all (bV G.length) = true)
    (hc : VG l D cA S0 t 10 0 [.ref k, .int v, .null, .null] [] G 0 0 G1) (kk : VG l D cA S0 t g (pc + 3) ls st G1 cells slots G') : VG l D cA S0 t g pc ls (.int v :: .ref k :: st) G cells slots G' := by
  subst hg
  intro ad0 n0 ad p e s m args below meth c H locs lsA hn h0 C hK hX hs hP hD hS hL
  have hts := C.2.2.2.2.2.1
  obtain ⟨-, -, hmv, hnm, hini⟩ := gN_ok 10 (by omega)
  have hM := met_of_VG (as := [.ref k, .int v]) (ad := ad) (g := 10) (by omega) rfl (Nat.le_of_ble_eq_true rfl) hc
  have hlk : Cond.methodLink (RN (gO 4)) 37 (gNm 10) ∈ lwg ∧ Cond.static (gNm 10) ∈ lwg := by decide +kernel
  have cw : CallB (rmG 4) s args (RN (gO 4)) 37 (gNm 10) (gCd 10) (gL 10) none (wsG 10) (rmG 10) (gMc 10) (gMs 10) (gP 10) := callB_of (gP 10) hts (wsG_good (by omega)) rfl rfl rfl (hts _ hini) (hts _ hlk.1) hmv ⟨by decide, by decide⟩
  have hr := va_runS (As := [.ref (ad k), .int v]) (rest := st.map (cv ad)) (g := F0 m pc lsA ((.int v :: .ref k :: st).map (cv ad))) ⟨C.1, C.2.1, C.2.2.1, C.2.2.2.2.1, hts⟩ hM
    ⟨cw, hts _ hlk.2⟩
    ⟨PG_blind, fun U hU hWm => PG_at (as := [.ref k, .int v]) hU hWm hK hX hs hP hD hS⟩
    rfl rfl hL.2.1 rfl (lv_room (cat_sum hst4)) hd hcs (locs := locs) (e := e) (below := below) (meth := meth)
  exact VG_after hn h0 C hK hX hs hS hL hG1 hls hst hr kk
theorem VG_fresh {k : Nat} {v : Int32} {fs : List Value} {G1 : List GE} (hk : G[k]? = some (.inl (8, fs))) (hst4 : st.length ≤ 4) (hg : g = 8) (hcs : cells ≤ gMc g ∧ slots ≤ gMs g)
    (hd : decode (gCd g) pc = .ok (.invokevirtual 141, 3)) (hG1 : G.length ≤ G1.length) (hls : ls.all (bV G.length) = true) (hst : st.all (bV G.length) = true)
    (hc : VG l D cA S0 t 9 0 [.ref k, .int v, .null] [] G 0 0 G1) (kk : VG l D cA S0 t g (pc + 3) ls st G1 cells slots G') : VG l D cA S0 t g pc ls (.int v :: .ref k :: st) G cells slots G' := by
  subst hg
  intro ad0 n0 ad p e s m args below meth c H locs lsA hn h0 C hK hX hs hP hD hS hL
  have hts := C.2.2.2.2.2.1
  obtain ⟨-, -, hmv, hnm, hini⟩ := gN_ok 9 (by omega)
  have hM := met_of_VG (as := [.ref k, .int v]) (ad := ad) (g := 9) (by omega) rfl (Nat.le_of_ble_eq_true rfl) hc
  have hlk : Cond.methodLink (RN (gO 8)) 141 (gNm 9) ∈ lwg ∧ Cond.instanceMethod (gNm 9) ∈ lwg ∧ Cond.selects (RN 8) (gNm 9) (gNm 9) ∈ lwg := by decide +kernel
  have cw : CallW (rmG 8) s args (RN (gO 8)) (RN 8) 141 (gNm 9) (gCd 9) (gL 9) none (wsG 9) (rmG 9) (gMc 9) (gMs 9) (gP 9) := ⟨callB_of (gP 9) hts (wsG_good (by omega)) rfl rfl rfl (hts _ hini) (hts _ hlk.1) hmv ⟨by decide, by decide⟩, hts _ hlk.2.1, hts _ hlk.2.2⟩
  have hr := va_runV (C := RN 8) (As := [.int v]) (rest := st.map (cv ad)) (g := F0 m pc lsA ((.int v :: .ref k :: st).map (cv ad))) (b := ad k) ⟨C.1, C.2.1, C.2.2.1, C.2.2.2.2.1, hts⟩ hM
    cw
    ⟨PG_blind, va_recv hK hP (vwCl_at 8 (by decide)) (gw_get hk), fun U hU hWm => PG_at (as := [.ref k, .int v]) hU hWm hK hX hs hP hD hS⟩
    rfl rfl hL.2.1 rfl (lv_room (cat_sum hst4)) hd hcs (locs := locs) (e := e) (below := below) (meth := meth)
  exact VG_after hn h0 C hK hX hs hS hL hG1 hls hst hr kk
end GALLOC

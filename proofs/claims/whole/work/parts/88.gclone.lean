section GCLONE
variable {l : Launch} {D : va_G} {cA : Nat → ClassId} {S0 t g pc : Nat} {ls st : List Value} {G G' : List GE} {cells slots : Nat}
abbrev yCln : MethodName := ⟨"[I", "clone", "()Ljava/lang/Object;"⟩
abbrev yOCl : MethodName := ⟨"java/lang/Object", "clone", "()Ljava/lang/Object;"⟩
theorem cw_in : Cond.fieldLink (RN 7) 48 "ColdLine" "FIRST_LOSSES" "[I" ∈ lwg ∧ Cond.methodLink (RN 7) 52 yCln ∈ lwg ∧ Cond.sameMethod "[I" "java/lang/Object" "clone" "()Ljava/lang/Object;" ∈ lwg ∧ Cond.native yOCl ∈ lwg ∧ Cond.instanceMethod yOCl ∈ lwg ∧ Cond.selects "[I" yCln yOCl ∈ lwg ∧ Cond.classLink (RN 7) 53 "[I" ∈ lwg := by decide +kernel
theorem VG_clone (hc : cells + 1 ≤ gMc 7) (hsl : slots + 10 ≤ gMs 7) (hst4 : st.length ≤ 4) (hG : G.all (bG G.length) = true) (hls : ls.all (bV G.length) = true) (hst : st.all (bV G.length) = true)
    (kk : VG l D cA S0 t 7 74 ls (.ref G.length :: st) (G ++ [.inr (.inl (9, fLs))]) (cells + 1) (slots + 10) G') : VG l D cA S0 t 7 65 ls st G cells slots G' := by
  intro ad0 n0 ad p e s m args below meth c H locs lsA hn h0 C hK hX hs hP hD hS hL
  have hts := C.2.2.2.2.2.1
  obtain ⟨-, hcast, -, hZ, cell, hcell, hv1, hv2, hcls, hsl0, hlt⟩ := id hX
  obtain ⟨w1, w2, w3, w4, w5, w6, w7⟩ := cw_in
  refine va_gets (own := RN 7) C.1 C.2.1 hZ hS C.2.2.2.2.1 (hts _ w1) (fun _ h => h) dX7_init_65 ?_
  have hnm : s.vm.findClass "[I" = some (cA 9) := va_nm_int (hK.2 0 (cA 9, .int) rfl).2
  have hH : H[t]? = some cell := by
    rw [hS.2.1 t (Array.getElem?_eq_some_iff.mp hcell).1 (fun z => absurd hlt (Nat.not_lt.mpr z))]
    exact hcell
  have hsz : cell.slots.size = 10 := by rw [hsl0]; exact arrV_size _ _ _
  have hce : ({ cls := cell.cls, slots := cell.slots } : Cell) = vp_cell (cA 9) (10, .inl (fun j => fLs.getD j 0)) := by
    rw [hcls, hsl0]
    rfl
  have hcs := cat_sum (ad := ad) hst4
  obtain ⟨c0, t0', f1, f2, f3⟩ := Cond.castable_spec (va_Nw.use (A := args) rfl hcast)
  cases hnm.symm.trans f1
  intro T hT X
  obtain ⟨-, kA, hkA, comp, hkind⟩ := State.isArrayOf_alike X.warmed.alike ((hK.2 0 (cA 9, .int) rfl).1 0 (fun _ => .null))
  obtain ⟨-, kS, hkS, compS, hkindS⟩ := (hK.2 0 (cA 9, .int) rfl).1 0 (fun _ => .null)
  obtain ⟨vm', X', step⟩ := X.cloneArray C.1 C.2.2.2.2.1 (hts _ w2) (hts _ w3) (hts _ w4) (hts _ w5) (hts _ w6) (a := t) (cell := cell) (by rw [hT]; exact hH) hv1 hv2 (by rw [hcls]; exact hnm) f2 (by rw [hcls]; exact f3)
    (fun i v hv => by
      rw [hcls]
      have hk' : T.vm.classes[cA 9]? = some kA := hkA
      rw [hsl0] at hv
      have hf : fits .int v = true := va_fit (cA := cA 9) (ty := .int) (F := fun j => .int (fLs.getD j 0)) (n := 10) (fun i hi => rfl) i v hv
      simpa [State.fitsSlot, State.slotType?, hk', hkind] using hf)
    (g := F0 m 68 lsA (.ref t :: st.map (cv ad))) rfl (by rw [C.2.2.1]; exact hL.2.1) rfl (by rw [C.2.1]; exact dX7_init_68) (by decide) (by show 2 * 0 + _ + 14 ≤ 70; omega) hc (by rw [hsz]; exact hsl) (hloader := by rw [hcls]; exact Vm.clonesLoader_of_array hkS hkindS)
  rw [hce, hsz] at X'
  rw [hce] at step
  generalize hH1 : H.push (vp_cell (cA 9) (10, .inl (fun j => fLs.getD j 0))) = H1
  have z1 : H1.size = H.size + 1 := by rw [← hH1, Array.size_push]
  have e1 : H1[H.size]? = some (vp_cell (cA 9) (10, .inl (fun j => fLs.getD j 0))) := by rw [← hH1, Array.getElem?_push_size]
  have o1 : ∀ q : Nat, q < H.size → H1[q]? = H[q]? := fun q hq => by rw [← hH1, Array.getElem?_push, if_neg (Nat.ne_of_lt hq)]
  have hkp : ∀ (k : Nat) (y : Nat × va_E), (gwd cA ad G)[k]? = some y → H1[y.1]? = H[y.1]? := fun k y hy => o1 y.1 ((hP k y hy).lt)
  have hP1 : va_P D vwCl (gwd cA ad G ++ [(H.size, .inl (cA 9, 10, .inl (fun j => fLs.getD j 0)))]) H1 := (hP.kept hkp).app (fun k y hy => by
      have hz : k < 1 := (List.getElem?_eq_some_iff.mp hy).1
      rw [show k = 0 by omega] at hy
      cases hy
      exact e1)
  have hD1 : va_D (AS S0) (gwd cA ad G ++ [(H.size, .inl (cA 9, 10, .inl (fun j => fLs.getD j 0)))]) := hD.push hP rfl (Nat.le_trans hs hS.1)
  have hS1 : va_S (AS S0) s.heap H1 locs := ⟨Nat.le_trans hS.1 (by omega), fun y h1 h2 => (o1 y (Nat.lt_of_lt_of_le h1 hS.1)).trans (hS.2.1 y h1 h2), hS.2.2⟩
  have kW := VG_push (x := .inr (.inl (9, fLs))) (ew := .inl (cA 9, 10, .inl (fun j => fLs.getD j 0))) rfl hG rfl hls hst kk hn h0 C hK hX hs hP1 hD1 hS1 hL (e := e) (below := below)
  have kW2 := va_castA (own := RN 7) C.1 C.2.1 C.2.2.2.2.1 (hts _ w7) hP1 G.length (x := (10, .inl (fun j => fLs.getD j 0))) (by rw [List.getElem?_append_right (by simp [gwd])]; simp [gwd]) hnm dX7_init_71 kW
  obtain ⟨t2, b1, b2⟩ := kW2 ((T.setVm vm').pushCell (vp_cell (cA 9) (10, .inl (fun j => fLs.getD j 0)))) (by rw [← hH1, ← hT]; rfl) X'
  refine ⟨t2, step t2 ?_, b2⟩
  rw [hT]
  exact b1
end GCLONE

/-! ===== the law's start. NOT the claim: 'start_if' wants one fact more than lw_At gives: the class of the static FIRST_LOSSES' array (see REPORT.md, STATEMENT) ===== -/
abbrev FN : List Cond := flatC (Jvm.Cond.and given_1 narrow_1)
def tmI : List Nat := [50, 52, 31, 33, 95, 97, 99, 101, 103]
def tmS (i : Nat) : Term := .string "ColdLine$Tape" (tmI.getD i 0)
theorem fn_ex : ∀ i, i < 9 → Cond.exactly (tmS i) "java/lang/String" ∈ FN ∧ Cond.eq (.field (tmS i) "java/lang/String" "coder" "B") (.int 0) ∈ FN ∧ Cond.arrayOf (.field (tmS i) "java/lang/String" "value" "[B") .byte ∈ FN ∧ Cond.eq (.length (.field (tmS i) "java/lang/String" "value" "[B")) (.int (Int32.ofNat (sLen.getD i 0))) ∈ FN := by decide +kernel
theorem fn_el : ∀ i, i < 9 → ∀ j, j < sLen.getD i 0 → Cond.eq (.elem (.field (tmS i) "java/lang/String" "value" "[B") (.int (Int32.ofNat j))) (.int ((sByt.getD i []).getD j 0)) ∈ FN := by decide +kernel
theorem fn_ne : ∀ i, i < 9 → ∀ j, j < 9 → i ≠ j → Cond.not (Cond.eq (tmS i) (tmS j)) ∈ FN ∨ Cond.not (Cond.eq (tmS j) (tmS i)) ∈ FN := by decide +kernel
theorem fn_SL : ∀ e ∈ SL, e.2.2.1 < 9 ∧ Cond.stringRef (RN e.1) e.2.1 e.2.2.2 ∈ lw_tbl ∧ (Term.string (RN e.1) e.2.1 = tmS e.2.2.1 ∨ Cond.eq (tmS e.2.2.1) (.string (RN e.1) e.2.1) ∈ FN) := by decide +kernel
theorem fn_z : (Cond.eq (.static "java/lang/String" "COMPACT_STRINGS" "Z") (.int 1) ∈ FN ∧ Cond.laysStatic "java/lang/String" "COMPACT_STRINGS" "Z" ∈ lw_tbl ∧ Cond.initialized "java/lang/String" ∈ lw_tbl) ∧ Cond.isRef (.static "jdk/internal/util/Preconditions" "SIOOBE_FORMATTER" "Ljava/util/function/BiFunction;") ∈ FN ∧ Cond.laysStatic "jdk/internal/util/Preconditions" "SIOOBE_FORMATTER" "Ljava/util/function/BiFunction;" ∈ lw_tbl ∧ Cond.initialized "jdk/internal/util/Preconditions" ∈ lw_tbl := by decide +kernel
abbrev tmL : Term := .static "ColdLine" "FIRST_LOSSES" "[I"
theorem fn_L : Cond.arrayOf tmL .int ∈ FN ∧ Cond.eq (.length tmL) (.int (Int32.ofNat 10)) ∈ FN ∧ Cond.laysStatic "ColdLine" "FIRST_LOSSES" "[I" ∈ lw_tbl ∧ Cond.initialized "ColdLine" ∈ lw_tbl := by decide +kernel
theorem fn_Le : ∀ j, j < 10 → Cond.eq (.elem tmL (.int (Int32.ofNat j))) (.int (fLs.getD j 0)) ∈ FN := by decide +kernel
theorem fn_N : (∀ e ∈ NLk, Cond.methodLinkNest (RN e.1) e.2.1 (gNm e.2.2) "ColdLine" ∈ lw_tbl) ∧ Cond.castable "[I" "java/lang/Cloneable" ∈ lw_tbl ∧ ∀ ci ∈ ([0, 3, 4, 6] : List Nat), Cond.arrayOver (.object (RN ci)) ∈ lw_tbl := by decide +kernel
section START
variable {s : State} {b : Nat}
theorem start_str (hts : ∀ w ∈ lw_tbl, w.before #[Value.ref b] s = true) (hfl : ∀ w ∈ FN, w.before #[Value.ref b] s = true) : ∃ adK adV : Nat → Nat, ∀ ad : Nat → Nat, (∀ i, i < 9 → ad (700 + i) = adK i) → ∀ A : Nat → Prop, (∀ q, A q → s.heap.size ≤ q) → SW ad adV A s s.heap := by
  have hA : ∀ a : Nat, a < s.heap.size → ¬ AS s.heap.size a := fun a h => Nat.not_le.mpr h
  obtain ⟨adK, adV, hS, hev⟩ := vk_Sof (args := #[Value.ref b]) (s := s) (N := 9) (tm := tmS) (len := sLen) (byt := sByt) (A := AS s.heap.size) (by decide) (fun i hi => hfl _ (fn_ex i hi).1) (fun i hi => hfl _ (fn_ex i hi).2.1) (fun i hi => hfl _ (fn_ex i hi).2.2.1) (fun i hi => hfl _ (fn_ex i hi).2.2.2) (fun i hi j hj => hfl _ (fn_el i hi j hj)) (fun i j hi hj hn => (fn_ne i hi j hj hn).imp (hfl _) (hfl _)) hA
  refine ⟨adK, adV, fun ad had A hAA => ?_⟩
  have hS := hS.narrow hAA
  refine ⟨⟨fun i hi => ?_, fun i j hi hj e => ?_⟩, fun e he => ?_, (va_Zof (hts _ fn_z.1.2.1) (hts _ fn_z.1.2.2) (va_eqt (hfl _ fn_z.1.1)) hA).narrow hAA, (va_Zqof (hts _ fn_z.2.2.1) (hts _ fn_z.2.2.2) (hfl _ fn_z.2.1) hA).narrow hAA⟩
  · simp only [had i hi]
    exact hS.1 i hi
  · have e : ad (700 + i) = ad (700 + j) := e
    rw [had i hi, had j hj] at e
    exact hS.2 i j hi hj e
  · obtain ⟨h1, h2, h3⟩ := fn_SL e he
    rw [had _ h1]
    refine vk_R.of (A := #[Value.ref b]) (hts _ h2) ?_
    rcases h3 with h3 | h3
    · rw [h3]
      exact hev _ h1
    · exact va_eqR (hfl _ h3) (hev _ h1)
theorem start_K (htg : ∀ w ∈ lwg, w.before #[Value.ref b] s = true) (hao : ∀ ci ∈ ([0, 3, 4, 6] : List Nat), va_AO (RN ci) s) : ∃ (D : va_G) (cA : Nat → ClassId), va_K D vwCl (tysO cA) s := by
  have h0 : ∀ ci : Nat, ∃ q : ClassId × (Nat → Nat), ci < 9 → u_Kn s (RN ci) (TT ci) (NF ci) q.1 q.2 := by
    intro ci
    by_cases hc : ci < 9
    · obtain ⟨c0, i0, h⟩ := u_known (C := RN ci) (T := TT ci) (N := NF ci) (n := NF ci) htg (lay_in ci hc) (htg _ (iw_in ci hc).1)
      exact ⟨(c0, i0), fun _ => h⟩
    · exact ⟨(0, fun _ => 0), fun h => absurd h hc⟩
  obtain ⟨d, hd⟩ := Classical.axiomOfChoice h0
  obtain ⟨c9, k9, m9, a9, b9, d9⟩ := Cond.arrayClass_spec (htg _ aw_in.1)
  obtain ⟨c10, k10, m10, a10, b10, d10⟩ := Cond.arrayClass_spec (htg _ aw_in.2)
  obtain ⟨p11, c11, k11, a11, -, b11, d11, f11⟩ := Cond.arrayOver_spec (hao 6 (by decide))
  obtain ⟨p12, c12, k12, a12, -, b12, d12, f12⟩ := Cond.arrayOver_spec (hao 0 (by decide))
  obtain ⟨p13, c13, k13, a13, -, b13, d13, f13⟩ := Cond.arrayOver_spec (hao 3 (by decide))
  obtain ⟨p14, c14, k14, a14, -, b14, d14, f14⟩ := Cond.arrayOver_spec (hao 4 (by decide))
  refine ⟨(fun ci => (d ci).1, fun ci => (d ci).2), fun k => if k = 9 then c9 else if k = 10 then c10 else if k = 11 then c11 else if k = 12 then c12 else if k = 13 then c13 else c14, fun ci q hq => ?_, fun k q hq => ?_⟩
  · have hc : ci < 9 := (List.getElem?_eq_some_iff.mp hq).1
    rw [vwCl_at ci hc] at hq
    cases hq
    exact hd ci hc
  · have hk : k < 6 := (List.getElem?_eq_some_iff.mp hq).1
    rcases (show k = 0 ∨ k = 1 ∨ k = 2 ∨ k = 3 ∨ k = 4 ∨ k = 5 by omega) with rfl | rfl | rfl | rfl | rfl | rfl
    · cases hq
      exact ⟨fun n z => ⟨fun k h => (by cases h), k9, b9, m9, d9⟩, a9⟩
    · cases hq
      exact ⟨fun n z => ⟨fun k h => (by cases h), k10, b10, m10, d10⟩, a10⟩
    · cases hq
      exact ⟨fun n z => ⟨fun k h => (by cases h), k11, b11, p11, d11⟩, k11, p11, b11, d11, a11, f11⟩
    · cases hq
      exact ⟨fun n z => ⟨fun k h => (by cases h), k12, b12, p12, d12⟩, k12, p12, b12, d12, a12, f12⟩
    · cases hq
      exact ⟨fun n z => ⟨fun k h => (by cases h), k13, b13, p13, d13⟩, k13, p13, b13, d13, a13, f13⟩
    · cases hq
      exact ⟨fun n z => ⟨fun k h => (by cases h), k14, b14, p14, d14⟩, k14, p14, b14, d14, a14, f14⟩
theorem len_lt {args : Array Value} {tm : Term} {a : Nat} {cell : Cell} {v : Value} (h : (Term.length tm).eval args s none [] s = some v) (ht : tm.eval args s none [] s = some (.ref a)) (hat : s.arrayAt? a = some cell) : cell.slots.size < 2 ^ 31 := by
  by_cases hn : cell.slots.size < 2 ^ 31
  · exact hn
  · simp only [Term.eval, ht, hat, Option.bind_eq_bind, Option.bind_some, if_neg hn] at h
    cases h
/-- the one fact that the Statement doesn't give -/
def LossCls (s : State) (b : Nat) : Prop := ∀ (t : Nat) (cell : Cell), tmL.eval #[Value.ref b] s none [] s = some (.ref t) → s.heap[t]? = some cell → s.vm.findClass "[I" = some cell.cls
theorem start_X {D : va_G} {cA : Nat → ClassId} (hts : ∀ w ∈ lw_tbl, w.before #[Value.ref b] s = true) (hfl : ∀ w ∈ FN, w.before #[Value.ref b] s = true) (hK : va_K D vwCl (tysO cA) s) (hLC : LossCls s b) : ∃ t, XW cA s.heap.size t s s.heap := by
  have hA : ∀ a : Nat, a < s.heap.size → ¬ AS s.heap.size a := fun a h => Nat.not_le.mpr h
  have hlen := va_eqt (hfl _ fn_L.2.1)
  obtain ⟨t, ht, cell, hcell, hof, hkn, -, hsz, hval, -⟩ := va_Tof (s := s) (tm := tmL) (ty := .int) (N := 10) (f := fun j => .int (fLs.getD j 0)) (A := AS s.heap.size) (by decide) (hfl _ fn_L.1) hlen (fun j hj => va_eqt (hfl _ (fn_Le j hj))) hA
  obtain ⟨t', cell', ht', hat', -⟩ := Term.length_spec hlen
  cases ht.symm.trans ht'
  obtain ⟨hc', -, hns, -⟩ := State.arrayAt?_spec hat'
  cases hcell.symm.trans hc'
  have hlt := len_lt hlen ht hat'
  have hs10 : cell.slots.size = 10 := by
    have h1 : (nI cell.slots.size).toInt = (nI 10).toInt := congrArg Int32.toInt hsz
    rw [nI_toInt hlt, nI_toInt (by decide)] at h1
    omega
  have hcls : cell.cls = cA 9 := Option.some.inj ((hLC t cell ht hcell).symm.trans (va_nm_int (hK.2 0 (cA 9, .int) rfl).2))
  refine ⟨t, fun e he => va_Nw.of rfl (hts _ (fn_N.1 e he)), va_Nw.of rfl (hts _ fn_N.2.1), fun ci hc => va_AO.of (hts _ (fn_N.2.2 ci hc)), va_Zof (hts _ fn_L.2.2.1) (hts _ fn_L.2.2.2) ht hA, cell, hcell, hof.1, hkn, hcls, ?_, (Array.getElem?_eq_some_iff.mp hcell).1⟩
  apply Array.ext_getElem?
  intro i
  by_cases hi : i < 10
  · rw [hval i hi, arrV_read _ _ hi]
  · rw [Array.getElem?_eq_none (by omega), Array.getElem?_eq_none (by rw [arrV_size]; omega)]
theorem XW.up {cA : Nat → ClassId} {S0 S1 t : Nat} {s : State} {H : Heap} (hS : S0 ≤ S1) (h : XW cA S0 t s H) : XW cA S1 t s H := by
  obtain ⟨h1, h2, h3, h4, cell, h5, h6, h7, h8, h9, h10⟩ := h
  exact ⟨h1, h2, h3, h4.narrow (fun q hq => Nat.le_trans hS hq), cell, h5, h6, h7, h8, h9, Nat.lt_of_lt_of_le h10 hS⟩
end START

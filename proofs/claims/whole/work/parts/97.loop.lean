section LOOP
variable {p : Program} {e : Env} {s : State} {m : MethodId} {below : List Frame} {meth : Method} {c : Code} {l : Launch} {b L : Nat} {xs : Nat → Int32} {D : va_G} {cA : Nat → ClassId} {ad adV : Nat → Nat} {cells slots : Nat}
theorem i7_add (i : Nat) : nI (7 * i) + Int32.ofInt 7 = nI (7 * (i + 1)) := by
  rw [show Int32.ofInt 7 = nI 7 by decide, nI_add, show 7 * i + 7 = 7 * (i + 1) by omega]
theorem law_guard {L i : Nat} (hL : L ≤ 3584) (hi : 7 * i ≤ L + 7) : nI L - 7 < nI (7 * i) ↔ ¬ 7 * i + 7 ≤ L := by
  have e1 : (nI L - 7).toInt = (L : Int) - 7 := by
    rw [show (7 : Int32) = nI 7 by decide]
    exact pk_sub_toInt (by omega) (by omega)
  rw [Int32.lt_iff_toInt_lt, e1, nI_toInt (by omega)]
  omega
set_option maxHeartbeats 4000000 in
set_option maxRecDepth 100000 in
theorem law_loop (X : LX p e s m below meth c l b L xs D cA ad adV) (hL : L ≤ 3584) (hfit : cells ≤ 600000 ∧ slots ≤ 7302250) : ∀ (n i : Nat) (h : Hp) (H : Heap) (locs : List Loc) (ls : Array Slot), L < 7 * i + n → 7 * i ≤ L + 7 → Inv i h → Bo h → va_P D vwCl (wl cA ad h) H → va_S (AS s.heap.size) s.heap H locs → lv_has ls 4 [(3, .int (nI (7 * i))), (2, .ref (ad 600)), (1, .ref (ad 0)), (0, .ref b)] → WL p l e s m below meth c b H locs cells slots (F0 m 18 ls []) := by
  obtain ⟨hx, hb, hr, hml, hown, hts, hX, hbl, hlocks, hgv⟩ := id X.1
  have hbA : ¬ AS s.heap.size b := Nat.not_le.mpr hbl
  intro n
  induction n with
  | zero =>
    intro i h H locs ls hn hi I B hP hS hl
    refine lv_iload_n hx hb dL_law_18 rfl (lv_at hl 0 rfl) ?_
    refine lv_aload_n hx hb dL_law_19 rfl (lv_at hl 3 rfl) ?_
    refine va_slen hx hb hX hbl hbA hS dL_law_20 ?_
    refine lv_bipush (v := 7) hx hb dL_law_21 (by decide) ?_
    refine lv_isub hx hb dL_law_23 ?_
    refine lv_icmp_gt (tgt := 1200) hx hb dL_law_24 (by decide) (fun _ => ?_) (fun z => absurd ((law_guard hL hi).mpr (by omega)) z)
    refine va_forget (fun q hq => hS.2.2 q hq) ?_
    refine W.widen (k := 600000) (n := 7302250) hfit.1 hfit.2 ?_
    refine lv_iconst (v := 1) hx hb dL_law_1200 (by decide) ?_
    exact lw_ret hx hb hr hlocks dL_law_1201
  | succ n ih =>
    intro i h H locs ls hn hi I B hP hS hl
    refine lv_iload_n hx hb dL_law_18 rfl (lv_at hl 0 rfl) ?_
    refine lv_aload_n hx hb dL_law_19 rfl (lv_at hl 3 rfl) ?_
    refine va_slen hx hb hX hbl hbA hS dL_law_20 ?_
    refine lv_bipush (v := 7) hx hb dL_law_21 (by decide) ?_
    refine lv_isub hx hb dL_law_23 ?_
    refine lv_icmp_gt (tgt := 1200) hx hb dL_law_24 (by decide) (fun _ => ?_) (fun z => ?_)
    · refine va_forget (fun q hq => hS.2.2 q hq) ?_
      refine W.widen (k := 600000) (n := 7302250) hfit.1 hfit.2 ?_
      refine lv_iconst (v := 1) hx hb dL_law_1200 (by decide) ?_
      exact lw_ret hx hb hr hlocks dL_law_1201
    · have hi7 : 7 * i + 7 ≤ L := Decidable.byContradiction (fun q => z ((law_guard hL hi).mpr q))
      have KK : ∀ (h2 : Hp) (H1 : Heap) (locs1 : List Loc), Inv (i + 1) h2 → Bo h2 → va_P D vwCl (wl cA ad h2) H1 → va_S (AS s.heap.size) s.heap H1 locs1 → WL p l e s m below meth c b H1 locs1 cells slots (F0 m 1194 ls []) := by
        intro h2 H1 locs1 I2 B2 hP1 hS1
        refine lv_iinc (v := nI (7 * (i + 1))) (lv' := [(3, .int (nI (7 * (i + 1)))), (2, .ref (ad 600)), (1, .ref (ad 0)), (0, .ref b)]) hx hb dL_law_1194 hl (k := 0) rfl (by first | exact i7_add i | exact (i7_add i).symm) (by decide) rfl (fun ls hl => ?_)
        refine lv_goto (tgt := 18) hx hb dL_law_1197 (by decide) ?_
        exact ih (i + 1) h2 H1 locs1 ls (by omega) (by omega) I2 B2 hP1 hS1 hl
      refine lv_aload_n hx hb dL_law_27 rfl (lv_at hl 3 rfl) ?_
      refine lv_iload_n hx hb dL_law_28 rfl (lv_at hl 0 rfl) ?_
      refine va_sld hx hb hX hbl hbA hS (vp_in_nI (by omega) (by omega)) dL_law_29 ?_
      refine lv_bipush (v := 31) hx hb dL_law_30 (by decide) ?_
      refine lv_iand hx hb dL_law_32 ?_
      obtain ⟨j, hj, ej⟩ := pk_andE (xs (nI (7 * i)).toNatClampNeg) (m := 31) 5 (by decide)
      rw [ej]
      have hj : j < 32 := hj
      rcases (show j = 0 ∨ j = 1 ∨ j = 2 ∨ j = 3 ∨ j = 4 ∨ j = 5 ∨ j = 6 ∨ j = 7 ∨ j = 8 ∨ j = 9 ∨ j = 10 ∨ j = 11 ∨ j = 12 ∨ j = 13 ∨ j = 14 ∨ j = 15 ∨ j = 16 ∨ j = 17 ∨ j = 18 ∨ j = 19 ∨ j = 20 ∨ j = 21 ∨ j = 22 ∨ j = 23 ∨ j = 24 ∨ j = 25 ∨ j = 26 ∨ j = 27 ∨ j = 28 ∨ j = 29 ∨ j = 30 ∨ j = 31 by omega) with rfl | rfl | rfl | rfl | rfl | rfl | rfl | rfl | rfl | rfl | rfl | rfl | rfl | rfl | rfl | rfl | rfl | rfl | rfl | rfl | rfl | rfl | rfl | rfl | rfl | rfl | rfl | rfl | rfl | rfl | rfl | rfl
      · exact lv_tableIn (off := 143) (tgt := 176) hx hb dL_law_33 (by decide) (by decide) (by decide) (by decide) (law_0 X hi7 hL I B hP hS hfit hl KK)
      · exact lv_tableIn (off := 166) (tgt := 199) hx hb dL_law_33 (by decide) (by decide) (by decide) (by decide) (law_1 X hi7 hL I B hP hS hfit hl KK)
      · exact lv_tableIn (off := 199) (tgt := 232) hx hb dL_law_33 (by decide) (by decide) (by decide) (by decide) (law_2 X hi7 hL I B hP hS hfit hl KK)
      · exact lv_tableIn (off := 232) (tgt := 265) hx hb dL_law_33 (by decide) (by decide) (by decide) (by decide) (law_3 X hi7 hL I B hP hS hfit hl KK)
      · exact lv_tableIn (off := 265) (tgt := 298) hx hb dL_law_33 (by decide) (by decide) (by decide) (by decide) (law_4 X hi7 hL I B hP hS hfit hl KK)
      · exact lv_tableIn (off := 308) (tgt := 341) hx hb dL_law_33 (by decide) (by decide) (by decide) (by decide) (law_5 X hi7 hL I B hP hS hfit hl KK)
      · exact lv_tableIn (off := 331) (tgt := 364) hx hb dL_law_33 (by decide) (by decide) (by decide) (by decide) (law_6 X hi7 hL I B hP hS hfit hl KK)
      · exact lv_tableIn (off := 364) (tgt := 397) hx hb dL_law_33 (by decide) (by decide) (by decide) (by decide) (law_7 X hi7 hL I B hP hS hfit hl KK)
      · exact lv_tableIn (off := 397) (tgt := 430) hx hb dL_law_33 (by decide) (by decide) (by decide) (by decide) (law_8 X hi7 hL I B hP hS hfit hl KK)
      · exact lv_tableIn (off := 440) (tgt := 473) hx hb dL_law_33 (by decide) (by decide) (by decide) (by decide) (law_9 X hi7 hL I B hP hS hfit hl KK)
      · exact lv_tableIn (off := 515) (tgt := 548) hx hb dL_law_33 (by decide) (by decide) (by decide) (by decide) (law_10 X hi7 hL I B hP hS hfit hl KK)
      · exact lv_tableIn (off := 558) (tgt := 591) hx hb dL_law_33 (by decide) (by decide) (by decide) (by decide) (law_11 X hi7 hL I B hP hS hfit hl KK)
      · exact lv_tableIn (off := 591) (tgt := 624) hx hb dL_law_33 (by decide) (by decide) (by decide) (by decide) (law_12 X hi7 hL I B hP hS hfit hl KK)
      · exact lv_tableIn (off := 624) (tgt := 657) hx hb dL_law_33 (by decide) (by decide) (by decide) (by decide) (law_13 X hi7 hL I B hP hS hfit hl KK)
      · exact lv_tableIn (off := 657) (tgt := 690) hx hb dL_law_33 (by decide) (by decide) (by decide) (by decide) (law_14 X hi7 hL I B hP hS hfit hl KK)
      · exact lv_tableIn (off := 690) (tgt := 723) hx hb dL_law_33 (by decide) (by decide) (by decide) (by decide) (law_15 X hi7 hL I B hP hS hfit hl KK)
      · exact lv_tableIn (off := 723) (tgt := 756) hx hb dL_law_33 (by decide) (by decide) (by decide) (by decide) (law_16 X hi7 hL I B hP hS hfit hl KK)
      · exact lv_tableIn (off := 756) (tgt := 789) hx hb dL_law_33 (by decide) (by decide) (by decide) (by decide) (law_17 X hi7 hL I B hP hS hfit hl KK)
      · exact lv_tableIn (off := 789) (tgt := 822) hx hb dL_law_33 (by decide) (by decide) (by decide) (by decide) (law_18 X hi7 hL I B hP hS hfit hl KK)
      · exact lv_tableIn (off := 802) (tgt := 835) hx hb dL_law_33 (by decide) (by decide) (by decide) (by decide) (law_19 X hi7 hL I B hP hS hfit hl KK)
      · exact lv_tableIn (off := 835) (tgt := 868) hx hb dL_law_33 (by decide) (by decide) (by decide) (by decide) (law_20 X hi7 hL I B hP hS hfit hl KK)
      · exact lv_tableIn (off := 858) (tgt := 891) hx hb dL_law_33 (by decide) (by decide) (by decide) (by decide) (law_21 X hi7 hL I B hP hS hfit hl KK)
      · exact lv_tableIn (off := 881) (tgt := 914) hx hb dL_law_33 (by decide) (by decide) (by decide) (by decide) (law_22 X hi7 hL I B hP hS hfit hl KK)
      · exact lv_tableIn (off := 914) (tgt := 947) hx hb dL_law_33 (by decide) (by decide) (by decide) (by decide) (law_23 X hi7 hL I B hP hS hfit hl KK)
      · exact lv_tableIn (off := 937) (tgt := 970) hx hb dL_law_33 (by decide) (by decide) (by decide) (by decide) (law_24 X hi7 hL I B hP hS hfit hl KK)
      · exact lv_tableIn (off := 970) (tgt := 1003) hx hb dL_law_33 (by decide) (by decide) (by decide) (by decide) (law_25 X hi7 hL I B hP hS hfit hl KK)
      · exact lv_tableIn (off := 993) (tgt := 1026) hx hb dL_law_33 (by decide) (by decide) (by decide) (by decide) (law_26 X hi7 hL I B hP hS hfit hl KK)
      · exact lv_tableIn (off := 1026) (tgt := 1059) hx hb dL_law_33 (by decide) (by decide) (by decide) (by decide) (law_27 X hi7 hL I B hP hS hfit hl KK)
      · exact lv_tableIn (off := 1059) (tgt := 1092) hx hb dL_law_33 (by decide) (by decide) (by decide) (by decide) (law_28 X hi7 hL I B hP hS hfit hl KK)
      · exact lv_tableIn (off := 1072) (tgt := 1105) hx hb dL_law_33 (by decide) (by decide) (by decide) (by decide) (law_29 X hi7 hL I B hP hS hfit hl KK)
      · exact lv_tableIn (off := 1095) (tgt := 1128) hx hb dL_law_33 (by decide) (by decide) (by decide) (by decide) (law_30 X hi7 hL I B hP hS hfit hl KK)
      · exact lv_tableIn (off := 1138) (tgt := 1171) hx hb dL_law_33 (by decide) (by decide) (by decide) (by decide) (law_31 X hi7 hL I B hP hS hfit hl KK)
end LOOP

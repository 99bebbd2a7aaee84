/-! ===== the library's own methods over the string constants ===== -/
abbrev kCod : Cond := Cond.code yJ0_coder_7d493 cJ0_coder_7d493 1 (some .byte)
abbrev kLat : Cond := Cond.code yJ0_isLatin1_aae02 cJ0_isLatin1_aae02 1 (some .boolean)
abbrev kChk : Cond := Cond.code yJ0_checkIndex_df160 cJ0_checkIndex_df160 2 none
abbrev kCh1 : Cond := Cond.code yJ1_charAt_3b067 cJ1_charAt_3b067 2 (some .char)
abbrev kPre : Cond := Cond.code yJ3_checkIndex_8e157 cJ3_checkIndex_8e157 3 (some .int)
set_option maxRecDepth 100000 in
theorem kCod_in : kCod ∈ lwg := List.mem_filter.mpr ⟨List.mem_of_getElem? (i := 556) rfl, rfl⟩
set_option maxRecDepth 100000 in
theorem kLat_in : kLat ∈ lwg := List.mem_filter.mpr ⟨List.mem_of_getElem? (i := 566) rfl, rfl⟩
set_option maxRecDepth 100000 in
theorem kChk_in : kChk ∈ lwg := List.mem_filter.mpr ⟨List.mem_of_getElem? (i := 572) rfl, rfl⟩
set_option maxRecDepth 100000 in
theorem kCh1_in : kCh1 ∈ lwg := List.mem_filter.mpr ⟨List.mem_of_getElem? (i := 569) rfl, rfl⟩
set_option maxRecDepth 100000 in
theorem kPre_in : kPre ∈ lwg := List.mem_filter.mpr ⟨List.mem_of_getElem? (i := 577) rfl, rfl⟩
theorem lk_0 : Cond.methodLink RJ0 335 yJ0_coder_7d493 ∈ lwg ∧ Cond.instanceMethod yJ0_coder_7d493 ∈ lwg ∧ Cond.selects RJ0 yJ0_coder_7d493 yJ0_coder_7d493 ∈ lwg ∧ Cond.initialized RJ0 ∈ lwg := by decide +kernel
theorem lk_1 : Cond.methodLink RJ0 492 yJ0_isLatin1_aae02 ∈ lwg ∧ Cond.instanceMethod yJ0_isLatin1_aae02 ∈ lwg ∧ Cond.selects RJ0 yJ0_isLatin1_aae02 yJ0_isLatin1_aae02 ∈ lwg := by decide +kernel
theorem lk_2 : Cond.methodLink RJ0 495 yJ1_charAt_3b067 ∈ lwg ∧ Cond.static yJ1_charAt_3b067 ∈ lwg ∧ Cond.initialized RJ1 ∈ lwg := by decide +kernel
theorem lk_3 : Cond.methodLink RJ1 9 yJ0_checkIndex_df160 ∈ lwg ∧ Cond.static yJ0_checkIndex_df160 ∈ lwg := by decide +kernel
theorem lk_4 : Cond.methodLink RJ0 1059 yJ3_checkIndex_8e157 ∈ lwg ∧ Cond.static yJ3_checkIndex_8e157 ∈ lwg ∧ Cond.initialized RJ3 ∈ lwg := by decide +kernel
theorem lk_5 : Cond.fieldLink RJ0 38 "java/lang/String" "COMPACT_STRINGS" "Z" ∈ lwg ∧ Cond.fieldLink RJ0 15 "java/lang/String" "coder" "B" ∈ lwg ∧ Cond.fieldLink RJ0 9 "java/lang/String" "value" "[B" ∈ lwg ∧ Cond.fieldLink RJ0 1053 "jdk/internal/util/Preconditions" "SIOOBE_FORMATTER" "Ljava/util/function/BiFunction;" ∈ lwg := by decide +kernel
def QSv : Array Value → State → Outcome → State → Prop := fun _ st oc t => oc = .returned none ∧ t.heap = st.heap
section LB
variable {l : Launch} {p : Program} {e : Env} {R : Room} {s : State} {m : MethodId} {args : Array Value} {below : List Frame} {meth : Method} {c : Code} {H : Heap} {locs : List Loc} {Q : State → Prop} {pc : Nat} {lsA : Array Slot} {st0 rest : List Value} {A : Nat → Prop}
theorem LB_call {r : Int32} {as : Array Value} (hr : va_Run p l e R s m args below meth c H locs 0 0 0 0 (F0 m pc lsA st0) rest (QS r as) (fun _ => False)) (hS : va_S A s.heap H locs) (kk : ∀ locs', (∀ q ∈ locs', q ∈ locs) → va_S A s.heap H locs' → W p l e R s m args below meth c H locs' 0 0 Q (F0 m (pc + 3) lsA (.int r :: rest))) : W p l e R s m args below meth c H locs 0 0 Q (F0 m pc lsA st0) := by
  refine W_run hr (fun v st₀ t L h0 hq hvm hL => ?_)
  obtain ⟨hv, ht⟩ := hq
  cases hv
  rw [ht.trans h0]
  have hm : ∀ q ∈ locs ++ L, q ∈ locs := fun q hq => by
    rcases List.mem_append.mp hq with h | h
    · exact h
    · exact (hL q h).elim
  exact kk (locs ++ L) hm ⟨hS.1, hS.2.1, fun q hq => hS.2.2 q (hm q hq)⟩
theorem LB_callv {as : Array Value} (hr : va_Run p l e R s m args below meth c H locs 0 0 0 0 (F0 m pc lsA st0) rest (QSv as) (fun _ => False)) (hS : va_S A s.heap H locs) (kk : ∀ locs', (∀ q ∈ locs', q ∈ locs) → va_S A s.heap H locs' → W p l e R s m args below meth c H locs' 0 0 Q (F0 m (pc + 3) lsA rest)) : W p l e R s m args below meth c H locs 0 0 Q (F0 m pc lsA st0) := by
  refine W_run hr (fun v st₀ t L h0 hq hvm hL => ?_)
  obtain ⟨hv, ht⟩ := hq
  cases hv
  rw [ht.trans h0]
  have hm : ∀ q ∈ locs ++ L, q ∈ locs := fun q hq => by
    rcases List.mem_append.mp hq with h | h
    · exact h
    · exact (hL q h).elim
  exact kk (locs ++ L) hm ⟨hS.1, hS.2.1, fun q hq => hS.2.2 q (hm q hq)⟩
end LB
section STR
variable {l : Launch} {ad adV : Nat → Nat} {A : Nat → Prop} {i : Nat}
def rmA0 : Room := { frames := 0, cells := 0, slots := 0, locals := 0 }
def rmA1 : Room := { frames := 1, cells := 0, slots := 0, locals := 22 }
def rmA2 : Room := { frames := 2, cells := 0, slots := 0, locals := 43 }
set_option maxHeartbeats 1000000 in
theorem c_coder (hi : i < 9) : Met l yJ0_coder_7d493 (kCod :: lwg) rmA0 (PS ad adV A [.ref (ad (700 + i))]) (QS 0) 0 0 (fun _ => False) := by
  refine Met_ofF (cc := cJ0_coder_7d493) (maxL := 1) (ret := some .byte) (by decide +kernel) rfl ?_
  intro p e s m args below meth c s₁ B hml hv
  obtain ⟨rfl, hW⟩ := hv
  have hx := B.exec
  have hb := B.bytes
  have hr := B.returns
  have hts0 := atoms_spec (ws := kCod :: lwg) B.pre
  have hts : ∀ w ∈ lwg, w.before _ s = true := fun w hw => hts0 w (List.mem_cons_of_mem _ hw)
  have hown : s.vm.findClass RJ0 = some m.cls := findClass_of_methodNamed B.named
  have hlocks := B.notSynchronized
  have hS : va_S A s.heap s.heap [] := va_S.rf
  have hl := lv_entry ([.ref (ad (700 + i))]) (n := 1) (Nat.le_of_ble_eq_true rfl)
  rw [lg_entry_eq]
  generalize (lg_sl ([.ref (ad (700 + i))]) ++ List.replicate (1 - (lg_sl ([.ref (ad (700 + i))])).length) Slot.unset).toArray = ls at hl ⊢
  have hl : lv_has ls 1 [(0, .ref (ad (700 + i)))] := hl
  refine va_gets hx hb hW.2.2.1 hS hown (hts _ lk_5.1) (fun _ h => h) dJ0_coder_7d493_0 ?_
  refine lv_if_eq (tgt := 13) hx hb dJ0_coder_7d493_3 (by decide) (fun h => absurd h (by decide)) (fun _ => ?_)
  refine lv_aload_n hx hb dJ0_coder_7d493_6 rfl (lv_at hl 0 rfl) ?_
  refine vk_getf hx hb (hW.1.1 i hi).2.1 hS hown (hts _ lk_5.2.1) (fun _ h => h) dJ0_coder_7d493_7 ?_
  refine lv_goto (tgt := 14) hx hb dJ0_coder_7d493_10 (by decide) ?_
  exact W.zret hx hb hr (by decide) (fun t ht _ => ⟨rfl, ht⟩) (fun q hq => by cases hq) dJ0_coder_7d493_14 hlocks
set_option maxHeartbeats 1000000 in
theorem c_latin (hi : i < 9) : Met l yJ0_isLatin1_aae02 (kLat :: lwg) rmA0 (PS ad adV A [.ref (ad (700 + i))]) (QS 1) 0 0 (fun _ => False) := by
  refine Met_ofF (cc := cJ0_isLatin1_aae02) (maxL := 1) (ret := some .boolean) (by decide +kernel) rfl ?_
  intro p e s m args below meth c s₁ B hml hv
  obtain ⟨rfl, hW⟩ := hv
  have hx := B.exec
  have hb := B.bytes
  have hr := B.returns
  have hts0 := atoms_spec (ws := kLat :: lwg) B.pre
  have hts : ∀ w ∈ lwg, w.before _ s = true := fun w hw => hts0 w (List.mem_cons_of_mem _ hw)
  have hown : s.vm.findClass RJ0 = some m.cls := findClass_of_methodNamed B.named
  have hlocks := B.notSynchronized
  have hS : va_S A s.heap s.heap [] := va_S.rf
  have hl := lv_entry ([.ref (ad (700 + i))]) (n := 1) (Nat.le_of_ble_eq_true rfl)
  rw [lg_entry_eq]
  generalize (lg_sl ([.ref (ad (700 + i))]) ++ List.replicate (1 - (lg_sl ([.ref (ad (700 + i))])).length) Slot.unset).toArray = ls at hl ⊢
  have hl : lv_has ls 1 [(0, .ref (ad (700 + i)))] := hl
  refine va_gets hx hb hW.2.2.1 hS hown (hts _ lk_5.1) (fun _ h => h) dJ0_isLatin1_aae02_0 ?_
  refine lv_if_eq (tgt := 17) hx hb dJ0_isLatin1_aae02_3 (by decide) (fun h => absurd h (by decide)) (fun _ => ?_)
  refine lv_aload_n hx hb dJ0_isLatin1_aae02_6 rfl (lv_at hl 0 rfl) ?_
  refine vk_getf hx hb (hW.1.1 i hi).2.1 hS hown (hts _ lk_5.2.1) (fun _ h => h) dJ0_isLatin1_aae02_7 ?_
  refine lv_if_ne (tgt := 17) hx hb dJ0_isLatin1_aae02_10 (by decide) (fun h => absurd rfl h) (fun _ => ?_)
  refine lv_iconst (v := 1) hx hb dJ0_isLatin1_aae02_13 (by decide) ?_
  refine lv_goto (tgt := 18) hx hb dJ0_isLatin1_aae02_14 (by decide) ?_
  exact W.zret hx hb hr (by decide) (fun t ht _ => ⟨rfl, ht⟩) (fun q hq => by cases hq) dJ0_isLatin1_aae02_18 hlocks
theorem sh_0 : ∀ i, i < 9 → nI (sLen.getD i 0) >>> ((0 : Int32) &&& 31) = nI (sLen.getD i 0) := by decide +kernel
set_option maxHeartbeats 1000000 in
theorem c_length (hi : i < 9) : Met l yJ0_length_8abf5 (kLen :: lwg) rmLen (PS ad adV A [.ref (ad (700 + i))]) (QS (nI (sLen.getD i 0))) 0 0 (fun _ => False) := by
  refine Met_ofF (cc := cJ0_length_8abf5) (maxL := 1) (ret := some .int) (by decide +kernel) rfl ?_
  intro p e s m args below meth c s₁ B hml hv
  obtain ⟨rfl, hW⟩ := hv
  have hx := B.exec
  have hb := B.bytes
  have hr := B.returns
  have hts0 := atoms_spec (ws := kLen :: lwg) B.pre
  have hts : ∀ w ∈ lwg, w.before _ s = true := fun w hw => hts0 w (List.mem_cons_of_mem _ hw)
  have hown : s.vm.findClass RJ0 = some m.cls := findClass_of_methodNamed B.named
  have hlocks := B.notSynchronized
  have hS : va_S A s.heap s.heap [] := va_S.rf
  have hl := lv_entry ([.ref (ad (700 + i))]) (n := 1) (Nat.le_of_ble_eq_true rfl)
  rw [lg_entry_eq]
  generalize (lg_sl ([.ref (ad (700 + i))]) ++ List.replicate (1 - (lg_sl ([.ref (ad (700 + i))])).length) Slot.unset).toArray = ls at hl ⊢
  have hl : lv_has ls 1 [(0, .ref (ad (700 + i)))] := hl
  refine lv_aload_n hx hb dJ0_length_8abf5_0 rfl (lv_at hl 0 rfl) ?_
  refine vk_getf hx hb (hW.1.1 i hi).2.2.1 hS hown (hts _ lk_5.2.2.1) (fun _ h => h) dJ0_length_8abf5_1 ?_
  refine va_tlen hx hb (hW.1.1 i hi).2.2.2 hS (v := nI (sLen.getD i 0)) rfl dJ0_length_8abf5_4 ?_
  refine lv_aload_n hx hb dJ0_length_8abf5_5 rfl (lv_at hl 0 rfl) ?_
  have cw : CallW rmLen s #[Value.ref (ad (700 + i))] RJ0 RJ0 335 yJ0_coder_7d493 cJ0_coder_7d493 1 (some .byte) (kCod :: lwg) rmA0 0 0 0 :=
    ⟨callB_of 0 hts (good_cons kCod_in) rfl rfl rfl (hts _ lk_0.2.2.2) (hts _ lk_0.1) (by decide +kernel) ⟨by decide, by decide⟩, hts _ lk_0.2.1, hts _ lk_0.2.2.1⟩
  have hrun := va_runV (As := []) (rest := [.int (nI (sLen.getD i 0))]) (g := F0 m 6 ls [.ref (ad (700 + i)), .int (nI (sLen.getD i 0))]) (b := ad (700 + i)) ⟨hx, hb, hml, hown, hts⟩ (c_coder (l := l) (ad := ad) (adV := adV) (A := A) hi) cw
    ⟨PS_blind, vk_recv (adK := fun i => ad (700 + i)) (i := i) hW.1 hi hS, fun U hU hWm => ⟨rfl, by show SW ad adV A U U.heap; rw [hU]; exact SW.warm hWm hW⟩⟩
    rfl rfl hl.1 rfl (lv_room (Nat.le_of_ble_eq_true rfl)) dJ0_length_8abf5_6 ⟨Nat.le_refl _, Nat.le_refl _⟩ (locs := []) (e := e) (below := below) (meth := meth) (cells := 0) (slots := 0)
  refine LB_call hrun hS (fun locs' hm hS' => ?_)
  refine lv_ishr hx hb dJ0_length_8abf5_9 ?_
  rw [sh_0 i hi]
  exact W.iret hx hb hr (fun t ht _ => ⟨rfl, ht⟩) (fun q hq => by cases hm q hq) dJ0_length_8abf5_10 hlocks
/-- a start that asks nothing -/
def PT (as : List Value) : Array Value → State → Prop := va_Pc as (fun _ => True)
theorem PT_blind {as : List Value} : FrameBlind (PT as) := fun a U g mk q => ⟨q.1, trivial⟩
set_option maxHeartbeats 1000000 in
theorem c_pre {x n : Int32} {v : Value} (hv1 : v.category = 1) (h0 : ¬ x < 0) (hn : x < n) : Met l yJ3_checkIndex_8e157 (kPre :: lwg) rmA0 (PT [.int x, .int n, v]) (QS x) 0 0 (fun _ => False) := by
  refine Met_ofF (cc := cJ3_checkIndex_8e157) (maxL := 3) (ret := some .int) (by decide +kernel) rfl ?_
  intro p e s m args below meth c s₁ B hml hv
  obtain ⟨rfl, -⟩ := hv
  have hx := B.exec
  have hb := B.bytes
  have hr := B.returns
  have hlocks := B.notSynchronized
  have hl := lv_entry ([.int x, .int n, v]) (n := 3) (by rw [sl_one (by intro w hw; simp only [List.mem_cons, List.not_mem_nil, or_false] at hw; rcases hw with rfl | rfl | rfl; rfl; rfl; exact hv1)]; exact Nat.le_refl _)
  rw [lg_entry_eq]
  generalize (lg_sl ([.int x, .int n, v]) ++ List.replicate (3 - (lg_sl ([.int x, .int n, v])).length) Slot.unset).toArray = ls at hl ⊢
  have hl : lv_has ls 3 (lv_args 0 [.int x, .int n, v]) := hl
  refine lv_iload_n hx hb dJ3_checkIndex_8e157_0 rfl (lv_at hl 0 rfl) ?_
  refine lv_if_lt (tgt := 9) hx hb dJ3_checkIndex_8e157_1 (by decide) (fun h => absurd h h0) (fun _ => ?_)
  refine lv_iload_n hx hb dJ3_checkIndex_8e157_4 rfl (lv_at hl 0 rfl) ?_
  refine lv_iload_n hx hb dJ3_checkIndex_8e157_5 rfl (lv_at hl 1 rfl) ?_
  refine lv_icmp_lt (tgt := 16) hx hb dJ3_checkIndex_8e157_6 (by decide) (fun _ => ?_) (fun h => absurd hn h)
  refine lv_iload_n hx hb dJ3_checkIndex_8e157_16 rfl (lv_at hl 0 rfl) ?_
  exact W.iret hx hb hr (fun t ht _ => ⟨rfl, ht⟩) (fun q hq => by cases hq) dJ3_checkIndex_8e157_17 hlocks
set_option maxHeartbeats 1000000 in
theorem c_check {x n : Int32} (h0 : ¬ x < 0) (hn : x < n) : Met l yJ0_checkIndex_df160 (kChk :: lwg) rmA1 (PS ad adV A [.int x, .int n]) QSv 0 0 (fun _ => False) := by
  refine Met_ofF (cc := cJ0_checkIndex_df160) (maxL := 2) (ret := none) (by decide +kernel) rfl ?_
  intro p e s m args below meth c s₁ B hml hv
  obtain ⟨rfl, hW⟩ := hv
  have hx := B.exec
  have hb := B.bytes
  have hr := B.returns
  have hts0 := atoms_spec (ws := kChk :: lwg) B.pre
  have hts : ∀ w ∈ lwg, w.before _ s = true := fun w hw => hts0 w (List.mem_cons_of_mem _ hw)
  have hown : s.vm.findClass RJ0 = some m.cls := findClass_of_methodNamed B.named
  have hlocks := B.notSynchronized
  have hS : va_S A s.heap s.heap [] := va_S.rf
  have hl := lv_entry ([.int x, .int n]) (n := 2) (Nat.le_of_ble_eq_true rfl)
  rw [lg_entry_eq]
  generalize (lg_sl ([.int x, .int n]) ++ List.replicate (2 - (lg_sl ([.int x, .int n])).length) Slot.unset).toArray = ls at hl ⊢
  have hl : lv_has ls 2 [(0, .int x), (1, .int n)] := hl
  refine lv_iload_n hx hb dJ0_checkIndex_df160_0 rfl (lv_at hl 0 rfl) ?_
  refine lv_iload_n hx hb dJ0_checkIndex_df160_1 rfl (lv_at hl 1 rfl) ?_
  have fin : ∀ v : Value, v.category = 1 → W p l e rmA1 s m #[Value.int x, Value.int n] below meth c s.heap [] 0 0 (MQ below QSv #[Value.int x, Value.int n] s 0 0 (fun _ => False)) (F0 m 5 ls [v, .int n, .int x]) := by
    intro v hv
    have cw : CallB rmA1 s #[Value.int x, Value.int n] RJ0 1059 yJ3_checkIndex_8e157 cJ3_checkIndex_8e157 3 (some .int) (kPre :: lwg) rmA0 0 0 3 ∧ (Cond.static yJ3_checkIndex_8e157).before #[Value.int x, Value.int n] s = true :=
      ⟨callB_of 3 hts (good_cons kPre_in) rfl rfl rfl (hts _ lk_4.2.2) (hts _ lk_4.1) (by decide +kernel) ⟨by decide, by decide⟩, hts _ lk_4.2.1⟩
    have hrun := va_runS (As := [.int x, .int n, v]) (rest := []) (g := F0 m 5 ls [v, .int n, .int x]) ⟨hx, hb, hml, hown, hts⟩ (c_pre (l := l) hv h0 hn) cw ⟨PT_blind, fun U hU hWm => ⟨rfl, trivial⟩⟩
      rfl rfl hl.1 rfl (lv_room (Nat.le_of_ble_eq_true rfl)) dJ0_checkIndex_df160_5 ⟨Nat.le_refl _, Nat.le_refl _⟩ (H := s.heap) (locs := []) (e := e) (below := below) (meth := meth) (cells := 0) (slots := 0)
    refine LB_call hrun hS (fun locs' hm hS' => ?_)
    refine lv_pop hx hb dJ0_checkIndex_df160_8 rfl ?_
    exact W.vret hx hb hr (fun t ht _ => ⟨rfl, ht⟩) (fun q hq => by cases hm q hq) dJ0_checkIndex_df160_9 hlocks
  rcases hW.2.2.2 with hZ | ⟨t, hZ⟩
  · exact va_gets hx hb hZ hS hown (hts _ lk_5.2.2.2) (fun _ h => h) dJ0_checkIndex_df160_2 (fin .null rfl)
  · exact va_gets hx hb hZ hS hown (hts _ lk_5.2.2.2) (fun _ h => h) dJ0_checkIndex_df160_2 (fin (.ref t) rfl)
theorem ch_0 : ∀ i, i < 9 → ∀ j, j < sLen.getD i 0 → (((sByt.getD i []).getD j 0 &&& 255).toUInt32 % 65536).toInt32 = sCh i j ∧ narrow .char (.int (sCh i j)) = .int (sCh i j) := by decide +kernel
set_option maxHeartbeats 1000000 in
theorem c_chr1 (hi : i < 9) {x : Int32} (hxi : vp_in x (sLen.getD i 0)) : Met l yJ1_charAt_3b067 (kCh1 :: lwg) rmA2 (PS ad adV A [.ref (adV i), .int x]) (QS (sCh i x.toNatClampNeg)) 0 0 (fun _ => False) := by
  have h0 : ¬ x < 0 := fun q => hxi (Or.inl q)
  have hlt : x.toNatClampNeg < sLen.getD i 0 := Nat.not_le.mp fun q => hxi (Or.inr q)
  have sl : sLen.getD i 0 < 100 := by
    rcases (show i = 0 ∨ i = 1 ∨ i = 2 ∨ i = 3 ∨ i = 4 ∨ i = 5 ∨ i = 6 ∨ i = 7 ∨ i = 8 by omega) with rfl | rfl | rfl | rfl | rfl | rfl | rfl | rfl | rfl <;> decide
  have hn : x < nI (sLen.getD i 0) := by
    rw [Int32.lt_iff_toInt_lt, nI_int (by omega)]
    rw [Int32.lt_iff_toInt_lt, show (0 : Int32).toInt = 0 from by decide] at h0
    have e : x.toNatClampNeg = x.toInt.toNat := rfl
    omega
  obtain ⟨ch1, ch2⟩ := ch_0 i hi _ hlt
  refine Met_ofF (cc := cJ1_charAt_3b067) (maxL := 2) (ret := some .char) (by decide +kernel) rfl ?_
  intro p e s m args below meth c s₁ B hml hv
  obtain ⟨rfl, hW⟩ := hv
  have hx := B.exec
  have hb := B.bytes
  have hr := B.returns
  have hts0 := atoms_spec (ws := kCh1 :: lwg) B.pre
  have hts : ∀ w ∈ lwg, w.before _ s = true := fun w hw => hts0 w (List.mem_cons_of_mem _ hw)
  have hown : s.vm.findClass RJ1 = some m.cls := findClass_of_methodNamed B.named
  have hlocks := B.notSynchronized
  have hS : va_S A s.heap s.heap [] := va_S.rf
  have hl := lv_entry ([.ref (adV i), .int x]) (n := 2) (Nat.le_of_ble_eq_true rfl)
  rw [lg_entry_eq]
  generalize (lg_sl ([.ref (adV i), .int x]) ++ List.replicate (2 - (lg_sl ([.ref (adV i), .int x])).length) Slot.unset).toArray = ls at hl ⊢
  have hl : lv_has ls 2 [(0, .ref (adV i)), (1, .int x)] := hl
  refine lv_iload_n hx hb dJ1_charAt_3b067_0 rfl (lv_at hl 1 rfl) ?_
  refine lv_aload_n hx hb dJ1_charAt_3b067_1 rfl (lv_at hl 0 rfl) ?_
  refine va_tlen hx hb (hW.1.1 i hi).2.2.2 hS (v := nI (sLen.getD i 0)) rfl dJ1_charAt_3b067_2 ?_
  have cw : CallB rmA2 s #[Value.ref (adV i), Value.int x] RJ1 9 yJ0_checkIndex_df160 cJ0_checkIndex_df160 2 none (kChk :: lwg) rmA1 0 0 2 ∧ (Cond.static yJ0_checkIndex_df160).before #[Value.ref (adV i), Value.int x] s = true :=
    ⟨callB_of 2 hts (good_cons kChk_in) rfl rfl rfl (hts _ lk_0.2.2.2) (hts _ lk_3.1) (by decide +kernel) ⟨by decide, by decide⟩, hts _ lk_3.2⟩
  have hrun := va_runS (As := [.int x, .int (nI (sLen.getD i 0))]) (rest := []) (g := F0 m 3 ls [.int (nI (sLen.getD i 0)), .int x]) ⟨hx, hb, hml, hown, hts⟩ (c_check (l := l) (ad := ad) (adV := adV) (A := A) h0 hn) cw ⟨PS_blind, fun U hU hWm => ⟨rfl, by show SW ad adV A U U.heap; rw [hU]; exact SW.warm hWm hW⟩⟩
    rfl rfl hl.1 rfl (lv_room (Nat.le_of_ble_eq_true rfl)) dJ1_charAt_3b067_3 ⟨Nat.le_refl _, Nat.le_refl _⟩ (H := s.heap) (locs := []) (e := e) (below := below) (meth := meth) (cells := 0) (slots := 0)
  refine LB_callv hrun hS (fun locs' hm hS' => ?_)
  refine lv_aload_n hx hb dJ1_charAt_3b067_6 rfl (lv_at hl 0 rfl) ?_
  refine lv_iload_n hx hb dJ1_charAt_3b067_7 rfl (lv_at hl 1 rfl) ?_
  refine va_tb hx hb (hW.1.1 i hi).2.2.2 hS' hxi rfl dJ1_charAt_3b067_8 ?_
  refine lv_sipush (v := 255) hx hb dJ1_charAt_3b067_9 (by decide) ?_
  refine lv_iand hx hb dJ1_charAt_3b067_12 ?_
  refine lv_i2c hx hb dJ1_charAt_3b067_13 ch1 ?_
  exact W.zret hx hb hr ch2 (fun t ht _ => ⟨rfl, ht⟩) (fun q hq => by cases hm q hq) dJ1_charAt_3b067_14 hlocks
set_option maxHeartbeats 1000000 in
theorem c_charAt (hi : i < 9) {x : Int32} (hxi : vp_in x (sLen.getD i 0)) : Met l yJ0_charAt_5068e (kChr :: lwg) rmChr (PS ad adV A [.ref (ad (700 + i)), .int x]) (QS (sCh i x.toNatClampNeg)) 0 0 (fun _ => False) := by
  have hlt : x.toNatClampNeg < sLen.getD i 0 := Nat.not_le.mp fun q => hxi (Or.inr q)
  obtain ⟨ch1, ch2⟩ := ch_0 i hi _ hlt
  refine Met_ofF (cc := cJ0_charAt_5068e) (maxL := 2) (ret := some .char) (by decide +kernel) rfl ?_
  intro p e s m args below meth c s₁ B hml hv
  obtain ⟨rfl, hW⟩ := hv
  have hx := B.exec
  have hb := B.bytes
  have hr := B.returns
  have hts0 := atoms_spec (ws := kChr :: lwg) B.pre
  have hts : ∀ w ∈ lwg, w.before _ s = true := fun w hw => hts0 w (List.mem_cons_of_mem _ hw)
  have hown : s.vm.findClass RJ0 = some m.cls := findClass_of_methodNamed B.named
  have hlocks := B.notSynchronized
  have hS : va_S A s.heap s.heap [] := va_S.rf
  have hl := lv_entry ([.ref (ad (700 + i)), .int x]) (n := 2) (Nat.le_of_ble_eq_true rfl)
  rw [lg_entry_eq]
  generalize (lg_sl ([.ref (ad (700 + i)), .int x]) ++ List.replicate (2 - (lg_sl ([.ref (ad (700 + i)), .int x])).length) Slot.unset).toArray = ls at hl ⊢
  have hl : lv_has ls 2 [(0, .ref (ad (700 + i))), (1, .int x)] := hl
  refine lv_aload_n hx hb dJ0_charAt_5068e_0 rfl (lv_at hl 0 rfl) ?_
  have cw : CallW rmChr s #[Value.ref (ad (700 + i)), Value.int x] RJ0 RJ0 492 yJ0_isLatin1_aae02 cJ0_isLatin1_aae02 1 (some .boolean) (kLat :: lwg) rmA0 0 0 0 :=
    ⟨callB_of 0 hts (good_cons kLat_in) rfl rfl rfl (hts _ lk_0.2.2.2) (hts _ lk_1.1) (by decide +kernel) ⟨by decide, by decide⟩, hts _ lk_1.2.1, hts _ lk_1.2.2⟩
  have hrun := va_runV (As := []) (rest := []) (g := F0 m 1 ls [.ref (ad (700 + i))]) (b := ad (700 + i)) ⟨hx, hb, hml, hown, hts⟩ (c_latin (l := l) (ad := ad) (adV := adV) (A := A) hi) cw
    ⟨PS_blind, vk_recv (adK := fun i => ad (700 + i)) (i := i) hW.1 hi hS, fun U hU hWm => ⟨rfl, by show SW ad adV A U U.heap; rw [hU]; exact SW.warm hWm hW⟩⟩
    rfl rfl hl.1 rfl (lv_room (Nat.le_of_ble_eq_true rfl)) dJ0_charAt_5068e_1 ⟨Nat.le_refl _, Nat.le_refl _⟩ (locs := []) (e := e) (below := below) (meth := meth) (cells := 0) (slots := 0)
  refine LB_call hrun hS (fun locs' hm hS' => ?_)
  refine lv_if_eq (tgt := 16) hx hb dJ0_charAt_5068e_4 (by decide) (fun h => absurd h (by decide)) (fun _ => ?_)
  refine lv_aload_n hx hb dJ0_charAt_5068e_7 rfl (lv_at hl 0 rfl) ?_
  refine vk_getf hx hb (hW.1.1 i hi).2.2.1 hS' hown (hts _ lk_5.2.2.1) (fun _ h => h) dJ0_charAt_5068e_8 ?_
  refine lv_iload_n hx hb dJ0_charAt_5068e_11 rfl (lv_at hl 1 rfl) ?_
  have cw2 : CallB rmChr s #[Value.ref (ad (700 + i)), Value.int x] RJ0 495 yJ1_charAt_3b067 cJ1_charAt_3b067 2 (some .char) (kCh1 :: lwg) rmA2 0 0 2 ∧ (Cond.static yJ1_charAt_3b067).before #[Value.ref (ad (700 + i)), Value.int x] s = true :=
    ⟨callB_of 2 hts (good_cons kCh1_in) rfl rfl rfl (hts _ lk_2.2.2) (hts _ lk_2.1) (by decide +kernel) ⟨by decide, by decide⟩, hts _ lk_2.2.1⟩
  have hrun2 := va_runS (As := [.ref (adV i), .int x]) (rest := []) (g := F0 m 12 ls [.int x, .ref (adV i)]) ⟨hx, hb, hml, hown, hts⟩ (c_chr1 (l := l) (ad := ad) (adV := adV) (A := A) hi hxi) cw2 ⟨PS_blind, fun U hU hWm => ⟨rfl, by show SW ad adV A U U.heap; rw [hU]; exact SW.warm hWm hW⟩⟩
    rfl rfl hl.1 rfl (lv_room (Nat.le_of_ble_eq_true rfl)) dJ0_charAt_5068e_12 ⟨Nat.le_refl _, Nat.le_refl _⟩ (H := s.heap) (locs := locs') (e := e) (below := below) (meth := meth) (cells := 0) (slots := 0)
  refine LB_call hrun2 hS' (fun locs2 hm2 hS2 => ?_)
  exact W.zret hx hb hr ch2 (fun t ht _ => ⟨rfl, ht⟩) (fun q hq => by cases hm q (hm2 q hq)) dJ0_charAt_5068e_15 hlocks
end STR
theorem strOK (l : Launch) : StrOK l := fun ad adV A i hi => ⟨c_length hi, fun x hx => c_charAt hi hx⟩

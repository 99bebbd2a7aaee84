def R_law : String := "ColdLineLaw"
def lw_P (b : Addr) (xs : List Int32) (args : Array Value) (s : State) : Prop := args = #[.ref b] ∧ s.IntsAt b xs ∧ xs.length ≤ 3584 ∧ (Jvm.Cond.and given_1 narrow_1).before args s = true
def lw_Q (_ : Array Value) (s : State) (o : Outcome) (t : State) : Prop := o = .returned (some (.int 1)) ∧ Framed s o t [] 600000 7302250
def lw_Z (below : List Frame) (a : Array Value) (s : State) : State → Prop := fun t => ∃ o, t.status = .running ∧ Ended t below o ∧ lw_Q a s o t
/-- the law's own end, with 1 on the stack, nothing written that was there before, its room as the claim has it -/
theorem lw_ret {p : Program} {l : Launch} {e : Env} {s : State} {m : MethodId} {below : List Frame} {meth : Method} {c : Code} {b : Nat} (hx : p.tables.exec = Jvm.exec) (hb : c.code = code) (hr : meth.sig.returnType = ret) (hlocks : meth.locks = false) {pc : Nat} {H : Heap} {ls : Array Slot} (hdg : decode code pc = .ok (.ireturn, 1)) : W p l e room_1 s m #[Value.ref b] below meth c H [] 600000 7302250 (lw_Z below #[Value.ref b] s) (F0 m pc ls [.int 1]) := by
  intro T hT X
  obtain ⟨fs, hret, hrun, hended, hW, hframe⟩ := X.leave (v := some (.int 1)) (hlocks := hlocks) (fun h => by rw [hr] at h; cases h)
  have hmeth' : T.vm.method? m = some meth := X.method'
  refine ⟨T.setFrames fs, ?_, .returned (some (.int 1)), hrun, hended, rfl, ⟨_, rfl⟩, hW, hframe⟩
  jvm_step X.here [X.here.top, hx, hb, hdg, hmeth', hr, ret, narrow_b1]
  (try refine ⟨rfl, ?_⟩); (try refine ⟨rfl, ?_⟩)
  first | (intro acts; rw [hret _ acts rfl rfl rfl]) | rw [hret _ _ rfl rfl rfl]
  exact Steps.refl _
/-- what holds at the law's entry: the machine, the code, the tables' words (any of lw_tbl by 'hts w (by decide +kernel)'), the script of L ints xs at the cell b, what the Statement gives of the start (any of its parts by flat_of_before) -/
def lw_At (p : Program) (s : State) (m : MethodId) (meth : Method) (c : Code) (b L : Nat) (xs : Nat → Int32) : Prop :=
  p.tables.exec = Jvm.exec ∧ c.code = code ∧ meth.sig.returnType = ret ∧ c.maxLocals = 4 ∧ s.vm.findClass R_law = some m.cls ∧ (∀ w ∈ lw_tbl, w.before #[Value.ref b] s = true) ∧ va_X b L xs s s.heap ∧ b < s.heap.size ∧ meth.locks = false ∧ (Jvm.Cond.and given_1 narrow_1).before #[Value.ref b] s = true
def LWp : List ((Nat × Nat) × (Nat × Nat × Nat × Nat)) := [((13, 43), (365, 366, 367, 47)), ((17, 91), (980, 981, 982, 56)), ((18, 46), (376, 377, 378, 47)), ((22, 93), (988, 989, 990, 56)), ((23, 48), (385, 386, 387, 47)), ((26, 95), (997, 998, 999, 56)), ((27, 49), (389, 390, 391, 47)), ((30, 96), (1001, 1002, 1003, 56)), ((31, 50), (393, 394, 395, 47)), ((35, 97), (1005, 1006, 1007, 56)), ((36, 53), (408, 409, 410, 47)), ((39, 99), (1013, 1014, 1015, 56)), ((40, 54), (412, 413, 414, 47)), ((43, 100), (1017, 1018, 1019, 56)), ((44, 55), (423, 424, 425, 47)), ((47, 102), (1025, 1026, 1027, 56)), ((48, 56), (427, 428, 429, 47)), ((51, 103), (1029, 1030, 1031, 56)), ((52, 57), (435, 436, 437, 47)), ((56, 104), (1033, 1034, 1035, 56)), ((57, 59), (455, 456, 457, 47)), ((60, 106), (1041, 1042, 1043, 56)), ((61, 60), (463, 464, 465, 47)), ((64, 107), (1045, 1046, 1047, 56)), ((65, 61), (475, 476, 477, 47)), ((68, 108), (1049, 1050, 1051, 56)), ((69, 62), (479, 480, 481, 47)), ((72, 109), (1053, 1054, 1055, 56)), ((73, 64), (507, 508, 509, 47)), ((76, 112), (1065, 1066, 1067, 56)), ((77, 65), (511, 512, 513, 47)), ((80, 114), (1073, 1074, 1075, 56)), ((81, 66), (515, 516, 517, 47)), ((84, 115), (1077, 1078, 1079, 56)), ((85, 67), (519, 520, 521, 47)), ((88, 116), (1081, 1082, 1083, 56)), ((89, 68), (523, 524, 525, 47)), ((93, 117), (1085, 1086, 1087, 56)), ((94, 69), (527, 528, 529, 47)), ((97, 118), (1089, 1090, 1091, 56)), ((98, 70), (623, 624, 625, 47)), ((101, 124), (1124, 1125, 1126, 56)), ((102, 77), (705, 706, 707, 47)), ((105, 132), (1156, 1157, 1158, 56)), ((106, 78), (734, 735, 736, 47)), ((109, 135), (1169, 1170, 1171, 56)), ((110, 81), (761, 762, 763, 47)), ((113, 138), (1181, 1182, 1183, 56)), ((114, 82), (765, 766, 767, 47)), ((117, 139), (1185, 1186, 1187, 56)), ((118, 83), (769, 770, 771, 47)), ((121, 140), (1189, 1190, 1191, 56)), ((122, 84), (773, 774, 775, 47)), ((125, 141), (1193, 1194, 1195, 56)), ((126, 85), (777, 778, 779, 47)), ((129, 142), (1197, 1198, 1199, 56)), ((130, 86), (786, 787, 788, 47)), ((133, 143), (1201, 1202, 1203, 56)), ((134, 87), (790, 791, 792, 47)), ((137, 144), (1205, 1206, 1207, 56)), ((138, 88), (794, 795, 796, 47)), ((141, 145), (1209, 1210, 1211, 56)), ((142, 89), (799, 800, 801, 47)), ((145, 146), (1213, 1214, 1215, 56))]
def LWk : List (Nat × Nat) := [(13, 43), (17, 91), (18, 46), (22, 93), (23, 48), (26, 95), (27, 49), (30, 96), (31, 50), (35, 97), (36, 53), (39, 99), (40, 54), (43, 100), (44, 55), (47, 102), (48, 56), (51, 103), (52, 57), (56, 104), (57, 59), (60, 106), (61, 60), (64, 107), (65, 61), (68, 108), (69, 62), (72, 109), (73, 64), (76, 112), (77, 65), (80, 114), (81, 66), (84, 115), (85, 67), (88, 116), (89, 68), (93, 117), (94, 69), (97, 118), (98, 70), (101, 124), (102, 77), (105, 132), (106, 78), (109, 135), (110, 81), (113, 138), (114, 82), (117, 139), (118, 83), (121, 140), (122, 84), (125, 141), (126, 85), (129, 142), (130, 86), (133, 143), (134, 87), (137, 144), (138, 88), (141, 145), (142, 89), (145, 146)]
theorem LW_0 : LWk = LWp.map (fun e => e.1) := by decide +kernel
theorem LW_1 : ∀ e ∈ LWp, okw e.2.1 (Cond.methodLink R_law e.1.1 (mN e.1.2)) = true ∧ okw e.2.2.1 (Cond.instanceMethod (mN e.1.2)) = true ∧ okw e.2.2.2.1 (Cond.selects (mN e.1.2).cls (mN e.1.2) (mN e.1.2)) = true ∧ okw e.2.2.2.2 (Cond.initialized (mN e.1.2).cls) = true := by decide +kernel
theorem LW_2 : ∀ e ∈ LWk, e.2 < nM ∧ oc e.2 < 9 ∧ (rF e.2 + 1 ≤ 11 ∧ 8 + (mL e.2 + 11) + rL e.2 ≤ 402) ∧ nP e.2 + 1 ≤ mL e.2 ∧ iS e.2 = false := by decide +kernel
theorem LW_ok : ∀ e ∈ LWk, Cond.methodLink R_law e.1 (mN e.2) ∈ lwg ∧ Cond.instanceMethod (mN e.2) ∈ lwg ∧ Cond.selects (mN e.2).cls (mN e.2) (mN e.2) ∈ lwg ∧ Cond.initialized (mN e.2).cls ∈ lwg := by
  intro e he
  rw [LW_0] at he
  obtain ⟨q, hq, rfl⟩ := List.mem_map.mp he
  obtain ⟨h1, h2, h3, h4⟩ := LW_1 q hq
  exact ⟨okw_in h1, okw_in h2, okw_in h3, okw_in h4⟩
abbrev WL (p : Program) (l : Launch) (e : Env) (s : State) (m : MethodId) (below : List Frame) (meth : Method) (c : Code) (b : Nat) (H : Heap) (locs : List Loc) (cells slots : Nat) (g : JFrame) : Prop := W p l e room_1 s m #[Value.ref b] below meth c H locs cells slots (lw_Z below #[Value.ref b] s) g
/-- what holds throughout the law's loop -/
def LX (p : Program) (_ : Env) (s : State) (m : MethodId) (_ : List Frame) (meth : Method) (c : Code) (_ : Launch) (b L : Nat) (xs : Nat → Int32) (D : va_G) (cA : Nat → ClassId) (ad adV : Nat → Nat) : Prop :=
  lw_At p s m meth c b L xs ∧ va_K D vwCl (tysO cA) s ∧ SW ad adV (ow ad) s s.heap ∧ (∀ h : Hp, va_D (ow ad) (wl cA ad h)) ∧ ∀ k, kd k < 90 → s.heap.size ≤ ad k
def sx (xs : Nat → Int32) (i k : Nat) : Int32 := xs (nI (7 * i) + nI k).toNatClampNeg
section LAW
variable {p : Program} {e : Env} {s : State} {m : MethodId} {below : List Frame} {meth : Method} {c : Code} {l : Launch} {b L : Nat} {xs : Nat → Int32} {D : va_G} {cA : Nat → ClassId} {ad adV : Nat → Nat} {h h' : Hp} {H : Heap} {locs : List Loc} {ls : Array Slot} {cells slots i : Nat}
theorem law_ld {k : Int32} {st : List Value} {pc : Nat} (X : LX p e s m below meth c l b L xs D cA ad adV) (hi : 7 * i + 7 ≤ L) (hL : L ≤ 3584) (j : Nat) (hk : k = nI j) (hj : j < 7) (hS : va_S (AS s.heap.size) s.heap H locs) (hd : decode code pc = .ok (.iaload, 1))
    (kk : WL p l e s m below meth c b H locs cells slots (F0 m (pc + 1) ls (.int (sx xs i j) :: st))) : WL p l e s m below meth c b H locs cells slots (F0 m pc ls (.int (nI (7 * i) + k) :: .ref b :: st)) := by
  obtain ⟨hx, hb, -, -, -, -, hX, hbl, -, -⟩ := X.1
  subst hk
  exact va_sld hx hb hX hbl (A := AS s.heap.size) (Nat.not_le.mpr hbl) hS (by rw [nI_add]; exact vp_in_nI (by omega) (by omega)) hd kk
theorem law_call {y i k pc : Nat} {as rest st : List Value} {r : Int32} (X : LX p e s m below meth c l b L xs D cA ad adV) (hw : (i, y) ∈ LWk) (hk : kd k = oc y) (hn : as.length = nP y) (hir : as.all isIR = true) (hlz : ls.size = 4) (hrest : (rest.map fun v => v.category).sum ≤ 8) (hst : st = (as.map (cv ad)).reverse ++ .ref (ad k) :: rest)
    (hd : decode code pc = .ok (.invokevirtual i, 3)) (hex : ex y 0 ((.ref k :: as) ++ List.replicate (mL y - (as.length + 1)) .null) [] h = some (some (.int r), h')) (hP : va_P D vwCl (wl cA ad h) H) (hS : va_S (AS s.heap.size) s.heap H locs)
    (kk : ∀ (H1 : Heap) (locs1 : List Loc), va_P D vwCl (wl cA ad h') H1 → va_S (AS s.heap.size) s.heap H1 locs1 → WL p l e s m below meth c b H1 locs1 cells slots (F0 m (pc + 3) ls (.int r :: rest))) (hfit : cells ≤ 600000 ∧ slots ≤ 7302250) : WL p l e s m below meth c b H locs cells slots (F0 m pc ls st) := by
  obtain ⟨⟨hx, hb, hr, hml, hown, hts, hX, hbl, hlocks, hgv⟩, hK, hW, hD, hlow⟩ := X
  subst hst
  have htg : ∀ w ∈ lwg, w.before #[Value.ref b] s = true := fun w hw => hts w (List.mem_filter.mp hw).1
  obtain ⟨w1, w2, w3, w4⟩ := LW_ok _ hw
  have hw2 := LW_2 _ hw
  dsimp only at hw2
  obtain ⟨hy, ho, hroom, hf2, -⟩ := hw2
  have hcls := mN_1 y hy
  obtain ⟨hmh, hvh⟩ := mN_2 y hy
  have hpar := mN_3 y hy
  obtain ⟨n, hn1⟩ := ex_iff.mp hex
  have hV := exec_V (l := l) (D := D) (cA := cA) (ad := ad) (adV := adV) (strOK l) n y 0 _ [] h _ h' hy hn1
  have hM := met_of_V (as := .ref k :: as) hy (by simpa [isIR] using hir) (by simp only [List.length_cons]; omega) hV
  obtain ⟨q, hq⟩ := Ks_in (k := k) (by omega)
  have cw : CallW room_1 s #[Value.ref b] R_law (RN (oc y)) i (mN y) (cd y) (mL y) (rT y) (wsO y) (rmO y) 0 0 (nP y) := by
    refine ⟨callB_of (nP y) htg (wsO_good hy) rfl rfl rfl (htg _ w4) (htg _ w1) ⟨hmh, hvh, hpar⟩ hroom, htg _ w2, ?_⟩
    rw [← hcls]
    exact htg _ w3
  have hS2 : ∀ a : Nat, a < s.heap.size → ¬ ow ad a → H[a]? = s.heap[a]? := fun a h1 _ => hS.2.1 a h1 (Nat.not_le.mpr h1)
  have hr2 := va_runV (As := as.map (cv ad)) (rest := rest) (g := F0 m pc ls ((as.map (cv ad)).reverse ++ .ref (ad k) :: rest)) (b := ad k) ⟨hx, hb, hml, hown, htg⟩ hM cw
    ⟨Py_blind, va_recv hK hP (vwCl_at _ ho) (q0 := q) (by rw [wl_get hq, ent_obj hk ho]), fun U hU hWm => ⟨rfl, by rw [hU]; exact hP, va_K.moved hWm.alike hK, hD h, by rw [hU]; exact SW.warm hWm (hW.kept hS2)⟩⟩
    rfl (by simpa using hn) hlz rfl (lv_room hrest) hd hfit (locs := locs) (e := e) (below := below) (meth := meth) (cells := cells) (slots := slots)
  refine W_run hr2 (fun v st₀ t L2 h0 hq hvm hL2 => ?_)
  obtain ⟨r2, h2, hv, hΨ, hP1, hF⟩ := hq
  obtain ⟨rfl, rfl⟩ := hΨ
  cases hv
  refine kk t.heap (locs ++ L2) hP1 ⟨Nat.le_trans hS.1 (by rw [← h0]; exact hF.1), fun a h1 h2 => ?_, fun a ha => ?_⟩
  · rw [hF.2 a (by rw [h0]; exact Nat.lt_of_lt_of_le h1 hS.1) (fun z => by
      obtain ⟨k2, hk2, rfl⟩ := z
      exact h2 (hlow k2 hk2)), h0]
    exact hS.2.1 a h1 h2
  · rcases List.mem_append.mp ha with z | z
    · exact hS.2.2 a z
    · obtain ⟨k2, hk2, e2⟩ := hL2 a z
      rw [e2]
      exact hlow k2 hk2
end LAW


/-! ===== the grower as an interpreter ===== -/
abbrev GAct : Type := (Nat × List Value × List Value × List GE × Nat × Nat) ⊕ (Unit ⊕ (Nat × List Value × List Value))
def prr : List Value → Option (Nat × Nat × List Value)
  | .ref q :: .ref k :: st => some (q, k, st)
  | _ => none
def paia : List Value → Option (Nat × Int32 × Nat × List Value)
  | .ref u :: .int x :: .ref k :: st => some (u, x, k, st)
  | _ => none
theorem prr_e {st : List Value} {q : Nat × Nat × List Value} (h : prr st = some q) : st = .ref q.1 :: .ref q.2.1 :: q.2.2 := by
  unfold prr at h; split at h <;> cases h; rfl
theorem paia_e {st : List Value} {q : Nat × Int32 × Nat × List Value} (h : paia st = some q) : st = .ref q.1 :: .int q.2.1 :: .ref q.2.2.1 :: q.2.2.2 := by
  unfold paia at h; split at h <;> cases h; rfl
def gobj (G : List GE) (k : Nat) : Option (Nat × List Value) := match G[k]? with
  | some (.inl x) => some x
  | _ => none
def gint (G : List GE) (k : Nat) : Option (List Int32) := match G[k]? with
  | some (.inr (.inl x)) => if x.1 = 9 then some x.2 else none
  | _ => none
def gref (G : List GE) (k : Nat) : Option (Nat × List (Option Nat)) := match G[k]? with
  | some (.inr (.inr x)) => some x
  | _ => none
theorem gobj_e {G : List GE} {k : Nat} {x : Nat × List Value} (h : gobj G k = some x) : G[k]? = some (.inl (x.1, x.2)) := by
  unfold gobj at h; split at h
  · cases h; assumption
  · cases h
theorem gint_e {G : List GE} {k : Nat} {x : List Int32} (h : gint G k = some x) : G[k]? = some (.inr (.inl (9, x))) := by
  unfold gint at h; split at h
  · rename_i y hy
    split at h
    · rename_i h9
      cases h
      rw [hy, ← h9]
    · cases h
  · cases h
theorem gref_e {G : List GE} {k : Nat} {x : Nat × List (Option Nat)} (h : gref G k = some x) : G[k]? = some (.inr (.inr (x.1, x.2))) := by
  unfold gref at h; split at h
  · cases h; assumption
  · cases h
def lk3 (tb : List (Nat × Nat × Nat)) (o i : Nat) : Option Nat := (tb.find? (fun e => e.1 == o && e.2.1 == i)).map (fun e => e.2.2)
theorem lk3_e {tb : List (Nat × Nat × Nat)} {o i z : Nat} (hc : lk3 tb o i = some z) : (o, i, z) ∈ tb := by
  unfold lk3 at hc
  obtain ⟨e, he, hq⟩ := Option.map_eq_some_iff.mp hc
  obtain ⟨h1, h2⟩ := fnd he
  simp only [Bool.and_eq_true, beq_iff_eq] at h2
  obtain ⟨a, b, d⟩ := e
  simp only at h2 hq
  rw [← h2.1, ← h2.2, ← hq]
  exact h1
def CNk : List (Nat × Nat × Nat) := [(7, 27, 5), (7, 34, 2), (7, 41, 1), (7, 15, 0), (7, 9, 4), (7, 21, 3), (0, 9, 6)]
def OIk : List (Nat × Nat × Nat) := [(0, 3, 0), (1, 3, 0), (2, 3, 0), (3, 1, 0), (4, 3, 0), (5, 3, 0), (6, 3, 0), (7, 1, 0), (8, 1, 0)]
def MIk : List (Nat × Nat × Nat) := [(7, 66, 0), (7, 95, 4)]
theorem CNk_ok : ∀ e ∈ CNk, Cond.classLink (RN e.1) e.2.1 (RN e.2.2) ∈ lwg ∧ e.2.2 < 9 := by decide +kernel
theorem OIk_ok : ∀ e ∈ OIk, Cond.methodLink (RN e.1) e.2.1 Lib.objectInit ∈ lwg := by decide +kernel
theorem MIk_ok : ∀ e ∈ MIk, Cond.methodLink (RN e.1) e.2.1 (gNm e.2.2) ∈ lwg ∧ Cond.instanceMethod (gNm e.2.2) ∈ lwg ∧ e.2.2 < 9 := by decide +kernel
theorem NLk_ok : ∀ e ∈ NLk, Cond.instanceMethod (gNm e.2.2) ∈ lwg ∧ e.2.2 < 9 := by decide +kernel
def okB (ls st : List Value) (G : List GE) : Bool := G.all (bG G.length) && ls.all (bV G.length) && st.all (bV G.length)
theorem okB_e {ls st : List Value} {G : List GE} (h : okB ls st G = true) : G.all (bG G.length) = true ∧ ls.all (bV G.length) = true ∧ st.all (bV G.length) = true := by
  unfold okB at h
  simp only [Bool.and_eq_true] at h
  exact ⟨h.1.1, h.1.2, h.2⟩
abbrev gg (pc : Nat) (ls st : List Value) (G : List GE) (c s : Nat) : Option GAct := some (.inl (pc, ls, st, G, c, s))
def gop (g pc : Nat) (ls st : List Value) (G : List GE) (c s : Nat) (ins : Instr) (len : Nat) : Option GAct := match ins with
  | .iconst n => if len = 1 then gg (pc + 1) ls (.int (Int32.ofInt n) :: st) G c s else none
  | .bipush n => if len = 2 then gg (pc + 2) ls (.int (Int8.ofInt n).toInt32 :: st) G c s else none
  | .sipush n => if len = 3 then gg (pc + 3) ls (.int (Int16.ofInt n).toInt32 :: st) G c s else none
  | .iload_n i => if len = 1 then (ldI ls i).bind fun x => gg (pc + 1) ls (.int x :: st) G c s else none
  | .aload_n i => if len = 1 then (ldA ls i).bind fun x => gg (pc + 1) ls (.ref x :: st) G c s else none
  | .istore_n i => if len = 1 ∧ (i : Nat) < gL g then (p1 st).bind fun q => gg (pc + 1) (ls.set i (.int q.1)) q.2 G c s else none
  | .astore_n i => if len = 1 ∧ (i : Nat) < gL g then (pa st).bind fun q => gg (pc + 1) (ls.set i (.ref q.1)) q.2 G c s else none
  | .iinc i n => if len = 3 ∧ i < gL g then (ldI ls i).bind fun x => gg (pc + 3) (ls.set i (.int (x + Int32.ofInt n))) st G c s else none
  | .iadd => if len = 1 then (p2 st).bind fun q => gg (pc + 1) ls (.int (q.2.1 + q.1) :: q.2.2) G c s else none
  | .imul => if len = 1 then (p2 st).bind fun q => gg (pc + 1) ls (.int (q.2.1 * q.1) :: q.2.2) G c s else none
  | .dup => if len = 1 then (pv1 st).bind fun q => gg (pc + 1) ls (q.1 :: q.1 :: q.2) G c s else none
  | .goto off => if len = 3 then (jmp pc off).bind fun t => gg t ls st G c s else none
  | .if_icmp o off => (match o with
      | .ge => if len = 3 then (p2 st).bind fun q => (jmp pc off).bind fun t => if q.1 ≤ q.2.1 then gg t ls q.2.2 G c s else gg (pc + 3) ls q.2.2 G c s else none
      | _ => none)
  | .getfield i => if len = 3 then (pa st).bind fun q => (fr (gO g) i).bind fun f => (gobj G q.1).bind fun x => if x.1 = f.1 then (x.2[f.2]?).bind fun v => gg (pc + 3) ls (v :: q.2) G c s else none else none
  | .putfield i => if len = 3 then (match pia st with
      | some q => (fr (gO g) i).bind fun f => (gobj G q.2.1).bind fun x => if x.1 = f.1 ∧ (ft f.1 f.2 = 0 ∨ (ft f.1 f.2 = 1 ∧ (q.1 = 0 ∨ q.1 = 1))) ∧ f.2 < x.2.length then gg (pc + 3) ls q.2.2 (G.set q.2.1 (.inl (f.1, x.2.set f.2 (.int q.1)))) c s else none
      | none => (prr st).bind fun q => (fr (gO g) i).bind fun f => (gobj G q.2.1).bind fun x => if (g < 9 ∧ f.1 = g) ∧ x.1 = g ∧ ft g f.2 = 2 ∧ f.2 < x.2.length then gg (pc + 3) ls q.2.2 (G.set q.2.1 (.inl (g, x.2.set f.2 (.ref q.1)))) c s else none) else none
  | .iaload => if len = 1 then (pia st).bind fun q => (gint G q.2.1).bind fun xs => if q.1.toNatClampNeg < xs.length ∧ 0 ≤ q.1 then gg (pc + 1) ls (.int (xs.getD q.1.toNatClampNeg 0) :: q.2.2) G c s else none else none
  | .iastore => if len = 1 then (piia st).bind fun q => (gint G q.2.2.1).bind fun xs => if q.2.1.toNatClampNeg < xs.length ∧ 0 ≤ q.2.1 then gg (pc + 1) ls q.2.2.2 (G.set q.2.2.1 (.inr (.inl (9, xs.set q.2.1.toNatClampNeg q.1)))) c s else none else none
  | .arraylength => if len = 1 then (pa st).bind fun q => (gint G q.1).bind fun xs => gg (pc + 1) ls (.int (Int32.ofNat xs.length) :: q.2) G c s else none
  | .aaload => if len = 1 then (pia st).bind fun q => (gref G q.2.1).bind fun x => (RK.find? (fun e => e.1 == x.1)).bind fun e => if q.1.toNatClampNeg < x.2.length ∧ 0 ≤ q.1 then (x.2.getD q.1.toNatClampNeg none).bind fun r => gg (pc + 1) ls (.ref r :: q.2.2) G c s else none else none
  | .aastore => if len = 1 then (paia st).bind fun q => (gref G q.2.2.1).bind fun x => (gobj G q.1).bind fun y => if (x.1, y.1) ∈ RK ∧ q.2.1.toNatClampNeg < x.2.length ∧ 0 ≤ q.2.1 then gg (pc + 1) ls q.2.2.2 (G.set q.2.2.1 (.inr (.inr (x.1, x.2.set q.2.1.toNatClampNeg (some q.1))))) c s else none else none
  | .newarray ty => (match ty with
      | .int => if len = 2 then (p1 st).bind fun q => if (¬ q.1 < 0 ∧ q.1.toNatClampNeg * 4 ≤ 536870912 ∧ c + 1 ≤ gMc g ∧ s + q.1.toNatClampNeg ≤ gMs g) ∧ okB ls q.2 G = true then gg (pc + 2) ls (.ref G.length :: q.2) (G ++ [.inr (.inl (9, List.replicate q.1.toNatClampNeg 0))]) (c + 1) (s + q.1.toNatClampNeg) else none else none
      | .boolean => if len = 2 then (p1 st).bind fun q => if (¬ q.1 < 0 ∧ q.1.toNatClampNeg * 1 ≤ 536870912 ∧ c + 1 ≤ gMc g ∧ s + q.1.toNatClampNeg ≤ gMs g) ∧ okB ls q.2 G = true then gg (pc + 2) ls (.ref G.length :: q.2) (G ++ [.inr (.inl (10, List.replicate q.1.toNatClampNeg 0))]) (c + 1) (s + q.1.toNatClampNeg) else none else none
      | _ => none)
  | .anewarray i => if len = 3 then (p1 st).bind fun q => (lk3 CNk (gO g) i).bind fun ci => (RK.find? (fun e => e.2 == ci)).bind fun e => if (¬ q.1 < 0 ∧ q.1.toNatClampNeg * 4 ≤ 536870912 ∧ c + 1 ≤ gMc g ∧ s + q.1.toNatClampNeg ≤ gMs g) ∧ okB ls q.2 G = true then gg (pc + 3) ls (.ref G.length :: q.2) (G ++ [.inr (.inr (e.1, List.replicate q.1.toNatClampNeg none))]) (c + 1) (s + q.1.toNatClampNeg) else none else none
  | .new i => if len = 3 then (lk3 CNk (gO g) i).bind fun ci => if (c + 1 ≤ gMc g ∧ s + NF ci ≤ gMs g) ∧ okB ls st G = true then gg (pc + 3) ls (.ref G.length :: st) (G ++ [.inl (ci, dF ci)]) (c + 1) (s + NF ci) else none else none
  | .getstatic i => if (g = 7 ∧ pc = 65) ∧ (c + 1 ≤ gMc 7 ∧ s + 10 ≤ gMs 7) ∧ st.length ≤ 4 ∧ okB ls st G = true then gg 74 ls (.ref G.length :: st) (G ++ [.inr (.inl (9, fLs))]) (c + 1) (s + 10) else none
  | .invokespecial i => if len = 3 then (match lk3 OIk (gO g) i with
      | some _ => (pa st).bind fun q => if (1 ≤ gF g ∧ 20 ≤ gLo g) ∧ q.2.length ≤ 4 then gg (pc + 3) ls q.2 G c s else none
      | none => (match lk3 NLk (gO g) i with
        | some g' => (pn (gP g') st).bind fun q => (pa q.2).bind fun r => if (gP g' + 1 ≤ gL g' ∧ r.2.length ≤ 4) ∧ (gF g' + 1 ≤ gF g ∧ 8 + (gL g' + 11) + gLo g' ≤ gLo g) ∧ (c + gMc g' ≤ gMc g ∧ s + gMs g' ≤ gMs g) then some (.inr (.inr (g', .ref r.1 :: q.1, r.2))) else none
        | none => (lk3 MIk (gO g) i).bind fun g' => (pn (gP g') st).bind fun q => (pa q.2).bind fun r => if (gP g' + 1 ≤ gL g' ∧ r.2.length ≤ 4) ∧ (gF g' + 1 ≤ gF g ∧ 8 + (gL g' + 11) + gLo g' ≤ gLo g) ∧ (c + gMc g' ≤ gMc g ∧ s + gMs g' ≤ gMs g) then some (.inr (.inr (g', .ref r.1 :: q.1, r.2))) else none)) else none
  | .invokestatic i => if (len = 3 ∧ i = 37 ∧ g = 4) ∧ (c ≤ gMc g ∧ s ≤ gMs g) then (pia st).bind fun q => if q.2.2.length ≤ 4 then some (.inr (.inr (10, [.ref q.2.1, .int q.1], q.2.2))) else none else none
  | .invokevirtual i => if (len = 3 ∧ i = 141 ∧ g = 8) ∧ (c ≤ gMc g ∧ s ≤ gMs g) then (pia st).bind fun q => (gobj G q.2.1).bind fun x => if x.1 = 8 ∧ q.2.2.length ≤ 4 then some (.inr (.inr (9, [.ref q.2.1, .int q.1], q.2.2))) else none else none
  | .return_ => if len = 1 ∧ c ≤ gMc g ∧ s ≤ gMs g then (match st with
      | [] => some (.inr (.inl ()))
      | _ => none) else none
  | _ => none
def GKont (l : Launch) (D : va_G) (cA : Nat → ClassId) (S0 t g pc : Nat) (ls : List Value) (G : List GE) (c s : Nat) (G' : List GE) : GAct → Prop
  | .inl (pc', ls', st', G1, c', s') => VG l D cA S0 t g pc' ls' st' G1 c' s' G'
  | .inr (.inl _) => G' = G
  | .inr (.inr (g', as, st')) => ∃ G1 : List GE, (G.length ≤ G1.length ∧ ls.all (bV G.length) = true ∧ st'.all (bV G.length) = true) ∧ VG l D cA S0 t g' 0 (as ++ List.replicate (gL g' - as.length) .null) [] G 0 0 G1 ∧ VG l D cA S0 t g (pc + 3) ls st' G1 (c + gMc g') (s + gMs g') G'
def gexec : Nat → Nat → Nat → List Value → List Value → List GE → Nat → Nat → Option (List GE)
  | 0 => fun _ _ _ _ _ _ _ => none
  | n + 1 => fun g pc ls st G c s => match look (gIs g) pc with
    | none => none
    | some (ins, len) => (match gop g pc ls st G c s ins len with
      | none => none
      | some (.inl (pc', ls', st', G1, c', s')) => gexec n g pc' ls' st' G1 c' s'
      | some (.inr (.inl _)) => some G
      | some (.inr (.inr (g', as, st'))) => (gexec n g' 0 (as ++ List.replicate (gL g' - as.length) .null) [] G 0 0).bind fun G1 => if G.length ≤ G1.length ∧ ls.all (bV G.length) = true ∧ st'.all (bV G.length) = true then gexec n g (pc + 3) ls st' G1 (c + gMc g') (s + gMs g') else none)

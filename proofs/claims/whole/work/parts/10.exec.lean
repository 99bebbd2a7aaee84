theorem exec_V {l : Launch} {D : va_G} {cA : Nat → ClassId} {ad adV : Nat → Nat} (hStr : StrOK l) : ∀ (n y pc : Nat) (ls st : List Value) (h : Hp) (r : Option Value) (h' : Hp), y < nM → exec n y pc ls st h = some (r, h') → V l D cA ad adV y pc ls st h (fun a b => a = r ∧ b = h') := by
  intro n
  induction n with
  | zero => intro y pc ls st h r h' hy he; cases he
  | succ n ih =>
    intro y pc ls st h r h' hy he
    have he : stepF (exec n) y pc ls st h = some (r, h') := he
    unfold stepF at he
    cases hdec : decode (cd y) pc with
    | error x => rw [hdec] at he; cases he
    | ok q =>
      obtain ⟨ins, len⟩ := q
      rw [hdec] at he
      cases hop : op y pc ls st h ins len with
      | none => simp only [hop] at he; cases he
      | some a =>
        simp only [hop] at he
        rcases a with ⟨pc', ls', st', h1⟩ | r1 | ⟨y', as, st'⟩
        · exact op_sound hStr hy hdec hop (ih y pc' ls' st' h1 r h' hy he)
        · cases he
          exact op_sound hStr hy hdec hop ⟨rfl, rfl⟩
        · obtain ⟨q, e1, e2⟩ := Option.bind_eq_some_iff.mp he
          refine op_sound hStr hy hdec hop (fun hy' => ⟨_, ih y' 0 _ [] h q.1 q.2 hy' e1, fun r2 h2 hq => ?_⟩)
          rw [hq.1, hq.2]
          exact ih y (pc + 3) ls _ q.2 r h' hy e2
theorem stepF_mono {E E' : Nat → Nat → List Value → List Value → Hp → Res} (hE : ∀ y pc ls st h q, E y pc ls st h = some q → E' y pc ls st h = some q) (y pc : Nat) (ls st : List Value) (h : Hp) (q : Option Value × Hp) (hs : stepF E y pc ls st h = some q) : stepF E' y pc ls st h = some q := by
  unfold stepF at hs ⊢
  cases hdec : decode (cd y) pc with
  | error x => rw [hdec] at hs; cases hs
  | ok z =>
    obtain ⟨ins, len⟩ := z
    rw [hdec] at hs
    cases hop : op y pc ls st h ins len with
    | none => simp only [hop] at hs; cases hs
    | some a =>
      simp only [hop] at hs ⊢
      rcases a with ⟨pc', ls', st', h1⟩ | r1 | ⟨y', as, st'⟩
      · exact hE _ _ _ _ _ _ hs
      · exact hs
      · obtain ⟨u, e1, e2⟩ := Option.bind_eq_some_iff.mp hs
        exact Option.bind_eq_some_iff.mpr ⟨u, hE _ _ _ _ _ _ e1, hE _ _ _ _ _ _ e2⟩
theorem exec_succ : ∀ (n y pc : Nat) (ls st : List Value) (h : Hp) (q : Option Value × Hp), exec n y pc ls st h = some q → exec (n + 1) y pc ls st h = some q := by
  intro n
  induction n with
  | zero => intro y pc ls st h q he; cases he
  | succ n ih => intro y pc ls st h q he; exact stepF_mono ih y pc ls st h q he
theorem exec_mono {n m y pc : Nat} {ls st : List Value} {h : Hp} {q : Option Value × Hp} (hn : n ≤ m) (he : exec n y pc ls st h = some q) : exec m y pc ls st h = some q := by
  induction hn with
  | refl => exact he
  | step _ ih => exact exec_succ _ _ _ _ _ _ _ ih
noncomputable def ex (y pc : Nat) (ls st : List Value) (h : Hp) : Res := @dite Res (∃ q n, exec n y pc ls st h = some q) (Classical.propDecidable _) (fun hx => some (Classical.choose hx)) (fun _ => none)
theorem ex_iff {y pc : Nat} {ls st : List Value} {h : Hp} {q : Option Value × Hp} : ex y pc ls st h = some q ↔ ∃ n, exec n y pc ls st h = some q := by
  unfold ex
  constructor
  · intro he
    split at he
    · rename_i hx
      cases he
      exact Classical.choose_spec hx
    · cases he
  · rintro ⟨n, hn⟩
    have hx : ∃ q n, exec n y pc ls st h = some q := ⟨q, n, hn⟩
    rw [dif_pos hx]
    obtain ⟨m, hm⟩ := Classical.choose_spec hx
    have h1 := exec_mono (Nat.le_max_left n m) hn
    have h2 := exec_mono (Nat.le_max_right n m) hm
    rw [h1] at h2
    exact h2.symm
theorem ex_eq (y pc : Nat) (ls st : List Value) (h : Hp) : ex y pc ls st h = stepF ex y pc ls st h := by
  apply Option.ext
  intro q
  constructor
  · intro he
    obtain ⟨n, hn⟩ := ex_iff.mp he
    cases n with
    | zero => cases hn
    | succ n => exact stepF_mono (fun y pc ls st h q hq => ex_iff.mpr ⟨n, hq⟩) y pc ls st h q hn
  · intro hs
    unfold stepF at hs
    cases hdec : decode (cd y) pc with
    | error x => rw [hdec] at hs; cases hs
    | ok z =>
      obtain ⟨ins, len⟩ := z
      rw [hdec] at hs
      cases hop : op y pc ls st h ins len with
      | none => simp only [hop] at hs; cases hs
      | some a =>
        simp only [hop] at hs
        rcases a with ⟨pc', ls', st', h1⟩ | r1 | ⟨y', as, st'⟩
        · obtain ⟨n, hn⟩ := ex_iff.mp hs
          refine ex_iff.mpr ⟨n + 1, ?_⟩
          show stepF (exec n) y pc ls st h = some q
          unfold stepF
          rw [hdec]
          simp only [hop]
          exact hn
        · refine ex_iff.mpr ⟨1, ?_⟩
          show stepF (exec 0) y pc ls st h = some q
          unfold stepF
          rw [hdec]
          simp only [hop]
          exact hs
        · obtain ⟨u, e1, e2⟩ := Option.bind_eq_some_iff.mp hs
          obtain ⟨n1, hn1⟩ := ex_iff.mp e1
          obtain ⟨n2, hn2⟩ := ex_iff.mp e2
          refine ex_iff.mpr ⟨max n1 n2 + 1, ?_⟩
          show stepF (exec (max n1 n2)) y pc ls st h = some q
          unfold stepF
          rw [hdec]
          simp only [hop]
          exact Option.bind_eq_some_iff.mpr ⟨u, exec_mono (Nat.le_max_left _ _) hn1, exec_mono (Nat.le_max_right _ _) hn2⟩
theorem ex_op {y pc : Nat} {cc : ByteArray} {ins : Instr} {len : Nat} (hc : cd y = cc) (hd : decode cc pc = .ok (ins, len)) (ls st : List Value) (h : Hp) : ex y pc ls st h = (match op y pc ls st h ins len with
      | none => none
      | some (.inl (pc', ls', st', h')) => ex y pc' ls' st' h'
      | some (.inr (.inl r)) => some (r, h)
      | some (.inr (.inr (y', as, st'))) => (ex y' 0 (as ++ List.replicate (mL y' - as.length) .null) [] h).bind fun q => ex y (pc + 3) ls (q.1.toList ++ st') q.2) := by
  rw [ex_eq]
  unfold stepF
  rw [hc, hd]
  rfl

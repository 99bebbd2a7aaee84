/-! ===== truth values stay truth values ===== -/
def Bo (h : Hp) : Prop := ∀ k j, kd k < 9 → ft (kd k) j = 1 → h k j = 0 ∨ h k j = 1
section BO
variable {h : Hp}
theorem Bo_hw {k : Nat} {f : Nat → Int32} (B : Bo h) (hk : 9 ≤ kd k) : Bo (hw h k f) := by
  intro a b h1 h2
  have : a ≠ k := fun e => by rw [e] at h1; omega
  unfold hw
  rw [if_neg this]
  exact B a b h1 h2
theorem Bo_hu {k j : Nat} {v : Int32} (B : Bo h) (hk : 9 ≤ kd k) : Bo (hu h k j v) := Bo_hw B hk
theorem Bo_put {k j : Nat} {v : Int32} (B : Bo h) (hv : ft (kd k) j = 0 ∨ (ft (kd k) j = 1 ∧ (v = 0 ∨ v = 1))) : Bo (hu h k j v) := by
  intro a b h1 h2
  rw [hu_if]
  by_cases z : a = k ∧ b = j
  · rw [if_pos z]
    rw [z.1, z.2] at h2
    rcases hv with w | w
    · rw [w] at h2; exact absurd h2 (by decide)
    · exact w.2
  · rw [if_neg z]; exact B a b h1 h2
theorem if_s {α : Type} {c : Prop} [Decidable c] {a : Option α} {q : α} (h : (if c then a else none) = some q) : c ∧ a = some q := by
  by_cases hc : c
  · rw [if_pos hc] at h; exact ⟨hc, h⟩
  · rw [if_neg hc] at h; cases h
theorem bd_s {α β : Type} {a : Option α} {f : α → Option β} {q : β} (h : a.bind f = some q) : ∃ v, a = some v ∧ f v = some q := Option.bind_eq_some_iff.mp h
set_option maxHeartbeats 8000000 in
set_option maxRecDepth 100000 in
theorem op_B {y pc len pc' : Nat} {ls st ls' st' : List Value} {ins : Instr} {h' : Hp} (B : Bo h) (e : op y pc ls st h ins len = some (.inl (pc', ls', st', h'))) : Bo h' := by
  unfold op at e
  split at e
  all_goals first
    | (cases e; done)
    | (obtain ⟨-, e⟩ := if_s e; cases e; exact B)
    | (obtain ⟨-, e⟩ := if_s e; obtain ⟨q, -, e⟩ := bd_s e; cases e; exact B)
    | (obtain ⟨-, e⟩ := if_s e; obtain ⟨q, -, e⟩ := bd_s e; (repeat' split at e) <;> cases e <;> exact B)
    | (obtain ⟨-, e⟩ := if_s e; obtain ⟨q, -, e⟩ := bd_s e; obtain ⟨t, -, e⟩ := bd_s e; (repeat' split at e) <;> cases e <;> exact B)
    | skip
  · obtain ⟨-, e⟩ := if_s e
    split at e
    · cases e; exact B
    · obtain ⟨q, -, e⟩ := bd_s e; cases e; exact B
  · obtain ⟨q, -, e⟩ := bd_s e
    split at e
    · obtain ⟨t, -, e⟩ := bd_s e; cases e; exact B
    · obtain ⟨o, -, e⟩ := bd_s e; obtain ⟨t, -, e⟩ := bd_s e; cases e; exact B
  · obtain ⟨q, -, e⟩ := bd_s e
    obtain ⟨-, e⟩ := if_s e
    obtain ⟨t, -, e⟩ := bd_s e
    cases e; exact B
  · obtain ⟨-, e⟩ := if_s e
    obtain ⟨q, -, e⟩ := bd_s e
    obtain ⟨f, -, e⟩ := bd_s e
    obtain ⟨c, e⟩ := if_s e
    cases e
    exact Bo_put B (by rw [c.1]; exact c.2)
  · obtain ⟨-, e⟩ := if_s e
    obtain ⟨q, -, e⟩ := bd_s e
    obtain ⟨-, e⟩ := if_s e
    obtain ⟨f, -, e⟩ := bd_s e
    cases e; exact B
  · obtain ⟨-, e⟩ := if_s e
    obtain ⟨q, -, e⟩ := bd_s e
    obtain ⟨c, e⟩ := if_s e
    cases e
    exact Bo_hu B (by omega)
  · obtain ⟨-, e⟩ := if_s e
    obtain ⟨q, -, e⟩ := bd_s e
    obtain ⟨c, e⟩ := if_s e
    cases e
    exact Bo_hu B (by omega)
  · obtain ⟨-, e⟩ := if_s e
    split at e
    · obtain ⟨q, -, e⟩ := bd_s e
      obtain ⟨r, -, e⟩ := bd_s e
      obtain ⟨-, e⟩ := if_s e
      cases e
    · obtain ⟨z, -, e⟩ := bd_s e
      split at e
      · obtain ⟨q, -, e⟩ := bd_s e
        obtain ⟨-, e⟩ := if_s e
        cases e; exact B
      · obtain ⟨-, e⟩ := if_s e
        obtain ⟨q, -, e⟩ := bd_s e
        obtain ⟨-, e⟩ := if_s e
        cases e; exact B
  · obtain ⟨-, e⟩ := if_s e
    split at e
    · obtain ⟨q, -, e⟩ := bd_s e
      obtain ⟨-, e⟩ := if_s e
      cases e
    · obtain ⟨z, -, e⟩ := bd_s e
      obtain ⟨-, e⟩ := if_s e
      obtain ⟨q, -, e⟩ := bd_s e
      obtain ⟨c, e⟩ := if_s e
      cases e
      exact Bo_hw B (by omega)
  · obtain ⟨-, e⟩ := if_s e
    split at e
    · obtain ⟨-, e⟩ := if_s e
      cases e
    · cases e
  · obtain ⟨-, e⟩ := if_s e
    split at e
    · obtain ⟨-, e⟩ := if_s e
      cases e
    · cases e
  · obtain ⟨-, e⟩ := if_s e
    split at e
    · obtain ⟨-, e⟩ := if_s e
      cases e
    · cases e
theorem exec_B : ∀ (n y pc : Nat) (ls st : List Value) (h : Hp) (r : Option Value) (h' : Hp), Bo h → exec n y pc ls st h = some (r, h') → Bo h' := by
  intro n
  induction n with
  | zero => intro y pc ls st h r h' _ he; cases he
  | succ n ih =>
    intro y pc ls st h r h' B he
    have he : stepF (exec n) y pc ls st h = some (r, h') := he
    unfold stepF at he
    cases hdec : decode (cd y) pc with
    | error x => rw [hdec] at he; cases he
    | ok q =>
      obtain ⟨ins, len⟩ := q
      rw [hdec] at he
      cases hop : op y pc ls st h ins len with
      | none => simp only [hop] at he; cases he
      | some a =>
        simp only [hop] at he
        rcases a with ⟨pc', ls', st', h1⟩ | r1 | ⟨y', as, st'⟩
        · exact ih y pc' ls' st' h1 r h' (op_B B hop) he
        · cases he; exact B
        · obtain ⟨u, u1, u2⟩ := Option.bind_eq_some_iff.mp he
          exact ih y (pc + 3) ls _ u.2 r h' (ih y' 0 _ [] h u.1 u.2 B u1) u2
theorem ex_B {y pc : Nat} {ls st : List Value} {r : Option Value} {h' : Hp} (B : Bo h) (he : ex y pc ls st h = some (r, h')) : Bo h' := by
  obtain ⟨n, hn⟩ := ex_iff.mp he
  exact exec_B n y pc ls st h r h' B hn
end BO
/-- the simulation, where truth values may be counted on -/
def SimB (yx ym : Nat) (ax am : List Value) : Prop := ∀ i h, i < 512 → Inv i h → Bo h → ∃ r h1 h2, ex yx 0 ax [] h = some (some (.int r), h1) ∧ ex ym 0 am [] h1 = some (some (.int r), h2) ∧ Inv (i + 1) h2 ∧ Bo h2
theorem SimB_of {yx ym : Nat} {ax am : List Value} (S : Sim yx ym ax am) : SimB yx ym ax am := by
  intro i h hi I B
  obtain ⟨r, h1, h2, e1, e2, I2⟩ := S i h hi I
  exact ⟨r, h1, h2, e1, e2, I2, ex_B (ex_B B e1) e2⟩
def Sim2B (yx ym : Nat) (ax am : List Value) : Prop := ∀ i x m, i < 512 → Inv i (mix x m) → Bo x → ∃ r x' m', ex yx 0 ax [] x = some (some (.int r), x') ∧ ex ym 0 am [] m = some (some (.int r), m') ∧ Inv (i + 1) (mix x' m')
theorem SimB_of2 {yx ym : Nat} {ax am : List Value} (h1 : ax.all (okv PX) = true) (h2 : am.all (okv PM) = true) (S : Sim2B yx ym ax am) : SimB yx ym ax am := by
  intro i h hi I B
  obtain ⟨r, x', m', e1, e2, I2⟩ := S i h h hi (by rw [mix_self]; exact I) B
  have e3 := pair_run h1 h2 e1 e2
  exact ⟨r, x', mix x' m', e1, e3, I2, ex_B (ex_B B e1) e3⟩
